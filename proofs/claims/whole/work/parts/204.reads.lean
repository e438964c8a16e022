def mS2 (S : xS) (d : Nat) (t : pzT) : xS := xst (xst S 40 d t.2.2) 39 d (S.1 35 t.1.toNatClampNeg * t.2.1 / 12)
def mO (k9 : xS → Int32 → Int32 → Option (Int32 × xS)) (S : xS) (d : Nat) (f : Nat → Int32) (T : Nat) (z : Nat ⊕ (Nat × pzT)) : Option (Int32 × xS) := match z with
  | .inl p => some (nI p, S)
  | .inr (a6, t) => if a6 = T then some (-1, xst (mS2 S d t) 34 5 (nI (d + 1))) else if ptx f T a6 = 59 then k9 (mS2 S d t) (nI (d + 1)) (nI (a6 + 1)) else some (nI a6, mS2 S d t)
theorem pzU_in (b : Int32) : xin (pzU b) 3 = true := by
  unfold pzU
  split
  · rfl
  · split <;> rfl
section MR
variable {S : xS} {n T a d : Nat} {k9 : xS → Int32 → Int32 → Option (Int32 × xS)}
theorem m_r162 (m u p : Int32) (hT : S.1 34 3 = nI T) (h80 : T ≤ 80) (ha : a ≤ T) (hd : d < 10) (hu : xin u 3 = true) : j_X9_reads_162 n k9 S (nI d) (nI a) m u p = mO k9 S d (S.1 38) T (pzE (S.1 38) T a u (12 * m + p)) := by
  unfold j_X9_reads_162 pzE
  rw [m_byte hT h80 (by omega), ob]
  by_cases h : ptx (S.1 38) T a = 61
  · rw [if_pos h, if_pos h, ad1, m_byte hT h80 (by omega), ob]
    by_cases h2 : f_X9_in (ptx (S.1 38) T (a + 1)) 48 56 = 0
    · rw [if_pos h2, if_pos h2]; rfl
    · rw [if_neg h2, if_neg h2, ob, xgn (by omega) (by omega), xgT hu, xgn (by omega) (by omega), cln (by omega), ad1]
      have hlt : a + 1 < T := by
        refine ptx_lt (f := S.1 38) fun z => h2 ?_
        rw [z]; rfl
      generalize hw : ptx (S.1 38) T (a + 1) - 48 = w
      have e : xst (xst S 40 d w) 39 d ((xst S 40 d w).1 35 u.toNatClampNeg * (12 * m + p) / 12) = mS2 S d (u, 12 * m + p, w) := by
        unfold mS2
        rw [xst_q (by decide)]
      rw [e]
      have hT2 : (mS2 S d (u, 12 * m + p, w)).1 34 3 = nI T := by unfold mS2; rw [xst_q (by decide), xst_q (by decide)]; exact hT
      have h38 : (mS2 S d (u, 12 * m + p, w)).1 38 = S.1 38 := by unfold mS2; rw [xst_ne (by decide), xst_ne (by decide)]
      rw [hT2, ifeq (by omega) (by omega)]
      show _ = (if a + 2 = T then _ else _)
      by_cases h3 : a + 2 = T
      · rw [if_pos h3, if_pos h3]; rw [ad1]
      · rw [if_neg h3, if_neg h3, m_byte hT2 h80 (by omega), ob, h38]
        by_cases h4 : ptx (S.1 38) T (a + 2) = 59
        · rw [if_pos h4, if_pos h4, ad1, ad1]
        · rw [if_neg h4, if_neg h4]
  · rw [if_neg h, if_neg h]; rfl
theorem m_r110 (m u : Int32) (hT : S.1 34 3 = nI T) (h80 : T ≤ 80) (ha : a < T) (hd : d < 10) (hu : xin u 3 = true) (hn : 4 ≤ n) : j_X9_reads_110 n k9 S (nI d) (nI a) m u = mO k9 S d (S.1 38) T (pzP (S.1 38) T (a + 1) u m) := by
  unfold j_X9_reads_110 pzP
  rw [ad1, m_byte hT h80 (by omega), ob]
  by_cases h : ptx (S.1 38) T (a + 1) = 43
  · have hlt : a + 1 < T := ptx_lt (f := S.1 38) (by rw [h]; decide)
    rw [if_pos h, if_pos h, ad1, m_num hT h80 (by omega) hn, ob]
    have hle := pfs_le (f := S.1 38) (T := T) (a := a + 1 + 1) (by omega)
    by_cases h0 : pfs (S.1 38) T (a + 1 + 1) = 0
    · rw [if_pos h0]
      have hz : pnum (S.1 38) T (a + 1 + 1) = 0 := by
        unfold pfs at h0
        unfold pnum
        split at h0
        · rename_i q; rw [if_pos q]
        · split at h0 <;> simp at h0
      rw [if_pos (by rfl), if_pos (by rw [hz]; rfl)]; rfl
    · rw [if_neg h0]
      by_cases h2 : f_X9_in (pnum (S.1 38) T (a + 1 + 1)) 1 11 = 0
      · rw [if_pos h2, if_pos h2]; rfl
      · rw [if_neg h2, if_neg h2, ob, m_figs hT h80 (by omega) hn, ob, adn, m_r162 _ _ _ hT h80 hle hd hu]
  · rw [if_neg h, if_neg h, m_r162 _ _ _ hT h80 (by omega) hd hu]
theorem m_one (hT : S.1 34 3 = nI T) (h80 : T ≤ 80) (ha : a ≤ T) (hd : d < 10) (hn : 4 ≤ n) : j_X9_reads_21 n k9 S (nI d) (nI a) = mO k9 S d (S.1 38) T (pz1 (S.1 38) T a) := by
  unfold j_X9_reads_21 pz1
  rw [n10, ifeq (by omega) (by omega), if_neg (by omega), m_num hT h80 (by omega) hn, ob]
  have hle := pfs_le (f := S.1 38) ha
  by_cases h0 : pfs (S.1 38) T a = 0
  · rw [if_pos h0]
    have hz : pnum (S.1 38) T a = 0 := by
      unfold pfs at h0
      unfold pnum
      split at h0
      · rename_i q; rw [if_pos q]
      · split at h0 <;> simp at h0
    rw [if_pos (by rfl), if_pos (by rw [hz]; rfl)]; rfl
  · rw [if_neg h0]
    by_cases h2 : f_X9_in (pnum (S.1 38) T a) 1 99 = 0
    · rw [if_pos h2, if_pos h2]; rfl
    · rw [if_neg h2, if_neg h2, ob, m_figs hT h80 (by omega) hn, ob, adn, m_byte hT h80 (by omega), ob]
      generalize pnum (S.1 38) T a = m
      generalize a + pfs (S.1 38) T a = a1 at hle
      have key : ∀ (_ : a1 < T), j_X9_reads_87 n k9 S (nI d) (nI a1) m (ptx (S.1 38) T a1) = mO k9 S d (S.1 38) T (pzP (S.1 38) T (a1 + 1) (pzU (ptx (S.1 38) T a1)) m) := by
        intro hlt
        unfold j_X9_reads_87
        rw [m_r110 m 0 hT h80 hlt hd rfl hn, m_r110 m 1 hT h80 hlt hd rfl hn, m_r110 m 2 hT h80 hlt hd rfl hn]
        unfold pzU
        by_cases c1 : ptx (S.1 38) T a1 = 102
        · rw [if_pos c1, if_pos c1]
        · rw [if_neg c1, if_neg c1]
          by_cases c2 : ptx (S.1 38) T a1 = 101
          · rw [if_pos c2, if_pos c2]
          · rw [if_neg c2, if_neg c2]
      by_cases h1 : ptx (S.1 38) T a1 = 102
      · rw [if_pos h1, if_pos (Or.inl h1), key (ptx_lt (f := S.1 38) (by rw [h1]; decide))]
      · rw [if_neg h1]
        by_cases h3 : ptx (S.1 38) T a1 = 101
        · rw [if_pos h3, if_pos (Or.inr (Or.inl h3)), key (ptx_lt (f := S.1 38) (by rw [h3]; decide))]
        · rw [if_neg h3]
          by_cases h4 : ptx (S.1 38) T a1 = 115
          · rw [if_pos h4, if_pos (Or.inr (Or.inr h4)), key (ptx_lt (f := S.1 38) (by rw [h4]; decide))]
          · rw [if_neg h4, if_neg (by rintro (h | h | h) <;> contradiction)]; rfl
end MR
/-- the rows of the reference, written from d on -/
def wrM (S : xS) (d : Nat) (l : List pzT) : xS := (fun q k => if q = 40 ∧ d ≤ k ∧ k < d + l.length then (l.getD (k - d) (0, 0, 0)).2.2 else if q = 39 ∧ d ≤ k ∧ k < d + l.length then S.1 35 (l.getD (k - d) (0, 0, 0)).1.toNatClampNeg * (l.getD (k - d) (0, 0, 0)).2.1 / 12 else S.1 q k, S.2)
theorem wrM_nil (S : xS) (d : Nat) : wrM S d [] = S := by
  refine Prod.ext ?_ rfl
  funext q k
  show (if q = 40 ∧ d ≤ k ∧ k < d + 0 then _ else if q = 39 ∧ d ≤ k ∧ k < d + 0 then _ else S.1 q k) = S.1 q k
  rw [if_neg (by omega), if_neg (by omega)]
theorem wrM_cons (S : xS) (d : Nat) (t : pzT) (l : List pzT) : wrM (mS2 S d t) (d + 1) l = wrM S d (t :: l) := by
  refine Prod.ext ?_ rfl
  funext q k
  show (if q = 40 ∧ d + 1 ≤ k ∧ k < d + 1 + l.length then (l.getD (k - (d + 1)) (0, 0, 0)).2.2 else if q = 39 ∧ d + 1 ≤ k ∧ k < d + 1 + l.length then (mS2 S d t).1 35 (l.getD (k - (d + 1)) (0, 0, 0)).1.toNatClampNeg * (l.getD (k - (d + 1)) (0, 0, 0)).2.1 / 12 else (mS2 S d t).1 q k) = (if q = 40 ∧ d ≤ k ∧ k < d + (l.length + 1) then ((t :: l).getD (k - d) (0, 0, 0)).2.2 else if q = 39 ∧ d ≤ k ∧ k < d + (l.length + 1) then S.1 35 ((t :: l).getD (k - d) (0, 0, 0)).1.toNatClampNeg * ((t :: l).getD (k - d) (0, 0, 0)).2.1 / 12 else S.1 q k)
  have e35 : ∀ x, (mS2 S d t).1 35 x = S.1 35 x := fun x => by unfold mS2; rw [xst_q (by decide), xst_q (by decide)]
  by_cases hk : k = d
  · subst hk
    rw [if_neg (by omega), if_neg (by omega)]
    by_cases h40 : q = 40
    · subst h40
      rw [if_pos (by omega), Nat.sub_self]
      unfold mS2
      rw [xst_q (by decide), xst_eq]; rfl
    · rw [if_neg (by omega)]
      by_cases h39 : q = 39
      · subst h39
        rw [if_pos (by omega), Nat.sub_self]
        unfold mS2
        rw [xst_eq]; rfl
      · rw [if_neg (by omega)]
        unfold mS2
        rw [xst_q h39, xst_q h40]
  · have e0 : (mS2 S d t).1 q k = S.1 q k := by unfold mS2; rw [xst_k hk, xst_k hk]
    rw [e0, e35]
    by_cases hr : d + 1 ≤ k ∧ k < d + 1 + l.length
    · obtain ⟨i, rfl⟩ : ∃ i, k = d + 1 + i := ⟨k - (d + 1), by omega⟩
      rw [show d + 1 + i - (d + 1) = i by omega, show d + 1 + i - d = i + 1 by omega, List.getD_cons_succ]
      by_cases h40 : q = 40
      · rw [if_pos ⟨h40, hr⟩, if_pos (by omega)]
      · by_cases h39 : q = 39
        · rw [if_neg (by omega), if_pos ⟨h39, hr⟩, if_neg (by omega), if_pos (by omega)]
        · rw [if_neg (by omega), if_neg (by omega), if_neg (by omega), if_neg (by omega)]
    · rw [if_neg (by omega), if_neg (by omega), if_neg (by omega), if_neg (by omega)]
def mW (S : xS) (d : Nat) (z : Option Nat × List pzT) : xS := match z.1 with
  | none => xst (wrM S d z.2) 34 5 (nI (d + z.2.length))
  | some _ => wrM S d z.2
theorem mW_cons (S : xS) (d : Nat) (t : pzT) (z : Option Nat × List pzT) : mW (mS2 S d t) (d + 1) z = mW S d (z.1, t :: z.2) := by
  obtain ⟨z1, z2⟩ := z
  cases z1 with
  | none =>
    show xst (wrM (mS2 S d t) (d + 1) z2) 34 5 (nI (d + 1 + z2.length)) = xst (wrM S d (t :: z2)) 34 5 (nI (d + (z2.length + 1)))
    rw [wrM_cons, show d + 1 + z2.length = d + (z2.length + 1) by omega]
  | some p => exact wrM_cons S d t z2
theorem m_readsL {n T : Nat} (h80 : T ≤ 80) (hn : 4 ≤ n) (f : Nat → Int32) : ∀ (k d a : Nat) (S : xS), d + k = 10 → S.1 34 3 = nI T → S.1 38 = f → a ≤ T → (a < T ∨ 0 < a) → ∀ j, k + 1 ≤ j → l_X9_reads_9 n j S (nI d) (nI a) = some (pzFt (pzA f T k a), mW S d (pzA f T k a)) := by
  intro k
  induction k with
  | zero =>
    intro d a S hd hT hf haT h0 j hj
    obtain ⟨i, rfl⟩ : ∃ i, j = i + 1 := ⟨j - 1, by omega⟩
    have e : d = 10 := by omega
    subst e
    show b_X9_reads_9 n (l_X9_reads_9 n i) S (nI 10) (nI a) = some (nI a, wrM S 10 [])
    rw [wrM_nil]
    unfold b_X9_reads_9
    have e21 : ∀ k9, j_X9_reads_21 n k9 S (nI 10) (nI a) = some (nI a, S) := fun k9 => by unfold j_X9_reads_21; rw [if_pos (by decide)]
    rw [e21, hT, iflt (by omega) (by omega), n0, ifle (by omega) (by omega)]
    by_cases q : a < T
    · rw [if_pos q]
    · rw [if_neg q, if_neg (by omega)]
  | succ k ih =>
    intro d a S hd hT hf haT h0 j hj
    obtain ⟨i, rfl⟩ : ∃ i, j = i + 1 := ⟨j - 1, by omega⟩
    show b_X9_reads_9 n (l_X9_reads_9 n i) S (nI d) (nI a) = _
    have e1 : b_X9_reads_9 n (l_X9_reads_9 n i) S (nI d) (nI a) = j_X9_reads_21 n (l_X9_reads_9 n i) S (nI d) (nI a) := by
      unfold b_X9_reads_9
      rw [hT, iflt (by omega) (by omega), n0, ifle (by omega) (by omega)]
      by_cases q : a < T
      · rw [if_pos q]
      · rw [if_neg q, if_neg (by omega)]
    rw [e1, m_one hT h80 haT (by omega) hn, hf]
    cases hz : pz1 f T a with
    | inl p =>
      rw [pzA_bad hz]
      show some (nI p, S) = some (nI p, wrM S d [])
      rw [wrM_nil]
    | inr x =>
      obtain ⟨a6, t⟩ := x
      rw [pzA_ok hz]
      show (if a6 = T then some (-1, xst (mS2 S d t) 34 5 (nI (d + 1))) else if ptx f T a6 = 59 then l_X9_reads_9 n i (mS2 S d t) (nI (d + 1)) (nI (a6 + 1)) else some (nI a6, mS2 S d t)) = _
      have ew : wrM S d [t] = mS2 S d t := by rw [← wrM_cons, wrM_nil]
      by_cases h1 : a6 = T
      · rw [if_pos h1, if_pos h1]
        show _ = some (-1, xst (wrM S d [t]) 34 5 (nI (d + 1)))
        rw [ew]
      · rw [if_neg h1, if_neg h1]
        by_cases h2 : ptx f T a6 = 59
        · rw [if_pos h2, if_pos h2]
          have hlt : a6 < T := ptx_lt (f := f) (by rw [h2]; decide)
          rw [ih (d + 1) (a6 + 1) (mS2 S d t) (by omega) (by unfold mS2; rw [xst_q (by decide), xst_q (by decide)]; exact hT) (by unfold mS2; rw [xst_ne (by decide), xst_ne (by decide)]; exact hf) (by omega) (by omega) i (by omega), mW_cons]
          rfl
        · rw [if_neg h2, if_neg h2]
          show _ = some (nI a6, wrM S d [t])
          rw [ew]
theorem m_reads {n T : Nat} {S : xS} (hT : S.1 34 3 = nI T) (h80 : T ≤ 80) (hn : 20 ≤ n) : f_X9_reads n S = some (pzFt (pzW (S.1 38) T), mW (xst S 34 5 0) 0 (pzW (S.1 38) T)) := by
  unfold f_X9_reads pzW
  have hT1 : (xst S 34 5 0).1 34 3 = nI T := by rw [xst_k (by decide)]; exact hT
  have h38 : (xst S 34 5 0).1 38 = S.1 38 := xst_ne (by decide)
  obtain ⟨i, rfl⟩ : ∃ i, n = i + 20 := ⟨n - 20, by omega⟩
  by_cases h0 : T = 0
  · rw [if_pos h0]
    show b_X9_reads_9 (i + 20) (l_X9_reads_9 (i + 20) (i + 19)) (xst S 34 5 0) (nI 0) (nI 0) = some (-1, xst (wrM (xst S 34 5 0) 0 []) 34 5 0)
    rw [wrM_nil, xst_xst]
    unfold b_X9_reads_9
    rw [hT1, iflt (by omega) (by omega), n0, ifle (by omega) (by omega), if_neg (by omega), if_pos (by omega)]
  · rw [if_neg h0]
    exact m_readsL (n := i + 20) h80 (by omega) (S.1 38) 10 0 0 (xst S 34 5 0) rfl hT1 h38 (by omega) (by omega) (i + 20) (by omega)
