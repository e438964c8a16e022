theorem ifle {α : Type} {a b : Nat} {x y : α} (ha : a < 2147483648) (hb : b < 2147483648) : (if nI a ≤ nI b then x else y) = if a ≤ b then x else y := by
  have h := len ha hb
  by_cases q : a ≤ b
  · rw [if_pos q, if_pos (h ▸ q)]
  · rw [if_neg q, if_neg (h ▸ q)]
theorem iflt {α : Type} {a b : Nat} {x y : α} (ha : a < 2147483648) (hb : b < 2147483648) : (if nI a < nI b then x else y) = if a < b then x else y := by
  have h := ltn ha hb
  by_cases q : a < b
  · rw [if_pos q, if_pos (h ▸ q)]
  · rw [if_neg q, if_neg (h ▸ q)]
theorem ifeq {α : Type} {a b : Nat} {x y : α} (ha : a < 2147483648) (hb : b < 2147483648) : (if nI a = nI b then x else y) = if a = b then x else y := by
  have h := eqn ha hb
  by_cases q : a = b
  · rw [if_pos q, if_pos (h ▸ q)]
  · rw [if_neg q, if_neg (h ▸ q)]
theorem xst_self (S : xS) (q k : Nat) : xst S q k (S.1 q k) = S := by
  refine Prod.ext ?_ rfl
  funext a b
  show (if a = q ∧ b = k then S.1 q k else S.1 a b) = S.1 a b
  split
  · rename_i h
    rw [h.1, h.2]
  · rfl
theorem xst_to {S : xS} {q k : Nat} {v : Int32} (h : S.1 q k = v) : xst S q k v = S := by rw [← h]; exact xst_self S q k
theorem xst_xst (S : xS) (q k : Nat) (v w : Int32) : xst (xst S q k v) q k w = xst S q k w := by
  refine Prod.ext ?_ rfl
  funext a b
  show (if a = q ∧ b = k then w else if a = q ∧ b = k then v else S.1 a b) = (if a = q ∧ b = k then w else S.1 a b)
  split <;> rfl
/-- the byte at a place, or -1 behind the end -/
def ptx (f : Nat → Int32) (T a : Nat) : Int32 := if a < T then f a else -1
def pfs (f : Nat → Int32) (T a : Nat) : Nat := if f_X9_in (ptx f T a) 48 57 = 0 then 0 else if f_X9_in (ptx f T (a + 1)) 48 57 = 0 then 1 else 2
def pnum (f : Nat → Int32) (T a : Nat) : Int32 := if f_X9_in (ptx f T a) 48 57 = 0 then 0 else if f_X9_in (ptx f T (a + 1)) 48 57 = 0 then ptx f T a - 48 else 10 * (ptx f T a - 48) + ptx f T (a + 1) - 48
theorem ptx_end {f : Nat → Int32} {T a : Nat} (h : T ≤ a) : ptx f T a = -1 := if_neg (by omega)
theorem ptx_lt {f : Nat → Int32} {T a : Nat} (h : ¬ ptx f T a = -1) : a < T := Classical.byContradiction fun q => h (ptx_end (by omega))
theorem fig_lt {f : Nat → Int32} {T a : Nat} (h : ¬ f_X9_in (ptx f T a) 48 57 = 0) : a < T := by
  refine Classical.byContradiction fun q => h ?_
  rw [ptx_end (by omega)]
  rfl
theorem pfs_le {f : Nat → Int32} {T a : Nat} (h : a ≤ T) : a + pfs f T a ≤ T := by
  unfold pfs
  split
  · omega
  · rename_i h1
    have := fig_lt h1
    split
    · omega
    · rename_i h2
      have := fig_lt h2
      omega
theorem pfs_2 (f : Nat → Int32) (T a : Nat) : pfs f T a ≤ 2 := by
  unfold pfs
  split
  · omega
  · split <;> omega
section PZ
variable {S : xS} {n T a : Nat}
theorem c_sign (hT : S.1 4 1 = nI T) (h80 : T ≤ 80) (ha : S.1 4 7 = nI a) (hb : a < 2147483648) : f_X4_sign n S = some (ptx (S.1 5) T a) := by
  unfold f_X4_sign
  rw [hT, ha, ifle (by omega) hb]
  unfold ptx
  by_cases h : T ≤ a
  · rw [if_pos h, if_neg (by omega)]
  · rw [if_neg h, if_pos (by omega), xgn (by omega) (by omega), cln hb]
theorem m_byte (hT : S.1 34 3 = nI T) (h80 : T ≤ 80) (hb : a < 2147483648) : f_X9_byteAt n S (nI a) = some (ptx (S.1 38) T a) := by
  unfold f_X9_byteAt
  rw [hT, ifle (by omega) hb]
  unfold ptx
  by_cases h : T ≤ a
  · rw [if_pos h, if_neg (by omega)]
  · rw [if_neg h, if_pos (by omega), xgn (by omega) (by omega), cln hb]
theorem m_figs (hT : S.1 34 3 = nI T) (h80 : T ≤ 80) (hb : a < 2000000000) (hn : 4 ≤ n) : f_X9_figures n S (nI a) = some (nI (pfs (S.1 38) T a)) := by
  obtain ⟨k, rfl⟩ : ∃ k, n = k + 4 := ⟨n - 4, by omega⟩
  show b_X9_figures_2 (k + 4) (l_X9_figures_2 (k + 4) S (k + 3)) S (nI a) 0 = _
  unfold b_X9_figures_2
  rw [if_neg (by decide), show nI a + 0 = nI a from adn a 0, m_byte hT h80 (by omega), ob]
  unfold pfs
  by_cases h1 : f_X9_in (ptx (S.1 38) T a) 48 57 = 0
  · rw [if_pos h1, if_pos h1]; rfl
  · rw [if_neg h1, if_neg h1]
    show b_X9_figures_2 (k + 4) (l_X9_figures_2 (k + 4) S (k + 2)) S (nI a) (0 + 1) = _
    unfold b_X9_figures_2
    rw [if_neg (by decide), show nI a + (0 + 1) = nI (a + 1) from adn a 1, m_byte hT h80 (by omega), ob]
    by_cases h2 : f_X9_in (ptx (S.1 38) T (a + 1)) 48 57 = 0
    · rw [if_pos h2, if_pos h2]; rfl
    · rw [if_neg h2, if_neg h2]
      show b_X9_figures_2 (k + 4) (l_X9_figures_2 (k + 4) S (k + 1)) S (nI a) (0 + 1 + 1) = _
      unfold b_X9_figures_2
      rw [if_pos (by decide)]; rfl
theorem m_num (hT : S.1 34 3 = nI T) (h80 : T ≤ 80) (hb : a < 2000000000) (hn : 4 ≤ n) : f_X9_numberAt n S (nI a) = some (if pfs (S.1 38) T a = 0 then -1 else pnum (S.1 38) T a) := by
  unfold f_X9_numberAt
  rw [m_figs hT h80 hb hn, ob]
  unfold pfs pnum
  by_cases h1 : f_X9_in (ptx (S.1 38) T a) 48 57 = 0
  · rw [if_pos h1, if_pos h1, if_pos rfl]; rfl
  · rw [if_neg h1, if_neg h1]
    by_cases h2 : f_X9_in (ptx (S.1 38) T (a + 1)) 48 57 = 0
    · rw [if_pos h2, if_pos h2, if_neg (by decide), if_pos (by decide), m_byte hT h80 (by omega), ob]; rfl
    · rw [if_neg h2, if_neg h2, if_neg (by decide), if_neg (by decide), m_byte hT h80 (by omega), ob, show nI a + 1 = nI (a + 1) from ad1 a, m_byte hT h80 (by omega), ob]; rfl
theorem c_tnum (m : Int32) (hT : S.1 4 1 = nI T) (h80 : T ≤ 80) (ha : S.1 4 7 = nI a) (haT : a ≤ T) (hn : 4 ≤ n) : f_X4_takeNumber n S m = some (if f_X9_in (pnum (S.1 5) T a) 1 m = 0 then (-1, xst (xst S 4 7 (nI (a + pfs (S.1 5) T a))) 4 2 (nI a)) else (pnum (S.1 5) T a, xst S 4 7 (nI (a + pfs (S.1 5) T a)))) := by
  obtain ⟨k, rfl⟩ : ∃ k, n = k + 4 := ⟨n - 4, by omega⟩
  unfold f_X4_takeNumber
  rw [ha]
  show b_X4_takeNumber_7 (k + 4) (l_X4_takeNumber_7 (k + 4) (k + 3)) S m (nI a) 0 = _
  unfold b_X4_takeNumber_7
  rw [ha, show nI a + 2 = nI (a + 2) from adn a 2, if_neg (by rw [len (by omega) (by omega)]; omega), c_sign hT h80 ha (by omega), ob]
  unfold pfs pnum
  rw [show f_X4_isFigure (ptx (S.1 5) T a) = f_X9_in (ptx (S.1 5) T a) 48 57 from rfl]
  by_cases h1 : f_X9_in (ptx (S.1 5) T a) 48 57 = 0
  · rw [if_pos h1, if_pos h1, if_pos h1, Nat.add_zero, xst_to ha]
    show (if f_X9_in 0 1 m = 0 then _ else _) = _
    by_cases h2 : f_X9_in 0 1 m = 0
    · rw [if_pos h2, if_pos h2]; rfl
    · rw [if_neg h2, if_neg h2]
  · rw [if_neg h1, if_neg h1, if_neg h1, ob]
    rw [show nI a + (1 : Int32) = nI (a + 1) from ad1 a]
    generalize e1 : xst S 4 7 (nI (a + 1)) = S1
    have hT1 : S1.1 4 1 = nI T := by rw [← e1, xst_k (by decide)]; exact hT
    have ha1 : S1.1 4 7 = nI (a + 1) := by rw [← e1, xst_eq]
    have h51 : S1.1 5 = S.1 5 := by rw [← e1]; exact xst_ne (by decide)
    show b_X4_takeNumber_7 (k + 4) (l_X4_takeNumber_7 (k + 4) (k + 2)) S1 m (nI a) _ = _
    unfold b_X4_takeNumber_7
    rw [ha1, show nI a + 2 = nI (a + 2) from adn a 2, if_neg (by rw [len (by omega) (by omega)]; omega), c_sign hT1 h80 ha1 (by omega), ob, h51]
    rw [show f_X4_isFigure (ptx (S.1 5) T (a + 1)) = f_X9_in (ptx (S.1 5) T (a + 1)) 48 57 from rfl]
    have e0 : (10 * 0 + ptx (S.1 5) T a - 48 : Int32) = ptx (S.1 5) T a - 48 := by
      rw [show (10 * 0 : Int32) = 0 from rfl, Int32.zero_add]
    rw [e0]
    by_cases h2 : f_X9_in (ptx (S.1 5) T (a + 1)) 48 57 = 0
    · rw [if_pos h2, if_pos h2, if_pos h2, e1]
      show (if f_X9_in _ 1 m = 0 then _ else _) = _
      by_cases h3 : f_X9_in (ptx (S.1 5) T a - 48) 1 m = 0
      · rw [if_pos h3, if_pos h3]; rfl
      · rw [if_neg h3, if_neg h3]
    · rw [if_neg h2, if_neg h2, if_neg h2, ob]
      rw [show nI (a + 1) + (1 : Int32) = nI (a + 2) from ad1 (a + 1)]
      have e2 : xst S1 4 7 (nI (a + 2)) = xst S 4 7 (nI (a + 2)) := by rw [← e1]; exact xst_xst S 4 7 _ _
      rw [e2]
      generalize e3 : xst S 4 7 (nI (a + 2)) = S2
      have ha2 : S2.1 4 7 = nI (a + 2) := by rw [← e3, xst_eq]
      show b_X4_takeNumber_7 (k + 4) (l_X4_takeNumber_7 (k + 4) (k + 1)) S2 m (nI a) _ = _
      unfold b_X4_takeNumber_7
      rw [ha2, show nI a + 2 = nI (a + 2) from adn a 2, if_pos (by rw [len (by omega) (by omega)]; omega)]
      show (if f_X9_in _ 1 m = 0 then _ else _) = _
      by_cases h3 : f_X9_in (10 * (ptx (S.1 5) T a - 48) + ptx (S.1 5) T (a + 1) - 48) 1 m = 0
      · rw [if_pos h3, if_pos h3]; rfl
      · rw [if_neg h3, if_neg h3]
end PZ
