theorem fill_L {n q w : Nat} (hw : w < 2147483648) (x : Int32) : ∀ (m y : Nat) (S : xS), y + m = w → (∀ k, k < y → S.1 q k = x) → ∀ j, m + 1 ≤ j → ∃ S', (∀ k, k < w → S'.1 q k = x) ∧ (∀ p, p ≠ q → S'.1 p = S.1 p) ∧ (∀ k, w ≤ k → S'.1 q k = S.1 q k) ∧ S'.2 = S.2 ∧ l_J7_fill_53178_5 n q w j S x (nI y) (nI w) = some S' := by
  intro m
  induction m with
  | zero =>
    intro y S hy i1 j hj
    obtain ⟨j, rfl⟩ : ∃ x, j = x + 1 := ⟨j - 1, by omega⟩
    refine ⟨S, fun k hk => i1 k (by omega), fun _ _ => rfl, fun _ _ => rfl, rfl, ?_⟩
    show b_J7_fill_53178_5 n q w _ S x (nI y) (nI w) = _
    unfold b_J7_fill_53178_5
    rw [ifle (by omega) (by omega), if_pos (by omega)]
  | succ m ih =>
    intro y S hy i1 j hj
    obtain ⟨j, rfl⟩ : ∃ x, j = x + 1 := ⟨j - 1, by omega⟩
    obtain ⟨S', s1, s2, s3, s4, s5⟩ := ih (y + 1) (xst S q y x) (by omega) (fun k hk => by
      by_cases z : k = y
      · subst z; rw [xst_eq]
      · rw [xst_k z]; exact i1 k (by omega)) j (by omega)
    refine ⟨S', s1, fun p hp => (s2 p hp).trans (funext fun k => xst_q hp), fun k hk => (s3 k hk).trans (xst_k (by omega)), s4, ?_⟩
    show b_J7_fill_53178_5 n q w (l_J7_fill_53178_5 n q w j) S x (nI y) (nI w) = _
    unfold b_J7_fill_53178_5
    rw [ifle (by omega) (by omega), if_neg (by omega), xgn (by omega) (by omega), cln (by omega), ad1]
    exact s5
theorem fill_c {n q w : Nat} (hw : w + 1 ≤ n) (hw2 : w < 2147483648) (x : Int32) (S : xS) : ∃ S', (∀ k, k < w → S'.1 q k = x) ∧ (∀ p, p ≠ q → S'.1 p = S.1 p) ∧ (∀ k, w ≤ k → S'.1 q k = S.1 q k) ∧ S'.2 = S.2 ∧ f_J7_fill_53178 n q w S x = some S' := fill_L hw2 x w 0 S (by omega) (fun k h => by omega) n (by omega)
theorem fill_47 {n : Nat} (a F : Int32) : ∀ (m y : Nat) (S : xS), y + m = 10 → (∀ k, k < y → S.1 47 k = 0) → ∀ j, m + 1 ≤ j → ∃ S', (∀ k, k < 10 → S'.1 47 k = 0) ∧ Scr S S' ∧ l_X9_mends_7 n j S a F (nI y) = l_X9_mends_37 n n S' a F 0 0 0 1 := by
  intro m
  induction m with
  | zero =>
    intro y S hy i1 j hj
    obtain ⟨j, rfl⟩ : ∃ x, j = x + 1 := ⟨j - 1, by omega⟩
    refine ⟨S, fun k hk => i1 k (by omega), Scr.rf S, ?_⟩
    show b_X9_mends_7 n _ S a F (nI y) = _
    unfold b_X9_mends_7
    rw [n10, ifle (by omega) (by omega), if_pos (by omega)]
  | succ m ih =>
    intro y S hy i1 j hj
    obtain ⟨j, rfl⟩ : ∃ x, j = x + 1 := ⟨j - 1, by omega⟩
    obtain ⟨S', s1, s2, s3⟩ := ih (y + 1) (xst S 47 y 0) (by omega) (fun k hk => by
      by_cases z : k = y
      · subst z; rw [xst_eq]
      · rw [xst_k z]; exact i1 k (by omega)) j (by omega)
    refine ⟨S', s1, Scr.tr (fun q _ h2 _ => funext fun k => xst_q h2) s2, ?_⟩
    show b_X9_mends_7 n (l_X9_mends_7 n j) S a F (nI y) = _
    unfold b_X9_mends_7
    rw [n10, ifle (by omega) (by omega), if_neg (by omega), xgn (by omega) (by omega), cln (by omega), ad1]
    exact s3
theorem Scr.st21 (S : xS) (k : Nat) (x : Int32) : Scr S (xst S 21 k x) := fun _ h _ _ => funext fun _ => xst_q h
theorem Scr.st47 (S : xS) (k : Nat) (x : Int32) : Scr S (xst S 47 k x) := fun _ _ h _ => funext fun _ => xst_q h
def rowEq (S0 S : xS) : Prop := ∀ k, k < 10 → S0.1 21 k = S.1 47 k
theorem rowEq.st {S0 S : xS} (h : rowEq S0 S) (y : Nat) (x : Int32) : rowEq (xst S0 21 y x) (xst S 47 y x) := fun k hk => by
  by_cases z : k = y
  · subst z; rw [xst_eq, xst_eq]
  · rw [xst_k z, xst_k z]; exact h k hk
section ME
variable {n : Nat} {v : Nat → Nat → Int32} {F : Nat} {ft : Int32}
theorem share_L {t : Nat} (ht : t ≤ 10) (l mc mm : Int32) (k37 : xS → Int32 → Int32 → Int32 → Int32 → Int32 → Int32 → Option (Int32 × xS)) (a1 a2 a3 a5 a7 : Int32) : ∀ (m y : Nat) (S0 S : xS) (x : Int32), y + m = t → (mc = mm ∨ (l = 0 ∧ x = 0 ∧ mc = 0 ∧ mm = 99)) → S.1 37 = v 33 → rowEq S0 S → ∀ i j, m + 1 ≤ i → m + 1 ≤ j → ∃ S0' S', Scr S0 S0' ∧ Scr S S' ∧ rowEq S0' S' ∧ l_X3_share_40 n i S0 (nI t) l mc x (nI y) = some S0' ∧ l_X9_mends_161 n k37 j S a1 a2 a3 a5 (nI t) a7 l mm x (nI y) = if 0 ≤ a7 then k37 S' a1 a2 (a3 + a7 * v 33 2) (nI t) (a5 + a7) (nI (t + 1)) else k37 S' a1 a2 (a3 + (-a7) * v 33 3) (nI t) (a5 + a7) (nI (t + 1)) := by
  intro m
  induction m with
  | zero =>
    intro y S0 S x hy hm h37 hr i j hi hj
    obtain ⟨i, rfl⟩ : ∃ x, i = x + 1 := ⟨i - 1, by omega⟩
    obtain ⟨j, rfl⟩ : ∃ x, j = x + 1 := ⟨j - 1, by omega⟩
    refine ⟨S0, S, Scr.rf S0, Scr.rf S, hr, ?_, ?_⟩
    · show b_X3_share_40 n _ S0 (nI t) l mc x (nI y) = _
      unfold b_X3_share_40
      rw [ifle (by omega) (by omega), if_pos (by omega)]
    · show b_X9_mends_161 n k37 _ S a1 a2 a3 a5 (nI t) a7 l mm x (nI y) = _
      unfold b_X9_mends_161
      rw [ifle (by omega) (by omega), if_pos (by omega), h37, ad1]
      rfl
  | succ m ih =>
    intro y S0 S x hy hm h37 hr i j hi hj
    obtain ⟨i, rfl⟩ : ∃ x, i = x + 1 := ⟨i - 1, by omega⟩
    obtain ⟨j, rfl⟩ : ∃ x, j = x + 1 := ⟨j - 1, by omega⟩
    have e1 : l_X3_share_40 n (i + 1) S0 (nI t) l mc x (nI y) = l_X3_share_40 n i (xst S0 21 y (xmax l (x - mc * nI (t - y - 1)))) (nI t) l mc (x - xmax l (x - mc * nI (t - y - 1))) (nI (y + 1)) := by
      show b_X3_share_40 n (l_X3_share_40 n i) S0 (nI t) l mc x (nI y) = _
      unfold b_X3_share_40
      rw [ifle (by omega) (by omega), if_neg (by omega), xgn (by omega) (by omega), xgn (by omega) (by omega), cln (by omega), ad1, n1, sbn (by omega), sbn (by omega), xst_eq]
    have e2 : l_X9_mends_161 n k37 (j + 1) S a1 a2 a3 a5 (nI t) a7 l mm x (nI y) = l_X9_mends_161 n k37 j (xst S 47 y (xmax l (x - mm * nI (t - y - 1)))) a1 a2 a3 a5 (nI t) a7 l mm (x - xmax l (x - mm * nI (t - y - 1))) (nI (y + 1)) := by
      show b_X9_mends_161 n k37 (l_X9_mends_161 n k37 j) S a1 a2 a3 a5 (nI t) a7 l mm x (nI y) = _
      unfold b_X9_mends_161
      rw [ifle (by omega) (by omega), if_neg (by omega), xgn (by omega) (by omega), xgn (by omega) (by omega), xgn (by omega) (by omega), xgn (by omega) (by omega), cln (by omega), ad1, n1, sbn (by omega), sbn (by omega), xst_eq, xst_eq]
      by_cases z : l ≤ x - mm * nI (t - y - 1)
      · rw [if_pos z]
        have : xmax l (x - mm * nI (t - y - 1)) = x - mm * nI (t - y - 1) := by
          unfold xmax
          split
          · rfl
          · rename_i z2
            rw [eqI]
            have a := leI.mp z
            have b : ¬ l.toInt < (x - mm * nI (t - y - 1)).toInt := fun q => z2 (ltI.mpr q)
            omega
        rw [this]
      · rw [if_neg z]
        have : xmax l (x - mm * nI (t - y - 1)) = l := by
          unfold xmax
          rw [if_neg (fun q => z (Int32.le_of_lt q))]
        rw [this]
    have e3 : xmax l (x - mc * nI (t - y - 1)) = xmax l (x - mm * nI (t - y - 1)) ∧ (mc = mm ∨ (l = 0 ∧ x - xmax l (x - mc * nI (t - y - 1)) = 0 ∧ mc = 0 ∧ mm = 99)) := by
      rcases hm with q | ⟨q1, q2, q3, q4⟩
      · subst q; exact ⟨rfl, Or.inl rfl⟩
      · subst q1 q2 q3 q4
        have a1 : (0 : Int32) - 0 * nI (t - y - 1) = 0 := by rw [Int32.zero_mul]; rfl
        have a2 : xmax 0 ((0 : Int32) - 99 * nI (t - y - 1)) = 0 := by
          rcases (show t - y - 1 = 0 ∨ t - y - 1 = 1 ∨ t - y - 1 = 2 ∨ t - y - 1 = 3 ∨ t - y - 1 = 4 ∨ t - y - 1 = 5 ∨ t - y - 1 = 6 ∨ t - y - 1 = 7 ∨ t - y - 1 = 8 ∨ t - y - 1 = 9 by omega) with q | q | q | q | q | q | q | q | q | q <;> rw [q] <;> decide
        rw [a1, a2]
        exact ⟨by decide, Or.inr ⟨rfl, by decide, rfl, rfl⟩⟩
    rw [e1, e2, ← e3.1]
    obtain ⟨S0', S', s1, s2, s3, s4, s5⟩ := ih (y + 1) (xst S0 21 y (xmax l (x - mc * nI (t - y - 1)))) (xst S 47 y (xmax l (x - mc * nI (t - y - 1)))) (x - xmax l (x - mc * nI (t - y - 1))) (by omega) e3.2 ((funext fun k => xst_q (by decide)).trans h37) (hr.st y _) i j (by omega) (by omega)
    exact ⟨S0', S', (Scr.st21 S0 _ _).tr s1, (Scr.st47 S _ _).tr s2, s3, s4, s5⟩
theorem off_rg (g : Gd v F ft) : ∀ f, f ≤ F → (-99 * (f : Int) ≤ (v 13 f).toInt ∧ (v 13 f).toInt ≤ 101000 * (f : Int)) ∧ (0 ≤ (v 14 f).toInt ∧ (v 14 f).toInt ≤ 99816 * (f : Int)) := by
  have hF := g.1
  intro f
  induction f with
  | zero =>
    intro _
    rw [g.2.2.2.2.2.1, g.2.2.2.2.2.2.1]
    decide
  | succ f ih =>
    intro hf
    have ih := ih (by omega)
    have hb := built_rg g (show f < F by omega)
    obtain ⟨M, C, z, hM, hC, hz, eM, eC, e8, e11, e13, e14⟩ := g.2.2.2.2.1 f (by omega)
    have t1 : (v 13 f + (v 11 f + v 12 f)).toInt = (v 13 f).toInt + (v 11 f + v 12 f).toInt := tI_add (by omega)
    have tM : (v 10 f).toInt = M := by rw [eM, tin (by omega)]
    have t2 : (v 14 f + v 10 f).toInt = (v 14 f).toInt + (v 10 f).toInt := tI_add (by omega)
    rw [e13, e14, t1, t2, tM]
    omega
theorem off_I (g : Gd v F ft) {f : Nat} (h : f ≤ F) : -1100000 ≤ (v 13 f - v 14 f).toInt ∧ (v 13 f - v 14 f).toInt ≤ 1100000 := by
  have hF := g.1
  have := off_rg g f h
  rw [tI_sub (by omega)]
  omega
theorem bit01 (x : Int32) : x &&& 1 = 0 ∨ x &&& 1 = 1 := by
  obtain ⟨j, hj, e⟩ := pk_andE x (m := 1) 1 (by decide)
  rw [e]
  rcases (show j = 0 ∨ j = 1 by omega) with rfl | rfl
  · exact Or.inl rfl
  · exact Or.inr rfl
theorem neg_sub32 (a b : Int32) : (-a) - (0 - b) = b - a := by
  rw [Int32.zero_sub, Int32.sub_eq_add_neg, Int32.neg_neg, Int32.add_comm, ← Int32.sub_eq_add_neg]
theorem add_sub32 (a b : Int32) : (0 - a) + (a - b) = 0 - b := by
  rw [Int32.zero_sub, Int32.zero_sub, Int32.sub_eq_add_neg, ← Int32.add_assoc, Int32.add_left_neg, Int32.zero_add]
/-- one stretch: what is needed, whether it can be had -/
def nd (v : Nat → Nat → Int32) (s t : Nat) : Int32 := (v 13 s - v 14 s) - (v 13 t - v 14 t)
theorem nd_I (g : Gd v F ft) {s t : Nat} (hs : s ≤ F) (ht : t ≤ F) : -2200000 ≤ (nd v s t).toInt ∧ (nd v s t).toInt ≤ 2200000 := by
  have a := off_I g hs
  have b := off_I g ht
  unfold nd
  rw [tI_sub (by omega)]
  omega
theorem c_chk (g : Gd v F ft) {s t : Nat} (hs : s ≤ t) (ht : t ≤ F) : (xabs (nd v s t) ≤ (99 : Int32) * nI (t - s)) ↔ (nd v s t).toInt.natAbs ≤ 99 * (t - s) := by
  have hF := g.1
  have a := nd_I g (show s ≤ F by omega) ht
  rw [leI, tI_abs (by omega), show (99 : Int32) = nI 99 from rfl, mln, tin (by omega)]
  omega
theorem m_chk (g : Gd v F ft) {s t : Nat} (hs : s ≤ t) (ht : t ≤ F) {lo hi : Int32} (h : ((lo.toInt = -99 ∧ hi.toInt = 99) ∨ (lo.toInt = 0 ∧ hi.toInt = 99 ∧ 0 ≤ (nd v s t).toInt) ∨ (lo.toInt = -99 ∧ hi.toInt = 0 ∧ (nd v s t).toInt < 0))) : (f_X9_in (nd v s t) (lo * nI (t - s)) (hi * nI (t - s)) = 0) ↔ ¬ (nd v s t).toInt.natAbs ≤ 99 * (t - s) := by
  have hF := g.1
  have a := nd_I g (show s ≤ F by omega) ht
  have e : (nI (t - s)).toInt = ((t - s : Nat) : Int) := tin (by omega)
  rw [in_iff, leI, leI]
  rcases h with ⟨h1, h2⟩ | ⟨h1, h2, h3⟩ | ⟨h1, h2, h3⟩
  · rw [tI_mul (by rw [e, h1]; omega), tI_mul (by rw [e, h2]; omega), e, h1, h2]; omega
  · rw [tI_mul (by rw [e, h1]; omega), tI_mul (by rw [e, h2]; omega), e, h1, h2]; omega
  · rw [tI_mul (by rw [e, h1]; omega), tI_mul (by rw [e, h2]; omega), e, h1, h2]; omega
theorem mend_S (g : Gd v F ft) {S0 S : xS} (c : Cl S0 v) (w : Vw S v F ft) (hn : 20 ≤ n) (hr : rowEq S0 S) (bits work fr : Int32) (hfr : (v 33 2 + v 33 3 = 0 ∧ fr = 1) ∨ (¬ v 33 2 + v 33 3 = 0 ∧ fr = 0)) {s t : Nat} (hs : s < t) (ht : t ≤ F) (i j : Nat) : (∃ r S0' S', Scr S0 S0' ∧ Scr S S' ∧ rowEq S0' S' ∧ l_X3_work_33 n (i + 1) S0 bits (v 33 2) (v 33 3) fr work (nI s) (nI t) = some (r, S0') ∧ l_X9_mends_37 n (j + 1) S bits (nI F) work (nI s) (0 - (v 13 s - v 14 s)) (nI t) = some (r, S')) ∨ (∃ work2 s2 S0' S', s2 < t + 1 ∧ Scr S0 S0' ∧ Scr S S' ∧ rowEq S0' S' ∧ l_X3_work_33 n (i + 1) S0 bits (v 33 2) (v 33 3) fr work (nI s) (nI t) = l_X3_work_33 n i S0' bits (v 33 2) (v 33 3) fr work2 (nI s2) (nI (t + 1)) ∧ l_X9_mends_37 n (j + 1) S bits (nI F) work (nI s) (0 - (v 13 s - v 14 s)) (nI t) = l_X9_mends_37 n j S' bits (nI F) work2 (nI s2) (0 - (v 13 s2 - v 14 s2)) (nI (t + 1))) := by
  have hF := g.1
  have hfl : f_X7_floors S0 = nI F := by show S0.1 4 3 = _; rw [c 4 (by decide)]; exact g.2.1
  have e37 : S.1 37 = v 33 := w.2.2.1.2.2.1
  have c0 : (0 : Int32).toInt = 0 := rfl
  have hnd := nd_I g (show s ≤ F by omega) ht
  rcases bit01 (bits >>> ((nI t - 1) &&& 31)) with z | z
  · refine Or.inr ⟨work, s, S0, S, by omega, Scr.rf S0, Scr.rf S, hr, ?_, ?_⟩
    · show b_X3_work_33 n (l_X3_work_33 n i) S0 bits _ _ fr work (nI s) (nI t) = _
      unfold b_X3_work_33
      rw [hfl, iflt (by omega) (by omega), if_neg (by omega), if_pos z, ad1]
    · show b_X9_mends_37 n (l_X9_mends_37 n j) S bits (nI F) work (nI s) _ (nI t) = _
      unfold b_X9_mends_37
      rw [iflt (by omega) (by omega), if_neg (by omega), if_neg (by rw [z]; decide), ad1]
  · have ec : l_X3_work_33 n (i + 1) S0 bits (v 33 2) (v 33 3) fr work (nI s) (nI t) = if xabs (nd v s t) ≤ (99 : Int32) * nI (t - s) then (if nd v s t ≤ 0 then j_X3_work_109 n (l_X3_work_33 n i) S0 bits (v 33 2) (v 33 3) fr (nI s) (nI t) (nd v s t) ((-(nd v s t)) * v 33 3) work else j_X3_work_109 n (l_X3_work_33 n i) S0 bits (v 33 2) (v 33 3) fr (nI s) (nI t) (nd v s t) ((nd v s t) * v 33 2) work) else some (-1, S0) := by
      show b_X3_work_33 n (l_X3_work_33 n i) S0 bits _ _ fr work (nI s) (nI t) = _
      unfold b_X3_work_33
      rw [hfl, iflt (by omega) (by omega), if_neg (by omega), if_neg (by rw [z]; decide), c_off (by omega), ob, c_off (by omega), ob, sbn (by omega), c 13 (by decide), c 14 (by decide)]
      rfl
    have em : l_X9_mends_37 n (j + 1) S bits (nI F) work (nI s) (0 - (v 13 s - v 14 s)) (nI t) = j_X9_mends_89 n (l_X9_mends_37 n j) S bits (nI F) work (nI s) (0 - (v 13 s - v 14 s)) (nI t) (nd v s t) fr := by
      show b_X9_mends_37 n (l_X9_mends_37 n j) S bits (nI F) work (nI s) _ (nI t) = _
      unfold b_X9_mends_37
      rw [iflt (by omega) (by omega), if_neg (by omega), if_pos z, m_off w ht hn, ob, neg_sub32, e37]
      show (if v 33 2 + v 33 3 = 0 then _ else _) = _
      rcases hfr with ⟨h1, h2⟩ | ⟨h1, h2⟩
      · rw [if_pos h1, h2]; rfl
      · rw [if_neg h1, h2]; rfl
    have sgn : ∀ x : Int32, (x ≤ 0 ↔ x.toInt ≤ 0) ∧ (0 ≤ x ↔ 0 ≤ x.toInt) ∧ (x < 0 ↔ x.toInt < 0) := fun x => ⟨leI, leI, ltI⟩
    -- the limits of each side
    obtain ⟨lo, mc, mm, k1, k2, k3, k4⟩ : ∃ lo mc mm : Int32, (f_X3_share n S0 (nd v s t) (nI s) (nI t) fr = l_X3_share_40 n n S0 (nI t) lo mc (nd v s t) (nI s)) ∧ (j_X9_mends_89 n (l_X9_mends_37 n j) S bits (nI F) work (nI s) (0 - (v 13 s - v 14 s)) (nI t) (nd v s t) fr = j_X9_mends_125 n (l_X9_mends_37 n j) S bits (nI F) work (nI s) (0 - (v 13 s - v 14 s)) (nI t) (nd v s t) lo mm) ∧ (mc = mm ∨ (lo = 0 ∧ nd v s t = 0 ∧ mc = 0 ∧ mm = 99)) ∧ ((lo.toInt = -99 ∧ mm.toInt = 99) ∨ (lo.toInt = 0 ∧ mm.toInt = 99 ∧ 0 ≤ (nd v s t).toInt) ∨ (lo.toInt = -99 ∧ mm.toInt = 0 ∧ (nd v s t).toInt < 0)) := by
      unfold f_X3_share j_X3_share_9 j_X3_share_15 j_X9_mends_89 j_X9_mends_101 j_X9_mends_107 j_X9_mends_119
      rcases hfr with ⟨h1, h2⟩ | ⟨h1, h2⟩
      · refine ⟨-99, 99, 99, ?_, ?_, Or.inl rfl, Or.inl ⟨rfl, rfl⟩⟩
        · rw [h2, if_neg (by decide), if_neg (by decide)]
        · rw [h2, if_neg (by decide), if_neg (by decide)]
      · rw [h2]
        simp only [if_true]
        by_cases y1 : (nd v s t).toInt < 0
        · refine ⟨-99, 0, 0, ?_, ?_, Or.inl rfl, Or.inr (Or.inr ⟨rfl, rfl, y1⟩)⟩
          · rw [if_neg (fun q => by have := (sgn _).2.1.mp q; omega), if_pos ((sgn _).1.mpr (by omega))]
          · rw [if_neg (fun q => by have := (sgn _).2.1.mp q; omega), if_pos ((sgn _).2.2.mpr y1)]
        · by_cases y2 : (nd v s t).toInt = 0
          · refine ⟨0, 0, 99, ?_, ?_, Or.inr ⟨rfl, eqI.mpr y2, rfl, rfl⟩, Or.inr (Or.inl ⟨rfl, rfl, by omega⟩)⟩
            · rw [if_pos ((sgn _).2.1.mpr (by omega)), if_pos ((sgn _).1.mpr (by omega))]
            · rw [if_pos ((sgn _).2.1.mpr (by omega)), if_neg (fun q => y1 ((sgn _).2.2.mp q))]
          · refine ⟨0, 99, 99, ?_, ?_, Or.inl rfl, Or.inr (Or.inl ⟨rfl, rfl, by omega⟩)⟩
            · rw [if_pos ((sgn _).2.1.mpr (by omega)), if_neg (fun q => by have := (sgn _).1.mp q; omega)]
            · rw [if_pos ((sgn _).2.1.mpr (by omega)), if_neg (fun q => y1 ((sgn _).2.2.mp q))]
    rw [ec, em, k2]
    unfold j_X9_mends_125
    rw [sbn (by omega)]
    by_cases P : (nd v s t).toInt.natAbs ≤ 99 * (t - s)
    · rw [if_pos ((c_chk g (by omega) ht).mpr P), if_neg (fun q => (m_chk g (by omega) ht k4).mp q P)]
      obtain ⟨S0', S', s1, s2, s3, s4, s5⟩ := share_L (n := n) (v := v) (t := t) (by omega) lo mc mm (l_X9_mends_37 n j) bits (nI F) work (0 - (v 13 s - v 14 s)) (nd v s t) (t - s) s S0 S (nd v s t) (by omega) k3 e37 hr n n (by omega) (by omega)
      refine Or.inr ⟨if 0 ≤ nd v s t then work + nd v s t * v 33 2 else work + (-(nd v s t)) * v 33 3, t, S0', S', by omega, s1, s2, s3, ?_, ?_⟩
      · unfold j_X3_work_109
        rw [k1, s4, ob, ob, ad1]
        by_cases y1 : (nd v s t).toInt < 0
        · rw [if_pos ((sgn _).1.mpr (by omega)), if_neg (fun q => by have := (sgn _).2.1.mp q; omega)]
        · rw [if_pos ((sgn _).2.1.mpr (by omega))]
          by_cases y2 : (nd v s t).toInt = 0
          · have y3 : nd v s t = 0 := eqI.mpr y2
            rw [if_pos ((sgn _).1.mpr (by omega)), y3]
            have : (-(0 : Int32)) * v 33 3 = 0 * v 33 2 := by rw [show (-(0 : Int32)) = 0 from by decide, Int32.zero_mul, Int32.zero_mul]
            rw [this]
          · rw [if_neg (fun q => by have := (sgn _).1.mp q; omega)]
      · rw [s5]
        have : (0 - (v 13 s - v 14 s)) + nd v s t = 0 - (v 13 t - v 14 t) := add_sub32 _ _
        rw [this]
        split <;> rfl
    · rw [if_neg (fun q => P ((c_chk g (by omega) ht).mp q)), if_pos ((m_chk g (by omega) ht k4).mpr P)]
      exact Or.inl ⟨-1, S0, S, Scr.rf S0, Scr.rf S, hr, rfl, rfl⟩
theorem mend_L (g : Gd v F ft) (hT : tyOk v) (hn : 20 ≤ n) (bits fr : Int32) (hfr : (v 33 2 + v 33 3 = 0 ∧ fr = 1) ∨ (¬ v 33 2 + v 33 3 = 0 ∧ fr = 0)) : ∀ (m t s : Nat) (S0 S : xS) (work : Int32), t + m = F + 1 → s < t → Cl S0 v → Vw S v F ft → rowEq S0 S → ∀ i j, m + 1 ≤ i → m + 1 ≤ j → ∃ r S0' S', Scr S0 S0' ∧ Scr S S' ∧ rowEq S0' S' ∧ l_X3_work_33 n i S0 bits (v 33 2) (v 33 3) fr work (nI s) (nI t) = some (r, S0') ∧ l_X9_mends_37 n j S bits (nI F) work (nI s) (0 - (v 13 s - v 14 s)) (nI t) = some (r, S') := by
  have hF := g.1
  intro m
  induction m with
  | zero =>
    intro t s S0 S work ht hs c w hr i j hi hj
    obtain ⟨i, rfl⟩ : ∃ x, i = x + 1 := ⟨i - 1, by omega⟩
    obtain ⟨j, rfl⟩ : ∃ x, j = x + 1 := ⟨j - 1, by omega⟩
    refine ⟨work, S0, S, Scr.rf S0, Scr.rf S, hr, ?_, ?_⟩
    · show b_X3_work_33 n (l_X3_work_33 n i) S0 bits _ _ fr work (nI s) (nI t) = _
      unfold b_X3_work_33
      rw [show f_X7_floors S0 = nI F from by show S0.1 4 3 = _; rw [c 4 (by decide)]; exact g.2.1, iflt (by omega) (by omega), if_pos (by omega)]
    · show b_X9_mends_37 n (l_X9_mends_37 n j) S bits (nI F) work (nI s) _ (nI t) = _
      unfold b_X9_mends_37
      rw [iflt (by omega) (by omega), if_pos (by omega)]
  | succ m ih =>
    intro t s S0 S work ht hs c w hr i j hi hj
    obtain ⟨i, rfl⟩ : ∃ x, i = x + 1 := ⟨i - 1, by omega⟩
    obtain ⟨j, rfl⟩ : ∃ x, j = x + 1 := ⟨j - 1, by omega⟩
    rcases mend_S (n := n) g c w hn hr bits work fr hfr hs (show t ≤ F by omega) i j with q | ⟨work2, s2, S0', S', h1, h2, h3, h4, h5, h6⟩
    · exact q
    · obtain ⟨r, S0'', S'', y1, y2, y3, y4, y5⟩ := ih (t + 1) s2 S0' S' work2 (by omega) h1 (c.scr h2) (w.scr hT h3) h4 i j (by omega) (by omega)
      exact ⟨r, S0'', S'', h2.tr y1, h3.tr y2, y3, h5.trans y4, h6.trans y5⟩
theorem work_b {S0 S : xS} (g : Gd v F ft) (c : Cl S0 v) (w : Vw S v F ft) (hT : tyOk v) (hn : 20 ≤ n) (bits : Int32) : ∃ r S0' S', Scr S0 S0' ∧ Scr S S' ∧ rowEq S0' S' ∧ f_X3_work n S0 bits (v 33 2) (v 33 3) = some (r, S0') ∧ f_X9_mends n S bits = some (r, S') := by
  have hF := g.1
  obtain ⟨S1, a1, a2, a3, a4, a5⟩ := fill_c (n := n) (q := 21) (w := 10) (by omega) (by omega) 0 S0
  obtain ⟨S2, b1, b2, b3⟩ := fill_47 (n := n) bits (nI F) 10 0 S (by omega) (fun k h => by omega) n (by omega)
  have s1 : Scr S0 S1 := fun q h _ _ => a2 q h
  have hu := g.2.2.2.2.2.2.2.2.2.2.2.2
  obtain ⟨fr, hfr, efr⟩ : ∃ fr : Int32, ((v 33 2 + v 33 3 = 0 ∧ fr = 1) ∨ (¬ v 33 2 + v 33 3 = 0 ∧ fr = 0)) ∧ (∀ (A B : Option (Int32 × xS)), (if v 33 2 = 0 then (if v 33 3 = 0 then A else B) else B) = if fr = 1 then A else B) := by
    have e0 : (0 : Int32).toInt = 0 := rfl
    have es : (v 33 2 + v 33 3).toInt = (v 33 2).toInt + (v 33 3).toInt := tI_add (by omega)
    by_cases y1 : (v 33 2).toInt = 0
    · have z1 : v 33 2 = 0 := eqI.mpr y1
      by_cases y2 : (v 33 3).toInt = 0
      · have z2 : v 33 3 = 0 := eqI.mpr y2
        exact ⟨1, Or.inl ⟨eqI.mpr (by omega), rfl⟩, fun A B => by rw [if_pos z1, if_pos z2, if_pos rfl]⟩
      · exact ⟨0, Or.inr ⟨fun q => by have := eqI.mp q; omega, rfl⟩, fun A B => by rw [if_pos z1, if_neg (fun q => y2 (eqI.mp q)), if_neg (by decide)]⟩
    · exact ⟨0, Or.inr ⟨fun q => by have := eqI.mp q; omega, rfl⟩, fun A B => by rw [if_neg (fun q => y1 (eqI.mp q)), if_neg (by decide)]⟩
  obtain ⟨r, S0', S', y1, y2, y3, y4, y5⟩ := mend_L (n := n) g hT hn bits fr hfr F 1 0 S1 S2 0 (by omega) (by omega) (c.scr s1) (w.scr hT b2) (fun k hk => by rw [a1 k hk, b1 k hk]) n n (by omega) (by omega)
  refine ⟨r, S0', S', s1.tr y1, b2.tr y2, y3, ?_, ?_⟩
  · unfold f_X3_work
    rw [a5, ob, efr, ← y4]
    rcases hfr with ⟨_, h2⟩ | ⟨_, h2⟩
    · rw [h2, if_pos rfl]; rfl
    · rw [h2, if_neg (by decide)]; rfl
  · unfold f_X9_mends
    rw [fl_now w hn, ob]
    show l_X9_mends_7 n n S bits (nI F) (nI 0) = _
    rw [b3, ← y5, g.2.2.2.2.2.1, g.2.2.2.2.2.2.1]
    rfl
end ME
