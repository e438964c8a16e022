def Rk (S : xS) (f : Nat) : Prop := S.1 10 f = S.1 2 (S.1 6 f).toNatClampNeg * S.1 7 f / 12 ∧ S.1 11 f = cutv (S.1 2) (S.1 3) (S.1 10 f) (S.1 8 f).toNatClampNeg ∧ S.1 13 (f + 1) = S.1 13 f + (S.1 11 f + S.1 12 f) ∧ S.1 14 (f + 1) = S.1 14 f + S.1 10 f
def rowOk (S : xS) (F : Nat) : Prop := ∀ f, f < F → (∃ i : Nat, i < 3 ∧ S.1 6 f = nI i) ∧ (12 ≤ (S.1 7 f).toInt ∧ (S.1 7 f).toInt ≤ 1199) ∧ ∃ j : Nat, j < 9 ∧ S.1 8 f = nI j
def Rfr (S S' : xS) (d : Nat) : Prop := (∀ q k, ¬ ((q = 10 ∨ q = 11) ∧ d ≤ k) → ¬ ((q = 13 ∨ q = 14) ∧ d < k) → S'.1 q k = S.1 q k) ∧ S'.2 = S.2
theorem Rfr.tr {S S' S'' : xS} {d : Nat} (h : Rfr S S' d) (h' : Rfr S' S'' (d + 1)) : Rfr S S'' d := ⟨fun q k h1 h2 => (h'.1 q k (fun z => h1 ⟨z.1, by omega⟩) (fun z => h2 ⟨z.1, by omega⟩)).trans (h.1 q k h1 h2), h'.2.trans h.2⟩
theorem Rfr.q {S S' : xS} {d q : Nat} (h : Rfr S S' d) (h1 : q ≠ 10) (h2 : q ≠ 11) (h3 : q ≠ 13) (h4 : q ≠ 14) : S'.1 q = S.1 q := funext fun k => h.1 q k (fun z => by omega) (fun z => by omega)
theorem c_built {S : xS} {n f : Nat} (h : f < 10) : f_X7_built n S (nI f) = some (S.1 11 f + S.1 12 f) := by
  unfold f_X7_built
  rw [xgn h (by omega), xgn h (by omega), cln (by omega)]
theorem c_master {S : xS} {n f j : Nat} (h : f < 10) (hj : S.1 8 f = nI j) (h9 : j < 9) : f_X4_master n S (nI f) = some (nI (j / 3)) := by
  unfold f_X4_master
  rw [xgn h (by omega), cln (by omega), hj, dv3 (by omega)]
theorem c_habit {S : xS} {n f j : Nat} (h : f < 10) (hj : S.1 8 f = nI j) (h9 : j < 9) : f_X4_habit n S (nI f) = some (nI (j % 3)) := by
  unfold f_X4_habit
  rw [xgn h (by omega), cln (by omega), hj, rm3 (by omega)]
theorem c_reckL {n F : Nat} (hF : F ≤ 10) : ∀ (m d : Nat) (S : xS), d + m = F → S.1 4 3 = nI F → rowOk S F → szOk (S.1 2) (S.1 3) → ∀ j, m + 1 ≤ j → ∃ S', l_X7_reckon_2 n j S (nI d) = some S' ∧ Rfr S S' d ∧ ∀ f, d ≤ f → f < F → Rk S' f := by
  intro m
  induction m with
  | zero =>
    intro d S hd h43 hr hs j hj
    obtain ⟨i, rfl⟩ : ∃ i, j = i + 1 := ⟨j - 1, by omega⟩
    refine ⟨S, ?_, ⟨fun _ _ _ _ => rfl, rfl⟩, fun f h1 h2 => by omega⟩
    show b_X7_reckon_2 n (l_X7_reckon_2 n i) S (nI d) = _
    unfold b_X7_reckon_2
    rw [h43, ifle (by omega) (by omega), if_pos (by omega)]
  | succ m ih =>
    intro d S hd h43 hr hs j hj
    obtain ⟨i, rfl⟩ : ∃ i, j = i + 1 := ⟨j - 1, by omega⟩
    obtain ⟨⟨u, hu, hu6⟩, htw, w, hw, hw8⟩ := hr d (by omega)
    show ∃ S', b_X7_reckon_2 n (l_X7_reckon_2 n i) S (nI d) = some S' ∧ _
    unfold b_X7_reckon_2
    rw [h43, ifle (by omega) (by omega), if_neg (by omega), cln (show d < 2147483648 by omega), hu6, xgn (by omega) (by omega), xgn hu (by omega), xgn (by omega) (by omega), xgn (by omega) (by omega), xgn (by omega) (by omega), cln (show u < 2147483648 by omega)]
    generalize hM : S.1 2 u * S.1 7 d / 12 = M
    generalize e1 : xst S 10 d M = S1
    have s1 : ∀ q, q ≠ 10 → S1.1 q = S.1 q := fun q h => by rw [← e1]; exact xst_ne h
    have s1d : S1.1 10 d = M := by rw [← e1, xst_eq]
    have hw1 : S1.1 8 d = nI w := by rw [s1 8 (by decide)]; exact hw8
    rw [c_master (by omega) hw1 hw, ob, c_habit (by omega) hw1 hw, ob, c_cut (by rw [s1 2 (by decide), s1 3 (by decide)]; exact hs) hw, ob, s1d, s1 2 (by decide), s1 3 (by decide)]
    generalize hC : cutv (S.1 2) (S.1 3) M w = C
    generalize e2 : xst S1 11 d C = S2
    have s2 : ∀ q, q ≠ 10 → q ≠ 11 → S2.1 q = S.1 q := fun q h h' => by rw [← e2, xst_ne h']; exact s1 q h
    have s2d : S2.1 11 d = C := by rw [← e2, xst_eq]
    have s2m : S2.1 10 d = M := by rw [← e2, xst_q (by decide)]; exact s1d
    rw [xgn (by omega) (by omega), xgn (by omega) (by omega), c_built (by omega), ob, ad1, xgn (by omega) (by omega), xgn (by omega) (by omega), xgn (by omega) (by omega), xgn (by omega) (by omega), cln (show d + 1 < 2147483648 by omega), s2d, s2 12 (by decide) (by decide), s2 13 (by decide) (by decide)]
    generalize hX : S.1 13 d + (C + S.1 12 d) = X
    generalize e3 : xst S2 13 (d + 1) X = S3
    have s3m : S3.1 10 d = M := by rw [← e3, xst_q (by decide)]; exact s2m
    have s314 : S3.1 14 = S.1 14 := by rw [← e3, xst_ne (by decide)]; exact s2 14 (by decide) (by decide)
    rw [s3m, s314]
    generalize hY : S.1 14 d + M = Y
    generalize e4 : xst S3 14 (d + 1) Y = S4
    have s4 : ∀ q, q ≠ 10 → q ≠ 11 → q ≠ 13 → q ≠ 14 → S4.1 q = S.1 q := fun q a b c e => by rw [← e4, xst_ne e, ← e3, xst_ne c]; exact s2 q a b
    have s4f : Rfr S S4 d := by
      refine ⟨fun q k h1 h2 => ?_, by rw [← e4, ← e3, ← e2, ← e1]; rfl⟩
      rw [← e4, ← e3, ← e2, ← e1]
      show (if q = 14 ∧ k = d + 1 then Y else if q = 13 ∧ k = d + 1 then X else if q = 11 ∧ k = d then C else if q = 10 ∧ k = d then M else S.1 q k) = S.1 q k
      rw [if_neg (by omega), if_neg (by omega), if_neg (by omega), if_neg (by omega)]
    have q10 : S4.1 10 d = M := by rw [← e4, xst_q (by decide)]; exact s3m
    have q11 : S4.1 11 d = C := by rw [← e4, xst_q (by decide), ← e3, xst_q (by decide)]; exact s2d
    have q13 : S4.1 13 (d + 1) = X := by rw [← e4, xst_q (by decide), ← e3, xst_eq]
    have q14 : S4.1 14 (d + 1) = Y := by rw [← e4, xst_eq]
    have q13d : S4.1 13 d = S.1 13 d := s4f.1 13 d (by omega) (by omega)
    have q14d : S4.1 14 d = S.1 14 d := s4f.1 14 d (by omega) (by omega)
    obtain ⟨S5, g1, g2, g3⟩ := ih (d + 1) S4 (by omega) (by rw [s4 4 (by decide) (by decide) (by decide) (by decide)]; exact h43) (fun f hf => by rw [s4 6 (by decide) (by decide) (by decide) (by decide), s4 7 (by decide) (by decide) (by decide) (by decide), s4 8 (by decide) (by decide) (by decide) (by decide)]; exact hr f hf) (by rw [s4 2 (by decide) (by decide) (by decide) (by decide), s4 3 (by decide) (by decide) (by decide) (by decide)]; exact hs) i (by omega)
    refine ⟨S5, g1, s4f.tr g2, fun f h1 h2 => ?_⟩
    by_cases hfd : f = d
    · subst hfd
      have k5 : ∀ q, q ≠ 10 → q ≠ 11 → q ≠ 13 → q ≠ 14 → S5.1 q = S.1 q := fun q a b c e => (g2.q a b c e).trans (s4 q a b c e)
      refine ⟨?_, ?_, ?_, ?_⟩
      · rw [g2.1 10 f (by omega) (by omega), q10, k5 2 (by decide) (by decide) (by decide) (by decide), k5 6 (by decide) (by decide) (by decide) (by decide), k5 7 (by decide) (by decide) (by decide) (by decide), hu6, cln (by omega), hM]
      · rw [g2.1 11 f (by omega) (by omega), q11, g2.1 10 f (by omega) (by omega), q10, k5 2 (by decide) (by decide) (by decide) (by decide), k5 3 (by decide) (by decide) (by decide) (by decide), k5 8 (by decide) (by decide) (by decide) (by decide), hw8, cln (by omega), hC]
      · rw [g2.1 13 (f + 1) (by omega) (by omega), q13, g2.1 13 f (by omega) (by omega), q13d, g2.1 11 f (by omega) (by omega), q11, k5 12 (by decide) (by decide) (by decide) (by decide), hX]
      · rw [g2.1 14 (f + 1) (by omega) (by omega), q14, g2.1 14 f (by omega) (by omega), q14d, g2.1 10 f (by omega) (by omega), q10, hY]
    · exact g3 f (by omega) h2
theorem c_reck {S : xS} {n F : Nat} (hF : F ≤ 10) (h43 : S.1 4 3 = nI F) (hr : rowOk S F) (hs : szOk (S.1 2) (S.1 3)) (hn : 20 ≤ n) : ∃ S', f_X7_reckon n S = some S' ∧ Rfr S S' 0 ∧ ∀ f, f < F → Rk S' f := by
  obtain ⟨S', g1, g2, g3⟩ := c_reckL (n := n) hF F 0 S (by omega) h43 hr hs n (by omega)
  exact ⟨S', g1, g2, fun f h => g3 f (Nat.zero_le f) h⟩
/-! what holds between the calls -/
def sheetOk (S : xS) : Prop := ∀ s, s < 4 → (S.1 48 s = 0 ∧ S.1 (25 + s) 1 = -1) ∨ (S.1 48 s = 1 ∧ S.1 (25 + s) 1 = S.1 49 s ∧ (∃ m : Nat, m ≤ 2 ∧ S.1 49 s = nI m) ∧ S.1 (25 + s) 2 = S.1 50 s ∧ (∃ z : Nat, z ≤ 48 ∧ S.1 50 s = nI z) ∧ ∀ i, i < 48 → S.1 (25 + s + 4) i = S.1 51 (48 * s + i))
/-- the numbers that are set, in the class, and the same in the reference -/
def baseOk (S : xS) (T : Nat) : Prop := T ≤ 80 ∧ S.1 4 1 = nI T ∧ S.1 34 3 = nI T ∧ S.1 38 = S.1 5 ∧ S.1 35 = S.1 2 ∧ S.1 36 = S.1 3 ∧ S.1 37 = S.1 33 ∧ S.1 41 = S.1 12 ∧ S.1 42 = S.1 16 ∧ S.1 43 = S.1 19 ∧ S.1 44 = S.1 23 ∧ S.1 34 20 = S.1 0 9
def numOk (S : xS) : Prop := szOk (S.1 2) (S.1 3) ∧ (∀ k, k < 10 → -99 ≤ (S.1 12 k).toInt ∧ (S.1 12 k).toInt ≤ 99) ∧ (∀ k, k < 11 → -99 ≤ (S.1 19 k).toInt ∧ (S.1 19 k).toInt ≤ 99) ∧ (∀ k, k < 10 → 0 ≤ (S.1 23 k).toInt ∧ (S.1 23 k).toInt ≤ 99) ∧ (0 ≤ (S.1 33 0).toInt ∧ (S.1 33 0).toInt ≤ 99) ∧ (1 ≤ (S.1 33 1).toInt ∧ (S.1 33 1).toInt ≤ 999) ∧ (0 ≤ (S.1 33 2).toInt ∧ (S.1 33 2).toInt ≤ 9) ∧ (0 ≤ (S.1 33 3).toInt ∧ (S.1 33 3).toInt ≤ 9)
def derOk (S : xS) (T : Nat) : Prop := Sc S 0 (pzW (S.1 5) T) ∧ (∀ f, f < pzF (pzW (S.1 5) T) → Rk S f) ∧ S.1 13 0 = 0 ∧ S.1 14 0 = 0
def Inv (S : xS) : Prop := ∃ T, baseOk S T ∧ numOk S ∧ derOk S T ∧ sheetOk S
