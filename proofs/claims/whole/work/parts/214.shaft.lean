def sLo (v : Nat → Nat → Int32) (f : Nat) : Nat → Int32
  | 0 => v 19 f
  | m + 1 => xmin (sLo v f m) (v 19 (f + m + 1))
def sHi (v : Nat → Nat → Int32) (f : Nat) : Nat → Int32
  | 0 => v 19 f
  | m + 1 => xmax (sHi v f m) (v 19 (f + m + 1))
def spr (v : Nat → Nat → Int32) (f m : Nat) : Int32 := sHi v f m - sLo v f m
theorem xmin_I (x y : Int32) : (xmin x y).toInt = min x.toInt y.toInt := by
  unfold xmin
  split
  · rename_i h; have := ltI.mp h; omega
  · rename_i h
    have : ¬ y.toInt < x.toInt := fun z => h (ltI.mpr z)
    omega
theorem xmax_I (x y : Int32) : (xmax x y).toInt = max x.toInt y.toInt := by
  unfold xmax
  split
  · rename_i h; have := ltI.mp h; omega
  · rename_i h
    have : ¬ x.toInt < y.toInt := fun z => h (ltI.mpr z)
    omega
section SH
variable {S S0 : xS} {v : Nat → Nat → Int32} {F n : Nat} {ft : Int32}
theorem s_rg (g : Gd v F ft) {f : Nat} : ∀ m, f + m ≤ F → -99 ≤ (sLo v f m).toInt ∧ (sLo v f m).toInt ≤ (sHi v f m).toInt ∧ (sHi v f m).toInt ≤ 99
  | 0, h => by
    have := g.2.2.2.2.2.2.2.2.1 f (by have := g.1; omega)
    exact ⟨this.1, Int.le_refl _, this.2⟩
  | m + 1, h => by
    have h1 := s_rg g (f := f) m (by omega)
    have h2 := g.2.2.2.2.2.2.2.2.1 (f + m + 1) (by have := g.1; omega)
    show _ ≤ (xmin _ _).toInt ∧ (xmin _ _).toInt ≤ (xmax _ _).toInt ∧ (xmax _ _).toInt ≤ _
    rw [xmin_I, xmax_I]
    omega
theorem spr_I (g : Gd v F ft) {f m : Nat} (h : f + m ≤ F) : (spr v f m).toInt = (sHi v f m).toInt - (sLo v f m).toInt ∧ 0 ≤ (spr v f m).toInt ∧ (spr v f m).toInt ≤ 198 := by
  have := s_rg g m h
  unfold spr
  rw [tI_sub (by omega)]
  omega
theorem spr_mono (g : Gd v F ft) {f m : Nat} (h : f + m + 1 ≤ F) : (spr v f m).toInt ≤ (spr v f (m + 1)).toInt := by
  rw [(spr_I g (f := f) (m := m) (by omega)).1, (spr_I g (f := f) (m := m + 1) (by omega)).1]
  show (sHi v f m).toInt - _ ≤ (xmax (sHi v f m) _).toInt - (xmin (sLo v f m) _).toInt
  rw [xmax_I, xmin_I]
  omega
theorem spr_mono2 (g : Gd v F ft) {f m : Nat} : ∀ k, f + m + k ≤ F → (spr v f m).toInt ≤ (spr v f (m + k)).toInt
  | 0, _ => Int.le_refl _
  | k + 1, h => Int.le_trans (spr_mono2 g k (by omega)) (spr_mono g (by omega))
theorem c_sprL (g : Gd v F ft) (c : Cl S0 v) {f t : Nat} (ht : t ≤ F) : ∀ (k m : Nat), f + m + k = t → ∀ i, k + 1 ≤ i → l_X5_spread_15 n S0 i (nI t) (sLo v f m) (sHi v f m) (nI (f + m + 1)) = some (spr v f (t - f)) := by
  intro k
  have hF := g.1
  induction k with
  | zero =>
    intro m hm i hi
    obtain ⟨i, rfl⟩ : ∃ x, i = x + 1 := ⟨i - 1, by omega⟩
    show b_X5_spread_15 n _ S0 (nI t) (sLo v f m) (sHi v f m) (nI (f + m + 1)) = _
    unfold b_X5_spread_15
    rw [iflt (by omega) (by omega), if_pos (by omega), show t - f = m by omega]
    rfl
  | succ k ih =>
    intro m hm i hi
    obtain ⟨i, rfl⟩ : ∃ x, i = x + 1 := ⟨i - 1, by omega⟩
    show b_X5_spread_15 n (l_X5_spread_15 n S0 i) S0 (nI t) (sLo v f m) (sHi v f m) (nI (f + m + 1)) = _
    unfold b_X5_spread_15
    rw [iflt (by omega) (by omega), if_neg (by omega), xgn (by omega) (by omega), xgn (by omega) (by omega), cln (by omega), c 19 (by decide), ad1]
    exact ih (m + 1) (by omega) i (by omega)
theorem c_spr (g : Gd v F ft) (c : Cl S0 v) {f t : Nat} (hf : f ≤ t) (ht : t ≤ F) (hn : 20 ≤ n) : f_X5_spread n S0 (nI f) (nI t) = some (spr v f (t - f)) := by
  have hF := g.1
  unfold f_X5_spread
  rw [xgn (by omega) (by omega), cln (by omega), c 19 (by decide), show nI f + 1 = nI (f + 1) from ad1 f]
  exact c_sprL (n := n) g c ht (t - f) 0 (by omega) n (by omega)
theorem m_sprL (w : Vw S v F ft) {f t : Nat} (ht : t ≤ F) : ∀ (k m : Nat), f + m + k = t → ∀ i, k + 1 ≤ i → l_X9_spread_18 n S i (nI t) (sLo v f m) (sHi v f m) (nI (f + m + 1)) = some (spr v f (t - f)) := by
  intro k
  have hF := w.1.1
  have h43 := w.2.2.1.2.2.2.2.2.1
  induction k with
  | zero =>
    intro m hm i hi
    obtain ⟨i, rfl⟩ : ∃ x, i = x + 1 := ⟨i - 1, by omega⟩
    show b_X9_spread_18 n _ S (nI t) (sLo v f m) (sHi v f m) (nI (f + m + 1)) = _
    unfold b_X9_spread_18
    rw [iflt (by omega) (by omega), if_pos (by omega), show t - f = m by omega]
    rfl
  | succ k ih =>
    intro m hm i hi
    obtain ⟨i, rfl⟩ : ∃ x, i = x + 1 := ⟨i - 1, by omega⟩
    have step : l_X9_spread_18 n S (i + 1) (nI t) (sLo v f m) (sHi v f m) (nI (f + m + 1)) = l_X9_spread_18 n S i (nI t) (sLo v f (m + 1)) (sHi v f (m + 1)) (nI (f + (m + 1) + 1)) := by
      show b_X9_spread_18 n (l_X9_spread_18 n S i) S (nI t) (sLo v f m) (sHi v f m) (nI (f + m + 1)) = _
      have e46 : ∀ s0, j_X9_spread_46 n (l_X9_spread_18 n S i) S (nI t) (sHi v f m) (nI (f + m + 1)) s0 = l_X9_spread_18 n S i (nI t) s0 (sHi v f (m + 1)) (nI (f + (m + 1) + 1)) := by
        intro s0
        unfold j_X9_spread_46
        rw [xgn (by omega) (by omega), cln (by omega), h43, xgn (by omega) (by omega), ad1]
        show _ = l_X9_spread_18 n S i (nI t) s0 (xmax (sHi v f m) (v 19 (f + m + 1))) _
        unfold xmax
        by_cases q : v 19 (f + m + 1) ≤ sHi v f m
        · rw [if_pos q, if_neg (Int32.not_lt.mpr q)]; rfl
        · rw [if_neg q, if_pos (Int32.not_le.mp q)]; rfl
      unfold b_X9_spread_18
      rw [iflt (by omega) (by omega), if_neg (by omega), xgn (by omega) (by omega), e46, e46, xgn (by omega) (by omega), cln (by omega), h43]
      show _ = l_X9_spread_18 n S i (nI t) (xmin (sLo v f m) (v 19 (f + m + 1))) _ _
      unfold xmin
      by_cases q : sLo v f m ≤ v 19 (f + m + 1)
      · rw [if_pos q, if_neg (Int32.not_lt.mpr q)]
      · rw [if_neg q, if_pos (Int32.not_le.mp q)]
    rw [step]
    exact ih (m + 1) (by omega) i (by omega)
theorem m_spr (w : Vw S v F ft) {f t : Nat} (hf : f ≤ t) (ht : t ≤ F) (hn : 20 ≤ n) : f_X9_spread n S (nI f) (nI t) = some (spr v f (t - f)) := by
  have hF := w.1.1
  have h43 := w.2.2.1.2.2.2.2.2.1
  unfold f_X9_spread
  rw [xgn (by omega) (by omega), xgn (by omega) (by omega), cln (by omega), h43]
  obtain ⟨i, rfl⟩ : ∃ x, n = x + 1 := ⟨n - 1, by omega⟩
  show b_X9_spread_18 (i + 1) (l_X9_spread_18 (i + 1) S i) S (nI t) (v 19 f) (v 19 f) (nI f) = _
  unfold b_X9_spread_18 j_X9_spread_46
  rw [iflt (by omega) (by omega), if_neg (by omega), xgn (by omega) (by omega), xgn (by omega) (by omega), cln (by omega), h43, if_pos (Int32.le_refl _), if_pos (Int32.le_refl _), ad1]
  exact m_sprL (n := i + 1) w ht (t - f) 0 (by omega) i (by omega)
/-! runs, lifts -/
theorem op_runs {S : xS} (hI : Inv S) (hn : 20 ≤ n) (a1 a2 a3 : Int32) : ∃ r S2, f_X8_runs n S a1 a2 a3 = some r ∧ f_X9_runs n S a1 a2 a3 = some (r, S2) ∧ Inv S2 := by
  obtain ⟨T, F, ft, g, w, i1, i2, i3⟩ := hI.ask
  have hF := g.1
  unfold f_X8_runs f_X9_runs
  rw [wi_eq, show f_X8_isSill S a2 = f_X9_in a2 0 (S.1 4 3) from rfl, show f_X8_isSill S a3 = f_X9_in a3 0 (S.1 4 3) from rfl, g.2.1]
  by_cases h1 : f_X9_in a1 1 999 = 0
  · rw [if_pos h1, if_pos h1]; exact ⟨_, S, rfl, rfl, hI⟩
  · rw [if_neg h1, if_neg h1]
    by_cases h2 : a2 < 0
    · rw [if_pos h2]
      have : f_X9_in a2 0 (nI F) = 0 := in_no fun z => absurd h2 (Int32.not_lt.mpr z.1)
      rw [if_pos this]; exact ⟨_, S, rfl, rfl, hI⟩
    · rw [if_neg h2, i3 n hn, ob]
      have h02 : (0 : Int32) ≤ a2 := Int32.not_lt.mp h2
      by_cases h3 : f_X9_in a3 a2 (nI F) = 0
      · rw [if_pos (show f_X9_in a3 a2 (nI F, RD S T).1 = 0 from h3)]
        refine ⟨-2, RD S T, ?_, rfl, i1⟩
        by_cases q1 : f_X9_in a2 0 (nI F) = 0
        · rw [if_pos q1]
        · rw [if_neg q1]
          by_cases q2 : f_X9_in a3 0 (nI F) = 0
          · rw [if_pos q2]
          · rw [if_neg q2]
            have q3 := in_rg q2
            rw [if_neg (fun z => in_iff.mp h3 ⟨z, leI.mpr q3.2⟩)]
      · rw [if_neg (show ¬ f_X9_in a3 a2 (nI F, RD S T).1 = 0 from h3)]
        have r3 := in_rg h3
        have r0 := leI.mp h02
        rw [show (0 : Int32).toInt = 0 from rfl] at r0
        rw [tin (by omega)] at r3
        obtain ⟨f, -, ef, tf⟩ := nat_of (x := a2) r0
        obtain ⟨t, -, et, tt⟩ := nat_of (x := a3) (by omega)
        subst ef; subst et
        rw [tf, tt] at r3
        rw [if_neg (by rw [n0, in_nI (by omega) (by omega) (by omega)]; decide), if_neg (by rw [n0, in_nI (by omega) (by omega) (by omega)]; decide), if_pos (by rw [len (by omega) (by omega)]; omega), c_spr g (Cl.rf S) (by omega) (by omega) hn, ob]
        show ∃ r S2, _ ∧ ((f_X9_spread n (RD S T) (nI f) (nI t)).bind fun r6 => (if (RD S T).1 37 (1 : Int32).toNatClampNeg - a1 < r6 then some (0, RD S T) else some (1, RD S T))) = _ ∧ _
        rw [m_spr w (by omega) (by omega) hn, ob, w.2.2.1.2.2.1]
        by_cases q : S.1 33 (1 : Int32).toNatClampNeg - a1 < spr S.1 f (t - f)
        · rw [if_pos q, if_pos q]; exact ⟨_, _, rfl, rfl, i1⟩
        · rw [if_neg q, if_neg q]; exact ⟨_, _, rfl, rfl, i1⟩
theorem lifts_b (g : Gd v F ft) (c : Cl S0 v) (w : Vw S v F ft) (hn : 20 ≤ n) : ∃ r, f_X8_lifts n S0 = some r ∧ f_X9_liftsNow n S = some (r, S) := by
  unfold f_X8_lifts f_X9_liftsNow
  rw [c 4 (by decide), g.2.1, n0, c_spr g c (by omega) (Nat.le_refl F) hn, ob, fl_now w hn, ob]
  show ∃ r, _ ∧ ((f_X9_spread n S (nI 0) (nI F)).bind fun r3 => (if nI 0 ≤ S.1 37 (1 : Int32).toNatClampNeg - r3 then some (S.1 37 (1 : Int32).toNatClampNeg - r3, S) else some (nI 0, S))) = _
  rw [m_spr w (by omega) (Nat.le_refl F) hn, ob, w.2.2.1.2.2.1, c 33 (by decide)]
  generalize v 33 (1 : Int32).toNatClampNeg - spr v 0 (F - 0) = y
  unfold xmax
  by_cases q : nI 0 < y
  · rw [if_pos q, if_pos (Int32.le_of_lt q)]; exact ⟨_, rfl, rfl⟩
  · rw [if_neg q]
    by_cases q2 : nI 0 ≤ y
    · rw [if_pos q2, show y = nI 0 from Int32.le_antisymm (Int32.not_lt.mp q) q2]; exact ⟨_, rfl, rfl⟩
    · rw [if_neg q2]; exact ⟨_, rfl, rfl⟩
theorem op_lifts {S : xS} (hI : Inv S) (hn : 20 ≤ n) : ∃ r S2, f_X8_lifts n S = some r ∧ f_X9_lifts n S = some (r, S2) ∧ Inv S2 := by
  obtain ⟨T, F, ft, g, w, i1, i2, i3⟩ := hI.ask
  obtain ⟨r, r1, r2⟩ := lifts_b (n := n) g (Cl.rf S) w hn
  refine ⟨r, RD S T, r1, ?_, i1⟩
  have e : f_X9_liftsNow n S = f_X9_liftsNow n (RD S T) := by
    unfold f_X9_liftsNow
    rw [i3 n hn, fl_now w hn, RD_q (q := 37) (by decide) (by decide) (by decide)]
  unfold f_X9_lifts
  rw [e, r2, ob]
end SH
