section RD1
variable {S : xS} {v : Nat → Nat → Int32} {F n : Nat} {ft : Int32}
theorem Vw.c (w : Vw S v F ft) (q : Nat) (h : q ∈ coreC := by decide) : S.1 q = v q := w.2.1 q h
theorem fl_now (w : Vw S v F ft) (hn : 20 ≤ n) : f_X9_floorsNow n S = some (nI F, S) := by
  unfold f_X9_floorsNow
  rw [w.2.2.2 n hn, ob, w.2.2.1.2.2.2.2.2.2.2.2.1]
theorem fl_rd {S : xS} {T n : Nat} (hb : baseOk S T) (hn : 20 ≤ n) : f_X9_floorsNow n S = some (nI (pzF (pzW (S.1 5) T)), RD S T) := by
  unfold f_X9_floorsNow
  rw [Inv.rd hb hn, ob, RD_F, hb.2.2.2.1]
theorem isfl {a : Int32} (hF : F ≤ 10) (h : ¬ f_X9_in a 0 (nI F - 1) = 0) : ∃ f : Nat, f < F ∧ a = nI f := by
  by_cases h0 : F = 0
  · subst h0
    have h1 := in_rg h
    rw [show (0 : Int32).toInt = 0 from rfl, show (nI 0 - 1).toInt = -1 from rfl] at h1
    omega
  · rw [n0, n1, sbn (by omega)] at h
    obtain ⟨j, -, h2, h3⟩ := in_nat (by omega) h (by decide)
    exact ⟨j, by omega, h3⟩
theorem isfl_y {f : Nat} (hF : F ≤ 10) (h : f < F) : f_X9_in (nI f) 0 (nI F - 1) = 1 := by
  rw [n0, n1, sbn (by omega)]
  exact in_nI (by omega) (by omega) (by omega)
theorem m_built (w : Vw S v F ft) {f : Nat} (h : f < F) : f_X9_builtOf n S (nI f) = some (v 11 f + v 12 f) := by
  obtain ⟨⟨hF, g2, g3, g4, g5, -⟩, hc, ⟨m1, m2, m3, m4, m5, m6, m7, m8, m9, m10⟩, -⟩ := w
  obtain ⟨M, C, j, hM, hC, hj, eM, eC, ej, ec, -⟩ := g5 f h
  unfold f_X9_builtOf
  rw [xgn (by omega) (by omega), xgn (by omega) (by omega), cln (by omega), (m10 f h).1, (m10 f h).2, ej, m_cut (by rw [m1, m2]; exact g4) hj, ob, xgn (by omega) (by omega), m1, m2, ← ec, m4]
theorem m_sillL (w : Vw S v F ft) (a2 : Int32) {f : Nat} (hf : f ≤ F) : ∀ (m k : Nat), k + m = f → ∀ j, m + 1 ≤ j → l_X9_sillOf_8 n S j (nI f) a2 (v 13 k) (v 14 k) (nI k) = some (if a2 = 0 then v 13 f else if a2 = 1 then v 14 f else v 13 f - v 14 f) := by
  intro m
  have hF := w.1.1
  induction m with
  | zero =>
    intro k hk j hj
    obtain ⟨i, rfl⟩ : ∃ i, j = i + 1 := ⟨j - 1, by omega⟩
    have : k = f := by omega
    subst this
    show b_X9_sillOf_8 n (l_X9_sillOf_8 n S i) S (nI k) a2 (v 13 k) (v 14 k) (nI k) = _
    unfold b_X9_sillOf_8
    rw [ifle (by omega) (by omega), if_pos (by omega)]
    by_cases c1 : a2 = 0
    · rw [if_pos c1, if_pos c1]
    · rw [if_neg c1, if_neg c1]
      by_cases c2 : a2 = 1
      · rw [if_pos c2, if_pos c2]
      · rw [if_neg c2, if_neg c2]
  | succ m ih =>
    intro k hk j hj
    obtain ⟨i, rfl⟩ : ∃ i, j = i + 1 := ⟨j - 1, by omega⟩
    show b_X9_sillOf_8 n (l_X9_sillOf_8 n S i) S (nI f) a2 (v 13 k) (v 14 k) (nI k) = _
    unfold b_X9_sillOf_8
    rw [ifle (by omega) (by omega), if_neg (by omega), m_built w (by omega), ob, xgn (by omega) (by omega), cln (by omega), (w.2.2.1.2.2.2.2.2.2.2.2.2 k (by omega)).1, ad1]
    obtain ⟨M, C, j', hM, hC, hj', eM, eC, ej, ec, e13, e14⟩ := w.1.2.2.2.2.1 k (by omega)
    rw [← e13, ← e14]
    exact ih (k + 1) (by omega) i (by omega)
theorem m_sill (w : Vw S v F ft) (a2 : Int32) {f : Nat} (hf : f ≤ F) (hn : 20 ≤ n) : f_X9_sillOf n S (nI f) a2 = some (if a2 = 0 then v 13 f else if a2 = 1 then v 14 f else v 13 f - v 14 f) := by
  have hF := w.1.1
  unfold f_X9_sillOf
  have := m_sillL (n := n) w a2 hf f 0 (by omega) n (by omega)
  rw [w.1.2.2.2.2.2.1, w.1.2.2.2.2.2.2.1] at this
  exact this
theorem m_off (w : Vw S v F ft) {f : Nat} (hf : f ≤ F) (hn : 20 ≤ n) : f_X9_sillOf n S (nI f) 2 = some (v 13 f - v 14 f) := m_sill w 2 hf hn
theorem c_off {S : xS} {n f : Nat} (h : f ≤ 10) : f_X7_off n S (nI f) = some (S.1 13 f - S.1 14 f) := by
  unfold f_X7_off
  rw [xgn (by omega) (by omega), xgn (by omega) (by omega), cln (by omega)]
/-- floor(): what both answer -/
def vFloor (v : Nat → Nat → Int32) (f : Nat) (a : Int32) : Int32 := if a = 0 then v 10 f else if a = 1 then v 11 f + v 12 f else if a = 2 then v 8 f / 3 else if a = 3 then v 8 f - v 8 f / 3 * 3 else if a = 4 then v 16 f else v 12 f
theorem m_floorOf (w : Vw S v F ft) {f : Nat} (h : f < F) (a : Int32) : f_X9_floorOf n S (nI f) a = some (vFloor v f a) := by
  have hF := w.1.1
  unfold f_X9_floorOf vFloor
  obtain ⟨m1, m2, m3, m4, m5, m6, m7, m8, m9, m10⟩ := w.2.2.1
  rw [xgn (by omega) (by omega), xgn (by omega) (by omega), xgn (by omega) (by omega), xgn (by omega) (by omega), xgn (by omega) (by omega), cln (by omega), (m10 f h).1, (m10 f h).2, m5, m4, m_built w h, ob]
  by_cases c0 : a = 0
  · rw [if_pos c0, if_pos c0]
  · rw [if_neg c0, if_neg c0]
    by_cases c1 : a = 1
    · rw [if_pos c1, if_pos c1]
    · rw [if_neg c1, if_neg c1]
      by_cases c2 : a = 2
      · rw [if_pos c2, if_pos c2]
      · rw [if_neg c2, if_neg c2]
        by_cases c3 : a = 3
        · rw [if_pos c3, if_pos c3]
        · rw [if_neg c3, if_neg c3]
          by_cases c4 : a = 4
          · rw [if_pos c4, if_pos c4]
          · rw [if_neg c4, if_neg c4]
theorem in5 {a : Int32} (h : ¬ f_X9_in a 0 5 = 0) : a = 0 ∨ a = 1 ∨ a = 2 ∨ a = 3 ∨ a = 4 ∨ a = 5 := by
  obtain ⟨j, -, h2, h3⟩ := in_nat (lo := 0) (hi := 5) (by decide) h (by decide)
  rcases (show j = 0 ∨ j = 1 ∨ j = 2 ∨ j = 3 ∨ j = 4 ∨ j = 5 by omega) with rfl | rfl | rfl | rfl | rfl | rfl
  · exact Or.inl h3
  · exact Or.inr (Or.inl h3)
  · exact Or.inr (Or.inr (Or.inl h3))
  · exact Or.inr (Or.inr (Or.inr (Or.inl h3)))
  · exact Or.inr (Or.inr (Or.inr (Or.inr (Or.inl h3))))
  · exact Or.inr (Or.inr (Or.inr (Or.inr (Or.inr h3))))
theorem c_floor (g : Gd v F ft) (c : Cl S v) (a1 a2 : Int32) : f_X8_floor n S a1 a2 = some (if f_X9_in a1 0 (nI F - 1) = 0 then -100002 else if f_X9_in a2 0 5 = 0 then -100002 else vFloor v a1.toNatClampNeg a2) := by
  unfold f_X8_floor
  rw [show f_X8_isFloor S a1 = f_X9_in a1 0 (S.1 4 3 - 1) from rfl, c 4 (by decide), g.2.1]
  by_cases h : f_X9_in a1 0 (nI F - 1) = 0
  · rw [if_pos h, if_pos h]
  · rw [if_neg h, if_neg h]
    have hF := g.1
    obtain ⟨f, hf, rfl⟩ := isfl hF h
    obtain ⟨M, C, j, hM, hC, hj, eM, eC, ej, ec, e13, e14⟩ := g.2.2.2.2.1 f hf
    rw [xgn (by omega) (by omega), xgn (by omega) (by omega), xgn (by omega) (by omega), cln (by omega), c_built (by omega), ob]
    rw [c_master (f := f) (j := j) (by omega) (by rw [c 8 (by decide)]; exact ej) hj, c_habit (f := f) (j := j) (by omega) (by rw [c 8 (by decide)]; exact ej) hj, ob, ob]
    rw [c 10 (by decide), c 11 (by decide), c 12 (by decide), c 16 (by decide)]
    have e2 : nI (j / 3) = v 8 f / 3 := by rw [ej, dv3 (by omega)]
    have e3 : nI (j % 3) = v 8 f - v 8 f / 3 * 3 := by rw [ej, rm3 (by omega)]
    rw [e2, e3]
    unfold vFloor
    by_cases h5 : f_X9_in a2 0 5 = 0
    · rw [if_pos h5, if_neg (by rintro rfl; exact absurd h5 (by decide)), if_neg (by rintro rfl; exact absurd h5 (by decide)), if_neg (by rintro rfl; exact absurd h5 (by decide)), if_neg (by rintro rfl; exact absurd h5 (by decide)), if_neg (by rintro rfl; exact absurd h5 (by decide)), if_neg (by rintro rfl; exact absurd h5 (by decide))]
    · rw [if_neg h5]
      rcases in5 h5 with rfl | rfl | rfl | rfl | rfl | rfl <;> rfl
theorem c_sill (g : Gd v F ft) (c : Cl S v) (a1 a2 : Int32) : f_X8_sill n S a1 a2 = some (if f_X9_in a1 0 (nI F) = 0 then -100002 else if f_X9_in a2 0 2 = 0 then -100002 else if a2 = 0 then v 13 a1.toNatClampNeg else if a2 = 1 then v 14 a1.toNatClampNeg else v 13 a1.toNatClampNeg - v 14 a1.toNatClampNeg) := by
  unfold f_X8_sill
  rw [show f_X8_isSill S a1 = f_X9_in a1 0 (S.1 4 3) from rfl, c 4 (by decide), g.2.1]
  by_cases h : f_X9_in a1 0 (nI F) = 0
  · rw [if_pos h, if_pos h]
  · rw [if_neg h, if_neg h]
    have hF := g.1
    obtain ⟨f, -, hf, rfl⟩ := in_nat (lo := 0) (by omega) h (by decide)
    rw [xgn (by omega) (by omega), xgn (by omega) (by omega), cln (by omega), c_off (by omega), ob, c 13 (by decide), c 14 (by decide)]
    by_cases h5 : f_X9_in a2 0 2 = 0
    · rw [if_pos h5, if_neg (by rintro rfl; exact absurd h5 (by decide)), if_neg (by rintro rfl; exact absurd h5 (by decide)), if_neg (by rintro rfl; exact absurd h5 (by decide))]
    · rw [if_neg h5]
      obtain ⟨j, -, h2, rfl⟩ := in_nat (lo := 0) (hi := 2) (by decide) h5 (by decide)
      rcases (show j = 0 ∨ j = 1 ∨ j = 2 by omega) with rfl | rfl | rfl <;> rfl
theorem c_stairs (g : Gd v F ft) (c : Cl S v) (a1 a2 a3 : Int32) : f_X8_stairs n S a1 a2 a3 = some (if f_X9_in a1 0 (nI F - 1) = 0 then -100002 else if f_X9_in a2 1 40 = 0 then -100002 else if f_X9_in a3 1 99 = 0 then -100002 else v 11 a1.toNatClampNeg + v 12 a1.toNatClampNeg - a2 * a3) := by
  unfold f_X8_stairs
  rw [show f_X8_isFloor S a1 = f_X9_in a1 0 (S.1 4 3 - 1) from rfl, c 4 (by decide), g.2.1, wi_eq, wi_eq]
  by_cases h : f_X9_in a1 0 (nI F - 1) = 0
  · rw [if_pos h, if_pos h]
  · rw [if_neg h, if_neg h]
    have hF := g.1
    obtain ⟨f, hf, rfl⟩ := isfl hF h
    rw [c_built (by omega), ob, c 11 (by decide), c 12 (by decide), cln (by omega)]
    by_cases h2 : f_X9_in a2 1 40 = 0
    · rw [if_pos h2, if_pos h2]
    · rw [if_neg h2, if_neg h2]
      by_cases h3 : f_X9_in a3 1 99 = 0
      · rw [if_pos h3, if_pos h3]
      · rw [if_neg h3, if_neg h3]
theorem c_strength {S : xS} {n f : Nat} (h : f < 10) (a2 : Int32) : f_X1_strength n S (nI f) a2 = some ((a2 + 2) * (S.1 11 f + S.1 12 f) / 10) := by
  unfold f_X1_strength
  rw [c_built h, ob]
theorem c_bears (g : Gd v F ft) (c : Cl S v) (a1 a2 : Int32) : f_X8_bears n S a1 a2 = some (if f_X9_in a1 0 (nI F - 1) = 0 then -2 else if f_X9_in a2 0 2 = 0 then -2 else (a2 + 2) * (v 11 a1.toNatClampNeg + v 12 a1.toNatClampNeg) / 10) := by
  unfold f_X8_bears
  rw [show f_X8_isFloor S a1 = f_X9_in a1 0 (S.1 4 3 - 1) from rfl, c 4 (by decide), g.2.1, show f_X8_isMaster a2 = f_X9_in a2 0 2 from rfl]
  by_cases h : f_X9_in a1 0 (nI F - 1) = 0
  · rw [if_pos h, if_pos h]
  · rw [if_neg h, if_neg h]
    have hF := g.1
    obtain ⟨f, hf, rfl⟩ := isfl hF h
    rw [c_strength (by omega), ob, c 11 (by decide), c 12 (by decide), cln (by omega)]
    by_cases h2 : f_X9_in a2 0 2 = 0
    · rw [if_pos h2, if_pos h2]
    · rw [if_neg h2, if_neg h2]
theorem m_bears (w : Vw S v F ft) {f : Nat} (h : f < F) (a2 : Int32) : f_X9_bearsOf n S (nI f) a2 = some ((a2 + 2) * (v 11 f + v 12 f) / 10) := by
  unfold f_X9_bearsOf
  rw [m_built w h, ob]
/-- an Inv state, ready to be asked -/
theorem Inv.ask {S : xS} (hI : Inv S) : ∃ (T F : Nat) (ft : Int32), Gd S.1 F ft ∧ Vw (RD S T) S.1 F ft ∧ Inv (RD S T) ∧ (∀ n, 20 ≤ n → f_X9_reads n S = some (ft, RD S T)) ∧ (∀ n, 20 ≤ n → f_X9_floorsNow n S = some (nI F, RD S T)) := by
  obtain ⟨T, hb, hm, hd, hs⟩ := hI
  exact ⟨T, _, _, Inv.gd hb hm hd, Inv.vw hb hm hd, Inv.ofRD hb hm hd hs, fun n h => Inv.rd hb h, fun n h => fl_rd hb h⟩
theorem m_isFloor {S S1 : xS} {F n : Nat} (h : f_X9_floorsNow n S = some (nI F, S1)) (a : Int32) : f_X9_isFloor n S a = some (f_X9_in a 0 (nI F - 1), S1) := by
  unfold f_X9_isFloor
  rw [h, ob]
theorem op_floor {S : xS} (hI : Inv S) (hn : 20 ≤ n) (a1 a2 : Int32) : ∃ r S2, f_X8_floor n S a1 a2 = some r ∧ f_X9_floor n S a1 a2 = some (r, S2) ∧ Inv S2 := by
  obtain ⟨T, F, ft, g, w, h1, h2, h3⟩ := hI.ask
  refine ⟨_, RD S T, c_floor g (Cl.rf S) a1 a2, ?_, h1⟩
  unfold f_X9_floor
  rw [m_isFloor (h3 n hn), ob]
  by_cases h : f_X9_in a1 0 (nI F - 1) = 0
  · rw [if_pos h, if_pos h]
  · rw [if_neg h, if_neg h]
    have hF := g.1
    obtain ⟨f, hf, rfl⟩ := isfl hF h
    by_cases h5 : f_X9_in a2 0 5 = 0
    · rw [if_pos h5, if_pos h5]
    · rw [if_neg h5, if_neg h5]
      show (f_X9_floorOf n (RD S T) (nI f) a2).bind _ = _
      rw [m_floorOf w hf, ob, cln (by omega)]
theorem op_sill {S : xS} (hI : Inv S) (hn : 20 ≤ n) (a1 a2 : Int32) : ∃ r S2, f_X8_sill n S a1 a2 = some r ∧ f_X9_sill n S a1 a2 = some (r, S2) ∧ Inv S2 := by
  obtain ⟨T, F, ft, g, w, h1, h2, h3⟩ := hI.ask
  refine ⟨_, RD S T, c_sill g (Cl.rf S) a1 a2, ?_, h1⟩
  unfold f_X9_sill
  rw [h3 n hn, ob]
  by_cases h : f_X9_in a1 0 (nI F) = 0
  · rw [if_pos h, if_pos h]
  · rw [if_neg h, if_neg h]
    have hF := g.1
    obtain ⟨f, -, hf, rfl⟩ := in_nat (lo := 0) (by omega) h (by decide)
    by_cases h5 : f_X9_in a2 0 2 = 0
    · rw [if_pos h5, if_pos h5]
    · rw [if_neg h5, if_neg h5]
      show (f_X9_sillOf n (RD S T) (nI f) a2).bind _ = _
      rw [m_sill w a2 hf hn, ob, cln (by omega)]
theorem op_stairs {S : xS} (hI : Inv S) (hn : 20 ≤ n) (a1 a2 a3 : Int32) : ∃ r S2, f_X8_stairs n S a1 a2 a3 = some r ∧ f_X9_stairs n S a1 a2 a3 = some (r, S2) ∧ Inv S2 := by
  obtain ⟨T, F, ft, g, w, h1, h2, h3⟩ := hI.ask
  refine ⟨_, RD S T, c_stairs g (Cl.rf S) a1 a2 a3, ?_, h1⟩
  unfold f_X9_stairs
  rw [m_isFloor (h3 n hn), ob]
  by_cases h : f_X9_in a1 0 (nI F - 1) = 0
  · rw [if_pos h, if_pos h]
  · rw [if_neg h, if_neg h]
    have hF := g.1
    obtain ⟨f, hf, rfl⟩ := isfl hF h
    by_cases h5 : f_X9_in a2 1 40 = 0
    · rw [if_pos h5, if_pos h5]
    · rw [if_neg h5, if_neg h5]
      by_cases h6 : f_X9_in a3 1 99 = 0
      · rw [if_pos h6, if_pos h6]
      · rw [if_neg h6, if_neg h6]
        show (f_X9_builtOf n (RD S T) (nI f)).bind _ = _
        rw [m_built w hf, ob, cln (by omega)]
theorem op_bears {S : xS} (hI : Inv S) (hn : 20 ≤ n) (a1 a2 : Int32) : ∃ r S2, f_X8_bears n S a1 a2 = some r ∧ f_X9_bears n S a1 a2 = some (r, S2) ∧ Inv S2 := by
  obtain ⟨T, F, ft, g, w, h1, h2, h3⟩ := hI.ask
  refine ⟨_, RD S T, c_bears g (Cl.rf S) a1 a2, ?_, h1⟩
  unfold f_X9_bears
  rw [m_isFloor (h3 n hn), ob]
  by_cases h : f_X9_in a1 0 (nI F - 1) = 0
  · rw [if_pos h, if_pos h]
  · rw [if_neg h, if_neg h]
    have hF := g.1
    obtain ⟨f, hf, rfl⟩ := isfl hF h
    by_cases h5 : f_X9_in a2 0 2 = 0
    · rw [if_pos h5, if_pos h5]
    · rw [if_neg h5, if_neg h5]
      show (f_X9_bearsOf n (RD S T) (nI f) a2).bind _ = _
      rw [m_bears w hf, ob, cln (by omega)]
end RD1
