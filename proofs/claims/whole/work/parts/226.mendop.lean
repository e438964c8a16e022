section MO
variable {n : Nat}
theorem mends_rd {S S1 : xS} {F : Nat} {a : Int32} (h : f_X9_floorsNow n S = some (nI F, S1)) (h1 : f_X9_floorsNow n S1 = some (nI F, S1)) : f_X9_mends n S a = f_X9_mends n S1 a := by
  unfold f_X9_mends
  rw [h, h1]
theorem work_op {S : xS} (hI : Inv S) (hn : 20 ≤ n) (bits : Int32) : ∃ r S1, Scr S S1 ∧ f_X3_work n S bits (S.1 33 2) (S.1 33 3) = some (r, S1) ∧ ∃ S2, f_X9_mends n S1 bits = some (r, S2) ∧ rowEq S1 S2 ∧ Inv S2 ∧ (∀ T1 F1, f_X9_floorsNow n S1 = some (nI F1, RD S1 T1) → f_X9_floorsNow n (RD S1 T1) = some (nI F1, RD S1 T1) → f_X9_mends n (RD S1 T1) bits = some (r, S2)) := by
  obtain ⟨T, F, ft, g, w, i1, i2, i3⟩ := hI.ask
  obtain ⟨r, S1, S', y1, y2, y3, y4, y5⟩ := work_b (n := n) g (Cl.rf S) w hI.ty hn bits
  have hI1 : Inv S1 := hI.scr y1
  obtain ⟨T1, F1, ft1, g1, w1, j1, j2, j3⟩ := hI1.ask
  have cS : Cl S S1.1 := fun q hq => (y1 q (by rintro rfl; exact absurd hq (by decide)) (by rintro rfl; exact absurd hq (by decide)) (by rintro rfl; exact absurd hq (by decide))).symm
  obtain ⟨r2, S3, S4, z1, z2, z3, z4, z5⟩ := work_b (n := n) g1 cS w1 hI1.ty hn bits
  rw [show S1.1 33 = S.1 33 from y1 33 (by decide) (by decide) (by decide), y4] at z4
  have q := Prod.mk.inj (Option.some.inj z4)
  rw [← q.1] at z5
  rw [← q.2] at z3
  refine ⟨r, S1, y1, y4, S4, by rw [mends_rd (j3 n hn) (fl_now w1 hn), z5], z3, j1.scr z2, fun T2 F2 h1 h2 => ?_⟩
  rw [← mends_rd h1 h2, mends_rd (j3 n hn) (fl_now w1 hn), z5]
theorem op_mended {S : xS} (hI : Inv S) (hn : 20 ≤ n) (a1 a2 : Int32) : ∃ r S1 S2, f_X8_mended n S a1 a2 = some (r, S1) ∧ f_X9_mended n S1 a1 a2 = some (r, S2) ∧ Inv S2 := by
  by_cases h1 : f_X9_in a1 0 1023 = 0
  · refine ⟨-100002, S, S, ?_, ?_, hI⟩
    · unfold f_X8_mended; rw [wi_eq, if_pos h1]
    · unfold f_X9_mended; rw [if_pos h1]
  · obtain ⟨r, S1, y1, y2, S2, y3, y4, y5, y6⟩ := work_op (n := n) hI hn a1
    by_cases h2 : a2 = -1
    · refine ⟨r, S1, S2, ?_, ?_, y5⟩
      · unfold f_X8_mended j_X8_mended_27
        rw [wi_eq, if_neg h1, if_pos h2]
        show (f_X3_work n S a1 (S.1 33 2) (S.1 33 3)).bind _ = _
        rw [y2, ob, if_pos h2]
      · unfold f_X9_mended j_X9_mended_27
        rw [if_neg h1, if_pos h2, y3, ob, if_pos h2]
    · obtain ⟨T, F, ft, g, w, i1, i2, i3⟩ := hI.ask
      have hF := g.1
      have e1 : f_X8_isFloor S a2 = f_X9_in a2 0 (nI F - 1) := by
        show f_X9_in a2 0 (S.1 4 3 - 1) = _
        rw [g.2.1]
      by_cases h3 : f_X9_in a2 0 (nI F - 1) = 0
      · refine ⟨-100002, S, RD S T, ?_, ?_, i1⟩
        · unfold f_X8_mended; rw [wi_eq, if_neg h1, if_neg h2, e1, if_pos h3]
        · unfold f_X9_mended; rw [if_neg h1, if_neg h2, m_isFloor (i3 n hn), ob, if_pos h3]
      · obtain ⟨f, hf, rfl⟩ := isfl hF h3
        have hI1 : Inv S1 := hI.scr y1
        obtain ⟨T1, F1, ft1, g1, w1, j1, j2, j3⟩ := hI1.ask
        have eF : F1 = F := nI_inj (by have := g1.1; omega) (by omega) (by rw [← g1.2.1, ← g.2.1, y1 4 (by decide) (by decide) (by decide)])
        subst eF
        have y7 := y6 T1 F1 (j3 n hn) (fl_now w1 hn)
        refine ⟨if r = -1 then -100003 else S1.1 21 f, S1, S2, ?_, ?_, y5⟩
        · unfold f_X8_mended j_X8_mended_27
          rw [wi_eq, if_neg h1, if_neg h2, e1, if_neg h3]
          show (f_X3_work n S a1 (S.1 33 2) (S.1 33 3)).bind _ = _
          rw [y2, ob, if_neg h2, xgn (by omega) (by omega), cln (by omega)]
          split <;> rfl
        · unfold f_X9_mended j_X9_mended_27
          rw [if_neg h1, if_neg h2, m_isFloor (j3 n hn), ob, if_neg h3]
          show (f_X9_mends n (RD S1 T1) a1).bind _ = _
          rw [y7, ob, if_neg h2, xgn (by omega) (by omega), cln (by omega), y4 f (by omega)]
          split <;> rfl
end MO
