/-- reckon(), once text and numbers stand -/
theorem reck_der {S : xS} {T n : Nat} (hsz : szOk (S.1 2) (S.1 3)) (hsc : Sc S 0 (pzW (S.1 5) T)) (h13 : S.1 13 0 = 0) (h14 : S.1 14 0 = 0) (hn : 20 ≤ n) : ∃ S', f_X7_reckon n S = some S' ∧ derOk S' T ∧ Rfr S S' 0 := by
  have hrow : rowOk S (pzF (pzW (S.1 5) T)) ∧ S.1 4 3 = nI (pzF (pzW (S.1 5) T)) := by
    obtain ⟨h1, h2, h3⟩ := hsc
    have hm : ∀ t, t ∈ (pzW (S.1 5) T).2 → tOk t := fun t => pzW_t
    generalize pzW (S.1 5) T = z at *
    obtain ⟨z1, l⟩ := z
    cases z1 with
    | some p => exact ⟨fun f hf => absurd hf (Nat.not_lt_zero f), h2⟩
    | none =>
      refine ⟨fun f hf => ?_, by rw [h2]; show nI (0 + l.length) = nI l.length; rw [Nat.zero_add]⟩
      have hf : f < l.length := hf
      have hg : l[f]? = some l[f] := List.getElem?_eq_getElem hf
      have := h3 rfl f _ hg
      rw [Nat.zero_add] at this
      rw [this.1, this.2.1, this.2.2]
      exact hm _ (List.mem_of_getElem? hg)
  obtain ⟨S', g1, g2, g3⟩ := c_reck (n := n) (pzF_le _ _) hrow.2 hrow.1 hsz hn
  have e5 : S'.1 5 = S.1 5 := g2.q (by decide) (by decide) (by decide) (by decide)
  refine ⟨S', g1, ?_, g2⟩
  unfold derOk
  rw [e5]
  refine ⟨?_, g3, ?_, ?_⟩
  · unfold Sc at hsc ⊢
    rw [g2.q (q := 4) (by decide) (by decide) (by decide) (by decide), g2.q (q := 6) (by decide) (by decide) (by decide) (by decide), g2.q (q := 7) (by decide) (by decide) (by decide) (by decide), g2.q (q := 8) (by decide) (by decide) (by decide) (by decide)]
    exact hsc
  · rw [g2.1 13 0 (by omega) (by omega)]; exact h13
  · rw [g2.1 14 0 (by omega) (by omega)]; exact h14
theorem Sc.congr {S S' : xS} {d : Nat} {z : Option Nat × List pzT} (h : Sc S d z) (e2 : S'.1 4 2 = S.1 4 2) (e3 : S'.1 4 3 = S.1 4 3) (e6 : S'.1 6 = S.1 6) (e7 : S'.1 7 = S.1 7) (e8 : S'.1 8 = S.1 8) : Sc S' d z := by
  unfold Sc at h ⊢
  rw [e2, e3, e6, e7, e8]
  exact h
section OP2
variable {S : xS} {n : Nat}
theorem op_shim (hI : Inv S) (hn : 20 ≤ n) (a1 a2 : Int32) : ∃ r S1 S2, f_X8_shim n S a1 a2 = some (r, S1) ∧ f_X9_shim n S1 a1 a2 = some (r, S2) ∧ Inv S2 := by
  unfold f_X8_shim f_X9_shim
  rw [show f_X8_isSpot a1 = f_X9_in a1 0 9 from rfl, wi_eq]
  by_cases h1 : f_X9_in a1 0 9 = 0
  · rw [if_pos h1]
    exact ⟨_, S, S, rfl, by rw [if_pos h1], hI⟩
  · obtain ⟨j, -, hj, rfl⟩ := in_nat (lo := 0) (hi := 9) (by decide) h1 (by decide)
    rw [if_neg h1]
    by_cases h2 : f_X9_in a2 (-99) 99 = 0
    · rw [if_pos h2]
      exact ⟨_, S, S, rfl, by rw [if_neg h1, if_pos h2], hI⟩
    · rw [if_neg h2, xgn (by omega) (by omega), xgn (by omega) (by omega), cln (by omega)]
      obtain ⟨T, hb, hm, hd, hs⟩ := hI
      have hr := in_rg h2
      rw [show (-99 : Int32).toInt = -99 from rfl, show (99 : Int32).toInt = 99 from rfl] at hr
      have e : ∀ q, q ≠ 12 → (xst S 12 j a2).1 q = S.1 q := fun q h => xst_ne h
      obtain ⟨S1, g1, g2, g3⟩ := reck_der (S := xst S 12 j a2) (T := T) (n := n) (by rw [e 2 (by decide), e 3 (by decide)]; exact hm.1) (by rw [e 5 (by decide)]; exact hd.1.congr (by rw [e 4 (by decide)]) (by rw [e 4 (by decide)]) (e 6 (by decide)) (e 7 (by decide)) (e 8 (by decide))) (by rw [e 13 (by decide)]; exact hd.2.2.1) (by rw [e 14 (by decide)]; exact hd.2.2.2) hn
      have k : ∀ q, q ≠ 10 → q ≠ 11 → q ≠ 13 → q ≠ 14 → q ≠ 12 → S1.1 q = S.1 q := fun q a b c d f => (g3.q a b c d).trans (e q f)
      have k12 : S1.1 12 = upd (S.1 12) j a2 := (g3.q (by decide) (by decide) (by decide) (by decide)).trans (xst_at _ _ _ _)
      have k41 : S1.1 41 = S.1 41 := k 41 (by decide) (by decide) (by decide) (by decide) (by decide)
      rw [g1, ob]
      refine ⟨_, S1, xst S1 41 j a2, rfl, ?_, T, ?_, ?_, ?_, ?_⟩
      · rw [if_neg h1, if_neg h2, xgn (by omega) (by omega), xgn (by omega) (by omega), k41, hb.2.2.2.2.2.2.2.1]
      · obtain ⟨b1, b2, b3, b4, b5, b6, b7, b8, b9, b10, b11, b12⟩ := hb
        have w : ∀ q, q ≠ 10 → q ≠ 11 → q ≠ 13 → q ≠ 14 → q ≠ 12 → q ≠ 41 → (xst S1 41 j a2).1 q = S.1 q := fun q a b c d f g => by rw [xst_ne g]; exact k q a b c d f
        unfold baseOk
        rw [w 4 (by decide) (by decide) (by decide) (by decide) (by decide) (by decide), w 34 (by decide) (by decide) (by decide) (by decide) (by decide) (by decide), w 38 (by decide) (by decide) (by decide) (by decide) (by decide) (by decide), w 5 (by decide) (by decide) (by decide) (by decide) (by decide) (by decide), w 35 (by decide) (by decide) (by decide) (by decide) (by decide) (by decide), w 2 (by decide) (by decide) (by decide) (by decide) (by decide) (by decide), w 36 (by decide) (by decide) (by decide) (by decide) (by decide) (by decide), w 3 (by decide) (by decide) (by decide) (by decide) (by decide) (by decide), w 37 (by decide) (by decide) (by decide) (by decide) (by decide) (by decide), w 33 (by decide) (by decide) (by decide) (by decide) (by decide) (by decide), w 42 (by decide) (by decide) (by decide) (by decide) (by decide) (by decide), w 16 (by decide) (by decide) (by decide) (by decide) (by decide) (by decide), w 43 (by decide) (by decide) (by decide) (by decide) (by decide) (by decide), w 19 (by decide) (by decide) (by decide) (by decide) (by decide) (by decide), w 44 (by decide) (by decide) (by decide) (by decide) (by decide) (by decide), w 23 (by decide) (by decide) (by decide) (by decide) (by decide) (by decide), w 0 (by decide) (by decide) (by decide) (by decide) (by decide) (by decide), xst_at, xst_ne (show (12 : Nat) ≠ 41 by decide), k12, k41, b8]
        exact ⟨b1, b2, b3, b4, b5, b6, b7, rfl, b9, b10, b11, b12⟩
      · unfold numOk at hm ⊢
        rw [xst_ne (show (2 : Nat) ≠ 41 by decide), xst_ne (show (3 : Nat) ≠ 41 by decide), xst_ne (show (12 : Nat) ≠ 41 by decide), xst_ne (show (19 : Nat) ≠ 41 by decide), xst_ne (show (23 : Nat) ≠ 41 by decide), xst_ne (show (33 : Nat) ≠ 41 by decide), k12, k 2 (by decide) (by decide) (by decide) (by decide) (by decide), k 3 (by decide) (by decide) (by decide) (by decide) (by decide), k 19 (by decide) (by decide) (by decide) (by decide) (by decide), k 23 (by decide) (by decide) (by decide) (by decide) (by decide), k 33 (by decide) (by decide) (by decide) (by decide) (by decide)]
        refine ⟨hm.1, fun x hx => ?_, hm.2.2⟩
        by_cases ex : x = j
        · subst ex; rw [upd_at]; exact hr
        · rw [upd_ne ex]; exact hm.2.1 x hx
      · exact g2.congr (fun q hq => xst_ne (by rintro rfl; exact absurd hq (by decide))) (xst_q (by decide)) (xst_q (by decide))
      · exact hs.congr (fun q a b => by rw [xst_ne (by omega)]; exact k q (by omega) (by omega) (by omega) (by omega) (by omega)) (by rw [xst_ne (by decide)]; exact k 48 (by decide) (by decide) (by decide) (by decide) (by decide)) (by rw [xst_ne (by decide)]; exact k 49 (by decide) (by decide) (by decide) (by decide) (by decide)) (by rw [xst_ne (by decide)]; exact k 50 (by decide) (by decide) (by decide) (by decide) (by decide)) (by rw [xst_ne (by decide)]; exact k 51 (by decide) (by decide) (by decide) (by decide) (by decide))
/-- measure(): a size (qc = 2) or a grid (qc = 3) -/
theorem meas_core (hI : Inv S) (hn : 20 ≤ n) {qc qm j : Nat} {v : Int32} (hj : j < 3) (hp : (qc = 2 ∧ qm = 35 ∧ 1 ≤ v.toInt ∧ v.toInt ≤ 999) ∨ (qc = 3 ∧ qm = 36 ∧ 1 ≤ v.toInt ∧ v.toInt ≤ 9)) : ∃ S1, f_X7_reckon n (xst S qc j v) = some S1 ∧ S1.1 qm j = S.1 qc j ∧ Inv (xst S1 qm j v) := by
  obtain ⟨T, hb, hm, hd, hs⟩ := hI
  have e : ∀ q, q ≠ qc → (xst S qc j v).1 q = S.1 q := fun q h => xst_ne h
  have ec : (xst S qc j v).1 qc = upd (S.1 qc) j v := xst_at _ _ _ _
  have hsz : szOk ((xst S qc j v).1 2) ((xst S qc j v).1 3) := by
    intro k hk
    have h0 := hm.1 k hk
    rcases hp with ⟨rfl, -, h1, h2⟩ | ⟨rfl, -, h1, h2⟩
    · rw [ec, e 3 (by decide)]
      by_cases ek : k = j
      · subst ek; rw [upd_at]; exact ⟨h1, h2, h0.2.2⟩
      · rw [upd_ne ek]; exact h0
    · rw [ec, e 2 (by decide)]
      by_cases ek : k = j
      · subst ek; rw [upd_at]; exact ⟨h0.1, h0.2.1, h1, h2⟩
      · rw [upd_ne ek]; exact h0
  obtain ⟨S1, g1, g2, g3⟩ := reck_der (S := xst S qc j v) (T := T) (n := n) hsz (by rw [e 5 (by omega)]; exact hd.1.congr (by rw [e 4 (by omega)]) (by rw [e 4 (by omega)]) (e 6 (by omega)) (e 7 (by omega)) (e 8 (by omega))) (by rw [e 13 (by omega)]; exact hd.2.2.1) (by rw [e 14 (by omega)]; exact hd.2.2.2) hn
  have k : ∀ q, q ≠ 10 → q ≠ 11 → q ≠ 13 → q ≠ 14 → q ≠ qc → S1.1 q = S.1 q := fun q a b c d f => (g3.q a b c d).trans (e q f)
  have kc : S1.1 qc = upd (S.1 qc) j v := (g3.q (by omega) (by omega) (by omega) (by omega)).trans ec
  have km : S1.1 qm = S.1 qm := k qm (by omega) (by omega) (by omega) (by omega) (by omega)
  obtain ⟨b1, b2, b3, b4, b5, b6, b7, b8, b9, b10, b11, b12⟩ := hb
  have hqm : S.1 qm = S.1 qc := by
    rcases hp with ⟨rfl, rfl, -⟩ | ⟨rfl, rfl, -⟩
    · exact b5
    · exact b6
  have w : ∀ q, q ≠ 10 → q ≠ 11 → q ≠ 13 → q ≠ 14 → q ≠ qc → q ≠ qm → (xst S1 qm j v).1 q = S.1 q := fun q a b c d f g => by rw [xst_ne g]; exact k q a b c d f
  have wc : (xst S1 qm j v).1 qc = upd (S.1 qc) j v := by rw [xst_ne (by omega)]; exact kc
  have wm : (xst S1 qm j v).1 qm = upd (S.1 qc) j v := by rw [xst_at, km, hqm]
  refine ⟨S1, g1, by rw [km, hqm], T, ?_, ?_, ?_, ?_⟩
  · have two : ∀ a b, S.1 a = S.1 b → ((a = qm ∧ b = qc) ∨ (a ≠ qm ∧ a ≠ qc ∧ b ≠ qm ∧ b ≠ qc ∧ a ≠ 10 ∧ a ≠ 11 ∧ a ≠ 13 ∧ a ≠ 14 ∧ b ≠ 10 ∧ b ≠ 11 ∧ b ≠ 13 ∧ b ≠ 14)) → (xst S1 qm j v).1 a = (xst S1 qm j v).1 b := by
      intro a b hab hh
      rcases hh with ⟨rfl, rfl⟩ | hh
      · rw [wm, wc]
      · rw [w a (by omega) (by omega) (by omega) (by omega) (by omega) (by omega), w b (by omega) (by omega) (by omega) (by omega) (by omega) (by omega), hab]
    refine ⟨b1, ?_, ?_, two 38 5 b4 (by omega), two 35 2 b5 (by omega), two 36 3 b6 (by omega), two 37 33 b7 (by omega), two 41 12 b8 (by omega), two 42 16 b9 (by omega), two 43 19 b10 (by omega), two 44 23 b11 (by omega), ?_⟩
    · rw [w 4 (by omega) (by omega) (by omega) (by omega) (by omega) (by omega)]; exact b2
    · rw [w 34 (by omega) (by omega) (by omega) (by omega) (by omega) (by omega)]; exact b3
    · rw [w 34 (by omega) (by omega) (by omega) (by omega) (by omega) (by omega), w 0 (by omega) (by omega) (by omega) (by omega) (by omega) (by omega)]; exact b12
  · have h2 : szOk ((xst S1 qm j v).1 2) ((xst S1 qm j v).1 3) := by
      rw [xst_ne (show (2 : Nat) ≠ qm by omega), xst_ne (show (3 : Nat) ≠ qm by omega), g3.q (q := 2) (by decide) (by decide) (by decide) (by decide), g3.q (q := 3) (by decide) (by decide) (by decide) (by decide)]
      exact hsz
    unfold numOk at hm ⊢
    refine ⟨h2, ?_⟩
    rw [w 12 (by omega) (by omega) (by omega) (by omega) (by omega) (by omega), w 19 (by omega) (by omega) (by omega) (by omega) (by omega) (by omega), w 23 (by omega) (by omega) (by omega) (by omega) (by omega) (by omega), w 33 (by omega) (by omega) (by omega) (by omega) (by omega) (by omega)]
    exact hm.2
  · exact g2.congr (fun q hq => xst_ne (by have : q < 15 := by { revert hq; revert q; decide }; omega)) (xst_q (by omega)) (xst_q (by omega))
  · exact hs.congr (fun q a b => w q (by omega) (by omega) (by omega) (by omega) (by omega) (by omega)) (w 48 (by omega) (by omega) (by omega) (by omega) (by omega) (by omega)) (w 49 (by omega) (by omega) (by omega) (by omega) (by omega) (by omega)) (w 50 (by omega) (by omega) (by omega) (by omega) (by omega) (by omega)) (w 51 (by omega) (by omega) (by omega) (by omega) (by omega) (by omega))
theorem op_measure (hI : Inv S) (hn : 20 ≤ n) (a1 a2 a3 : Int32) : ∃ r S1 S2, f_X8_measure n S a1 a2 a3 = some (r, S1) ∧ f_X9_measure n S1 a1 a2 a3 = some (r, S2) ∧ Inv S2 := by
  unfold f_X8_measure f_X9_measure j_X8_measure_30 j_X9_measure_32 j_X9_measure_60 f_X2_exchange
  rw [show f_X8_isMaster a1 = f_X9_in a1 0 2 from rfl, wi_eq, wi_eq, wi_eq]
  by_cases h1 : f_X9_in a1 0 2 = 0
  · rw [if_pos h1]
    exact ⟨_, S, S, rfl, by rw [if_pos h1], hI⟩
  · obtain ⟨j, -, hj, rfl⟩ := in_nat (lo := 0) (hi := 2) (by decide) h1 (by decide)
    rw [if_neg h1]
    by_cases h2 : f_X9_in a2 0 1 = 0
    · rw [if_pos h2]
      exact ⟨_, S, S, rfl, by rw [if_neg h1, if_pos h2], hI⟩
    · rw [if_neg h2]
      rw [xgn (by omega) (by omega), xgn (by omega) (by omega), xgn (by omega) (by omega), xgn (by omega) (by omega), cln (by omega)]
      by_cases h3 : a2 = 0
      · rw [if_pos h3, if_pos h3]
        by_cases h4 : f_X9_in a3 1 999 = 0
        · rw [if_pos h4]
          exact ⟨_, S, S, rfl, by rw [if_neg h1, if_neg h2, if_pos h3, if_pos h4], hI⟩
        · rw [if_neg h4, ob]
          have hr := in_rg h4
          obtain ⟨S1, g1, g2, g3⟩ := meas_core hI hn (qc := 2) (qm := 35) (j := j) (v := a3) (by omega) (Or.inl ⟨rfl, rfl, hr⟩)
          show ∃ r S1 S2, (f_X7_reckon n (xst S 2 j a3)).bind _ = some (r, S1) ∧ _
          rw [g1, ob]
          refine ⟨_, S1, _, rfl, ?_, g3⟩
          rw [if_neg h1, if_neg h2, if_pos h3, if_neg h4, if_pos h3, if_pos h3, g2, xgn (by omega) (by omega), xgn (by omega) (by omega)]
      · rw [if_neg h3, if_neg h3]
        by_cases h4 : f_X9_in a3 1 9 = 0
        · rw [if_pos h4]
          exact ⟨_, S, S, rfl, by rw [if_neg h1, if_neg h2, if_neg h3, if_pos h4], hI⟩
        · rw [if_neg h4, ob]
          have hr := in_rg h4
          obtain ⟨S1, g1, g2, g3⟩ := meas_core hI hn (qc := 3) (qm := 36) (j := j) (v := a3) (by omega) (Or.inr ⟨rfl, rfl, hr⟩)
          show ∃ r S1 S2, (f_X7_reckon n (xst S 3 j a3)).bind _ = some (r, S1) ∧ _
          rw [g1, ob]
          refine ⟨_, S1, _, rfl, ?_, g3⟩
          rw [if_neg h1, if_neg h2, if_neg h3, if_neg h4, if_neg h3, if_neg h3, g2, xgn (by omega) (by omega), xgn (by omega) (by omega)]
end OP2
