section OP3
variable {S : xS} {n : Nat}
/-- the text has changed: scan(), reckon() -/
theorem txt_core {T T' : Nat} {S0 : xS} (hm : numOk S) (hd : derOk S T) (hT : T' ≤ 80) (h1 : S0.1 4 1 = nI T') (he : ∀ q, q ≠ 4 → q ≠ 5 → S0.1 q = S.1 q) (hn : 20 ≤ n) : ∃ Sa Sb, f_X4_scan n S0 = some Sa ∧ f_X7_reckon n Sa = some Sb ∧ derOk Sb T' ∧ Sb.1 4 1 = nI T' ∧ Sb.1 5 = S0.1 5 ∧ ∀ q, q ≠ 4 → q ≠ 5 → q ≠ 6 → q ≠ 7 → q ≠ 8 → q ≠ 10 → q ≠ 11 → q ≠ 13 → q ≠ 14 → Sb.1 q = S.1 q := by
  obtain ⟨Sa, a1, a2, a3⟩ := c_scanW (n := n) h1 hT hn
  have ka : ∀ q, q ≠ 4 → q ≠ 6 → q ≠ 7 → q ≠ 8 → Sa.1 q = S0.1 q := fun q b c d e => funext fun x => a3.1 q x (by omega) (by omega)
  have kb : ∀ q, q ≠ 4 → q ≠ 5 → q ≠ 6 → q ≠ 7 → q ≠ 8 → Sa.1 q = S.1 q := fun q a b c d e => (ka q a c d e).trans (he q a b)
  obtain ⟨Sb, b1, b2, b3⟩ := reck_der (S := Sa) (T := T') (n := n) (by rw [kb 2 (by decide) (by decide) (by decide) (by decide) (by decide), kb 3 (by decide) (by decide) (by decide) (by decide) (by decide)]; exact hm.1) (by rw [ka 5 (by decide) (by decide) (by decide) (by decide)]; exact a2) (by rw [kb 13 (by decide) (by decide) (by decide) (by decide) (by decide)]; exact hd.2.2.1) (by rw [kb 14 (by decide) (by decide) (by decide) (by decide) (by decide)]; exact hd.2.2.2) hn
  refine ⟨Sa, Sb, a1, b1, b2, ?_, ?_, fun q c1 c2 c3 c4 c5 c6 c7 c8 c9 => (b3.q c6 c7 c8 c9).trans (kb q c1 c2 c3 c4 c5)⟩
  · rw [b3.q (by decide) (by decide) (by decide) (by decide), a3.1 4 1 (by omega) (by omega)]; exact h1
  · rw [b3.q (by decide) (by decide) (by decide) (by decide), ka 5 (by decide) (by decide) (by decide) (by decide)]
theorem txt_inv {T T' : Nat} {S0 Sb S2 : xS} (hb : baseOk S T) (hm : numOk S) (hs : sheetOk S) (hT : T' ≤ 80) (d : derOk Sb T') (d1 : Sb.1 4 1 = nI T') (d5 : Sb.1 5 = S0.1 5) (dq : ∀ q, q ≠ 4 → q ≠ 5 → q ≠ 6 → q ≠ 7 → q ≠ 8 → q ≠ 10 → q ≠ 11 → q ≠ 13 → q ≠ 14 → Sb.1 q = S.1 q) (e : ∀ q, q ≠ 34 → q ≠ 38 → S2.1 q = Sb.1 q) (e38 : S2.1 38 = S0.1 5) (e3 : S2.1 34 3 = nI T') (e20 : S2.1 34 20 = S.1 34 20) : Inv S2 := by
  obtain ⟨b1, b2, b3, b4, b5, b6, b7, b8, b9, b10, b11, b12⟩ := hb
  have w : ∀ q, q ≠ 4 → q ≠ 5 → q ≠ 6 → q ≠ 7 → q ≠ 8 → q ≠ 10 → q ≠ 11 → q ≠ 13 → q ≠ 14 → q ≠ 34 → q ≠ 38 → S2.1 q = S.1 q := fun q c1 c2 c3 c4 c5 c6 c7 c8 c9 c10 c11 => (e q c10 c11).trans (dq q c1 c2 c3 c4 c5 c6 c7 c8 c9)
  have two : ∀ a b, S.1 a = S.1 b → 35 ≤ a → a ≠ 38 → (b = 2 ∨ b = 3 ∨ b = 12 ∨ b = 16 ∨ b = 19 ∨ b = 23 ∨ b = 33) → S2.1 a = S2.1 b := by
    intro a b hab ha ha2 hb
    rw [w a (by omega) (by omega) (by omega) (by omega) (by omega) (by omega) (by omega) (by omega) (by omega) (by omega) (by omega), w b (by omega) (by omega) (by omega) (by omega) (by omega) (by omega) (by omega) (by omega) (by omega) (by omega) (by omega), hab]
  refine ⟨T', ⟨hT, ?_, e3, ?_, two 35 2 b5 (by decide) (by decide) (by decide), two 36 3 b6 (by decide) (by decide) (by decide), two 37 33 b7 (by decide) (by decide) (by decide), two 41 12 b8 (by decide) (by decide) (by decide), two 42 16 b9 (by decide) (by decide) (by decide), two 43 19 b10 (by decide) (by decide) (by decide), two 44 23 b11 (by decide) (by decide) (by decide), ?_⟩, ?_, ?_, ?_⟩
  · rw [e 4 (by decide) (by decide)]; exact d1
  · rw [e38, e 5 (by decide) (by decide), d5]
  · rw [e20, w 0 (by decide) (by decide) (by decide) (by decide) (by decide) (by decide) (by decide) (by decide) (by decide) (by decide) (by decide)]; exact b12
  · refine hm.congr fun q hq => ?_
    have : q = 2 ∨ q = 3 ∨ q = 12 ∨ q = 19 ∨ q = 23 ∨ q = 33 := by simpa using hq
    exact w q (by omega) (by omega) (by omega) (by omega) (by omega) (by omega) (by omega) (by omega) (by omega) (by omega) (by omega)
  · refine d.congr (fun q hq => e q ?_ ?_) (by rw [e 4 (by decide) (by decide)]) (by rw [e 4 (by decide) (by decide)])
    · rintro rfl; exact absurd hq (by decide)
    · rintro rfl; exact absurd hq (by decide)
  · exact hs.congr (fun q a b => w q (by omega) (by omega) (by omega) (by omega) (by omega) (by omega) (by omega) (by omega) (by omega) (by omega) (by omega)) (w 48 (by omega) (by omega) (by omega) (by omega) (by omega) (by omega) (by omega) (by omega) (by omega) (by omega) (by omega)) (w 49 (by omega) (by omega) (by omega) (by omega) (by omega) (by omega) (by omega) (by omega) (by omega) (by omega) (by omega)) (w 50 (by omega) (by omega) (by omega) (by omega) (by omega) (by omega) (by omega) (by omega) (by omega) (by omega) (by omega)) (w 51 (by omega) (by omega) (by omega) (by omega) (by omega) (by omega) (by omega) (by omega) (by omega) (by omega) (by omega))
theorem op_type (hI : Inv S) (hn : 20 ≤ n) (a1 : Int32) : ∃ r S1 S2, f_X8_type n S a1 = some (r, S1) ∧ f_X9_type n S1 a1 = some (r, S2) ∧ Inv S2 := by
  unfold f_X8_type f_X9_type f_X4_append
  rw [wi_eq]
  by_cases h1 : f_X9_in a1 0 255 = 0
  · rw [if_pos h1]
    exact ⟨_, S, S, rfl, by rw [if_pos h1], hI⟩
  · rw [if_neg h1]
    obtain ⟨T, hb, hm, hd, hs⟩ := id hI
    obtain ⟨b1, b2, b3, b4, -⟩ := id hb
    rw [b2, show (80 : Int32) = nI 80 from rfl, iflt (by omega) (by omega), ifle (by omega) (by omega)]
    by_cases h2 : T < 80
    · rw [if_pos h2, if_neg (by omega), xgn (by omega) (by omega), cln (by omega), xst_q (by decide), b2, ad1]
      generalize e0 : xst (xst S 5 T a1) 4 1 (nI (T + 1)) = S0
      obtain ⟨Sa, Sb, c1, c2, c3, c4, c5, c6⟩ := txt_core (S := S) (T := T) (T' := T + 1) (S0 := S0) (n := n) hm hd (by omega) (by rw [← e0, xst_eq]) (fun q a b => by rw [← e0, xst_ne a, xst_ne b]) hn
      rw [c1, ob, ob, c2, ob]
      have s34 : Sb.1 34 = S.1 34 := c6 34 (by decide) (by decide) (by decide) (by decide) (by decide) (by decide) (by decide) (by decide) (by decide)
      have s38 : Sb.1 38 = S.1 38 := c6 38 (by decide) (by decide) (by decide) (by decide) (by decide) (by decide) (by decide) (by decide) (by decide)
      refine ⟨_, Sb, xst (xst Sb 38 T a1) 34 3 (nI (T + 1)), rfl, ?_, ?_⟩
      · rw [if_neg h1, s34, b3, ifeq (by omega) (by omega), if_neg (by omega), xgn (by omega) (by omega), cln (by omega), xst_q (S := Sb) (by decide), s34, b3, ad1, xst_eq, c4]
      · refine txt_inv (S0 := S0) hb hm hs (by omega) c3 c4 c5 c6 (fun q a b => by rw [xst_ne a, xst_ne b]) ?_ (xst_eq _ _ _ _) ?_
        · rw [xst_ne (by decide), xst_at, s38, b4, ← e0, xst_ne (by decide), xst_at]
        · rw [xst_k (by decide), xst_q (by decide), s34]
    · rw [if_neg h2]
      refine ⟨_, S, S, rfl, ?_, hI⟩
      rw [if_neg h1, b3, ifeq (by omega) (by omega), if_pos (by omega)]
theorem op_wipe (hI : Inv S) (hn : 20 ≤ n) : ∃ r S1 S2, f_X8_wipe n S = some (r, S1) ∧ f_X9_wipe S1 = (r, S2) ∧ Inv S2 := by
  unfold f_X8_wipe f_X9_wipe f_X4_clear
  obtain ⟨T, hb, hm, hd, hs⟩ := id hI
  obtain ⟨b1, b2, b3, b4, -⟩ := id hb
  generalize e0 : xst S 4 1 0 = S0
  obtain ⟨Sa, Sb, c1, c2, c3, c4, c5, c6⟩ := txt_core (S := S) (T := T) (T' := 0) (S0 := S0) (n := n) hm hd (by omega) (by rw [← e0, xst_eq]; rfl) (fun q a b => by rw [← e0, xst_ne a]) hn
  rw [c1, ob, ob, c2, ob]
  have s34 : Sb.1 34 = S.1 34 := c6 34 (by decide) (by decide) (by decide) (by decide) (by decide) (by decide) (by decide) (by decide) (by decide)
  have s38 : Sb.1 38 = S.1 38 := c6 38 (by decide) (by decide) (by decide) (by decide) (by decide) (by decide) (by decide) (by decide) (by decide)
  refine ⟨_, Sb, xst Sb 34 3 0, rfl, by rw [s34, b3, b2], ?_⟩
  refine txt_inv (S0 := S0) hb hm hs (by omega) c3 c4 c5 c6 (fun q a b => by rw [xst_ne a]) ?_ (xst_eq _ _ _ _) ?_
  · rw [xst_ne (by decide), s38, b4, ← e0, xst_ne (by decide)]
  · rw [xst_k (by decide), s34]
end OP3
