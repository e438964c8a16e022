/-- the same but for the rows that are only scratch: 21, 47, 52 and all longs -/
def Scr (S S' : xS) : Prop := ∀ q, q ≠ 21 → q ≠ 47 → q ≠ 52 → S'.1 q = S.1 q
theorem Scr.rf (S : xS) : Scr S S := fun _ _ _ _ => rfl
theorem Scr.tr {A B C : xS} (h : Scr A B) (h' : Scr B C) : Scr A C := fun q a b c => (h' q a b c).trans (h q a b c)
theorem Scr.of1 {S S' : xS} (h : S'.1 = S.1) : Scr S S' := fun q _ _ _ => congrFun h q
theorem Inv.scr {S S' : xS} (hI : Inv S) (h : Scr S S') : Inv S' := by
  obtain ⟨T, hb, hn, hd, hs⟩ := hI
  have e : ∀ q, q ≠ 21 → q ≠ 47 → q ≠ 52 → S'.1 q = S.1 q := h
  refine ⟨T, ?_, ?_, ?_, ?_⟩
  · unfold baseOk at hb ⊢
    rw [e 38 (by decide) (by decide) (by decide), e 35 (by decide) (by decide) (by decide), e 36 (by decide) (by decide) (by decide), e 37 (by decide) (by decide) (by decide), e 41 (by decide) (by decide) (by decide), e 42 (by decide) (by decide) (by decide), e 43 (by decide) (by decide) (by decide), e 44 (by decide) (by decide) (by decide), e 34 (by decide) (by decide) (by decide), e 4 (by decide) (by decide) (by decide), e 5 (by decide) (by decide) (by decide), e 2 (by decide) (by decide) (by decide), e 3 (by decide) (by decide) (by decide), e 33 (by decide) (by decide) (by decide), e 12 (by decide) (by decide) (by decide), e 16 (by decide) (by decide) (by decide), e 19 (by decide) (by decide) (by decide), e 23 (by decide) (by decide) (by decide), e 0 (by decide) (by decide) (by decide)]
    exact hb
  · unfold numOk at hn ⊢
    rw [e 2 (by decide) (by decide) (by decide), e 3 (by decide) (by decide) (by decide), e 12 (by decide) (by decide) (by decide), e 19 (by decide) (by decide) (by decide), e 23 (by decide) (by decide) (by decide), e 33 (by decide) (by decide) (by decide)]
    exact hn
  · unfold derOk Sc Rk at hd ⊢
    rw [e 4 (by decide) (by decide) (by decide), e 5 (by decide) (by decide) (by decide), e 6 (by decide) (by decide) (by decide), e 7 (by decide) (by decide) (by decide), e 8 (by decide) (by decide) (by decide), e 2 (by decide) (by decide) (by decide), e 3 (by decide) (by decide) (by decide), e 10 (by decide) (by decide) (by decide), e 11 (by decide) (by decide) (by decide), e 12 (by decide) (by decide) (by decide), e 13 (by decide) (by decide) (by decide), e 14 (by decide) (by decide) (by decide)]
    exact hd
  · unfold sheetOk at hs ⊢
    intro s h
    rw [e 48 (by decide) (by decide) (by decide), e 49 (by decide) (by decide) (by decide), e 50 (by decide) (by decide) (by decide), e 51 (by decide) (by decide) (by decide), e (25 + s) (by omega) (by omega) (by omega), e (25 + s + 4) (by omega) (by omega) (by omega)]
    exact hs s h
theorem Cl.scr {S S' : xS} {v : Nat → Nat → Int32} (c : Cl S v) (h : Scr S S') : Cl S' v := fun q hq => (h q (by rintro rfl; exact absurd hq (by decide)) (by rintro rfl; exact absurd hq (by decide)) (by rintro rfl; exact absurd hq (by decide))).trans (c q hq)
def tyOk (v : Nat → Nat → Int32) : Prop := ∃ T : Nat, T ≤ 80 ∧ v 4 1 = nI T
theorem Inv.ty {S : xS} (hI : Inv S) : tyOk S.1 := by
  obtain ⟨T, hb, -⟩ := hI
  exact ⟨T, hb.1, hb.2.1⟩
theorem Vw.scr {S S' : xS} {v : Nat → Nat → Int32} {F : Nat} {ft : Int32} (w : Vw S v F ft) (hT : tyOk v) (h : Scr S S') : Vw S' v F ft := by
  obtain ⟨g, c, md, rd⟩ := w
  obtain ⟨T, h80, eT⟩ := hT
  have e : ∀ q, q ≠ 21 → q ≠ 47 → q ≠ 52 → S'.1 q = S.1 q := h
  refine ⟨g, c.scr h, ?_, fun n hn => ?_⟩
  · unfold Md at md ⊢
    rw [e 35 (by decide) (by decide) (by decide), e 36 (by decide) (by decide) (by decide), e 37 (by decide) (by decide) (by decide), e 41 (by decide) (by decide) (by decide), e 42 (by decide) (by decide) (by decide), e 43 (by decide) (by decide) (by decide), e 44 (by decide) (by decide) (by decide), e 34 (by decide) (by decide) (by decide), e 39 (by decide) (by decide) (by decide), e 40 (by decide) (by decide) (by decide)]
    exact md
  · have t1 : S.1 34 3 = nI T := by rw [md.2.2.2.2.2.2.2.1, eT]
    have r1 := rd n hn
    rw [m_rd t1 h80 hn] at r1
    have r2 := Prod.mk.inj (Option.some.inj r1)
    have t2 : S'.1 34 3 = nI T := by rw [e 34 (by decide) (by decide) (by decide)]; exact t1
    rw [m_rd t2 h80 hn, e 38 (by decide) (by decide) (by decide), r2.1]
    have r3 : RD S' T = S' := by
      refine Prod.ext ?_ (RD_2 S' T)
      funext q k
      by_cases q1 : q = 21 ∨ q = 47 ∨ q = 52
      · rw [RD_q (by omega) (by omega) (by omega)]
      · have z : (RD S' T).1 q k = (RD S T).1 q k := by
          rw [RD_at, RD_at, e 38 (by decide) (by decide) (by decide), e 35 (by decide) (by decide) (by decide), e q (by omega) (by omega) (by omega)]
        rw [z, r2.2, e q (by omega) (by omega) (by omega)]
    rw [r3]
theorem lad (a b : Nat) : lN a + lN b = lN (a + b) := (Int64.ofNat_add a b).symm
theorem lsb {a b : Nat} (h : b ≤ a) : lN a - lN b = lN (a - b) := by
  have : lN a = lN (a - b) + lN b := by rw [lad, Nat.sub_add_cancel h]
  rw [this, Int64.add_sub_cancel]
theorem l0 : (0 : Int64) = lN 0 := rfl
theorem l1 : (1 : Int64) = lN 1 := rfl
theorem bitn {x k : Nat} (hx : x < 512) (hk : k < 9) : (((nI x >>> (nI k &&& 31)) &&& (1 : Int32)) = 0) = (x.testBit k = false) := by
  have hs : ((nI k &&& 31).toBitVec.smod 32).toNat = k := by
    rcases (show k = 0 ∨ k = 1 ∨ k = 2 ∨ k = 3 ∨ k = 4 ∨ k = 5 ∨ k = 6 ∨ k = 7 ∨ k = 8 by omega) with rfl | rfl | rfl | rfl | rfl | rfl | rfl | rfl | rfl <;> decide
  rw [pk_shrN (by omega) _ k hs, n1, nI_and, n0, ← Nat.shiftRight_eq_div_pow]
  have h1 : x >>> k ≤ x := by rw [Nat.shiftRight_eq_div_pow]; exact Nat.div_le_self _ _
  have h2 : (x >>> k) &&& 1 ≤ 1 := Nat.and_le_right
  rw [eqn (by omega) (by omega), Nat.and_comm]
  unfold Nat.testBit
  simp
