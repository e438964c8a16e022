theorem wrM_at (S : xS) (d : Nat) (l : List pzT) (q k : Nat) : (wrM S d l).1 q k = if q = 40 ∧ d ≤ k ∧ k < d + l.length then (l.getD (k - d) (0, 0, 0)).2.2 else if q = 39 ∧ d ≤ k ∧ k < d + l.length then S.1 35 (l.getD (k - d) (0, 0, 0)).1.toNatClampNeg * (l.getD (k - d) (0, 0, 0)).2.1 / 12 else S.1 q k := rfl
def RD (S : xS) (T : Nat) : xS := mW (xst S 34 5 0) 0 (pzW (S.1 38) T)
theorem RD_at (S : xS) (T q k : Nat) : (RD S T).1 q k = if q = 40 ∧ k < (pzW (S.1 38) T).2.length then ((pzW (S.1 38) T).2.getD k (0, 0, 0)).2.2 else if q = 39 ∧ k < (pzW (S.1 38) T).2.length then S.1 35 ((pzW (S.1 38) T).2.getD k (0, 0, 0)).1.toNatClampNeg * ((pzW (S.1 38) T).2.getD k (0, 0, 0)).2.1 / 12 else if q = 34 ∧ k = 5 then nI (pzF (pzW (S.1 38) T)) else S.1 q k := by
  unfold RD
  generalize pzW (S.1 38) T = z
  obtain ⟨z1, l⟩ := z
  have key : (wrM (xst S 34 5 0) 0 l).1 q k = if q = 40 ∧ k < l.length then (l.getD k (0, 0, 0)).2.2 else if q = 39 ∧ k < l.length then S.1 35 (l.getD k (0, 0, 0)).1.toNatClampNeg * (l.getD k (0, 0, 0)).2.1 / 12 else if q = 34 ∧ k = 5 then 0 else S.1 q k := by
    rw [wrM_at, xst_q (S := S) (q := 34) (a := 35) (by decide), Nat.sub_zero, Nat.zero_add]
    by_cases h40 : q = 40 ∧ k < l.length
    · rw [if_pos h40, if_pos ⟨h40.1, Nat.zero_le _, h40.2⟩]
    · rw [if_neg h40, if_neg (fun z => h40 ⟨z.1, z.2.2⟩)]
      by_cases h39 : q = 39 ∧ k < l.length
      · rw [if_pos h39, if_pos ⟨h39.1, Nat.zero_le _, h39.2⟩]
      · rw [if_neg h39, if_neg (fun z => h39 ⟨z.1, z.2.2⟩)]
        rfl
  cases z1 with
  | some p => exact key
  | none =>
    show (if q = 34 ∧ k = 5 then nI (0 + l.length) else (wrM (xst S 34 5 0) 0 l).1 q k) = _
    rw [key, Nat.zero_add]
    by_cases h34 : q = 34 ∧ k = 5
    · rw [if_pos h34, if_neg (fun z => by omega), if_neg (fun z => by omega), if_pos h34]; rfl
    · rw [if_neg h34, if_neg h34, if_neg h34]
theorem RD_2 (S : xS) (T : Nat) : (RD S T).2 = S.2 := by
  unfold RD mW
  split <;> rfl
theorem RD_q {S : xS} {T q : Nat} (h1 : q ≠ 39) (h2 : q ≠ 40) (h3 : q ≠ 34) : (RD S T).1 q = S.1 q := by
  funext k
  rw [RD_at, if_neg (fun z => h2 z.1), if_neg (fun z => h1 z.1), if_neg (fun z => h3 z.1)]
theorem RD_34 {S : xS} {T k : Nat} (h : k ≠ 5) : (RD S T).1 34 k = S.1 34 k := by
  rw [RD_at, if_neg (fun z => by omega), if_neg (fun z => by omega), if_neg (fun z => h z.2)]
theorem RD_F (S : xS) (T : Nat) : (RD S T).1 34 5 = nI (pzF (pzW (S.1 38) T)) := by
  rw [RD_at, if_neg (fun z => by omega), if_neg (fun z => by omega), if_pos ⟨rfl, rfl⟩]
theorem RD_RD (S : xS) (T : Nat) : RD (RD S T) T = RD S T := by
  refine Prod.ext ?_ ((RD_2 _ _).trans rfl)
  funext q k
  rw [RD_at, RD_q (S := S) (q := 38) (by decide) (by decide) (by decide), RD_q (S := S) (q := 35) (by decide) (by decide) (by decide), RD_at S T q k]
  generalize (pzW (S.1 38) T) = z
  by_cases h40 : q = 40 ∧ k < z.2.length
  · rw [if_pos h40, if_pos h40]
  · rw [if_neg h40, if_neg h40]
    by_cases h39 : q = 39 ∧ k < z.2.length
    · rw [if_pos h39, if_pos h39]
    · rw [if_neg h39, if_neg h39]
      by_cases h34 : q = 34 ∧ k = 5
      · rw [if_pos h34, if_pos h34]
      · rw [if_neg h34, if_neg h34]
theorem m_rd {n T : Nat} {S : xS} (hT : S.1 34 3 = nI T) (h80 : T ≤ 80) (hn : 20 ≤ n) : f_X9_reads n S = some (pzFt (pzW (S.1 38) T), RD S T) := m_reads hT h80 hn
/-- a length cut by the way j -/
def cutv (sz gr : Nat → Int32) (x : Int32) (j : Nat) : Int32 := if j % 3 = 0 then x * gr (j / 3) / sz (j / 3) * sz (j / 3) / gr (j / 3) else if j % 3 = 1 then (x * gr (j / 3) + sz (j / 3) - 1) / sz (j / 3) * sz (j / 3) / gr (j / 3) else (2 * (x * gr (j / 3)) + sz (j / 3) - 1) / (2 * sz (j / 3)) * sz (j / 3) / gr (j / 3)
def szOk (sz gr : Nat → Int32) : Prop := ∀ k, k < 3 → 1 ≤ (sz k).toInt ∧ (sz k).toInt ≤ 999 ∧ 1 ≤ (gr k).toInt ∧ (gr k).toInt ≤ 9
theorem ne0_of {x : Int32} (h : 1 ≤ x.toInt) : (!decide (x = 0)) = true := by
  have : ¬ x = 0 := fun z => by rw [z] at h; exact absurd h (by decide)
  simp [this]
theorem t2 {x : Int32} (h : 1 ≤ x.toInt ∧ x.toInt ≤ 999) : (2 * x).toInt = 2 * x.toInt := tI_mul (x := 2) (show -2147483648 ≤ 2 * x.toInt ∧ 2 * x.toInt < 2147483648 by omega)
theorem c_cut {S : xS} {n j : Nat} {x : Int32} (h : szOk (S.1 2) (S.1 3)) (hj : j < 9) : f_X2_toParts n S x (nI (j / 3)) (nI (j % 3)) = some (cutv (S.1 2) (S.1 3) x j) := by
  unfold f_X2_toParts cutv
  have hk : j / 3 < 3 := by omega
  obtain ⟨h1, h2, h3, h4⟩ := h (j / 3) hk
  rw [xgn hk (by omega), xgn hk (by omega), cln (by omega), n0, ifeq (by omega) (by omega), n1, ifeq (by omega) (by omega)]
  rw [← n0, ← n1, xgT (ne0_of h1), xgT (ne0_of h3), xgT (ne0_of h1), xgT (ne0_of h3), xgT (ne0_of (by rw [t2 ⟨h1, h2⟩]; omega)), xgT (ne0_of h3)]
  have g1 : ¬ S.1 2 (j / 3) < 1 := fun z => by have := ltI.mp z; rw [show (1 : Int32).toInt = 1 from by decide] at this; omega
  have g2 : (1 : Int32) ≤ S.1 3 (j / 3) := leI.mpr (by rw [show (1 : Int32).toInt = 1 from by decide]; exact h3)
  rw [if_neg g1, if_pos g2]
  by_cases c1 : j % 3 = 0
  · rw [if_pos c1, if_pos c1]
  · rw [if_neg c1, if_neg c1]
    by_cases c2 : j % 3 = 1
    · rw [if_pos c2, if_pos c2]
    · rw [if_neg c2, if_neg c2]
theorem m_cut {S : xS} {n j : Nat} {x : Int32} (h : szOk (S.1 35) (S.1 36)) (hj : j < 9) : f_X9_cutBy n S x (nI j) = some (cutv (S.1 35) (S.1 36) x j) := by
  unfold f_X9_cutBy cutv
  have hk : j / 3 < 3 := by omega
  obtain ⟨h1, h2, h3, h4⟩ := h (j / 3) hk
  rw [dv3 (by omega), show nI j - nI (j / 3) * 3 = nI (j % 3) from by rw [← dv3 (by omega)]; exact rm3 (by omega)]
  rw [xgn hk (by omega), xgn hk (by omega), cln (by omega), n0, ifeq (by omega) (by omega), n1, ifeq (by omega) (by omega)]
  rw [← n0, ← n1, xgT (ne0_of h1), xgT (ne0_of h3), xgT (ne0_of h1), xgT (ne0_of h3), xgT (ne0_of (by rw [t2 ⟨h1, h2⟩]; omega)), xgT (ne0_of h3)]
  by_cases c1 : j % 3 = 0
  · rw [if_pos c1, if_pos c1]
  · rw [if_neg c1, if_neg c1]
    by_cases c2 : j % 3 = 1
    · rw [if_pos c2, if_pos c2]
    · rw [if_neg c2, if_neg c2]
/-- what is read of a floor -/
def tOk (t : pzT) : Prop := (∃ i : Nat, i < 3 ∧ t.1 = nI i) ∧ (12 ≤ t.2.1.toInt ∧ t.2.1.toInt ≤ 1199) ∧ ∃ j : Nat, j < 9 ∧ t.2.2 = nI j
theorem pzE_ok {f : Nat → Int32} {T a a6 i : Nat} {u tw : Int32} {t : pzT} (hi : i < 3) (hu : u = nI i) (ht : 12 ≤ tw.toInt ∧ tw.toInt ≤ 1199) (h : pzE f T a u tw = .inr (a6, t)) : tOk t := by
  unfold pzE at h
  split at h
  · split at h
    · cases h
    · rename_i q
      cases h
      obtain ⟨j, j1, j2, j3⟩ := in_nat (lo := 48) (hi := 56) (by decide) q (by decide)
      refine ⟨⟨i, hi, hu⟩, ht, j - 48, by omega, ?_⟩
      show ptx f T (a + 1) - 48 = nI (j - 48)
      rw [j3]
      exact sbn (b := 48) j1
  · cases h
theorem pz1_ok {f : Nat → Int32} {T a a6 : Nat} {t : pzT} (h : pz1 f T a = .inr (a6, t)) : tOk t := by
  unfold pz1 at h
  split at h
  · cases h
  · rename_i q
    obtain ⟨m, m1, m2, m3⟩ := in_nat (lo := 1) (hi := 99) (by decide) q (by decide)
    split at h
    · have hU : ∃ i : Nat, i < 3 ∧ pzU (ptx f T (a + pfs f T a)) = nI i := by
        unfold pzU
        split
        · exact ⟨0, by decide, rfl⟩
        · split
          · exact ⟨1, by decide, rfl⟩
          · exact ⟨2, by decide, rfl⟩
      obtain ⟨i, hi, hu⟩ := hU
      unfold pzP at h
      have e12 : ∀ p : Nat, p < 12 → (12 * pnum f T a + nI p).toInt = 12 * (m : Int) + p := by
        intro p hp
        rw [m3, show (12 : Int32) * nI m = nI (12 * m) from mln 12 m, adn, tin (by omega)]
        omega
      split at h
      · split at h
        · cases h
        · rename_i q2
          obtain ⟨p, p1, p2, p3⟩ := in_nat (lo := 1) (hi := 11) (by decide) q2 (by decide)
          refine pzE_ok hi hu ?_ h
          rw [p3, e12 p (by omega)]
          omega
      · refine pzE_ok hi hu ?_ h
        rw [n0, e12 0 (by omega)]
        omega
    · cases h
theorem pzA_t {f : Nat → Int32} {T : Nat} : ∀ (k a : Nat) (t : pzT), t ∈ (pzA f T k a).2 → tOk t
  | 0, a, t, h => by cases h
  | k + 1, a, t, h => by
    cases hz : pz1 f T a with
    | inl p => rw [pzA_bad hz] at h; cases h
    | inr x =>
      obtain ⟨a6, t1⟩ := x
      have h1 := pz1_ok hz
      rw [pzA_ok hz] at h
      split at h
      · rcases List.mem_cons.mp h with rfl | h
        · exact h1
        · cases h
      · split at h
        · rcases List.mem_cons.mp h with rfl | h
          · exact h1
          · exact pzA_t k (a6 + 1) t h
        · rcases List.mem_cons.mp h with rfl | h
          · exact h1
          · cases h
theorem pzW_t {f : Nat → Int32} {T : Nat} {t : pzT} (h : t ∈ (pzW f T).2) : tOk t := by
  unfold pzW at h
  split at h
  · cases h
  · exact pzA_t 10 0 t h
