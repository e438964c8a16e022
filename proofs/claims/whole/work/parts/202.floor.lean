abbrev pzT : Type := Int32 × Int32 × Int32
def pzU (b : Int32) : Int32 := if b = 102 then 0 else if b = 101 then 1 else 2
def pzE (f : Nat → Int32) (T a : Nat) (u tw : Int32) : Nat ⊕ (Nat × pzT) := if ptx f T a = 61 then (if f_X9_in (ptx f T (a + 1)) 48 56 = 0 then .inl (a + 1) else .inr (a + 2, u, tw, ptx f T (a + 1) - 48)) else .inl a
def pzP (f : Nat → Int32) (T a : Nat) (u m : Int32) : Nat ⊕ (Nat × pzT) := if ptx f T a = 43 then (if f_X9_in (pnum f T (a + 1)) 1 11 = 0 then .inl (a + 1) else pzE f T (a + 1 + pfs f T (a + 1)) u (12 * m + pnum f T (a + 1))) else pzE f T a u (12 * m + 0)
def pz1 (f : Nat → Int32) (T a : Nat) : Nat ⊕ (Nat × pzT) := if f_X9_in (pnum f T a) 1 99 = 0 then .inl a else (if ptx f T (a + pfs f T a) = 102 ∨ ptx f T (a + pfs f T a) = 101 ∨ ptx f T (a + pfs f T a) = 115 then pzP f T (a + pfs f T a + 1) (pzU (ptx f T (a + pfs f T a))) (pnum f T a) else .inl (a + pfs f T a))
def Pfr (S S' : xS) (f : Nat) : Prop := (∀ q k, ¬ (q = 4 ∧ (k = 2 ∨ k = 7)) → ¬ ((q = 6 ∨ q = 7 ∨ q = 8) ∧ k = f) → S'.1 q k = S.1 q k) ∧ S'.2 = S.2
theorem Pfr.rf (S : xS) (f : Nat) : Pfr S S f := ⟨fun _ _ _ _ => rfl, rfl⟩
theorem Pfr.st {S S' : xS} {f : Nat} (h : Pfr S S' f) {q k : Nat} {v : Int32} (hq : (q = 4 ∧ (k = 2 ∨ k = 7)) ∨ ((q = 6 ∨ q = 7 ∨ q = 8) ∧ k = f)) : Pfr S (xst S' q k v) f := by
  refine ⟨fun a b h1 h2 => ?_, h.2⟩
  have : ¬ (a = q ∧ b = k) := by
    rintro ⟨rfl, rfl⟩
    rcases hq with hq | hq
    · exact h1 hq
    · exact h2 hq
  show (if a = q ∧ b = k then v else S'.1 a b) = S.1 a b
  rw [if_neg this]
  exact h.1 a b h1 h2
theorem in48 (x : Int32) : f_X9_in (x - 48) 0 8 = f_X9_in x 48 56 := by
  have h48 : (48 : Int32).toInt = 48 := rfl
  have h56 : (56 : Int32).toInt = 56 := rfl
  have h0 : (0 : Int32).toInt = 0 := rfl
  have h8 : (8 : Int32).toInt = 8 := rfl
  by_cases h : (48 : Int32) ≤ x ∧ x ≤ 56
  · have h1 := leI.mp h.1
    have h2 := leI.mp h.2
    rw [in_yes h]
    refine in_yes ⟨leI.mpr ?_, leI.mpr ?_⟩
    · rw [tI_sub (by omega)]; omega
    · rw [tI_sub (by omega)]; omega
  · rw [in_no h]
    refine in_no fun q => h ?_
    have h1 := leI.mp q.1
    have h2 := leI.mp q.2
    have e : x = (x - 48) + 48 := (Int32.sub_add_cancel x 48).symm
    have e2 : x.toInt = (x - 48).toInt + 48 := by
      have : ((x - 48) + 48).toInt = (x - 48).toInt + (48 : Int32).toInt := tI_add (by omega)
      rw [← e] at this
      exact this
    exact ⟨leI.mpr (by omega), leI.mpr (by omega)⟩
section PF
variable {S : xS} {n T a f : Nat}
theorem c_tunit (hT : S.1 4 1 = nI T) (h80 : T ≤ 80) (ha : S.1 4 7 = nI a) (haT : a ≤ T) (hf : f < 10) : f_X4_takeUnit n S (nI f) = some (if ptx (S.1 5) T a = 102 ∨ ptx (S.1 5) T a = 101 ∨ ptx (S.1 5) T a = 115 then (1, xst (xst S 6 f (pzU (ptx (S.1 5) T a))) 4 7 (nI (a + 1))) else (0, xst S 4 2 (nI a))) := by
  unfold f_X4_takeUnit
  rw [c_sign hT h80 ha (by omega), ob]
  have key : ∀ b : Int32, j_X4_takeUnit_32 n S (nI f) b = some (1, xst (xst S 6 f (pzU b)) 4 7 (nI (a + 1))) := by
    intro b
    have e : ∀ v : Int32, (xst S 6 f v).1 4 7 + (1 : Int32) = nI (a + 1) := fun v => by rw [xst_q (by decide), ha]; exact ad1 a
    unfold j_X4_takeUnit_32 pzU
    rw [xgn hf (by omega), xgn hf (by omega), xgn hf (by omega), cln (by omega), e, e, e]
    by_cases h1 : b = 102
    · rw [if_pos h1, if_pos h1]
    · rw [if_neg h1, if_neg h1]
      by_cases h2 : b = 101
      · rw [if_pos h2, if_pos h2]
      · rw [if_neg h2, if_neg h2]
  generalize ptx (S.1 5) T a = b
  rw [key]
  by_cases h1 : b = 102
  · rw [if_pos h1, if_pos (Or.inl h1)]
  · rw [if_neg h1]
    by_cases h2 : b = 101
    · rw [if_pos h2, if_pos (Or.inr (Or.inl h2))]
    · rw [if_neg h2]
      by_cases h3 : b = 115
      · rw [if_pos h3, if_pos (Or.inr (Or.inr h3))]
      · rw [if_neg h3, if_neg (by rintro (h | h | h) <;> contradiction), ha]
        rfl
theorem c_tsign (m : Int32) (hT : S.1 4 1 = nI T) (h80 : T ≤ 80) (ha : S.1 4 7 = nI a) (haT : a ≤ T) : f_X4_takeSign n S m = some (if ptx (S.1 5) T a = m then (1, xst S 4 7 (nI (a + 1))) else (0, xst S 4 2 (nI a))) := by
  unfold f_X4_takeSign
  rw [c_sign hT h80 ha (by omega), ob, ha, show nI a + (1 : Int32) = nI (a + 1) from ad1 a]
  by_cases h : ptx (S.1 5) T a = m
  · rw [if_pos h, if_pos h]
  · rw [if_neg h, if_neg h]; rfl
theorem c_tway (hT : S.1 4 1 = nI T) (h80 : T ≤ 80) (ha : S.1 4 7 = nI a) (haT : a ≤ T) (hf : f < 10) : f_X4_takeWay n S (nI f) = some (if f_X9_in (ptx (S.1 5) T a) 48 56 = 0 then (0, xst S 4 2 (nI a)) else (1, xst (xst S 8 f (ptx (S.1 5) T a - 48)) 4 7 (nI (a + 1)))) := by
  unfold f_X4_takeWay
  rw [c_sign hT h80 ha (by omega), ob, wi_eq, in48]
  by_cases h : f_X9_in (ptx (S.1 5) T a) 48 56 = 0
  · rw [if_pos h, if_pos h, ha]; rfl
  · rw [if_neg h, if_neg h, xgn hf (by omega), cln (by omega), xst_q (by decide), ha, show nI a + (1 : Int32) = nI (a + 1) from ad1 a]
/-- what taking a floor does -/
def tfR (S : xS) (f T a : Nat) (z : Nat ⊕ (Nat × pzT)) (o : Option (Int32 × xS)) : Prop :=
  (∃ p S', z = .inl p ∧ o = some (0, S') ∧ S'.1 4 2 = nI p ∧ p ≤ T ∧ Pfr S S' f) ∨ (∃ a6 u tw w S', z = .inr (a6, u, tw, w) ∧ o = some (1, S') ∧ S'.1 4 7 = nI a6 ∧ a6 ≤ T ∧ a < a6 ∧ S'.1 6 f = u ∧ S'.1 7 f = tw ∧ S'.1 8 f = w ∧ S'.1 4 2 = S.1 4 2 ∧ Pfr S S' f)
theorem c_tfE {S0 : xS} {a0 : Nat} {u m p : Int32} (hT : S.1 4 1 = nI T) (h80 : T ≤ 80) (ha : S.1 4 7 = nI a) (haT : a ≤ T) (ha0 : a0 ≤ a) (hf : f < 10) (hu : S.1 6 f = u) (hft : S.1 4 2 = S0.1 4 2) (hF : Pfr S0 S f) (hp : ¬ p = -1) (h5 : S.1 5 = S0.1 5) :
    tfR S0 f T a0 (pzE (S0.1 5) T a u (12 * m + p)) (j_X4_takeFloor_50 n S (nI f) m p) := by
  unfold j_X4_takeFloor_50 pzE
  rw [if_neg hp, c_tsign 61 hT h80 ha haT, ob, h5]
  by_cases h : ptx (S0.1 5) T a = 61
  · rw [if_pos h, if_pos h]
    have hlt : a < T := ptx_lt (by rw [h]; decide)
    rw [if_neg (show ¬ ((1 : Int32), xst S 4 7 (nI (a + 1))).1 = 0 from by show ¬ (1 : Int32) = 0; decide), xgn hf (by omega), cln (by omega)]
    show tfR S0 f T a0 _ ((f_X4_takeWay n (xst (xst S 4 7 (nI (a + 1))) 7 f (12 * m + p)) (nI f)).bind _)
    generalize e1 : xst (xst S 4 7 (nI (a + 1))) 7 f (12 * m + p) = S1
    have hT1 : S1.1 4 1 = nI T := by rw [← e1, xst_q (by decide), xst_k (by decide)]; exact hT
    have ha1 : S1.1 4 7 = nI (a + 1) := by rw [← e1, xst_q (by decide), xst_eq]
    have h51 : S1.1 5 = S0.1 5 := by rw [← e1, xst_ne (by decide), xst_ne (by decide)]; exact h5
    rw [c_tway hT1 h80 ha1 (by omega) hf, ob, h51]
    by_cases h2 : f_X9_in (ptx (S0.1 5) T (a + 1)) 48 56 = 0
    · rw [if_pos h2, if_pos h2]
      refine Or.inl ⟨a + 1, _, rfl, rfl, xst_eq _ _ _ _, by omega, ?_⟩
      rw [← e1]
      exact ((hF.st (by simp)).st (by simp)).st (by simp)
    · rw [if_neg h2, if_neg h2]
      have hlt2 : a + 1 < T := by
        refine ptx_lt (f := S0.1 5) fun z => h2 ?_
        rw [z]; rfl
      refine Or.inr ⟨a + 2, u, _, _, _, rfl, rfl, xst_eq _ _ _ _, by omega, by omega, ?_, ?_, ?_, ?_, ?_⟩
      · rw [xst_q (by decide), xst_q (by decide), ← e1, xst_q (by decide), xst_q (by decide)]; exact hu
      · rw [xst_q (by decide), xst_q (by decide), ← e1, xst_eq]
      · rw [xst_q (by decide), xst_eq]
      · rw [xst_k (by decide), xst_q (by decide), ← e1, xst_q (by decide), xst_k (by decide)]; exact hft
      · rw [← e1]
        exact ((((hF.st (by simp)).st (by simp)).st (by simp)).st (by simp))
  · rw [if_neg h, if_neg h]
    exact Or.inl ⟨a, _, rfl, rfl, xst_eq _ _ _ _, haT, hF.st (by simp)⟩
theorem c_tfl (hT : S.1 4 1 = nI T) (h80 : T ≤ 80) (ha : S.1 4 7 = nI a) (haT : a ≤ T) (hf : f < 10) (hn : 4 ≤ n) : tfR S f T a (pz1 (S.1 5) T a) (f_X4_takeFloor n S (nI f)) := by
  unfold f_X4_takeFloor pz1
  rw [c_tnum 99 hT h80 ha haT hn, ob]
  by_cases h : f_X9_in (pnum (S.1 5) T a) 1 99 = 0
  · rw [if_pos h, if_pos h, if_pos (show ((-1 : Int32), xst (xst S 4 7 (nI (a + pfs (S.1 5) T a))) 4 2 (nI a)).1 = -1 by rfl)]
    exact Or.inl ⟨a, _, rfl, rfl, xst_eq _ _ _ _, haT, ((Pfr.rf S f).st (by simp)).st (by simp)⟩
  · rw [if_neg h, if_neg h]
    have hm : ¬ pnum (S.1 5) T a = -1 := fun z => h (by rw [z]; rfl)
    rw [if_neg (show ¬ (pnum (S.1 5) T a, xst S 4 7 (nI (a + pfs (S.1 5) T a))).1 = -1 from hm)]
    have hle := pfs_le (f := S.1 5) haT
    generalize pnum (S.1 5) T a = m at hm
    generalize ea1 : a + pfs (S.1 5) T a = a1 at hle
    show tfR S f T a _ ((f_X4_takeUnit n (xst S 4 7 (nI a1)) (nI f)).bind _)
    generalize e1 : xst S 4 7 (nI a1) = S1
    have hT1 : S1.1 4 1 = nI T := by rw [← e1, xst_k (by decide)]; exact hT
    have ha1 : S1.1 4 7 = nI a1 := by rw [← e1, xst_eq]
    have h51 : S1.1 5 = S.1 5 := by rw [← e1, xst_ne (by decide)]
    have hF1 : Pfr S S1 f := by rw [← e1]; exact (Pfr.rf S f).st (by simp)
    have hft1 : S1.1 4 2 = S.1 4 2 := by rw [← e1, xst_k (by decide)]
    rw [c_tunit hT1 h80 ha1 hle hf, ob, h51]
    by_cases h2 : ptx (S.1 5) T a1 = 102 ∨ ptx (S.1 5) T a1 = 101 ∨ ptx (S.1 5) T a1 = 115
    · rw [if_pos h2, if_pos h2]
      have hlt : a1 < T := ptx_lt (f := S.1 5) (by rcases h2 with z | z | z <;> (rw [z]; decide))
      generalize pzU (ptx (S.1 5) T a1) = u
      rw [if_neg (show ¬ ((1 : Int32), xst (xst S1 6 f u) 4 7 (nI (a1 + 1))).1 = 0 from by show ¬ (1 : Int32) = 0; decide)]
      show tfR S f T a _ ((f_X4_sign n (xst (xst S1 6 f u) 4 7 (nI (a1 + 1)))).bind _)
      generalize e2 : xst (xst S1 6 f u) 4 7 (nI (a1 + 1)) = S2
      have hT2 : S2.1 4 1 = nI T := by rw [← e2, xst_k (by decide), xst_q (by decide)]; exact hT1
      have ha2 : S2.1 4 7 = nI (a1 + 1) := by rw [← e2, xst_eq]
      have h52 : S2.1 5 = S.1 5 := by rw [← e2, xst_ne (by decide), xst_ne (by decide)]; exact h51
      have hF2 : Pfr S S2 f := by rw [← e2]; exact (hF1.st (by simp)).st (by simp)
      have hft2 : S2.1 4 2 = S.1 4 2 := by rw [← e2, xst_k (by decide), xst_q (by decide)]; exact hft1
      have hu2 : S2.1 6 f = u := by rw [← e2, xst_q (by decide), xst_eq]
      rw [c_sign hT2 h80 ha2 (by omega), ob, h52]
      unfold pzP
      have haa : a ≤ a1 := by
        rw [← ea1]; omega
      by_cases h3 : ptx (S.1 5) T (a1 + 1) = 43
      · rw [if_pos h3, if_pos h3]
        have hlt3 : a1 + 1 < T := ptx_lt (f := S.1 5) (by rw [h3]; decide)
        rw [ha2, show nI (a1 + 1) + (1 : Int32) = nI (a1 + 1 + 1) from ad1 (a1 + 1)]
        generalize e3 : xst S2 4 7 (nI (a1 + 1 + 1)) = S3
        have hT3 : S3.1 4 1 = nI T := by rw [← e3, xst_k (by decide)]; exact hT2
        have ha3 : S3.1 4 7 = nI (a1 + 1 + 1) := by rw [← e3, xst_eq]
        have h53 : S3.1 5 = S.1 5 := by rw [← e3, xst_ne (by decide)]; exact h52
        have hF3 : Pfr S S3 f := by rw [← e3]; exact hF2.st (by simp)
        have hft3 : S3.1 4 2 = S.1 4 2 := by rw [← e3, xst_k (by decide)]; exact hft2
        have hu3 : S3.1 6 f = u := by rw [← e3, xst_q (by decide)]; exact hu2
        rw [c_tnum 11 hT3 h80 ha3 (by omega) hn, ob, h53]
        by_cases h4 : f_X9_in (pnum (S.1 5) T (a1 + 1 + 1)) 1 11 = 0
        · rw [if_pos h4, if_pos h4]
          unfold j_X4_takeFloor_50
          rw [if_pos (show ((-1 : Int32), xst (xst S3 4 7 (nI (a1 + 1 + 1 + pfs (S.1 5) T (a1 + 1 + 1)))) 4 2 (nI (a1 + 1 + 1))).1 = -1 from rfl)]
          exact Or.inl ⟨a1 + 1 + 1, _, rfl, rfl, xst_eq _ _ _ _, by omega, (hF3.st (by simp)).st (by simp)⟩
        · rw [if_neg h4, if_neg h4]
          have hle3 := pfs_le (f := S.1 5) (T := T) (a := a1 + 1 + 1) (by omega)
          generalize e5 : a1 + 1 + 1 + pfs (S.1 5) T (a1 + 1 + 1) = a3 at hle3
          have hp : ¬ pnum (S.1 5) T (a1 + 1 + 1) = -1 := fun z => h4 (by rw [z]; rfl)
          generalize pnum (S.1 5) T (a1 + 1 + 1) = p at hp
          exact c_tfE (S := xst S3 4 7 (nI a3)) (by rw [xst_k (by decide)]; exact hT3) h80 (xst_eq _ _ _ _) hle3 (by omega) hf (by rw [xst_q (by decide)]; exact hu3) (by rw [xst_k (by decide)]; exact hft3) (hF3.st (by simp)) hp (by rw [xst_ne (by decide)]; exact h53)
      · rw [if_neg h3, if_neg h3]
        exact c_tfE hT2 h80 ha2 (by omega) (by omega) hf hu2 hft2 hF2 (by decide) h52
    · rw [if_neg h2, if_neg h2]
      exact Or.inl ⟨a1, _, rfl, rfl, xst_eq _ _ _ _, hle, hF1.st (by simp)⟩
end PF
