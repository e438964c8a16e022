def pzS (f : Nat → Int32) (T : Nat) (r : Nat → Option Nat × List pzT) (a : Nat) : Option Nat × List pzT := match pz1 f T a with
    | .inl p => (some p, [])
    | .inr (a6, t) => if a6 = T then (none, [t]) else if ptx f T a6 = 59 then ((r (a6 + 1)).1, t :: (r (a6 + 1)).2) else (some a6, [t])
def pzA (f : Nat → Int32) (T : Nat) : Nat → Nat → Option Nat × List pzT
  | 0, a => (some a, [])
  | k + 1, a => pzS f T (pzA f T k) a
def pzW (f : Nat → Int32) (T : Nat) : Option Nat × List pzT := if T = 0 then (none, []) else pzA f T 10 0
def pzFt (z : Option Nat × List pzT) : Int32 := match z.1 with | none => -1 | some p => nI p
def pzF (z : Option Nat × List pzT) : Nat := match z.1 with | none => z.2.length | some _ => 0
theorem pzA_bad {f : Nat → Int32} {T k a p : Nat} (h : pz1 f T a = .inl p) : pzA f T (k + 1) a = (some p, []) := by
  show pzS f T (pzA f T k) a = _
  unfold pzS
  rw [h]
theorem pzA_ok {f : Nat → Int32} {T k a a6 : Nat} {t : pzT} (h : pz1 f T a = .inr (a6, t)) : pzA f T (k + 1) a = if a6 = T then (none, [t]) else if ptx f T a6 = 59 then ((pzA f T k (a6 + 1)).1, t :: (pzA f T k (a6 + 1)).2) else (some a6, [t]) := by
  show pzS f T (pzA f T k) a = _
  unfold pzS
  rw [h]
theorem pzA_len (f : Nat → Int32) (T : Nat) : ∀ (k a : Nat), (pzA f T k a).2.length ≤ k
  | 0, a => Nat.le_refl 0
  | k + 1, a => by
    cases h : pz1 f T a with
    | inl p => rw [pzA_bad h]; exact Nat.zero_le _
    | inr x =>
      obtain ⟨a6, t⟩ := x
      rw [pzA_ok h]
      have := pzA_len f T k (a6 + 1)
      split
      · show 1 ≤ k + 1; omega
      · split
        · show (pzA f T k (a6 + 1)).2.length + 1 ≤ k + 1; omega
        · show 1 ≤ k + 1; omega
theorem pzW_len (f : Nat → Int32) (T : Nat) : (pzW f T).2.length ≤ 10 := by
  unfold pzW
  split
  · exact Nat.zero_le _
  · exact pzA_len f T 10 0
theorem pzF_le (f : Nat → Int32) (T : Nat) : pzF (pzW f T) ≤ 10 := by
  unfold pzF
  split
  · exact pzW_len f T
  · exact Nat.zero_le _
def Pg (S S' : xS) (f : Nat) : Prop := (∀ q k, ¬ (q = 4 ∧ (k = 2 ∨ k = 3 ∨ k = 7)) → ¬ ((q = 6 ∨ q = 7 ∨ q = 8) ∧ f ≤ k) → S'.1 q k = S.1 q k) ∧ S'.2 = S.2
theorem Pg.of {S S' : xS} {f : Nat} (h : Pfr S S' f) : Pg S S' f := ⟨fun q k h1 h2 => h.1 q k (fun z => h1 ⟨z.1, z.2.elim Or.inl (fun y => Or.inr (Or.inr y))⟩) (fun z => h2 ⟨z.1, Nat.le_of_eq z.2.symm⟩), h.2⟩
theorem Pg.tr {S S' S'' : xS} {f g : Nat} (h : Pg S S' f) (h' : Pg S' S'' g) (hg : f ≤ g) : Pg S S'' f := ⟨fun q k h1 h2 => (h'.1 q k h1 (fun z => h2 ⟨z.1, Nat.le_trans hg z.2⟩)).trans (h.1 q k h1 h2), h'.2.trans h.2⟩
theorem Pg.st {S S' : xS} {f k : Nat} {v : Int32} (h : Pg S S' f) (hk : k = 2 ∨ k = 3 ∨ k = 7) : Pg S (xst S' 4 k v) f := by
  refine ⟨fun a b h1 h2 => ?_, h.2⟩
  have : ¬ (a = 4 ∧ b = k) := by
    rintro ⟨rfl, rfl⟩
    exact h1 ⟨rfl, hk⟩
  show (if a = 4 ∧ b = k then v else S'.1 a b) = S.1 a b
  rw [if_neg this]
  exact h.1 a b h1 h2
def Sc (S : xS) (d : Nat) (z : Option Nat × List pzT) : Prop := S.1 4 2 = pzFt z ∧ S.1 4 3 = (match z.1 with | none => nI (d + z.2.length) | some _ => 0) ∧ (z.1 = none → ∀ (i : Nat) (t : pzT), z.2[i]? = some t → S.1 6 (d + i) = t.1 ∧ S.1 7 (d + i) = t.2.1 ∧ S.1 8 (d + i) = t.2.2)
theorem nI_ne_m1 {p : Nat} (h : p < 2147483648) : ¬ nI p = -1 := by
  intro z
  have := congrArg Int32.toInt z
  rw [tin h] at this
  have h2 : (-1 : Int32).toInt = -1 := rfl
  omega
section SC
variable {n T : Nat}
/-- the loop left with a fault told -/
theorem c_sc0 {S : xS} {p d : Nat} (hp : S.1 4 2 = nI p) (hpb : p < 2147483648) (j : Nat) : l_X4_scan_25 n (j + 1) S (nI d) 0 = some (xst S 4 3 0) := by
  show b_X4_scan_25 n (l_X4_scan_25 n j) S (nI d) 0 = _
  unfold b_X4_scan_25 j_X4_scan_75
  rw [if_pos rfl, if_pos rfl, if_neg (by rw [hp]; exact nI_ne_m1 hpb)]
theorem c_sc1 {S : xS} {d : Nat} (hp : S.1 4 2 = -1) (j : Nat) : l_X4_scan_25 n (j + 1) S (nI d) 0 = some (xst S 4 3 (nI d)) := by
  show b_X4_scan_25 n (l_X4_scan_25 n j) S (nI d) 0 = _
  unfold b_X4_scan_25 j_X4_scan_75
  rw [if_pos rfl, if_pos rfl, if_pos hp]
theorem c_scan (h80 : T ≤ 80) (hn : 4 ≤ n) : ∀ (k d a : Nat) (S : xS), d + k = 10 → S.1 4 1 = nI T → S.1 4 7 = nI a → a ≤ T → S.1 4 2 = -1 → ∀ j, k + 2 ≤ j → ∃ S', l_X4_scan_25 n j S (nI d) 1 = some S' ∧ Sc S' d (pzA (S.1 5) T k a) ∧ Pg S S' d := by
  intro k
  induction k with
  | zero =>
    intro d a S hd hT ha haT hft j hj
    obtain ⟨i, rfl⟩ : ∃ i, j = i + 1 := ⟨j - 1, by omega⟩
    have e : d = 10 := by omega
    subst e
    refine ⟨xst (xst S 4 2 (nI a)) 4 3 0, ?_, ⟨?_, ?_, fun z => by cases z⟩, ((Pg.of (Pfr.rf S 10)).st (by simp)).st (by simp)⟩
    · show b_X4_scan_25 n (l_X4_scan_25 n i) S (nI 10) 1 = _
      unfold b_X4_scan_25 j_X4_scan_75
      rw [if_neg (by decide), if_pos (by decide), if_neg (by decide), ha]
      show (if (xst S 4 2 (nI a)).1 4 2 = -1 then _ else some (xst (xst S 4 2 (nI a)) 4 3 0)) = _
      rw [if_neg (by rw [xst_eq]; exact nI_ne_m1 (by omega))]
    · rw [xst_k (by decide), xst_eq]; rfl
    · rw [xst_eq]; rfl
  | succ k ih =>
    intro d a S hd hT ha haT hft j hj
    obtain ⟨i, rfl⟩ : ∃ i, j = i + 2 := ⟨j - 2, by omega⟩
    have step : l_X4_scan_25 n (i + 2) S (nI d) 1 = b_X4_scan_25 n (l_X4_scan_25 n (i + 1)) S (nI d) 1 := rfl
    rw [step]
    unfold b_X4_scan_25
    rw [if_neg (by decide), if_neg (by rw [n10, len (by omega) (by omega)]; omega)]
    rcases c_tfl (n := n) hT h80 ha haT (show d < 10 by omega) hn with ⟨p, S1, hz, ho, h42, hp, hF⟩ | ⟨a6, u, tw, w, S1, hz, ho, h47, h6T, ha6, hu, htw, hw, h42, hF⟩
    · rw [ho, ob, if_pos (show ((0 : Int32), S1).1 = 0 from rfl), pzA_bad hz]
      refine ⟨_, (show l_X4_scan_25 n (i + 1) S1 (nI d + 1) 0 = _ from by rw [ad1]; exact c_sc0 h42 (by omega) i), ⟨?_, ?_, fun z => by cases z⟩, (Pg.of hF).st (by simp)⟩
      · rw [xst_k (by decide)]; exact h42
      · rw [xst_eq]
    · rw [ho, ob, if_neg (show ¬ ((1 : Int32), S1).1 = 0 from by show ¬ (1 : Int32) = 0; decide), pzA_ok hz]
      have hT1 : S1.1 4 1 = nI T := (hF.1 4 1 (by decide) (by simp)).trans hT
      have h51 : S1.1 5 = S.1 5 := funext fun x => hF.1 5 x (by simp) (by simp)
      show ∃ S', (if S1.1 4 1 ≤ S1.1 4 7 then l_X4_scan_25 n (i + 1) S1 (nI d + 1) 0 else (f_X4_takeSign n S1 59).bind fun r11 => (if r11.1 = 0 then l_X4_scan_25 n (i + 1) r11.2 (nI d + 1) 0 else l_X4_scan_25 n (i + 1) r11.2 (nI d + 1) 1)) = some S' ∧ _
      rw [hT1, h47, ifle (by omega) (by omega), ad1]
      by_cases hend : a6 = T
      · rw [if_pos (by omega), if_pos hend, c_sc1 (h42.trans hft)]
        refine ⟨_, rfl, ⟨?_, ?_, fun _ x t hx => ?_⟩, (Pg.of hF).st (by simp)⟩
        · rw [xst_k (by decide)]; exact h42.trans hft
        · rw [xst_eq]; rfl
        · cases x with
          | zero =>
            cases hx
            exact ⟨by rw [xst_q (by decide)]; exact hu, by rw [xst_q (by decide)]; exact htw, by rw [xst_q (by decide)]; exact hw⟩
          | succ x => simp at hx
      · rw [if_neg (by omega), if_neg hend, c_tsign 59 hT1 h80 h47 h6T, ob, h51]
        by_cases hs : ptx (S.1 5) T a6 = 59
        · rw [if_pos hs, if_pos hs, if_neg (show ¬ ((1 : Int32), xst S1 4 7 (nI (a6 + 1))).1 = 0 from by show ¬ (1 : Int32) = 0; decide)]
          show ∃ S', l_X4_scan_25 n (i + 1) (xst S1 4 7 (nI (a6 + 1))) (nI (d + 1)) 1 = some S' ∧ _
          obtain ⟨S2, g1, g2, g3⟩ := ih (d + 1) (a6 + 1) (xst S1 4 7 (nI (a6 + 1))) (by omega) (by rw [xst_k (by decide)]; exact hT1) (xst_eq _ _ _ _) (by omega) (by rw [xst_k (by decide)]; exact h42.trans hft) (i + 1) (by omega)
          rw [show (xst S1 4 7 (nI (a6 + 1))).1 5 = S.1 5 from by rw [xst_ne (by decide)]; exact h51] at g2
          refine ⟨S2, g1, ⟨g2.1, ?_, fun hN x t hx => ?_⟩, ((Pg.of hF).st (by simp)).tr g3 (by omega)⟩
          · rw [g2.2.1]
            generalize pzA (S.1 5) T k (a6 + 1) = z
            obtain ⟨z1, z2⟩ := z
            cases z1 with
            | none => show nI (d + 1 + z2.length) = nI (d + (z2.length + 1)); congr 1; omega
            | some p => rfl
          · cases x with
            | zero =>
              cases hx
              have hfr := g3.1
              refine ⟨?_, ?_, ?_⟩
              · rw [Nat.add_zero, hfr 6 d (by simp) (by simp), xst_q (by decide)]; exact hu
              · rw [Nat.add_zero, hfr 7 d (by simp) (by simp), xst_q (by decide)]; exact htw
              · rw [Nat.add_zero, hfr 8 d (by simp) (by simp), xst_q (by decide)]; exact hw
            | succ x =>
              have := g2.2.2 hN x t hx
              rw [show d + 1 + x = d + (x + 1) by omega] at this
              exact this
        · rw [if_neg hs, if_neg hs, if_pos (show ((0 : Int32), xst S1 4 2 (nI a6)).1 = 0 from rfl)]
          refine ⟨_, c_sc0 (S := xst S1 4 2 (nI a6)) (xst_eq _ _ _ _) (by omega) i, ⟨?_, ?_, fun z => by cases z⟩, ((Pg.of hF).st (by simp)).st (by simp)⟩
          · rw [xst_k (by decide), xst_eq]; rfl
          · rw [xst_eq]
theorem c_scanW {S : xS} (hT : S.1 4 1 = nI T) (h80 : T ≤ 80) (hn : 20 ≤ n) : ∃ S', f_X4_scan n S = some S' ∧ Sc S' 0 (pzW (S.1 5) T) ∧ Pg S S' 0 := by
  unfold f_X4_scan
  generalize e : xst (xst S 4 7 0) 4 2 (-1) = S1
  have hT1 : S1.1 4 1 = nI T := by rw [← e, xst_k (by decide), xst_k (by decide)]; exact hT
  have ha1 : S1.1 4 7 = nI 0 := by rw [← e, xst_k (by decide), xst_eq]; rfl
  have hf1 : S1.1 4 2 = -1 := by rw [← e, xst_eq]
  have h51 : S1.1 5 = S.1 5 := by rw [← e, xst_ne (by decide), xst_ne (by decide)]
  have hP : Pg S S1 0 := by rw [← e]; exact ((Pg.of (Pfr.rf S 0)).st (by simp)).st (by simp)
  rw [hT1, show (if nI T ≤ 0 then l_X4_scan_25 n n S1 0 0 else l_X4_scan_25 n n S1 0 1) = (if nI T ≤ nI 0 then l_X4_scan_25 n n S1 (nI 0) 0 else l_X4_scan_25 n n S1 (nI 0) 1) from rfl, ifle (by omega) (by omega)]
  unfold pzW
  obtain ⟨i, rfl⟩ : ∃ i, n = i + 20 := ⟨n - 20, by omega⟩
  by_cases h0 : T = 0
  · rw [if_pos (by omega), if_pos h0]
    exact ⟨_, c_sc1 (j := i + 19) hf1, ⟨by rw [xst_k (by decide)]; exact hf1, by rw [xst_eq]; rfl, fun _ x t hx => by simp at hx⟩, hP.st (by simp)⟩
  · rw [if_neg (by omega), if_neg h0]
    obtain ⟨S2, g1, g2, g3⟩ := c_scan (n := i + 20) h80 (by omega) 10 0 0 S1 rfl hT1 ha1 (by omega) hf1 (i + 20) (by omega)
    rw [h51] at g2
    exact ⟨S2, g1, g2, hP.tr g3 (Nat.le_refl 0)⟩
end SC
