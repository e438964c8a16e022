def cutN (s g a r : Nat) : Nat := if r = 0 then a * g / s * s / g else if r = 1 then (a * g + s - 1) / s * s / g else (2 * (a * g) + s - 1) / (2 * s) * s / g
theorem cutN_le {s g a r : Nat} (hs : 1 ≤ s) (hg : 1 ≤ g) : cutN s g a r ≤ a + s := by
  unfold cutN
  have key : ∀ y, y ≤ a * g + s → y / g ≤ a + s := by
    intro y hy
    have h1 : y / g ≤ (a * g + s) / g := Nat.div_le_div_right hy
    have h2 : (a * g + s) / g = a + s / g := by rw [Nat.add_comm, Nat.add_mul_div_right _ _ (by omega), Nat.add_comm]
    have h3 : s / g ≤ s := Nat.div_le_self s g
    omega
  split
  · exact key _ (Nat.le_trans (Nat.div_mul_le_self _ _) (by omega))
  · split
    · refine key _ (Nat.le_trans (Nat.div_mul_le_self _ _) (by omega))
    · refine key _ ?_
      have h1 := Nat.div_mul_le_self (2 * (a * g) + s - 1) (2 * s)
      have h2 : (2 * (a * g) + s - 1) / (2 * s) * (2 * s) = 2 * ((2 * (a * g) + s - 1) / (2 * s) * s) := by rw [Nat.mul_left_comm]
      generalize (2 * (a * g) + s - 1) / (2 * s) * s = y at h2 ⊢
      omega
theorem cut_nat {sz gr : Nat → Int32} {s g a j : Nat} (es : sz (j / 3) = nI s) (eg : gr (j / 3) = nI g) (hs : 1 ≤ s ∧ s ≤ 999) (hg : 1 ≤ g ∧ g ≤ 9) (ha : a ≤ 99999) : cutv sz gr (nI a) j = nI (cutN s g a (j % 3)) := by
  unfold cutv cutN
  have hag : a * g ≤ 899991 := Nat.le_trans (Nat.mul_le_mul ha hg.2) (by decide)
  have hd : ∀ y d, y / d * s ≤ y * 999 := fun y d => Nat.mul_le_mul (Nat.div_le_self y d) hs.2
  rw [es, eg, mln]
  split
  · have := hd (a * g) s
    have h2 := Nat.div_mul_le_self (a * g) s
    rw [dvn (by omega) (by omega) (by omega), mln, dvn (by omega) (by omega) (by omega)]
  · split
    · have h2 := Nat.div_mul_le_self (a * g + s - 1) s
      rw [adn, n1, sbn (by omega), dvn (by omega) (by omega) (by omega), mln, dvn (by omega) (by omega) (by omega)]
    · have h2 := Nat.div_mul_le_self (2 * (a * g) + s - 1) (2 * s)
      have h3 : (2 * (a * g) + s - 1) / (2 * s) * s ≤ (2 * (a * g) + s - 1) / (2 * s) * (2 * s) := Nat.mul_le_mul_left _ (by omega)
      rw [n2, mln, mln, adn, n1, sbn (by omega), dvn (by omega) (by omega) (by omega), mln, dvn (by omega) (by omega) (by omega)]
theorem sz_nat {sz gr : Nat → Int32} (h : szOk sz gr) {k : Nat} (hk : k < 3) : ∃ s g : Nat, (1 ≤ s ∧ s ≤ 999) ∧ (1 ≤ g ∧ g ≤ 9) ∧ sz k = nI s ∧ gr k = nI g := by
  obtain ⟨h1, h2, h3, h4⟩ := h k hk
  obtain ⟨s, s1, s2, s3⟩ := nat_of (x := sz k) (by omega)
  obtain ⟨g, g1, g2, g3⟩ := nat_of (x := gr k) (by omega)
  exact ⟨s, g, by omega, by omega, s2, g2⟩
theorem cut_ex {sz gr : Nat → Int32} (h : szOk sz gr) {a j : Nat} (ha : a ≤ 99999) (hj : j < 9) : ∃ C : Nat, C ≤ a + 999 ∧ cutv sz gr (nI a) j = nI C := by
  obtain ⟨s, g, hs, hg, es, eg⟩ := sz_nat h (k := j / 3) (by omega)
  exact ⟨_, Nat.le_trans (cutN_le hs.1 hg.1) (by omega), cut_nat es eg hs hg ha⟩
/-- the numbers of a tower of F floors -/
def Gd (v : Nat → Nat → Int32) (F : Nat) (ft : Int32) : Prop :=
  F ≤ 10 ∧ v 4 3 = nI F ∧ v 4 2 = ft ∧ szOk (v 2) (v 3) ∧
  (∀ f, f < F → ∃ M C j : Nat, (1 ≤ M ∧ M ≤ 99816) ∧ C ≤ M + 999 ∧ j < 9 ∧ v 10 f = nI M ∧ v 11 f = nI C ∧ v 8 f = nI j ∧ v 11 f = cutv (v 2) (v 3) (v 10 f) j ∧ v 13 (f + 1) = v 13 f + (v 11 f + v 12 f) ∧ v 14 (f + 1) = v 14 f + v 10 f) ∧
  v 13 0 = 0 ∧ v 14 0 = 0 ∧ (∀ k, k < 10 → -99 ≤ (v 12 k).toInt ∧ (v 12 k).toInt ≤ 99) ∧ (∀ k, k < 11 → -99 ≤ (v 19 k).toInt ∧ (v 19 k).toInt ≤ 99) ∧ (∀ k, k < 10 → 0 ≤ (v 23 k).toInt ∧ (v 23 k).toInt ≤ 99) ∧ (0 ≤ (v 33 0).toInt ∧ (v 33 0).toInt ≤ 99) ∧ (1 ≤ (v 33 1).toInt ∧ (v 33 1).toInt ≤ 999) ∧ (0 ≤ (v 33 2).toInt ∧ (v 33 2).toInt ≤ 9) ∧ (0 ≤ (v 33 3).toInt ∧ (v 33 3).toInt ≤ 9)
def coreC : List Nat := [2, 3, 4, 8, 10, 11, 12, 13, 14, 16, 19, 23, 33]
def Cl (S : xS) (v : Nat → Nat → Int32) : Prop := ∀ q ∈ coreC, S.1 q = v q
def Md (S : xS) (v : Nat → Nat → Int32) (F : Nat) : Prop := S.1 35 = v 2 ∧ S.1 36 = v 3 ∧ S.1 37 = v 33 ∧ S.1 41 = v 12 ∧ S.1 42 = v 16 ∧ S.1 43 = v 19 ∧ S.1 44 = v 23 ∧ S.1 34 3 = v 4 1 ∧ S.1 34 5 = nI F ∧ ∀ f, f < F → S.1 39 f = v 10 f ∧ S.1 40 f = v 8 f
def Rd (S : xS) (ft : Int32) : Prop := ∀ n, 20 ≤ n → f_X9_reads n S = some (ft, S)
def Vw (S : xS) (v : Nat → Nat → Int32) (F : Nat) (ft : Int32) : Prop := Gd v F ft ∧ Cl S v ∧ Md S v F ∧ Rd S ft
theorem Cl.rf (S : xS) : Cl S S.1 := fun _ _ => rfl
theorem derOk.row {S : xS} {T : Nat} (h : derOk S T) : rowOk S (pzF (pzW (S.1 5) T)) ∧ S.1 4 3 = nI (pzF (pzW (S.1 5) T)) ∧ S.1 4 2 = pzFt (pzW (S.1 5) T) ∧ ∀ f, f < pzF (pzW (S.1 5) T) → f < (pzW (S.1 5) T).2.length ∧ S.1 6 f = ((pzW (S.1 5) T).2.getD f (0, 0, 0)).1 ∧ S.1 7 f = ((pzW (S.1 5) T).2.getD f (0, 0, 0)).2.1 ∧ S.1 8 f = ((pzW (S.1 5) T).2.getD f (0, 0, 0)).2.2 := by
  obtain ⟨⟨h1, h2, h3⟩, -⟩ := h
  have hm : ∀ t, t ∈ (pzW (S.1 5) T).2 → tOk t := fun t => pzW_t
  generalize pzW (S.1 5) T = z at *
  obtain ⟨z1, l⟩ := z
  cases z1 with
  | some p => exact ⟨fun f hf => absurd hf (Nat.not_lt_zero f), h2, h1, fun f hf => absurd hf (Nat.not_lt_zero f)⟩
  | none =>
    have key : ∀ f, f < l.length → S.1 6 f = (l.getD f (0, 0, 0)).1 ∧ S.1 7 f = (l.getD f (0, 0, 0)).2.1 ∧ S.1 8 f = (l.getD f (0, 0, 0)).2.2 ∧ tOk (l.getD f (0, 0, 0)) := by
      intro f hf
      have hg : l[f]? = some (l.getD f (0, 0, 0)) := by
        rw [List.getD_eq_getElem?_getD, List.getElem?_eq_getElem hf]; rfl
      have := h3 rfl f _ hg
      rw [Nat.zero_add] at this
      exact ⟨this.1, this.2.1, this.2.2, hm _ (List.mem_of_getElem? hg)⟩
    refine ⟨fun f hf => ?_, by rw [h2]; show nI (0 + l.length) = nI l.length; rw [Nat.zero_add], h1, fun f hf => ?_⟩
    · obtain ⟨k1, k2, k3, k4⟩ := key f hf
      rw [k1, k2, k3]
      exact k4
    · obtain ⟨k1, k2, k3, k4⟩ := key f hf
      exact ⟨hf, k1, k2, k3⟩
theorem meant_nat {s tw : Int32} (hs : 1 ≤ s.toInt ∧ s.toInt ≤ 999) (ht : 12 ≤ tw.toInt ∧ tw.toInt ≤ 1199) : ∃ M : Nat, (1 ≤ M ∧ M ≤ 99816) ∧ s * tw / 12 = nI M := by
  obtain ⟨a, a1, a2, a3⟩ := nat_of (x := s) (by omega)
  obtain ⟨b, b1, b2, b3⟩ := nat_of (x := tw) (by omega)
  have h1 : 12 ≤ a * b := Nat.le_trans (show 12 ≤ 1 * b by omega) (Nat.mul_le_mul_right b (by omega))
  have h2 : a * b ≤ 1197801 := Nat.le_trans (Nat.mul_le_mul (show a ≤ 999 by omega) (show b ≤ 1199 by omega)) (by decide)
  refine ⟨a * b / 12, by omega, ?_⟩
  rw [a2, b2, mln]
  exact dvn (d := 12) (by omega) (by decide) (by decide)
theorem Inv.gd {S : xS} {T : Nat} (hb : baseOk S T) (hn : numOk S) (hd : derOk S T) : Gd S.1 (pzF (pzW (S.1 5) T)) (pzFt (pzW (S.1 5) T)) := by
  obtain ⟨n1, n2, n3, n4, n5, n6, n7, n8⟩ := hn
  obtain ⟨r1, r2, r3, r4⟩ := hd.row
  refine ⟨pzF_le _ _, r2, r3, n1, fun f hf => ?_, hd.2.2.1, hd.2.2.2, n2, n3, n4, n5, n6, n7, n8⟩
  obtain ⟨⟨u, hu, eu⟩, htw, j, hj, ej⟩ := r1 f hf
  obtain ⟨k1, k2, k3, k4⟩ := hd.2.1 f hf
  obtain ⟨M, hM, eM⟩ := meant_nat (s := S.1 2 u) ⟨(n1 u hu).1, (n1 u hu).2.1⟩ htw
  rw [eu, cln (by omega), eM] at k1
  rw [ej, cln (by omega)] at k2
  obtain ⟨C, hC, eC⟩ := cut_ex n1 (a := M) (j := j) (by omega) hj
  exact ⟨M, C, j, hM, hC, hj, k1, by rw [k2, k1]; exact eC, ej, k2, k3, k4⟩
theorem Inv.vw {S : xS} {T : Nat} (hb : baseOk S T) (hn : numOk S) (hd : derOk S T) : Vw (RD S T) S.1 (pzF (pzW (S.1 5) T)) (pzFt (pzW (S.1 5) T)) := by
  have hg := Inv.gd hb hn hd
  obtain ⟨r1, r2, r3, r4⟩ := hd.row
  obtain ⟨b1, b2, b3, b4, b5, b6, b7, b8, b9, b10, b11, b12⟩ := hb
  refine ⟨hg, fun q hq => RD_q (by rintro rfl; exact absurd hq (by decide)) (by rintro rfl; exact absurd hq (by decide)) (by rintro rfl; exact absurd hq (by decide)), ⟨?_, ?_, ?_, ?_, ?_, ?_, ?_, ?_, ?_, fun f hf => ?_⟩, fun n h20 => ?_⟩
  · rw [RD_q (by decide) (by decide) (by decide)]; exact b5
  · rw [RD_q (by decide) (by decide) (by decide)]; exact b6
  · rw [RD_q (by decide) (by decide) (by decide)]; exact b7
  · rw [RD_q (by decide) (by decide) (by decide)]; exact b8
  · rw [RD_q (by decide) (by decide) (by decide)]; exact b9
  · rw [RD_q (by decide) (by decide) (by decide)]; exact b10
  · rw [RD_q (by decide) (by decide) (by decide)]; exact b11
  · rw [RD_34 (by decide), b3, b2]
  · rw [RD_F, b4]
  · obtain ⟨l1, l2, l3, l4⟩ := r4 f hf
    obtain ⟨k1, -⟩ := hd.2.1 f hf
    rw [RD_at, RD_at, b4]
    refine ⟨?_, ?_⟩
    · rw [if_neg (by omega), if_pos ⟨rfl, l1⟩, b5, k1, l2, l3]
    · rw [if_pos ⟨rfl, l1⟩, l4]
  · rw [m_rd (T := T) (by rw [RD_34 (by decide)]; exact b3) b1 h20, RD_RD, RD_q (by decide) (by decide) (by decide), b4]
theorem Inv.rd {S : xS} {T n : Nat} (hb : baseOk S T) (h20 : 20 ≤ n) : f_X9_reads n S = some (pzFt (pzW (S.1 5) T), RD S T) := by
  obtain ⟨b1, b2, b3, b4, -⟩ := hb
  rw [m_rd b3 b1 h20, b4]
/-- the invariant doesn't see what reads() writes -/
theorem Inv.ofRD {S : xS} {T : Nat} (hb : baseOk S T) (hn : numOk S) (hd : derOk S T) (hs : sheetOk S) : Inv (RD S T) := by
  have e : ∀ q, q ≠ 39 → q ≠ 40 → q ≠ 34 → (RD S T).1 q = S.1 q := fun q a b c => RD_q a b c
  have d : ∀ q, q < 34 → (RD S T).1 q = S.1 q := fun q h => RD_q (by omega) (by omega) (by omega)
  refine ⟨T, ?_, ?_, ?_, ?_⟩
  · unfold baseOk at hb ⊢
    rw [e 38 (by decide) (by decide) (by decide), e 35 (by decide) (by decide) (by decide), e 36 (by decide) (by decide) (by decide), e 37 (by decide) (by decide) (by decide), e 41 (by decide) (by decide) (by decide), e 42 (by decide) (by decide) (by decide), e 43 (by decide) (by decide) (by decide), e 44 (by decide) (by decide) (by decide), RD_34 (by decide), RD_34 (by decide), d 4 (by decide), d 5 (by decide), d 2 (by decide), d 3 (by decide), d 33 (by decide), d 12 (by decide), d 16 (by decide), d 19 (by decide), d 23 (by decide), d 0 (by decide)]
    exact hb
  · unfold numOk at hn ⊢
    rw [d 2 (by decide), d 3 (by decide), d 12 (by decide), d 19 (by decide), d 23 (by decide), d 33 (by decide)]
    exact hn
  · unfold derOk Sc Rk at hd ⊢
    rw [d 4 (by decide), d 5 (by decide), d 6 (by decide), d 7 (by decide), d 8 (by decide), d 2 (by decide), d 3 (by decide), d 10 (by decide), d 11 (by decide), d 12 (by decide), d 13 (by decide), d 14 (by decide)]
    exact hd
  · unfold sheetOk at hs ⊢
    intro s h
    rw [e 48 (by decide) (by decide) (by decide), e 49 (by decide) (by decide) (by decide), e 50 (by decide) (by decide) (by decide), e 51 (by decide) (by decide) (by decide), d (25 + s) (by omega), d (25 + s + 4) (by omega)]
    exact hs s h
