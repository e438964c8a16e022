/-- how far off m steps of h are -/
def eD (b : Int32) (m h : Nat) : Nat := (b.toInt - (m : Int) * (h : Int)).natAbs
theorem ev_min {b q n lo hi s0 s1 t : Int} (hn0 : 1 ≤ n) (hlo : lo ≤ hi) (hq1 : n * q ≤ b) (hq2 : b < n * (q + 1)) (e0 : s0 = max lo (min hi q)) (e1 : s1 = min hi (s0 + 1)) (et : t = if (b - n * s0).natAbs ≤ (b - n * s1).natAbs then s0 else s1) : lo ≤ t ∧ t ≤ hi ∧ ∀ h, lo ≤ h → h ≤ hi → (b - n * t).natAbs ≤ (b - n * h).natAbs ∧ (h < t → (b - n * t).natAbs < (b - n * h).natAbs) := by
  have mono1 : ∀ a c : Int, a ≤ c → n * a ≤ n * c := fun a c h => Int.mul_le_mul_of_nonneg_left h (by omega)
  have mono2 : ∀ a c : Int, a < c → n * a + n ≤ n * c := fun a c h => by
    have := mono1 (a + 1) c (by omega)
    rw [Int.mul_add, Int.mul_one] at this
    exact this
  by_cases c1 : hi ≤ q
  · have z0 : s0 = hi := by omega
    have z1 : s1 = hi := by omega
    have zt : t = hi := by rw [et, z0, z1]; split <;> rfl
    rw [zt]
    have w1 := mono1 hi q c1
    refine ⟨by omega, by omega, fun h h1 h2 => ⟨?_, fun h3 => ?_⟩⟩
    · have := mono1 h hi h2; omega
    · have := mono2 h hi h3; omega
  · by_cases c2 : q < lo
    · have z0 : s0 = lo := by omega
      have w1 := mono1 (q + 1) lo (by omega)
      have w2 := mono1 lo s1 (by omega)
      have zt : t = lo := by rw [et, z0, if_pos (by omega)]
      rw [zt]
      refine ⟨by omega, by omega, fun h h1 h2 => ⟨?_, fun h3 => by omega⟩⟩
      have := mono1 lo h h1; omega
    · have z0 : s0 = q := by omega
      have z1 : s1 = q + 1 := by omega
      rw [z0, z1] at et
      by_cases c3 : (b - n * q).natAbs ≤ (b - n * (q + 1)).natAbs
      · rw [if_pos c3] at et
        rw [et]
        refine ⟨by omega, by omega, fun h h1 h2 => ⟨?_, fun h3 => ?_⟩⟩
        · by_cases c4 : h ≤ q
          · have := mono1 h q c4; omega
          · have := mono1 (q + 1) h (by omega); omega
        · have := mono2 h q h3; omega
      · rw [if_neg c3] at et
        rw [et]
        refine ⟨by omega, by omega, fun h h1 h2 => ⟨?_, fun h3 => ?_⟩⟩
        · by_cases c4 : h ≤ q
          · have := mono1 h q c4; omega
          · have := mono1 (q + 1) h (by omega); omega
        · have := mono1 h q (by omega); omega
theorem xor_pos {a y : Int32} (hy : 0 ≤ y.toInt) : (0 ≤ (a ^^^ y)) ↔ 0 ≤ a := by
  have h : ∀ x : Int32, (0 ≤ x) ↔ x.toBitVec.msb = false := by
    intro x
    rw [leI, BitVec.msb_eq_toInt]
    show 0 ≤ x.toBitVec.toInt ↔ _
    constructor
    · intro h; exact decide_eq_false (by omega)
    · intro h; have := of_decide_eq_false h; omega
  rw [h, h]
  show (a.toBitVec ^^^ y.toBitVec).msb = false ↔ _
  rw [BitVec.msb_xor, (h y).mp (leI.mpr hy), Bool.xor_false]
theorem fdiv_I {n : Nat} {a : Int32} {m : Nat} (hm : 1 ≤ m) (hm2 : m ≤ 1000) (ha : -2000000 ≤ a.toInt ∧ a.toInt ≤ 2000000) : ∃ r : Int32, f_J9_floorDiv_7cf53 n a (nI m) = some r ∧ r.toInt = a.toInt / (m : Int) := by
  unfold f_J9_floorDiv_7cf53
  have tm := tin (k := m) (by omega)
  have hz : ¬ nI m = 0 := by rw [eqI, tm]; show ¬ (m : Int) = 0; omega
  rw [xgT (by rw [decide_eq_false hz]; rfl)]
  have hq : (a / nI m).toInt = a.toInt.tdiv (m : Int) := by rw [tI_div (by omega), tm]
  have c0 : (0 : Int32).toInt = 0 := rfl
  have hm0 : (0 : Int) < m := by omega
  by_cases c : 0 ≤ a
  · have c1 := leI.mp c
    rw [if_pos ((xor_pos (by omega)).mpr c)]
    exact ⟨_, rfl, by rw [hq, Int.tdiv_eq_ediv_of_nonneg (by omega)]⟩
  · have c1 : ¬ (0 : Int32).toInt ≤ a.toInt := fun z => c (leI.mpr z)
    rw [if_neg (fun z => c ((xor_pos (by omega)).mp z))]
    have e1 : a.toInt.tdiv (m : Int) = -((-a.toInt) / (m : Int)) := by
      rw [show a.toInt = -(-a.toInt) by omega, Int.neg_tdiv, Int.tdiv_eq_ediv_of_nonneg (by omega), Int.neg_neg]
    have e2 := Int.mul_ediv_add_emod (-a.toInt) (m : Int)
    have e3 := Int.emod_nonneg (-a.toInt) (show (m : Int) ≠ 0 by omega)
    have e4 := Int.emod_lt_of_pos (-a.toInt) hm0
    have f2 := Int.mul_ediv_add_emod a.toInt (m : Int)
    have f3 := Int.emod_nonneg a.toInt (show (m : Int) ≠ 0 by omega)
    have f4 := Int.emod_lt_of_pos a.toInt hm0
    have hb1 : -a.toInt / (m : Int) ≤ -a.toInt := Int.ediv_le_self _ (by omega)
    have hb2 : 0 ≤ -a.toInt / (m : Int) := Int.ediv_nonneg (by omega) (by omega)
    generalize hQ : -a.toInt / (m : Int) = Q at *
    generalize hP : a.toInt / (m : Int) = P at *
    have g1 : (m : Int) * (Q + P) = (m : Int) * Q + (m : Int) * P := Int.mul_add _ _ _
    have hmq : (a / nI m * nI m).toInt = -((m : Int) * Q) := by
      rw [tI_mul (by rw [hq, tm, e1, Int.neg_mul, Int.mul_comm]; omega), hq, tm, e1, Int.neg_mul, Int.mul_comm]
    by_cases d : a / nI m * nI m = a
    · rw [if_pos d]
      have d2 := congrArg Int32.toInt d
      rw [hmq] at d2
      refine ⟨_, rfl, ?_⟩
      rw [hq, e1]
      have g2 : (m : Int) * (Q + P) = -(a.toInt % (m : Int)) := by omega
      have : Q + P = 0 := by
        rcases Int.lt_trichotomy (Q + P) 0 with z | z | z
        · have := Int.mul_le_mul_of_nonneg_left (show Q + P ≤ -1 by omega) (show (0 : Int) ≤ m by omega)
          omega
        · exact z
        · have := Int.mul_le_mul_of_nonneg_left (show 1 ≤ Q + P by omega) (show (0 : Int) ≤ m by omega)
          omega
      omega
    · rw [if_neg d]
      have d2 : ¬ -((m : Int) * Q) = a.toInt := fun z => d (eqI.mpr (by rw [hmq]; exact z))
      refine ⟨_, rfl, ?_⟩
      have hs : (a / nI m - 1).toInt = -Q - 1 := by
        rw [tI_sub (y := 1) (by show _ ≤ (a / nI m).toInt - 1 ∧ (a / nI m).toInt - 1 < _; rw [hq, e1]; omega), hq, e1]; rfl
      rw [hs]
      have : Q + P = -1 := by
        rcases Int.lt_trichotomy (Q + P) (-1) with z | z | z
        · have := Int.mul_le_mul_of_nonneg_left (show Q + P ≤ -2 by omega) (show (0 : Int) ≤ m by omega)
          omega
        · exact z
        · have := Int.mul_le_mul_of_nonneg_left (show 0 ≤ Q + P by omega) (show (0 : Int) ≤ m by omega)
          omega
      omega
theorem tI_max (x y : Int32) : (xmax x y).toInt = max x.toInt y.toInt := by
  unfold xmax
  split
  · rename_i h; have := ltI.mp h; omega
  · rename_i h; have : ¬ x.toInt < y.toInt := fun z => h (ltI.mpr z); omega
theorem tI_min (x y : Int32) : (xmin x y).toInt = min x.toInt y.toInt := by
  unfold xmin
  split
  · rename_i h; have := ltI.mp h; omega
  · rename_i h; have : ¬ y.toInt < x.toInt := fun z => h (ltI.mpr z); omega
section EV
variable {b : Int32} {n : Nat}
theorem eD_I (hb : -99 ≤ b.toInt ∧ b.toInt ≤ 101000) {m h : Nat} (hm : m ≤ 40) (hh : h ≤ 99) : xabs (b - nI m * nI h) = nI (eD b m h) ∧ eD b m h ≤ 110000 := by
  have h1 : m * h ≤ 40 * 99 := Nat.mul_le_mul hm hh
  have h2 : ((m * h : Nat) : Int) = (m : Int) * (h : Int) := Int.natCast_mul m h
  have h3 : (nI m * nI h).toInt = (m : Int) * (h : Int) := by rw [mln, tin (by omega), h2]
  have h4 : (b - nI m * nI h).toInt = b.toInt - (m : Int) * (h : Int) := by rw [tI_sub (by rw [h3]; omega), h3]
  have h5 : eD b m h ≤ 110000 := by unfold eD; omega
  refine ⟨?_, h5⟩
  rw [eqI, tI_abs (by rw [h4]; omega), h4, tin (by omega)]
  rfl
theorem c_evH (hb : -99 ≤ b.toInt ∧ b.toInt ≤ 101000) {m lo hi : Nat} (h1 : 1 ≤ m) (h2 : m ≤ 40) (h3 : 1 ≤ lo) (h4 : lo ≤ hi) (h5 : hi ≤ 99) : ∃ t : Nat, lo ≤ t ∧ t ≤ hi ∧ f_X8_evenHeight n b (nI m) (nI lo) (nI hi) = some (nI t) ∧ ∀ x, lo ≤ x → x ≤ hi → eD b m t ≤ eD b m x ∧ (x < t → eD b m t < eD b m x) := by
  obtain ⟨r, r1, r2⟩ := fdiv_I (n := n) (a := b) h1 (by omega) (by omega)
  have q1 := Int.mul_ediv_self_le (x := b.toInt) (k := (m : Int)) (by omega)
  have q2 := Int.lt_mul_ediv_self_add (x := b.toInt) (k := (m : Int)) (by omega)
  rw [← r2] at q1 q2
  have es : (xmax (nI lo) (xmin (nI hi) r)).toInt = max (lo : Int) (min (hi : Int) r.toInt) := by rw [tI_max, tI_min, tin (by omega), tin (by omega)]
  obtain ⟨s0, z1, z2, z3⟩ := nat_of (x := xmax (nI lo) (xmin (nI hi) r)) (by rw [es]; omega)
  have k0 : (s0 : Int) = max (lo : Int) (min (hi : Int) r.toInt) := by rw [← z3, es]
  have e1 : (xmin (nI hi) (nI (s0 + 1))).toInt = min (hi : Int) ((s0 : Int) + 1) := by rw [tI_min, tin (by omega), tin (by omega)]; omega
  obtain ⟨s1, y1, y2, y3⟩ := nat_of (x := xmin (nI hi) (nI (s0 + 1))) (by rw [e1]; omega)
  have k1 : (s1 : Int) = min (hi : Int) ((s0 : Int) + 1) := by rw [← y3, e1]
  have a0 := eD_I hb (m := m) (h := s0) h2 (by omega)
  have a1 := eD_I hb (m := m) (h := s1) h2 (by omega)
  have main := ev_min (b := b.toInt) (q := r.toInt) (n := (m : Int)) (lo := lo) (hi := hi) (s0 := s0) (s1 := s1) (t := ((if eD b m s0 ≤ eD b m s1 then s0 else s1 : Nat) : Int)) (by omega) (by omega) q1 (by rw [Int.mul_add, Int.mul_one]; exact q2) k0 k1 (by
    show _ = if eD b m s0 ≤ eD b m s1 then (s0 : Int) else (s1 : Int)
    split <;> rfl)
  refine ⟨if eD b m s0 ≤ eD b m s1 then s0 else s1, by omega, by omega, ?_, fun x hx hx2 => ?_⟩
  · unfold f_X8_evenHeight j_X8_evenHeight_21
    rw [n0, iflt (by omega) (by omega), if_pos (by omega), r1, ob, z2, ad1, y2, a0.1, a1.1, ifle (by omega) (by omega)]
    split <;> rfl
  · have := main.2.2 x (by omega) (by omega)
    refine ⟨this.1, fun h => this.2 (by omega)⟩
end EV
