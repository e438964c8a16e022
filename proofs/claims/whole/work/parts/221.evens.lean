section EVS
variable {S S0 : xS} {v : Nat → Nat → Int32} {F n : Nat} {ft : Int32}
theorem m_evI (w : Vw S v F ft) {f m lo hi : Nat} (hf : f < F) (hm : m ≤ 40) (hh : hi ≤ 99) (a4 : Int32) (k21 : Int32 → Int32 → Int32 → Int32 → Int32 → Int32 → Int32 → Int32 → Option Int32) : ∀ (k h : Nat), h + k = hi → ∃ t, h ≤ t ∧ t ≤ hi ∧ (∀ x, h ≤ x → x ≤ hi → eD (v 11 f + v 12 f) m t ≤ eD (v 11 f + v 12 f) m x ∧ (x < t → eD (v 11 f + v 12 f) m t < eD (v 11 f + v 12 f) m x)) ∧ ∀ (A B : Int32) (d j : Nat), d ≤ 110000 → k + 2 ≤ j → l_X9_evenOf_31 n k21 S j (nI f) (nI lo) (nI hi) a4 A B (nI d) (nI m) (nI h) = if d ≤ eD (v 11 f + v 12 f) m t then k21 (nI f) (nI lo) (nI hi) a4 A B (nI d) (nI (m + 1)) else k21 (nI f) (nI lo) (nI hi) a4 (nI t) (nI m) (nI (eD (v 11 f + v 12 f) m t)) (nI (m + 1)) := by
  have g := w.1
  have hF := g.1
  have hb := built_rg g hf
  have st : ∀ h, h ≤ hi → ∀ (A B : Int32) (d j : Nat), d ≤ 110000 → l_X9_evenOf_31 n k21 S (j + 1) (nI f) (nI lo) (nI hi) a4 A B (nI d) (nI m) (nI h) = if d ≤ eD (v 11 f + v 12 f) m h then l_X9_evenOf_31 n k21 S j (nI f) (nI lo) (nI hi) a4 A B (nI d) (nI m) (nI (h + 1)) else l_X9_evenOf_31 n k21 S j (nI f) (nI lo) (nI hi) a4 (nI h) (nI m) (nI (eD (v 11 f + v 12 f) m h)) (nI m) (nI (h + 1)) := by
    intro h hh2 A B d j hd
    have e := eD_I hb (m := m) (h := h) hm (by omega)
    show b_X9_evenOf_31 n k21 (l_X9_evenOf_31 n k21 S j) S (nI f) (nI lo) (nI hi) a4 A B (nI d) (nI m) (nI h) = _
    unfold b_X9_evenOf_31
    rw [iflt (by omega) (by omega), if_neg (by omega), m_built w hf, ob, amount_abs, e.1, ifle (by omega) (by omega), ad1]
  have en : ∀ (A B : Int32) (d j : Nat), l_X9_evenOf_31 n k21 S (j + 1) (nI f) (nI lo) (nI hi) a4 A B (nI d) (nI m) (nI (hi + 1)) = k21 (nI f) (nI lo) (nI hi) a4 A B (nI d) (nI (m + 1)) := by
    intro A B d j
    show b_X9_evenOf_31 n k21 (l_X9_evenOf_31 n k21 S j) S (nI f) (nI lo) (nI hi) a4 A B (nI d) (nI m) (nI (hi + 1)) = _
    unfold b_X9_evenOf_31
    rw [iflt (by omega) (by omega), if_pos (by omega), ad1]
  generalize hB : v 11 f + v 12 f = bb at *
  intro k
  induction k with
  | zero =>
    intro h hk
    have : h = hi := by omega
    subst this
    refine ⟨h, by omega, by omega, fun x h1 h2 => ?_, fun A B d j hd hj => ?_⟩
    · have : x = h := by omega
      subst this
      exact ⟨Nat.le_refl _, fun z => by omega⟩
    · obtain ⟨j, rfl⟩ : ∃ x, j = x + 2 := ⟨j - 2, by omega⟩
      rw [st h (by omega) A B d (j + 1) hd, en, en]
  | succ k ih =>
    intro h hk
    obtain ⟨t, t1, t2, t3, t4⟩ := ih (h + 1) (by omega)
    have e := (eD_I hb (m := m) (h := h) hm (by omega)).2
    by_cases q : eD bb m h ≤ eD bb m t
    · refine ⟨h, by omega, by omega, fun x h1 h2 => ⟨?_, fun z => by omega⟩, fun A B d j hd hj => ?_⟩
      · by_cases z : x = h
        · subst z; exact Nat.le_refl _
        · exact Nat.le_trans q (t3 x (by omega) h2).1
      · obtain ⟨j, rfl⟩ : ∃ x, j = x + 1 := ⟨j - 1, by omega⟩
        rw [st h (by omega) A B d j hd]
        by_cases z : d ≤ eD bb m h
        · rw [if_pos z, if_pos z, t4 A B d j hd (by omega), if_pos (by omega)]
        · rw [if_neg z, if_neg z, t4 _ _ _ j e (by omega), if_pos q]
    · refine ⟨t, by omega, by omega, fun x h1 h2 => ?_, fun A B d j hd hj => ?_⟩
      · by_cases z : x = h
        · subst z; exact ⟨by omega, fun _ => by omega⟩
        · exact t3 x (by omega) h2
      · obtain ⟨j, rfl⟩ : ∃ x, j = x + 1 := ⟨j - 1, by omega⟩
        rw [st h (by omega) A B d j hd]
        by_cases z : d ≤ eD bb m h
        · rw [if_pos z, t4 A B d j hd (by omega)]
        · rw [if_neg z, t4 _ _ _ j e (by omega), if_neg q, if_neg (by omega)]
theorem ev_H (bb : Int32) (hb : -99 ≤ bb.toInt ∧ bb.toInt ≤ 101000) (n : Nat) {lo hi : Nat} (h3 : 1 ≤ lo) (h4 : lo ≤ hi) (h5 : hi ≤ 99) : ∃ H : Nat → Nat, ∀ m, 1 ≤ m → m ≤ 40 → lo ≤ H m ∧ H m ≤ hi ∧ f_X8_evenHeight n bb (nI m) (nI lo) (nI hi) = some (nI (H m)) ∧ ∀ x, lo ≤ x → x ≤ hi → eD bb m (H m) ≤ eD bb m x ∧ (x < H m → eD bb m (H m) < eD bb m x) := by
  have key : ∀ m, ∃ t, 1 ≤ m → m ≤ 40 → lo ≤ t ∧ t ≤ hi ∧ f_X8_evenHeight n bb (nI m) (nI lo) (nI hi) = some (nI t) ∧ ∀ x, lo ≤ x → x ≤ hi → eD bb m t ≤ eD bb m x ∧ (x < t → eD bb m t < eD bb m x) := by
    intro m
    by_cases h : 1 ≤ m ∧ m ≤ 40
    · obtain ⟨t, t1⟩ := c_evH (n := n) hb h.1 h.2 h3 h4 h5
      exact ⟨t, fun _ _ => t1⟩
    · exact ⟨0, fun h1 h2 => absurd ⟨h1, h2⟩ h⟩
  exact ⟨fun m => Classical.choose (key m), fun m => Classical.choose_spec (key m)⟩
theorem m_evS (w : Vw S v F ft) {f m lo hi : Nat} {H : Nat → Nat} (hn : 200 ≤ n) (hf : f < F) (hm1 : 1 ≤ m) (hm : m ≤ 40) (h3 : 1 ≤ lo) (h4 : lo ≤ hi) (hh : hi ≤ 99) (hH : ∀ m, 1 ≤ m → m ≤ 40 → lo ≤ H m ∧ H m ≤ hi ∧ f_X8_evenHeight n (v 11 f + v 12 f) (nI m) (nI lo) (nI hi) = some (nI (H m)) ∧ ∀ x, lo ≤ x → x ≤ hi → eD (v 11 f + v 12 f) m (H m) ≤ eD (v 11 f + v 12 f) m x ∧ (x < H m → eD (v 11 f + v 12 f) m (H m) < eD (v 11 f + v 12 f) m x)) (a4 A B : Int32) {d : Nat} (hd : d ≤ 110000) (j : Nat) : l_X9_evenOf_21 n S (j + 1) (nI f) (nI lo) (nI hi) a4 A B (nI d) (nI m) = if d ≤ eD (v 11 f + v 12 f) m (H m) then l_X9_evenOf_21 n S j (nI f) (nI lo) (nI hi) a4 A B (nI d) (nI (m + 1)) else l_X9_evenOf_21 n S j (nI f) (nI lo) (nI hi) a4 (nI (H m)) (nI m) (nI (eD (v 11 f + v 12 f) m (H m))) (nI (m + 1)) := by
  obtain ⟨t, t1, t2, t3, t4⟩ := m_evI (n := n) (lo := lo) w hf hm hh a4 (l_X9_evenOf_21 n S j) (hi - lo) lo (by omega)
  obtain ⟨y1, y2, -, y3⟩ := hH m hm1 hm
  have e : t = H m := by
    rcases Nat.lt_trichotomy t (H m) with z | z | z
    · have a := (y3 t t1 t2).2 z
      have b := (t3 (H m) y1 y2).1
      omega
    · exact z
    · have a := (t3 (H m) y1 y2).2 z
      have b := (y3 t t1 t2).1
      omega
  rw [e] at t4
  show b_X9_evenOf_21 n (l_X9_evenOf_21 n S j) S (nI f) (nI lo) (nI hi) a4 A B (nI d) (nI m) = _
  unfold b_X9_evenOf_21
  rw [show (41 : Int32) = nI 41 from rfl, ifle (by omega) (by omega), if_neg (by omega)]
  exact t4 A B d n hd (by omega)
theorem ev_L (w : Vw S v F ft) {f lo hi : Nat} {H : Nat → Nat} (hn : 200 ≤ n) (hf : f < F) (h3 : 1 ≤ lo) (h4 : lo ≤ hi) (hh : hi ≤ 99) (hH : ∀ m, 1 ≤ m → m ≤ 40 → lo ≤ H m ∧ H m ≤ hi ∧ f_X8_evenHeight n (v 11 f + v 12 f) (nI m) (nI lo) (nI hi) = some (nI (H m)) ∧ ∀ x, lo ≤ x → x ≤ hi → eD (v 11 f + v 12 f) m (H m) ≤ eD (v 11 f + v 12 f) m x ∧ (x < H m → eD (v 11 f + v 12 f) m (H m) < eD (v 11 f + v 12 f) m x)) (a4 : Int32) : ∀ (k m N : Nat), m + k = 41 → 1 ≤ m → 1 ≤ N → N ≤ 40 → ∀ i j, k + 1 ≤ i → k + 1 ≤ j → ∃ r, 1 ≤ r ∧ r ≤ 40 ∧ l_X8_evenSteps_19 n i (v 11 f + v 12 f) (nI lo) (nI hi) (nI N) (nI (eD (v 11 f + v 12 f) N (H N))) (nI m) = some (nI r) ∧ l_X9_evenOf_21 n S j (nI f) (nI lo) (nI hi) a4 (nI (H N)) (nI N) (nI (eD (v 11 f + v 12 f) N (H N))) (nI m) = if a4 = 0 then some (nI (H r)) else if a4 = 1 then some (nI r) else some (nI (eD (v 11 f + v 12 f) r (H r))) := by
  have g := w.1
  have hF := g.1
  have hb := built_rg g hf
  intro k
  induction k with
  | zero =>
    intro m N hk hm hN hN2 i j hi2 hj
    obtain ⟨i, rfl⟩ : ∃ x, i = x + 1 := ⟨i - 1, by omega⟩
    obtain ⟨j, rfl⟩ : ∃ x, j = x + 1 := ⟨j - 1, by omega⟩
    have : m = 41 := by omega
    subst this
    refine ⟨N, hN, hN2, ?_, ?_⟩
    · show b_X8_evenSteps_19 n _ _ _ _ _ _ (nI 41) = _
      unfold b_X8_evenSteps_19
      rw [if_pos (by decide)]
    · show b_X9_evenOf_21 n _ S _ _ _ _ _ _ _ (nI 41) = _
      unfold b_X9_evenOf_21
      rw [if_pos (by decide)]
  | succ k ih =>
    intro m N hk hm hN hN2 i j hi2 hj
    obtain ⟨i, rfl⟩ : ∃ x, i = x + 1 := ⟨i - 1, by omega⟩
    obtain ⟨j, rfl⟩ : ∃ x, j = x + 1 := ⟨j - 1, by omega⟩
    obtain ⟨y1, y2, y3, y4⟩ := hH m hm (by omega)
    obtain ⟨x1, x2, x3, x4⟩ := hH N hN hN2
    have eN := eD_I hb (m := N) (h := H N) hN2 (by omega)
    have eM := eD_I hb (m := m) (h := H m) (by omega) (by omega)
    rw [m_evS w hn hf hm (by omega) h3 h4 hh hH a4 _ _ eN.2 j]
    have e1 : l_X8_evenSteps_19 n (i + 1) (v 11 f + v 12 f) (nI lo) (nI hi) (nI N) (nI (eD (v 11 f + v 12 f) N (H N))) (nI m) = if eD (v 11 f + v 12 f) N (H N) ≤ eD (v 11 f + v 12 f) m (H m) then l_X8_evenSteps_19 n i (v 11 f + v 12 f) (nI lo) (nI hi) (nI N) (nI (eD (v 11 f + v 12 f) N (H N))) (nI (m + 1)) else l_X8_evenSteps_19 n i (v 11 f + v 12 f) (nI lo) (nI hi) (nI m) (nI (eD (v 11 f + v 12 f) m (H m))) (nI (m + 1)) := by
      show b_X8_evenSteps_19 n (l_X8_evenSteps_19 n i) (v 11 f + v 12 f) (nI lo) (nI hi) (nI N) (nI (eD (v 11 f + v 12 f) N (H N))) (nI m) = _
      unfold b_X8_evenSteps_19
      rw [show (40 : Int32) = nI 40 from rfl, iflt (by omega) (by omega), if_neg (by omega), y3, ob, eM.1, ifle (by omega) (by omega), ad1]
    rw [e1]
    by_cases q : eD (v 11 f + v 12 f) N (H N) ≤ eD (v 11 f + v 12 f) m (H m)
    · rw [if_pos q, if_pos q]
      exact ih (m + 1) N (by omega) (by omega) hN hN2 i j (by omega) (by omega)
    · rw [if_neg q, if_neg q]
      exact ih (m + 1) m (by omega) (by omega) hm (by omega) i j (by omega) (by omega)
theorem even_b (g : Gd v F ft) (c : Cl S0 v) (w : Vw S v F ft) {f lo hi : Nat} (hn : 200 ≤ n) (hf : f < F) (h3 : 1 ≤ lo) (h4 : lo ≤ hi) (hh : hi ≤ 99) {a4 : Int32} (h6 : ¬ f_X9_in a4 0 2 = 0) : ∃ r, f_X8_even n S0 (nI f) (nI lo) (nI hi) a4 = some r ∧ f_X9_evenOf n S (nI f) (nI lo) (nI hi) a4 = some r := by
  have hF := g.1
  have hb := built_rg g hf
  obtain ⟨H, hH⟩ := ev_H (v 11 f + v 12 f) hb n h3 h4 hh
  obtain ⟨y1, y2, y3, y4⟩ := hH 1 (by omega) (by omega)
  have e1 := eD_I hb (m := 1) (h := H 1) (by omega) (by omega)
  have e2 := eD_I hb (m := 1) (h := lo) (by omega) (by omega)
  obtain ⟨k, rfl⟩ : ∃ k, n = k + 1 := ⟨n - 1, by omega⟩
  obtain ⟨r, r0, r1, r2, r3⟩ := ev_L (n := k + 1) w hn hf h3 h4 hh hH a4 39 2 1 (by omega) (by omega) (by omega) (by omega) (k + 1) k (by omega) (by omega)
  obtain ⟨x1, x2, x3, x4⟩ := hH r r0 r1
  have e3 := eD_I hb (m := r) (h := H r) (by omega) (by omega)
  have e0 : ∀ x, nI 1 * nI x = nI x := fun x => by rw [mln, Nat.one_mul]
  rw [e0] at e1 e2
  obtain ⟨R, hR⟩ : ∃ R, R = if a4 = 0 then nI (H r) else if a4 = 1 then nI r else nI (eD (v 11 f + v 12 f) r (H r)) := ⟨_, rfl⟩
  have p1 : f_X9_in (nI lo) 1 99 = 1 := in_nI (lo := 1) (hi := 99) h3 (by omega) (by omega)
  have p2 : f_X9_in (nI hi) (nI lo) 99 = 1 := in_nI (lo := lo) (hi := 99) h4 hh (by omega)
  have p3 : f_X8_evenHeight (k + 1) (v 11 f + v 12 f) 1 (nI lo) (nI hi) = some (nI (H 1)) := y3
  have p4 : l_X8_evenSteps_19 (k + 1) (k + 1) (v 11 f + v 12 f) (nI lo) (nI hi) 1 (nI (eD (v 11 f + v 12 f) 1 (H 1))) 2 = some (nI r) := r2
  refine ⟨R, ?_, ?_⟩
  · unfold f_X8_even f_X8_evenSteps
    rw [show f_X8_isFloor S0 (nI f) = 1 from by
      show f_X9_in (nI f) 0 (S0.1 4 3 - 1) = 1
      rw [c 4 (by decide), g.2.1]; exact isfl_y hF hf, if_neg (by decide), wi_eq, wi_eq, wi_eq, p1, if_neg (by decide), p2, if_neg (by decide), if_neg h6, c_built (by omega), ob, c 11 (by decide), c 12 (by decide), p3, ob, e1.1, p4, ob, x3, ob, e3.1]
    rw [hR]
    by_cases q0 : a4 = 0
    · rw [if_pos q0, if_pos q0]
    · rw [if_neg q0, if_neg q0]
      by_cases q1 : a4 = 1
      · rw [if_pos q1, if_pos q1]
      · rw [if_neg q1, if_neg q1]
  · unfold f_X9_evenOf
    rw [m_built w hf, ob, amount_abs, e2.1, n1, m_evS w hn hf (by omega) (by omega) h3 h4 hh hH a4 _ _ e2.2 k]
    have : (if eD (v 11 f + v 12 f) 1 lo ≤ eD (v 11 f + v 12 f) 1 (H 1) then l_X9_evenOf_21 (k + 1) S k (nI f) (nI lo) (nI hi) a4 (nI lo) (nI 1) (nI (eD (v 11 f + v 12 f) 1 lo)) (nI (1 + 1)) else l_X9_evenOf_21 (k + 1) S k (nI f) (nI lo) (nI hi) a4 (nI (H 1)) (nI 1) (nI (eD (v 11 f + v 12 f) 1 (H 1))) (nI (1 + 1))) = l_X9_evenOf_21 (k + 1) S k (nI f) (nI lo) (nI hi) a4 (nI (H 1)) (nI 1) (nI (eD (v 11 f + v 12 f) 1 (H 1))) (nI 2) := by
      split
      · rename_i q
        have z := y4 lo (by omega) (by omega)
        have : H 1 = lo := by
          by_cases zz : lo < H 1
          · have := z.2 zz; omega
          · omega
        rw [this]
      · rfl
    rw [this, r3]
    rw [hR]
    by_cases q0 : a4 = 0
    · rw [if_pos q0, if_pos q0]
    · rw [if_neg q0, if_neg q0]
      by_cases q1 : a4 = 1
      · rw [if_pos q1, if_pos q1]
      · rw [if_neg q1, if_neg q1]
theorem op_even {S : xS} (hI : Inv S) (hn : 200 ≤ n) (a1 a2 a3 a4 : Int32) : ∃ r S2, f_X8_even n S a1 a2 a3 a4 = some r ∧ f_X9_even n S a1 a2 a3 a4 = some (r, S2) ∧ Inv S2 := by
  obtain ⟨T, F, ft, g, w, i1, i2, i3⟩ := hI.ask
  have hF := g.1
  have e1 : f_X8_isFloor S a1 = f_X9_in a1 0 (nI F - 1) := by
    show f_X9_in a1 0 (S.1 4 3 - 1) = _
    rw [g.2.1]
  by_cases h : f_X9_in a1 0 (nI F - 1) = 0
  · refine ⟨-2, RD S T, ?_, ?_, i1⟩
    · unfold f_X8_even; rw [e1, if_pos h]
    · unfold f_X9_even; rw [m_isFloor (i3 n (by omega)), ob, if_pos h]
  · obtain ⟨f, hf, rfl⟩ := isfl hF h
    by_cases h5 : f_X9_in a2 1 99 = 0
    · refine ⟨-2, RD S T, ?_, ?_, i1⟩
      · unfold f_X8_even; rw [e1, if_neg h, wi_eq, if_pos h5]
      · unfold f_X9_even; rw [m_isFloor (i3 n (by omega)), ob, if_neg h, if_pos h5]
    · obtain ⟨lo, l1, l2, rfl⟩ := in_nat (lo := 1) (hi := 99) (by omega) h5 (by omega)
      by_cases h6 : f_X9_in a3 (nI lo) 99 = 0
      · refine ⟨-2, RD S T, ?_, ?_, i1⟩
        · unfold f_X8_even; rw [e1, if_neg h, wi_eq, if_neg h5, wi_eq, if_pos h6]
        · unfold f_X9_even; rw [m_isFloor (i3 n (by omega)), ob, if_neg h, if_neg h5, if_pos h6]
      · obtain ⟨hi, m1, m2, rfl⟩ := in_nat (lo := lo) (hi := 99) (by omega) h6 (by omega)
        by_cases h7 : f_X9_in a4 0 2 = 0
        · refine ⟨-2, RD S T, ?_, ?_, i1⟩
          · unfold f_X8_even; rw [e1, if_neg h, wi_eq, if_neg h5, wi_eq, if_neg h6, wi_eq, if_pos h7]
          · unfold f_X9_even; rw [m_isFloor (i3 n (by omega)), ob, if_neg h, if_neg h5, if_neg h6, if_pos h7]
        · obtain ⟨r, r1, r2⟩ := even_b (n := n) g (Cl.rf S) w hn hf l1 m1 m2 h7
          refine ⟨r, RD S T, r1, ?_, i1⟩
          unfold f_X9_even
          rw [m_isFloor (i3 n (by omega)), ob, if_neg h, if_neg h5, if_neg h6, if_neg h7]
          show (f_X9_evenOf n (RD S T) (nI f) (nI lo) (nI hi) a4).bind _ = _
          rw [r2, ob]
end EVS
