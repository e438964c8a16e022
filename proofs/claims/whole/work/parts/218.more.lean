section MO
variable {S S0 : xS} {v : Nat → Nat → Int32} {F n : Nat} {ft : Int32}
theorem xmin_n {a b : Nat} (ha : a < 2147483648) (hb : b < 2147483648) : xmin (nI a) (nI b) = nI (min a b) := by
  unfold xmin
  rw [iflt hb ha]
  split
  · rw [Nat.min_eq_right (by omega)]
  · rw [Nat.min_eq_left (by omega)]
/-- s is the most that the floors below the top bear in addition, in the reckonings below k and, in k, on the floors below f -/
def isS (v : Nat → Nat → Int32) (F s k f : Nat) : Prop := s ≤ 99 ∧ (∀ k' x, (k' < k ∨ (k' = k ∧ x < f)) → x + 1 < F → (s : Int) ≤ rsv v F x k') ∧ (s = 99 ∨ ∃ k' x, (k' < k ∨ (k' = k ∧ x < f)) ∧ x + 1 < F ∧ rsv v F x k' = s)
theorem c_spL (g : Gd v F ft) (c : Cl S0 v) (hn : 20 ≤ n) (hF0 : 0 < F) {k : Nat} (hk : k < 3) (hok : ∀ x, x < F → 0 ≤ rsv v F x k) (k15 : Int32 → Int32 → Int32 → Option Int32) : ∀ (m f s : Nat), f + m = F - 1 → isS v F s k f → ∀ j, m + 1 ≤ j → ∃ s', isS v F s' k (F - 1) ∧ l_X1_spareOnTop_34 n k15 S0 j (nI (F - 1)) (nI s) (nI k) (nI f) = k15 (nI (F - 1)) (nI s') (nI (k + 1)) := by
  intro m
  have hF := g.1
  induction m with
  | zero =>
    intro f s hf hs j hj
    obtain ⟨j, rfl⟩ : ∃ x, j = x + 1 := ⟨j - 1, by omega⟩
    have : f = F - 1 := by omega
    subst this
    refine ⟨s, hs, ?_⟩
    show b_X1_spareOnTop_34 n k15 _ S0 (nI (F - 1)) (nI s) (nI k) (nI (F - 1)) = _
    unfold b_X1_spareOnTop_34
    rw [ifle (by omega) (by omega), if_pos (by omega), ad1]
  | succ m ih =>
    intro f s hf hs j hj
    obtain ⟨j, rfl⟩ : ∃ x, j = x + 1 := ⟨j - 1, by omega⟩
    have hr := rsv_I g (f := f) (k := k) (by omega) hk
    have h0 := hok f (by omega)
    obtain ⟨z, z1, z2, z3⟩ := nat_of (x := strn v f (nI k) - nI (sW v (f + 1) (F - f - 1))) (by omega)
    obtain ⟨s1, s2, s3⟩ := hs
    have hs' : isS v F (min s z) k (f + 1) := by
      refine ⟨by omega, fun k' x hx hx2 => ?_, ?_⟩
      · by_cases e : k' = k ∧ x = f
        · rw [e.1, e.2]; omega
        · have := s2 k' x (by omega) hx2
          omega
      · by_cases e : s ≤ z
        · rw [Nat.min_eq_left e]
          rcases s3 with h | ⟨k', x, h1, h2, h3⟩
          · exact Or.inl h
          · exact Or.inr ⟨k', x, by omega, h2, h3⟩
        · rw [Nat.min_eq_right (by omega)]
          exact Or.inr ⟨k, f, by omega, by omega, by omega⟩
    obtain ⟨s', g1, g2⟩ := ih (f + 1) (min s z) (by omega) hs' j (by omega)
    refine ⟨s', g1, ?_⟩
    show b_X1_spareOnTop_34 n k15 (l_X1_spareOnTop_34 n k15 S0 j) S0 (nI (F - 1)) (nI s) (nI k) (nI f) = _
    unfold b_X1_spareOnTop_34
    rw [ifle (by omega) (by omega), if_neg (by omega), c_res g c (by omega) hn, ob, z2, xmin_n (by omega) (by omega), ad1]
    exact g2
theorem isS_next {s k : Nat} (h : isS v F s k (F - 1)) : isS v F s (k + 1) 0 := by
  obtain ⟨h1, h2, h3⟩ := h
  refine ⟨h1, fun k' x hx hx2 => h2 k' x (by omega) hx2, ?_⟩
  rcases h3 with h | ⟨k', x, a, b, c⟩
  · exact Or.inl h
  · exact Or.inr ⟨k', x, by omega, b, c⟩
/-- the class's answer, in words -/
def moreR (v : Nat → Nat → Int32) (F : Nat) (r : Int32) : Prop := ((∀ k, k < 3 → ∀ x, x < F → 0 ≤ rsv v F x k) ∧ ∃ s, isS v F s 3 0 ∧ r = nI s) ∨ ((∃ k, k < 3 ∧ ¬ ∀ x, x < F → 0 ≤ rsv v F x k) ∧ r = -1)
theorem c_spO (g : Gd v F ft) (c : Cl S0 v) (w : Vw S v F ft) (hn : 20 ≤ n) (hF0 : 0 < F) : ∀ (m k s : Nat), k + m = 3 → isS v F s k 0 → (∀ k', k' < k → ∀ x, x < F → 0 ≤ rsv v F x k') → ∀ j, m + 1 ≤ j → ∃ r, l_X1_spareOnTop_15 n S0 j (nI (F - 1)) (nI s) (nI k) = some r ∧ moreR v F r := by
  intro m
  have hF := g.1
  induction m with
  | zero =>
    intro k s hk hs hp j hj
    obtain ⟨j, rfl⟩ : ∃ x, j = x + 1 := ⟨j - 1, by omega⟩
    have : k = 3 := by omega
    subst this
    refine ⟨nI s, ?_, Or.inl ⟨hp, s, hs, rfl⟩⟩
    show b_X1_spareOnTop_15 n _ S0 (nI (F - 1)) (nI s) (nI 3) = _
    unfold b_X1_spareOnTop_15
    rw [if_pos (by decide)]
  | succ m ih =>
    intro k s hk hs hp j hj
    obtain ⟨j, rfl⟩ : ∃ x, j = x + 1 := ⟨j - 1, by omega⟩
    obtain ⟨r, r1, -, r3⟩ := safe_b (n := n) (k := k) g c w hn (by omega)
    have e : l_X1_spareOnTop_15 n S0 (j + 1) (nI (F - 1)) (nI s) (nI k) = if r = -1 then l_X1_spareOnTop_34 n (l_X1_spareOnTop_15 n S0 j) S0 n (nI (F - 1)) (nI s) (nI k) (nI 0) else some (-1) := by
      show b_X1_spareOnTop_15 n (l_X1_spareOnTop_15 n S0 j) S0 (nI (F - 1)) (nI s) (nI k) = _
      unfold b_X1_spareOnTop_15
      rw [n3, ifle (by omega) (by omega), if_neg (by omega), r1, ob]
      rfl
    rw [e]
    by_cases q : r = -1
    · rw [if_pos q]
      have hok := r3.mp q
      obtain ⟨s', g1, g2⟩ := c_spL (n := n) g c hn hF0 (k := k) (by omega) hok (l_X1_spareOnTop_15 n S0 j) (F - 1) 0 s (by omega) hs n (by omega)
      rw [g2]
      refine ih (k + 1) s' (by omega) (isS_next g1) (fun k' hk' => ?_) j (by omega)
      by_cases e : k' = k
      · subst e; exact hok
      · exact hp k' (by omega)
    · rw [if_neg q]
      exact ⟨-1, rfl, Or.inr ⟨⟨k, by omega, fun z => q (r3.mpr z)⟩, rfl⟩⟩
theorem m_sfA (w : Vw S v F ft) (hn : 20 ≤ n) {k a : Nat} (hk : k < 3) (ha : a ≤ 99) : ∀ (m f : Nat), f + m = F → ∀ j, m + 1 ≤ j → ∃ r, l_X9_safeBy_8 n j S (nI k) (nI a) (nI F) (nI f) = some (r, S) ∧ (r = -1 ↔ ∀ x, f ≤ x → x < F → okS v F a x k = true) := by
  intro m
  have hF := w.1.1
  induction m with
  | zero =>
    intro f hf j hj
    obtain ⟨j, rfl⟩ : ∃ x, j = x + 1 := ⟨j - 1, by omega⟩
    have : f = F := by omega
    subst this
    exact ⟨-1, m_sf0 hF, fun _ x h1 h2 => by omega, fun _ => rfl⟩
  | succ m ih =>
    intro f hf j hj
    obtain ⟨j, rfl⟩ : ∃ x, j = x + 1 := ⟨j - 1, by omega⟩
    rw [m_sfS w hn (by omega) hk ha]
    by_cases q : okS v F a f k = true
    · rw [if_pos q]
      obtain ⟨r, r2, r3⟩ := ih (f + 1) (by omega) j (by omega)
      refine ⟨r, r2, r3.trans ⟨fun h x hx hx2 => ?_, fun h x hx hx2 => h x (by omega) hx2⟩⟩
      by_cases e : x = f
      · subst e; exact q
      · exact h x (by omega) hx2
    · rw [if_neg q]
      exact ⟨nI f, rfl, fun h => absurd h (nI_ne_m1 (by omega)), fun h => absurd (h f (Nat.le_refl f) (by omega)) q⟩
theorem m_sfB (w : Vw S v F ft) (hn : 20 ≤ n) {k a : Nat} (hk : k < 3) (ha : a ≤ 99) : ∃ r, f_X9_safeBy n S (nI k) (nI a) = some (r, S) ∧ (r = -1 ↔ ∀ x, x < F → okS v F a x k = true) := by
  have hF := w.1.1
  obtain ⟨r, r1, r2⟩ := m_sfA (n := n) w hn hk ha F 0 (by omega) n (by omega)
  refine ⟨r, ?_, r2.trans ⟨fun h x hx => h x (by omega) hx, fun h x _ hx => h x hx⟩⟩
  unfold f_X9_safeBy
  rw [fl_now w hn, ob]
  exact r1
theorem m_moS (w : Vw S v F ft) (hn : 20 ≤ n) (hF0 : 0 < F) {a : Nat} (ha : a ≤ 99) (b : Int32) (j : Nat) : ((∀ k, k < 3 → ∀ x, x < F → okS v F a x k = true) → l_X9_moreNow_4 n (j + 1) S b (nI a) = l_X9_moreNow_4 n j S (nI a) (nI (a + 1))) ∧ ((¬ ∀ k, k < 3 → ∀ x, x < F → okS v F a x k = true) → l_X9_moreNow_4 n (j + 1) S b (nI a) = l_X9_moreNow_4 n j S b (nI (a + 1))) := by
  have hF := w.1.1
  obtain ⟨r0, p0, q0⟩ := m_sfB (n := n) (k := 0) (a := a) w hn (by omega) ha
  obtain ⟨r1, p1, q1⟩ := m_sfB (n := n) (k := 1) (a := a) w hn (by omega) ha
  obtain ⟨r2, p2, q2⟩ := m_sfB (n := n) (k := 2) (a := a) w hn (by omega) ha
  have e : l_X9_moreNow_4 n (j + 1) S b (nI a) = if r0 = -1 then (if r1 = -1 then (if r2 = -1 then l_X9_moreNow_4 n j S (nI a) (nI (a + 1)) else l_X9_moreNow_4 n j S b (nI (a + 1))) else l_X9_moreNow_4 n j S b (nI (a + 1))) else l_X9_moreNow_4 n j S b (nI (a + 1)) := by
    show b_X9_moreNow_4 n (l_X9_moreNow_4 n j) S b (nI a) = _
    have e52 : ∀ k4, j_X9_moreNow_52 n k4 S b (nI a) 1 = k4 S (nI a) (nI a + 1) := fun k4 => by
      unfold j_X9_moreNow_52; rw [if_neg (by decide)]
    have e51 : ∀ k4, j_X9_moreNow_51 n k4 S b (nI a) = k4 S b (nI a + 1) := fun k4 => by
      unfold j_X9_moreNow_51 j_X9_moreNow_52; rw [if_pos rfl]
    unfold b_X9_moreNow_4
    rw [show (100 : Int32) = nI 100 from rfl, ifle (by omega) (by omega), if_neg (by omega), fl_now w hn, ob]
    show (if nI F ≤ 0 then _ else ((f_X9_safeBy n S (nI 0) (nI a)).bind fun r5 => (if r5.1 = -1 then (f_X9_safeBy n r5.2 (nI 1) (nI a)).bind fun r9 => (if r9.1 = -1 then (f_X9_safeBy n r9.2 (nI 2) (nI a)).bind fun r12 => (if r12.1 = -1 then j_X9_moreNow_52 n (l_X9_moreNow_4 n j) r12.2 b (nI a) 1 else j_X9_moreNow_51 n (l_X9_moreNow_4 n j) r12.2 b (nI a)) else j_X9_moreNow_51 n (l_X9_moreNow_4 n j) r9.2 b (nI a)) else j_X9_moreNow_51 n (l_X9_moreNow_4 n j) r5.2 b (nI a)))) = _
    rw [n0, ifle (by omega) (by omega), if_neg (by omega), p0, ob]
    show (if r0 = -1 then (f_X9_safeBy n S (nI 1) (nI a)).bind _ else j_X9_moreNow_51 n _ S b (nI a)) = _
    rw [p1, ob, e51, ad1]
    show (if r0 = -1 then (if r1 = -1 then (f_X9_safeBy n S (nI 2) (nI a)).bind _ else _) else _) = _
    rw [p2, ob]
    show (if r0 = -1 then (if r1 = -1 then (if r2 = -1 then j_X9_moreNow_52 n _ S b (nI a) 1 else j_X9_moreNow_51 n _ S b (nI a)) else _) else _) = _
    simp only [e51, e52, ad1]
  refine ⟨fun h => ?_, fun h => ?_⟩
  · rw [e, if_pos (q0.mpr (h 0 (by omega))), if_pos (q1.mpr (h 1 (by omega))), if_pos (q2.mpr (h 2 (by omega)))]
  · rw [e]
    by_cases c0 : r0 = -1
    · rw [if_pos c0]
      by_cases c1 : r1 = -1
      · rw [if_pos c1]
        by_cases c2 : r2 = -1
        · exfalso
          refine h fun k hk => ?_
          rcases (show k = 0 ∨ k = 1 ∨ k = 2 by omega) with rfl | rfl | rfl
          · exact q0.mp c0
          · exact q1.mp c1
          · exact q2.mp c2
        · rw [if_neg c2]
      · rw [if_neg c1]
    · rw [if_neg c0]
theorem m_mo0 {b : Int32} {j : Nat} : l_X9_moreNow_4 n (j + 1) S b (nI 100) = some (b, S) := by
  show b_X9_moreNow_4 n _ S b (nI 100) = _
  unfold b_X9_moreNow_4
  rw [if_pos (by decide)]
theorem m_moL (w : Vw S v F ft) (hn : 20 ≤ n) (hF0 : 0 < F) {s : Nat} (hs : s ≤ 99) (hP : ∀ a, a ≤ 99 → ((∀ k, k < 3 → ∀ x, x < F → okS v F a x k = true) ↔ a ≤ s)) : ∀ (m a : Nat) (b : Int32), a + m = 100 → ∀ j, m + 1 ≤ j → l_X9_moreNow_4 n j S b (nI a) = some (if a ≤ s then nI s else b, S) := by
  intro m
  induction m with
  | zero =>
    intro a b ha j hj
    obtain ⟨j, rfl⟩ : ∃ x, j = x + 1 := ⟨j - 1, by omega⟩
    have : a = 100 := by omega
    subst this
    rw [m_mo0, if_neg (by omega)]
  | succ m ih =>
    intro a b ha j hj
    obtain ⟨j, rfl⟩ : ∃ x, j = x + 1 := ⟨j - 1, by omega⟩
    obtain ⟨y, z⟩ := m_moS (n := n) w hn hF0 (a := a) (by omega) b j
    by_cases q : a ≤ s
    · rw [y ((hP a (by omega)).mpr q), ih (a + 1) (nI a) (by omega) j (by omega), if_pos q]
      by_cases q2 : a + 1 ≤ s
      · rw [if_pos q2]
      · rw [if_neg q2, show a = s by omega]
    · rw [z (fun h => q ((hP a (by omega)).mp h)), ih (a + 1) b (by omega) j (by omega), if_neg q, if_neg (by omega)]
theorem m_moN (w : Vw S v F ft) (hn : 20 ≤ n) (hF0 : 0 < F) (hP : ∀ a, a ≤ 99 → ¬ (∀ k, k < 3 → ∀ x, x < F → okS v F a x k = true)) : ∀ (m a : Nat) (b : Int32), a + m = 100 → ∀ j, m + 1 ≤ j → l_X9_moreNow_4 n j S b (nI a) = some (b, S) := by
  intro m
  induction m with
  | zero =>
    intro a b ha j hj
    obtain ⟨j, rfl⟩ : ∃ x, j = x + 1 := ⟨j - 1, by omega⟩
    have : a = 100 := by omega
    subst this
    rw [m_mo0]
  | succ m ih =>
    intro a b ha j hj
    obtain ⟨j, rfl⟩ : ∃ x, j = x + 1 := ⟨j - 1, by omega⟩
    obtain ⟨y, z⟩ := m_moS (n := n) w hn hF0 (a := a) (by omega) b j
    rw [z (hP a (by omega)), ih (a + 1) b (by omega) j (by omega)]
theorem more_b (g : Gd v F ft) (c : Cl S0 v) (w : Vw S v F ft) (hn : 200 ≤ n) : ∃ r, f_X8_more n S0 = some r ∧ f_X9_moreNow n S = some (r, S) := by
  have hF := g.1
  unfold f_X8_more
  rw [c 4 (by decide), g.2.1, n0, ifeq (by omega) (by omega)]
  by_cases h0 : F = 0
  · rw [if_pos h0]
    refine ⟨-1, rfl, ?_⟩
    unfold f_X9_moreNow
    obtain ⟨k, rfl⟩ : ∃ x, n = x + 1 := ⟨n - 1, by omega⟩
    show b_X9_moreNow_4 (k + 1) _ S (-1) 0 = _
    unfold b_X9_moreNow_4
    rw [if_neg (by decide), fl_now w (by omega), ob]
    show (if nI F ≤ 0 then _ else _) = _
    rw [h0, if_pos (by decide)]
  · rw [if_neg h0]
    obtain ⟨r, r1, r2⟩ := c_spO (n := n) g c w (by omega) (by omega) 3 0 99 rfl ⟨by omega, fun k' x hx hx2 => by omega, Or.inl rfl⟩ (fun k' h => by omega) n (by omega)
    have e : f_X1_spareOnTop n S0 = some r := by
      unfold f_X1_spareOnTop
      rw [show f_X7_floors S0 = nI F from by show S0.1 4 3 = _; rw [c 4 (by decide)]; exact g.2.1, n1, sbn (by omega)]
      exact r1
    rw [e, ob]
    refine ⟨r, rfl, ?_⟩
    unfold f_X9_moreNow
    rcases r2 with ⟨hok, s, ⟨s1, s2, s3⟩, rfl⟩ | ⟨⟨k, hk, hbad⟩, rfl⟩
    · have hP : ∀ a, a ≤ 99 → ((∀ k, k < 3 → ∀ x, x < F → okS v F a x k = true) ↔ a ≤ s) := by
        intro a ha
        refine ⟨fun h => ?_, fun h k hk x hx => ?_⟩
        · rcases s3 with e | ⟨k', x, h1, h2, h3⟩
          · omega
          · have := of_decide_eq_true (h k' (by omega) x (by omega))
            rw [if_pos h2, h3] at this
            omega
        · refine decide_eq_true ?_
          split
          · rename_i hx2
            have := s2 k x (by omega) hx2
            omega
          · exact hok k hk x hx
      have := m_moL (n := n) w (by omega) (by omega) s1 hP 100 0 (-1) (by omega) n (by omega)
      rw [if_pos (Nat.zero_le s)] at this
      exact this
    · have hP : ∀ a, a ≤ 99 → ¬ (∀ k, k < 3 → ∀ x, x < F → okS v F a x k = true) := by
        intro a ha h
        refine hbad fun x hx => ?_
        have := of_decide_eq_true (h k hk x hx)
        split at this <;> omega
      exact m_moN (n := n) w (by omega) (by omega) hP 100 0 (-1) (by omega) n (by omega)
theorem op_more {S : xS} (hI : Inv S) (hn : 200 ≤ n) : ∃ r S2, f_X8_more n S = some r ∧ f_X9_more n S = some (r, S2) ∧ Inv S2 := by
  obtain ⟨T, F, ft, g, w, i1, i2, i3⟩ := hI.ask
  obtain ⟨r, r1, r2⟩ := more_b (n := n) g (Cl.rf S) w hn
  refine ⟨r, RD S T, r1, ?_, i1⟩
  have e : f_X9_moreNow n S = f_X9_moreNow n (RD S T) := by
    obtain ⟨k, rfl⟩ : ∃ k, n = k + 1 := ⟨n - 1, by omega⟩
    show b_X9_moreNow_4 _ _ S (-1) 0 = b_X9_moreNow_4 _ _ (RD S T) (-1) 0
    unfold b_X9_moreNow_4
    rw [i3 _ (by omega), fl_now w (by omega), if_neg (by decide), if_neg (by decide)]
  unfold f_X9_more
  rw [e, r2, ob]
end MO
