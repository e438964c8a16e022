def wN (v : Nat → Nat → Int32) (k : Nat) : Nat := (v 23 k).toNatClampNeg
def sW (v : Nat → Nat → Int32) : Nat → Nat → Nat
  | _, 0 => 0
  | k, m + 1 => wN v k + sW v (k + 1) m
def strn (v : Nat → Nat → Int32) (f : Nat) (k : Int32) : Int32 := (k + 2) * (v 11 f + v 12 f) / 10
section SF
variable {S S0 : xS} {v : Nat → Nat → Int32} {F n : Nat} {ft : Int32}
theorem wN_ok (g : Gd v F ft) {k : Nat} (h : k < 10) : v 23 k = nI (wN v k) ∧ wN v k ≤ 99 := by
  have := g.2.2.2.2.2.2.2.2.2.1 k h
  obtain ⟨j, j1, j2, j3⟩ := nat_of (x := v 23 k) (by omega)
  have e : wN v k = j := by unfold wN; rw [j2, cln (by omega)]
  rw [e]
  exact ⟨j2, by omega⟩
theorem sW_le (g : Gd v F ft) : ∀ (m k : Nat), k + m ≤ 10 → sW v k m ≤ 99 * m
  | 0, k, h => Nat.zero_le _
  | m + 1, k, h => by
    have h1 := (wN_ok g (k := k) (by omega)).2
    have h2 := sW_le g m (k + 1) (by omega)
    show wN v k + sW v (k + 1) m ≤ _
    omega
theorem built_rg (g : Gd v F ft) {f : Nat} (h : f < F) : -99 ≤ (v 11 f + v 12 f).toInt ∧ (v 11 f + v 12 f).toInt ≤ 101000 := by
  have hF := g.1
  obtain ⟨M, C, j, hM, hC, hj, eM, eC, -⟩ := g.2.2.2.2.1 f h
  have h2 := g.2.2.2.2.2.2.2.1 f (by omega)
  rw [eC, tI_add (by rw [tin (by omega)]; omega), tin (by omega)]
  omega
theorem strn_rg (g : Gd v F ft) {f k : Nat} (h : f < F) (hk : k < 3) : -1000000 ≤ (strn v f (nI k)).toInt ∧ (strn v f (nI k)).toInt ≤ 1000000 := by
  have hb := built_rg g h
  unfold strn
  rw [n2, adn]
  have hm : (nI (k + 2) * (v 11 f + v 12 f)).toInt = ((k + 2 : Nat) : Int) * (v 11 f + v 12 f).toInt := by
    rw [tI_mul, tin (by omega)]
    rw [tin (by omega)]
    rcases (show k = 0 ∨ k = 1 ∨ k = 2 by omega) with rfl | rfl | rfl <;> omega
  have hr : -400 ≤ (nI (k + 2) * (v 11 f + v 12 f)).toInt ∧ (nI (k + 2) * (v 11 f + v 12 f)).toInt ≤ 404000 := by
    rw [hm]
    rcases (show k = 0 ∨ k = 1 ∨ k = 2 by omega) with rfl | rfl | rfl <;> omega
  rw [tI_div (by omega)]
  have : ((nI (k + 2) * (v 11 f + v 12 f)).toInt.tdiv (10 : Int32).toInt).natAbs ≤ (nI (k + 2) * (v 11 f + v 12 f)).toInt.natAbs := Int.natAbs_tdiv_le_natAbs _ _
  omega
theorem c_resL (g : Gd v F ft) (c : Cl S0 v) {f k : Nat} (hf : f < F) : ∀ (m y x : Nat), y + m = F → x ≤ 99 * y → ∀ j, m + 1 ≤ j → l_X1_reserve_7 n S0 j (nI f) (nI k) (nI x) (nI y) = some (strn v f (nI k) - nI (x + sW v y m)) := by
  intro m
  have hF := g.1
  induction m with
  | zero =>
    intro y x hy hx j hj
    obtain ⟨j, rfl⟩ : ∃ x, j = x + 1 := ⟨j - 1, by omega⟩
    show b_X1_reserve_7 n _ S0 (nI f) (nI k) (nI x) (nI y) = _
    unfold b_X1_reserve_7
    rw [show f_X7_floors S0 = nI F from by show S0.1 4 3 = _; rw [c 4 (by decide)]; exact g.2.1, ifle (by omega) (by omega), if_pos (by omega), c_strength (by omega), ob, c 11 (by decide), c 12 (by decide)]
    rfl
  | succ m ih =>
    intro y x hy hx j hj
    obtain ⟨j, rfl⟩ : ∃ x, j = x + 1 := ⟨j - 1, by omega⟩
    show b_X1_reserve_7 n (l_X1_reserve_7 n S0 j) S0 (nI f) (nI k) (nI x) (nI y) = _
    unfold b_X1_reserve_7
    have hw := wN_ok g (k := y) (by omega)
    rw [show f_X7_floors S0 = nI F from by show S0.1 4 3 = _; rw [c 4 (by decide)]; exact g.2.1, ifle (by omega) (by omega), if_neg (by omega), xgn (by omega) (by omega), cln (by omega), c 23 (by decide), hw.1, adn, ad1, ih (y + 1) (x + wN v y) (by omega) (by omega) j (by omega)]
    show some (_ - nI (x + wN v y + sW v (y + 1) m)) = some (_ - nI (x + (wN v y + sW v (y + 1) m)))
    rw [Nat.add_assoc]
theorem c_res (g : Gd v F ft) (c : Cl S0 v) {f k : Nat} (hf : f < F) (hn : 20 ≤ n) : f_X1_reserve n S0 (nI f) (nI k) = some (strn v f (nI k) - nI (sW v (f + 1) (F - f - 1))) := by
  have hF := g.1
  unfold f_X1_reserve
  rw [ad1]
  have := c_resL (n := n) (k := k) g c hf (F - f - 1) (f + 1) 0 (by omega) (by omega) n (by omega)
  rw [Nat.zero_add] at this
  exact this
/-- what floor f has to spare in reckoning k -/
def rsv (v : Nat → Nat → Int32) (F f k : Nat) : Int := (strn v f (nI k)).toInt - sW v (f + 1) (F - f - 1)
theorem rsv_I (g : Gd v F ft) {f k : Nat} (hf : f < F) (hk : k < 3) : (strn v f (nI k) - nI (sW v (f + 1) (F - f - 1))).toInt = rsv v F f k ∧ -1001000 ≤ rsv v F f k ∧ rsv v F f k ≤ 1000000 := by
  have hF := g.1
  have h1 := strn_rg g hf hk
  have h2 := sW_le g (F - f - 1) (f + 1) (by omega)
  unfold rsv
  rw [tI_sub (by rw [tin (by omega)]; omega), tin (by omega)]
  omega
theorem m_sfL (w : Vw S v F ft) {f k a : Nat} (hf : f < F) (hk : k < 3) (ha : a ≤ 99) (k8 : xS → Int32 → Int32 → Int32 → Int32 → Option (Int32 × xS)) : ∀ (m y x : Nat), y + m = F → x ≤ 99 * y + 99 → ∀ j, m + 1 ≤ j → l_X9_safeBy_35 n k8 j S (nI k) (nI a) (nI F) (nI f) (nI x) (nI y) = if nI (x + sW v y m) ≤ strn v f (nI k) then k8 S (nI k) (nI a) (nI F) (nI (f + 1)) else some (nI f, S) := by
  intro m
  have g := w.1
  have hF := g.1
  induction m with
  | zero =>
    intro y x hy hx j hj
    obtain ⟨j, rfl⟩ : ∃ x, j = x + 1 := ⟨j - 1, by omega⟩
    show b_X9_safeBy_35 n k8 _ S (nI k) (nI a) (nI F) (nI f) (nI x) (nI y) = _
    unfold b_X9_safeBy_35
    rw [ifle (by omega) (by omega), if_pos (by omega), m_bears w hf, ob, ad1]
    rfl
  | succ m ih =>
    intro y x hy hx j hj
    obtain ⟨j, rfl⟩ : ∃ x, j = x + 1 := ⟨j - 1, by omega⟩
    show b_X9_safeBy_35 n k8 (l_X9_safeBy_35 n k8 j) S (nI k) (nI a) (nI F) (nI f) (nI x) (nI y) = _
    unfold b_X9_safeBy_35
    have hw := wN_ok g (k := y) (by omega)
    rw [ifle (by omega) (by omega), if_neg (by omega), xgn (by omega) (by omega), cln (by omega), w.2.2.1.2.2.2.2.2.2.1, hw.1, adn, ad1, ih (y + 1) (x + wN v y) (by omega) (by omega) j (by omega)]
    show (if nI (x + wN v y + sW v (y + 1) m) ≤ _ then _ else _) = (if nI (x + (wN v y + sW v (y + 1) m)) ≤ _ then _ else _)
    rw [Nat.add_assoc]
/-- floor f bears what is above it, the top one weighing a more -/
def okS (v : Nat → Nat → Int32) (F a f k : Nat) : Bool := decide ((if f + 1 < F then (a : Int) else 0) ≤ rsv v F f k)
theorem m_sfS (w : Vw S v F ft) (hn : 20 ≤ n) {f k a : Nat} (hf : f < F) (hk : k < 3) (ha : a ≤ 99) (j : Nat) : l_X9_safeBy_8 n (j + 1) S (nI k) (nI a) (nI F) (nI f) = if okS v F a f k = true then l_X9_safeBy_8 n j S (nI k) (nI a) (nI F) (nI (f + 1)) else some (nI f, S) := by
  have g := w.1
  have hF := g.1
  have h2 := sW_le g (F - f - 1) (f + 1) (by omega)
  have hr := rsv_I g hf hk
  have key : ∀ z : Nat, z ≤ 99 → ((z : Int) = if f + 1 < F then (a : Int) else 0) → (if nI (z + sW v (f + 1) (F - f - 1)) ≤ strn v f (nI k) then l_X9_safeBy_8 n j S (nI k) (nI a) (nI F) (nI (f + 1)) else some (nI f, S)) = if okS v F a f k = true then l_X9_safeBy_8 n j S (nI k) (nI a) (nI F) (nI (f + 1)) else some (nI f, S) := by
    intro z hz hz2
    have e : (nI (z + sW v (f + 1) (F - f - 1)) ≤ strn v f (nI k)) ↔ okS v F a f k = true := by
      unfold okS
      rw [decide_eq_true_iff, leI, tin (by omega), ← hz2]
      unfold rsv
      omega
    by_cases q : okS v F a f k = true
    · rw [if_pos (e.mpr q), if_pos q]
    · rw [if_neg (fun x => q (e.mp x)), if_neg q]
  show b_X9_safeBy_8 n (l_X9_safeBy_8 n j) S (nI k) (nI a) (nI F) (nI f) = _
  unfold b_X9_safeBy_8
  rw [ifle (by omega) (by omega), if_neg (by omega), n1, sbn (by omega), ifle (by omega) (by omega), ← n1, ad1, n0]
  by_cases q : F - 1 ≤ f
  · rw [if_pos q, m_sfL w hf hk ha _ (F - f - 1) (f + 1) 0 (by omega) (by omega) n (by omega)]
    exact key 0 (by omega) (by rw [if_neg (by omega)]; rfl)
  · rw [if_neg q, m_sfL w hf hk ha _ (F - f - 1) (f + 1) a (by omega) (by omega) n (by omega)]
    exact key a ha (by rw [if_pos (by omega)])
theorem m_sf0 {k a j : Nat} (hF : F ≤ 10) : l_X9_safeBy_8 n (j + 1) S (nI k) (nI a) (nI F) (nI F) = some (-1, S) := by
  show b_X9_safeBy_8 n _ S (nI k) (nI a) (nI F) (nI F) = _
  unfold b_X9_safeBy_8
  rw [ifle (by omega) (by omega), if_pos (by omega)]
theorem safe_L (g : Gd v F ft) (c : Cl S0 v) (w : Vw S v F ft) (hn : 20 ≤ n) {k : Nat} (hk : k < 3) : ∀ (m f : Nat), f + m = F → ∀ i j, m + 1 ≤ i → m + 1 ≤ j → ∃ r, l_X1_firstOverborne_2 n S0 i (nI k) (nI f) = some r ∧ l_X9_safeBy_8 n j S (nI k) (nI 0) (nI F) (nI f) = some (r, S) ∧ (r = -1 ↔ ∀ x, f ≤ x → x < F → 0 ≤ rsv v F x k) := by
  intro m
  have hF := g.1
  induction m with
  | zero =>
    intro f hf i j hi hj
    obtain ⟨i, rfl⟩ : ∃ x, i = x + 1 := ⟨i - 1, by omega⟩
    obtain ⟨j, rfl⟩ : ∃ x, j = x + 1 := ⟨j - 1, by omega⟩
    have : f = F := by omega
    subst this
    refine ⟨-1, ?_, m_sf0 hF, fun _ x h1 h2 => by omega, fun _ => rfl⟩
    show b_X1_firstOverborne_2 n _ S0 (nI k) (nI f) = _
    unfold b_X1_firstOverborne_2
    rw [show f_X7_floors S0 = nI f from by show S0.1 4 3 = _; rw [c 4 (by decide)]; exact g.2.1, ifle (by omega) (by omega), if_pos (by omega)]
  | succ m ih =>
    intro f hf i j hi hj
    obtain ⟨i, rfl⟩ : ∃ x, i = x + 1 := ⟨i - 1, by omega⟩
    obtain ⟨j, rfl⟩ : ∃ x, j = x + 1 := ⟨j - 1, by omega⟩
    have hr := rsv_I g (f := f) (k := k) (by omega) hk
    have e1 : l_X1_firstOverborne_2 n S0 (i + 1) (nI k) (nI f) = if 0 ≤ rsv v F f k then l_X1_firstOverborne_2 n S0 i (nI k) (nI (f + 1)) else some (nI f) := by
      show b_X1_firstOverborne_2 n (l_X1_firstOverborne_2 n S0 i) S0 (nI k) (nI f) = _
      unfold b_X1_firstOverborne_2
      rw [show f_X7_floors S0 = nI F from by show S0.1 4 3 = _; rw [c 4 (by decide)]; exact g.2.1, ifle (by omega) (by omega), if_neg (by omega), c_res g c (by omega) hn, ob, ad1]
      have e : ((0 : Int32) ≤ strn v f (nI k) - nI (sW v (f + 1) (F - f - 1))) ↔ 0 ≤ rsv v F f k := by
        rw [leI, hr.1]; rfl
      by_cases q : 0 ≤ rsv v F f k
      · rw [if_pos (e.mpr q), if_pos q]
      · rw [if_neg (fun z => q (e.mp z)), if_neg q]
    rw [e1, m_sfS w hn (by omega) hk (by omega)]
    have eo : (okS v F 0 f k = true) ↔ 0 ≤ rsv v F f k := by
      unfold okS
      rw [decide_eq_true_iff]
      split <;> simp
    by_cases q : 0 ≤ rsv v F f k
    · rw [if_pos q, if_pos (eo.mpr q)]
      obtain ⟨r, r1, r2, r3⟩ := ih (f + 1) (by omega) i j (by omega) (by omega)
      refine ⟨r, r1, r2, r3.trans ⟨fun h x hx hx2 => ?_, fun h x hx hx2 => h x (by omega) hx2⟩⟩
      by_cases e : x = f
      · subst e; exact q
      · exact h x (by omega) hx2
    · rw [if_neg q, if_neg (fun z => q (eo.mp z))]
      exact ⟨nI f, rfl, rfl, fun h => absurd h (nI_ne_m1 (by omega)), fun h => absurd (h f (Nat.le_refl f) (by omega)) q⟩
theorem safe_b (g : Gd v F ft) (c : Cl S0 v) (w : Vw S v F ft) (hn : 20 ≤ n) {k : Nat} (hk : k < 3) : ∃ r, f_X1_firstOverborne n S0 (nI k) = some r ∧ f_X9_safeBy n S (nI k) 0 = some (r, S) ∧ (r = -1 ↔ ∀ x, x < F → 0 ≤ rsv v F x k) := by
  have hF := g.1
  obtain ⟨r, r1, r2, r3⟩ := safe_L (n := n) g c w hn hk F 0 (by omega) n n (by omega) (by omega)
  refine ⟨r, r1, ?_, r3.trans ⟨fun h x hx => h x (by omega) hx, fun h x _ hx => h x hx⟩⟩
  unfold f_X9_safeBy
  rw [fl_now w hn, ob]
  exact r2
theorem op_safe {S : xS} (hI : Inv S) (hn : 20 ≤ n) (a : Int32) : ∃ r S2, f_X8_safe n S a = some r ∧ f_X9_safe n S a = some (r, S2) ∧ Inv S2 := by
  unfold f_X8_safe f_X9_safe
  rw [show f_X8_isMaster a = f_X9_in a 0 2 from rfl]
  by_cases h1 : f_X9_in a 0 2 = 0
  · rw [if_pos h1, if_pos h1]; exact ⟨_, S, rfl, rfl, hI⟩
  · rw [if_neg h1, if_neg h1]
    obtain ⟨k, -, hk, rfl⟩ := in_nat (lo := 0) (hi := 2) (by decide) h1 (by decide)
    obtain ⟨T, F, ft, g, w, i1, i2, i3⟩ := hI.ask
    obtain ⟨r, r1, r2, -⟩ := safe_b (n := n) (k := k) g (Cl.rf S) w hn (by omega)
    have e : f_X9_safeBy n S (nI k) 0 = f_X9_safeBy n (RD S T) (nI k) 0 := by
      unfold f_X9_safeBy
      rw [i3 n hn, fl_now w hn]
    rw [r1, ob, e, r2, ob]
    exact ⟨_, _, rfl, rfl, i1⟩
end SF
