section WR
variable {n : Nat} {v : Nat → Nat → Int32} {F : Nat} {ft : Int32}
theorem Vw.scrW {S S' : xS} (w : Vw S v F ft) (hT : tyOk v) (e : ∀ q, ¬ (25 ≤ q ∧ q ≤ 32) → q < 47 → S'.1 q = S.1 q) : Vw S' v F ft := by
  obtain ⟨g, c, md, rd⟩ := w
  obtain ⟨T, h80, eT⟩ := hT
  refine ⟨g, fun q hq => ?_, ?_, fun n hn => ?_⟩
  · have : q < 25 ∨ q = 33 := by revert hq; revert q; decide
    exact (e q (by omega) (by omega)).trans (c q hq)
  · unfold Md at md ⊢
    rw [e 35 (by decide) (by decide), e 36 (by decide) (by decide), e 37 (by decide) (by decide), e 41 (by decide) (by decide), e 42 (by decide) (by decide), e 43 (by decide) (by decide), e 44 (by decide) (by decide), e 34 (by decide) (by decide), e 39 (by decide) (by decide), e 40 (by decide) (by decide)]
    exact md
  · have t1 : S.1 34 3 = nI T := by rw [md.2.2.2.2.2.2.2.1, eT]
    have r1 := rd n hn
    rw [m_rd t1 h80 hn] at r1
    have r2 := Prod.mk.inj (Option.some.inj r1)
    have t2 : S'.1 34 3 = nI T := by rw [e 34 (by decide) (by decide)]; exact t1
    rw [m_rd t2 h80 hn, e 38 (by decide) (by decide), r2.1]
    have r3 : RD S' T = S' := by
      refine Prod.ext ?_ (RD_2 S' T)
      funext q k
      by_cases q1 : (25 ≤ q ∧ q ≤ 32) ∨ 47 ≤ q
      · rw [RD_q (by omega) (by omega) (by omega)]
      · have z : (RD S' T).1 q k = (RD S T).1 q k := by
          rw [RD_at, RD_at, e 38 (by decide) (by decide), e 35 (by decide) (by decide), e q (by omega) (by omega)]
        rw [z, r2.2, e q (by omega) (by omega)]
    rw [r3]
theorem c_wrL {s m z F c : Nat} (hs : s < 4) (hm : m ≤ 2) (hz : z ≤ 48) (hF : F ≤ 10) (hc : c = min z F) (f : Nat → Int32) : ∀ (k y : Nat) (S : xS), y + k = c → S.1 (25 + s) 1 = nI m → S.1 (25 + s) 2 = nI z → (∀ i, i < F → S.1 11 i + S.1 12 i = f i) → ∀ j, k + 1 ≤ j → ∃ S', (∀ x, y ≤ x → x < c → S'.1 (25 + s + 4) x = kept m (f x)) ∧ (∀ x, (x < y ∨ c ≤ x) → S'.1 (25 + s + 4) x = S.1 (25 + s + 4) x) ∧ (∀ p, p ≠ 25 + s + 4 → S'.1 p = S.1 p) ∧ l_X8_write_35 n j S (nI s) (nI c) (nI y) = some (nI c, S') := by
  intro k
  induction k with
  | zero =>
    intro y S hy i1 i2 i3 j hj
    obtain ⟨j, rfl⟩ : ∃ x, j = x + 1 := ⟨j - 1, by omega⟩
    refine ⟨S, fun x h1 h2 => by omega, fun _ _ => rfl, fun _ _ => rfl, ?_⟩
    show b_X8_write_35 n _ S (nI s) (nI c) (nI y) = _
    unfold b_X8_write_35
    rw [ifle (by omega) (by omega), if_pos (by omega)]
  | succ k ih =>
    intro y S hy i1 i2 i3 j hj
    obtain ⟨j, rfl⟩ : ∃ x, j = x + 1 := ⟨j - 1, by omega⟩
    have e : ∀ p, p ≠ 25 + s + 4 → (xst S (25 + s + 4) y (kept m (f y))).1 p = S.1 p := fun p hp => funext fun _ => xst_q hp
    obtain ⟨S', x1, x2, x3, x4⟩ := ih (y + 1) (xst S (25 + s + 4) y (kept m (f y))) (by omega) (by rw [e _ (by omega)]; exact i1) (by rw [e _ (by omega)]; exact i2) (fun i hi => by rw [e 11 (by omega), e 12 (by omega)]; exact i3 i hi) j (by omega)
    refine ⟨S', fun x h1 h2 => ?_, fun x hx => (x2 x (by omega)).trans (xst_k (by omega)), fun p hp => (x3 p hp).trans (e p hp), ?_⟩
    · by_cases q : x = y
      · subst q; rw [x2 x (by omega), xst_eq]
      · exact x1 x (by omega) h2
    · rw [← x4]
      show b_X8_write_35 n (l_X8_write_35 n j) S (nI s) (nI c) (nI y) = _
      unfold b_X8_write_35
      rw [ifle (by omega) (by omega), if_neg (by omega), xgn (by omega) (by omega), c_built (by omega), ob, cln (by omega), i3 y (by omega), c_store hs i1 hm i2 hz (by omega), ob, ad1]
theorem m_wrL (hT : tyOk v) {s m z c : Nat} (hn : 20 ≤ n) (hs : s < 4) (hm : m ≤ 2) (hz : z ≤ 48) (hc : c = min z F) : ∀ (k y : Nat) (S : xS), y + k = c → Vw S v F ft → S.1 49 s = nI m → S.1 50 s = nI z → ∀ j, k + 1 ≤ j → ∃ S', (∀ x, y ≤ x → x < c → S'.1 51 (48 * s + x) = kept m (v 11 x + v 12 x)) ∧ (∀ x, (x < 48 * s + y ∨ 48 * s + c ≤ x) → S'.1 51 x = S.1 51 x) ∧ (∀ p, p ≠ 51 → S'.1 p = S.1 p) ∧ l_X9_write_27 n j S (nI s) (nI y) = some (nI c, S') := by
  intro k
  induction k with
  | zero =>
    intro y S hy w i1 i2 j hj
    have hF := w.1.1
    obtain ⟨j, rfl⟩ : ∃ x, j = x + 1 := ⟨j - 1, by omega⟩
    refine ⟨S, fun x h1 h2 => by omega, fun _ _ => rfl, fun _ _ => rfl, ?_⟩
    show b_X9_write_27 n _ S (nI s) (nI y) = _
    unfold b_X9_write_27
    rw [fl_now w hn, ob]
    show (if nI F ≤ nI y then some (nI y, S) else xg (xin (nI s) 4) (if S.1 50 (nI s).toNatClampNeg ≤ nI y then some (nI y, S) else _)) = _
    rw [ifle (by omega) (by omega), xgn (by omega) (by omega), cln (by omega), i2, ifle (by omega) (by omega)]
    have : y = c := by omega
    subst this
    by_cases q : F ≤ y
    · rw [if_pos q]
    · rw [if_neg q, if_pos (by omega)]
  | succ k ih =>
    intro y S hy w i1 i2 j hj
    have hF := w.1.1
    obtain ⟨j, rfl⟩ : ∃ x, j = x + 1 := ⟨j - 1, by omega⟩
    have e : ∀ p, p ≠ 51 → (xst S 51 (48 * s + y) (kept m (v 11 y + v 12 y))).1 p = S.1 p := fun p hp => funext fun _ => xst_q hp
    obtain ⟨S', x1, x2, x3, x4⟩ := ih (y + 1) (xst S 51 (48 * s + y) (kept m (v 11 y + v 12 y))) (by omega) (w.scrW hT (fun q _ h2 => e q (by omega))) (by rw [e 49 (by decide)]; exact i1) (by rw [e 50 (by decide)]; exact i2) j (by omega)
    refine ⟨S', fun x h1 h2 => ?_, fun x hx => (x2 x (by omega)).trans (xst_k (by omega)), fun p hp => (x3 p hp).trans (e p hp), ?_⟩
    · by_cases q : x = y
      · subst q; rw [x2 _ (by omega), xst_eq]
      · exact x1 x (by omega) h2
    · rw [← x4]
      show b_X9_write_27 n (l_X9_write_27 n j) S (nI s) (nI y) = _
      unfold b_X9_write_27
      rw [fl_now w hn, ob]
      show (if nI F ≤ nI y then some (nI y, S) else xg (xin (nI s) 4) (if S.1 50 (nI s).toNatClampNeg ≤ nI y then some (nI y, S) else ((f_X9_builtOf n S (nI y)).bind fun r9 => ((f_X9_keep n S (nI s) (nI y) r9).bind fun r11 => (l_X9_write_27 n j r11 (nI s) (nI y + 1)))))) = _
      rw [ifle (by omega) (by omega), xgn (by omega) (by omega), cln (by omega), i2, ifle (by omega) (by omega), if_neg (by omega), if_neg (by omega), m_built w (by omega), ob, m_keep hs i1 hm (by omega), ob, ad1]
theorem op_write {S : xS} (hI : Inv S) (hn : 60 ≤ n) (a1 : Int32) : ∃ r S1 S2, f_X8_write n S a1 = some (r, S1) ∧ f_X9_write n S1 a1 = some (r, S2) ∧ Inv S2 := by
  unfold f_X8_write f_X9_write
  rw [show f_X9_isSheet a1 = f_X9_in a1 0 3 from rfl]
  by_cases h1 : f_X9_in a1 0 3 = 0
  · rw [c_refN h1, ob]
    exact ⟨-2, S, S, rfl, by rw [if_pos h1], hI⟩
  · obtain ⟨s, hs, rfl⟩ := isSht h1
    rcases hI.shs hs with ⟨k1, k2⟩ | ⟨k1, k2, ⟨m, k3, k4⟩, k5, ⟨z, k6, k7⟩, k8⟩
    · rw [c_refL hs k2, ob]
      refine ⟨-10 - 1, xst S 0 9 1, xst (xst S 0 9 1) 34 20 1, ?_, ?_, hI.find 1⟩
      · show (if ((-10 : Int32) - 1 = 0) then _ else _) = _
        rw [if_neg (by decide)]
      · rw [if_neg h1, xgn (by omega) (by omega), cln (by omega), xst_q (by decide), k1, if_pos rfl]
        rfl
    · rw [c_refH hs (k2.trans k4) k3, ob]
      have hI0 := hI
      obtain ⟨T, hb, hm, hd, hsh⟩ := hI
      have g := Inv.gd hb hm hd
      generalize hFF : pzF (pzW (S.1 5) T) = F at g
      generalize hft : pzFt (pzW (S.1 5) T) = ft at g
      have hF := g.1
      obtain ⟨S1, x1, x2, x3, x4⟩ := c_wrL (n := n) (s := s) (m := m) (z := z) (F := F) hs k3 k6 hF rfl (fun i => S.1 11 i + S.1 12 i) (min z F) 0 S (by omega) (k2.trans k4) (k5.trans k7) (fun i _ => rfl) n (by omega)
      have e1 : ∀ q, q < 25 ∨ q = 33 ∨ 33 < q → S1.1 q = S.1 q := fun q hq => x3 q (by omega)
      have hb1 : baseOk S1 T := by
        unfold baseOk at hb ⊢
        rw [e1 4 (by omega), e1 38 (by omega), e1 5 (by omega), e1 35 (by omega), e1 2 (by omega), e1 36 (by omega), e1 3 (by omega), e1 37 (by omega), e1 33 (by omega), e1 41 (by omega), e1 12 (by omega), e1 42 (by omega), e1 16 (by omega), e1 43 (by omega), e1 19 (by omega), e1 44 (by omega), e1 23 (by omega), e1 34 (by omega), e1 0 (by omega)]
        exact hb
      have hm1 : numOk S1 := hm.congr (fun q hq => e1 q (by revert hq; revert q; decide))
      have hd1 : derOk S1 T := hd.congr (fun q hq => e1 q (by revert hq; revert q; decide)) (by rw [e1 4 (by omega)]) (by rw [e1 4 (by omega)])
      have w1 := Inv.vw hb1 hm1 hd1
      have fr := fl_rd (n := n) hb1 (by omega)
      rw [e1 5 (by omega), hFF] at w1 fr
      rw [hft] at w1
      obtain ⟨S2, y1, y2, y3, y4⟩ := m_wrL (n := n) (v := S1.1) (F := F) (ft := ft) ⟨T, hb1.1, hb1.2.1⟩ (by omega) hs k3 k6 rfl (min z F) 0 (RD S1 T) (by omega) w1 (by rw [RD_q (by decide) (by decide) (by decide), e1 49 (by omega)]; exact k4) (by rw [RD_q (by decide) (by decide) (by decide), e1 50 (by omega)]; exact k7) n (by omega)
      refine ⟨nI (min z F), S1, S2, ?_, ?_, ?_⟩
      · show (if (0 : Int32) = 0 then xg (xin (nI s) 4) (l_X8_write_35 n n S (nI s) (xmin (S.1 (25 + (nI s).toNatClampNeg) 2) (S.1 4 3)) 0) else _) = _
        rw [if_pos rfl, xgn (by omega) (by omega), cln (by omega), k5, k7, g.2.1]
        have : xmin (nI z) (nI F) = nI (min z F) := by
          rw [eqI, tI_min, tin (by omega), tin (by omega), tin (by omega)]
          omega
        rw [this]
        exact x4
      · rw [if_neg h1, xgn (by omega) (by omega), cln (by omega), e1 48 (by omega), k1, if_neg (by decide), ← y4]
        obtain ⟨k, rfl⟩ : ∃ k, n = k + 1 := ⟨n - 1, by omega⟩
        show b_X9_write_27 _ _ S1 (nI s) 0 = b_X9_write_27 _ _ (RD S1 T) (nI s) 0
        unfold b_X9_write_27
        rw [fr, fl_now w1 (by omega)]
      · obtain ⟨S3, hS3⟩ : ∃ S3 : xS, S3 = (fun q k => if q = 51 then S2.1 51 k else S1.1 q k, S1.2) := ⟨_, rfl⟩
        have f51 : S3.1 51 = S2.1 51 := by rw [hS3]; funext k; show (if 51 = 51 then S2.1 51 k else S1.1 51 k) = _; rw [if_pos rfl]
        have fo : ∀ q, q ≠ 51 → S3.1 q = S1.1 q := fun q hq => by rw [hS3]; funext k; show (if q = 51 then S2.1 51 k else S1.1 q k) = _; rw [if_neg hq]
        have r51 : (RD S1 T).1 51 = S.1 51 := (RD_q (by decide) (by decide) (by decide)).trans (e1 51 (by omega))
        have h3 : Inv S3 := by
          refine hI0.sh (fun q a b => (fo q (by omega)).trans (e1 q (by omega))) (fun t ht => ?_)
          by_cases et : t = s
          · subst et
            refine Or.inr ?_
            rw [fo 48 (by omega), fo 49 (by omega), fo 50 (by omega), fo (25 + t) (by omega), fo (25 + t + 4) (by omega), f51, e1 48 (by omega), e1 49 (by omega), e1 50 (by omega), x3 (25 + t) (by omega)]
            refine ⟨k1, k2, ⟨m, k3, k4⟩, k5, ⟨z, k6, k7⟩, fun i hi => ?_⟩
            by_cases q : i < min z F
            · rw [x1 i (by omega) q, y1 i (by omega) q, e1 11 (by omega), e1 12 (by omega)]
            · rw [x2 i (by omega), y2 _ (by omega), r51, k8 i hi]
          · refine (hI0.shs ht).oth et ht hs (fun q a b c => (fo q (by omega)).trans (x3 q (by omega))) (fun y _ => by rw [fo 48 (by omega), e1 48 (by omega)]) (fun y _ => by rw [fo 49 (by omega), e1 49 (by omega)]) (fun y _ => by rw [fo 50 (by omega), e1 50 (by omega)]) (fun y hy => by rw [f51, y2 y (by omega), r51])
        obtain ⟨T3, F3, ft3, g3, w3, q1, q2, q3⟩ := h3.ask
        have eT : T3 = T3 := rfl
        have h4 : Inv (RD S3 T) := by
          obtain ⟨T', b', n', d', s'⟩ := h3
          have : T' = T := nI_inj (by have := b'.1; omega) (by have := hb1.1; omega) (by rw [← b'.2.1, ← hb1.2.1, fo 4 (by decide)])
          subst this
          exact Inv.ofRD b' n' d' s'
        have e5 : S2.1 = (RD S3 T).1 := by
          funext q k
          by_cases q5 : q = 51
          · subst q5; rw [RD_q (by decide) (by decide) (by decide), f51]
          · rw [y3 q q5, RD_at, RD_at, fo 38 (by decide), fo 35 (by decide), fo q q5]
        exact h4.scr (Scr.of1 e5)
end WR
