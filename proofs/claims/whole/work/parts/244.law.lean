section LAW
variable {p : Program} {l : Launch} {e : Env} {s : State} {m : MethodId} {below : List Frame} {meth : Method} {c : Code} {b L : Nat} {xs : Nat → Int32} {G : xG} {S : xS} {H : Heap} {locs : List Loc} {ls : Array Slot} {Q : State → Prop}
theorem law_20 (C0 : lw_At p s m meth c b L xs) (X : xC p s m #[Value.ref b] c G RL code 4) (hbA : ¬ xA G b) (hL : L ≤ 3072) {i : Nat} (hi : i + 6 ≤ L) (hI : Inv S) (hP : xP G S H) (hS : va_S (xA G) s.heap H locs) (hl : lv_has ls 4 (lawl b G i)) (kk : ∀ (S2 : xS) (H : Heap) (locs : List Loc), Inv S2 → xP G S2 H → va_S (xA G) s.heap H locs → W p l e room_1 s m #[Value.ref b] below meth c H locs 600000 7302250 Q (F0 m 1351 ls [])) : W p l e room_1 s m #[Value.ref b] below meth c H locs 600000 7302250 Q (F0 m 829 ls []) := by
  obtain ⟨hx, hb, hml, hown, hts, hE⟩ := id X
  obtain ⟨r, S2, h1, h2, h3⟩ := op_lifts (n := 200) hI (by decide) 
  refine lv_aload_n hx hb dL_law_829 rfl (lv_at hl 1 rfl) ?_
  refine x_cVi (As := []) (rest := []) X hP hS kc_L_100 (c_X8_lifts l G 200 S  r h1) ⟨Nat.le_of_ble_eq_true rfl, Nat.le_of_ble_eq_true rfl⟩ (by decide) rfl rfl rfl hl.1 rfl (Nat.le_of_ble_eq_true rfl) ⟨Nat.le_of_ble_eq_true rfl, Nat.le_of_ble_eq_true rfl⟩ dL_law_830 (fun H locs hP hS => ?_)
  refine lv_aload_n hx hb dL_law_833 rfl (lv_at hl 2 rfl) ?_
  refine x_cVi (As := []) (rest := [.int r]) X hP hS kc_L_103 (c_X9_lifts l G 200 S  r S2 h2) ⟨Nat.le_of_ble_eq_true rfl, Nat.le_of_ble_eq_true rfl⟩ (by decide) rfl rfl rfl hl.1 rfl (Nat.le_of_ble_eq_true rfl) ⟨Nat.le_of_ble_eq_true rfl, Nat.le_of_ble_eq_true rfl⟩ dL_law_834 (fun H locs hP hS => ?_)
  exact lv_icmp_eq (tgt := 1351) hx hb dL_law_837 (by decide) (fun _ => kk S2 H locs h3 hP hS) (fun e1 => absurd rfl e1)
theorem law_21 (C0 : lw_At p s m meth c b L xs) (X : xC p s m #[Value.ref b] c G RL code 4) (hbA : ¬ xA G b) (hL : L ≤ 3072) {i : Nat} (hi : i + 6 ≤ L) (hI : Inv S) (hP : xP G S H) (hS : va_S (xA G) s.heap H locs) (hl : lv_has ls 4 (lawl b G i)) (kk : ∀ (S2 : xS) (H : Heap) (locs : List Loc), Inv S2 → xP G S2 H → va_S (xA G) s.heap H locs → W p l e room_1 s m #[Value.ref b] below meth c H locs 600000 7302250 Q (F0 m 1351 ls [])) : W p l e room_1 s m #[Value.ref b] below meth c H locs 600000 7302250 Q (F0 m 842 ls []) := by
  obtain ⟨hx, hb, hml, hown, hts, hE⟩ := id X
  obtain ⟨r, S2, h1, h2, h3⟩ := op_longest (n := 200) hI (by decide) (xs (i + 1)) (xs (i + 2))
  refine lv_aload_n hx hb dL_law_842 rfl (lv_at hl 1 rfl) ?_
  refine law_ld (k := 1) C0 hbA hS hl hL hi (by decide) dL_law_843 dL_law_844 dL_law_845 (by decide) dL_law_846 dL_law_847 ?_
  refine law_ld (k := 2) C0 hbA hS hl hL hi (by decide) dL_law_848 dL_law_849 dL_law_850 (by decide) dL_law_851 dL_law_852 ?_
  refine x_cVi (As := [.int (xs (i + 1)), .int (xs (i + 2))]) (rest := []) X hP hS kc_L_104 (c_X8_longest l G 200 S (xs (i + 1)) (xs (i + 2)) r h1) ⟨Nat.le_of_ble_eq_true rfl, Nat.le_of_ble_eq_true rfl⟩ (by decide) rfl rfl rfl hl.1 rfl (Nat.le_of_ble_eq_true rfl) ⟨Nat.le_of_ble_eq_true rfl, Nat.le_of_ble_eq_true rfl⟩ dL_law_853 (fun H locs hP hS => ?_)
  refine lv_aload_n hx hb dL_law_856 rfl (lv_at hl 2 rfl) ?_
  refine law_ld (k := 1) C0 hbA hS hl hL hi (by decide) dL_law_857 dL_law_858 dL_law_859 (by decide) dL_law_860 dL_law_861 ?_
  refine law_ld (k := 2) C0 hbA hS hl hL hi (by decide) dL_law_862 dL_law_863 dL_law_864 (by decide) dL_law_865 dL_law_866 ?_
  refine x_cVi (As := [.int (xs (i + 1)), .int (xs (i + 2))]) (rest := [.int r]) X hP hS kc_L_107 (c_X9_longest l G 200 S (xs (i + 1)) (xs (i + 2)) r S2 h2) ⟨Nat.le_of_ble_eq_true rfl, Nat.le_of_ble_eq_true rfl⟩ (by decide) rfl rfl rfl hl.1 rfl (Nat.le_of_ble_eq_true rfl) ⟨Nat.le_of_ble_eq_true rfl, Nat.le_of_ble_eq_true rfl⟩ dL_law_867 (fun H locs hP hS => ?_)
  exact lv_icmp_eq (tgt := 1351) hx hb dL_law_870 (by decide) (fun _ => kk S2 H locs h3 hP hS) (fun e1 => absurd rfl e1)
theorem law_22 (C0 : lw_At p s m meth c b L xs) (X : xC p s m #[Value.ref b] c G RL code 4) (hbA : ¬ xA G b) (hL : L ≤ 3072) {i : Nat} (hi : i + 6 ≤ L) (hI : Inv S) (hP : xP G S H) (hS : va_S (xA G) s.heap H locs) (hl : lv_has ls 4 (lawl b G i)) (kk : ∀ (S2 : xS) (H : Heap) (locs : List Loc), Inv S2 → xP G S2 H → va_S (xA G) s.heap H locs → W p l e room_1 s m #[Value.ref b] below meth c H locs 600000 7302250 Q (F0 m 1351 ls [])) : W p l e room_1 s m #[Value.ref b] below meth c H locs 600000 7302250 Q (F0 m 875 ls []) := by
  obtain ⟨hx, hb, hml, hown, hts, hE⟩ := id X
  obtain ⟨r, S1, S2, h1, h2, h3⟩ := op_mended (n := 200) hI (by decide) (xs (i + 1)) (xs (i + 2))
  refine lv_aload_n hx hb dL_law_875 rfl (lv_at hl 1 rfl) ?_
  refine law_ld (k := 1) C0 hbA hS hl hL hi (by decide) dL_law_876 dL_law_877 dL_law_878 (by decide) dL_law_879 dL_law_880 ?_
  refine law_ld (k := 2) C0 hbA hS hl hL hi (by decide) dL_law_881 dL_law_882 dL_law_883 (by decide) dL_law_884 dL_law_885 ?_
  refine x_cVi (As := [.int (xs (i + 1)), .int (xs (i + 2))]) (rest := []) X hP hS kc_L_108 (c_X8_mended l G 200 S (xs (i + 1)) (xs (i + 2)) r S1 h1) ⟨Nat.le_of_ble_eq_true rfl, Nat.le_of_ble_eq_true rfl⟩ (by decide) rfl rfl rfl hl.1 rfl (Nat.le_of_ble_eq_true rfl) ⟨Nat.le_of_ble_eq_true rfl, Nat.le_of_ble_eq_true rfl⟩ dL_law_886 (fun H locs hP hS => ?_)
  refine lv_aload_n hx hb dL_law_889 rfl (lv_at hl 2 rfl) ?_
  refine law_ld (k := 1) C0 hbA hS hl hL hi (by decide) dL_law_890 dL_law_891 dL_law_892 (by decide) dL_law_893 dL_law_894 ?_
  refine law_ld (k := 2) C0 hbA hS hl hL hi (by decide) dL_law_895 dL_law_896 dL_law_897 (by decide) dL_law_898 dL_law_899 ?_
  refine x_cVi (As := [.int (xs (i + 1)), .int (xs (i + 2))]) (rest := [.int r]) X hP hS kc_L_111 (c_X9_mended l G 200 S1 (xs (i + 1)) (xs (i + 2)) r S2 h2) ⟨Nat.le_of_ble_eq_true rfl, Nat.le_of_ble_eq_true rfl⟩ (by decide) rfl rfl rfl hl.1 rfl (Nat.le_of_ble_eq_true rfl) ⟨Nat.le_of_ble_eq_true rfl, Nat.le_of_ble_eq_true rfl⟩ dL_law_900 (fun H locs hP hS => ?_)
  exact lv_icmp_eq (tgt := 1351) hx hb dL_law_903 (by decide) (fun _ => kk S2 H locs h3 hP hS) (fun e1 => absurd rfl e1)
theorem law_23 (C0 : lw_At p s m meth c b L xs) (X : xC p s m #[Value.ref b] c G RL code 4) (hbA : ¬ xA G b) (hL : L ≤ 3072) {i : Nat} (hi : i + 6 ≤ L) (hI : Inv S) (hP : xP G S H) (hS : va_S (xA G) s.heap H locs) (hl : lv_has ls 4 (lawl b G i)) (kk : ∀ (S2 : xS) (H : Heap) (locs : List Loc), Inv S2 → xP G S2 H → va_S (xA G) s.heap H locs → W p l e room_1 s m #[Value.ref b] below meth c H locs 600000 7302250 Q (F0 m 1351 ls [])) : W p l e room_1 s m #[Value.ref b] below meth c H locs 600000 7302250 Q (F0 m 908 ls []) := by
  obtain ⟨hx, hb, hml, hown, hts, hE⟩ := id X
  obtain ⟨r, S2, h1, h2, h3⟩ := op_next (n := 200) hI (by decide) (xs (i + 1)) (xs (i + 2))
  refine lv_aload_n hx hb dL_law_908 rfl (lv_at hl 1 rfl) ?_
  refine law_ld (k := 1) C0 hbA hS hl hL hi (by decide) dL_law_909 dL_law_910 dL_law_911 (by decide) dL_law_912 dL_law_913 ?_
  refine law_ld (k := 2) C0 hbA hS hl hL hi (by decide) dL_law_914 dL_law_915 dL_law_916 (by decide) dL_law_917 dL_law_918 ?_
  refine x_cVi (As := [.int (xs (i + 1)), .int (xs (i + 2))]) (rest := []) X hP hS kc_L_112 (c_X8_next l G 200 S (xs (i + 1)) (xs (i + 2)) r h1) ⟨Nat.le_of_ble_eq_true rfl, Nat.le_of_ble_eq_true rfl⟩ (by decide) rfl rfl rfl hl.1 rfl (Nat.le_of_ble_eq_true rfl) ⟨Nat.le_of_ble_eq_true rfl, Nat.le_of_ble_eq_true rfl⟩ dL_law_919 (fun H locs hP hS => ?_)
  refine lv_aload_n hx hb dL_law_922 rfl (lv_at hl 2 rfl) ?_
  refine law_ld (k := 1) C0 hbA hS hl hL hi (by decide) dL_law_923 dL_law_924 dL_law_925 (by decide) dL_law_926 dL_law_927 ?_
  refine law_ld (k := 2) C0 hbA hS hl hL hi (by decide) dL_law_928 dL_law_929 dL_law_930 (by decide) dL_law_931 dL_law_932 ?_
  refine x_cVi (As := [.int (xs (i + 1)), .int (xs (i + 2))]) (rest := [.int r]) X hP hS kc_L_115 (c_X9_next l G 200 S (xs (i + 1)) (xs (i + 2)) r S2 h2) ⟨Nat.le_of_ble_eq_true rfl, Nat.le_of_ble_eq_true rfl⟩ (by decide) rfl rfl rfl hl.1 rfl (Nat.le_of_ble_eq_true rfl) ⟨Nat.le_of_ble_eq_true rfl, Nat.le_of_ble_eq_true rfl⟩ dL_law_933 (fun H locs hP hS => ?_)
  exact lv_icmp_eq (tgt := 1351) hx hb dL_law_936 (by decide) (fun _ => kk S2 H locs h3 hP hS) (fun e1 => absurd rfl e1)
theorem law_24 (C0 : lw_At p s m meth c b L xs) (X : xC p s m #[Value.ref b] c G RL code 4) (hbA : ¬ xA G b) (hL : L ≤ 3072) {i : Nat} (hi : i + 6 ≤ L) (hI : Inv S) (hP : xP G S H) (hS : va_S (xA G) s.heap H locs) (hl : lv_has ls 4 (lawl b G i)) (kk : ∀ (S2 : xS) (H : Heap) (locs : List Loc), Inv S2 → xP G S2 H → va_S (xA G) s.heap H locs → W p l e room_1 s m #[Value.ref b] below meth c H locs 600000 7302250 Q (F0 m 1351 ls [])) : W p l e room_1 s m #[Value.ref b] below meth c H locs 600000 7302250 Q (F0 m 941 ls []) := by
  obtain ⟨hx, hb, hml, hown, hts, hE⟩ := id X
  obtain ⟨r, S1, S2, h1, h2, h3⟩ := op_weigh (n := 200) hI (xs (i + 1)) (xs (i + 2))
  refine lv_aload_n hx hb dL_law_941 rfl (lv_at hl 1 rfl) ?_
  refine law_ld (k := 1) C0 hbA hS hl hL hi (by decide) dL_law_942 dL_law_943 dL_law_944 (by decide) dL_law_945 dL_law_946 ?_
  refine law_ld (k := 2) C0 hbA hS hl hL hi (by decide) dL_law_947 dL_law_948 dL_law_949 (by decide) dL_law_950 dL_law_951 ?_
  refine x_cVi (As := [.int (xs (i + 1)), .int (xs (i + 2))]) (rest := []) X hP hS kc_L_116 (c_X8_weigh l G 200 S (xs (i + 1)) (xs (i + 2)) r S1 h1) ⟨Nat.le_of_ble_eq_true rfl, Nat.le_of_ble_eq_true rfl⟩ (by decide) rfl rfl rfl hl.1 rfl (Nat.le_of_ble_eq_true rfl) ⟨Nat.le_of_ble_eq_true rfl, Nat.le_of_ble_eq_true rfl⟩ dL_law_952 (fun H locs hP hS => ?_)
  refine lv_aload_n hx hb dL_law_955 rfl (lv_at hl 2 rfl) ?_
  refine law_ld (k := 1) C0 hbA hS hl hL hi (by decide) dL_law_956 dL_law_957 dL_law_958 (by decide) dL_law_959 dL_law_960 ?_
  refine law_ld (k := 2) C0 hbA hS hl hL hi (by decide) dL_law_961 dL_law_962 dL_law_963 (by decide) dL_law_964 dL_law_965 ?_
  refine x_cVi (As := [.int (xs (i + 1)), .int (xs (i + 2))]) (rest := [.int r]) X hP hS kc_L_119 (c_X9_weigh l G 200 S1 (xs (i + 1)) (xs (i + 2)) r S2 h2) ⟨Nat.le_of_ble_eq_true rfl, Nat.le_of_ble_eq_true rfl⟩ (by decide) rfl rfl rfl hl.1 rfl (Nat.le_of_ble_eq_true rfl) ⟨Nat.le_of_ble_eq_true rfl, Nat.le_of_ble_eq_true rfl⟩ dL_law_966 (fun H locs hP hS => ?_)
  exact lv_icmp_eq (tgt := 1351) hx hb dL_law_969 (by decide) (fun _ => kk S2 H locs h3 hP hS) (fun e1 => absurd rfl e1)
theorem law_25 (C0 : lw_At p s m meth c b L xs) (X : xC p s m #[Value.ref b] c G RL code 4) (hbA : ¬ xA G b) (hL : L ≤ 3072) {i : Nat} (hi : i + 6 ≤ L) (hI : Inv S) (hP : xP G S H) (hS : va_S (xA G) s.heap H locs) (hl : lv_has ls 4 (lawl b G i)) (kk : ∀ (S2 : xS) (H : Heap) (locs : List Loc), Inv S2 → xP G S2 H → va_S (xA G) s.heap H locs → W p l e room_1 s m #[Value.ref b] below meth c H locs 600000 7302250 Q (F0 m 1351 ls [])) : W p l e room_1 s m #[Value.ref b] below meth c H locs 600000 7302250 Q (F0 m 974 ls []) := by
  obtain ⟨hx, hb, hml, hown, hts, hE⟩ := id X
  obtain ⟨r, S2, h1, h2, h3⟩ := op_bears (n := 200) hI (by decide) (xs (i + 1)) (xs (i + 2))
  refine lv_aload_n hx hb dL_law_974 rfl (lv_at hl 1 rfl) ?_
  refine law_ld (k := 1) C0 hbA hS hl hL hi (by decide) dL_law_975 dL_law_976 dL_law_977 (by decide) dL_law_978 dL_law_979 ?_
  refine law_ld (k := 2) C0 hbA hS hl hL hi (by decide) dL_law_980 dL_law_981 dL_law_982 (by decide) dL_law_983 dL_law_984 ?_
  refine x_cVi (As := [.int (xs (i + 1)), .int (xs (i + 2))]) (rest := []) X hP hS kc_L_120 (c_X8_bears l G 200 S (xs (i + 1)) (xs (i + 2)) r h1) ⟨Nat.le_of_ble_eq_true rfl, Nat.le_of_ble_eq_true rfl⟩ (by decide) rfl rfl rfl hl.1 rfl (Nat.le_of_ble_eq_true rfl) ⟨Nat.le_of_ble_eq_true rfl, Nat.le_of_ble_eq_true rfl⟩ dL_law_985 (fun H locs hP hS => ?_)
  refine lv_aload_n hx hb dL_law_988 rfl (lv_at hl 2 rfl) ?_
  refine law_ld (k := 1) C0 hbA hS hl hL hi (by decide) dL_law_989 dL_law_990 dL_law_991 (by decide) dL_law_992 dL_law_993 ?_
  refine law_ld (k := 2) C0 hbA hS hl hL hi (by decide) dL_law_994 dL_law_995 dL_law_996 (by decide) dL_law_997 dL_law_998 ?_
  refine x_cVi (As := [.int (xs (i + 1)), .int (xs (i + 2))]) (rest := [.int r]) X hP hS kc_L_123 (c_X9_bears l G 200 S (xs (i + 1)) (xs (i + 2)) r S2 h2) ⟨Nat.le_of_ble_eq_true rfl, Nat.le_of_ble_eq_true rfl⟩ (by decide) rfl rfl rfl hl.1 rfl (Nat.le_of_ble_eq_true rfl) ⟨Nat.le_of_ble_eq_true rfl, Nat.le_of_ble_eq_true rfl⟩ dL_law_999 (fun H locs hP hS => ?_)
  exact lv_icmp_eq (tgt := 1351) hx hb dL_law_1002 (by decide) (fun _ => kk S2 H locs h3 hP hS) (fun e1 => absurd rfl e1)
theorem law_26 (C0 : lw_At p s m meth c b L xs) (X : xC p s m #[Value.ref b] c G RL code 4) (hbA : ¬ xA G b) (hL : L ≤ 3072) {i : Nat} (hi : i + 6 ≤ L) (hI : Inv S) (hP : xP G S H) (hS : va_S (xA G) s.heap H locs) (hl : lv_has ls 4 (lawl b G i)) (kk : ∀ (S2 : xS) (H : Heap) (locs : List Loc), Inv S2 → xP G S2 H → va_S (xA G) s.heap H locs → W p l e room_1 s m #[Value.ref b] below meth c H locs 600000 7302250 Q (F0 m 1351 ls [])) : W p l e room_1 s m #[Value.ref b] below meth c H locs 600000 7302250 Q (F0 m 1007 ls []) := by
  obtain ⟨hx, hb, hml, hown, hts, hE⟩ := id X
  obtain ⟨r, S2, h1, h2, h3⟩ := op_safe (n := 200) hI (by decide) (xs (i + 1))
  refine lv_aload_n hx hb dL_law_1007 rfl (lv_at hl 1 rfl) ?_
  refine law_ld (k := 1) C0 hbA hS hl hL hi (by decide) dL_law_1008 dL_law_1009 dL_law_1010 (by decide) dL_law_1011 dL_law_1012 ?_
  refine x_cVi (As := [.int (xs (i + 1))]) (rest := []) X hP hS kc_L_124 (c_X8_safe l G 200 S (xs (i + 1)) r h1) ⟨Nat.le_of_ble_eq_true rfl, Nat.le_of_ble_eq_true rfl⟩ (by decide) rfl rfl rfl hl.1 rfl (Nat.le_of_ble_eq_true rfl) ⟨Nat.le_of_ble_eq_true rfl, Nat.le_of_ble_eq_true rfl⟩ dL_law_1013 (fun H locs hP hS => ?_)
  refine lv_aload_n hx hb dL_law_1016 rfl (lv_at hl 2 rfl) ?_
  refine law_ld (k := 1) C0 hbA hS hl hL hi (by decide) dL_law_1017 dL_law_1018 dL_law_1019 (by decide) dL_law_1020 dL_law_1021 ?_
  refine x_cVi (As := [.int (xs (i + 1))]) (rest := [.int r]) X hP hS kc_L_127 (c_X9_safe l G 200 S (xs (i + 1)) r S2 h2) ⟨Nat.le_of_ble_eq_true rfl, Nat.le_of_ble_eq_true rfl⟩ (by decide) rfl rfl rfl hl.1 rfl (Nat.le_of_ble_eq_true rfl) ⟨Nat.le_of_ble_eq_true rfl, Nat.le_of_ble_eq_true rfl⟩ dL_law_1022 (fun H locs hP hS => ?_)
  exact lv_icmp_eq (tgt := 1351) hx hb dL_law_1025 (by decide) (fun _ => kk S2 H locs h3 hP hS) (fun e1 => absurd rfl e1)
theorem law_27 (C0 : lw_At p s m meth c b L xs) (X : xC p s m #[Value.ref b] c G RL code 4) (hbA : ¬ xA G b) (hL : L ≤ 3072) {i : Nat} (hi : i + 6 ≤ L) (hI : Inv S) (hP : xP G S H) (hS : va_S (xA G) s.heap H locs) (hl : lv_has ls 4 (lawl b G i)) (kk : ∀ (S2 : xS) (H : Heap) (locs : List Loc), Inv S2 → xP G S2 H → va_S (xA G) s.heap H locs → W p l e room_1 s m #[Value.ref b] below meth c H locs 600000 7302250 Q (F0 m 1351 ls [])) : W p l e room_1 s m #[Value.ref b] below meth c H locs 600000 7302250 Q (F0 m 1030 ls []) := by
  obtain ⟨hx, hb, hml, hown, hts, hE⟩ := id X
  obtain ⟨r, S2, h1, h2, h3⟩ := op_more (n := 200) hI (by decide) 
  refine lv_aload_n hx hb dL_law_1030 rfl (lv_at hl 1 rfl) ?_
  refine x_cVi (As := []) (rest := []) X hP hS kc_L_128 (c_X8_more l G 200 S  r h1) ⟨Nat.le_of_ble_eq_true rfl, Nat.le_of_ble_eq_true rfl⟩ (by decide) rfl rfl rfl hl.1 rfl (Nat.le_of_ble_eq_true rfl) ⟨Nat.le_of_ble_eq_true rfl, Nat.le_of_ble_eq_true rfl⟩ dL_law_1031 (fun H locs hP hS => ?_)
  refine lv_aload_n hx hb dL_law_1034 rfl (lv_at hl 2 rfl) ?_
  refine x_cVi (As := []) (rest := [.int r]) X hP hS kc_L_131 (c_X9_more l G 200 S  r S2 h2) ⟨Nat.le_of_ble_eq_true rfl, Nat.le_of_ble_eq_true rfl⟩ (by decide) rfl rfl rfl hl.1 rfl (Nat.le_of_ble_eq_true rfl) ⟨Nat.le_of_ble_eq_true rfl, Nat.le_of_ble_eq_true rfl⟩ dL_law_1035 (fun H locs hP hS => ?_)
  exact lv_icmp_eq (tgt := 1351) hx hb dL_law_1038 (by decide) (fun _ => kk S2 H locs h3 hP hS) (fun e1 => absurd rfl e1)
theorem law_28 (C0 : lw_At p s m meth c b L xs) (X : xC p s m #[Value.ref b] c G RL code 4) (hbA : ¬ xA G b) (hL : L ≤ 3072) {i : Nat} (hi : i + 6 ≤ L) (hI : Inv S) (hP : xP G S H) (hS : va_S (xA G) s.heap H locs) (hl : lv_has ls 4 (lawl b G i)) (kk : ∀ (S2 : xS) (H : Heap) (locs : List Loc), Inv S2 → xP G S2 H → va_S (xA G) s.heap H locs → W p l e room_1 s m #[Value.ref b] below meth c H locs 600000 7302250 Q (F0 m 1351 ls [])) : W p l e room_1 s m #[Value.ref b] below meth c H locs 600000 7302250 Q (F0 m 1043 ls []) := by
  obtain ⟨hx, hb, hml, hown, hts, hE⟩ := id X
  obtain ⟨r, S2, h1, h2, h3⟩ := op_stones (n := 200) hI (by decide) (xs (i + 1))
  refine lv_aload_n hx hb dL_law_1043 rfl (lv_at hl 1 rfl) ?_
  refine law_ld (k := 1) C0 hbA hS hl hL hi (by decide) dL_law_1044 dL_law_1045 dL_law_1046 (by decide) dL_law_1047 dL_law_1048 ?_
  refine x_cVi (As := [.int (xs (i + 1))]) (rest := []) X hP hS kc_L_132 (c_X8_stones l G 200 S (xs (i + 1)) r h1) ⟨Nat.le_of_ble_eq_true rfl, Nat.le_of_ble_eq_true rfl⟩ (by decide) rfl rfl rfl hl.1 rfl (Nat.le_of_ble_eq_true rfl) ⟨Nat.le_of_ble_eq_true rfl, Nat.le_of_ble_eq_true rfl⟩ dL_law_1049 (fun H locs hP hS => ?_)
  refine lv_aload_n hx hb dL_law_1052 rfl (lv_at hl 2 rfl) ?_
  refine law_ld (k := 1) C0 hbA hS hl hL hi (by decide) dL_law_1053 dL_law_1054 dL_law_1055 (by decide) dL_law_1056 dL_law_1057 ?_
  refine x_cVi (As := [.int (xs (i + 1))]) (rest := [.int r]) X hP hS kc_L_135 (c_X9_stones l G 200 S (xs (i + 1)) r S2 h2) ⟨Nat.le_of_ble_eq_true rfl, Nat.le_of_ble_eq_true rfl⟩ (by decide) rfl rfl rfl hl.1 rfl (Nat.le_of_ble_eq_true rfl) ⟨Nat.le_of_ble_eq_true rfl, Nat.le_of_ble_eq_true rfl⟩ dL_law_1058 (fun H locs hP hS => ?_)
  exact lv_icmp_eq (tgt := 1351) hx hb dL_law_1061 (by decide) (fun _ => kk S2 H locs h3 hP hS) (fun e1 => absurd rfl e1)
end LAW
