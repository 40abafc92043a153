/-! ===== the JDK methods of String constants (printed by wip/gen/strs.py) ===== -/
theorem bLen_lt : ∀ i, i < 7 → bLen.getD i 0 < 2 ^ 31 := by decide
theorem vp_lt {j : Int32} {n : Nat} (hn : n < 2 ^ 31) (h : vp_in j n) : j < nI n := by
  rw [vp_in_iff] at h
  rw [Int32.lt_iff_toInt_lt, nI_toInt hn]
  omega
theorem wJ0_9 : Cond.fieldLink RJ0 9 "java/lang/String" "value" "[B" ∈ bW := bW_at 1399 (by decide +kernel) rfl
theorem wJ0_15 : Cond.fieldLink RJ0 15 "java/lang/String" "coder" "B" ∈ bW := bW_at 1400 (by decide +kernel) rfl
theorem wJ0_38 : Cond.fieldLink RJ0 38 "java/lang/String" "COMPACT_STRINGS" "Z" ∈ bW := bW_at 306 (by decide +kernel) rfl
theorem wJ0_1053 : Cond.fieldLink RJ0 1053 "jdk/internal/util/Preconditions" "SIOOBE_FORMATTER" "Ljava/util/function/BiFunction;" ∈ bW := bW_at 322 (by decide +kernel) rfl
set_option maxRecDepth 4000 in
theorem kJ0_coder_7d493 {O : bO} {d : Nat} {f : bF} {n s : Nat} {i : Nat}  (e0 : i < 7) (hd : 0 ≤ d) : bMt O mJ0_coder_7d493 d [.ref (i + 1)] (f, n, s) (.inl (some (.int 0))) (f, n, s) := by
  refine bMt_of (bCall_of (by decide) rfl (Nat.le_of_ble_eq_true rfl) ?_)
  show bV O _ d 0 [(0, .ref (i + 1))] [] (f, n, s) _
  refine r_getCS wJ0_38 dJ0_coder_7d493_0 ?_
  refine r_if_eq (tgt := 13) (by decide) dJ0_coder_7d493_3 (fun h9 => absurd h9 (show ¬ ((1 : Int32) = 0) by decide)) (fun _ => ?_)
  refine r_aload_n (n := 0) (i := 0) 0 rfl rfl dJ0_coder_7d493_6 ?_
  refine r_getSc (i := i) e0 wJ0_15 dJ0_coder_7d493_7 ?_
  refine r_goto (tgt := 14) (by decide) dJ0_coder_7d493_10 ?_
  refine r_zreturn rfl (by decide +kernel) dJ0_coder_7d493_14 ?_
  refine ⟨?_, ?_⟩ <;> first | rfl | (simp []; done)
set_option maxRecDepth 4000 in
theorem kJ0_isLatin1_aae02 {O : bO} {d : Nat} {f : bF} {n s : Nat} {i : Nat}  (e0 : i < 7) (hd : 0 ≤ d) : bMt O mJ0_isLatin1_aae02 d [.ref (i + 1)] (f, n, s) (.inl (some (.int 1))) (f, n, s) := by
  refine bMt_of (bCall_of (by decide) rfl (Nat.le_of_ble_eq_true rfl) ?_)
  show bV O _ d 0 [(0, .ref (i + 1))] [] (f, n, s) _
  refine r_getCS wJ0_38 dJ0_isLatin1_aae02_0 ?_
  refine r_if_eq (tgt := 17) (by decide) dJ0_isLatin1_aae02_3 (fun h9 => absurd h9 (show ¬ ((1 : Int32) = 0) by decide)) (fun _ => ?_)
  refine r_aload_n (n := 0) (i := 0) 0 rfl rfl dJ0_isLatin1_aae02_6 ?_
  refine r_getSc (i := i) e0 wJ0_15 dJ0_isLatin1_aae02_7 ?_
  refine r_if_ne (tgt := 17) (by decide) dJ0_isLatin1_aae02_10 (fun h9 => absurd h9 (show ¬ (¬ (0 : Int32) = 0) by decide)) (fun _ => ?_)
  refine r_iconst (v := 1) (by decide) dJ0_isLatin1_aae02_13 ?_
  refine r_goto (tgt := 18) (by decide) dJ0_isLatin1_aae02_14 ?_
  refine r_zreturn rfl (by first | decide +kernel | exact narZ _ | assumption) dJ0_isLatin1_aae02_18 ?_
  refine ⟨?_, ?_⟩ <;> first | rfl | (simp []; done)
set_option maxRecDepth 4000 in
theorem kJ0_length_8abf5 {O : bO} {d : Nat} {f : bF} {n s : Nat} {i : Nat}  (e0 : i < 7) (hd : 1 ≤ d) : bMt O mJ0_length_8abf5 d [.ref (i + 1)] (f, n, s) (.inl (some (.int (nI (bLen.getD i 0))))) (f, n, s) := by
  refine bMt_of (bCall_of (by decide) rfl (Nat.le_of_ble_eq_true rfl) ?_)
  show bV O _ d 0 [(0, .ref (i + 1))] [] (f, n, s) _
  refine r_aload_n (n := 0) (i := 0) 0 rfl rfl dJ0_length_8abf5_0 ?_
  refine r_getSv (i := i) e0 wJ0_9 dJ0_length_8abf5_1 ?_
  refine r_elen (i := i) e0 dJ0_length_8abf5_4 ?_
  refine r_aload_n (n := 0) (i := 0) 0 rfl rfl dJ0_length_8abf5_5 ?_
  refine p_callVS (i := i) (As := []) (rest := [.int (nI (bLen.getD i 0))]) (kJ0_coder_7d493 (O := O) (d := 0) (f := f) (n := n) (s := s) (i := i)  (by first | assumption | omega | decide) (Nat.le_refl _)).call rfl lkJ0_335 imJ0_coder_7d493 seJ0_coder_7d493 rfl e0 rfl (by omega) (Nat.le_of_ble_eq_true rfl) dJ0_length_8abf5_6 (fun v9 G9 h9 => ?_) (fun q9 G9 h9 => (by cases h9.1))
  obtain ⟨h8, rfl⟩ := h9; cases h8
  show bV O _ d 9 [(0, .ref (i + 1))] [.int 0, .int (nI (bLen.getD i 0))] (f, n, s) _
  refine r_ishr dJ0_length_8abf5_9 ?_
  refine r_ireturn rfl dJ0_length_8abf5_10 ?_
  exact ⟨by rw [sb_shr0], rfl⟩
set_option maxRecDepth 4000 in
theorem kJ3_checkIndex_8e157N {O : bO} {d : Nat} {f : bF} {n s : Nat} {j : Int32} {m : Int32}  (e0 : ¬ j < 0) (e1 : j < m) (hd : 0 ≤ d) : bMt O mJ3_checkIndex_8e157 d [.int j, .int m, .null] (f, n, s) (.inl (some (.int j))) (f, n, s) := by
  refine bMt_of (bCall_of (by decide) rfl (Nat.le_of_ble_eq_true rfl) ?_)
  show bV O _ d 0 [(0, .int j), (1, .int m), (2, .null)] [] (f, n, s) _
  refine r_iload_n (n := 0) (i := 0) 0 rfl rfl dJ3_checkIndex_8e157_0 ?_
  refine r_if_lt (tgt := 9) (by decide) dJ3_checkIndex_8e157_1 (fun h9 => absurd h9 e0) (fun _ => ?_)
  refine r_iload_n (n := 0) (i := 0) 0 rfl rfl dJ3_checkIndex_8e157_4 ?_
  refine r_iload_n (n := 1) (i := 1) 1 rfl rfl dJ3_checkIndex_8e157_5 ?_
  refine r_icmp_lt (tgt := 16) (by decide) dJ3_checkIndex_8e157_6 (fun _ => ?_) (fun h9 => absurd e1 h9)
  refine r_iload_n (n := 0) (i := 0) 0 rfl rfl dJ3_checkIndex_8e157_16 ?_
  refine r_ireturn rfl dJ3_checkIndex_8e157_17 ?_
  refine ⟨?_, ?_⟩ <;> first | rfl | (simp []; done)
set_option maxRecDepth 4000 in
theorem kJ3_checkIndex_8e157R {O : bO} {d : Nat} {f : bF} {n s : Nat} {j : Int32} {m : Int32}  (e0 : ¬ j < 0) (e1 : j < m) (hd : 0 ≤ d) : bMt O mJ3_checkIndex_8e157 d [.int j, .int m, .ref 17] (f, n, s) (.inl (some (.int j))) (f, n, s) := by
  refine bMt_of (bCall_of (by decide) rfl (Nat.le_of_ble_eq_true rfl) ?_)
  show bV O _ d 0 [(0, .int j), (1, .int m), (2, .ref 17)] [] (f, n, s) _
  refine r_iload_n (n := 0) (i := 0) 0 rfl rfl dJ3_checkIndex_8e157_0 ?_
  refine r_if_lt (tgt := 9) (by decide) dJ3_checkIndex_8e157_1 (fun h9 => absurd h9 e0) (fun _ => ?_)
  refine r_iload_n (n := 0) (i := 0) 0 rfl rfl dJ3_checkIndex_8e157_4 ?_
  refine r_iload_n (n := 1) (i := 1) 1 rfl rfl dJ3_checkIndex_8e157_5 ?_
  refine r_icmp_lt (tgt := 16) (by decide) dJ3_checkIndex_8e157_6 (fun _ => ?_) (fun h9 => absurd e1 h9)
  refine r_iload_n (n := 0) (i := 0) 0 rfl rfl dJ3_checkIndex_8e157_16 ?_
  refine r_ireturn rfl dJ3_checkIndex_8e157_17 ?_
  refine ⟨?_, ?_⟩ <;> first | rfl | (simp []; done)
set_option maxRecDepth 4000 in
theorem kJ0_checkIndex_df160 {O : bO} {d : Nat} {f : bF} {n s : Nat} {j : Int32} {m : Int32}  (e0 : ¬ j < 0) (e1 : j < m) (hd : 1 ≤ d) : bMt O mJ0_checkIndex_df160 d [.int j, .int m] (f, n, s) (.inl none) (f, n, s) := by
  refine bMt_of (bCall_of (by decide) rfl (Nat.le_of_ble_eq_true rfl) ?_)
  show bV O _ d 0 [(0, .int j), (1, .int m)] [] (f, n, s) _
  refine r_iload_n (n := 0) (i := 0) 0 rfl rfl dJ0_checkIndex_df160_0 ?_
  refine r_iload_n (n := 1) (i := 1) 1 rfl rfl dJ0_checkIndex_df160_1 ?_
  refine r_getU (r := 17) (by decide) (fun s h => h.2.2.2.2.2.2.1.2.2.2.2.2) wJ0_1053 dJ0_checkIndex_df160_2 ?_ ?_ (fun _ _ _ _ _ _ h1 h2 => ⟨h1.1.trans h2.1.symm, h1.2.trans h2.2.symm⟩)
  · refine p_callS (As := [.int j, .int m, .null]) (rest := []) (kJ3_checkIndex_8e157N (O := O) (d := 0) (f := f) (n := n) (s := s) (j := j) (m := m) e0 e1 (Nat.le_refl _)).call rfl lkJ0_1059 smJ3_checkIndex_8e157 rfl rfl (by omega) (Nat.le_of_ble_eq_true rfl) dJ0_checkIndex_df160_5 (fun v9 G9 h9 => ?_) (fun q9 G9 h9 => (by cases h9.1))
    obtain ⟨h8, rfl⟩ := h9; cases h8
    show bV O _ d 8 [(0, .int j), (1, .int m)] [.int j] (f, n, s) _
    refine r_pop rfl dJ0_checkIndex_df160_8 ?_
    refine r_return rfl dJ0_checkIndex_df160_9 ?_
    refine ⟨?_, ?_⟩ <;> first | rfl | (simp []; done)
  · refine p_callS (As := [.int j, .int m, .ref 17]) (rest := []) (kJ3_checkIndex_8e157R (O := O) (d := 0) (f := f) (n := n) (s := s) (j := j) (m := m) e0 e1 (Nat.le_refl _)).call rfl lkJ0_1059 smJ3_checkIndex_8e157 rfl rfl (by omega) (Nat.le_of_ble_eq_true rfl) dJ0_checkIndex_df160_5 (fun v9 G9 h9 => ?_) (fun q9 G9 h9 => (by cases h9.1))
    obtain ⟨h8, rfl⟩ := h9; cases h8
    show bV O _ d 8 [(0, .int j), (1, .int m)] [.int j] (f, n, s) _
    refine r_pop rfl dJ0_checkIndex_df160_8 ?_
    refine r_return rfl dJ0_checkIndex_df160_9 ?_
    refine ⟨?_, ?_⟩ <;> first | rfl | (simp []; done)
set_option maxRecDepth 4000 in
theorem kJ1_charAt_3b067 {O : bO} {d : Nat} {f : bF} {n s : Nat} {i : Nat} {j : Int32}  (e0 : i < 7) (e1 : vp_in j (bLen.getD i 0)) (hd : 2 ≤ d) : bMt O mJ1_charAt_3b067 d [.ref (i + 8), .int j] (f, n, s) (.inl (some (.int (((((bByt.getD i []).getD j.toNatClampNeg 0 &&& 255)).toUInt32 % 65536).toInt32)))) (f, n, s) := by
  refine bMt_of (bCall_of (by decide) rfl (Nat.le_of_ble_eq_true rfl) ?_)
  show bV O _ d 0 [(0, .ref (i + 8)), (1, .int j)] [] (f, n, s) _
  refine r_iload_n (n := 1) (i := 1) 1 rfl rfl dJ1_charAt_3b067_0 ?_
  refine r_aload_n (n := 0) (i := 0) 0 rfl rfl dJ1_charAt_3b067_1 ?_
  refine r_elen (i := i) e0 dJ1_charAt_3b067_2 ?_
  refine p_callS (As := [.int j, .int (nI (bLen.getD i 0))]) (rest := []) (kJ0_checkIndex_df160 (O := O) (d := 1) (f := f) (n := n) (s := s) (j := j) (m := nI (bLen.getD i 0))  (fun h7 => e1 (Or.inl h7)) (vp_lt (bLen_lt i e0) e1) (Nat.le_refl _)).call rfl lkJ1_9 smJ0_checkIndex_df160 rfl rfl (by omega) (Nat.le_of_ble_eq_true rfl) dJ1_charAt_3b067_3 (fun v9 G9 h9 => ?_) (fun q9 G9 h9 => (by cases h9.1))
  obtain ⟨h8, rfl⟩ := h9; cases h8
  show bV O _ d 6 [(0, .ref (i + 8)), (1, .int j)] [] (f, n, s) _
  refine r_aload_n (n := 0) (i := 0) 0 rfl rfl dJ1_charAt_3b067_6 ?_
  refine r_iload_n (n := 1) (i := 1) 1 rfl rfl dJ1_charAt_3b067_7 ?_
  refine r_eld (i := i) e0 e1 dJ1_charAt_3b067_8 ?_
  refine r_sipush (v := 255) (by decide) dJ1_charAt_3b067_9 ?_
  refine r_iand dJ1_charAt_3b067_12 ?_
  refine r_i2c dJ1_charAt_3b067_13 ?_
  refine r_zreturn rfl (pk_nc _) dJ1_charAt_3b067_14 ?_
  refine ⟨?_, ?_⟩ <;> first | rfl | (simp []; done)
set_option maxRecDepth 4000 in
theorem kJ0_charAt_5068e {O : bO} {d : Nat} {f : bF} {n s : Nat} {i : Nat} {j : Int32}  (e0 : i < 7) (e1 : vp_in j (bLen.getD i 0)) (hd : 3 ≤ d) : bMt O mJ0_charAt_5068e d [.ref (i + 1), .int j] (f, n, s) (.inl (some (.int (((((bByt.getD i []).getD j.toNatClampNeg 0 &&& 255)).toUInt32 % 65536).toInt32)))) (f, n, s) := by
  refine bMt_of (bCall_of (by decide) rfl (Nat.le_of_ble_eq_true rfl) ?_)
  show bV O _ d 0 [(0, .ref (i + 1)), (1, .int j)] [] (f, n, s) _
  refine r_aload_n (n := 0) (i := 0) 0 rfl rfl dJ0_charAt_5068e_0 ?_
  refine p_callVS (i := i) (As := []) (rest := []) (kJ0_isLatin1_aae02 (O := O) (d := 0) (f := f) (n := n) (s := s) (i := i)  (by first | assumption | omega | decide) (Nat.le_refl _)).call rfl lkJ0_492 imJ0_isLatin1_aae02 seJ0_isLatin1_aae02 rfl e0 rfl (by omega) (Nat.le_of_ble_eq_true rfl) dJ0_charAt_5068e_1 (fun v9 G9 h9 => ?_) (fun q9 G9 h9 => (by cases h9.1))
  obtain ⟨h8, rfl⟩ := h9; cases h8
  show bV O _ d 4 [(0, .ref (i + 1)), (1, .int j)] [.int 1] (f, n, s) _
  refine r_if_eq (tgt := 16) (by decide) dJ0_charAt_5068e_4 (fun h9 => absurd h9 (show ¬ ((1 : Int32) = 0) by decide)) (fun _ => ?_)
  refine r_aload_n (n := 0) (i := 0) 0 rfl rfl dJ0_charAt_5068e_7 ?_
  refine r_getSv (i := i) e0 wJ0_9 dJ0_charAt_5068e_8 ?_
  refine r_iload_n (n := 1) (i := 1) 1 rfl rfl dJ0_charAt_5068e_11 ?_
  refine p_callS (As := [.ref (i + 8), .int j]) (rest := []) (kJ1_charAt_3b067 (O := O) (d := 2) (f := f) (n := n) (s := s) (i := i) (j := j)  (by first | assumption | omega | decide) (by first | assumption | omega | decide) (Nat.le_refl _)).call rfl lkJ0_495 smJ1_charAt_3b067 rfl rfl (by omega) (Nat.le_of_ble_eq_true rfl) dJ0_charAt_5068e_12 (fun v9 G9 h9 => ?_) (fun q9 G9 h9 => (by cases h9.1))
  obtain ⟨h8, rfl⟩ := h9; cases h8
  show bV O _ d 15 [(0, .ref (i + 1)), (1, .int j)] [.int (((((bByt.getD i []).getD j.toNatClampNeg 0 &&& 255)).toUInt32 % 65536).toInt32)] (f, n, s) _
  refine r_zreturn rfl (pk_nc _) dJ0_charAt_5068e_15 ?_
  refine ⟨?_, ?_⟩ <;> first | rfl | (simp []; done)
