/-! ===== Math, ModelShelf.bound, ModelShelf$Teller (printed by wip/gen/teller.py) ===== -/
def jBnd (v : Int64) : Int32 := if v ≤ 1000000000 then (if -1000000000 ≤ v then v.toInt32 else -1000000000) else 1000000000
def jBin (k b : Int32) : Bool := !decide (k < 0) && !decide (6 ≤ k) && !decide (b < 0) && !decide (4 ≤ b)
def jNd (k : Int32) : Nat := if k = 258 then 0 else if k = 259 then 0 else if k = 266 then 1 else if k = 261 then 3 else 2
def jJoin (k a b : Int32) : Int32 := if k = 43 then jBnd (a.toInt64 + b.toInt64) else if k = 45 then jBnd (a.toInt64 - b.toInt64) else if k = 42 then jBnd (a.toInt64 * b.toInt64) else if k = 60 then (if b ≤ a then 0 else 1) else if k = 62 then (if a ≤ b then 0 else 1) else if k = 61 then (if a = b then 1 else 0) else if k = 264 then (if b < a then b else a) else (if a < b then b else a)
set_option maxRecDepth 4000 in
theorem kX7_bound {O : bO} {d : Nat} {f : bF} {n s : Nat} {v : Int64}   (hd : 0 ≤ d) : bMt O mX7_bound d [.long v] (f, n, s) (.inl (some (.int (jBnd v)))) (f, n, s) := by
  refine bMt_of (bCall_of (by decide) rfl (Nat.le_of_ble_eq_true rfl) ?_)
  show bV O _ d 0 [(0, .long v)] [] (f, n, s) _
  refine r_lload_n (n := 0) (i := 0) 0 rfl rfl dX7_bound_0 ?_
  refine r_ldc2 ckX7_284 dX7_bound_1 ?_
  refine r_lcmp dX7_bound_4 ?_
  refine r_if_le (tgt := 11) (by decide) dX7_bound_5 (fun c5 => ?_) (fun c5 => ?_)
  · have c5 := (lg_cmp_le _ _).mp c5
    refine r_lload_n (n := 0) (i := 0) 0 rfl rfl dX7_bound_11 ?_
    refine r_ldc2 ckX7_286 dX7_bound_12 ?_
    refine r_lcmp dX7_bound_15 ?_
    refine r_if_ge (tgt := 24) (by decide) dX7_bound_16 (fun c16 => ?_) (fun c16 => ?_)
    · have c16 := (lg_cmp_ge _ _).mp c16
      refine r_lload_n (n := 0) (i := 0) 0 rfl rfl dX7_bound_24 ?_
      refine r_l2i dX7_bound_25 ?_
      refine r_ireturn rfl dX7_bound_26 ?_
      refine ⟨?_, rfl⟩
      first | rfl | simp [jBnd, c5, c16]
    · have c16 : ¬ (-1000000000) ≤ v := fun h7 => c16 ((lg_cmp_ge _ _).mpr h7)
      refine r_ldc ckX7_226 dX7_bound_19 ?_
      refine r_goto (tgt := 26) (by decide) dX7_bound_21 ?_
      refine r_ireturn rfl dX7_bound_26 ?_
      refine ⟨?_, rfl⟩
      first | rfl | simp [jBnd, c5, c16]
  · have c5 : ¬ v ≤ 1000000000 := fun h7 => c5 ((lg_cmp_le _ _).mpr h7)
    refine r_ldc ckX7_227 dX7_bound_8 ?_
    refine r_ireturn rfl dX7_bound_10 ?_
    refine ⟨?_, rfl⟩
    first | rfl | simp [jBnd, c5]
set_option maxRecDepth 4000 in
theorem kX7_isBin {O : bO} {d : Nat} {f : bF} {n s : Nat} {k : Int32} {b : Int32}   (hd : 0 ≤ d) : bMt O mX7_isBin d [.int k, .int b] (f, n, s) (.inl (some (.int (bI (jBin k b))))) (f, n, s) := by
  refine bMt_of (bCall_of (by decide) rfl (Nat.le_of_ble_eq_true rfl) ?_)
  show bV O _ d 0 [(0, .int k), (1, .int b)] [] (f, n, s) _
  refine r_iload_n (n := 0) (i := 0) 0 rfl rfl dX7_isBin_0 ?_
  refine r_if_lt (tgt := 23) (by decide) dX7_isBin_1 (fun c1 => ?_) (fun c1 => ?_)
  · refine r_iconst (v := 0) (by decide) dX7_isBin_23 ?_
    refine r_zreturn rfl (by first | decide +kernel | exact narZ _ | assumption) dX7_isBin_24 ?_
    refine ⟨?_, rfl⟩
    first | rfl | simp [jBin, bI, c1]
  · refine r_iload_n (n := 0) (i := 0) 0 rfl rfl dX7_isBin_4 ?_
    refine r_bipush (v := 6) (by decide) dX7_isBin_5 ?_
    refine r_icmp_ge (tgt := 23) (by decide) dX7_isBin_7 (fun c7 => ?_) (fun c7 => ?_)
    · refine r_iconst (v := 0) (by decide) dX7_isBin_23 ?_
      refine r_zreturn rfl (by first | decide +kernel | exact narZ _ | assumption) dX7_isBin_24 ?_
      refine ⟨?_, rfl⟩
      first | rfl | simp [jBin, bI, c1, c7]
    · refine r_iload_n (n := 1) (i := 1) 1 rfl rfl dX7_isBin_10 ?_
      refine r_if_lt (tgt := 23) (by decide) dX7_isBin_11 (fun c11 => ?_) (fun c11 => ?_)
      · refine r_iconst (v := 0) (by decide) dX7_isBin_23 ?_
        refine r_zreturn rfl (by first | decide +kernel | exact narZ _ | assumption) dX7_isBin_24 ?_
        refine ⟨?_, rfl⟩
        first | rfl | simp [jBin, bI, c1, c7, c11]
      · refine r_iload_n (n := 1) (i := 1) 1 rfl rfl dX7_isBin_14 ?_
        refine r_iconst (v := 4) (by decide) dX7_isBin_15 ?_
        refine r_icmp_ge (tgt := 23) (by decide) dX7_isBin_16 (fun c16 => ?_) (fun c16 => ?_)
        · refine r_iconst (v := 0) (by decide) dX7_isBin_23 ?_
          refine r_zreturn rfl (by first | decide +kernel | exact narZ _ | assumption) dX7_isBin_24 ?_
          refine ⟨?_, rfl⟩
          first | rfl | simp [jBin, bI, c1, c7, c11, c16]
        · refine r_iconst (v := 1) (by decide) dX7_isBin_19 ?_
          refine r_goto (tgt := 24) (by decide) dX7_isBin_20 ?_
          refine r_zreturn rfl (by first | decide +kernel | exact narZ _ | assumption) dX7_isBin_24 ?_
          refine ⟨?_, rfl⟩
          first | rfl | simp [jBin, bI, c1, c7, c11, c16]
theorem tbo (x : Int32) (q258 : ¬ x = 258) (q259 : ¬ x = 259) (q260 : ¬ x = 260) (q261 : ¬ x = 261) (q262 : ¬ x = 262) (q263 : ¬ x = 263) (q264 : ¬ x = 264) (q265 : ¬ x = 265) (q266 : ¬ x = 266) : x.toInt < 258 ∨ 266 < x.toInt := by
  have h1 : x.toInt ≠ 258 := toInt_ne (k := 258) q258
  have h2 : x.toInt ≠ 259 := toInt_ne (k := 259) q259
  have h3 : x.toInt ≠ 260 := toInt_ne (k := 260) q260
  have h4 : x.toInt ≠ 261 := toInt_ne (k := 261) q261
  have h5 : x.toInt ≠ 262 := toInt_ne (k := 262) q262
  have h6 : x.toInt ≠ 263 := toInt_ne (k := 263) q263
  have h7 : x.toInt ≠ 264 := toInt_ne (k := 264) q264
  have h8 : x.toInt ≠ 265 := toInt_ne (k := 265) q265
  have h9 : x.toInt ≠ 266 := toInt_ne (k := 266) q266
  omega
theorem lkj (x : Int32) (q42 : ¬ x = 42) (q43 : ¬ x = 43) (q45 : ¬ x = 45) (q60 : ¬ x = 60) (q61 : ¬ x = 61) (q62 : ¬ x = 62) (q264 : ¬ x = 264) : Op.lookupswitch.offset [((42 : Int), (85 : Int)), (43, 67), (45, 76), (60, 94), (61, 116), (62, 105), (264, 127)] 133 x.toInt = 133 := by
  have h1 : x.toInt ≠ 42 := toInt_ne (k := 42) q42
  have h2 : x.toInt ≠ 43 := toInt_ne (k := 43) q43
  have h3 : x.toInt ≠ 45 := toInt_ne (k := 45) q45
  have h4 : x.toInt ≠ 60 := toInt_ne (k := 60) q60
  have h5 : x.toInt ≠ 61 := toInt_ne (k := 61) q61
  have h6 : x.toInt ≠ 62 := toInt_ne (k := 62) q62
  have h7 : x.toInt ≠ 264 := toInt_ne (k := 264) q264
  simp [Op.lookupswitch.offset, h1, h2, h3, h4, h5, h6, h7, Ne.symm h1, Ne.symm h2, Ne.symm h3, Ne.symm h4, Ne.symm h5, Ne.symm h6, Ne.symm h7]
set_option maxRecDepth 4000 in
theorem kX6_needs {O : bO} {d : Nat} {f : bF} {n s : Nat} {x : Int32}   (hd : 0 ≤ d) : bMt O mX6_needs d [.int x] (f, n, s) (.inl (some (.int (nI (jNd x))))) (f, n, s) := by
  refine bMt_of (bCall_of (by decide) rfl (Nat.le_of_ble_eq_true rfl) ?_)
  show bV O _ d 0 [(0, .int x)] [] (f, n, s) _
  refine r_iload_n (n := 0) (i := 0) 0 rfl rfl dX6_needs_0 ?_
  by_cases q258 : x = 258
  · subst q258
    refine r_tableIn (off := 51) (tgt := 52) dX6_needs_1 (by decide) (by decide) (by decide) (by decide) ?_
    refine r_iconst (v := 0) (by decide) dX6_needs_52 ?_
    refine r_ireturn rfl dX6_needs_53 ?_
    exact ⟨by decide, rfl⟩
  · by_cases q259 : x = 259
    · subst q259
      refine r_tableIn (off := 51) (tgt := 52) dX6_needs_1 (by decide) (by decide) (by decide) (by decide) ?_
      refine r_iconst (v := 0) (by decide) dX6_needs_52 ?_
      refine r_ireturn rfl dX6_needs_53 ?_
      exact ⟨by decide, rfl⟩
    · by_cases q266 : x = 266
      · subst q266
        refine r_tableIn (off := 53) (tgt := 54) dX6_needs_1 (by decide) (by decide) (by decide) (by decide) ?_
        refine r_iconst (v := 1) (by decide) dX6_needs_54 ?_
        refine r_ireturn rfl dX6_needs_55 ?_
        exact ⟨by decide, rfl⟩
      · by_cases q261 : x = 261
        · subst q261
          refine r_tableIn (off := 55) (tgt := 56) dX6_needs_1 (by decide) (by decide) (by decide) (by decide) ?_
          refine r_iconst (v := 3) (by decide) dX6_needs_56 ?_
          refine r_ireturn rfl dX6_needs_57 ?_
          exact ⟨by decide, rfl⟩
        · by_cases q260 : x = 260
          · subst q260
            refine r_tableIn (off := 57) (tgt := 58) dX6_needs_1 (by decide) (by decide) (by decide) (by decide) ?_
            refine r_iconst (v := 2) (by decide) dX6_needs_58 ?_
            refine r_ireturn rfl dX6_needs_59 ?_
            exact ⟨by decide, rfl⟩
          · by_cases q262 : x = 262
            · subst q262
              refine r_tableIn (off := 57) (tgt := 58) dX6_needs_1 (by decide) (by decide) (by decide) (by decide) ?_
              refine r_iconst (v := 2) (by decide) dX6_needs_58 ?_
              refine r_ireturn rfl dX6_needs_59 ?_
              exact ⟨by decide, rfl⟩
            · by_cases q263 : x = 263
              · subst q263
                refine r_tableIn (off := 57) (tgt := 58) dX6_needs_1 (by decide) (by decide) (by decide) (by decide) ?_
                refine r_iconst (v := 2) (by decide) dX6_needs_58 ?_
                refine r_ireturn rfl dX6_needs_59 ?_
                exact ⟨by decide, rfl⟩
              · by_cases q264 : x = 264
                · subst q264
                  refine r_tableIn (off := 57) (tgt := 58) dX6_needs_1 (by decide) (by decide) (by decide) (by decide) ?_
                  refine r_iconst (v := 2) (by decide) dX6_needs_58 ?_
                  refine r_ireturn rfl dX6_needs_59 ?_
                  exact ⟨by decide, rfl⟩
                · by_cases q265 : x = 265
                  · subst q265
                    refine r_tableIn (off := 57) (tgt := 58) dX6_needs_1 (by decide) (by decide) (by decide) (by decide) ?_
                    refine r_iconst (v := 2) (by decide) dX6_needs_58 ?_
                    refine r_ireturn rfl dX6_needs_59 ?_
                    exact ⟨by decide, rfl⟩
                  · refine r_tableOut (tgt := 58) dX6_needs_1 (tbo x q258 q259 q260 q261 q262 q263 q264 q265 q266) (by decide) ?_
                    refine r_iconst (v := 2) (by decide) dX6_needs_58 ?_
                    refine r_ireturn rfl dX6_needs_59 ?_
                    exact ⟨by rw [jNd, if_neg q258, if_neg q259, if_neg q266, if_neg q261]; rfl, rfl⟩
set_option maxRecDepth 4000 in
theorem kX6_valueOf {O : bO} {d : Nat} {f : bF} {n s : Nat} {ip : Nat → Int32} {t : Nat} {r : Nat} (h0 : f r = some (.inl (0, 6, .inl ip))) (e0 : t < 6) (hd : 0 ≤ d) : bMt O mX6_valueOf d [.ref r, .int (nI t)] (f, n, s) (.inl (some (.int (ip t)))) (f, n, s) := by
  refine bMt_of (bCall_of (by decide) rfl (Nat.le_of_ble_eq_true rfl) ?_)
  show bV O _ d 0 [(0, .ref r), (1, .int (nI t))] [] (f, n, s) _
  refine r_iload_n (n := 1) (i := 1) 1 rfl rfl dX6_valueOf_0 ?_
  refine r_if_lt (tgt := 16) (by decide) dX6_valueOf_1 (fun h9 => absurd h9 (nI_pos (by omega))) (fun _ => ?_)
  refine r_iload_n (n := 1) (i := 1) 1 rfl rfl dX6_valueOf_4 ?_
  refine r_aload_n (n := 0) (i := 0) 0 rfl rfl dX6_valueOf_5 ?_
  refine p_alen2 (kd := 0) (n := 6) (a := (6, .inl ip)) rfl h0 rfl dX6_valueOf_6 ?_
  refine r_icmp_ge (tgt := 16) (by decide) dX6_valueOf_7 (fun h9 => absurd h9 (fun h7 => absurd ((nI_leI (a := 6) (b := t) (by omega) (by omega)).mp h7) (by omega))) (fun _ => ?_)
  refine r_aload_n (n := 0) (i := 0) 0 rfl rfl dX6_valueOf_10 ?_
  refine r_iload_n (n := 1) (i := 1) 1 rfl rfl dX6_valueOf_11 ?_
  refine p_ialdN (t := t) h0 (by omega) (by omega) dX6_valueOf_12 ?_
  refine r_goto (tgt := 17) (by decide) dX6_valueOf_13 ?_
  refine r_ireturn rfl dX6_valueOf_17 ?_
  exact ⟨rfl, rfl⟩
set_option maxRecDepth 4000 in
theorem kX6_join {O : bO} {d : Nat} {f : bF} {n s : Nat} {k : Int32} {a : Int32} {b : Int32}   (hd : 1 ≤ d) : bMt O mX6_join d [.int k, .int a, .int b] (f, n, s) (.inl (some (.int (jJoin k a b)))) (f, n, s) := by
  refine bMt_of (bCall_of (by decide) rfl (Nat.le_of_ble_eq_true rfl) ?_)
  show bV O _ d 0 [(0, .int k), (1, .int a), (2, .int b)] [] (f, n, s) _
  refine r_iload_n (n := 0) (i := 0) 0 rfl rfl dX6_join_0 ?_
  by_cases q43 : k = 43
  · refine r_lookup (off := 67) (tgt := 68) dX6_join_1 (by decide) (by rw [q43]; decide) (by decide) ?_
    refine r_iload_n (n := 1) (i := 1) 1 rfl rfl dX6_join_68 ?_
    refine r_i2l dX6_join_69 ?_
    refine r_iload_n (n := 2) (i := 2) 2 rfl rfl dX6_join_70 ?_
    refine r_i2l dX6_join_71 ?_
    refine r_ladd dX6_join_72 ?_
    refine p_callSN (As := [.long (a.toInt64 + b.toInt64)]) (rest := []) (kX7_bound (O := O) (d := 0) (f := f) (n := n) (s := s) (v := a.toInt64 + b.toInt64)   (Nat.le_refl _)).call rfl lkNX6_36 smX7_bound rfl rfl (by omega) (Nat.le_of_ble_eq_true rfl) dX6_join_73 (fun v9 G9 h9 => ?_) (fun q9 G9 h9 => (by cases h9.1))
    obtain ⟨h8, rfl⟩ := h9; cases h8
    show bV O _ d 76 [(0, .int k), (1, .int a), (2, .int b)] [.int (jBnd (a.toInt64 + b.toInt64))] (f, n, s) _
    refine r_ireturn rfl dX6_join_76 ?_
    refine ⟨?_, rfl⟩
    rw [jJoin, if_pos q43]
  · by_cases q45 : k = 45
    · refine r_lookup (off := 76) (tgt := 77) dX6_join_1 (by decide) (by rw [q45]; decide) (by decide) ?_
      refine r_iload_n (n := 1) (i := 1) 1 rfl rfl dX6_join_77 ?_
      refine r_i2l dX6_join_78 ?_
      refine r_iload_n (n := 2) (i := 2) 2 rfl rfl dX6_join_79 ?_
      refine r_i2l dX6_join_80 ?_
      refine r_lsub dX6_join_81 ?_
      refine p_callSN (As := [.long (a.toInt64 - b.toInt64)]) (rest := []) (kX7_bound (O := O) (d := 0) (f := f) (n := n) (s := s) (v := a.toInt64 - b.toInt64)   (Nat.le_refl _)).call rfl lkNX6_36 smX7_bound rfl rfl (by omega) (Nat.le_of_ble_eq_true rfl) dX6_join_82 (fun v9 G9 h9 => ?_) (fun q9 G9 h9 => (by cases h9.1))
      obtain ⟨h8, rfl⟩ := h9; cases h8
      show bV O _ d 85 [(0, .int k), (1, .int a), (2, .int b)] [.int (jBnd (a.toInt64 - b.toInt64))] (f, n, s) _
      refine r_ireturn rfl dX6_join_85 ?_
      refine ⟨?_, rfl⟩
      rw [jJoin, if_neg q43, if_pos q45]
    · by_cases q42 : k = 42
      · refine r_lookup (off := 85) (tgt := 86) dX6_join_1 (by decide) (by rw [q42]; decide) (by decide) ?_
        refine r_iload_n (n := 1) (i := 1) 1 rfl rfl dX6_join_86 ?_
        refine r_i2l dX6_join_87 ?_
        refine r_iload_n (n := 2) (i := 2) 2 rfl rfl dX6_join_88 ?_
        refine r_i2l dX6_join_89 ?_
        refine r_lmul dX6_join_90 ?_
        refine p_callSN (As := [.long (a.toInt64 * b.toInt64)]) (rest := []) (kX7_bound (O := O) (d := 0) (f := f) (n := n) (s := s) (v := a.toInt64 * b.toInt64)   (Nat.le_refl _)).call rfl lkNX6_36 smX7_bound rfl rfl (by omega) (Nat.le_of_ble_eq_true rfl) dX6_join_91 (fun v9 G9 h9 => ?_) (fun q9 G9 h9 => (by cases h9.1))
        obtain ⟨h8, rfl⟩ := h9; cases h8
        show bV O _ d 94 [(0, .int k), (1, .int a), (2, .int b)] [.int (jBnd (a.toInt64 * b.toInt64))] (f, n, s) _
        refine r_ireturn rfl dX6_join_94 ?_
        refine ⟨?_, rfl⟩
        rw [jJoin, if_neg q43, if_neg q45, if_pos q42]
      · by_cases q60 : k = 60
        · refine r_lookup (off := 94) (tgt := 95) dX6_join_1 (by decide) (by rw [q60]; decide) (by decide) ?_
          refine r_iload_n (n := 1) (i := 1) 1 rfl rfl dX6_join_95 ?_
          refine r_iload_n (n := 2) (i := 2) 2 rfl rfl dX6_join_96 ?_
          refine r_icmp_ge (tgt := 104) (by decide) dX6_join_97 (fun c97 => ?_) (fun c97 => ?_)
          · refine r_iconst (v := 0) (by decide) dX6_join_104 ?_
            refine r_ireturn rfl dX6_join_105 ?_
            refine ⟨?_, rfl⟩
            rw [jJoin, if_neg q43, if_neg q45, if_neg q42, if_pos q60]
            simp [c97]
          · refine r_iconst (v := 1) (by decide) dX6_join_100 ?_
            refine r_goto (tgt := 105) (by decide) dX6_join_101 ?_
            refine r_ireturn rfl dX6_join_105 ?_
            refine ⟨?_, rfl⟩
            rw [jJoin, if_neg q43, if_neg q45, if_neg q42, if_pos q60]
            simp [c97]
        · by_cases q62 : k = 62
          · refine r_lookup (off := 105) (tgt := 106) dX6_join_1 (by decide) (by rw [q62]; decide) (by decide) ?_
            refine r_iload_n (n := 1) (i := 1) 1 rfl rfl dX6_join_106 ?_
            refine r_iload_n (n := 2) (i := 2) 2 rfl rfl dX6_join_107 ?_
            refine r_icmp_le (tgt := 115) (by decide) dX6_join_108 (fun c108 => ?_) (fun c108 => ?_)
            · refine r_iconst (v := 0) (by decide) dX6_join_115 ?_
              refine r_ireturn rfl dX6_join_116 ?_
              refine ⟨?_, rfl⟩
              rw [jJoin, if_neg q43, if_neg q45, if_neg q42, if_neg q60, if_pos q62]
              simp [c108]
            · refine r_iconst (v := 1) (by decide) dX6_join_111 ?_
              refine r_goto (tgt := 116) (by decide) dX6_join_112 ?_
              refine r_ireturn rfl dX6_join_116 ?_
              refine ⟨?_, rfl⟩
              rw [jJoin, if_neg q43, if_neg q45, if_neg q42, if_neg q60, if_pos q62]
              simp [c108]
          · by_cases q61 : k = 61
            · refine r_lookup (off := 116) (tgt := 117) dX6_join_1 (by decide) (by rw [q61]; decide) (by decide) ?_
              refine r_iload_n (n := 1) (i := 1) 1 rfl rfl dX6_join_117 ?_
              refine r_iload_n (n := 2) (i := 2) 2 rfl rfl dX6_join_118 ?_
              refine r_icmp_ne (tgt := 126) (by decide) dX6_join_119 (fun c119 => ?_) (fun c119 => ?_)
              · refine r_iconst (v := 0) (by decide) dX6_join_126 ?_
                refine r_ireturn rfl dX6_join_127 ?_
                refine ⟨?_, rfl⟩
                rw [jJoin, if_neg q43, if_neg q45, if_neg q42, if_neg q60, if_neg q62, if_pos q61]
                simp [c119]
              · refine r_iconst (v := 1) (by decide) dX6_join_122 ?_
                refine r_goto (tgt := 127) (by decide) dX6_join_123 ?_
                refine r_ireturn rfl dX6_join_127 ?_
                refine ⟨?_, rfl⟩
                rw [jJoin, if_neg q43, if_neg q45, if_neg q42, if_neg q60, if_neg q62, if_pos q61]
                simp [c119]
            · by_cases q264 : k = 264
              · refine r_lookup (off := 127) (tgt := 128) dX6_join_1 (by decide) (by rw [q264]; decide) (by decide) ?_
                refine r_iload_n (n := 1) (i := 1) 1 rfl rfl dX6_join_128 ?_
                refine r_iload_n (n := 2) (i := 2) 2 rfl rfl dX6_join_129 ?_
                refine r_mmin (by omega) lkX6_40 (Nat.le_of_ble_eq_true rfl) dX6_join_130 ?_
                refine r_ireturn rfl dX6_join_133 ?_
                refine ⟨?_, rfl⟩
                rw [jJoin, if_neg q43, if_neg q45, if_neg q42, if_neg q60, if_neg q62, if_neg q61, if_pos q264]
              · refine r_lookup (off := 133) (tgt := 134) dX6_join_1 (by decide) (lkj k q42 q43 q45 q60 q61 q62 q264) (by decide) ?_
                refine r_iload_n (n := 1) (i := 1) 1 rfl rfl dX6_join_134 ?_
                refine r_iload_n (n := 2) (i := 2) 2 rfl rfl dX6_join_135 ?_
                refine r_mmax (by omega) lkX6_46 (Nat.le_of_ble_eq_true rfl) dX6_join_136 ?_
                refine r_ireturn rfl dX6_join_139 ?_
                refine ⟨?_, rfl⟩
                rw [jJoin, if_neg q43, if_neg q45, if_neg q42, if_neg q60, if_neg q62, if_neg q61, if_neg q264]
