/-! ===== Math, ModelShelf.bound, ModelShelf$Teller (printed by wip/gen/teller.py) ===== -/
def jBnd (v : Int64) : Int32 := if v ≤ 1000000000 then (if -1000000000 ≤ v then v.toInt32 else -1000000000) else 1000000000
def jBin (k b : Int32) : Bool := !decide (k < 0) && !decide (6 ≤ k) && !decide (b < 0) && !decide (4 ≤ b)
def jNd (k : Int32) : Nat := if k = 258 then 0 else if k = 259 then 0 else if k = 266 then 1 else if k = 261 then 3 else 2
def jJoin (k a b : Int32) : Int32 := if k = 43 then jBnd (a.toInt64 + b.toInt64) else if k = 45 then jBnd (a.toInt64 - b.toInt64) else if k = 42 then jBnd (a.toInt64 * b.toInt64) else if k = 60 then (if b ≤ a then 0 else 1) else if k = 62 then (if a ≤ b then 0 else 1) else if k = 61 then (if a = b then 1 else 0) else if k = 264 then jmn a b else jmx a b
set_option maxRecDepth 4000 in
theorem kX7_bound {O : bO} {d : Nat} {f : bF} {n s : Nat} {v : Int64}   (hd : 0 ≤ d) : bMt O mX7_bound d [.long v] (f, n, s) (.inl (some (.int (jBnd v)))) (f, n, s) := by
  refine bMt_of (bCall_of (by decide) rfl (Nat.le_of_ble_eq_true rfl) ?_)
  show bV O _ d 0 [(0, .long v)] [] (f, n, s) _
  refine r_lload_n (n := 0) (i := 0) 0 rfl rfl dX7_bound_0 ?_
  refine r_ldc2 ckX7_284 dX7_bound_1 ?_
  refine r_lcmp dX7_bound_4 ?_
  refine r_if_le (tgt := 11) (by decide) dX7_bound_5 (fun c5 => ?_) (fun c5 => ?_)
  · have c5 := (lg_cmp_le _ _).mp c5
    refine r_lload_n (n := 0) (i := 0) 0 rfl rfl dX7_bound_11 ?_
    refine r_ldc2 ckX7_286 dX7_bound_12 ?_
    refine r_lcmp dX7_bound_15 ?_
    refine r_if_ge (tgt := 24) (by decide) dX7_bound_16 (fun c16 => ?_) (fun c16 => ?_)
    · have c16 := (lg_cmp_ge _ _).mp c16
      refine r_lload_n (n := 0) (i := 0) 0 rfl rfl dX7_bound_24 ?_
      refine r_l2i dX7_bound_25 ?_
      refine r_ireturn rfl dX7_bound_26 ?_
      refine ⟨?_, rfl⟩
      first | rfl | simp [jBnd, c5, c16]
    · have c16 : ¬ (-1000000000) ≤ v := fun h7 => c16 ((lg_cmp_ge _ _).mpr h7)
      refine r_ldc ckX7_226 dX7_bound_19 ?_
      refine r_goto (tgt := 26) (by decide) dX7_bound_21 ?_
      refine r_ireturn rfl dX7_bound_26 ?_
      refine ⟨?_, rfl⟩
      first | rfl | simp [jBnd, c5, c16]
  · have c5 : ¬ v ≤ 1000000000 := fun h7 => c5 ((lg_cmp_le _ _).mpr h7)
    refine r_ldc ckX7_227 dX7_bound_8 ?_
    refine r_ireturn rfl dX7_bound_10 ?_
    refine ⟨?_, rfl⟩
    first | rfl | simp [jBnd, c5]
set_option maxRecDepth 4000 in
theorem kX7_isBin {O : bO} {d : Nat} {f : bF} {n s : Nat} {k : Int32} {b : Int32}   (hd : 0 ≤ d) : bMt O mX7_isBin d [.int k, .int b] (f, n, s) (.inl (some (.int (bI (jBin k b))))) (f, n, s) := by
  refine bMt_of (bCall_of (by decide) rfl (Nat.le_of_ble_eq_true rfl) ?_)
  show bV O _ d 0 [(0, .int k), (1, .int b)] [] (f, n, s) _
  refine r_iload_n (n := 0) (i := 0) 0 rfl rfl dX7_isBin_0 ?_
  refine r_if_lt (tgt := 23) (by decide) dX7_isBin_1 (fun c1 => ?_) (fun c1 => ?_)
  · refine r_iconst (v := 0) (by decide) dX7_isBin_23 ?_
    refine r_zreturn rfl (by first | decide +kernel | exact narZ _ | assumption) dX7_isBin_24 ?_
    refine ⟨?_, rfl⟩
    first | rfl | simp [jBin, bI, c1]
  · refine r_iload_n (n := 0) (i := 0) 0 rfl rfl dX7_isBin_4 ?_
    refine r_bipush (v := 6) (by decide) dX7_isBin_5 ?_
    refine r_icmp_ge (tgt := 23) (by decide) dX7_isBin_7 (fun c7 => ?_) (fun c7 => ?_)
    · refine r_iconst (v := 0) (by decide) dX7_isBin_23 ?_
      refine r_zreturn rfl (by first | decide +kernel | exact narZ _ | assumption) dX7_isBin_24 ?_
      refine ⟨?_, rfl⟩
      first | rfl | simp [jBin, bI, c1, c7]
    · refine r_iload_n (n := 1) (i := 1) 1 rfl rfl dX7_isBin_10 ?_
      refine r_if_lt (tgt := 23) (by decide) dX7_isBin_11 (fun c11 => ?_) (fun c11 => ?_)
      · refine r_iconst (v := 0) (by decide) dX7_isBin_23 ?_
        refine r_zreturn rfl (by first | decide +kernel | exact narZ _ | assumption) dX7_isBin_24 ?_
        refine ⟨?_, rfl⟩
        first | rfl | simp [jBin, bI, c1, c7, c11]
      · refine r_iload_n (n := 1) (i := 1) 1 rfl rfl dX7_isBin_14 ?_
        refine r_iconst (v := 4) (by decide) dX7_isBin_15 ?_
        refine r_icmp_ge (tgt := 23) (by decide) dX7_isBin_16 (fun c16 => ?_) (fun c16 => ?_)
        · refine r_iconst (v := 0) (by decide) dX7_isBin_23 ?_
          refine r_zreturn rfl (by first | decide +kernel | exact narZ _ | assumption) dX7_isBin_24 ?_
          refine ⟨?_, rfl⟩
          first | rfl | simp [jBin, bI, c1, c7, c11, c16]
        · refine r_iconst (v := 1) (by decide) dX7_isBin_19 ?_
          refine r_goto (tgt := 24) (by decide) dX7_isBin_20 ?_
          refine r_zreturn rfl (by first | decide +kernel | exact narZ _ | assumption) dX7_isBin_24 ?_
          refine ⟨?_, rfl⟩
          first | rfl | simp [jBin, bI, c1, c7, c11, c16]
theorem tbo (x : Int32) (q258 : ¬ x = 258) (q259 : ¬ x = 259) (q260 : ¬ x = 260) (q261 : ¬ x = 261) (q262 : ¬ x = 262) (q263 : ¬ x = 263) (q264 : ¬ x = 264) (q265 : ¬ x = 265) (q266 : ¬ x = 266) : x.toInt < 258 ∨ 266 < x.toInt := by
  have h1 : x.toInt ≠ 258 := toInt_ne (k := 258) q258
  have h2 : x.toInt ≠ 259 := toInt_ne (k := 259) q259
  have h3 : x.toInt ≠ 260 := toInt_ne (k := 260) q260
  have h4 : x.toInt ≠ 261 := toInt_ne (k := 261) q261
  have h5 : x.toInt ≠ 262 := toInt_ne (k := 262) q262
  have h6 : x.toInt ≠ 263 := toInt_ne (k := 263) q263
  have h7 : x.toInt ≠ 264 := toInt_ne (k := 264) q264
  have h8 : x.toInt ≠ 265 := toInt_ne (k := 265) q265
  have h9 : x.toInt ≠ 266 := toInt_ne (k := 266) q266
  omega
theorem lkj (x : Int32) (q42 : ¬ x = 42) (q43 : ¬ x = 43) (q45 : ¬ x = 45) (q60 : ¬ x = 60) (q61 : ¬ x = 61) (q62 : ¬ x = 62) (q264 : ¬ x = 264) : Op.lookupswitch.offset [((42 : Int), (85 : Int)), (43, 67), (45, 76), (60, 94), (61, 116), (62, 105), (264, 127)] 133 x.toInt = 133 := by
  have h1 : x.toInt ≠ 42 := toInt_ne (k := 42) q42
  have h2 : x.toInt ≠ 43 := toInt_ne (k := 43) q43
  have h3 : x.toInt ≠ 45 := toInt_ne (k := 45) q45
  have h4 : x.toInt ≠ 60 := toInt_ne (k := 60) q60
  have h5 : x.toInt ≠ 61 := toInt_ne (k := 61) q61
  have h6 : x.toInt ≠ 62 := toInt_ne (k := 62) q62
  have h7 : x.toInt ≠ 264 := toInt_ne (k := 264) q264
  simp [Op.lookupswitch.offset, h1, h2, h3, h4, h5, h6, h7, Ne.symm h1, Ne.symm h2, Ne.symm h3, Ne.symm h4, Ne.symm h5, Ne.symm h6, Ne.symm h7]
set_option maxRecDepth 4000 in
theorem kX6_needs {O : bO} {d : Nat} {f : bF} {n s : Nat} {x : Int32}   (hd : 0 ≤ d) : bMt O mX6_needs d [.int x] (f, n, s) (.inl (some (.int (nI (jNd x))))) (f, n, s) := by
  refine bMt_of (bCall_of (by decide) rfl (Nat.le_of_ble_eq_true rfl) ?_)
  show bV O _ d 0 [(0, .int x)] [] (f, n, s) _
  refine r_iload_n (n := 0) (i := 0) 0 rfl rfl dX6_needs_0 ?_
  by_cases q258 : x = 258
  · subst q258
    refine r_tableIn (off := 51) (tgt := 52) dX6_needs_1 (by decide) (by decide) (by decide) (by decide) ?_
    refine r_iconst (v := 0) (by decide) dX6_needs_52 ?_
    refine r_ireturn rfl dX6_needs_53 ?_
    exact ⟨by decide, rfl⟩
  · by_cases q259 : x = 259
    · subst q259
      refine r_tableIn (off := 51) (tgt := 52) dX6_needs_1 (by decide) (by decide) (by decide) (by decide) ?_
      refine r_iconst (v := 0) (by decide) dX6_needs_52 ?_
      refine r_ireturn rfl dX6_needs_53 ?_
      exact ⟨by decide, rfl⟩
    · by_cases q266 : x = 266
      · subst q266
        refine r_tableIn (off := 53) (tgt := 54) dX6_needs_1 (by decide) (by decide) (by decide) (by decide) ?_
        refine r_iconst (v := 1) (by decide) dX6_needs_54 ?_
        refine r_ireturn rfl dX6_needs_55 ?_
        exact ⟨by decide, rfl⟩
      · by_cases q261 : x = 261
        · subst q261
          refine r_tableIn (off := 55) (tgt := 56) dX6_needs_1 (by decide) (by decide) (by decide) (by decide) ?_
          refine r_iconst (v := 3) (by decide) dX6_needs_56 ?_
          refine r_ireturn rfl dX6_needs_57 ?_
          exact ⟨by decide, rfl⟩
        · by_cases q260 : x = 260
          · subst q260
            refine r_tableIn (off := 57) (tgt := 58) dX6_needs_1 (by decide) (by decide) (by decide) (by decide) ?_
            refine r_iconst (v := 2) (by decide) dX6_needs_58 ?_
            refine r_ireturn rfl dX6_needs_59 ?_
            exact ⟨by decide, rfl⟩
          · by_cases q262 : x = 262
            · subst q262
              refine r_tableIn (off := 57) (tgt := 58) dX6_needs_1 (by decide) (by decide) (by decide) (by decide) ?_
              refine r_iconst (v := 2) (by decide) dX6_needs_58 ?_
              refine r_ireturn rfl dX6_needs_59 ?_
              exact ⟨by decide, rfl⟩
            · by_cases q263 : x = 263
              · subst q263
                refine r_tableIn (off := 57) (tgt := 58) dX6_needs_1 (by decide) (by decide) (by decide) (by decide) ?_
                refine r_iconst (v := 2) (by decide) dX6_needs_58 ?_
                refine r_ireturn rfl dX6_needs_59 ?_
                exact ⟨by decide, rfl⟩
              · by_cases q264 : x = 264
                · subst q264
                  refine r_tableIn (off := 57) (tgt := 58) dX6_needs_1 (by decide) (by decide) (by decide) (by decide) ?_
                  refine r_iconst (v := 2) (by decide) dX6_needs_58 ?_
                  refine r_ireturn rfl dX6_needs_59 ?_
                  exact ⟨by decide, rfl⟩
                · by_cases q265 : x = 265
                  · subst q265
                    refine r_tableIn (off := 57) (tgt := 58) dX6_needs_1 (by decide) (by decide) (by decide) (by decide) ?_
                    refine r_iconst (v := 2) (by decide) dX6_needs_58 ?_
                    refine r_ireturn rfl dX6_needs_59 ?_
                    exact ⟨by decide, rfl⟩
                  · refine r_tableOut (tgt := 58) dX6_needs_1 (tbo x q258 q259 q260 q261 q262 q263 q264 q265 q266) (by decide) ?_
                    refine r_iconst (v := 2) (by decide) dX6_needs_58 ?_
                    refine r_ireturn rfl dX6_needs_59 ?_
                    exact ⟨by rw [jNd, if_neg q258, if_neg q259, if_neg q266, if_neg q261]; rfl, rfl⟩
set_option maxRecDepth 4000 in
theorem kX6_valueOf {O : bO} {d : Nat} {f : bF} {n s : Nat} {ip : Nat → Int32} {v : Int32} {r : Nat} (h0 : f r = some (.inl (0, 6, .inl ip))) (e0 : ¬ v < 0) (e1 : ¬ nI 6 ≤ v) (hd : 0 ≤ d) : bMt O mX6_valueOf d [.ref r, .int v] (f, n, s) (.inl (some (.int (ip v.toNatClampNeg)))) (f, n, s) := by
  refine bMt_of (bCall_of (by decide) rfl (Nat.le_of_ble_eq_true rfl) ?_)
  show bV O _ d 0 [(0, .ref r), (1, .int v)] [] (f, n, s) _
  refine r_iload_n (n := 1) (i := 1) 1 rfl rfl dX6_valueOf_0 ?_
  refine r_if_lt (tgt := 16) (by decide) dX6_valueOf_1 (fun h9 => absurd h9 e0) (fun _ => ?_)
  refine r_iload_n (n := 1) (i := 1) 1 rfl rfl dX6_valueOf_4 ?_
  refine r_aload_n (n := 0) (i := 0) 0 rfl rfl dX6_valueOf_5 ?_
  refine p_alen2 (kd := 0) (n := 6) (a := (6, .inl ip)) rfl h0 rfl dX6_valueOf_6 ?_
  refine r_icmp_ge (tgt := 16) (by decide) dX6_valueOf_7 (fun h9 => absurd h9 e1) (fun _ => ?_)
  refine r_aload_n (n := 0) (i := 0) 0 rfl rfl dX6_valueOf_10 ?_
  refine r_iload_n (n := 1) (i := 1) 1 rfl rfl dX6_valueOf_11 ?_
  refine p_iald h0 (vpn e0 e1 (by decide)) dX6_valueOf_12 ?_
  refine r_goto (tgt := 17) (by decide) dX6_valueOf_13 ?_
  refine r_ireturn rfl dX6_valueOf_17 ?_
  exact ⟨rfl, rfl⟩
set_option maxRecDepth 4000 in
theorem kX6_join {O : bO} {d : Nat} {f : bF} {n s : Nat} {k : Int32} {a : Int32} {b : Int32}   (hd : 1 ≤ d) : bMt O mX6_join d [.int k, .int a, .int b] (f, n, s) (.inl (some (.int (jJoin k a b)))) (f, n, s) := by
  refine bMt_of (bCall_of (by decide) rfl (Nat.le_of_ble_eq_true rfl) ?_)
  show bV O _ d 0 [(0, .int k), (1, .int a), (2, .int b)] [] (f, n, s) _
  refine r_iload_n (n := 0) (i := 0) 0 rfl rfl dX6_join_0 ?_
  by_cases q43 : k = 43
  · refine r_lookup (off := 67) (tgt := 68) dX6_join_1 (by decide) (by rw [q43]; decide) (by decide) ?_
    refine r_iload_n (n := 1) (i := 1) 1 rfl rfl dX6_join_68 ?_
    refine r_i2l dX6_join_69 ?_
    refine r_iload_n (n := 2) (i := 2) 2 rfl rfl dX6_join_70 ?_
    refine r_i2l dX6_join_71 ?_
    refine r_ladd dX6_join_72 ?_
    refine p_callSN (As := [.long (a.toInt64 + b.toInt64)]) (rest := []) (kX7_bound (O := O) (d := 0) (f := f) (n := n) (s := s) (v := a.toInt64 + b.toInt64)   (Nat.le_refl _)).call rfl lkNX6_36 smX7_bound rfl rfl (by omega) (Nat.le_of_ble_eq_true rfl) dX6_join_73 (fun v9 G9 h9 => ?_) (fun q9 G9 h9 => (by cases h9.1))
    obtain ⟨h8, rfl⟩ := h9; cases h8
    show bV O _ d 76 [(0, .int k), (1, .int a), (2, .int b)] [.int (jBnd (a.toInt64 + b.toInt64))] (f, n, s) _
    refine r_ireturn rfl dX6_join_76 ?_
    refine ⟨?_, rfl⟩
    rw [jJoin, if_pos q43]
  · by_cases q45 : k = 45
    · refine r_lookup (off := 76) (tgt := 77) dX6_join_1 (by decide) (by rw [q45]; decide) (by decide) ?_
      refine r_iload_n (n := 1) (i := 1) 1 rfl rfl dX6_join_77 ?_
      refine r_i2l dX6_join_78 ?_
      refine r_iload_n (n := 2) (i := 2) 2 rfl rfl dX6_join_79 ?_
      refine r_i2l dX6_join_80 ?_
      refine r_lsub dX6_join_81 ?_
      refine p_callSN (As := [.long (a.toInt64 - b.toInt64)]) (rest := []) (kX7_bound (O := O) (d := 0) (f := f) (n := n) (s := s) (v := a.toInt64 - b.toInt64)   (Nat.le_refl _)).call rfl lkNX6_36 smX7_bound rfl rfl (by omega) (Nat.le_of_ble_eq_true rfl) dX6_join_82 (fun v9 G9 h9 => ?_) (fun q9 G9 h9 => (by cases h9.1))
      obtain ⟨h8, rfl⟩ := h9; cases h8
      show bV O _ d 85 [(0, .int k), (1, .int a), (2, .int b)] [.int (jBnd (a.toInt64 - b.toInt64))] (f, n, s) _
      refine r_ireturn rfl dX6_join_85 ?_
      refine ⟨?_, rfl⟩
      rw [jJoin, if_neg q43, if_pos q45]
    · by_cases q42 : k = 42
      · refine r_lookup (off := 85) (tgt := 86) dX6_join_1 (by decide) (by rw [q42]; decide) (by decide) ?_
        refine r_iload_n (n := 1) (i := 1) 1 rfl rfl dX6_join_86 ?_
        refine r_i2l dX6_join_87 ?_
        refine r_iload_n (n := 2) (i := 2) 2 rfl rfl dX6_join_88 ?_
        refine r_i2l dX6_join_89 ?_
        refine r_lmul dX6_join_90 ?_
        refine p_callSN (As := [.long (a.toInt64 * b.toInt64)]) (rest := []) (kX7_bound (O := O) (d := 0) (f := f) (n := n) (s := s) (v := a.toInt64 * b.toInt64)   (Nat.le_refl _)).call rfl lkNX6_36 smX7_bound rfl rfl (by omega) (Nat.le_of_ble_eq_true rfl) dX6_join_91 (fun v9 G9 h9 => ?_) (fun q9 G9 h9 => (by cases h9.1))
        obtain ⟨h8, rfl⟩ := h9; cases h8
        show bV O _ d 94 [(0, .int k), (1, .int a), (2, .int b)] [.int (jBnd (a.toInt64 * b.toInt64))] (f, n, s) _
        refine r_ireturn rfl dX6_join_94 ?_
        refine ⟨?_, rfl⟩
        rw [jJoin, if_neg q43, if_neg q45, if_pos q42]
      · by_cases q60 : k = 60
        · refine r_lookup (off := 94) (tgt := 95) dX6_join_1 (by decide) (by rw [q60]; decide) (by decide) ?_
          refine r_iload_n (n := 1) (i := 1) 1 rfl rfl dX6_join_95 ?_
          refine r_iload_n (n := 2) (i := 2) 2 rfl rfl dX6_join_96 ?_
          refine r_icmp_ge (tgt := 104) (by decide) dX6_join_97 (fun c97 => ?_) (fun c97 => ?_)
          · refine r_iconst (v := 0) (by decide) dX6_join_104 ?_
            refine r_ireturn rfl dX6_join_105 ?_
            refine ⟨?_, rfl⟩
            rw [jJoin, if_neg q43, if_neg q45, if_neg q42, if_pos q60]
            simp [c97]
          · refine r_iconst (v := 1) (by decide) dX6_join_100 ?_
            refine r_goto (tgt := 105) (by decide) dX6_join_101 ?_
            refine r_ireturn rfl dX6_join_105 ?_
            refine ⟨?_, rfl⟩
            rw [jJoin, if_neg q43, if_neg q45, if_neg q42, if_pos q60]
            simp [c97]
        · by_cases q62 : k = 62
          · refine r_lookup (off := 105) (tgt := 106) dX6_join_1 (by decide) (by rw [q62]; decide) (by decide) ?_
            refine r_iload_n (n := 1) (i := 1) 1 rfl rfl dX6_join_106 ?_
            refine r_iload_n (n := 2) (i := 2) 2 rfl rfl dX6_join_107 ?_
            refine r_icmp_le (tgt := 115) (by decide) dX6_join_108 (fun c108 => ?_) (fun c108 => ?_)
            · refine r_iconst (v := 0) (by decide) dX6_join_115 ?_
              refine r_ireturn rfl dX6_join_116 ?_
              refine ⟨?_, rfl⟩
              rw [jJoin, if_neg q43, if_neg q45, if_neg q42, if_neg q60, if_pos q62]
              simp [c108]
            · refine r_iconst (v := 1) (by decide) dX6_join_111 ?_
              refine r_goto (tgt := 116) (by decide) dX6_join_112 ?_
              refine r_ireturn rfl dX6_join_116 ?_
              refine ⟨?_, rfl⟩
              rw [jJoin, if_neg q43, if_neg q45, if_neg q42, if_neg q60, if_pos q62]
              simp [c108]
          · by_cases q61 : k = 61
            · refine r_lookup (off := 116) (tgt := 117) dX6_join_1 (by decide) (by rw [q61]; decide) (by decide) ?_
              refine r_iload_n (n := 1) (i := 1) 1 rfl rfl dX6_join_117 ?_
              refine r_iload_n (n := 2) (i := 2) 2 rfl rfl dX6_join_118 ?_
              refine r_icmp_ne (tgt := 126) (by decide) dX6_join_119 (fun c119 => ?_) (fun c119 => ?_)
              · refine r_iconst (v := 0) (by decide) dX6_join_126 ?_
                refine r_ireturn rfl dX6_join_127 ?_
                refine ⟨?_, rfl⟩
                rw [jJoin, if_neg q43, if_neg q45, if_neg q42, if_neg q60, if_neg q62, if_pos q61]
                simp [c119]
              · refine r_iconst (v := 1) (by decide) dX6_join_122 ?_
                refine r_goto (tgt := 127) (by decide) dX6_join_123 ?_
                refine r_ireturn rfl dX6_join_127 ?_
                refine ⟨?_, rfl⟩
                rw [jJoin, if_neg q43, if_neg q45, if_neg q42, if_neg q60, if_neg q62, if_pos q61]
                simp [c119]
            · by_cases q264 : k = 264
              · refine r_lookup (off := 127) (tgt := 128) dX6_join_1 (by decide) (by rw [q264]; decide) (by decide) ?_
                refine r_iload_n (n := 1) (i := 1) 1 rfl rfl dX6_join_128 ?_
                refine r_iload_n (n := 2) (i := 2) 2 rfl rfl dX6_join_129 ?_
                refine r_mmin (by omega) lkX6_40 (Nat.le_of_ble_eq_true rfl) dX6_join_130 ?_
                refine r_ireturn rfl dX6_join_133 ?_
                refine ⟨?_, rfl⟩
                rw [jJoin, if_neg q43, if_neg q45, if_neg q42, if_neg q60, if_neg q62, if_neg q61, if_pos q264]
              · refine r_lookup (off := 133) (tgt := 134) dX6_join_1 (by decide) (lkj k q42 q43 q45 q60 q61 q62 q264) (by decide) ?_
                refine r_iload_n (n := 1) (i := 1) 1 rfl rfl dX6_join_134 ?_
                refine r_iload_n (n := 2) (i := 2) 2 rfl rfl dX6_join_135 ?_
                refine r_mmax (by omega) lkX6_46 (Nat.le_of_ble_eq_true rfl) dX6_join_136 ?_
                refine r_ireturn rfl dX6_join_139 ?_
                refine ⟨?_, rfl⟩
                rw [jJoin, if_neg q43, if_neg q45, if_neg q42, if_neg q60, if_neg q62, if_neg q61, if_neg q264]
theorem jNd_le (k : Int32) : jNd k ≤ 3 := by
  unfold jNd
  repeat (first | omega | split)
/-- the value that a part makes, its operands from place u on -/
def opv (ip : Nat → Int32) (kv : Int32 × Int32) (g : Nat → Int32) (u : Nat) : Int32 := if jNd kv.1 = 0 then (if kv.1 = 258 then kv.2 else ip kv.2.toNatClampNeg) else if jNd kv.1 = 1 then -(g u) else if jNd kv.1 = 2 then jJoin kv.1 (g u) (g (u + 1)) else if g u = 0 then g (u + 2) else g (u + 1)
def stp (ip : Nat → Int32) (kv : Int32 × Int32) (x : (Nat → Int32) × Nat) : (Nat → Int32) × Nat := (upd x.1 (x.2 - jNd kv.1) (opv ip kv x.1 (x.2 - jNd kv.1)), x.2 - jNd kv.1 + 1)
def rn (ip : Nat → Int32) (c : List (Int32 × Int32)) (x : (Nat → Int32) × Nat) : (Nat → Int32) × Nat := c.foldl (fun x kv => stp ip kv x) x
/-- the parts find their operands, from a stack of t on -/
def okr : List (Int32 × Int32) → Nat → Prop
  | [], _ => True
  | kv :: c, t => jNd kv.1 ≤ t ∧ t - jNd kv.1 < 60 ∧ t ≤ 60 ∧ (jNd kv.1 = 0 → ¬ kv.1 = 258 → ¬ kv.2 < 0 ∧ ¬ nI 6 ≤ kv.2) ∧ okr c (t - jNd kv.1 + 1)
theorem lp_work {O : bO} {d : Nat} {f : bF} {n s : Nat} {N mk mv mo r : Nat} {ks vs ip : Nat → Int32} (h0 : f 38 = some (.inr (6, [.ref 39]))) (h1 : f mk = some (.inl (0, N, .inl ks))) (h2 : f mv = some (.inl (0, N, .inl vs))) (h3 : f r = some (.inl (0, 6, .inl ip))) (hN : N ≤ 60) (e1 : mk ≠ 39) (e2 : mv ≠ 39) (e3 : r ≠ 39) (hd : 3 ≤ d) : ∀ (c : List (Int32 × Int32)) (i t : Nat) (g : Nat → Int32), i + c.length = N → (∀ (j : Nat) (h : j < c.length), c[j] = (ks (i + j), vs (i + j))) → okr c t → (0 < t ∨ c ≠ []) → t ≤ 60 → bV O mX6_work d 17 [(6, .int (nI i)), (5, .int (nI t)), (4, .ref mv), (3, .ref mk), (0, .ref 38), (1, .ref mo), (2, .ref r)] [] (bU f 39 (.inl (0, 60, .inl g)), n, s) (fun r9 G9 => r9 = .inl (some (.int ((rn ip c (g, t)).1 0))) ∧ G9 = (bU f 39 (.inl (0, 60, .inl (rn ip c (g, t)).1)), n, s)) := by
  intro c
  induction c with
  | nil =>
    intro i t g hi hk ho ht ht6
    have ht : 0 < t := by simpa using ht
    simp only [List.length_nil, Nat.add_zero] at hi
    show bV O _ d 17 [(6, .int (nI i)), (5, .int (nI t)), (4, .ref mv), (3, .ref mk), (0, .ref 38), (1, .ref mo), (2, .ref r)] [] (bU f 39 (.inl (0, 60, .inl g)), n, s) _
    refine r_iload (i := 6) 0 rfl dX6_work_17 ?_
    refine r_aload_n (n := 3) (i := 3) 3 rfl rfl dX6_work_19 ?_
    refine p_alen2 (kd := 0) (n := N) (a := (N, .inl ks)) rfl (by exact ((bU_n (by omega)).trans (h1))) rfl dX6_work_20 ?_
    refine r_icmp_ge (tgt := 231) (by decide) dX6_work_21 (fun _ => ?_) (fun h9 => absurd ((nI_leI (a := N) (b := i) (by omega) (by omega)).mpr (by omega)) h9)
    refine r_iload (i := 5) 1 rfl dX6_work_231 ?_
    refine r_if_le (tgt := 245) (by decide) dX6_work_233 (fun h9 => absurd h9 (fun h7 => absurd ((nI_leI (a := t) (b := 0) (by omega) (by omega)).mp h7) (by omega))) (fun _ => ?_)
    refine r_aload_n (n := 0) (i := 0) 4 rfl rfl dX6_work_236 ?_
    refine p_get (fs := [.ref 39]) flX6_9 (by exact ((bU_n (by decide)).trans (h0))) rfl dX6_work_237 ?_
    refine r_iconst (v := 0) (by decide) dX6_work_240 ?_
    refine p_ialdN (t := 0) (by exact bU_s _ _ _) (by omega) (by omega) dX6_work_241 ?_
    refine r_goto (tgt := 247) (by decide) dX6_work_242 ?_
    refine r_ireturn rfl dX6_work_247 ?_
    exact ⟨rfl, rfl⟩
  | cons kv c ih =>
    intro i t g hi hk ho ht ht6
    obtain ⟨o1, o2, o3, o4, o5⟩ := ho
    have hkv : kv = (ks i, vs i) := hk 0 (by simp)
    subst hkv
    simp only [List.length_cons] at hi
    have hj := jNd_le (ks i)
    simp only [] at o1 o2 o3 o4 o5
    show bV O _ d 17 [(6, .int (nI i)), (5, .int (nI t)), (4, .ref mv), (3, .ref mk), (0, .ref 38), (1, .ref mo), (2, .ref r)] [] (bU f 39 (.inl (0, 60, .inl g)), n, s) _
    refine r_iload (i := 6) 0 rfl dX6_work_17 ?_
    refine r_aload_n (n := 3) (i := 3) 3 rfl rfl dX6_work_19 ?_
    refine p_alen2 (kd := 0) (n := N) (a := (N, .inl ks)) rfl (by exact ((bU_n (by omega)).trans (h1))) rfl dX6_work_20 ?_
    refine r_icmp_ge (tgt := 231) (by decide) dX6_work_21 (fun h9 => absurd h9 (fun h7 => absurd ((nI_leI (a := N) (b := i) (by omega) (by omega)).mp h7) (by omega))) (fun _ => ?_)
    refine r_iload (i := 6) 0 rfl dX6_work_24 ?_
    refine r_aload (i := 4) 2 rfl dX6_work_26 ?_
    refine p_alen2 (kd := 0) (n := N) (a := (N, .inl vs)) rfl (by exact ((bU_n (by omega)).trans (h2))) rfl dX6_work_28 ?_
    refine r_icmp_ge (tgt := 231) (by decide) dX6_work_29 (fun h9 => absurd h9 (fun h7 => absurd ((nI_leI (a := N) (b := i) (by omega) (by omega)).mp h7) (by omega))) (fun _ => ?_)
    refine r_aload_n (n := 3) (i := 3) 3 rfl rfl dX6_work_32 ?_
    refine r_iload (i := 6) 0 rfl dX6_work_33 ?_
    refine p_ialdN (t := i) (by exact ((bU_n (by omega)).trans (h1))) (by omega) (by omega) dX6_work_35 ?_
    refine r_istore (i := 7) (L' := [(7, .int (ks i)), (6, .int (nI i)), (5, .int (nI t)), (4, .ref mv), (3, .ref mk), (0, .ref 38), (1, .ref mo), (2, .ref r)]) dX6_work_36 (by decide) rfl ?_
    refine r_iload (i := 7) 0 rfl dX6_work_38 ?_
    refine p_callS (As := [.int (ks i)]) (rest := []) (kX6_needs (O := O) (d := 0) (f := bU f 39 (.inl (0, 60, .inl g))) (n := n) (s := s) (x := ks i)   (Nat.le_refl _)).call rfl lkX6_23 smX6_needs rfl rfl (by omega) (Nat.le_of_ble_eq_true rfl) dX6_work_40 (fun v9 G9 h9 => ?_) (fun q9 G9 h9 => (by cases h9.1))
    obtain ⟨h8, rfl⟩ := h9; cases h8
    show bV O _ d 43 [(7, .int (ks i)), (6, .int (nI i)), (5, .int (nI t)), (4, .ref mv), (3, .ref mk), (0, .ref 38), (1, .ref mo), (2, .ref r)] [.int (nI (jNd (ks i)))] (bU f 39 (.inl (0, 60, .inl g)), n, s) _
    refine r_istore (i := 8) (L' := [(8, .int (nI (jNd (ks i)))), (7, .int (ks i)), (6, .int (nI i)), (5, .int (nI t)), (4, .ref mv), (3, .ref mk), (0, .ref 38), (1, .ref mo), (2, .ref r)]) dX6_work_43 (by decide) rfl ?_
    refine r_iload (i := 5) 3 rfl dX6_work_45 ?_
    refine r_iload (i := 8) 0 rfl dX6_work_47 ?_
    refine r_isubE (v := nI (t - (jNd (ks i)))) (pk_sub (by omega)) dX6_work_49 ?_
    refine r_istore (i := 9) (L' := [(9, .int (nI (t - (jNd (ks i))))), (8, .int (nI (jNd (ks i)))), (7, .int (ks i)), (6, .int (nI i)), (5, .int (nI t)), (4, .ref mv), (3, .ref mk), (0, .ref 38), (1, .ref mo), (2, .ref r)]) dX6_work_50 (by decide) rfl ?_
    refine r_iload (i := 9) 0 rfl dX6_work_52 ?_
    refine r_if_lt (tgt := 77) (by decide) dX6_work_54 (fun h9 => absurd h9 (fun h7 => absurd ((nI_ltI (a := (t - (jNd (ks i)))) (b := 0) (by omega) (by omega)).mp h7) (by omega))) (fun _ => ?_)
    refine r_iload (i := 9) 0 rfl dX6_work_57 ?_
    refine r_aload_n (n := 0) (i := 0) 7 rfl rfl dX6_work_59 ?_
    refine p_get (fs := [.ref 39]) flX6_9 (by exact ((bU_n (by decide)).trans (h0))) rfl dX6_work_60 ?_
    refine p_alen2 (kd := 0) (n := 60) (a := (60, .inl g)) rfl (by exact bU_s _ _ _) rfl dX6_work_63 ?_
    refine r_icmp_ge (tgt := 77) (by decide) dX6_work_64 (fun h9 => absurd h9 (fun h7 => absurd ((nI_leI (a := 60) (b := (t - (jNd (ks i)))) (by omega) (by omega)).mp h7) (by omega))) (fun _ => ?_)
    refine r_iload (i := 5) 4 rfl dX6_work_67 ?_
    refine r_aload_n (n := 0) (i := 0) 7 rfl rfl dX6_work_69 ?_
    refine p_get (fs := [.ref 39]) flX6_9 (by exact ((bU_n (by decide)).trans (h0))) rfl dX6_work_70 ?_
    refine p_alen2 (kd := 0) (n := 60) (a := (60, .inl g)) rfl (by exact bU_s _ _ _) rfl dX6_work_73 ?_
    refine r_icmp_le (tgt := 80) (by decide) dX6_work_74 (fun _ => ?_) (fun h9 => absurd ((nI_leI (a := t) (b := 60) (by omega) (by omega)).mpr (by omega)) h9)
    refine r_iload (i := 8) 1 rfl dX6_work_80 ?_
    refine r_if_ne (tgt := 120) (by decide) dX6_work_82 (fun c82 => ?_) (fun c82 => ?_)
    · have c82 : ¬ (jNd (ks i)) = 0 := fun h7 => c82 ((nI_eq (a := (jNd (ks i))) (b := 0) (by omega) (by omega)).mpr h7)
      refine r_iload (i := 8) 1 rfl dX6_work_120 ?_
      refine r_iconst (v := 1) (by decide) dX6_work_122 ?_
      refine r_icmp_ne (tgt := 144) (by decide) dX6_work_123 (fun c123 => ?_) (fun c123 => ?_)
      · have c123 : ¬ (jNd (ks i)) = 1 := fun h7 => c123 ((nI_eq (a := (jNd (ks i))) (b := 1) (by omega) (by omega)).mpr h7)
        refine r_iload (i := 8) 1 rfl dX6_work_144 ?_
        refine r_iconst (v := 2) (by decide) dX6_work_146 ?_
        refine r_icmp_ne (tgt := 181) (by decide) dX6_work_147 (fun c147 => ?_) (fun c147 => ?_)
        · have c147 : ¬ (jNd (ks i)) = 2 := fun h7 => c147 ((nI_eq (a := (jNd (ks i))) (b := 2) (by omega) (by omega)).mpr h7)
          refine r_aload_n (n := 0) (i := 0) 7 rfl rfl dX6_work_181 ?_
          refine p_get (fs := [.ref 39]) flX6_9 (by exact ((bU_n (by decide)).trans (h0))) rfl dX6_work_182 ?_
          refine r_iload (i := 9) 0 rfl dX6_work_185 ?_
          refine r_aload_n (n := 0) (i := 0) 7 rfl rfl dX6_work_187 ?_
          refine p_get (fs := [.ref 39]) flX6_9 (by exact ((bU_n (by decide)).trans (h0))) rfl dX6_work_188 ?_
          refine r_iload (i := 9) 0 rfl dX6_work_191 ?_
          refine p_ialdN (t := t - (jNd (ks i))) (by exact bU_s _ _ _) (by omega) (by omega) dX6_work_193 ?_
          refine r_if_eq (tgt := 209) (by decide) dX6_work_194 (fun c194 => ?_) (fun c194 => ?_)
          · refine r_aload_n (n := 0) (i := 0) 7 rfl rfl dX6_work_209 ?_
            refine p_get (fs := [.ref 39]) flX6_9 (by exact ((bU_n (by decide)).trans (h0))) rfl dX6_work_210 ?_
            refine r_iload (i := 9) 0 rfl dX6_work_213 ?_
            refine r_iconst (v := 2) (by decide) dX6_work_215 ?_
            refine r_iaddE (v := nI (t - (jNd (ks i)) + 2)) (nI_add (t - (jNd (ks i))) 2) dX6_work_216 ?_
            refine p_ialdN (t := t - (jNd (ks i)) + 2) (by exact bU_s _ _ _) (by omega) (by omega) dX6_work_217 ?_
            refine p_iastN (t := t - (jNd (ks i))) (by exact bU_s _ _ _) (by omega) (by omega) dX6_work_218 ?_
            refine bV_h (f2 := bU f 39 (.inl (0, 60, .inl (upd g (t - (jNd (ks i))) (g (t - (jNd (ks i)) + 2)))))) (bU_u _ _ _ _) ?_
            refine r_iload (i := 9) 0 rfl dX6_work_219 ?_
            refine r_iconst (v := 1) (by decide) dX6_work_221 ?_
            refine r_iaddE (v := nI (t - (jNd (ks i)) + 1)) (nI_add (t - (jNd (ks i))) 1) dX6_work_222 ?_
            refine r_istore (i := 5) (L' := [(5, .int (nI (t - (jNd (ks i)) + 1))), (9, .int (nI (t - (jNd (ks i))))), (8, .int (nI (jNd (ks i)))), (7, .int (ks i)), (6, .int (nI i)), (4, .ref mv), (3, .ref mk), (0, .ref 38), (1, .ref mo), (2, .ref r)]) dX6_work_223 (by decide) rfl ?_
            refine r_iinc (i := 6) (v := nI (i + 1)) (L' := [(6, .int (nI (i + 1))), (5, .int (nI (t - (jNd (ks i)) + 1))), (9, .int (nI (t - (jNd (ks i))))), (8, .int (nI (jNd (ks i)))), (7, .int (ks i)), (4, .ref mv), (3, .ref mk), (0, .ref 38), (1, .ref mo), (2, .ref r)]) 4 rfl (nI_inc1 i) dX6_work_225 (by decide) rfl ?_
            refine r_goto (tgt := 17) (by decide) dX6_work_228 ?_
            rw [show rn ip ((ks i, vs i) :: c) (g, t) = rn ip c (upd g (t - (jNd (ks i))) (g (t - (jNd (ks i)) + 2)), t - jNd (ks i) + 1) by show rn ip c (upd g (t - jNd (ks i)) (opv ip (ks i, vs i) g (t - jNd (ks i))), t - jNd (ks i) + 1) = _; unfold opv; (first | rw [if_pos c82] | rw [if_neg c82]); (first | rw [if_pos c123] | rw [if_neg c123]); (first | rw [if_pos c147] | rw [if_neg c147]); (first | rw [if_pos c194] | rw [if_neg c194])]; refine bV_loc [0, 1, 5, 6, 7, 8, 9] rfl ?_; exact ih (i + 1) (t - jNd (ks i) + 1) _ (by omega) (fun j h => by have := hk (j + 1) (by simpa using h); simpa [Nat.add_assoc, Nat.add_comm 1 j] using this) o5 (Or.inl (by omega)) (by omega)
          · refine r_aload_n (n := 0) (i := 0) 7 rfl rfl dX6_work_197 ?_
            refine p_get (fs := [.ref 39]) flX6_9 (by exact ((bU_n (by decide)).trans (h0))) rfl dX6_work_198 ?_
            refine r_iload (i := 9) 0 rfl dX6_work_201 ?_
            refine r_iconst (v := 1) (by decide) dX6_work_203 ?_
            refine r_iaddE (v := nI (t - (jNd (ks i)) + 1)) (nI_add (t - (jNd (ks i))) 1) dX6_work_204 ?_
            refine p_ialdN (t := t - (jNd (ks i)) + 1) (by exact bU_s _ _ _) (by omega) (by omega) dX6_work_205 ?_
            refine r_goto (tgt := 218) (by decide) dX6_work_206 ?_
            refine p_iastN (t := t - (jNd (ks i))) (by exact bU_s _ _ _) (by omega) (by omega) dX6_work_218 ?_
            refine bV_h (f2 := bU f 39 (.inl (0, 60, .inl (upd g (t - (jNd (ks i))) (g (t - (jNd (ks i)) + 1)))))) (bU_u _ _ _ _) ?_
            refine r_iload (i := 9) 0 rfl dX6_work_219 ?_
            refine r_iconst (v := 1) (by decide) dX6_work_221 ?_
            refine r_iaddE (v := nI (t - (jNd (ks i)) + 1)) (nI_add (t - (jNd (ks i))) 1) dX6_work_222 ?_
            refine r_istore (i := 5) (L' := [(5, .int (nI (t - (jNd (ks i)) + 1))), (9, .int (nI (t - (jNd (ks i))))), (8, .int (nI (jNd (ks i)))), (7, .int (ks i)), (6, .int (nI i)), (4, .ref mv), (3, .ref mk), (0, .ref 38), (1, .ref mo), (2, .ref r)]) dX6_work_223 (by decide) rfl ?_
            refine r_iinc (i := 6) (v := nI (i + 1)) (L' := [(6, .int (nI (i + 1))), (5, .int (nI (t - (jNd (ks i)) + 1))), (9, .int (nI (t - (jNd (ks i))))), (8, .int (nI (jNd (ks i)))), (7, .int (ks i)), (4, .ref mv), (3, .ref mk), (0, .ref 38), (1, .ref mo), (2, .ref r)]) 4 rfl (nI_inc1 i) dX6_work_225 (by decide) rfl ?_
            refine r_goto (tgt := 17) (by decide) dX6_work_228 ?_
            rw [show rn ip ((ks i, vs i) :: c) (g, t) = rn ip c (upd g (t - (jNd (ks i))) (g (t - (jNd (ks i)) + 1)), t - jNd (ks i) + 1) by show rn ip c (upd g (t - jNd (ks i)) (opv ip (ks i, vs i) g (t - jNd (ks i))), t - jNd (ks i) + 1) = _; unfold opv; (first | rw [if_pos c82] | rw [if_neg c82]); (first | rw [if_pos c123] | rw [if_neg c123]); (first | rw [if_pos c147] | rw [if_neg c147]); (first | rw [if_pos c194] | rw [if_neg c194])]; refine bV_loc [0, 1, 5, 6, 7, 8, 9] rfl ?_; exact ih (i + 1) (t - jNd (ks i) + 1) _ (by omega) (fun j h => by have := hk (j + 1) (by simpa using h); simpa [Nat.add_assoc, Nat.add_comm 1 j] using this) o5 (Or.inl (by omega)) (by omega)
        · have c147 : (jNd (ks i)) = 2 := (nI_eq (a := (jNd (ks i))) (b := 2) (by omega) (by omega)).mp c147
          refine r_aload_n (n := 0) (i := 0) 7 rfl rfl dX6_work_150 ?_
          refine p_get (fs := [.ref 39]) flX6_9 (by exact ((bU_n (by decide)).trans (h0))) rfl dX6_work_151 ?_
          refine r_iload (i := 9) 0 rfl dX6_work_154 ?_
          refine r_iload (i := 7) 2 rfl dX6_work_156 ?_
          refine r_aload_n (n := 0) (i := 0) 7 rfl rfl dX6_work_158 ?_
          refine p_get (fs := [.ref 39]) flX6_9 (by exact ((bU_n (by decide)).trans (h0))) rfl dX6_work_159 ?_
          refine r_iload (i := 9) 0 rfl dX6_work_162 ?_
          refine p_ialdN (t := t - (jNd (ks i))) (by exact bU_s _ _ _) (by omega) (by omega) dX6_work_164 ?_
          refine r_aload_n (n := 0) (i := 0) 7 rfl rfl dX6_work_165 ?_
          refine p_get (fs := [.ref 39]) flX6_9 (by exact ((bU_n (by decide)).trans (h0))) rfl dX6_work_166 ?_
          refine r_iload (i := 9) 0 rfl dX6_work_169 ?_
          refine r_iconst (v := 1) (by decide) dX6_work_171 ?_
          refine r_iaddE (v := nI (t - (jNd (ks i)) + 1)) (nI_add (t - (jNd (ks i))) 1) dX6_work_172 ?_
          refine p_ialdN (t := t - (jNd (ks i)) + 1) (by exact bU_s _ _ _) (by omega) (by omega) dX6_work_173 ?_
          refine p_callS (As := [.int (ks i), .int (g (t - (jNd (ks i)))), .int (g (t - (jNd (ks i)) + 1))]) (rest := [.int (nI (t - (jNd (ks i)))), .ref 39]) (kX6_join (O := O) (d := 1) (f := bU f 39 (.inl (0, 60, .inl g))) (n := n) (s := s) (k := ks i) (a := g (t - (jNd (ks i)))) (b := g (t - (jNd (ks i)) + 1))   (Nat.le_refl _)).call rfl lkX6_32 smX6_join rfl rfl (by omega) (Nat.le_of_ble_eq_true rfl) dX6_work_174 (fun v9 G9 h9 => ?_) (fun q9 G9 h9 => (by cases h9.1))
          obtain ⟨h8, rfl⟩ := h9; cases h8
          show bV O _ d 177 [(9, .int (nI (t - (jNd (ks i))))), (8, .int (nI (jNd (ks i)))), (7, .int (ks i)), (6, .int (nI i)), (5, .int (nI t)), (4, .ref mv), (3, .ref mk), (0, .ref 38), (1, .ref mo), (2, .ref r)] [.int (jJoin (ks i) (g (t - (jNd (ks i)))) (g (t - (jNd (ks i)) + 1))), .int (nI (t - (jNd (ks i)))), .ref 39] (bU f 39 (.inl (0, 60, .inl g)), n, s) _
          refine p_iastN (t := t - (jNd (ks i))) (by exact bU_s _ _ _) (by omega) (by omega) dX6_work_177 ?_
          refine bV_h (f2 := bU f 39 (.inl (0, 60, .inl (upd g (t - (jNd (ks i))) (jJoin (ks i) (g (t - (jNd (ks i)))) (g (t - (jNd (ks i)) + 1))))))) (bU_u _ _ _ _) ?_
          refine r_goto (tgt := 219) (by decide) dX6_work_178 ?_
          refine r_iload (i := 9) 0 rfl dX6_work_219 ?_
          refine r_iconst (v := 1) (by decide) dX6_work_221 ?_
          refine r_iaddE (v := nI (t - (jNd (ks i)) + 1)) (nI_add (t - (jNd (ks i))) 1) dX6_work_222 ?_
          refine r_istore (i := 5) (L' := [(5, .int (nI (t - (jNd (ks i)) + 1))), (9, .int (nI (t - (jNd (ks i))))), (8, .int (nI (jNd (ks i)))), (7, .int (ks i)), (6, .int (nI i)), (4, .ref mv), (3, .ref mk), (0, .ref 38), (1, .ref mo), (2, .ref r)]) dX6_work_223 (by decide) rfl ?_
          refine r_iinc (i := 6) (v := nI (i + 1)) (L' := [(6, .int (nI (i + 1))), (5, .int (nI (t - (jNd (ks i)) + 1))), (9, .int (nI (t - (jNd (ks i))))), (8, .int (nI (jNd (ks i)))), (7, .int (ks i)), (4, .ref mv), (3, .ref mk), (0, .ref 38), (1, .ref mo), (2, .ref r)]) 4 rfl (nI_inc1 i) dX6_work_225 (by decide) rfl ?_
          refine r_goto (tgt := 17) (by decide) dX6_work_228 ?_
          rw [show rn ip ((ks i, vs i) :: c) (g, t) = rn ip c (upd g (t - (jNd (ks i))) (jJoin (ks i) (g (t - (jNd (ks i)))) (g (t - (jNd (ks i)) + 1))), t - jNd (ks i) + 1) by show rn ip c (upd g (t - jNd (ks i)) (opv ip (ks i, vs i) g (t - jNd (ks i))), t - jNd (ks i) + 1) = _; unfold opv; (first | rw [if_pos c82] | rw [if_neg c82]); (first | rw [if_pos c123] | rw [if_neg c123]); (first | rw [if_pos c147] | rw [if_neg c147])]; refine bV_loc [0, 1, 5, 6, 7, 8, 9] rfl ?_; exact ih (i + 1) (t - jNd (ks i) + 1) _ (by omega) (fun j h => by have := hk (j + 1) (by simpa using h); simpa [Nat.add_assoc, Nat.add_comm 1 j] using this) o5 (Or.inl (by omega)) (by omega)
      · have c123 : (jNd (ks i)) = 1 := (nI_eq (a := (jNd (ks i))) (b := 1) (by omega) (by omega)).mp c123
        refine r_aload_n (n := 0) (i := 0) 7 rfl rfl dX6_work_126 ?_
        refine p_get (fs := [.ref 39]) flX6_9 (by exact ((bU_n (by decide)).trans (h0))) rfl dX6_work_127 ?_
        refine r_iload (i := 9) 0 rfl dX6_work_130 ?_
        refine r_aload_n (n := 0) (i := 0) 7 rfl rfl dX6_work_132 ?_
        refine p_get (fs := [.ref 39]) flX6_9 (by exact ((bU_n (by decide)).trans (h0))) rfl dX6_work_133 ?_
        refine r_iload (i := 9) 0 rfl dX6_work_136 ?_
        refine p_ialdN (t := t - (jNd (ks i))) (by exact bU_s _ _ _) (by omega) (by omega) dX6_work_138 ?_
        refine r_ineg dX6_work_139 ?_
        refine p_iastN (t := t - (jNd (ks i))) (by exact bU_s _ _ _) (by omega) (by omega) dX6_work_140 ?_
        refine bV_h (f2 := bU f 39 (.inl (0, 60, .inl (upd g (t - (jNd (ks i))) (-(g (t - (jNd (ks i))))))))) (bU_u _ _ _ _) ?_
        refine r_goto (tgt := 219) (by decide) dX6_work_141 ?_
        refine r_iload (i := 9) 0 rfl dX6_work_219 ?_
        refine r_iconst (v := 1) (by decide) dX6_work_221 ?_
        refine r_iaddE (v := nI (t - (jNd (ks i)) + 1)) (nI_add (t - (jNd (ks i))) 1) dX6_work_222 ?_
        refine r_istore (i := 5) (L' := [(5, .int (nI (t - (jNd (ks i)) + 1))), (9, .int (nI (t - (jNd (ks i))))), (8, .int (nI (jNd (ks i)))), (7, .int (ks i)), (6, .int (nI i)), (4, .ref mv), (3, .ref mk), (0, .ref 38), (1, .ref mo), (2, .ref r)]) dX6_work_223 (by decide) rfl ?_
        refine r_iinc (i := 6) (v := nI (i + 1)) (L' := [(6, .int (nI (i + 1))), (5, .int (nI (t - (jNd (ks i)) + 1))), (9, .int (nI (t - (jNd (ks i))))), (8, .int (nI (jNd (ks i)))), (7, .int (ks i)), (4, .ref mv), (3, .ref mk), (0, .ref 38), (1, .ref mo), (2, .ref r)]) 4 rfl (nI_inc1 i) dX6_work_225 (by decide) rfl ?_
        refine r_goto (tgt := 17) (by decide) dX6_work_228 ?_
        rw [show rn ip ((ks i, vs i) :: c) (g, t) = rn ip c (upd g (t - (jNd (ks i))) (-(g (t - (jNd (ks i))))), t - jNd (ks i) + 1) by show rn ip c (upd g (t - jNd (ks i)) (opv ip (ks i, vs i) g (t - jNd (ks i))), t - jNd (ks i) + 1) = _; unfold opv; (first | rw [if_pos c82] | rw [if_neg c82]); (first | rw [if_pos c123] | rw [if_neg c123])]; refine bV_loc [0, 1, 5, 6, 7, 8, 9] rfl ?_; exact ih (i + 1) (t - jNd (ks i) + 1) _ (by omega) (fun j h => by have := hk (j + 1) (by simpa using h); simpa [Nat.add_assoc, Nat.add_comm 1 j] using this) o5 (Or.inl (by omega)) (by omega)
    · have c82 : (jNd (ks i)) = 0 := (nI_eq (a := (jNd (ks i))) (b := 0) (by omega) (by omega)).mp c82
      refine r_aload_n (n := 0) (i := 0) 7 rfl rfl dX6_work_85 ?_
      refine p_get (fs := [.ref 39]) flX6_9 (by exact ((bU_n (by decide)).trans (h0))) rfl dX6_work_86 ?_
      refine r_iload (i := 9) 0 rfl dX6_work_89 ?_
      refine r_iload (i := 7) 2 rfl dX6_work_91 ?_
      refine r_sipush (v := 258) (by decide) dX6_work_93 ?_
      refine r_icmp_ne (tgt := 107) (by decide) dX6_work_96 (fun c96 => ?_) (fun c96 => ?_)
      · refine r_aload_n (n := 2) (i := 2) 9 rfl rfl dX6_work_107 ?_
        refine r_aload (i := 4) 5 rfl dX6_work_108 ?_
        refine r_iload (i := 6) 3 rfl dX6_work_110 ?_
        refine p_ialdN (t := i) (by exact ((bU_n (by omega)).trans (h2))) (by omega) (by omega) dX6_work_112 ?_
        refine p_callS (As := [.ref r, .int (vs i)]) (rest := [.int (nI (t - (jNd (ks i)))), .ref 39]) (kX6_valueOf (O := O) (d := 0) (f := bU f 39 (.inl (0, 60, .inl g))) (n := n) (s := s) (ip := ip) (v := vs i) (r := r) (by exact ((bU_n (by omega)).trans (h3))) (o4 c82 c96).1 (o4 c82 c96).2 (Nat.le_refl _)).call rfl lkX6_28 smX6_valueOf rfl rfl (by omega) (Nat.le_of_ble_eq_true rfl) dX6_work_113 (fun v9 G9 h9 => ?_) (fun q9 G9 h9 => (by cases h9.1))
        obtain ⟨h8, rfl⟩ := h9; cases h8
        show bV O _ d 116 [(9, .int (nI (t - (jNd (ks i))))), (8, .int (nI (jNd (ks i)))), (7, .int (ks i)), (6, .int (nI i)), (5, .int (nI t)), (4, .ref mv), (3, .ref mk), (0, .ref 38), (1, .ref mo), (2, .ref r)] [.int (ip (vs i).toNatClampNeg), .int (nI (t - (jNd (ks i)))), .ref 39] (bU f 39 (.inl (0, 60, .inl g)), n, s) _
        refine p_iastN (t := t - (jNd (ks i))) (by exact bU_s _ _ _) (by omega) (by omega) dX6_work_116 ?_
        refine bV_h (f2 := bU f 39 (.inl (0, 60, .inl (upd g (t - (jNd (ks i))) (ip (vs i).toNatClampNeg))))) (bU_u _ _ _ _) ?_
        refine r_goto (tgt := 219) (by decide) dX6_work_117 ?_
        refine r_iload (i := 9) 0 rfl dX6_work_219 ?_
        refine r_iconst (v := 1) (by decide) dX6_work_221 ?_
        refine r_iaddE (v := nI (t - (jNd (ks i)) + 1)) (nI_add (t - (jNd (ks i))) 1) dX6_work_222 ?_
        refine r_istore (i := 5) (L' := [(5, .int (nI (t - (jNd (ks i)) + 1))), (9, .int (nI (t - (jNd (ks i))))), (8, .int (nI (jNd (ks i)))), (7, .int (ks i)), (6, .int (nI i)), (4, .ref mv), (3, .ref mk), (0, .ref 38), (1, .ref mo), (2, .ref r)]) dX6_work_223 (by decide) rfl ?_
        refine r_iinc (i := 6) (v := nI (i + 1)) (L' := [(6, .int (nI (i + 1))), (5, .int (nI (t - (jNd (ks i)) + 1))), (9, .int (nI (t - (jNd (ks i))))), (8, .int (nI (jNd (ks i)))), (7, .int (ks i)), (4, .ref mv), (3, .ref mk), (0, .ref 38), (1, .ref mo), (2, .ref r)]) 4 rfl (nI_inc1 i) dX6_work_225 (by decide) rfl ?_
        refine r_goto (tgt := 17) (by decide) dX6_work_228 ?_
        rw [show rn ip ((ks i, vs i) :: c) (g, t) = rn ip c (upd g (t - (jNd (ks i))) (ip (vs i).toNatClampNeg), t - jNd (ks i) + 1) by show rn ip c (upd g (t - jNd (ks i)) (opv ip (ks i, vs i) g (t - jNd (ks i))), t - jNd (ks i) + 1) = _; unfold opv; (first | rw [if_pos c82] | rw [if_neg c82]); (first | rw [if_pos c96] | rw [if_neg c96])]; refine bV_loc [0, 1, 5, 6, 7, 8, 9] rfl ?_; exact ih (i + 1) (t - jNd (ks i) + 1) _ (by omega) (fun j h => by have := hk (j + 1) (by simpa using h); simpa [Nat.add_assoc, Nat.add_comm 1 j] using this) o5 (Or.inl (by omega)) (by omega)
      · refine r_aload (i := 4) 5 rfl dX6_work_99 ?_
        refine r_iload (i := 6) 3 rfl dX6_work_101 ?_
        refine p_ialdN (t := i) (by exact ((bU_n (by omega)).trans (h2))) (by omega) (by omega) dX6_work_103 ?_
        refine r_goto (tgt := 116) (by decide) dX6_work_104 ?_
        refine p_iastN (t := t - (jNd (ks i))) (by exact bU_s _ _ _) (by omega) (by omega) dX6_work_116 ?_
        refine bV_h (f2 := bU f 39 (.inl (0, 60, .inl (upd g (t - (jNd (ks i))) (vs i))))) (bU_u _ _ _ _) ?_
        refine r_goto (tgt := 219) (by decide) dX6_work_117 ?_
        refine r_iload (i := 9) 0 rfl dX6_work_219 ?_
        refine r_iconst (v := 1) (by decide) dX6_work_221 ?_
        refine r_iaddE (v := nI (t - (jNd (ks i)) + 1)) (nI_add (t - (jNd (ks i))) 1) dX6_work_222 ?_
        refine r_istore (i := 5) (L' := [(5, .int (nI (t - (jNd (ks i)) + 1))), (9, .int (nI (t - (jNd (ks i))))), (8, .int (nI (jNd (ks i)))), (7, .int (ks i)), (6, .int (nI i)), (4, .ref mv), (3, .ref mk), (0, .ref 38), (1, .ref mo), (2, .ref r)]) dX6_work_223 (by decide) rfl ?_
        refine r_iinc (i := 6) (v := nI (i + 1)) (L' := [(6, .int (nI (i + 1))), (5, .int (nI (t - (jNd (ks i)) + 1))), (9, .int (nI (t - (jNd (ks i))))), (8, .int (nI (jNd (ks i)))), (7, .int (ks i)), (4, .ref mv), (3, .ref mk), (0, .ref 38), (1, .ref mo), (2, .ref r)]) 4 rfl (nI_inc1 i) dX6_work_225 (by decide) rfl ?_
        refine r_goto (tgt := 17) (by decide) dX6_work_228 ?_
        rw [show rn ip ((ks i, vs i) :: c) (g, t) = rn ip c (upd g (t - (jNd (ks i))) (vs i), t - jNd (ks i) + 1) by show rn ip c (upd g (t - jNd (ks i)) (opv ip (ks i, vs i) g (t - jNd (ks i))), t - jNd (ks i) + 1) = _; unfold opv; (first | rw [if_pos c82] | rw [if_neg c82]); (first | rw [if_pos c96] | rw [if_neg c96])]; refine bV_loc [0, 1, 5, 6, 7, 8, 9] rfl ?_; exact ih (i + 1) (t - jNd (ks i) + 1) _ (by omega) (fun j h => by have := hk (j + 1) (by simpa using h); simpa [Nat.add_assoc, Nat.add_comm 1 j] using this) o5 (Or.inl (by omega)) (by omega)
set_option maxRecDepth 4000 in
theorem kX6_work {O : bO} {d : Nat} {f : bF} {n s : Nat} {N mk mv mo r : Nat} {b : Int32} {ks vs ip g : Nat → Int32} {c : List (Int32 × Int32)} (h0 : f 38 = some (.inr (6, [.ref 39]))) (hm : f mo = some (.inr (2, [.ref mk, .ref mv, .int b]))) (h1 : f mk = some (.inl (0, N, .inl ks))) (h2 : f mv = some (.inl (0, N, .inl vs))) (h3 : f r = some (.inl (0, 6, .inl ip))) (h4 : f 39 = some (.inl (0, 60, .inl g))) (hN : N ≤ 60) (e1 : mk ≠ 39) (e2 : mv ≠ 39) (e3 : r ≠ 39) (hc : cod ks vs c) (hl : c.length = N) (ho : okr c 0) (hne : c ≠ []) (hd : 3 ≤ d) : bMt O mX6_work d [.ref 38, .ref mo, .ref r] (f, n, s) (.inl (some (.int ((rn ip c (g, 0)).1 0)))) (bU f 39 (.inl (0, 60, .inl (rn ip c (g, 0)).1)), n, s) := by
  refine bMt_of (bCall_of (by decide) rfl (Nat.le_of_ble_eq_true rfl) ?_)
  show bV O _ d 0 [(0, .ref 38), (1, .ref mo), (2, .ref r)] [] (f, n, s) _
  refine r_aload_n (n := 1) (i := 1) 1 rfl rfl dX6_work_0 ?_
  refine p_get (fs := [.ref mk, .ref mv, .int b]) flX6_15 hm rfl dX6_work_1 ?_
  refine r_astore_n (n := 3) (i := 3) (L' := [(3, .ref mk), (0, .ref 38), (1, .ref mo), (2, .ref r)]) rfl dX6_work_4 (by decide) rfl ?_
  refine r_aload_n (n := 1) (i := 1) 2 rfl rfl dX6_work_5 ?_
  refine p_get (fs := [.ref mk, .ref mv, .int b]) flX6_20 hm rfl dX6_work_6 ?_
  refine r_astore (i := 4) (L' := [(4, .ref mv), (3, .ref mk), (0, .ref 38), (1, .ref mo), (2, .ref r)]) dX6_work_9 (by decide) rfl ?_
  refine r_iconst (v := 0) (by decide) dX6_work_11 ?_
  refine r_istore (i := 5) (L' := [(5, .int 0), (4, .ref mv), (3, .ref mk), (0, .ref 38), (1, .ref mo), (2, .ref r)]) dX6_work_12 (by decide) rfl ?_
  refine r_iconst (v := 0) (by decide) dX6_work_14 ?_
  refine r_istore (i := 6) (L' := [(6, .int 0), (5, .int 0), (4, .ref mv), (3, .ref mk), (0, .ref 38), (1, .ref mo), (2, .ref r)]) dX6_work_15 (by decide) rfl ?_
  have hh := lp_work (n := n) (s := s) (O := O) (mo := mo) h0 h1 h2 h3 hN e1 e2 e3 hd c 0 0 g (by omega) (fun j h => by have h9 := hc j c[j] (List.getElem?_eq_getElem h); rw [Nat.zero_add, h9.1, h9.2]) ho (Or.inr hne) (by omega)
  rw [bU_i h4] at hh
  exact hh
