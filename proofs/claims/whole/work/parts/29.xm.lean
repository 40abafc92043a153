/-! ===== the class's calls (printed by wip/gen/xm.py) ===== -/
theorem oAt_pos {A : Nat → Nat} {n : Nat} {x : Int32} (h : inB x n = true) : oAt A n x = .ref (A (cl x)) := if_pos h
theorem oAt_neg {A : Nat → Nat} {n : Nat} {x : Int32} (h : ¬ inB x n = true) : oAt A n x = .null := if_neg h
theorem oAt_lt0 {A : Nat → Nat} {n : Nat} {x : Int32} (h : x < 0) : oAt A n x = .null := if_neg (fun h2 => inB_nn h2 h)
theorem cl_ge {x : Int32} {N : Nat} (h0 : ¬ x < 0) (h : nI N ≤ x) (hN : N < 2 ^ 31) : N ≤ cl x := by
  obtain ⟨j, hj, rfl⟩ := nI_of h0
  rw [cl_nI hj]
  exact (nI_leI hN hj).mp h
theorem cl_lt {x : Int32} {N : Nat} (h0 : ¬ x < 0) (h : ¬ nI N ≤ x) (hN : N < 2 ^ 31) : cl x < N := by
  obtain ⟨j, hj, rfl⟩ := nI_of h0
  rw [cl_nI hj]
  exact Nat.lt_of_not_le (fun h2 => h ((nI_leI hN hj).mpr h2))
theorem oAt_ge {A : Nat → Nat} {n N : Nat} {x : Int32} (h0 : ¬ x < 0) (h : nI N ≤ x) (hn : n ≤ N) (hN : N < 2 ^ 31) : oAt A n x = .null := if_neg (fun h2 => by have := inB_lt h2; have := cl_ge h0 h hN; omega)
theorem oAt_tab {A : Nat → Nat} {n : Nat} {x : Int32} (h0 : ¬ x < 0) : va_rf (tabF A n (cl x)) = oAt A n x := by
  unfold tabF oAt
  by_cases h : cl x < n
  · rw [if_pos h, if_pos (show inB x n = true by simp only [inB, decide_eq_false h0, decide_eq_true h]; rfl)]
    rfl
  · rw [if_neg h, if_neg (fun h2 => h (inB_lt h2))]
    rfl
set_option maxRecDepth 4000 in
theorem kX7_modelAt {O : bO} {d : Nat} {f : bF} {n s : Nat} {ct_m : Int32} {ct_d : Int32} {ct_a : Int32} {ct_f : Int32} {tday : Int32} {trb : Int32} {flt : Int32} {plc : Int32} {x : Int32} {nn : Nat} (h0 : f 32 = some (.inr (7, [.ref 33, .ref 38, .ref 40, .ref 41, .ref 42, .ref 43, .ref 44, .ref 45, .int ct_m, .int ct_d, .int ct_a, .int ct_f, .int tday, .int trb, .int flt, .int plc]))) (h1 : f 40 = some (.inl (3, 20, .inr (.inr (.inr (.inr (tabF mA nn))))))) (e0 : nn ≤ 20) (hd : 0 ≤ d) : bMt O mX7_modelAt d [.ref 32, .int x] (f, n, s) (.inl (some (oAt mA nn x))) (f, n, s) := by
  refine bMt_of (bCall_of (by decide) rfl (Nat.le_of_ble_eq_true rfl) ?_)
  show bV O _ d 0 [(0, .ref 32), (1, .int x)] [] (f, n, s) _
  refine r_iload_n (n := 1) (i := 1) 1 rfl rfl dX7_modelAt_0 ?_
  refine r_if_lt (tgt := 22) (by decide) dX7_modelAt_1 (fun c1 => ?_) (fun c1 => ?_)
  · refine r_null dX7_modelAt_22 ?_
    refine r_areturnN rfl (by first | exact Or.inl ⟨_, rfl⟩ | exact Or.inr ⟨_, rfl⟩) dX7_modelAt_23 ?_
    refine ⟨?_, rfl⟩
    first | rw [oAt_lt0 c1] | rw [oAt_ge c1 c10 e0 (by decide)]
  · refine r_iload_n (n := 1) (i := 1) 1 rfl rfl dX7_modelAt_4 ?_
    refine r_aload_n (n := 0) (i := 0) 0 rfl rfl dX7_modelAt_5 ?_
    refine p_get (fs := [.ref 33, .ref 38, .ref 40, .ref 41, .ref 42, .ref 43, .ref 44, .ref 45, .int ct_m, .int ct_d, .int ct_a, .int ct_f, .int tday, .int trb, .int flt, .int plc]) flX7_27 h0 rfl dX7_modelAt_6 ?_
    refine p_alen2 (kd := 3) (n := 20) (a := (20, .inr (.inr (.inr (.inr (tabF mA nn)))))) rfl h1 rfl dX7_modelAt_9 ?_
    refine r_icmp_ge (tgt := 22) (by decide) dX7_modelAt_10 (fun c10 => ?_) (fun c10 => ?_)
    · refine r_null dX7_modelAt_22 ?_
      refine r_areturnN rfl (by first | exact Or.inl ⟨_, rfl⟩ | exact Or.inr ⟨_, rfl⟩) dX7_modelAt_23 ?_
      refine ⟨?_, rfl⟩
      first | rw [oAt_lt0 c1] | rw [oAt_ge c1 c10 e0 (by decide)]
    · refine r_aload_n (n := 0) (i := 0) 0 rfl rfl dX7_modelAt_13 ?_
      refine p_get (fs := [.ref 33, .ref 38, .ref 40, .ref 41, .ref 42, .ref 43, .ref 44, .ref 45, .int ct_m, .int ct_d, .int ct_a, .int ct_f, .int tday, .int trb, .int flt, .int plc]) flX7_27 h0 rfl dX7_modelAt_14 ?_
      refine r_iload_n (n := 1) (i := 1) 1 rfl rfl dX7_modelAt_17 ?_
      refine p_aald (kd := 3) rfl h1 (by first | assumption | exact vpn_lit (by decide) (by decide) | (refine vpn ?_ ?_ (by decide) <;> first | assumption | (simp only [Int32.not_lt, Int32.not_le] at *; first | assumption | omega))) dX7_modelAt_18 ?_
      rw [oAt_tab c1]
      by_cases hb : inB x nn = true
      · rw [oAt_pos hb]
        refine r_goto (tgt := 23) (by decide) dX7_modelAt_19 ?_
        refine r_areturn rfl (by first | exact Or.inl ⟨_, rfl⟩ | exact Or.inr ⟨_, rfl⟩) dX7_modelAt_23 ?_
        exact ⟨rfl, rfl⟩
      · rw [oAt_neg hb]
        refine r_goto (tgt := 23) (by decide) dX7_modelAt_19 ?_
        refine r_areturnN rfl (by first | exact Or.inl ⟨_, rfl⟩ | exact Or.inr ⟨_, rfl⟩) dX7_modelAt_23 ?_
        exact ⟨rfl, rfl⟩
set_option maxRecDepth 4000 in
theorem kX7_doorAt {O : bO} {d : Nat} {f : bF} {n s : Nat} {ct_m : Int32} {ct_d : Int32} {ct_a : Int32} {ct_f : Int32} {tday : Int32} {trb : Int32} {flt : Int32} {plc : Int32} {x : Int32} {nn : Nat} (h0 : f 32 = some (.inr (7, [.ref 33, .ref 38, .ref 40, .ref 41, .ref 42, .ref 43, .ref 44, .ref 45, .int ct_m, .int ct_d, .int ct_a, .int ct_f, .int tday, .int trb, .int flt, .int plc]))) (h1 : f 41 = some (.inl (4, 4, .inr (.inr (.inr (.inr (tabF dA nn))))))) (e0 : nn ≤ 4) (hd : 0 ≤ d) : bMt O mX7_doorAt d [.ref 32, .int x] (f, n, s) (.inl (some (oAt dA nn x))) (f, n, s) := by
  refine bMt_of (bCall_of (by decide) rfl (Nat.le_of_ble_eq_true rfl) ?_)
  show bV O _ d 0 [(0, .ref 32), (1, .int x)] [] (f, n, s) _
  refine r_iload_n (n := 1) (i := 1) 1 rfl rfl dX7_doorAt_0 ?_
  refine r_if_lt (tgt := 22) (by decide) dX7_doorAt_1 (fun c1 => ?_) (fun c1 => ?_)
  · refine r_null dX7_doorAt_22 ?_
    refine r_areturnN rfl (by first | exact Or.inl ⟨_, rfl⟩ | exact Or.inr ⟨_, rfl⟩) dX7_doorAt_23 ?_
    refine ⟨?_, rfl⟩
    first | rw [oAt_lt0 c1] | rw [oAt_ge c1 c10 e0 (by decide)]
  · refine r_iload_n (n := 1) (i := 1) 1 rfl rfl dX7_doorAt_4 ?_
    refine r_aload_n (n := 0) (i := 0) 0 rfl rfl dX7_doorAt_5 ?_
    refine p_get (fs := [.ref 33, .ref 38, .ref 40, .ref 41, .ref 42, .ref 43, .ref 44, .ref 45, .int ct_m, .int ct_d, .int ct_a, .int ct_f, .int tday, .int trb, .int flt, .int plc]) flX7_33 h0 rfl dX7_doorAt_6 ?_
    refine p_alen2 (kd := 4) (n := 4) (a := (4, .inr (.inr (.inr (.inr (tabF dA nn)))))) rfl h1 rfl dX7_doorAt_9 ?_
    refine r_icmp_ge (tgt := 22) (by decide) dX7_doorAt_10 (fun c10 => ?_) (fun c10 => ?_)
    · refine r_null dX7_doorAt_22 ?_
      refine r_areturnN rfl (by first | exact Or.inl ⟨_, rfl⟩ | exact Or.inr ⟨_, rfl⟩) dX7_doorAt_23 ?_
      refine ⟨?_, rfl⟩
      first | rw [oAt_lt0 c1] | rw [oAt_ge c1 c10 e0 (by decide)]
    · refine r_aload_n (n := 0) (i := 0) 0 rfl rfl dX7_doorAt_13 ?_
      refine p_get (fs := [.ref 33, .ref 38, .ref 40, .ref 41, .ref 42, .ref 43, .ref 44, .ref 45, .int ct_m, .int ct_d, .int ct_a, .int ct_f, .int tday, .int trb, .int flt, .int plc]) flX7_33 h0 rfl dX7_doorAt_14 ?_
      refine r_iload_n (n := 1) (i := 1) 1 rfl rfl dX7_doorAt_17 ?_
      refine p_aald (kd := 4) rfl h1 (by first | assumption | exact vpn_lit (by decide) (by decide) | (refine vpn ?_ ?_ (by decide) <;> first | assumption | (simp only [Int32.not_lt, Int32.not_le] at *; first | assumption | omega))) dX7_doorAt_18 ?_
      rw [oAt_tab c1]
      by_cases hb : inB x nn = true
      · rw [oAt_pos hb]
        refine r_goto (tgt := 23) (by decide) dX7_doorAt_19 ?_
        refine r_areturn rfl (by first | exact Or.inl ⟨_, rfl⟩ | exact Or.inr ⟨_, rfl⟩) dX7_doorAt_23 ?_
        exact ⟨rfl, rfl⟩
      · rw [oAt_neg hb]
        refine r_goto (tgt := 23) (by decide) dX7_doorAt_19 ?_
        refine r_areturnN rfl (by first | exact Or.inl ⟨_, rfl⟩ | exact Or.inr ⟨_, rfl⟩) dX7_doorAt_23 ?_
        exact ⟨rfl, rfl⟩
set_option maxRecDepth 4000 in
theorem kX7_answerAt {O : bO} {d : Nat} {f : bF} {n s : Nat} {ct_m : Int32} {ct_d : Int32} {ct_a : Int32} {ct_f : Int32} {tday : Int32} {trb : Int32} {flt : Int32} {plc : Int32} {x : Int32} {nn : Nat} (h0 : f 32 = some (.inr (7, [.ref 33, .ref 38, .ref 40, .ref 41, .ref 42, .ref 43, .ref 44, .ref 45, .int ct_m, .int ct_d, .int ct_a, .int ct_f, .int tday, .int trb, .int flt, .int plc]))) (h1 : f 42 = some (.inl (5, 200, .inr (.inr (.inr (.inr (tabF aA nn))))))) (e0 : nn ≤ 200) (hd : 0 ≤ d) : bMt O mX7_answerAt d [.ref 32, .int x] (f, n, s) (.inl (some (oAt aA nn x))) (f, n, s) := by
  refine bMt_of (bCall_of (by decide) rfl (Nat.le_of_ble_eq_true rfl) ?_)
  show bV O _ d 0 [(0, .ref 32), (1, .int x)] [] (f, n, s) _
  refine r_iload_n (n := 1) (i := 1) 1 rfl rfl dX7_answerAt_0 ?_
  refine r_if_lt (tgt := 22) (by decide) dX7_answerAt_1 (fun c1 => ?_) (fun c1 => ?_)
  · refine r_null dX7_answerAt_22 ?_
    refine r_areturnN rfl (by first | exact Or.inl ⟨_, rfl⟩ | exact Or.inr ⟨_, rfl⟩) dX7_answerAt_23 ?_
    refine ⟨?_, rfl⟩
    first | rw [oAt_lt0 c1] | rw [oAt_ge c1 c10 e0 (by decide)]
  · refine r_iload_n (n := 1) (i := 1) 1 rfl rfl dX7_answerAt_4 ?_
    refine r_aload_n (n := 0) (i := 0) 0 rfl rfl dX7_answerAt_5 ?_
    refine p_get (fs := [.ref 33, .ref 38, .ref 40, .ref 41, .ref 42, .ref 43, .ref 44, .ref 45, .int ct_m, .int ct_d, .int ct_a, .int ct_f, .int tday, .int trb, .int flt, .int plc]) flX7_39 h0 rfl dX7_answerAt_6 ?_
    refine p_alen2 (kd := 5) (n := 200) (a := (200, .inr (.inr (.inr (.inr (tabF aA nn)))))) rfl h1 rfl dX7_answerAt_9 ?_
    refine r_icmp_ge (tgt := 22) (by decide) dX7_answerAt_10 (fun c10 => ?_) (fun c10 => ?_)
    · refine r_null dX7_answerAt_22 ?_
      refine r_areturnN rfl (by first | exact Or.inl ⟨_, rfl⟩ | exact Or.inr ⟨_, rfl⟩) dX7_answerAt_23 ?_
      refine ⟨?_, rfl⟩
      first | rw [oAt_lt0 c1] | rw [oAt_ge c1 c10 e0 (by decide)]
    · refine r_aload_n (n := 0) (i := 0) 0 rfl rfl dX7_answerAt_13 ?_
      refine p_get (fs := [.ref 33, .ref 38, .ref 40, .ref 41, .ref 42, .ref 43, .ref 44, .ref 45, .int ct_m, .int ct_d, .int ct_a, .int ct_f, .int tday, .int trb, .int flt, .int plc]) flX7_39 h0 rfl dX7_answerAt_14 ?_
      refine r_iload_n (n := 1) (i := 1) 1 rfl rfl dX7_answerAt_17 ?_
      refine p_aald (kd := 5) rfl h1 (by first | assumption | exact vpn_lit (by decide) (by decide) | (refine vpn ?_ ?_ (by decide) <;> first | assumption | (simp only [Int32.not_lt, Int32.not_le] at *; first | assumption | omega))) dX7_answerAt_18 ?_
      rw [oAt_tab c1]
      by_cases hb : inB x nn = true
      · rw [oAt_pos hb]
        refine r_goto (tgt := 23) (by decide) dX7_answerAt_19 ?_
        refine r_areturn rfl (by first | exact Or.inl ⟨_, rfl⟩ | exact Or.inr ⟨_, rfl⟩) dX7_answerAt_23 ?_
        exact ⟨rfl, rfl⟩
      · rw [oAt_neg hb]
        refine r_goto (tgt := 23) (by decide) dX7_answerAt_19 ?_
        refine r_areturnN rfl (by first | exact Or.inl ⟨_, rfl⟩ | exact Or.inr ⟨_, rfl⟩) dX7_answerAt_23 ?_
        exact ⟨rfl, rfl⟩
theorem tbO4 (x : Int32) (q0 : ¬ x = 0) (q1 : ¬ x = 1) (q2 : ¬ x = 2) (q3 : ¬ x = 3) : x.toInt < 0 ∨ 3 < x.toInt := by
  have h0 : x.toInt ≠ 0 := toInt_ne (k := 0) q0
  have h1 : x.toInt ≠ 1 := toInt_ne (k := 1) q1
  have h2 : x.toInt ≠ 2 := toInt_ne (k := 2) q2
  have h3 : x.toInt ≠ 3 := toInt_ne (k := 3) q3
  omega
theorem tbO5 (x : Int32) (q0 : ¬ x = 0) (q1 : ¬ x = 1) (q2 : ¬ x = 2) (q3 : ¬ x = 3) (q4 : ¬ x = 4) : x.toInt < 0 ∨ 4 < x.toInt := by
  have h0 : x.toInt ≠ 0 := toInt_ne (k := 0) q0
  have h1 : x.toInt ≠ 1 := toInt_ne (k := 1) q1
  have h2 : x.toInt ≠ 2 := toInt_ne (k := 2) q2
  have h3 : x.toInt ≠ 3 := toInt_ne (k := 3) q3
  have h4 : x.toInt ≠ 4 := toInt_ne (k := 4) q4
  omega
theorem tbO6 (x : Int32) (q0 : ¬ x = 0) (q1 : ¬ x = 1) (q2 : ¬ x = 2) (q3 : ¬ x = 3) (q4 : ¬ x = 4) (q5 : ¬ x = 5) : x.toInt < 0 ∨ 5 < x.toInt := by
  have h0 : x.toInt ≠ 0 := toInt_ne (k := 0) q0
  have h1 : x.toInt ≠ 1 := toInt_ne (k := 1) q1
  have h2 : x.toInt ≠ 2 := toInt_ne (k := 2) q2
  have h3 : x.toInt ≠ 3 := toInt_ne (k := 3) q3
  have h4 : x.toInt ≠ 4 := toInt_ne (k := 4) q4
  have h5 : x.toInt ≠ 5 := toInt_ne (k := 5) q5
  omega
theorem vpk {k : Int32} {n : Nat} (h0 : ¬ k < 0) (h : k < nI n) (hn : n < 2 ^ 31) : vp_in k n := vpn h0 (fun h7 => absurd h (Int32.not_lt.mpr h7)) hn
theorem bin_k {k b : Int32} (h : jBin k b = true) : ¬ k < 0 ∧ ¬ b < 0 ∧ cl k < 6 ∧ cl b < 4 := by
  unfold jBin at h
  simp only [Bool.and_eq_true, Bool.not_eq_true', decide_eq_false_iff_not] at h
  obtain ⟨⟨⟨h1, h2⟩, h3⟩, h4⟩ := h
  exact ⟨h1, h3, cl_lt h1 (N := 6) h2 (by decide), cl_lt h3 (N := 4) h4 (by decide)⟩
theorem bin_e {k b : Int32} (h : jBin k b = true) : k * 4 + b = nI (cl k * 4 + cl b) := by
  obtain ⟨h1, h2, -, -⟩ := bin_k h
  rw [← nI_add, ← pk_mul, nI_cl h1, nI_cl h2]
  rfl
theorem bin_cl {k b : Int32} (h : jBin k b = true) : (k * 4 + b).toNatClampNeg = cl k * 4 + cl b := by
  have h9 := bin_k h
  rw [bin_e h, nI_clamp (by omega)]
theorem bin_in {k b : Int32} (h : jBin k b = true) : vp_in (k * 4 + b) 24 := by
  have h9 := bin_k h
  rw [bin_e h]
  exact vp_in_nI (by omega) (by omega)
theorem kX1_seenInG {O : bO} {d : Nat} {f : bF} {n s : Nat} {q : Nat} {ch : Int32} {rv : Int32} {sh : Int32} {fc : Nat} {cn : Nat} {kp : Int32} {rf : Int32} {g : Nat → Int32} {k b : Int32} (h0 : f q = some (.inr (1, [.ref (q + 1), .ref (q + 2), .ref (q + 3), .ref (q + 4), .ref (q + 5), .ref (q + 6), .ref (q + 7), .int ch, .int rv, .int sh, .int (nI fc), .int (nI cn), .int kp, .int rf]))) (h1 : f (q + 6) = some (.inl (0, 24, .inl g))) (e0 : jBin k b = true) (hd : 1 ≤ d) : bMt O mX1_seenIn d [.ref q, .int k, .int b] (f, n, s) (.inl (some (.int (g (cl k * 4 + cl b))))) (f, n, s) := by
  have h := bin_k e0
  have h9 := kX1_seenIn (O := O) (n := n) (s := s) (k := cl k) (b := cl b) h0 h1 h.2.2.1 h.2.2.2 hd
  rw [nI_cl h.1, nI_cl h.2.1] at h9
  exact h9
theorem kX1_driftOfG {O : bO} {d : Nat} {f : bF} {n s : Nat} {q : Nat} {ch : Int32} {rv : Int32} {sh : Int32} {fc : Nat} {cn : Nat} {kp : Int32} {rf : Int32} {sn tl : Nat → Int32} {k : Int32} (h0 : f q = some (.inr (1, [.ref (q + 1), .ref (q + 2), .ref (q + 3), .ref (q + 4), .ref (q + 5), .ref (q + 6), .ref (q + 7), .int ch, .int rv, .int sh, .int (nI fc), .int (nI cn), .int kp, .int rf]))) (h1 : f (q + 6) = some (.inl (0, 24, .inl sn))) (h2 : f (q + 7) = some (.inl (0, 24, .inl tl))) (e0 : ¬ k < 0) (e1 : cl k < 6) (e2 : ¬ jAll sn (cl k) ≤ 0 → 0 < jAll tl (cl k) → ¬ jAll sn (cl k) * jAll tl (cl k) = 0) (hd : 2 ≤ d) : bMt O mX1_driftOf d [.ref q, .int k] (f, n, s) (.inl (some (.int (jDrift sn tl (cl k))))) (f, n, s) := by
  have h9 := kX1_driftOf (O := O) (n := n) (s := s) (k := cl k) h0 h1 h2 e1 e2 hd
  rw [nI_cl e0] at h9
  exact h9
set_option maxRecDepth 4000 in
theorem x_fault {O : bO} {d : Nat} {f : bF} {n s : Nat} {bs : Nat → Int32} {tl : Nat} {mc : Nat} {md : Nat → MR} {ip : Nat → Int32} {dc : Nat} {dr : Nat → DR} {ac : Nat} {an : Nat → AR} {hs : Bool} {sd : Nat → Int32} {df : Nat → Int32} {dfn : Nat} {td : Nat} {tr : Int32} {ft : Int32} {pl : Int32}  (hX : XR f (bs, tl, mc, md, ip, dc, dr, ac, an, hs, sd, df, dfn, td, tr, ft, pl)) (jX : JX (bs, tl, mc, md, ip, dc, dr, ac, an, hs, sd, df, dfn, td, tr, ft, pl))  (hd : 0 ≤ d) : bCall O mX7_fault d [.ref 32] (f, n, s) (pX f n s 0 0 (s_fault (bs, tl, mc, md, ip, dc, dr, ac, an, hs, sd, df, dfn, td, tr, ft, pl) )) := by
  refine bCall_of (by decide) rfl (Nat.le_of_ble_eq_true rfl) ?_
  obtain ⟨hS, hT, hW, hM, hD, hA, hI, hC, hF⟩ := id hX
  obtain ⟨j1, j2, j3, j4, j5, j6, j7, j8⟩ := id jX
  simp only [] at hS hT hW hM hD hA hI hC hF j1 j2 j3 j4 j5 j6 j7 j8
  show bV O _ d 0 [(0, .ref 32)] [] (f, n, s) _
  refine r_aload_n (n := 0) (i := 0) 0 rfl rfl dX7_fault_0 ?_
  refine p_get (fs := [.ref 33, .ref 38, .ref 40, .ref 41, .ref 42, .ref 43, .ref 44, .ref 45, .int (nI mc), .int (nI dc), .int (nI ac), .int (nI dfn), .int (nI td), .int tr, .int ft, .int pl]) flX7_78 hS rfl dX7_fault_1 ?_
  refine r_ireturn rfl dX7_fault_4 ?_
  unfold s_fault
  try simp only []
  exact pX_mk (hS) (hT.fr (fun q _ _ => rfl)) (hW.fr (fun q _ _ => rfl)) (hM.fr j1 (fun q _ => rfl)) (hD.fr j2 (fun q _ => rfl)) (hA.fr j3 (fun q _ => rfl)) (hI) (by obtain ⟨tk8, h8⟩ := hC; exact ⟨tk8, h8⟩) (hF) (fun q _ => rfl) (by omega) (by omega)
set_option maxRecDepth 4000 in
theorem x_where {O : bO} {d : Nat} {f : bF} {n s : Nat} {bs : Nat → Int32} {tl : Nat} {mc : Nat} {md : Nat → MR} {ip : Nat → Int32} {dc : Nat} {dr : Nat → DR} {ac : Nat} {an : Nat → AR} {hs : Bool} {sd : Nat → Int32} {df : Nat → Int32} {dfn : Nat} {td : Nat} {tr : Int32} {ft : Int32} {pl : Int32}  (hX : XR f (bs, tl, mc, md, ip, dc, dr, ac, an, hs, sd, df, dfn, td, tr, ft, pl)) (jX : JX (bs, tl, mc, md, ip, dc, dr, ac, an, hs, sd, df, dfn, td, tr, ft, pl))  (hd : 0 ≤ d) : bCall O mX7_where d [.ref 32] (f, n, s) (pX f n s 0 0 (s_where (bs, tl, mc, md, ip, dc, dr, ac, an, hs, sd, df, dfn, td, tr, ft, pl) )) := by
  refine bCall_of (by decide) rfl (Nat.le_of_ble_eq_true rfl) ?_
  obtain ⟨hS, hT, hW, hM, hD, hA, hI, hC, hF⟩ := id hX
  obtain ⟨j1, j2, j3, j4, j5, j6, j7, j8⟩ := id jX
  simp only [] at hS hT hW hM hD hA hI hC hF j1 j2 j3 j4 j5 j6 j7 j8
  show bV O _ d 0 [(0, .ref 32)] [] (f, n, s) _
  refine r_aload_n (n := 0) (i := 0) 0 rfl rfl dX7_where_0 ?_
  refine p_get (fs := [.ref 33, .ref 38, .ref 40, .ref 41, .ref 42, .ref 43, .ref 44, .ref 45, .int (nI mc), .int (nI dc), .int (nI ac), .int (nI dfn), .int (nI td), .int tr, .int ft, .int pl]) flX7_96 hS rfl dX7_where_1 ?_
  refine r_iconst (v := 4) (by decide) dX7_where_4 ?_
  refine r_icmp_ne (tgt := 15) (by decide) dX7_where_5 (fun c5 => ?_) (fun c5 => ?_)
  · refine r_iconst (v := (-1)) (by decide) dX7_where_15 ?_
    refine r_ireturn rfl dX7_where_16 ?_
    unfold s_where
    try simp only []
    try (first | simp only [if_pos c5] | simp only [if_neg c5] | simp only [if_neg (Bool.eq_false_iff.mp c5)])
    exact pX_mk (hS) (hT.fr (fun q _ _ => rfl)) (hW.fr (fun q _ _ => rfl)) (hM.fr j1 (fun q _ => rfl)) (hD.fr j2 (fun q _ => rfl)) (hA.fr j3 (fun q _ => rfl)) (hI) (by obtain ⟨tk8, h8⟩ := hC; exact ⟨tk8, h8⟩) (hF) (fun q _ => rfl) (by omega) (by omega)
  · refine r_aload_n (n := 0) (i := 0) 0 rfl rfl dX7_where_8 ?_
    refine p_get (fs := [.ref 33, .ref 38, .ref 40, .ref 41, .ref 42, .ref 43, .ref 44, .ref 45, .int (nI mc), .int (nI dc), .int (nI ac), .int (nI dfn), .int (nI td), .int tr, .int ft, .int pl]) flX7_84 hS rfl dX7_where_9 ?_
    refine r_goto (tgt := 16) (by decide) dX7_where_12 ?_
    refine r_ireturn rfl dX7_where_16 ?_
    unfold s_where
    try simp only []
    try (first | simp only [if_pos c5] | simp only [if_neg c5] | simp only [if_neg (Bool.eq_false_iff.mp c5)])
    exact pX_mk (hS) (hT.fr (fun q _ _ => rfl)) (hW.fr (fun q _ _ => rfl)) (hM.fr j1 (fun q _ => rfl)) (hD.fr j2 (fun q _ => rfl)) (hA.fr j3 (fun q _ => rfl)) (hI) (by obtain ⟨tk8, h8⟩ := hC; exact ⟨tk8, h8⟩) (hF) (fun q _ => rfl) (by omega) (by omega)
set_option maxRecDepth 4000 in
theorem x_trouble {O : bO} {d : Nat} {f : bF} {n s : Nat} {bs : Nat → Int32} {tl : Nat} {mc : Nat} {md : Nat → MR} {ip : Nat → Int32} {dc : Nat} {dr : Nat → DR} {ac : Nat} {an : Nat → AR} {hs : Bool} {sd : Nat → Int32} {df : Nat → Int32} {dfn : Nat} {td : Nat} {tr : Int32} {ft : Int32} {pl : Int32}  (hX : XR f (bs, tl, mc, md, ip, dc, dr, ac, an, hs, sd, df, dfn, td, tr, ft, pl)) (jX : JX (bs, tl, mc, md, ip, dc, dr, ac, an, hs, sd, df, dfn, td, tr, ft, pl))  (hd : 0 ≤ d) : bCall O mX7_trouble d [.ref 32] (f, n, s) (pX f n s 0 0 (s_trouble (bs, tl, mc, md, ip, dc, dr, ac, an, hs, sd, df, dfn, td, tr, ft, pl) )) := by
  refine bCall_of (by decide) rfl (Nat.le_of_ble_eq_true rfl) ?_
  obtain ⟨hS, hT, hW, hM, hD, hA, hI, hC, hF⟩ := id hX
  obtain ⟨j1, j2, j3, j4, j5, j6, j7, j8⟩ := id jX
  simp only [] at hS hT hW hM hD hA hI hC hF j1 j2 j3 j4 j5 j6 j7 j8
  show bV O _ d 0 [(0, .ref 32)] [] (f, n, s) _
  refine r_aload_n (n := 0) (i := 0) 0 rfl rfl dX7_trouble_0 ?_
  refine p_get (fs := [.ref 33, .ref 38, .ref 40, .ref 41, .ref 42, .ref 43, .ref 44, .ref 45, .int (nI mc), .int (nI dc), .int (nI ac), .int (nI dfn), .int (nI td), .int tr, .int ft, .int pl]) flX7_96 hS rfl dX7_trouble_1 ?_
  refine r_ireturn rfl dX7_trouble_4 ?_
  unfold s_trouble
  try simp only []
  exact pX_mk (hS) (hT.fr (fun q _ _ => rfl)) (hW.fr (fun q _ _ => rfl)) (hM.fr j1 (fun q _ => rfl)) (hD.fr j2 (fun q _ => rfl)) (hA.fr j3 (fun q _ => rfl)) (hI) (by obtain ⟨tk8, h8⟩ := hC; exact ⟨tk8, h8⟩) (hF) (fun q _ => rfl) (by omega) (by omega)
set_option maxRecDepth 4000 in
theorem x_input {O : bO} {d : Nat} {f : bF} {n s : Nat} {bs : Nat → Int32} {tl : Nat} {mc : Nat} {md : Nat → MR} {ip : Nat → Int32} {dc : Nat} {dr : Nat → DR} {ac : Nat} {an : Nat → AR} {hs : Bool} {sd : Nat → Int32} {df : Nat → Int32} {dfn : Nat} {td : Nat} {tr : Int32} {ft : Int32} {pl : Int32} {k : Int32} {v : Int32} (hX : XR f (bs, tl, mc, md, ip, dc, dr, ac, an, hs, sd, df, dfn, td, tr, ft, pl)) (jX : JX (bs, tl, mc, md, ip, dc, dr, ac, an, hs, sd, df, dfn, td, tr, ft, pl))  (hd : 1 ≤ d) : bCall O mX7_input d [.ref 32, .int k, .int v] (f, n, s) (pX f n s 0 0 (s_input (bs, tl, mc, md, ip, dc, dr, ac, an, hs, sd, df, dfn, td, tr, ft, pl) k v)) := by
  refine bCall_of (by decide) rfl (Nat.le_of_ble_eq_true rfl) ?_
  obtain ⟨hS, hT, hW, hM, hD, hA, hI, hC, hF⟩ := id hX
  obtain ⟨j1, j2, j3, j4, j5, j6, j7, j8⟩ := id jX
  simp only [] at hS hT hW hM hD hA hI hC hF j1 j2 j3 j4 j5 j6 j7 j8
  show bV O _ d 0 [(0, .ref 32), (1, .int k), (2, .int v)] [] (f, n, s) _
  refine r_iload_n (n := 1) (i := 1) 1 rfl rfl dX7_input_0 ?_
  refine r_if_lt (tgt := 27) (by decide) dX7_input_1 (fun c1 => ?_) (fun c1 => ?_)
  · refine r_aload_n (n := 0) (i := 0) 0 rfl rfl dX7_input_27 ?_
    refine r_iconst (v := 2) (by decide) dX7_input_28 ?_
    refine p_callV (As := [.int 2]) (rest := []) (kX7_deny (O := O) (d := 0) (f := f) (n := n) (s := s) (ct_m := nI mc) (ct_d := nI dc) (ct_a := nI ac) (ct_f := nI dfn) (tday := nI td) (trb := tr) (flt := ft) (plc := pl) (x := 2) hS  (Nat.le_refl _)).call rfl lkX7_109 imX7_deny seX7_deny rfl hS rfl rfl (by omega) (Nat.le_of_ble_eq_true rfl) dX7_input_29 (fun v9 G9 h9 => ?_) (fun q9 G9 h9 => (by cases h9.1))
    obtain ⟨h8, rfl⟩ := h9; cases h8
    show bV O _ d 32 [(0, .ref 32), (1, .int k), (2, .int v)] [.int 0] (bU f 32 (.inr (7, [.ref 33, .ref 38, .ref 40, .ref 41, .ref 42, .ref 43, .ref 44, .ref 45, .int (nI mc), .int (nI dc), .int (nI ac), .int (nI dfn), .int (nI td), .int 2, .int ft, .int pl])), n, s) _
    refine r_zreturn rfl (by first | decide +kernel | exact narZ _ | assumption) dX7_input_32 ?_
    unfold s_input
    try simp only []
    try (first | simp only [if_pos c1] | simp only [if_neg c1] | simp only [if_neg (Bool.eq_false_iff.mp c1)])
    exact pX_mk (by exact bU_s _ _ _) (hT.fr (fun q _ _ => (bU_n (by omega)).trans (rfl))) (hW.fr (fun q _ _ => (bU_n (by omega)).trans (rfl))) (hM.fr j1 (fun q _ => (bU_n (by omega)).trans (rfl))) (hD.fr j2 (fun q _ => (bU_n (by omega)).trans (rfl))) (hA.fr j3 (fun q _ => (bU_n (by omega)).trans (rfl))) (by exact ((bU_n (by decide)).trans (hI))) (by obtain ⟨tk8, h8⟩ := hC; exact ⟨tk8, (bU_n (by omega)).trans (h8)⟩) (by exact ((bU_n (by decide)).trans (hF))) (fun q _ => (bU_n (by omega)).trans (rfl)) (by omega) (by omega)
  · refine r_iload_n (n := 1) (i := 1) 1 rfl rfl dX7_input_4 ?_
    refine r_aload_n (n := 0) (i := 0) 0 rfl rfl dX7_input_5 ?_
    refine p_get (fs := [.ref 33, .ref 38, .ref 40, .ref 41, .ref 42, .ref 43, .ref 44, .ref 45, .int (nI mc), .int (nI dc), .int (nI ac), .int (nI dfn), .int (nI td), .int tr, .int ft, .int pl]) flX7_43 hS rfl dX7_input_6 ?_
    refine p_alen2 (kd := 0) (n := 6) (a := (6, .inl ip)) rfl hI rfl dX7_input_9 ?_
    refine r_icmp_ge (tgt := 27) (by decide) dX7_input_10 (fun c10 => ?_) (fun c10 => ?_)
    · refine r_aload_n (n := 0) (i := 0) 0 rfl rfl dX7_input_27 ?_
      refine r_iconst (v := 2) (by decide) dX7_input_28 ?_
      refine p_callV (As := [.int 2]) (rest := []) (kX7_deny (O := O) (d := 0) (f := f) (n := n) (s := s) (ct_m := nI mc) (ct_d := nI dc) (ct_a := nI ac) (ct_f := nI dfn) (tday := nI td) (trb := tr) (flt := ft) (plc := pl) (x := 2) hS  (Nat.le_refl _)).call rfl lkX7_109 imX7_deny seX7_deny rfl hS rfl rfl (by omega) (Nat.le_of_ble_eq_true rfl) dX7_input_29 (fun v9 G9 h9 => ?_) (fun q9 G9 h9 => (by cases h9.1))
      obtain ⟨h8, rfl⟩ := h9; cases h8
      show bV O _ d 32 [(0, .ref 32), (1, .int k), (2, .int v)] [.int 0] (bU f 32 (.inr (7, [.ref 33, .ref 38, .ref 40, .ref 41, .ref 42, .ref 43, .ref 44, .ref 45, .int (nI mc), .int (nI dc), .int (nI ac), .int (nI dfn), .int (nI td), .int 2, .int ft, .int pl])), n, s) _
      refine r_zreturn rfl (by first | decide +kernel | exact narZ _ | assumption) dX7_input_32 ?_
      unfold s_input
      try simp only []
      try (first | simp only [if_pos c1] | simp only [if_neg c1] | simp only [if_neg (Bool.eq_false_iff.mp c1)])
      try (first | simp only [if_pos c10] | simp only [if_neg c10] | simp only [if_neg (Bool.eq_false_iff.mp c10)])
      exact pX_mk (by exact bU_s _ _ _) (hT.fr (fun q _ _ => (bU_n (by omega)).trans (rfl))) (hW.fr (fun q _ _ => (bU_n (by omega)).trans (rfl))) (hM.fr j1 (fun q _ => (bU_n (by omega)).trans (rfl))) (hD.fr j2 (fun q _ => (bU_n (by omega)).trans (rfl))) (hA.fr j3 (fun q _ => (bU_n (by omega)).trans (rfl))) (by exact ((bU_n (by decide)).trans (hI))) (by obtain ⟨tk8, h8⟩ := hC; exact ⟨tk8, (bU_n (by omega)).trans (h8)⟩) (by exact ((bU_n (by decide)).trans (hF))) (fun q _ => (bU_n (by omega)).trans (rfl)) (by omega) (by omega)
    · refine r_iload_n (n := 2) (i := 2) 2 rfl rfl dX7_input_13 ?_
      refine r_sipush (v := (-1000)) (by decide) dX7_input_14 ?_
      refine r_icmp_lt (tgt := 27) (by decide) dX7_input_17 (fun c17 => ?_) (fun c17 => ?_)
      · refine r_aload_n (n := 0) (i := 0) 0 rfl rfl dX7_input_27 ?_
        refine r_iconst (v := 2) (by decide) dX7_input_28 ?_
        refine p_callV (As := [.int 2]) (rest := []) (kX7_deny (O := O) (d := 0) (f := f) (n := n) (s := s) (ct_m := nI mc) (ct_d := nI dc) (ct_a := nI ac) (ct_f := nI dfn) (tday := nI td) (trb := tr) (flt := ft) (plc := pl) (x := 2) hS  (Nat.le_refl _)).call rfl lkX7_109 imX7_deny seX7_deny rfl hS rfl rfl (by omega) (Nat.le_of_ble_eq_true rfl) dX7_input_29 (fun v9 G9 h9 => ?_) (fun q9 G9 h9 => (by cases h9.1))
        obtain ⟨h8, rfl⟩ := h9; cases h8
        show bV O _ d 32 [(0, .ref 32), (1, .int k), (2, .int v)] [.int 0] (bU f 32 (.inr (7, [.ref 33, .ref 38, .ref 40, .ref 41, .ref 42, .ref 43, .ref 44, .ref 45, .int (nI mc), .int (nI dc), .int (nI ac), .int (nI dfn), .int (nI td), .int 2, .int ft, .int pl])), n, s) _
        refine r_zreturn rfl (by first | decide +kernel | exact narZ _ | assumption) dX7_input_32 ?_
        unfold s_input
        try simp only []
        try (first | simp only [if_pos c1] | simp only [if_neg c1] | simp only [if_neg (Bool.eq_false_iff.mp c1)])
        try (first | simp only [if_pos c10] | simp only [if_neg c10] | simp only [if_neg (Bool.eq_false_iff.mp c10)])
        try (first | simp only [if_pos c17] | simp only [if_neg c17] | simp only [if_neg (Bool.eq_false_iff.mp c17)])
        exact pX_mk (by exact bU_s _ _ _) (hT.fr (fun q _ _ => (bU_n (by omega)).trans (rfl))) (hW.fr (fun q _ _ => (bU_n (by omega)).trans (rfl))) (hM.fr j1 (fun q _ => (bU_n (by omega)).trans (rfl))) (hD.fr j2 (fun q _ => (bU_n (by omega)).trans (rfl))) (hA.fr j3 (fun q _ => (bU_n (by omega)).trans (rfl))) (by exact ((bU_n (by decide)).trans (hI))) (by obtain ⟨tk8, h8⟩ := hC; exact ⟨tk8, (bU_n (by omega)).trans (h8)⟩) (by exact ((bU_n (by decide)).trans (hF))) (fun q _ => (bU_n (by omega)).trans (rfl)) (by omega) (by omega)
      · refine r_iload_n (n := 2) (i := 2) 2 rfl rfl dX7_input_20 ?_
        refine r_sipush (v := 1000) (by decide) dX7_input_21 ?_
        refine r_icmp_le (tgt := 33) (by decide) dX7_input_24 (fun c24 => ?_) (fun c24 => ?_)
        · refine r_aload_n (n := 0) (i := 0) 0 rfl rfl dX7_input_33 ?_
          refine p_get (fs := [.ref 33, .ref 38, .ref 40, .ref 41, .ref 42, .ref 43, .ref 44, .ref 45, .int (nI mc), .int (nI dc), .int (nI ac), .int (nI dfn), .int (nI td), .int tr, .int ft, .int pl]) flX7_43 hS rfl dX7_input_34 ?_
          refine r_iload_n (n := 1) (i := 1) 1 rfl rfl dX7_input_37 ?_
          refine r_iload_n (n := 2) (i := 2) 2 rfl rfl dX7_input_38 ?_
          refine p_iast hI (vpn c1 c10 (by decide)) dX7_input_39 ?_
          refine r_aload_n (n := 0) (i := 0) 0 rfl rfl dX7_input_40 ?_
          refine p_callV (As := []) (rest := []) (kX7_allow (O := O) (d := 0) (f := bU f 43 (.inl (0, 6, .inl (upd ip k.toNatClampNeg v)))) (n := n) (s := s) (ct_m := nI mc) (ct_d := nI dc) (ct_a := nI ac) (ct_f := nI dfn) (tday := nI td) (trb := tr) (flt := ft) (plc := pl) (by exact ((bU_n (by decide)).trans (hS)))  (Nat.le_refl _)).call rfl lkX7_113 imX7_allow seX7_allow rfl (by exact ((bU_n (by decide)).trans (hS))) rfl rfl (by omega) (Nat.le_of_ble_eq_true rfl) dX7_input_41 (fun v9 G9 h9 => ?_) (fun q9 G9 h9 => (by cases h9.1))
          obtain ⟨h8, rfl⟩ := h9; cases h8
          show bV O _ d 44 [(0, .ref 32), (1, .int k), (2, .int v)] [.int 1] (bU (bU f 43 (.inl (0, 6, .inl (upd ip k.toNatClampNeg v)))) 32 (.inr (7, [.ref 33, .ref 38, .ref 40, .ref 41, .ref 42, .ref 43, .ref 44, .ref 45, .int (nI mc), .int (nI dc), .int (nI ac), .int (nI dfn), .int (nI td), .int 0, .int ft, .int pl])), n, s) _
          refine r_zreturn rfl (by first | decide +kernel | exact narZ _ | assumption) dX7_input_44 ?_
          unfold s_input
          try simp only []
          try (first | simp only [if_pos c1] | simp only [if_neg c1] | simp only [if_neg (Bool.eq_false_iff.mp c1)])
          try (first | simp only [if_pos c10] | simp only [if_neg c10] | simp only [if_neg (Bool.eq_false_iff.mp c10)])
          try (first | simp only [if_pos c17] | simp only [if_neg c17] | simp only [if_neg (Bool.eq_false_iff.mp c17)])
          try (first | simp only [if_pos c24] | simp only [if_neg c24] | simp only [if_neg (Bool.eq_false_iff.mp c24)])
          exact pX_mk (by exact bU_s _ _ _) (hT.fr (fun q _ _ => (bU_n (by omega)).trans ((bU_n (by omega)).trans (rfl)))) (hW.fr (fun q _ _ => (bU_n (by omega)).trans ((bU_n (by omega)).trans (rfl)))) (hM.fr j1 (fun q _ => (bU_n (by omega)).trans ((bU_n (by omega)).trans (rfl)))) (hD.fr j2 (fun q _ => (bU_n (by omega)).trans ((bU_n (by omega)).trans (rfl)))) (hA.fr j3 (fun q _ => (bU_n (by omega)).trans ((bU_n (by omega)).trans (rfl)))) (by exact ((bU_n (by decide)).trans (bU_s _ _ _))) (by obtain ⟨tk8, h8⟩ := hC; exact ⟨tk8, (bU_n (by omega)).trans ((bU_n (by omega)).trans (h8))⟩) (by exact ((bU_n (by decide)).trans (((bU_n (by decide)).trans (hF))))) (fun q _ => (bU_n (by omega)).trans ((bU_n (by omega)).trans (rfl))) (by omega) (by omega)
        · refine r_aload_n (n := 0) (i := 0) 0 rfl rfl dX7_input_27 ?_
          refine r_iconst (v := 2) (by decide) dX7_input_28 ?_
          refine p_callV (As := [.int 2]) (rest := []) (kX7_deny (O := O) (d := 0) (f := f) (n := n) (s := s) (ct_m := nI mc) (ct_d := nI dc) (ct_a := nI ac) (ct_f := nI dfn) (tday := nI td) (trb := tr) (flt := ft) (plc := pl) (x := 2) hS  (Nat.le_refl _)).call rfl lkX7_109 imX7_deny seX7_deny rfl hS rfl rfl (by omega) (Nat.le_of_ble_eq_true rfl) dX7_input_29 (fun v9 G9 h9 => ?_) (fun q9 G9 h9 => (by cases h9.1))
          obtain ⟨h8, rfl⟩ := h9; cases h8
          show bV O _ d 32 [(0, .ref 32), (1, .int k), (2, .int v)] [.int 0] (bU f 32 (.inr (7, [.ref 33, .ref 38, .ref 40, .ref 41, .ref 42, .ref 43, .ref 44, .ref 45, .int (nI mc), .int (nI dc), .int (nI ac), .int (nI dfn), .int (nI td), .int 2, .int ft, .int pl])), n, s) _
          refine r_zreturn rfl (by first | decide +kernel | exact narZ _ | assumption) dX7_input_32 ?_
          unfold s_input
          try simp only []
          try (first | simp only [if_pos c1] | simp only [if_neg c1] | simp only [if_neg (Bool.eq_false_iff.mp c1)])
          try (first | simp only [if_pos c10] | simp only [if_neg c10] | simp only [if_neg (Bool.eq_false_iff.mp c10)])
          try (first | simp only [if_pos c17] | simp only [if_neg c17] | simp only [if_neg (Bool.eq_false_iff.mp c17)])
          try (first | simp only [if_pos c24] | simp only [if_neg c24] | simp only [if_neg (Bool.eq_false_iff.mp c24)])
          exact pX_mk (by exact bU_s _ _ _) (hT.fr (fun q _ _ => (bU_n (by omega)).trans (rfl))) (hW.fr (fun q _ _ => (bU_n (by omega)).trans (rfl))) (hM.fr j1 (fun q _ => (bU_n (by omega)).trans (rfl))) (hD.fr j2 (fun q _ => (bU_n (by omega)).trans (rfl))) (hA.fr j3 (fun q _ => (bU_n (by omega)).trans (rfl))) (by exact ((bU_n (by decide)).trans (hI))) (by obtain ⟨tk8, h8⟩ := hC; exact ⟨tk8, (bU_n (by omega)).trans (h8)⟩) (by exact ((bU_n (by decide)).trans (hF))) (fun q _ => (bU_n (by omega)).trans (rfl)) (by omega) (by omega)
set_option maxRecDepth 4000 in
theorem x_leave {O : bO} {d : Nat} {f : bF} {n s : Nat} {bs : Nat → Int32} {tl : Nat} {mc : Nat} {md : Nat → MR} {ip : Nat → Int32} {dc : Nat} {dr : Nat → DR} {ac : Nat} {an : Nat → AR} {hs : Bool} {sd : Nat → Int32} {df : Nat → Int32} {dfn : Nat} {td : Nat} {tr : Int32} {ft : Int32} {pl : Int32} {x : Int32} (hX : XR f (bs, tl, mc, md, ip, dc, dr, ac, an, hs, sd, df, dfn, td, tr, ft, pl)) (jX : JX (bs, tl, mc, md, ip, dc, dr, ac, an, hs, sd, df, dfn, td, tr, ft, pl))  (hd : 1 ≤ d) : bCall O mX7_leave d [.ref 32, .int x] (f, n, s) (pX f n s 0 0 (s_leave (bs, tl, mc, md, ip, dc, dr, ac, an, hs, sd, df, dfn, td, tr, ft, pl) x)) := by
  refine bCall_of (by decide) rfl (Nat.le_of_ble_eq_true rfl) ?_
  obtain ⟨hS, hT, hW, hM, hD, hA, hI, hC, hF⟩ := id hX
  obtain ⟨j1, j2, j3, j4, j5, j6, j7, j8⟩ := id jX
  simp only [] at hS hT hW hM hD hA hI hC hF j1 j2 j3 j4 j5 j6 j7 j8
  show bV O _ d 0 [(0, .ref 32), (1, .int x)] [] (f, n, s) _
  refine r_aload_n (n := 0) (i := 0) 0 rfl rfl dX7_leave_0 ?_
  refine r_iload_n (n := 1) (i := 1) 1 rfl rfl dX7_leave_1 ?_
  refine p_callV (As := [.int x]) (rest := []) (kX7_doorAt (O := O) (d := 0) (f := f) (n := n) (s := s) (ct_m := nI mc) (ct_d := nI dc) (ct_a := nI ac) (ct_f := nI dfn) (tday := nI td) (trb := tr) (flt := ft) (plc := pl) (x := x) (nn := dc) hS hD.1 (by first | assumption | omega | decide) (Nat.le_refl _)).call rfl lkX7_126 imX7_doorAt seX7_doorAt rfl hS rfl rfl (by omega) (Nat.le_of_ble_eq_true rfl) dX7_leave_2 (fun v9 G9 h9 => ?_) (fun q9 G9 h9 => (by cases h9.1))
  obtain ⟨h8, rfl⟩ := h9; cases h8
  by_cases bD : inB x dc = true
  · rw [oAt_pos bD]
    have b1bD := dA_b (Nat.lt_of_lt_of_le (inB_lt bD) j2)
    show bV O _ d 5 [(0, .ref 32), (1, .int x)] [.ref (dA (cl x))] (f, n, s) _
    refine r_astore_n (n := 2) (i := 2) (L' := [(2, .ref (dA (cl x))), (0, .ref 32), (1, .int x)]) rfl dX7_leave_5 (by decide) rfl ?_
    refine r_aload_n (n := 2) (i := 2) 0 rfl rfl dX7_leave_6 ?_
    refine r_ifnonnull (tgt := 16) (by decide) dX7_leave_7 ?_
    refine r_aload_n (n := 2) (i := 2) 0 rfl rfl dX7_leave_16 ?_
    refine p_get (fs := [.ref ((dA (cl x)) + 1), .ref ((dA (cl x)) + 2), .ref ((dA (cl x)) + 3), .ref ((dA (cl x)) + 4), .ref ((dA (cl x)) + 5), .ref ((dA (cl x)) + 6), .ref ((dA (cl x)) + 7), .int (d_ch (dr (cl x))), .int (d_rv (dr (cl x))), .int (d_sh (dr (cl x))), .int (nI (d_fc (dr (cl x)))), .int (nI (d_cn (dr (cl x)))), .int (d_kp (dr (cl x))), .int (d_rf (dr (cl x)))]) flX7_149 (by exact (hD.2.1 _ (inB_lt bD)).1) rfl dX7_leave_17 ?_
    refine r_bipush (v := (-2)) (by decide) dX7_leave_20 ?_
    refine r_icmp_ne (tgt := 31) (by decide) dX7_leave_22 (fun c22 => ?_) (fun c22 => ?_)
    · refine r_aload_n (n := 2) (i := 2) 0 rfl rfl dX7_leave_31 ?_
      refine p_callV (As := []) (rest := []) (kX1_dropRival (O := O) (d := 0) (f := f) (n := n) (s := s) (q := dA (cl x)) (ch := d_ch (dr (cl x))) (rv := d_rv (dr (cl x))) (sh := d_sh (dr (cl x))) (fc := d_fc (dr (cl x))) (cn := d_cn (dr (cl x))) (kp := d_kp (dr (cl x))) (rf := d_rf (dr (cl x))) (by exact (hD.2.1 _ (inB_lt bD)).1)  (Nat.le_refl _)).call rfl lkX7_152 imX1_dropRival seX1_dropRival rfl (by exact (hD.2.1 _ (inB_lt bD)).1) rfl rfl (by omega) (Nat.le_of_ble_eq_true rfl) dX7_leave_32 (fun v9 G9 h9 => ?_) (fun q9 G9 h9 => (by cases h9.1))
      obtain ⟨h8, rfl⟩ := h9; cases h8
      show bV O _ d 35 [(2, .ref (dA (cl x))), (0, .ref 32), (1, .int x)] [] (bU f (dA (cl x)) (.inr (1, [.ref ((dA (cl x)) + 1), .ref ((dA (cl x)) + 2), .ref ((dA (cl x)) + 3), .ref ((dA (cl x)) + 4), .ref ((dA (cl x)) + 5), .ref ((dA (cl x)) + 6), .ref ((dA (cl x)) + 7), .int (d_ch (dr (cl x))), .int (-2), .int 0, .int (nI (d_fc (dr (cl x)))), .int (nI (d_cn (dr (cl x)))), .int (d_kp (dr (cl x))), .int (d_rf (dr (cl x)))])), n, s) _
      refine r_aload_n (n := 0) (i := 0) 1 rfl rfl dX7_leave_35 ?_
      refine p_callV (As := []) (rest := []) (kX7_allow (O := O) (d := 0) (f := bU f (dA (cl x)) (.inr (1, [.ref ((dA (cl x)) + 1), .ref ((dA (cl x)) + 2), .ref ((dA (cl x)) + 3), .ref ((dA (cl x)) + 4), .ref ((dA (cl x)) + 5), .ref ((dA (cl x)) + 6), .ref ((dA (cl x)) + 7), .int (d_ch (dr (cl x))), .int (-2), .int 0, .int (nI (d_fc (dr (cl x)))), .int (nI (d_cn (dr (cl x)))), .int (d_kp (dr (cl x))), .int (d_rf (dr (cl x)))]))) (n := n) (s := s) (ct_m := nI mc) (ct_d := nI dc) (ct_a := nI ac) (ct_f := nI dfn) (tday := nI td) (trb := tr) (flt := ft) (plc := pl) (by exact ((bU_n (by omega)).trans (hS)))  (Nat.le_refl _)).call rfl lkX7_113 imX7_allow seX7_allow rfl (by exact ((bU_n (by omega)).trans (hS))) rfl rfl (by omega) (Nat.le_of_ble_eq_true rfl) dX7_leave_36 (fun v9 G9 h9 => ?_) (fun q9 G9 h9 => (by cases h9.1))
      obtain ⟨h8, rfl⟩ := h9; cases h8
      show bV O _ d 39 [(2, .ref (dA (cl x))), (0, .ref 32), (1, .int x)] [.int 1] (bU (bU f (dA (cl x)) (.inr (1, [.ref ((dA (cl x)) + 1), .ref ((dA (cl x)) + 2), .ref ((dA (cl x)) + 3), .ref ((dA (cl x)) + 4), .ref ((dA (cl x)) + 5), .ref ((dA (cl x)) + 6), .ref ((dA (cl x)) + 7), .int (d_ch (dr (cl x))), .int (-2), .int 0, .int (nI (d_fc (dr (cl x)))), .int (nI (d_cn (dr (cl x)))), .int (d_kp (dr (cl x))), .int (d_rf (dr (cl x)))]))) 32 (.inr (7, [.ref 33, .ref 38, .ref 40, .ref 41, .ref 42, .ref 43, .ref 44, .ref 45, .int (nI mc), .int (nI dc), .int (nI ac), .int (nI dfn), .int (nI td), .int 0, .int ft, .int pl])), n, s) _
      refine r_zreturn rfl (by first | decide +kernel | exact narZ _ | assumption) dX7_leave_39 ?_
      unfold s_leave
      try simp only []
      try (first | simp only [if_pos bD] | simp only [if_neg bD] | simp only [if_neg (Bool.eq_false_iff.mp bD)])
      try (first | simp only [if_pos c22] | simp only [if_neg c22] | simp only [if_neg (Bool.eq_false_iff.mp c22)])
      exact pX_mk (by exact bU_s _ _ _) (hT.fr (fun q _ _ => (bU_n (by omega)).trans ((bU_n (by omega)).trans (rfl)))) (hW.fr (fun q _ _ => (bU_n (by omega)).trans ((bU_n (by omega)).trans (rfl)))) (hM.fr j1 (fun q _ => (bU_n (by omega)).trans ((bU_n (by omega)).trans (rfl)))) (hD.put j2 (inB_lt bD) ⟨(by exact ((bU_n (by omega)).trans (bU_s _ _ _))), (by exact ((bU_n (by omega)).trans (((bU_n (by omega)).trans ((hD.2.1 _ (inB_lt bD)).2.1))))), (by exact ((bU_n (by omega)).trans (((bU_n (by omega)).trans ((hD.2.1 _ (inB_lt bD)).2.2.1))))), (by exact ((bU_n (by omega)).trans (((bU_n (by omega)).trans ((hD.2.1 _ (inB_lt bD)).2.2.2.1))))), (by exact ((bU_n (by omega)).trans (((bU_n (by omega)).trans ((hD.2.1 _ (inB_lt bD)).2.2.2.2.1))))), (by exact ((bU_n (by omega)).trans (((bU_n (by omega)).trans ((hD.2.1 _ (inB_lt bD)).2.2.2.2.2.1))))), (by exact ((bU_n (by omega)).trans (((bU_n (by omega)).trans ((hD.2.1 _ (inB_lt bD)).2.2.2.2.2.2.1))))), (by exact ((bU_n (by omega)).trans (((bU_n (by omega)).trans ((hD.2.1 _ (inB_lt bD)).2.2.2.2.2.2.2)))))⟩ (fun q _ => (bU_n (by omega)).trans ((bU_n (by omega)).trans (rfl)))) (hA.fr j3 (fun q _ => (bU_n (by omega)).trans ((bU_n (by omega)).trans (rfl)))) (by exact ((bU_n (by decide)).trans (((bU_n (by omega)).trans (hI))))) (by obtain ⟨tk8, h8⟩ := hC; exact ⟨tk8, (bU_n (by omega)).trans ((bU_n (by omega)).trans (h8))⟩) (by exact ((bU_n (by decide)).trans (((bU_n (by omega)).trans (hF))))) (fun q _ => (bU_n (by omega)).trans ((bU_n (by omega)).trans (rfl))) (by omega) (by omega)
    · refine r_aload_n (n := 0) (i := 0) 1 rfl rfl dX7_leave_25 ?_
      refine r_iconst (v := 5) (by decide) dX7_leave_26 ?_
      refine p_callV (As := [.int 5]) (rest := []) (kX7_deny (O := O) (d := 0) (f := f) (n := n) (s := s) (ct_m := nI mc) (ct_d := nI dc) (ct_a := nI ac) (ct_f := nI dfn) (tday := nI td) (trb := tr) (flt := ft) (plc := pl) (x := 5) hS  (Nat.le_refl _)).call rfl lkX7_109 imX7_deny seX7_deny rfl hS rfl rfl (by omega) (Nat.le_of_ble_eq_true rfl) dX7_leave_27 (fun v9 G9 h9 => ?_) (fun q9 G9 h9 => (by cases h9.1))
      obtain ⟨h8, rfl⟩ := h9; cases h8
      show bV O _ d 30 [(2, .ref (dA (cl x))), (0, .ref 32), (1, .int x)] [.int 0] (bU f 32 (.inr (7, [.ref 33, .ref 38, .ref 40, .ref 41, .ref 42, .ref 43, .ref 44, .ref 45, .int (nI mc), .int (nI dc), .int (nI ac), .int (nI dfn), .int (nI td), .int 5, .int ft, .int pl])), n, s) _
      refine r_zreturn rfl (by first | decide +kernel | exact narZ _ | assumption) dX7_leave_30 ?_
      unfold s_leave
      try simp only []
      try (first | simp only [if_pos bD] | simp only [if_neg bD] | simp only [if_neg (Bool.eq_false_iff.mp bD)])
      try (first | simp only [if_pos c22] | simp only [if_neg c22] | simp only [if_neg (Bool.eq_false_iff.mp c22)])
      exact pX_mk (by exact bU_s _ _ _) (hT.fr (fun q _ _ => (bU_n (by omega)).trans (rfl))) (hW.fr (fun q _ _ => (bU_n (by omega)).trans (rfl))) (hM.fr j1 (fun q _ => (bU_n (by omega)).trans (rfl))) (hD.fr j2 (fun q _ => (bU_n (by omega)).trans (rfl))) (hA.fr j3 (fun q _ => (bU_n (by omega)).trans (rfl))) (by exact ((bU_n (by decide)).trans (hI))) (by obtain ⟨tk8, h8⟩ := hC; exact ⟨tk8, (bU_n (by omega)).trans (h8)⟩) (by exact ((bU_n (by decide)).trans (hF))) (fun q _ => (bU_n (by omega)).trans (rfl)) (by omega) (by omega)
  · rw [oAt_neg bD]
    show bV O _ d 5 [(0, .ref 32), (1, .int x)] [.null] (f, n, s) _
    refine r_astore_nN (n := 2) (i := 2) (L' := [(2, .null), (0, .ref 32), (1, .int x)]) rfl dX7_leave_5 (by decide) rfl ?_
    refine r_aload_nN (n := 2) (i := 2) 0 rfl rfl dX7_leave_6 ?_
    refine r_ifnonnullN dX7_leave_7 ?_
    refine r_aload_n (n := 0) (i := 0) 1 rfl rfl dX7_leave_10 ?_
    refine r_iconst (v := 1) (by decide) dX7_leave_11 ?_
    refine p_callV (As := [.int 1]) (rest := []) (kX7_deny (O := O) (d := 0) (f := f) (n := n) (s := s) (ct_m := nI mc) (ct_d := nI dc) (ct_a := nI ac) (ct_f := nI dfn) (tday := nI td) (trb := tr) (flt := ft) (plc := pl) (x := 1) hS  (Nat.le_refl _)).call rfl lkX7_109 imX7_deny seX7_deny rfl hS rfl rfl (by omega) (Nat.le_of_ble_eq_true rfl) dX7_leave_12 (fun v9 G9 h9 => ?_) (fun q9 G9 h9 => (by cases h9.1))
    obtain ⟨h8, rfl⟩ := h9; cases h8
    show bV O _ d 15 [(2, .null), (0, .ref 32), (1, .int x)] [.int 0] (bU f 32 (.inr (7, [.ref 33, .ref 38, .ref 40, .ref 41, .ref 42, .ref 43, .ref 44, .ref 45, .int (nI mc), .int (nI dc), .int (nI ac), .int (nI dfn), .int (nI td), .int 1, .int ft, .int pl])), n, s) _
    refine r_zreturn rfl (by first | decide +kernel | exact narZ _ | assumption) dX7_leave_15 ?_
    unfold s_leave
    try simp only []
    try (first | simp only [if_pos bD] | simp only [if_neg bD] | simp only [if_neg (Bool.eq_false_iff.mp bD)])
    exact pX_mk (by exact bU_s _ _ _) (hT.fr (fun q _ _ => (bU_n (by omega)).trans (rfl))) (hW.fr (fun q _ _ => (bU_n (by omega)).trans (rfl))) (hM.fr j1 (fun q _ => (bU_n (by omega)).trans (rfl))) (hD.fr j2 (fun q _ => (bU_n (by omega)).trans (rfl))) (hA.fr j3 (fun q _ => (bU_n (by omega)).trans (rfl))) (by exact ((bU_n (by decide)).trans (hI))) (by obtain ⟨tk8, h8⟩ := hC; exact ⟨tk8, (bU_n (by omega)).trans (h8)⟩) (by exact ((bU_n (by decide)).trans (hF))) (fun q _ => (bU_n (by omega)).trans (rfl)) (by omega) (by omega)
set_option maxRecDepth 4000 in
theorem x_guard {O : bO} {d : Nat} {f : bF} {n s : Nat} {bs : Nat → Int32} {tl : Nat} {mc : Nat} {md : Nat → MR} {ip : Nat → Int32} {dc : Nat} {dr : Nat → DR} {ac : Nat} {an : Nat → AR} {hs : Bool} {sd : Nat → Int32} {df : Nat → Int32} {dfn : Nat} {td : Nat} {tr : Int32} {ft : Int32} {pl : Int32} {x : Int32} {k : Int32} {l : Int32} {h : Int32} (hX : XR f (bs, tl, mc, md, ip, dc, dr, ac, an, hs, sd, df, dfn, td, tr, ft, pl)) (jX : JX (bs, tl, mc, md, ip, dc, dr, ac, an, hs, sd, df, dfn, td, tr, ft, pl))  (hd : 1 ≤ d) : bCall O mX7_guard d [.ref 32, .int x, .int k, .int l, .int h] (f, n, s) (pX f n s 0 0 (s_guard (bs, tl, mc, md, ip, dc, dr, ac, an, hs, sd, df, dfn, td, tr, ft, pl) x k l h)) := by
  refine bCall_of (by decide) rfl (Nat.le_of_ble_eq_true rfl) ?_
  obtain ⟨hS, hT, hW, hM, hD, hA, hI, hC, hF⟩ := id hX
  obtain ⟨j1, j2, j3, j4, j5, j6, j7, j8⟩ := id jX
  simp only [] at hS hT hW hM hD hA hI hC hF j1 j2 j3 j4 j5 j6 j7 j8
  show bV O _ d 0 [(0, .ref 32), (1, .int x), (2, .int k), (3, .int l), (4, .int h)] [] (f, n, s) _
  refine r_aload_n (n := 0) (i := 0) 0 rfl rfl dX7_guard_0 ?_
  refine r_iload_n (n := 1) (i := 1) 1 rfl rfl dX7_guard_1 ?_
  refine p_callV (As := [.int x]) (rest := []) (kX7_doorAt (O := O) (d := 0) (f := f) (n := n) (s := s) (ct_m := nI mc) (ct_d := nI dc) (ct_a := nI ac) (ct_f := nI dfn) (tday := nI td) (trb := tr) (flt := ft) (plc := pl) (x := x) (nn := dc) hS hD.1 (by first | assumption | omega | decide) (Nat.le_refl _)).call rfl lkX7_126 imX7_doorAt seX7_doorAt rfl hS rfl rfl (by omega) (Nat.le_of_ble_eq_true rfl) dX7_guard_2 (fun v9 G9 h9 => ?_) (fun q9 G9 h9 => (by cases h9.1))
  obtain ⟨h8, rfl⟩ := h9; cases h8
  by_cases bD : inB x dc = true
  · rw [oAt_pos bD]
    have b1bD := dA_b (Nat.lt_of_lt_of_le (inB_lt bD) j2)
    show bV O _ d 5 [(0, .ref 32), (1, .int x), (2, .int k), (3, .int l), (4, .int h)] [.ref (dA (cl x))] (f, n, s) _
    refine r_astore (i := 5) (L' := [(5, .ref (dA (cl x))), (0, .ref 32), (1, .int x), (2, .int k), (3, .int l), (4, .int h)]) dX7_guard_5 (by decide) rfl ?_
    refine r_aload (i := 5) 0 rfl dX7_guard_7 ?_
    refine r_ifnull dX7_guard_9 ?_
    refine r_iload_n (n := 2) (i := 2) 3 rfl rfl dX7_guard_12 ?_
    refine r_if_lt (tgt := 22) (by decide) dX7_guard_13 (fun c13 => ?_) (fun c13 => ?_)
    · refine r_aload_n (n := 0) (i := 0) 1 rfl rfl dX7_guard_22 ?_
      refine r_iconst (v := 1) (by decide) dX7_guard_23 ?_
      refine p_callV (As := [.int 1]) (rest := []) (kX7_deny (O := O) (d := 0) (f := f) (n := n) (s := s) (ct_m := nI mc) (ct_d := nI dc) (ct_a := nI ac) (ct_f := nI dfn) (tday := nI td) (trb := tr) (flt := ft) (plc := pl) (x := 1) hS  (Nat.le_refl _)).call rfl lkX7_109 imX7_deny seX7_deny rfl hS rfl rfl (by omega) (Nat.le_of_ble_eq_true rfl) dX7_guard_24 (fun v9 G9 h9 => ?_) (fun q9 G9 h9 => (by cases h9.1))
      obtain ⟨h8, rfl⟩ := h9; cases h8
      show bV O _ d 27 [(5, .ref (dA (cl x))), (0, .ref 32), (1, .int x), (2, .int k), (3, .int l), (4, .int h)] [.int 0] (bU f 32 (.inr (7, [.ref 33, .ref 38, .ref 40, .ref 41, .ref 42, .ref 43, .ref 44, .ref 45, .int (nI mc), .int (nI dc), .int (nI ac), .int (nI dfn), .int (nI td), .int 1, .int ft, .int pl])), n, s) _
      refine r_zreturn rfl (by first | decide +kernel | exact narZ _ | assumption) dX7_guard_27 ?_
      unfold s_guard
      try simp only []
      try (first | simp only [if_pos bD] | simp only [if_neg bD] | simp only [if_neg (Bool.eq_false_iff.mp bD)])
      try (first | simp only [if_pos c13] | simp only [if_neg c13] | simp only [if_neg (Bool.eq_false_iff.mp c13)])
      exact pX_mk (by exact bU_s _ _ _) (hT.fr (fun q _ _ => (bU_n (by omega)).trans (rfl))) (hW.fr (fun q _ _ => (bU_n (by omega)).trans (rfl))) (hM.fr j1 (fun q _ => (bU_n (by omega)).trans (rfl))) (hD.fr j2 (fun q _ => (bU_n (by omega)).trans (rfl))) (hA.fr j3 (fun q _ => (bU_n (by omega)).trans (rfl))) (by exact ((bU_n (by decide)).trans (hI))) (by obtain ⟨tk8, h8⟩ := hC; exact ⟨tk8, (bU_n (by omega)).trans (h8)⟩) (by exact ((bU_n (by decide)).trans (hF))) (fun q _ => (bU_n (by omega)).trans (rfl)) (by omega) (by omega)
    · refine r_iload_n (n := 2) (i := 2) 3 rfl rfl dX7_guard_16 ?_
      refine r_bipush (v := 6) (by decide) dX7_guard_17 ?_
      refine r_icmp_lt (tgt := 28) (by decide) dX7_guard_19 (fun c19 => ?_) (fun c19 => ?_)
      · refine r_iload_n (n := 3) (i := 3) 4 rfl rfl dX7_guard_28 ?_
        refine r_sipush (v := (-1000)) (by decide) dX7_guard_29 ?_
        refine r_icmp_lt (tgt := 49) (by decide) dX7_guard_32 (fun c32 => ?_) (fun c32 => ?_)
        · refine r_aload_n (n := 0) (i := 0) 1 rfl rfl dX7_guard_49 ?_
          refine r_iconst (v := 2) (by decide) dX7_guard_50 ?_
          refine p_callV (As := [.int 2]) (rest := []) (kX7_deny (O := O) (d := 0) (f := f) (n := n) (s := s) (ct_m := nI mc) (ct_d := nI dc) (ct_a := nI ac) (ct_f := nI dfn) (tday := nI td) (trb := tr) (flt := ft) (plc := pl) (x := 2) hS  (Nat.le_refl _)).call rfl lkX7_109 imX7_deny seX7_deny rfl hS rfl rfl (by omega) (Nat.le_of_ble_eq_true rfl) dX7_guard_51 (fun v9 G9 h9 => ?_) (fun q9 G9 h9 => (by cases h9.1))
          obtain ⟨h8, rfl⟩ := h9; cases h8
          show bV O _ d 54 [(5, .ref (dA (cl x))), (0, .ref 32), (1, .int x), (2, .int k), (3, .int l), (4, .int h)] [.int 0] (bU f 32 (.inr (7, [.ref 33, .ref 38, .ref 40, .ref 41, .ref 42, .ref 43, .ref 44, .ref 45, .int (nI mc), .int (nI dc), .int (nI ac), .int (nI dfn), .int (nI td), .int 2, .int ft, .int pl])), n, s) _
          refine r_zreturn rfl (by first | decide +kernel | exact narZ _ | assumption) dX7_guard_54 ?_
          unfold s_guard
          try simp only []
          try (first | simp only [if_pos bD] | simp only [if_neg bD] | simp only [if_neg (Bool.eq_false_iff.mp bD)])
          try (first | simp only [if_pos c13] | simp only [if_neg c13] | simp only [if_neg (Bool.eq_false_iff.mp c13)])
          try (first | simp only [if_pos c19] | simp only [if_neg c19] | simp only [if_neg (Bool.eq_false_iff.mp c19)])
          try (first | simp only [if_pos c32] | simp only [if_neg c32] | simp only [if_neg (Bool.eq_false_iff.mp c32)])
          exact pX_mk (by exact bU_s _ _ _) (hT.fr (fun q _ _ => (bU_n (by omega)).trans (rfl))) (hW.fr (fun q _ _ => (bU_n (by omega)).trans (rfl))) (hM.fr j1 (fun q _ => (bU_n (by omega)).trans (rfl))) (hD.fr j2 (fun q _ => (bU_n (by omega)).trans (rfl))) (hA.fr j3 (fun q _ => (bU_n (by omega)).trans (rfl))) (by exact ((bU_n (by decide)).trans (hI))) (by obtain ⟨tk8, h8⟩ := hC; exact ⟨tk8, (bU_n (by omega)).trans (h8)⟩) (by exact ((bU_n (by decide)).trans (hF))) (fun q _ => (bU_n (by omega)).trans (rfl)) (by omega) (by omega)
        · refine r_iload (i := 4) 5 rfl dX7_guard_35 ?_
          refine r_sipush (v := 1000) (by decide) dX7_guard_37 ?_
          refine r_icmp_gt (tgt := 49) (by decide) dX7_guard_40 (fun c40 => ?_) (fun c40 => ?_)
          · refine r_aload_n (n := 0) (i := 0) 1 rfl rfl dX7_guard_49 ?_
            refine r_iconst (v := 2) (by decide) dX7_guard_50 ?_
            refine p_callV (As := [.int 2]) (rest := []) (kX7_deny (O := O) (d := 0) (f := f) (n := n) (s := s) (ct_m := nI mc) (ct_d := nI dc) (ct_a := nI ac) (ct_f := nI dfn) (tday := nI td) (trb := tr) (flt := ft) (plc := pl) (x := 2) hS  (Nat.le_refl _)).call rfl lkX7_109 imX7_deny seX7_deny rfl hS rfl rfl (by omega) (Nat.le_of_ble_eq_true rfl) dX7_guard_51 (fun v9 G9 h9 => ?_) (fun q9 G9 h9 => (by cases h9.1))
            obtain ⟨h8, rfl⟩ := h9; cases h8
            show bV O _ d 54 [(5, .ref (dA (cl x))), (0, .ref 32), (1, .int x), (2, .int k), (3, .int l), (4, .int h)] [.int 0] (bU f 32 (.inr (7, [.ref 33, .ref 38, .ref 40, .ref 41, .ref 42, .ref 43, .ref 44, .ref 45, .int (nI mc), .int (nI dc), .int (nI ac), .int (nI dfn), .int (nI td), .int 2, .int ft, .int pl])), n, s) _
            refine r_zreturn rfl (by first | decide +kernel | exact narZ _ | assumption) dX7_guard_54 ?_
            unfold s_guard
            try simp only []
            try (first | simp only [if_pos bD] | simp only [if_neg bD] | simp only [if_neg (Bool.eq_false_iff.mp bD)])
            try (first | simp only [if_pos c13] | simp only [if_neg c13] | simp only [if_neg (Bool.eq_false_iff.mp c13)])
            try (first | simp only [if_pos c19] | simp only [if_neg c19] | simp only [if_neg (Bool.eq_false_iff.mp c19)])
            try (first | simp only [if_pos c32] | simp only [if_neg c32] | simp only [if_neg (Bool.eq_false_iff.mp c32)])
            try (first | simp only [if_pos c40] | simp only [if_neg c40] | simp only [if_neg (Bool.eq_false_iff.mp c40)])
            exact pX_mk (by exact bU_s _ _ _) (hT.fr (fun q _ _ => (bU_n (by omega)).trans (rfl))) (hW.fr (fun q _ _ => (bU_n (by omega)).trans (rfl))) (hM.fr j1 (fun q _ => (bU_n (by omega)).trans (rfl))) (hD.fr j2 (fun q _ => (bU_n (by omega)).trans (rfl))) (hA.fr j3 (fun q _ => (bU_n (by omega)).trans (rfl))) (by exact ((bU_n (by decide)).trans (hI))) (by obtain ⟨tk8, h8⟩ := hC; exact ⟨tk8, (bU_n (by omega)).trans (h8)⟩) (by exact ((bU_n (by decide)).trans (hF))) (fun q _ => (bU_n (by omega)).trans (rfl)) (by omega) (by omega)
          · refine r_iload_n (n := 3) (i := 3) 4 rfl rfl dX7_guard_43 ?_
            refine r_iload (i := 4) 5 rfl dX7_guard_44 ?_
            refine r_icmp_le (tgt := 55) (by decide) dX7_guard_46 (fun c46 => ?_) (fun c46 => ?_)
            · refine r_aload (i := 5) 0 rfl dX7_guard_55 ?_
              refine p_get (fs := [.ref ((dA (cl x)) + 1), .ref ((dA (cl x)) + 2), .ref ((dA (cl x)) + 3), .ref ((dA (cl x)) + 4), .ref ((dA (cl x)) + 5), .ref ((dA (cl x)) + 6), .ref ((dA (cl x)) + 7), .int (d_ch (dr (cl x))), .int (d_rv (dr (cl x))), .int (d_sh (dr (cl x))), .int (nI (d_fc (dr (cl x)))), .int (nI (d_cn (dr (cl x)))), .int (d_kp (dr (cl x))), .int (d_rf (dr (cl x)))]) flX7_130 (by exact (hD.2.1 _ (inB_lt bD)).1) rfl dX7_guard_57 ?_
              refine r_iload_n (n := 2) (i := 2) 3 rfl rfl dX7_guard_60 ?_
              refine r_iload_n (n := 3) (i := 3) 4 rfl rfl dX7_guard_61 ?_
              refine p_iast (by exact (hD.2.1 _ (inB_lt bD)).2.1) (vpk c13 c19 (by decide)) dX7_guard_62 ?_
              refine r_aload (i := 5) 0 rfl dX7_guard_63 ?_
              refine p_get (fs := [.ref ((dA (cl x)) + 1), .ref ((dA (cl x)) + 2), .ref ((dA (cl x)) + 3), .ref ((dA (cl x)) + 4), .ref ((dA (cl x)) + 5), .ref ((dA (cl x)) + 6), .ref ((dA (cl x)) + 7), .int (d_ch (dr (cl x))), .int (d_rv (dr (cl x))), .int (d_sh (dr (cl x))), .int (nI (d_fc (dr (cl x)))), .int (nI (d_cn (dr (cl x)))), .int (d_kp (dr (cl x))), .int (d_rf (dr (cl x)))]) flX7_133 (by exact ((bU_n (by omega)).trans ((hD.2.1 _ (inB_lt bD)).1))) rfl dX7_guard_65 ?_
              refine r_iload_n (n := 2) (i := 2) 3 rfl rfl dX7_guard_68 ?_
              refine r_iload (i := 4) 5 rfl dX7_guard_69 ?_
              refine p_iast (by exact ((bU_n (by omega)).trans ((hD.2.1 _ (inB_lt bD)).2.2.1))) (vpk c13 c19 (by decide)) dX7_guard_71 ?_
              refine r_aload_n (n := 0) (i := 0) 1 rfl rfl dX7_guard_72 ?_
              refine p_callV (As := []) (rest := []) (kX7_allow (O := O) (d := 0) (f := bU (bU f ((dA (cl x)) + 1) (.inl (0, 6, .inl (upd (d_lo (dr (cl x))) k.toNatClampNeg l)))) ((dA (cl x)) + 2) (.inl (0, 6, .inl (upd (d_hi (dr (cl x))) k.toNatClampNeg h)))) (n := n) (s := s) (ct_m := nI mc) (ct_d := nI dc) (ct_a := nI ac) (ct_f := nI dfn) (tday := nI td) (trb := tr) (flt := ft) (plc := pl) (by exact ((bU_n (by omega)).trans (((bU_n (by omega)).trans (hS)))))  (Nat.le_refl _)).call rfl lkX7_113 imX7_allow seX7_allow rfl (by exact ((bU_n (by omega)).trans (((bU_n (by omega)).trans (hS))))) rfl rfl (by omega) (Nat.le_of_ble_eq_true rfl) dX7_guard_73 (fun v9 G9 h9 => ?_) (fun q9 G9 h9 => (by cases h9.1))
              obtain ⟨h8, rfl⟩ := h9; cases h8
              show bV O _ d 76 [(5, .ref (dA (cl x))), (0, .ref 32), (1, .int x), (2, .int k), (3, .int l), (4, .int h)] [.int 1] (bU (bU (bU f ((dA (cl x)) + 1) (.inl (0, 6, .inl (upd (d_lo (dr (cl x))) k.toNatClampNeg l)))) ((dA (cl x)) + 2) (.inl (0, 6, .inl (upd (d_hi (dr (cl x))) k.toNatClampNeg h)))) 32 (.inr (7, [.ref 33, .ref 38, .ref 40, .ref 41, .ref 42, .ref 43, .ref 44, .ref 45, .int (nI mc), .int (nI dc), .int (nI ac), .int (nI dfn), .int (nI td), .int 0, .int ft, .int pl])), n, s) _
              refine r_zreturn rfl (by first | decide +kernel | exact narZ _ | assumption) dX7_guard_76 ?_
              unfold s_guard
              try simp only []
              try (first | simp only [if_pos bD] | simp only [if_neg bD] | simp only [if_neg (Bool.eq_false_iff.mp bD)])
              try (first | simp only [if_pos c13] | simp only [if_neg c13] | simp only [if_neg (Bool.eq_false_iff.mp c13)])
              try (first | simp only [if_pos c19] | simp only [if_neg c19] | simp only [if_neg (Bool.eq_false_iff.mp c19)])
              try (first | simp only [if_pos c32] | simp only [if_neg c32] | simp only [if_neg (Bool.eq_false_iff.mp c32)])
              try (first | simp only [if_pos c40] | simp only [if_neg c40] | simp only [if_neg (Bool.eq_false_iff.mp c40)])
              try (first | simp only [if_pos c46] | simp only [if_neg c46] | simp only [if_neg (Bool.eq_false_iff.mp c46)])
              exact pX_mk (by exact bU_s _ _ _) (hT.fr (fun q _ _ => (bU_n (by omega)).trans ((bU_n (by omega)).trans ((bU_n (by omega)).trans (rfl))))) (hW.fr (fun q _ _ => (bU_n (by omega)).trans ((bU_n (by omega)).trans ((bU_n (by omega)).trans (rfl))))) (hM.fr j1 (fun q _ => (bU_n (by omega)).trans ((bU_n (by omega)).trans ((bU_n (by omega)).trans (rfl))))) (hD.put j2 (inB_lt bD) ⟨(by exact ((bU_n (by omega)).trans (((bU_n (by omega)).trans (((bU_n (by omega)).trans ((hD.2.1 _ (inB_lt bD)).1))))))), (by exact ((bU_n (by omega)).trans (((bU_n (by omega)).trans (bU_s _ _ _))))), (by exact ((bU_n (by omega)).trans (bU_s _ _ _))), (by exact ((bU_n (by omega)).trans (((bU_n (by omega)).trans (((bU_n (by omega)).trans ((hD.2.1 _ (inB_lt bD)).2.2.2.1))))))), (by exact ((bU_n (by omega)).trans (((bU_n (by omega)).trans (((bU_n (by omega)).trans ((hD.2.1 _ (inB_lt bD)).2.2.2.2.1))))))), (by exact ((bU_n (by omega)).trans (((bU_n (by omega)).trans (((bU_n (by omega)).trans ((hD.2.1 _ (inB_lt bD)).2.2.2.2.2.1))))))), (by exact ((bU_n (by omega)).trans (((bU_n (by omega)).trans (((bU_n (by omega)).trans ((hD.2.1 _ (inB_lt bD)).2.2.2.2.2.2.1))))))), (by exact ((bU_n (by omega)).trans (((bU_n (by omega)).trans (((bU_n (by omega)).trans ((hD.2.1 _ (inB_lt bD)).2.2.2.2.2.2.2)))))))⟩ (fun q _ => (bU_n (by omega)).trans ((bU_n (by omega)).trans ((bU_n (by omega)).trans (rfl))))) (hA.fr j3 (fun q _ => (bU_n (by omega)).trans ((bU_n (by omega)).trans ((bU_n (by omega)).trans (rfl))))) (by exact ((bU_n (by decide)).trans (((bU_n (by omega)).trans (((bU_n (by omega)).trans (hI))))))) (by obtain ⟨tk8, h8⟩ := hC; exact ⟨tk8, (bU_n (by omega)).trans ((bU_n (by omega)).trans ((bU_n (by omega)).trans (h8)))⟩) (by exact ((bU_n (by decide)).trans (((bU_n (by omega)).trans (((bU_n (by omega)).trans (hF))))))) (fun q _ => (bU_n (by omega)).trans ((bU_n (by omega)).trans ((bU_n (by omega)).trans (rfl)))) (by omega) (by omega)
            · refine r_aload_n (n := 0) (i := 0) 1 rfl rfl dX7_guard_49 ?_
              refine r_iconst (v := 2) (by decide) dX7_guard_50 ?_
              refine p_callV (As := [.int 2]) (rest := []) (kX7_deny (O := O) (d := 0) (f := f) (n := n) (s := s) (ct_m := nI mc) (ct_d := nI dc) (ct_a := nI ac) (ct_f := nI dfn) (tday := nI td) (trb := tr) (flt := ft) (plc := pl) (x := 2) hS  (Nat.le_refl _)).call rfl lkX7_109 imX7_deny seX7_deny rfl hS rfl rfl (by omega) (Nat.le_of_ble_eq_true rfl) dX7_guard_51 (fun v9 G9 h9 => ?_) (fun q9 G9 h9 => (by cases h9.1))
              obtain ⟨h8, rfl⟩ := h9; cases h8
              show bV O _ d 54 [(5, .ref (dA (cl x))), (0, .ref 32), (1, .int x), (2, .int k), (3, .int l), (4, .int h)] [.int 0] (bU f 32 (.inr (7, [.ref 33, .ref 38, .ref 40, .ref 41, .ref 42, .ref 43, .ref 44, .ref 45, .int (nI mc), .int (nI dc), .int (nI ac), .int (nI dfn), .int (nI td), .int 2, .int ft, .int pl])), n, s) _
              refine r_zreturn rfl (by first | decide +kernel | exact narZ _ | assumption) dX7_guard_54 ?_
              unfold s_guard
              try simp only []
              try (first | simp only [if_pos bD] | simp only [if_neg bD] | simp only [if_neg (Bool.eq_false_iff.mp bD)])
              try (first | simp only [if_pos c13] | simp only [if_neg c13] | simp only [if_neg (Bool.eq_false_iff.mp c13)])
              try (first | simp only [if_pos c19] | simp only [if_neg c19] | simp only [if_neg (Bool.eq_false_iff.mp c19)])
              try (first | simp only [if_pos c32] | simp only [if_neg c32] | simp only [if_neg (Bool.eq_false_iff.mp c32)])
              try (first | simp only [if_pos c40] | simp only [if_neg c40] | simp only [if_neg (Bool.eq_false_iff.mp c40)])
              try (first | simp only [if_pos c46] | simp only [if_neg c46] | simp only [if_neg (Bool.eq_false_iff.mp c46)])
              exact pX_mk (by exact bU_s _ _ _) (hT.fr (fun q _ _ => (bU_n (by omega)).trans (rfl))) (hW.fr (fun q _ _ => (bU_n (by omega)).trans (rfl))) (hM.fr j1 (fun q _ => (bU_n (by omega)).trans (rfl))) (hD.fr j2 (fun q _ => (bU_n (by omega)).trans (rfl))) (hA.fr j3 (fun q _ => (bU_n (by omega)).trans (rfl))) (by exact ((bU_n (by decide)).trans (hI))) (by obtain ⟨tk8, h8⟩ := hC; exact ⟨tk8, (bU_n (by omega)).trans (h8)⟩) (by exact ((bU_n (by decide)).trans (hF))) (fun q _ => (bU_n (by omega)).trans (rfl)) (by omega) (by omega)
      · refine r_aload_n (n := 0) (i := 0) 1 rfl rfl dX7_guard_22 ?_
        refine r_iconst (v := 1) (by decide) dX7_guard_23 ?_
        refine p_callV (As := [.int 1]) (rest := []) (kX7_deny (O := O) (d := 0) (f := f) (n := n) (s := s) (ct_m := nI mc) (ct_d := nI dc) (ct_a := nI ac) (ct_f := nI dfn) (tday := nI td) (trb := tr) (flt := ft) (plc := pl) (x := 1) hS  (Nat.le_refl _)).call rfl lkX7_109 imX7_deny seX7_deny rfl hS rfl rfl (by omega) (Nat.le_of_ble_eq_true rfl) dX7_guard_24 (fun v9 G9 h9 => ?_) (fun q9 G9 h9 => (by cases h9.1))
        obtain ⟨h8, rfl⟩ := h9; cases h8
        show bV O _ d 27 [(5, .ref (dA (cl x))), (0, .ref 32), (1, .int x), (2, .int k), (3, .int l), (4, .int h)] [.int 0] (bU f 32 (.inr (7, [.ref 33, .ref 38, .ref 40, .ref 41, .ref 42, .ref 43, .ref 44, .ref 45, .int (nI mc), .int (nI dc), .int (nI ac), .int (nI dfn), .int (nI td), .int 1, .int ft, .int pl])), n, s) _
        refine r_zreturn rfl (by first | decide +kernel | exact narZ _ | assumption) dX7_guard_27 ?_
        unfold s_guard
        try simp only []
        try (first | simp only [if_pos bD] | simp only [if_neg bD] | simp only [if_neg (Bool.eq_false_iff.mp bD)])
        try (first | simp only [if_pos c13] | simp only [if_neg c13] | simp only [if_neg (Bool.eq_false_iff.mp c13)])
        try (first | simp only [if_pos c19] | simp only [if_neg c19] | simp only [if_neg (Bool.eq_false_iff.mp c19)])
        exact pX_mk (by exact bU_s _ _ _) (hT.fr (fun q _ _ => (bU_n (by omega)).trans (rfl))) (hW.fr (fun q _ _ => (bU_n (by omega)).trans (rfl))) (hM.fr j1 (fun q _ => (bU_n (by omega)).trans (rfl))) (hD.fr j2 (fun q _ => (bU_n (by omega)).trans (rfl))) (hA.fr j3 (fun q _ => (bU_n (by omega)).trans (rfl))) (by exact ((bU_n (by decide)).trans (hI))) (by obtain ⟨tk8, h8⟩ := hC; exact ⟨tk8, (bU_n (by omega)).trans (h8)⟩) (by exact ((bU_n (by decide)).trans (hF))) (fun q _ => (bU_n (by omega)).trans (rfl)) (by omega) (by omega)
  · rw [oAt_neg bD]
    show bV O _ d 5 [(0, .ref 32), (1, .int x), (2, .int k), (3, .int l), (4, .int h)] [.null] (f, n, s) _
    refine r_astoreN (i := 5) (L' := [(5, .null), (0, .ref 32), (1, .int x), (2, .int k), (3, .int l), (4, .int h)]) dX7_guard_5 (by decide) rfl ?_
    refine r_aloadN (i := 5) 0 rfl dX7_guard_7 ?_
    refine r_ifnullN (tgt := 22) (by decide) dX7_guard_9 ?_
    refine r_aload_n (n := 0) (i := 0) 1 rfl rfl dX7_guard_22 ?_
    refine r_iconst (v := 1) (by decide) dX7_guard_23 ?_
    refine p_callV (As := [.int 1]) (rest := []) (kX7_deny (O := O) (d := 0) (f := f) (n := n) (s := s) (ct_m := nI mc) (ct_d := nI dc) (ct_a := nI ac) (ct_f := nI dfn) (tday := nI td) (trb := tr) (flt := ft) (plc := pl) (x := 1) hS  (Nat.le_refl _)).call rfl lkX7_109 imX7_deny seX7_deny rfl hS rfl rfl (by omega) (Nat.le_of_ble_eq_true rfl) dX7_guard_24 (fun v9 G9 h9 => ?_) (fun q9 G9 h9 => (by cases h9.1))
    obtain ⟨h8, rfl⟩ := h9; cases h8
    show bV O _ d 27 [(5, .null), (0, .ref 32), (1, .int x), (2, .int k), (3, .int l), (4, .int h)] [.int 0] (bU f 32 (.inr (7, [.ref 33, .ref 38, .ref 40, .ref 41, .ref 42, .ref 43, .ref 44, .ref 45, .int (nI mc), .int (nI dc), .int (nI ac), .int (nI dfn), .int (nI td), .int 1, .int ft, .int pl])), n, s) _
    refine r_zreturn rfl (by first | decide +kernel | exact narZ _ | assumption) dX7_guard_27 ?_
    unfold s_guard
    try simp only []
    try (first | simp only [if_pos bD] | simp only [if_neg bD] | simp only [if_neg (Bool.eq_false_iff.mp bD)])
    exact pX_mk (by exact bU_s _ _ _) (hT.fr (fun q _ _ => (bU_n (by omega)).trans (rfl))) (hW.fr (fun q _ _ => (bU_n (by omega)).trans (rfl))) (hM.fr j1 (fun q _ => (bU_n (by omega)).trans (rfl))) (hD.fr j2 (fun q _ => (bU_n (by omega)).trans (rfl))) (hA.fr j3 (fun q _ => (bU_n (by omega)).trans (rfl))) (by exact ((bU_n (by decide)).trans (hI))) (by obtain ⟨tk8, h8⟩ := hC; exact ⟨tk8, (bU_n (by omega)).trans (h8)⟩) (by exact ((bU_n (by decide)).trans (hF))) (fun q _ => (bU_n (by omega)).trans (rfl)) (by omega) (by omega)
set_option maxRecDepth 4000 in
theorem x_rival {O : bO} {d : Nat} {f : bF} {n s : Nat} {bs : Nat → Int32} {tl : Nat} {mc : Nat} {md : Nat → MR} {ip : Nat → Int32} {dc : Nat} {dr : Nat → DR} {ac : Nat} {an : Nat → AR} {hs : Bool} {sd : Nat → Int32} {df : Nat → Int32} {dfn : Nat} {td : Nat} {tr : Int32} {ft : Int32} {pl : Int32} {x : Int32} {m : Int32} {h : Int32} (hX : XR f (bs, tl, mc, md, ip, dc, dr, ac, an, hs, sd, df, dfn, td, tr, ft, pl)) (jX : JX (bs, tl, mc, md, ip, dc, dr, ac, an, hs, sd, df, dfn, td, tr, ft, pl))  (hd : 1 ≤ d) : bCall O mX7_rival d [.ref 32, .int x, .int m, .int h] (f, n, s) (pX f n s 0 0 (s_rival (bs, tl, mc, md, ip, dc, dr, ac, an, hs, sd, df, dfn, td, tr, ft, pl) x m h)) := by
  refine bCall_of (by decide) rfl (Nat.le_of_ble_eq_true rfl) ?_
  obtain ⟨hS, hT, hW, hM, hD, hA, hI, hC, hF⟩ := id hX
  obtain ⟨j1, j2, j3, j4, j5, j6, j7, j8⟩ := id jX
  simp only [] at hS hT hW hM hD hA hI hC hF j1 j2 j3 j4 j5 j6 j7 j8
  show bV O _ d 0 [(0, .ref 32), (1, .int x), (2, .int m), (3, .int h)] [] (f, n, s) _
  refine r_aload_n (n := 0) (i := 0) 0 rfl rfl dX7_rival_0 ?_
  refine r_iload_n (n := 1) (i := 1) 1 rfl rfl dX7_rival_1 ?_
  refine p_callV (As := [.int x]) (rest := []) (kX7_doorAt (O := O) (d := 0) (f := f) (n := n) (s := s) (ct_m := nI mc) (ct_d := nI dc) (ct_a := nI ac) (ct_f := nI dfn) (tday := nI td) (trb := tr) (flt := ft) (plc := pl) (x := x) (nn := dc) hS hD.1 (by first | assumption | omega | decide) (Nat.le_refl _)).call rfl lkX7_126 imX7_doorAt seX7_doorAt rfl hS rfl rfl (by omega) (Nat.le_of_ble_eq_true rfl) dX7_rival_2 (fun v9 G9 h9 => ?_) (fun q9 G9 h9 => (by cases h9.1))
  obtain ⟨h8, rfl⟩ := h9; cases h8
  by_cases bD : inB x dc = true
  · rw [oAt_pos bD]
    have b1bD := dA_b (Nat.lt_of_lt_of_le (inB_lt bD) j2)
    show bV O _ d 5 [(0, .ref 32), (1, .int x), (2, .int m), (3, .int h)] [.ref (dA (cl x))] (f, n, s) _
    refine r_astore (i := 4) (L' := [(4, .ref (dA (cl x))), (0, .ref 32), (1, .int x), (2, .int m), (3, .int h)]) dX7_rival_5 (by decide) rfl ?_
    refine r_aload (i := 4) 0 rfl dX7_rival_7 ?_
    refine r_ifnull dX7_rival_9 ?_
    refine r_aload_n (n := 0) (i := 0) 1 rfl rfl dX7_rival_12 ?_
    refine r_iload_n (n := 2) (i := 2) 3 rfl rfl dX7_rival_13 ?_
    refine p_callV (As := [.int m]) (rest := []) (kX7_modelAt (O := O) (d := 0) (f := f) (n := n) (s := s) (ct_m := nI mc) (ct_d := nI dc) (ct_a := nI ac) (ct_f := nI dfn) (tday := nI td) (trb := tr) (flt := ft) (plc := pl) (x := m) (nn := mc) hS hM.1 (by first | assumption | omega | decide) (Nat.le_refl _)).call rfl lkX7_99 imX7_modelAt seX7_modelAt rfl hS rfl rfl (by omega) (Nat.le_of_ble_eq_true rfl) dX7_rival_14 (fun v9 G9 h9 => ?_) (fun q9 G9 h9 => (by cases h9.1))
    obtain ⟨h8, rfl⟩ := h9; cases h8
    by_cases bM : inB m mc = true
    · rw [oAt_pos bM]
      have b1bM := mA_b (Nat.lt_of_lt_of_le (inB_lt bM) j1)
      obtain ⟨mk1, mv1, m11, m21, m31, m41⟩ := hM.2.1 _ (inB_lt bM)
      show bV O _ d 17 [(4, .ref (dA (cl x))), (0, .ref 32), (1, .int x), (2, .int m), (3, .int h)] [.ref (mA (cl m))] (f, n, s) _
      refine r_ifnonnull (tgt := 26) (by decide) dX7_rival_17 ?_
      refine r_iload_n (n := 3) (i := 3) 4 rfl rfl dX7_rival_26 ?_
      refine r_if_lt (tgt := 36) (by decide) dX7_rival_27 (fun c27 => ?_) (fun c27 => ?_)
      · refine r_aload_n (n := 0) (i := 0) 1 rfl rfl dX7_rival_36 ?_
        refine r_iconst (v := 2) (by decide) dX7_rival_37 ?_
        refine p_callV (As := [.int 2]) (rest := []) (kX7_deny (O := O) (d := 0) (f := f) (n := n) (s := s) (ct_m := nI mc) (ct_d := nI dc) (ct_a := nI ac) (ct_f := nI dfn) (tday := nI td) (trb := tr) (flt := ft) (plc := pl) (x := 2) hS  (Nat.le_refl _)).call rfl lkX7_109 imX7_deny seX7_deny rfl hS rfl rfl (by omega) (Nat.le_of_ble_eq_true rfl) dX7_rival_38 (fun v9 G9 h9 => ?_) (fun q9 G9 h9 => (by cases h9.1))
        obtain ⟨h8, rfl⟩ := h9; cases h8
        show bV O _ d 41 [(4, .ref (dA (cl x))), (0, .ref 32), (1, .int x), (2, .int m), (3, .int h)] [.int 0] (bU f 32 (.inr (7, [.ref 33, .ref 38, .ref 40, .ref 41, .ref 42, .ref 43, .ref 44, .ref 45, .int (nI mc), .int (nI dc), .int (nI ac), .int (nI dfn), .int (nI td), .int 2, .int ft, .int pl])), n, s) _
        refine r_zreturn rfl (by first | decide +kernel | exact narZ _ | assumption) dX7_rival_41 ?_
        unfold s_rival
        try simp only []
        try (first | simp only [if_pos bD] | simp only [if_neg bD] | simp only [if_neg (Bool.eq_false_iff.mp bD)])
        try (first | simp only [if_pos bM] | simp only [if_neg bM] | simp only [if_neg (Bool.eq_false_iff.mp bM)])
        try (first | simp only [if_pos c27] | simp only [if_neg c27] | simp only [if_neg (Bool.eq_false_iff.mp c27)])
        exact pX_mk (by exact bU_s _ _ _) (hT.fr (fun q _ _ => (bU_n (by omega)).trans (rfl))) (hW.fr (fun q _ _ => (bU_n (by omega)).trans (rfl))) (hM.fr j1 (fun q _ => (bU_n (by omega)).trans (rfl))) (hD.fr j2 (fun q _ => (bU_n (by omega)).trans (rfl))) (hA.fr j3 (fun q _ => (bU_n (by omega)).trans (rfl))) (by exact ((bU_n (by decide)).trans (hI))) (by obtain ⟨tk8, h8⟩ := hC; exact ⟨tk8, (bU_n (by omega)).trans (h8)⟩) (by exact ((bU_n (by decide)).trans (hF))) (fun q _ => (bU_n (by omega)).trans (rfl)) (by omega) (by omega)
      · refine r_iload_n (n := 3) (i := 3) 4 rfl rfl dX7_rival_30 ?_
        refine r_bipush (v := 100) (by decide) dX7_rival_31 ?_
        refine r_icmp_le (tgt := 42) (by decide) dX7_rival_33 (fun c33 => ?_) (fun c33 => ?_)
        · refine r_aload (i := 4) 0 rfl dX7_rival_42 ?_
          refine p_get (fs := [.ref ((dA (cl x)) + 1), .ref ((dA (cl x)) + 2), .ref ((dA (cl x)) + 3), .ref ((dA (cl x)) + 4), .ref ((dA (cl x)) + 5), .ref ((dA (cl x)) + 6), .ref ((dA (cl x)) + 7), .int (d_ch (dr (cl x))), .int (d_rv (dr (cl x))), .int (d_sh (dr (cl x))), .int (nI (d_fc (dr (cl x)))), .int (nI (d_cn (dr (cl x)))), .int (d_kp (dr (cl x))), .int (d_rf (dr (cl x)))]) flX7_136 (by exact (hD.2.1 _ (inB_lt bD)).1) rfl dX7_rival_44 ?_
          refine r_bipush (v := (-2)) (by decide) dX7_rival_47 ?_
          refine r_icmp_eq (tgt := 61) (by decide) dX7_rival_49 (fun c49 => ?_) (fun c49 => ?_)
          · refine r_aload_n (n := 0) (i := 0) 1 rfl rfl dX7_rival_61 ?_
            refine r_iconst (v := 5) (by decide) dX7_rival_62 ?_
            refine p_callV (As := [.int 5]) (rest := []) (kX7_deny (O := O) (d := 0) (f := f) (n := n) (s := s) (ct_m := nI mc) (ct_d := nI dc) (ct_a := nI ac) (ct_f := nI dfn) (tday := nI td) (trb := tr) (flt := ft) (plc := pl) (x := 5) hS  (Nat.le_refl _)).call rfl lkX7_109 imX7_deny seX7_deny rfl hS rfl rfl (by omega) (Nat.le_of_ble_eq_true rfl) dX7_rival_63 (fun v9 G9 h9 => ?_) (fun q9 G9 h9 => (by cases h9.1))
            obtain ⟨h8, rfl⟩ := h9; cases h8
            show bV O _ d 66 [(4, .ref (dA (cl x))), (0, .ref 32), (1, .int x), (2, .int m), (3, .int h)] [.int 0] (bU f 32 (.inr (7, [.ref 33, .ref 38, .ref 40, .ref 41, .ref 42, .ref 43, .ref 44, .ref 45, .int (nI mc), .int (nI dc), .int (nI ac), .int (nI dfn), .int (nI td), .int 5, .int ft, .int pl])), n, s) _
            refine r_zreturn rfl (by first | decide +kernel | exact narZ _ | assumption) dX7_rival_66 ?_
            unfold s_rival
            try simp only []
            try (first | simp only [if_pos bD] | simp only [if_neg bD] | simp only [if_neg (Bool.eq_false_iff.mp bD)])
            try (first | simp only [if_pos bM] | simp only [if_neg bM] | simp only [if_neg (Bool.eq_false_iff.mp bM)])
            try (first | simp only [if_pos c27] | simp only [if_neg c27] | simp only [if_neg (Bool.eq_false_iff.mp c27)])
            try (first | simp only [if_pos c33] | simp only [if_neg c33] | simp only [if_neg (Bool.eq_false_iff.mp c33)])
            try (first | simp only [if_pos c49] | simp only [if_neg c49] | simp only [if_neg (Bool.eq_false_iff.mp c49)])
            exact pX_mk (by exact bU_s _ _ _) (hT.fr (fun q _ _ => (bU_n (by omega)).trans (rfl))) (hW.fr (fun q _ _ => (bU_n (by omega)).trans (rfl))) (hM.fr j1 (fun q _ => (bU_n (by omega)).trans (rfl))) (hD.fr j2 (fun q _ => (bU_n (by omega)).trans (rfl))) (hA.fr j3 (fun q _ => (bU_n (by omega)).trans (rfl))) (by exact ((bU_n (by decide)).trans (hI))) (by obtain ⟨tk8, h8⟩ := hC; exact ⟨tk8, (bU_n (by omega)).trans (h8)⟩) (by exact ((bU_n (by decide)).trans (hF))) (fun q _ => (bU_n (by omega)).trans (rfl)) (by omega) (by omega)
          · refine r_aload (i := 4) 0 rfl dX7_rival_52 ?_
            refine p_get (fs := [.ref ((dA (cl x)) + 1), .ref ((dA (cl x)) + 2), .ref ((dA (cl x)) + 3), .ref ((dA (cl x)) + 4), .ref ((dA (cl x)) + 5), .ref ((dA (cl x)) + 6), .ref ((dA (cl x)) + 7), .int (d_ch (dr (cl x))), .int (d_rv (dr (cl x))), .int (d_sh (dr (cl x))), .int (nI (d_fc (dr (cl x)))), .int (nI (d_cn (dr (cl x)))), .int (d_kp (dr (cl x))), .int (d_rf (dr (cl x)))]) flX7_136 (by exact (hD.2.1 _ (inB_lt bD)).1) rfl dX7_rival_54 ?_
            refine r_iload_n (n := 2) (i := 2) 3 rfl rfl dX7_rival_57 ?_
            refine r_icmp_ne (tgt := 67) (by decide) dX7_rival_58 (fun c58 => ?_) (fun c58 => ?_)
            · refine r_aload (i := 4) 0 rfl dX7_rival_67 ?_
              refine r_iload_n (n := 2) (i := 2) 3 rfl rfl dX7_rival_69 ?_
              refine p_put (fs := [.ref ((dA (cl x)) + 1), .ref ((dA (cl x)) + 2), .ref ((dA (cl x)) + 3), .ref ((dA (cl x)) + 4), .ref ((dA (cl x)) + 5), .ref ((dA (cl x)) + 6), .ref ((dA (cl x)) + 7), .int (d_ch (dr (cl x))), .int (d_rv (dr (cl x))), .int (d_sh (dr (cl x))), .int (nI (d_fc (dr (cl x)))), .int (nI (d_cn (dr (cl x)))), .int (d_kp (dr (cl x))), .int (d_rf (dr (cl x)))]) (fs' := [.ref ((dA (cl x)) + 1), .ref ((dA (cl x)) + 2), .ref ((dA (cl x)) + 3), .ref ((dA (cl x)) + 4), .ref ((dA (cl x)) + 5), .ref ((dA (cl x)) + 6), .ref ((dA (cl x)) + 7), .int (d_ch (dr (cl x))), .int m, .int (d_sh (dr (cl x))), .int (nI (d_fc (dr (cl x)))), .int (nI (d_cn (dr (cl x)))), .int (d_kp (dr (cl x))), .int (d_rf (dr (cl x)))]) flX7_149 (by exact (hD.2.1 _ (inB_lt bD)).1) (Nat.le_of_ble_eq_true rfl) (bNf_i _) rfl dX7_rival_70 ?_
              refine r_aload (i := 4) 0 rfl dX7_rival_73 ?_
              refine r_iload_n (n := 3) (i := 3) 4 rfl rfl dX7_rival_75 ?_
              refine p_put (fs := [.ref ((dA (cl x)) + 1), .ref ((dA (cl x)) + 2), .ref ((dA (cl x)) + 3), .ref ((dA (cl x)) + 4), .ref ((dA (cl x)) + 5), .ref ((dA (cl x)) + 6), .ref ((dA (cl x)) + 7), .int (d_ch (dr (cl x))), .int m, .int (d_sh (dr (cl x))), .int (nI (d_fc (dr (cl x)))), .int (nI (d_cn (dr (cl x)))), .int (d_kp (dr (cl x))), .int (d_rf (dr (cl x)))]) (fs' := [.ref ((dA (cl x)) + 1), .ref ((dA (cl x)) + 2), .ref ((dA (cl x)) + 3), .ref ((dA (cl x)) + 4), .ref ((dA (cl x)) + 5), .ref ((dA (cl x)) + 6), .ref ((dA (cl x)) + 7), .int (d_ch (dr (cl x))), .int m, .int h, .int (nI (d_fc (dr (cl x)))), .int (nI (d_cn (dr (cl x)))), .int (d_kp (dr (cl x))), .int (d_rf (dr (cl x)))]) flX7_155 (by exact bU_s _ _ _) (Nat.le_of_ble_eq_true rfl) (bNf_i _) rfl dX7_rival_76 ?_
              refine bV_h (f2 := bU f (dA (cl x)) (.inr (1, [.ref ((dA (cl x)) + 1), .ref ((dA (cl x)) + 2), .ref ((dA (cl x)) + 3), .ref ((dA (cl x)) + 4), .ref ((dA (cl x)) + 5), .ref ((dA (cl x)) + 6), .ref ((dA (cl x)) + 7), .int (d_ch (dr (cl x))), .int m, .int h, .int (nI (d_fc (dr (cl x)))), .int (nI (d_cn (dr (cl x)))), .int (d_kp (dr (cl x))), .int (d_rf (dr (cl x)))]))) (bU_u _ _ _ _) ?_
              refine r_aload_n (n := 0) (i := 0) 1 rfl rfl dX7_rival_79 ?_
              refine p_callV (As := []) (rest := []) (kX7_allow (O := O) (d := 0) (f := bU f (dA (cl x)) (.inr (1, [.ref ((dA (cl x)) + 1), .ref ((dA (cl x)) + 2), .ref ((dA (cl x)) + 3), .ref ((dA (cl x)) + 4), .ref ((dA (cl x)) + 5), .ref ((dA (cl x)) + 6), .ref ((dA (cl x)) + 7), .int (d_ch (dr (cl x))), .int m, .int h, .int (nI (d_fc (dr (cl x)))), .int (nI (d_cn (dr (cl x)))), .int (d_kp (dr (cl x))), .int (d_rf (dr (cl x)))]))) (n := n) (s := s) (ct_m := nI mc) (ct_d := nI dc) (ct_a := nI ac) (ct_f := nI dfn) (tday := nI td) (trb := tr) (flt := ft) (plc := pl) (by exact ((bU_n (by omega)).trans (hS)))  (Nat.le_refl _)).call rfl lkX7_113 imX7_allow seX7_allow rfl (by exact ((bU_n (by omega)).trans (hS))) rfl rfl (by omega) (Nat.le_of_ble_eq_true rfl) dX7_rival_80 (fun v9 G9 h9 => ?_) (fun q9 G9 h9 => (by cases h9.1))
              obtain ⟨h8, rfl⟩ := h9; cases h8
              show bV O _ d 83 [(4, .ref (dA (cl x))), (0, .ref 32), (1, .int x), (2, .int m), (3, .int h)] [.int 1] (bU (bU f (dA (cl x)) (.inr (1, [.ref ((dA (cl x)) + 1), .ref ((dA (cl x)) + 2), .ref ((dA (cl x)) + 3), .ref ((dA (cl x)) + 4), .ref ((dA (cl x)) + 5), .ref ((dA (cl x)) + 6), .ref ((dA (cl x)) + 7), .int (d_ch (dr (cl x))), .int m, .int h, .int (nI (d_fc (dr (cl x)))), .int (nI (d_cn (dr (cl x)))), .int (d_kp (dr (cl x))), .int (d_rf (dr (cl x)))]))) 32 (.inr (7, [.ref 33, .ref 38, .ref 40, .ref 41, .ref 42, .ref 43, .ref 44, .ref 45, .int (nI mc), .int (nI dc), .int (nI ac), .int (nI dfn), .int (nI td), .int 0, .int ft, .int pl])), n, s) _
              refine r_zreturn rfl (by first | decide +kernel | exact narZ _ | assumption) dX7_rival_83 ?_
              unfold s_rival
              try simp only []
              try (first | simp only [if_pos bD] | simp only [if_neg bD] | simp only [if_neg (Bool.eq_false_iff.mp bD)])
              try (first | simp only [if_pos bM] | simp only [if_neg bM] | simp only [if_neg (Bool.eq_false_iff.mp bM)])
              try (first | simp only [if_pos c27] | simp only [if_neg c27] | simp only [if_neg (Bool.eq_false_iff.mp c27)])
              try (first | simp only [if_pos c33] | simp only [if_neg c33] | simp only [if_neg (Bool.eq_false_iff.mp c33)])
              try (first | simp only [if_pos c49] | simp only [if_neg c49] | simp only [if_neg (Bool.eq_false_iff.mp c49)])
              try (first | simp only [if_pos c58] | simp only [if_neg c58] | simp only [if_neg (Bool.eq_false_iff.mp c58)])
              exact pX_mk (by exact bU_s _ _ _) (hT.fr (fun q _ _ => (bU_n (by omega)).trans ((bU_n (by omega)).trans (rfl)))) (hW.fr (fun q _ _ => (bU_n (by omega)).trans ((bU_n (by omega)).trans (rfl)))) (hM.fr j1 (fun q _ => (bU_n (by omega)).trans ((bU_n (by omega)).trans (rfl)))) (hD.put j2 (inB_lt bD) ⟨(by exact ((bU_n (by omega)).trans (bU_s _ _ _))), (by exact ((bU_n (by omega)).trans (((bU_n (by omega)).trans ((hD.2.1 _ (inB_lt bD)).2.1))))), (by exact ((bU_n (by omega)).trans (((bU_n (by omega)).trans ((hD.2.1 _ (inB_lt bD)).2.2.1))))), (by exact ((bU_n (by omega)).trans (((bU_n (by omega)).trans ((hD.2.1 _ (inB_lt bD)).2.2.2.1))))), (by exact ((bU_n (by omega)).trans (((bU_n (by omega)).trans ((hD.2.1 _ (inB_lt bD)).2.2.2.2.1))))), (by exact ((bU_n (by omega)).trans (((bU_n (by omega)).trans ((hD.2.1 _ (inB_lt bD)).2.2.2.2.2.1))))), (by exact ((bU_n (by omega)).trans (((bU_n (by omega)).trans ((hD.2.1 _ (inB_lt bD)).2.2.2.2.2.2.1))))), (by exact ((bU_n (by omega)).trans (((bU_n (by omega)).trans ((hD.2.1 _ (inB_lt bD)).2.2.2.2.2.2.2)))))⟩ (fun q _ => (bU_n (by omega)).trans ((bU_n (by omega)).trans (rfl)))) (hA.fr j3 (fun q _ => (bU_n (by omega)).trans ((bU_n (by omega)).trans (rfl)))) (by exact ((bU_n (by decide)).trans (((bU_n (by omega)).trans (hI))))) (by obtain ⟨tk8, h8⟩ := hC; exact ⟨tk8, (bU_n (by omega)).trans ((bU_n (by omega)).trans (h8))⟩) (by exact ((bU_n (by decide)).trans (((bU_n (by omega)).trans (hF))))) (fun q _ => (bU_n (by omega)).trans ((bU_n (by omega)).trans (rfl))) (by omega) (by omega)
            · refine r_aload_n (n := 0) (i := 0) 1 rfl rfl dX7_rival_61 ?_
              refine r_iconst (v := 5) (by decide) dX7_rival_62 ?_
              refine p_callV (As := [.int 5]) (rest := []) (kX7_deny (O := O) (d := 0) (f := f) (n := n) (s := s) (ct_m := nI mc) (ct_d := nI dc) (ct_a := nI ac) (ct_f := nI dfn) (tday := nI td) (trb := tr) (flt := ft) (plc := pl) (x := 5) hS  (Nat.le_refl _)).call rfl lkX7_109 imX7_deny seX7_deny rfl hS rfl rfl (by omega) (Nat.le_of_ble_eq_true rfl) dX7_rival_63 (fun v9 G9 h9 => ?_) (fun q9 G9 h9 => (by cases h9.1))
              obtain ⟨h8, rfl⟩ := h9; cases h8
              show bV O _ d 66 [(4, .ref (dA (cl x))), (0, .ref 32), (1, .int x), (2, .int m), (3, .int h)] [.int 0] (bU f 32 (.inr (7, [.ref 33, .ref 38, .ref 40, .ref 41, .ref 42, .ref 43, .ref 44, .ref 45, .int (nI mc), .int (nI dc), .int (nI ac), .int (nI dfn), .int (nI td), .int 5, .int ft, .int pl])), n, s) _
              refine r_zreturn rfl (by first | decide +kernel | exact narZ _ | assumption) dX7_rival_66 ?_
              unfold s_rival
              try simp only []
              try (first | simp only [if_pos bD] | simp only [if_neg bD] | simp only [if_neg (Bool.eq_false_iff.mp bD)])
              try (first | simp only [if_pos bM] | simp only [if_neg bM] | simp only [if_neg (Bool.eq_false_iff.mp bM)])
              try (first | simp only [if_pos c27] | simp only [if_neg c27] | simp only [if_neg (Bool.eq_false_iff.mp c27)])
              try (first | simp only [if_pos c33] | simp only [if_neg c33] | simp only [if_neg (Bool.eq_false_iff.mp c33)])
              try (first | simp only [if_pos c49] | simp only [if_neg c49] | simp only [if_neg (Bool.eq_false_iff.mp c49)])
              try (first | simp only [if_pos c58] | simp only [if_neg c58] | simp only [if_neg (Bool.eq_false_iff.mp c58)])
              exact pX_mk (by exact bU_s _ _ _) (hT.fr (fun q _ _ => (bU_n (by omega)).trans (rfl))) (hW.fr (fun q _ _ => (bU_n (by omega)).trans (rfl))) (hM.fr j1 (fun q _ => (bU_n (by omega)).trans (rfl))) (hD.fr j2 (fun q _ => (bU_n (by omega)).trans (rfl))) (hA.fr j3 (fun q _ => (bU_n (by omega)).trans (rfl))) (by exact ((bU_n (by decide)).trans (hI))) (by obtain ⟨tk8, h8⟩ := hC; exact ⟨tk8, (bU_n (by omega)).trans (h8)⟩) (by exact ((bU_n (by decide)).trans (hF))) (fun q _ => (bU_n (by omega)).trans (rfl)) (by omega) (by omega)
        · refine r_aload_n (n := 0) (i := 0) 1 rfl rfl dX7_rival_36 ?_
          refine r_iconst (v := 2) (by decide) dX7_rival_37 ?_
          refine p_callV (As := [.int 2]) (rest := []) (kX7_deny (O := O) (d := 0) (f := f) (n := n) (s := s) (ct_m := nI mc) (ct_d := nI dc) (ct_a := nI ac) (ct_f := nI dfn) (tday := nI td) (trb := tr) (flt := ft) (plc := pl) (x := 2) hS  (Nat.le_refl _)).call rfl lkX7_109 imX7_deny seX7_deny rfl hS rfl rfl (by omega) (Nat.le_of_ble_eq_true rfl) dX7_rival_38 (fun v9 G9 h9 => ?_) (fun q9 G9 h9 => (by cases h9.1))
          obtain ⟨h8, rfl⟩ := h9; cases h8
          show bV O _ d 41 [(4, .ref (dA (cl x))), (0, .ref 32), (1, .int x), (2, .int m), (3, .int h)] [.int 0] (bU f 32 (.inr (7, [.ref 33, .ref 38, .ref 40, .ref 41, .ref 42, .ref 43, .ref 44, .ref 45, .int (nI mc), .int (nI dc), .int (nI ac), .int (nI dfn), .int (nI td), .int 2, .int ft, .int pl])), n, s) _
          refine r_zreturn rfl (by first | decide +kernel | exact narZ _ | assumption) dX7_rival_41 ?_
          unfold s_rival
          try simp only []
          try (first | simp only [if_pos bD] | simp only [if_neg bD] | simp only [if_neg (Bool.eq_false_iff.mp bD)])
          try (first | simp only [if_pos bM] | simp only [if_neg bM] | simp only [if_neg (Bool.eq_false_iff.mp bM)])
          try (first | simp only [if_pos c27] | simp only [if_neg c27] | simp only [if_neg (Bool.eq_false_iff.mp c27)])
          try (first | simp only [if_pos c33] | simp only [if_neg c33] | simp only [if_neg (Bool.eq_false_iff.mp c33)])
          exact pX_mk (by exact bU_s _ _ _) (hT.fr (fun q _ _ => (bU_n (by omega)).trans (rfl))) (hW.fr (fun q _ _ => (bU_n (by omega)).trans (rfl))) (hM.fr j1 (fun q _ => (bU_n (by omega)).trans (rfl))) (hD.fr j2 (fun q _ => (bU_n (by omega)).trans (rfl))) (hA.fr j3 (fun q _ => (bU_n (by omega)).trans (rfl))) (by exact ((bU_n (by decide)).trans (hI))) (by obtain ⟨tk8, h8⟩ := hC; exact ⟨tk8, (bU_n (by omega)).trans (h8)⟩) (by exact ((bU_n (by decide)).trans (hF))) (fun q _ => (bU_n (by omega)).trans (rfl)) (by omega) (by omega)
    · rw [oAt_neg bM]
      show bV O _ d 17 [(4, .ref (dA (cl x))), (0, .ref 32), (1, .int x), (2, .int m), (3, .int h)] [.null] (f, n, s) _
      refine r_ifnonnullN dX7_rival_17 ?_
      refine r_aload_n (n := 0) (i := 0) 1 rfl rfl dX7_rival_20 ?_
      refine r_iconst (v := 1) (by decide) dX7_rival_21 ?_
      refine p_callV (As := [.int 1]) (rest := []) (kX7_deny (O := O) (d := 0) (f := f) (n := n) (s := s) (ct_m := nI mc) (ct_d := nI dc) (ct_a := nI ac) (ct_f := nI dfn) (tday := nI td) (trb := tr) (flt := ft) (plc := pl) (x := 1) hS  (Nat.le_refl _)).call rfl lkX7_109 imX7_deny seX7_deny rfl hS rfl rfl (by omega) (Nat.le_of_ble_eq_true rfl) dX7_rival_22 (fun v9 G9 h9 => ?_) (fun q9 G9 h9 => (by cases h9.1))
      obtain ⟨h8, rfl⟩ := h9; cases h8
      show bV O _ d 25 [(4, .ref (dA (cl x))), (0, .ref 32), (1, .int x), (2, .int m), (3, .int h)] [.int 0] (bU f 32 (.inr (7, [.ref 33, .ref 38, .ref 40, .ref 41, .ref 42, .ref 43, .ref 44, .ref 45, .int (nI mc), .int (nI dc), .int (nI ac), .int (nI dfn), .int (nI td), .int 1, .int ft, .int pl])), n, s) _
      refine r_zreturn rfl (by first | decide +kernel | exact narZ _ | assumption) dX7_rival_25 ?_
      unfold s_rival
      try simp only []
      try (first | simp only [if_pos bD] | simp only [if_neg bD] | simp only [if_neg (Bool.eq_false_iff.mp bD)])
      try (first | simp only [if_pos bM] | simp only [if_neg bM] | simp only [if_neg (Bool.eq_false_iff.mp bM)])
      exact pX_mk (by exact bU_s _ _ _) (hT.fr (fun q _ _ => (bU_n (by omega)).trans (rfl))) (hW.fr (fun q _ _ => (bU_n (by omega)).trans (rfl))) (hM.fr j1 (fun q _ => (bU_n (by omega)).trans (rfl))) (hD.fr j2 (fun q _ => (bU_n (by omega)).trans (rfl))) (hA.fr j3 (fun q _ => (bU_n (by omega)).trans (rfl))) (by exact ((bU_n (by decide)).trans (hI))) (by obtain ⟨tk8, h8⟩ := hC; exact ⟨tk8, (bU_n (by omega)).trans (h8)⟩) (by exact ((bU_n (by decide)).trans (hF))) (fun q _ => (bU_n (by omega)).trans (rfl)) (by omega) (by omega)
  · rw [oAt_neg bD]
    show bV O _ d 5 [(0, .ref 32), (1, .int x), (2, .int m), (3, .int h)] [.null] (f, n, s) _
    refine r_astoreN (i := 4) (L' := [(4, .null), (0, .ref 32), (1, .int x), (2, .int m), (3, .int h)]) dX7_rival_5 (by decide) rfl ?_
    refine r_aloadN (i := 4) 0 rfl dX7_rival_7 ?_
    refine r_ifnullN (tgt := 20) (by decide) dX7_rival_9 ?_
    refine r_aload_n (n := 0) (i := 0) 1 rfl rfl dX7_rival_20 ?_
    refine r_iconst (v := 1) (by decide) dX7_rival_21 ?_
    refine p_callV (As := [.int 1]) (rest := []) (kX7_deny (O := O) (d := 0) (f := f) (n := n) (s := s) (ct_m := nI mc) (ct_d := nI dc) (ct_a := nI ac) (ct_f := nI dfn) (tday := nI td) (trb := tr) (flt := ft) (plc := pl) (x := 1) hS  (Nat.le_refl _)).call rfl lkX7_109 imX7_deny seX7_deny rfl hS rfl rfl (by omega) (Nat.le_of_ble_eq_true rfl) dX7_rival_22 (fun v9 G9 h9 => ?_) (fun q9 G9 h9 => (by cases h9.1))
    obtain ⟨h8, rfl⟩ := h9; cases h8
    show bV O _ d 25 [(4, .null), (0, .ref 32), (1, .int x), (2, .int m), (3, .int h)] [.int 0] (bU f 32 (.inr (7, [.ref 33, .ref 38, .ref 40, .ref 41, .ref 42, .ref 43, .ref 44, .ref 45, .int (nI mc), .int (nI dc), .int (nI ac), .int (nI dfn), .int (nI td), .int 1, .int ft, .int pl])), n, s) _
    refine r_zreturn rfl (by first | decide +kernel | exact narZ _ | assumption) dX7_rival_25 ?_
    unfold s_rival
    try simp only []
    try (first | simp only [if_pos bD] | simp only [if_neg bD] | simp only [if_neg (Bool.eq_false_iff.mp bD)])
    exact pX_mk (by exact bU_s _ _ _) (hT.fr (fun q _ _ => (bU_n (by omega)).trans (rfl))) (hW.fr (fun q _ _ => (bU_n (by omega)).trans (rfl))) (hM.fr j1 (fun q _ => (bU_n (by omega)).trans (rfl))) (hD.fr j2 (fun q _ => (bU_n (by omega)).trans (rfl))) (hA.fr j3 (fun q _ => (bU_n (by omega)).trans (rfl))) (by exact ((bU_n (by decide)).trans (hI))) (by obtain ⟨tk8, h8⟩ := hC; exact ⟨tk8, (bU_n (by omega)).trans (h8)⟩) (by exact ((bU_n (by decide)).trans (hF))) (fun q _ => (bU_n (by omega)).trans (rfl)) (by omega) (by omega)
set_option maxRecDepth 4000 in
theorem x_about {O : bO} {d : Nat} {f : bF} {n s : Nat} {bs : Nat → Int32} {tl : Nat} {mc : Nat} {md : Nat → MR} {ip : Nat → Int32} {dc : Nat} {dr : Nat → DR} {ac : Nat} {an : Nat → AR} {hs : Bool} {sd : Nat → Int32} {df : Nat → Int32} {dfn : Nat} {td : Nat} {tr : Int32} {ft : Int32} {pl : Int32} {x : Int32} {w : Int32} (hX : XR f (bs, tl, mc, md, ip, dc, dr, ac, an, hs, sd, df, dfn, td, tr, ft, pl)) (jX : JX (bs, tl, mc, md, ip, dc, dr, ac, an, hs, sd, df, dfn, td, tr, ft, pl))  (hd : 1 ≤ d) : bCall O mX7_about d [.ref 32, .int x, .int w] (f, n, s) (pX f n s 0 0 (s_about (bs, tl, mc, md, ip, dc, dr, ac, an, hs, sd, df, dfn, td, tr, ft, pl) x w)) := by
  refine bCall_of (by decide) rfl (Nat.le_of_ble_eq_true rfl) ?_
  obtain ⟨hS, hT, hW, hM, hD, hA, hI, hC, hF⟩ := id hX
  obtain ⟨j1, j2, j3, j4, j5, j6, j7, j8⟩ := id jX
  simp only [] at hS hT hW hM hD hA hI hC hF j1 j2 j3 j4 j5 j6 j7 j8
  show bV O _ d 0 [(0, .ref 32), (1, .int x), (2, .int w)] [] (f, n, s) _
  refine r_aload_n (n := 0) (i := 0) 0 rfl rfl dX7_about_0 ?_
  refine r_iload_n (n := 1) (i := 1) 1 rfl rfl dX7_about_1 ?_
  refine p_callV (As := [.int x]) (rest := []) (kX7_doorAt (O := O) (d := 0) (f := f) (n := n) (s := s) (ct_m := nI mc) (ct_d := nI dc) (ct_a := nI ac) (ct_f := nI dfn) (tday := nI td) (trb := tr) (flt := ft) (plc := pl) (x := x) (nn := dc) hS hD.1 (by first | assumption | omega | decide) (Nat.le_refl _)).call rfl lkX7_126 imX7_doorAt seX7_doorAt rfl hS rfl rfl (by omega) (Nat.le_of_ble_eq_true rfl) dX7_about_2 (fun v9 G9 h9 => ?_) (fun q9 G9 h9 => (by cases h9.1))
  obtain ⟨h8, rfl⟩ := h9; cases h8
  by_cases bD : inB x dc = true
  · rw [oAt_pos bD]
    have b1bD := dA_b (Nat.lt_of_lt_of_le (inB_lt bD) j2)
    show bV O _ d 5 [(0, .ref 32), (1, .int x), (2, .int w)] [.ref (dA (cl x))] (f, n, s) _
    refine r_astore_n (n := 3) (i := 3) (L' := [(3, .ref (dA (cl x))), (0, .ref 32), (1, .int x), (2, .int w)]) rfl dX7_about_5 (by decide) rfl ?_
    refine r_aload_n (n := 3) (i := 3) 0 rfl rfl dX7_about_6 ?_
    refine r_ifnonnull (tgt := 12) (by decide) dX7_about_7 ?_
    refine r_iload_n (n := 2) (i := 2) 3 rfl rfl dX7_about_12 ?_
    by_cases q13_0 : w = 0
    · refine r_tableIn (off := 39) (tgt := 52) dX7_about_13 (by rw [q13_0]; decide) (by rw [q13_0]; decide) (by rw [q13_0]; decide) (by decide) ?_
      refine r_aload_n (n := 3) (i := 3) 0 rfl rfl dX7_about_52 ?_
      refine p_get (fs := [.ref ((dA (cl x)) + 1), .ref ((dA (cl x)) + 2), .ref ((dA (cl x)) + 3), .ref ((dA (cl x)) + 4), .ref ((dA (cl x)) + 5), .ref ((dA (cl x)) + 6), .ref ((dA (cl x)) + 7), .int (d_ch (dr (cl x))), .int (d_rv (dr (cl x))), .int (d_sh (dr (cl x))), .int (nI (d_fc (dr (cl x)))), .int (nI (d_cn (dr (cl x)))), .int (d_kp (dr (cl x))), .int (d_rf (dr (cl x)))]) flX7_136 (by exact (hD.2.1 _ (inB_lt bD)).1) rfl dX7_about_53 ?_
      refine r_ireturn rfl dX7_about_56 ?_
      unfold s_about
      try simp only []
      try (first | simp only [if_pos bD] | simp only [if_neg bD] | simp only [if_neg (Bool.eq_false_iff.mp bD)])
      try (first | simp only [if_pos q13_0] | simp only [if_neg q13_0] | simp only [if_neg (Bool.eq_false_iff.mp q13_0)])
      exact pX_mk (hS) (hT.fr (fun q _ _ => rfl)) (hW.fr (fun q _ _ => rfl)) (hM.fr j1 (fun q _ => rfl)) (hD.fr j2 (fun q _ => rfl)) (hA.fr j3 (fun q _ => rfl)) (hI) (by obtain ⟨tk8, h8⟩ := hC; exact ⟨tk8, h8⟩) (hF) (fun q _ => rfl) (by omega) (by omega)
    · by_cases q13_1 : w = 1
      · refine r_tableIn (off := 44) (tgt := 57) dX7_about_13 (by rw [q13_1]; decide) (by rw [q13_1]; decide) (by rw [q13_1]; decide) (by decide) ?_
        refine r_aload_n (n := 3) (i := 3) 0 rfl rfl dX7_about_57 ?_
        refine p_get (fs := [.ref ((dA (cl x)) + 1), .ref ((dA (cl x)) + 2), .ref ((dA (cl x)) + 3), .ref ((dA (cl x)) + 4), .ref ((dA (cl x)) + 5), .ref ((dA (cl x)) + 6), .ref ((dA (cl x)) + 7), .int (d_ch (dr (cl x))), .int (d_rv (dr (cl x))), .int (d_sh (dr (cl x))), .int (nI (d_fc (dr (cl x)))), .int (nI (d_cn (dr (cl x)))), .int (d_kp (dr (cl x))), .int (d_rf (dr (cl x)))]) flX7_149 (by exact (hD.2.1 _ (inB_lt bD)).1) rfl dX7_about_58 ?_
        refine r_ireturn rfl dX7_about_61 ?_
        unfold s_about
        try simp only []
        try (first | simp only [if_pos bD] | simp only [if_neg bD] | simp only [if_neg (Bool.eq_false_iff.mp bD)])
        try (first | simp only [if_pos q13_0] | simp only [if_neg q13_0] | simp only [if_neg (Bool.eq_false_iff.mp q13_0)])
        try (first | simp only [if_pos q13_1] | simp only [if_neg q13_1] | simp only [if_neg (Bool.eq_false_iff.mp q13_1)])
        exact pX_mk (hS) (hT.fr (fun q _ _ => rfl)) (hW.fr (fun q _ _ => rfl)) (hM.fr j1 (fun q _ => rfl)) (hD.fr j2 (fun q _ => rfl)) (hA.fr j3 (fun q _ => rfl)) (hI) (by obtain ⟨tk8, h8⟩ := hC; exact ⟨tk8, h8⟩) (hF) (fun q _ => rfl) (by omega) (by omega)
      · by_cases q13_2 : w = 2
        · refine r_tableIn (off := 49) (tgt := 62) dX7_about_13 (by rw [q13_2]; decide) (by rw [q13_2]; decide) (by rw [q13_2]; decide) (by decide) ?_
          refine r_aload_n (n := 3) (i := 3) 0 rfl rfl dX7_about_62 ?_
          refine p_get (fs := [.ref ((dA (cl x)) + 1), .ref ((dA (cl x)) + 2), .ref ((dA (cl x)) + 3), .ref ((dA (cl x)) + 4), .ref ((dA (cl x)) + 5), .ref ((dA (cl x)) + 6), .ref ((dA (cl x)) + 7), .int (d_ch (dr (cl x))), .int (d_rv (dr (cl x))), .int (d_sh (dr (cl x))), .int (nI (d_fc (dr (cl x)))), .int (nI (d_cn (dr (cl x)))), .int (d_kp (dr (cl x))), .int (d_rf (dr (cl x)))]) flX7_155 (by exact (hD.2.1 _ (inB_lt bD)).1) rfl dX7_about_63 ?_
          refine r_ireturn rfl dX7_about_66 ?_
          unfold s_about
          try simp only []
          try (first | simp only [if_pos bD] | simp only [if_neg bD] | simp only [if_neg (Bool.eq_false_iff.mp bD)])
          try (first | simp only [if_pos q13_0] | simp only [if_neg q13_0] | simp only [if_neg (Bool.eq_false_iff.mp q13_0)])
          try (first | simp only [if_pos q13_1] | simp only [if_neg q13_1] | simp only [if_neg (Bool.eq_false_iff.mp q13_1)])
          try (first | simp only [if_pos q13_2] | simp only [if_neg q13_2] | simp only [if_neg (Bool.eq_false_iff.mp q13_2)])
          exact pX_mk (hS) (hT.fr (fun q _ _ => rfl)) (hW.fr (fun q _ _ => rfl)) (hM.fr j1 (fun q _ => rfl)) (hD.fr j2 (fun q _ => rfl)) (hA.fr j3 (fun q _ => rfl)) (hI) (by obtain ⟨tk8, h8⟩ := hC; exact ⟨tk8, h8⟩) (hF) (fun q _ => rfl) (by omega) (by omega)
        · by_cases q13_3 : w = 3
          · refine r_tableIn (off := 54) (tgt := 67) dX7_about_13 (by rw [q13_3]; decide) (by rw [q13_3]; decide) (by rw [q13_3]; decide) (by decide) ?_
            refine r_aload_n (n := 3) (i := 3) 0 rfl rfl dX7_about_67 ?_
            refine p_get (fs := [.ref ((dA (cl x)) + 1), .ref ((dA (cl x)) + 2), .ref ((dA (cl x)) + 3), .ref ((dA (cl x)) + 4), .ref ((dA (cl x)) + 5), .ref ((dA (cl x)) + 6), .ref ((dA (cl x)) + 7), .int (d_ch (dr (cl x))), .int (d_rv (dr (cl x))), .int (d_sh (dr (cl x))), .int (nI (d_fc (dr (cl x)))), .int (nI (d_cn (dr (cl x)))), .int (d_kp (dr (cl x))), .int (d_rf (dr (cl x)))]) flX7_165 (by exact (hD.2.1 _ (inB_lt bD)).1) rfl dX7_about_68 ?_
            refine r_ireturn rfl dX7_about_71 ?_
            unfold s_about
            try simp only []
            try (first | simp only [if_pos bD] | simp only [if_neg bD] | simp only [if_neg (Bool.eq_false_iff.mp bD)])
            try (first | simp only [if_pos q13_0] | simp only [if_neg q13_0] | simp only [if_neg (Bool.eq_false_iff.mp q13_0)])
            try (first | simp only [if_pos q13_1] | simp only [if_neg q13_1] | simp only [if_neg (Bool.eq_false_iff.mp q13_1)])
            try (first | simp only [if_pos q13_2] | simp only [if_neg q13_2] | simp only [if_neg (Bool.eq_false_iff.mp q13_2)])
            try (first | simp only [if_pos q13_3] | simp only [if_neg q13_3] | simp only [if_neg (Bool.eq_false_iff.mp q13_3)])
            exact pX_mk (hS) (hT.fr (fun q _ _ => rfl)) (hW.fr (fun q _ _ => rfl)) (hM.fr j1 (fun q _ => rfl)) (hD.fr j2 (fun q _ => rfl)) (hA.fr j3 (fun q _ => rfl)) (hI) (by obtain ⟨tk8, h8⟩ := hC; exact ⟨tk8, h8⟩) (hF) (fun q _ => rfl) (by omega) (by omega)
          · by_cases q13_4 : w = 4
            · refine r_tableIn (off := 59) (tgt := 72) dX7_about_13 (by rw [q13_4]; decide) (by rw [q13_4]; decide) (by rw [q13_4]; decide) (by decide) ?_
              refine r_aload_n (n := 3) (i := 3) 0 rfl rfl dX7_about_72 ?_
              refine p_get (fs := [.ref ((dA (cl x)) + 1), .ref ((dA (cl x)) + 2), .ref ((dA (cl x)) + 3), .ref ((dA (cl x)) + 4), .ref ((dA (cl x)) + 5), .ref ((dA (cl x)) + 6), .ref ((dA (cl x)) + 7), .int (d_ch (dr (cl x))), .int (d_rv (dr (cl x))), .int (d_sh (dr (cl x))), .int (nI (d_fc (dr (cl x)))), .int (nI (d_cn (dr (cl x)))), .int (d_kp (dr (cl x))), .int (d_rf (dr (cl x)))]) flX7_168 (by exact (hD.2.1 _ (inB_lt bD)).1) rfl dX7_about_73 ?_
              refine r_ireturn rfl dX7_about_76 ?_
              unfold s_about
              try simp only []
              try (first | simp only [if_pos bD] | simp only [if_neg bD] | simp only [if_neg (Bool.eq_false_iff.mp bD)])
              try (first | simp only [if_pos q13_0] | simp only [if_neg q13_0] | simp only [if_neg (Bool.eq_false_iff.mp q13_0)])
              try (first | simp only [if_pos q13_1] | simp only [if_neg q13_1] | simp only [if_neg (Bool.eq_false_iff.mp q13_1)])
              try (first | simp only [if_pos q13_2] | simp only [if_neg q13_2] | simp only [if_neg (Bool.eq_false_iff.mp q13_2)])
              try (first | simp only [if_pos q13_3] | simp only [if_neg q13_3] | simp only [if_neg (Bool.eq_false_iff.mp q13_3)])
              try (first | simp only [if_pos q13_4] | simp only [if_neg q13_4] | simp only [if_neg (Bool.eq_false_iff.mp q13_4)])
              exact pX_mk (hS) (hT.fr (fun q _ _ => rfl)) (hW.fr (fun q _ _ => rfl)) (hM.fr j1 (fun q _ => rfl)) (hD.fr j2 (fun q _ => rfl)) (hA.fr j3 (fun q _ => rfl)) (hI) (by obtain ⟨tk8, h8⟩ := hC; exact ⟨tk8, h8⟩) (hF) (fun q _ => rfl) (by omega) (by omega)
            · by_cases q13_5 : w = 5
              · refine r_tableIn (off := 64) (tgt := 77) dX7_about_13 (by rw [q13_5]; decide) (by rw [q13_5]; decide) (by rw [q13_5]; decide) (by decide) ?_
                refine r_aload_n (n := 3) (i := 3) 0 rfl rfl dX7_about_77 ?_
                refine p_get (fs := [.ref ((dA (cl x)) + 1), .ref ((dA (cl x)) + 2), .ref ((dA (cl x)) + 3), .ref ((dA (cl x)) + 4), .ref ((dA (cl x)) + 5), .ref ((dA (cl x)) + 6), .ref ((dA (cl x)) + 7), .int (d_ch (dr (cl x))), .int (d_rv (dr (cl x))), .int (d_sh (dr (cl x))), .int (nI (d_fc (dr (cl x)))), .int (nI (d_cn (dr (cl x)))), .int (d_kp (dr (cl x))), .int (d_rf (dr (cl x)))]) flX7_171 (by exact (hD.2.1 _ (inB_lt bD)).1) rfl dX7_about_78 ?_
                refine r_ireturn rfl dX7_about_81 ?_
                unfold s_about
                try simp only []
                try (first | simp only [if_pos bD] | simp only [if_neg bD] | simp only [if_neg (Bool.eq_false_iff.mp bD)])
                try (first | simp only [if_pos q13_0] | simp only [if_neg q13_0] | simp only [if_neg (Bool.eq_false_iff.mp q13_0)])
                try (first | simp only [if_pos q13_1] | simp only [if_neg q13_1] | simp only [if_neg (Bool.eq_false_iff.mp q13_1)])
                try (first | simp only [if_pos q13_2] | simp only [if_neg q13_2] | simp only [if_neg (Bool.eq_false_iff.mp q13_2)])
                try (first | simp only [if_pos q13_3] | simp only [if_neg q13_3] | simp only [if_neg (Bool.eq_false_iff.mp q13_3)])
                try (first | simp only [if_pos q13_4] | simp only [if_neg q13_4] | simp only [if_neg (Bool.eq_false_iff.mp q13_4)])
                try (first | simp only [if_pos q13_5] | simp only [if_neg q13_5] | simp only [if_neg (Bool.eq_false_iff.mp q13_5)])
                exact pX_mk (hS) (hT.fr (fun q _ _ => rfl)) (hW.fr (fun q _ _ => rfl)) (hM.fr j1 (fun q _ => rfl)) (hD.fr j2 (fun q _ => rfl)) (hA.fr j3 (fun q _ => rfl)) (hI) (by obtain ⟨tk8, h8⟩ := hC; exact ⟨tk8, h8⟩) (hF) (fun q _ => rfl) (by omega) (by omega)
              · refine r_tableOut (tgt := 82) dX7_about_13 (tbO6 w q13_0 q13_1 q13_2 q13_3 q13_4 q13_5) (by decide) ?_
                refine r_iconst (v := (-1)) (by decide) dX7_about_82 ?_
                refine r_ireturn rfl dX7_about_83 ?_
                unfold s_about
                try simp only []
                try (first | simp only [if_pos bD] | simp only [if_neg bD] | simp only [if_neg (Bool.eq_false_iff.mp bD)])
                try (first | simp only [if_pos q13_0] | simp only [if_neg q13_0] | simp only [if_neg (Bool.eq_false_iff.mp q13_0)])
                try (first | simp only [if_pos q13_1] | simp only [if_neg q13_1] | simp only [if_neg (Bool.eq_false_iff.mp q13_1)])
                try (first | simp only [if_pos q13_2] | simp only [if_neg q13_2] | simp only [if_neg (Bool.eq_false_iff.mp q13_2)])
                try (first | simp only [if_pos q13_3] | simp only [if_neg q13_3] | simp only [if_neg (Bool.eq_false_iff.mp q13_3)])
                try (first | simp only [if_pos q13_4] | simp only [if_neg q13_4] | simp only [if_neg (Bool.eq_false_iff.mp q13_4)])
                try (first | simp only [if_pos q13_5] | simp only [if_neg q13_5] | simp only [if_neg (Bool.eq_false_iff.mp q13_5)])
                exact pX_mk (hS) (hT.fr (fun q _ _ => rfl)) (hW.fr (fun q _ _ => rfl)) (hM.fr j1 (fun q _ => rfl)) (hD.fr j2 (fun q _ => rfl)) (hA.fr j3 (fun q _ => rfl)) (hI) (by obtain ⟨tk8, h8⟩ := hC; exact ⟨tk8, h8⟩) (hF) (fun q _ => rfl) (by omega) (by omega)
  · rw [oAt_neg bD]
    show bV O _ d 5 [(0, .ref 32), (1, .int x), (2, .int w)] [.null] (f, n, s) _
    refine r_astore_nN (n := 3) (i := 3) (L' := [(3, .null), (0, .ref 32), (1, .int x), (2, .int w)]) rfl dX7_about_5 (by decide) rfl ?_
    refine r_aload_nN (n := 3) (i := 3) 0 rfl rfl dX7_about_6 ?_
    refine r_ifnonnullN dX7_about_7 ?_
    refine r_iconst (v := (-1)) (by decide) dX7_about_10 ?_
    refine r_ireturn rfl dX7_about_11 ?_
    unfold s_about
    try simp only []
    try (first | simp only [if_pos bD] | simp only [if_neg bD] | simp only [if_neg (Bool.eq_false_iff.mp bD)])
    exact pX_mk (hS) (hT.fr (fun q _ _ => rfl)) (hW.fr (fun q _ _ => rfl)) (hM.fr j1 (fun q _ => rfl)) (hD.fr j2 (fun q _ => rfl)) (hA.fr j3 (fun q _ => rfl)) (hI) (by obtain ⟨tk8, h8⟩ := hC; exact ⟨tk8, h8⟩) (hF) (fun q _ => rfl) (by omega) (by omega)
set_option maxRecDepth 4000 in
theorem x_kept {O : bO} {d : Nat} {f : bF} {n s : Nat} {bs : Nat → Int32} {tl : Nat} {mc : Nat} {md : Nat → MR} {ip : Nat → Int32} {dc : Nat} {dr : Nat → DR} {ac : Nat} {an : Nat → AR} {hs : Bool} {sd : Nat → Int32} {df : Nat → Int32} {dfn : Nat} {td : Nat} {tr : Int32} {ft : Int32} {pl : Int32} {x : Int32} {w : Int32} (hX : XR f (bs, tl, mc, md, ip, dc, dr, ac, an, hs, sd, df, dfn, td, tr, ft, pl)) (jX : JX (bs, tl, mc, md, ip, dc, dr, ac, an, hs, sd, df, dfn, td, tr, ft, pl))  (hd : 1 ≤ d) : bCall O mX7_kept d [.ref 32, .int x, .int w] (f, n, s) (pX f n s 0 0 (s_kept (bs, tl, mc, md, ip, dc, dr, ac, an, hs, sd, df, dfn, td, tr, ft, pl) x w)) := by
  refine bCall_of (by decide) rfl (Nat.le_of_ble_eq_true rfl) ?_
  obtain ⟨hS, hT, hW, hM, hD, hA, hI, hC, hF⟩ := id hX
  obtain ⟨j1, j2, j3, j4, j5, j6, j7, j8⟩ := id jX
  simp only [] at hS hT hW hM hD hA hI hC hF j1 j2 j3 j4 j5 j6 j7 j8
  show bV O _ d 0 [(0, .ref 32), (1, .int x), (2, .int w)] [] (f, n, s) _
  refine r_aload_n (n := 0) (i := 0) 0 rfl rfl dX7_kept_0 ?_
  refine r_iload_n (n := 1) (i := 1) 1 rfl rfl dX7_kept_1 ?_
  refine p_callV (As := [.int x]) (rest := []) (kX7_answerAt (O := O) (d := 0) (f := f) (n := n) (s := s) (ct_m := nI mc) (ct_d := nI dc) (ct_a := nI ac) (ct_f := nI dfn) (tday := nI td) (trb := tr) (flt := ft) (plc := pl) (x := x) (nn := ac) hS hA.1 (by first | assumption | omega | decide) (Nat.le_refl _)).call rfl lkX7_195 imX7_answerAt seX7_answerAt rfl hS rfl rfl (by omega) (Nat.le_of_ble_eq_true rfl) dX7_kept_2 (fun v9 G9 h9 => ?_) (fun q9 G9 h9 => (by cases h9.1))
  obtain ⟨h8, rfl⟩ := h9; cases h8
  by_cases bA : inB x ac = true
  · rw [oAt_pos bA]
    have b1bA := aA_b (Nat.lt_of_lt_of_le (inB_lt bA) j3)
    show bV O _ d 5 [(0, .ref 32), (1, .int x), (2, .int w)] [.ref (aA (cl x))] (f, n, s) _
    refine r_astore_n (n := 3) (i := 3) (L' := [(3, .ref (aA (cl x))), (0, .ref 32), (1, .int x), (2, .int w)]) rfl dX7_kept_5 (by decide) rfl ?_
    refine r_aload_n (n := 3) (i := 3) 0 rfl rfl dX7_kept_6 ?_
    refine r_ifnonnull (tgt := 12) (by decide) dX7_kept_7 ?_
    refine r_iload_n (n := 2) (i := 2) 3 rfl rfl dX7_kept_12 ?_
    by_cases q13_0 : w = 0
    · refine r_tableIn (off := 39) (tgt := 52) dX7_kept_13 (by rw [q13_0]; decide) (by rw [q13_0]; decide) (by rw [q13_0]; decide) (by decide) ?_
      refine r_aload_n (n := 3) (i := 3) 0 rfl rfl dX7_kept_52 ?_
      refine p_get (fs := [.int (a_do (an (cl x))), .int (a_ke (an (cl x))), .int (a_da (an (cl x))), .ref ((aA (cl x)) + 1), .int (a_gv (an (cl x))), .int (a_ch (an (cl x))), .int (a_rv (an (cl x))), .int (a_gn (an (cl x))), .int (a_ct (an (cl x))), .int (a_rt (an (cl x))), .int (a_tr (an (cl x)))]) flX7_199 (by exact (hA.2.1 _ (inB_lt bA)).1) rfl dX7_kept_53 ?_
      refine r_ireturn rfl dX7_kept_56 ?_
      unfold s_kept
      try simp only []
      try (first | simp only [if_pos bA] | simp only [if_neg bA] | simp only [if_neg (Bool.eq_false_iff.mp bA)])
      try (first | simp only [if_pos q13_0] | simp only [if_neg q13_0] | simp only [if_neg (Bool.eq_false_iff.mp q13_0)])
      exact pX_mk (hS) (hT.fr (fun q _ _ => rfl)) (hW.fr (fun q _ _ => rfl)) (hM.fr j1 (fun q _ => rfl)) (hD.fr j2 (fun q _ => rfl)) (hA.fr j3 (fun q _ => rfl)) (hI) (by obtain ⟨tk8, h8⟩ := hC; exact ⟨tk8, h8⟩) (hF) (fun q _ => rfl) (by omega) (by omega)
    · by_cases q13_1 : w = 1
      · refine r_tableIn (off := 44) (tgt := 57) dX7_kept_13 (by rw [q13_1]; decide) (by rw [q13_1]; decide) (by rw [q13_1]; decide) (by decide) ?_
        refine r_aload_n (n := 3) (i := 3) 0 rfl rfl dX7_kept_57 ?_
        refine p_get (fs := [.int (a_do (an (cl x))), .int (a_ke (an (cl x))), .int (a_da (an (cl x))), .ref ((aA (cl x)) + 1), .int (a_gv (an (cl x))), .int (a_ch (an (cl x))), .int (a_rv (an (cl x))), .int (a_gn (an (cl x))), .int (a_ct (an (cl x))), .int (a_rt (an (cl x))), .int (a_tr (an (cl x)))]) flX7_202 (by exact (hA.2.1 _ (inB_lt bA)).1) rfl dX7_kept_58 ?_
        refine r_ireturn rfl dX7_kept_61 ?_
        unfold s_kept
        try simp only []
        try (first | simp only [if_pos bA] | simp only [if_neg bA] | simp only [if_neg (Bool.eq_false_iff.mp bA)])
        try (first | simp only [if_pos q13_0] | simp only [if_neg q13_0] | simp only [if_neg (Bool.eq_false_iff.mp q13_0)])
        try (first | simp only [if_pos q13_1] | simp only [if_neg q13_1] | simp only [if_neg (Bool.eq_false_iff.mp q13_1)])
        exact pX_mk (hS) (hT.fr (fun q _ _ => rfl)) (hW.fr (fun q _ _ => rfl)) (hM.fr j1 (fun q _ => rfl)) (hD.fr j2 (fun q _ => rfl)) (hA.fr j3 (fun q _ => rfl)) (hI) (by obtain ⟨tk8, h8⟩ := hC; exact ⟨tk8, h8⟩) (hF) (fun q _ => rfl) (by omega) (by omega)
      · by_cases q13_2 : w = 2
        · refine r_tableIn (off := 49) (tgt := 62) dX7_kept_13 (by rw [q13_2]; decide) (by rw [q13_2]; decide) (by rw [q13_2]; decide) (by decide) ?_
          refine r_aload_n (n := 3) (i := 3) 0 rfl rfl dX7_kept_62 ?_
          refine p_get (fs := [.int (a_do (an (cl x))), .int (a_ke (an (cl x))), .int (a_da (an (cl x))), .ref ((aA (cl x)) + 1), .int (a_gv (an (cl x))), .int (a_ch (an (cl x))), .int (a_rv (an (cl x))), .int (a_gn (an (cl x))), .int (a_ct (an (cl x))), .int (a_rt (an (cl x))), .int (a_tr (an (cl x)))]) flX7_205 (by exact (hA.2.1 _ (inB_lt bA)).1) rfl dX7_kept_63 ?_
          refine r_ireturn rfl dX7_kept_66 ?_
          unfold s_kept
          try simp only []
          try (first | simp only [if_pos bA] | simp only [if_neg bA] | simp only [if_neg (Bool.eq_false_iff.mp bA)])
          try (first | simp only [if_pos q13_0] | simp only [if_neg q13_0] | simp only [if_neg (Bool.eq_false_iff.mp q13_0)])
          try (first | simp only [if_pos q13_1] | simp only [if_neg q13_1] | simp only [if_neg (Bool.eq_false_iff.mp q13_1)])
          try (first | simp only [if_pos q13_2] | simp only [if_neg q13_2] | simp only [if_neg (Bool.eq_false_iff.mp q13_2)])
          exact pX_mk (hS) (hT.fr (fun q _ _ => rfl)) (hW.fr (fun q _ _ => rfl)) (hM.fr j1 (fun q _ => rfl)) (hD.fr j2 (fun q _ => rfl)) (hA.fr j3 (fun q _ => rfl)) (hI) (by obtain ⟨tk8, h8⟩ := hC; exact ⟨tk8, h8⟩) (hF) (fun q _ => rfl) (by omega) (by omega)
        · by_cases q13_3 : w = 3
          · refine r_tableIn (off := 54) (tgt := 67) dX7_kept_13 (by rw [q13_3]; decide) (by rw [q13_3]; decide) (by rw [q13_3]; decide) (by decide) ?_
            refine r_aload_n (n := 3) (i := 3) 0 rfl rfl dX7_kept_67 ?_
            refine p_get (fs := [.int (a_do (an (cl x))), .int (a_ke (an (cl x))), .int (a_da (an (cl x))), .ref ((aA (cl x)) + 1), .int (a_gv (an (cl x))), .int (a_ch (an (cl x))), .int (a_rv (an (cl x))), .int (a_gn (an (cl x))), .int (a_ct (an (cl x))), .int (a_rt (an (cl x))), .int (a_tr (an (cl x)))]) flX7_208 (by exact (hA.2.1 _ (inB_lt bA)).1) rfl dX7_kept_68 ?_
            refine r_ireturn rfl dX7_kept_71 ?_
            unfold s_kept
            try simp only []
            try (first | simp only [if_pos bA] | simp only [if_neg bA] | simp only [if_neg (Bool.eq_false_iff.mp bA)])
            try (first | simp only [if_pos q13_0] | simp only [if_neg q13_0] | simp only [if_neg (Bool.eq_false_iff.mp q13_0)])
            try (first | simp only [if_pos q13_1] | simp only [if_neg q13_1] | simp only [if_neg (Bool.eq_false_iff.mp q13_1)])
            try (first | simp only [if_pos q13_2] | simp only [if_neg q13_2] | simp only [if_neg (Bool.eq_false_iff.mp q13_2)])
            try (first | simp only [if_pos q13_3] | simp only [if_neg q13_3] | simp only [if_neg (Bool.eq_false_iff.mp q13_3)])
            exact pX_mk (hS) (hT.fr (fun q _ _ => rfl)) (hW.fr (fun q _ _ => rfl)) (hM.fr j1 (fun q _ => rfl)) (hD.fr j2 (fun q _ => rfl)) (hA.fr j3 (fun q _ => rfl)) (hI) (by obtain ⟨tk8, h8⟩ := hC; exact ⟨tk8, h8⟩) (hF) (fun q _ => rfl) (by omega) (by omega)
          · by_cases q13_4 : w = 4
            · refine r_tableIn (off := 59) (tgt := 72) dX7_kept_13 (by rw [q13_4]; decide) (by rw [q13_4]; decide) (by rw [q13_4]; decide) (by decide) ?_
              refine r_aload_n (n := 3) (i := 3) 0 rfl rfl dX7_kept_72 ?_
              refine p_get (fs := [.int (a_do (an (cl x))), .int (a_ke (an (cl x))), .int (a_da (an (cl x))), .ref ((aA (cl x)) + 1), .int (a_gv (an (cl x))), .int (a_ch (an (cl x))), .int (a_rv (an (cl x))), .int (a_gn (an (cl x))), .int (a_ct (an (cl x))), .int (a_rt (an (cl x))), .int (a_tr (an (cl x)))]) flX7_211 (by exact (hA.2.1 _ (inB_lt bA)).1) rfl dX7_kept_73 ?_
              refine r_ireturn rfl dX7_kept_76 ?_
              unfold s_kept
              try simp only []
              try (first | simp only [if_pos bA] | simp only [if_neg bA] | simp only [if_neg (Bool.eq_false_iff.mp bA)])
              try (first | simp only [if_pos q13_0] | simp only [if_neg q13_0] | simp only [if_neg (Bool.eq_false_iff.mp q13_0)])
              try (first | simp only [if_pos q13_1] | simp only [if_neg q13_1] | simp only [if_neg (Bool.eq_false_iff.mp q13_1)])
              try (first | simp only [if_pos q13_2] | simp only [if_neg q13_2] | simp only [if_neg (Bool.eq_false_iff.mp q13_2)])
              try (first | simp only [if_pos q13_3] | simp only [if_neg q13_3] | simp only [if_neg (Bool.eq_false_iff.mp q13_3)])
              try (first | simp only [if_pos q13_4] | simp only [if_neg q13_4] | simp only [if_neg (Bool.eq_false_iff.mp q13_4)])
              exact pX_mk (hS) (hT.fr (fun q _ _ => rfl)) (hW.fr (fun q _ _ => rfl)) (hM.fr j1 (fun q _ => rfl)) (hD.fr j2 (fun q _ => rfl)) (hA.fr j3 (fun q _ => rfl)) (hI) (by obtain ⟨tk8, h8⟩ := hC; exact ⟨tk8, h8⟩) (hF) (fun q _ => rfl) (by omega) (by omega)
            · by_cases q13_5 : w = 5
              · refine r_tableIn (off := 64) (tgt := 77) dX7_kept_13 (by rw [q13_5]; decide) (by rw [q13_5]; decide) (by rw [q13_5]; decide) (by decide) ?_
                refine r_aload_n (n := 3) (i := 3) 0 rfl rfl dX7_kept_77 ?_
                refine p_get (fs := [.int (a_do (an (cl x))), .int (a_ke (an (cl x))), .int (a_da (an (cl x))), .ref ((aA (cl x)) + 1), .int (a_gv (an (cl x))), .int (a_ch (an (cl x))), .int (a_rv (an (cl x))), .int (a_gn (an (cl x))), .int (a_ct (an (cl x))), .int (a_rt (an (cl x))), .int (a_tr (an (cl x)))]) flX7_212 (by exact (hA.2.1 _ (inB_lt bA)).1) rfl dX7_kept_78 ?_
                refine r_ireturn rfl dX7_kept_81 ?_
                unfold s_kept
                try simp only []
                try (first | simp only [if_pos bA] | simp only [if_neg bA] | simp only [if_neg (Bool.eq_false_iff.mp bA)])
                try (first | simp only [if_pos q13_0] | simp only [if_neg q13_0] | simp only [if_neg (Bool.eq_false_iff.mp q13_0)])
                try (first | simp only [if_pos q13_1] | simp only [if_neg q13_1] | simp only [if_neg (Bool.eq_false_iff.mp q13_1)])
                try (first | simp only [if_pos q13_2] | simp only [if_neg q13_2] | simp only [if_neg (Bool.eq_false_iff.mp q13_2)])
                try (first | simp only [if_pos q13_3] | simp only [if_neg q13_3] | simp only [if_neg (Bool.eq_false_iff.mp q13_3)])
                try (first | simp only [if_pos q13_4] | simp only [if_neg q13_4] | simp only [if_neg (Bool.eq_false_iff.mp q13_4)])
                try (first | simp only [if_pos q13_5] | simp only [if_neg q13_5] | simp only [if_neg (Bool.eq_false_iff.mp q13_5)])
                exact pX_mk (hS) (hT.fr (fun q _ _ => rfl)) (hW.fr (fun q _ _ => rfl)) (hM.fr j1 (fun q _ => rfl)) (hD.fr j2 (fun q _ => rfl)) (hA.fr j3 (fun q _ => rfl)) (hI) (by obtain ⟨tk8, h8⟩ := hC; exact ⟨tk8, h8⟩) (hF) (fun q _ => rfl) (by omega) (by omega)
              · refine r_tableOut (tgt := 82) dX7_kept_13 (tbO6 w q13_0 q13_1 q13_2 q13_3 q13_4 q13_5) (by decide) ?_
                refine r_iconst (v := (-1)) (by decide) dX7_kept_82 ?_
                refine r_ireturn rfl dX7_kept_83 ?_
                unfold s_kept
                try simp only []
                try (first | simp only [if_pos bA] | simp only [if_neg bA] | simp only [if_neg (Bool.eq_false_iff.mp bA)])
                try (first | simp only [if_pos q13_0] | simp only [if_neg q13_0] | simp only [if_neg (Bool.eq_false_iff.mp q13_0)])
                try (first | simp only [if_pos q13_1] | simp only [if_neg q13_1] | simp only [if_neg (Bool.eq_false_iff.mp q13_1)])
                try (first | simp only [if_pos q13_2] | simp only [if_neg q13_2] | simp only [if_neg (Bool.eq_false_iff.mp q13_2)])
                try (first | simp only [if_pos q13_3] | simp only [if_neg q13_3] | simp only [if_neg (Bool.eq_false_iff.mp q13_3)])
                try (first | simp only [if_pos q13_4] | simp only [if_neg q13_4] | simp only [if_neg (Bool.eq_false_iff.mp q13_4)])
                try (first | simp only [if_pos q13_5] | simp only [if_neg q13_5] | simp only [if_neg (Bool.eq_false_iff.mp q13_5)])
                exact pX_mk (hS) (hT.fr (fun q _ _ => rfl)) (hW.fr (fun q _ _ => rfl)) (hM.fr j1 (fun q _ => rfl)) (hD.fr j2 (fun q _ => rfl)) (hA.fr j3 (fun q _ => rfl)) (hI) (by obtain ⟨tk8, h8⟩ := hC; exact ⟨tk8, h8⟩) (hF) (fun q _ => rfl) (by omega) (by omega)
  · rw [oAt_neg bA]
    show bV O _ d 5 [(0, .ref 32), (1, .int x), (2, .int w)] [.null] (f, n, s) _
    refine r_astore_nN (n := 3) (i := 3) (L' := [(3, .null), (0, .ref 32), (1, .int x), (2, .int w)]) rfl dX7_kept_5 (by decide) rfl ?_
    refine r_aload_nN (n := 3) (i := 3) 0 rfl rfl dX7_kept_6 ?_
    refine r_ifnonnullN dX7_kept_7 ?_
    refine r_iconst (v := (-1)) (by decide) dX7_kept_10 ?_
    refine r_ireturn rfl dX7_kept_11 ?_
    unfold s_kept
    try simp only []
    try (first | simp only [if_pos bA] | simp only [if_neg bA] | simp only [if_neg (Bool.eq_false_iff.mp bA)])
    exact pX_mk (hS) (hT.fr (fun q _ _ => rfl)) (hW.fr (fun q _ _ => rfl)) (hM.fr j1 (fun q _ => rfl)) (hD.fr j2 (fun q _ => rfl)) (hA.fr j3 (fun q _ => rfl)) (hI) (by obtain ⟨tk8, h8⟩ := hC; exact ⟨tk8, h8⟩) (hF) (fun q _ => rfl) (by omega) (by omega)
set_option maxRecDepth 4000 in
theorem x_answer {O : bO} {d : Nat} {f : bF} {n s : Nat} {bs : Nat → Int32} {tl : Nat} {mc : Nat} {md : Nat → MR} {ip : Nat → Int32} {dc : Nat} {dr : Nat → DR} {ac : Nat} {an : Nat → AR} {hs : Bool} {sd : Nat → Int32} {df : Nat → Int32} {dfn : Nat} {td : Nat} {tr : Int32} {ft : Int32} {pl : Int32} {x : Int32} {w : Int32} (hX : XR f (bs, tl, mc, md, ip, dc, dr, ac, an, hs, sd, df, dfn, td, tr, ft, pl)) (jX : JX (bs, tl, mc, md, ip, dc, dr, ac, an, hs, sd, df, dfn, td, tr, ft, pl))  (hd : 1 ≤ d) : bCall O mX7_answer d [.ref 32, .int x, .int w] (f, n, s) (pX f n s 0 0 (s_answer (bs, tl, mc, md, ip, dc, dr, ac, an, hs, sd, df, dfn, td, tr, ft, pl) x w)) := by
  refine bCall_of (by decide) rfl (Nat.le_of_ble_eq_true rfl) ?_
  obtain ⟨hS, hT, hW, hM, hD, hA, hI, hC, hF⟩ := id hX
  obtain ⟨j1, j2, j3, j4, j5, j6, j7, j8⟩ := id jX
  simp only [] at hS hT hW hM hD hA hI hC hF j1 j2 j3 j4 j5 j6 j7 j8
  show bV O _ d 0 [(0, .ref 32), (1, .int x), (2, .int w)] [] (f, n, s) _
  refine r_aload_n (n := 0) (i := 0) 0 rfl rfl dX7_answer_0 ?_
  refine r_iload_n (n := 1) (i := 1) 1 rfl rfl dX7_answer_1 ?_
  refine p_callV (As := [.int x]) (rest := []) (kX7_answerAt (O := O) (d := 0) (f := f) (n := n) (s := s) (ct_m := nI mc) (ct_d := nI dc) (ct_a := nI ac) (ct_f := nI dfn) (tday := nI td) (trb := tr) (flt := ft) (plc := pl) (x := x) (nn := ac) hS hA.1 (by first | assumption | omega | decide) (Nat.le_refl _)).call rfl lkX7_195 imX7_answerAt seX7_answerAt rfl hS rfl rfl (by omega) (Nat.le_of_ble_eq_true rfl) dX7_answer_2 (fun v9 G9 h9 => ?_) (fun q9 G9 h9 => (by cases h9.1))
  obtain ⟨h8, rfl⟩ := h9; cases h8
  by_cases bA : inB x ac = true
  · rw [oAt_pos bA]
    have b1bA := aA_b (Nat.lt_of_lt_of_le (inB_lt bA) j3)
    show bV O _ d 5 [(0, .ref 32), (1, .int x), (2, .int w)] [.ref (aA (cl x))] (f, n, s) _
    refine r_astore_n (n := 3) (i := 3) (L' := [(3, .ref (aA (cl x))), (0, .ref 32), (1, .int x), (2, .int w)]) rfl dX7_answer_5 (by decide) rfl ?_
    refine r_aload_n (n := 3) (i := 3) 0 rfl rfl dX7_answer_6 ?_
    refine r_ifnonnull (tgt := 13) (by decide) dX7_answer_7 ?_
    refine r_iload_n (n := 2) (i := 2) 3 rfl rfl dX7_answer_13 ?_
    by_cases q14_0 : w = 0
    · refine r_tableIn (off := 30) (tgt := 44) dX7_answer_14 (by rw [q14_0]; decide) (by rw [q14_0]; decide) (by rw [q14_0]; decide) (by decide) ?_
      refine r_aload_n (n := 3) (i := 3) 0 rfl rfl dX7_answer_44 ?_
      refine p_get (fs := [.int (a_do (an (cl x))), .int (a_ke (an (cl x))), .int (a_da (an (cl x))), .ref ((aA (cl x)) + 1), .int (a_gv (an (cl x))), .int (a_ch (an (cl x))), .int (a_rv (an (cl x))), .int (a_gn (an (cl x))), .int (a_ct (an (cl x))), .int (a_rt (an (cl x))), .int (a_tr (an (cl x)))]) flX7_213 (by exact (hA.2.1 _ (inB_lt bA)).1) rfl dX7_answer_45 ?_
      refine r_ireturn rfl dX7_answer_48 ?_
      unfold s_answer
      try simp only []
      try (first | simp only [if_pos bA] | simp only [if_neg bA] | simp only [if_neg (Bool.eq_false_iff.mp bA)])
      try (first | simp only [if_pos q14_0] | simp only [if_neg q14_0] | simp only [if_neg (Bool.eq_false_iff.mp q14_0)])
      exact pX_mk (hS) (hT.fr (fun q _ _ => rfl)) (hW.fr (fun q _ _ => rfl)) (hM.fr j1 (fun q _ => rfl)) (hD.fr j2 (fun q _ => rfl)) (hA.fr j3 (fun q _ => rfl)) (hI) (by obtain ⟨tk8, h8⟩ := hC; exact ⟨tk8, h8⟩) (hF) (fun q _ => rfl) (by omega) (by omega)
    · by_cases q14_1 : w = 1
      · refine r_tableIn (off := 35) (tgt := 49) dX7_answer_14 (by rw [q14_1]; decide) (by rw [q14_1]; decide) (by rw [q14_1]; decide) (by decide) ?_
        refine r_aload_n (n := 3) (i := 3) 0 rfl rfl dX7_answer_49 ?_
        refine p_get (fs := [.int (a_do (an (cl x))), .int (a_ke (an (cl x))), .int (a_da (an (cl x))), .ref ((aA (cl x)) + 1), .int (a_gv (an (cl x))), .int (a_ch (an (cl x))), .int (a_rv (an (cl x))), .int (a_gn (an (cl x))), .int (a_ct (an (cl x))), .int (a_rt (an (cl x))), .int (a_tr (an (cl x)))]) flX7_216 (by exact (hA.2.1 _ (inB_lt bA)).1) rfl dX7_answer_50 ?_
        refine r_ireturn rfl dX7_answer_53 ?_
        unfold s_answer
        try simp only []
        try (first | simp only [if_pos bA] | simp only [if_neg bA] | simp only [if_neg (Bool.eq_false_iff.mp bA)])
        try (first | simp only [if_pos q14_0] | simp only [if_neg q14_0] | simp only [if_neg (Bool.eq_false_iff.mp q14_0)])
        try (first | simp only [if_pos q14_1] | simp only [if_neg q14_1] | simp only [if_neg (Bool.eq_false_iff.mp q14_1)])
        exact pX_mk (hS) (hT.fr (fun q _ _ => rfl)) (hW.fr (fun q _ _ => rfl)) (hM.fr j1 (fun q _ => rfl)) (hD.fr j2 (fun q _ => rfl)) (hA.fr j3 (fun q _ => rfl)) (hI) (by obtain ⟨tk8, h8⟩ := hC; exact ⟨tk8, h8⟩) (hF) (fun q _ => rfl) (by omega) (by omega)
      · by_cases q14_2 : w = 2
        · refine r_tableIn (off := 40) (tgt := 54) dX7_answer_14 (by rw [q14_2]; decide) (by rw [q14_2]; decide) (by rw [q14_2]; decide) (by decide) ?_
          refine r_aload_n (n := 3) (i := 3) 0 rfl rfl dX7_answer_54 ?_
          refine p_get (fs := [.int (a_do (an (cl x))), .int (a_ke (an (cl x))), .int (a_da (an (cl x))), .ref ((aA (cl x)) + 1), .int (a_gv (an (cl x))), .int (a_ch (an (cl x))), .int (a_rv (an (cl x))), .int (a_gn (an (cl x))), .int (a_ct (an (cl x))), .int (a_rt (an (cl x))), .int (a_tr (an (cl x)))]) flX7_219 (by exact (hA.2.1 _ (inB_lt bA)).1) rfl dX7_answer_55 ?_
          refine r_ireturn rfl dX7_answer_58 ?_
          unfold s_answer
          try simp only []
          try (first | simp only [if_pos bA] | simp only [if_neg bA] | simp only [if_neg (Bool.eq_false_iff.mp bA)])
          try (first | simp only [if_pos q14_0] | simp only [if_neg q14_0] | simp only [if_neg (Bool.eq_false_iff.mp q14_0)])
          try (first | simp only [if_pos q14_1] | simp only [if_neg q14_1] | simp only [if_neg (Bool.eq_false_iff.mp q14_1)])
          try (first | simp only [if_pos q14_2] | simp only [if_neg q14_2] | simp only [if_neg (Bool.eq_false_iff.mp q14_2)])
          exact pX_mk (hS) (hT.fr (fun q _ _ => rfl)) (hW.fr (fun q _ _ => rfl)) (hM.fr j1 (fun q _ => rfl)) (hD.fr j2 (fun q _ => rfl)) (hA.fr j3 (fun q _ => rfl)) (hI) (by obtain ⟨tk8, h8⟩ := hC; exact ⟨tk8, h8⟩) (hF) (fun q _ => rfl) (by omega) (by omega)
        · by_cases q14_3 : w = 3
          · refine r_tableIn (off := 45) (tgt := 59) dX7_answer_14 (by rw [q14_3]; decide) (by rw [q14_3]; decide) (by rw [q14_3]; decide) (by decide) ?_
            refine r_aload_n (n := 3) (i := 3) 0 rfl rfl dX7_answer_59 ?_
            refine p_get (fs := [.int (a_do (an (cl x))), .int (a_ke (an (cl x))), .int (a_da (an (cl x))), .ref ((aA (cl x)) + 1), .int (a_gv (an (cl x))), .int (a_ch (an (cl x))), .int (a_rv (an (cl x))), .int (a_gn (an (cl x))), .int (a_ct (an (cl x))), .int (a_rt (an (cl x))), .int (a_tr (an (cl x)))]) flX7_222 (by exact (hA.2.1 _ (inB_lt bA)).1) rfl dX7_answer_60 ?_
            refine r_ireturn rfl dX7_answer_63 ?_
            unfold s_answer
            try simp only []
            try (first | simp only [if_pos bA] | simp only [if_neg bA] | simp only [if_neg (Bool.eq_false_iff.mp bA)])
            try (first | simp only [if_pos q14_0] | simp only [if_neg q14_0] | simp only [if_neg (Bool.eq_false_iff.mp q14_0)])
            try (first | simp only [if_pos q14_1] | simp only [if_neg q14_1] | simp only [if_neg (Bool.eq_false_iff.mp q14_1)])
            try (first | simp only [if_pos q14_2] | simp only [if_neg q14_2] | simp only [if_neg (Bool.eq_false_iff.mp q14_2)])
            try (first | simp only [if_pos q14_3] | simp only [if_neg q14_3] | simp only [if_neg (Bool.eq_false_iff.mp q14_3)])
            exact pX_mk (hS) (hT.fr (fun q _ _ => rfl)) (hW.fr (fun q _ _ => rfl)) (hM.fr j1 (fun q _ => rfl)) (hD.fr j2 (fun q _ => rfl)) (hA.fr j3 (fun q _ => rfl)) (hI) (by obtain ⟨tk8, h8⟩ := hC; exact ⟨tk8, h8⟩) (hF) (fun q _ => rfl) (by omega) (by omega)
          · refine r_tableOut (tgt := 64) dX7_answer_14 (tbO4 w q14_0 q14_1 q14_2 q14_3) (by decide) ?_
            refine r_ldc ckX7_117 dX7_answer_64 ?_
            refine r_ireturn rfl dX7_answer_66 ?_
            unfold s_answer
            try simp only []
            try (first | simp only [if_pos bA] | simp only [if_neg bA] | simp only [if_neg (Bool.eq_false_iff.mp bA)])
            try (first | simp only [if_pos q14_0] | simp only [if_neg q14_0] | simp only [if_neg (Bool.eq_false_iff.mp q14_0)])
            try (first | simp only [if_pos q14_1] | simp only [if_neg q14_1] | simp only [if_neg (Bool.eq_false_iff.mp q14_1)])
            try (first | simp only [if_pos q14_2] | simp only [if_neg q14_2] | simp only [if_neg (Bool.eq_false_iff.mp q14_2)])
            try (first | simp only [if_pos q14_3] | simp only [if_neg q14_3] | simp only [if_neg (Bool.eq_false_iff.mp q14_3)])
            exact pX_mk (hS) (hT.fr (fun q _ _ => rfl)) (hW.fr (fun q _ _ => rfl)) (hM.fr j1 (fun q _ => rfl)) (hD.fr j2 (fun q _ => rfl)) (hA.fr j3 (fun q _ => rfl)) (hI) (by obtain ⟨tk8, h8⟩ := hC; exact ⟨tk8, h8⟩) (hF) (fun q _ => rfl) (by omega) (by omega)
  · rw [oAt_neg bA]
    show bV O _ d 5 [(0, .ref 32), (1, .int x), (2, .int w)] [.null] (f, n, s) _
    refine r_astore_nN (n := 3) (i := 3) (L' := [(3, .null), (0, .ref 32), (1, .int x), (2, .int w)]) rfl dX7_answer_5 (by decide) rfl ?_
    refine r_aload_nN (n := 3) (i := 3) 0 rfl rfl dX7_answer_6 ?_
    refine r_ifnonnullN dX7_answer_7 ?_
    refine r_ldc ckX7_117 dX7_answer_10 ?_
    refine r_ireturn rfl dX7_answer_12 ?_
    unfold s_answer
    try simp only []
    try (first | simp only [if_pos bA] | simp only [if_neg bA] | simp only [if_neg (Bool.eq_false_iff.mp bA)])
    exact pX_mk (hS) (hT.fr (fun q _ _ => rfl)) (hW.fr (fun q _ _ => rfl)) (hM.fr j1 (fun q _ => rfl)) (hD.fr j2 (fun q _ => rfl)) (hA.fr j3 (fun q _ => rfl)) (hI) (by obtain ⟨tk8, h8⟩ := hC; exact ⟨tk8, h8⟩) (hF) (fun q _ => rfl) (by omega) (by omega)
set_option maxRecDepth 4000 in
theorem x_count {O : bO} {d : Nat} {f : bF} {n s : Nat} {bs : Nat → Int32} {tl : Nat} {mc : Nat} {md : Nat → MR} {ip : Nat → Int32} {dc : Nat} {dr : Nat → DR} {ac : Nat} {an : Nat → AR} {hs : Bool} {sd : Nat → Int32} {df : Nat → Int32} {dfn : Nat} {td : Nat} {tr : Int32} {ft : Int32} {pl : Int32} {w : Int32} (hX : XR f (bs, tl, mc, md, ip, dc, dr, ac, an, hs, sd, df, dfn, td, tr, ft, pl)) (jX : JX (bs, tl, mc, md, ip, dc, dr, ac, an, hs, sd, df, dfn, td, tr, ft, pl))  (hd : 0 ≤ d) : bCall O mX7_count d [.ref 32, .int w] (f, n, s) (pX f n s 0 0 (s_count (bs, tl, mc, md, ip, dc, dr, ac, an, hs, sd, df, dfn, td, tr, ft, pl) w)) := by
  refine bCall_of (by decide) rfl (Nat.le_of_ble_eq_true rfl) ?_
  obtain ⟨hS, hT, hW, hM, hD, hA, hI, hC, hF⟩ := id hX
  obtain ⟨j1, j2, j3, j4, j5, j6, j7, j8⟩ := id jX
  simp only [] at hS hT hW hM hD hA hI hC hF j1 j2 j3 j4 j5 j6 j7 j8
  obtain ⟨w9, m9, b9, q9, te9, tn9, tp9, tk9, tv9, ks9, vs9, h33, h34, h35, h36, h37⟩ := id hT
  show bV O _ d 0 [(0, .ref 32), (1, .int w)] [] (f, n, s) _
  refine r_iload_n (n := 1) (i := 1) 1 rfl rfl dX7_count_0 ?_
  by_cases q1_0 : w = 0
  · refine r_tableIn (off := 35) (tgt := 36) dX7_count_1 (by rw [q1_0]; decide) (by rw [q1_0]; decide) (by rw [q1_0]; decide) (by decide) ?_
    refine r_aload_n (n := 0) (i := 0) 0 rfl rfl dX7_count_36 ?_
    refine p_get (fs := [.ref 33, .ref 38, .ref 40, .ref 41, .ref 42, .ref 43, .ref 44, .ref 45, .int (nI mc), .int (nI dc), .int (nI ac), .int (nI dfn), .int (nI td), .int tr, .int ft, .int pl]) flX7_87 hS rfl dX7_count_37 ?_
    refine r_ireturn rfl dX7_count_40 ?_
    unfold s_count
    try simp only []
    try (first | simp only [if_pos q1_0] | simp only [if_neg q1_0] | simp only [if_neg (Bool.eq_false_iff.mp q1_0)])
    exact pX_mk (hS) (hT.fr (fun q _ _ => rfl)) (hW.fr (fun q _ _ => rfl)) (hM.fr j1 (fun q _ => rfl)) (hD.fr j2 (fun q _ => rfl)) (hA.fr j3 (fun q _ => rfl)) (hI) (by obtain ⟨tk8, h8⟩ := hC; exact ⟨tk8, h8⟩) (hF) (fun q _ => rfl) (by omega) (by omega)
  · by_cases q1_1 : w = 1
    · refine r_tableIn (off := 40) (tgt := 41) dX7_count_1 (by rw [q1_1]; decide) (by rw [q1_1]; decide) (by rw [q1_1]; decide) (by decide) ?_
      refine r_aload_n (n := 0) (i := 0) 0 rfl rfl dX7_count_41 ?_
      refine p_get (fs := [.ref 33, .ref 38, .ref 40, .ref 41, .ref 42, .ref 43, .ref 44, .ref 45, .int (nI mc), .int (nI dc), .int (nI ac), .int (nI dfn), .int (nI td), .int tr, .int ft, .int pl]) flX7_122 hS rfl dX7_count_42 ?_
      refine r_ireturn rfl dX7_count_45 ?_
      unfold s_count
      try simp only []
      try (first | simp only [if_pos q1_0] | simp only [if_neg q1_0] | simp only [if_neg (Bool.eq_false_iff.mp q1_0)])
      try (first | simp only [if_pos q1_1] | simp only [if_neg q1_1] | simp only [if_neg (Bool.eq_false_iff.mp q1_1)])
      exact pX_mk (hS) (hT.fr (fun q _ _ => rfl)) (hW.fr (fun q _ _ => rfl)) (hM.fr j1 (fun q _ => rfl)) (hD.fr j2 (fun q _ => rfl)) (hA.fr j3 (fun q _ => rfl)) (hI) (by obtain ⟨tk8, h8⟩ := hC; exact ⟨tk8, h8⟩) (hF) (fun q _ => rfl) (by omega) (by omega)
    · by_cases q1_2 : w = 2
      · refine r_tableIn (off := 45) (tgt := 46) dX7_count_1 (by rw [q1_2]; decide) (by rw [q1_2]; decide) (by rw [q1_2]; decide) (by decide) ?_
        refine r_aload_n (n := 0) (i := 0) 0 rfl rfl dX7_count_46 ?_
        refine p_get (fs := [.ref 33, .ref 38, .ref 40, .ref 41, .ref 42, .ref 43, .ref 44, .ref 45, .int (nI mc), .int (nI dc), .int (nI ac), .int (nI dfn), .int (nI td), .int tr, .int ft, .int pl]) flX7_178 hS rfl dX7_count_47 ?_
        refine r_ireturn rfl dX7_count_50 ?_
        unfold s_count
        try simp only []
        try (first | simp only [if_pos q1_0] | simp only [if_neg q1_0] | simp only [if_neg (Bool.eq_false_iff.mp q1_0)])
        try (first | simp only [if_pos q1_1] | simp only [if_neg q1_1] | simp only [if_neg (Bool.eq_false_iff.mp q1_1)])
        try (first | simp only [if_pos q1_2] | simp only [if_neg q1_2] | simp only [if_neg (Bool.eq_false_iff.mp q1_2)])
        exact pX_mk (hS) (hT.fr (fun q _ _ => rfl)) (hW.fr (fun q _ _ => rfl)) (hM.fr j1 (fun q _ => rfl)) (hD.fr j2 (fun q _ => rfl)) (hA.fr j3 (fun q _ => rfl)) (hI) (by obtain ⟨tk8, h8⟩ := hC; exact ⟨tk8, h8⟩) (hF) (fun q _ => rfl) (by omega) (by omega)
      · by_cases q1_3 : w = 3
        · refine r_tableIn (off := 50) (tgt := 51) dX7_count_1 (by rw [q1_3]; decide) (by rw [q1_3]; decide) (by rw [q1_3]; decide) (by decide) ?_
          refine r_aload_n (n := 0) (i := 0) 0 rfl rfl dX7_count_51 ?_
          refine p_get (fs := [.ref 33, .ref 38, .ref 40, .ref 41, .ref 42, .ref 43, .ref 44, .ref 45, .int (nI mc), .int (nI dc), .int (nI ac), .int (nI dfn), .int (nI td), .int tr, .int ft, .int pl]) flX7_142 hS rfl dX7_count_52 ?_
          refine r_ireturn rfl dX7_count_55 ?_
          unfold s_count
          try simp only []
          try (first | simp only [if_pos q1_0] | simp only [if_neg q1_0] | simp only [if_neg (Bool.eq_false_iff.mp q1_0)])
          try (first | simp only [if_pos q1_1] | simp only [if_neg q1_1] | simp only [if_neg (Bool.eq_false_iff.mp q1_1)])
          try (first | simp only [if_pos q1_2] | simp only [if_neg q1_2] | simp only [if_neg (Bool.eq_false_iff.mp q1_2)])
          try (first | simp only [if_pos q1_3] | simp only [if_neg q1_3] | simp only [if_neg (Bool.eq_false_iff.mp q1_3)])
          exact pX_mk (hS) (hT.fr (fun q _ _ => rfl)) (hW.fr (fun q _ _ => rfl)) (hM.fr j1 (fun q _ => rfl)) (hD.fr j2 (fun q _ => rfl)) (hA.fr j3 (fun q _ => rfl)) (hI) (by obtain ⟨tk8, h8⟩ := hC; exact ⟨tk8, h8⟩) (hF) (fun q _ => rfl) (by omega) (by omega)
        · by_cases q1_4 : w = 4
          · refine r_tableIn (off := 55) (tgt := 56) dX7_count_1 (by rw [q1_4]; decide) (by rw [q1_4]; decide) (by rw [q1_4]; decide) (by decide) ?_
            refine r_aload_n (n := 0) (i := 0) 0 rfl rfl dX7_count_56 ?_
            refine p_get (fs := [.ref 33, .ref 38, .ref 40, .ref 41, .ref 42, .ref 43, .ref 44, .ref 45, .int (nI mc), .int (nI dc), .int (nI ac), .int (nI dfn), .int (nI td), .int tr, .int ft, .int pl]) flX7_12 hS rfl dX7_count_57 ?_
            refine p_get (fs := [.ref 34, .ref 36, .ref 37, .int w9, .int m9, .int b9, .int q9]) flX7_57 h33 rfl dX7_count_60 ?_
            refine p_get (fs := [.ref 35, .int (nI tl), .int te9, .int tn9, .int tp9, .int tk9, .int tv9]) flX7_61 h34 rfl dX7_count_63 ?_
            refine r_ireturn rfl dX7_count_66 ?_
            unfold s_count
            try simp only []
            try (first | simp only [if_pos q1_0] | simp only [if_neg q1_0] | simp only [if_neg (Bool.eq_false_iff.mp q1_0)])
            try (first | simp only [if_pos q1_1] | simp only [if_neg q1_1] | simp only [if_neg (Bool.eq_false_iff.mp q1_1)])
            try (first | simp only [if_pos q1_2] | simp only [if_neg q1_2] | simp only [if_neg (Bool.eq_false_iff.mp q1_2)])
            try (first | simp only [if_pos q1_3] | simp only [if_neg q1_3] | simp only [if_neg (Bool.eq_false_iff.mp q1_3)])
            try (first | simp only [if_pos q1_4] | simp only [if_neg q1_4] | simp only [if_neg (Bool.eq_false_iff.mp q1_4)])
            exact pX_mk (hS) (hT.fr (fun q _ _ => rfl)) (hW.fr (fun q _ _ => rfl)) (hM.fr j1 (fun q _ => rfl)) (hD.fr j2 (fun q _ => rfl)) (hA.fr j3 (fun q _ => rfl)) (hI) (by obtain ⟨tk8, h8⟩ := hC; exact ⟨tk8, h8⟩) (hF) (fun q _ => rfl) (by omega) (by omega)
          · refine r_tableOut (tgt := 67) dX7_count_1 (tbO5 w q1_0 q1_1 q1_2 q1_3 q1_4) (by decide) ?_
            refine r_iconst (v := (-1)) (by decide) dX7_count_67 ?_
            refine r_ireturn rfl dX7_count_68 ?_
            unfold s_count
            try simp only []
            try (first | simp only [if_pos q1_0] | simp only [if_neg q1_0] | simp only [if_neg (Bool.eq_false_iff.mp q1_0)])
            try (first | simp only [if_pos q1_1] | simp only [if_neg q1_1] | simp only [if_neg (Bool.eq_false_iff.mp q1_1)])
            try (first | simp only [if_pos q1_2] | simp only [if_neg q1_2] | simp only [if_neg (Bool.eq_false_iff.mp q1_2)])
            try (first | simp only [if_pos q1_3] | simp only [if_neg q1_3] | simp only [if_neg (Bool.eq_false_iff.mp q1_3)])
            try (first | simp only [if_pos q1_4] | simp only [if_neg q1_4] | simp only [if_neg (Bool.eq_false_iff.mp q1_4)])
            exact pX_mk (hS) (hT.fr (fun q _ _ => rfl)) (hW.fr (fun q _ _ => rfl)) (hM.fr j1 (fun q _ => rfl)) (hD.fr j2 (fun q _ => rfl)) (hA.fr j3 (fun q _ => rfl)) (hI) (by obtain ⟨tk8, h8⟩ := hC; exact ⟨tk8, h8⟩) (hF) (fun q _ => rfl) (by omega) (by omega)
set_option maxRecDepth 4000 in
theorem x_truth {O : bO} {d : Nat} {f : bF} {n s : Nat} {bs : Nat → Int32} {tl : Nat} {mc : Nat} {md : Nat → MR} {ip : Nat → Int32} {dc : Nat} {dr : Nat → DR} {ac : Nat} {an : Nat → AR} {hs : Bool} {sd : Nat → Int32} {df : Nat → Int32} {dfn : Nat} {td : Nat} {tr : Int32} {ft : Int32} {pl : Int32} {x : Int32} {v : Int32} (hX : XR f (bs, tl, mc, md, ip, dc, dr, ac, an, hs, sd, df, dfn, td, tr, ft, pl)) (jX : JX (bs, tl, mc, md, ip, dc, dr, ac, an, hs, sd, df, dfn, td, tr, ft, pl))  (hd : 1 ≤ d) : bCall O mX7_truth d [.ref 32, .int x, .int v] (f, n, s) (pX f n s 0 0 (s_truth (bs, tl, mc, md, ip, dc, dr, ac, an, hs, sd, df, dfn, td, tr, ft, pl) x v)) := by
  refine bCall_of (by decide) rfl (Nat.le_of_ble_eq_true rfl) ?_
  obtain ⟨hS, hT, hW, hM, hD, hA, hI, hC, hF⟩ := id hX
  obtain ⟨j1, j2, j3, j4, j5, j6, j7, j8⟩ := id jX
  simp only [] at hS hT hW hM hD hA hI hC hF j1 j2 j3 j4 j5 j6 j7 j8
  show bV O _ d 0 [(0, .ref 32), (1, .int x), (2, .int v)] [] (f, n, s) _
  refine r_aload_n (n := 0) (i := 0) 0 rfl rfl dX7_truth_0 ?_
  refine r_iload_n (n := 1) (i := 1) 1 rfl rfl dX7_truth_1 ?_
  refine p_callV (As := [.int x]) (rest := []) (kX7_answerAt (O := O) (d := 0) (f := f) (n := n) (s := s) (ct_m := nI mc) (ct_d := nI dc) (ct_a := nI ac) (ct_f := nI dfn) (tday := nI td) (trb := tr) (flt := ft) (plc := pl) (x := x) (nn := ac) hS hA.1 (by first | assumption | omega | decide) (Nat.le_refl _)).call rfl lkX7_195 imX7_answerAt seX7_answerAt rfl hS rfl rfl (by omega) (Nat.le_of_ble_eq_true rfl) dX7_truth_2 (fun v9 G9 h9 => ?_) (fun q9 G9 h9 => (by cases h9.1))
  obtain ⟨h8, rfl⟩ := h9; cases h8
  by_cases bA : inB x ac = true
  · rw [oAt_pos bA]
    have b1bA := aA_b (Nat.lt_of_lt_of_le (inB_lt bA) j3)
    show bV O _ d 5 [(0, .ref 32), (1, .int x), (2, .int v)] [.ref (aA (cl x))] (f, n, s) _
    refine r_astore_n (n := 3) (i := 3) (L' := [(3, .ref (aA (cl x))), (0, .ref 32), (1, .int x), (2, .int v)]) rfl dX7_truth_5 (by decide) rfl ?_
    refine r_aload_n (n := 3) (i := 3) 0 rfl rfl dX7_truth_6 ?_
    refine r_ifnonnull (tgt := 16) (by decide) dX7_truth_7 ?_
    refine r_iload_n (n := 2) (i := 2) 3 rfl rfl dX7_truth_16 ?_
    refine r_ldc ckX7_226 dX7_truth_17 ?_
    refine r_icmp_lt (tgt := 28) (by decide) dX7_truth_19 (fun c19 => ?_) (fun c19 => ?_)
    · refine r_aload_n (n := 0) (i := 0) 1 rfl rfl dX7_truth_28 ?_
      refine r_iconst (v := 2) (by decide) dX7_truth_29 ?_
      refine p_callV (As := [.int 2]) (rest := []) (kX7_deny (O := O) (d := 0) (f := f) (n := n) (s := s) (ct_m := nI mc) (ct_d := nI dc) (ct_a := nI ac) (ct_f := nI dfn) (tday := nI td) (trb := tr) (flt := ft) (plc := pl) (x := 2) hS  (Nat.le_refl _)).call rfl lkX7_109 imX7_deny seX7_deny rfl hS rfl rfl (by omega) (Nat.le_of_ble_eq_true rfl) dX7_truth_30 (fun v9 G9 h9 => ?_) (fun q9 G9 h9 => (by cases h9.1))
      obtain ⟨h8, rfl⟩ := h9; cases h8
      show bV O _ d 33 [(3, .ref (aA (cl x))), (0, .ref 32), (1, .int x), (2, .int v)] [.int 0] (bU f 32 (.inr (7, [.ref 33, .ref 38, .ref 40, .ref 41, .ref 42, .ref 43, .ref 44, .ref 45, .int (nI mc), .int (nI dc), .int (nI ac), .int (nI dfn), .int (nI td), .int 2, .int ft, .int pl])), n, s) _
      refine r_zreturn rfl (by first | decide +kernel | exact narZ _ | assumption) dX7_truth_33 ?_
      unfold s_truth
      try simp only []
      try (first | simp only [if_pos bA] | simp only [if_neg bA] | simp only [if_neg (Bool.eq_false_iff.mp bA)])
      try (first | simp only [if_pos c19] | simp only [if_neg c19] | simp only [if_neg (Bool.eq_false_iff.mp c19)])
      exact pX_mk (by exact bU_s _ _ _) (hT.fr (fun q _ _ => (bU_n (by omega)).trans (rfl))) (hW.fr (fun q _ _ => (bU_n (by omega)).trans (rfl))) (hM.fr j1 (fun q _ => (bU_n (by omega)).trans (rfl))) (hD.fr j2 (fun q _ => (bU_n (by omega)).trans (rfl))) (hA.fr j3 (fun q _ => (bU_n (by omega)).trans (rfl))) (by exact ((bU_n (by decide)).trans (hI))) (by obtain ⟨tk8, h8⟩ := hC; exact ⟨tk8, (bU_n (by omega)).trans (h8)⟩) (by exact ((bU_n (by decide)).trans (hF))) (fun q _ => (bU_n (by omega)).trans (rfl)) (by omega) (by omega)
    · refine r_iload_n (n := 2) (i := 2) 3 rfl rfl dX7_truth_22 ?_
      refine r_ldc ckX7_227 dX7_truth_23 ?_
      refine r_icmp_le (tgt := 34) (by decide) dX7_truth_25 (fun c25 => ?_) (fun c25 => ?_)
      · refine r_aload_n (n := 3) (i := 3) 0 rfl rfl dX7_truth_34 ?_
        refine r_iload_n (n := 2) (i := 2) 3 rfl rfl dX7_truth_35 ?_
        refine p_put (fs := [.int (a_do (an (cl x))), .int (a_ke (an (cl x))), .int (a_da (an (cl x))), .ref ((aA (cl x)) + 1), .int (a_gv (an (cl x))), .int (a_ch (an (cl x))), .int (a_rv (an (cl x))), .int (a_gn (an (cl x))), .int (a_ct (an (cl x))), .int (a_rt (an (cl x))), .int (a_tr (an (cl x)))]) (fs' := [.int (a_do (an (cl x))), .int (a_ke (an (cl x))), .int (a_da (an (cl x))), .ref ((aA (cl x)) + 1), .int (a_gv (an (cl x))), .int (a_ch (an (cl x))), .int (a_rv (an (cl x))), .int (a_gn (an (cl x))), .int (a_ct (an (cl x))), .int (a_rt (an (cl x))), .int v]) flX7_222 (by exact (hA.2.1 _ (inB_lt bA)).1) (Nat.le_of_ble_eq_true rfl) (bNf_i _) rfl dX7_truth_36 ?_
        refine r_aload_n (n := 0) (i := 0) 1 rfl rfl dX7_truth_39 ?_
        refine p_callV (As := []) (rest := []) (kX7_allow (O := O) (d := 0) (f := bU f (aA (cl x)) (.inr (0, [.int (a_do (an (cl x))), .int (a_ke (an (cl x))), .int (a_da (an (cl x))), .ref ((aA (cl x)) + 1), .int (a_gv (an (cl x))), .int (a_ch (an (cl x))), .int (a_rv (an (cl x))), .int (a_gn (an (cl x))), .int (a_ct (an (cl x))), .int (a_rt (an (cl x))), .int v]))) (n := n) (s := s) (ct_m := nI mc) (ct_d := nI dc) (ct_a := nI ac) (ct_f := nI dfn) (tday := nI td) (trb := tr) (flt := ft) (plc := pl) (by exact ((bU_n (by omega)).trans (hS)))  (Nat.le_refl _)).call rfl lkX7_113 imX7_allow seX7_allow rfl (by exact ((bU_n (by omega)).trans (hS))) rfl rfl (by omega) (Nat.le_of_ble_eq_true rfl) dX7_truth_40 (fun v9 G9 h9 => ?_) (fun q9 G9 h9 => (by cases h9.1))
        obtain ⟨h8, rfl⟩ := h9; cases h8
        show bV O _ d 43 [(3, .ref (aA (cl x))), (0, .ref 32), (1, .int x), (2, .int v)] [.int 1] (bU (bU f (aA (cl x)) (.inr (0, [.int (a_do (an (cl x))), .int (a_ke (an (cl x))), .int (a_da (an (cl x))), .ref ((aA (cl x)) + 1), .int (a_gv (an (cl x))), .int (a_ch (an (cl x))), .int (a_rv (an (cl x))), .int (a_gn (an (cl x))), .int (a_ct (an (cl x))), .int (a_rt (an (cl x))), .int v]))) 32 (.inr (7, [.ref 33, .ref 38, .ref 40, .ref 41, .ref 42, .ref 43, .ref 44, .ref 45, .int (nI mc), .int (nI dc), .int (nI ac), .int (nI dfn), .int (nI td), .int 0, .int ft, .int pl])), n, s) _
        refine r_zreturn rfl (by first | decide +kernel | exact narZ _ | assumption) dX7_truth_43 ?_
        unfold s_truth
        try simp only []
        try (first | simp only [if_pos bA] | simp only [if_neg bA] | simp only [if_neg (Bool.eq_false_iff.mp bA)])
        try (first | simp only [if_pos c19] | simp only [if_neg c19] | simp only [if_neg (Bool.eq_false_iff.mp c19)])
        try (first | simp only [if_pos c25] | simp only [if_neg c25] | simp only [if_neg (Bool.eq_false_iff.mp c25)])
        exact pX_mk (by exact bU_s _ _ _) (hT.fr (fun q _ _ => (bU_n (by omega)).trans ((bU_n (by omega)).trans (rfl)))) (hW.fr (fun q _ _ => (bU_n (by omega)).trans ((bU_n (by omega)).trans (rfl)))) (hM.fr j1 (fun q _ => (bU_n (by omega)).trans ((bU_n (by omega)).trans (rfl)))) (hD.fr j2 (fun q _ => (bU_n (by omega)).trans ((bU_n (by omega)).trans (rfl)))) (hA.put j3 (inB_lt bA) ⟨(by exact ((bU_n (by omega)).trans (bU_s _ _ _))), (by exact ((bU_n (by omega)).trans (((bU_n (by omega)).trans ((hA.2.1 _ (inB_lt bA)).2)))))⟩ (fun q _ => (bU_n (by omega)).trans ((bU_n (by omega)).trans (rfl)))) (by exact ((bU_n (by decide)).trans (((bU_n (by omega)).trans (hI))))) (by obtain ⟨tk8, h8⟩ := hC; exact ⟨tk8, (bU_n (by omega)).trans ((bU_n (by omega)).trans (h8))⟩) (by exact ((bU_n (by decide)).trans (((bU_n (by omega)).trans (hF))))) (fun q _ => (bU_n (by omega)).trans ((bU_n (by omega)).trans (rfl))) (by omega) (by omega)
      · refine r_aload_n (n := 0) (i := 0) 1 rfl rfl dX7_truth_28 ?_
        refine r_iconst (v := 2) (by decide) dX7_truth_29 ?_
        refine p_callV (As := [.int 2]) (rest := []) (kX7_deny (O := O) (d := 0) (f := f) (n := n) (s := s) (ct_m := nI mc) (ct_d := nI dc) (ct_a := nI ac) (ct_f := nI dfn) (tday := nI td) (trb := tr) (flt := ft) (plc := pl) (x := 2) hS  (Nat.le_refl _)).call rfl lkX7_109 imX7_deny seX7_deny rfl hS rfl rfl (by omega) (Nat.le_of_ble_eq_true rfl) dX7_truth_30 (fun v9 G9 h9 => ?_) (fun q9 G9 h9 => (by cases h9.1))
        obtain ⟨h8, rfl⟩ := h9; cases h8
        show bV O _ d 33 [(3, .ref (aA (cl x))), (0, .ref 32), (1, .int x), (2, .int v)] [.int 0] (bU f 32 (.inr (7, [.ref 33, .ref 38, .ref 40, .ref 41, .ref 42, .ref 43, .ref 44, .ref 45, .int (nI mc), .int (nI dc), .int (nI ac), .int (nI dfn), .int (nI td), .int 2, .int ft, .int pl])), n, s) _
        refine r_zreturn rfl (by first | decide +kernel | exact narZ _ | assumption) dX7_truth_33 ?_
        unfold s_truth
        try simp only []
        try (first | simp only [if_pos bA] | simp only [if_neg bA] | simp only [if_neg (Bool.eq_false_iff.mp bA)])
        try (first | simp only [if_pos c19] | simp only [if_neg c19] | simp only [if_neg (Bool.eq_false_iff.mp c19)])
        try (first | simp only [if_pos c25] | simp only [if_neg c25] | simp only [if_neg (Bool.eq_false_iff.mp c25)])
        exact pX_mk (by exact bU_s _ _ _) (hT.fr (fun q _ _ => (bU_n (by omega)).trans (rfl))) (hW.fr (fun q _ _ => (bU_n (by omega)).trans (rfl))) (hM.fr j1 (fun q _ => (bU_n (by omega)).trans (rfl))) (hD.fr j2 (fun q _ => (bU_n (by omega)).trans (rfl))) (hA.fr j3 (fun q _ => (bU_n (by omega)).trans (rfl))) (by exact ((bU_n (by decide)).trans (hI))) (by obtain ⟨tk8, h8⟩ := hC; exact ⟨tk8, (bU_n (by omega)).trans (h8)⟩) (by exact ((bU_n (by decide)).trans (hF))) (fun q _ => (bU_n (by omega)).trans (rfl)) (by omega) (by omega)
  · rw [oAt_neg bA]
    show bV O _ d 5 [(0, .ref 32), (1, .int x), (2, .int v)] [.null] (f, n, s) _
    refine r_astore_nN (n := 3) (i := 3) (L' := [(3, .null), (0, .ref 32), (1, .int x), (2, .int v)]) rfl dX7_truth_5 (by decide) rfl ?_
    refine r_aload_nN (n := 3) (i := 3) 0 rfl rfl dX7_truth_6 ?_
    refine r_ifnonnullN dX7_truth_7 ?_
    refine r_aload_n (n := 0) (i := 0) 1 rfl rfl dX7_truth_10 ?_
    refine r_iconst (v := 1) (by decide) dX7_truth_11 ?_
    refine p_callV (As := [.int 1]) (rest := []) (kX7_deny (O := O) (d := 0) (f := f) (n := n) (s := s) (ct_m := nI mc) (ct_d := nI dc) (ct_a := nI ac) (ct_f := nI dfn) (tday := nI td) (trb := tr) (flt := ft) (plc := pl) (x := 1) hS  (Nat.le_refl _)).call rfl lkX7_109 imX7_deny seX7_deny rfl hS rfl rfl (by omega) (Nat.le_of_ble_eq_true rfl) dX7_truth_12 (fun v9 G9 h9 => ?_) (fun q9 G9 h9 => (by cases h9.1))
    obtain ⟨h8, rfl⟩ := h9; cases h8
    show bV O _ d 15 [(3, .null), (0, .ref 32), (1, .int x), (2, .int v)] [.int 0] (bU f 32 (.inr (7, [.ref 33, .ref 38, .ref 40, .ref 41, .ref 42, .ref 43, .ref 44, .ref 45, .int (nI mc), .int (nI dc), .int (nI ac), .int (nI dfn), .int (nI td), .int 1, .int ft, .int pl])), n, s) _
    refine r_zreturn rfl (by first | decide +kernel | exact narZ _ | assumption) dX7_truth_15 ?_
    unfold s_truth
    try simp only []
    try (first | simp only [if_pos bA] | simp only [if_neg bA] | simp only [if_neg (Bool.eq_false_iff.mp bA)])
    exact pX_mk (by exact bU_s _ _ _) (hT.fr (fun q _ _ => (bU_n (by omega)).trans (rfl))) (hW.fr (fun q _ _ => (bU_n (by omega)).trans (rfl))) (hM.fr j1 (fun q _ => (bU_n (by omega)).trans (rfl))) (hD.fr j2 (fun q _ => (bU_n (by omega)).trans (rfl))) (hA.fr j3 (fun q _ => (bU_n (by omega)).trans (rfl))) (by exact ((bU_n (by decide)).trans (hI))) (by obtain ⟨tk8, h8⟩ := hC; exact ⟨tk8, (bU_n (by omega)).trans (h8)⟩) (by exact ((bU_n (by decide)).trans (hF))) (fun q _ => (bU_n (by omega)).trans (rfl)) (by omega) (by omega)
set_option maxRecDepth 4000 in
theorem x_parts {O : bO} {d : Nat} {f : bF} {n s : Nat} {bs : Nat → Int32} {tl : Nat} {mc : Nat} {md : Nat → MR} {ip : Nat → Int32} {dc : Nat} {dr : Nat → DR} {ac : Nat} {an : Nat → AR} {hs : Bool} {sd : Nat → Int32} {df : Nat → Int32} {dfn : Nat} {td : Nat} {tr : Int32} {ft : Int32} {pl : Int32} {x : Int32} (hX : XR f (bs, tl, mc, md, ip, dc, dr, ac, an, hs, sd, df, dfn, td, tr, ft, pl)) (jX : JX (bs, tl, mc, md, ip, dc, dr, ac, an, hs, sd, df, dfn, td, tr, ft, pl))  (hd : 1 ≤ d) : bCall O mX7_parts d [.ref 32, .int x] (f, n, s) (pX f n s 0 0 (s_parts (bs, tl, mc, md, ip, dc, dr, ac, an, hs, sd, df, dfn, td, tr, ft, pl) x)) := by
  refine bCall_of (by decide) rfl (Nat.le_of_ble_eq_true rfl) ?_
  obtain ⟨hS, hT, hW, hM, hD, hA, hI, hC, hF⟩ := id hX
  obtain ⟨j1, j2, j3, j4, j5, j6, j7, j8⟩ := id jX
  simp only [] at hS hT hW hM hD hA hI hC hF j1 j2 j3 j4 j5 j6 j7 j8
  show bV O _ d 0 [(0, .ref 32), (1, .int x)] [] (f, n, s) _
  refine r_aload_n (n := 0) (i := 0) 0 rfl rfl dX7_parts_0 ?_
  refine r_iload_n (n := 1) (i := 1) 1 rfl rfl dX7_parts_1 ?_
  refine p_callV (As := [.int x]) (rest := []) (kX7_modelAt (O := O) (d := 0) (f := f) (n := n) (s := s) (ct_m := nI mc) (ct_d := nI dc) (ct_a := nI ac) (ct_f := nI dfn) (tday := nI td) (trb := tr) (flt := ft) (plc := pl) (x := x) (nn := mc) hS hM.1 (by first | assumption | omega | decide) (Nat.le_refl _)).call rfl lkX7_99 imX7_modelAt seX7_modelAt rfl hS rfl rfl (by omega) (Nat.le_of_ble_eq_true rfl) dX7_parts_2 (fun v9 G9 h9 => ?_) (fun q9 G9 h9 => (by cases h9.1))
  obtain ⟨h8, rfl⟩ := h9; cases h8
  by_cases bM : inB x mc = true
  · rw [oAt_pos bM]
    have b1bM := mA_b (Nat.lt_of_lt_of_le (inB_lt bM) j1)
    obtain ⟨mk1, mv1, m11, m21, m31, m41⟩ := hM.2.1 _ (inB_lt bM)
    show bV O _ d 5 [(0, .ref 32), (1, .int x)] [.ref (mA (cl x))] (f, n, s) _
    refine r_astore_n (n := 2) (i := 2) (L' := [(2, .ref (mA (cl x))), (0, .ref 32), (1, .int x)]) rfl dX7_parts_5 (by decide) rfl ?_
    refine r_aload_n (n := 2) (i := 2) 0 rfl rfl dX7_parts_6 ?_
    refine r_ifnonnull (tgt := 14) (by decide) dX7_parts_7 ?_
    refine r_aload_n (n := 2) (i := 2) 0 rfl rfl dX7_parts_14 ?_
    refine p_get (fs := [.ref ((mA (cl x)) + 1), .ref ((mA (cl x)) + 2), .int ((md (cl x)).2)]) flX7_103 m11 rfl dX7_parts_15 ?_
    refine p_alen2 (kd := 0) (n := (md (cl x)).1.length) (a := ((md (cl x)).1.length, .inl mk1)) rfl m21 rfl dX7_parts_18 ?_
    refine r_ireturn rfl dX7_parts_19 ?_
    unfold s_parts
    try simp only []
    try (first | simp only [if_pos bM] | simp only [if_neg bM] | simp only [if_neg (Bool.eq_false_iff.mp bM)])
    exact pX_mk (hS) (hT.fr (fun q _ _ => rfl)) (hW.fr (fun q _ _ => rfl)) (hM.fr j1 (fun q _ => rfl)) (hD.fr j2 (fun q _ => rfl)) (hA.fr j3 (fun q _ => rfl)) (hI) (by obtain ⟨tk8, h8⟩ := hC; exact ⟨tk8, h8⟩) (hF) (fun q _ => rfl) (by omega) (by omega)
  · rw [oAt_neg bM]
    show bV O _ d 5 [(0, .ref 32), (1, .int x)] [.null] (f, n, s) _
    refine r_astore_nN (n := 2) (i := 2) (L' := [(2, .null), (0, .ref 32), (1, .int x)]) rfl dX7_parts_5 (by decide) rfl ?_
    refine r_aload_nN (n := 2) (i := 2) 0 rfl rfl dX7_parts_6 ?_
    refine r_ifnonnullN dX7_parts_7 ?_
    refine r_iconst (v := (-1)) (by decide) dX7_parts_10 ?_
    refine r_goto (tgt := 19) (by decide) dX7_parts_11 ?_
    refine r_ireturn rfl dX7_parts_19 ?_
    unfold s_parts
    try simp only []
    try (first | simp only [if_pos bM] | simp only [if_neg bM] | simp only [if_neg (Bool.eq_false_iff.mp bM)])
    exact pX_mk (hS) (hT.fr (fun q _ _ => rfl)) (hW.fr (fun q _ _ => rfl)) (hM.fr j1 (fun q _ => rfl)) (hD.fr j2 (fun q _ => rfl)) (hA.fr j3 (fun q _ => rfl)) (hI) (by obtain ⟨tk8, h8⟩ := hC; exact ⟨tk8, h8⟩) (hF) (fun q _ => rfl) (by omega) (by omega)
set_option maxRecDepth 4000 in
theorem x_asks {O : bO} {d : Nat} {f : bF} {n s : Nat} {bs : Nat → Int32} {tl : Nat} {mc : Nat} {md : Nat → MR} {ip : Nat → Int32} {dc : Nat} {dr : Nat → DR} {ac : Nat} {an : Nat → AR} {hs : Bool} {sd : Nat → Int32} {df : Nat → Int32} {dfn : Nat} {td : Nat} {tr : Int32} {ft : Int32} {pl : Int32} {x : Int32} (hX : XR f (bs, tl, mc, md, ip, dc, dr, ac, an, hs, sd, df, dfn, td, tr, ft, pl)) (jX : JX (bs, tl, mc, md, ip, dc, dr, ac, an, hs, sd, df, dfn, td, tr, ft, pl))  (hd : 1 ≤ d) : bCall O mX7_asks d [.ref 32, .int x] (f, n, s) (pX f n s 0 0 (s_asks (bs, tl, mc, md, ip, dc, dr, ac, an, hs, sd, df, dfn, td, tr, ft, pl) x)) := by
  refine bCall_of (by decide) rfl (Nat.le_of_ble_eq_true rfl) ?_
  obtain ⟨hS, hT, hW, hM, hD, hA, hI, hC, hF⟩ := id hX
  obtain ⟨j1, j2, j3, j4, j5, j6, j7, j8⟩ := id jX
  simp only [] at hS hT hW hM hD hA hI hC hF j1 j2 j3 j4 j5 j6 j7 j8
  show bV O _ d 0 [(0, .ref 32), (1, .int x)] [] (f, n, s) _
  refine r_aload_n (n := 0) (i := 0) 0 rfl rfl dX7_asks_0 ?_
  refine r_iload_n (n := 1) (i := 1) 1 rfl rfl dX7_asks_1 ?_
  refine p_callV (As := [.int x]) (rest := []) (kX7_modelAt (O := O) (d := 0) (f := f) (n := n) (s := s) (ct_m := nI mc) (ct_d := nI dc) (ct_a := nI ac) (ct_f := nI dfn) (tday := nI td) (trb := tr) (flt := ft) (plc := pl) (x := x) (nn := mc) hS hM.1 (by first | assumption | omega | decide) (Nat.le_refl _)).call rfl lkX7_99 imX7_modelAt seX7_modelAt rfl hS rfl rfl (by omega) (Nat.le_of_ble_eq_true rfl) dX7_asks_2 (fun v9 G9 h9 => ?_) (fun q9 G9 h9 => (by cases h9.1))
  obtain ⟨h8, rfl⟩ := h9; cases h8
  by_cases bM : inB x mc = true
  · rw [oAt_pos bM]
    have b1bM := mA_b (Nat.lt_of_lt_of_le (inB_lt bM) j1)
    obtain ⟨mk1, mv1, m11, m21, m31, m41⟩ := hM.2.1 _ (inB_lt bM)
    show bV O _ d 5 [(0, .ref 32), (1, .int x)] [.ref (mA (cl x))] (f, n, s) _
    refine r_astore_n (n := 2) (i := 2) (L' := [(2, .ref (mA (cl x))), (0, .ref 32), (1, .int x)]) rfl dX7_asks_5 (by decide) rfl ?_
    refine r_aload_n (n := 2) (i := 2) 0 rfl rfl dX7_asks_6 ?_
    refine r_ifnonnull (tgt := 14) (by decide) dX7_asks_7 ?_
    refine r_aload_n (n := 2) (i := 2) 0 rfl rfl dX7_asks_14 ?_
    refine p_get (fs := [.ref ((mA (cl x)) + 1), .ref ((mA (cl x)) + 2), .int ((md (cl x)).2)]) flX7_106 m11 rfl dX7_asks_15 ?_
    refine r_ireturn rfl dX7_asks_18 ?_
    unfold s_asks
    try simp only []
    try (first | simp only [if_pos bM] | simp only [if_neg bM] | simp only [if_neg (Bool.eq_false_iff.mp bM)])
    exact pX_mk (hS) (hT.fr (fun q _ _ => rfl)) (hW.fr (fun q _ _ => rfl)) (hM.fr j1 (fun q _ => rfl)) (hD.fr j2 (fun q _ => rfl)) (hA.fr j3 (fun q _ => rfl)) (hI) (by obtain ⟨tk8, h8⟩ := hC; exact ⟨tk8, h8⟩) (hF) (fun q _ => rfl) (by omega) (by omega)
  · rw [oAt_neg bM]
    show bV O _ d 5 [(0, .ref 32), (1, .int x)] [.null] (f, n, s) _
    refine r_astore_nN (n := 2) (i := 2) (L' := [(2, .null), (0, .ref 32), (1, .int x)]) rfl dX7_asks_5 (by decide) rfl ?_
    refine r_aload_nN (n := 2) (i := 2) 0 rfl rfl dX7_asks_6 ?_
    refine r_ifnonnullN dX7_asks_7 ?_
    refine r_iconst (v := (-1)) (by decide) dX7_asks_10 ?_
    refine r_goto (tgt := 18) (by decide) dX7_asks_11 ?_
    refine r_ireturn rfl dX7_asks_18 ?_
    unfold s_asks
    try simp only []
    try (first | simp only [if_pos bM] | simp only [if_neg bM] | simp only [if_neg (Bool.eq_false_iff.mp bM)])
    exact pX_mk (hS) (hT.fr (fun q _ _ => rfl)) (hW.fr (fun q _ _ => rfl)) (hM.fr j1 (fun q _ => rfl)) (hD.fr j2 (fun q _ => rfl)) (hA.fr j3 (fun q _ => rfl)) (hI) (by obtain ⟨tk8, h8⟩ := hC; exact ⟨tk8, h8⟩) (hF) (fun q _ => rfl) (by omega) (by omega)
set_option maxRecDepth 4000 in
theorem x_tell {O : bO} {d : Nat} {f : bF} {n s : Nat} {bs : Nat → Int32} {tl : Nat} {mc : Nat} {md : Nat → MR} {ip : Nat → Int32} {dc : Nat} {dr : Nat → DR} {ac : Nat} {an : Nat → AR} {hs : Bool} {sd : Nat → Int32} {df : Nat → Int32} {dfn : Nat} {td : Nat} {tr : Int32} {ft : Int32} {pl : Int32} {x : Int32} (hX : XR f (bs, tl, mc, md, ip, dc, dr, ac, an, hs, sd, df, dfn, td, tr, ft, pl)) (jX : JX (bs, tl, mc, md, ip, dc, dr, ac, an, hs, sd, df, dfn, td, tr, ft, pl))  (hd : 4 ≤ d) : bCall O mX7_tell d [.ref 32, .int x] (f, n, s) (pX f n s 0 0 (s_tell (bs, tl, mc, md, ip, dc, dr, ac, an, hs, sd, df, dfn, td, tr, ft, pl) x)) := by
  refine bCall_of (by decide) rfl (Nat.le_of_ble_eq_true rfl) ?_
  obtain ⟨hS, hT, hW, hM, hD, hA, hI, hC, hF⟩ := id hX
  obtain ⟨j1, j2, j3, j4, j5, j6, j7, j8⟩ := id jX
  simp only [] at hS hT hW hM hD hA hI hC hF j1 j2 j3 j4 j5 j6 j7 j8
  obtain ⟨g9, h38, h39⟩ := id hW
  show bV O _ d 0 [(0, .ref 32), (1, .int x)] [] (f, n, s) _
  refine r_aload_n (n := 0) (i := 0) 0 rfl rfl dX7_tell_0 ?_
  refine r_iload_n (n := 1) (i := 1) 1 rfl rfl dX7_tell_1 ?_
  refine p_callV (As := [.int x]) (rest := []) (kX7_modelAt (O := O) (d := 0) (f := f) (n := n) (s := s) (ct_m := nI mc) (ct_d := nI dc) (ct_a := nI ac) (ct_f := nI dfn) (tday := nI td) (trb := tr) (flt := ft) (plc := pl) (x := x) (nn := mc) hS hM.1 (by first | assumption | omega | decide) (Nat.le_refl _)).call rfl lkX7_99 imX7_modelAt seX7_modelAt rfl hS rfl rfl (by omega) (Nat.le_of_ble_eq_true rfl) dX7_tell_2 (fun v9 G9 h9 => ?_) (fun q9 G9 h9 => (by cases h9.1))
  obtain ⟨h8, rfl⟩ := h9; cases h8
  by_cases bM : inB x mc = true
  · rw [oAt_pos bM]
    have b1bM := mA_b (Nat.lt_of_lt_of_le (inB_lt bM) j1)
    obtain ⟨mk1, mv1, m11, m21, m31, m41⟩ := hM.2.1 _ (inB_lt bM)
    show bV O _ d 5 [(0, .ref 32), (1, .int x)] [.ref (mA (cl x))] (f, n, s) _
    refine r_astore_n (n := 2) (i := 2) (L' := [(2, .ref (mA (cl x))), (0, .ref 32), (1, .int x)]) rfl dX7_tell_5 (by decide) rfl ?_
    refine r_aload_n (n := 2) (i := 2) 0 rfl rfl dX7_tell_6 ?_
    refine r_ifnonnull (tgt := 18) (by decide) dX7_tell_7 ?_
    refine r_aload_n (n := 0) (i := 0) 1 rfl rfl dX7_tell_18 ?_
    refine r_aload_n (n := 0) (i := 0) 1 rfl rfl dX7_tell_19 ?_
    refine p_get (fs := [.ref 33, .ref 38, .ref 40, .ref 41, .ref 42, .ref 43, .ref 44, .ref 45, .int (nI mc), .int (nI dc), .int (nI ac), .int (nI dfn), .int (nI td), .int tr, .int ft, .int pl]) flX7_21 hS rfl dX7_tell_20 ?_
    refine r_aload_n (n := 2) (i := 2) 0 rfl rfl dX7_tell_23 ?_
    refine r_aload_n (n := 0) (i := 0) 1 rfl rfl dX7_tell_24 ?_
    refine p_get (fs := [.ref 33, .ref 38, .ref 40, .ref 41, .ref 42, .ref 43, .ref 44, .ref 45, .int (nI mc), .int (nI dc), .int (nI ac), .int (nI dfn), .int (nI td), .int tr, .int ft, .int pl]) flX7_43 hS rfl dX7_tell_25 ?_
    refine p_callV (As := [.ref (mA (cl x)), .ref 43]) (rest := [.ref 32]) (kX6_work (O := O) (d := 3) (f := f) (n := n) (s := s) (N := (md (cl x)).1.length) (mk := (mA (cl x)) + 1) (mv := (mA (cl x)) + 2) (mo := mA (cl x)) (r := 43) (b := (md (cl x)).2) (ks := mk1) (vs := mv1) (ip := ip) (g := g9) (c := (md (cl x)).1) h38 m11 m21 m31 hI h39 (j7 _ (inB_lt bM)).2.2.1 (by omega) (by omega) (by omega) m41 rfl (j7 _ (inB_lt bM)).1 (j7 _ (inB_lt bM)).2.1 (Nat.le_refl _)).call rfl lkX7_118 imX6_work seX6_work rfl h38 rfl rfl (by omega) (Nat.le_of_ble_eq_true rfl) dX7_tell_28 (fun v9 G9 h9 => ?_) (fun q9 G9 h9 => (by cases h9.1))
    obtain ⟨h8, rfl⟩ := h9; cases h8
    show bV O _ d 31 [(2, .ref (mA (cl x))), (0, .ref 32), (1, .int x)] [.int ((rn ip ((md (cl x)).1) (g9, 0)).1 0), .ref 32] (bU f 39 (.inl (0, 60, .inl ((rn ip ((md (cl x)).1) (g9, 0)).1))), n, s) _
    refine p_callV (As := [.int ((rn ip ((md (cl x)).1) (g9, 0)).1 0)]) (rest := []) (kX7_grant (O := O) (d := 0) (f := bU f 39 (.inl (0, 60, .inl ((rn ip ((md (cl x)).1) (g9, 0)).1)))) (n := n) (s := s) (ct_m := nI mc) (ct_d := nI dc) (ct_a := nI ac) (ct_f := nI dfn) (tday := nI td) (trb := tr) (flt := ft) (plc := pl) (x := (rn ip ((md (cl x)).1) (g9, 0)).1 0) (by exact ((bU_n (by decide)).trans (hS)))  (Nat.le_refl _)).call rfl lkX7_93 imX7_grant seX7_grant rfl (by exact ((bU_n (by decide)).trans (hS))) rfl rfl (by omega) (Nat.le_of_ble_eq_true rfl) dX7_tell_31 (fun v9 G9 h9 => ?_) (fun q9 G9 h9 => (by cases h9.1))
    obtain ⟨h8, rfl⟩ := h9; cases h8
    show bV O _ d 34 [(2, .ref (mA (cl x))), (0, .ref 32), (1, .int x)] [.int ((rn ip ((md (cl x)).1) (g9, 0)).1 0)] (bU (bU f 39 (.inl (0, 60, .inl ((rn ip ((md (cl x)).1) (g9, 0)).1)))) 32 (.inr (7, [.ref 33, .ref 38, .ref 40, .ref 41, .ref 42, .ref 43, .ref 44, .ref 45, .int (nI mc), .int (nI dc), .int (nI ac), .int (nI dfn), .int (nI td), .int 0, .int ft, .int pl])), n, s) _
    refine r_ireturn rfl dX7_tell_34 ?_
    try rw [(j7 _ (inB_lt bM)).2.2.2 ip g9]
    unfold s_tell
    try simp only []
    try (first | simp only [if_pos bM] | simp only [if_neg bM] | simp only [if_neg (Bool.eq_false_iff.mp bM)])
    exact pX_mk (by exact bU_s _ _ _) (hT.fr (fun q _ _ => (bU_n (by omega)).trans ((bU_n (by omega)).trans (rfl)))) (⟨_, (by exact ((bU_n (by decide)).trans (((bU_n (by decide)).trans (h38))))), (by exact ((bU_n (by decide)).trans (bU_s _ _ _)))⟩) (hM.fr j1 (fun q _ => (bU_n (by omega)).trans ((bU_n (by omega)).trans (rfl)))) (hD.fr j2 (fun q _ => (bU_n (by omega)).trans ((bU_n (by omega)).trans (rfl)))) (hA.fr j3 (fun q _ => (bU_n (by omega)).trans ((bU_n (by omega)).trans (rfl)))) (by exact ((bU_n (by decide)).trans (((bU_n (by decide)).trans (hI))))) (by obtain ⟨tk8, h8⟩ := hC; exact ⟨tk8, (bU_n (by omega)).trans ((bU_n (by omega)).trans (h8))⟩) (by exact ((bU_n (by decide)).trans (((bU_n (by decide)).trans (hF))))) (fun q _ => (bU_n (by omega)).trans ((bU_n (by omega)).trans (rfl))) (by omega) (by omega)
  · rw [oAt_neg bM]
    show bV O _ d 5 [(0, .ref 32), (1, .int x)] [.null] (f, n, s) _
    refine r_astore_nN (n := 2) (i := 2) (L' := [(2, .null), (0, .ref 32), (1, .int x)]) rfl dX7_tell_5 (by decide) rfl ?_
    refine r_aload_nN (n := 2) (i := 2) 0 rfl rfl dX7_tell_6 ?_
    refine r_ifnonnullN dX7_tell_7 ?_
    refine r_aload_n (n := 0) (i := 0) 1 rfl rfl dX7_tell_10 ?_
    refine r_iconst (v := 1) (by decide) dX7_tell_11 ?_
    refine p_put (fs := [.ref 33, .ref 38, .ref 40, .ref 41, .ref 42, .ref 43, .ref 44, .ref 45, .int (nI mc), .int (nI dc), .int (nI ac), .int (nI dfn), .int (nI td), .int tr, .int ft, .int pl]) (fs' := [.ref 33, .ref 38, .ref 40, .ref 41, .ref 42, .ref 43, .ref 44, .ref 45, .int (nI mc), .int (nI dc), .int (nI ac), .int (nI dfn), .int (nI td), .int 1, .int ft, .int pl]) flX7_96 hS (Nat.le_of_ble_eq_true rfl) (bNf_i _) rfl dX7_tell_12 ?_
    refine r_ldc ckX7_117 dX7_tell_15 ?_
    refine r_ireturn rfl dX7_tell_17 ?_
    try rw [(j7 _ (inB_lt bM)).2.2.2 ip g9]
    unfold s_tell
    try simp only []
    try (first | simp only [if_pos bM] | simp only [if_neg bM] | simp only [if_neg (Bool.eq_false_iff.mp bM)])
    exact pX_mk (by exact bU_s _ _ _) (hT.fr (fun q _ _ => (bU_n (by omega)).trans (rfl))) (hW.fr (fun q _ _ => (bU_n (by omega)).trans (rfl))) (hM.fr j1 (fun q _ => (bU_n (by omega)).trans (rfl))) (hD.fr j2 (fun q _ => (bU_n (by omega)).trans (rfl))) (hA.fr j3 (fun q _ => (bU_n (by omega)).trans (rfl))) (by exact ((bU_n (by decide)).trans (hI))) (by obtain ⟨tk8, h8⟩ := hC; exact ⟨tk8, (bU_n (by omega)).trans (h8)⟩) (by exact ((bU_n (by decide)).trans (hF))) (fun q _ => (bU_n (by omega)).trans (rfl)) (by omega) (by omega)
set_option maxRecDepth 4000 in
theorem x_again {O : bO} {d : Nat} {f : bF} {n s : Nat} {bs : Nat → Int32} {tl : Nat} {mc : Nat} {md : Nat → MR} {ip : Nat → Int32} {dc : Nat} {dr : Nat → DR} {ac : Nat} {an : Nat → AR} {hs : Bool} {sd : Nat → Int32} {df : Nat → Int32} {dfn : Nat} {td : Nat} {tr : Int32} {ft : Int32} {pl : Int32} {x : Int32} {m : Int32} (hX : XR f (bs, tl, mc, md, ip, dc, dr, ac, an, hs, sd, df, dfn, td, tr, ft, pl)) (jX : JX (bs, tl, mc, md, ip, dc, dr, ac, an, hs, sd, df, dfn, td, tr, ft, pl))  (hd : 4 ≤ d) : bCall O mX7_again d [.ref 32, .int x, .int m] (f, n, s) (pX f n s 0 0 (s_again (bs, tl, mc, md, ip, dc, dr, ac, an, hs, sd, df, dfn, td, tr, ft, pl) x m)) := by
  refine bCall_of (by decide) rfl (Nat.le_of_ble_eq_true rfl) ?_
  obtain ⟨hS, hT, hW, hM, hD, hA, hI, hC, hF⟩ := id hX
  obtain ⟨j1, j2, j3, j4, j5, j6, j7, j8⟩ := id jX
  simp only [] at hS hT hW hM hD hA hI hC hF j1 j2 j3 j4 j5 j6 j7 j8
  obtain ⟨g9, h38, h39⟩ := id hW
  show bV O _ d 0 [(0, .ref 32), (1, .int x), (2, .int m)] [] (f, n, s) _
  refine r_aload_n (n := 0) (i := 0) 0 rfl rfl dX7_again_0 ?_
  refine r_iload_n (n := 1) (i := 1) 1 rfl rfl dX7_again_1 ?_
  refine p_callV (As := [.int x]) (rest := []) (kX7_answerAt (O := O) (d := 0) (f := f) (n := n) (s := s) (ct_m := nI mc) (ct_d := nI dc) (ct_a := nI ac) (ct_f := nI dfn) (tday := nI td) (trb := tr) (flt := ft) (plc := pl) (x := x) (nn := ac) hS hA.1 (by first | assumption | omega | decide) (Nat.le_refl _)).call rfl lkX7_195 imX7_answerAt seX7_answerAt rfl hS rfl rfl (by omega) (Nat.le_of_ble_eq_true rfl) dX7_again_2 (fun v9 G9 h9 => ?_) (fun q9 G9 h9 => (by cases h9.1))
  obtain ⟨h8, rfl⟩ := h9; cases h8
  by_cases bA : inB x ac = true
  · rw [oAt_pos bA]
    have b1bA := aA_b (Nat.lt_of_lt_of_le (inB_lt bA) j3)
    show bV O _ d 5 [(0, .ref 32), (1, .int x), (2, .int m)] [.ref (aA (cl x))] (f, n, s) _
    refine r_astore_n (n := 3) (i := 3) (L' := [(3, .ref (aA (cl x))), (0, .ref 32), (1, .int x), (2, .int m)]) rfl dX7_again_5 (by decide) rfl ?_
    refine r_aload_n (n := 0) (i := 0) 1 rfl rfl dX7_again_6 ?_
    refine r_iload_n (n := 2) (i := 2) 3 rfl rfl dX7_again_7 ?_
    refine p_callV (As := [.int m]) (rest := []) (kX7_modelAt (O := O) (d := 0) (f := f) (n := n) (s := s) (ct_m := nI mc) (ct_d := nI dc) (ct_a := nI ac) (ct_f := nI dfn) (tday := nI td) (trb := tr) (flt := ft) (plc := pl) (x := m) (nn := mc) hS hM.1 (by first | assumption | omega | decide) (Nat.le_refl _)).call rfl lkX7_99 imX7_modelAt seX7_modelAt rfl hS rfl rfl (by omega) (Nat.le_of_ble_eq_true rfl) dX7_again_8 (fun v9 G9 h9 => ?_) (fun q9 G9 h9 => (by cases h9.1))
    obtain ⟨h8, rfl⟩ := h9; cases h8
    by_cases bM : inB m mc = true
    · rw [oAt_pos bM]
      have b1bM := mA_b (Nat.lt_of_lt_of_le (inB_lt bM) j1)
      obtain ⟨mk1, mv1, m11, m21, m31, m41⟩ := hM.2.1 _ (inB_lt bM)
      show bV O _ d 11 [(3, .ref (aA (cl x))), (0, .ref 32), (1, .int x), (2, .int m)] [.ref (mA (cl m))] (f, n, s) _
      refine r_astore (i := 4) (L' := [(4, .ref (mA (cl m))), (3, .ref (aA (cl x))), (0, .ref 32), (1, .int x), (2, .int m)]) dX7_again_11 (by decide) rfl ?_
      refine r_aload_n (n := 3) (i := 3) 1 rfl rfl dX7_again_13 ?_
      refine r_ifnull dX7_again_14 ?_
      refine r_aload (i := 4) 0 rfl dX7_again_17 ?_
      refine r_ifnonnull (tgt := 30) (by decide) dX7_again_19 ?_
      refine r_aload_n (n := 0) (i := 0) 2 rfl rfl dX7_again_30 ?_
      refine r_aload_n (n := 0) (i := 0) 2 rfl rfl dX7_again_31 ?_
      refine p_get (fs := [.ref 33, .ref 38, .ref 40, .ref 41, .ref 42, .ref 43, .ref 44, .ref 45, .int (nI mc), .int (nI dc), .int (nI ac), .int (nI dfn), .int (nI td), .int tr, .int ft, .int pl]) flX7_21 hS rfl dX7_again_32 ?_
      refine r_aload (i := 4) 0 rfl dX7_again_35 ?_
      refine r_aload_n (n := 3) (i := 3) 1 rfl rfl dX7_again_37 ?_
      refine p_get (fs := [.int (a_do (an (cl x))), .int (a_ke (an (cl x))), .int (a_da (an (cl x))), .ref ((aA (cl x)) + 1), .int (a_gv (an (cl x))), .int (a_ch (an (cl x))), .int (a_rv (an (cl x))), .int (a_gn (an (cl x))), .int (a_ct (an (cl x))), .int (a_rt (an (cl x))), .int (a_tr (an (cl x)))]) flX7_225 (by exact (hA.2.1 _ (inB_lt bA)).1) rfl dX7_again_38 ?_
      refine p_callV (As := [.ref (mA (cl m)), .ref ((aA (cl x)) + 1)]) (rest := [.ref 32]) (kX6_work (O := O) (d := 3) (f := f) (n := n) (s := s) (N := (md (cl m)).1.length) (mk := (mA (cl m)) + 1) (mv := (mA (cl m)) + 2) (mo := mA (cl m)) (r := (aA (cl x)) + 1) (b := (md (cl m)).2) (ks := mk1) (vs := mv1) (ip := a_in (an (cl x))) (g := g9) (c := (md (cl m)).1) h38 m11 m21 m31 (by exact (hA.2.1 _ (inB_lt bA)).2) h39 (j7 _ (inB_lt bM)).2.2.1 (by omega) (by omega) (by omega) m41 rfl (j7 _ (inB_lt bM)).1 (j7 _ (inB_lt bM)).2.1 (Nat.le_refl _)).call rfl lkX7_118 imX6_work seX6_work rfl h38 rfl rfl (by omega) (Nat.le_of_ble_eq_true rfl) dX7_again_41 (fun v9 G9 h9 => ?_) (fun q9 G9 h9 => (by cases h9.1))
      obtain ⟨h8, rfl⟩ := h9; cases h8
      show bV O _ d 44 [(4, .ref (mA (cl m))), (3, .ref (aA (cl x))), (0, .ref 32), (1, .int x), (2, .int m)] [.int ((rn (a_in (an (cl x))) ((md (cl m)).1) (g9, 0)).1 0), .ref 32] (bU f 39 (.inl (0, 60, .inl ((rn (a_in (an (cl x))) ((md (cl m)).1) (g9, 0)).1))), n, s) _
      refine p_callV (As := [.int ((rn (a_in (an (cl x))) ((md (cl m)).1) (g9, 0)).1 0)]) (rest := []) (kX7_grant (O := O) (d := 0) (f := bU f 39 (.inl (0, 60, .inl ((rn (a_in (an (cl x))) ((md (cl m)).1) (g9, 0)).1)))) (n := n) (s := s) (ct_m := nI mc) (ct_d := nI dc) (ct_a := nI ac) (ct_f := nI dfn) (tday := nI td) (trb := tr) (flt := ft) (plc := pl) (x := (rn (a_in (an (cl x))) ((md (cl m)).1) (g9, 0)).1 0) (by exact ((bU_n (by decide)).trans (hS)))  (Nat.le_refl _)).call rfl lkX7_93 imX7_grant seX7_grant rfl (by exact ((bU_n (by decide)).trans (hS))) rfl rfl (by omega) (Nat.le_of_ble_eq_true rfl) dX7_again_44 (fun v9 G9 h9 => ?_) (fun q9 G9 h9 => (by cases h9.1))
      obtain ⟨h8, rfl⟩ := h9; cases h8
      show bV O _ d 47 [(4, .ref (mA (cl m))), (3, .ref (aA (cl x))), (0, .ref 32), (1, .int x), (2, .int m)] [.int ((rn (a_in (an (cl x))) ((md (cl m)).1) (g9, 0)).1 0)] (bU (bU f 39 (.inl (0, 60, .inl ((rn (a_in (an (cl x))) ((md (cl m)).1) (g9, 0)).1)))) 32 (.inr (7, [.ref 33, .ref 38, .ref 40, .ref 41, .ref 42, .ref 43, .ref 44, .ref 45, .int (nI mc), .int (nI dc), .int (nI ac), .int (nI dfn), .int (nI td), .int 0, .int ft, .int pl])), n, s) _
      refine r_ireturn rfl dX7_again_47 ?_
      try rw [(j7 _ (inB_lt bM)).2.2.2 (a_in (an (cl x))) g9]
      unfold s_again
      try simp only []
      try (first | simp only [if_pos bA] | simp only [if_neg bA] | simp only [if_neg (Bool.eq_false_iff.mp bA)])
      try (first | simp only [if_pos bM] | simp only [if_neg bM] | simp only [if_neg (Bool.eq_false_iff.mp bM)])
      exact pX_mk (by exact bU_s _ _ _) (hT.fr (fun q _ _ => (bU_n (by omega)).trans ((bU_n (by omega)).trans (rfl)))) (⟨_, (by exact ((bU_n (by decide)).trans (((bU_n (by decide)).trans (h38))))), (by exact ((bU_n (by decide)).trans (bU_s _ _ _)))⟩) (hM.fr j1 (fun q _ => (bU_n (by omega)).trans ((bU_n (by omega)).trans (rfl)))) (hD.fr j2 (fun q _ => (bU_n (by omega)).trans ((bU_n (by omega)).trans (rfl)))) (hA.fr j3 (fun q _ => (bU_n (by omega)).trans ((bU_n (by omega)).trans (rfl)))) (by exact ((bU_n (by decide)).trans (((bU_n (by decide)).trans (hI))))) (by obtain ⟨tk8, h8⟩ := hC; exact ⟨tk8, (bU_n (by omega)).trans ((bU_n (by omega)).trans (h8))⟩) (by exact ((bU_n (by decide)).trans (((bU_n (by decide)).trans (hF))))) (fun q _ => (bU_n (by omega)).trans ((bU_n (by omega)).trans (rfl))) (by omega) (by omega)
    · rw [oAt_neg bM]
      show bV O _ d 11 [(3, .ref (aA (cl x))), (0, .ref 32), (1, .int x), (2, .int m)] [.null] (f, n, s) _
      refine r_astoreN (i := 4) (L' := [(4, .null), (3, .ref (aA (cl x))), (0, .ref 32), (1, .int x), (2, .int m)]) dX7_again_11 (by decide) rfl ?_
      refine r_aload_n (n := 3) (i := 3) 1 rfl rfl dX7_again_13 ?_
      refine r_ifnull dX7_again_14 ?_
      refine r_aloadN (i := 4) 0 rfl dX7_again_17 ?_
      refine r_ifnonnullN dX7_again_19 ?_
      refine r_aload_n (n := 0) (i := 0) 2 rfl rfl dX7_again_22 ?_
      refine r_iconst (v := 1) (by decide) dX7_again_23 ?_
      refine p_put (fs := [.ref 33, .ref 38, .ref 40, .ref 41, .ref 42, .ref 43, .ref 44, .ref 45, .int (nI mc), .int (nI dc), .int (nI ac), .int (nI dfn), .int (nI td), .int tr, .int ft, .int pl]) (fs' := [.ref 33, .ref 38, .ref 40, .ref 41, .ref 42, .ref 43, .ref 44, .ref 45, .int (nI mc), .int (nI dc), .int (nI ac), .int (nI dfn), .int (nI td), .int 1, .int ft, .int pl]) flX7_96 hS (Nat.le_of_ble_eq_true rfl) (bNf_i _) rfl dX7_again_24 ?_
      refine r_ldc ckX7_117 dX7_again_27 ?_
      refine r_ireturn rfl dX7_again_29 ?_
      try rw [(j7 _ (inB_lt bM)).2.2.2 (a_in (an (cl x))) g9]
      unfold s_again
      try simp only []
      try (first | simp only [if_pos bA] | simp only [if_neg bA] | simp only [if_neg (Bool.eq_false_iff.mp bA)])
      try (first | simp only [if_pos bM] | simp only [if_neg bM] | simp only [if_neg (Bool.eq_false_iff.mp bM)])
      exact pX_mk (by exact bU_s _ _ _) (hT.fr (fun q _ _ => (bU_n (by omega)).trans (rfl))) (hW.fr (fun q _ _ => (bU_n (by omega)).trans (rfl))) (hM.fr j1 (fun q _ => (bU_n (by omega)).trans (rfl))) (hD.fr j2 (fun q _ => (bU_n (by omega)).trans (rfl))) (hA.fr j3 (fun q _ => (bU_n (by omega)).trans (rfl))) (by exact ((bU_n (by decide)).trans (hI))) (by obtain ⟨tk8, h8⟩ := hC; exact ⟨tk8, (bU_n (by omega)).trans (h8)⟩) (by exact ((bU_n (by decide)).trans (hF))) (fun q _ => (bU_n (by omega)).trans (rfl)) (by omega) (by omega)
  · rw [oAt_neg bA]
    show bV O _ d 5 [(0, .ref 32), (1, .int x), (2, .int m)] [.null] (f, n, s) _
    refine r_astore_nN (n := 3) (i := 3) (L' := [(3, .null), (0, .ref 32), (1, .int x), (2, .int m)]) rfl dX7_again_5 (by decide) rfl ?_
    refine r_aload_n (n := 0) (i := 0) 1 rfl rfl dX7_again_6 ?_
    refine r_iload_n (n := 2) (i := 2) 3 rfl rfl dX7_again_7 ?_
    refine p_callV (As := [.int m]) (rest := []) (kX7_modelAt (O := O) (d := 0) (f := f) (n := n) (s := s) (ct_m := nI mc) (ct_d := nI dc) (ct_a := nI ac) (ct_f := nI dfn) (tday := nI td) (trb := tr) (flt := ft) (plc := pl) (x := m) (nn := mc) hS hM.1 (by first | assumption | omega | decide) (Nat.le_refl _)).call rfl lkX7_99 imX7_modelAt seX7_modelAt rfl hS rfl rfl (by omega) (Nat.le_of_ble_eq_true rfl) dX7_again_8 (fun v9 G9 h9 => ?_) (fun q9 G9 h9 => (by cases h9.1))
    obtain ⟨h8, rfl⟩ := h9; cases h8
    by_cases bM : inB m mc = true
    · rw [oAt_pos bM]
      have b1bM := mA_b (Nat.lt_of_lt_of_le (inB_lt bM) j1)
      obtain ⟨mk1, mv1, m11, m21, m31, m41⟩ := hM.2.1 _ (inB_lt bM)
      show bV O _ d 11 [(3, .null), (0, .ref 32), (1, .int x), (2, .int m)] [.ref (mA (cl m))] (f, n, s) _
      refine r_astore (i := 4) (L' := [(4, .ref (mA (cl m))), (3, .null), (0, .ref 32), (1, .int x), (2, .int m)]) dX7_again_11 (by decide) rfl ?_
      refine r_aload_nN (n := 3) (i := 3) 1 rfl rfl dX7_again_13 ?_
      refine r_ifnullN (tgt := 22) (by decide) dX7_again_14 ?_
      refine r_aload_n (n := 0) (i := 0) 2 rfl rfl dX7_again_22 ?_
      refine r_iconst (v := 1) (by decide) dX7_again_23 ?_
      refine p_put (fs := [.ref 33, .ref 38, .ref 40, .ref 41, .ref 42, .ref 43, .ref 44, .ref 45, .int (nI mc), .int (nI dc), .int (nI ac), .int (nI dfn), .int (nI td), .int tr, .int ft, .int pl]) (fs' := [.ref 33, .ref 38, .ref 40, .ref 41, .ref 42, .ref 43, .ref 44, .ref 45, .int (nI mc), .int (nI dc), .int (nI ac), .int (nI dfn), .int (nI td), .int 1, .int ft, .int pl]) flX7_96 hS (Nat.le_of_ble_eq_true rfl) (bNf_i _) rfl dX7_again_24 ?_
      refine r_ldc ckX7_117 dX7_again_27 ?_
      refine r_ireturn rfl dX7_again_29 ?_
      try rw [(j7 _ (inB_lt bM)).2.2.2 (a_in (an (cl x))) g9]
      unfold s_again
      try simp only []
      try (first | simp only [if_pos bA] | simp only [if_neg bA] | simp only [if_neg (Bool.eq_false_iff.mp bA)])
      try (first | simp only [if_pos bM] | simp only [if_neg bM] | simp only [if_neg (Bool.eq_false_iff.mp bM)])
      exact pX_mk (by exact bU_s _ _ _) (hT.fr (fun q _ _ => (bU_n (by omega)).trans (rfl))) (hW.fr (fun q _ _ => (bU_n (by omega)).trans (rfl))) (hM.fr j1 (fun q _ => (bU_n (by omega)).trans (rfl))) (hD.fr j2 (fun q _ => (bU_n (by omega)).trans (rfl))) (hA.fr j3 (fun q _ => (bU_n (by omega)).trans (rfl))) (by exact ((bU_n (by decide)).trans (hI))) (by obtain ⟨tk8, h8⟩ := hC; exact ⟨tk8, (bU_n (by omega)).trans (h8)⟩) (by exact ((bU_n (by decide)).trans (hF))) (fun q _ => (bU_n (by omega)).trans (rfl)) (by omega) (by omega)
    · rw [oAt_neg bM]
      show bV O _ d 11 [(3, .null), (0, .ref 32), (1, .int x), (2, .int m)] [.null] (f, n, s) _
      refine r_astoreN (i := 4) (L' := [(4, .null), (3, .null), (0, .ref 32), (1, .int x), (2, .int m)]) dX7_again_11 (by decide) rfl ?_
      refine r_aload_nN (n := 3) (i := 3) 1 rfl rfl dX7_again_13 ?_
      refine r_ifnullN (tgt := 22) (by decide) dX7_again_14 ?_
      refine r_aload_n (n := 0) (i := 0) 2 rfl rfl dX7_again_22 ?_
      refine r_iconst (v := 1) (by decide) dX7_again_23 ?_
      refine p_put (fs := [.ref 33, .ref 38, .ref 40, .ref 41, .ref 42, .ref 43, .ref 44, .ref 45, .int (nI mc), .int (nI dc), .int (nI ac), .int (nI dfn), .int (nI td), .int tr, .int ft, .int pl]) (fs' := [.ref 33, .ref 38, .ref 40, .ref 41, .ref 42, .ref 43, .ref 44, .ref 45, .int (nI mc), .int (nI dc), .int (nI ac), .int (nI dfn), .int (nI td), .int 1, .int ft, .int pl]) flX7_96 hS (Nat.le_of_ble_eq_true rfl) (bNf_i _) rfl dX7_again_24 ?_
      refine r_ldc ckX7_117 dX7_again_27 ?_
      refine r_ireturn rfl dX7_again_29 ?_
      try rw [(j7 _ (inB_lt bM)).2.2.2 (a_in (an (cl x))) g9]
      unfold s_again
      try simp only []
      try (first | simp only [if_pos bA] | simp only [if_neg bA] | simp only [if_neg (Bool.eq_false_iff.mp bA)])
      try (first | simp only [if_pos bM] | simp only [if_neg bM] | simp only [if_neg (Bool.eq_false_iff.mp bM)])
      exact pX_mk (by exact bU_s _ _ _) (hT.fr (fun q _ _ => (bU_n (by omega)).trans (rfl))) (hW.fr (fun q _ _ => (bU_n (by omega)).trans (rfl))) (hM.fr j1 (fun q _ => (bU_n (by omega)).trans (rfl))) (hD.fr j2 (fun q _ => (bU_n (by omega)).trans (rfl))) (hA.fr j3 (fun q _ => (bU_n (by omega)).trans (rfl))) (by exact ((bU_n (by decide)).trans (hI))) (by obtain ⟨tk8, h8⟩ := hC; exact ⟨tk8, (bU_n (by omega)).trans (h8)⟩) (by exact ((bU_n (by decide)).trans (hF))) (fun q _ => (bU_n (by omega)).trans (rfl)) (by omega) (by omega)
set_option maxRecDepth 4000 in
theorem x_crown {O : bO} {d : Nat} {f : bF} {n s : Nat} {bs : Nat → Int32} {tl : Nat} {mc : Nat} {md : Nat → MR} {ip : Nat → Int32} {dc : Nat} {dr : Nat → DR} {ac : Nat} {an : Nat → AR} {hs : Bool} {sd : Nat → Int32} {df : Nat → Int32} {dfn : Nat} {td : Nat} {tr : Int32} {ft : Int32} {pl : Int32} {x : Int32} {m : Int32} (hX : XR f (bs, tl, mc, md, ip, dc, dr, ac, an, hs, sd, df, dfn, td, tr, ft, pl)) (jX : JX (bs, tl, mc, md, ip, dc, dr, ac, an, hs, sd, df, dfn, td, tr, ft, pl))  (hd : 2 ≤ d) : bCall O mX7_crown d [.ref 32, .int x, .int m] (f, n, s) (pX f n s 0 0 (s_crown (bs, tl, mc, md, ip, dc, dr, ac, an, hs, sd, df, dfn, td, tr, ft, pl) x m)) := by
  refine bCall_of (by decide) rfl (Nat.le_of_ble_eq_true rfl) ?_
  obtain ⟨hS, hT, hW, hM, hD, hA, hI, hC, hF⟩ := id hX
  obtain ⟨j1, j2, j3, j4, j5, j6, j7, j8⟩ := id jX
  simp only [] at hS hT hW hM hD hA hI hC hF j1 j2 j3 j4 j5 j6 j7 j8
  show bV O _ d 0 [(0, .ref 32), (1, .int x), (2, .int m)] [] (f, n, s) _
  refine r_aload_n (n := 0) (i := 0) 0 rfl rfl dX7_crown_0 ?_
  refine r_iload_n (n := 1) (i := 1) 1 rfl rfl dX7_crown_1 ?_
  refine p_callV (As := [.int x]) (rest := []) (kX7_doorAt (O := O) (d := 0) (f := f) (n := n) (s := s) (ct_m := nI mc) (ct_d := nI dc) (ct_a := nI ac) (ct_f := nI dfn) (tday := nI td) (trb := tr) (flt := ft) (plc := pl) (x := x) (nn := dc) hS hD.1 (by first | assumption | omega | decide) (Nat.le_refl _)).call rfl lkX7_126 imX7_doorAt seX7_doorAt rfl hS rfl rfl (by omega) (Nat.le_of_ble_eq_true rfl) dX7_crown_2 (fun v9 G9 h9 => ?_) (fun q9 G9 h9 => (by cases h9.1))
  obtain ⟨h8, rfl⟩ := h9; cases h8
  by_cases bD : inB x dc = true
  · rw [oAt_pos bD]
    have b1bD := dA_b (Nat.lt_of_lt_of_le (inB_lt bD) j2)
    show bV O _ d 5 [(0, .ref 32), (1, .int x), (2, .int m)] [.ref (dA (cl x))] (f, n, s) _
    refine r_astore_n (n := 3) (i := 3) (L' := [(3, .ref (dA (cl x))), (0, .ref 32), (1, .int x), (2, .int m)]) rfl dX7_crown_5 (by decide) rfl ?_
    refine r_aload_n (n := 3) (i := 3) 0 rfl rfl dX7_crown_6 ?_
    refine r_ifnull dX7_crown_7 ?_
    refine r_aload_n (n := 0) (i := 0) 1 rfl rfl dX7_crown_10 ?_
    refine r_iload_n (n := 2) (i := 2) 3 rfl rfl dX7_crown_11 ?_
    refine p_callV (As := [.int m]) (rest := []) (kX7_modelAt (O := O) (d := 0) (f := f) (n := n) (s := s) (ct_m := nI mc) (ct_d := nI dc) (ct_a := nI ac) (ct_f := nI dfn) (tday := nI td) (trb := tr) (flt := ft) (plc := pl) (x := m) (nn := mc) hS hM.1 (by first | assumption | omega | decide) (Nat.le_refl _)).call rfl lkX7_99 imX7_modelAt seX7_modelAt rfl hS rfl rfl (by omega) (Nat.le_of_ble_eq_true rfl) dX7_crown_12 (fun v9 G9 h9 => ?_) (fun q9 G9 h9 => (by cases h9.1))
    obtain ⟨h8, rfl⟩ := h9; cases h8
    by_cases bM : inB m mc = true
    · rw [oAt_pos bM]
      have b1bM := mA_b (Nat.lt_of_lt_of_le (inB_lt bM) j1)
      obtain ⟨mk1, mv1, m11, m21, m31, m41⟩ := hM.2.1 _ (inB_lt bM)
      show bV O _ d 15 [(3, .ref (dA (cl x))), (0, .ref 32), (1, .int x), (2, .int m)] [.ref (mA (cl m))] (f, n, s) _
      refine r_ifnonnull (tgt := 24) (by decide) dX7_crown_15 ?_
      refine r_aload_n (n := 3) (i := 3) 0 rfl rfl dX7_crown_24 ?_
      refine p_get (fs := [.ref ((dA (cl x)) + 1), .ref ((dA (cl x)) + 2), .ref ((dA (cl x)) + 3), .ref ((dA (cl x)) + 4), .ref ((dA (cl x)) + 5), .ref ((dA (cl x)) + 6), .ref ((dA (cl x)) + 7), .int (d_ch (dr (cl x))), .int (d_rv (dr (cl x))), .int (d_sh (dr (cl x))), .int (nI (d_fc (dr (cl x)))), .int (nI (d_cn (dr (cl x)))), .int (d_kp (dr (cl x))), .int (d_rf (dr (cl x)))]) flX7_136 (by exact (hD.2.1 _ (inB_lt bD)).1) rfl dX7_crown_25 ?_
      refine r_iload_n (n := 2) (i := 2) 3 rfl rfl dX7_crown_28 ?_
      refine r_icmp_ne (tgt := 38) (by decide) dX7_crown_29 (fun c29 => ?_) (fun c29 => ?_)
      · refine r_aload_n (n := 3) (i := 3) 0 rfl rfl dX7_crown_38 ?_
        refine p_callV (As := []) (rest := []) (kX1_rememberFormer (O := O) (d := 1) (f := f) (n := n) (s := s) (q := dA (cl x)) (ch := d_ch (dr (cl x))) (rv := d_rv (dr (cl x))) (sh := d_sh (dr (cl x))) (fc := d_fc (dr (cl x))) (cn := d_cn (dr (cl x))) (kp := d_kp (dr (cl x))) (rf := d_rf (dr (cl x))) (fm := d_fm (dr (cl x))) (by exact (hD.2.1 _ (inB_lt bD)).1) (by exact (hD.2.1 _ (inB_lt bD)).2.2.2.1) (j8 _ (inB_lt bD)).1 (Nat.le_refl _)).call rfl lkX7_139 imX1_rememberFormer seX1_rememberFormer rfl (by exact (hD.2.1 _ (inB_lt bD)).1) rfl rfl (by omega) (Nat.le_of_ble_eq_true rfl) dX7_crown_39 (fun v9 G9 h9 => ?_) (fun q9 G9 h9 => (by cases h9.1))
        obtain ⟨h8, rfl⟩ := h9; cases h8
        show bV O _ d 42 [(3, .ref (dA (cl x))), (0, .ref 32), (1, .int x), (2, .int m)] [] (bU (bU f ((dA (cl x)) + 3) (.inl (0, 20, .inl ((dRem (d_ch (dr (cl x))) (d_fm (dr (cl x))) (d_fc (dr (cl x)))).1)))) (dA (cl x)) (.inr (1, [.ref ((dA (cl x)) + 1), .ref ((dA (cl x)) + 2), .ref ((dA (cl x)) + 3), .ref ((dA (cl x)) + 4), .ref ((dA (cl x)) + 5), .ref ((dA (cl x)) + 6), .ref ((dA (cl x)) + 7), .int (d_ch (dr (cl x))), .int (d_rv (dr (cl x))), .int (d_sh (dr (cl x))), .int (nI (dRem (d_ch (dr (cl x))) (d_fm (dr (cl x))) (d_fc (dr (cl x)))).2), .int (nI (d_cn (dr (cl x)))), .int (d_kp (dr (cl x))), .int (d_rf (dr (cl x)))])), n, s) _
        refine r_aload_n (n := 3) (i := 3) 0 rfl rfl dX7_crown_42 ?_
        refine r_iload_n (n := 2) (i := 2) 3 rfl rfl dX7_crown_43 ?_
        refine r_aload_n (n := 0) (i := 0) 1 rfl rfl dX7_crown_44 ?_
        refine p_get (fs := [.ref 33, .ref 38, .ref 40, .ref 41, .ref 42, .ref 43, .ref 44, .ref 45, .int (nI mc), .int (nI dc), .int (nI ac), .int (nI dfn), .int (nI td), .int tr, .int ft, .int pl]) flX7_142 (by exact ((bU_n (by omega)).trans (((bU_n (by omega)).trans (hS))))) rfl dX7_crown_45 ?_
        refine p_callV (As := [.int m, .int (nI td)]) (rest := []) (kX1_changeChampion (O := O) (d := 0) (f := bU (bU f ((dA (cl x)) + 3) (.inl (0, 20, .inl ((dRem (d_ch (dr (cl x))) (d_fm (dr (cl x))) (d_fc (dr (cl x)))).1)))) (dA (cl x)) (.inr (1, [.ref ((dA (cl x)) + 1), .ref ((dA (cl x)) + 2), .ref ((dA (cl x)) + 3), .ref ((dA (cl x)) + 4), .ref ((dA (cl x)) + 5), .ref ((dA (cl x)) + 6), .ref ((dA (cl x)) + 7), .int (d_ch (dr (cl x))), .int (d_rv (dr (cl x))), .int (d_sh (dr (cl x))), .int (nI (dRem (d_ch (dr (cl x))) (d_fm (dr (cl x))) (d_fc (dr (cl x)))).2), .int (nI (d_cn (dr (cl x)))), .int (d_kp (dr (cl x))), .int (d_rf (dr (cl x)))]))) (n := n) (s := s) (q := dA (cl x)) (ch := d_ch (dr (cl x))) (rv := d_rv (dr (cl x))) (sh := d_sh (dr (cl x))) (fc := (dRem (d_ch (dr (cl x))) (d_fm (dr (cl x))) (d_fc (dr (cl x)))).2) (cn := d_cn (dr (cl x))) (kp := d_kp (dr (cl x))) (rf := d_rf (dr (cl x))) (cd := d_cd (dr (cl x))) (ct := d_ct (dr (cl x))) (m := m) (da := nI td) (by exact bU_s _ _ _) (by exact ((bU_n (by omega)).trans (((bU_n (by omega)).trans ((hD.2.1 _ (inB_lt bD)).2.2.2.2.1))))) (by exact ((bU_n (by omega)).trans (((bU_n (by omega)).trans ((hD.2.1 _ (inB_lt bD)).2.2.2.2.2.1))))) (j8 _ (inB_lt bD)).2.1 (j8 _ (inB_lt bD)).2.2.1 (Nat.le_refl _)).call rfl lkX7_145 imX1_changeChampion seX1_changeChampion rfl (by exact bU_s _ _ _) rfl rfl (by omega) (Nat.le_of_ble_eq_true rfl) dX7_crown_48 (fun v9 G9 h9 => ?_) (fun q9 G9 h9 => (by cases h9.1))
        obtain ⟨h8, rfl⟩ := h9; cases h8
        refine bV_h (f2 := bU (bU (bU (bU f ((dA (cl x)) + 3) (.inl (0, 20, .inl ((dRem (d_ch (dr (cl x))) (d_fm (dr (cl x))) (d_fc (dr (cl x)))).1)))) (dA (cl x)) (.inr (1, [.ref ((dA (cl x)) + 1), .ref ((dA (cl x)) + 2), .ref ((dA (cl x)) + 3), .ref ((dA (cl x)) + 4), .ref ((dA (cl x)) + 5), .ref ((dA (cl x)) + 6), .ref ((dA (cl x)) + 7), .int m, .int (d_rv (dr (cl x))), .int (d_sh (dr (cl x))), .int (nI ((dRem (d_ch (dr (cl x))) (d_fm (dr (cl x))) (d_fc (dr (cl x)))).2)), .int (nI (dAt (d_cd (dr (cl x))) (d_cn (dr (cl x))) (nI td) + 1)), .int (d_kp (dr (cl x))), .int (d_rf (dr (cl x)))]))) ((dA (cl x)) + 4) (.inl (0, 2001, .inl (upd (d_cd (dr (cl x))) (dAt (d_cd (dr (cl x))) (d_cn (dr (cl x))) (nI td)) (nI td))))) ((dA (cl x)) + 5) (.inl (0, 2001, .inl (upd (d_ct (dr (cl x))) (dAt (d_cd (dr (cl x))) (d_cn (dr (cl x))) (nI td)) m)))) (by funext z; simp only [bU]; repeat (first | rfl | split <;> try simp_all)) ?_
        show bV O _ d 51 [(3, .ref (dA (cl x))), (0, .ref 32), (1, .int x), (2, .int m)] [] (bU (bU (bU (bU f ((dA (cl x)) + 3) (.inl (0, 20, .inl ((dRem (d_ch (dr (cl x))) (d_fm (dr (cl x))) (d_fc (dr (cl x)))).1)))) (dA (cl x)) (.inr (1, [.ref ((dA (cl x)) + 1), .ref ((dA (cl x)) + 2), .ref ((dA (cl x)) + 3), .ref ((dA (cl x)) + 4), .ref ((dA (cl x)) + 5), .ref ((dA (cl x)) + 6), .ref ((dA (cl x)) + 7), .int m, .int (d_rv (dr (cl x))), .int (d_sh (dr (cl x))), .int (nI ((dRem (d_ch (dr (cl x))) (d_fm (dr (cl x))) (d_fc (dr (cl x)))).2)), .int (nI (dAt (d_cd (dr (cl x))) (d_cn (dr (cl x))) (nI td) + 1)), .int (d_kp (dr (cl x))), .int (d_rf (dr (cl x)))]))) ((dA (cl x)) + 4) (.inl (0, 2001, .inl (upd (d_cd (dr (cl x))) (dAt (d_cd (dr (cl x))) (d_cn (dr (cl x))) (nI td)) (nI td))))) ((dA (cl x)) + 5) (.inl (0, 2001, .inl (upd (d_ct (dr (cl x))) (dAt (d_cd (dr (cl x))) (d_cn (dr (cl x))) (nI td)) m))), n, s) _
        refine r_aload_n (n := 3) (i := 3) 0 rfl rfl dX7_crown_51 ?_
        refine p_get (fs := [.ref ((dA (cl x)) + 1), .ref ((dA (cl x)) + 2), .ref ((dA (cl x)) + 3), .ref ((dA (cl x)) + 4), .ref ((dA (cl x)) + 5), .ref ((dA (cl x)) + 6), .ref ((dA (cl x)) + 7), .int m, .int (d_rv (dr (cl x))), .int (d_sh (dr (cl x))), .int (nI ((dRem (d_ch (dr (cl x))) (d_fm (dr (cl x))) (d_fc (dr (cl x)))).2)), .int (nI (dAt (d_cd (dr (cl x))) (d_cn (dr (cl x))) (nI td) + 1)), .int (d_kp (dr (cl x))), .int (d_rf (dr (cl x)))]) flX7_149 (by exact ((bU_n (by omega)).trans (((bU_n (by omega)).trans (bU_s _ _ _))))) rfl dX7_crown_52 ?_
        refine r_iload_n (n := 2) (i := 2) 3 rfl rfl dX7_crown_55 ?_
        refine r_icmp_ne (tgt := 63) (by decide) dX7_crown_56 (fun c56 => ?_) (fun c56 => ?_)
        · refine r_aload_n (n := 0) (i := 0) 1 rfl rfl dX7_crown_63 ?_
          refine p_callV (As := []) (rest := []) (kX7_allow (O := O) (d := 0) (f := bU (bU (bU (bU f ((dA (cl x)) + 3) (.inl (0, 20, .inl ((dRem (d_ch (dr (cl x))) (d_fm (dr (cl x))) (d_fc (dr (cl x)))).1)))) (dA (cl x)) (.inr (1, [.ref ((dA (cl x)) + 1), .ref ((dA (cl x)) + 2), .ref ((dA (cl x)) + 3), .ref ((dA (cl x)) + 4), .ref ((dA (cl x)) + 5), .ref ((dA (cl x)) + 6), .ref ((dA (cl x)) + 7), .int m, .int (d_rv (dr (cl x))), .int (d_sh (dr (cl x))), .int (nI ((dRem (d_ch (dr (cl x))) (d_fm (dr (cl x))) (d_fc (dr (cl x)))).2)), .int (nI (dAt (d_cd (dr (cl x))) (d_cn (dr (cl x))) (nI td) + 1)), .int (d_kp (dr (cl x))), .int (d_rf (dr (cl x)))]))) ((dA (cl x)) + 4) (.inl (0, 2001, .inl (upd (d_cd (dr (cl x))) (dAt (d_cd (dr (cl x))) (d_cn (dr (cl x))) (nI td)) (nI td))))) ((dA (cl x)) + 5) (.inl (0, 2001, .inl (upd (d_ct (dr (cl x))) (dAt (d_cd (dr (cl x))) (d_cn (dr (cl x))) (nI td)) m)))) (n := n) (s := s) (ct_m := nI mc) (ct_d := nI dc) (ct_a := nI ac) (ct_f := nI dfn) (tday := nI td) (trb := tr) (flt := ft) (plc := pl) (by exact ((bU_n (by omega)).trans (((bU_n (by omega)).trans (((bU_n (by omega)).trans (((bU_n (by omega)).trans (hS)))))))))  (Nat.le_refl _)).call rfl lkX7_113 imX7_allow seX7_allow rfl (by exact ((bU_n (by omega)).trans (((bU_n (by omega)).trans (((bU_n (by omega)).trans (((bU_n (by omega)).trans (hS))))))))) rfl rfl (by omega) (Nat.le_of_ble_eq_true rfl) dX7_crown_64 (fun v9 G9 h9 => ?_) (fun q9 G9 h9 => (by cases h9.1))
          obtain ⟨h8, rfl⟩ := h9; cases h8
          show bV O _ d 67 [(3, .ref (dA (cl x))), (0, .ref 32), (1, .int x), (2, .int m)] [.int 1] (bU (bU (bU (bU (bU f ((dA (cl x)) + 3) (.inl (0, 20, .inl ((dRem (d_ch (dr (cl x))) (d_fm (dr (cl x))) (d_fc (dr (cl x)))).1)))) (dA (cl x)) (.inr (1, [.ref ((dA (cl x)) + 1), .ref ((dA (cl x)) + 2), .ref ((dA (cl x)) + 3), .ref ((dA (cl x)) + 4), .ref ((dA (cl x)) + 5), .ref ((dA (cl x)) + 6), .ref ((dA (cl x)) + 7), .int m, .int (d_rv (dr (cl x))), .int (d_sh (dr (cl x))), .int (nI ((dRem (d_ch (dr (cl x))) (d_fm (dr (cl x))) (d_fc (dr (cl x)))).2)), .int (nI (dAt (d_cd (dr (cl x))) (d_cn (dr (cl x))) (nI td) + 1)), .int (d_kp (dr (cl x))), .int (d_rf (dr (cl x)))]))) ((dA (cl x)) + 4) (.inl (0, 2001, .inl (upd (d_cd (dr (cl x))) (dAt (d_cd (dr (cl x))) (d_cn (dr (cl x))) (nI td)) (nI td))))) ((dA (cl x)) + 5) (.inl (0, 2001, .inl (upd (d_ct (dr (cl x))) (dAt (d_cd (dr (cl x))) (d_cn (dr (cl x))) (nI td)) m)))) 32 (.inr (7, [.ref 33, .ref 38, .ref 40, .ref 41, .ref 42, .ref 43, .ref 44, .ref 45, .int (nI mc), .int (nI dc), .int (nI ac), .int (nI dfn), .int (nI td), .int 0, .int ft, .int pl])), n, s) _
          refine r_zreturn rfl (by first | decide +kernel | exact narZ _ | assumption) dX7_crown_67 ?_
          unfold s_crown
          try simp only []
          try (first | simp only [if_pos bD] | simp only [if_neg bD] | simp only [if_neg (Bool.eq_false_iff.mp bD)])
          try (first | simp only [if_pos bM] | simp only [if_neg bM] | simp only [if_neg (Bool.eq_false_iff.mp bM)])
          try (first | simp only [if_pos c29] | simp only [if_neg c29] | simp only [if_neg (Bool.eq_false_iff.mp c29)])
          try (first | simp only [if_pos c56] | simp only [if_neg c56] | simp only [if_neg (Bool.eq_false_iff.mp c56)])
          exact pX_mk (by exact bU_s _ _ _) (hT.fr (fun q _ _ => (bU_n (by omega)).trans ((bU_n (by omega)).trans ((bU_n (by omega)).trans ((bU_n (by omega)).trans ((bU_n (by omega)).trans (rfl))))))) (hW.fr (fun q _ _ => (bU_n (by omega)).trans ((bU_n (by omega)).trans ((bU_n (by omega)).trans ((bU_n (by omega)).trans ((bU_n (by omega)).trans (rfl))))))) (hM.fr j1 (fun q _ => (bU_n (by omega)).trans ((bU_n (by omega)).trans ((bU_n (by omega)).trans ((bU_n (by omega)).trans ((bU_n (by omega)).trans (rfl))))))) (hD.put j2 (inB_lt bD) ⟨(by exact ((bU_n (by omega)).trans (((bU_n (by omega)).trans (((bU_n (by omega)).trans (bU_s _ _ _))))))), (by exact ((bU_n (by omega)).trans (((bU_n (by omega)).trans (((bU_n (by omega)).trans (((bU_n (by omega)).trans (((bU_n (by omega)).trans ((hD.2.1 _ (inB_lt bD)).2.1))))))))))), (by exact ((bU_n (by omega)).trans (((bU_n (by omega)).trans (((bU_n (by omega)).trans (((bU_n (by omega)).trans (((bU_n (by omega)).trans ((hD.2.1 _ (inB_lt bD)).2.2.1))))))))))), (by exact ((bU_n (by omega)).trans (((bU_n (by omega)).trans (((bU_n (by omega)).trans (((bU_n (by omega)).trans (bU_s _ _ _))))))))), (by exact ((bU_n (by omega)).trans (((bU_n (by omega)).trans (bU_s _ _ _))))), (by exact ((bU_n (by omega)).trans (bU_s _ _ _))), (by exact ((bU_n (by omega)).trans (((bU_n (by omega)).trans (((bU_n (by omega)).trans (((bU_n (by omega)).trans (((bU_n (by omega)).trans ((hD.2.1 _ (inB_lt bD)).2.2.2.2.2.2.1))))))))))), (by exact ((bU_n (by omega)).trans (((bU_n (by omega)).trans (((bU_n (by omega)).trans (((bU_n (by omega)).trans (((bU_n (by omega)).trans ((hD.2.1 _ (inB_lt bD)).2.2.2.2.2.2.2)))))))))))⟩ (fun q _ => (bU_n (by omega)).trans ((bU_n (by omega)).trans ((bU_n (by omega)).trans ((bU_n (by omega)).trans ((bU_n (by omega)).trans (rfl))))))) (hA.fr j3 (fun q _ => (bU_n (by omega)).trans ((bU_n (by omega)).trans ((bU_n (by omega)).trans ((bU_n (by omega)).trans ((bU_n (by omega)).trans (rfl))))))) (by exact ((bU_n (by decide)).trans (((bU_n (by omega)).trans (((bU_n (by omega)).trans (((bU_n (by omega)).trans (((bU_n (by omega)).trans (hI))))))))))) (by obtain ⟨tk8, h8⟩ := hC; exact ⟨tk8, (bU_n (by omega)).trans ((bU_n (by omega)).trans ((bU_n (by omega)).trans ((bU_n (by omega)).trans ((bU_n (by omega)).trans (h8)))))⟩) (by exact ((bU_n (by decide)).trans (((bU_n (by omega)).trans (((bU_n (by omega)).trans (((bU_n (by omega)).trans (((bU_n (by omega)).trans (hF))))))))))) (fun q _ => (bU_n (by omega)).trans ((bU_n (by omega)).trans ((bU_n (by omega)).trans ((bU_n (by omega)).trans ((bU_n (by omega)).trans (rfl)))))) (by omega) (by omega)
        · refine r_aload_n (n := 3) (i := 3) 0 rfl rfl dX7_crown_59 ?_
          refine p_callV (As := []) (rest := []) (kX1_dropRival (O := O) (d := 0) (f := bU (bU (bU (bU f ((dA (cl x)) + 3) (.inl (0, 20, .inl ((dRem (d_ch (dr (cl x))) (d_fm (dr (cl x))) (d_fc (dr (cl x)))).1)))) (dA (cl x)) (.inr (1, [.ref ((dA (cl x)) + 1), .ref ((dA (cl x)) + 2), .ref ((dA (cl x)) + 3), .ref ((dA (cl x)) + 4), .ref ((dA (cl x)) + 5), .ref ((dA (cl x)) + 6), .ref ((dA (cl x)) + 7), .int m, .int (d_rv (dr (cl x))), .int (d_sh (dr (cl x))), .int (nI ((dRem (d_ch (dr (cl x))) (d_fm (dr (cl x))) (d_fc (dr (cl x)))).2)), .int (nI (dAt (d_cd (dr (cl x))) (d_cn (dr (cl x))) (nI td) + 1)), .int (d_kp (dr (cl x))), .int (d_rf (dr (cl x)))]))) ((dA (cl x)) + 4) (.inl (0, 2001, .inl (upd (d_cd (dr (cl x))) (dAt (d_cd (dr (cl x))) (d_cn (dr (cl x))) (nI td)) (nI td))))) ((dA (cl x)) + 5) (.inl (0, 2001, .inl (upd (d_ct (dr (cl x))) (dAt (d_cd (dr (cl x))) (d_cn (dr (cl x))) (nI td)) m)))) (n := n) (s := s) (q := dA (cl x)) (ch := m) (rv := d_rv (dr (cl x))) (sh := d_sh (dr (cl x))) (fc := (dRem (d_ch (dr (cl x))) (d_fm (dr (cl x))) (d_fc (dr (cl x)))).2) (cn := dAt (d_cd (dr (cl x))) (d_cn (dr (cl x))) (nI td) + 1) (kp := d_kp (dr (cl x))) (rf := d_rf (dr (cl x))) (by exact ((bU_n (by omega)).trans (((bU_n (by omega)).trans (bU_s _ _ _)))))  (Nat.le_refl _)).call rfl lkX7_152 imX1_dropRival seX1_dropRival rfl (by exact ((bU_n (by omega)).trans (((bU_n (by omega)).trans (bU_s _ _ _))))) rfl rfl (by omega) (Nat.le_of_ble_eq_true rfl) dX7_crown_60 (fun v9 G9 h9 => ?_) (fun q9 G9 h9 => (by cases h9.1))
          obtain ⟨h8, rfl⟩ := h9; cases h8
          refine bV_h (f2 := bU (bU (bU (bU f ((dA (cl x)) + 3) (.inl (0, 20, .inl ((dRem (d_ch (dr (cl x))) (d_fm (dr (cl x))) (d_fc (dr (cl x)))).1)))) (dA (cl x)) (.inr (1, [.ref ((dA (cl x)) + 1), .ref ((dA (cl x)) + 2), .ref ((dA (cl x)) + 3), .ref ((dA (cl x)) + 4), .ref ((dA (cl x)) + 5), .ref ((dA (cl x)) + 6), .ref ((dA (cl x)) + 7), .int m, .int (-2), .int 0, .int (nI ((dRem (d_ch (dr (cl x))) (d_fm (dr (cl x))) (d_fc (dr (cl x)))).2)), .int (nI (dAt (d_cd (dr (cl x))) (d_cn (dr (cl x))) (nI td) + 1)), .int (d_kp (dr (cl x))), .int (d_rf (dr (cl x)))]))) ((dA (cl x)) + 4) (.inl (0, 2001, .inl (upd (d_cd (dr (cl x))) (dAt (d_cd (dr (cl x))) (d_cn (dr (cl x))) (nI td)) (nI td))))) ((dA (cl x)) + 5) (.inl (0, 2001, .inl (upd (d_ct (dr (cl x))) (dAt (d_cd (dr (cl x))) (d_cn (dr (cl x))) (nI td)) m)))) (((bU_c (by omega)).trans (congrArg (fun z => bU z ((dA (cl x)) + 5) (.inl (0, 2001, .inl (upd (d_ct (dr (cl x))) (dAt (d_cd (dr (cl x))) (d_cn (dr (cl x))) (nI td)) m)))) (((bU_c (by omega)).trans (congrArg (fun z => bU z ((dA (cl x)) + 4) (.inl (0, 2001, .inl (upd (d_cd (dr (cl x))) (dAt (d_cd (dr (cl x))) (d_cn (dr (cl x))) (nI td)) (nI td))))) (bU_u _ _ _ _))))))) ?_
          show bV O _ d 63 [(3, .ref (dA (cl x))), (0, .ref 32), (1, .int x), (2, .int m)] [] (bU (bU (bU (bU f ((dA (cl x)) + 3) (.inl (0, 20, .inl ((dRem (d_ch (dr (cl x))) (d_fm (dr (cl x))) (d_fc (dr (cl x)))).1)))) (dA (cl x)) (.inr (1, [.ref ((dA (cl x)) + 1), .ref ((dA (cl x)) + 2), .ref ((dA (cl x)) + 3), .ref ((dA (cl x)) + 4), .ref ((dA (cl x)) + 5), .ref ((dA (cl x)) + 6), .ref ((dA (cl x)) + 7), .int m, .int (-2), .int 0, .int (nI ((dRem (d_ch (dr (cl x))) (d_fm (dr (cl x))) (d_fc (dr (cl x)))).2)), .int (nI (dAt (d_cd (dr (cl x))) (d_cn (dr (cl x))) (nI td) + 1)), .int (d_kp (dr (cl x))), .int (d_rf (dr (cl x)))]))) ((dA (cl x)) + 4) (.inl (0, 2001, .inl (upd (d_cd (dr (cl x))) (dAt (d_cd (dr (cl x))) (d_cn (dr (cl x))) (nI td)) (nI td))))) ((dA (cl x)) + 5) (.inl (0, 2001, .inl (upd (d_ct (dr (cl x))) (dAt (d_cd (dr (cl x))) (d_cn (dr (cl x))) (nI td)) m))), n, s) _
          refine r_aload_n (n := 0) (i := 0) 1 rfl rfl dX7_crown_63 ?_
          refine p_callV (As := []) (rest := []) (kX7_allow (O := O) (d := 0) (f := bU (bU (bU (bU f ((dA (cl x)) + 3) (.inl (0, 20, .inl ((dRem (d_ch (dr (cl x))) (d_fm (dr (cl x))) (d_fc (dr (cl x)))).1)))) (dA (cl x)) (.inr (1, [.ref ((dA (cl x)) + 1), .ref ((dA (cl x)) + 2), .ref ((dA (cl x)) + 3), .ref ((dA (cl x)) + 4), .ref ((dA (cl x)) + 5), .ref ((dA (cl x)) + 6), .ref ((dA (cl x)) + 7), .int m, .int (-2), .int 0, .int (nI ((dRem (d_ch (dr (cl x))) (d_fm (dr (cl x))) (d_fc (dr (cl x)))).2)), .int (nI (dAt (d_cd (dr (cl x))) (d_cn (dr (cl x))) (nI td) + 1)), .int (d_kp (dr (cl x))), .int (d_rf (dr (cl x)))]))) ((dA (cl x)) + 4) (.inl (0, 2001, .inl (upd (d_cd (dr (cl x))) (dAt (d_cd (dr (cl x))) (d_cn (dr (cl x))) (nI td)) (nI td))))) ((dA (cl x)) + 5) (.inl (0, 2001, .inl (upd (d_ct (dr (cl x))) (dAt (d_cd (dr (cl x))) (d_cn (dr (cl x))) (nI td)) m)))) (n := n) (s := s) (ct_m := nI mc) (ct_d := nI dc) (ct_a := nI ac) (ct_f := nI dfn) (tday := nI td) (trb := tr) (flt := ft) (plc := pl) (by exact ((bU_n (by omega)).trans (((bU_n (by omega)).trans (((bU_n (by omega)).trans (((bU_n (by omega)).trans (hS)))))))))  (Nat.le_refl _)).call rfl lkX7_113 imX7_allow seX7_allow rfl (by exact ((bU_n (by omega)).trans (((bU_n (by omega)).trans (((bU_n (by omega)).trans (((bU_n (by omega)).trans (hS))))))))) rfl rfl (by omega) (Nat.le_of_ble_eq_true rfl) dX7_crown_64 (fun v9 G9 h9 => ?_) (fun q9 G9 h9 => (by cases h9.1))
          obtain ⟨h8, rfl⟩ := h9; cases h8
          show bV O _ d 67 [(3, .ref (dA (cl x))), (0, .ref 32), (1, .int x), (2, .int m)] [.int 1] (bU (bU (bU (bU (bU f ((dA (cl x)) + 3) (.inl (0, 20, .inl ((dRem (d_ch (dr (cl x))) (d_fm (dr (cl x))) (d_fc (dr (cl x)))).1)))) (dA (cl x)) (.inr (1, [.ref ((dA (cl x)) + 1), .ref ((dA (cl x)) + 2), .ref ((dA (cl x)) + 3), .ref ((dA (cl x)) + 4), .ref ((dA (cl x)) + 5), .ref ((dA (cl x)) + 6), .ref ((dA (cl x)) + 7), .int m, .int (-2), .int 0, .int (nI ((dRem (d_ch (dr (cl x))) (d_fm (dr (cl x))) (d_fc (dr (cl x)))).2)), .int (nI (dAt (d_cd (dr (cl x))) (d_cn (dr (cl x))) (nI td) + 1)), .int (d_kp (dr (cl x))), .int (d_rf (dr (cl x)))]))) ((dA (cl x)) + 4) (.inl (0, 2001, .inl (upd (d_cd (dr (cl x))) (dAt (d_cd (dr (cl x))) (d_cn (dr (cl x))) (nI td)) (nI td))))) ((dA (cl x)) + 5) (.inl (0, 2001, .inl (upd (d_ct (dr (cl x))) (dAt (d_cd (dr (cl x))) (d_cn (dr (cl x))) (nI td)) m)))) 32 (.inr (7, [.ref 33, .ref 38, .ref 40, .ref 41, .ref 42, .ref 43, .ref 44, .ref 45, .int (nI mc), .int (nI dc), .int (nI ac), .int (nI dfn), .int (nI td), .int 0, .int ft, .int pl])), n, s) _
          refine r_zreturn rfl (by first | decide +kernel | exact narZ _ | assumption) dX7_crown_67 ?_
          unfold s_crown
          try simp only []
          try (first | simp only [if_pos bD] | simp only [if_neg bD] | simp only [if_neg (Bool.eq_false_iff.mp bD)])
          try (first | simp only [if_pos bM] | simp only [if_neg bM] | simp only [if_neg (Bool.eq_false_iff.mp bM)])
          try (first | simp only [if_pos c29] | simp only [if_neg c29] | simp only [if_neg (Bool.eq_false_iff.mp c29)])
          try (first | simp only [if_pos c56] | simp only [if_neg c56] | simp only [if_neg (Bool.eq_false_iff.mp c56)])
          exact pX_mk (by exact bU_s _ _ _) (hT.fr (fun q _ _ => (bU_n (by omega)).trans ((bU_n (by omega)).trans ((bU_n (by omega)).trans ((bU_n (by omega)).trans ((bU_n (by omega)).trans (rfl))))))) (hW.fr (fun q _ _ => (bU_n (by omega)).trans ((bU_n (by omega)).trans ((bU_n (by omega)).trans ((bU_n (by omega)).trans ((bU_n (by omega)).trans (rfl))))))) (hM.fr j1 (fun q _ => (bU_n (by omega)).trans ((bU_n (by omega)).trans ((bU_n (by omega)).trans ((bU_n (by omega)).trans ((bU_n (by omega)).trans (rfl))))))) (hD.put j2 (inB_lt bD) ⟨(by exact ((bU_n (by omega)).trans (((bU_n (by omega)).trans (((bU_n (by omega)).trans (bU_s _ _ _))))))), (by exact ((bU_n (by omega)).trans (((bU_n (by omega)).trans (((bU_n (by omega)).trans (((bU_n (by omega)).trans (((bU_n (by omega)).trans ((hD.2.1 _ (inB_lt bD)).2.1))))))))))), (by exact ((bU_n (by omega)).trans (((bU_n (by omega)).trans (((bU_n (by omega)).trans (((bU_n (by omega)).trans (((bU_n (by omega)).trans ((hD.2.1 _ (inB_lt bD)).2.2.1))))))))))), (by exact ((bU_n (by omega)).trans (((bU_n (by omega)).trans (((bU_n (by omega)).trans (((bU_n (by omega)).trans (bU_s _ _ _))))))))), (by exact ((bU_n (by omega)).trans (((bU_n (by omega)).trans (bU_s _ _ _))))), (by exact ((bU_n (by omega)).trans (bU_s _ _ _))), (by exact ((bU_n (by omega)).trans (((bU_n (by omega)).trans (((bU_n (by omega)).trans (((bU_n (by omega)).trans (((bU_n (by omega)).trans ((hD.2.1 _ (inB_lt bD)).2.2.2.2.2.2.1))))))))))), (by exact ((bU_n (by omega)).trans (((bU_n (by omega)).trans (((bU_n (by omega)).trans (((bU_n (by omega)).trans (((bU_n (by omega)).trans ((hD.2.1 _ (inB_lt bD)).2.2.2.2.2.2.2)))))))))))⟩ (fun q _ => (bU_n (by omega)).trans ((bU_n (by omega)).trans ((bU_n (by omega)).trans ((bU_n (by omega)).trans ((bU_n (by omega)).trans (rfl))))))) (hA.fr j3 (fun q _ => (bU_n (by omega)).trans ((bU_n (by omega)).trans ((bU_n (by omega)).trans ((bU_n (by omega)).trans ((bU_n (by omega)).trans (rfl))))))) (by exact ((bU_n (by decide)).trans (((bU_n (by omega)).trans (((bU_n (by omega)).trans (((bU_n (by omega)).trans (((bU_n (by omega)).trans (hI))))))))))) (by obtain ⟨tk8, h8⟩ := hC; exact ⟨tk8, (bU_n (by omega)).trans ((bU_n (by omega)).trans ((bU_n (by omega)).trans ((bU_n (by omega)).trans ((bU_n (by omega)).trans (h8)))))⟩) (by exact ((bU_n (by decide)).trans (((bU_n (by omega)).trans (((bU_n (by omega)).trans (((bU_n (by omega)).trans (((bU_n (by omega)).trans (hF))))))))))) (fun q _ => (bU_n (by omega)).trans ((bU_n (by omega)).trans ((bU_n (by omega)).trans ((bU_n (by omega)).trans ((bU_n (by omega)).trans (rfl)))))) (by omega) (by omega)
      · refine r_aload_n (n := 0) (i := 0) 1 rfl rfl dX7_crown_32 ?_
        refine r_iconst (v := 5) (by decide) dX7_crown_33 ?_
        refine p_callV (As := [.int 5]) (rest := []) (kX7_deny (O := O) (d := 0) (f := f) (n := n) (s := s) (ct_m := nI mc) (ct_d := nI dc) (ct_a := nI ac) (ct_f := nI dfn) (tday := nI td) (trb := tr) (flt := ft) (plc := pl) (x := 5) hS  (Nat.le_refl _)).call rfl lkX7_109 imX7_deny seX7_deny rfl hS rfl rfl (by omega) (Nat.le_of_ble_eq_true rfl) dX7_crown_34 (fun v9 G9 h9 => ?_) (fun q9 G9 h9 => (by cases h9.1))
        obtain ⟨h8, rfl⟩ := h9; cases h8
        show bV O _ d 37 [(3, .ref (dA (cl x))), (0, .ref 32), (1, .int x), (2, .int m)] [.int 0] (bU f 32 (.inr (7, [.ref 33, .ref 38, .ref 40, .ref 41, .ref 42, .ref 43, .ref 44, .ref 45, .int (nI mc), .int (nI dc), .int (nI ac), .int (nI dfn), .int (nI td), .int 5, .int ft, .int pl])), n, s) _
        refine r_zreturn rfl (by first | decide +kernel | exact narZ _ | assumption) dX7_crown_37 ?_
        unfold s_crown
        try simp only []
        try (first | simp only [if_pos bD] | simp only [if_neg bD] | simp only [if_neg (Bool.eq_false_iff.mp bD)])
        try (first | simp only [if_pos bM] | simp only [if_neg bM] | simp only [if_neg (Bool.eq_false_iff.mp bM)])
        try (first | simp only [if_pos c29] | simp only [if_neg c29] | simp only [if_neg (Bool.eq_false_iff.mp c29)])
        exact pX_mk (by exact bU_s _ _ _) (hT.fr (fun q _ _ => (bU_n (by omega)).trans (rfl))) (hW.fr (fun q _ _ => (bU_n (by omega)).trans (rfl))) (hM.fr j1 (fun q _ => (bU_n (by omega)).trans (rfl))) (hD.fr j2 (fun q _ => (bU_n (by omega)).trans (rfl))) (hA.fr j3 (fun q _ => (bU_n (by omega)).trans (rfl))) (by exact ((bU_n (by decide)).trans (hI))) (by obtain ⟨tk8, h8⟩ := hC; exact ⟨tk8, (bU_n (by omega)).trans (h8)⟩) (by exact ((bU_n (by decide)).trans (hF))) (fun q _ => (bU_n (by omega)).trans (rfl)) (by omega) (by omega)
    · rw [oAt_neg bM]
      show bV O _ d 15 [(3, .ref (dA (cl x))), (0, .ref 32), (1, .int x), (2, .int m)] [.null] (f, n, s) _
      refine r_ifnonnullN dX7_crown_15 ?_
      refine r_aload_n (n := 0) (i := 0) 1 rfl rfl dX7_crown_18 ?_
      refine r_iconst (v := 1) (by decide) dX7_crown_19 ?_
      refine p_callV (As := [.int 1]) (rest := []) (kX7_deny (O := O) (d := 0) (f := f) (n := n) (s := s) (ct_m := nI mc) (ct_d := nI dc) (ct_a := nI ac) (ct_f := nI dfn) (tday := nI td) (trb := tr) (flt := ft) (plc := pl) (x := 1) hS  (Nat.le_refl _)).call rfl lkX7_109 imX7_deny seX7_deny rfl hS rfl rfl (by omega) (Nat.le_of_ble_eq_true rfl) dX7_crown_20 (fun v9 G9 h9 => ?_) (fun q9 G9 h9 => (by cases h9.1))
      obtain ⟨h8, rfl⟩ := h9; cases h8
      show bV O _ d 23 [(3, .ref (dA (cl x))), (0, .ref 32), (1, .int x), (2, .int m)] [.int 0] (bU f 32 (.inr (7, [.ref 33, .ref 38, .ref 40, .ref 41, .ref 42, .ref 43, .ref 44, .ref 45, .int (nI mc), .int (nI dc), .int (nI ac), .int (nI dfn), .int (nI td), .int 1, .int ft, .int pl])), n, s) _
      refine r_zreturn rfl (by first | decide +kernel | exact narZ _ | assumption) dX7_crown_23 ?_
      unfold s_crown
      try simp only []
      try (first | simp only [if_pos bD] | simp only [if_neg bD] | simp only [if_neg (Bool.eq_false_iff.mp bD)])
      try (first | simp only [if_pos bM] | simp only [if_neg bM] | simp only [if_neg (Bool.eq_false_iff.mp bM)])
      exact pX_mk (by exact bU_s _ _ _) (hT.fr (fun q _ _ => (bU_n (by omega)).trans (rfl))) (hW.fr (fun q _ _ => (bU_n (by omega)).trans (rfl))) (hM.fr j1 (fun q _ => (bU_n (by omega)).trans (rfl))) (hD.fr j2 (fun q _ => (bU_n (by omega)).trans (rfl))) (hA.fr j3 (fun q _ => (bU_n (by omega)).trans (rfl))) (by exact ((bU_n (by decide)).trans (hI))) (by obtain ⟨tk8, h8⟩ := hC; exact ⟨tk8, (bU_n (by omega)).trans (h8)⟩) (by exact ((bU_n (by decide)).trans (hF))) (fun q _ => (bU_n (by omega)).trans (rfl)) (by omega) (by omega)
  · rw [oAt_neg bD]
    show bV O _ d 5 [(0, .ref 32), (1, .int x), (2, .int m)] [.null] (f, n, s) _
    refine r_astore_nN (n := 3) (i := 3) (L' := [(3, .null), (0, .ref 32), (1, .int x), (2, .int m)]) rfl dX7_crown_5 (by decide) rfl ?_
    refine r_aload_nN (n := 3) (i := 3) 0 rfl rfl dX7_crown_6 ?_
    refine r_ifnullN (tgt := 18) (by decide) dX7_crown_7 ?_
    refine r_aload_n (n := 0) (i := 0) 1 rfl rfl dX7_crown_18 ?_
    refine r_iconst (v := 1) (by decide) dX7_crown_19 ?_
    refine p_callV (As := [.int 1]) (rest := []) (kX7_deny (O := O) (d := 0) (f := f) (n := n) (s := s) (ct_m := nI mc) (ct_d := nI dc) (ct_a := nI ac) (ct_f := nI dfn) (tday := nI td) (trb := tr) (flt := ft) (plc := pl) (x := 1) hS  (Nat.le_refl _)).call rfl lkX7_109 imX7_deny seX7_deny rfl hS rfl rfl (by omega) (Nat.le_of_ble_eq_true rfl) dX7_crown_20 (fun v9 G9 h9 => ?_) (fun q9 G9 h9 => (by cases h9.1))
    obtain ⟨h8, rfl⟩ := h9; cases h8
    show bV O _ d 23 [(3, .null), (0, .ref 32), (1, .int x), (2, .int m)] [.int 0] (bU f 32 (.inr (7, [.ref 33, .ref 38, .ref 40, .ref 41, .ref 42, .ref 43, .ref 44, .ref 45, .int (nI mc), .int (nI dc), .int (nI ac), .int (nI dfn), .int (nI td), .int 1, .int ft, .int pl])), n, s) _
    refine r_zreturn rfl (by first | decide +kernel | exact narZ _ | assumption) dX7_crown_23 ?_
    unfold s_crown
    try simp only []
    try (first | simp only [if_pos bD] | simp only [if_neg bD] | simp only [if_neg (Bool.eq_false_iff.mp bD)])
    exact pX_mk (by exact bU_s _ _ _) (hT.fr (fun q _ _ => (bU_n (by omega)).trans (rfl))) (hW.fr (fun q _ _ => (bU_n (by omega)).trans (rfl))) (hM.fr j1 (fun q _ => (bU_n (by omega)).trans (rfl))) (hD.fr j2 (fun q _ => (bU_n (by omega)).trans (rfl))) (hA.fr j3 (fun q _ => (bU_n (by omega)).trans (rfl))) (by exact ((bU_n (by decide)).trans (hI))) (by obtain ⟨tk8, h8⟩ := hC; exact ⟨tk8, (bU_n (by omega)).trans (h8)⟩) (by exact ((bU_n (by decide)).trans (hF))) (fun q _ => (bU_n (by omega)).trans (rfl)) (by omega) (by omega)
set_option maxRecDepth 4000 in
theorem x_back {O : bO} {d : Nat} {f : bF} {n s : Nat} {bs : Nat → Int32} {tl : Nat} {mc : Nat} {md : Nat → MR} {ip : Nat → Int32} {dc : Nat} {dr : Nat → DR} {ac : Nat} {an : Nat → AR} {hs : Bool} {sd : Nat → Int32} {df : Nat → Int32} {dfn : Nat} {td : Nat} {tr : Int32} {ft : Int32} {pl : Int32} {x : Int32} (hX : XR f (bs, tl, mc, md, ip, dc, dr, ac, an, hs, sd, df, dfn, td, tr, ft, pl)) (jX : JX (bs, tl, mc, md, ip, dc, dr, ac, an, hs, sd, df, dfn, td, tr, ft, pl))  (hd : 1 ≤ d) : bCall O mX7_back d [.ref 32, .int x] (f, n, s) (pX f n s 0 0 (s_back (bs, tl, mc, md, ip, dc, dr, ac, an, hs, sd, df, dfn, td, tr, ft, pl) x)) := by
  refine bCall_of (by decide) rfl (Nat.le_of_ble_eq_true rfl) ?_
  obtain ⟨hS, hT, hW, hM, hD, hA, hI, hC, hF⟩ := id hX
  obtain ⟨j1, j2, j3, j4, j5, j6, j7, j8⟩ := id jX
  simp only [] at hS hT hW hM hD hA hI hC hF j1 j2 j3 j4 j5 j6 j7 j8
  show bV O _ d 0 [(0, .ref 32), (1, .int x)] [] (f, n, s) _
  refine r_aload_n (n := 0) (i := 0) 0 rfl rfl dX7_back_0 ?_
  refine r_iload_n (n := 1) (i := 1) 1 rfl rfl dX7_back_1 ?_
  refine p_callV (As := [.int x]) (rest := []) (kX7_doorAt (O := O) (d := 0) (f := f) (n := n) (s := s) (ct_m := nI mc) (ct_d := nI dc) (ct_a := nI ac) (ct_f := nI dfn) (tday := nI td) (trb := tr) (flt := ft) (plc := pl) (x := x) (nn := dc) hS hD.1 (by first | assumption | omega | decide) (Nat.le_refl _)).call rfl lkX7_126 imX7_doorAt seX7_doorAt rfl hS rfl rfl (by omega) (Nat.le_of_ble_eq_true rfl) dX7_back_2 (fun v9 G9 h9 => ?_) (fun q9 G9 h9 => (by cases h9.1))
  obtain ⟨h8, rfl⟩ := h9; cases h8
  by_cases bD : inB x dc = true
  · rw [oAt_pos bD]
    have b1bD := dA_b (Nat.lt_of_lt_of_le (inB_lt bD) j2)
    show bV O _ d 5 [(0, .ref 32), (1, .int x)] [.ref (dA (cl x))] (f, n, s) _
    refine r_astore_n (n := 2) (i := 2) (L' := [(2, .ref (dA (cl x))), (0, .ref 32), (1, .int x)]) rfl dX7_back_5 (by decide) rfl ?_
    refine r_aload_n (n := 2) (i := 2) 0 rfl rfl dX7_back_6 ?_
    refine r_ifnonnull (tgt := 16) (by decide) dX7_back_7 ?_
    refine r_aload_n (n := 2) (i := 2) 0 rfl rfl dX7_back_16 ?_
    refine p_callV (As := []) (rest := []) (kX1_takeFormer (O := O) (d := 0) (f := f) (n := n) (s := s) (q := dA (cl x)) (ch := d_ch (dr (cl x))) (rv := d_rv (dr (cl x))) (sh := d_sh (dr (cl x))) (fc := d_fc (dr (cl x))) (cn := d_cn (dr (cl x))) (kp := d_kp (dr (cl x))) (rf := d_rf (dr (cl x))) (fm := d_fm (dr (cl x))) (by exact (hD.2.1 _ (inB_lt bD)).1) (by exact (hD.2.1 _ (inB_lt bD)).2.2.2.1) (j8 _ (inB_lt bD)).1 (Nat.le_refl _)).call rfl lkX7_158 imX1_takeFormer seX1_takeFormer rfl (by exact (hD.2.1 _ (inB_lt bD)).1) rfl rfl (by omega) (Nat.le_of_ble_eq_true rfl) dX7_back_17 (fun v9 G9 h9 => ?_) (fun q9 G9 h9 => (by cases h9.1))
    obtain ⟨h8, rfl⟩ := h9; cases h8
    show bV O _ d 20 [(2, .ref (dA (cl x))), (0, .ref 32), (1, .int x)] [.int (if (d_fc (dr (cl x))) = 0 then -2 else (d_fm (dr (cl x))) ((d_fc (dr (cl x))) - 1))] (bU f (dA (cl x)) (.inr (1, [.ref ((dA (cl x)) + 1), .ref ((dA (cl x)) + 2), .ref ((dA (cl x)) + 3), .ref ((dA (cl x)) + 4), .ref ((dA (cl x)) + 5), .ref ((dA (cl x)) + 6), .ref ((dA (cl x)) + 7), .int (d_ch (dr (cl x))), .int (d_rv (dr (cl x))), .int (d_sh (dr (cl x))), .int (nI ((d_fc (dr (cl x))) - 1)), .int (nI (d_cn (dr (cl x)))), .int (d_kp (dr (cl x))), .int (d_rf (dr (cl x)))])), n, s) _
    refine r_istore_n (n := 3) (i := 3) (L' := [(3, .int (if (d_fc (dr (cl x))) = 0 then -2 else (d_fm (dr (cl x))) ((d_fc (dr (cl x))) - 1))), (2, .ref (dA (cl x))), (0, .ref 32), (1, .int x)]) rfl dX7_back_20 (by decide) rfl ?_
    refine r_iload_n (n := 3) (i := 3) 0 rfl rfl dX7_back_21 ?_
    refine r_bipush (v := (-2)) (by decide) dX7_back_22 ?_
    refine r_icmp_ne (tgt := 33) (by decide) dX7_back_24 (fun c24 => ?_) (fun c24 => ?_)
    · refine r_aload_n (n := 2) (i := 2) 1 rfl rfl dX7_back_33 ?_
      refine r_iload_n (n := 3) (i := 3) 0 rfl rfl dX7_back_34 ?_
      refine r_aload_n (n := 0) (i := 0) 2 rfl rfl dX7_back_35 ?_
      refine p_get (fs := [.ref 33, .ref 38, .ref 40, .ref 41, .ref 42, .ref 43, .ref 44, .ref 45, .int (nI mc), .int (nI dc), .int (nI ac), .int (nI dfn), .int (nI td), .int tr, .int ft, .int pl]) flX7_142 (by exact ((bU_n (by omega)).trans (hS))) rfl dX7_back_36 ?_
      refine p_callV (As := [.int (if (d_fc (dr (cl x))) = 0 then -2 else (d_fm (dr (cl x))) ((d_fc (dr (cl x))) - 1)), .int (nI td)]) (rest := []) (kX1_changeChampion (O := O) (d := 0) (f := bU f (dA (cl x)) (.inr (1, [.ref ((dA (cl x)) + 1), .ref ((dA (cl x)) + 2), .ref ((dA (cl x)) + 3), .ref ((dA (cl x)) + 4), .ref ((dA (cl x)) + 5), .ref ((dA (cl x)) + 6), .ref ((dA (cl x)) + 7), .int (d_ch (dr (cl x))), .int (d_rv (dr (cl x))), .int (d_sh (dr (cl x))), .int (nI ((d_fc (dr (cl x))) - 1)), .int (nI (d_cn (dr (cl x)))), .int (d_kp (dr (cl x))), .int (d_rf (dr (cl x)))]))) (n := n) (s := s) (q := dA (cl x)) (ch := d_ch (dr (cl x))) (rv := d_rv (dr (cl x))) (sh := d_sh (dr (cl x))) (fc := (d_fc (dr (cl x))) - 1) (cn := d_cn (dr (cl x))) (kp := d_kp (dr (cl x))) (rf := d_rf (dr (cl x))) (cd := d_cd (dr (cl x))) (ct := d_ct (dr (cl x))) (m := if (d_fc (dr (cl x))) = 0 then -2 else (d_fm (dr (cl x))) ((d_fc (dr (cl x))) - 1)) (da := nI td) (by exact bU_s _ _ _) (by exact ((bU_n (by omega)).trans ((hD.2.1 _ (inB_lt bD)).2.2.2.2.1))) (by exact ((bU_n (by omega)).trans ((hD.2.1 _ (inB_lt bD)).2.2.2.2.2.1))) (j8 _ (inB_lt bD)).2.1 (j8 _ (inB_lt bD)).2.2.1 (Nat.le_refl _)).call rfl lkX7_145 imX1_changeChampion seX1_changeChampion rfl (by exact bU_s _ _ _) rfl rfl (by omega) (Nat.le_of_ble_eq_true rfl) dX7_back_39 (fun v9 G9 h9 => ?_) (fun q9 G9 h9 => (by cases h9.1))
      obtain ⟨h8, rfl⟩ := h9; cases h8
      refine bV_h (f2 := bU (bU (bU f (dA (cl x)) (.inr (1, [.ref ((dA (cl x)) + 1), .ref ((dA (cl x)) + 2), .ref ((dA (cl x)) + 3), .ref ((dA (cl x)) + 4), .ref ((dA (cl x)) + 5), .ref ((dA (cl x)) + 6), .ref ((dA (cl x)) + 7), .int (if (d_fc (dr (cl x))) = 0 then -2 else (d_fm (dr (cl x))) ((d_fc (dr (cl x))) - 1)), .int (d_rv (dr (cl x))), .int (d_sh (dr (cl x))), .int (nI ((d_fc (dr (cl x))) - 1)), .int (nI (dAt (d_cd (dr (cl x))) (d_cn (dr (cl x))) (nI td) + 1)), .int (d_kp (dr (cl x))), .int (d_rf (dr (cl x)))]))) ((dA (cl x)) + 4) (.inl (0, 2001, .inl (upd (d_cd (dr (cl x))) (dAt (d_cd (dr (cl x))) (d_cn (dr (cl x))) (nI td)) (nI td))))) ((dA (cl x)) + 5) (.inl (0, 2001, .inl (upd (d_ct (dr (cl x))) (dAt (d_cd (dr (cl x))) (d_cn (dr (cl x))) (nI td)) (if (d_fc (dr (cl x))) = 0 then -2 else (d_fm (dr (cl x))) ((d_fc (dr (cl x))) - 1)))))) (by funext z; simp only [bU]; repeat (first | rfl | split <;> try simp_all)) ?_
      show bV O _ d 42 [(3, .int (if (d_fc (dr (cl x))) = 0 then -2 else (d_fm (dr (cl x))) ((d_fc (dr (cl x))) - 1))), (2, .ref (dA (cl x))), (0, .ref 32), (1, .int x)] [] (bU (bU (bU f (dA (cl x)) (.inr (1, [.ref ((dA (cl x)) + 1), .ref ((dA (cl x)) + 2), .ref ((dA (cl x)) + 3), .ref ((dA (cl x)) + 4), .ref ((dA (cl x)) + 5), .ref ((dA (cl x)) + 6), .ref ((dA (cl x)) + 7), .int (if (d_fc (dr (cl x))) = 0 then -2 else (d_fm (dr (cl x))) ((d_fc (dr (cl x))) - 1)), .int (d_rv (dr (cl x))), .int (d_sh (dr (cl x))), .int (nI ((d_fc (dr (cl x))) - 1)), .int (nI (dAt (d_cd (dr (cl x))) (d_cn (dr (cl x))) (nI td) + 1)), .int (d_kp (dr (cl x))), .int (d_rf (dr (cl x)))]))) ((dA (cl x)) + 4) (.inl (0, 2001, .inl (upd (d_cd (dr (cl x))) (dAt (d_cd (dr (cl x))) (d_cn (dr (cl x))) (nI td)) (nI td))))) ((dA (cl x)) + 5) (.inl (0, 2001, .inl (upd (d_ct (dr (cl x))) (dAt (d_cd (dr (cl x))) (d_cn (dr (cl x))) (nI td)) (if (d_fc (dr (cl x))) = 0 then -2 else (d_fm (dr (cl x))) ((d_fc (dr (cl x))) - 1))))), n, s) _
      refine r_aload_n (n := 2) (i := 2) 1 rfl rfl dX7_back_42 ?_
      refine p_callV (As := []) (rest := []) (kX1_dropRival (O := O) (d := 0) (f := bU (bU (bU f (dA (cl x)) (.inr (1, [.ref ((dA (cl x)) + 1), .ref ((dA (cl x)) + 2), .ref ((dA (cl x)) + 3), .ref ((dA (cl x)) + 4), .ref ((dA (cl x)) + 5), .ref ((dA (cl x)) + 6), .ref ((dA (cl x)) + 7), .int (if (d_fc (dr (cl x))) = 0 then -2 else (d_fm (dr (cl x))) ((d_fc (dr (cl x))) - 1)), .int (d_rv (dr (cl x))), .int (d_sh (dr (cl x))), .int (nI ((d_fc (dr (cl x))) - 1)), .int (nI (dAt (d_cd (dr (cl x))) (d_cn (dr (cl x))) (nI td) + 1)), .int (d_kp (dr (cl x))), .int (d_rf (dr (cl x)))]))) ((dA (cl x)) + 4) (.inl (0, 2001, .inl (upd (d_cd (dr (cl x))) (dAt (d_cd (dr (cl x))) (d_cn (dr (cl x))) (nI td)) (nI td))))) ((dA (cl x)) + 5) (.inl (0, 2001, .inl (upd (d_ct (dr (cl x))) (dAt (d_cd (dr (cl x))) (d_cn (dr (cl x))) (nI td)) (if (d_fc (dr (cl x))) = 0 then -2 else (d_fm (dr (cl x))) ((d_fc (dr (cl x))) - 1)))))) (n := n) (s := s) (q := dA (cl x)) (ch := if (d_fc (dr (cl x))) = 0 then -2 else (d_fm (dr (cl x))) ((d_fc (dr (cl x))) - 1)) (rv := d_rv (dr (cl x))) (sh := d_sh (dr (cl x))) (fc := (d_fc (dr (cl x))) - 1) (cn := dAt (d_cd (dr (cl x))) (d_cn (dr (cl x))) (nI td) + 1) (kp := d_kp (dr (cl x))) (rf := d_rf (dr (cl x))) (by exact ((bU_n (by omega)).trans (((bU_n (by omega)).trans (bU_s _ _ _)))))  (Nat.le_refl _)).call rfl lkX7_152 imX1_dropRival seX1_dropRival rfl (by exact ((bU_n (by omega)).trans (((bU_n (by omega)).trans (bU_s _ _ _))))) rfl rfl (by omega) (Nat.le_of_ble_eq_true rfl) dX7_back_43 (fun v9 G9 h9 => ?_) (fun q9 G9 h9 => (by cases h9.1))
      obtain ⟨h8, rfl⟩ := h9; cases h8
      refine bV_h (f2 := bU (bU (bU f (dA (cl x)) (.inr (1, [.ref ((dA (cl x)) + 1), .ref ((dA (cl x)) + 2), .ref ((dA (cl x)) + 3), .ref ((dA (cl x)) + 4), .ref ((dA (cl x)) + 5), .ref ((dA (cl x)) + 6), .ref ((dA (cl x)) + 7), .int (if (d_fc (dr (cl x))) = 0 then -2 else (d_fm (dr (cl x))) ((d_fc (dr (cl x))) - 1)), .int (-2), .int 0, .int (nI ((d_fc (dr (cl x))) - 1)), .int (nI (dAt (d_cd (dr (cl x))) (d_cn (dr (cl x))) (nI td) + 1)), .int (d_kp (dr (cl x))), .int (d_rf (dr (cl x)))]))) ((dA (cl x)) + 4) (.inl (0, 2001, .inl (upd (d_cd (dr (cl x))) (dAt (d_cd (dr (cl x))) (d_cn (dr (cl x))) (nI td)) (nI td))))) ((dA (cl x)) + 5) (.inl (0, 2001, .inl (upd (d_ct (dr (cl x))) (dAt (d_cd (dr (cl x))) (d_cn (dr (cl x))) (nI td)) (if (d_fc (dr (cl x))) = 0 then -2 else (d_fm (dr (cl x))) ((d_fc (dr (cl x))) - 1)))))) (((bU_c (by omega)).trans (congrArg (fun z => bU z ((dA (cl x)) + 5) (.inl (0, 2001, .inl (upd (d_ct (dr (cl x))) (dAt (d_cd (dr (cl x))) (d_cn (dr (cl x))) (nI td)) (if (d_fc (dr (cl x))) = 0 then -2 else (d_fm (dr (cl x))) ((d_fc (dr (cl x))) - 1)))))) (((bU_c (by omega)).trans (congrArg (fun z => bU z ((dA (cl x)) + 4) (.inl (0, 2001, .inl (upd (d_cd (dr (cl x))) (dAt (d_cd (dr (cl x))) (d_cn (dr (cl x))) (nI td)) (nI td))))) (bU_u _ _ _ _))))))) ?_
      show bV O _ d 46 [(3, .int (if (d_fc (dr (cl x))) = 0 then -2 else (d_fm (dr (cl x))) ((d_fc (dr (cl x))) - 1))), (2, .ref (dA (cl x))), (0, .ref 32), (1, .int x)] [] (bU (bU (bU f (dA (cl x)) (.inr (1, [.ref ((dA (cl x)) + 1), .ref ((dA (cl x)) + 2), .ref ((dA (cl x)) + 3), .ref ((dA (cl x)) + 4), .ref ((dA (cl x)) + 5), .ref ((dA (cl x)) + 6), .ref ((dA (cl x)) + 7), .int (if (d_fc (dr (cl x))) = 0 then -2 else (d_fm (dr (cl x))) ((d_fc (dr (cl x))) - 1)), .int (-2), .int 0, .int (nI ((d_fc (dr (cl x))) - 1)), .int (nI (dAt (d_cd (dr (cl x))) (d_cn (dr (cl x))) (nI td) + 1)), .int (d_kp (dr (cl x))), .int (d_rf (dr (cl x)))]))) ((dA (cl x)) + 4) (.inl (0, 2001, .inl (upd (d_cd (dr (cl x))) (dAt (d_cd (dr (cl x))) (d_cn (dr (cl x))) (nI td)) (nI td))))) ((dA (cl x)) + 5) (.inl (0, 2001, .inl (upd (d_ct (dr (cl x))) (dAt (d_cd (dr (cl x))) (d_cn (dr (cl x))) (nI td)) (if (d_fc (dr (cl x))) = 0 then -2 else (d_fm (dr (cl x))) ((d_fc (dr (cl x))) - 1))))), n, s) _
      refine r_aload_n (n := 0) (i := 0) 2 rfl rfl dX7_back_46 ?_
      refine p_callV (As := []) (rest := []) (kX7_allow (O := O) (d := 0) (f := bU (bU (bU f (dA (cl x)) (.inr (1, [.ref ((dA (cl x)) + 1), .ref ((dA (cl x)) + 2), .ref ((dA (cl x)) + 3), .ref ((dA (cl x)) + 4), .ref ((dA (cl x)) + 5), .ref ((dA (cl x)) + 6), .ref ((dA (cl x)) + 7), .int (if (d_fc (dr (cl x))) = 0 then -2 else (d_fm (dr (cl x))) ((d_fc (dr (cl x))) - 1)), .int (-2), .int 0, .int (nI ((d_fc (dr (cl x))) - 1)), .int (nI (dAt (d_cd (dr (cl x))) (d_cn (dr (cl x))) (nI td) + 1)), .int (d_kp (dr (cl x))), .int (d_rf (dr (cl x)))]))) ((dA (cl x)) + 4) (.inl (0, 2001, .inl (upd (d_cd (dr (cl x))) (dAt (d_cd (dr (cl x))) (d_cn (dr (cl x))) (nI td)) (nI td))))) ((dA (cl x)) + 5) (.inl (0, 2001, .inl (upd (d_ct (dr (cl x))) (dAt (d_cd (dr (cl x))) (d_cn (dr (cl x))) (nI td)) (if (d_fc (dr (cl x))) = 0 then -2 else (d_fm (dr (cl x))) ((d_fc (dr (cl x))) - 1)))))) (n := n) (s := s) (ct_m := nI mc) (ct_d := nI dc) (ct_a := nI ac) (ct_f := nI dfn) (tday := nI td) (trb := tr) (flt := ft) (plc := pl) (by exact ((bU_n (by omega)).trans (((bU_n (by omega)).trans (((bU_n (by omega)).trans (hS)))))))  (Nat.le_refl _)).call rfl lkX7_113 imX7_allow seX7_allow rfl (by exact ((bU_n (by omega)).trans (((bU_n (by omega)).trans (((bU_n (by omega)).trans (hS))))))) rfl rfl (by omega) (Nat.le_of_ble_eq_true rfl) dX7_back_47 (fun v9 G9 h9 => ?_) (fun q9 G9 h9 => (by cases h9.1))
      obtain ⟨h8, rfl⟩ := h9; cases h8
      show bV O _ d 50 [(3, .int (if (d_fc (dr (cl x))) = 0 then -2 else (d_fm (dr (cl x))) ((d_fc (dr (cl x))) - 1))), (2, .ref (dA (cl x))), (0, .ref 32), (1, .int x)] [.int 1] (bU (bU (bU (bU f (dA (cl x)) (.inr (1, [.ref ((dA (cl x)) + 1), .ref ((dA (cl x)) + 2), .ref ((dA (cl x)) + 3), .ref ((dA (cl x)) + 4), .ref ((dA (cl x)) + 5), .ref ((dA (cl x)) + 6), .ref ((dA (cl x)) + 7), .int (if (d_fc (dr (cl x))) = 0 then -2 else (d_fm (dr (cl x))) ((d_fc (dr (cl x))) - 1)), .int (-2), .int 0, .int (nI ((d_fc (dr (cl x))) - 1)), .int (nI (dAt (d_cd (dr (cl x))) (d_cn (dr (cl x))) (nI td) + 1)), .int (d_kp (dr (cl x))), .int (d_rf (dr (cl x)))]))) ((dA (cl x)) + 4) (.inl (0, 2001, .inl (upd (d_cd (dr (cl x))) (dAt (d_cd (dr (cl x))) (d_cn (dr (cl x))) (nI td)) (nI td))))) ((dA (cl x)) + 5) (.inl (0, 2001, .inl (upd (d_ct (dr (cl x))) (dAt (d_cd (dr (cl x))) (d_cn (dr (cl x))) (nI td)) (if (d_fc (dr (cl x))) = 0 then -2 else (d_fm (dr (cl x))) ((d_fc (dr (cl x))) - 1)))))) 32 (.inr (7, [.ref 33, .ref 38, .ref 40, .ref 41, .ref 42, .ref 43, .ref 44, .ref 45, .int (nI mc), .int (nI dc), .int (nI ac), .int (nI dfn), .int (nI td), .int 0, .int ft, .int pl])), n, s) _
      refine r_zreturn rfl (by first | decide +kernel | exact narZ _ | assumption) dX7_back_50 ?_
      unfold s_back
      try simp only []
      try (first | simp only [if_pos bD] | simp only [if_neg bD] | simp only [if_neg (Bool.eq_false_iff.mp bD)])
      try (first | simp only [if_pos c24] | simp only [if_neg c24] | simp only [if_neg (Bool.eq_false_iff.mp c24)])
      exact pX_mk (by exact bU_s _ _ _) (hT.fr (fun q _ _ => (bU_n (by omega)).trans ((bU_n (by omega)).trans ((bU_n (by omega)).trans ((bU_n (by omega)).trans (rfl)))))) (hW.fr (fun q _ _ => (bU_n (by omega)).trans ((bU_n (by omega)).trans ((bU_n (by omega)).trans ((bU_n (by omega)).trans (rfl)))))) (hM.fr j1 (fun q _ => (bU_n (by omega)).trans ((bU_n (by omega)).trans ((bU_n (by omega)).trans ((bU_n (by omega)).trans (rfl)))))) (hD.put j2 (inB_lt bD) ⟨(by exact ((bU_n (by omega)).trans (((bU_n (by omega)).trans (((bU_n (by omega)).trans (bU_s _ _ _))))))), (by exact ((bU_n (by omega)).trans (((bU_n (by omega)).trans (((bU_n (by omega)).trans (((bU_n (by omega)).trans ((hD.2.1 _ (inB_lt bD)).2.1))))))))), (by exact ((bU_n (by omega)).trans (((bU_n (by omega)).trans (((bU_n (by omega)).trans (((bU_n (by omega)).trans ((hD.2.1 _ (inB_lt bD)).2.2.1))))))))), (by exact ((bU_n (by omega)).trans (((bU_n (by omega)).trans (((bU_n (by omega)).trans (((bU_n (by omega)).trans ((hD.2.1 _ (inB_lt bD)).2.2.2.1))))))))), (by exact ((bU_n (by omega)).trans (((bU_n (by omega)).trans (bU_s _ _ _))))), (by exact ((bU_n (by omega)).trans (bU_s _ _ _))), (by exact ((bU_n (by omega)).trans (((bU_n (by omega)).trans (((bU_n (by omega)).trans (((bU_n (by omega)).trans ((hD.2.1 _ (inB_lt bD)).2.2.2.2.2.2.1))))))))), (by exact ((bU_n (by omega)).trans (((bU_n (by omega)).trans (((bU_n (by omega)).trans (((bU_n (by omega)).trans ((hD.2.1 _ (inB_lt bD)).2.2.2.2.2.2.2)))))))))⟩ (fun q _ => (bU_n (by omega)).trans ((bU_n (by omega)).trans ((bU_n (by omega)).trans ((bU_n (by omega)).trans (rfl)))))) (hA.fr j3 (fun q _ => (bU_n (by omega)).trans ((bU_n (by omega)).trans ((bU_n (by omega)).trans ((bU_n (by omega)).trans (rfl)))))) (by exact ((bU_n (by decide)).trans (((bU_n (by omega)).trans (((bU_n (by omega)).trans (((bU_n (by omega)).trans (hI))))))))) (by obtain ⟨tk8, h8⟩ := hC; exact ⟨tk8, (bU_n (by omega)).trans ((bU_n (by omega)).trans ((bU_n (by omega)).trans ((bU_n (by omega)).trans (h8))))⟩) (by exact ((bU_n (by decide)).trans (((bU_n (by omega)).trans (((bU_n (by omega)).trans (((bU_n (by omega)).trans (hF))))))))) (fun q _ => (bU_n (by omega)).trans ((bU_n (by omega)).trans ((bU_n (by omega)).trans ((bU_n (by omega)).trans (rfl))))) (by omega) (by omega)
    · refine r_aload_n (n := 0) (i := 0) 2 rfl rfl dX7_back_27 ?_
      refine r_iconst (v := 5) (by decide) dX7_back_28 ?_
      refine p_callV (As := [.int 5]) (rest := []) (kX7_deny (O := O) (d := 0) (f := bU f (dA (cl x)) (.inr (1, [.ref ((dA (cl x)) + 1), .ref ((dA (cl x)) + 2), .ref ((dA (cl x)) + 3), .ref ((dA (cl x)) + 4), .ref ((dA (cl x)) + 5), .ref ((dA (cl x)) + 6), .ref ((dA (cl x)) + 7), .int (d_ch (dr (cl x))), .int (d_rv (dr (cl x))), .int (d_sh (dr (cl x))), .int (nI ((d_fc (dr (cl x))) - 1)), .int (nI (d_cn (dr (cl x)))), .int (d_kp (dr (cl x))), .int (d_rf (dr (cl x)))]))) (n := n) (s := s) (ct_m := nI mc) (ct_d := nI dc) (ct_a := nI ac) (ct_f := nI dfn) (tday := nI td) (trb := tr) (flt := ft) (plc := pl) (x := 5) (by exact ((bU_n (by omega)).trans (hS)))  (Nat.le_refl _)).call rfl lkX7_109 imX7_deny seX7_deny rfl (by exact ((bU_n (by omega)).trans (hS))) rfl rfl (by omega) (Nat.le_of_ble_eq_true rfl) dX7_back_29 (fun v9 G9 h9 => ?_) (fun q9 G9 h9 => (by cases h9.1))
      obtain ⟨h8, rfl⟩ := h9; cases h8
      show bV O _ d 32 [(3, .int (if (d_fc (dr (cl x))) = 0 then -2 else (d_fm (dr (cl x))) ((d_fc (dr (cl x))) - 1))), (2, .ref (dA (cl x))), (0, .ref 32), (1, .int x)] [.int 0] (bU (bU f (dA (cl x)) (.inr (1, [.ref ((dA (cl x)) + 1), .ref ((dA (cl x)) + 2), .ref ((dA (cl x)) + 3), .ref ((dA (cl x)) + 4), .ref ((dA (cl x)) + 5), .ref ((dA (cl x)) + 6), .ref ((dA (cl x)) + 7), .int (d_ch (dr (cl x))), .int (d_rv (dr (cl x))), .int (d_sh (dr (cl x))), .int (nI ((d_fc (dr (cl x))) - 1)), .int (nI (d_cn (dr (cl x)))), .int (d_kp (dr (cl x))), .int (d_rf (dr (cl x)))]))) 32 (.inr (7, [.ref 33, .ref 38, .ref 40, .ref 41, .ref 42, .ref 43, .ref 44, .ref 45, .int (nI mc), .int (nI dc), .int (nI ac), .int (nI dfn), .int (nI td), .int 5, .int ft, .int pl])), n, s) _
      refine r_zreturn rfl (by first | decide +kernel | exact narZ _ | assumption) dX7_back_32 ?_
      unfold s_back
      try simp only []
      try (first | simp only [if_pos bD] | simp only [if_neg bD] | simp only [if_neg (Bool.eq_false_iff.mp bD)])
      try (first | simp only [if_pos c24] | simp only [if_neg c24] | simp only [if_neg (Bool.eq_false_iff.mp c24)])
      exact pX_mk (by exact bU_s _ _ _) (hT.fr (fun q _ _ => (bU_n (by omega)).trans ((bU_n (by omega)).trans (rfl)))) (hW.fr (fun q _ _ => (bU_n (by omega)).trans ((bU_n (by omega)).trans (rfl)))) (hM.fr j1 (fun q _ => (bU_n (by omega)).trans ((bU_n (by omega)).trans (rfl)))) (hD.put j2 (inB_lt bD) ⟨(by exact ((bU_n (by omega)).trans (bU_s _ _ _))), (by exact ((bU_n (by omega)).trans (((bU_n (by omega)).trans ((hD.2.1 _ (inB_lt bD)).2.1))))), (by exact ((bU_n (by omega)).trans (((bU_n (by omega)).trans ((hD.2.1 _ (inB_lt bD)).2.2.1))))), (by exact ((bU_n (by omega)).trans (((bU_n (by omega)).trans ((hD.2.1 _ (inB_lt bD)).2.2.2.1))))), (by exact ((bU_n (by omega)).trans (((bU_n (by omega)).trans ((hD.2.1 _ (inB_lt bD)).2.2.2.2.1))))), (by exact ((bU_n (by omega)).trans (((bU_n (by omega)).trans ((hD.2.1 _ (inB_lt bD)).2.2.2.2.2.1))))), (by exact ((bU_n (by omega)).trans (((bU_n (by omega)).trans ((hD.2.1 _ (inB_lt bD)).2.2.2.2.2.2.1))))), (by exact ((bU_n (by omega)).trans (((bU_n (by omega)).trans ((hD.2.1 _ (inB_lt bD)).2.2.2.2.2.2.2)))))⟩ (fun q _ => (bU_n (by omega)).trans ((bU_n (by omega)).trans (rfl)))) (hA.fr j3 (fun q _ => (bU_n (by omega)).trans ((bU_n (by omega)).trans (rfl)))) (by exact ((bU_n (by decide)).trans (((bU_n (by omega)).trans (hI))))) (by obtain ⟨tk8, h8⟩ := hC; exact ⟨tk8, (bU_n (by omega)).trans ((bU_n (by omega)).trans (h8))⟩) (by exact ((bU_n (by decide)).trans (((bU_n (by omega)).trans (hF))))) (fun q _ => (bU_n (by omega)).trans ((bU_n (by omega)).trans (rfl))) (by omega) (by omega)
  · rw [oAt_neg bD]
    show bV O _ d 5 [(0, .ref 32), (1, .int x)] [.null] (f, n, s) _
    refine r_astore_nN (n := 2) (i := 2) (L' := [(2, .null), (0, .ref 32), (1, .int x)]) rfl dX7_back_5 (by decide) rfl ?_
    refine r_aload_nN (n := 2) (i := 2) 0 rfl rfl dX7_back_6 ?_
    refine r_ifnonnullN dX7_back_7 ?_
    refine r_aload_n (n := 0) (i := 0) 1 rfl rfl dX7_back_10 ?_
    refine r_iconst (v := 1) (by decide) dX7_back_11 ?_
    refine p_callV (As := [.int 1]) (rest := []) (kX7_deny (O := O) (d := 0) (f := f) (n := n) (s := s) (ct_m := nI mc) (ct_d := nI dc) (ct_a := nI ac) (ct_f := nI dfn) (tday := nI td) (trb := tr) (flt := ft) (plc := pl) (x := 1) hS  (Nat.le_refl _)).call rfl lkX7_109 imX7_deny seX7_deny rfl hS rfl rfl (by omega) (Nat.le_of_ble_eq_true rfl) dX7_back_12 (fun v9 G9 h9 => ?_) (fun q9 G9 h9 => (by cases h9.1))
    obtain ⟨h8, rfl⟩ := h9; cases h8
    show bV O _ d 15 [(2, .null), (0, .ref 32), (1, .int x)] [.int 0] (bU f 32 (.inr (7, [.ref 33, .ref 38, .ref 40, .ref 41, .ref 42, .ref 43, .ref 44, .ref 45, .int (nI mc), .int (nI dc), .int (nI ac), .int (nI dfn), .int (nI td), .int 1, .int ft, .int pl])), n, s) _
    refine r_zreturn rfl (by first | decide +kernel | exact narZ _ | assumption) dX7_back_15 ?_
    unfold s_back
    try simp only []
    try (first | simp only [if_pos bD] | simp only [if_neg bD] | simp only [if_neg (Bool.eq_false_iff.mp bD)])
    exact pX_mk (by exact bU_s _ _ _) (hT.fr (fun q _ _ => (bU_n (by omega)).trans (rfl))) (hW.fr (fun q _ _ => (bU_n (by omega)).trans (rfl))) (hM.fr j1 (fun q _ => (bU_n (by omega)).trans (rfl))) (hD.fr j2 (fun q _ => (bU_n (by omega)).trans (rfl))) (hA.fr j3 (fun q _ => (bU_n (by omega)).trans (rfl))) (by exact ((bU_n (by decide)).trans (hI))) (by obtain ⟨tk8, h8⟩ := hC; exact ⟨tk8, (bU_n (by omega)).trans (h8)⟩) (by exact ((bU_n (by decide)).trans (hF))) (fun q _ => (bU_n (by omega)).trans (rfl)) (by omega) (by omega)
set_option maxRecDepth 4000 in
theorem x_champion {O : bO} {d : Nat} {f : bF} {n s : Nat} {bs : Nat → Int32} {tl : Nat} {mc : Nat} {md : Nat → MR} {ip : Nat → Int32} {dc : Nat} {dr : Nat → DR} {ac : Nat} {an : Nat → AR} {hs : Bool} {sd : Nat → Int32} {df : Nat → Int32} {dfn : Nat} {td : Nat} {tr : Int32} {ft : Int32} {pl : Int32} {x : Int32} {d_ : Int32} (hX : XR f (bs, tl, mc, md, ip, dc, dr, ac, an, hs, sd, df, dfn, td, tr, ft, pl)) (jX : JX (bs, tl, mc, md, ip, dc, dr, ac, an, hs, sd, df, dfn, td, tr, ft, pl))  (hd : 1 ≤ d) : bCall O mX7_champion d [.ref 32, .int x, .int d_] (f, n, s) (pX f n s 0 0 (s_champion (bs, tl, mc, md, ip, dc, dr, ac, an, hs, sd, df, dfn, td, tr, ft, pl) x d_)) := by
  refine bCall_of (by decide) rfl (Nat.le_of_ble_eq_true rfl) ?_
  obtain ⟨hS, hT, hW, hM, hD, hA, hI, hC, hF⟩ := id hX
  obtain ⟨j1, j2, j3, j4, j5, j6, j7, j8⟩ := id jX
  simp only [] at hS hT hW hM hD hA hI hC hF j1 j2 j3 j4 j5 j6 j7 j8
  show bV O _ d 0 [(0, .ref 32), (1, .int x), (2, .int d_)] [] (f, n, s) _
  refine r_aload_n (n := 0) (i := 0) 0 rfl rfl dX7_champion_0 ?_
  refine r_iload_n (n := 1) (i := 1) 1 rfl rfl dX7_champion_1 ?_
  refine p_callV (As := [.int x]) (rest := []) (kX7_doorAt (O := O) (d := 0) (f := f) (n := n) (s := s) (ct_m := nI mc) (ct_d := nI dc) (ct_a := nI ac) (ct_f := nI dfn) (tday := nI td) (trb := tr) (flt := ft) (plc := pl) (x := x) (nn := dc) hS hD.1 (by first | assumption | omega | decide) (Nat.le_refl _)).call rfl lkX7_126 imX7_doorAt seX7_doorAt rfl hS rfl rfl (by omega) (Nat.le_of_ble_eq_true rfl) dX7_champion_2 (fun v9 G9 h9 => ?_) (fun q9 G9 h9 => (by cases h9.1))
  obtain ⟨h8, rfl⟩ := h9; cases h8
  by_cases bD : inB x dc = true
  · rw [oAt_pos bD]
    have b1bD := dA_b (Nat.lt_of_lt_of_le (inB_lt bD) j2)
    show bV O _ d 5 [(0, .ref 32), (1, .int x), (2, .int d_)] [.ref (dA (cl x))] (f, n, s) _
    refine r_astore_n (n := 3) (i := 3) (L' := [(3, .ref (dA (cl x))), (0, .ref 32), (1, .int x), (2, .int d_)]) rfl dX7_champion_5 (by decide) rfl ?_
    refine r_aload_n (n := 3) (i := 3) 0 rfl rfl dX7_champion_6 ?_
    refine r_ifnull dX7_champion_7 ?_
    refine r_iload_n (n := 2) (i := 2) 3 rfl rfl dX7_champion_10 ?_
    refine r_if_lt (tgt := 22) (by decide) dX7_champion_11 (fun c11 => ?_) (fun c11 => ?_)
    · refine r_iconst (v := (-1)) (by decide) dX7_champion_22 ?_
      refine r_ireturn rfl dX7_champion_23 ?_
      unfold s_champion
      try simp only []
      try (first | simp only [if_pos bD] | simp only [if_neg bD] | simp only [if_neg (Bool.eq_false_iff.mp bD)])
      try (first | simp only [if_pos c11] | simp only [if_neg c11] | simp only [if_neg (Bool.eq_false_iff.mp c11)])
      exact pX_mk (hS) (hT.fr (fun q _ _ => rfl)) (hW.fr (fun q _ _ => rfl)) (hM.fr j1 (fun q _ => rfl)) (hD.fr j2 (fun q _ => rfl)) (hA.fr j3 (fun q _ => rfl)) (hI) (by obtain ⟨tk8, h8⟩ := hC; exact ⟨tk8, h8⟩) (hF) (fun q _ => rfl) (by omega) (by omega)
    · refine r_iload_n (n := 2) (i := 2) 3 rfl rfl dX7_champion_14 ?_
      refine r_aload_n (n := 0) (i := 0) 1 rfl rfl dX7_champion_15 ?_
      refine p_get (fs := [.ref 33, .ref 38, .ref 40, .ref 41, .ref 42, .ref 43, .ref 44, .ref 45, .int (nI mc), .int (nI dc), .int (nI ac), .int (nI dfn), .int (nI td), .int tr, .int ft, .int pl]) flX7_142 hS rfl dX7_champion_16 ?_
      refine r_icmp_le (tgt := 24) (by decide) dX7_champion_19 (fun c19 => ?_) (fun c19 => ?_)
      · refine r_aload_n (n := 3) (i := 3) 0 rfl rfl dX7_champion_24 ?_
        refine r_iload_n (n := 2) (i := 2) 3 rfl rfl dX7_champion_25 ?_
        refine p_callV (As := [.int d_]) (rest := []) (kX1_championOn (O := O) (d := 0) (f := f) (n := n) (s := s) (q := dA (cl x)) (ch := d_ch (dr (cl x))) (rv := d_rv (dr (cl x))) (sh := d_sh (dr (cl x))) (fc := d_fc (dr (cl x))) (cn := d_cn (dr (cl x))) (kp := d_kp (dr (cl x))) (rf := d_rf (dr (cl x))) (cd := d_cd (dr (cl x))) (ct := d_ct (dr (cl x))) (day := d_) (by exact (hD.2.1 _ (inB_lt bD)).1) (by exact (hD.2.1 _ (inB_lt bD)).2.2.2.2.1) (by exact (hD.2.1 _ (inB_lt bD)).2.2.2.2.2.1) (j8 _ (inB_lt bD)).2.1 (Nat.le_refl _)).call rfl lkX7_162 imX1_championOn seX1_championOn rfl (by exact (hD.2.1 _ (inB_lt bD)).1) rfl rfl (by omega) (Nat.le_of_ble_eq_true rfl) dX7_champion_26 (fun v9 G9 h9 => ?_) (fun q9 G9 h9 => (by cases h9.1))
        obtain ⟨h8, rfl⟩ := h9; cases h8
        show bV O _ d 29 [(3, .ref (dA (cl x))), (0, .ref 32), (1, .int x), (2, .int d_)] [.int (chF (d_cd (dr (cl x))) (d_ct (dr (cl x))) d_ (d_cn (dr (cl x))) 0 (-2))] (f, n, s) _
        refine r_ireturn rfl dX7_champion_29 ?_
        unfold s_champion
        try simp only []
        try (first | simp only [if_pos bD] | simp only [if_neg bD] | simp only [if_neg (Bool.eq_false_iff.mp bD)])
        try (first | simp only [if_pos c11] | simp only [if_neg c11] | simp only [if_neg (Bool.eq_false_iff.mp c11)])
        try (first | simp only [if_pos c19] | simp only [if_neg c19] | simp only [if_neg (Bool.eq_false_iff.mp c19)])
        exact pX_mk (hS) (hT.fr (fun q _ _ => rfl)) (hW.fr (fun q _ _ => rfl)) (hM.fr j1 (fun q _ => rfl)) (hD.fr j2 (fun q _ => rfl)) (hA.fr j3 (fun q _ => rfl)) (hI) (by obtain ⟨tk8, h8⟩ := hC; exact ⟨tk8, h8⟩) (hF) (fun q _ => rfl) (by omega) (by omega)
      · refine r_iconst (v := (-1)) (by decide) dX7_champion_22 ?_
        refine r_ireturn rfl dX7_champion_23 ?_
        unfold s_champion
        try simp only []
        try (first | simp only [if_pos bD] | simp only [if_neg bD] | simp only [if_neg (Bool.eq_false_iff.mp bD)])
        try (first | simp only [if_pos c11] | simp only [if_neg c11] | simp only [if_neg (Bool.eq_false_iff.mp c11)])
        try (first | simp only [if_pos c19] | simp only [if_neg c19] | simp only [if_neg (Bool.eq_false_iff.mp c19)])
        exact pX_mk (hS) (hT.fr (fun q _ _ => rfl)) (hW.fr (fun q _ _ => rfl)) (hM.fr j1 (fun q _ => rfl)) (hD.fr j2 (fun q _ => rfl)) (hA.fr j3 (fun q _ => rfl)) (hI) (by obtain ⟨tk8, h8⟩ := hC; exact ⟨tk8, h8⟩) (hF) (fun q _ => rfl) (by omega) (by omega)
  · rw [oAt_neg bD]
    show bV O _ d 5 [(0, .ref 32), (1, .int x), (2, .int d_)] [.null] (f, n, s) _
    refine r_astore_nN (n := 3) (i := 3) (L' := [(3, .null), (0, .ref 32), (1, .int x), (2, .int d_)]) rfl dX7_champion_5 (by decide) rfl ?_
    refine r_aload_nN (n := 3) (i := 3) 0 rfl rfl dX7_champion_6 ?_
    refine r_ifnullN (tgt := 22) (by decide) dX7_champion_7 ?_
    refine r_iconst (v := (-1)) (by decide) dX7_champion_22 ?_
    refine r_ireturn rfl dX7_champion_23 ?_
    unfold s_champion
    try simp only []
    try (first | simp only [if_pos bD] | simp only [if_neg bD] | simp only [if_neg (Bool.eq_false_iff.mp bD)])
    exact pX_mk (hS) (hT.fr (fun q _ _ => rfl)) (hW.fr (fun q _ _ => rfl)) (hM.fr j1 (fun q _ => rfl)) (hD.fr j2 (fun q _ => rfl)) (hA.fr j3 (fun q _ => rfl)) (hI) (by obtain ⟨tk8, h8⟩ := hC; exact ⟨tk8, h8⟩) (hF) (fun q _ => rfl) (by omega) (by omega)
set_option maxRecDepth 4000 in
theorem x_pass {O : bO} {d : Nat} {f : bF} {n s : Nat} {bs : Nat → Int32} {tl : Nat} {mc : Nat} {md : Nat → MR} {ip : Nat → Int32} {dc : Nat} {dr : Nat → DR} {ac : Nat} {an : Nat → AR} {hs : Bool} {sd : Nat → Int32} {df : Nat → Int32} {dfn : Nat} {td : Nat} {tr : Int32} {ft : Int32} {pl : Int32} {k : Int32} (hX : XR f (bs, tl, mc, md, ip, dc, dr, ac, an, hs, sd, df, dfn, td, tr, ft, pl)) (jX : JX (bs, tl, mc, md, ip, dc, dr, ac, an, hs, sd, df, dfn, td, tr, ft, pl))  (hd : 1 ≤ d) : bCall O mX7_pass d [.ref 32, .int k] (f, n, s) (pX f n s 0 0 (s_pass (bs, tl, mc, md, ip, dc, dr, ac, an, hs, sd, df, dfn, td, tr, ft, pl) k)) := by
  refine bCall_of (by decide) rfl (Nat.le_of_ble_eq_true rfl) ?_
  obtain ⟨hS, hT, hW, hM, hD, hA, hI, hC, hF⟩ := id hX
  obtain ⟨j1, j2, j3, j4, j5, j6, j7, j8⟩ := id jX
  simp only [] at hS hT hW hM hD hA hI hC hF j1 j2 j3 j4 j5 j6 j7 j8
  show bV O _ d 0 [(0, .ref 32), (1, .int k)] [] (f, n, s) _
  refine r_iload_n (n := 1) (i := 1) 1 rfl rfl dX7_pass_0 ?_
  refine r_iconst (v := 1) (by decide) dX7_pass_1 ?_
  refine r_icmp_lt (tgt := 24) (by decide) dX7_pass_2 (fun c2 => ?_) (fun c2 => ?_)
  · refine r_aload_n (n := 0) (i := 0) 0 rfl rfl dX7_pass_24 ?_
    refine r_iconst (v := 2) (by decide) dX7_pass_25 ?_
    refine p_callV (As := [.int 2]) (rest := []) (kX7_refuse (O := O) (d := 0) (f := f) (n := n) (s := s) (ct_m := nI mc) (ct_d := nI dc) (ct_a := nI ac) (ct_f := nI dfn) (tday := nI td) (trb := tr) (flt := ft) (plc := pl) (x := 2) hS  (Nat.le_refl _)).call rfl lkX7_71 imX7_refuse seX7_refuse rfl hS rfl rfl (by omega) (Nat.le_of_ble_eq_true rfl) dX7_pass_26 (fun v9 G9 h9 => ?_) (fun q9 G9 h9 => (by cases h9.1))
    obtain ⟨h8, rfl⟩ := h9; cases h8
    show bV O _ d 29 [(0, .ref 32), (1, .int k)] [.int (-1)] (bU f 32 (.inr (7, [.ref 33, .ref 38, .ref 40, .ref 41, .ref 42, .ref 43, .ref 44, .ref 45, .int (nI mc), .int (nI dc), .int (nI ac), .int (nI dfn), .int (nI td), .int 2, .int ft, .int pl])), n, s) _
    refine r_ireturn rfl dX7_pass_29 ?_
    try rw [show nI td + k = nI (td + cl k) by rw [← nI_add, nI_cl (fun h7 => c2 (Int32.lt_trans h7 (by decide)))]]
    unfold s_pass
    try simp only []
    try (first | simp only [if_pos c2] | simp only [if_neg c2] | simp only [if_neg (Bool.eq_false_iff.mp c2)])
    exact pX_mk (by exact bU_s _ _ _) (hT.fr (fun q _ _ => (bU_n (by omega)).trans (rfl))) (hW.fr (fun q _ _ => (bU_n (by omega)).trans (rfl))) (hM.fr j1 (fun q _ => (bU_n (by omega)).trans (rfl))) (hD.fr j2 (fun q _ => (bU_n (by omega)).trans (rfl))) (hA.fr j3 (fun q _ => (bU_n (by omega)).trans (rfl))) (by exact ((bU_n (by decide)).trans (hI))) (by obtain ⟨tk8, h8⟩ := hC; exact ⟨tk8, (bU_n (by omega)).trans (h8)⟩) (by exact ((bU_n (by decide)).trans (hF))) (fun q _ => (bU_n (by omega)).trans (rfl)) (by omega) (by omega)
  · refine r_iload_n (n := 1) (i := 1) 1 rfl rfl dX7_pass_5 ?_
    refine r_sipush (v := 400) (by decide) dX7_pass_6 ?_
    refine r_icmp_gt (tgt := 24) (by decide) dX7_pass_9 (fun c9 => ?_) (fun c9 => ?_)
    · refine r_aload_n (n := 0) (i := 0) 0 rfl rfl dX7_pass_24 ?_
      refine r_iconst (v := 2) (by decide) dX7_pass_25 ?_
      refine p_callV (As := [.int 2]) (rest := []) (kX7_refuse (O := O) (d := 0) (f := f) (n := n) (s := s) (ct_m := nI mc) (ct_d := nI dc) (ct_a := nI ac) (ct_f := nI dfn) (tday := nI td) (trb := tr) (flt := ft) (plc := pl) (x := 2) hS  (Nat.le_refl _)).call rfl lkX7_71 imX7_refuse seX7_refuse rfl hS rfl rfl (by omega) (Nat.le_of_ble_eq_true rfl) dX7_pass_26 (fun v9 G9 h9 => ?_) (fun q9 G9 h9 => (by cases h9.1))
      obtain ⟨h8, rfl⟩ := h9; cases h8
      show bV O _ d 29 [(0, .ref 32), (1, .int k)] [.int (-1)] (bU f 32 (.inr (7, [.ref 33, .ref 38, .ref 40, .ref 41, .ref 42, .ref 43, .ref 44, .ref 45, .int (nI mc), .int (nI dc), .int (nI ac), .int (nI dfn), .int (nI td), .int 2, .int ft, .int pl])), n, s) _
      refine r_ireturn rfl dX7_pass_29 ?_
      try rw [show nI td + k = nI (td + cl k) by rw [← nI_add, nI_cl (fun h7 => c2 (Int32.lt_trans h7 (by decide)))]]
      unfold s_pass
      try simp only []
      try (first | simp only [if_pos c2] | simp only [if_neg c2] | simp only [if_neg (Bool.eq_false_iff.mp c2)])
      try (first | simp only [if_pos c9] | simp only [if_neg c9] | simp only [if_neg (Bool.eq_false_iff.mp c9)])
      exact pX_mk (by exact bU_s _ _ _) (hT.fr (fun q _ _ => (bU_n (by omega)).trans (rfl))) (hW.fr (fun q _ _ => (bU_n (by omega)).trans (rfl))) (hM.fr j1 (fun q _ => (bU_n (by omega)).trans (rfl))) (hD.fr j2 (fun q _ => (bU_n (by omega)).trans (rfl))) (hA.fr j3 (fun q _ => (bU_n (by omega)).trans (rfl))) (by exact ((bU_n (by decide)).trans (hI))) (by obtain ⟨tk8, h8⟩ := hC; exact ⟨tk8, (bU_n (by omega)).trans (h8)⟩) (by exact ((bU_n (by decide)).trans (hF))) (fun q _ => (bU_n (by omega)).trans (rfl)) (by omega) (by omega)
    · refine r_iload_n (n := 1) (i := 1) 1 rfl rfl dX7_pass_12 ?_
      refine r_sipush (v := 2000) (by decide) dX7_pass_13 ?_
      refine r_aload_n (n := 0) (i := 0) 0 rfl rfl dX7_pass_16 ?_
      refine p_get (fs := [.ref 33, .ref 38, .ref 40, .ref 41, .ref 42, .ref 43, .ref 44, .ref 45, .int (nI mc), .int (nI dc), .int (nI ac), .int (nI dfn), .int (nI td), .int tr, .int ft, .int pl]) flX7_142 hS rfl dX7_pass_17 ?_
      refine r_isubE (v := nI (2000 - td)) (pk_sub (a := 2000) (b := td) (by omega)) dX7_pass_20 ?_
      refine r_icmp_le (tgt := 30) (by decide) dX7_pass_21 (fun c21 => ?_) (fun c21 => ?_)
      · refine r_aload_n (n := 0) (i := 0) 0 rfl rfl dX7_pass_30 ?_
        refine r_dup rfl dX7_pass_31 ?_
        refine p_get (fs := [.ref 33, .ref 38, .ref 40, .ref 41, .ref 42, .ref 43, .ref 44, .ref 45, .int (nI mc), .int (nI dc), .int (nI ac), .int (nI dfn), .int (nI td), .int tr, .int ft, .int pl]) flX7_142 hS rfl dX7_pass_32 ?_
        refine r_iload_n (n := 1) (i := 1) 1 rfl rfl dX7_pass_35 ?_
        refine r_iadd dX7_pass_36 ?_
        refine p_put (fs := [.ref 33, .ref 38, .ref 40, .ref 41, .ref 42, .ref 43, .ref 44, .ref 45, .int (nI mc), .int (nI dc), .int (nI ac), .int (nI dfn), .int (nI td), .int tr, .int ft, .int pl]) (fs' := [.ref 33, .ref 38, .ref 40, .ref 41, .ref 42, .ref 43, .ref 44, .ref 45, .int (nI mc), .int (nI dc), .int (nI ac), .int (nI dfn), .int ((nI td) + k), .int tr, .int ft, .int pl]) flX7_142 hS (Nat.le_of_ble_eq_true rfl) (bNf_i _) rfl dX7_pass_37 ?_
        refine r_aload_n (n := 0) (i := 0) 0 rfl rfl dX7_pass_40 ?_
        refine r_aload_n (n := 0) (i := 0) 0 rfl rfl dX7_pass_41 ?_
        refine p_get (fs := [.ref 33, .ref 38, .ref 40, .ref 41, .ref 42, .ref 43, .ref 44, .ref 45, .int (nI mc), .int (nI dc), .int (nI ac), .int (nI dfn), .int ((nI td) + k), .int tr, .int ft, .int pl]) flX7_142 (by exact bU_s _ _ _) rfl dX7_pass_42 ?_
        refine p_callV (As := [.int ((nI td) + k)]) (rest := []) (kX7_grant (O := O) (d := 0) (f := bU f 32 (.inr (7, [.ref 33, .ref 38, .ref 40, .ref 41, .ref 42, .ref 43, .ref 44, .ref 45, .int (nI mc), .int (nI dc), .int (nI ac), .int (nI dfn), .int ((nI td) + k), .int tr, .int ft, .int pl]))) (n := n) (s := s) (ct_m := nI mc) (ct_d := nI dc) (ct_a := nI ac) (ct_f := nI dfn) (tday := (nI td) + k) (trb := tr) (flt := ft) (plc := pl) (x := (nI td) + k) (by exact bU_s _ _ _)  (Nat.le_refl _)).call rfl lkX7_93 imX7_grant seX7_grant rfl (by exact bU_s _ _ _) rfl rfl (by omega) (Nat.le_of_ble_eq_true rfl) dX7_pass_45 (fun v9 G9 h9 => ?_) (fun q9 G9 h9 => (by cases h9.1))
        obtain ⟨h8, rfl⟩ := h9; cases h8
        refine bV_h (f2 := bU f 32 (.inr (7, [.ref 33, .ref 38, .ref 40, .ref 41, .ref 42, .ref 43, .ref 44, .ref 45, .int (nI mc), .int (nI dc), .int (nI ac), .int (nI dfn), .int ((nI td) + k), .int 0, .int ft, .int pl]))) (bU_u _ _ _ _) ?_
        show bV O _ d 48 [(0, .ref 32), (1, .int k)] [.int ((nI td) + k)] (bU f 32 (.inr (7, [.ref 33, .ref 38, .ref 40, .ref 41, .ref 42, .ref 43, .ref 44, .ref 45, .int (nI mc), .int (nI dc), .int (nI ac), .int (nI dfn), .int ((nI td) + k), .int 0, .int ft, .int pl])), n, s) _
        refine r_ireturn rfl dX7_pass_48 ?_
        try rw [show nI td + k = nI (td + cl k) by rw [← nI_add, nI_cl (fun h7 => c2 (Int32.lt_trans h7 (by decide)))]]
        unfold s_pass
        try simp only []
        try (first | simp only [if_pos c2] | simp only [if_neg c2] | simp only [if_neg (Bool.eq_false_iff.mp c2)])
        try (first | simp only [if_pos c9] | simp only [if_neg c9] | simp only [if_neg (Bool.eq_false_iff.mp c9)])
        try (first | simp only [if_pos c21] | simp only [if_neg c21] | simp only [if_neg (Bool.eq_false_iff.mp c21)])
        exact pX_mk (by exact bU_s _ _ _) (hT.fr (fun q _ _ => (bU_n (by omega)).trans (rfl))) (hW.fr (fun q _ _ => (bU_n (by omega)).trans (rfl))) (hM.fr j1 (fun q _ => (bU_n (by omega)).trans (rfl))) (⟨(hD.fr j2 (fun q _ => (bU_n (by omega)).trans (rfl))).1, fun i hi => (hD.fr j2 (fun q _ => (bU_n (by omega)).trans (rfl))).2.1 i hi, (hD.fr j2 (fun q _ => (bU_n (by omega)).trans (rfl))).2.2⟩) (hA.fr j3 (fun q _ => (bU_n (by omega)).trans (rfl))) (by exact ((bU_n (by decide)).trans (hI))) (by obtain ⟨tk8, h8⟩ := hC; exact ⟨tk8, (bU_n (by omega)).trans (h8)⟩) (by exact ((bU_n (by decide)).trans (hF))) (fun q _ => (bU_n (by omega)).trans (rfl)) (by omega) (by omega)
      · refine r_aload_n (n := 0) (i := 0) 0 rfl rfl dX7_pass_24 ?_
        refine r_iconst (v := 2) (by decide) dX7_pass_25 ?_
        refine p_callV (As := [.int 2]) (rest := []) (kX7_refuse (O := O) (d := 0) (f := f) (n := n) (s := s) (ct_m := nI mc) (ct_d := nI dc) (ct_a := nI ac) (ct_f := nI dfn) (tday := nI td) (trb := tr) (flt := ft) (plc := pl) (x := 2) hS  (Nat.le_refl _)).call rfl lkX7_71 imX7_refuse seX7_refuse rfl hS rfl rfl (by omega) (Nat.le_of_ble_eq_true rfl) dX7_pass_26 (fun v9 G9 h9 => ?_) (fun q9 G9 h9 => (by cases h9.1))
        obtain ⟨h8, rfl⟩ := h9; cases h8
        show bV O _ d 29 [(0, .ref 32), (1, .int k)] [.int (-1)] (bU f 32 (.inr (7, [.ref 33, .ref 38, .ref 40, .ref 41, .ref 42, .ref 43, .ref 44, .ref 45, .int (nI mc), .int (nI dc), .int (nI ac), .int (nI dfn), .int (nI td), .int 2, .int ft, .int pl])), n, s) _
        refine r_ireturn rfl dX7_pass_29 ?_
        try rw [show nI td + k = nI (td + cl k) by rw [← nI_add, nI_cl (fun h7 => c2 (Int32.lt_trans h7 (by decide)))]]
        unfold s_pass
        try simp only []
        try (first | simp only [if_pos c2] | simp only [if_neg c2] | simp only [if_neg (Bool.eq_false_iff.mp c2)])
        try (first | simp only [if_pos c9] | simp only [if_neg c9] | simp only [if_neg (Bool.eq_false_iff.mp c9)])
        try (first | simp only [if_pos c21] | simp only [if_neg c21] | simp only [if_neg (Bool.eq_false_iff.mp c21)])
        exact pX_mk (by exact bU_s _ _ _) (hT.fr (fun q _ _ => (bU_n (by omega)).trans (rfl))) (hW.fr (fun q _ _ => (bU_n (by omega)).trans (rfl))) (hM.fr j1 (fun q _ => (bU_n (by omega)).trans (rfl))) (hD.fr j2 (fun q _ => (bU_n (by omega)).trans (rfl))) (hA.fr j3 (fun q _ => (bU_n (by omega)).trans (rfl))) (by exact ((bU_n (by decide)).trans (hI))) (by obtain ⟨tk8, h8⟩ := hC; exact ⟨tk8, (bU_n (by omega)).trans (h8)⟩) (by exact ((bU_n (by decide)).trans (hF))) (fun q _ => (bU_n (by omega)).trans (rfl)) (by omega) (by omega)
set_option maxRecDepth 4000 in
theorem x_feed {O : bO} {d : Nat} {f : bF} {n s : Nat} {bs : Nat → Int32} {tl : Nat} {mc : Nat} {md : Nat → MR} {ip : Nat → Int32} {dc : Nat} {dr : Nat → DR} {ac : Nat} {an : Nat → AR} {hs : Bool} {sd : Nat → Int32} {df : Nat → Int32} {dfn : Nat} {td : Nat} {tr : Int32} {ft : Int32} {pl : Int32} {a : Int32} {b : Int32} {c : Int32} {d_ : Int32} {e : Int32} (hX : XR f (bs, tl, mc, md, ip, dc, dr, ac, an, hs, sd, df, dfn, td, tr, ft, pl)) (jX : JX (bs, tl, mc, md, ip, dc, dr, ac, an, hs, sd, df, dfn, td, tr, ft, pl))  (hd : 1 ≤ d) : bCall O mX7_feed d [.ref 32, .int a, .int b, .int c, .int d_, .int e] (f, n, s) (pX f n s 0 0 (s_feed (bs, tl, mc, md, ip, dc, dr, ac, an, hs, sd, df, dfn, td, tr, ft, pl) a b c d_ e)) := by
  refine bCall_of (by decide) rfl (Nat.le_of_ble_eq_true rfl) ?_
  obtain ⟨hS, hT, hW, hM, hD, hA, hI, hC, hF⟩ := id hX
  obtain ⟨j1, j2, j3, j4, j5, j6, j7, j8⟩ := id jX
  simp only [] at hS hT hW hM hD hA hI hC hF j1 j2 j3 j4 j5 j6 j7 j8
  obtain ⟨w9, m9, b9, q9, te9, tn9, tp9, tk9, tv9, ks9, vs9, h33, h34, h35, h36, h37⟩ := id hT
  show bV O _ d 0 [(0, .ref 32), (1, .int a), (2, .int b), (3, .int c), (4, .int d_), (5, .int e)] [] (f, n, s) _
  refine r_aload_n (n := 0) (i := 0) 0 rfl rfl dX7_feed_0 ?_
  refine p_get (fs := [.ref 33, .ref 38, .ref 40, .ref 41, .ref 42, .ref 43, .ref 44, .ref 45, .int (nI mc), .int (nI dc), .int (nI ac), .int (nI dfn), .int (nI td), .int tr, .int ft, .int pl]) flX7_12 hS rfl dX7_feed_1 ?_
  refine p_get (fs := [.ref 34, .ref 36, .ref 37, .int w9, .int m9, .int b9, .int q9]) flX7_57 h33 rfl dX7_feed_4 ?_
  refine r_astore (i := 6) (L' := [(6, .ref 34), (0, .ref 32), (1, .int a), (2, .int b), (3, .int c), (4, .int d_), (5, .int e)]) dX7_feed_7 (by decide) rfl ?_
  refine r_aload (i := 6) 0 rfl dX7_feed_9 ?_
  refine p_get (fs := [.ref 35, .int (nI tl), .int te9, .int tn9, .int tp9, .int tk9, .int tv9]) flX7_61 h34 rfl dX7_feed_11 ?_
  refine r_bipush (v := 20) (by decide) dX7_feed_14 ?_
  refine r_iaddE (v := nI (tl + 20)) (nI_add tl 20) dX7_feed_16 ?_
  refine r_sipush (v := 300) (by decide) dX7_feed_17 ?_
  refine r_icmp_le (tgt := 25) (by decide) dX7_feed_20 (fun c20 => ?_) (fun c20 => ?_)
  · have c20 : (tl + 20) ≤ 300 := (nI_leI (a := (tl + 20)) (b := 300) (by omega) (by omega)).mp c20
    refine r_aload (i := 6) 0 rfl dX7_feed_25 ?_
    refine r_iload_n (n := 1) (i := 1) 2 rfl rfl dX7_feed_27 ?_
    refine p_callV (As := [.int a]) (rest := []) (kX5_append (O := O) (d := 0) (f := f) (n := n) (s := s) (te := te9) (tn := tn9) (tp := tp9) (tk := tk9) (tv := tv9) (t := tl) (bs := bs) (v := a) h34 h35 (by first | assumption | omega | decide) (Nat.le_refl _)).call rfl lkX7_67 imX5_append seX5_append rfl h34 rfl rfl (by omega) (Nat.le_of_ble_eq_true rfl) dX7_feed_28 (fun v9 G9 h9 => ?_) (fun q9 G9 h9 => (by cases h9.1))
    obtain ⟨h8, rfl⟩ := h9; cases h8
    show bV O _ d 31 [(6, .ref 34), (0, .ref 32), (1, .int a), (2, .int b), (3, .int c), (4, .int d_), (5, .int e)] [] (bU (bU f 35 (.inl (0, 300, .inl (upd (upd (upd (upd bs tl (jSh a 24)) (tl + 1) (jSh a 16)) (tl + 2) (jSh a 8)) (tl + 3) (jSh a 0))))) 34 (.inr (5, [.ref 35, .int (nI (tl + 4)), .int te9, .int tn9, .int tp9, .int tk9, .int tv9])), n, s) _
    refine r_aload (i := 6) 0 rfl dX7_feed_31 ?_
    refine r_iload_n (n := 2) (i := 2) 3 rfl rfl dX7_feed_33 ?_
    refine p_callV (As := [.int b]) (rest := []) (kX5_append (O := O) (d := 0) (f := bU (bU f 35 (.inl (0, 300, .inl (upd (upd (upd (upd bs tl (jSh a 24)) (tl + 1) (jSh a 16)) (tl + 2) (jSh a 8)) (tl + 3) (jSh a 0))))) 34 (.inr (5, [.ref 35, .int (nI (tl + 4)), .int te9, .int tn9, .int tp9, .int tk9, .int tv9]))) (n := n) (s := s) (te := te9) (tn := tn9) (tp := tp9) (tk := tk9) (tv := tv9) (t := tl + 4) (bs := upd (upd (upd (upd bs tl (jSh a 24)) (tl + 1) (jSh a 16)) (tl + 2) (jSh a 8)) (tl + 3) (jSh a 0)) (v := b) (by exact bU_s _ _ _) (by exact ((bU_n (by decide)).trans (bU_s _ _ _))) (by first | assumption | omega | decide) (Nat.le_refl _)).call rfl lkX7_67 imX5_append seX5_append rfl (by exact bU_s _ _ _) rfl rfl (by omega) (Nat.le_of_ble_eq_true rfl) dX7_feed_34 (fun v9 G9 h9 => ?_) (fun q9 G9 h9 => (by cases h9.1))
    obtain ⟨h8, rfl⟩ := h9; cases h8
    refine bV_h (f2 := bU (bU f 35 (.inl (0, 300, .inl (upd (upd (upd (upd (upd (upd (upd (upd bs tl (jSh a 24)) (tl + 1) (jSh a 16)) (tl + 2) (jSh a 8)) (tl + 3) (jSh a 0)) (tl + 4) (jSh b 24)) ((tl + 4) + 1) (jSh b 16)) ((tl + 4) + 2) (jSh b 8)) ((tl + 4) + 3) (jSh b 0))))) 34 (.inr (5, [.ref 35, .int (nI ((tl + 4) + 4)), .int te9, .int tn9, .int tp9, .int tk9, .int tv9]))) (by funext z; simp only [bU]; repeat (first | rfl | split <;> try simp_all)) ?_
    show bV O _ d 37 [(6, .ref 34), (0, .ref 32), (1, .int a), (2, .int b), (3, .int c), (4, .int d_), (5, .int e)] [] (bU (bU f 35 (.inl (0, 300, .inl (upd (upd (upd (upd (upd (upd (upd (upd bs tl (jSh a 24)) (tl + 1) (jSh a 16)) (tl + 2) (jSh a 8)) (tl + 3) (jSh a 0)) (tl + 4) (jSh b 24)) ((tl + 4) + 1) (jSh b 16)) ((tl + 4) + 2) (jSh b 8)) ((tl + 4) + 3) (jSh b 0))))) 34 (.inr (5, [.ref 35, .int (nI ((tl + 4) + 4)), .int te9, .int tn9, .int tp9, .int tk9, .int tv9])), n, s) _
    refine r_aload (i := 6) 0 rfl dX7_feed_37 ?_
    refine r_iload_n (n := 3) (i := 3) 4 rfl rfl dX7_feed_39 ?_
    refine p_callV (As := [.int c]) (rest := []) (kX5_append (O := O) (d := 0) (f := bU (bU f 35 (.inl (0, 300, .inl (upd (upd (upd (upd (upd (upd (upd (upd bs tl (jSh a 24)) (tl + 1) (jSh a 16)) (tl + 2) (jSh a 8)) (tl + 3) (jSh a 0)) (tl + 4) (jSh b 24)) ((tl + 4) + 1) (jSh b 16)) ((tl + 4) + 2) (jSh b 8)) ((tl + 4) + 3) (jSh b 0))))) 34 (.inr (5, [.ref 35, .int (nI ((tl + 4) + 4)), .int te9, .int tn9, .int tp9, .int tk9, .int tv9]))) (n := n) (s := s) (te := te9) (tn := tn9) (tp := tp9) (tk := tk9) (tv := tv9) (t := (tl + 4) + 4) (bs := upd (upd (upd (upd (upd (upd (upd (upd bs tl (jSh a 24)) (tl + 1) (jSh a 16)) (tl + 2) (jSh a 8)) (tl + 3) (jSh a 0)) (tl + 4) (jSh b 24)) ((tl + 4) + 1) (jSh b 16)) ((tl + 4) + 2) (jSh b 8)) ((tl + 4) + 3) (jSh b 0)) (v := c) (by exact bU_s _ _ _) (by exact ((bU_n (by decide)).trans (bU_s _ _ _))) (by first | assumption | omega | decide) (Nat.le_refl _)).call rfl lkX7_67 imX5_append seX5_append rfl (by exact bU_s _ _ _) rfl rfl (by omega) (Nat.le_of_ble_eq_true rfl) dX7_feed_40 (fun v9 G9 h9 => ?_) (fun q9 G9 h9 => (by cases h9.1))
    obtain ⟨h8, rfl⟩ := h9; cases h8
    refine bV_h (f2 := bU (bU f 35 (.inl (0, 300, .inl (upd (upd (upd (upd (upd (upd (upd (upd (upd (upd (upd (upd bs tl (jSh a 24)) (tl + 1) (jSh a 16)) (tl + 2) (jSh a 8)) (tl + 3) (jSh a 0)) (tl + 4) (jSh b 24)) ((tl + 4) + 1) (jSh b 16)) ((tl + 4) + 2) (jSh b 8)) ((tl + 4) + 3) (jSh b 0)) ((tl + 4) + 4) (jSh c 24)) (((tl + 4) + 4) + 1) (jSh c 16)) (((tl + 4) + 4) + 2) (jSh c 8)) (((tl + 4) + 4) + 3) (jSh c 0))))) 34 (.inr (5, [.ref 35, .int (nI (((tl + 4) + 4) + 4)), .int te9, .int tn9, .int tp9, .int tk9, .int tv9]))) (by funext z; simp only [bU]; repeat (first | rfl | split <;> try simp_all)) ?_
    show bV O _ d 43 [(6, .ref 34), (0, .ref 32), (1, .int a), (2, .int b), (3, .int c), (4, .int d_), (5, .int e)] [] (bU (bU f 35 (.inl (0, 300, .inl (upd (upd (upd (upd (upd (upd (upd (upd (upd (upd (upd (upd bs tl (jSh a 24)) (tl + 1) (jSh a 16)) (tl + 2) (jSh a 8)) (tl + 3) (jSh a 0)) (tl + 4) (jSh b 24)) ((tl + 4) + 1) (jSh b 16)) ((tl + 4) + 2) (jSh b 8)) ((tl + 4) + 3) (jSh b 0)) ((tl + 4) + 4) (jSh c 24)) (((tl + 4) + 4) + 1) (jSh c 16)) (((tl + 4) + 4) + 2) (jSh c 8)) (((tl + 4) + 4) + 3) (jSh c 0))))) 34 (.inr (5, [.ref 35, .int (nI (((tl + 4) + 4) + 4)), .int te9, .int tn9, .int tp9, .int tk9, .int tv9])), n, s) _
    refine r_aload (i := 6) 0 rfl dX7_feed_43 ?_
    refine r_iload (i := 4) 5 rfl dX7_feed_45 ?_
    refine p_callV (As := [.int d_]) (rest := []) (kX5_append (O := O) (d := 0) (f := bU (bU f 35 (.inl (0, 300, .inl (upd (upd (upd (upd (upd (upd (upd (upd (upd (upd (upd (upd bs tl (jSh a 24)) (tl + 1) (jSh a 16)) (tl + 2) (jSh a 8)) (tl + 3) (jSh a 0)) (tl + 4) (jSh b 24)) ((tl + 4) + 1) (jSh b 16)) ((tl + 4) + 2) (jSh b 8)) ((tl + 4) + 3) (jSh b 0)) ((tl + 4) + 4) (jSh c 24)) (((tl + 4) + 4) + 1) (jSh c 16)) (((tl + 4) + 4) + 2) (jSh c 8)) (((tl + 4) + 4) + 3) (jSh c 0))))) 34 (.inr (5, [.ref 35, .int (nI (((tl + 4) + 4) + 4)), .int te9, .int tn9, .int tp9, .int tk9, .int tv9]))) (n := n) (s := s) (te := te9) (tn := tn9) (tp := tp9) (tk := tk9) (tv := tv9) (t := ((tl + 4) + 4) + 4) (bs := upd (upd (upd (upd (upd (upd (upd (upd (upd (upd (upd (upd bs tl (jSh a 24)) (tl + 1) (jSh a 16)) (tl + 2) (jSh a 8)) (tl + 3) (jSh a 0)) (tl + 4) (jSh b 24)) ((tl + 4) + 1) (jSh b 16)) ((tl + 4) + 2) (jSh b 8)) ((tl + 4) + 3) (jSh b 0)) ((tl + 4) + 4) (jSh c 24)) (((tl + 4) + 4) + 1) (jSh c 16)) (((tl + 4) + 4) + 2) (jSh c 8)) (((tl + 4) + 4) + 3) (jSh c 0)) (v := d_) (by exact bU_s _ _ _) (by exact ((bU_n (by decide)).trans (bU_s _ _ _))) (by first | assumption | omega | decide) (Nat.le_refl _)).call rfl lkX7_67 imX5_append seX5_append rfl (by exact bU_s _ _ _) rfl rfl (by omega) (Nat.le_of_ble_eq_true rfl) dX7_feed_47 (fun v9 G9 h9 => ?_) (fun q9 G9 h9 => (by cases h9.1))
    obtain ⟨h8, rfl⟩ := h9; cases h8
    refine bV_h (f2 := bU (bU f 35 (.inl (0, 300, .inl (upd (upd (upd (upd (upd (upd (upd (upd (upd (upd (upd (upd (upd (upd (upd (upd bs tl (jSh a 24)) (tl + 1) (jSh a 16)) (tl + 2) (jSh a 8)) (tl + 3) (jSh a 0)) (tl + 4) (jSh b 24)) ((tl + 4) + 1) (jSh b 16)) ((tl + 4) + 2) (jSh b 8)) ((tl + 4) + 3) (jSh b 0)) ((tl + 4) + 4) (jSh c 24)) (((tl + 4) + 4) + 1) (jSh c 16)) (((tl + 4) + 4) + 2) (jSh c 8)) (((tl + 4) + 4) + 3) (jSh c 0)) (((tl + 4) + 4) + 4) (jSh d_ 24)) ((((tl + 4) + 4) + 4) + 1) (jSh d_ 16)) ((((tl + 4) + 4) + 4) + 2) (jSh d_ 8)) ((((tl + 4) + 4) + 4) + 3) (jSh d_ 0))))) 34 (.inr (5, [.ref 35, .int (nI ((((tl + 4) + 4) + 4) + 4)), .int te9, .int tn9, .int tp9, .int tk9, .int tv9]))) (by funext z; simp only [bU]; repeat (first | rfl | split <;> try simp_all)) ?_
    show bV O _ d 50 [(6, .ref 34), (0, .ref 32), (1, .int a), (2, .int b), (3, .int c), (4, .int d_), (5, .int e)] [] (bU (bU f 35 (.inl (0, 300, .inl (upd (upd (upd (upd (upd (upd (upd (upd (upd (upd (upd (upd (upd (upd (upd (upd bs tl (jSh a 24)) (tl + 1) (jSh a 16)) (tl + 2) (jSh a 8)) (tl + 3) (jSh a 0)) (tl + 4) (jSh b 24)) ((tl + 4) + 1) (jSh b 16)) ((tl + 4) + 2) (jSh b 8)) ((tl + 4) + 3) (jSh b 0)) ((tl + 4) + 4) (jSh c 24)) (((tl + 4) + 4) + 1) (jSh c 16)) (((tl + 4) + 4) + 2) (jSh c 8)) (((tl + 4) + 4) + 3) (jSh c 0)) (((tl + 4) + 4) + 4) (jSh d_ 24)) ((((tl + 4) + 4) + 4) + 1) (jSh d_ 16)) ((((tl + 4) + 4) + 4) + 2) (jSh d_ 8)) ((((tl + 4) + 4) + 4) + 3) (jSh d_ 0))))) 34 (.inr (5, [.ref 35, .int (nI ((((tl + 4) + 4) + 4) + 4)), .int te9, .int tn9, .int tp9, .int tk9, .int tv9])), n, s) _
    refine r_aload (i := 6) 0 rfl dX7_feed_50 ?_
    refine r_iload (i := 5) 6 rfl dX7_feed_52 ?_
    refine p_callV (As := [.int e]) (rest := []) (kX5_append (O := O) (d := 0) (f := bU (bU f 35 (.inl (0, 300, .inl (upd (upd (upd (upd (upd (upd (upd (upd (upd (upd (upd (upd (upd (upd (upd (upd bs tl (jSh a 24)) (tl + 1) (jSh a 16)) (tl + 2) (jSh a 8)) (tl + 3) (jSh a 0)) (tl + 4) (jSh b 24)) ((tl + 4) + 1) (jSh b 16)) ((tl + 4) + 2) (jSh b 8)) ((tl + 4) + 3) (jSh b 0)) ((tl + 4) + 4) (jSh c 24)) (((tl + 4) + 4) + 1) (jSh c 16)) (((tl + 4) + 4) + 2) (jSh c 8)) (((tl + 4) + 4) + 3) (jSh c 0)) (((tl + 4) + 4) + 4) (jSh d_ 24)) ((((tl + 4) + 4) + 4) + 1) (jSh d_ 16)) ((((tl + 4) + 4) + 4) + 2) (jSh d_ 8)) ((((tl + 4) + 4) + 4) + 3) (jSh d_ 0))))) 34 (.inr (5, [.ref 35, .int (nI ((((tl + 4) + 4) + 4) + 4)), .int te9, .int tn9, .int tp9, .int tk9, .int tv9]))) (n := n) (s := s) (te := te9) (tn := tn9) (tp := tp9) (tk := tk9) (tv := tv9) (t := (((tl + 4) + 4) + 4) + 4) (bs := upd (upd (upd (upd (upd (upd (upd (upd (upd (upd (upd (upd (upd (upd (upd (upd bs tl (jSh a 24)) (tl + 1) (jSh a 16)) (tl + 2) (jSh a 8)) (tl + 3) (jSh a 0)) (tl + 4) (jSh b 24)) ((tl + 4) + 1) (jSh b 16)) ((tl + 4) + 2) (jSh b 8)) ((tl + 4) + 3) (jSh b 0)) ((tl + 4) + 4) (jSh c 24)) (((tl + 4) + 4) + 1) (jSh c 16)) (((tl + 4) + 4) + 2) (jSh c 8)) (((tl + 4) + 4) + 3) (jSh c 0)) (((tl + 4) + 4) + 4) (jSh d_ 24)) ((((tl + 4) + 4) + 4) + 1) (jSh d_ 16)) ((((tl + 4) + 4) + 4) + 2) (jSh d_ 8)) ((((tl + 4) + 4) + 4) + 3) (jSh d_ 0)) (v := e) (by exact bU_s _ _ _) (by exact ((bU_n (by decide)).trans (bU_s _ _ _))) (by first | assumption | omega | decide) (Nat.le_refl _)).call rfl lkX7_67 imX5_append seX5_append rfl (by exact bU_s _ _ _) rfl rfl (by omega) (Nat.le_of_ble_eq_true rfl) dX7_feed_54 (fun v9 G9 h9 => ?_) (fun q9 G9 h9 => (by cases h9.1))
    obtain ⟨h8, rfl⟩ := h9; cases h8
    refine bV_h (f2 := bU (bU f 35 (.inl (0, 300, .inl (upd (upd (upd (upd (upd (upd (upd (upd (upd (upd (upd (upd (upd (upd (upd (upd (upd (upd (upd (upd bs tl (jSh a 24)) (tl + 1) (jSh a 16)) (tl + 2) (jSh a 8)) (tl + 3) (jSh a 0)) (tl + 4) (jSh b 24)) ((tl + 4) + 1) (jSh b 16)) ((tl + 4) + 2) (jSh b 8)) ((tl + 4) + 3) (jSh b 0)) ((tl + 4) + 4) (jSh c 24)) (((tl + 4) + 4) + 1) (jSh c 16)) (((tl + 4) + 4) + 2) (jSh c 8)) (((tl + 4) + 4) + 3) (jSh c 0)) (((tl + 4) + 4) + 4) (jSh d_ 24)) ((((tl + 4) + 4) + 4) + 1) (jSh d_ 16)) ((((tl + 4) + 4) + 4) + 2) (jSh d_ 8)) ((((tl + 4) + 4) + 4) + 3) (jSh d_ 0)) ((((tl + 4) + 4) + 4) + 4) (jSh e 24)) (((((tl + 4) + 4) + 4) + 4) + 1) (jSh e 16)) (((((tl + 4) + 4) + 4) + 4) + 2) (jSh e 8)) (((((tl + 4) + 4) + 4) + 4) + 3) (jSh e 0))))) 34 (.inr (5, [.ref 35, .int (nI (((((tl + 4) + 4) + 4) + 4) + 4)), .int te9, .int tn9, .int tp9, .int tk9, .int tv9]))) (by funext z; simp only [bU]; repeat (first | rfl | split <;> try simp_all)) ?_
    show bV O _ d 57 [(6, .ref 34), (0, .ref 32), (1, .int a), (2, .int b), (3, .int c), (4, .int d_), (5, .int e)] [] (bU (bU f 35 (.inl (0, 300, .inl (upd (upd (upd (upd (upd (upd (upd (upd (upd (upd (upd (upd (upd (upd (upd (upd (upd (upd (upd (upd bs tl (jSh a 24)) (tl + 1) (jSh a 16)) (tl + 2) (jSh a 8)) (tl + 3) (jSh a 0)) (tl + 4) (jSh b 24)) ((tl + 4) + 1) (jSh b 16)) ((tl + 4) + 2) (jSh b 8)) ((tl + 4) + 3) (jSh b 0)) ((tl + 4) + 4) (jSh c 24)) (((tl + 4) + 4) + 1) (jSh c 16)) (((tl + 4) + 4) + 2) (jSh c 8)) (((tl + 4) + 4) + 3) (jSh c 0)) (((tl + 4) + 4) + 4) (jSh d_ 24)) ((((tl + 4) + 4) + 4) + 1) (jSh d_ 16)) ((((tl + 4) + 4) + 4) + 2) (jSh d_ 8)) ((((tl + 4) + 4) + 4) + 3) (jSh d_ 0)) ((((tl + 4) + 4) + 4) + 4) (jSh e 24)) (((((tl + 4) + 4) + 4) + 4) + 1) (jSh e 16)) (((((tl + 4) + 4) + 4) + 4) + 2) (jSh e 8)) (((((tl + 4) + 4) + 4) + 4) + 3) (jSh e 0))))) 34 (.inr (5, [.ref 35, .int (nI (((((tl + 4) + 4) + 4) + 4) + 4)), .int te9, .int tn9, .int tp9, .int tk9, .int tv9])), n, s) _
    refine r_aload (i := 6) 0 rfl dX7_feed_57 ?_
    refine p_get (fs := [.ref 35, .int (nI (((((tl + 4) + 4) + 4) + 4) + 4)), .int te9, .int tn9, .int tp9, .int tk9, .int tv9]) flX7_61 (by exact bU_s _ _ _) rfl dX7_feed_59 ?_
    refine r_ireturn rfl dX7_feed_62 ?_
    unfold s_feed
    try simp only []
    try (first | simp only [if_pos c20] | simp only [if_neg c20] | simp only [if_neg (Bool.eq_false_iff.mp c20)])
    exact pX_mk (by exact ((bU_n (by decide)).trans (((bU_n (by decide)).trans (hS))))) (⟨_, _, _, _, _, _, _, _, _, _, _, (by exact ((bU_n (by decide)).trans (((bU_n (by decide)).trans (h33))))), (by exact bU_s _ _ _), (by exact ((bU_n (by decide)).trans (bU_s _ _ _))), (by exact ((bU_n (by decide)).trans (((bU_n (by decide)).trans (h36))))), (by exact ((bU_n (by decide)).trans (((bU_n (by decide)).trans (h37)))))⟩) (hW.fr (fun q _ _ => (bU_n (by omega)).trans ((bU_n (by omega)).trans (rfl)))) (hM.fr j1 (fun q _ => (bU_n (by omega)).trans ((bU_n (by omega)).trans (rfl)))) (hD.fr j2 (fun q _ => (bU_n (by omega)).trans ((bU_n (by omega)).trans (rfl)))) (hA.fr j3 (fun q _ => (bU_n (by omega)).trans ((bU_n (by omega)).trans (rfl)))) (by exact ((bU_n (by decide)).trans (((bU_n (by decide)).trans (hI))))) (by obtain ⟨tk8, h8⟩ := hC; exact ⟨tk8, (bU_n (by omega)).trans ((bU_n (by omega)).trans (h8))⟩) (by exact ((bU_n (by decide)).trans (((bU_n (by decide)).trans (hF))))) (fun q _ => (bU_n (by omega)).trans ((bU_n (by omega)).trans (rfl))) (by omega) (by omega)
  · have c20 : ¬ (tl + 20) ≤ 300 := fun h7 => c20 ((nI_leI (a := (tl + 20)) (b := 300) (by omega) (by omega)).mpr h7)
    refine r_iconst (v := (-1)) (by decide) dX7_feed_23 ?_
    refine r_ireturn rfl dX7_feed_24 ?_
    unfold s_feed
    try simp only []
    try (first | simp only [if_pos c20] | simp only [if_neg c20] | simp only [if_neg (Bool.eq_false_iff.mp c20)])
    exact pX_mk (hS) (hT.fr (fun q _ _ => rfl)) (hW.fr (fun q _ _ => rfl)) (hM.fr j1 (fun q _ => rfl)) (hD.fr j2 (fun q _ => rfl)) (hA.fr j3 (fun q _ => rfl)) (hI) (by obtain ⟨tk8, h8⟩ := hC; exact ⟨tk8, h8⟩) (hF) (fun q _ => rfl) (by omega) (by omega)
set_option maxRecDepth 4000 in
theorem x_seen {O : bO} {d : Nat} {f : bF} {n s : Nat} {bs : Nat → Int32} {tl : Nat} {mc : Nat} {md : Nat → MR} {ip : Nat → Int32} {dc : Nat} {dr : Nat → DR} {ac : Nat} {an : Nat → AR} {hs : Bool} {sd : Nat → Int32} {df : Nat → Int32} {dfn : Nat} {td : Nat} {tr : Int32} {ft : Int32} {pl : Int32} {x : Int32} {k : Int32} {b : Int32} (hX : XR f (bs, tl, mc, md, ip, dc, dr, ac, an, hs, sd, df, dfn, td, tr, ft, pl)) (jX : JX (bs, tl, mc, md, ip, dc, dr, ac, an, hs, sd, df, dfn, td, tr, ft, pl))  (hd : 2 ≤ d) : bCall O mX7_seen d [.ref 32, .int x, .int k, .int b] (f, n, s) (pX f n s 0 0 (s_seen (bs, tl, mc, md, ip, dc, dr, ac, an, hs, sd, df, dfn, td, tr, ft, pl) x k b)) := by
  refine bCall_of (by decide) rfl (Nat.le_of_ble_eq_true rfl) ?_
  obtain ⟨hS, hT, hW, hM, hD, hA, hI, hC, hF⟩ := id hX
  obtain ⟨j1, j2, j3, j4, j5, j6, j7, j8⟩ := id jX
  simp only [] at hS hT hW hM hD hA hI hC hF j1 j2 j3 j4 j5 j6 j7 j8
  show bV O _ d 0 [(0, .ref 32), (1, .int x), (2, .int k), (3, .int b)] [] (f, n, s) _
  refine r_aload_n (n := 0) (i := 0) 0 rfl rfl dX7_seen_0 ?_
  refine r_iload_n (n := 1) (i := 1) 1 rfl rfl dX7_seen_1 ?_
  refine p_callV (As := [.int x]) (rest := []) (kX7_doorAt (O := O) (d := 0) (f := f) (n := n) (s := s) (ct_m := nI mc) (ct_d := nI dc) (ct_a := nI ac) (ct_f := nI dfn) (tday := nI td) (trb := tr) (flt := ft) (plc := pl) (x := x) (nn := dc) hS hD.1 (by first | assumption | omega | decide) (Nat.le_refl _)).call rfl lkX7_126 imX7_doorAt seX7_doorAt rfl hS rfl rfl (by omega) (Nat.le_of_ble_eq_true rfl) dX7_seen_2 (fun v9 G9 h9 => ?_) (fun q9 G9 h9 => (by cases h9.1))
  obtain ⟨h8, rfl⟩ := h9; cases h8
  by_cases bD : inB x dc = true
  · rw [oAt_pos bD]
    have b1bD := dA_b (Nat.lt_of_lt_of_le (inB_lt bD) j2)
    show bV O _ d 5 [(0, .ref 32), (1, .int x), (2, .int k), (3, .int b)] [.ref (dA (cl x))] (f, n, s) _
    refine r_astore (i := 4) (L' := [(4, .ref (dA (cl x))), (0, .ref 32), (1, .int x), (2, .int k), (3, .int b)]) dX7_seen_5 (by decide) rfl ?_
    refine r_aload (i := 4) 0 rfl dX7_seen_7 ?_
    refine r_ifnull dX7_seen_9 ?_
    refine r_iload_n (n := 2) (i := 2) 3 rfl rfl dX7_seen_12 ?_
    refine r_iload_n (n := 3) (i := 3) 4 rfl rfl dX7_seen_13 ?_
    refine p_callS (As := [.int k, .int b]) (rest := []) (kX7_isBin (O := O) (d := 0) (f := f) (n := n) (s := s) (k := k) (b := b)   (Nat.le_refl _)).call rfl lkX7_257 smX7_isBin rfl rfl (by omega) (Nat.le_of_ble_eq_true rfl) dX7_seen_14 (fun v9 G9 h9 => ?_) (fun q9 G9 h9 => (by cases h9.1))
    obtain ⟨h8, rfl⟩ := h9; cases h8
    show bV O _ d 17 [(4, .ref (dA (cl x))), (0, .ref 32), (1, .int x), (2, .int k), (3, .int b)] [.int (bI (jBin k b))] (f, n, s) _
    refine r_if_ne (tgt := 22) (by decide) dX7_seen_17 (fun c17 => ?_) (fun c17 => ?_)
    · have c17 := bI_1.mp c17
      refine r_aload (i := 4) 0 rfl dX7_seen_22 ?_
      refine r_iload_n (n := 2) (i := 2) 3 rfl rfl dX7_seen_24 ?_
      refine r_iload_n (n := 3) (i := 3) 4 rfl rfl dX7_seen_25 ?_
      refine p_callV (As := [.int k, .int b]) (rest := []) (kX1_seenInG (O := O) (d := 1) (f := f) (n := n) (s := s) (q := dA (cl x)) (ch := d_ch (dr (cl x))) (rv := d_rv (dr (cl x))) (sh := d_sh (dr (cl x))) (fc := d_fc (dr (cl x))) (cn := d_cn (dr (cl x))) (kp := d_kp (dr (cl x))) (rf := d_rf (dr (cl x))) (g := d_sn (dr (cl x))) (k := k) (b := b) (by exact (hD.2.1 _ (inB_lt bD)).1) (by exact (hD.2.1 _ (inB_lt bD)).2.2.2.2.2.2.1) c17 (Nat.le_refl _)).call rfl lkX7_267 imX1_seenIn seX1_seenIn rfl (by exact (hD.2.1 _ (inB_lt bD)).1) rfl rfl (by omega) (Nat.le_of_ble_eq_true rfl) dX7_seen_26 (fun v9 G9 h9 => ?_) (fun q9 G9 h9 => (by cases h9.1))
      obtain ⟨h8, rfl⟩ := h9; cases h8
      show bV O _ d 29 [(4, .ref (dA (cl x))), (0, .ref 32), (1, .int x), (2, .int k), (3, .int b)] [.int ((d_sn (dr (cl x))) (cl k * 4 + cl b))] (f, n, s) _
      refine r_ireturn rfl dX7_seen_29 ?_
      unfold s_seen
      try simp only []
      try (first | simp only [if_pos bD] | simp only [if_neg bD] | simp only [if_neg (Bool.eq_false_iff.mp bD)])
      try (first | simp only [if_pos c17] | simp only [if_neg c17] | simp only [if_neg (Bool.eq_false_iff.mp c17)])
      exact pX_mk (hS) (hT.fr (fun q _ _ => rfl)) (hW.fr (fun q _ _ => rfl)) (hM.fr j1 (fun q _ => rfl)) (hD.fr j2 (fun q _ => rfl)) (hA.fr j3 (fun q _ => rfl)) (hI) (by obtain ⟨tk8, h8⟩ := hC; exact ⟨tk8, h8⟩) (hF) (fun q _ => rfl) (by omega) (by omega)
    · have c17 := bI_0.mp c17
      refine r_iconst (v := (-1)) (by decide) dX7_seen_20 ?_
      refine r_ireturn rfl dX7_seen_21 ?_
      unfold s_seen
      try simp only []
      try (first | simp only [if_pos bD] | simp only [if_neg bD] | simp only [if_neg (Bool.eq_false_iff.mp bD)])
      try (first | simp only [if_pos c17] | simp only [if_neg c17] | simp only [if_neg (Bool.eq_false_iff.mp c17)])
      exact pX_mk (hS) (hT.fr (fun q _ _ => rfl)) (hW.fr (fun q _ _ => rfl)) (hM.fr j1 (fun q _ => rfl)) (hD.fr j2 (fun q _ => rfl)) (hA.fr j3 (fun q _ => rfl)) (hI) (by obtain ⟨tk8, h8⟩ := hC; exact ⟨tk8, h8⟩) (hF) (fun q _ => rfl) (by omega) (by omega)
  · rw [oAt_neg bD]
    show bV O _ d 5 [(0, .ref 32), (1, .int x), (2, .int k), (3, .int b)] [.null] (f, n, s) _
    refine r_astoreN (i := 4) (L' := [(4, .null), (0, .ref 32), (1, .int x), (2, .int k), (3, .int b)]) dX7_seen_5 (by decide) rfl ?_
    refine r_aloadN (i := 4) 0 rfl dX7_seen_7 ?_
    refine r_ifnullN (tgt := 20) (by decide) dX7_seen_9 ?_
    refine r_iconst (v := (-1)) (by decide) dX7_seen_20 ?_
    refine r_ireturn rfl dX7_seen_21 ?_
    unfold s_seen
    try simp only []
    try (first | simp only [if_pos bD] | simp only [if_neg bD] | simp only [if_neg (Bool.eq_false_iff.mp bD)])
    exact pX_mk (hS) (hT.fr (fun q _ _ => rfl)) (hW.fr (fun q _ _ => rfl)) (hM.fr j1 (fun q _ => rfl)) (hD.fr j2 (fun q _ => rfl)) (hA.fr j3 (fun q _ => rfl)) (hI) (by obtain ⟨tk8, h8⟩ := hC; exact ⟨tk8, h8⟩) (hF) (fun q _ => rfl) (by omega) (by omega)
set_option maxRecDepth 4000 in
theorem x_drift {O : bO} {d : Nat} {f : bF} {n s : Nat} {bs : Nat → Int32} {tl : Nat} {mc : Nat} {md : Nat → MR} {ip : Nat → Int32} {dc : Nat} {dr : Nat → DR} {ac : Nat} {an : Nat → AR} {hs : Bool} {sd : Nat → Int32} {df : Nat → Int32} {dfn : Nat} {td : Nat} {tr : Int32} {ft : Int32} {pl : Int32} {x : Int32} {k : Int32} (hX : XR f (bs, tl, mc, md, ip, dc, dr, ac, an, hs, sd, df, dfn, td, tr, ft, pl)) (jX : JX (bs, tl, mc, md, ip, dc, dr, ac, an, hs, sd, df, dfn, td, tr, ft, pl))  (hd : 3 ≤ d) : bCall O mX7_drift d [.ref 32, .int x, .int k] (f, n, s) (pX f n s 0 0 (s_drift (bs, tl, mc, md, ip, dc, dr, ac, an, hs, sd, df, dfn, td, tr, ft, pl) x k)) := by
  refine bCall_of (by decide) rfl (Nat.le_of_ble_eq_true rfl) ?_
  obtain ⟨hS, hT, hW, hM, hD, hA, hI, hC, hF⟩ := id hX
  obtain ⟨j1, j2, j3, j4, j5, j6, j7, j8⟩ := id jX
  simp only [] at hS hT hW hM hD hA hI hC hF j1 j2 j3 j4 j5 j6 j7 j8
  show bV O _ d 0 [(0, .ref 32), (1, .int x), (2, .int k)] [] (f, n, s) _
  refine r_aload_n (n := 0) (i := 0) 0 rfl rfl dX7_drift_0 ?_
  refine r_iload_n (n := 1) (i := 1) 1 rfl rfl dX7_drift_1 ?_
  refine p_callV (As := [.int x]) (rest := []) (kX7_doorAt (O := O) (d := 0) (f := f) (n := n) (s := s) (ct_m := nI mc) (ct_d := nI dc) (ct_a := nI ac) (ct_f := nI dfn) (tday := nI td) (trb := tr) (flt := ft) (plc := pl) (x := x) (nn := dc) hS hD.1 (by first | assumption | omega | decide) (Nat.le_refl _)).call rfl lkX7_126 imX7_doorAt seX7_doorAt rfl hS rfl rfl (by omega) (Nat.le_of_ble_eq_true rfl) dX7_drift_2 (fun v9 G9 h9 => ?_) (fun q9 G9 h9 => (by cases h9.1))
  obtain ⟨h8, rfl⟩ := h9; cases h8
  by_cases bD : inB x dc = true
  · rw [oAt_pos bD]
    have b1bD := dA_b (Nat.lt_of_lt_of_le (inB_lt bD) j2)
    show bV O _ d 5 [(0, .ref 32), (1, .int x), (2, .int k)] [.ref (dA (cl x))] (f, n, s) _
    refine r_astore_n (n := 3) (i := 3) (L' := [(3, .ref (dA (cl x))), (0, .ref 32), (1, .int x), (2, .int k)]) rfl dX7_drift_5 (by decide) rfl ?_
    refine r_aload_n (n := 3) (i := 3) 0 rfl rfl dX7_drift_6 ?_
    refine r_ifnull dX7_drift_7 ?_
    refine r_iload_n (n := 2) (i := 2) 3 rfl rfl dX7_drift_10 ?_
    refine r_if_lt (tgt := 20) (by decide) dX7_drift_11 (fun c11 => ?_) (fun c11 => ?_)
    · refine r_iconst (v := (-1)) (by decide) dX7_drift_20 ?_
      refine r_ireturn rfl dX7_drift_21 ?_
      unfold s_drift
      try simp only []
      try (first | simp only [if_pos bD] | simp only [if_neg bD] | simp only [if_neg (Bool.eq_false_iff.mp bD)])
      try (first | simp only [if_pos c11] | simp only [if_neg c11] | simp only [if_neg (Bool.eq_false_iff.mp c11)])
      exact pX_mk (hS) (hT.fr (fun q _ _ => rfl)) (hW.fr (fun q _ _ => rfl)) (hM.fr j1 (fun q _ => rfl)) (hD.fr j2 (fun q _ => rfl)) (hA.fr j3 (fun q _ => rfl)) (hI) (by obtain ⟨tk8, h8⟩ := hC; exact ⟨tk8, h8⟩) (hF) (fun q _ => rfl) (by omega) (by omega)
    · refine r_iload_n (n := 2) (i := 2) 3 rfl rfl dX7_drift_14 ?_
      refine r_bipush (v := 6) (by decide) dX7_drift_15 ?_
      refine r_icmp_lt (tgt := 22) (by decide) dX7_drift_17 (fun c17 => ?_) (fun c17 => ?_)
      · refine r_aload_n (n := 3) (i := 3) 0 rfl rfl dX7_drift_22 ?_
        refine r_iload_n (n := 2) (i := 2) 3 rfl rfl dX7_drift_23 ?_
        refine p_callV (As := [.int k]) (rest := []) (kX1_driftOfG (O := O) (d := 2) (f := f) (n := n) (s := s) (q := dA (cl x)) (ch := d_ch (dr (cl x))) (rv := d_rv (dr (cl x))) (sh := d_sh (dr (cl x))) (fc := d_fc (dr (cl x))) (cn := d_cn (dr (cl x))) (kp := d_kp (dr (cl x))) (rf := d_rf (dr (cl x))) (sn := d_sn (dr (cl x))) (tl := d_tl (dr (cl x))) (k := k) (by exact (hD.2.1 _ (inB_lt bD)).1) (by exact (hD.2.1 _ (inB_lt bD)).2.2.2.2.2.2.1) (by exact (hD.2.1 _ (inB_lt bD)).2.2.2.2.2.2.2) c11 (cl_lt c11 (N := 6) (Int32.not_le.mpr c17) (by decide)) ((j8 _ (inB_lt bD)).2.2.2 _ (cl_lt c11 (N := 6) (Int32.not_le.mpr c17) (by decide))) (Nat.le_refl _)).call rfl lkX7_264 imX1_driftOf seX1_driftOf rfl (by exact (hD.2.1 _ (inB_lt bD)).1) rfl rfl (by omega) (Nat.le_of_ble_eq_true rfl) dX7_drift_24 (fun v9 G9 h9 => ?_) (fun q9 G9 h9 => (by cases h9.1))
        obtain ⟨h8, rfl⟩ := h9; cases h8
        show bV O _ d 27 [(3, .ref (dA (cl x))), (0, .ref 32), (1, .int x), (2, .int k)] [.int (jDrift (d_sn (dr (cl x))) (d_tl (dr (cl x))) (cl k))] (f, n, s) _
        refine r_ireturn rfl dX7_drift_27 ?_
        unfold s_drift
        try simp only []
        try (first | simp only [if_pos bD] | simp only [if_neg bD] | simp only [if_neg (Bool.eq_false_iff.mp bD)])
        try (first | simp only [if_pos c11] | simp only [if_neg c11] | simp only [if_neg (Bool.eq_false_iff.mp c11)])
        try (first | simp only [if_pos c17] | simp only [if_neg c17] | simp only [if_neg (Bool.eq_false_iff.mp c17)])
        exact pX_mk (hS) (hT.fr (fun q _ _ => rfl)) (hW.fr (fun q _ _ => rfl)) (hM.fr j1 (fun q _ => rfl)) (hD.fr j2 (fun q _ => rfl)) (hA.fr j3 (fun q _ => rfl)) (hI) (by obtain ⟨tk8, h8⟩ := hC; exact ⟨tk8, h8⟩) (hF) (fun q _ => rfl) (by omega) (by omega)
      · refine r_iconst (v := (-1)) (by decide) dX7_drift_20 ?_
        refine r_ireturn rfl dX7_drift_21 ?_
        unfold s_drift
        try simp only []
        try (first | simp only [if_pos bD] | simp only [if_neg bD] | simp only [if_neg (Bool.eq_false_iff.mp bD)])
        try (first | simp only [if_pos c11] | simp only [if_neg c11] | simp only [if_neg (Bool.eq_false_iff.mp c11)])
        try (first | simp only [if_pos c17] | simp only [if_neg c17] | simp only [if_neg (Bool.eq_false_iff.mp c17)])
        exact pX_mk (hS) (hT.fr (fun q _ _ => rfl)) (hW.fr (fun q _ _ => rfl)) (hM.fr j1 (fun q _ => rfl)) (hD.fr j2 (fun q _ => rfl)) (hA.fr j3 (fun q _ => rfl)) (hI) (by obtain ⟨tk8, h8⟩ := hC; exact ⟨tk8, h8⟩) (hF) (fun q _ => rfl) (by omega) (by omega)
  · rw [oAt_neg bD]
    show bV O _ d 5 [(0, .ref 32), (1, .int x), (2, .int k)] [.null] (f, n, s) _
    refine r_astore_nN (n := 3) (i := 3) (L' := [(3, .null), (0, .ref 32), (1, .int x), (2, .int k)]) rfl dX7_drift_5 (by decide) rfl ?_
    refine r_aload_nN (n := 3) (i := 3) 0 rfl rfl dX7_drift_6 ?_
    refine r_ifnullN (tgt := 20) (by decide) dX7_drift_7 ?_
    refine r_iconst (v := (-1)) (by decide) dX7_drift_20 ?_
    refine r_ireturn rfl dX7_drift_21 ?_
    unfold s_drift
    try simp only []
    try (first | simp only [if_pos bD] | simp only [if_neg bD] | simp only [if_neg (Bool.eq_false_iff.mp bD)])
    exact pX_mk (hS) (hT.fr (fun q _ _ => rfl)) (hW.fr (fun q _ _ => rfl)) (hM.fr j1 (fun q _ => rfl)) (hD.fr j2 (fun q _ => rfl)) (hA.fr j3 (fun q _ => rfl)) (hI) (by obtain ⟨tk8, h8⟩ := hC; exact ⟨tk8, h8⟩) (hF) (fun q _ => rfl) (by omega) (by omega)
set_option maxRecDepth 4000 in
theorem x_expect {O : bO} {d : Nat} {f : bF} {n s : Nat} {bs : Nat → Int32} {tl : Nat} {mc : Nat} {md : Nat → MR} {ip : Nat → Int32} {dc : Nat} {dr : Nat → DR} {ac : Nat} {an : Nat → AR} {hs : Bool} {sd : Nat → Int32} {df : Nat → Int32} {dfn : Nat} {td : Nat} {tr : Int32} {ft : Int32} {pl : Int32} {x : Int32} {k : Int32} {b : Int32} {v : Int32} (hX : XR f (bs, tl, mc, md, ip, dc, dr, ac, an, hs, sd, df, dfn, td, tr, ft, pl)) (jX : JX (bs, tl, mc, md, ip, dc, dr, ac, an, hs, sd, df, dfn, td, tr, ft, pl))  (hd : 1 ≤ d) : bCall O mX7_expect d [.ref 32, .int x, .int k, .int b, .int v] (f, n, s) (pX f n s 0 0 (s_expect (bs, tl, mc, md, ip, dc, dr, ac, an, hs, sd, df, dfn, td, tr, ft, pl) x k b v)) := by
  refine bCall_of (by decide) rfl (Nat.le_of_ble_eq_true rfl) ?_
  obtain ⟨hS, hT, hW, hM, hD, hA, hI, hC, hF⟩ := id hX
  obtain ⟨j1, j2, j3, j4, j5, j6, j7, j8⟩ := id jX
  simp only [] at hS hT hW hM hD hA hI hC hF j1 j2 j3 j4 j5 j6 j7 j8
  show bV O _ d 0 [(0, .ref 32), (1, .int x), (2, .int k), (3, .int b), (4, .int v)] [] (f, n, s) _
  refine r_aload_n (n := 0) (i := 0) 0 rfl rfl dX7_expect_0 ?_
  refine r_iload_n (n := 1) (i := 1) 1 rfl rfl dX7_expect_1 ?_
  refine p_callV (As := [.int x]) (rest := []) (kX7_doorAt (O := O) (d := 0) (f := f) (n := n) (s := s) (ct_m := nI mc) (ct_d := nI dc) (ct_a := nI ac) (ct_f := nI dfn) (tday := nI td) (trb := tr) (flt := ft) (plc := pl) (x := x) (nn := dc) hS hD.1 (by first | assumption | omega | decide) (Nat.le_refl _)).call rfl lkX7_126 imX7_doorAt seX7_doorAt rfl hS rfl rfl (by omega) (Nat.le_of_ble_eq_true rfl) dX7_expect_2 (fun v9 G9 h9 => ?_) (fun q9 G9 h9 => (by cases h9.1))
  obtain ⟨h8, rfl⟩ := h9; cases h8
  by_cases bD : inB x dc = true
  · rw [oAt_pos bD]
    have b1bD := dA_b (Nat.lt_of_lt_of_le (inB_lt bD) j2)
    show bV O _ d 5 [(0, .ref 32), (1, .int x), (2, .int k), (3, .int b), (4, .int v)] [.ref (dA (cl x))] (f, n, s) _
    refine r_astore (i := 5) (L' := [(5, .ref (dA (cl x))), (0, .ref 32), (1, .int x), (2, .int k), (3, .int b), (4, .int v)]) dX7_expect_5 (by decide) rfl ?_
    refine r_aload (i := 5) 0 rfl dX7_expect_7 ?_
    refine r_ifnull dX7_expect_9 ?_
    refine r_iload_n (n := 2) (i := 2) 3 rfl rfl dX7_expect_12 ?_
    refine r_iload_n (n := 3) (i := 3) 4 rfl rfl dX7_expect_13 ?_
    refine p_callS (As := [.int k, .int b]) (rest := []) (kX7_isBin (O := O) (d := 0) (f := f) (n := n) (s := s) (k := k) (b := b)   (Nat.le_refl _)).call rfl lkX7_257 smX7_isBin rfl rfl (by omega) (Nat.le_of_ble_eq_true rfl) dX7_expect_14 (fun v9 G9 h9 => ?_) (fun q9 G9 h9 => (by cases h9.1))
    obtain ⟨h8, rfl⟩ := h9; cases h8
    show bV O _ d 17 [(5, .ref (dA (cl x))), (0, .ref 32), (1, .int x), (2, .int k), (3, .int b), (4, .int v)] [.int (bI (jBin k b))] (f, n, s) _
    refine r_if_ne (tgt := 26) (by decide) dX7_expect_17 (fun c17 => ?_) (fun c17 => ?_)
    · have c17 := bI_1.mp c17
      refine r_iload (i := 4) 5 rfl dX7_expect_26 ?_
      refine r_if_lt (tgt := 39) (by decide) dX7_expect_28 (fun c28 => ?_) (fun c28 => ?_)
      · refine r_aload_n (n := 0) (i := 0) 1 rfl rfl dX7_expect_39 ?_
        refine r_iconst (v := 2) (by decide) dX7_expect_40 ?_
        refine p_callV (As := [.int 2]) (rest := []) (kX7_deny (O := O) (d := 0) (f := f) (n := n) (s := s) (ct_m := nI mc) (ct_d := nI dc) (ct_a := nI ac) (ct_f := nI dfn) (tday := nI td) (trb := tr) (flt := ft) (plc := pl) (x := 2) hS  (Nat.le_refl _)).call rfl lkX7_109 imX7_deny seX7_deny rfl hS rfl rfl (by omega) (Nat.le_of_ble_eq_true rfl) dX7_expect_41 (fun v9 G9 h9 => ?_) (fun q9 G9 h9 => (by cases h9.1))
        obtain ⟨h8, rfl⟩ := h9; cases h8
        show bV O _ d 44 [(5, .ref (dA (cl x))), (0, .ref 32), (1, .int x), (2, .int k), (3, .int b), (4, .int v)] [.int 0] (bU f 32 (.inr (7, [.ref 33, .ref 38, .ref 40, .ref 41, .ref 42, .ref 43, .ref 44, .ref 45, .int (nI mc), .int (nI dc), .int (nI ac), .int (nI dfn), .int (nI td), .int 2, .int ft, .int pl])), n, s) _
        refine r_zreturn rfl (by first | decide +kernel | exact narZ _ | assumption) dX7_expect_44 ?_
        try rw [bin_cl c17]
        unfold s_expect
        try simp only []
        try (first | simp only [if_pos bD] | simp only [if_neg bD] | simp only [if_neg (Bool.eq_false_iff.mp bD)])
        try (first | simp only [if_pos c17] | simp only [if_neg c17] | simp only [if_neg (Bool.eq_false_iff.mp c17)])
        try (first | simp only [if_pos c28] | simp only [if_neg c28] | simp only [if_neg (Bool.eq_false_iff.mp c28)])
        exact pX_mk (by exact bU_s _ _ _) (hT.fr (fun q _ _ => (bU_n (by omega)).trans (rfl))) (hW.fr (fun q _ _ => (bU_n (by omega)).trans (rfl))) (hM.fr j1 (fun q _ => (bU_n (by omega)).trans (rfl))) (hD.fr j2 (fun q _ => (bU_n (by omega)).trans (rfl))) (hA.fr j3 (fun q _ => (bU_n (by omega)).trans (rfl))) (by exact ((bU_n (by decide)).trans (hI))) (by obtain ⟨tk8, h8⟩ := hC; exact ⟨tk8, (bU_n (by omega)).trans (h8)⟩) (by exact ((bU_n (by decide)).trans (hF))) (fun q _ => (bU_n (by omega)).trans (rfl)) (by omega) (by omega)
      · refine r_iload (i := 4) 5 rfl dX7_expect_31 ?_
        refine r_sipush (v := 1000) (by decide) dX7_expect_33 ?_
        refine r_icmp_le (tgt := 45) (by decide) dX7_expect_36 (fun c36 => ?_) (fun c36 => ?_)
        · refine r_aload (i := 5) 0 rfl dX7_expect_45 ?_
          refine p_get (fs := [.ref ((dA (cl x)) + 1), .ref ((dA (cl x)) + 2), .ref ((dA (cl x)) + 3), .ref ((dA (cl x)) + 4), .ref ((dA (cl x)) + 5), .ref ((dA (cl x)) + 6), .ref ((dA (cl x)) + 7), .int (d_ch (dr (cl x))), .int (d_rv (dr (cl x))), .int (d_sh (dr (cl x))), .int (nI (d_fc (dr (cl x)))), .int (nI (d_cn (dr (cl x)))), .int (d_kp (dr (cl x))), .int (d_rf (dr (cl x)))]) flX7_261 (by exact (hD.2.1 _ (inB_lt bD)).1) rfl dX7_expect_47 ?_
          refine r_iload_n (n := 2) (i := 2) 3 rfl rfl dX7_expect_50 ?_
          refine r_iconst (v := 4) (by decide) dX7_expect_51 ?_
          refine r_imul dX7_expect_52 ?_
          refine r_iload_n (n := 3) (i := 3) 4 rfl rfl dX7_expect_53 ?_
          refine r_iadd dX7_expect_54 ?_
          refine r_iload (i := 4) 5 rfl dX7_expect_55 ?_
          refine p_iast (by exact (hD.2.1 _ (inB_lt bD)).2.2.2.2.2.2.2) (bin_in c17) dX7_expect_57 ?_
          refine r_aload_n (n := 0) (i := 0) 1 rfl rfl dX7_expect_58 ?_
          refine p_callV (As := []) (rest := []) (kX7_allow (O := O) (d := 0) (f := bU f ((dA (cl x)) + 7) (.inl (0, 24, .inl (upd (d_tl (dr (cl x))) ((k * 4) + b).toNatClampNeg v)))) (n := n) (s := s) (ct_m := nI mc) (ct_d := nI dc) (ct_a := nI ac) (ct_f := nI dfn) (tday := nI td) (trb := tr) (flt := ft) (plc := pl) (by exact ((bU_n (by omega)).trans (hS)))  (Nat.le_refl _)).call rfl lkX7_113 imX7_allow seX7_allow rfl (by exact ((bU_n (by omega)).trans (hS))) rfl rfl (by omega) (Nat.le_of_ble_eq_true rfl) dX7_expect_59 (fun v9 G9 h9 => ?_) (fun q9 G9 h9 => (by cases h9.1))
          obtain ⟨h8, rfl⟩ := h9; cases h8
          show bV O _ d 62 [(5, .ref (dA (cl x))), (0, .ref 32), (1, .int x), (2, .int k), (3, .int b), (4, .int v)] [.int 1] (bU (bU f ((dA (cl x)) + 7) (.inl (0, 24, .inl (upd (d_tl (dr (cl x))) ((k * 4) + b).toNatClampNeg v)))) 32 (.inr (7, [.ref 33, .ref 38, .ref 40, .ref 41, .ref 42, .ref 43, .ref 44, .ref 45, .int (nI mc), .int (nI dc), .int (nI ac), .int (nI dfn), .int (nI td), .int 0, .int ft, .int pl])), n, s) _
          refine r_zreturn rfl (by first | decide +kernel | exact narZ _ | assumption) dX7_expect_62 ?_
          try rw [bin_cl c17]
          unfold s_expect
          try simp only []
          try (first | simp only [if_pos bD] | simp only [if_neg bD] | simp only [if_neg (Bool.eq_false_iff.mp bD)])
          try (first | simp only [if_pos c17] | simp only [if_neg c17] | simp only [if_neg (Bool.eq_false_iff.mp c17)])
          try (first | simp only [if_pos c28] | simp only [if_neg c28] | simp only [if_neg (Bool.eq_false_iff.mp c28)])
          try (first | simp only [if_pos c36] | simp only [if_neg c36] | simp only [if_neg (Bool.eq_false_iff.mp c36)])
          exact pX_mk (by exact bU_s _ _ _) (hT.fr (fun q _ _ => (bU_n (by omega)).trans ((bU_n (by omega)).trans (rfl)))) (hW.fr (fun q _ _ => (bU_n (by omega)).trans ((bU_n (by omega)).trans (rfl)))) (hM.fr j1 (fun q _ => (bU_n (by omega)).trans ((bU_n (by omega)).trans (rfl)))) (hD.put j2 (inB_lt bD) ⟨(by exact ((bU_n (by omega)).trans (((bU_n (by omega)).trans ((hD.2.1 _ (inB_lt bD)).1))))), (by exact ((bU_n (by omega)).trans (((bU_n (by omega)).trans ((hD.2.1 _ (inB_lt bD)).2.1))))), (by exact ((bU_n (by omega)).trans (((bU_n (by omega)).trans ((hD.2.1 _ (inB_lt bD)).2.2.1))))), (by exact ((bU_n (by omega)).trans (((bU_n (by omega)).trans ((hD.2.1 _ (inB_lt bD)).2.2.2.1))))), (by exact ((bU_n (by omega)).trans (((bU_n (by omega)).trans ((hD.2.1 _ (inB_lt bD)).2.2.2.2.1))))), (by exact ((bU_n (by omega)).trans (((bU_n (by omega)).trans ((hD.2.1 _ (inB_lt bD)).2.2.2.2.2.1))))), (by exact ((bU_n (by omega)).trans (((bU_n (by omega)).trans ((hD.2.1 _ (inB_lt bD)).2.2.2.2.2.2.1))))), (by exact ((bU_n (by omega)).trans (bU_s _ _ _)))⟩ (fun q _ => (bU_n (by omega)).trans ((bU_n (by omega)).trans (rfl)))) (hA.fr j3 (fun q _ => (bU_n (by omega)).trans ((bU_n (by omega)).trans (rfl)))) (by exact ((bU_n (by decide)).trans (((bU_n (by omega)).trans (hI))))) (by obtain ⟨tk8, h8⟩ := hC; exact ⟨tk8, (bU_n (by omega)).trans ((bU_n (by omega)).trans (h8))⟩) (by exact ((bU_n (by decide)).trans (((bU_n (by omega)).trans (hF))))) (fun q _ => (bU_n (by omega)).trans ((bU_n (by omega)).trans (rfl))) (by omega) (by omega)
        · refine r_aload_n (n := 0) (i := 0) 1 rfl rfl dX7_expect_39 ?_
          refine r_iconst (v := 2) (by decide) dX7_expect_40 ?_
          refine p_callV (As := [.int 2]) (rest := []) (kX7_deny (O := O) (d := 0) (f := f) (n := n) (s := s) (ct_m := nI mc) (ct_d := nI dc) (ct_a := nI ac) (ct_f := nI dfn) (tday := nI td) (trb := tr) (flt := ft) (plc := pl) (x := 2) hS  (Nat.le_refl _)).call rfl lkX7_109 imX7_deny seX7_deny rfl hS rfl rfl (by omega) (Nat.le_of_ble_eq_true rfl) dX7_expect_41 (fun v9 G9 h9 => ?_) (fun q9 G9 h9 => (by cases h9.1))
          obtain ⟨h8, rfl⟩ := h9; cases h8
          show bV O _ d 44 [(5, .ref (dA (cl x))), (0, .ref 32), (1, .int x), (2, .int k), (3, .int b), (4, .int v)] [.int 0] (bU f 32 (.inr (7, [.ref 33, .ref 38, .ref 40, .ref 41, .ref 42, .ref 43, .ref 44, .ref 45, .int (nI mc), .int (nI dc), .int (nI ac), .int (nI dfn), .int (nI td), .int 2, .int ft, .int pl])), n, s) _
          refine r_zreturn rfl (by first | decide +kernel | exact narZ _ | assumption) dX7_expect_44 ?_
          try rw [bin_cl c17]
          unfold s_expect
          try simp only []
          try (first | simp only [if_pos bD] | simp only [if_neg bD] | simp only [if_neg (Bool.eq_false_iff.mp bD)])
          try (first | simp only [if_pos c17] | simp only [if_neg c17] | simp only [if_neg (Bool.eq_false_iff.mp c17)])
          try (first | simp only [if_pos c28] | simp only [if_neg c28] | simp only [if_neg (Bool.eq_false_iff.mp c28)])
          try (first | simp only [if_pos c36] | simp only [if_neg c36] | simp only [if_neg (Bool.eq_false_iff.mp c36)])
          exact pX_mk (by exact bU_s _ _ _) (hT.fr (fun q _ _ => (bU_n (by omega)).trans (rfl))) (hW.fr (fun q _ _ => (bU_n (by omega)).trans (rfl))) (hM.fr j1 (fun q _ => (bU_n (by omega)).trans (rfl))) (hD.fr j2 (fun q _ => (bU_n (by omega)).trans (rfl))) (hA.fr j3 (fun q _ => (bU_n (by omega)).trans (rfl))) (by exact ((bU_n (by decide)).trans (hI))) (by obtain ⟨tk8, h8⟩ := hC; exact ⟨tk8, (bU_n (by omega)).trans (h8)⟩) (by exact ((bU_n (by decide)).trans (hF))) (fun q _ => (bU_n (by omega)).trans (rfl)) (by omega) (by omega)
    · have c17 := bI_0.mp c17
      refine r_aload_n (n := 0) (i := 0) 1 rfl rfl dX7_expect_20 ?_
      refine r_iconst (v := 1) (by decide) dX7_expect_21 ?_
      refine p_callV (As := [.int 1]) (rest := []) (kX7_deny (O := O) (d := 0) (f := f) (n := n) (s := s) (ct_m := nI mc) (ct_d := nI dc) (ct_a := nI ac) (ct_f := nI dfn) (tday := nI td) (trb := tr) (flt := ft) (plc := pl) (x := 1) hS  (Nat.le_refl _)).call rfl lkX7_109 imX7_deny seX7_deny rfl hS rfl rfl (by omega) (Nat.le_of_ble_eq_true rfl) dX7_expect_22 (fun v9 G9 h9 => ?_) (fun q9 G9 h9 => (by cases h9.1))
      obtain ⟨h8, rfl⟩ := h9; cases h8
      show bV O _ d 25 [(5, .ref (dA (cl x))), (0, .ref 32), (1, .int x), (2, .int k), (3, .int b), (4, .int v)] [.int 0] (bU f 32 (.inr (7, [.ref 33, .ref 38, .ref 40, .ref 41, .ref 42, .ref 43, .ref 44, .ref 45, .int (nI mc), .int (nI dc), .int (nI ac), .int (nI dfn), .int (nI td), .int 1, .int ft, .int pl])), n, s) _
      refine r_zreturn rfl (by first | decide +kernel | exact narZ _ | assumption) dX7_expect_25 ?_
      try rw [bin_cl c17]
      unfold s_expect
      try simp only []
      try (first | simp only [if_pos bD] | simp only [if_neg bD] | simp only [if_neg (Bool.eq_false_iff.mp bD)])
      try (first | simp only [if_pos c17] | simp only [if_neg c17] | simp only [if_neg (Bool.eq_false_iff.mp c17)])
      exact pX_mk (by exact bU_s _ _ _) (hT.fr (fun q _ _ => (bU_n (by omega)).trans (rfl))) (hW.fr (fun q _ _ => (bU_n (by omega)).trans (rfl))) (hM.fr j1 (fun q _ => (bU_n (by omega)).trans (rfl))) (hD.fr j2 (fun q _ => (bU_n (by omega)).trans (rfl))) (hA.fr j3 (fun q _ => (bU_n (by omega)).trans (rfl))) (by exact ((bU_n (by decide)).trans (hI))) (by obtain ⟨tk8, h8⟩ := hC; exact ⟨tk8, (bU_n (by omega)).trans (h8)⟩) (by exact ((bU_n (by decide)).trans (hF))) (fun q _ => (bU_n (by omega)).trans (rfl)) (by omega) (by omega)
  · rw [oAt_neg bD]
    show bV O _ d 5 [(0, .ref 32), (1, .int x), (2, .int k), (3, .int b), (4, .int v)] [.null] (f, n, s) _
    refine r_astoreN (i := 5) (L' := [(5, .null), (0, .ref 32), (1, .int x), (2, .int k), (3, .int b), (4, .int v)]) dX7_expect_5 (by decide) rfl ?_
    refine r_aloadN (i := 5) 0 rfl dX7_expect_7 ?_
    refine r_ifnullN (tgt := 20) (by decide) dX7_expect_9 ?_
    refine r_aload_n (n := 0) (i := 0) 1 rfl rfl dX7_expect_20 ?_
    refine r_iconst (v := 1) (by decide) dX7_expect_21 ?_
    refine p_callV (As := [.int 1]) (rest := []) (kX7_deny (O := O) (d := 0) (f := f) (n := n) (s := s) (ct_m := nI mc) (ct_d := nI dc) (ct_a := nI ac) (ct_f := nI dfn) (tday := nI td) (trb := tr) (flt := ft) (plc := pl) (x := 1) hS  (Nat.le_refl _)).call rfl lkX7_109 imX7_deny seX7_deny rfl hS rfl rfl (by omega) (Nat.le_of_ble_eq_true rfl) dX7_expect_22 (fun v9 G9 h9 => ?_) (fun q9 G9 h9 => (by cases h9.1))
    obtain ⟨h8, rfl⟩ := h9; cases h8
    show bV O _ d 25 [(5, .null), (0, .ref 32), (1, .int x), (2, .int k), (3, .int b), (4, .int v)] [.int 0] (bU f 32 (.inr (7, [.ref 33, .ref 38, .ref 40, .ref 41, .ref 42, .ref 43, .ref 44, .ref 45, .int (nI mc), .int (nI dc), .int (nI ac), .int (nI dfn), .int (nI td), .int 1, .int ft, .int pl])), n, s) _
    refine r_zreturn rfl (by first | decide +kernel | exact narZ _ | assumption) dX7_expect_25 ?_
    try rw [bin_cl c17]
    unfold s_expect
    try simp only []
    try (first | simp only [if_pos bD] | simp only [if_neg bD] | simp only [if_neg (Bool.eq_false_iff.mp bD)])
    exact pX_mk (by exact bU_s _ _ _) (hT.fr (fun q _ _ => (bU_n (by omega)).trans (rfl))) (hW.fr (fun q _ _ => (bU_n (by omega)).trans (rfl))) (hM.fr j1 (fun q _ => (bU_n (by omega)).trans (rfl))) (hD.fr j2 (fun q _ => (bU_n (by omega)).trans (rfl))) (hA.fr j3 (fun q _ => (bU_n (by omega)).trans (rfl))) (by exact ((bU_n (by decide)).trans (hI))) (by obtain ⟨tk8, h8⟩ := hC; exact ⟨tk8, (bU_n (by omega)).trans (h8)⟩) (by exact ((bU_n (by decide)).trans (hF))) (fun q _ => (bU_n (by omega)).trans (rfl)) (by omega) (by omega)
set_option maxRecDepth 4000 in
theorem x_sides {O : bO} {d : Nat} {f : bF} {n s : Nat} {bs : Nat → Int32} {tl : Nat} {mc : Nat} {md : Nat → MR} {ip : Nat → Int32} {dc : Nat} {dr : Nat → DR} {ac : Nat} {an : Nat → AR} {hs : Bool} {sd : Nat → Int32} {df : Nat → Int32} {dfn : Nat} {td : Nat} {tr : Int32} {ft : Int32} {pl : Int32} {w : Int32} (hX : XR f (bs, tl, mc, md, ip, dc, dr, ac, an, hs, sd, df, dfn, td, tr, ft, pl)) (jX : JX (bs, tl, mc, md, ip, dc, dr, ac, an, hs, sd, df, dfn, td, tr, ft, pl))  (hd : 1 ≤ d) : bCall O mX7_sides d [.ref 32, .int w] (f, n, s) (pX f n s 0 0 (s_sides (bs, tl, mc, md, ip, dc, dr, ac, an, hs, sd, df, dfn, td, tr, ft, pl) w)) := by
  refine bCall_of (by decide) rfl (Nat.le_of_ble_eq_true rfl) ?_
  obtain ⟨hS, hT, hW, hM, hD, hA, hI, hC, hF⟩ := id hX
  obtain ⟨j1, j2, j3, j4, j5, j6, j7, j8⟩ := id jX
  simp only [] at hS hT hW hM hD hA hI hC hF j1 j2 j3 j4 j5 j6 j7 j8
  obtain ⟨tk9, h44⟩ := id hC
  show bV O _ d 0 [(0, .ref 32), (1, .int w)] [] (f, n, s) _
  refine r_aload_n (n := 0) (i := 0) 0 rfl rfl dX7_sides_0 ?_
  refine p_get (fs := [.ref 33, .ref 38, .ref 40, .ref 41, .ref 42, .ref 43, .ref 44, .ref 45, .int (nI mc), .int (nI dc), .int (nI ac), .int (nI dfn), .int (nI td), .int tr, .int ft, .int pl]) flX7_50 hS rfl dX7_sides_1 ?_
  refine p_get (fs := [.int (bI hs), .int tk9, .int (sd 0), .int (sd 1), .int (sd 2), .int (sd 3)]) flX7_238 h44 rfl dX7_sides_4 ?_
  refine r_if_ne (tgt := 12) (by decide) dX7_sides_7 (fun c7 => ?_) (fun c7 => ?_)
  · have c7 := bI_1.mp c7
    refine r_iload_n (n := 1) (i := 1) 1 rfl rfl dX7_sides_12 ?_
    by_cases q13_0 : w = 0
    · refine r_tableIn (off := 35) (tgt := 48) dX7_sides_13 (by rw [q13_0]; decide) (by rw [q13_0]; decide) (by rw [q13_0]; decide) (by decide) ?_
      refine r_aload_n (n := 0) (i := 0) 0 rfl rfl dX7_sides_48 ?_
      refine p_get (fs := [.ref 33, .ref 38, .ref 40, .ref 41, .ref 42, .ref 43, .ref 44, .ref 45, .int (nI mc), .int (nI dc), .int (nI ac), .int (nI dfn), .int (nI td), .int tr, .int ft, .int pl]) flX7_50 hS rfl dX7_sides_49 ?_
      refine p_get (fs := [.int (bI hs), .int tk9, .int (sd 0), .int (sd 1), .int (sd 2), .int (sd 3)]) flX7_242 h44 rfl dX7_sides_52 ?_
      refine r_ireturn rfl dX7_sides_55 ?_
      unfold s_sides
      try simp only []
      try (first | simp only [if_pos c7] | simp only [if_neg c7] | simp only [if_neg (Bool.eq_false_iff.mp c7)])
      try (first | simp only [if_pos q13_0] | simp only [if_neg q13_0] | simp only [if_neg (Bool.eq_false_iff.mp q13_0)])
      try simp only [c87, bI_t, bI_f]
      exact pX_mk (hS) (hT.fr (fun q _ _ => rfl)) (hW.fr (fun q _ _ => rfl)) (hM.fr j1 (fun q _ => rfl)) (hD.fr j2 (fun q _ => rfl)) (hA.fr j3 (fun q _ => rfl)) (hI) (by obtain ⟨tk8, h8⟩ := hC; exact ⟨tk8, h8⟩) (hF) (fun q _ => rfl) (by omega) (by omega)
    · by_cases q13_1 : w = 1
      · refine r_tableIn (off := 43) (tgt := 56) dX7_sides_13 (by rw [q13_1]; decide) (by rw [q13_1]; decide) (by rw [q13_1]; decide) (by decide) ?_
        refine r_aload_n (n := 0) (i := 0) 0 rfl rfl dX7_sides_56 ?_
        refine p_get (fs := [.ref 33, .ref 38, .ref 40, .ref 41, .ref 42, .ref 43, .ref 44, .ref 45, .int (nI mc), .int (nI dc), .int (nI ac), .int (nI dfn), .int (nI td), .int tr, .int ft, .int pl]) flX7_50 hS rfl dX7_sides_57 ?_
        refine p_get (fs := [.int (bI hs), .int tk9, .int (sd 0), .int (sd 1), .int (sd 2), .int (sd 3)]) flX7_245 h44 rfl dX7_sides_60 ?_
        refine r_ireturn rfl dX7_sides_63 ?_
        unfold s_sides
        try simp only []
        try (first | simp only [if_pos c7] | simp only [if_neg c7] | simp only [if_neg (Bool.eq_false_iff.mp c7)])
        try (first | simp only [if_pos q13_0] | simp only [if_neg q13_0] | simp only [if_neg (Bool.eq_false_iff.mp q13_0)])
        try (first | simp only [if_pos q13_1] | simp only [if_neg q13_1] | simp only [if_neg (Bool.eq_false_iff.mp q13_1)])
        try simp only [c87, bI_t, bI_f]
        exact pX_mk (hS) (hT.fr (fun q _ _ => rfl)) (hW.fr (fun q _ _ => rfl)) (hM.fr j1 (fun q _ => rfl)) (hD.fr j2 (fun q _ => rfl)) (hA.fr j3 (fun q _ => rfl)) (hI) (by obtain ⟨tk8, h8⟩ := hC; exact ⟨tk8, h8⟩) (hF) (fun q _ => rfl) (by omega) (by omega)
      · by_cases q13_2 : w = 2
        · refine r_tableIn (off := 51) (tgt := 64) dX7_sides_13 (by rw [q13_2]; decide) (by rw [q13_2]; decide) (by rw [q13_2]; decide) (by decide) ?_
          refine r_aload_n (n := 0) (i := 0) 0 rfl rfl dX7_sides_64 ?_
          refine p_get (fs := [.ref 33, .ref 38, .ref 40, .ref 41, .ref 42, .ref 43, .ref 44, .ref 45, .int (nI mc), .int (nI dc), .int (nI ac), .int (nI dfn), .int (nI td), .int tr, .int ft, .int pl]) flX7_50 hS rfl dX7_sides_65 ?_
          refine p_get (fs := [.int (bI hs), .int tk9, .int (sd 0), .int (sd 1), .int (sd 2), .int (sd 3)]) flX7_248 h44 rfl dX7_sides_68 ?_
          refine r_ireturn rfl dX7_sides_71 ?_
          unfold s_sides
          try simp only []
          try (first | simp only [if_pos c7] | simp only [if_neg c7] | simp only [if_neg (Bool.eq_false_iff.mp c7)])
          try (first | simp only [if_pos q13_0] | simp only [if_neg q13_0] | simp only [if_neg (Bool.eq_false_iff.mp q13_0)])
          try (first | simp only [if_pos q13_1] | simp only [if_neg q13_1] | simp only [if_neg (Bool.eq_false_iff.mp q13_1)])
          try (first | simp only [if_pos q13_2] | simp only [if_neg q13_2] | simp only [if_neg (Bool.eq_false_iff.mp q13_2)])
          try simp only [c87, bI_t, bI_f]
          exact pX_mk (hS) (hT.fr (fun q _ _ => rfl)) (hW.fr (fun q _ _ => rfl)) (hM.fr j1 (fun q _ => rfl)) (hD.fr j2 (fun q _ => rfl)) (hA.fr j3 (fun q _ => rfl)) (hI) (by obtain ⟨tk8, h8⟩ := hC; exact ⟨tk8, h8⟩) (hF) (fun q _ => rfl) (by omega) (by omega)
        · by_cases q13_3 : w = 3
          · refine r_tableIn (off := 59) (tgt := 72) dX7_sides_13 (by rw [q13_3]; decide) (by rw [q13_3]; decide) (by rw [q13_3]; decide) (by decide) ?_
            refine r_aload_n (n := 0) (i := 0) 0 rfl rfl dX7_sides_72 ?_
            refine p_get (fs := [.ref 33, .ref 38, .ref 40, .ref 41, .ref 42, .ref 43, .ref 44, .ref 45, .int (nI mc), .int (nI dc), .int (nI ac), .int (nI dfn), .int (nI td), .int tr, .int ft, .int pl]) flX7_50 hS rfl dX7_sides_73 ?_
            refine p_get (fs := [.int (bI hs), .int tk9, .int (sd 0), .int (sd 1), .int (sd 2), .int (sd 3)]) flX7_251 h44 rfl dX7_sides_76 ?_
            refine r_ireturn rfl dX7_sides_79 ?_
            unfold s_sides
            try simp only []
            try (first | simp only [if_pos c7] | simp only [if_neg c7] | simp only [if_neg (Bool.eq_false_iff.mp c7)])
            try (first | simp only [if_pos q13_0] | simp only [if_neg q13_0] | simp only [if_neg (Bool.eq_false_iff.mp q13_0)])
            try (first | simp only [if_pos q13_1] | simp only [if_neg q13_1] | simp only [if_neg (Bool.eq_false_iff.mp q13_1)])
            try (first | simp only [if_pos q13_2] | simp only [if_neg q13_2] | simp only [if_neg (Bool.eq_false_iff.mp q13_2)])
            try (first | simp only [if_pos q13_3] | simp only [if_neg q13_3] | simp only [if_neg (Bool.eq_false_iff.mp q13_3)])
            try simp only [c87, bI_t, bI_f]
            exact pX_mk (hS) (hT.fr (fun q _ _ => rfl)) (hW.fr (fun q _ _ => rfl)) (hM.fr j1 (fun q _ => rfl)) (hD.fr j2 (fun q _ => rfl)) (hA.fr j3 (fun q _ => rfl)) (hI) (by obtain ⟨tk8, h8⟩ := hC; exact ⟨tk8, h8⟩) (hF) (fun q _ => rfl) (by omega) (by omega)
          · by_cases q13_4 : w = 4
            · refine r_tableIn (off := 67) (tgt := 80) dX7_sides_13 (by rw [q13_4]; decide) (by rw [q13_4]; decide) (by rw [q13_4]; decide) (by decide) ?_
              refine r_aload_n (n := 0) (i := 0) 0 rfl rfl dX7_sides_80 ?_
              refine p_get (fs := [.ref 33, .ref 38, .ref 40, .ref 41, .ref 42, .ref 43, .ref 44, .ref 45, .int (nI mc), .int (nI dc), .int (nI ac), .int (nI dfn), .int (nI td), .int tr, .int ft, .int pl]) flX7_50 hS rfl dX7_sides_81 ?_
              refine p_callV (As := []) (rest := []) (kX4_isSure (O := O) (d := 0) (f := f) (n := n) (s := s) (q := 44) (bg := bI hs) (tk := tk9) (al := sd 0) (wi := sd 1) (lo := sd 2) (wt := sd 3) h44  (Nat.le_refl _)).call rfl lkX7_254 imX4_isSure seX4_isSure rfl h44 rfl rfl (by omega) (Nat.le_of_ble_eq_true rfl) dX7_sides_84 (fun v9 G9 h9 => ?_) (fun q9 G9 h9 => (by cases h9.1))
              obtain ⟨h8, rfl⟩ := h9; cases h8
              show bV O _ d 87 [(0, .ref 32), (1, .int w)] [.int (bI (sSure (sd 1) (sd 2)))] (f, n, s) _
              refine r_if_eq (tgt := 94) (by decide) dX7_sides_87 (fun c87 => ?_) (fun c87 => ?_)
              · have c87 := bI_0.mp c87
                refine r_iconst (v := 0) (by decide) dX7_sides_94 ?_
                refine r_ireturn rfl dX7_sides_95 ?_
                unfold s_sides
                try simp only []
                try (first | simp only [if_pos c7] | simp only [if_neg c7] | simp only [if_neg (Bool.eq_false_iff.mp c7)])
                try (first | simp only [if_pos q13_0] | simp only [if_neg q13_0] | simp only [if_neg (Bool.eq_false_iff.mp q13_0)])
                try (first | simp only [if_pos q13_1] | simp only [if_neg q13_1] | simp only [if_neg (Bool.eq_false_iff.mp q13_1)])
                try (first | simp only [if_pos q13_2] | simp only [if_neg q13_2] | simp only [if_neg (Bool.eq_false_iff.mp q13_2)])
                try (first | simp only [if_pos q13_3] | simp only [if_neg q13_3] | simp only [if_neg (Bool.eq_false_iff.mp q13_3)])
                try (first | simp only [if_pos q13_4] | simp only [if_neg q13_4] | simp only [if_neg (Bool.eq_false_iff.mp q13_4)])
                try (first | simp only [if_pos c87] | simp only [if_neg c87] | simp only [if_neg (Bool.eq_false_iff.mp c87)])
                try simp only [c87, bI_t, bI_f]
                exact pX_mk (hS) (hT.fr (fun q _ _ => rfl)) (hW.fr (fun q _ _ => rfl)) (hM.fr j1 (fun q _ => rfl)) (hD.fr j2 (fun q _ => rfl)) (hA.fr j3 (fun q _ => rfl)) (hI) (by obtain ⟨tk8, h8⟩ := hC; exact ⟨tk8, h8⟩) (hF) (fun q _ => rfl) (by omega) (by omega)
              · have c87 := bI_1.mp c87
                refine r_iconst (v := 1) (by decide) dX7_sides_90 ?_
                refine r_goto (tgt := 95) (by decide) dX7_sides_91 ?_
                refine r_ireturn rfl dX7_sides_95 ?_
                unfold s_sides
                try simp only []
                try (first | simp only [if_pos c7] | simp only [if_neg c7] | simp only [if_neg (Bool.eq_false_iff.mp c7)])
                try (first | simp only [if_pos q13_0] | simp only [if_neg q13_0] | simp only [if_neg (Bool.eq_false_iff.mp q13_0)])
                try (first | simp only [if_pos q13_1] | simp only [if_neg q13_1] | simp only [if_neg (Bool.eq_false_iff.mp q13_1)])
                try (first | simp only [if_pos q13_2] | simp only [if_neg q13_2] | simp only [if_neg (Bool.eq_false_iff.mp q13_2)])
                try (first | simp only [if_pos q13_3] | simp only [if_neg q13_3] | simp only [if_neg (Bool.eq_false_iff.mp q13_3)])
                try (first | simp only [if_pos q13_4] | simp only [if_neg q13_4] | simp only [if_neg (Bool.eq_false_iff.mp q13_4)])
                try (first | simp only [if_pos c87] | simp only [if_neg c87] | simp only [if_neg (Bool.eq_false_iff.mp c87)])
                try simp only [c87, bI_t, bI_f]
                exact pX_mk (hS) (hT.fr (fun q _ _ => rfl)) (hW.fr (fun q _ _ => rfl)) (hM.fr j1 (fun q _ => rfl)) (hD.fr j2 (fun q _ => rfl)) (hA.fr j3 (fun q _ => rfl)) (hI) (by obtain ⟨tk8, h8⟩ := hC; exact ⟨tk8, h8⟩) (hF) (fun q _ => rfl) (by omega) (by omega)
            · refine r_tableOut (tgt := 96) dX7_sides_13 (tbO5 w q13_0 q13_1 q13_2 q13_3 q13_4) (by decide) ?_
              refine r_iconst (v := (-1)) (by decide) dX7_sides_96 ?_
              refine r_ireturn rfl dX7_sides_97 ?_
              unfold s_sides
              try simp only []
              try (first | simp only [if_pos c7] | simp only [if_neg c7] | simp only [if_neg (Bool.eq_false_iff.mp c7)])
              try (first | simp only [if_pos q13_0] | simp only [if_neg q13_0] | simp only [if_neg (Bool.eq_false_iff.mp q13_0)])
              try (first | simp only [if_pos q13_1] | simp only [if_neg q13_1] | simp only [if_neg (Bool.eq_false_iff.mp q13_1)])
              try (first | simp only [if_pos q13_2] | simp only [if_neg q13_2] | simp only [if_neg (Bool.eq_false_iff.mp q13_2)])
              try (first | simp only [if_pos q13_3] | simp only [if_neg q13_3] | simp only [if_neg (Bool.eq_false_iff.mp q13_3)])
              try (first | simp only [if_pos q13_4] | simp only [if_neg q13_4] | simp only [if_neg (Bool.eq_false_iff.mp q13_4)])
              try simp only [c87, bI_t, bI_f]
              exact pX_mk (hS) (hT.fr (fun q _ _ => rfl)) (hW.fr (fun q _ _ => rfl)) (hM.fr j1 (fun q _ => rfl)) (hD.fr j2 (fun q _ => rfl)) (hA.fr j3 (fun q _ => rfl)) (hI) (by obtain ⟨tk8, h8⟩ := hC; exact ⟨tk8, h8⟩) (hF) (fun q _ => rfl) (by omega) (by omega)
  · have c7 := bI_0.mp c7
    refine r_iconst (v := (-1)) (by decide) dX7_sides_10 ?_
    refine r_ireturn rfl dX7_sides_11 ?_
    unfold s_sides
    try simp only []
    try (first | simp only [if_pos c7] | simp only [if_neg c7] | simp only [if_neg (Bool.eq_false_iff.mp c7)])
    try simp only [c87, bI_t, bI_f]
    exact pX_mk (hS) (hT.fr (fun q _ _ => rfl)) (hW.fr (fun q _ _ => rfl)) (hM.fr j1 (fun q _ => rfl)) (hD.fr j2 (fun q _ => rfl)) (hA.fr j3 (fun q _ => rfl)) (hI) (by obtain ⟨tk8, h8⟩ := hC; exact ⟨tk8, h8⟩) (hF) (fun q _ => rfl) (by omega) (by omega)
