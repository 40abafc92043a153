/-! ===== the class's calls (printed by wip/gen/xm.py) ===== -/
theorem oAt_pos {A : Nat → Nat} {n : Nat} {x : Int32} (h : inB x n = true) : oAt A n x = .ref (A (cl x)) := if_pos h
theorem oAt_neg {A : Nat → Nat} {n : Nat} {x : Int32} (h : ¬ inB x n = true) : oAt A n x = .null := if_neg h
theorem oAt_lt0 {A : Nat → Nat} {n : Nat} {x : Int32} (h : x < 0) : oAt A n x = .null := if_neg (fun h2 => inB_nn h2 h)
theorem cl_ge {x : Int32} {N : Nat} (h0 : ¬ x < 0) (h : nI N ≤ x) (hN : N < 2 ^ 31) : N ≤ cl x := by
  obtain ⟨j, hj, rfl⟩ := nI_of h0
  rw [cl_nI hj]
  exact (nI_leI hN hj).mp h
theorem cl_lt {x : Int32} {N : Nat} (h0 : ¬ x < 0) (h : ¬ nI N ≤ x) (hN : N < 2 ^ 31) : cl x < N := by
  obtain ⟨j, hj, rfl⟩ := nI_of h0
  rw [cl_nI hj]
  exact Nat.lt_of_not_le (fun h2 => h ((nI_leI hN hj).mpr h2))
theorem oAt_ge {A : Nat → Nat} {n N : Nat} {x : Int32} (h0 : ¬ x < 0) (h : nI N ≤ x) (hn : n ≤ N) (hN : N < 2 ^ 31) : oAt A n x = .null := if_neg (fun h2 => by have := inB_lt h2; have := cl_ge h0 h hN; omega)
theorem oAt_tab {A : Nat → Nat} {n : Nat} {x : Int32} (h0 : ¬ x < 0) : va_rf (tabF A n (cl x)) = oAt A n x := by
  unfold tabF oAt
  by_cases h : cl x < n
  · rw [if_pos h, if_pos (show inB x n = true by simp only [inB, decide_eq_false h0, decide_eq_true h]; rfl)]
    rfl
  · rw [if_neg h, if_neg (fun h2 => h (inB_lt h2))]
    rfl
set_option maxRecDepth 4000 in
theorem kX7_modelAt {O : bO} {d : Nat} {f : bF} {n s : Nat} {ct_m : Int32} {ct_d : Int32} {ct_a : Int32} {ct_f : Int32} {tday : Int32} {trb : Int32} {flt : Int32} {plc : Int32} {x : Int32} {nn : Nat} (h0 : f 32 = some (.inr (7, [.ref 33, .ref 38, .ref 40, .ref 41, .ref 42, .ref 43, .ref 44, .ref 45, .int ct_m, .int ct_d, .int ct_a, .int ct_f, .int tday, .int trb, .int flt, .int plc]))) (h1 : f 40 = some (.inl (3, 20, .inr (.inr (.inr (.inr (tabF mA nn))))))) (e0 : nn ≤ 20) (hd : 0 ≤ d) : bMt O mX7_modelAt d [.ref 32, .int x] (f, n, s) (.inl (some (oAt mA nn x))) (f, n, s) := by
  refine bMt_of (bCall_of (by decide) rfl (Nat.le_of_ble_eq_true rfl) ?_)
  show bV O _ d 0 [(0, .ref 32), (1, .int x)] [] (f, n, s) _
  refine r_iload_n (n := 1) (i := 1) 1 rfl rfl dX7_modelAt_0 ?_
  refine r_if_lt (tgt := 22) (by decide) dX7_modelAt_1 (fun c1 => ?_) (fun c1 => ?_)
  · refine r_null dX7_modelAt_22 ?_
    refine r_areturnN rfl (by first | exact Or.inl ⟨_, rfl⟩ | exact Or.inr ⟨_, rfl⟩) dX7_modelAt_23 ?_
    refine ⟨?_, rfl⟩
    first | rw [oAt_lt0 c1] | rw [oAt_ge c1 c10 e0 (by decide)]
  · refine r_iload_n (n := 1) (i := 1) 1 rfl rfl dX7_modelAt_4 ?_
    refine r_aload_n (n := 0) (i := 0) 0 rfl rfl dX7_modelAt_5 ?_
    refine p_get (fs := [.ref 33, .ref 38, .ref 40, .ref 41, .ref 42, .ref 43, .ref 44, .ref 45, .int ct_m, .int ct_d, .int ct_a, .int ct_f, .int tday, .int trb, .int flt, .int plc]) flX7_27 h0 rfl dX7_modelAt_6 ?_
    refine p_alen2 (kd := 3) (n := 20) (a := (20, .inr (.inr (.inr (.inr (tabF mA nn)))))) rfl h1 rfl dX7_modelAt_9 ?_
    refine r_icmp_ge (tgt := 22) (by decide) dX7_modelAt_10 (fun c10 => ?_) (fun c10 => ?_)
    · refine r_null dX7_modelAt_22 ?_
      refine r_areturnN rfl (by first | exact Or.inl ⟨_, rfl⟩ | exact Or.inr ⟨_, rfl⟩) dX7_modelAt_23 ?_
      refine ⟨?_, rfl⟩
      first | rw [oAt_lt0 c1] | rw [oAt_ge c1 c10 e0 (by decide)]
    · refine r_aload_n (n := 0) (i := 0) 0 rfl rfl dX7_modelAt_13 ?_
      refine p_get (fs := [.ref 33, .ref 38, .ref 40, .ref 41, .ref 42, .ref 43, .ref 44, .ref 45, .int ct_m, .int ct_d, .int ct_a, .int ct_f, .int tday, .int trb, .int flt, .int plc]) flX7_27 h0 rfl dX7_modelAt_14 ?_
      refine r_iload_n (n := 1) (i := 1) 1 rfl rfl dX7_modelAt_17 ?_
      refine p_aald (kd := 3) rfl h1 (by first | assumption | exact vpn_lit (by decide) (by decide) | (refine vpn ?_ ?_ (by decide) <;> first | assumption | (simp only [Int32.not_lt, Int32.not_le] at *; first | assumption | omega))) dX7_modelAt_18 ?_
      rw [oAt_tab c1]
      by_cases hb : inB x nn = true
      · rw [oAt_pos hb]
        refine r_goto (tgt := 23) (by decide) dX7_modelAt_19 ?_
        refine r_areturn rfl (by first | exact Or.inl ⟨_, rfl⟩ | exact Or.inr ⟨_, rfl⟩) dX7_modelAt_23 ?_
        exact ⟨rfl, rfl⟩
      · rw [oAt_neg hb]
        refine r_goto (tgt := 23) (by decide) dX7_modelAt_19 ?_
        refine r_areturnN rfl (by first | exact Or.inl ⟨_, rfl⟩ | exact Or.inr ⟨_, rfl⟩) dX7_modelAt_23 ?_
        exact ⟨rfl, rfl⟩
set_option maxRecDepth 4000 in
theorem kX7_doorAt {O : bO} {d : Nat} {f : bF} {n s : Nat} {ct_m : Int32} {ct_d : Int32} {ct_a : Int32} {ct_f : Int32} {tday : Int32} {trb : Int32} {flt : Int32} {plc : Int32} {x : Int32} {nn : Nat} (h0 : f 32 = some (.inr (7, [.ref 33, .ref 38, .ref 40, .ref 41, .ref 42, .ref 43, .ref 44, .ref 45, .int ct_m, .int ct_d, .int ct_a, .int ct_f, .int tday, .int trb, .int flt, .int plc]))) (h1 : f 41 = some (.inl (4, 4, .inr (.inr (.inr (.inr (tabF dA nn))))))) (e0 : nn ≤ 4) (hd : 0 ≤ d) : bMt O mX7_doorAt d [.ref 32, .int x] (f, n, s) (.inl (some (oAt dA nn x))) (f, n, s) := by
  refine bMt_of (bCall_of (by decide) rfl (Nat.le_of_ble_eq_true rfl) ?_)
  show bV O _ d 0 [(0, .ref 32), (1, .int x)] [] (f, n, s) _
  refine r_iload_n (n := 1) (i := 1) 1 rfl rfl dX7_doorAt_0 ?_
  refine r_if_lt (tgt := 22) (by decide) dX7_doorAt_1 (fun c1 => ?_) (fun c1 => ?_)
  · refine r_null dX7_doorAt_22 ?_
    refine r_areturnN rfl (by first | exact Or.inl ⟨_, rfl⟩ | exact Or.inr ⟨_, rfl⟩) dX7_doorAt_23 ?_
    refine ⟨?_, rfl⟩
    first | rw [oAt_lt0 c1] | rw [oAt_ge c1 c10 e0 (by decide)]
  · refine r_iload_n (n := 1) (i := 1) 1 rfl rfl dX7_doorAt_4 ?_
    refine r_aload_n (n := 0) (i := 0) 0 rfl rfl dX7_doorAt_5 ?_
    refine p_get (fs := [.ref 33, .ref 38, .ref 40, .ref 41, .ref 42, .ref 43, .ref 44, .ref 45, .int ct_m, .int ct_d, .int ct_a, .int ct_f, .int tday, .int trb, .int flt, .int plc]) flX7_33 h0 rfl dX7_doorAt_6 ?_
    refine p_alen2 (kd := 4) (n := 4) (a := (4, .inr (.inr (.inr (.inr (tabF dA nn)))))) rfl h1 rfl dX7_doorAt_9 ?_
    refine r_icmp_ge (tgt := 22) (by decide) dX7_doorAt_10 (fun c10 => ?_) (fun c10 => ?_)
    · refine r_null dX7_doorAt_22 ?_
      refine r_areturnN rfl (by first | exact Or.inl ⟨_, rfl⟩ | exact Or.inr ⟨_, rfl⟩) dX7_doorAt_23 ?_
      refine ⟨?_, rfl⟩
      first | rw [oAt_lt0 c1] | rw [oAt_ge c1 c10 e0 (by decide)]
    · refine r_aload_n (n := 0) (i := 0) 0 rfl rfl dX7_doorAt_13 ?_
      refine p_get (fs := [.ref 33, .ref 38, .ref 40, .ref 41, .ref 42, .ref 43, .ref 44, .ref 45, .int ct_m, .int ct_d, .int ct_a, .int ct_f, .int tday, .int trb, .int flt, .int plc]) flX7_33 h0 rfl dX7_doorAt_14 ?_
      refine r_iload_n (n := 1) (i := 1) 1 rfl rfl dX7_doorAt_17 ?_
      refine p_aald (kd := 4) rfl h1 (by first | assumption | exact vpn_lit (by decide) (by decide) | (refine vpn ?_ ?_ (by decide) <;> first | assumption | (simp only [Int32.not_lt, Int32.not_le] at *; first | assumption | omega))) dX7_doorAt_18 ?_
      rw [oAt_tab c1]
      by_cases hb : inB x nn = true
      · rw [oAt_pos hb]
        refine r_goto (tgt := 23) (by decide) dX7_doorAt_19 ?_
        refine r_areturn rfl (by first | exact Or.inl ⟨_, rfl⟩ | exact Or.inr ⟨_, rfl⟩) dX7_doorAt_23 ?_
        exact ⟨rfl, rfl⟩
      · rw [oAt_neg hb]
        refine r_goto (tgt := 23) (by decide) dX7_doorAt_19 ?_
        refine r_areturnN rfl (by first | exact Or.inl ⟨_, rfl⟩ | exact Or.inr ⟨_, rfl⟩) dX7_doorAt_23 ?_
        exact ⟨rfl, rfl⟩
set_option maxRecDepth 4000 in
theorem kX7_answerAt {O : bO} {d : Nat} {f : bF} {n s : Nat} {ct_m : Int32} {ct_d : Int32} {ct_a : Int32} {ct_f : Int32} {tday : Int32} {trb : Int32} {flt : Int32} {plc : Int32} {x : Int32} {nn : Nat} (h0 : f 32 = some (.inr (7, [.ref 33, .ref 38, .ref 40, .ref 41, .ref 42, .ref 43, .ref 44, .ref 45, .int ct_m, .int ct_d, .int ct_a, .int ct_f, .int tday, .int trb, .int flt, .int plc]))) (h1 : f 42 = some (.inl (5, 200, .inr (.inr (.inr (.inr (tabF aA nn))))))) (e0 : nn ≤ 200) (hd : 0 ≤ d) : bMt O mX7_answerAt d [.ref 32, .int x] (f, n, s) (.inl (some (oAt aA nn x))) (f, n, s) := by
  refine bMt_of (bCall_of (by decide) rfl (Nat.le_of_ble_eq_true rfl) ?_)
  show bV O _ d 0 [(0, .ref 32), (1, .int x)] [] (f, n, s) _
  refine r_iload_n (n := 1) (i := 1) 1 rfl rfl dX7_answerAt_0 ?_
  refine r_if_lt (tgt := 22) (by decide) dX7_answerAt_1 (fun c1 => ?_) (fun c1 => ?_)
  · refine r_null dX7_answerAt_22 ?_
    refine r_areturnN rfl (by first | exact Or.inl ⟨_, rfl⟩ | exact Or.inr ⟨_, rfl⟩) dX7_answerAt_23 ?_
    refine ⟨?_, rfl⟩
    first | rw [oAt_lt0 c1] | rw [oAt_ge c1 c10 e0 (by decide)]
  · refine r_iload_n (n := 1) (i := 1) 1 rfl rfl dX7_answerAt_4 ?_
    refine r_aload_n (n := 0) (i := 0) 0 rfl rfl dX7_answerAt_5 ?_
    refine p_get (fs := [.ref 33, .ref 38, .ref 40, .ref 41, .ref 42, .ref 43, .ref 44, .ref 45, .int ct_m, .int ct_d, .int ct_a, .int ct_f, .int tday, .int trb, .int flt, .int plc]) flX7_39 h0 rfl dX7_answerAt_6 ?_
    refine p_alen2 (kd := 5) (n := 200) (a := (200, .inr (.inr (.inr (.inr (tabF aA nn)))))) rfl h1 rfl dX7_answerAt_9 ?_
    refine r_icmp_ge (tgt := 22) (by decide) dX7_answerAt_10 (fun c10 => ?_) (fun c10 => ?_)
    · refine r_null dX7_answerAt_22 ?_
      refine r_areturnN rfl (by first | exact Or.inl ⟨_, rfl⟩ | exact Or.inr ⟨_, rfl⟩) dX7_answerAt_23 ?_
      refine ⟨?_, rfl⟩
      first | rw [oAt_lt0 c1] | rw [oAt_ge c1 c10 e0 (by decide)]
    · refine r_aload_n (n := 0) (i := 0) 0 rfl rfl dX7_answerAt_13 ?_
      refine p_get (fs := [.ref 33, .ref 38, .ref 40, .ref 41, .ref 42, .ref 43, .ref 44, .ref 45, .int ct_m, .int ct_d, .int ct_a, .int ct_f, .int tday, .int trb, .int flt, .int plc]) flX7_39 h0 rfl dX7_answerAt_14 ?_
      refine r_iload_n (n := 1) (i := 1) 1 rfl rfl dX7_answerAt_17 ?_
      refine p_aald (kd := 5) rfl h1 (by first | assumption | exact vpn_lit (by decide) (by decide) | (refine vpn ?_ ?_ (by decide) <;> first | assumption | (simp only [Int32.not_lt, Int32.not_le] at *; first | assumption | omega))) dX7_answerAt_18 ?_
      rw [oAt_tab c1]
      by_cases hb : inB x nn = true
      · rw [oAt_pos hb]
        refine r_goto (tgt := 23) (by decide) dX7_answerAt_19 ?_
        refine r_areturn rfl (by first | exact Or.inl ⟨_, rfl⟩ | exact Or.inr ⟨_, rfl⟩) dX7_answerAt_23 ?_
        exact ⟨rfl, rfl⟩
      · rw [oAt_neg hb]
        refine r_goto (tgt := 23) (by decide) dX7_answerAt_19 ?_
        refine r_areturnN rfl (by first | exact Or.inl ⟨_, rfl⟩ | exact Or.inr ⟨_, rfl⟩) dX7_answerAt_23 ?_
        exact ⟨rfl, rfl⟩
theorem tbO4 (x : Int32) (q0 : ¬ x = 0) (q1 : ¬ x = 1) (q2 : ¬ x = 2) (q3 : ¬ x = 3) : x.toInt < 0 ∨ 3 < x.toInt := by
  have h0 : x.toInt ≠ 0 := toInt_ne (k := 0) q0
  have h1 : x.toInt ≠ 1 := toInt_ne (k := 1) q1
  have h2 : x.toInt ≠ 2 := toInt_ne (k := 2) q2
  have h3 : x.toInt ≠ 3 := toInt_ne (k := 3) q3
  omega
theorem tbO5 (x : Int32) (q0 : ¬ x = 0) (q1 : ¬ x = 1) (q2 : ¬ x = 2) (q3 : ¬ x = 3) (q4 : ¬ x = 4) : x.toInt < 0 ∨ 4 < x.toInt := by
  have h0 : x.toInt ≠ 0 := toInt_ne (k := 0) q0
  have h1 : x.toInt ≠ 1 := toInt_ne (k := 1) q1
  have h2 : x.toInt ≠ 2 := toInt_ne (k := 2) q2
  have h3 : x.toInt ≠ 3 := toInt_ne (k := 3) q3
  have h4 : x.toInt ≠ 4 := toInt_ne (k := 4) q4
  omega
theorem tbO6 (x : Int32) (q0 : ¬ x = 0) (q1 : ¬ x = 1) (q2 : ¬ x = 2) (q3 : ¬ x = 3) (q4 : ¬ x = 4) (q5 : ¬ x = 5) : x.toInt < 0 ∨ 5 < x.toInt := by
  have h0 : x.toInt ≠ 0 := toInt_ne (k := 0) q0
  have h1 : x.toInt ≠ 1 := toInt_ne (k := 1) q1
  have h2 : x.toInt ≠ 2 := toInt_ne (k := 2) q2
  have h3 : x.toInt ≠ 3 := toInt_ne (k := 3) q3
  have h4 : x.toInt ≠ 4 := toInt_ne (k := 4) q4
  have h5 : x.toInt ≠ 5 := toInt_ne (k := 5) q5
  omega
theorem vpk {k : Int32} {n : Nat} (h0 : ¬ k < 0) (h : k < nI n) (hn : n < 2 ^ 31) : vp_in k n := vpn h0 (fun h7 => absurd h (Int32.not_lt.mpr h7)) hn
set_option maxRecDepth 4000 in
theorem x_fault {O : bO} {d : Nat} {f : bF} {n s : Nat} {bs : Nat → Int32} {tl : Nat} {mc : Nat} {md : Nat → MR} {ip : Nat → Int32} {dc : Nat} {dr : Nat → DR} {ac : Nat} {an : Nat → AR} {hs : Bool} {sd : Nat → Int32} {df : Nat → Int32} {dfn : Nat} {td : Nat} {tr : Int32} {ft : Int32} {pl : Int32}  (hX : XR f (bs, tl, mc, md, ip, dc, dr, ac, an, hs, sd, df, dfn, td, tr, ft, pl)) (jX : JX (bs, tl, mc, md, ip, dc, dr, ac, an, hs, sd, df, dfn, td, tr, ft, pl))  (hd : 0 ≤ d) : bCall O mX7_fault d [.ref 32] (f, n, s) (pX f n s 0 0 (s_fault (bs, tl, mc, md, ip, dc, dr, ac, an, hs, sd, df, dfn, td, tr, ft, pl) )) := by
  refine bCall_of (by decide) rfl (Nat.le_of_ble_eq_true rfl) ?_
  obtain ⟨hS, hT, hW, hM, hD, hA, hI, hC, hF⟩ := id hX
  obtain ⟨j1, j2, j3, j4, j5, j6, j7, j8⟩ := id jX
  simp only [] at hS hT hW hM hD hA hI hC hF j1 j2 j3 j4 j5 j6 j7 j8
  show bV O _ d 0 [(0, .ref 32)] [] (f, n, s) _
  refine r_aload_n (n := 0) (i := 0) 0 rfl rfl dX7_fault_0 ?_
  refine p_get (fs := [.ref 33, .ref 38, .ref 40, .ref 41, .ref 42, .ref 43, .ref 44, .ref 45, .int (nI mc), .int (nI dc), .int (nI ac), .int (nI dfn), .int (nI td), .int tr, .int ft, .int pl]) flX7_78 hS rfl dX7_fault_1 ?_
  refine r_ireturn rfl dX7_fault_4 ?_
  unfold s_fault
  try simp only []
  exact pX_mk (hS) (hT.fr (fun q _ _ => rfl)) (hW.fr (fun q _ _ => rfl)) (hM.fr j1 (fun q _ => rfl)) (hD.fr j2 (fun q _ => rfl)) (hA.fr j3 (fun q _ => rfl)) (hI) (by obtain ⟨tk8, h8⟩ := hC; exact ⟨tk8, h8⟩) (hF) (fun q _ => rfl) (by omega) (by omega)
set_option maxRecDepth 4000 in
theorem x_where {O : bO} {d : Nat} {f : bF} {n s : Nat} {bs : Nat → Int32} {tl : Nat} {mc : Nat} {md : Nat → MR} {ip : Nat → Int32} {dc : Nat} {dr : Nat → DR} {ac : Nat} {an : Nat → AR} {hs : Bool} {sd : Nat → Int32} {df : Nat → Int32} {dfn : Nat} {td : Nat} {tr : Int32} {ft : Int32} {pl : Int32}  (hX : XR f (bs, tl, mc, md, ip, dc, dr, ac, an, hs, sd, df, dfn, td, tr, ft, pl)) (jX : JX (bs, tl, mc, md, ip, dc, dr, ac, an, hs, sd, df, dfn, td, tr, ft, pl))  (hd : 0 ≤ d) : bCall O mX7_where d [.ref 32] (f, n, s) (pX f n s 0 0 (s_where (bs, tl, mc, md, ip, dc, dr, ac, an, hs, sd, df, dfn, td, tr, ft, pl) )) := by
  refine bCall_of (by decide) rfl (Nat.le_of_ble_eq_true rfl) ?_
  obtain ⟨hS, hT, hW, hM, hD, hA, hI, hC, hF⟩ := id hX
  obtain ⟨j1, j2, j3, j4, j5, j6, j7, j8⟩ := id jX
  simp only [] at hS hT hW hM hD hA hI hC hF j1 j2 j3 j4 j5 j6 j7 j8
  show bV O _ d 0 [(0, .ref 32)] [] (f, n, s) _
  refine r_aload_n (n := 0) (i := 0) 0 rfl rfl dX7_where_0 ?_
  refine p_get (fs := [.ref 33, .ref 38, .ref 40, .ref 41, .ref 42, .ref 43, .ref 44, .ref 45, .int (nI mc), .int (nI dc), .int (nI ac), .int (nI dfn), .int (nI td), .int tr, .int ft, .int pl]) flX7_96 hS rfl dX7_where_1 ?_
  refine r_iconst (v := 4) (by decide) dX7_where_4 ?_
  refine r_icmp_ne (tgt := 15) (by decide) dX7_where_5 (fun c5 => ?_) (fun c5 => ?_)
  · refine r_iconst (v := (-1)) (by decide) dX7_where_15 ?_
    refine r_ireturn rfl dX7_where_16 ?_
    unfold s_where
    try simp only []
    try (first | simp only [if_pos c5] | simp only [if_neg c5])
    exact pX_mk (hS) (hT.fr (fun q _ _ => rfl)) (hW.fr (fun q _ _ => rfl)) (hM.fr j1 (fun q _ => rfl)) (hD.fr j2 (fun q _ => rfl)) (hA.fr j3 (fun q _ => rfl)) (hI) (by obtain ⟨tk8, h8⟩ := hC; exact ⟨tk8, h8⟩) (hF) (fun q _ => rfl) (by omega) (by omega)
  · refine r_aload_n (n := 0) (i := 0) 0 rfl rfl dX7_where_8 ?_
    refine p_get (fs := [.ref 33, .ref 38, .ref 40, .ref 41, .ref 42, .ref 43, .ref 44, .ref 45, .int (nI mc), .int (nI dc), .int (nI ac), .int (nI dfn), .int (nI td), .int tr, .int ft, .int pl]) flX7_84 hS rfl dX7_where_9 ?_
    refine r_goto (tgt := 16) (by decide) dX7_where_12 ?_
    refine r_ireturn rfl dX7_where_16 ?_
    unfold s_where
    try simp only []
    try (first | simp only [if_pos c5] | simp only [if_neg c5])
    exact pX_mk (hS) (hT.fr (fun q _ _ => rfl)) (hW.fr (fun q _ _ => rfl)) (hM.fr j1 (fun q _ => rfl)) (hD.fr j2 (fun q _ => rfl)) (hA.fr j3 (fun q _ => rfl)) (hI) (by obtain ⟨tk8, h8⟩ := hC; exact ⟨tk8, h8⟩) (hF) (fun q _ => rfl) (by omega) (by omega)
set_option maxRecDepth 4000 in
theorem x_trouble {O : bO} {d : Nat} {f : bF} {n s : Nat} {bs : Nat → Int32} {tl : Nat} {mc : Nat} {md : Nat → MR} {ip : Nat → Int32} {dc : Nat} {dr : Nat → DR} {ac : Nat} {an : Nat → AR} {hs : Bool} {sd : Nat → Int32} {df : Nat → Int32} {dfn : Nat} {td : Nat} {tr : Int32} {ft : Int32} {pl : Int32}  (hX : XR f (bs, tl, mc, md, ip, dc, dr, ac, an, hs, sd, df, dfn, td, tr, ft, pl)) (jX : JX (bs, tl, mc, md, ip, dc, dr, ac, an, hs, sd, df, dfn, td, tr, ft, pl))  (hd : 0 ≤ d) : bCall O mX7_trouble d [.ref 32] (f, n, s) (pX f n s 0 0 (s_trouble (bs, tl, mc, md, ip, dc, dr, ac, an, hs, sd, df, dfn, td, tr, ft, pl) )) := by
  refine bCall_of (by decide) rfl (Nat.le_of_ble_eq_true rfl) ?_
  obtain ⟨hS, hT, hW, hM, hD, hA, hI, hC, hF⟩ := id hX
  obtain ⟨j1, j2, j3, j4, j5, j6, j7, j8⟩ := id jX
  simp only [] at hS hT hW hM hD hA hI hC hF j1 j2 j3 j4 j5 j6 j7 j8
  show bV O _ d 0 [(0, .ref 32)] [] (f, n, s) _
  refine r_aload_n (n := 0) (i := 0) 0 rfl rfl dX7_trouble_0 ?_
  refine p_get (fs := [.ref 33, .ref 38, .ref 40, .ref 41, .ref 42, .ref 43, .ref 44, .ref 45, .int (nI mc), .int (nI dc), .int (nI ac), .int (nI dfn), .int (nI td), .int tr, .int ft, .int pl]) flX7_96 hS rfl dX7_trouble_1 ?_
  refine r_ireturn rfl dX7_trouble_4 ?_
  unfold s_trouble
  try simp only []
  exact pX_mk (hS) (hT.fr (fun q _ _ => rfl)) (hW.fr (fun q _ _ => rfl)) (hM.fr j1 (fun q _ => rfl)) (hD.fr j2 (fun q _ => rfl)) (hA.fr j3 (fun q _ => rfl)) (hI) (by obtain ⟨tk8, h8⟩ := hC; exact ⟨tk8, h8⟩) (hF) (fun q _ => rfl) (by omega) (by omega)
set_option maxRecDepth 4000 in
theorem x_input {O : bO} {d : Nat} {f : bF} {n s : Nat} {bs : Nat → Int32} {tl : Nat} {mc : Nat} {md : Nat → MR} {ip : Nat → Int32} {dc : Nat} {dr : Nat → DR} {ac : Nat} {an : Nat → AR} {hs : Bool} {sd : Nat → Int32} {df : Nat → Int32} {dfn : Nat} {td : Nat} {tr : Int32} {ft : Int32} {pl : Int32} {k : Int32} {v : Int32} (hX : XR f (bs, tl, mc, md, ip, dc, dr, ac, an, hs, sd, df, dfn, td, tr, ft, pl)) (jX : JX (bs, tl, mc, md, ip, dc, dr, ac, an, hs, sd, df, dfn, td, tr, ft, pl))  (hd : 1 ≤ d) : bCall O mX7_input d [.ref 32, .int k, .int v] (f, n, s) (pX f n s 0 0 (s_input (bs, tl, mc, md, ip, dc, dr, ac, an, hs, sd, df, dfn, td, tr, ft, pl) k v)) := by
  refine bCall_of (by decide) rfl (Nat.le_of_ble_eq_true rfl) ?_
  obtain ⟨hS, hT, hW, hM, hD, hA, hI, hC, hF⟩ := id hX
  obtain ⟨j1, j2, j3, j4, j5, j6, j7, j8⟩ := id jX
  simp only [] at hS hT hW hM hD hA hI hC hF j1 j2 j3 j4 j5 j6 j7 j8
  show bV O _ d 0 [(0, .ref 32), (1, .int k), (2, .int v)] [] (f, n, s) _
  refine r_iload_n (n := 1) (i := 1) 1 rfl rfl dX7_input_0 ?_
  refine r_if_lt (tgt := 27) (by decide) dX7_input_1 (fun c1 => ?_) (fun c1 => ?_)
  · refine r_aload_n (n := 0) (i := 0) 0 rfl rfl dX7_input_27 ?_
    refine r_iconst (v := 2) (by decide) dX7_input_28 ?_
    refine p_callV (As := [.int 2]) (rest := []) (kX7_deny (O := O) (d := 0) (f := f) (n := n) (s := s) (ct_m := nI mc) (ct_d := nI dc) (ct_a := nI ac) (ct_f := nI dfn) (tday := nI td) (trb := tr) (flt := ft) (plc := pl) (x := 2) hS  (Nat.le_refl _)).call rfl lkX7_109 imX7_deny seX7_deny rfl hS rfl rfl (by omega) (Nat.le_of_ble_eq_true rfl) dX7_input_29 (fun v9 G9 h9 => ?_) (fun q9 G9 h9 => (by cases h9.1))
    obtain ⟨h8, rfl⟩ := h9; cases h8
    show bV O _ d 32 [(0, .ref 32), (1, .int k), (2, .int v)] [.int 0] (bU f 32 (.inr (7, [.ref 33, .ref 38, .ref 40, .ref 41, .ref 42, .ref 43, .ref 44, .ref 45, .int (nI mc), .int (nI dc), .int (nI ac), .int (nI dfn), .int (nI td), .int 2, .int ft, .int pl])), n, s) _
    refine r_zreturn rfl (by first | decide +kernel | exact narZ _ | assumption) dX7_input_32 ?_
    unfold s_input
    try simp only []
    try (first | simp only [if_pos c1] | simp only [if_neg c1])
    exact pX_mk (by exact bU_s _ _ _) (hT.fr (fun q _ _ => (bU_n (by omega)).trans (rfl))) (hW.fr (fun q _ _ => (bU_n (by omega)).trans (rfl))) (hM.fr j1 (fun q _ => (bU_n (by omega)).trans (rfl))) (hD.fr j2 (fun q _ => (bU_n (by omega)).trans (rfl))) (hA.fr j3 (fun q _ => (bU_n (by omega)).trans (rfl))) (by exact ((bU_n (by decide)).trans (hI))) (by obtain ⟨tk8, h8⟩ := hC; exact ⟨tk8, (bU_n (by omega)).trans (h8)⟩) (by exact ((bU_n (by decide)).trans (hF))) (fun q _ => (bU_n (by omega)).trans (rfl)) (by omega) (by omega)
  · refine r_iload_n (n := 1) (i := 1) 1 rfl rfl dX7_input_4 ?_
    refine r_aload_n (n := 0) (i := 0) 0 rfl rfl dX7_input_5 ?_
    refine p_get (fs := [.ref 33, .ref 38, .ref 40, .ref 41, .ref 42, .ref 43, .ref 44, .ref 45, .int (nI mc), .int (nI dc), .int (nI ac), .int (nI dfn), .int (nI td), .int tr, .int ft, .int pl]) flX7_43 hS rfl dX7_input_6 ?_
    refine p_alen2 (kd := 0) (n := 6) (a := (6, .inl ip)) rfl hI rfl dX7_input_9 ?_
    refine r_icmp_ge (tgt := 27) (by decide) dX7_input_10 (fun c10 => ?_) (fun c10 => ?_)
    · refine r_aload_n (n := 0) (i := 0) 0 rfl rfl dX7_input_27 ?_
      refine r_iconst (v := 2) (by decide) dX7_input_28 ?_
      refine p_callV (As := [.int 2]) (rest := []) (kX7_deny (O := O) (d := 0) (f := f) (n := n) (s := s) (ct_m := nI mc) (ct_d := nI dc) (ct_a := nI ac) (ct_f := nI dfn) (tday := nI td) (trb := tr) (flt := ft) (plc := pl) (x := 2) hS  (Nat.le_refl _)).call rfl lkX7_109 imX7_deny seX7_deny rfl hS rfl rfl (by omega) (Nat.le_of_ble_eq_true rfl) dX7_input_29 (fun v9 G9 h9 => ?_) (fun q9 G9 h9 => (by cases h9.1))
      obtain ⟨h8, rfl⟩ := h9; cases h8
      show bV O _ d 32 [(0, .ref 32), (1, .int k), (2, .int v)] [.int 0] (bU f 32 (.inr (7, [.ref 33, .ref 38, .ref 40, .ref 41, .ref 42, .ref 43, .ref 44, .ref 45, .int (nI mc), .int (nI dc), .int (nI ac), .int (nI dfn), .int (nI td), .int 2, .int ft, .int pl])), n, s) _
      refine r_zreturn rfl (by first | decide +kernel | exact narZ _ | assumption) dX7_input_32 ?_
      unfold s_input
      try simp only []
      try (first | simp only [if_pos c1] | simp only [if_neg c1])
      try (first | simp only [if_pos c10] | simp only [if_neg c10])
      exact pX_mk (by exact bU_s _ _ _) (hT.fr (fun q _ _ => (bU_n (by omega)).trans (rfl))) (hW.fr (fun q _ _ => (bU_n (by omega)).trans (rfl))) (hM.fr j1 (fun q _ => (bU_n (by omega)).trans (rfl))) (hD.fr j2 (fun q _ => (bU_n (by omega)).trans (rfl))) (hA.fr j3 (fun q _ => (bU_n (by omega)).trans (rfl))) (by exact ((bU_n (by decide)).trans (hI))) (by obtain ⟨tk8, h8⟩ := hC; exact ⟨tk8, (bU_n (by omega)).trans (h8)⟩) (by exact ((bU_n (by decide)).trans (hF))) (fun q _ => (bU_n (by omega)).trans (rfl)) (by omega) (by omega)
    · refine r_iload_n (n := 2) (i := 2) 2 rfl rfl dX7_input_13 ?_
      refine r_sipush (v := (-1000)) (by decide) dX7_input_14 ?_
      refine r_icmp_lt (tgt := 27) (by decide) dX7_input_17 (fun c17 => ?_) (fun c17 => ?_)
      · refine r_aload_n (n := 0) (i := 0) 0 rfl rfl dX7_input_27 ?_
        refine r_iconst (v := 2) (by decide) dX7_input_28 ?_
        refine p_callV (As := [.int 2]) (rest := []) (kX7_deny (O := O) (d := 0) (f := f) (n := n) (s := s) (ct_m := nI mc) (ct_d := nI dc) (ct_a := nI ac) (ct_f := nI dfn) (tday := nI td) (trb := tr) (flt := ft) (plc := pl) (x := 2) hS  (Nat.le_refl _)).call rfl lkX7_109 imX7_deny seX7_deny rfl hS rfl rfl (by omega) (Nat.le_of_ble_eq_true rfl) dX7_input_29 (fun v9 G9 h9 => ?_) (fun q9 G9 h9 => (by cases h9.1))
        obtain ⟨h8, rfl⟩ := h9; cases h8
        show bV O _ d 32 [(0, .ref 32), (1, .int k), (2, .int v)] [.int 0] (bU f 32 (.inr (7, [.ref 33, .ref 38, .ref 40, .ref 41, .ref 42, .ref 43, .ref 44, .ref 45, .int (nI mc), .int (nI dc), .int (nI ac), .int (nI dfn), .int (nI td), .int 2, .int ft, .int pl])), n, s) _
        refine r_zreturn rfl (by first | decide +kernel | exact narZ _ | assumption) dX7_input_32 ?_
        unfold s_input
        try simp only []
        try (first | simp only [if_pos c1] | simp only [if_neg c1])
        try (first | simp only [if_pos c10] | simp only [if_neg c10])
        try (first | simp only [if_pos c17] | simp only [if_neg c17])
        exact pX_mk (by exact bU_s _ _ _) (hT.fr (fun q _ _ => (bU_n (by omega)).trans (rfl))) (hW.fr (fun q _ _ => (bU_n (by omega)).trans (rfl))) (hM.fr j1 (fun q _ => (bU_n (by omega)).trans (rfl))) (hD.fr j2 (fun q _ => (bU_n (by omega)).trans (rfl))) (hA.fr j3 (fun q _ => (bU_n (by omega)).trans (rfl))) (by exact ((bU_n (by decide)).trans (hI))) (by obtain ⟨tk8, h8⟩ := hC; exact ⟨tk8, (bU_n (by omega)).trans (h8)⟩) (by exact ((bU_n (by decide)).trans (hF))) (fun q _ => (bU_n (by omega)).trans (rfl)) (by omega) (by omega)
      · refine r_iload_n (n := 2) (i := 2) 2 rfl rfl dX7_input_20 ?_
        refine r_sipush (v := 1000) (by decide) dX7_input_21 ?_
        refine r_icmp_le (tgt := 33) (by decide) dX7_input_24 (fun c24 => ?_) (fun c24 => ?_)
        · refine r_aload_n (n := 0) (i := 0) 0 rfl rfl dX7_input_33 ?_
          refine p_get (fs := [.ref 33, .ref 38, .ref 40, .ref 41, .ref 42, .ref 43, .ref 44, .ref 45, .int (nI mc), .int (nI dc), .int (nI ac), .int (nI dfn), .int (nI td), .int tr, .int ft, .int pl]) flX7_43 hS rfl dX7_input_34 ?_
          refine r_iload_n (n := 1) (i := 1) 1 rfl rfl dX7_input_37 ?_
          refine r_iload_n (n := 2) (i := 2) 2 rfl rfl dX7_input_38 ?_
          refine p_iast hI (vpn c1 c10 (by decide)) dX7_input_39 ?_
          refine r_aload_n (n := 0) (i := 0) 0 rfl rfl dX7_input_40 ?_
          refine p_callV (As := []) (rest := []) (kX7_allow (O := O) (d := 0) (f := bU f 43 (.inl (0, 6, .inl (upd ip k.toNatClampNeg v)))) (n := n) (s := s) (ct_m := nI mc) (ct_d := nI dc) (ct_a := nI ac) (ct_f := nI dfn) (tday := nI td) (trb := tr) (flt := ft) (plc := pl) (by exact ((bU_n (by decide)).trans (hS)))  (Nat.le_refl _)).call rfl lkX7_113 imX7_allow seX7_allow rfl (by exact ((bU_n (by decide)).trans (hS))) rfl rfl (by omega) (Nat.le_of_ble_eq_true rfl) dX7_input_41 (fun v9 G9 h9 => ?_) (fun q9 G9 h9 => (by cases h9.1))
          obtain ⟨h8, rfl⟩ := h9; cases h8
          show bV O _ d 44 [(0, .ref 32), (1, .int k), (2, .int v)] [.int 1] (bU (bU f 43 (.inl (0, 6, .inl (upd ip k.toNatClampNeg v)))) 32 (.inr (7, [.ref 33, .ref 38, .ref 40, .ref 41, .ref 42, .ref 43, .ref 44, .ref 45, .int (nI mc), .int (nI dc), .int (nI ac), .int (nI dfn), .int (nI td), .int 0, .int ft, .int pl])), n, s) _
          refine r_zreturn rfl (by first | decide +kernel | exact narZ _ | assumption) dX7_input_44 ?_
          unfold s_input
          try simp only []
          try (first | simp only [if_pos c1] | simp only [if_neg c1])
          try (first | simp only [if_pos c10] | simp only [if_neg c10])
          try (first | simp only [if_pos c17] | simp only [if_neg c17])
          try (first | simp only [if_pos c24] | simp only [if_neg c24])
          exact pX_mk (by exact bU_s _ _ _) (hT.fr (fun q _ _ => (bU_n (by omega)).trans ((bU_n (by omega)).trans (rfl)))) (hW.fr (fun q _ _ => (bU_n (by omega)).trans ((bU_n (by omega)).trans (rfl)))) (hM.fr j1 (fun q _ => (bU_n (by omega)).trans ((bU_n (by omega)).trans (rfl)))) (hD.fr j2 (fun q _ => (bU_n (by omega)).trans ((bU_n (by omega)).trans (rfl)))) (hA.fr j3 (fun q _ => (bU_n (by omega)).trans ((bU_n (by omega)).trans (rfl)))) (by exact ((bU_n (by decide)).trans (bU_s _ _ _))) (by obtain ⟨tk8, h8⟩ := hC; exact ⟨tk8, (bU_n (by omega)).trans ((bU_n (by omega)).trans (h8))⟩) (by exact ((bU_n (by decide)).trans (((bU_n (by decide)).trans (hF))))) (fun q _ => (bU_n (by omega)).trans ((bU_n (by omega)).trans (rfl))) (by omega) (by omega)
        · refine r_aload_n (n := 0) (i := 0) 0 rfl rfl dX7_input_27 ?_
          refine r_iconst (v := 2) (by decide) dX7_input_28 ?_
          refine p_callV (As := [.int 2]) (rest := []) (kX7_deny (O := O) (d := 0) (f := f) (n := n) (s := s) (ct_m := nI mc) (ct_d := nI dc) (ct_a := nI ac) (ct_f := nI dfn) (tday := nI td) (trb := tr) (flt := ft) (plc := pl) (x := 2) hS  (Nat.le_refl _)).call rfl lkX7_109 imX7_deny seX7_deny rfl hS rfl rfl (by omega) (Nat.le_of_ble_eq_true rfl) dX7_input_29 (fun v9 G9 h9 => ?_) (fun q9 G9 h9 => (by cases h9.1))
          obtain ⟨h8, rfl⟩ := h9; cases h8
          show bV O _ d 32 [(0, .ref 32), (1, .int k), (2, .int v)] [.int 0] (bU f 32 (.inr (7, [.ref 33, .ref 38, .ref 40, .ref 41, .ref 42, .ref 43, .ref 44, .ref 45, .int (nI mc), .int (nI dc), .int (nI ac), .int (nI dfn), .int (nI td), .int 2, .int ft, .int pl])), n, s) _
          refine r_zreturn rfl (by first | decide +kernel | exact narZ _ | assumption) dX7_input_32 ?_
          unfold s_input
          try simp only []
          try (first | simp only [if_pos c1] | simp only [if_neg c1])
          try (first | simp only [if_pos c10] | simp only [if_neg c10])
          try (first | simp only [if_pos c17] | simp only [if_neg c17])
          try (first | simp only [if_pos c24] | simp only [if_neg c24])
          exact pX_mk (by exact bU_s _ _ _) (hT.fr (fun q _ _ => (bU_n (by omega)).trans (rfl))) (hW.fr (fun q _ _ => (bU_n (by omega)).trans (rfl))) (hM.fr j1 (fun q _ => (bU_n (by omega)).trans (rfl))) (hD.fr j2 (fun q _ => (bU_n (by omega)).trans (rfl))) (hA.fr j3 (fun q _ => (bU_n (by omega)).trans (rfl))) (by exact ((bU_n (by decide)).trans (hI))) (by obtain ⟨tk8, h8⟩ := hC; exact ⟨tk8, (bU_n (by omega)).trans (h8)⟩) (by exact ((bU_n (by decide)).trans (hF))) (fun q _ => (bU_n (by omega)).trans (rfl)) (by omega) (by omega)
set_option maxRecDepth 4000 in
theorem x_leave {O : bO} {d : Nat} {f : bF} {n s : Nat} {bs : Nat → Int32} {tl : Nat} {mc : Nat} {md : Nat → MR} {ip : Nat → Int32} {dc : Nat} {dr : Nat → DR} {ac : Nat} {an : Nat → AR} {hs : Bool} {sd : Nat → Int32} {df : Nat → Int32} {dfn : Nat} {td : Nat} {tr : Int32} {ft : Int32} {pl : Int32} {x : Int32} (hX : XR f (bs, tl, mc, md, ip, dc, dr, ac, an, hs, sd, df, dfn, td, tr, ft, pl)) (jX : JX (bs, tl, mc, md, ip, dc, dr, ac, an, hs, sd, df, dfn, td, tr, ft, pl))  (hd : 1 ≤ d) : bCall O mX7_leave d [.ref 32, .int x] (f, n, s) (pX f n s 0 0 (s_leave (bs, tl, mc, md, ip, dc, dr, ac, an, hs, sd, df, dfn, td, tr, ft, pl) x)) := by
  refine bCall_of (by decide) rfl (Nat.le_of_ble_eq_true rfl) ?_
  obtain ⟨hS, hT, hW, hM, hD, hA, hI, hC, hF⟩ := id hX
  obtain ⟨j1, j2, j3, j4, j5, j6, j7, j8⟩ := id jX
  simp only [] at hS hT hW hM hD hA hI hC hF j1 j2 j3 j4 j5 j6 j7 j8
  show bV O _ d 0 [(0, .ref 32), (1, .int x)] [] (f, n, s) _
  refine r_aload_n (n := 0) (i := 0) 0 rfl rfl dX7_leave_0 ?_
  refine r_iload_n (n := 1) (i := 1) 1 rfl rfl dX7_leave_1 ?_
  refine p_callV (As := [.int x]) (rest := []) (kX7_doorAt (O := O) (d := 0) (f := f) (n := n) (s := s) (ct_m := nI mc) (ct_d := nI dc) (ct_a := nI ac) (ct_f := nI dfn) (tday := nI td) (trb := tr) (flt := ft) (plc := pl) (x := x) (nn := dc) hS hD.1 (by first | assumption | omega | decide) (Nat.le_refl _)).call rfl lkX7_126 imX7_doorAt seX7_doorAt rfl hS rfl rfl (by omega) (Nat.le_of_ble_eq_true rfl) dX7_leave_2 (fun v9 G9 h9 => ?_) (fun q9 G9 h9 => (by cases h9.1))
  obtain ⟨h8, rfl⟩ := h9; cases h8
  by_cases bD : inB x dc = true
  · rw [oAt_pos bD]
    have b1bD := dA_b (Nat.lt_of_lt_of_le (inB_lt bD) j2)
    show bV O _ d 5 [(0, .ref 32), (1, .int x)] [.ref (dA (cl x))] (f, n, s) _
    refine r_astore_n (n := 2) (i := 2) (L' := [(2, .ref (dA (cl x))), (0, .ref 32), (1, .int x)]) rfl dX7_leave_5 (by decide) rfl ?_
    refine r_aload_n (n := 2) (i := 2) 0 rfl rfl dX7_leave_6 ?_
    refine r_ifnonnull (tgt := 16) (by decide) dX7_leave_7 ?_
    refine r_aload_n (n := 2) (i := 2) 0 rfl rfl dX7_leave_16 ?_
    refine p_get (fs := [.ref ((dA (cl x)) + 1), .ref ((dA (cl x)) + 2), .ref ((dA (cl x)) + 3), .ref ((dA (cl x)) + 4), .ref ((dA (cl x)) + 5), .ref ((dA (cl x)) + 6), .ref ((dA (cl x)) + 7), .int (d_ch (dr (cl x))), .int (d_rv (dr (cl x))), .int (d_sh (dr (cl x))), .int (nI (d_fc (dr (cl x)))), .int (nI (d_cn (dr (cl x)))), .int (d_kp (dr (cl x))), .int (d_rf (dr (cl x)))]) flX7_149 (by exact (hD.2.1 _ (inB_lt bD)).1) rfl dX7_leave_17 ?_
    refine r_bipush (v := (-2)) (by decide) dX7_leave_20 ?_
    refine r_icmp_ne (tgt := 31) (by decide) dX7_leave_22 (fun c22 => ?_) (fun c22 => ?_)
    · refine r_aload_n (n := 2) (i := 2) 0 rfl rfl dX7_leave_31 ?_
      refine p_callV (As := []) (rest := []) (kX1_dropRival (O := O) (d := 0) (f := f) (n := n) (s := s) (q := dA (cl x)) (ch := d_ch (dr (cl x))) (rv := d_rv (dr (cl x))) (sh := d_sh (dr (cl x))) (fc := d_fc (dr (cl x))) (cn := d_cn (dr (cl x))) (kp := d_kp (dr (cl x))) (rf := d_rf (dr (cl x))) (by exact (hD.2.1 _ (inB_lt bD)).1)  (Nat.le_refl _)).call rfl lkX7_152 imX1_dropRival seX1_dropRival rfl (by exact (hD.2.1 _ (inB_lt bD)).1) rfl rfl (by omega) (Nat.le_of_ble_eq_true rfl) dX7_leave_32 (fun v9 G9 h9 => ?_) (fun q9 G9 h9 => (by cases h9.1))
      obtain ⟨h8, rfl⟩ := h9; cases h8
      show bV O _ d 35 [(2, .ref (dA (cl x))), (0, .ref 32), (1, .int x)] [] (bU f (dA (cl x)) (.inr (1, [.ref ((dA (cl x)) + 1), .ref ((dA (cl x)) + 2), .ref ((dA (cl x)) + 3), .ref ((dA (cl x)) + 4), .ref ((dA (cl x)) + 5), .ref ((dA (cl x)) + 6), .ref ((dA (cl x)) + 7), .int (d_ch (dr (cl x))), .int (-2), .int 0, .int (nI (d_fc (dr (cl x)))), .int (nI (d_cn (dr (cl x)))), .int (d_kp (dr (cl x))), .int (d_rf (dr (cl x)))])), n, s) _
      refine r_aload_n (n := 0) (i := 0) 1 rfl rfl dX7_leave_35 ?_
      refine p_callV (As := []) (rest := []) (kX7_allow (O := O) (d := 0) (f := bU f (dA (cl x)) (.inr (1, [.ref ((dA (cl x)) + 1), .ref ((dA (cl x)) + 2), .ref ((dA (cl x)) + 3), .ref ((dA (cl x)) + 4), .ref ((dA (cl x)) + 5), .ref ((dA (cl x)) + 6), .ref ((dA (cl x)) + 7), .int (d_ch (dr (cl x))), .int (-2), .int 0, .int (nI (d_fc (dr (cl x)))), .int (nI (d_cn (dr (cl x)))), .int (d_kp (dr (cl x))), .int (d_rf (dr (cl x)))]))) (n := n) (s := s) (ct_m := nI mc) (ct_d := nI dc) (ct_a := nI ac) (ct_f := nI dfn) (tday := nI td) (trb := tr) (flt := ft) (plc := pl) (by exact ((bU_n (by omega)).trans (hS)))  (Nat.le_refl _)).call rfl lkX7_113 imX7_allow seX7_allow rfl (by exact ((bU_n (by omega)).trans (hS))) rfl rfl (by omega) (Nat.le_of_ble_eq_true rfl) dX7_leave_36 (fun v9 G9 h9 => ?_) (fun q9 G9 h9 => (by cases h9.1))
      obtain ⟨h8, rfl⟩ := h9; cases h8
      show bV O _ d 39 [(2, .ref (dA (cl x))), (0, .ref 32), (1, .int x)] [.int 1] (bU (bU f (dA (cl x)) (.inr (1, [.ref ((dA (cl x)) + 1), .ref ((dA (cl x)) + 2), .ref ((dA (cl x)) + 3), .ref ((dA (cl x)) + 4), .ref ((dA (cl x)) + 5), .ref ((dA (cl x)) + 6), .ref ((dA (cl x)) + 7), .int (d_ch (dr (cl x))), .int (-2), .int 0, .int (nI (d_fc (dr (cl x)))), .int (nI (d_cn (dr (cl x)))), .int (d_kp (dr (cl x))), .int (d_rf (dr (cl x)))]))) 32 (.inr (7, [.ref 33, .ref 38, .ref 40, .ref 41, .ref 42, .ref 43, .ref 44, .ref 45, .int (nI mc), .int (nI dc), .int (nI ac), .int (nI dfn), .int (nI td), .int 0, .int ft, .int pl])), n, s) _
      refine r_zreturn rfl (by first | decide +kernel | exact narZ _ | assumption) dX7_leave_39 ?_
      unfold s_leave
      try simp only []
      try (first | simp only [if_pos bD] | simp only [if_neg bD])
      try (first | simp only [if_pos c22] | simp only [if_neg c22])
      exact pX_mk (by exact bU_s _ _ _) (hT.fr (fun q _ _ => (bU_n (by omega)).trans ((bU_n (by omega)).trans (rfl)))) (hW.fr (fun q _ _ => (bU_n (by omega)).trans ((bU_n (by omega)).trans (rfl)))) (hM.fr j1 (fun q _ => (bU_n (by omega)).trans ((bU_n (by omega)).trans (rfl)))) (hD.put j2 (inB_lt bD) ⟨(by exact ((bU_n (by omega)).trans (bU_s _ _ _))), (by exact ((bU_n (by omega)).trans (((bU_n (by omega)).trans ((hD.2.1 _ (inB_lt bD)).2.1))))), (by exact ((bU_n (by omega)).trans (((bU_n (by omega)).trans ((hD.2.1 _ (inB_lt bD)).2.2.1))))), (by exact ((bU_n (by omega)).trans (((bU_n (by omega)).trans ((hD.2.1 _ (inB_lt bD)).2.2.2.1))))), (by exact ((bU_n (by omega)).trans (((bU_n (by omega)).trans ((hD.2.1 _ (inB_lt bD)).2.2.2.2.1))))), (by exact ((bU_n (by omega)).trans (((bU_n (by omega)).trans ((hD.2.1 _ (inB_lt bD)).2.2.2.2.2.1))))), (by exact ((bU_n (by omega)).trans (((bU_n (by omega)).trans ((hD.2.1 _ (inB_lt bD)).2.2.2.2.2.2.1))))), (by exact ((bU_n (by omega)).trans (((bU_n (by omega)).trans ((hD.2.1 _ (inB_lt bD)).2.2.2.2.2.2.2)))))⟩ (fun q _ => (bU_n (by omega)).trans ((bU_n (by omega)).trans (rfl)))) (hA.fr j3 (fun q _ => (bU_n (by omega)).trans ((bU_n (by omega)).trans (rfl)))) (by exact ((bU_n (by decide)).trans (((bU_n (by omega)).trans (hI))))) (by obtain ⟨tk8, h8⟩ := hC; exact ⟨tk8, (bU_n (by omega)).trans ((bU_n (by omega)).trans (h8))⟩) (by exact ((bU_n (by decide)).trans (((bU_n (by omega)).trans (hF))))) (fun q _ => (bU_n (by omega)).trans ((bU_n (by omega)).trans (rfl))) (by omega) (by omega)
    · refine r_aload_n (n := 0) (i := 0) 1 rfl rfl dX7_leave_25 ?_
      refine r_iconst (v := 5) (by decide) dX7_leave_26 ?_
      refine p_callV (As := [.int 5]) (rest := []) (kX7_deny (O := O) (d := 0) (f := f) (n := n) (s := s) (ct_m := nI mc) (ct_d := nI dc) (ct_a := nI ac) (ct_f := nI dfn) (tday := nI td) (trb := tr) (flt := ft) (plc := pl) (x := 5) hS  (Nat.le_refl _)).call rfl lkX7_109 imX7_deny seX7_deny rfl hS rfl rfl (by omega) (Nat.le_of_ble_eq_true rfl) dX7_leave_27 (fun v9 G9 h9 => ?_) (fun q9 G9 h9 => (by cases h9.1))
      obtain ⟨h8, rfl⟩ := h9; cases h8
      show bV O _ d 30 [(2, .ref (dA (cl x))), (0, .ref 32), (1, .int x)] [.int 0] (bU f 32 (.inr (7, [.ref 33, .ref 38, .ref 40, .ref 41, .ref 42, .ref 43, .ref 44, .ref 45, .int (nI mc), .int (nI dc), .int (nI ac), .int (nI dfn), .int (nI td), .int 5, .int ft, .int pl])), n, s) _
      refine r_zreturn rfl (by first | decide +kernel | exact narZ _ | assumption) dX7_leave_30 ?_
      unfold s_leave
      try simp only []
      try (first | simp only [if_pos bD] | simp only [if_neg bD])
      try (first | simp only [if_pos c22] | simp only [if_neg c22])
      exact pX_mk (by exact bU_s _ _ _) (hT.fr (fun q _ _ => (bU_n (by omega)).trans (rfl))) (hW.fr (fun q _ _ => (bU_n (by omega)).trans (rfl))) (hM.fr j1 (fun q _ => (bU_n (by omega)).trans (rfl))) (hD.fr j2 (fun q _ => (bU_n (by omega)).trans (rfl))) (hA.fr j3 (fun q _ => (bU_n (by omega)).trans (rfl))) (by exact ((bU_n (by decide)).trans (hI))) (by obtain ⟨tk8, h8⟩ := hC; exact ⟨tk8, (bU_n (by omega)).trans (h8)⟩) (by exact ((bU_n (by decide)).trans (hF))) (fun q _ => (bU_n (by omega)).trans (rfl)) (by omega) (by omega)
  · rw [oAt_neg bD]
    show bV O _ d 5 [(0, .ref 32), (1, .int x)] [.null] (f, n, s) _
    refine r_astore_nN (n := 2) (i := 2) (L' := [(2, .null), (0, .ref 32), (1, .int x)]) rfl dX7_leave_5 (by decide) rfl ?_
    refine r_aload_nN (n := 2) (i := 2) 0 rfl rfl dX7_leave_6 ?_
    refine r_ifnonnullN dX7_leave_7 ?_
    refine r_aload_n (n := 0) (i := 0) 1 rfl rfl dX7_leave_10 ?_
    refine r_iconst (v := 1) (by decide) dX7_leave_11 ?_
    refine p_callV (As := [.int 1]) (rest := []) (kX7_deny (O := O) (d := 0) (f := f) (n := n) (s := s) (ct_m := nI mc) (ct_d := nI dc) (ct_a := nI ac) (ct_f := nI dfn) (tday := nI td) (trb := tr) (flt := ft) (plc := pl) (x := 1) hS  (Nat.le_refl _)).call rfl lkX7_109 imX7_deny seX7_deny rfl hS rfl rfl (by omega) (Nat.le_of_ble_eq_true rfl) dX7_leave_12 (fun v9 G9 h9 => ?_) (fun q9 G9 h9 => (by cases h9.1))
    obtain ⟨h8, rfl⟩ := h9; cases h8
    show bV O _ d 15 [(2, .null), (0, .ref 32), (1, .int x)] [.int 0] (bU f 32 (.inr (7, [.ref 33, .ref 38, .ref 40, .ref 41, .ref 42, .ref 43, .ref 44, .ref 45, .int (nI mc), .int (nI dc), .int (nI ac), .int (nI dfn), .int (nI td), .int 1, .int ft, .int pl])), n, s) _
    refine r_zreturn rfl (by first | decide +kernel | exact narZ _ | assumption) dX7_leave_15 ?_
    unfold s_leave
    try simp only []
    try (first | simp only [if_pos bD] | simp only [if_neg bD])
    exact pX_mk (by exact bU_s _ _ _) (hT.fr (fun q _ _ => (bU_n (by omega)).trans (rfl))) (hW.fr (fun q _ _ => (bU_n (by omega)).trans (rfl))) (hM.fr j1 (fun q _ => (bU_n (by omega)).trans (rfl))) (hD.fr j2 (fun q _ => (bU_n (by omega)).trans (rfl))) (hA.fr j3 (fun q _ => (bU_n (by omega)).trans (rfl))) (by exact ((bU_n (by decide)).trans (hI))) (by obtain ⟨tk8, h8⟩ := hC; exact ⟨tk8, (bU_n (by omega)).trans (h8)⟩) (by exact ((bU_n (by decide)).trans (hF))) (fun q _ => (bU_n (by omega)).trans (rfl)) (by omega) (by omega)
set_option maxRecDepth 4000 in
theorem x_guard {O : bO} {d : Nat} {f : bF} {n s : Nat} {bs : Nat → Int32} {tl : Nat} {mc : Nat} {md : Nat → MR} {ip : Nat → Int32} {dc : Nat} {dr : Nat → DR} {ac : Nat} {an : Nat → AR} {hs : Bool} {sd : Nat → Int32} {df : Nat → Int32} {dfn : Nat} {td : Nat} {tr : Int32} {ft : Int32} {pl : Int32} {x : Int32} {k : Int32} {l : Int32} {h : Int32} (hX : XR f (bs, tl, mc, md, ip, dc, dr, ac, an, hs, sd, df, dfn, td, tr, ft, pl)) (jX : JX (bs, tl, mc, md, ip, dc, dr, ac, an, hs, sd, df, dfn, td, tr, ft, pl))  (hd : 1 ≤ d) : bCall O mX7_guard d [.ref 32, .int x, .int k, .int l, .int h] (f, n, s) (pX f n s 0 0 (s_guard (bs, tl, mc, md, ip, dc, dr, ac, an, hs, sd, df, dfn, td, tr, ft, pl) x k l h)) := by
  refine bCall_of (by decide) rfl (Nat.le_of_ble_eq_true rfl) ?_
  obtain ⟨hS, hT, hW, hM, hD, hA, hI, hC, hF⟩ := id hX
  obtain ⟨j1, j2, j3, j4, j5, j6, j7, j8⟩ := id jX
  simp only [] at hS hT hW hM hD hA hI hC hF j1 j2 j3 j4 j5 j6 j7 j8
  show bV O _ d 0 [(0, .ref 32), (1, .int x), (2, .int k), (3, .int l), (4, .int h)] [] (f, n, s) _
  refine r_aload_n (n := 0) (i := 0) 0 rfl rfl dX7_guard_0 ?_
  refine r_iload_n (n := 1) (i := 1) 1 rfl rfl dX7_guard_1 ?_
  refine p_callV (As := [.int x]) (rest := []) (kX7_doorAt (O := O) (d := 0) (f := f) (n := n) (s := s) (ct_m := nI mc) (ct_d := nI dc) (ct_a := nI ac) (ct_f := nI dfn) (tday := nI td) (trb := tr) (flt := ft) (plc := pl) (x := x) (nn := dc) hS hD.1 (by first | assumption | omega | decide) (Nat.le_refl _)).call rfl lkX7_126 imX7_doorAt seX7_doorAt rfl hS rfl rfl (by omega) (Nat.le_of_ble_eq_true rfl) dX7_guard_2 (fun v9 G9 h9 => ?_) (fun q9 G9 h9 => (by cases h9.1))
  obtain ⟨h8, rfl⟩ := h9; cases h8
  by_cases bD : inB x dc = true
  · rw [oAt_pos bD]
    have b1bD := dA_b (Nat.lt_of_lt_of_le (inB_lt bD) j2)
    show bV O _ d 5 [(0, .ref 32), (1, .int x), (2, .int k), (3, .int l), (4, .int h)] [.ref (dA (cl x))] (f, n, s) _
    refine r_astore (i := 5) (L' := [(5, .ref (dA (cl x))), (0, .ref 32), (1, .int x), (2, .int k), (3, .int l), (4, .int h)]) dX7_guard_5 (by decide) rfl ?_
    refine r_aload (i := 5) 0 rfl dX7_guard_7 ?_
    refine r_ifnull dX7_guard_9 ?_
    refine r_iload_n (n := 2) (i := 2) 3 rfl rfl dX7_guard_12 ?_
    refine r_if_lt (tgt := 22) (by decide) dX7_guard_13 (fun c13 => ?_) (fun c13 => ?_)
    · refine r_aload_n (n := 0) (i := 0) 1 rfl rfl dX7_guard_22 ?_
      refine r_iconst (v := 1) (by decide) dX7_guard_23 ?_
      refine p_callV (As := [.int 1]) (rest := []) (kX7_deny (O := O) (d := 0) (f := f) (n := n) (s := s) (ct_m := nI mc) (ct_d := nI dc) (ct_a := nI ac) (ct_f := nI dfn) (tday := nI td) (trb := tr) (flt := ft) (plc := pl) (x := 1) hS  (Nat.le_refl _)).call rfl lkX7_109 imX7_deny seX7_deny rfl hS rfl rfl (by omega) (Nat.le_of_ble_eq_true rfl) dX7_guard_24 (fun v9 G9 h9 => ?_) (fun q9 G9 h9 => (by cases h9.1))
      obtain ⟨h8, rfl⟩ := h9; cases h8
      show bV O _ d 27 [(5, .ref (dA (cl x))), (0, .ref 32), (1, .int x), (2, .int k), (3, .int l), (4, .int h)] [.int 0] (bU f 32 (.inr (7, [.ref 33, .ref 38, .ref 40, .ref 41, .ref 42, .ref 43, .ref 44, .ref 45, .int (nI mc), .int (nI dc), .int (nI ac), .int (nI dfn), .int (nI td), .int 1, .int ft, .int pl])), n, s) _
      refine r_zreturn rfl (by first | decide +kernel | exact narZ _ | assumption) dX7_guard_27 ?_
      unfold s_guard
      try simp only []
      try (first | simp only [if_pos bD] | simp only [if_neg bD])
      try (first | simp only [if_pos c13] | simp only [if_neg c13])
      exact pX_mk (by exact bU_s _ _ _) (hT.fr (fun q _ _ => (bU_n (by omega)).trans (rfl))) (hW.fr (fun q _ _ => (bU_n (by omega)).trans (rfl))) (hM.fr j1 (fun q _ => (bU_n (by omega)).trans (rfl))) (hD.fr j2 (fun q _ => (bU_n (by omega)).trans (rfl))) (hA.fr j3 (fun q _ => (bU_n (by omega)).trans (rfl))) (by exact ((bU_n (by decide)).trans (hI))) (by obtain ⟨tk8, h8⟩ := hC; exact ⟨tk8, (bU_n (by omega)).trans (h8)⟩) (by exact ((bU_n (by decide)).trans (hF))) (fun q _ => (bU_n (by omega)).trans (rfl)) (by omega) (by omega)
    · refine r_iload_n (n := 2) (i := 2) 3 rfl rfl dX7_guard_16 ?_
      refine r_bipush (v := 6) (by decide) dX7_guard_17 ?_
      refine r_icmp_lt (tgt := 28) (by decide) dX7_guard_19 (fun c19 => ?_) (fun c19 => ?_)
      · refine r_iload_n (n := 3) (i := 3) 4 rfl rfl dX7_guard_28 ?_
        refine r_sipush (v := (-1000)) (by decide) dX7_guard_29 ?_
        refine r_icmp_lt (tgt := 49) (by decide) dX7_guard_32 (fun c32 => ?_) (fun c32 => ?_)
        · refine r_aload_n (n := 0) (i := 0) 1 rfl rfl dX7_guard_49 ?_
          refine r_iconst (v := 2) (by decide) dX7_guard_50 ?_
          refine p_callV (As := [.int 2]) (rest := []) (kX7_deny (O := O) (d := 0) (f := f) (n := n) (s := s) (ct_m := nI mc) (ct_d := nI dc) (ct_a := nI ac) (ct_f := nI dfn) (tday := nI td) (trb := tr) (flt := ft) (plc := pl) (x := 2) hS  (Nat.le_refl _)).call rfl lkX7_109 imX7_deny seX7_deny rfl hS rfl rfl (by omega) (Nat.le_of_ble_eq_true rfl) dX7_guard_51 (fun v9 G9 h9 => ?_) (fun q9 G9 h9 => (by cases h9.1))
          obtain ⟨h8, rfl⟩ := h9; cases h8
          show bV O _ d 54 [(5, .ref (dA (cl x))), (0, .ref 32), (1, .int x), (2, .int k), (3, .int l), (4, .int h)] [.int 0] (bU f 32 (.inr (7, [.ref 33, .ref 38, .ref 40, .ref 41, .ref 42, .ref 43, .ref 44, .ref 45, .int (nI mc), .int (nI dc), .int (nI ac), .int (nI dfn), .int (nI td), .int 2, .int ft, .int pl])), n, s) _
          refine r_zreturn rfl (by first | decide +kernel | exact narZ _ | assumption) dX7_guard_54 ?_
          unfold s_guard
          try simp only []
          try (first | simp only [if_pos bD] | simp only [if_neg bD])
          try (first | simp only [if_pos c13] | simp only [if_neg c13])
          try (first | simp only [if_pos c19] | simp only [if_neg c19])
          try (first | simp only [if_pos c32] | simp only [if_neg c32])
          exact pX_mk (by exact bU_s _ _ _) (hT.fr (fun q _ _ => (bU_n (by omega)).trans (rfl))) (hW.fr (fun q _ _ => (bU_n (by omega)).trans (rfl))) (hM.fr j1 (fun q _ => (bU_n (by omega)).trans (rfl))) (hD.fr j2 (fun q _ => (bU_n (by omega)).trans (rfl))) (hA.fr j3 (fun q _ => (bU_n (by omega)).trans (rfl))) (by exact ((bU_n (by decide)).trans (hI))) (by obtain ⟨tk8, h8⟩ := hC; exact ⟨tk8, (bU_n (by omega)).trans (h8)⟩) (by exact ((bU_n (by decide)).trans (hF))) (fun q _ => (bU_n (by omega)).trans (rfl)) (by omega) (by omega)
        · refine r_iload (i := 4) 5 rfl dX7_guard_35 ?_
          refine r_sipush (v := 1000) (by decide) dX7_guard_37 ?_
          refine r_icmp_gt (tgt := 49) (by decide) dX7_guard_40 (fun c40 => ?_) (fun c40 => ?_)
          · refine r_aload_n (n := 0) (i := 0) 1 rfl rfl dX7_guard_49 ?_
            refine r_iconst (v := 2) (by decide) dX7_guard_50 ?_
            refine p_callV (As := [.int 2]) (rest := []) (kX7_deny (O := O) (d := 0) (f := f) (n := n) (s := s) (ct_m := nI mc) (ct_d := nI dc) (ct_a := nI ac) (ct_f := nI dfn) (tday := nI td) (trb := tr) (flt := ft) (plc := pl) (x := 2) hS  (Nat.le_refl _)).call rfl lkX7_109 imX7_deny seX7_deny rfl hS rfl rfl (by omega) (Nat.le_of_ble_eq_true rfl) dX7_guard_51 (fun v9 G9 h9 => ?_) (fun q9 G9 h9 => (by cases h9.1))
            obtain ⟨h8, rfl⟩ := h9; cases h8
            show bV O _ d 54 [(5, .ref (dA (cl x))), (0, .ref 32), (1, .int x), (2, .int k), (3, .int l), (4, .int h)] [.int 0] (bU f 32 (.inr (7, [.ref 33, .ref 38, .ref 40, .ref 41, .ref 42, .ref 43, .ref 44, .ref 45, .int (nI mc), .int (nI dc), .int (nI ac), .int (nI dfn), .int (nI td), .int 2, .int ft, .int pl])), n, s) _
            refine r_zreturn rfl (by first | decide +kernel | exact narZ _ | assumption) dX7_guard_54 ?_
            unfold s_guard
            try simp only []
            try (first | simp only [if_pos bD] | simp only [if_neg bD])
            try (first | simp only [if_pos c13] | simp only [if_neg c13])
            try (first | simp only [if_pos c19] | simp only [if_neg c19])
            try (first | simp only [if_pos c32] | simp only [if_neg c32])
            try (first | simp only [if_pos c40] | simp only [if_neg c40])
            exact pX_mk (by exact bU_s _ _ _) (hT.fr (fun q _ _ => (bU_n (by omega)).trans (rfl))) (hW.fr (fun q _ _ => (bU_n (by omega)).trans (rfl))) (hM.fr j1 (fun q _ => (bU_n (by omega)).trans (rfl))) (hD.fr j2 (fun q _ => (bU_n (by omega)).trans (rfl))) (hA.fr j3 (fun q _ => (bU_n (by omega)).trans (rfl))) (by exact ((bU_n (by decide)).trans (hI))) (by obtain ⟨tk8, h8⟩ := hC; exact ⟨tk8, (bU_n (by omega)).trans (h8)⟩) (by exact ((bU_n (by decide)).trans (hF))) (fun q _ => (bU_n (by omega)).trans (rfl)) (by omega) (by omega)
          · refine r_iload_n (n := 3) (i := 3) 4 rfl rfl dX7_guard_43 ?_
            refine r_iload (i := 4) 5 rfl dX7_guard_44 ?_
            refine r_icmp_le (tgt := 55) (by decide) dX7_guard_46 (fun c46 => ?_) (fun c46 => ?_)
            · refine r_aload (i := 5) 0 rfl dX7_guard_55 ?_
              refine p_get (fs := [.ref ((dA (cl x)) + 1), .ref ((dA (cl x)) + 2), .ref ((dA (cl x)) + 3), .ref ((dA (cl x)) + 4), .ref ((dA (cl x)) + 5), .ref ((dA (cl x)) + 6), .ref ((dA (cl x)) + 7), .int (d_ch (dr (cl x))), .int (d_rv (dr (cl x))), .int (d_sh (dr (cl x))), .int (nI (d_fc (dr (cl x)))), .int (nI (d_cn (dr (cl x)))), .int (d_kp (dr (cl x))), .int (d_rf (dr (cl x)))]) flX7_130 (by exact (hD.2.1 _ (inB_lt bD)).1) rfl dX7_guard_57 ?_
              refine r_iload_n (n := 2) (i := 2) 3 rfl rfl dX7_guard_60 ?_
              refine r_iload_n (n := 3) (i := 3) 4 rfl rfl dX7_guard_61 ?_
              refine p_iast (by exact (hD.2.1 _ (inB_lt bD)).2.1) (vpk c13 c19 (by decide)) dX7_guard_62 ?_
              refine r_aload (i := 5) 0 rfl dX7_guard_63 ?_
              refine p_get (fs := [.ref ((dA (cl x)) + 1), .ref ((dA (cl x)) + 2), .ref ((dA (cl x)) + 3), .ref ((dA (cl x)) + 4), .ref ((dA (cl x)) + 5), .ref ((dA (cl x)) + 6), .ref ((dA (cl x)) + 7), .int (d_ch (dr (cl x))), .int (d_rv (dr (cl x))), .int (d_sh (dr (cl x))), .int (nI (d_fc (dr (cl x)))), .int (nI (d_cn (dr (cl x)))), .int (d_kp (dr (cl x))), .int (d_rf (dr (cl x)))]) flX7_133 (by exact ((bU_n (by omega)).trans ((hD.2.1 _ (inB_lt bD)).1))) rfl dX7_guard_65 ?_
              refine r_iload_n (n := 2) (i := 2) 3 rfl rfl dX7_guard_68 ?_
              refine r_iload (i := 4) 5 rfl dX7_guard_69 ?_
              refine p_iast (by exact ((bU_n (by omega)).trans ((hD.2.1 _ (inB_lt bD)).2.2.1))) (vpk c13 c19 (by decide)) dX7_guard_71 ?_
              refine r_aload_n (n := 0) (i := 0) 1 rfl rfl dX7_guard_72 ?_
              refine p_callV (As := []) (rest := []) (kX7_allow (O := O) (d := 0) (f := bU (bU f ((dA (cl x)) + 1) (.inl (0, 6, .inl (upd (d_lo (dr (cl x))) k.toNatClampNeg l)))) ((dA (cl x)) + 2) (.inl (0, 6, .inl (upd (d_hi (dr (cl x))) k.toNatClampNeg h)))) (n := n) (s := s) (ct_m := nI mc) (ct_d := nI dc) (ct_a := nI ac) (ct_f := nI dfn) (tday := nI td) (trb := tr) (flt := ft) (plc := pl) (by exact ((bU_n (by omega)).trans (((bU_n (by omega)).trans (hS)))))  (Nat.le_refl _)).call rfl lkX7_113 imX7_allow seX7_allow rfl (by exact ((bU_n (by omega)).trans (((bU_n (by omega)).trans (hS))))) rfl rfl (by omega) (Nat.le_of_ble_eq_true rfl) dX7_guard_73 (fun v9 G9 h9 => ?_) (fun q9 G9 h9 => (by cases h9.1))
              obtain ⟨h8, rfl⟩ := h9; cases h8
              show bV O _ d 76 [(5, .ref (dA (cl x))), (0, .ref 32), (1, .int x), (2, .int k), (3, .int l), (4, .int h)] [.int 1] (bU (bU (bU f ((dA (cl x)) + 1) (.inl (0, 6, .inl (upd (d_lo (dr (cl x))) k.toNatClampNeg l)))) ((dA (cl x)) + 2) (.inl (0, 6, .inl (upd (d_hi (dr (cl x))) k.toNatClampNeg h)))) 32 (.inr (7, [.ref 33, .ref 38, .ref 40, .ref 41, .ref 42, .ref 43, .ref 44, .ref 45, .int (nI mc), .int (nI dc), .int (nI ac), .int (nI dfn), .int (nI td), .int 0, .int ft, .int pl])), n, s) _
              refine r_zreturn rfl (by first | decide +kernel | exact narZ _ | assumption) dX7_guard_76 ?_
              unfold s_guard
              try simp only []
              try (first | simp only [if_pos bD] | simp only [if_neg bD])
              try (first | simp only [if_pos c13] | simp only [if_neg c13])
              try (first | simp only [if_pos c19] | simp only [if_neg c19])
              try (first | simp only [if_pos c32] | simp only [if_neg c32])
              try (first | simp only [if_pos c40] | simp only [if_neg c40])
              try (first | simp only [if_pos c46] | simp only [if_neg c46])
              exact pX_mk (by exact bU_s _ _ _) (hT.fr (fun q _ _ => (bU_n (by omega)).trans ((bU_n (by omega)).trans ((bU_n (by omega)).trans (rfl))))) (hW.fr (fun q _ _ => (bU_n (by omega)).trans ((bU_n (by omega)).trans ((bU_n (by omega)).trans (rfl))))) (hM.fr j1 (fun q _ => (bU_n (by omega)).trans ((bU_n (by omega)).trans ((bU_n (by omega)).trans (rfl))))) (hD.put j2 (inB_lt bD) ⟨(by exact ((bU_n (by omega)).trans (((bU_n (by omega)).trans (((bU_n (by omega)).trans ((hD.2.1 _ (inB_lt bD)).1))))))), (by exact ((bU_n (by omega)).trans (((bU_n (by omega)).trans (bU_s _ _ _))))), (by exact ((bU_n (by omega)).trans (bU_s _ _ _))), (by exact ((bU_n (by omega)).trans (((bU_n (by omega)).trans (((bU_n (by omega)).trans ((hD.2.1 _ (inB_lt bD)).2.2.2.1))))))), (by exact ((bU_n (by omega)).trans (((bU_n (by omega)).trans (((bU_n (by omega)).trans ((hD.2.1 _ (inB_lt bD)).2.2.2.2.1))))))), (by exact ((bU_n (by omega)).trans (((bU_n (by omega)).trans (((bU_n (by omega)).trans ((hD.2.1 _ (inB_lt bD)).2.2.2.2.2.1))))))), (by exact ((bU_n (by omega)).trans (((bU_n (by omega)).trans (((bU_n (by omega)).trans ((hD.2.1 _ (inB_lt bD)).2.2.2.2.2.2.1))))))), (by exact ((bU_n (by omega)).trans (((bU_n (by omega)).trans (((bU_n (by omega)).trans ((hD.2.1 _ (inB_lt bD)).2.2.2.2.2.2.2)))))))⟩ (fun q _ => (bU_n (by omega)).trans ((bU_n (by omega)).trans ((bU_n (by omega)).trans (rfl))))) (hA.fr j3 (fun q _ => (bU_n (by omega)).trans ((bU_n (by omega)).trans ((bU_n (by omega)).trans (rfl))))) (by exact ((bU_n (by decide)).trans (((bU_n (by omega)).trans (((bU_n (by omega)).trans (hI))))))) (by obtain ⟨tk8, h8⟩ := hC; exact ⟨tk8, (bU_n (by omega)).trans ((bU_n (by omega)).trans ((bU_n (by omega)).trans (h8)))⟩) (by exact ((bU_n (by decide)).trans (((bU_n (by omega)).trans (((bU_n (by omega)).trans (hF))))))) (fun q _ => (bU_n (by omega)).trans ((bU_n (by omega)).trans ((bU_n (by omega)).trans (rfl)))) (by omega) (by omega)
            · refine r_aload_n (n := 0) (i := 0) 1 rfl rfl dX7_guard_49 ?_
              refine r_iconst (v := 2) (by decide) dX7_guard_50 ?_
              refine p_callV (As := [.int 2]) (rest := []) (kX7_deny (O := O) (d := 0) (f := f) (n := n) (s := s) (ct_m := nI mc) (ct_d := nI dc) (ct_a := nI ac) (ct_f := nI dfn) (tday := nI td) (trb := tr) (flt := ft) (plc := pl) (x := 2) hS  (Nat.le_refl _)).call rfl lkX7_109 imX7_deny seX7_deny rfl hS rfl rfl (by omega) (Nat.le_of_ble_eq_true rfl) dX7_guard_51 (fun v9 G9 h9 => ?_) (fun q9 G9 h9 => (by cases h9.1))
              obtain ⟨h8, rfl⟩ := h9; cases h8
              show bV O _ d 54 [(5, .ref (dA (cl x))), (0, .ref 32), (1, .int x), (2, .int k), (3, .int l), (4, .int h)] [.int 0] (bU f 32 (.inr (7, [.ref 33, .ref 38, .ref 40, .ref 41, .ref 42, .ref 43, .ref 44, .ref 45, .int (nI mc), .int (nI dc), .int (nI ac), .int (nI dfn), .int (nI td), .int 2, .int ft, .int pl])), n, s) _
              refine r_zreturn rfl (by first | decide +kernel | exact narZ _ | assumption) dX7_guard_54 ?_
              unfold s_guard
              try simp only []
              try (first | simp only [if_pos bD] | simp only [if_neg bD])
              try (first | simp only [if_pos c13] | simp only [if_neg c13])
              try (first | simp only [if_pos c19] | simp only [if_neg c19])
              try (first | simp only [if_pos c32] | simp only [if_neg c32])
              try (first | simp only [if_pos c40] | simp only [if_neg c40])
              try (first | simp only [if_pos c46] | simp only [if_neg c46])
              exact pX_mk (by exact bU_s _ _ _) (hT.fr (fun q _ _ => (bU_n (by omega)).trans (rfl))) (hW.fr (fun q _ _ => (bU_n (by omega)).trans (rfl))) (hM.fr j1 (fun q _ => (bU_n (by omega)).trans (rfl))) (hD.fr j2 (fun q _ => (bU_n (by omega)).trans (rfl))) (hA.fr j3 (fun q _ => (bU_n (by omega)).trans (rfl))) (by exact ((bU_n (by decide)).trans (hI))) (by obtain ⟨tk8, h8⟩ := hC; exact ⟨tk8, (bU_n (by omega)).trans (h8)⟩) (by exact ((bU_n (by decide)).trans (hF))) (fun q _ => (bU_n (by omega)).trans (rfl)) (by omega) (by omega)
      · refine r_aload_n (n := 0) (i := 0) 1 rfl rfl dX7_guard_22 ?_
        refine r_iconst (v := 1) (by decide) dX7_guard_23 ?_
        refine p_callV (As := [.int 1]) (rest := []) (kX7_deny (O := O) (d := 0) (f := f) (n := n) (s := s) (ct_m := nI mc) (ct_d := nI dc) (ct_a := nI ac) (ct_f := nI dfn) (tday := nI td) (trb := tr) (flt := ft) (plc := pl) (x := 1) hS  (Nat.le_refl _)).call rfl lkX7_109 imX7_deny seX7_deny rfl hS rfl rfl (by omega) (Nat.le_of_ble_eq_true rfl) dX7_guard_24 (fun v9 G9 h9 => ?_) (fun q9 G9 h9 => (by cases h9.1))
        obtain ⟨h8, rfl⟩ := h9; cases h8
        show bV O _ d 27 [(5, .ref (dA (cl x))), (0, .ref 32), (1, .int x), (2, .int k), (3, .int l), (4, .int h)] [.int 0] (bU f 32 (.inr (7, [.ref 33, .ref 38, .ref 40, .ref 41, .ref 42, .ref 43, .ref 44, .ref 45, .int (nI mc), .int (nI dc), .int (nI ac), .int (nI dfn), .int (nI td), .int 1, .int ft, .int pl])), n, s) _
        refine r_zreturn rfl (by first | decide +kernel | exact narZ _ | assumption) dX7_guard_27 ?_
        unfold s_guard
        try simp only []
        try (first | simp only [if_pos bD] | simp only [if_neg bD])
        try (first | simp only [if_pos c13] | simp only [if_neg c13])
        try (first | simp only [if_pos c19] | simp only [if_neg c19])
        exact pX_mk (by exact bU_s _ _ _) (hT.fr (fun q _ _ => (bU_n (by omega)).trans (rfl))) (hW.fr (fun q _ _ => (bU_n (by omega)).trans (rfl))) (hM.fr j1 (fun q _ => (bU_n (by omega)).trans (rfl))) (hD.fr j2 (fun q _ => (bU_n (by omega)).trans (rfl))) (hA.fr j3 (fun q _ => (bU_n (by omega)).trans (rfl))) (by exact ((bU_n (by decide)).trans (hI))) (by obtain ⟨tk8, h8⟩ := hC; exact ⟨tk8, (bU_n (by omega)).trans (h8)⟩) (by exact ((bU_n (by decide)).trans (hF))) (fun q _ => (bU_n (by omega)).trans (rfl)) (by omega) (by omega)
  · rw [oAt_neg bD]
    show bV O _ d 5 [(0, .ref 32), (1, .int x), (2, .int k), (3, .int l), (4, .int h)] [.null] (f, n, s) _
    refine r_astoreN (i := 5) (L' := [(5, .null), (0, .ref 32), (1, .int x), (2, .int k), (3, .int l), (4, .int h)]) dX7_guard_5 (by decide) rfl ?_
    refine r_aloadN (i := 5) 0 rfl dX7_guard_7 ?_
    refine r_ifnullN (tgt := 22) (by decide) dX7_guard_9 ?_
    refine r_aload_n (n := 0) (i := 0) 1 rfl rfl dX7_guard_22 ?_
    refine r_iconst (v := 1) (by decide) dX7_guard_23 ?_
    refine p_callV (As := [.int 1]) (rest := []) (kX7_deny (O := O) (d := 0) (f := f) (n := n) (s := s) (ct_m := nI mc) (ct_d := nI dc) (ct_a := nI ac) (ct_f := nI dfn) (tday := nI td) (trb := tr) (flt := ft) (plc := pl) (x := 1) hS  (Nat.le_refl _)).call rfl lkX7_109 imX7_deny seX7_deny rfl hS rfl rfl (by omega) (Nat.le_of_ble_eq_true rfl) dX7_guard_24 (fun v9 G9 h9 => ?_) (fun q9 G9 h9 => (by cases h9.1))
    obtain ⟨h8, rfl⟩ := h9; cases h8
    show bV O _ d 27 [(5, .null), (0, .ref 32), (1, .int x), (2, .int k), (3, .int l), (4, .int h)] [.int 0] (bU f 32 (.inr (7, [.ref 33, .ref 38, .ref 40, .ref 41, .ref 42, .ref 43, .ref 44, .ref 45, .int (nI mc), .int (nI dc), .int (nI ac), .int (nI dfn), .int (nI td), .int 1, .int ft, .int pl])), n, s) _
    refine r_zreturn rfl (by first | decide +kernel | exact narZ _ | assumption) dX7_guard_27 ?_
    unfold s_guard
    try simp only []
    try (first | simp only [if_pos bD] | simp only [if_neg bD])
    exact pX_mk (by exact bU_s _ _ _) (hT.fr (fun q _ _ => (bU_n (by omega)).trans (rfl))) (hW.fr (fun q _ _ => (bU_n (by omega)).trans (rfl))) (hM.fr j1 (fun q _ => (bU_n (by omega)).trans (rfl))) (hD.fr j2 (fun q _ => (bU_n (by omega)).trans (rfl))) (hA.fr j3 (fun q _ => (bU_n (by omega)).trans (rfl))) (by exact ((bU_n (by decide)).trans (hI))) (by obtain ⟨tk8, h8⟩ := hC; exact ⟨tk8, (bU_n (by omega)).trans (h8)⟩) (by exact ((bU_n (by decide)).trans (hF))) (fun q _ => (bU_n (by omega)).trans (rfl)) (by omega) (by omega)
set_option maxRecDepth 4000 in
theorem x_rival {O : bO} {d : Nat} {f : bF} {n s : Nat} {bs : Nat → Int32} {tl : Nat} {mc : Nat} {md : Nat → MR} {ip : Nat → Int32} {dc : Nat} {dr : Nat → DR} {ac : Nat} {an : Nat → AR} {hs : Bool} {sd : Nat → Int32} {df : Nat → Int32} {dfn : Nat} {td : Nat} {tr : Int32} {ft : Int32} {pl : Int32} {x : Int32} {m : Int32} {h : Int32} (hX : XR f (bs, tl, mc, md, ip, dc, dr, ac, an, hs, sd, df, dfn, td, tr, ft, pl)) (jX : JX (bs, tl, mc, md, ip, dc, dr, ac, an, hs, sd, df, dfn, td, tr, ft, pl))  (hd : 1 ≤ d) : bCall O mX7_rival d [.ref 32, .int x, .int m, .int h] (f, n, s) (pX f n s 0 0 (s_rival (bs, tl, mc, md, ip, dc, dr, ac, an, hs, sd, df, dfn, td, tr, ft, pl) x m h)) := by
  refine bCall_of (by decide) rfl (Nat.le_of_ble_eq_true rfl) ?_
  obtain ⟨hS, hT, hW, hM, hD, hA, hI, hC, hF⟩ := id hX
  obtain ⟨j1, j2, j3, j4, j5, j6, j7, j8⟩ := id jX
  simp only [] at hS hT hW hM hD hA hI hC hF j1 j2 j3 j4 j5 j6 j7 j8
  show bV O _ d 0 [(0, .ref 32), (1, .int x), (2, .int m), (3, .int h)] [] (f, n, s) _
  refine r_aload_n (n := 0) (i := 0) 0 rfl rfl dX7_rival_0 ?_
  refine r_iload_n (n := 1) (i := 1) 1 rfl rfl dX7_rival_1 ?_
  refine p_callV (As := [.int x]) (rest := []) (kX7_doorAt (O := O) (d := 0) (f := f) (n := n) (s := s) (ct_m := nI mc) (ct_d := nI dc) (ct_a := nI ac) (ct_f := nI dfn) (tday := nI td) (trb := tr) (flt := ft) (plc := pl) (x := x) (nn := dc) hS hD.1 (by first | assumption | omega | decide) (Nat.le_refl _)).call rfl lkX7_126 imX7_doorAt seX7_doorAt rfl hS rfl rfl (by omega) (Nat.le_of_ble_eq_true rfl) dX7_rival_2 (fun v9 G9 h9 => ?_) (fun q9 G9 h9 => (by cases h9.1))
  obtain ⟨h8, rfl⟩ := h9; cases h8
  by_cases bD : inB x dc = true
  · rw [oAt_pos bD]
    have b1bD := dA_b (Nat.lt_of_lt_of_le (inB_lt bD) j2)
    show bV O _ d 5 [(0, .ref 32), (1, .int x), (2, .int m), (3, .int h)] [.ref (dA (cl x))] (f, n, s) _
    refine r_astore (i := 4) (L' := [(4, .ref (dA (cl x))), (0, .ref 32), (1, .int x), (2, .int m), (3, .int h)]) dX7_rival_5 (by decide) rfl ?_
    refine r_aload (i := 4) 0 rfl dX7_rival_7 ?_
    refine r_ifnull dX7_rival_9 ?_
    refine r_aload_n (n := 0) (i := 0) 1 rfl rfl dX7_rival_12 ?_
    refine r_iload_n (n := 2) (i := 2) 3 rfl rfl dX7_rival_13 ?_
    refine p_callV (As := [.int m]) (rest := []) (kX7_modelAt (O := O) (d := 0) (f := f) (n := n) (s := s) (ct_m := nI mc) (ct_d := nI dc) (ct_a := nI ac) (ct_f := nI dfn) (tday := nI td) (trb := tr) (flt := ft) (plc := pl) (x := m) (nn := mc) hS hM.1 (by first | assumption | omega | decide) (Nat.le_refl _)).call rfl lkX7_99 imX7_modelAt seX7_modelAt rfl hS rfl rfl (by omega) (Nat.le_of_ble_eq_true rfl) dX7_rival_14 (fun v9 G9 h9 => ?_) (fun q9 G9 h9 => (by cases h9.1))
    obtain ⟨h8, rfl⟩ := h9; cases h8
    by_cases bM : inB m mc = true
    · rw [oAt_pos bM]
      have b1bM := mA_b (Nat.lt_of_lt_of_le (inB_lt bM) j1)
      show bV O _ d 17 [(4, .ref (dA (cl x))), (0, .ref 32), (1, .int x), (2, .int m), (3, .int h)] [.ref (mA (cl m))] (f, n, s) _
      refine r_ifnonnull (tgt := 26) (by decide) dX7_rival_17 ?_
      refine r_iload_n (n := 3) (i := 3) 4 rfl rfl dX7_rival_26 ?_
      refine r_if_lt (tgt := 36) (by decide) dX7_rival_27 (fun c27 => ?_) (fun c27 => ?_)
      · refine r_aload_n (n := 0) (i := 0) 1 rfl rfl dX7_rival_36 ?_
        refine r_iconst (v := 2) (by decide) dX7_rival_37 ?_
        refine p_callV (As := [.int 2]) (rest := []) (kX7_deny (O := O) (d := 0) (f := f) (n := n) (s := s) (ct_m := nI mc) (ct_d := nI dc) (ct_a := nI ac) (ct_f := nI dfn) (tday := nI td) (trb := tr) (flt := ft) (plc := pl) (x := 2) hS  (Nat.le_refl _)).call rfl lkX7_109 imX7_deny seX7_deny rfl hS rfl rfl (by omega) (Nat.le_of_ble_eq_true rfl) dX7_rival_38 (fun v9 G9 h9 => ?_) (fun q9 G9 h9 => (by cases h9.1))
        obtain ⟨h8, rfl⟩ := h9; cases h8
        show bV O _ d 41 [(4, .ref (dA (cl x))), (0, .ref 32), (1, .int x), (2, .int m), (3, .int h)] [.int 0] (bU f 32 (.inr (7, [.ref 33, .ref 38, .ref 40, .ref 41, .ref 42, .ref 43, .ref 44, .ref 45, .int (nI mc), .int (nI dc), .int (nI ac), .int (nI dfn), .int (nI td), .int 2, .int ft, .int pl])), n, s) _
        refine r_zreturn rfl (by first | decide +kernel | exact narZ _ | assumption) dX7_rival_41 ?_
        unfold s_rival
        try simp only []
        try (first | simp only [if_pos bD] | simp only [if_neg bD])
        try (first | simp only [if_pos bM] | simp only [if_neg bM])
        try (first | simp only [if_pos c27] | simp only [if_neg c27])
        exact pX_mk (by exact bU_s _ _ _) (hT.fr (fun q _ _ => (bU_n (by omega)).trans (rfl))) (hW.fr (fun q _ _ => (bU_n (by omega)).trans (rfl))) (hM.fr j1 (fun q _ => (bU_n (by omega)).trans (rfl))) (hD.fr j2 (fun q _ => (bU_n (by omega)).trans (rfl))) (hA.fr j3 (fun q _ => (bU_n (by omega)).trans (rfl))) (by exact ((bU_n (by decide)).trans (hI))) (by obtain ⟨tk8, h8⟩ := hC; exact ⟨tk8, (bU_n (by omega)).trans (h8)⟩) (by exact ((bU_n (by decide)).trans (hF))) (fun q _ => (bU_n (by omega)).trans (rfl)) (by omega) (by omega)
      · refine r_iload_n (n := 3) (i := 3) 4 rfl rfl dX7_rival_30 ?_
        refine r_bipush (v := 100) (by decide) dX7_rival_31 ?_
        refine r_icmp_le (tgt := 42) (by decide) dX7_rival_33 (fun c33 => ?_) (fun c33 => ?_)
        · refine r_aload (i := 4) 0 rfl dX7_rival_42 ?_
          refine p_get (fs := [.ref ((dA (cl x)) + 1), .ref ((dA (cl x)) + 2), .ref ((dA (cl x)) + 3), .ref ((dA (cl x)) + 4), .ref ((dA (cl x)) + 5), .ref ((dA (cl x)) + 6), .ref ((dA (cl x)) + 7), .int (d_ch (dr (cl x))), .int (d_rv (dr (cl x))), .int (d_sh (dr (cl x))), .int (nI (d_fc (dr (cl x)))), .int (nI (d_cn (dr (cl x)))), .int (d_kp (dr (cl x))), .int (d_rf (dr (cl x)))]) flX7_136 (by exact (hD.2.1 _ (inB_lt bD)).1) rfl dX7_rival_44 ?_
          refine r_bipush (v := (-2)) (by decide) dX7_rival_47 ?_
          refine r_icmp_eq (tgt := 61) (by decide) dX7_rival_49 (fun c49 => ?_) (fun c49 => ?_)
          · refine r_aload_n (n := 0) (i := 0) 1 rfl rfl dX7_rival_61 ?_
            refine r_iconst (v := 5) (by decide) dX7_rival_62 ?_
            refine p_callV (As := [.int 5]) (rest := []) (kX7_deny (O := O) (d := 0) (f := f) (n := n) (s := s) (ct_m := nI mc) (ct_d := nI dc) (ct_a := nI ac) (ct_f := nI dfn) (tday := nI td) (trb := tr) (flt := ft) (plc := pl) (x := 5) hS  (Nat.le_refl _)).call rfl lkX7_109 imX7_deny seX7_deny rfl hS rfl rfl (by omega) (Nat.le_of_ble_eq_true rfl) dX7_rival_63 (fun v9 G9 h9 => ?_) (fun q9 G9 h9 => (by cases h9.1))
            obtain ⟨h8, rfl⟩ := h9; cases h8
            show bV O _ d 66 [(4, .ref (dA (cl x))), (0, .ref 32), (1, .int x), (2, .int m), (3, .int h)] [.int 0] (bU f 32 (.inr (7, [.ref 33, .ref 38, .ref 40, .ref 41, .ref 42, .ref 43, .ref 44, .ref 45, .int (nI mc), .int (nI dc), .int (nI ac), .int (nI dfn), .int (nI td), .int 5, .int ft, .int pl])), n, s) _
            refine r_zreturn rfl (by first | decide +kernel | exact narZ _ | assumption) dX7_rival_66 ?_
            unfold s_rival
            try simp only []
            try (first | simp only [if_pos bD] | simp only [if_neg bD])
            try (first | simp only [if_pos bM] | simp only [if_neg bM])
            try (first | simp only [if_pos c27] | simp only [if_neg c27])
            try (first | simp only [if_pos c33] | simp only [if_neg c33])
            try (first | simp only [if_pos c49] | simp only [if_neg c49])
            exact pX_mk (by exact bU_s _ _ _) (hT.fr (fun q _ _ => (bU_n (by omega)).trans (rfl))) (hW.fr (fun q _ _ => (bU_n (by omega)).trans (rfl))) (hM.fr j1 (fun q _ => (bU_n (by omega)).trans (rfl))) (hD.fr j2 (fun q _ => (bU_n (by omega)).trans (rfl))) (hA.fr j3 (fun q _ => (bU_n (by omega)).trans (rfl))) (by exact ((bU_n (by decide)).trans (hI))) (by obtain ⟨tk8, h8⟩ := hC; exact ⟨tk8, (bU_n (by omega)).trans (h8)⟩) (by exact ((bU_n (by decide)).trans (hF))) (fun q _ => (bU_n (by omega)).trans (rfl)) (by omega) (by omega)
          · refine r_aload (i := 4) 0 rfl dX7_rival_52 ?_
            refine p_get (fs := [.ref ((dA (cl x)) + 1), .ref ((dA (cl x)) + 2), .ref ((dA (cl x)) + 3), .ref ((dA (cl x)) + 4), .ref ((dA (cl x)) + 5), .ref ((dA (cl x)) + 6), .ref ((dA (cl x)) + 7), .int (d_ch (dr (cl x))), .int (d_rv (dr (cl x))), .int (d_sh (dr (cl x))), .int (nI (d_fc (dr (cl x)))), .int (nI (d_cn (dr (cl x)))), .int (d_kp (dr (cl x))), .int (d_rf (dr (cl x)))]) flX7_136 (by exact (hD.2.1 _ (inB_lt bD)).1) rfl dX7_rival_54 ?_
            refine r_iload_n (n := 2) (i := 2) 3 rfl rfl dX7_rival_57 ?_
            refine r_icmp_ne (tgt := 67) (by decide) dX7_rival_58 (fun c58 => ?_) (fun c58 => ?_)
            · refine r_aload (i := 4) 0 rfl dX7_rival_67 ?_
              refine r_iload_n (n := 2) (i := 2) 3 rfl rfl dX7_rival_69 ?_
              refine p_put (fs := [.ref ((dA (cl x)) + 1), .ref ((dA (cl x)) + 2), .ref ((dA (cl x)) + 3), .ref ((dA (cl x)) + 4), .ref ((dA (cl x)) + 5), .ref ((dA (cl x)) + 6), .ref ((dA (cl x)) + 7), .int (d_ch (dr (cl x))), .int (d_rv (dr (cl x))), .int (d_sh (dr (cl x))), .int (nI (d_fc (dr (cl x)))), .int (nI (d_cn (dr (cl x)))), .int (d_kp (dr (cl x))), .int (d_rf (dr (cl x)))]) (fs' := [.ref ((dA (cl x)) + 1), .ref ((dA (cl x)) + 2), .ref ((dA (cl x)) + 3), .ref ((dA (cl x)) + 4), .ref ((dA (cl x)) + 5), .ref ((dA (cl x)) + 6), .ref ((dA (cl x)) + 7), .int (d_ch (dr (cl x))), .int m, .int (d_sh (dr (cl x))), .int (nI (d_fc (dr (cl x)))), .int (nI (d_cn (dr (cl x)))), .int (d_kp (dr (cl x))), .int (d_rf (dr (cl x)))]) flX7_149 (by exact (hD.2.1 _ (inB_lt bD)).1) (Nat.le_of_ble_eq_true rfl) (bNf_i _) rfl dX7_rival_70 ?_
              refine r_aload (i := 4) 0 rfl dX7_rival_73 ?_
              refine r_iload_n (n := 3) (i := 3) 4 rfl rfl dX7_rival_75 ?_
              refine p_put (fs := [.ref ((dA (cl x)) + 1), .ref ((dA (cl x)) + 2), .ref ((dA (cl x)) + 3), .ref ((dA (cl x)) + 4), .ref ((dA (cl x)) + 5), .ref ((dA (cl x)) + 6), .ref ((dA (cl x)) + 7), .int (d_ch (dr (cl x))), .int m, .int (d_sh (dr (cl x))), .int (nI (d_fc (dr (cl x)))), .int (nI (d_cn (dr (cl x)))), .int (d_kp (dr (cl x))), .int (d_rf (dr (cl x)))]) (fs' := [.ref ((dA (cl x)) + 1), .ref ((dA (cl x)) + 2), .ref ((dA (cl x)) + 3), .ref ((dA (cl x)) + 4), .ref ((dA (cl x)) + 5), .ref ((dA (cl x)) + 6), .ref ((dA (cl x)) + 7), .int (d_ch (dr (cl x))), .int m, .int h, .int (nI (d_fc (dr (cl x)))), .int (nI (d_cn (dr (cl x)))), .int (d_kp (dr (cl x))), .int (d_rf (dr (cl x)))]) flX7_155 (by exact bU_s _ _ _) (Nat.le_of_ble_eq_true rfl) (bNf_i _) rfl dX7_rival_76 ?_
              refine bV_h (f2 := bU f (dA (cl x)) (.inr (1, [.ref ((dA (cl x)) + 1), .ref ((dA (cl x)) + 2), .ref ((dA (cl x)) + 3), .ref ((dA (cl x)) + 4), .ref ((dA (cl x)) + 5), .ref ((dA (cl x)) + 6), .ref ((dA (cl x)) + 7), .int (d_ch (dr (cl x))), .int m, .int h, .int (nI (d_fc (dr (cl x)))), .int (nI (d_cn (dr (cl x)))), .int (d_kp (dr (cl x))), .int (d_rf (dr (cl x)))]))) (bU_u _ _ _ _) ?_
              refine r_aload_n (n := 0) (i := 0) 1 rfl rfl dX7_rival_79 ?_
              refine p_callV (As := []) (rest := []) (kX7_allow (O := O) (d := 0) (f := bU f (dA (cl x)) (.inr (1, [.ref ((dA (cl x)) + 1), .ref ((dA (cl x)) + 2), .ref ((dA (cl x)) + 3), .ref ((dA (cl x)) + 4), .ref ((dA (cl x)) + 5), .ref ((dA (cl x)) + 6), .ref ((dA (cl x)) + 7), .int (d_ch (dr (cl x))), .int m, .int h, .int (nI (d_fc (dr (cl x)))), .int (nI (d_cn (dr (cl x)))), .int (d_kp (dr (cl x))), .int (d_rf (dr (cl x)))]))) (n := n) (s := s) (ct_m := nI mc) (ct_d := nI dc) (ct_a := nI ac) (ct_f := nI dfn) (tday := nI td) (trb := tr) (flt := ft) (plc := pl) (by exact ((bU_n (by omega)).trans (hS)))  (Nat.le_refl _)).call rfl lkX7_113 imX7_allow seX7_allow rfl (by exact ((bU_n (by omega)).trans (hS))) rfl rfl (by omega) (Nat.le_of_ble_eq_true rfl) dX7_rival_80 (fun v9 G9 h9 => ?_) (fun q9 G9 h9 => (by cases h9.1))
              obtain ⟨h8, rfl⟩ := h9; cases h8
              show bV O _ d 83 [(4, .ref (dA (cl x))), (0, .ref 32), (1, .int x), (2, .int m), (3, .int h)] [.int 1] (bU (bU f (dA (cl x)) (.inr (1, [.ref ((dA (cl x)) + 1), .ref ((dA (cl x)) + 2), .ref ((dA (cl x)) + 3), .ref ((dA (cl x)) + 4), .ref ((dA (cl x)) + 5), .ref ((dA (cl x)) + 6), .ref ((dA (cl x)) + 7), .int (d_ch (dr (cl x))), .int m, .int h, .int (nI (d_fc (dr (cl x)))), .int (nI (d_cn (dr (cl x)))), .int (d_kp (dr (cl x))), .int (d_rf (dr (cl x)))]))) 32 (.inr (7, [.ref 33, .ref 38, .ref 40, .ref 41, .ref 42, .ref 43, .ref 44, .ref 45, .int (nI mc), .int (nI dc), .int (nI ac), .int (nI dfn), .int (nI td), .int 0, .int ft, .int pl])), n, s) _
              refine r_zreturn rfl (by first | decide +kernel | exact narZ _ | assumption) dX7_rival_83 ?_
              unfold s_rival
              try simp only []
              try (first | simp only [if_pos bD] | simp only [if_neg bD])
              try (first | simp only [if_pos bM] | simp only [if_neg bM])
              try (first | simp only [if_pos c27] | simp only [if_neg c27])
              try (first | simp only [if_pos c33] | simp only [if_neg c33])
              try (first | simp only [if_pos c49] | simp only [if_neg c49])
              try (first | simp only [if_pos c58] | simp only [if_neg c58])
              exact pX_mk (by exact bU_s _ _ _) (hT.fr (fun q _ _ => (bU_n (by omega)).trans ((bU_n (by omega)).trans (rfl)))) (hW.fr (fun q _ _ => (bU_n (by omega)).trans ((bU_n (by omega)).trans (rfl)))) (hM.fr j1 (fun q _ => (bU_n (by omega)).trans ((bU_n (by omega)).trans (rfl)))) (hD.put j2 (inB_lt bD) ⟨(by exact ((bU_n (by omega)).trans (bU_s _ _ _))), (by exact ((bU_n (by omega)).trans (((bU_n (by omega)).trans ((hD.2.1 _ (inB_lt bD)).2.1))))), (by exact ((bU_n (by omega)).trans (((bU_n (by omega)).trans ((hD.2.1 _ (inB_lt bD)).2.2.1))))), (by exact ((bU_n (by omega)).trans (((bU_n (by omega)).trans ((hD.2.1 _ (inB_lt bD)).2.2.2.1))))), (by exact ((bU_n (by omega)).trans (((bU_n (by omega)).trans ((hD.2.1 _ (inB_lt bD)).2.2.2.2.1))))), (by exact ((bU_n (by omega)).trans (((bU_n (by omega)).trans ((hD.2.1 _ (inB_lt bD)).2.2.2.2.2.1))))), (by exact ((bU_n (by omega)).trans (((bU_n (by omega)).trans ((hD.2.1 _ (inB_lt bD)).2.2.2.2.2.2.1))))), (by exact ((bU_n (by omega)).trans (((bU_n (by omega)).trans ((hD.2.1 _ (inB_lt bD)).2.2.2.2.2.2.2)))))⟩ (fun q _ => (bU_n (by omega)).trans ((bU_n (by omega)).trans (rfl)))) (hA.fr j3 (fun q _ => (bU_n (by omega)).trans ((bU_n (by omega)).trans (rfl)))) (by exact ((bU_n (by decide)).trans (((bU_n (by omega)).trans (hI))))) (by obtain ⟨tk8, h8⟩ := hC; exact ⟨tk8, (bU_n (by omega)).trans ((bU_n (by omega)).trans (h8))⟩) (by exact ((bU_n (by decide)).trans (((bU_n (by omega)).trans (hF))))) (fun q _ => (bU_n (by omega)).trans ((bU_n (by omega)).trans (rfl))) (by omega) (by omega)
            · refine r_aload_n (n := 0) (i := 0) 1 rfl rfl dX7_rival_61 ?_
              refine r_iconst (v := 5) (by decide) dX7_rival_62 ?_
              refine p_callV (As := [.int 5]) (rest := []) (kX7_deny (O := O) (d := 0) (f := f) (n := n) (s := s) (ct_m := nI mc) (ct_d := nI dc) (ct_a := nI ac) (ct_f := nI dfn) (tday := nI td) (trb := tr) (flt := ft) (plc := pl) (x := 5) hS  (Nat.le_refl _)).call rfl lkX7_109 imX7_deny seX7_deny rfl hS rfl rfl (by omega) (Nat.le_of_ble_eq_true rfl) dX7_rival_63 (fun v9 G9 h9 => ?_) (fun q9 G9 h9 => (by cases h9.1))
              obtain ⟨h8, rfl⟩ := h9; cases h8
              show bV O _ d 66 [(4, .ref (dA (cl x))), (0, .ref 32), (1, .int x), (2, .int m), (3, .int h)] [.int 0] (bU f 32 (.inr (7, [.ref 33, .ref 38, .ref 40, .ref 41, .ref 42, .ref 43, .ref 44, .ref 45, .int (nI mc), .int (nI dc), .int (nI ac), .int (nI dfn), .int (nI td), .int 5, .int ft, .int pl])), n, s) _
              refine r_zreturn rfl (by first | decide +kernel | exact narZ _ | assumption) dX7_rival_66 ?_
              unfold s_rival
              try simp only []
              try (first | simp only [if_pos bD] | simp only [if_neg bD])
              try (first | simp only [if_pos bM] | simp only [if_neg bM])
              try (first | simp only [if_pos c27] | simp only [if_neg c27])
              try (first | simp only [if_pos c33] | simp only [if_neg c33])
              try (first | simp only [if_pos c49] | simp only [if_neg c49])
              try (first | simp only [if_pos c58] | simp only [if_neg c58])
              exact pX_mk (by exact bU_s _ _ _) (hT.fr (fun q _ _ => (bU_n (by omega)).trans (rfl))) (hW.fr (fun q _ _ => (bU_n (by omega)).trans (rfl))) (hM.fr j1 (fun q _ => (bU_n (by omega)).trans (rfl))) (hD.fr j2 (fun q _ => (bU_n (by omega)).trans (rfl))) (hA.fr j3 (fun q _ => (bU_n (by omega)).trans (rfl))) (by exact ((bU_n (by decide)).trans (hI))) (by obtain ⟨tk8, h8⟩ := hC; exact ⟨tk8, (bU_n (by omega)).trans (h8)⟩) (by exact ((bU_n (by decide)).trans (hF))) (fun q _ => (bU_n (by omega)).trans (rfl)) (by omega) (by omega)
        · refine r_aload_n (n := 0) (i := 0) 1 rfl rfl dX7_rival_36 ?_
          refine r_iconst (v := 2) (by decide) dX7_rival_37 ?_
          refine p_callV (As := [.int 2]) (rest := []) (kX7_deny (O := O) (d := 0) (f := f) (n := n) (s := s) (ct_m := nI mc) (ct_d := nI dc) (ct_a := nI ac) (ct_f := nI dfn) (tday := nI td) (trb := tr) (flt := ft) (plc := pl) (x := 2) hS  (Nat.le_refl _)).call rfl lkX7_109 imX7_deny seX7_deny rfl hS rfl rfl (by omega) (Nat.le_of_ble_eq_true rfl) dX7_rival_38 (fun v9 G9 h9 => ?_) (fun q9 G9 h9 => (by cases h9.1))
          obtain ⟨h8, rfl⟩ := h9; cases h8
          show bV O _ d 41 [(4, .ref (dA (cl x))), (0, .ref 32), (1, .int x), (2, .int m), (3, .int h)] [.int 0] (bU f 32 (.inr (7, [.ref 33, .ref 38, .ref 40, .ref 41, .ref 42, .ref 43, .ref 44, .ref 45, .int (nI mc), .int (nI dc), .int (nI ac), .int (nI dfn), .int (nI td), .int 2, .int ft, .int pl])), n, s) _
          refine r_zreturn rfl (by first | decide +kernel | exact narZ _ | assumption) dX7_rival_41 ?_
          unfold s_rival
          try simp only []
          try (first | simp only [if_pos bD] | simp only [if_neg bD])
          try (first | simp only [if_pos bM] | simp only [if_neg bM])
          try (first | simp only [if_pos c27] | simp only [if_neg c27])
          try (first | simp only [if_pos c33] | simp only [if_neg c33])
          exact pX_mk (by exact bU_s _ _ _) (hT.fr (fun q _ _ => (bU_n (by omega)).trans (rfl))) (hW.fr (fun q _ _ => (bU_n (by omega)).trans (rfl))) (hM.fr j1 (fun q _ => (bU_n (by omega)).trans (rfl))) (hD.fr j2 (fun q _ => (bU_n (by omega)).trans (rfl))) (hA.fr j3 (fun q _ => (bU_n (by omega)).trans (rfl))) (by exact ((bU_n (by decide)).trans (hI))) (by obtain ⟨tk8, h8⟩ := hC; exact ⟨tk8, (bU_n (by omega)).trans (h8)⟩) (by exact ((bU_n (by decide)).trans (hF))) (fun q _ => (bU_n (by omega)).trans (rfl)) (by omega) (by omega)
    · rw [oAt_neg bM]
      show bV O _ d 17 [(4, .ref (dA (cl x))), (0, .ref 32), (1, .int x), (2, .int m), (3, .int h)] [.null] (f, n, s) _
      refine r_ifnonnullN dX7_rival_17 ?_
      refine r_aload_n (n := 0) (i := 0) 1 rfl rfl dX7_rival_20 ?_
      refine r_iconst (v := 1) (by decide) dX7_rival_21 ?_
      refine p_callV (As := [.int 1]) (rest := []) (kX7_deny (O := O) (d := 0) (f := f) (n := n) (s := s) (ct_m := nI mc) (ct_d := nI dc) (ct_a := nI ac) (ct_f := nI dfn) (tday := nI td) (trb := tr) (flt := ft) (plc := pl) (x := 1) hS  (Nat.le_refl _)).call rfl lkX7_109 imX7_deny seX7_deny rfl hS rfl rfl (by omega) (Nat.le_of_ble_eq_true rfl) dX7_rival_22 (fun v9 G9 h9 => ?_) (fun q9 G9 h9 => (by cases h9.1))
      obtain ⟨h8, rfl⟩ := h9; cases h8
      show bV O _ d 25 [(4, .ref (dA (cl x))), (0, .ref 32), (1, .int x), (2, .int m), (3, .int h)] [.int 0] (bU f 32 (.inr (7, [.ref 33, .ref 38, .ref 40, .ref 41, .ref 42, .ref 43, .ref 44, .ref 45, .int (nI mc), .int (nI dc), .int (nI ac), .int (nI dfn), .int (nI td), .int 1, .int ft, .int pl])), n, s) _
      refine r_zreturn rfl (by first | decide +kernel | exact narZ _ | assumption) dX7_rival_25 ?_
      unfold s_rival
      try simp only []
      try (first | simp only [if_pos bD] | simp only [if_neg bD])
      try (first | simp only [if_pos bM] | simp only [if_neg bM])
      exact pX_mk (by exact bU_s _ _ _) (hT.fr (fun q _ _ => (bU_n (by omega)).trans (rfl))) (hW.fr (fun q _ _ => (bU_n (by omega)).trans (rfl))) (hM.fr j1 (fun q _ => (bU_n (by omega)).trans (rfl))) (hD.fr j2 (fun q _ => (bU_n (by omega)).trans (rfl))) (hA.fr j3 (fun q _ => (bU_n (by omega)).trans (rfl))) (by exact ((bU_n (by decide)).trans (hI))) (by obtain ⟨tk8, h8⟩ := hC; exact ⟨tk8, (bU_n (by omega)).trans (h8)⟩) (by exact ((bU_n (by decide)).trans (hF))) (fun q _ => (bU_n (by omega)).trans (rfl)) (by omega) (by omega)
  · rw [oAt_neg bD]
    show bV O _ d 5 [(0, .ref 32), (1, .int x), (2, .int m), (3, .int h)] [.null] (f, n, s) _
    refine r_astoreN (i := 4) (L' := [(4, .null), (0, .ref 32), (1, .int x), (2, .int m), (3, .int h)]) dX7_rival_5 (by decide) rfl ?_
    refine r_aloadN (i := 4) 0 rfl dX7_rival_7 ?_
    refine r_ifnullN (tgt := 20) (by decide) dX7_rival_9 ?_
    refine r_aload_n (n := 0) (i := 0) 1 rfl rfl dX7_rival_20 ?_
    refine r_iconst (v := 1) (by decide) dX7_rival_21 ?_
    refine p_callV (As := [.int 1]) (rest := []) (kX7_deny (O := O) (d := 0) (f := f) (n := n) (s := s) (ct_m := nI mc) (ct_d := nI dc) (ct_a := nI ac) (ct_f := nI dfn) (tday := nI td) (trb := tr) (flt := ft) (plc := pl) (x := 1) hS  (Nat.le_refl _)).call rfl lkX7_109 imX7_deny seX7_deny rfl hS rfl rfl (by omega) (Nat.le_of_ble_eq_true rfl) dX7_rival_22 (fun v9 G9 h9 => ?_) (fun q9 G9 h9 => (by cases h9.1))
    obtain ⟨h8, rfl⟩ := h9; cases h8
    show bV O _ d 25 [(4, .null), (0, .ref 32), (1, .int x), (2, .int m), (3, .int h)] [.int 0] (bU f 32 (.inr (7, [.ref 33, .ref 38, .ref 40, .ref 41, .ref 42, .ref 43, .ref 44, .ref 45, .int (nI mc), .int (nI dc), .int (nI ac), .int (nI dfn), .int (nI td), .int 1, .int ft, .int pl])), n, s) _
    refine r_zreturn rfl (by first | decide +kernel | exact narZ _ | assumption) dX7_rival_25 ?_
    unfold s_rival
    try simp only []
    try (first | simp only [if_pos bD] | simp only [if_neg bD])
    exact pX_mk (by exact bU_s _ _ _) (hT.fr (fun q _ _ => (bU_n (by omega)).trans (rfl))) (hW.fr (fun q _ _ => (bU_n (by omega)).trans (rfl))) (hM.fr j1 (fun q _ => (bU_n (by omega)).trans (rfl))) (hD.fr j2 (fun q _ => (bU_n (by omega)).trans (rfl))) (hA.fr j3 (fun q _ => (bU_n (by omega)).trans (rfl))) (by exact ((bU_n (by decide)).trans (hI))) (by obtain ⟨tk8, h8⟩ := hC; exact ⟨tk8, (bU_n (by omega)).trans (h8)⟩) (by exact ((bU_n (by decide)).trans (hF))) (fun q _ => (bU_n (by omega)).trans (rfl)) (by omega) (by omega)
set_option maxRecDepth 4000 in
theorem x_about {O : bO} {d : Nat} {f : bF} {n s : Nat} {bs : Nat → Int32} {tl : Nat} {mc : Nat} {md : Nat → MR} {ip : Nat → Int32} {dc : Nat} {dr : Nat → DR} {ac : Nat} {an : Nat → AR} {hs : Bool} {sd : Nat → Int32} {df : Nat → Int32} {dfn : Nat} {td : Nat} {tr : Int32} {ft : Int32} {pl : Int32} {x : Int32} {w : Int32} (hX : XR f (bs, tl, mc, md, ip, dc, dr, ac, an, hs, sd, df, dfn, td, tr, ft, pl)) (jX : JX (bs, tl, mc, md, ip, dc, dr, ac, an, hs, sd, df, dfn, td, tr, ft, pl))  (hd : 1 ≤ d) : bCall O mX7_about d [.ref 32, .int x, .int w] (f, n, s) (pX f n s 0 0 (s_about (bs, tl, mc, md, ip, dc, dr, ac, an, hs, sd, df, dfn, td, tr, ft, pl) x w)) := by
  refine bCall_of (by decide) rfl (Nat.le_of_ble_eq_true rfl) ?_
  obtain ⟨hS, hT, hW, hM, hD, hA, hI, hC, hF⟩ := id hX
  obtain ⟨j1, j2, j3, j4, j5, j6, j7, j8⟩ := id jX
  simp only [] at hS hT hW hM hD hA hI hC hF j1 j2 j3 j4 j5 j6 j7 j8
  show bV O _ d 0 [(0, .ref 32), (1, .int x), (2, .int w)] [] (f, n, s) _
  refine r_aload_n (n := 0) (i := 0) 0 rfl rfl dX7_about_0 ?_
  refine r_iload_n (n := 1) (i := 1) 1 rfl rfl dX7_about_1 ?_
  refine p_callV (As := [.int x]) (rest := []) (kX7_doorAt (O := O) (d := 0) (f := f) (n := n) (s := s) (ct_m := nI mc) (ct_d := nI dc) (ct_a := nI ac) (ct_f := nI dfn) (tday := nI td) (trb := tr) (flt := ft) (plc := pl) (x := x) (nn := dc) hS hD.1 (by first | assumption | omega | decide) (Nat.le_refl _)).call rfl lkX7_126 imX7_doorAt seX7_doorAt rfl hS rfl rfl (by omega) (Nat.le_of_ble_eq_true rfl) dX7_about_2 (fun v9 G9 h9 => ?_) (fun q9 G9 h9 => (by cases h9.1))
  obtain ⟨h8, rfl⟩ := h9; cases h8
  by_cases bD : inB x dc = true
  · rw [oAt_pos bD]
    have b1bD := dA_b (Nat.lt_of_lt_of_le (inB_lt bD) j2)
    show bV O _ d 5 [(0, .ref 32), (1, .int x), (2, .int w)] [.ref (dA (cl x))] (f, n, s) _
    refine r_astore_n (n := 3) (i := 3) (L' := [(3, .ref (dA (cl x))), (0, .ref 32), (1, .int x), (2, .int w)]) rfl dX7_about_5 (by decide) rfl ?_
    refine r_aload_n (n := 3) (i := 3) 0 rfl rfl dX7_about_6 ?_
    refine r_ifnonnull (tgt := 12) (by decide) dX7_about_7 ?_
    refine r_iload_n (n := 2) (i := 2) 3 rfl rfl dX7_about_12 ?_
    by_cases q13_0 : w = 0
    · refine r_tableIn (off := 39) (tgt := 52) dX7_about_13 (by rw [q13_0]; decide) (by rw [q13_0]; decide) (by rw [q13_0]; decide) (by decide) ?_
      refine r_aload_n (n := 3) (i := 3) 0 rfl rfl dX7_about_52 ?_
      refine p_get (fs := [.ref ((dA (cl x)) + 1), .ref ((dA (cl x)) + 2), .ref ((dA (cl x)) + 3), .ref ((dA (cl x)) + 4), .ref ((dA (cl x)) + 5), .ref ((dA (cl x)) + 6), .ref ((dA (cl x)) + 7), .int (d_ch (dr (cl x))), .int (d_rv (dr (cl x))), .int (d_sh (dr (cl x))), .int (nI (d_fc (dr (cl x)))), .int (nI (d_cn (dr (cl x)))), .int (d_kp (dr (cl x))), .int (d_rf (dr (cl x)))]) flX7_136 (by exact (hD.2.1 _ (inB_lt bD)).1) rfl dX7_about_53 ?_
      refine r_ireturn rfl dX7_about_56 ?_
      unfold s_about
      try simp only []
      try (first | simp only [if_pos bD] | simp only [if_neg bD])
      try (first | simp only [if_pos q13_0] | simp only [if_neg q13_0])
      exact pX_mk (hS) (hT.fr (fun q _ _ => rfl)) (hW.fr (fun q _ _ => rfl)) (hM.fr j1 (fun q _ => rfl)) (hD.fr j2 (fun q _ => rfl)) (hA.fr j3 (fun q _ => rfl)) (hI) (by obtain ⟨tk8, h8⟩ := hC; exact ⟨tk8, h8⟩) (hF) (fun q _ => rfl) (by omega) (by omega)
    · by_cases q13_1 : w = 1
      · refine r_tableIn (off := 44) (tgt := 57) dX7_about_13 (by rw [q13_1]; decide) (by rw [q13_1]; decide) (by rw [q13_1]; decide) (by decide) ?_
        refine r_aload_n (n := 3) (i := 3) 0 rfl rfl dX7_about_57 ?_
        refine p_get (fs := [.ref ((dA (cl x)) + 1), .ref ((dA (cl x)) + 2), .ref ((dA (cl x)) + 3), .ref ((dA (cl x)) + 4), .ref ((dA (cl x)) + 5), .ref ((dA (cl x)) + 6), .ref ((dA (cl x)) + 7), .int (d_ch (dr (cl x))), .int (d_rv (dr (cl x))), .int (d_sh (dr (cl x))), .int (nI (d_fc (dr (cl x)))), .int (nI (d_cn (dr (cl x)))), .int (d_kp (dr (cl x))), .int (d_rf (dr (cl x)))]) flX7_149 (by exact (hD.2.1 _ (inB_lt bD)).1) rfl dX7_about_58 ?_
        refine r_ireturn rfl dX7_about_61 ?_
        unfold s_about
        try simp only []
        try (first | simp only [if_pos bD] | simp only [if_neg bD])
        try (first | simp only [if_pos q13_0] | simp only [if_neg q13_0])
        try (first | simp only [if_pos q13_1] | simp only [if_neg q13_1])
        exact pX_mk (hS) (hT.fr (fun q _ _ => rfl)) (hW.fr (fun q _ _ => rfl)) (hM.fr j1 (fun q _ => rfl)) (hD.fr j2 (fun q _ => rfl)) (hA.fr j3 (fun q _ => rfl)) (hI) (by obtain ⟨tk8, h8⟩ := hC; exact ⟨tk8, h8⟩) (hF) (fun q _ => rfl) (by omega) (by omega)
      · by_cases q13_2 : w = 2
        · refine r_tableIn (off := 49) (tgt := 62) dX7_about_13 (by rw [q13_2]; decide) (by rw [q13_2]; decide) (by rw [q13_2]; decide) (by decide) ?_
          refine r_aload_n (n := 3) (i := 3) 0 rfl rfl dX7_about_62 ?_
          refine p_get (fs := [.ref ((dA (cl x)) + 1), .ref ((dA (cl x)) + 2), .ref ((dA (cl x)) + 3), .ref ((dA (cl x)) + 4), .ref ((dA (cl x)) + 5), .ref ((dA (cl x)) + 6), .ref ((dA (cl x)) + 7), .int (d_ch (dr (cl x))), .int (d_rv (dr (cl x))), .int (d_sh (dr (cl x))), .int (nI (d_fc (dr (cl x)))), .int (nI (d_cn (dr (cl x)))), .int (d_kp (dr (cl x))), .int (d_rf (dr (cl x)))]) flX7_155 (by exact (hD.2.1 _ (inB_lt bD)).1) rfl dX7_about_63 ?_
          refine r_ireturn rfl dX7_about_66 ?_
          unfold s_about
          try simp only []
          try (first | simp only [if_pos bD] | simp only [if_neg bD])
          try (first | simp only [if_pos q13_0] | simp only [if_neg q13_0])
          try (first | simp only [if_pos q13_1] | simp only [if_neg q13_1])
          try (first | simp only [if_pos q13_2] | simp only [if_neg q13_2])
          exact pX_mk (hS) (hT.fr (fun q _ _ => rfl)) (hW.fr (fun q _ _ => rfl)) (hM.fr j1 (fun q _ => rfl)) (hD.fr j2 (fun q _ => rfl)) (hA.fr j3 (fun q _ => rfl)) (hI) (by obtain ⟨tk8, h8⟩ := hC; exact ⟨tk8, h8⟩) (hF) (fun q _ => rfl) (by omega) (by omega)
        · by_cases q13_3 : w = 3
          · refine r_tableIn (off := 54) (tgt := 67) dX7_about_13 (by rw [q13_3]; decide) (by rw [q13_3]; decide) (by rw [q13_3]; decide) (by decide) ?_
            refine r_aload_n (n := 3) (i := 3) 0 rfl rfl dX7_about_67 ?_
            refine p_get (fs := [.ref ((dA (cl x)) + 1), .ref ((dA (cl x)) + 2), .ref ((dA (cl x)) + 3), .ref ((dA (cl x)) + 4), .ref ((dA (cl x)) + 5), .ref ((dA (cl x)) + 6), .ref ((dA (cl x)) + 7), .int (d_ch (dr (cl x))), .int (d_rv (dr (cl x))), .int (d_sh (dr (cl x))), .int (nI (d_fc (dr (cl x)))), .int (nI (d_cn (dr (cl x)))), .int (d_kp (dr (cl x))), .int (d_rf (dr (cl x)))]) flX7_165 (by exact (hD.2.1 _ (inB_lt bD)).1) rfl dX7_about_68 ?_
            refine r_ireturn rfl dX7_about_71 ?_
            unfold s_about
            try simp only []
            try (first | simp only [if_pos bD] | simp only [if_neg bD])
            try (first | simp only [if_pos q13_0] | simp only [if_neg q13_0])
            try (first | simp only [if_pos q13_1] | simp only [if_neg q13_1])
            try (first | simp only [if_pos q13_2] | simp only [if_neg q13_2])
            try (first | simp only [if_pos q13_3] | simp only [if_neg q13_3])
            exact pX_mk (hS) (hT.fr (fun q _ _ => rfl)) (hW.fr (fun q _ _ => rfl)) (hM.fr j1 (fun q _ => rfl)) (hD.fr j2 (fun q _ => rfl)) (hA.fr j3 (fun q _ => rfl)) (hI) (by obtain ⟨tk8, h8⟩ := hC; exact ⟨tk8, h8⟩) (hF) (fun q _ => rfl) (by omega) (by omega)
          · by_cases q13_4 : w = 4
            · refine r_tableIn (off := 59) (tgt := 72) dX7_about_13 (by rw [q13_4]; decide) (by rw [q13_4]; decide) (by rw [q13_4]; decide) (by decide) ?_
              refine r_aload_n (n := 3) (i := 3) 0 rfl rfl dX7_about_72 ?_
              refine p_get (fs := [.ref ((dA (cl x)) + 1), .ref ((dA (cl x)) + 2), .ref ((dA (cl x)) + 3), .ref ((dA (cl x)) + 4), .ref ((dA (cl x)) + 5), .ref ((dA (cl x)) + 6), .ref ((dA (cl x)) + 7), .int (d_ch (dr (cl x))), .int (d_rv (dr (cl x))), .int (d_sh (dr (cl x))), .int (nI (d_fc (dr (cl x)))), .int (nI (d_cn (dr (cl x)))), .int (d_kp (dr (cl x))), .int (d_rf (dr (cl x)))]) flX7_168 (by exact (hD.2.1 _ (inB_lt bD)).1) rfl dX7_about_73 ?_
              refine r_ireturn rfl dX7_about_76 ?_
              unfold s_about
              try simp only []
              try (first | simp only [if_pos bD] | simp only [if_neg bD])
              try (first | simp only [if_pos q13_0] | simp only [if_neg q13_0])
              try (first | simp only [if_pos q13_1] | simp only [if_neg q13_1])
              try (first | simp only [if_pos q13_2] | simp only [if_neg q13_2])
              try (first | simp only [if_pos q13_3] | simp only [if_neg q13_3])
              try (first | simp only [if_pos q13_4] | simp only [if_neg q13_4])
              exact pX_mk (hS) (hT.fr (fun q _ _ => rfl)) (hW.fr (fun q _ _ => rfl)) (hM.fr j1 (fun q _ => rfl)) (hD.fr j2 (fun q _ => rfl)) (hA.fr j3 (fun q _ => rfl)) (hI) (by obtain ⟨tk8, h8⟩ := hC; exact ⟨tk8, h8⟩) (hF) (fun q _ => rfl) (by omega) (by omega)
            · by_cases q13_5 : w = 5
              · refine r_tableIn (off := 64) (tgt := 77) dX7_about_13 (by rw [q13_5]; decide) (by rw [q13_5]; decide) (by rw [q13_5]; decide) (by decide) ?_
                refine r_aload_n (n := 3) (i := 3) 0 rfl rfl dX7_about_77 ?_
                refine p_get (fs := [.ref ((dA (cl x)) + 1), .ref ((dA (cl x)) + 2), .ref ((dA (cl x)) + 3), .ref ((dA (cl x)) + 4), .ref ((dA (cl x)) + 5), .ref ((dA (cl x)) + 6), .ref ((dA (cl x)) + 7), .int (d_ch (dr (cl x))), .int (d_rv (dr (cl x))), .int (d_sh (dr (cl x))), .int (nI (d_fc (dr (cl x)))), .int (nI (d_cn (dr (cl x)))), .int (d_kp (dr (cl x))), .int (d_rf (dr (cl x)))]) flX7_171 (by exact (hD.2.1 _ (inB_lt bD)).1) rfl dX7_about_78 ?_
                refine r_ireturn rfl dX7_about_81 ?_
                unfold s_about
                try simp only []
                try (first | simp only [if_pos bD] | simp only [if_neg bD])
                try (first | simp only [if_pos q13_0] | simp only [if_neg q13_0])
                try (first | simp only [if_pos q13_1] | simp only [if_neg q13_1])
                try (first | simp only [if_pos q13_2] | simp only [if_neg q13_2])
                try (first | simp only [if_pos q13_3] | simp only [if_neg q13_3])
                try (first | simp only [if_pos q13_4] | simp only [if_neg q13_4])
                try (first | simp only [if_pos q13_5] | simp only [if_neg q13_5])
                exact pX_mk (hS) (hT.fr (fun q _ _ => rfl)) (hW.fr (fun q _ _ => rfl)) (hM.fr j1 (fun q _ => rfl)) (hD.fr j2 (fun q _ => rfl)) (hA.fr j3 (fun q _ => rfl)) (hI) (by obtain ⟨tk8, h8⟩ := hC; exact ⟨tk8, h8⟩) (hF) (fun q _ => rfl) (by omega) (by omega)
              · refine r_tableOut (tgt := 82) dX7_about_13 (tbO6 w q13_0 q13_1 q13_2 q13_3 q13_4 q13_5) (by decide) ?_
                refine r_iconst (v := (-1)) (by decide) dX7_about_82 ?_
                refine r_ireturn rfl dX7_about_83 ?_
                unfold s_about
                try simp only []
                try (first | simp only [if_pos bD] | simp only [if_neg bD])
                try (first | simp only [if_pos q13_0] | simp only [if_neg q13_0])
                try (first | simp only [if_pos q13_1] | simp only [if_neg q13_1])
                try (first | simp only [if_pos q13_2] | simp only [if_neg q13_2])
                try (first | simp only [if_pos q13_3] | simp only [if_neg q13_3])
                try (first | simp only [if_pos q13_4] | simp only [if_neg q13_4])
                try (first | simp only [if_pos q13_5] | simp only [if_neg q13_5])
                exact pX_mk (hS) (hT.fr (fun q _ _ => rfl)) (hW.fr (fun q _ _ => rfl)) (hM.fr j1 (fun q _ => rfl)) (hD.fr j2 (fun q _ => rfl)) (hA.fr j3 (fun q _ => rfl)) (hI) (by obtain ⟨tk8, h8⟩ := hC; exact ⟨tk8, h8⟩) (hF) (fun q _ => rfl) (by omega) (by omega)
  · rw [oAt_neg bD]
    show bV O _ d 5 [(0, .ref 32), (1, .int x), (2, .int w)] [.null] (f, n, s) _
    refine r_astore_nN (n := 3) (i := 3) (L' := [(3, .null), (0, .ref 32), (1, .int x), (2, .int w)]) rfl dX7_about_5 (by decide) rfl ?_
    refine r_aload_nN (n := 3) (i := 3) 0 rfl rfl dX7_about_6 ?_
    refine r_ifnonnullN dX7_about_7 ?_
    refine r_iconst (v := (-1)) (by decide) dX7_about_10 ?_
    refine r_ireturn rfl dX7_about_11 ?_
    unfold s_about
    try simp only []
    try (first | simp only [if_pos bD] | simp only [if_neg bD])
    exact pX_mk (hS) (hT.fr (fun q _ _ => rfl)) (hW.fr (fun q _ _ => rfl)) (hM.fr j1 (fun q _ => rfl)) (hD.fr j2 (fun q _ => rfl)) (hA.fr j3 (fun q _ => rfl)) (hI) (by obtain ⟨tk8, h8⟩ := hC; exact ⟨tk8, h8⟩) (hF) (fun q _ => rfl) (by omega) (by omega)
set_option maxRecDepth 4000 in
theorem x_kept {O : bO} {d : Nat} {f : bF} {n s : Nat} {bs : Nat → Int32} {tl : Nat} {mc : Nat} {md : Nat → MR} {ip : Nat → Int32} {dc : Nat} {dr : Nat → DR} {ac : Nat} {an : Nat → AR} {hs : Bool} {sd : Nat → Int32} {df : Nat → Int32} {dfn : Nat} {td : Nat} {tr : Int32} {ft : Int32} {pl : Int32} {x : Int32} {w : Int32} (hX : XR f (bs, tl, mc, md, ip, dc, dr, ac, an, hs, sd, df, dfn, td, tr, ft, pl)) (jX : JX (bs, tl, mc, md, ip, dc, dr, ac, an, hs, sd, df, dfn, td, tr, ft, pl))  (hd : 1 ≤ d) : bCall O mX7_kept d [.ref 32, .int x, .int w] (f, n, s) (pX f n s 0 0 (s_kept (bs, tl, mc, md, ip, dc, dr, ac, an, hs, sd, df, dfn, td, tr, ft, pl) x w)) := by
  refine bCall_of (by decide) rfl (Nat.le_of_ble_eq_true rfl) ?_
  obtain ⟨hS, hT, hW, hM, hD, hA, hI, hC, hF⟩ := id hX
  obtain ⟨j1, j2, j3, j4, j5, j6, j7, j8⟩ := id jX
  simp only [] at hS hT hW hM hD hA hI hC hF j1 j2 j3 j4 j5 j6 j7 j8
  show bV O _ d 0 [(0, .ref 32), (1, .int x), (2, .int w)] [] (f, n, s) _
  refine r_aload_n (n := 0) (i := 0) 0 rfl rfl dX7_kept_0 ?_
  refine r_iload_n (n := 1) (i := 1) 1 rfl rfl dX7_kept_1 ?_
  refine p_callV (As := [.int x]) (rest := []) (kX7_answerAt (O := O) (d := 0) (f := f) (n := n) (s := s) (ct_m := nI mc) (ct_d := nI dc) (ct_a := nI ac) (ct_f := nI dfn) (tday := nI td) (trb := tr) (flt := ft) (plc := pl) (x := x) (nn := ac) hS hA.1 (by first | assumption | omega | decide) (Nat.le_refl _)).call rfl lkX7_195 imX7_answerAt seX7_answerAt rfl hS rfl rfl (by omega) (Nat.le_of_ble_eq_true rfl) dX7_kept_2 (fun v9 G9 h9 => ?_) (fun q9 G9 h9 => (by cases h9.1))
  obtain ⟨h8, rfl⟩ := h9; cases h8
  by_cases bA : inB x ac = true
  · rw [oAt_pos bA]
    have b1bA := aA_b (Nat.lt_of_lt_of_le (inB_lt bA) j3)
    show bV O _ d 5 [(0, .ref 32), (1, .int x), (2, .int w)] [.ref (aA (cl x))] (f, n, s) _
    refine r_astore_n (n := 3) (i := 3) (L' := [(3, .ref (aA (cl x))), (0, .ref 32), (1, .int x), (2, .int w)]) rfl dX7_kept_5 (by decide) rfl ?_
    refine r_aload_n (n := 3) (i := 3) 0 rfl rfl dX7_kept_6 ?_
    refine r_ifnonnull (tgt := 12) (by decide) dX7_kept_7 ?_
    refine r_iload_n (n := 2) (i := 2) 3 rfl rfl dX7_kept_12 ?_
    by_cases q13_0 : w = 0
    · refine r_tableIn (off := 39) (tgt := 52) dX7_kept_13 (by rw [q13_0]; decide) (by rw [q13_0]; decide) (by rw [q13_0]; decide) (by decide) ?_
      refine r_aload_n (n := 3) (i := 3) 0 rfl rfl dX7_kept_52 ?_
      refine p_get (fs := [.int (a_do (an (cl x))), .int (a_ke (an (cl x))), .int (a_da (an (cl x))), .ref ((aA (cl x)) + 1), .int (a_gv (an (cl x))), .int (a_ch (an (cl x))), .int (a_rv (an (cl x))), .int (a_gn (an (cl x))), .int (a_ct (an (cl x))), .int (a_rt (an (cl x))), .int (a_tr (an (cl x)))]) flX7_199 (by exact (hA.2.1 _ (inB_lt bA)).1) rfl dX7_kept_53 ?_
      refine r_ireturn rfl dX7_kept_56 ?_
      unfold s_kept
      try simp only []
      try (first | simp only [if_pos bA] | simp only [if_neg bA])
      try (first | simp only [if_pos q13_0] | simp only [if_neg q13_0])
      exact pX_mk (hS) (hT.fr (fun q _ _ => rfl)) (hW.fr (fun q _ _ => rfl)) (hM.fr j1 (fun q _ => rfl)) (hD.fr j2 (fun q _ => rfl)) (hA.fr j3 (fun q _ => rfl)) (hI) (by obtain ⟨tk8, h8⟩ := hC; exact ⟨tk8, h8⟩) (hF) (fun q _ => rfl) (by omega) (by omega)
    · by_cases q13_1 : w = 1
      · refine r_tableIn (off := 44) (tgt := 57) dX7_kept_13 (by rw [q13_1]; decide) (by rw [q13_1]; decide) (by rw [q13_1]; decide) (by decide) ?_
        refine r_aload_n (n := 3) (i := 3) 0 rfl rfl dX7_kept_57 ?_
        refine p_get (fs := [.int (a_do (an (cl x))), .int (a_ke (an (cl x))), .int (a_da (an (cl x))), .ref ((aA (cl x)) + 1), .int (a_gv (an (cl x))), .int (a_ch (an (cl x))), .int (a_rv (an (cl x))), .int (a_gn (an (cl x))), .int (a_ct (an (cl x))), .int (a_rt (an (cl x))), .int (a_tr (an (cl x)))]) flX7_202 (by exact (hA.2.1 _ (inB_lt bA)).1) rfl dX7_kept_58 ?_
        refine r_ireturn rfl dX7_kept_61 ?_
        unfold s_kept
        try simp only []
        try (first | simp only [if_pos bA] | simp only [if_neg bA])
        try (first | simp only [if_pos q13_0] | simp only [if_neg q13_0])
        try (first | simp only [if_pos q13_1] | simp only [if_neg q13_1])
        exact pX_mk (hS) (hT.fr (fun q _ _ => rfl)) (hW.fr (fun q _ _ => rfl)) (hM.fr j1 (fun q _ => rfl)) (hD.fr j2 (fun q _ => rfl)) (hA.fr j3 (fun q _ => rfl)) (hI) (by obtain ⟨tk8, h8⟩ := hC; exact ⟨tk8, h8⟩) (hF) (fun q _ => rfl) (by omega) (by omega)
      · by_cases q13_2 : w = 2
        · refine r_tableIn (off := 49) (tgt := 62) dX7_kept_13 (by rw [q13_2]; decide) (by rw [q13_2]; decide) (by rw [q13_2]; decide) (by decide) ?_
          refine r_aload_n (n := 3) (i := 3) 0 rfl rfl dX7_kept_62 ?_
          refine p_get (fs := [.int (a_do (an (cl x))), .int (a_ke (an (cl x))), .int (a_da (an (cl x))), .ref ((aA (cl x)) + 1), .int (a_gv (an (cl x))), .int (a_ch (an (cl x))), .int (a_rv (an (cl x))), .int (a_gn (an (cl x))), .int (a_ct (an (cl x))), .int (a_rt (an (cl x))), .int (a_tr (an (cl x)))]) flX7_205 (by exact (hA.2.1 _ (inB_lt bA)).1) rfl dX7_kept_63 ?_
          refine r_ireturn rfl dX7_kept_66 ?_
          unfold s_kept
          try simp only []
          try (first | simp only [if_pos bA] | simp only [if_neg bA])
          try (first | simp only [if_pos q13_0] | simp only [if_neg q13_0])
          try (first | simp only [if_pos q13_1] | simp only [if_neg q13_1])
          try (first | simp only [if_pos q13_2] | simp only [if_neg q13_2])
          exact pX_mk (hS) (hT.fr (fun q _ _ => rfl)) (hW.fr (fun q _ _ => rfl)) (hM.fr j1 (fun q _ => rfl)) (hD.fr j2 (fun q _ => rfl)) (hA.fr j3 (fun q _ => rfl)) (hI) (by obtain ⟨tk8, h8⟩ := hC; exact ⟨tk8, h8⟩) (hF) (fun q _ => rfl) (by omega) (by omega)
        · by_cases q13_3 : w = 3
          · refine r_tableIn (off := 54) (tgt := 67) dX7_kept_13 (by rw [q13_3]; decide) (by rw [q13_3]; decide) (by rw [q13_3]; decide) (by decide) ?_
            refine r_aload_n (n := 3) (i := 3) 0 rfl rfl dX7_kept_67 ?_
            refine p_get (fs := [.int (a_do (an (cl x))), .int (a_ke (an (cl x))), .int (a_da (an (cl x))), .ref ((aA (cl x)) + 1), .int (a_gv (an (cl x))), .int (a_ch (an (cl x))), .int (a_rv (an (cl x))), .int (a_gn (an (cl x))), .int (a_ct (an (cl x))), .int (a_rt (an (cl x))), .int (a_tr (an (cl x)))]) flX7_208 (by exact (hA.2.1 _ (inB_lt bA)).1) rfl dX7_kept_68 ?_
            refine r_ireturn rfl dX7_kept_71 ?_
            unfold s_kept
            try simp only []
            try (first | simp only [if_pos bA] | simp only [if_neg bA])
            try (first | simp only [if_pos q13_0] | simp only [if_neg q13_0])
            try (first | simp only [if_pos q13_1] | simp only [if_neg q13_1])
            try (first | simp only [if_pos q13_2] | simp only [if_neg q13_2])
            try (first | simp only [if_pos q13_3] | simp only [if_neg q13_3])
            exact pX_mk (hS) (hT.fr (fun q _ _ => rfl)) (hW.fr (fun q _ _ => rfl)) (hM.fr j1 (fun q _ => rfl)) (hD.fr j2 (fun q _ => rfl)) (hA.fr j3 (fun q _ => rfl)) (hI) (by obtain ⟨tk8, h8⟩ := hC; exact ⟨tk8, h8⟩) (hF) (fun q _ => rfl) (by omega) (by omega)
          · by_cases q13_4 : w = 4
            · refine r_tableIn (off := 59) (tgt := 72) dX7_kept_13 (by rw [q13_4]; decide) (by rw [q13_4]; decide) (by rw [q13_4]; decide) (by decide) ?_
              refine r_aload_n (n := 3) (i := 3) 0 rfl rfl dX7_kept_72 ?_
              refine p_get (fs := [.int (a_do (an (cl x))), .int (a_ke (an (cl x))), .int (a_da (an (cl x))), .ref ((aA (cl x)) + 1), .int (a_gv (an (cl x))), .int (a_ch (an (cl x))), .int (a_rv (an (cl x))), .int (a_gn (an (cl x))), .int (a_ct (an (cl x))), .int (a_rt (an (cl x))), .int (a_tr (an (cl x)))]) flX7_211 (by exact (hA.2.1 _ (inB_lt bA)).1) rfl dX7_kept_73 ?_
              refine r_ireturn rfl dX7_kept_76 ?_
              unfold s_kept
              try simp only []
              try (first | simp only [if_pos bA] | simp only [if_neg bA])
              try (first | simp only [if_pos q13_0] | simp only [if_neg q13_0])
              try (first | simp only [if_pos q13_1] | simp only [if_neg q13_1])
              try (first | simp only [if_pos q13_2] | simp only [if_neg q13_2])
              try (first | simp only [if_pos q13_3] | simp only [if_neg q13_3])
              try (first | simp only [if_pos q13_4] | simp only [if_neg q13_4])
              exact pX_mk (hS) (hT.fr (fun q _ _ => rfl)) (hW.fr (fun q _ _ => rfl)) (hM.fr j1 (fun q _ => rfl)) (hD.fr j2 (fun q _ => rfl)) (hA.fr j3 (fun q _ => rfl)) (hI) (by obtain ⟨tk8, h8⟩ := hC; exact ⟨tk8, h8⟩) (hF) (fun q _ => rfl) (by omega) (by omega)
            · by_cases q13_5 : w = 5
              · refine r_tableIn (off := 64) (tgt := 77) dX7_kept_13 (by rw [q13_5]; decide) (by rw [q13_5]; decide) (by rw [q13_5]; decide) (by decide) ?_
                refine r_aload_n (n := 3) (i := 3) 0 rfl rfl dX7_kept_77 ?_
                refine p_get (fs := [.int (a_do (an (cl x))), .int (a_ke (an (cl x))), .int (a_da (an (cl x))), .ref ((aA (cl x)) + 1), .int (a_gv (an (cl x))), .int (a_ch (an (cl x))), .int (a_rv (an (cl x))), .int (a_gn (an (cl x))), .int (a_ct (an (cl x))), .int (a_rt (an (cl x))), .int (a_tr (an (cl x)))]) flX7_212 (by exact (hA.2.1 _ (inB_lt bA)).1) rfl dX7_kept_78 ?_
                refine r_ireturn rfl dX7_kept_81 ?_
                unfold s_kept
                try simp only []
                try (first | simp only [if_pos bA] | simp only [if_neg bA])
                try (first | simp only [if_pos q13_0] | simp only [if_neg q13_0])
                try (first | simp only [if_pos q13_1] | simp only [if_neg q13_1])
                try (first | simp only [if_pos q13_2] | simp only [if_neg q13_2])
                try (first | simp only [if_pos q13_3] | simp only [if_neg q13_3])
                try (first | simp only [if_pos q13_4] | simp only [if_neg q13_4])
                try (first | simp only [if_pos q13_5] | simp only [if_neg q13_5])
                exact pX_mk (hS) (hT.fr (fun q _ _ => rfl)) (hW.fr (fun q _ _ => rfl)) (hM.fr j1 (fun q _ => rfl)) (hD.fr j2 (fun q _ => rfl)) (hA.fr j3 (fun q _ => rfl)) (hI) (by obtain ⟨tk8, h8⟩ := hC; exact ⟨tk8, h8⟩) (hF) (fun q _ => rfl) (by omega) (by omega)
              · refine r_tableOut (tgt := 82) dX7_kept_13 (tbO6 w q13_0 q13_1 q13_2 q13_3 q13_4 q13_5) (by decide) ?_
                refine r_iconst (v := (-1)) (by decide) dX7_kept_82 ?_
                refine r_ireturn rfl dX7_kept_83 ?_
                unfold s_kept
                try simp only []
                try (first | simp only [if_pos bA] | simp only [if_neg bA])
                try (first | simp only [if_pos q13_0] | simp only [if_neg q13_0])
                try (first | simp only [if_pos q13_1] | simp only [if_neg q13_1])
                try (first | simp only [if_pos q13_2] | simp only [if_neg q13_2])
                try (first | simp only [if_pos q13_3] | simp only [if_neg q13_3])
                try (first | simp only [if_pos q13_4] | simp only [if_neg q13_4])
                try (first | simp only [if_pos q13_5] | simp only [if_neg q13_5])
                exact pX_mk (hS) (hT.fr (fun q _ _ => rfl)) (hW.fr (fun q _ _ => rfl)) (hM.fr j1 (fun q _ => rfl)) (hD.fr j2 (fun q _ => rfl)) (hA.fr j3 (fun q _ => rfl)) (hI) (by obtain ⟨tk8, h8⟩ := hC; exact ⟨tk8, h8⟩) (hF) (fun q _ => rfl) (by omega) (by omega)
  · rw [oAt_neg bA]
    show bV O _ d 5 [(0, .ref 32), (1, .int x), (2, .int w)] [.null] (f, n, s) _
    refine r_astore_nN (n := 3) (i := 3) (L' := [(3, .null), (0, .ref 32), (1, .int x), (2, .int w)]) rfl dX7_kept_5 (by decide) rfl ?_
    refine r_aload_nN (n := 3) (i := 3) 0 rfl rfl dX7_kept_6 ?_
    refine r_ifnonnullN dX7_kept_7 ?_
    refine r_iconst (v := (-1)) (by decide) dX7_kept_10 ?_
    refine r_ireturn rfl dX7_kept_11 ?_
    unfold s_kept
    try simp only []
    try (first | simp only [if_pos bA] | simp only [if_neg bA])
    exact pX_mk (hS) (hT.fr (fun q _ _ => rfl)) (hW.fr (fun q _ _ => rfl)) (hM.fr j1 (fun q _ => rfl)) (hD.fr j2 (fun q _ => rfl)) (hA.fr j3 (fun q _ => rfl)) (hI) (by obtain ⟨tk8, h8⟩ := hC; exact ⟨tk8, h8⟩) (hF) (fun q _ => rfl) (by omega) (by omega)
set_option maxRecDepth 4000 in
theorem x_answer {O : bO} {d : Nat} {f : bF} {n s : Nat} {bs : Nat → Int32} {tl : Nat} {mc : Nat} {md : Nat → MR} {ip : Nat → Int32} {dc : Nat} {dr : Nat → DR} {ac : Nat} {an : Nat → AR} {hs : Bool} {sd : Nat → Int32} {df : Nat → Int32} {dfn : Nat} {td : Nat} {tr : Int32} {ft : Int32} {pl : Int32} {x : Int32} {w : Int32} (hX : XR f (bs, tl, mc, md, ip, dc, dr, ac, an, hs, sd, df, dfn, td, tr, ft, pl)) (jX : JX (bs, tl, mc, md, ip, dc, dr, ac, an, hs, sd, df, dfn, td, tr, ft, pl))  (hd : 1 ≤ d) : bCall O mX7_answer d [.ref 32, .int x, .int w] (f, n, s) (pX f n s 0 0 (s_answer (bs, tl, mc, md, ip, dc, dr, ac, an, hs, sd, df, dfn, td, tr, ft, pl) x w)) := by
  refine bCall_of (by decide) rfl (Nat.le_of_ble_eq_true rfl) ?_
  obtain ⟨hS, hT, hW, hM, hD, hA, hI, hC, hF⟩ := id hX
  obtain ⟨j1, j2, j3, j4, j5, j6, j7, j8⟩ := id jX
  simp only [] at hS hT hW hM hD hA hI hC hF j1 j2 j3 j4 j5 j6 j7 j8
  show bV O _ d 0 [(0, .ref 32), (1, .int x), (2, .int w)] [] (f, n, s) _
  refine r_aload_n (n := 0) (i := 0) 0 rfl rfl dX7_answer_0 ?_
  refine r_iload_n (n := 1) (i := 1) 1 rfl rfl dX7_answer_1 ?_
  refine p_callV (As := [.int x]) (rest := []) (kX7_answerAt (O := O) (d := 0) (f := f) (n := n) (s := s) (ct_m := nI mc) (ct_d := nI dc) (ct_a := nI ac) (ct_f := nI dfn) (tday := nI td) (trb := tr) (flt := ft) (plc := pl) (x := x) (nn := ac) hS hA.1 (by first | assumption | omega | decide) (Nat.le_refl _)).call rfl lkX7_195 imX7_answerAt seX7_answerAt rfl hS rfl rfl (by omega) (Nat.le_of_ble_eq_true rfl) dX7_answer_2 (fun v9 G9 h9 => ?_) (fun q9 G9 h9 => (by cases h9.1))
  obtain ⟨h8, rfl⟩ := h9; cases h8
  by_cases bA : inB x ac = true
  · rw [oAt_pos bA]
    have b1bA := aA_b (Nat.lt_of_lt_of_le (inB_lt bA) j3)
    show bV O _ d 5 [(0, .ref 32), (1, .int x), (2, .int w)] [.ref (aA (cl x))] (f, n, s) _
    refine r_astore_n (n := 3) (i := 3) (L' := [(3, .ref (aA (cl x))), (0, .ref 32), (1, .int x), (2, .int w)]) rfl dX7_answer_5 (by decide) rfl ?_
    refine r_aload_n (n := 3) (i := 3) 0 rfl rfl dX7_answer_6 ?_
    refine r_ifnonnull (tgt := 13) (by decide) dX7_answer_7 ?_
    refine r_iload_n (n := 2) (i := 2) 3 rfl rfl dX7_answer_13 ?_
    by_cases q14_0 : w = 0
    · refine r_tableIn (off := 30) (tgt := 44) dX7_answer_14 (by rw [q14_0]; decide) (by rw [q14_0]; decide) (by rw [q14_0]; decide) (by decide) ?_
      refine r_aload_n (n := 3) (i := 3) 0 rfl rfl dX7_answer_44 ?_
      refine p_get (fs := [.int (a_do (an (cl x))), .int (a_ke (an (cl x))), .int (a_da (an (cl x))), .ref ((aA (cl x)) + 1), .int (a_gv (an (cl x))), .int (a_ch (an (cl x))), .int (a_rv (an (cl x))), .int (a_gn (an (cl x))), .int (a_ct (an (cl x))), .int (a_rt (an (cl x))), .int (a_tr (an (cl x)))]) flX7_213 (by exact (hA.2.1 _ (inB_lt bA)).1) rfl dX7_answer_45 ?_
      refine r_ireturn rfl dX7_answer_48 ?_
      unfold s_answer
      try simp only []
      try (first | simp only [if_pos bA] | simp only [if_neg bA])
      try (first | simp only [if_pos q14_0] | simp only [if_neg q14_0])
      exact pX_mk (hS) (hT.fr (fun q _ _ => rfl)) (hW.fr (fun q _ _ => rfl)) (hM.fr j1 (fun q _ => rfl)) (hD.fr j2 (fun q _ => rfl)) (hA.fr j3 (fun q _ => rfl)) (hI) (by obtain ⟨tk8, h8⟩ := hC; exact ⟨tk8, h8⟩) (hF) (fun q _ => rfl) (by omega) (by omega)
    · by_cases q14_1 : w = 1
      · refine r_tableIn (off := 35) (tgt := 49) dX7_answer_14 (by rw [q14_1]; decide) (by rw [q14_1]; decide) (by rw [q14_1]; decide) (by decide) ?_
        refine r_aload_n (n := 3) (i := 3) 0 rfl rfl dX7_answer_49 ?_
        refine p_get (fs := [.int (a_do (an (cl x))), .int (a_ke (an (cl x))), .int (a_da (an (cl x))), .ref ((aA (cl x)) + 1), .int (a_gv (an (cl x))), .int (a_ch (an (cl x))), .int (a_rv (an (cl x))), .int (a_gn (an (cl x))), .int (a_ct (an (cl x))), .int (a_rt (an (cl x))), .int (a_tr (an (cl x)))]) flX7_216 (by exact (hA.2.1 _ (inB_lt bA)).1) rfl dX7_answer_50 ?_
        refine r_ireturn rfl dX7_answer_53 ?_
        unfold s_answer
        try simp only []
        try (first | simp only [if_pos bA] | simp only [if_neg bA])
        try (first | simp only [if_pos q14_0] | simp only [if_neg q14_0])
        try (first | simp only [if_pos q14_1] | simp only [if_neg q14_1])
        exact pX_mk (hS) (hT.fr (fun q _ _ => rfl)) (hW.fr (fun q _ _ => rfl)) (hM.fr j1 (fun q _ => rfl)) (hD.fr j2 (fun q _ => rfl)) (hA.fr j3 (fun q _ => rfl)) (hI) (by obtain ⟨tk8, h8⟩ := hC; exact ⟨tk8, h8⟩) (hF) (fun q _ => rfl) (by omega) (by omega)
      · by_cases q14_2 : w = 2
        · refine r_tableIn (off := 40) (tgt := 54) dX7_answer_14 (by rw [q14_2]; decide) (by rw [q14_2]; decide) (by rw [q14_2]; decide) (by decide) ?_
          refine r_aload_n (n := 3) (i := 3) 0 rfl rfl dX7_answer_54 ?_
          refine p_get (fs := [.int (a_do (an (cl x))), .int (a_ke (an (cl x))), .int (a_da (an (cl x))), .ref ((aA (cl x)) + 1), .int (a_gv (an (cl x))), .int (a_ch (an (cl x))), .int (a_rv (an (cl x))), .int (a_gn (an (cl x))), .int (a_ct (an (cl x))), .int (a_rt (an (cl x))), .int (a_tr (an (cl x)))]) flX7_219 (by exact (hA.2.1 _ (inB_lt bA)).1) rfl dX7_answer_55 ?_
          refine r_ireturn rfl dX7_answer_58 ?_
          unfold s_answer
          try simp only []
          try (first | simp only [if_pos bA] | simp only [if_neg bA])
          try (first | simp only [if_pos q14_0] | simp only [if_neg q14_0])
          try (first | simp only [if_pos q14_1] | simp only [if_neg q14_1])
          try (first | simp only [if_pos q14_2] | simp only [if_neg q14_2])
          exact pX_mk (hS) (hT.fr (fun q _ _ => rfl)) (hW.fr (fun q _ _ => rfl)) (hM.fr j1 (fun q _ => rfl)) (hD.fr j2 (fun q _ => rfl)) (hA.fr j3 (fun q _ => rfl)) (hI) (by obtain ⟨tk8, h8⟩ := hC; exact ⟨tk8, h8⟩) (hF) (fun q _ => rfl) (by omega) (by omega)
        · by_cases q14_3 : w = 3
          · refine r_tableIn (off := 45) (tgt := 59) dX7_answer_14 (by rw [q14_3]; decide) (by rw [q14_3]; decide) (by rw [q14_3]; decide) (by decide) ?_
            refine r_aload_n (n := 3) (i := 3) 0 rfl rfl dX7_answer_59 ?_
            refine p_get (fs := [.int (a_do (an (cl x))), .int (a_ke (an (cl x))), .int (a_da (an (cl x))), .ref ((aA (cl x)) + 1), .int (a_gv (an (cl x))), .int (a_ch (an (cl x))), .int (a_rv (an (cl x))), .int (a_gn (an (cl x))), .int (a_ct (an (cl x))), .int (a_rt (an (cl x))), .int (a_tr (an (cl x)))]) flX7_222 (by exact (hA.2.1 _ (inB_lt bA)).1) rfl dX7_answer_60 ?_
            refine r_ireturn rfl dX7_answer_63 ?_
            unfold s_answer
            try simp only []
            try (first | simp only [if_pos bA] | simp only [if_neg bA])
            try (first | simp only [if_pos q14_0] | simp only [if_neg q14_0])
            try (first | simp only [if_pos q14_1] | simp only [if_neg q14_1])
            try (first | simp only [if_pos q14_2] | simp only [if_neg q14_2])
            try (first | simp only [if_pos q14_3] | simp only [if_neg q14_3])
            exact pX_mk (hS) (hT.fr (fun q _ _ => rfl)) (hW.fr (fun q _ _ => rfl)) (hM.fr j1 (fun q _ => rfl)) (hD.fr j2 (fun q _ => rfl)) (hA.fr j3 (fun q _ => rfl)) (hI) (by obtain ⟨tk8, h8⟩ := hC; exact ⟨tk8, h8⟩) (hF) (fun q _ => rfl) (by omega) (by omega)
          · refine r_tableOut (tgt := 64) dX7_answer_14 (tbO4 w q14_0 q14_1 q14_2 q14_3) (by decide) ?_
            refine r_ldc ckX7_117 dX7_answer_64 ?_
            refine r_ireturn rfl dX7_answer_66 ?_
            unfold s_answer
            try simp only []
            try (first | simp only [if_pos bA] | simp only [if_neg bA])
            try (first | simp only [if_pos q14_0] | simp only [if_neg q14_0])
            try (first | simp only [if_pos q14_1] | simp only [if_neg q14_1])
            try (first | simp only [if_pos q14_2] | simp only [if_neg q14_2])
            try (first | simp only [if_pos q14_3] | simp only [if_neg q14_3])
            exact pX_mk (hS) (hT.fr (fun q _ _ => rfl)) (hW.fr (fun q _ _ => rfl)) (hM.fr j1 (fun q _ => rfl)) (hD.fr j2 (fun q _ => rfl)) (hA.fr j3 (fun q _ => rfl)) (hI) (by obtain ⟨tk8, h8⟩ := hC; exact ⟨tk8, h8⟩) (hF) (fun q _ => rfl) (by omega) (by omega)
  · rw [oAt_neg bA]
    show bV O _ d 5 [(0, .ref 32), (1, .int x), (2, .int w)] [.null] (f, n, s) _
    refine r_astore_nN (n := 3) (i := 3) (L' := [(3, .null), (0, .ref 32), (1, .int x), (2, .int w)]) rfl dX7_answer_5 (by decide) rfl ?_
    refine r_aload_nN (n := 3) (i := 3) 0 rfl rfl dX7_answer_6 ?_
    refine r_ifnonnullN dX7_answer_7 ?_
    refine r_ldc ckX7_117 dX7_answer_10 ?_
    refine r_ireturn rfl dX7_answer_12 ?_
    unfold s_answer
    try simp only []
    try (first | simp only [if_pos bA] | simp only [if_neg bA])
    exact pX_mk (hS) (hT.fr (fun q _ _ => rfl)) (hW.fr (fun q _ _ => rfl)) (hM.fr j1 (fun q _ => rfl)) (hD.fr j2 (fun q _ => rfl)) (hA.fr j3 (fun q _ => rfl)) (hI) (by obtain ⟨tk8, h8⟩ := hC; exact ⟨tk8, h8⟩) (hF) (fun q _ => rfl) (by omega) (by omega)
set_option maxRecDepth 4000 in
theorem x_count {O : bO} {d : Nat} {f : bF} {n s : Nat} {bs : Nat → Int32} {tl : Nat} {mc : Nat} {md : Nat → MR} {ip : Nat → Int32} {dc : Nat} {dr : Nat → DR} {ac : Nat} {an : Nat → AR} {hs : Bool} {sd : Nat → Int32} {df : Nat → Int32} {dfn : Nat} {td : Nat} {tr : Int32} {ft : Int32} {pl : Int32} {w : Int32} (hX : XR f (bs, tl, mc, md, ip, dc, dr, ac, an, hs, sd, df, dfn, td, tr, ft, pl)) (jX : JX (bs, tl, mc, md, ip, dc, dr, ac, an, hs, sd, df, dfn, td, tr, ft, pl))  (hd : 0 ≤ d) : bCall O mX7_count d [.ref 32, .int w] (f, n, s) (pX f n s 0 0 (s_count (bs, tl, mc, md, ip, dc, dr, ac, an, hs, sd, df, dfn, td, tr, ft, pl) w)) := by
  refine bCall_of (by decide) rfl (Nat.le_of_ble_eq_true rfl) ?_
  obtain ⟨hS, hT, hW, hM, hD, hA, hI, hC, hF⟩ := id hX
  obtain ⟨j1, j2, j3, j4, j5, j6, j7, j8⟩ := id jX
  simp only [] at hS hT hW hM hD hA hI hC hF j1 j2 j3 j4 j5 j6 j7 j8
  obtain ⟨w9, m9, b9, q9, te9, tn9, tp9, tk9, tv9, ks9, vs9, h33, h34, h35, h36, h37⟩ := id hT
  show bV O _ d 0 [(0, .ref 32), (1, .int w)] [] (f, n, s) _
  refine r_iload_n (n := 1) (i := 1) 1 rfl rfl dX7_count_0 ?_
  by_cases q1_0 : w = 0
  · refine r_tableIn (off := 35) (tgt := 36) dX7_count_1 (by rw [q1_0]; decide) (by rw [q1_0]; decide) (by rw [q1_0]; decide) (by decide) ?_
    refine r_aload_n (n := 0) (i := 0) 0 rfl rfl dX7_count_36 ?_
    refine p_get (fs := [.ref 33, .ref 38, .ref 40, .ref 41, .ref 42, .ref 43, .ref 44, .ref 45, .int (nI mc), .int (nI dc), .int (nI ac), .int (nI dfn), .int (nI td), .int tr, .int ft, .int pl]) flX7_87 hS rfl dX7_count_37 ?_
    refine r_ireturn rfl dX7_count_40 ?_
    unfold s_count
    try simp only []
    try (first | simp only [if_pos q1_0] | simp only [if_neg q1_0])
    exact pX_mk (hS) (hT.fr (fun q _ _ => rfl)) (hW.fr (fun q _ _ => rfl)) (hM.fr j1 (fun q _ => rfl)) (hD.fr j2 (fun q _ => rfl)) (hA.fr j3 (fun q _ => rfl)) (hI) (by obtain ⟨tk8, h8⟩ := hC; exact ⟨tk8, h8⟩) (hF) (fun q _ => rfl) (by omega) (by omega)
  · by_cases q1_1 : w = 1
    · refine r_tableIn (off := 40) (tgt := 41) dX7_count_1 (by rw [q1_1]; decide) (by rw [q1_1]; decide) (by rw [q1_1]; decide) (by decide) ?_
      refine r_aload_n (n := 0) (i := 0) 0 rfl rfl dX7_count_41 ?_
      refine p_get (fs := [.ref 33, .ref 38, .ref 40, .ref 41, .ref 42, .ref 43, .ref 44, .ref 45, .int (nI mc), .int (nI dc), .int (nI ac), .int (nI dfn), .int (nI td), .int tr, .int ft, .int pl]) flX7_122 hS rfl dX7_count_42 ?_
      refine r_ireturn rfl dX7_count_45 ?_
      unfold s_count
      try simp only []
      try (first | simp only [if_pos q1_0] | simp only [if_neg q1_0])
      try (first | simp only [if_pos q1_1] | simp only [if_neg q1_1])
      exact pX_mk (hS) (hT.fr (fun q _ _ => rfl)) (hW.fr (fun q _ _ => rfl)) (hM.fr j1 (fun q _ => rfl)) (hD.fr j2 (fun q _ => rfl)) (hA.fr j3 (fun q _ => rfl)) (hI) (by obtain ⟨tk8, h8⟩ := hC; exact ⟨tk8, h8⟩) (hF) (fun q _ => rfl) (by omega) (by omega)
    · by_cases q1_2 : w = 2
      · refine r_tableIn (off := 45) (tgt := 46) dX7_count_1 (by rw [q1_2]; decide) (by rw [q1_2]; decide) (by rw [q1_2]; decide) (by decide) ?_
        refine r_aload_n (n := 0) (i := 0) 0 rfl rfl dX7_count_46 ?_
        refine p_get (fs := [.ref 33, .ref 38, .ref 40, .ref 41, .ref 42, .ref 43, .ref 44, .ref 45, .int (nI mc), .int (nI dc), .int (nI ac), .int (nI dfn), .int (nI td), .int tr, .int ft, .int pl]) flX7_178 hS rfl dX7_count_47 ?_
        refine r_ireturn rfl dX7_count_50 ?_
        unfold s_count
        try simp only []
        try (first | simp only [if_pos q1_0] | simp only [if_neg q1_0])
        try (first | simp only [if_pos q1_1] | simp only [if_neg q1_1])
        try (first | simp only [if_pos q1_2] | simp only [if_neg q1_2])
        exact pX_mk (hS) (hT.fr (fun q _ _ => rfl)) (hW.fr (fun q _ _ => rfl)) (hM.fr j1 (fun q _ => rfl)) (hD.fr j2 (fun q _ => rfl)) (hA.fr j3 (fun q _ => rfl)) (hI) (by obtain ⟨tk8, h8⟩ := hC; exact ⟨tk8, h8⟩) (hF) (fun q _ => rfl) (by omega) (by omega)
      · by_cases q1_3 : w = 3
        · refine r_tableIn (off := 50) (tgt := 51) dX7_count_1 (by rw [q1_3]; decide) (by rw [q1_3]; decide) (by rw [q1_3]; decide) (by decide) ?_
          refine r_aload_n (n := 0) (i := 0) 0 rfl rfl dX7_count_51 ?_
          refine p_get (fs := [.ref 33, .ref 38, .ref 40, .ref 41, .ref 42, .ref 43, .ref 44, .ref 45, .int (nI mc), .int (nI dc), .int (nI ac), .int (nI dfn), .int (nI td), .int tr, .int ft, .int pl]) flX7_142 hS rfl dX7_count_52 ?_
          refine r_ireturn rfl dX7_count_55 ?_
          unfold s_count
          try simp only []
          try (first | simp only [if_pos q1_0] | simp only [if_neg q1_0])
          try (first | simp only [if_pos q1_1] | simp only [if_neg q1_1])
          try (first | simp only [if_pos q1_2] | simp only [if_neg q1_2])
          try (first | simp only [if_pos q1_3] | simp only [if_neg q1_3])
          exact pX_mk (hS) (hT.fr (fun q _ _ => rfl)) (hW.fr (fun q _ _ => rfl)) (hM.fr j1 (fun q _ => rfl)) (hD.fr j2 (fun q _ => rfl)) (hA.fr j3 (fun q _ => rfl)) (hI) (by obtain ⟨tk8, h8⟩ := hC; exact ⟨tk8, h8⟩) (hF) (fun q _ => rfl) (by omega) (by omega)
        · by_cases q1_4 : w = 4
          · refine r_tableIn (off := 55) (tgt := 56) dX7_count_1 (by rw [q1_4]; decide) (by rw [q1_4]; decide) (by rw [q1_4]; decide) (by decide) ?_
            refine r_aload_n (n := 0) (i := 0) 0 rfl rfl dX7_count_56 ?_
            refine p_get (fs := [.ref 33, .ref 38, .ref 40, .ref 41, .ref 42, .ref 43, .ref 44, .ref 45, .int (nI mc), .int (nI dc), .int (nI ac), .int (nI dfn), .int (nI td), .int tr, .int ft, .int pl]) flX7_12 hS rfl dX7_count_57 ?_
            refine p_get (fs := [.ref 34, .ref 36, .ref 37, .int w9, .int m9, .int b9, .int q9]) flX7_57 h33 rfl dX7_count_60 ?_
            refine p_get (fs := [.ref 35, .int (nI tl), .int te9, .int tn9, .int tp9, .int tk9, .int tv9]) flX7_61 h34 rfl dX7_count_63 ?_
            refine r_ireturn rfl dX7_count_66 ?_
            unfold s_count
            try simp only []
            try (first | simp only [if_pos q1_0] | simp only [if_neg q1_0])
            try (first | simp only [if_pos q1_1] | simp only [if_neg q1_1])
            try (first | simp only [if_pos q1_2] | simp only [if_neg q1_2])
            try (first | simp only [if_pos q1_3] | simp only [if_neg q1_3])
            try (first | simp only [if_pos q1_4] | simp only [if_neg q1_4])
            exact pX_mk (hS) (hT.fr (fun q _ _ => rfl)) (hW.fr (fun q _ _ => rfl)) (hM.fr j1 (fun q _ => rfl)) (hD.fr j2 (fun q _ => rfl)) (hA.fr j3 (fun q _ => rfl)) (hI) (by obtain ⟨tk8, h8⟩ := hC; exact ⟨tk8, h8⟩) (hF) (fun q _ => rfl) (by omega) (by omega)
          · refine r_tableOut (tgt := 67) dX7_count_1 (tbO5 w q1_0 q1_1 q1_2 q1_3 q1_4) (by decide) ?_
            refine r_iconst (v := (-1)) (by decide) dX7_count_67 ?_
            refine r_ireturn rfl dX7_count_68 ?_
            unfold s_count
            try simp only []
            try (first | simp only [if_pos q1_0] | simp only [if_neg q1_0])
            try (first | simp only [if_pos q1_1] | simp only [if_neg q1_1])
            try (first | simp only [if_pos q1_2] | simp only [if_neg q1_2])
            try (first | simp only [if_pos q1_3] | simp only [if_neg q1_3])
            try (first | simp only [if_pos q1_4] | simp only [if_neg q1_4])
            exact pX_mk (hS) (hT.fr (fun q _ _ => rfl)) (hW.fr (fun q _ _ => rfl)) (hM.fr j1 (fun q _ => rfl)) (hD.fr j2 (fun q _ => rfl)) (hA.fr j3 (fun q _ => rfl)) (hI) (by obtain ⟨tk8, h8⟩ := hC; exact ⟨tk8, h8⟩) (hF) (fun q _ => rfl) (by omega) (by omega)
set_option maxRecDepth 4000 in
theorem x_truth {O : bO} {d : Nat} {f : bF} {n s : Nat} {bs : Nat → Int32} {tl : Nat} {mc : Nat} {md : Nat → MR} {ip : Nat → Int32} {dc : Nat} {dr : Nat → DR} {ac : Nat} {an : Nat → AR} {hs : Bool} {sd : Nat → Int32} {df : Nat → Int32} {dfn : Nat} {td : Nat} {tr : Int32} {ft : Int32} {pl : Int32} {x : Int32} {v : Int32} (hX : XR f (bs, tl, mc, md, ip, dc, dr, ac, an, hs, sd, df, dfn, td, tr, ft, pl)) (jX : JX (bs, tl, mc, md, ip, dc, dr, ac, an, hs, sd, df, dfn, td, tr, ft, pl))  (hd : 1 ≤ d) : bCall O mX7_truth d [.ref 32, .int x, .int v] (f, n, s) (pX f n s 0 0 (s_truth (bs, tl, mc, md, ip, dc, dr, ac, an, hs, sd, df, dfn, td, tr, ft, pl) x v)) := by
  refine bCall_of (by decide) rfl (Nat.le_of_ble_eq_true rfl) ?_
  obtain ⟨hS, hT, hW, hM, hD, hA, hI, hC, hF⟩ := id hX
  obtain ⟨j1, j2, j3, j4, j5, j6, j7, j8⟩ := id jX
  simp only [] at hS hT hW hM hD hA hI hC hF j1 j2 j3 j4 j5 j6 j7 j8
  show bV O _ d 0 [(0, .ref 32), (1, .int x), (2, .int v)] [] (f, n, s) _
  refine r_aload_n (n := 0) (i := 0) 0 rfl rfl dX7_truth_0 ?_
  refine r_iload_n (n := 1) (i := 1) 1 rfl rfl dX7_truth_1 ?_
  refine p_callV (As := [.int x]) (rest := []) (kX7_answerAt (O := O) (d := 0) (f := f) (n := n) (s := s) (ct_m := nI mc) (ct_d := nI dc) (ct_a := nI ac) (ct_f := nI dfn) (tday := nI td) (trb := tr) (flt := ft) (plc := pl) (x := x) (nn := ac) hS hA.1 (by first | assumption | omega | decide) (Nat.le_refl _)).call rfl lkX7_195 imX7_answerAt seX7_answerAt rfl hS rfl rfl (by omega) (Nat.le_of_ble_eq_true rfl) dX7_truth_2 (fun v9 G9 h9 => ?_) (fun q9 G9 h9 => (by cases h9.1))
  obtain ⟨h8, rfl⟩ := h9; cases h8
  by_cases bA : inB x ac = true
  · rw [oAt_pos bA]
    have b1bA := aA_b (Nat.lt_of_lt_of_le (inB_lt bA) j3)
    show bV O _ d 5 [(0, .ref 32), (1, .int x), (2, .int v)] [.ref (aA (cl x))] (f, n, s) _
    refine r_astore_n (n := 3) (i := 3) (L' := [(3, .ref (aA (cl x))), (0, .ref 32), (1, .int x), (2, .int v)]) rfl dX7_truth_5 (by decide) rfl ?_
    refine r_aload_n (n := 3) (i := 3) 0 rfl rfl dX7_truth_6 ?_
    refine r_ifnonnull (tgt := 16) (by decide) dX7_truth_7 ?_
    refine r_iload_n (n := 2) (i := 2) 3 rfl rfl dX7_truth_16 ?_
    refine r_ldc ckX7_226 dX7_truth_17 ?_
    refine r_icmp_lt (tgt := 28) (by decide) dX7_truth_19 (fun c19 => ?_) (fun c19 => ?_)
    · refine r_aload_n (n := 0) (i := 0) 1 rfl rfl dX7_truth_28 ?_
      refine r_iconst (v := 2) (by decide) dX7_truth_29 ?_
      refine p_callV (As := [.int 2]) (rest := []) (kX7_deny (O := O) (d := 0) (f := f) (n := n) (s := s) (ct_m := nI mc) (ct_d := nI dc) (ct_a := nI ac) (ct_f := nI dfn) (tday := nI td) (trb := tr) (flt := ft) (plc := pl) (x := 2) hS  (Nat.le_refl _)).call rfl lkX7_109 imX7_deny seX7_deny rfl hS rfl rfl (by omega) (Nat.le_of_ble_eq_true rfl) dX7_truth_30 (fun v9 G9 h9 => ?_) (fun q9 G9 h9 => (by cases h9.1))
      obtain ⟨h8, rfl⟩ := h9; cases h8
      show bV O _ d 33 [(3, .ref (aA (cl x))), (0, .ref 32), (1, .int x), (2, .int v)] [.int 0] (bU f 32 (.inr (7, [.ref 33, .ref 38, .ref 40, .ref 41, .ref 42, .ref 43, .ref 44, .ref 45, .int (nI mc), .int (nI dc), .int (nI ac), .int (nI dfn), .int (nI td), .int 2, .int ft, .int pl])), n, s) _
      refine r_zreturn rfl (by first | decide +kernel | exact narZ _ | assumption) dX7_truth_33 ?_
      unfold s_truth
      try simp only []
      try (first | simp only [if_pos bA] | simp only [if_neg bA])
      try (first | simp only [if_pos c19] | simp only [if_neg c19])
      exact pX_mk (by exact bU_s _ _ _) (hT.fr (fun q _ _ => (bU_n (by omega)).trans (rfl))) (hW.fr (fun q _ _ => (bU_n (by omega)).trans (rfl))) (hM.fr j1 (fun q _ => (bU_n (by omega)).trans (rfl))) (hD.fr j2 (fun q _ => (bU_n (by omega)).trans (rfl))) (hA.fr j3 (fun q _ => (bU_n (by omega)).trans (rfl))) (by exact ((bU_n (by decide)).trans (hI))) (by obtain ⟨tk8, h8⟩ := hC; exact ⟨tk8, (bU_n (by omega)).trans (h8)⟩) (by exact ((bU_n (by decide)).trans (hF))) (fun q _ => (bU_n (by omega)).trans (rfl)) (by omega) (by omega)
    · refine r_iload_n (n := 2) (i := 2) 3 rfl rfl dX7_truth_22 ?_
      refine r_ldc ckX7_227 dX7_truth_23 ?_
      refine r_icmp_le (tgt := 34) (by decide) dX7_truth_25 (fun c25 => ?_) (fun c25 => ?_)
      · refine r_aload_n (n := 3) (i := 3) 0 rfl rfl dX7_truth_34 ?_
        refine r_iload_n (n := 2) (i := 2) 3 rfl rfl dX7_truth_35 ?_
        refine p_put (fs := [.int (a_do (an (cl x))), .int (a_ke (an (cl x))), .int (a_da (an (cl x))), .ref ((aA (cl x)) + 1), .int (a_gv (an (cl x))), .int (a_ch (an (cl x))), .int (a_rv (an (cl x))), .int (a_gn (an (cl x))), .int (a_ct (an (cl x))), .int (a_rt (an (cl x))), .int (a_tr (an (cl x)))]) (fs' := [.int (a_do (an (cl x))), .int (a_ke (an (cl x))), .int (a_da (an (cl x))), .ref ((aA (cl x)) + 1), .int (a_gv (an (cl x))), .int (a_ch (an (cl x))), .int (a_rv (an (cl x))), .int (a_gn (an (cl x))), .int (a_ct (an (cl x))), .int (a_rt (an (cl x))), .int v]) flX7_222 (by exact (hA.2.1 _ (inB_lt bA)).1) (Nat.le_of_ble_eq_true rfl) (bNf_i _) rfl dX7_truth_36 ?_
        refine r_aload_n (n := 0) (i := 0) 1 rfl rfl dX7_truth_39 ?_
        refine p_callV (As := []) (rest := []) (kX7_allow (O := O) (d := 0) (f := bU f (aA (cl x)) (.inr (0, [.int (a_do (an (cl x))), .int (a_ke (an (cl x))), .int (a_da (an (cl x))), .ref ((aA (cl x)) + 1), .int (a_gv (an (cl x))), .int (a_ch (an (cl x))), .int (a_rv (an (cl x))), .int (a_gn (an (cl x))), .int (a_ct (an (cl x))), .int (a_rt (an (cl x))), .int v]))) (n := n) (s := s) (ct_m := nI mc) (ct_d := nI dc) (ct_a := nI ac) (ct_f := nI dfn) (tday := nI td) (trb := tr) (flt := ft) (plc := pl) (by exact ((bU_n (by omega)).trans (hS)))  (Nat.le_refl _)).call rfl lkX7_113 imX7_allow seX7_allow rfl (by exact ((bU_n (by omega)).trans (hS))) rfl rfl (by omega) (Nat.le_of_ble_eq_true rfl) dX7_truth_40 (fun v9 G9 h9 => ?_) (fun q9 G9 h9 => (by cases h9.1))
        obtain ⟨h8, rfl⟩ := h9; cases h8
        show bV O _ d 43 [(3, .ref (aA (cl x))), (0, .ref 32), (1, .int x), (2, .int v)] [.int 1] (bU (bU f (aA (cl x)) (.inr (0, [.int (a_do (an (cl x))), .int (a_ke (an (cl x))), .int (a_da (an (cl x))), .ref ((aA (cl x)) + 1), .int (a_gv (an (cl x))), .int (a_ch (an (cl x))), .int (a_rv (an (cl x))), .int (a_gn (an (cl x))), .int (a_ct (an (cl x))), .int (a_rt (an (cl x))), .int v]))) 32 (.inr (7, [.ref 33, .ref 38, .ref 40, .ref 41, .ref 42, .ref 43, .ref 44, .ref 45, .int (nI mc), .int (nI dc), .int (nI ac), .int (nI dfn), .int (nI td), .int 0, .int ft, .int pl])), n, s) _
        refine r_zreturn rfl (by first | decide +kernel | exact narZ _ | assumption) dX7_truth_43 ?_
        unfold s_truth
        try simp only []
        try (first | simp only [if_pos bA] | simp only [if_neg bA])
        try (first | simp only [if_pos c19] | simp only [if_neg c19])
        try (first | simp only [if_pos c25] | simp only [if_neg c25])
        exact pX_mk (by exact bU_s _ _ _) (hT.fr (fun q _ _ => (bU_n (by omega)).trans ((bU_n (by omega)).trans (rfl)))) (hW.fr (fun q _ _ => (bU_n (by omega)).trans ((bU_n (by omega)).trans (rfl)))) (hM.fr j1 (fun q _ => (bU_n (by omega)).trans ((bU_n (by omega)).trans (rfl)))) (hD.fr j2 (fun q _ => (bU_n (by omega)).trans ((bU_n (by omega)).trans (rfl)))) (hA.put j3 (inB_lt bA) ⟨(by exact ((bU_n (by omega)).trans (bU_s _ _ _))), (by exact ((bU_n (by omega)).trans (((bU_n (by omega)).trans ((hA.2.1 _ (inB_lt bA)).2)))))⟩ (fun q _ => (bU_n (by omega)).trans ((bU_n (by omega)).trans (rfl)))) (by exact ((bU_n (by decide)).trans (((bU_n (by omega)).trans (hI))))) (by obtain ⟨tk8, h8⟩ := hC; exact ⟨tk8, (bU_n (by omega)).trans ((bU_n (by omega)).trans (h8))⟩) (by exact ((bU_n (by decide)).trans (((bU_n (by omega)).trans (hF))))) (fun q _ => (bU_n (by omega)).trans ((bU_n (by omega)).trans (rfl))) (by omega) (by omega)
      · refine r_aload_n (n := 0) (i := 0) 1 rfl rfl dX7_truth_28 ?_
        refine r_iconst (v := 2) (by decide) dX7_truth_29 ?_
        refine p_callV (As := [.int 2]) (rest := []) (kX7_deny (O := O) (d := 0) (f := f) (n := n) (s := s) (ct_m := nI mc) (ct_d := nI dc) (ct_a := nI ac) (ct_f := nI dfn) (tday := nI td) (trb := tr) (flt := ft) (plc := pl) (x := 2) hS  (Nat.le_refl _)).call rfl lkX7_109 imX7_deny seX7_deny rfl hS rfl rfl (by omega) (Nat.le_of_ble_eq_true rfl) dX7_truth_30 (fun v9 G9 h9 => ?_) (fun q9 G9 h9 => (by cases h9.1))
        obtain ⟨h8, rfl⟩ := h9; cases h8
        show bV O _ d 33 [(3, .ref (aA (cl x))), (0, .ref 32), (1, .int x), (2, .int v)] [.int 0] (bU f 32 (.inr (7, [.ref 33, .ref 38, .ref 40, .ref 41, .ref 42, .ref 43, .ref 44, .ref 45, .int (nI mc), .int (nI dc), .int (nI ac), .int (nI dfn), .int (nI td), .int 2, .int ft, .int pl])), n, s) _
        refine r_zreturn rfl (by first | decide +kernel | exact narZ _ | assumption) dX7_truth_33 ?_
        unfold s_truth
        try simp only []
        try (first | simp only [if_pos bA] | simp only [if_neg bA])
        try (first | simp only [if_pos c19] | simp only [if_neg c19])
        try (first | simp only [if_pos c25] | simp only [if_neg c25])
        exact pX_mk (by exact bU_s _ _ _) (hT.fr (fun q _ _ => (bU_n (by omega)).trans (rfl))) (hW.fr (fun q _ _ => (bU_n (by omega)).trans (rfl))) (hM.fr j1 (fun q _ => (bU_n (by omega)).trans (rfl))) (hD.fr j2 (fun q _ => (bU_n (by omega)).trans (rfl))) (hA.fr j3 (fun q _ => (bU_n (by omega)).trans (rfl))) (by exact ((bU_n (by decide)).trans (hI))) (by obtain ⟨tk8, h8⟩ := hC; exact ⟨tk8, (bU_n (by omega)).trans (h8)⟩) (by exact ((bU_n (by decide)).trans (hF))) (fun q _ => (bU_n (by omega)).trans (rfl)) (by omega) (by omega)
  · rw [oAt_neg bA]
    show bV O _ d 5 [(0, .ref 32), (1, .int x), (2, .int v)] [.null] (f, n, s) _
    refine r_astore_nN (n := 3) (i := 3) (L' := [(3, .null), (0, .ref 32), (1, .int x), (2, .int v)]) rfl dX7_truth_5 (by decide) rfl ?_
    refine r_aload_nN (n := 3) (i := 3) 0 rfl rfl dX7_truth_6 ?_
    refine r_ifnonnullN dX7_truth_7 ?_
    refine r_aload_n (n := 0) (i := 0) 1 rfl rfl dX7_truth_10 ?_
    refine r_iconst (v := 1) (by decide) dX7_truth_11 ?_
    refine p_callV (As := [.int 1]) (rest := []) (kX7_deny (O := O) (d := 0) (f := f) (n := n) (s := s) (ct_m := nI mc) (ct_d := nI dc) (ct_a := nI ac) (ct_f := nI dfn) (tday := nI td) (trb := tr) (flt := ft) (plc := pl) (x := 1) hS  (Nat.le_refl _)).call rfl lkX7_109 imX7_deny seX7_deny rfl hS rfl rfl (by omega) (Nat.le_of_ble_eq_true rfl) dX7_truth_12 (fun v9 G9 h9 => ?_) (fun q9 G9 h9 => (by cases h9.1))
    obtain ⟨h8, rfl⟩ := h9; cases h8
    show bV O _ d 15 [(3, .null), (0, .ref 32), (1, .int x), (2, .int v)] [.int 0] (bU f 32 (.inr (7, [.ref 33, .ref 38, .ref 40, .ref 41, .ref 42, .ref 43, .ref 44, .ref 45, .int (nI mc), .int (nI dc), .int (nI ac), .int (nI dfn), .int (nI td), .int 1, .int ft, .int pl])), n, s) _
    refine r_zreturn rfl (by first | decide +kernel | exact narZ _ | assumption) dX7_truth_15 ?_
    unfold s_truth
    try simp only []
    try (first | simp only [if_pos bA] | simp only [if_neg bA])
    exact pX_mk (by exact bU_s _ _ _) (hT.fr (fun q _ _ => (bU_n (by omega)).trans (rfl))) (hW.fr (fun q _ _ => (bU_n (by omega)).trans (rfl))) (hM.fr j1 (fun q _ => (bU_n (by omega)).trans (rfl))) (hD.fr j2 (fun q _ => (bU_n (by omega)).trans (rfl))) (hA.fr j3 (fun q _ => (bU_n (by omega)).trans (rfl))) (by exact ((bU_n (by decide)).trans (hI))) (by obtain ⟨tk8, h8⟩ := hC; exact ⟨tk8, (bU_n (by omega)).trans (h8)⟩) (by exact ((bU_n (by decide)).trans (hF))) (fun q _ => (bU_n (by omega)).trans (rfl)) (by omega) (by omega)
