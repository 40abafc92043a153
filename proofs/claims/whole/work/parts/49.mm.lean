/-! ===== the reference's calls (printed by wip/gen/mm.py) ===== -/
theorem jIn_t {v lo hi : Int32} (h : jIn v lo hi = true) : lo.toInt ≤ v.toInt ∧ v.toInt ≤ hi.toInt := by
  simp only [jIn, Bool.and_eq_true, Bool.not_eq_true', decide_eq_false_iff_not, Int32.lt_iff_toInt_lt] at h
  omega
theorem jIn_f {v lo hi : Int32} (h : jIn v lo hi = false) : v.toInt < lo.toInt ∨ hi.toInt < v.toInt := by
  by_cases c1 : v.toInt < lo.toInt
  · exact Or.inl c1
  · by_cases c2 : hi.toInt < v.toInt
    · exact Or.inr c2
    · rw [← Int32.lt_iff_toInt_lt] at c1 c2
      simp only [jIn, decide_eq_false c1, decide_eq_false c2] at h
      exact absurd h (by decide)
theorem jIn_k {k hi : Int32} {n : Nat} (h : jIn k 0 hi = true) (hh : hi.toInt + 1 = n) (hn : n < 1000000) : ∃ k9 : Nat, k9 < n ∧ k = nI k9 := by
  have h1 := jIn_t h
  have h0 : (0 : Int32).toInt = 0 := by decide
  refine ⟨k.toInt.toNat, by omega, ?_⟩
  apply Int32.toInt_inj.mp
  rw [nI_toInt (by omega)]
  omega
theorem jIn_kf {k hi : Int32} (h : jIn k 0 hi = false) : k < 0 ∨ (¬ k < 0 ∧ hi < k) := by
  by_cases c : k < 0
  · exact Or.inl c
  · refine Or.inr ⟨c, ?_⟩
    rcases jIn_f h with h1 | h1
    · exact absurd (Int32.lt_iff_toInt_lt.mpr h1) c
    · exact Int32.lt_iff_toInt_lt.mpr h1
theorem inB_ex {x : Int32} {n : Nat} (h : inB x n = true) : ∃ i : Nat, i < n ∧ x = nI i := ⟨cl x, inB_lt h, (nI_cl (inB_nn h)).symm⟩
theorem upd_pw {g g' : Nat → Int32} {n i : Nat} {v : Int32} (h : ∀ k, k < n → g k = g' k) : ∀ k, k < n → upd g i v k = upd g' i v k := by
  intro k hk
  by_cases e : k = i
  · subst e
    rw [pk_us, pk_us]
  · rw [pk_un e, pk_un e]
    exact h k hk
theorem upd_pw' {g g' : Nat → Int32} {n i : Nat} {v : Int32} (h : ∀ k, k ≤ n → g k = g' k) : ∀ k, k ≤ n → upd g i v k = upd g' i v k := by
  intro k hk
  by_cases e : k = i
  · subst e
    rw [pk_us, pk_us]
  · rw [pk_un e, pk_un e]
    exact h k hk
theorem vpx {x : Int32} {n N : Nat} (h : inB x n = true) (hn : n ≤ N) (hN : N < 2 ^ 31) : vp_in x N := vpk (inB_nn h) (by have := inB_lt h; rw [← nI_cl (inB_nn h)]; exact (nI_ltI (by omega) (by omega)).mpr (by omega)) hN
theorem lit_lt {k n : Nat} {z : Int32} (hz : nI n = z) (h : k < n) (hn : n < 2 ^ 31) : nI k < z := by rw [← hz]; exact (nI_ltI (by omega) hn).mpr h
theorem lit_le {k n : Nat} {z : Int32} (hz : nI n = z) (h : k ≤ n) (hn : n < 2 ^ 31) : nI k ≤ z := by rw [← hz]; exact (nI_leI (by omega) hn).mpr h
theorem lit_nle {k n : Nat} {z : Int32} (hz : nI n = z) (h : k < n) (hn : n < 2 ^ 31) : ¬ z ≤ nI k := by
  rw [← hz]
  intro h9
  have := (nI_leI hn (by omega)).mp h9
  omega
theorem NS_mk {f : bF} {mc dc ac dfn td tl : Nat} {hs : Bool} {tr ft pl wh : Int32} {th_ : Int32} {sz_ : Int32} {at_ : Int32} {so_ : Int32} {pl_ : Int32} {mk_ : Int32} {nu_ : Int32} {di_ : Int32} {br_ : Int32} {iff_ : Int32} {wo_ : Int64} (h : f 50 = some (.inr (11, [.int th_, .int tr, .int wh, .int ft, .int (nI mc), .ref 51, .ref (nA mc), .ref 53, .ref 54, .int (nI tl), .int sz_, .int at_, .int so_, .int pl_, .int mk_, .int nu_, .int di_, .int br_, .int iff_, .long wo_, .ref 55, .ref 56, .int (nI dc), .int (nI td), .ref 57, .int (nI ac), .ref 58, .ref 59, .ref 60, .ref 61, .ref 62, .ref 63, .int (bI hs), .ref 64, .int (nI dfn)]))) (hw : wh = if tr = 4 then pl else -1) : NS f mc dc ac dfn td tl hs tr ft pl := by
  subst hw
  exact ⟨_, _, _, _, _, _, _, _, _, _, _, h⟩
theorem inB_ne2 {x : Int32} {n : Nat} (h : inB x n = true) : ¬ x = -2 := fun e => by
  subst e
  exact inB_nn h (by decide)
theorem kpt {kp aq bc br tu : Nat → Int32} {i w : Nat} {r : AR} (h : NA1 kp aq bc br tu i r) (hw : w < 6) : kp (6 * i + w) = (if nI w = 0 then a_do r else if nI w = 1 then a_ke r else if nI w = 2 then a_da r else if nI w = 3 then a_gv r else if nI w = 4 then a_ch r else if nI w = 5 then a_rv r else -1) := by
  obtain ⟨h0, h1, h2, h3, h4, h5, -⟩ := h
  rcases (show w = 0 ∨ w = 1 ∨ w = 2 ∨ w = 3 ∨ w = 4 ∨ w = 5 by omega) with rfl | rfl | rfl | rfl | rfl | rfl
  · rw [if_pos (by decide)]; exact h0
  · rw [if_neg (by decide), if_pos (by decide)]; exact h1
  · rw [if_neg (by decide), if_neg (by decide), if_pos (by decide)]; exact h2
  · rw [if_neg (by decide), if_neg (by decide), if_neg (by decide), if_pos (by decide)]; exact h3
  · rw [if_neg (by decide), if_neg (by decide), if_neg (by decide), if_neg (by decide), if_pos (by decide)]; exact h4
  · rw [if_neg (by decide), if_neg (by decide), if_neg (by decide), if_neg (by decide), if_neg (by decide), if_pos (by decide)]; exact h5
theorem sdt {g sd : Nat → Int32} {w : Nat} (h0 : g 0 = sd 0) (h1 : g 1 = sd 1) (h2 : g 2 = sd 2) (h3 : g 3 = sd 3) (h4 : g 4 = bI (sSure (sd 1) (sd 2))) (hw : w < 5) : g w = (if nI w = 0 then sd 0 else if nI w = 1 then sd 1 else if nI w = 2 then sd 2 else if nI w = 3 then sd 3 else if nI w = 4 then bI (sSure (sd 1) (sd 2)) else -1) := by
  rcases (show w = 0 ∨ w = 1 ∨ w = 2 ∨ w = 3 ∨ w = 4 by omega) with rfl | rfl | rfl | rfl | rfl
  · rw [if_pos (by decide)]; exact h0
  · rw [if_neg (by decide), if_pos (by decide)]; exact h1
  · rw [if_neg (by decide), if_neg (by decide), if_pos (by decide)]; exact h2
  · rw [if_neg (by decide), if_neg (by decide), if_neg (by decide), if_pos (by decide)]; exact h3
  · rw [if_neg (by decide), if_neg (by decide), if_neg (by decide), if_neg (by decide), if_pos (by decide)]; exact h4
theorem ansG {kp aq bc br tu : Nat → Int32} {i : Nat} {r : AR} (h : NA1 kp aq bc br tu i r) (hj : AJ r) : (if kp (6 * i + 3) = kp (6 * i + 4) then bc i else br i) = a_gn r := by
  obtain ⟨-, -, -, h3, h4, -, -, h7, h8, -⟩ := h
  rw [h3, h4, h7, h8]
  exact hj.1.symm
theorem NA_truth {kp aq bc br tu : Nat → Int32} {ac i : Nat} {an : Nat → AR} {v : Int32} (h : ∀ j, j < ac → NA1 kp aq bc br tu j (an j)) : ∀ j, j < ac → NA1 kp aq bc br (upd tu i v) j (up1 an i (a_do (an i), a_ke (an i), a_da (an i), a_gv (an i), a_ch (an i), a_rv (an i), a_gn (an i), a_ct (an i), a_rt (an i), v, a_in (an i)) j) := by
  intro j hj
  by_cases e : j = i
  · subst e
    rw [up1_s]
    obtain ⟨h0, h1, h2, h3, h4, h5, h6, h7, h8, -⟩ := h j hj
    exact ⟨h0, h1, h2, h3, h4, h5, h6, h7, h8, pk_us⟩
  · rw [up1_n e]
    obtain ⟨h0, h1, h2, h3, h4, h5, h6, h7, h8, h9⟩ := h j hj
    exact ⟨h0, h1, h2, h3, h4, h5, h6, h7, h8, by rw [pk_un e]; exact h9⟩
theorem jBin_t {k b : Nat} (hk : k < 6) (hb : b < 4) : jBin (nI k) (nI b) = true := by
  unfold jBin
  rw [decide_eq_false (nI_pos (n := k) (by omega)), decide_eq_false (nI_pos (n := b) (by omega)), decide_eq_false (lit_nle (z := 6) (n := 6) rfl hk (by decide)), decide_eq_false (lit_nle (z := 4) (n := 4) rfl hb (by decide))]
  rfl
theorem jBin_f1 {k b : Int32} (h : jIn k 0 5 = false) : jBin k b = false := by
  have h5 : (5 : Int32).toInt = 5 := by decide
  have h6 : (6 : Int32).toInt = 6 := by decide
  unfold jBin
  rcases jIn_kf h with a | ⟨a, c⟩
  · rw [decide_eq_true a]; rfl
  · rw [decide_eq_true (show 6 ≤ k by rw [Int32.le_iff_toInt_le]; rw [Int32.lt_iff_toInt_lt] at c; omega)]
    simp
theorem jBin_f2 {k b : Int32} (h : jIn b 0 3 = false) : jBin k b = false := by
  have h5 : (3 : Int32).toInt = 3 := by decide
  have h6 : (4 : Int32).toInt = 4 := by decide
  unfold jBin
  rcases jIn_kf h with a | ⟨a, c⟩
  · rw [decide_eq_true a]; simp
  · rw [decide_eq_true (show 4 ≤ b by rw [Int32.le_iff_toInt_le]; rw [Int32.lt_iff_toInt_lt] at c; omega)]
    simp
set_option maxRecDepth 4000 in
theorem kX11_answered {O : bO} {d : Nat} {f : bF} {n s : Nat} {th_ : Int32} {tr_ : Int32} {wh_ : Int32} {fl_ : Int32} {nm_ : Int32} {q_ : Nat} {tp_ : Int32} {sz_ : Int32} {at_ : Int32} {so_ : Int32} {pl_ : Int32} {mk_ : Int32} {nu_ : Int32} {di_ : Int32} {br_ : Int32} {iff_ : Int32} {wo_ : Int64} {nd_ : Int32} {td_ : Int32} {na_ : Int32} {hs_ : Int32} {nf_ : Int32} {i : Nat} {kp : Nat → Int32} {bc : Nat → Int32} {br : Nat → Int32} (h0 : f 50 = some (.inr (11, [.int th_, .int tr_, .int wh_, .int fl_, .int nm_, .ref 51, .ref q_, .ref 53, .ref 54, .int tp_, .int sz_, .int at_, .int so_, .int pl_, .int mk_, .int nu_, .int di_, .int br_, .int iff_, .long wo_, .ref 55, .ref 56, .int nd_, .int td_, .ref 57, .int na_, .ref 58, .ref 59, .ref 60, .ref 61, .ref 62, .ref 63, .int hs_, .ref 64, .int nf_]))) (h1 : f 58 = some (.inl (0, 1200, .inl kp))) (h2 : f 60 = some (.inl (0, 200, .inl bc))) (h3 : f 61 = some (.inl (0, 200, .inl br))) (e0 : i < 200) (hd : 0 ≤ d) : bMt O mX11_answered d [.ref 50, .int (nI i)] (f, n, s) (.inl (some (.int (if kp (6 * i + 3) = kp (6 * i + 4) then bc i else br i)))) (f, n, s) := by
  refine bMt_of (bCall_of (by decide) rfl (Nat.le_of_ble_eq_true rfl) ?_)
  show bV O _ d 0 [(0, .ref 50), (1, .int (nI i))] [] (f, n, s) _
  refine r_aload_n (n := 0) (i := 0) 0 rfl rfl dX11_answered_0 ?_
  refine p_get (fs := [.int th_, .int tr_, .int wh_, .int fl_, .int nm_, .ref 51, .ref q_, .ref 53, .ref 54, .int tp_, .int sz_, .int at_, .int so_, .int pl_, .int mk_, .int nu_, .int di_, .int br_, .int iff_, .long wo_, .ref 55, .ref 56, .int nd_, .int td_, .ref 57, .int na_, .ref 58, .ref 59, .ref 60, .ref 61, .ref 62, .ref 63, .int hs_, .ref 64, .int nf_]) flX11_50 h0 rfl dX11_answered_1 ?_
  refine r_bipush (v := 6) (by decide) dX11_answered_4 ?_
  refine r_iload_n (n := 1) (i := 1) 1 rfl rfl dX11_answered_6 ?_
  refine r_imulE (v := nI (6 * i)) (pk_mul 6 i) dX11_answered_7 ?_
  refine r_iconst (v := 3) (by decide) dX11_answered_8 ?_
  refine r_iaddE (v := nI (6 * i + 3)) (nI_add (6 * i) 3) dX11_answered_9 ?_
  refine p_ialdN (t := 6 * i + 3) h1 (by omega) (by omega) dX11_answered_10 ?_
  refine r_aload_n (n := 0) (i := 0) 0 rfl rfl dX11_answered_11 ?_
  refine p_get (fs := [.int th_, .int tr_, .int wh_, .int fl_, .int nm_, .ref 51, .ref q_, .ref 53, .ref 54, .int tp_, .int sz_, .int at_, .int so_, .int pl_, .int mk_, .int nu_, .int di_, .int br_, .int iff_, .long wo_, .ref 55, .ref 56, .int nd_, .int td_, .ref 57, .int na_, .ref 58, .ref 59, .ref 60, .ref 61, .ref 62, .ref 63, .int hs_, .ref 64, .int nf_]) flX11_50 h0 rfl dX11_answered_12 ?_
  refine r_bipush (v := 6) (by decide) dX11_answered_15 ?_
  refine r_iload_n (n := 1) (i := 1) 1 rfl rfl dX11_answered_17 ?_
  refine r_imulE (v := nI (6 * i)) (pk_mul 6 i) dX11_answered_18 ?_
  refine r_iconst (v := 4) (by decide) dX11_answered_19 ?_
  refine r_iaddE (v := nI (6 * i + 4)) (nI_add (6 * i) 4) dX11_answered_20 ?_
  refine p_ialdN (t := 6 * i + 4) h1 (by omega) (by omega) dX11_answered_21 ?_
  refine r_icmp_ne (tgt := 34) (by decide) dX11_answered_22 (fun c22 => ?_) (fun c22 => ?_)
  · refine r_aload_n (n := 0) (i := 0) 0 rfl rfl dX11_answered_34 ?_
    refine p_get (fs := [.int th_, .int tr_, .int wh_, .int fl_, .int nm_, .ref 51, .ref q_, .ref 53, .ref 54, .int tp_, .int sz_, .int at_, .int so_, .int pl_, .int mk_, .int nu_, .int di_, .int br_, .int iff_, .long wo_, .ref 55, .ref 56, .int nd_, .int td_, .ref 57, .int na_, .ref 58, .ref 59, .ref 60, .ref 61, .ref 62, .ref 63, .int hs_, .ref 64, .int nf_]) flX11_59 h0 rfl dX11_answered_35 ?_
    refine r_iload_n (n := 1) (i := 1) 1 rfl rfl dX11_answered_38 ?_
    refine p_ialdN (t := i) h3 (by omega) (by omega) dX11_answered_39 ?_
    refine r_ireturn rfl dX11_answered_40 ?_
    refine ⟨?_, rfl⟩
    first | rw [if_pos c22] | rw [if_neg c22]
  · refine r_aload_n (n := 0) (i := 0) 0 rfl rfl dX11_answered_25 ?_
    refine p_get (fs := [.int th_, .int tr_, .int wh_, .int fl_, .int nm_, .ref 51, .ref q_, .ref 53, .ref 54, .int tp_, .int sz_, .int at_, .int so_, .int pl_, .int mk_, .int nu_, .int di_, .int br_, .int iff_, .long wo_, .ref 55, .ref 56, .int nd_, .int td_, .ref 57, .int na_, .ref 58, .ref 59, .ref 60, .ref 61, .ref 62, .ref 63, .int hs_, .ref 64, .int nf_]) flX11_56 h0 rfl dX11_answered_26 ?_
    refine r_iload_n (n := 1) (i := 1) 1 rfl rfl dX11_answered_29 ?_
    refine p_ialdN (t := i) h2 (by omega) (by omega) dX11_answered_30 ?_
    refine r_goto (tgt := 40) (by decide) dX11_answered_31 ?_
    refine r_ireturn rfl dX11_answered_40 ?_
    refine ⟨?_, rfl⟩
    first | rw [if_pos c22] | rw [if_neg c22]
set_option maxRecDepth 4000 in
theorem m_fault {O : bO} {d : Nat} {f : bF} {n s : Nat} {bs : Nat → Int32} {tl : Nat} {mc : Nat} {md : Nat → MR} {ip : Nat → Int32} {dc : Nat} {dr : Nat → DR} {ac : Nat} {an : Nat → AR} {hs : Bool} {sd : Nat → Int32} {df : Nat → Int32} {dfn : Nat} {td : Nat} {tr : Int32} {ft : Int32} {pl : Int32}  (hX : MP f (bs, tl, mc, md, ip, dc, dr, ac, an, hs, sd, df, dfn, td, tr, ft, pl)) (jX : JJ (bs, tl, mc, md, ip, dc, dr, ac, an, hs, sd, df, dfn, td, tr, ft, pl))  (hd : 0 ≤ d) : bCall O mX11_fault d [.ref 50] (f, n, s) (pM f n s 0 0 (s_fault (bs, tl, mc, md, ip, dc, dr, ac, an, hs, sd, df, dfn, td, tr, ft, pl) )) := by
  refine bCall_of (by decide) rfl (Nat.le_of_ble_eq_true rfl) ?_
  obtain ⟨hNS, hT, hM, hI, hP, hD, hA, hC, hF⟩ := id hX
  simp only [] at hNS hT hM hI hP hD hA hC hF
  obtain ⟨j1, j2, j3, j4, j5, j6, j7, j8, j9, j10⟩ := id jX
  simp only [] at j1 j2 j3 j4 j5 j6 j7 j8 j9 j10
  obtain ⟨th_, sz_, at_, so_, pl_, mk_, nu_, di_, br_, iff_, wo_, hO⟩ := id hNS
  obtain ⟨tg9, kd9, sp9, h53, h54, hTb⟩ := id hT
  obtain ⟨ig9, h55, hIp⟩ := id hI
  obtain ⟨pg9, h56⟩ := id hP
  obtain ⟨kp9, aq9, bc9, br9, tu9, h58, h59, h60, h61, h62, hAp⟩ := id hA
  obtain ⟨sg9, h63, hC0, hC1, hC2, hC3, hC4⟩ := id hC
  obtain ⟨dg9, h64, hFp⟩ := id hF
  have bN := nA_b (i := mc) j1
  show bV O _ d 0 [(0, .ref 50)] [] (f, n, s) _
  refine r_aload_n (n := 0) (i := 0) 0 rfl rfl dX11_fault_0 ?_
  refine r_iconst (v := 0) (by decide) dX11_fault_1 ?_
  refine p_put (fs := [.int th_, .int tr, .int (if tr = 4 then pl else -1), .int ft, .int (nI mc), .ref 51, .ref (nA mc), .ref 53, .ref 54, .int (nI tl), .int sz_, .int at_, .int so_, .int pl_, .int mk_, .int nu_, .int di_, .int br_, .int iff_, .long wo_, .ref 55, .ref 56, .int (nI dc), .int (nI td), .ref 57, .int (nI ac), .ref 58, .ref 59, .ref 60, .ref 61, .ref 62, .ref 63, .int (bI hs), .ref 64, .int (nI dfn)]) (fs' := [.int 0, .int tr, .int (if tr = 4 then pl else -1), .int ft, .int (nI mc), .ref 51, .ref (nA mc), .ref 53, .ref 54, .int (nI tl), .int sz_, .int at_, .int so_, .int pl_, .int mk_, .int nu_, .int di_, .int br_, .int iff_, .long wo_, .ref 55, .ref 56, .int (nI dc), .int (nI td), .ref 57, .int (nI ac), .ref 58, .ref 59, .ref 60, .ref 61, .ref 62, .ref 63, .int (bI hs), .ref 64, .int (nI dfn)]) flX11_71 hO (Nat.le_of_ble_eq_true rfl) (bNf_i _) rfl dX11_fault_2 ?_
  refine r_aload_n (n := 0) (i := 0) 0 rfl rfl dX11_fault_5 ?_
  refine p_get (fs := [.int 0, .int tr, .int (if tr = 4 then pl else -1), .int ft, .int (nI mc), .ref 51, .ref (nA mc), .ref 53, .ref 54, .int (nI tl), .int sz_, .int at_, .int so_, .int pl_, .int mk_, .int nu_, .int di_, .int br_, .int iff_, .long wo_, .ref 55, .ref 56, .int (nI dc), .int (nI td), .ref 57, .int (nI ac), .ref 58, .ref 59, .ref 60, .ref 61, .ref 62, .ref 63, .int (bI hs), .ref 64, .int (nI dfn)]) flX11_213 (by exact bU_s _ _ _) rfl dX11_fault_6 ?_
  refine r_ireturn rfl dX11_fault_9 ?_
  all_goals (unfold s_fault; try simp only [])
  all_goals exact pM_mk (NS_mk (by exact bU_s _ _ _) (by first | rfl | exact (if_neg (by decide)).symm | exact (if_pos rfl).symm)) (hT.fr (fun q _ _ => (bU_n (by omega)).trans (rfl))) (hM.fr j1 (fun q _ => (bU_n (by omega)).trans (rfl))) (hI.fr ((bU_n (by decide)).trans (rfl))) (hP.fr ((bU_n (by decide)).trans (rfl))) (hD.fr j2 (fun q _ => (bU_n (by omega)).trans (rfl))) (hA.fr (fun q _ _ => (bU_n (by omega)).trans (rfl))) (hC.fr ((bU_n (by decide)).trans (rfl))) (hF.fr ((bU_n (by decide)).trans (rfl))) (fun q _ => (bU_n (by omega)).trans (rfl)) (by omega) (by omega)
set_option maxRecDepth 4000 in
theorem m_where {O : bO} {d : Nat} {f : bF} {n s : Nat} {bs : Nat → Int32} {tl : Nat} {mc : Nat} {md : Nat → MR} {ip : Nat → Int32} {dc : Nat} {dr : Nat → DR} {ac : Nat} {an : Nat → AR} {hs : Bool} {sd : Nat → Int32} {df : Nat → Int32} {dfn : Nat} {td : Nat} {tr : Int32} {ft : Int32} {pl : Int32}  (hX : MP f (bs, tl, mc, md, ip, dc, dr, ac, an, hs, sd, df, dfn, td, tr, ft, pl)) (jX : JJ (bs, tl, mc, md, ip, dc, dr, ac, an, hs, sd, df, dfn, td, tr, ft, pl))  (hd : 0 ≤ d) : bCall O mX11_where d [.ref 50] (f, n, s) (pM f n s 0 0 (s_where (bs, tl, mc, md, ip, dc, dr, ac, an, hs, sd, df, dfn, td, tr, ft, pl) )) := by
  refine bCall_of (by decide) rfl (Nat.le_of_ble_eq_true rfl) ?_
  obtain ⟨hNS, hT, hM, hI, hP, hD, hA, hC, hF⟩ := id hX
  simp only [] at hNS hT hM hI hP hD hA hC hF
  obtain ⟨j1, j2, j3, j4, j5, j6, j7, j8, j9, j10⟩ := id jX
  simp only [] at j1 j2 j3 j4 j5 j6 j7 j8 j9 j10
  obtain ⟨th_, sz_, at_, so_, pl_, mk_, nu_, di_, br_, iff_, wo_, hO⟩ := id hNS
  obtain ⟨tg9, kd9, sp9, h53, h54, hTb⟩ := id hT
  obtain ⟨ig9, h55, hIp⟩ := id hI
  obtain ⟨pg9, h56⟩ := id hP
  obtain ⟨kp9, aq9, bc9, br9, tu9, h58, h59, h60, h61, h62, hAp⟩ := id hA
  obtain ⟨sg9, h63, hC0, hC1, hC2, hC3, hC4⟩ := id hC
  obtain ⟨dg9, h64, hFp⟩ := id hF
  have bN := nA_b (i := mc) j1
  show bV O _ d 0 [(0, .ref 50)] [] (f, n, s) _
  refine r_aload_n (n := 0) (i := 0) 0 rfl rfl dX11_where_0 ?_
  refine r_iconst (v := 0) (by decide) dX11_where_1 ?_
  refine p_put (fs := [.int th_, .int tr, .int (if tr = 4 then pl else -1), .int ft, .int (nI mc), .ref 51, .ref (nA mc), .ref 53, .ref 54, .int (nI tl), .int sz_, .int at_, .int so_, .int pl_, .int mk_, .int nu_, .int di_, .int br_, .int iff_, .long wo_, .ref 55, .ref 56, .int (nI dc), .int (nI td), .ref 57, .int (nI ac), .ref 58, .ref 59, .ref 60, .ref 61, .ref 62, .ref 63, .int (bI hs), .ref 64, .int (nI dfn)]) (fs' := [.int 0, .int tr, .int (if tr = 4 then pl else -1), .int ft, .int (nI mc), .ref 51, .ref (nA mc), .ref 53, .ref 54, .int (nI tl), .int sz_, .int at_, .int so_, .int pl_, .int mk_, .int nu_, .int di_, .int br_, .int iff_, .long wo_, .ref 55, .ref 56, .int (nI dc), .int (nI td), .ref 57, .int (nI ac), .ref 58, .ref 59, .ref 60, .ref 61, .ref 62, .ref 63, .int (bI hs), .ref 64, .int (nI dfn)]) flX11_71 hO (Nat.le_of_ble_eq_true rfl) (bNf_i _) rfl dX11_where_2 ?_
  refine r_aload_n (n := 0) (i := 0) 0 rfl rfl dX11_where_5 ?_
  refine p_get (fs := [.int 0, .int tr, .int (if tr = 4 then pl else -1), .int ft, .int (nI mc), .ref 51, .ref (nA mc), .ref 53, .ref 54, .int (nI tl), .int sz_, .int at_, .int so_, .int pl_, .int mk_, .int nu_, .int di_, .int br_, .int iff_, .long wo_, .ref 55, .ref 56, .int (nI dc), .int (nI td), .ref 57, .int (nI ac), .ref 58, .ref 59, .ref 60, .ref 61, .ref 62, .ref 63, .int (bI hs), .ref 64, .int (nI dfn)]) flX11_11 (by exact bU_s _ _ _) rfl dX11_where_6 ?_
  refine r_ireturn rfl dX11_where_9 ?_
  all_goals (unfold s_where; try simp only [])
  all_goals exact pM_mk (NS_mk (by exact bU_s _ _ _) (by first | rfl | exact (if_neg (by decide)).symm | exact (if_pos rfl).symm)) (hT.fr (fun q _ _ => (bU_n (by omega)).trans (rfl))) (hM.fr j1 (fun q _ => (bU_n (by omega)).trans (rfl))) (hI.fr ((bU_n (by decide)).trans (rfl))) (hP.fr ((bU_n (by decide)).trans (rfl))) (hD.fr j2 (fun q _ => (bU_n (by omega)).trans (rfl))) (hA.fr (fun q _ _ => (bU_n (by omega)).trans (rfl))) (hC.fr ((bU_n (by decide)).trans (rfl))) (hF.fr ((bU_n (by decide)).trans (rfl))) (fun q _ => (bU_n (by omega)).trans (rfl)) (by omega) (by omega)
set_option maxRecDepth 4000 in
theorem m_trouble {O : bO} {d : Nat} {f : bF} {n s : Nat} {bs : Nat → Int32} {tl : Nat} {mc : Nat} {md : Nat → MR} {ip : Nat → Int32} {dc : Nat} {dr : Nat → DR} {ac : Nat} {an : Nat → AR} {hs : Bool} {sd : Nat → Int32} {df : Nat → Int32} {dfn : Nat} {td : Nat} {tr : Int32} {ft : Int32} {pl : Int32}  (hX : MP f (bs, tl, mc, md, ip, dc, dr, ac, an, hs, sd, df, dfn, td, tr, ft, pl)) (jX : JJ (bs, tl, mc, md, ip, dc, dr, ac, an, hs, sd, df, dfn, td, tr, ft, pl))  (hd : 0 ≤ d) : bCall O mX11_trouble d [.ref 50] (f, n, s) (pM f n s 0 0 (s_trouble (bs, tl, mc, md, ip, dc, dr, ac, an, hs, sd, df, dfn, td, tr, ft, pl) )) := by
  refine bCall_of (by decide) rfl (Nat.le_of_ble_eq_true rfl) ?_
  obtain ⟨hNS, hT, hM, hI, hP, hD, hA, hC, hF⟩ := id hX
  simp only [] at hNS hT hM hI hP hD hA hC hF
  obtain ⟨j1, j2, j3, j4, j5, j6, j7, j8, j9, j10⟩ := id jX
  simp only [] at j1 j2 j3 j4 j5 j6 j7 j8 j9 j10
  obtain ⟨th_, sz_, at_, so_, pl_, mk_, nu_, di_, br_, iff_, wo_, hO⟩ := id hNS
  obtain ⟨tg9, kd9, sp9, h53, h54, hTb⟩ := id hT
  obtain ⟨ig9, h55, hIp⟩ := id hI
  obtain ⟨pg9, h56⟩ := id hP
  obtain ⟨kp9, aq9, bc9, br9, tu9, h58, h59, h60, h61, h62, hAp⟩ := id hA
  obtain ⟨sg9, h63, hC0, hC1, hC2, hC3, hC4⟩ := id hC
  obtain ⟨dg9, h64, hFp⟩ := id hF
  have bN := nA_b (i := mc) j1
  show bV O _ d 0 [(0, .ref 50)] [] (f, n, s) _
  refine r_aload_n (n := 0) (i := 0) 0 rfl rfl dX11_trouble_0 ?_
  refine r_iconst (v := 0) (by decide) dX11_trouble_1 ?_
  refine p_put (fs := [.int th_, .int tr, .int (if tr = 4 then pl else -1), .int ft, .int (nI mc), .ref 51, .ref (nA mc), .ref 53, .ref 54, .int (nI tl), .int sz_, .int at_, .int so_, .int pl_, .int mk_, .int nu_, .int di_, .int br_, .int iff_, .long wo_, .ref 55, .ref 56, .int (nI dc), .int (nI td), .ref 57, .int (nI ac), .ref 58, .ref 59, .ref 60, .ref 61, .ref 62, .ref 63, .int (bI hs), .ref 64, .int (nI dfn)]) (fs' := [.int 0, .int tr, .int (if tr = 4 then pl else -1), .int ft, .int (nI mc), .ref 51, .ref (nA mc), .ref 53, .ref 54, .int (nI tl), .int sz_, .int at_, .int so_, .int pl_, .int mk_, .int nu_, .int di_, .int br_, .int iff_, .long wo_, .ref 55, .ref 56, .int (nI dc), .int (nI td), .ref 57, .int (nI ac), .ref 58, .ref 59, .ref 60, .ref 61, .ref 62, .ref 63, .int (bI hs), .ref 64, .int (nI dfn)]) flX11_71 hO (Nat.le_of_ble_eq_true rfl) (bNf_i _) rfl dX11_trouble_2 ?_
  refine r_aload_n (n := 0) (i := 0) 0 rfl rfl dX11_trouble_5 ?_
  refine p_get (fs := [.int 0, .int tr, .int (if tr = 4 then pl else -1), .int ft, .int (nI mc), .ref 51, .ref (nA mc), .ref 53, .ref 54, .int (nI tl), .int sz_, .int at_, .int so_, .int pl_, .int mk_, .int nu_, .int di_, .int br_, .int iff_, .long wo_, .ref 55, .ref 56, .int (nI dc), .int (nI td), .ref 57, .int (nI ac), .ref 58, .ref 59, .ref 60, .ref 61, .ref 62, .ref 63, .int (bI hs), .ref 64, .int (nI dfn)]) flX11_74 (by exact bU_s _ _ _) rfl dX11_trouble_6 ?_
  refine r_ireturn rfl dX11_trouble_9 ?_
  all_goals (unfold s_trouble; try simp only [])
  all_goals exact pM_mk (NS_mk (by exact bU_s _ _ _) (by first | rfl | exact (if_neg (by decide)).symm | exact (if_pos rfl).symm)) (hT.fr (fun q _ _ => (bU_n (by omega)).trans (rfl))) (hM.fr j1 (fun q _ => (bU_n (by omega)).trans (rfl))) (hI.fr ((bU_n (by decide)).trans (rfl))) (hP.fr ((bU_n (by decide)).trans (rfl))) (hD.fr j2 (fun q _ => (bU_n (by omega)).trans (rfl))) (hA.fr (fun q _ _ => (bU_n (by omega)).trans (rfl))) (hC.fr ((bU_n (by decide)).trans (rfl))) (hF.fr ((bU_n (by decide)).trans (rfl))) (fun q _ => (bU_n (by omega)).trans (rfl)) (by omega) (by omega)
set_option maxRecDepth 4000 in
theorem m_count {O : bO} {d : Nat} {f : bF} {n s : Nat} {bs : Nat → Int32} {tl : Nat} {mc : Nat} {md : Nat → MR} {ip : Nat → Int32} {dc : Nat} {dr : Nat → DR} {ac : Nat} {an : Nat → AR} {hs : Bool} {sd : Nat → Int32} {df : Nat → Int32} {dfn : Nat} {td : Nat} {tr : Int32} {ft : Int32} {pl : Int32} {w : Int32} (hX : MP f (bs, tl, mc, md, ip, dc, dr, ac, an, hs, sd, df, dfn, td, tr, ft, pl)) (jX : JJ (bs, tl, mc, md, ip, dc, dr, ac, an, hs, sd, df, dfn, td, tr, ft, pl))  (hd : 0 ≤ d) : bCall O mX11_count d [.ref 50, .int w] (f, n, s) (pM f n s 0 0 (s_count (bs, tl, mc, md, ip, dc, dr, ac, an, hs, sd, df, dfn, td, tr, ft, pl) w)) := by
  refine bCall_of (by decide) rfl (Nat.le_of_ble_eq_true rfl) ?_
  obtain ⟨hNS, hT, hM, hI, hP, hD, hA, hC, hF⟩ := id hX
  simp only [] at hNS hT hM hI hP hD hA hC hF
  obtain ⟨j1, j2, j3, j4, j5, j6, j7, j8, j9, j10⟩ := id jX
  simp only [] at j1 j2 j3 j4 j5 j6 j7 j8 j9 j10
  obtain ⟨th_, sz_, at_, so_, pl_, mk_, nu_, di_, br_, iff_, wo_, hO⟩ := id hNS
  obtain ⟨tg9, kd9, sp9, h53, h54, hTb⟩ := id hT
  obtain ⟨ig9, h55, hIp⟩ := id hI
  obtain ⟨pg9, h56⟩ := id hP
  obtain ⟨kp9, aq9, bc9, br9, tu9, h58, h59, h60, h61, h62, hAp⟩ := id hA
  obtain ⟨sg9, h63, hC0, hC1, hC2, hC3, hC4⟩ := id hC
  obtain ⟨dg9, h64, hFp⟩ := id hF
  have bN := nA_b (i := mc) j1
  show bV O _ d 0 [(0, .ref 50), (1, .int w)] [] (f, n, s) _
  refine r_aload_n (n := 0) (i := 0) 0 rfl rfl dX11_count_0 ?_
  refine r_iconst (v := 0) (by decide) dX11_count_1 ?_
  refine p_put (fs := [.int th_, .int tr, .int (if tr = 4 then pl else -1), .int ft, .int (nI mc), .ref 51, .ref (nA mc), .ref 53, .ref 54, .int (nI tl), .int sz_, .int at_, .int so_, .int pl_, .int mk_, .int nu_, .int di_, .int br_, .int iff_, .long wo_, .ref 55, .ref 56, .int (nI dc), .int (nI td), .ref 57, .int (nI ac), .ref 58, .ref 59, .ref 60, .ref 61, .ref 62, .ref 63, .int (bI hs), .ref 64, .int (nI dfn)]) (fs' := [.int 0, .int tr, .int (if tr = 4 then pl else -1), .int ft, .int (nI mc), .ref 51, .ref (nA mc), .ref 53, .ref 54, .int (nI tl), .int sz_, .int at_, .int so_, .int pl_, .int mk_, .int nu_, .int di_, .int br_, .int iff_, .long wo_, .ref 55, .ref 56, .int (nI dc), .int (nI td), .ref 57, .int (nI ac), .ref 58, .ref 59, .ref 60, .ref 61, .ref 62, .ref 63, .int (bI hs), .ref 64, .int (nI dfn)]) flX11_71 hO (Nat.le_of_ble_eq_true rfl) (bNf_i _) rfl dX11_count_2 ?_
  refine r_iload_n (n := 1) (i := 1) 1 rfl rfl dX11_count_5 ?_
  by_cases q6_0 : w = 0
  · refine r_tableIn (off := 34) (tgt := 40) dX11_count_6 (by rw [q6_0]; decide) (by rw [q6_0]; decide) (by rw [q6_0]; decide) (by decide) ?_
    refine r_aload_n (n := 0) (i := 0) 0 rfl rfl dX11_count_40 ?_
    refine p_get (fs := [.int 0, .int tr, .int (if tr = 4 then pl else -1), .int ft, .int (nI mc), .ref 51, .ref (nA mc), .ref 53, .ref 54, .int (nI tl), .int sz_, .int at_, .int so_, .int pl_, .int mk_, .int nu_, .int di_, .int br_, .int iff_, .long wo_, .ref 55, .ref 56, .int (nI dc), .int (nI td), .ref 57, .int (nI ac), .ref 58, .ref 59, .ref 60, .ref 61, .ref 62, .ref 63, .int (bI hs), .ref 64, .int (nI dfn)]) flX11_219 (by exact bU_s _ _ _) rfl dX11_count_41 ?_
    refine r_ireturn rfl dX11_count_44 ?_
    all_goals (unfold s_count; try simp only [])
    all_goals try (first | simp only [if_pos q6_0] | simp only [if_neg q6_0] | simp only [if_neg (Bool.eq_false_iff.mp q6_0)])
    all_goals exact pM_mk (NS_mk (by exact bU_s _ _ _) (by first | rfl | exact (if_neg (by decide)).symm | exact (if_pos rfl).symm)) (hT.fr (fun q _ _ => (bU_n (by omega)).trans (rfl))) (hM.fr j1 (fun q _ => (bU_n (by omega)).trans (rfl))) (hI.fr ((bU_n (by decide)).trans (rfl))) (hP.fr ((bU_n (by decide)).trans (rfl))) (hD.fr j2 (fun q _ => (bU_n (by omega)).trans (rfl))) (hA.fr (fun q _ _ => (bU_n (by omega)).trans (rfl))) (hC.fr ((bU_n (by decide)).trans (rfl))) (hF.fr ((bU_n (by decide)).trans (rfl))) (fun q _ => (bU_n (by omega)).trans (rfl)) (by omega) (by omega)
  · by_cases q6_1 : w = 1
    · refine r_tableIn (off := 39) (tgt := 45) dX11_count_6 (by rw [q6_1]; decide) (by rw [q6_1]; decide) (by rw [q6_1]; decide) (by decide) ?_
      refine r_aload_n (n := 0) (i := 0) 0 rfl rfl dX11_count_45 ?_
      refine p_get (fs := [.int 0, .int tr, .int (if tr = 4 then pl else -1), .int ft, .int (nI mc), .ref 51, .ref (nA mc), .ref 53, .ref 54, .int (nI tl), .int sz_, .int at_, .int so_, .int pl_, .int mk_, .int nu_, .int di_, .int br_, .int iff_, .long wo_, .ref 55, .ref 56, .int (nI dc), .int (nI td), .ref 57, .int (nI ac), .ref 58, .ref 59, .ref 60, .ref 61, .ref 62, .ref 63, .int (bI hs), .ref 64, .int (nI dfn)]) flX11_267 (by exact bU_s _ _ _) rfl dX11_count_46 ?_
      refine r_ireturn rfl dX11_count_49 ?_
      all_goals (unfold s_count; try simp only [])
      all_goals try (first | simp only [if_pos q6_0] | simp only [if_neg q6_0] | simp only [if_neg (Bool.eq_false_iff.mp q6_0)])
      all_goals try (first | simp only [if_pos q6_1] | simp only [if_neg q6_1] | simp only [if_neg (Bool.eq_false_iff.mp q6_1)])
      all_goals exact pM_mk (NS_mk (by exact bU_s _ _ _) (by first | rfl | exact (if_neg (by decide)).symm | exact (if_pos rfl).symm)) (hT.fr (fun q _ _ => (bU_n (by omega)).trans (rfl))) (hM.fr j1 (fun q _ => (bU_n (by omega)).trans (rfl))) (hI.fr ((bU_n (by decide)).trans (rfl))) (hP.fr ((bU_n (by decide)).trans (rfl))) (hD.fr j2 (fun q _ => (bU_n (by omega)).trans (rfl))) (hA.fr (fun q _ _ => (bU_n (by omega)).trans (rfl))) (hC.fr ((bU_n (by decide)).trans (rfl))) (hF.fr ((bU_n (by decide)).trans (rfl))) (fun q _ => (bU_n (by omega)).trans (rfl)) (by omega) (by omega)
    · by_cases q6_2 : w = 2
      · refine r_tableIn (off := 44) (tgt := 50) dX11_count_6 (by rw [q6_2]; decide) (by rw [q6_2]; decide) (by rw [q6_2]; decide) (by decide) ?_
        refine r_aload_n (n := 0) (i := 0) 0 rfl rfl dX11_count_50 ?_
        refine p_get (fs := [.int 0, .int tr, .int (if tr = 4 then pl else -1), .int ft, .int (nI mc), .ref 51, .ref (nA mc), .ref 53, .ref 54, .int (nI tl), .int sz_, .int at_, .int so_, .int pl_, .int mk_, .int nu_, .int di_, .int br_, .int iff_, .long wo_, .ref 55, .ref 56, .int (nI dc), .int (nI td), .ref 57, .int (nI ac), .ref 58, .ref 59, .ref 60, .ref 61, .ref 62, .ref 63, .int (bI hs), .ref 64, .int (nI dfn)]) flX11_313 (by exact bU_s _ _ _) rfl dX11_count_51 ?_
        refine r_ireturn rfl dX11_count_54 ?_
        all_goals (unfold s_count; try simp only [])
        all_goals try (first | simp only [if_pos q6_0] | simp only [if_neg q6_0] | simp only [if_neg (Bool.eq_false_iff.mp q6_0)])
        all_goals try (first | simp only [if_pos q6_1] | simp only [if_neg q6_1] | simp only [if_neg (Bool.eq_false_iff.mp q6_1)])
        all_goals try (first | simp only [if_pos q6_2] | simp only [if_neg q6_2] | simp only [if_neg (Bool.eq_false_iff.mp q6_2)])
        all_goals exact pM_mk (NS_mk (by exact bU_s _ _ _) (by first | rfl | exact (if_neg (by decide)).symm | exact (if_pos rfl).symm)) (hT.fr (fun q _ _ => (bU_n (by omega)).trans (rfl))) (hM.fr j1 (fun q _ => (bU_n (by omega)).trans (rfl))) (hI.fr ((bU_n (by decide)).trans (rfl))) (hP.fr ((bU_n (by decide)).trans (rfl))) (hD.fr j2 (fun q _ => (bU_n (by omega)).trans (rfl))) (hA.fr (fun q _ _ => (bU_n (by omega)).trans (rfl))) (hC.fr ((bU_n (by decide)).trans (rfl))) (hF.fr ((bU_n (by decide)).trans (rfl))) (fun q _ => (bU_n (by omega)).trans (rfl)) (by omega) (by omega)
      · by_cases q6_3 : w = 3
        · refine r_tableIn (off := 49) (tgt := 55) dX11_count_6 (by rw [q6_3]; decide) (by rw [q6_3]; decide) (by rw [q6_3]; decide) (by decide) ?_
          refine r_aload_n (n := 0) (i := 0) 0 rfl rfl dX11_count_55 ?_
          refine p_get (fs := [.int 0, .int tr, .int (if tr = 4 then pl else -1), .int ft, .int (nI mc), .ref 51, .ref (nA mc), .ref 53, .ref 54, .int (nI tl), .int sz_, .int at_, .int so_, .int pl_, .int mk_, .int nu_, .int di_, .int br_, .int iff_, .long wo_, .ref 55, .ref 56, .int (nI dc), .int (nI td), .ref 57, .int (nI ac), .ref 58, .ref 59, .ref 60, .ref 61, .ref 62, .ref 63, .int (bI hs), .ref 64, .int (nI dfn)]) flX11_292 (by exact bU_s _ _ _) rfl dX11_count_56 ?_
          refine r_ireturn rfl dX11_count_59 ?_
          all_goals (unfold s_count; try simp only [])
          all_goals try (first | simp only [if_pos q6_0] | simp only [if_neg q6_0] | simp only [if_neg (Bool.eq_false_iff.mp q6_0)])
          all_goals try (first | simp only [if_pos q6_1] | simp only [if_neg q6_1] | simp only [if_neg (Bool.eq_false_iff.mp q6_1)])
          all_goals try (first | simp only [if_pos q6_2] | simp only [if_neg q6_2] | simp only [if_neg (Bool.eq_false_iff.mp q6_2)])
          all_goals try (first | simp only [if_pos q6_3] | simp only [if_neg q6_3] | simp only [if_neg (Bool.eq_false_iff.mp q6_3)])
          all_goals exact pM_mk (NS_mk (by exact bU_s _ _ _) (by first | rfl | exact (if_neg (by decide)).symm | exact (if_pos rfl).symm)) (hT.fr (fun q _ _ => (bU_n (by omega)).trans (rfl))) (hM.fr j1 (fun q _ => (bU_n (by omega)).trans (rfl))) (hI.fr ((bU_n (by decide)).trans (rfl))) (hP.fr ((bU_n (by decide)).trans (rfl))) (hD.fr j2 (fun q _ => (bU_n (by omega)).trans (rfl))) (hA.fr (fun q _ _ => (bU_n (by omega)).trans (rfl))) (hC.fr ((bU_n (by decide)).trans (rfl))) (hF.fr ((bU_n (by decide)).trans (rfl))) (fun q _ => (bU_n (by omega)).trans (rfl)) (by omega) (by omega)
        · by_cases q6_4 : w = 4
          · refine r_tableIn (off := 54) (tgt := 60) dX11_count_6 (by rw [q6_4]; decide) (by rw [q6_4]; decide) (by rw [q6_4]; decide) (by decide) ?_
            refine r_aload_n (n := 0) (i := 0) 0 rfl rfl dX11_count_60 ?_
            refine p_get (fs := [.int 0, .int tr, .int (if tr = 4 then pl else -1), .int ft, .int (nI mc), .ref 51, .ref (nA mc), .ref 53, .ref 54, .int (nI tl), .int sz_, .int at_, .int so_, .int pl_, .int mk_, .int nu_, .int di_, .int br_, .int iff_, .long wo_, .ref 55, .ref 56, .int (nI dc), .int (nI td), .ref 57, .int (nI ac), .ref 58, .ref 59, .ref 60, .ref 61, .ref 62, .ref 63, .int (bI hs), .ref 64, .int (nI dfn)]) flX11_207 (by exact bU_s _ _ _) rfl dX11_count_61 ?_
            refine r_ireturn rfl dX11_count_64 ?_
            all_goals (unfold s_count; try simp only [])
            all_goals try (first | simp only [if_pos q6_0] | simp only [if_neg q6_0] | simp only [if_neg (Bool.eq_false_iff.mp q6_0)])
            all_goals try (first | simp only [if_pos q6_1] | simp only [if_neg q6_1] | simp only [if_neg (Bool.eq_false_iff.mp q6_1)])
            all_goals try (first | simp only [if_pos q6_2] | simp only [if_neg q6_2] | simp only [if_neg (Bool.eq_false_iff.mp q6_2)])
            all_goals try (first | simp only [if_pos q6_3] | simp only [if_neg q6_3] | simp only [if_neg (Bool.eq_false_iff.mp q6_3)])
            all_goals try (first | simp only [if_pos q6_4] | simp only [if_neg q6_4] | simp only [if_neg (Bool.eq_false_iff.mp q6_4)])
            all_goals exact pM_mk (NS_mk (by exact bU_s _ _ _) (by first | rfl | exact (if_neg (by decide)).symm | exact (if_pos rfl).symm)) (hT.fr (fun q _ _ => (bU_n (by omega)).trans (rfl))) (hM.fr j1 (fun q _ => (bU_n (by omega)).trans (rfl))) (hI.fr ((bU_n (by decide)).trans (rfl))) (hP.fr ((bU_n (by decide)).trans (rfl))) (hD.fr j2 (fun q _ => (bU_n (by omega)).trans (rfl))) (hA.fr (fun q _ _ => (bU_n (by omega)).trans (rfl))) (hC.fr ((bU_n (by decide)).trans (rfl))) (hF.fr ((bU_n (by decide)).trans (rfl))) (fun q _ => (bU_n (by omega)).trans (rfl)) (by omega) (by omega)
          · refine r_tableOut (tgt := 65) dX11_count_6 (tbO5 w q6_0 q6_1 q6_2 q6_3 q6_4) (by decide) ?_
            refine r_iconst (v := (-1)) (by decide) dX11_count_65 ?_
            refine r_ireturn rfl dX11_count_66 ?_
            all_goals (unfold s_count; try simp only [])
            all_goals try (first | simp only [if_pos q6_0] | simp only [if_neg q6_0] | simp only [if_neg (Bool.eq_false_iff.mp q6_0)])
            all_goals try (first | simp only [if_pos q6_1] | simp only [if_neg q6_1] | simp only [if_neg (Bool.eq_false_iff.mp q6_1)])
            all_goals try (first | simp only [if_pos q6_2] | simp only [if_neg q6_2] | simp only [if_neg (Bool.eq_false_iff.mp q6_2)])
            all_goals try (first | simp only [if_pos q6_3] | simp only [if_neg q6_3] | simp only [if_neg (Bool.eq_false_iff.mp q6_3)])
            all_goals try (first | simp only [if_pos q6_4] | simp only [if_neg q6_4] | simp only [if_neg (Bool.eq_false_iff.mp q6_4)])
            all_goals exact pM_mk (NS_mk (by exact bU_s _ _ _) (by first | rfl | exact (if_neg (by decide)).symm | exact (if_pos rfl).symm)) (hT.fr (fun q _ _ => (bU_n (by omega)).trans (rfl))) (hM.fr j1 (fun q _ => (bU_n (by omega)).trans (rfl))) (hI.fr ((bU_n (by decide)).trans (rfl))) (hP.fr ((bU_n (by decide)).trans (rfl))) (hD.fr j2 (fun q _ => (bU_n (by omega)).trans (rfl))) (hA.fr (fun q _ _ => (bU_n (by omega)).trans (rfl))) (hC.fr ((bU_n (by decide)).trans (rfl))) (hF.fr ((bU_n (by decide)).trans (rfl))) (fun q _ => (bU_n (by omega)).trans (rfl)) (by omega) (by omega)
set_option maxRecDepth 4000 in
theorem m_parts {O : bO} {d : Nat} {f : bF} {n s : Nat} {bs : Nat → Int32} {tl : Nat} {mc : Nat} {md : Nat → MR} {ip : Nat → Int32} {dc : Nat} {dr : Nat → DR} {ac : Nat} {an : Nat → AR} {hs : Bool} {sd : Nat → Int32} {df : Nat → Int32} {dfn : Nat} {td : Nat} {tr : Int32} {ft : Int32} {pl : Int32} {x : Int32} (hX : MP f (bs, tl, mc, md, ip, dc, dr, ac, an, hs, sd, df, dfn, td, tr, ft, pl)) (jX : JJ (bs, tl, mc, md, ip, dc, dr, ac, an, hs, sd, df, dfn, td, tr, ft, pl))  (hd : 1 ≤ d) : bCall O mX11_parts d [.ref 50, .int x] (f, n, s) (pM f n s 0 0 (s_parts (bs, tl, mc, md, ip, dc, dr, ac, an, hs, sd, df, dfn, td, tr, ft, pl) x)) := by
  refine bCall_of (by decide) rfl (Nat.le_of_ble_eq_true rfl) ?_
  obtain ⟨hNS, hT, hM, hI, hP, hD, hA, hC, hF⟩ := id hX
  simp only [] at hNS hT hM hI hP hD hA hC hF
  obtain ⟨j1, j2, j3, j4, j5, j6, j7, j8, j9, j10⟩ := id jX
  simp only [] at j1 j2 j3 j4 j5 j6 j7 j8 j9 j10
  obtain ⟨th_, sz_, at_, so_, pl_, mk_, nu_, di_, br_, iff_, wo_, hO⟩ := id hNS
  obtain ⟨tg9, kd9, sp9, h53, h54, hTb⟩ := id hT
  obtain ⟨ig9, h55, hIp⟩ := id hI
  obtain ⟨pg9, h56⟩ := id hP
  obtain ⟨kp9, aq9, bc9, br9, tu9, h58, h59, h60, h61, h62, hAp⟩ := id hA
  obtain ⟨sg9, h63, hC0, hC1, hC2, hC3, hC4⟩ := id hC
  obtain ⟨dg9, h64, hFp⟩ := id hF
  have bN := nA_b (i := mc) j1
  show bV O _ d 0 [(0, .ref 50), (1, .int x)] [] (f, n, s) _
  refine r_aload_n (n := 0) (i := 0) 0 rfl rfl dX11_parts_0 ?_
  refine r_iconst (v := 0) (by decide) dX11_parts_1 ?_
  refine p_put (fs := [.int th_, .int tr, .int (if tr = 4 then pl else -1), .int ft, .int (nI mc), .ref 51, .ref (nA mc), .ref 53, .ref 54, .int (nI tl), .int sz_, .int at_, .int so_, .int pl_, .int mk_, .int nu_, .int di_, .int br_, .int iff_, .long wo_, .ref 55, .ref 56, .int (nI dc), .int (nI td), .ref 57, .int (nI ac), .ref 58, .ref 59, .ref 60, .ref 61, .ref 62, .ref 63, .int (bI hs), .ref 64, .int (nI dfn)]) (fs' := [.int 0, .int tr, .int (if tr = 4 then pl else -1), .int ft, .int (nI mc), .ref 51, .ref (nA mc), .ref 53, .ref 54, .int (nI tl), .int sz_, .int at_, .int so_, .int pl_, .int mk_, .int nu_, .int di_, .int br_, .int iff_, .long wo_, .ref 55, .ref 56, .int (nI dc), .int (nI td), .ref 57, .int (nI ac), .ref 58, .ref 59, .ref 60, .ref 61, .ref 62, .ref 63, .int (bI hs), .ref 64, .int (nI dfn)]) flX11_71 hO (Nat.le_of_ble_eq_true rfl) (bNf_i _) rfl dX11_parts_2 ?_
  refine r_aload_n (n := 0) (i := 0) 0 rfl rfl dX11_parts_5 ?_
  refine r_iload_n (n := 1) (i := 1) 1 rfl rfl dX11_parts_6 ?_
  refine p_callV (As := [.int x]) (rest := []) (kX11_isModel (O := O) (d := 0) (f := bU f 50 (.inr (11, [.int 0, .int tr, .int (if tr = 4 then pl else -1), .int ft, .int (nI mc), .ref 51, .ref (nA mc), .ref 53, .ref 54, .int (nI tl), .int sz_, .int at_, .int so_, .int pl_, .int mk_, .int nu_, .int di_, .int br_, .int iff_, .long wo_, .ref 55, .ref 56, .int (nI dc), .int (nI td), .ref 57, .int (nI ac), .ref 58, .ref 59, .ref 60, .ref 61, .ref 62, .ref 63, .int (bI hs), .ref 64, .int (nI dfn)]))) (n := n) (s := s) (th_ := 0) (tr_ := tr) (wh_ := (if tr = 4 then pl else -1)) (fl_ := ft) (q_ := nA mc) (tp_ := nI tl) (sz_ := sz_) (at_ := at_) (so_ := so_) (pl_ := pl_) (mk_ := mk_) (nu_ := nu_) (di_ := di_) (br_ := br_) (iff_ := iff_) (wo_ := wo_) (nd_ := nI dc) (td_ := nI td) (na_ := nI ac) (hs_ := bI hs) (nf_ := nI dfn) (m9 := mc) (x := x) (by exact bU_s _ _ _) (by omega) (Nat.le_refl _)).call rfl lkX11_225 imX11_isModel seX11_isModel rfl (by exact bU_s _ _ _) rfl rfl (by omega) (Nat.le_of_ble_eq_true rfl) dX11_parts_7 (fun v9 G9 h9 => ?_) (fun q9 G9 h9 => (by cases h9.1))
  obtain ⟨h8, rfl⟩ := h9; cases h8
  show bV O _ d 10 [(0, .ref 50), (1, .int x)] [.int (bI (inB x mc))] (bU f 50 (.inr (11, [.int 0, .int tr, .int (if tr = 4 then pl else -1), .int ft, .int (nI mc), .ref 51, .ref (nA mc), .ref 53, .ref 54, .int (nI tl), .int sz_, .int at_, .int so_, .int pl_, .int mk_, .int nu_, .int di_, .int br_, .int iff_, .long wo_, .ref 55, .ref 56, .int (nI dc), .int (nI td), .ref 57, .int (nI ac), .ref 58, .ref 59, .ref 60, .ref 61, .ref 62, .ref 63, .int (bI hs), .ref 64, .int (nI dfn)])), n, s) _
  refine r_if_eq (tgt := 25) (by decide) dX11_parts_10 (fun c10 => ?_) (fun c10 => ?_)
  · have c10 := bI_0.mp c10
    refine r_iconst (v := (-1)) (by decide) dX11_parts_25 ?_
    refine r_ireturn rfl dX11_parts_26 ?_
    all_goals (unfold s_parts; try simp only [])
    all_goals try (first | simp only [if_pos c10] | simp only [if_neg c10] | simp only [if_neg (Bool.eq_false_iff.mp c10)])
    all_goals exact pM_mk (NS_mk (by exact bU_s _ _ _) (by first | rfl | exact (if_neg (by decide)).symm | exact (if_pos rfl).symm)) (hT.fr (fun q _ _ => (bU_n (by omega)).trans (rfl))) (hM.fr j1 (fun q _ => (bU_n (by omega)).trans (rfl))) (hI.fr ((bU_n (by decide)).trans (rfl))) (hP.fr ((bU_n (by decide)).trans (rfl))) (hD.fr j2 (fun q _ => (bU_n (by omega)).trans (rfl))) (hA.fr (fun q _ _ => (bU_n (by omega)).trans (rfl))) (hC.fr ((bU_n (by decide)).trans (rfl))) (hF.fr ((bU_n (by decide)).trans (rfl))) (fun q _ => (bU_n (by omega)).trans (rfl)) (by omega) (by omega)
  · have c10 := bI_1.mp c10
    refine r_aload_n (n := 0) (i := 0) 0 rfl rfl dX11_parts_13 ?_
    refine p_get (fs := [.int 0, .int tr, .int (if tr = 4 then pl else -1), .int ft, .int (nI mc), .ref 51, .ref (nA mc), .ref 53, .ref 54, .int (nI tl), .int sz_, .int at_, .int so_, .int pl_, .int mk_, .int nu_, .int di_, .int br_, .int iff_, .long wo_, .ref 55, .ref 56, .int (nI dc), .int (nI td), .ref 57, .int (nI ac), .ref 58, .ref 59, .ref 60, .ref 61, .ref 62, .ref 63, .int (bI hs), .ref 64, .int (nI dfn)]) flX11_17 (by exact bU_s _ _ _) rfl dX11_parts_14 ?_
    refine r_iload_n (n := 1) (i := 1) 1 rfl rfl dX11_parts_17 ?_
    refine p_aald (kd := 6) rfl (by exact ((bU_n (by decide)).trans (hM.1))) (vpx c10 j1 (by decide)) dX11_parts_18 ?_
    rw [tab_in c10]
    obtain ⟨ms9, mv9, m1, m2, m3, m4⟩ := hM.2.1 _ (inB_lt c10)
    have bM := nA_b (i := cl x) (by have := inB_lt c10; omega)
    show bV O _ d 19 [(0, .ref 50), (1, .int x)] [.ref (nA (cl x))] (bU f 50 (.inr (11, [.int 0, .int tr, .int (if tr = 4 then pl else -1), .int ft, .int (nI mc), .ref 51, .ref (nA mc), .ref 53, .ref 54, .int (nI tl), .int sz_, .int at_, .int so_, .int pl_, .int mk_, .int nu_, .int di_, .int br_, .int iff_, .long wo_, .ref 55, .ref 56, .int (nI dc), .int (nI td), .ref 57, .int (nI ac), .ref 58, .ref 59, .ref 60, .ref 61, .ref 62, .ref 63, .int (bI hs), .ref 64, .int (nI dfn)])), n, s) _
    refine p_get (fs := [.int (nI (md (cl x)).1.length), .int (nI (md (cl x)).1.length), .int ((md (cl x)).2), .ref ((nA (cl x)) + 1), .ref ((nA (cl x)) + 2)]) flX11_146 (by exact ((bU_n (by omega)).trans (m1))) rfl dX11_parts_19 ?_
    refine r_goto (tgt := 26) (by decide) dX11_parts_22 ?_
    refine r_ireturn rfl dX11_parts_26 ?_
    all_goals (unfold s_parts; try simp only [])
    all_goals try (first | simp only [if_pos c10] | simp only [if_neg c10] | simp only [if_neg (Bool.eq_false_iff.mp c10)])
    all_goals exact pM_mk (NS_mk (by exact bU_s _ _ _) (by first | rfl | exact (if_neg (by decide)).symm | exact (if_pos rfl).symm)) (hT.fr (fun q _ _ => (bU_n (by omega)).trans (rfl))) (hM.fr j1 (fun q _ => (bU_n (by omega)).trans (rfl))) (hI.fr ((bU_n (by decide)).trans (rfl))) (hP.fr ((bU_n (by decide)).trans (rfl))) (hD.fr j2 (fun q _ => (bU_n (by omega)).trans (rfl))) (hA.fr (fun q _ _ => (bU_n (by omega)).trans (rfl))) (hC.fr ((bU_n (by decide)).trans (rfl))) (hF.fr ((bU_n (by decide)).trans (rfl))) (fun q _ => (bU_n (by omega)).trans (rfl)) (by omega) (by omega)
set_option maxRecDepth 4000 in
theorem m_asks {O : bO} {d : Nat} {f : bF} {n s : Nat} {bs : Nat → Int32} {tl : Nat} {mc : Nat} {md : Nat → MR} {ip : Nat → Int32} {dc : Nat} {dr : Nat → DR} {ac : Nat} {an : Nat → AR} {hs : Bool} {sd : Nat → Int32} {df : Nat → Int32} {dfn : Nat} {td : Nat} {tr : Int32} {ft : Int32} {pl : Int32} {x : Int32} (hX : MP f (bs, tl, mc, md, ip, dc, dr, ac, an, hs, sd, df, dfn, td, tr, ft, pl)) (jX : JJ (bs, tl, mc, md, ip, dc, dr, ac, an, hs, sd, df, dfn, td, tr, ft, pl))  (hd : 1 ≤ d) : bCall O mX11_asks d [.ref 50, .int x] (f, n, s) (pM f n s 0 0 (s_asks (bs, tl, mc, md, ip, dc, dr, ac, an, hs, sd, df, dfn, td, tr, ft, pl) x)) := by
  refine bCall_of (by decide) rfl (Nat.le_of_ble_eq_true rfl) ?_
  obtain ⟨hNS, hT, hM, hI, hP, hD, hA, hC, hF⟩ := id hX
  simp only [] at hNS hT hM hI hP hD hA hC hF
  obtain ⟨j1, j2, j3, j4, j5, j6, j7, j8, j9, j10⟩ := id jX
  simp only [] at j1 j2 j3 j4 j5 j6 j7 j8 j9 j10
  obtain ⟨th_, sz_, at_, so_, pl_, mk_, nu_, di_, br_, iff_, wo_, hO⟩ := id hNS
  obtain ⟨tg9, kd9, sp9, h53, h54, hTb⟩ := id hT
  obtain ⟨ig9, h55, hIp⟩ := id hI
  obtain ⟨pg9, h56⟩ := id hP
  obtain ⟨kp9, aq9, bc9, br9, tu9, h58, h59, h60, h61, h62, hAp⟩ := id hA
  obtain ⟨sg9, h63, hC0, hC1, hC2, hC3, hC4⟩ := id hC
  obtain ⟨dg9, h64, hFp⟩ := id hF
  have bN := nA_b (i := mc) j1
  show bV O _ d 0 [(0, .ref 50), (1, .int x)] [] (f, n, s) _
  refine r_aload_n (n := 0) (i := 0) 0 rfl rfl dX11_asks_0 ?_
  refine r_iconst (v := 0) (by decide) dX11_asks_1 ?_
  refine p_put (fs := [.int th_, .int tr, .int (if tr = 4 then pl else -1), .int ft, .int (nI mc), .ref 51, .ref (nA mc), .ref 53, .ref 54, .int (nI tl), .int sz_, .int at_, .int so_, .int pl_, .int mk_, .int nu_, .int di_, .int br_, .int iff_, .long wo_, .ref 55, .ref 56, .int (nI dc), .int (nI td), .ref 57, .int (nI ac), .ref 58, .ref 59, .ref 60, .ref 61, .ref 62, .ref 63, .int (bI hs), .ref 64, .int (nI dfn)]) (fs' := [.int 0, .int tr, .int (if tr = 4 then pl else -1), .int ft, .int (nI mc), .ref 51, .ref (nA mc), .ref 53, .ref 54, .int (nI tl), .int sz_, .int at_, .int so_, .int pl_, .int mk_, .int nu_, .int di_, .int br_, .int iff_, .long wo_, .ref 55, .ref 56, .int (nI dc), .int (nI td), .ref 57, .int (nI ac), .ref 58, .ref 59, .ref 60, .ref 61, .ref 62, .ref 63, .int (bI hs), .ref 64, .int (nI dfn)]) flX11_71 hO (Nat.le_of_ble_eq_true rfl) (bNf_i _) rfl dX11_asks_2 ?_
  refine r_aload_n (n := 0) (i := 0) 0 rfl rfl dX11_asks_5 ?_
  refine r_iload_n (n := 1) (i := 1) 1 rfl rfl dX11_asks_6 ?_
  refine p_callV (As := [.int x]) (rest := []) (kX11_isModel (O := O) (d := 0) (f := bU f 50 (.inr (11, [.int 0, .int tr, .int (if tr = 4 then pl else -1), .int ft, .int (nI mc), .ref 51, .ref (nA mc), .ref 53, .ref 54, .int (nI tl), .int sz_, .int at_, .int so_, .int pl_, .int mk_, .int nu_, .int di_, .int br_, .int iff_, .long wo_, .ref 55, .ref 56, .int (nI dc), .int (nI td), .ref 57, .int (nI ac), .ref 58, .ref 59, .ref 60, .ref 61, .ref 62, .ref 63, .int (bI hs), .ref 64, .int (nI dfn)]))) (n := n) (s := s) (th_ := 0) (tr_ := tr) (wh_ := (if tr = 4 then pl else -1)) (fl_ := ft) (q_ := nA mc) (tp_ := nI tl) (sz_ := sz_) (at_ := at_) (so_ := so_) (pl_ := pl_) (mk_ := mk_) (nu_ := nu_) (di_ := di_) (br_ := br_) (iff_ := iff_) (wo_ := wo_) (nd_ := nI dc) (td_ := nI td) (na_ := nI ac) (hs_ := bI hs) (nf_ := nI dfn) (m9 := mc) (x := x) (by exact bU_s _ _ _) (by omega) (Nat.le_refl _)).call rfl lkX11_225 imX11_isModel seX11_isModel rfl (by exact bU_s _ _ _) rfl rfl (by omega) (Nat.le_of_ble_eq_true rfl) dX11_asks_7 (fun v9 G9 h9 => ?_) (fun q9 G9 h9 => (by cases h9.1))
  obtain ⟨h8, rfl⟩ := h9; cases h8
  show bV O _ d 10 [(0, .ref 50), (1, .int x)] [.int (bI (inB x mc))] (bU f 50 (.inr (11, [.int 0, .int tr, .int (if tr = 4 then pl else -1), .int ft, .int (nI mc), .ref 51, .ref (nA mc), .ref 53, .ref 54, .int (nI tl), .int sz_, .int at_, .int so_, .int pl_, .int mk_, .int nu_, .int di_, .int br_, .int iff_, .long wo_, .ref 55, .ref 56, .int (nI dc), .int (nI td), .ref 57, .int (nI ac), .ref 58, .ref 59, .ref 60, .ref 61, .ref 62, .ref 63, .int (bI hs), .ref 64, .int (nI dfn)])), n, s) _
  refine r_if_eq (tgt := 25) (by decide) dX11_asks_10 (fun c10 => ?_) (fun c10 => ?_)
  · have c10 := bI_0.mp c10
    refine r_iconst (v := (-1)) (by decide) dX11_asks_25 ?_
    refine r_ireturn rfl dX11_asks_26 ?_
    all_goals (unfold s_asks; try simp only [])
    all_goals try (first | simp only [if_pos c10] | simp only [if_neg c10] | simp only [if_neg (Bool.eq_false_iff.mp c10)])
    all_goals exact pM_mk (NS_mk (by exact bU_s _ _ _) (by first | rfl | exact (if_neg (by decide)).symm | exact (if_pos rfl).symm)) (hT.fr (fun q _ _ => (bU_n (by omega)).trans (rfl))) (hM.fr j1 (fun q _ => (bU_n (by omega)).trans (rfl))) (hI.fr ((bU_n (by decide)).trans (rfl))) (hP.fr ((bU_n (by decide)).trans (rfl))) (hD.fr j2 (fun q _ => (bU_n (by omega)).trans (rfl))) (hA.fr (fun q _ _ => (bU_n (by omega)).trans (rfl))) (hC.fr ((bU_n (by decide)).trans (rfl))) (hF.fr ((bU_n (by decide)).trans (rfl))) (fun q _ => (bU_n (by omega)).trans (rfl)) (by omega) (by omega)
  · have c10 := bI_1.mp c10
    refine r_aload_n (n := 0) (i := 0) 0 rfl rfl dX11_asks_13 ?_
    refine p_get (fs := [.int 0, .int tr, .int (if tr = 4 then pl else -1), .int ft, .int (nI mc), .ref 51, .ref (nA mc), .ref 53, .ref 54, .int (nI tl), .int sz_, .int at_, .int so_, .int pl_, .int mk_, .int nu_, .int di_, .int br_, .int iff_, .long wo_, .ref 55, .ref 56, .int (nI dc), .int (nI td), .ref 57, .int (nI ac), .ref 58, .ref 59, .ref 60, .ref 61, .ref 62, .ref 63, .int (bI hs), .ref 64, .int (nI dfn)]) flX11_17 (by exact bU_s _ _ _) rfl dX11_asks_14 ?_
    refine r_iload_n (n := 1) (i := 1) 1 rfl rfl dX11_asks_17 ?_
    refine p_aald (kd := 6) rfl (by exact ((bU_n (by decide)).trans (hM.1))) (vpx c10 j1 (by decide)) dX11_asks_18 ?_
    rw [tab_in c10]
    obtain ⟨ms9, mv9, m1, m2, m3, m4⟩ := hM.2.1 _ (inB_lt c10)
    have bM := nA_b (i := cl x) (by have := inB_lt c10; omega)
    show bV O _ d 19 [(0, .ref 50), (1, .int x)] [.ref (nA (cl x))] (bU f 50 (.inr (11, [.int 0, .int tr, .int (if tr = 4 then pl else -1), .int ft, .int (nI mc), .ref 51, .ref (nA mc), .ref 53, .ref 54, .int (nI tl), .int sz_, .int at_, .int so_, .int pl_, .int mk_, .int nu_, .int di_, .int br_, .int iff_, .long wo_, .ref 55, .ref 56, .int (nI dc), .int (nI td), .ref 57, .int (nI ac), .ref 58, .ref 59, .ref 60, .ref 61, .ref 62, .ref 63, .int (bI hs), .ref 64, .int (nI dfn)])), n, s) _
    refine p_get (fs := [.int (nI (md (cl x)).1.length), .int (nI (md (cl x)).1.length), .int ((md (cl x)).2), .ref ((nA (cl x)) + 1), .ref ((nA (cl x)) + 2)]) flX11_204 (by exact ((bU_n (by omega)).trans (m1))) rfl dX11_asks_19 ?_
    refine r_goto (tgt := 26) (by decide) dX11_asks_22 ?_
    refine r_ireturn rfl dX11_asks_26 ?_
    all_goals (unfold s_asks; try simp only [])
    all_goals try (first | simp only [if_pos c10] | simp only [if_neg c10] | simp only [if_neg (Bool.eq_false_iff.mp c10)])
    all_goals exact pM_mk (NS_mk (by exact bU_s _ _ _) (by first | rfl | exact (if_neg (by decide)).symm | exact (if_pos rfl).symm)) (hT.fr (fun q _ _ => (bU_n (by omega)).trans (rfl))) (hM.fr j1 (fun q _ => (bU_n (by omega)).trans (rfl))) (hI.fr ((bU_n (by decide)).trans (rfl))) (hP.fr ((bU_n (by decide)).trans (rfl))) (hD.fr j2 (fun q _ => (bU_n (by omega)).trans (rfl))) (hA.fr (fun q _ _ => (bU_n (by omega)).trans (rfl))) (hC.fr ((bU_n (by decide)).trans (rfl))) (hF.fr ((bU_n (by decide)).trans (rfl))) (fun q _ => (bU_n (by omega)).trans (rfl)) (by omega) (by omega)
set_option maxRecDepth 4000 in
theorem m_input {O : bO} {d : Nat} {f : bF} {n s : Nat} {bs : Nat → Int32} {tl : Nat} {mc : Nat} {md : Nat → MR} {ip : Nat → Int32} {dc : Nat} {dr : Nat → DR} {ac : Nat} {an : Nat → AR} {hs : Bool} {sd : Nat → Int32} {df : Nat → Int32} {dfn : Nat} {td : Nat} {tr : Int32} {ft : Int32} {pl : Int32} {k : Int32} {v : Int32} (hX : MP f (bs, tl, mc, md, ip, dc, dr, ac, an, hs, sd, df, dfn, td, tr, ft, pl)) (jX : JJ (bs, tl, mc, md, ip, dc, dr, ac, an, hs, sd, df, dfn, td, tr, ft, pl))  (hd : 1 ≤ d) : bCall O mX11_input d [.ref 50, .int k, .int v] (f, n, s) (pM f n s 0 0 (s_input (bs, tl, mc, md, ip, dc, dr, ac, an, hs, sd, df, dfn, td, tr, ft, pl) k v)) := by
  refine bCall_of (by decide) rfl (Nat.le_of_ble_eq_true rfl) ?_
  obtain ⟨hNS, hT, hM, hI, hP, hD, hA, hC, hF⟩ := id hX
  simp only [] at hNS hT hM hI hP hD hA hC hF
  obtain ⟨j1, j2, j3, j4, j5, j6, j7, j8, j9, j10⟩ := id jX
  simp only [] at j1 j2 j3 j4 j5 j6 j7 j8 j9 j10
  obtain ⟨th_, sz_, at_, so_, pl_, mk_, nu_, di_, br_, iff_, wo_, hO⟩ := id hNS
  obtain ⟨tg9, kd9, sp9, h53, h54, hTb⟩ := id hT
  obtain ⟨ig9, h55, hIp⟩ := id hI
  obtain ⟨pg9, h56⟩ := id hP
  obtain ⟨kp9, aq9, bc9, br9, tu9, h58, h59, h60, h61, h62, hAp⟩ := id hA
  obtain ⟨sg9, h63, hC0, hC1, hC2, hC3, hC4⟩ := id hC
  obtain ⟨dg9, h64, hFp⟩ := id hF
  have bN := nA_b (i := mc) j1
  show bV O _ d 0 [(0, .ref 50), (1, .int k), (2, .int v)] [] (f, n, s) _
  refine r_aload_n (n := 0) (i := 0) 0 rfl rfl dX11_input_0 ?_
  refine r_iconst (v := 0) (by decide) dX11_input_1 ?_
  refine p_put (fs := [.int th_, .int tr, .int (if tr = 4 then pl else -1), .int ft, .int (nI mc), .ref 51, .ref (nA mc), .ref 53, .ref 54, .int (nI tl), .int sz_, .int at_, .int so_, .int pl_, .int mk_, .int nu_, .int di_, .int br_, .int iff_, .long wo_, .ref 55, .ref 56, .int (nI dc), .int (nI td), .ref 57, .int (nI ac), .ref 58, .ref 59, .ref 60, .ref 61, .ref 62, .ref 63, .int (bI hs), .ref 64, .int (nI dfn)]) (fs' := [.int 0, .int tr, .int (if tr = 4 then pl else -1), .int ft, .int (nI mc), .ref 51, .ref (nA mc), .ref 53, .ref 54, .int (nI tl), .int sz_, .int at_, .int so_, .int pl_, .int mk_, .int nu_, .int di_, .int br_, .int iff_, .long wo_, .ref 55, .ref 56, .int (nI dc), .int (nI td), .ref 57, .int (nI ac), .ref 58, .ref 59, .ref 60, .ref 61, .ref 62, .ref 63, .int (bI hs), .ref 64, .int (nI dfn)]) flX11_71 hO (Nat.le_of_ble_eq_true rfl) (bNf_i _) rfl dX11_input_2 ?_
  refine r_iload_n (n := 1) (i := 1) 1 rfl rfl dX11_input_5 ?_
  refine r_iconst (v := 0) (by decide) dX11_input_6 ?_
  refine r_iconst (v := 5) (by decide) dX11_input_7 ?_
  refine p_callS (As := [.int k, .int 0, .int 5]) (rest := []) (kX11_in (O := O) (d := 0) (f := bU f 50 (.inr (11, [.int 0, .int tr, .int (if tr = 4 then pl else -1), .int ft, .int (nI mc), .ref 51, .ref (nA mc), .ref 53, .ref 54, .int (nI tl), .int sz_, .int at_, .int so_, .int pl_, .int mk_, .int nu_, .int di_, .int br_, .int iff_, .long wo_, .ref 55, .ref 56, .int (nI dc), .int (nI td), .ref 57, .int (nI ac), .ref 58, .ref 59, .ref 60, .ref 61, .ref 62, .ref 63, .int (bI hs), .ref 64, .int (nI dfn)]))) (n := n) (s := s) (v := k) (lo := 0) (hi := 5)   (Nat.le_refl _)).call rfl lkX11_200 smX11_in rfl rfl (by omega) (Nat.le_of_ble_eq_true rfl) dX11_input_8 (fun v9 G9 h9 => ?_) (fun q9 G9 h9 => (by cases h9.1))
  obtain ⟨h8, rfl⟩ := h9; cases h8
  show bV O _ d 11 [(0, .ref 50), (1, .int k), (2, .int v)] [.int (bI (jIn k 0 5))] (bU f 50 (.inr (11, [.int 0, .int tr, .int (if tr = 4 then pl else -1), .int ft, .int (nI mc), .ref 51, .ref (nA mc), .ref 53, .ref 54, .int (nI tl), .int sz_, .int at_, .int so_, .int pl_, .int mk_, .int nu_, .int di_, .int br_, .int iff_, .long wo_, .ref 55, .ref 56, .int (nI dc), .int (nI td), .ref 57, .int (nI ac), .ref 58, .ref 59, .ref 60, .ref 61, .ref 62, .ref 63, .int (bI hs), .ref 64, .int (nI dfn)])), n, s) _
  refine r_if_eq (tgt := 27) (by decide) dX11_input_11 (fun c11 => ?_) (fun c11 => ?_)
  · have c11 := bI_0.mp c11
    refine r_aload_n (n := 0) (i := 0) 0 rfl rfl dX11_input_27 ?_
    refine r_iconst (v := 2) (by decide) dX11_input_28 ?_
    refine p_callV (As := [.int 2]) (rest := []) (kX11_denied (O := O) (d := 0) (f := bU f 50 (.inr (11, [.int 0, .int tr, .int (if tr = 4 then pl else -1), .int ft, .int (nI mc), .ref 51, .ref (nA mc), .ref 53, .ref 54, .int (nI tl), .int sz_, .int at_, .int so_, .int pl_, .int mk_, .int nu_, .int di_, .int br_, .int iff_, .long wo_, .ref 55, .ref 56, .int (nI dc), .int (nI td), .ref 57, .int (nI ac), .ref 58, .ref 59, .ref 60, .ref 61, .ref 62, .ref 63, .int (bI hs), .ref 64, .int (nI dfn)]))) (n := n) (s := s) (th_ := 0) (tr_ := tr) (wh_ := (if tr = 4 then pl else -1)) (fl_ := ft) (nm_ := nI mc) (q_ := nA mc) (tp_ := nI tl) (sz_ := sz_) (at_ := at_) (so_ := so_) (pl_ := pl_) (mk_ := mk_) (nu_ := nu_) (di_ := di_) (br_ := br_) (iff_ := iff_) (wo_ := wo_) (nd_ := nI dc) (td_ := nI td) (na_ := nI ac) (hs_ := bI hs) (nf_ := nI dfn) (y := 2) (by exact bU_s _ _ _)  (Nat.le_refl _)).call rfl lkX11_228 imX11_denied seX11_denied rfl (by exact bU_s _ _ _) rfl rfl (by omega) (Nat.le_of_ble_eq_true rfl) dX11_input_29 (fun v9 G9 h9 => ?_) (fun q9 G9 h9 => (by cases h9.1))
    obtain ⟨h8, rfl⟩ := h9; cases h8
    refine bV_h (f2 := bU f 50 (.inr (11, [.int 0, .int 2, .int (-1), .int ft, .int (nI mc), .ref 51, .ref (nA mc), .ref 53, .ref 54, .int (nI tl), .int sz_, .int at_, .int so_, .int pl_, .int mk_, .int nu_, .int di_, .int br_, .int iff_, .long wo_, .ref 55, .ref 56, .int (nI dc), .int (nI td), .ref 57, .int (nI ac), .ref 58, .ref 59, .ref 60, .ref 61, .ref 62, .ref 63, .int (bI hs), .ref 64, .int (nI dfn)]))) (bU_u _ _ _ _) ?_
    show bV O _ d 32 [(0, .ref 50), (1, .int k), (2, .int v)] [.int 0] (bU f 50 (.inr (11, [.int 0, .int 2, .int (-1), .int ft, .int (nI mc), .ref 51, .ref (nA mc), .ref 53, .ref 54, .int (nI tl), .int sz_, .int at_, .int so_, .int pl_, .int mk_, .int nu_, .int di_, .int br_, .int iff_, .long wo_, .ref 55, .ref 56, .int (nI dc), .int (nI td), .ref 57, .int (nI ac), .ref 58, .ref 59, .ref 60, .ref 61, .ref 62, .ref 63, .int (bI hs), .ref 64, .int (nI dfn)])), n, s) _
    refine r_zreturn rfl (by first | decide +kernel | exact narZ _ | assumption) dX11_input_32 ?_
    all_goals rcases jIn_kf c11 with a11 | ⟨a11, b11⟩
    all_goals try have b11 : nI 6 ≤ k := (by have h := b11; have h5 : (5 : Int32).toInt = 5 := (by decide); have h6 : (nI 6).toInt = 6 := (by decide); rw [Int32.lt_iff_toInt_lt] at h; rw [Int32.le_iff_toInt_le]; omega)
    all_goals (unfold s_input; try simp only [])
    all_goals try (first | simp only [if_pos c11] | simp only [if_neg c11] | simp only [if_neg (Bool.eq_false_iff.mp c11)])
    all_goals try (first | simp only [if_pos a11] | simp only [if_neg a11] | simp only [if_neg (Bool.eq_false_iff.mp a11)])
    all_goals try (first | simp only [if_pos b11] | simp only [if_neg b11] | simp only [if_neg (Bool.eq_false_iff.mp b11)])
    all_goals try simp only [cl_nI (show k9 < 2 ^ 31 by omega)]
    all_goals exact pM_mk (NS_mk (by exact bU_s _ _ _) (by first | rfl | exact (if_neg (by decide)).symm | exact (if_pos rfl).symm)) (hT.fr (fun q _ _ => (bU_n (by omega)).trans (rfl))) (hM.fr j1 (fun q _ => (bU_n (by omega)).trans (rfl))) (hI.fr ((bU_n (by decide)).trans (rfl))) (hP.fr ((bU_n (by decide)).trans (rfl))) (hD.fr j2 (fun q _ => (bU_n (by omega)).trans (rfl))) (hA.fr (fun q _ _ => (bU_n (by omega)).trans (rfl))) (hC.fr ((bU_n (by decide)).trans (rfl))) (hF.fr ((bU_n (by decide)).trans (rfl))) (fun q _ => (bU_n (by omega)).trans (rfl)) (by omega) (by omega)
  · have c11 := bI_1.mp c11
    obtain ⟨k9, hk9, rfl⟩ := jIn_k (n := 6) c11 (by decide) (by decide)
    refine r_iload_n (n := 2) (i := 2) 2 rfl rfl dX11_input_14 ?_
    refine r_sipush (v := (-1000)) (by decide) dX11_input_15 ?_
    refine r_sipush (v := 1000) (by decide) dX11_input_18 ?_
    refine p_callS (As := [.int v, .int (-1000), .int 1000]) (rest := []) (kX11_in (O := O) (d := 0) (f := bU f 50 (.inr (11, [.int 0, .int tr, .int (if tr = 4 then pl else -1), .int ft, .int (nI mc), .ref 51, .ref (nA mc), .ref 53, .ref 54, .int (nI tl), .int sz_, .int at_, .int so_, .int pl_, .int mk_, .int nu_, .int di_, .int br_, .int iff_, .long wo_, .ref 55, .ref 56, .int (nI dc), .int (nI td), .ref 57, .int (nI ac), .ref 58, .ref 59, .ref 60, .ref 61, .ref 62, .ref 63, .int (bI hs), .ref 64, .int (nI dfn)]))) (n := n) (s := s) (v := v) (lo := (-1000)) (hi := 1000)   (Nat.le_refl _)).call rfl lkX11_200 smX11_in rfl rfl (by omega) (Nat.le_of_ble_eq_true rfl) dX11_input_21 (fun v9 G9 h9 => ?_) (fun q9 G9 h9 => (by cases h9.1))
    obtain ⟨h8, rfl⟩ := h9; cases h8
    show bV O _ d 24 [(0, .ref 50), (1, .int (nI k9)), (2, .int v)] [.int (bI (jIn v (-1000) 1000))] (bU f 50 (.inr (11, [.int 0, .int tr, .int (if tr = 4 then pl else -1), .int ft, .int (nI mc), .ref 51, .ref (nA mc), .ref 53, .ref 54, .int (nI tl), .int sz_, .int at_, .int so_, .int pl_, .int mk_, .int nu_, .int di_, .int br_, .int iff_, .long wo_, .ref 55, .ref 56, .int (nI dc), .int (nI td), .ref 57, .int (nI ac), .ref 58, .ref 59, .ref 60, .ref 61, .ref 62, .ref 63, .int (bI hs), .ref 64, .int (nI dfn)])), n, s) _
    refine r_if_ne (tgt := 33) (by decide) dX11_input_24 (fun c24 => ?_) (fun c24 => ?_)
    · have c24 := bI_1.mp c24
      refine r_aload_n (n := 0) (i := 0) 0 rfl rfl dX11_input_33 ?_
      refine p_get (fs := [.int 0, .int tr, .int (if tr = 4 then pl else -1), .int ft, .int (nI mc), .ref 51, .ref (nA mc), .ref 53, .ref 54, .int (nI tl), .int sz_, .int at_, .int so_, .int pl_, .int mk_, .int nu_, .int di_, .int br_, .int iff_, .long wo_, .ref 55, .ref 56, .int (nI dc), .int (nI td), .ref 57, .int (nI ac), .ref 58, .ref 59, .ref 60, .ref 61, .ref 62, .ref 63, .int (bI hs), .ref 64, .int (nI dfn)]) flX11_37 (by exact bU_s _ _ _) rfl dX11_input_34 ?_
      refine r_iload_n (n := 1) (i := 1) 1 rfl rfl dX11_input_37 ?_
      refine r_iload_n (n := 2) (i := 2) 2 rfl rfl dX11_input_38 ?_
      refine p_iastN (t := k9) (by exact ((bU_n (by decide)).trans (h55))) (by omega) (by omega) dX11_input_39 ?_
      refine r_aload_n (n := 0) (i := 0) 0 rfl rfl dX11_input_40 ?_
      refine p_callV (As := []) (rest := []) (kX11_granted (O := O) (d := 0) (f := bU (bU f 50 (.inr (11, [.int 0, .int tr, .int (if tr = 4 then pl else -1), .int ft, .int (nI mc), .ref 51, .ref (nA mc), .ref 53, .ref 54, .int (nI tl), .int sz_, .int at_, .int so_, .int pl_, .int mk_, .int nu_, .int di_, .int br_, .int iff_, .long wo_, .ref 55, .ref 56, .int (nI dc), .int (nI td), .ref 57, .int (nI ac), .ref 58, .ref 59, .ref 60, .ref 61, .ref 62, .ref 63, .int (bI hs), .ref 64, .int (nI dfn)]))) 55 (.inl (0, 6, .inl (upd ig9 k9 v)))) (n := n) (s := s) (th_ := 0) (tr_ := tr) (wh_ := (if tr = 4 then pl else -1)) (fl_ := ft) (nm_ := nI mc) (q_ := nA mc) (tp_ := nI tl) (sz_ := sz_) (at_ := at_) (so_ := so_) (pl_ := pl_) (mk_ := mk_) (nu_ := nu_) (di_ := di_) (br_ := br_) (iff_ := iff_) (wo_ := wo_) (nd_ := nI dc) (td_ := nI td) (na_ := nI ac) (hs_ := bI hs) (nf_ := nI dfn) (by exact ((bU_n (by decide)).trans (bU_s _ _ _)))  (Nat.le_refl _)).call rfl lkX11_231 imX11_granted seX11_granted rfl (by exact ((bU_n (by decide)).trans (bU_s _ _ _))) rfl rfl (by omega) (Nat.le_of_ble_eq_true rfl) dX11_input_41 (fun v9 G9 h9 => ?_) (fun q9 G9 h9 => (by cases h9.1))
      obtain ⟨h8, rfl⟩ := h9; cases h8
      refine bV_h (f2 := bU (bU f 50 (.inr (11, [.int 0, .int 0, .int (-1), .int ft, .int (nI mc), .ref 51, .ref (nA mc), .ref 53, .ref 54, .int (nI tl), .int sz_, .int at_, .int so_, .int pl_, .int mk_, .int nu_, .int di_, .int br_, .int iff_, .long wo_, .ref 55, .ref 56, .int (nI dc), .int (nI td), .ref 57, .int (nI ac), .ref 58, .ref 59, .ref 60, .ref 61, .ref 62, .ref 63, .int (bI hs), .ref 64, .int (nI dfn)]))) 55 (.inl (0, 6, .inl (upd ig9 k9 v)))) (((bU_c (by decide)).trans (congrArg (fun z => bU z 55 (.inl (0, 6, .inl (upd ig9 k9 v)))) (bU_u _ _ _ _)))) ?_
      show bV O _ d 44 [(0, .ref 50), (1, .int (nI k9)), (2, .int v)] [.int 1] (bU (bU f 50 (.inr (11, [.int 0, .int 0, .int (-1), .int ft, .int (nI mc), .ref 51, .ref (nA mc), .ref 53, .ref 54, .int (nI tl), .int sz_, .int at_, .int so_, .int pl_, .int mk_, .int nu_, .int di_, .int br_, .int iff_, .long wo_, .ref 55, .ref 56, .int (nI dc), .int (nI td), .ref 57, .int (nI ac), .ref 58, .ref 59, .ref 60, .ref 61, .ref 62, .ref 63, .int (bI hs), .ref 64, .int (nI dfn)]))) 55 (.inl (0, 6, .inl (upd ig9 k9 v))), n, s) _
      refine r_zreturn rfl (by first | decide +kernel | exact narZ _ | assumption) dX11_input_44 ?_
      all_goals have a11 : ¬ nI k9 < 0 := nI_pos (by omega)
      all_goals have b11 : ¬ nI 6 ≤ nI k9 := lit_nle (n := 6) rfl hk9 (by decide)
      all_goals have a24 : ¬ v < -1000 := (by have m1 : (-1000 : Int32).toInt = -1000 := (by decide); have m2 : (1000 : Int32).toInt = 1000 := (by decide); have h := jIn_t c24; rw [Int32.lt_iff_toInt_lt]; omega)
      all_goals have b24 : v ≤ 1000 := (by have m1 : (-1000 : Int32).toInt = -1000 := (by decide); have m2 : (1000 : Int32).toInt = 1000 := (by decide); have h := jIn_t c24; rw [Int32.le_iff_toInt_le]; omega)
      all_goals (unfold s_input; try simp only [])
      all_goals try (first | simp only [if_pos c11] | simp only [if_neg c11] | simp only [if_neg (Bool.eq_false_iff.mp c11)])
      all_goals try (first | simp only [if_pos c24] | simp only [if_neg c24] | simp only [if_neg (Bool.eq_false_iff.mp c24)])
      all_goals try (first | simp only [if_pos a11] | simp only [if_neg a11] | simp only [if_neg (Bool.eq_false_iff.mp a11)])
      all_goals try (first | simp only [if_pos b11] | simp only [if_neg b11] | simp only [if_neg (Bool.eq_false_iff.mp b11)])
      all_goals try (first | simp only [if_pos a24] | simp only [if_neg a24] | simp only [if_neg (Bool.eq_false_iff.mp a24)])
      all_goals try (first | simp only [if_pos b24] | simp only [if_neg b24] | simp only [if_neg (Bool.eq_false_iff.mp b24)])
      all_goals try simp only [cl_nI (show k9 < 2 ^ 31 by omega)]
      all_goals exact pM_mk (NS_mk (by exact ((bU_n (by decide)).trans (bU_s _ _ _))) (by first | rfl | exact (if_neg (by decide)).symm | exact (if_pos rfl).symm)) (hT.fr (fun q _ _ => (bU_n (by omega)).trans ((bU_n (by omega)).trans (rfl)))) (hM.fr j1 (fun q _ => (bU_n (by omega)).trans ((bU_n (by omega)).trans (rfl)))) (⟨_, (by exact bU_s _ _ _), upd_pw hIp⟩) (hP.fr ((bU_n (by decide)).trans ((bU_n (by decide)).trans (rfl)))) (hD.fr j2 (fun q _ => (bU_n (by omega)).trans ((bU_n (by omega)).trans (rfl)))) (hA.fr (fun q _ _ => (bU_n (by omega)).trans ((bU_n (by omega)).trans (rfl)))) (hC.fr ((bU_n (by decide)).trans ((bU_n (by decide)).trans (rfl)))) (hF.fr ((bU_n (by decide)).trans ((bU_n (by decide)).trans (rfl)))) (fun q _ => (bU_n (by omega)).trans ((bU_n (by omega)).trans (rfl))) (by omega) (by omega)
    · have c24 := bI_0.mp c24
      refine r_aload_n (n := 0) (i := 0) 0 rfl rfl dX11_input_27 ?_
      refine r_iconst (v := 2) (by decide) dX11_input_28 ?_
      refine p_callV (As := [.int 2]) (rest := []) (kX11_denied (O := O) (d := 0) (f := bU f 50 (.inr (11, [.int 0, .int tr, .int (if tr = 4 then pl else -1), .int ft, .int (nI mc), .ref 51, .ref (nA mc), .ref 53, .ref 54, .int (nI tl), .int sz_, .int at_, .int so_, .int pl_, .int mk_, .int nu_, .int di_, .int br_, .int iff_, .long wo_, .ref 55, .ref 56, .int (nI dc), .int (nI td), .ref 57, .int (nI ac), .ref 58, .ref 59, .ref 60, .ref 61, .ref 62, .ref 63, .int (bI hs), .ref 64, .int (nI dfn)]))) (n := n) (s := s) (th_ := 0) (tr_ := tr) (wh_ := (if tr = 4 then pl else -1)) (fl_ := ft) (nm_ := nI mc) (q_ := nA mc) (tp_ := nI tl) (sz_ := sz_) (at_ := at_) (so_ := so_) (pl_ := pl_) (mk_ := mk_) (nu_ := nu_) (di_ := di_) (br_ := br_) (iff_ := iff_) (wo_ := wo_) (nd_ := nI dc) (td_ := nI td) (na_ := nI ac) (hs_ := bI hs) (nf_ := nI dfn) (y := 2) (by exact bU_s _ _ _)  (Nat.le_refl _)).call rfl lkX11_228 imX11_denied seX11_denied rfl (by exact bU_s _ _ _) rfl rfl (by omega) (Nat.le_of_ble_eq_true rfl) dX11_input_29 (fun v9 G9 h9 => ?_) (fun q9 G9 h9 => (by cases h9.1))
      obtain ⟨h8, rfl⟩ := h9; cases h8
      refine bV_h (f2 := bU f 50 (.inr (11, [.int 0, .int 2, .int (-1), .int ft, .int (nI mc), .ref 51, .ref (nA mc), .ref 53, .ref 54, .int (nI tl), .int sz_, .int at_, .int so_, .int pl_, .int mk_, .int nu_, .int di_, .int br_, .int iff_, .long wo_, .ref 55, .ref 56, .int (nI dc), .int (nI td), .ref 57, .int (nI ac), .ref 58, .ref 59, .ref 60, .ref 61, .ref 62, .ref 63, .int (bI hs), .ref 64, .int (nI dfn)]))) (bU_u _ _ _ _) ?_
      show bV O _ d 32 [(0, .ref 50), (1, .int (nI k9)), (2, .int v)] [.int 0] (bU f 50 (.inr (11, [.int 0, .int 2, .int (-1), .int ft, .int (nI mc), .ref 51, .ref (nA mc), .ref 53, .ref 54, .int (nI tl), .int sz_, .int at_, .int so_, .int pl_, .int mk_, .int nu_, .int di_, .int br_, .int iff_, .long wo_, .ref 55, .ref 56, .int (nI dc), .int (nI td), .ref 57, .int (nI ac), .ref 58, .ref 59, .ref 60, .ref 61, .ref 62, .ref 63, .int (bI hs), .ref 64, .int (nI dfn)])), n, s) _
      refine r_zreturn rfl (by first | decide +kernel | exact narZ _ | assumption) dX11_input_32 ?_
      all_goals have a11 : ¬ nI k9 < 0 := nI_pos (by omega)
      all_goals have b11 : ¬ nI 6 ≤ nI k9 := lit_nle (n := 6) rfl hk9 (by decide)
      all_goals rcases jIn_f c24 with a24 | b24
      all_goals try have a24 : v < -1000 := Int32.lt_iff_toInt_lt.mpr a24
      all_goals try have b24 : ¬ v ≤ 1000 := (by have h := b24; rw [Int32.le_iff_toInt_le]; omega)
      all_goals by_cases z24 : v < -1000
      all_goals (unfold s_input; try simp only [])
      all_goals try (first | simp only [if_pos c11] | simp only [if_neg c11] | simp only [if_neg (Bool.eq_false_iff.mp c11)])
      all_goals try (first | simp only [if_pos c24] | simp only [if_neg c24] | simp only [if_neg (Bool.eq_false_iff.mp c24)])
      all_goals try (first | simp only [if_pos a11] | simp only [if_neg a11] | simp only [if_neg (Bool.eq_false_iff.mp a11)])
      all_goals try (first | simp only [if_pos b11] | simp only [if_neg b11] | simp only [if_neg (Bool.eq_false_iff.mp b11)])
      all_goals try (first | simp only [if_pos a24] | simp only [if_neg a24] | simp only [if_neg (Bool.eq_false_iff.mp a24)])
      all_goals try (first | simp only [if_pos z24] | simp only [if_neg z24] | simp only [if_neg (Bool.eq_false_iff.mp z24)])
      all_goals try (first | simp only [if_pos b24] | simp only [if_neg b24] | simp only [if_neg (Bool.eq_false_iff.mp b24)])
      all_goals try simp only [cl_nI (show k9 < 2 ^ 31 by omega)]
      all_goals exact pM_mk (NS_mk (by exact bU_s _ _ _) (by first | rfl | exact (if_neg (by decide)).symm | exact (if_pos rfl).symm)) (hT.fr (fun q _ _ => (bU_n (by omega)).trans (rfl))) (hM.fr j1 (fun q _ => (bU_n (by omega)).trans (rfl))) (hI.fr ((bU_n (by decide)).trans (rfl))) (hP.fr ((bU_n (by decide)).trans (rfl))) (hD.fr j2 (fun q _ => (bU_n (by omega)).trans (rfl))) (hA.fr (fun q _ _ => (bU_n (by omega)).trans (rfl))) (hC.fr ((bU_n (by decide)).trans (rfl))) (hF.fr ((bU_n (by decide)).trans (rfl))) (fun q _ => (bU_n (by omega)).trans (rfl)) (by omega) (by omega)
set_option maxRecDepth 4000 in
theorem m_leave {O : bO} {d : Nat} {f : bF} {n s : Nat} {bs : Nat → Int32} {tl : Nat} {mc : Nat} {md : Nat → MR} {ip : Nat → Int32} {dc : Nat} {dr : Nat → DR} {ac : Nat} {an : Nat → AR} {hs : Bool} {sd : Nat → Int32} {df : Nat → Int32} {dfn : Nat} {td : Nat} {tr : Int32} {ft : Int32} {pl : Int32} {x : Int32} (hX : MP f (bs, tl, mc, md, ip, dc, dr, ac, an, hs, sd, df, dfn, td, tr, ft, pl)) (jX : JJ (bs, tl, mc, md, ip, dc, dr, ac, an, hs, sd, df, dfn, td, tr, ft, pl))  (hd : 1 ≤ d) : bCall O mX11_leave d [.ref 50, .int x] (f, n, s) (pM f n s 0 0 (s_leave (bs, tl, mc, md, ip, dc, dr, ac, an, hs, sd, df, dfn, td, tr, ft, pl) x)) := by
  refine bCall_of (by decide) rfl (Nat.le_of_ble_eq_true rfl) ?_
  obtain ⟨hNS, hT, hM, hI, hP, hD, hA, hC, hF⟩ := id hX
  simp only [] at hNS hT hM hI hP hD hA hC hF
  obtain ⟨j1, j2, j3, j4, j5, j6, j7, j8, j9, j10⟩ := id jX
  simp only [] at j1 j2 j3 j4 j5 j6 j7 j8 j9 j10
  obtain ⟨th_, sz_, at_, so_, pl_, mk_, nu_, di_, br_, iff_, wo_, hO⟩ := id hNS
  obtain ⟨tg9, kd9, sp9, h53, h54, hTb⟩ := id hT
  obtain ⟨ig9, h55, hIp⟩ := id hI
  obtain ⟨pg9, h56⟩ := id hP
  obtain ⟨kp9, aq9, bc9, br9, tu9, h58, h59, h60, h61, h62, hAp⟩ := id hA
  obtain ⟨sg9, h63, hC0, hC1, hC2, hC3, hC4⟩ := id hC
  obtain ⟨dg9, h64, hFp⟩ := id hF
  have bN := nA_b (i := mc) j1
  show bV O _ d 0 [(0, .ref 50), (1, .int x)] [] (f, n, s) _
  refine r_aload_n (n := 0) (i := 0) 0 rfl rfl dX11_leave_0 ?_
  refine r_iconst (v := 0) (by decide) dX11_leave_1 ?_
  refine p_put (fs := [.int th_, .int tr, .int (if tr = 4 then pl else -1), .int ft, .int (nI mc), .ref 51, .ref (nA mc), .ref 53, .ref 54, .int (nI tl), .int sz_, .int at_, .int so_, .int pl_, .int mk_, .int nu_, .int di_, .int br_, .int iff_, .long wo_, .ref 55, .ref 56, .int (nI dc), .int (nI td), .ref 57, .int (nI ac), .ref 58, .ref 59, .ref 60, .ref 61, .ref 62, .ref 63, .int (bI hs), .ref 64, .int (nI dfn)]) (fs' := [.int 0, .int tr, .int (if tr = 4 then pl else -1), .int ft, .int (nI mc), .ref 51, .ref (nA mc), .ref 53, .ref 54, .int (nI tl), .int sz_, .int at_, .int so_, .int pl_, .int mk_, .int nu_, .int di_, .int br_, .int iff_, .long wo_, .ref 55, .ref 56, .int (nI dc), .int (nI td), .ref 57, .int (nI ac), .ref 58, .ref 59, .ref 60, .ref 61, .ref 62, .ref 63, .int (bI hs), .ref 64, .int (nI dfn)]) flX11_71 hO (Nat.le_of_ble_eq_true rfl) (bNf_i _) rfl dX11_leave_2 ?_
  refine r_aload_n (n := 0) (i := 0) 0 rfl rfl dX11_leave_5 ?_
  refine r_iload_n (n := 1) (i := 1) 1 rfl rfl dX11_leave_6 ?_
  refine p_callV (As := [.int x]) (rest := []) (kX11_isDoor (O := O) (d := 0) (f := bU f 50 (.inr (11, [.int 0, .int tr, .int (if tr = 4 then pl else -1), .int ft, .int (nI mc), .ref 51, .ref (nA mc), .ref 53, .ref 54, .int (nI tl), .int sz_, .int at_, .int so_, .int pl_, .int mk_, .int nu_, .int di_, .int br_, .int iff_, .long wo_, .ref 55, .ref 56, .int (nI dc), .int (nI td), .ref 57, .int (nI ac), .ref 58, .ref 59, .ref 60, .ref 61, .ref 62, .ref 63, .int (bI hs), .ref 64, .int (nI dfn)]))) (n := n) (s := s) (th_ := 0) (tr_ := tr) (wh_ := (if tr = 4 then pl else -1)) (fl_ := ft) (nm_ := nI mc) (q_ := nA mc) (tp_ := nI tl) (sz_ := sz_) (at_ := at_) (so_ := so_) (pl_ := pl_) (mk_ := mk_) (nu_ := nu_) (di_ := di_) (br_ := br_) (iff_ := iff_) (wo_ := wo_) (td_ := nI td) (na_ := nI ac) (hs_ := bI hs) (nf_ := nI dfn) (m9 := dc) (x := x) (by exact bU_s _ _ _) (by omega) (Nat.le_refl _)).call rfl lkX11_271 imX11_isDoor seX11_isDoor rfl (by exact bU_s _ _ _) rfl rfl (by omega) (Nat.le_of_ble_eq_true rfl) dX11_leave_7 (fun v9 G9 h9 => ?_) (fun q9 G9 h9 => (by cases h9.1))
  obtain ⟨h8, rfl⟩ := h9; cases h8
  show bV O _ d 10 [(0, .ref 50), (1, .int x)] [.int (bI (inB x dc))] (bU f 50 (.inr (11, [.int 0, .int tr, .int (if tr = 4 then pl else -1), .int ft, .int (nI mc), .ref 51, .ref (nA mc), .ref 53, .ref 54, .int (nI tl), .int sz_, .int at_, .int so_, .int pl_, .int mk_, .int nu_, .int di_, .int br_, .int iff_, .long wo_, .ref 55, .ref 56, .int (nI dc), .int (nI td), .ref 57, .int (nI ac), .ref 58, .ref 59, .ref 60, .ref 61, .ref 62, .ref 63, .int (bI hs), .ref 64, .int (nI dfn)])), n, s) _
  refine r_if_ne (tgt := 19) (by decide) dX11_leave_10 (fun c10 => ?_) (fun c10 => ?_)
  · have c10 := bI_1.mp c10
    refine r_aload_n (n := 0) (i := 0) 0 rfl rfl dX11_leave_19 ?_
    refine p_get (fs := [.int 0, .int tr, .int (if tr = 4 then pl else -1), .int ft, .int (nI mc), .ref 51, .ref (nA mc), .ref 53, .ref 54, .int (nI tl), .int sz_, .int at_, .int so_, .int pl_, .int mk_, .int nu_, .int di_, .int br_, .int iff_, .long wo_, .ref 55, .ref 56, .int (nI dc), .int (nI td), .ref 57, .int (nI ac), .ref 58, .ref 59, .ref 60, .ref 61, .ref 62, .ref 63, .int (bI hs), .ref 64, .int (nI dfn)]) flX11_46 (by exact bU_s _ _ _) rfl dX11_leave_20 ?_
    refine r_iload_n (n := 1) (i := 1) 1 rfl rfl dX11_leave_23 ?_
    refine p_aald (kd := 7) rfl (by exact ((bU_n (by decide)).trans (hD.1))) (vpx c10 j2 (by decide)) dX11_leave_24 ?_
    rw [tab_in c10]
    obtain ⟨lo9, hi9, fm9, dy9, tl9, d0, d1, d2, d3, d4, d5, e1, e2, e3, e4, e5⟩ := hD.2.1 _ (inB_lt c10)
    have bE := eA_b (i := cl x) (by have := inB_lt c10; omega)
    have hfc : d_fc (dr (cl x)) ≤ 20 := (j9 _ (inB_lt c10)).2.1.1
    show bV O _ d 25 [(0, .ref 50), (1, .int x)] [.ref (eA (cl x))] (bU f 50 (.inr (11, [.int 0, .int tr, .int (if tr = 4 then pl else -1), .int ft, .int (nI mc), .ref 51, .ref (nA mc), .ref 53, .ref 54, .int (nI tl), .int sz_, .int at_, .int so_, .int pl_, .int mk_, .int nu_, .int di_, .int br_, .int iff_, .long wo_, .ref 55, .ref 56, .int (nI dc), .int (nI td), .ref 57, .int (nI ac), .ref 58, .ref 59, .ref 60, .ref 61, .ref 62, .ref 63, .int (bI hs), .ref 64, .int (nI dfn)])), n, s) _
    refine p_get (fs := [.int (d_ch (dr (cl x))), .int (d_rv (dr (cl x))), .int (d_sh (dr (cl x))), .int (d_rf (dr (cl x))), .int (nI (d_fc (dr (cl x)))), .int (d_kp (dr (cl x))), .ref ((eA (cl x)) + 1), .ref ((eA (cl x)) + 2), .ref ((eA (cl x)) + 3), .ref ((eA (cl x)) + 4), .ref ((eA (cl x)) + 5)]) flX11_280 (by exact ((bU_n (by omega)).trans (d0))) rfl dX11_leave_25 ?_
    refine r_bipush (v := (-2)) (by decide) dX11_leave_28 ?_
    refine r_icmp_ne (tgt := 39) (by decide) dX11_leave_30 (fun c30 => ?_) (fun c30 => ?_)
    · refine r_aload_n (n := 0) (i := 0) 0 rfl rfl dX11_leave_39 ?_
      refine r_aload_n (n := 0) (i := 0) 0 rfl rfl dX11_leave_40 ?_
      refine p_get (fs := [.int 0, .int tr, .int (if tr = 4 then pl else -1), .int ft, .int (nI mc), .ref 51, .ref (nA mc), .ref 53, .ref 54, .int (nI tl), .int sz_, .int at_, .int so_, .int pl_, .int mk_, .int nu_, .int di_, .int br_, .int iff_, .long wo_, .ref 55, .ref 56, .int (nI dc), .int (nI td), .ref 57, .int (nI ac), .ref 58, .ref 59, .ref 60, .ref 61, .ref 62, .ref 63, .int (bI hs), .ref 64, .int (nI dfn)]) flX11_46 (by exact bU_s _ _ _) rfl dX11_leave_41 ?_
      refine r_iload_n (n := 1) (i := 1) 1 rfl rfl dX11_leave_44 ?_
      refine p_aald (kd := 7) rfl (by exact ((bU_n (by decide)).trans (hD.1))) (vpx c10 j2 (by decide)) dX11_leave_45 ?_
      rw [tab_in c10]
      show bV O _ d 46 [(0, .ref 50), (1, .int x)] [.ref (eA (cl x)), .ref 50] (bU f 50 (.inr (11, [.int 0, .int tr, .int (if tr = 4 then pl else -1), .int ft, .int (nI mc), .ref 51, .ref (nA mc), .ref 53, .ref 54, .int (nI tl), .int sz_, .int at_, .int so_, .int pl_, .int mk_, .int nu_, .int di_, .int br_, .int iff_, .long wo_, .ref 55, .ref 56, .int (nI dc), .int (nI td), .ref 57, .int (nI ac), .ref 58, .ref 59, .ref 60, .ref 61, .ref 62, .ref 63, .int (bI hs), .ref 64, .int (nI dfn)])), n, s) _
      refine p_callV (As := [.ref (eA (cl x))]) (rest := []) (kX11_noRival (O := O) (d := 0) (f := bU f 50 (.inr (11, [.int 0, .int tr, .int (if tr = 4 then pl else -1), .int ft, .int (nI mc), .ref 51, .ref (nA mc), .ref 53, .ref 54, .int (nI tl), .int sz_, .int at_, .int so_, .int pl_, .int mk_, .int nu_, .int di_, .int br_, .int iff_, .long wo_, .ref 55, .ref 56, .int (nI dc), .int (nI td), .ref 57, .int (nI ac), .ref 58, .ref 59, .ref 60, .ref 61, .ref 62, .ref 63, .int (bI hs), .ref 64, .int (nI dfn)]))) (n := n) (s := s) (ch_ := d_ch (dr (cl x))) (rv_ := d_rv (dr (cl x))) (sh_ := d_sh (dr (cl x))) (rf_ := d_rf (dr (cl x))) (bk_ := nI (d_fc (dr (cl x)))) (kp_ := d_kp (dr (cl x))) (q := eA (cl x)) (by exact ((bU_n (by omega)).trans (d0)))  (Nat.le_refl _)).call rfl lkX11_305 imX11_noRival seX11_noRival rfl (by exact bU_s _ _ _) rfl rfl (by omega) (Nat.le_of_ble_eq_true rfl) dX11_leave_46 (fun v9 G9 h9 => ?_) (fun q9 G9 h9 => (by cases h9.1))
      obtain ⟨h8, rfl⟩ := h9; cases h8
      show bV O _ d 49 [(0, .ref 50), (1, .int x)] [] (bU (bU f 50 (.inr (11, [.int 0, .int tr, .int (if tr = 4 then pl else -1), .int ft, .int (nI mc), .ref 51, .ref (nA mc), .ref 53, .ref 54, .int (nI tl), .int sz_, .int at_, .int so_, .int pl_, .int mk_, .int nu_, .int di_, .int br_, .int iff_, .long wo_, .ref 55, .ref 56, .int (nI dc), .int (nI td), .ref 57, .int (nI ac), .ref 58, .ref 59, .ref 60, .ref 61, .ref 62, .ref 63, .int (bI hs), .ref 64, .int (nI dfn)]))) (eA (cl x)) (.inr (8, [.int (d_ch (dr (cl x))), .int (-2), .int 0, .int (d_rf (dr (cl x))), .int (nI (d_fc (dr (cl x)))), .int (d_kp (dr (cl x))), .ref ((eA (cl x)) + 1), .ref ((eA (cl x)) + 2), .ref ((eA (cl x)) + 3), .ref ((eA (cl x)) + 4), .ref ((eA (cl x)) + 5)])), n, s) _
      refine r_aload_n (n := 0) (i := 0) 0 rfl rfl dX11_leave_49 ?_
      refine p_callV (As := []) (rest := []) (kX11_granted (O := O) (d := 0) (f := bU (bU f 50 (.inr (11, [.int 0, .int tr, .int (if tr = 4 then pl else -1), .int ft, .int (nI mc), .ref 51, .ref (nA mc), .ref 53, .ref 54, .int (nI tl), .int sz_, .int at_, .int so_, .int pl_, .int mk_, .int nu_, .int di_, .int br_, .int iff_, .long wo_, .ref 55, .ref 56, .int (nI dc), .int (nI td), .ref 57, .int (nI ac), .ref 58, .ref 59, .ref 60, .ref 61, .ref 62, .ref 63, .int (bI hs), .ref 64, .int (nI dfn)]))) (eA (cl x)) (.inr (8, [.int (d_ch (dr (cl x))), .int (-2), .int 0, .int (d_rf (dr (cl x))), .int (nI (d_fc (dr (cl x)))), .int (d_kp (dr (cl x))), .ref ((eA (cl x)) + 1), .ref ((eA (cl x)) + 2), .ref ((eA (cl x)) + 3), .ref ((eA (cl x)) + 4), .ref ((eA (cl x)) + 5)]))) (n := n) (s := s) (th_ := 0) (tr_ := tr) (wh_ := (if tr = 4 then pl else -1)) (fl_ := ft) (nm_ := nI mc) (q_ := nA mc) (tp_ := nI tl) (sz_ := sz_) (at_ := at_) (so_ := so_) (pl_ := pl_) (mk_ := mk_) (nu_ := nu_) (di_ := di_) (br_ := br_) (iff_ := iff_) (wo_ := wo_) (nd_ := nI dc) (td_ := nI td) (na_ := nI ac) (hs_ := bI hs) (nf_ := nI dfn) (by exact ((bU_n (by omega)).trans (bU_s _ _ _)))  (Nat.le_refl _)).call rfl lkX11_231 imX11_granted seX11_granted rfl (by exact ((bU_n (by omega)).trans (bU_s _ _ _))) rfl rfl (by omega) (Nat.le_of_ble_eq_true rfl) dX11_leave_50 (fun v9 G9 h9 => ?_) (fun q9 G9 h9 => (by cases h9.1))
      obtain ⟨h8, rfl⟩ := h9; cases h8
      refine bV_h (f2 := bU (bU f 50 (.inr (11, [.int 0, .int 0, .int (-1), .int ft, .int (nI mc), .ref 51, .ref (nA mc), .ref 53, .ref 54, .int (nI tl), .int sz_, .int at_, .int so_, .int pl_, .int mk_, .int nu_, .int di_, .int br_, .int iff_, .long wo_, .ref 55, .ref 56, .int (nI dc), .int (nI td), .ref 57, .int (nI ac), .ref 58, .ref 59, .ref 60, .ref 61, .ref 62, .ref 63, .int (bI hs), .ref 64, .int (nI dfn)]))) (eA (cl x)) (.inr (8, [.int (d_ch (dr (cl x))), .int (-2), .int 0, .int (d_rf (dr (cl x))), .int (nI (d_fc (dr (cl x)))), .int (d_kp (dr (cl x))), .ref ((eA (cl x)) + 1), .ref ((eA (cl x)) + 2), .ref ((eA (cl x)) + 3), .ref ((eA (cl x)) + 4), .ref ((eA (cl x)) + 5)]))) (((bU_c (by omega)).trans (congrArg (fun z => bU z (eA (cl x)) (.inr (8, [.int (d_ch (dr (cl x))), .int (-2), .int 0, .int (d_rf (dr (cl x))), .int (nI (d_fc (dr (cl x)))), .int (d_kp (dr (cl x))), .ref ((eA (cl x)) + 1), .ref ((eA (cl x)) + 2), .ref ((eA (cl x)) + 3), .ref ((eA (cl x)) + 4), .ref ((eA (cl x)) + 5)]))) (bU_u _ _ _ _)))) ?_
      show bV O _ d 53 [(0, .ref 50), (1, .int x)] [.int 1] (bU (bU f 50 (.inr (11, [.int 0, .int 0, .int (-1), .int ft, .int (nI mc), .ref 51, .ref (nA mc), .ref 53, .ref 54, .int (nI tl), .int sz_, .int at_, .int so_, .int pl_, .int mk_, .int nu_, .int di_, .int br_, .int iff_, .long wo_, .ref 55, .ref 56, .int (nI dc), .int (nI td), .ref 57, .int (nI ac), .ref 58, .ref 59, .ref 60, .ref 61, .ref 62, .ref 63, .int (bI hs), .ref 64, .int (nI dfn)]))) (eA (cl x)) (.inr (8, [.int (d_ch (dr (cl x))), .int (-2), .int 0, .int (d_rf (dr (cl x))), .int (nI (d_fc (dr (cl x)))), .int (d_kp (dr (cl x))), .ref ((eA (cl x)) + 1), .ref ((eA (cl x)) + 2), .ref ((eA (cl x)) + 3), .ref ((eA (cl x)) + 4), .ref ((eA (cl x)) + 5)])), n, s) _
      refine r_zreturn rfl (by first | decide +kernel | exact narZ _ | assumption) dX11_leave_53 ?_
      all_goals (unfold s_leave; try simp only [])
      all_goals try (first | simp only [if_pos c10] | simp only [if_neg c10] | simp only [if_neg (Bool.eq_false_iff.mp c10)])
      all_goals try (first | simp only [if_pos c30] | simp only [if_neg c30] | simp only [if_neg (Bool.eq_false_iff.mp c30)])
      all_goals exact pM_mk (NS_mk (by exact ((bU_n (by omega)).trans (bU_s _ _ _))) (by first | rfl | exact (if_neg (by decide)).symm | exact (if_pos rfl).symm)) (hT.fr (fun q _ _ => (bU_n (by omega)).trans ((bU_n (by omega)).trans (rfl)))) (hM.fr j1 (fun q _ => (bU_n (by omega)).trans ((bU_n (by omega)).trans (rfl)))) (hI.fr ((bU_n (by omega)).trans ((bU_n (by decide)).trans (rfl)))) (hP.fr ((bU_n (by omega)).trans ((bU_n (by decide)).trans (rfl)))) (hD.put j2 (inB_lt c10) ⟨_, _, _, _, _, (by exact bU_s _ _ _), (by exact ((bU_n (by omega)).trans (((bU_n (by omega)).trans (d1))))), (by exact ((bU_n (by omega)).trans (((bU_n (by omega)).trans (d2))))), (by exact ((bU_n (by omega)).trans (((bU_n (by omega)).trans (d3))))), (by exact ((bU_n (by omega)).trans (((bU_n (by omega)).trans (d4))))), (by exact ((bU_n (by omega)).trans (((bU_n (by omega)).trans (d5))))), e1, e2, e3, e4, e5⟩ (fun q _ => (bU_n (by omega)).trans ((bU_n (by omega)).trans (rfl)))) (hA.fr (fun q _ _ => (bU_n (by omega)).trans ((bU_n (by omega)).trans (rfl)))) (hC.fr ((bU_n (by omega)).trans ((bU_n (by decide)).trans (rfl)))) (hF.fr ((bU_n (by omega)).trans ((bU_n (by decide)).trans (rfl)))) (fun q _ => (bU_n (by omega)).trans ((bU_n (by omega)).trans (rfl))) (by omega) (by omega)
    · refine r_aload_n (n := 0) (i := 0) 0 rfl rfl dX11_leave_33 ?_
      refine r_iconst (v := 5) (by decide) dX11_leave_34 ?_
      refine p_callV (As := [.int 5]) (rest := []) (kX11_denied (O := O) (d := 0) (f := bU f 50 (.inr (11, [.int 0, .int tr, .int (if tr = 4 then pl else -1), .int ft, .int (nI mc), .ref 51, .ref (nA mc), .ref 53, .ref 54, .int (nI tl), .int sz_, .int at_, .int so_, .int pl_, .int mk_, .int nu_, .int di_, .int br_, .int iff_, .long wo_, .ref 55, .ref 56, .int (nI dc), .int (nI td), .ref 57, .int (nI ac), .ref 58, .ref 59, .ref 60, .ref 61, .ref 62, .ref 63, .int (bI hs), .ref 64, .int (nI dfn)]))) (n := n) (s := s) (th_ := 0) (tr_ := tr) (wh_ := (if tr = 4 then pl else -1)) (fl_ := ft) (nm_ := nI mc) (q_ := nA mc) (tp_ := nI tl) (sz_ := sz_) (at_ := at_) (so_ := so_) (pl_ := pl_) (mk_ := mk_) (nu_ := nu_) (di_ := di_) (br_ := br_) (iff_ := iff_) (wo_ := wo_) (nd_ := nI dc) (td_ := nI td) (na_ := nI ac) (hs_ := bI hs) (nf_ := nI dfn) (y := 5) (by exact bU_s _ _ _)  (Nat.le_refl _)).call rfl lkX11_228 imX11_denied seX11_denied rfl (by exact bU_s _ _ _) rfl rfl (by omega) (Nat.le_of_ble_eq_true rfl) dX11_leave_35 (fun v9 G9 h9 => ?_) (fun q9 G9 h9 => (by cases h9.1))
      obtain ⟨h8, rfl⟩ := h9; cases h8
      refine bV_h (f2 := bU f 50 (.inr (11, [.int 0, .int 5, .int (-1), .int ft, .int (nI mc), .ref 51, .ref (nA mc), .ref 53, .ref 54, .int (nI tl), .int sz_, .int at_, .int so_, .int pl_, .int mk_, .int nu_, .int di_, .int br_, .int iff_, .long wo_, .ref 55, .ref 56, .int (nI dc), .int (nI td), .ref 57, .int (nI ac), .ref 58, .ref 59, .ref 60, .ref 61, .ref 62, .ref 63, .int (bI hs), .ref 64, .int (nI dfn)]))) (bU_u _ _ _ _) ?_
      show bV O _ d 38 [(0, .ref 50), (1, .int x)] [.int 0] (bU f 50 (.inr (11, [.int 0, .int 5, .int (-1), .int ft, .int (nI mc), .ref 51, .ref (nA mc), .ref 53, .ref 54, .int (nI tl), .int sz_, .int at_, .int so_, .int pl_, .int mk_, .int nu_, .int di_, .int br_, .int iff_, .long wo_, .ref 55, .ref 56, .int (nI dc), .int (nI td), .ref 57, .int (nI ac), .ref 58, .ref 59, .ref 60, .ref 61, .ref 62, .ref 63, .int (bI hs), .ref 64, .int (nI dfn)])), n, s) _
      refine r_zreturn rfl (by first | decide +kernel | exact narZ _ | assumption) dX11_leave_38 ?_
      all_goals (unfold s_leave; try simp only [])
      all_goals try (first | simp only [if_pos c10] | simp only [if_neg c10] | simp only [if_neg (Bool.eq_false_iff.mp c10)])
      all_goals try (first | simp only [if_pos c30] | simp only [if_neg c30] | simp only [if_neg (Bool.eq_false_iff.mp c30)])
      all_goals exact pM_mk (NS_mk (by exact bU_s _ _ _) (by first | rfl | exact (if_neg (by decide)).symm | exact (if_pos rfl).symm)) (hT.fr (fun q _ _ => (bU_n (by omega)).trans (rfl))) (hM.fr j1 (fun q _ => (bU_n (by omega)).trans (rfl))) (hI.fr ((bU_n (by decide)).trans (rfl))) (hP.fr ((bU_n (by decide)).trans (rfl))) (hD.fr j2 (fun q _ => (bU_n (by omega)).trans (rfl))) (hA.fr (fun q _ _ => (bU_n (by omega)).trans (rfl))) (hC.fr ((bU_n (by decide)).trans (rfl))) (hF.fr ((bU_n (by decide)).trans (rfl))) (fun q _ => (bU_n (by omega)).trans (rfl)) (by omega) (by omega)
  · have c10 := bI_0.mp c10
    refine r_aload_n (n := 0) (i := 0) 0 rfl rfl dX11_leave_13 ?_
    refine r_iconst (v := 1) (by decide) dX11_leave_14 ?_
    refine p_callV (As := [.int 1]) (rest := []) (kX11_denied (O := O) (d := 0) (f := bU f 50 (.inr (11, [.int 0, .int tr, .int (if tr = 4 then pl else -1), .int ft, .int (nI mc), .ref 51, .ref (nA mc), .ref 53, .ref 54, .int (nI tl), .int sz_, .int at_, .int so_, .int pl_, .int mk_, .int nu_, .int di_, .int br_, .int iff_, .long wo_, .ref 55, .ref 56, .int (nI dc), .int (nI td), .ref 57, .int (nI ac), .ref 58, .ref 59, .ref 60, .ref 61, .ref 62, .ref 63, .int (bI hs), .ref 64, .int (nI dfn)]))) (n := n) (s := s) (th_ := 0) (tr_ := tr) (wh_ := (if tr = 4 then pl else -1)) (fl_ := ft) (nm_ := nI mc) (q_ := nA mc) (tp_ := nI tl) (sz_ := sz_) (at_ := at_) (so_ := so_) (pl_ := pl_) (mk_ := mk_) (nu_ := nu_) (di_ := di_) (br_ := br_) (iff_ := iff_) (wo_ := wo_) (nd_ := nI dc) (td_ := nI td) (na_ := nI ac) (hs_ := bI hs) (nf_ := nI dfn) (y := 1) (by exact bU_s _ _ _)  (Nat.le_refl _)).call rfl lkX11_228 imX11_denied seX11_denied rfl (by exact bU_s _ _ _) rfl rfl (by omega) (Nat.le_of_ble_eq_true rfl) dX11_leave_15 (fun v9 G9 h9 => ?_) (fun q9 G9 h9 => (by cases h9.1))
    obtain ⟨h8, rfl⟩ := h9; cases h8
    refine bV_h (f2 := bU f 50 (.inr (11, [.int 0, .int 1, .int (-1), .int ft, .int (nI mc), .ref 51, .ref (nA mc), .ref 53, .ref 54, .int (nI tl), .int sz_, .int at_, .int so_, .int pl_, .int mk_, .int nu_, .int di_, .int br_, .int iff_, .long wo_, .ref 55, .ref 56, .int (nI dc), .int (nI td), .ref 57, .int (nI ac), .ref 58, .ref 59, .ref 60, .ref 61, .ref 62, .ref 63, .int (bI hs), .ref 64, .int (nI dfn)]))) (bU_u _ _ _ _) ?_
    show bV O _ d 18 [(0, .ref 50), (1, .int x)] [.int 0] (bU f 50 (.inr (11, [.int 0, .int 1, .int (-1), .int ft, .int (nI mc), .ref 51, .ref (nA mc), .ref 53, .ref 54, .int (nI tl), .int sz_, .int at_, .int so_, .int pl_, .int mk_, .int nu_, .int di_, .int br_, .int iff_, .long wo_, .ref 55, .ref 56, .int (nI dc), .int (nI td), .ref 57, .int (nI ac), .ref 58, .ref 59, .ref 60, .ref 61, .ref 62, .ref 63, .int (bI hs), .ref 64, .int (nI dfn)])), n, s) _
    refine r_zreturn rfl (by first | decide +kernel | exact narZ _ | assumption) dX11_leave_18 ?_
    all_goals (unfold s_leave; try simp only [])
    all_goals try (first | simp only [if_pos c10] | simp only [if_neg c10] | simp only [if_neg (Bool.eq_false_iff.mp c10)])
    all_goals exact pM_mk (NS_mk (by exact bU_s _ _ _) (by first | rfl | exact (if_neg (by decide)).symm | exact (if_pos rfl).symm)) (hT.fr (fun q _ _ => (bU_n (by omega)).trans (rfl))) (hM.fr j1 (fun q _ => (bU_n (by omega)).trans (rfl))) (hI.fr ((bU_n (by decide)).trans (rfl))) (hP.fr ((bU_n (by decide)).trans (rfl))) (hD.fr j2 (fun q _ => (bU_n (by omega)).trans (rfl))) (hA.fr (fun q _ _ => (bU_n (by omega)).trans (rfl))) (hC.fr ((bU_n (by decide)).trans (rfl))) (hF.fr ((bU_n (by decide)).trans (rfl))) (fun q _ => (bU_n (by omega)).trans (rfl)) (by omega) (by omega)
set_option maxRecDepth 4000 in
theorem m_about {O : bO} {d : Nat} {f : bF} {n s : Nat} {bs : Nat → Int32} {tl : Nat} {mc : Nat} {md : Nat → MR} {ip : Nat → Int32} {dc : Nat} {dr : Nat → DR} {ac : Nat} {an : Nat → AR} {hs : Bool} {sd : Nat → Int32} {df : Nat → Int32} {dfn : Nat} {td : Nat} {tr : Int32} {ft : Int32} {pl : Int32} {x : Int32} {w : Int32} (hX : MP f (bs, tl, mc, md, ip, dc, dr, ac, an, hs, sd, df, dfn, td, tr, ft, pl)) (jX : JJ (bs, tl, mc, md, ip, dc, dr, ac, an, hs, sd, df, dfn, td, tr, ft, pl))  (hd : 1 ≤ d) : bCall O mX11_about d [.ref 50, .int x, .int w] (f, n, s) (pM f n s 0 0 (s_about (bs, tl, mc, md, ip, dc, dr, ac, an, hs, sd, df, dfn, td, tr, ft, pl) x w)) := by
  refine bCall_of (by decide) rfl (Nat.le_of_ble_eq_true rfl) ?_
  obtain ⟨hNS, hT, hM, hI, hP, hD, hA, hC, hF⟩ := id hX
  simp only [] at hNS hT hM hI hP hD hA hC hF
  obtain ⟨j1, j2, j3, j4, j5, j6, j7, j8, j9, j10⟩ := id jX
  simp only [] at j1 j2 j3 j4 j5 j6 j7 j8 j9 j10
  obtain ⟨th_, sz_, at_, so_, pl_, mk_, nu_, di_, br_, iff_, wo_, hO⟩ := id hNS
  obtain ⟨tg9, kd9, sp9, h53, h54, hTb⟩ := id hT
  obtain ⟨ig9, h55, hIp⟩ := id hI
  obtain ⟨pg9, h56⟩ := id hP
  obtain ⟨kp9, aq9, bc9, br9, tu9, h58, h59, h60, h61, h62, hAp⟩ := id hA
  obtain ⟨sg9, h63, hC0, hC1, hC2, hC3, hC4⟩ := id hC
  obtain ⟨dg9, h64, hFp⟩ := id hF
  have bN := nA_b (i := mc) j1
  show bV O _ d 0 [(0, .ref 50), (1, .int x), (2, .int w)] [] (f, n, s) _
  refine r_aload_n (n := 0) (i := 0) 0 rfl rfl dX11_about_0 ?_
  refine r_iconst (v := 0) (by decide) dX11_about_1 ?_
  refine p_put (fs := [.int th_, .int tr, .int (if tr = 4 then pl else -1), .int ft, .int (nI mc), .ref 51, .ref (nA mc), .ref 53, .ref 54, .int (nI tl), .int sz_, .int at_, .int so_, .int pl_, .int mk_, .int nu_, .int di_, .int br_, .int iff_, .long wo_, .ref 55, .ref 56, .int (nI dc), .int (nI td), .ref 57, .int (nI ac), .ref 58, .ref 59, .ref 60, .ref 61, .ref 62, .ref 63, .int (bI hs), .ref 64, .int (nI dfn)]) (fs' := [.int 0, .int tr, .int (if tr = 4 then pl else -1), .int ft, .int (nI mc), .ref 51, .ref (nA mc), .ref 53, .ref 54, .int (nI tl), .int sz_, .int at_, .int so_, .int pl_, .int mk_, .int nu_, .int di_, .int br_, .int iff_, .long wo_, .ref 55, .ref 56, .int (nI dc), .int (nI td), .ref 57, .int (nI ac), .ref 58, .ref 59, .ref 60, .ref 61, .ref 62, .ref 63, .int (bI hs), .ref 64, .int (nI dfn)]) flX11_71 hO (Nat.le_of_ble_eq_true rfl) (bNf_i _) rfl dX11_about_2 ?_
  refine r_aload_n (n := 0) (i := 0) 0 rfl rfl dX11_about_5 ?_
  refine r_iload_n (n := 1) (i := 1) 1 rfl rfl dX11_about_6 ?_
  refine p_callV (As := [.int x]) (rest := []) (kX11_isDoor (O := O) (d := 0) (f := bU f 50 (.inr (11, [.int 0, .int tr, .int (if tr = 4 then pl else -1), .int ft, .int (nI mc), .ref 51, .ref (nA mc), .ref 53, .ref 54, .int (nI tl), .int sz_, .int at_, .int so_, .int pl_, .int mk_, .int nu_, .int di_, .int br_, .int iff_, .long wo_, .ref 55, .ref 56, .int (nI dc), .int (nI td), .ref 57, .int (nI ac), .ref 58, .ref 59, .ref 60, .ref 61, .ref 62, .ref 63, .int (bI hs), .ref 64, .int (nI dfn)]))) (n := n) (s := s) (th_ := 0) (tr_ := tr) (wh_ := (if tr = 4 then pl else -1)) (fl_ := ft) (nm_ := nI mc) (q_ := nA mc) (tp_ := nI tl) (sz_ := sz_) (at_ := at_) (so_ := so_) (pl_ := pl_) (mk_ := mk_) (nu_ := nu_) (di_ := di_) (br_ := br_) (iff_ := iff_) (wo_ := wo_) (td_ := nI td) (na_ := nI ac) (hs_ := bI hs) (nf_ := nI dfn) (m9 := dc) (x := x) (by exact bU_s _ _ _) (by omega) (Nat.le_refl _)).call rfl lkX11_271 imX11_isDoor seX11_isDoor rfl (by exact bU_s _ _ _) rfl rfl (by omega) (Nat.le_of_ble_eq_true rfl) dX11_about_7 (fun v9 G9 h9 => ?_) (fun q9 G9 h9 => (by cases h9.1))
  obtain ⟨h8, rfl⟩ := h9; cases h8
  show bV O _ d 10 [(0, .ref 50), (1, .int x), (2, .int w)] [.int (bI (inB x dc))] (bU f 50 (.inr (11, [.int 0, .int tr, .int (if tr = 4 then pl else -1), .int ft, .int (nI mc), .ref 51, .ref (nA mc), .ref 53, .ref 54, .int (nI tl), .int sz_, .int at_, .int so_, .int pl_, .int mk_, .int nu_, .int di_, .int br_, .int iff_, .long wo_, .ref 55, .ref 56, .int (nI dc), .int (nI td), .ref 57, .int (nI ac), .ref 58, .ref 59, .ref 60, .ref 61, .ref 62, .ref 63, .int (bI hs), .ref 64, .int (nI dfn)])), n, s) _
  refine r_if_ne (tgt := 15) (by decide) dX11_about_10 (fun c10 => ?_) (fun c10 => ?_)
  · have c10 := bI_1.mp c10
    refine r_aload_n (n := 0) (i := 0) 0 rfl rfl dX11_about_15 ?_
    refine p_get (fs := [.int 0, .int tr, .int (if tr = 4 then pl else -1), .int ft, .int (nI mc), .ref 51, .ref (nA mc), .ref 53, .ref 54, .int (nI tl), .int sz_, .int at_, .int so_, .int pl_, .int mk_, .int nu_, .int di_, .int br_, .int iff_, .long wo_, .ref 55, .ref 56, .int (nI dc), .int (nI td), .ref 57, .int (nI ac), .ref 58, .ref 59, .ref 60, .ref 61, .ref 62, .ref 63, .int (bI hs), .ref 64, .int (nI dfn)]) flX11_46 (by exact bU_s _ _ _) rfl dX11_about_16 ?_
    refine r_iload_n (n := 1) (i := 1) 1 rfl rfl dX11_about_19 ?_
    refine p_aald (kd := 7) rfl (by exact ((bU_n (by decide)).trans (hD.1))) (vpx c10 j2 (by decide)) dX11_about_20 ?_
    rw [tab_in c10]
    obtain ⟨lo9, hi9, fm9, dy9, tl9, d0, d1, d2, d3, d4, d5, e1, e2, e3, e4, e5⟩ := hD.2.1 _ (inB_lt c10)
    have bE := eA_b (i := cl x) (by have := inB_lt c10; omega)
    have hfc : d_fc (dr (cl x)) ≤ 20 := (j9 _ (inB_lt c10)).2.1.1
    show bV O _ d 21 [(0, .ref 50), (1, .int x), (2, .int w)] [.ref (eA (cl x))] (bU f 50 (.inr (11, [.int 0, .int tr, .int (if tr = 4 then pl else -1), .int ft, .int (nI mc), .ref 51, .ref (nA mc), .ref 53, .ref 54, .int (nI tl), .int sz_, .int at_, .int so_, .int pl_, .int mk_, .int nu_, .int di_, .int br_, .int iff_, .long wo_, .ref 55, .ref 56, .int (nI dc), .int (nI td), .ref 57, .int (nI ac), .ref 58, .ref 59, .ref 60, .ref 61, .ref 62, .ref 63, .int (bI hs), .ref 64, .int (nI dfn)])), n, s) _
    refine r_astore_n (n := 3) (i := 3) (L' := [(3, .ref (eA (cl x))), (0, .ref 50), (1, .int x), (2, .int w)]) rfl dX11_about_21 (by decide) rfl ?_
    refine r_iload_n (n := 2) (i := 2) 3 rfl rfl dX11_about_22 ?_
    by_cases q23_0 : w = 0
    · refine r_tableIn (off := 37) (tgt := 60) dX11_about_23 (by rw [q23_0]; decide) (by rw [q23_0]; decide) (by rw [q23_0]; decide) (by decide) ?_
      refine r_aload_n (n := 3) (i := 3) 0 rfl rfl dX11_about_60 ?_
      refine p_get (fs := [.int (d_ch (dr (cl x))), .int (d_rv (dr (cl x))), .int (d_sh (dr (cl x))), .int (d_rf (dr (cl x))), .int (nI (d_fc (dr (cl x)))), .int (d_kp (dr (cl x))), .ref ((eA (cl x)) + 1), .ref ((eA (cl x)) + 2), .ref ((eA (cl x)) + 3), .ref ((eA (cl x)) + 4), .ref ((eA (cl x)) + 5)]) flX11_286 (by exact ((bU_n (by omega)).trans (d0))) rfl dX11_about_61 ?_
      refine r_ireturn rfl dX11_about_64 ?_
      all_goals (unfold s_about; try simp only [])
      all_goals try (first | simp only [if_pos c10] | simp only [if_neg c10] | simp only [if_neg (Bool.eq_false_iff.mp c10)])
      all_goals try (first | simp only [if_pos q23_0] | simp only [if_neg q23_0] | simp only [if_neg (Bool.eq_false_iff.mp q23_0)])
      all_goals exact pM_mk (NS_mk (by exact bU_s _ _ _) (by first | rfl | exact (if_neg (by decide)).symm | exact (if_pos rfl).symm)) (hT.fr (fun q _ _ => (bU_n (by omega)).trans (rfl))) (hM.fr j1 (fun q _ => (bU_n (by omega)).trans (rfl))) (hI.fr ((bU_n (by decide)).trans (rfl))) (hP.fr ((bU_n (by decide)).trans (rfl))) (hD.fr j2 (fun q _ => (bU_n (by omega)).trans (rfl))) (hA.fr (fun q _ _ => (bU_n (by omega)).trans (rfl))) (hC.fr ((bU_n (by decide)).trans (rfl))) (hF.fr ((bU_n (by decide)).trans (rfl))) (fun q _ => (bU_n (by omega)).trans (rfl)) (by omega) (by omega)
    · by_cases q23_1 : w = 1
      · refine r_tableIn (off := 42) (tgt := 65) dX11_about_23 (by rw [q23_1]; decide) (by rw [q23_1]; decide) (by rw [q23_1]; decide) (by decide) ?_
        refine r_aload_n (n := 3) (i := 3) 0 rfl rfl dX11_about_65 ?_
        refine p_get (fs := [.int (d_ch (dr (cl x))), .int (d_rv (dr (cl x))), .int (d_sh (dr (cl x))), .int (d_rf (dr (cl x))), .int (nI (d_fc (dr (cl x)))), .int (d_kp (dr (cl x))), .ref ((eA (cl x)) + 1), .ref ((eA (cl x)) + 2), .ref ((eA (cl x)) + 3), .ref ((eA (cl x)) + 4), .ref ((eA (cl x)) + 5)]) flX11_280 (by exact ((bU_n (by omega)).trans (d0))) rfl dX11_about_66 ?_
        refine r_ireturn rfl dX11_about_69 ?_
        all_goals (unfold s_about; try simp only [])
        all_goals try (first | simp only [if_pos c10] | simp only [if_neg c10] | simp only [if_neg (Bool.eq_false_iff.mp c10)])
        all_goals try (first | simp only [if_pos q23_0] | simp only [if_neg q23_0] | simp only [if_neg (Bool.eq_false_iff.mp q23_0)])
        all_goals try (first | simp only [if_pos q23_1] | simp only [if_neg q23_1] | simp only [if_neg (Bool.eq_false_iff.mp q23_1)])
        all_goals exact pM_mk (NS_mk (by exact bU_s _ _ _) (by first | rfl | exact (if_neg (by decide)).symm | exact (if_pos rfl).symm)) (hT.fr (fun q _ _ => (bU_n (by omega)).trans (rfl))) (hM.fr j1 (fun q _ => (bU_n (by omega)).trans (rfl))) (hI.fr ((bU_n (by decide)).trans (rfl))) (hP.fr ((bU_n (by decide)).trans (rfl))) (hD.fr j2 (fun q _ => (bU_n (by omega)).trans (rfl))) (hA.fr (fun q _ _ => (bU_n (by omega)).trans (rfl))) (hC.fr ((bU_n (by decide)).trans (rfl))) (hF.fr ((bU_n (by decide)).trans (rfl))) (fun q _ => (bU_n (by omega)).trans (rfl)) (by omega) (by omega)
      · by_cases q23_2 : w = 2
        · refine r_tableIn (off := 47) (tgt := 70) dX11_about_23 (by rw [q23_2]; decide) (by rw [q23_2]; decide) (by rw [q23_2]; decide) (by decide) ?_
          refine r_aload_n (n := 3) (i := 3) 0 rfl rfl dX11_about_70 ?_
          refine p_get (fs := [.int (d_ch (dr (cl x))), .int (d_rv (dr (cl x))), .int (d_sh (dr (cl x))), .int (d_rf (dr (cl x))), .int (nI (d_fc (dr (cl x)))), .int (d_kp (dr (cl x))), .ref ((eA (cl x)) + 1), .ref ((eA (cl x)) + 2), .ref ((eA (cl x)) + 3), .ref ((eA (cl x)) + 4), .ref ((eA (cl x)) + 5)]) flX11_283 (by exact ((bU_n (by omega)).trans (d0))) rfl dX11_about_71 ?_
          refine r_ireturn rfl dX11_about_74 ?_
          all_goals (unfold s_about; try simp only [])
          all_goals try (first | simp only [if_pos c10] | simp only [if_neg c10] | simp only [if_neg (Bool.eq_false_iff.mp c10)])
          all_goals try (first | simp only [if_pos q23_0] | simp only [if_neg q23_0] | simp only [if_neg (Bool.eq_false_iff.mp q23_0)])
          all_goals try (first | simp only [if_pos q23_1] | simp only [if_neg q23_1] | simp only [if_neg (Bool.eq_false_iff.mp q23_1)])
          all_goals try (first | simp only [if_pos q23_2] | simp only [if_neg q23_2] | simp only [if_neg (Bool.eq_false_iff.mp q23_2)])
          all_goals exact pM_mk (NS_mk (by exact bU_s _ _ _) (by first | rfl | exact (if_neg (by decide)).symm | exact (if_pos rfl).symm)) (hT.fr (fun q _ _ => (bU_n (by omega)).trans (rfl))) (hM.fr j1 (fun q _ => (bU_n (by omega)).trans (rfl))) (hI.fr ((bU_n (by decide)).trans (rfl))) (hP.fr ((bU_n (by decide)).trans (rfl))) (hD.fr j2 (fun q _ => (bU_n (by omega)).trans (rfl))) (hA.fr (fun q _ _ => (bU_n (by omega)).trans (rfl))) (hC.fr ((bU_n (by decide)).trans (rfl))) (hF.fr ((bU_n (by decide)).trans (rfl))) (fun q _ => (bU_n (by omega)).trans (rfl)) (by omega) (by omega)
        · by_cases q23_3 : w = 3
          · refine r_tableIn (off := 52) (tgt := 75) dX11_about_23 (by rw [q23_3]; decide) (by rw [q23_3]; decide) (by rw [q23_3]; decide) (by decide) ?_
            refine r_aload_n (n := 3) (i := 3) 0 rfl rfl dX11_about_75 ?_
            refine p_get (fs := [.int (d_ch (dr (cl x))), .int (d_rv (dr (cl x))), .int (d_sh (dr (cl x))), .int (d_rf (dr (cl x))), .int (nI (d_fc (dr (cl x)))), .int (d_kp (dr (cl x))), .ref ((eA (cl x)) + 1), .ref ((eA (cl x)) + 2), .ref ((eA (cl x)) + 3), .ref ((eA (cl x)) + 4), .ref ((eA (cl x)) + 5)]) flX11_309 (by exact ((bU_n (by omega)).trans (d0))) rfl dX11_about_76 ?_
            refine r_ireturn rfl dX11_about_79 ?_
            all_goals (unfold s_about; try simp only [])
            all_goals try (first | simp only [if_pos c10] | simp only [if_neg c10] | simp only [if_neg (Bool.eq_false_iff.mp c10)])
            all_goals try (first | simp only [if_pos q23_0] | simp only [if_neg q23_0] | simp only [if_neg (Bool.eq_false_iff.mp q23_0)])
            all_goals try (first | simp only [if_pos q23_1] | simp only [if_neg q23_1] | simp only [if_neg (Bool.eq_false_iff.mp q23_1)])
            all_goals try (first | simp only [if_pos q23_2] | simp only [if_neg q23_2] | simp only [if_neg (Bool.eq_false_iff.mp q23_2)])
            all_goals try (first | simp only [if_pos q23_3] | simp only [if_neg q23_3] | simp only [if_neg (Bool.eq_false_iff.mp q23_3)])
            all_goals exact pM_mk (NS_mk (by exact bU_s _ _ _) (by first | rfl | exact (if_neg (by decide)).symm | exact (if_pos rfl).symm)) (hT.fr (fun q _ _ => (bU_n (by omega)).trans (rfl))) (hM.fr j1 (fun q _ => (bU_n (by omega)).trans (rfl))) (hI.fr ((bU_n (by decide)).trans (rfl))) (hP.fr ((bU_n (by decide)).trans (rfl))) (hD.fr j2 (fun q _ => (bU_n (by omega)).trans (rfl))) (hA.fr (fun q _ _ => (bU_n (by omega)).trans (rfl))) (hC.fr ((bU_n (by decide)).trans (rfl))) (hF.fr ((bU_n (by decide)).trans (rfl))) (fun q _ => (bU_n (by omega)).trans (rfl)) (by omega) (by omega)
          · by_cases q23_4 : w = 4
            · refine r_tableIn (off := 57) (tgt := 80) dX11_about_23 (by rw [q23_4]; decide) (by rw [q23_4]; decide) (by rw [q23_4]; decide) (by decide) ?_
              refine r_aload_n (n := 3) (i := 3) 0 rfl rfl dX11_about_80 ?_
              refine p_get (fs := [.int (d_ch (dr (cl x))), .int (d_rv (dr (cl x))), .int (d_sh (dr (cl x))), .int (d_rf (dr (cl x))), .int (nI (d_fc (dr (cl x)))), .int (d_kp (dr (cl x))), .ref ((eA (cl x)) + 1), .ref ((eA (cl x)) + 2), .ref ((eA (cl x)) + 3), .ref ((eA (cl x)) + 4), .ref ((eA (cl x)) + 5)]) flX11_311 (by exact ((bU_n (by omega)).trans (d0))) rfl dX11_about_81 ?_
              refine r_ireturn rfl dX11_about_84 ?_
              all_goals (unfold s_about; try simp only [])
              all_goals try (first | simp only [if_pos c10] | simp only [if_neg c10] | simp only [if_neg (Bool.eq_false_iff.mp c10)])
              all_goals try (first | simp only [if_pos q23_0] | simp only [if_neg q23_0] | simp only [if_neg (Bool.eq_false_iff.mp q23_0)])
              all_goals try (first | simp only [if_pos q23_1] | simp only [if_neg q23_1] | simp only [if_neg (Bool.eq_false_iff.mp q23_1)])
              all_goals try (first | simp only [if_pos q23_2] | simp only [if_neg q23_2] | simp only [if_neg (Bool.eq_false_iff.mp q23_2)])
              all_goals try (first | simp only [if_pos q23_3] | simp only [if_neg q23_3] | simp only [if_neg (Bool.eq_false_iff.mp q23_3)])
              all_goals try (first | simp only [if_pos q23_4] | simp only [if_neg q23_4] | simp only [if_neg (Bool.eq_false_iff.mp q23_4)])
              all_goals exact pM_mk (NS_mk (by exact bU_s _ _ _) (by first | rfl | exact (if_neg (by decide)).symm | exact (if_pos rfl).symm)) (hT.fr (fun q _ _ => (bU_n (by omega)).trans (rfl))) (hM.fr j1 (fun q _ => (bU_n (by omega)).trans (rfl))) (hI.fr ((bU_n (by decide)).trans (rfl))) (hP.fr ((bU_n (by decide)).trans (rfl))) (hD.fr j2 (fun q _ => (bU_n (by omega)).trans (rfl))) (hA.fr (fun q _ _ => (bU_n (by omega)).trans (rfl))) (hC.fr ((bU_n (by decide)).trans (rfl))) (hF.fr ((bU_n (by decide)).trans (rfl))) (fun q _ => (bU_n (by omega)).trans (rfl)) (by omega) (by omega)
            · by_cases q23_5 : w = 5
              · refine r_tableIn (off := 62) (tgt := 85) dX11_about_23 (by rw [q23_5]; decide) (by rw [q23_5]; decide) (by rw [q23_5]; decide) (by decide) ?_
                refine r_aload_n (n := 3) (i := 3) 0 rfl rfl dX11_about_85 ?_
                refine p_get (fs := [.int (d_ch (dr (cl x))), .int (d_rv (dr (cl x))), .int (d_sh (dr (cl x))), .int (d_rf (dr (cl x))), .int (nI (d_fc (dr (cl x)))), .int (d_kp (dr (cl x))), .ref ((eA (cl x)) + 1), .ref ((eA (cl x)) + 2), .ref ((eA (cl x)) + 3), .ref ((eA (cl x)) + 4), .ref ((eA (cl x)) + 5)]) flX11_295 (by exact ((bU_n (by omega)).trans (d0))) rfl dX11_about_86 ?_
                refine r_ireturn rfl dX11_about_89 ?_
                all_goals (unfold s_about; try simp only [])
                all_goals try (first | simp only [if_pos c10] | simp only [if_neg c10] | simp only [if_neg (Bool.eq_false_iff.mp c10)])
                all_goals try (first | simp only [if_pos q23_0] | simp only [if_neg q23_0] | simp only [if_neg (Bool.eq_false_iff.mp q23_0)])
                all_goals try (first | simp only [if_pos q23_1] | simp only [if_neg q23_1] | simp only [if_neg (Bool.eq_false_iff.mp q23_1)])
                all_goals try (first | simp only [if_pos q23_2] | simp only [if_neg q23_2] | simp only [if_neg (Bool.eq_false_iff.mp q23_2)])
                all_goals try (first | simp only [if_pos q23_3] | simp only [if_neg q23_3] | simp only [if_neg (Bool.eq_false_iff.mp q23_3)])
                all_goals try (first | simp only [if_pos q23_4] | simp only [if_neg q23_4] | simp only [if_neg (Bool.eq_false_iff.mp q23_4)])
                all_goals try (first | simp only [if_pos q23_5] | simp only [if_neg q23_5] | simp only [if_neg (Bool.eq_false_iff.mp q23_5)])
                all_goals exact pM_mk (NS_mk (by exact bU_s _ _ _) (by first | rfl | exact (if_neg (by decide)).symm | exact (if_pos rfl).symm)) (hT.fr (fun q _ _ => (bU_n (by omega)).trans (rfl))) (hM.fr j1 (fun q _ => (bU_n (by omega)).trans (rfl))) (hI.fr ((bU_n (by decide)).trans (rfl))) (hP.fr ((bU_n (by decide)).trans (rfl))) (hD.fr j2 (fun q _ => (bU_n (by omega)).trans (rfl))) (hA.fr (fun q _ _ => (bU_n (by omega)).trans (rfl))) (hC.fr ((bU_n (by decide)).trans (rfl))) (hF.fr ((bU_n (by decide)).trans (rfl))) (fun q _ => (bU_n (by omega)).trans (rfl)) (by omega) (by omega)
              · refine r_tableOut (tgt := 90) dX11_about_23 (tbO6 w q23_0 q23_1 q23_2 q23_3 q23_4 q23_5) (by decide) ?_
                refine r_iconst (v := (-1)) (by decide) dX11_about_90 ?_
                refine r_ireturn rfl dX11_about_91 ?_
                all_goals (unfold s_about; try simp only [])
                all_goals try (first | simp only [if_pos c10] | simp only [if_neg c10] | simp only [if_neg (Bool.eq_false_iff.mp c10)])
                all_goals try (first | simp only [if_pos q23_0] | simp only [if_neg q23_0] | simp only [if_neg (Bool.eq_false_iff.mp q23_0)])
                all_goals try (first | simp only [if_pos q23_1] | simp only [if_neg q23_1] | simp only [if_neg (Bool.eq_false_iff.mp q23_1)])
                all_goals try (first | simp only [if_pos q23_2] | simp only [if_neg q23_2] | simp only [if_neg (Bool.eq_false_iff.mp q23_2)])
                all_goals try (first | simp only [if_pos q23_3] | simp only [if_neg q23_3] | simp only [if_neg (Bool.eq_false_iff.mp q23_3)])
                all_goals try (first | simp only [if_pos q23_4] | simp only [if_neg q23_4] | simp only [if_neg (Bool.eq_false_iff.mp q23_4)])
                all_goals try (first | simp only [if_pos q23_5] | simp only [if_neg q23_5] | simp only [if_neg (Bool.eq_false_iff.mp q23_5)])
                all_goals exact pM_mk (NS_mk (by exact bU_s _ _ _) (by first | rfl | exact (if_neg (by decide)).symm | exact (if_pos rfl).symm)) (hT.fr (fun q _ _ => (bU_n (by omega)).trans (rfl))) (hM.fr j1 (fun q _ => (bU_n (by omega)).trans (rfl))) (hI.fr ((bU_n (by decide)).trans (rfl))) (hP.fr ((bU_n (by decide)).trans (rfl))) (hD.fr j2 (fun q _ => (bU_n (by omega)).trans (rfl))) (hA.fr (fun q _ _ => (bU_n (by omega)).trans (rfl))) (hC.fr ((bU_n (by decide)).trans (rfl))) (hF.fr ((bU_n (by decide)).trans (rfl))) (fun q _ => (bU_n (by omega)).trans (rfl)) (by omega) (by omega)
  · have c10 := bI_0.mp c10
    refine r_iconst (v := (-1)) (by decide) dX11_about_13 ?_
    refine r_ireturn rfl dX11_about_14 ?_
    all_goals (unfold s_about; try simp only [])
    all_goals try (first | simp only [if_pos c10] | simp only [if_neg c10] | simp only [if_neg (Bool.eq_false_iff.mp c10)])
    all_goals exact pM_mk (NS_mk (by exact bU_s _ _ _) (by first | rfl | exact (if_neg (by decide)).symm | exact (if_pos rfl).symm)) (hT.fr (fun q _ _ => (bU_n (by omega)).trans (rfl))) (hM.fr j1 (fun q _ => (bU_n (by omega)).trans (rfl))) (hI.fr ((bU_n (by decide)).trans (rfl))) (hP.fr ((bU_n (by decide)).trans (rfl))) (hD.fr j2 (fun q _ => (bU_n (by omega)).trans (rfl))) (hA.fr (fun q _ _ => (bU_n (by omega)).trans (rfl))) (hC.fr ((bU_n (by decide)).trans (rfl))) (hF.fr ((bU_n (by decide)).trans (rfl))) (fun q _ => (bU_n (by omega)).trans (rfl)) (by omega) (by omega)
set_option maxRecDepth 4000 in
theorem m_guard {O : bO} {d : Nat} {f : bF} {n s : Nat} {bs : Nat → Int32} {tl : Nat} {mc : Nat} {md : Nat → MR} {ip : Nat → Int32} {dc : Nat} {dr : Nat → DR} {ac : Nat} {an : Nat → AR} {hs : Bool} {sd : Nat → Int32} {df : Nat → Int32} {dfn : Nat} {td : Nat} {tr : Int32} {ft : Int32} {pl : Int32} {x : Int32} {k : Int32} {l : Int32} {h : Int32} (hX : MP f (bs, tl, mc, md, ip, dc, dr, ac, an, hs, sd, df, dfn, td, tr, ft, pl)) (jX : JJ (bs, tl, mc, md, ip, dc, dr, ac, an, hs, sd, df, dfn, td, tr, ft, pl))  (hd : 1 ≤ d) : bCall O mX11_guard d [.ref 50, .int x, .int k, .int l, .int h] (f, n, s) (pM f n s 0 0 (s_guard (bs, tl, mc, md, ip, dc, dr, ac, an, hs, sd, df, dfn, td, tr, ft, pl) x k l h)) := by
  refine bCall_of (by decide) rfl (Nat.le_of_ble_eq_true rfl) ?_
  obtain ⟨hNS, hT, hM, hI, hP, hD, hA, hC, hF⟩ := id hX
  simp only [] at hNS hT hM hI hP hD hA hC hF
  obtain ⟨j1, j2, j3, j4, j5, j6, j7, j8, j9, j10⟩ := id jX
  simp only [] at j1 j2 j3 j4 j5 j6 j7 j8 j9 j10
  obtain ⟨th_, sz_, at_, so_, pl_, mk_, nu_, di_, br_, iff_, wo_, hO⟩ := id hNS
  obtain ⟨tg9, kd9, sp9, h53, h54, hTb⟩ := id hT
  obtain ⟨ig9, h55, hIp⟩ := id hI
  obtain ⟨pg9, h56⟩ := id hP
  obtain ⟨kp9, aq9, bc9, br9, tu9, h58, h59, h60, h61, h62, hAp⟩ := id hA
  obtain ⟨sg9, h63, hC0, hC1, hC2, hC3, hC4⟩ := id hC
  obtain ⟨dg9, h64, hFp⟩ := id hF
  have bN := nA_b (i := mc) j1
  show bV O _ d 0 [(0, .ref 50), (1, .int x), (2, .int k), (3, .int l), (4, .int h)] [] (f, n, s) _
  refine r_aload_n (n := 0) (i := 0) 0 rfl rfl dX11_guard_0 ?_
  refine r_iconst (v := 0) (by decide) dX11_guard_1 ?_
  refine p_put (fs := [.int th_, .int tr, .int (if tr = 4 then pl else -1), .int ft, .int (nI mc), .ref 51, .ref (nA mc), .ref 53, .ref 54, .int (nI tl), .int sz_, .int at_, .int so_, .int pl_, .int mk_, .int nu_, .int di_, .int br_, .int iff_, .long wo_, .ref 55, .ref 56, .int (nI dc), .int (nI td), .ref 57, .int (nI ac), .ref 58, .ref 59, .ref 60, .ref 61, .ref 62, .ref 63, .int (bI hs), .ref 64, .int (nI dfn)]) (fs' := [.int 0, .int tr, .int (if tr = 4 then pl else -1), .int ft, .int (nI mc), .ref 51, .ref (nA mc), .ref 53, .ref 54, .int (nI tl), .int sz_, .int at_, .int so_, .int pl_, .int mk_, .int nu_, .int di_, .int br_, .int iff_, .long wo_, .ref 55, .ref 56, .int (nI dc), .int (nI td), .ref 57, .int (nI ac), .ref 58, .ref 59, .ref 60, .ref 61, .ref 62, .ref 63, .int (bI hs), .ref 64, .int (nI dfn)]) flX11_71 hO (Nat.le_of_ble_eq_true rfl) (bNf_i _) rfl dX11_guard_2 ?_
  refine r_aload_n (n := 0) (i := 0) 0 rfl rfl dX11_guard_5 ?_
  refine r_iload_n (n := 1) (i := 1) 1 rfl rfl dX11_guard_6 ?_
  refine p_callV (As := [.int x]) (rest := []) (kX11_isDoor (O := O) (d := 0) (f := bU f 50 (.inr (11, [.int 0, .int tr, .int (if tr = 4 then pl else -1), .int ft, .int (nI mc), .ref 51, .ref (nA mc), .ref 53, .ref 54, .int (nI tl), .int sz_, .int at_, .int so_, .int pl_, .int mk_, .int nu_, .int di_, .int br_, .int iff_, .long wo_, .ref 55, .ref 56, .int (nI dc), .int (nI td), .ref 57, .int (nI ac), .ref 58, .ref 59, .ref 60, .ref 61, .ref 62, .ref 63, .int (bI hs), .ref 64, .int (nI dfn)]))) (n := n) (s := s) (th_ := 0) (tr_ := tr) (wh_ := (if tr = 4 then pl else -1)) (fl_ := ft) (nm_ := nI mc) (q_ := nA mc) (tp_ := nI tl) (sz_ := sz_) (at_ := at_) (so_ := so_) (pl_ := pl_) (mk_ := mk_) (nu_ := nu_) (di_ := di_) (br_ := br_) (iff_ := iff_) (wo_ := wo_) (td_ := nI td) (na_ := nI ac) (hs_ := bI hs) (nf_ := nI dfn) (m9 := dc) (x := x) (by exact bU_s _ _ _) (by omega) (Nat.le_refl _)).call rfl lkX11_271 imX11_isDoor seX11_isDoor rfl (by exact bU_s _ _ _) rfl rfl (by omega) (Nat.le_of_ble_eq_true rfl) dX11_guard_7 (fun v9 G9 h9 => ?_) (fun q9 G9 h9 => (by cases h9.1))
  obtain ⟨h8, rfl⟩ := h9; cases h8
  show bV O _ d 10 [(0, .ref 50), (1, .int x), (2, .int k), (3, .int l), (4, .int h)] [.int (bI (inB x dc))] (bU f 50 (.inr (11, [.int 0, .int tr, .int (if tr = 4 then pl else -1), .int ft, .int (nI mc), .ref 51, .ref (nA mc), .ref 53, .ref 54, .int (nI tl), .int sz_, .int at_, .int so_, .int pl_, .int mk_, .int nu_, .int di_, .int br_, .int iff_, .long wo_, .ref 55, .ref 56, .int (nI dc), .int (nI td), .ref 57, .int (nI ac), .ref 58, .ref 59, .ref 60, .ref 61, .ref 62, .ref 63, .int (bI hs), .ref 64, .int (nI dfn)])), n, s) _
  refine r_if_eq (tgt := 22) (by decide) dX11_guard_10 (fun c10 => ?_) (fun c10 => ?_)
  · have c10 := bI_0.mp c10
    refine r_aload_n (n := 0) (i := 0) 0 rfl rfl dX11_guard_22 ?_
    refine r_iconst (v := 1) (by decide) dX11_guard_23 ?_
    refine p_callV (As := [.int 1]) (rest := []) (kX11_denied (O := O) (d := 0) (f := bU f 50 (.inr (11, [.int 0, .int tr, .int (if tr = 4 then pl else -1), .int ft, .int (nI mc), .ref 51, .ref (nA mc), .ref 53, .ref 54, .int (nI tl), .int sz_, .int at_, .int so_, .int pl_, .int mk_, .int nu_, .int di_, .int br_, .int iff_, .long wo_, .ref 55, .ref 56, .int (nI dc), .int (nI td), .ref 57, .int (nI ac), .ref 58, .ref 59, .ref 60, .ref 61, .ref 62, .ref 63, .int (bI hs), .ref 64, .int (nI dfn)]))) (n := n) (s := s) (th_ := 0) (tr_ := tr) (wh_ := (if tr = 4 then pl else -1)) (fl_ := ft) (nm_ := nI mc) (q_ := nA mc) (tp_ := nI tl) (sz_ := sz_) (at_ := at_) (so_ := so_) (pl_ := pl_) (mk_ := mk_) (nu_ := nu_) (di_ := di_) (br_ := br_) (iff_ := iff_) (wo_ := wo_) (nd_ := nI dc) (td_ := nI td) (na_ := nI ac) (hs_ := bI hs) (nf_ := nI dfn) (y := 1) (by exact bU_s _ _ _)  (Nat.le_refl _)).call rfl lkX11_228 imX11_denied seX11_denied rfl (by exact bU_s _ _ _) rfl rfl (by omega) (Nat.le_of_ble_eq_true rfl) dX11_guard_24 (fun v9 G9 h9 => ?_) (fun q9 G9 h9 => (by cases h9.1))
    obtain ⟨h8, rfl⟩ := h9; cases h8
    refine bV_h (f2 := bU f 50 (.inr (11, [.int 0, .int 1, .int (-1), .int ft, .int (nI mc), .ref 51, .ref (nA mc), .ref 53, .ref 54, .int (nI tl), .int sz_, .int at_, .int so_, .int pl_, .int mk_, .int nu_, .int di_, .int br_, .int iff_, .long wo_, .ref 55, .ref 56, .int (nI dc), .int (nI td), .ref 57, .int (nI ac), .ref 58, .ref 59, .ref 60, .ref 61, .ref 62, .ref 63, .int (bI hs), .ref 64, .int (nI dfn)]))) (bU_u _ _ _ _) ?_
    show bV O _ d 27 [(0, .ref 50), (1, .int x), (2, .int k), (3, .int l), (4, .int h)] [.int 0] (bU f 50 (.inr (11, [.int 0, .int 1, .int (-1), .int ft, .int (nI mc), .ref 51, .ref (nA mc), .ref 53, .ref 54, .int (nI tl), .int sz_, .int at_, .int so_, .int pl_, .int mk_, .int nu_, .int di_, .int br_, .int iff_, .long wo_, .ref 55, .ref 56, .int (nI dc), .int (nI td), .ref 57, .int (nI ac), .ref 58, .ref 59, .ref 60, .ref 61, .ref 62, .ref 63, .int (bI hs), .ref 64, .int (nI dfn)])), n, s) _
    refine r_zreturn rfl (by first | decide +kernel | exact narZ _ | assumption) dX11_guard_27 ?_
    all_goals (unfold s_guard; try simp only [])
    all_goals try (first | simp only [if_pos c10] | simp only [if_neg c10] | simp only [if_neg (Bool.eq_false_iff.mp c10)])
    all_goals try simp only [cl_nI (show k9 < 2 ^ 31 by omega)]
    all_goals exact pM_mk (NS_mk (by exact bU_s _ _ _) (by first | rfl | exact (if_neg (by decide)).symm | exact (if_pos rfl).symm)) (hT.fr (fun q _ _ => (bU_n (by omega)).trans (rfl))) (hM.fr j1 (fun q _ => (bU_n (by omega)).trans (rfl))) (hI.fr ((bU_n (by decide)).trans (rfl))) (hP.fr ((bU_n (by decide)).trans (rfl))) (hD.fr j2 (fun q _ => (bU_n (by omega)).trans (rfl))) (hA.fr (fun q _ _ => (bU_n (by omega)).trans (rfl))) (hC.fr ((bU_n (by decide)).trans (rfl))) (hF.fr ((bU_n (by decide)).trans (rfl))) (fun q _ => (bU_n (by omega)).trans (rfl)) (by omega) (by omega)
  · have c10 := bI_1.mp c10
    refine r_iload_n (n := 2) (i := 2) 2 rfl rfl dX11_guard_13 ?_
    refine r_iconst (v := 0) (by decide) dX11_guard_14 ?_
    refine r_iconst (v := 5) (by decide) dX11_guard_15 ?_
    refine p_callS (As := [.int k, .int 0, .int 5]) (rest := []) (kX11_in (O := O) (d := 0) (f := bU f 50 (.inr (11, [.int 0, .int tr, .int (if tr = 4 then pl else -1), .int ft, .int (nI mc), .ref 51, .ref (nA mc), .ref 53, .ref 54, .int (nI tl), .int sz_, .int at_, .int so_, .int pl_, .int mk_, .int nu_, .int di_, .int br_, .int iff_, .long wo_, .ref 55, .ref 56, .int (nI dc), .int (nI td), .ref 57, .int (nI ac), .ref 58, .ref 59, .ref 60, .ref 61, .ref 62, .ref 63, .int (bI hs), .ref 64, .int (nI dfn)]))) (n := n) (s := s) (v := k) (lo := 0) (hi := 5)   (Nat.le_refl _)).call rfl lkX11_200 smX11_in rfl rfl (by omega) (Nat.le_of_ble_eq_true rfl) dX11_guard_16 (fun v9 G9 h9 => ?_) (fun q9 G9 h9 => (by cases h9.1))
    obtain ⟨h8, rfl⟩ := h9; cases h8
    show bV O _ d 19 [(0, .ref 50), (1, .int x), (2, .int k), (3, .int l), (4, .int h)] [.int (bI (jIn k 0 5))] (bU f 50 (.inr (11, [.int 0, .int tr, .int (if tr = 4 then pl else -1), .int ft, .int (nI mc), .ref 51, .ref (nA mc), .ref 53, .ref 54, .int (nI tl), .int sz_, .int at_, .int so_, .int pl_, .int mk_, .int nu_, .int di_, .int br_, .int iff_, .long wo_, .ref 55, .ref 56, .int (nI dc), .int (nI td), .ref 57, .int (nI ac), .ref 58, .ref 59, .ref 60, .ref 61, .ref 62, .ref 63, .int (bI hs), .ref 64, .int (nI dfn)])), n, s) _
    refine r_if_ne (tgt := 28) (by decide) dX11_guard_19 (fun c19 => ?_) (fun c19 => ?_)
    · have c19 := bI_1.mp c19
      obtain ⟨k9, hk9, rfl⟩ := jIn_k (n := 6) c19 (by decide) (by decide)
      refine r_iload_n (n := 3) (i := 3) 3 rfl rfl dX11_guard_28 ?_
      refine r_sipush (v := (-1000)) (by decide) dX11_guard_29 ?_
      refine r_iload (i := 4) 4 rfl dX11_guard_32 ?_
      refine p_callS (As := [.int l, .int (-1000), .int h]) (rest := []) (kX11_in (O := O) (d := 0) (f := bU f 50 (.inr (11, [.int 0, .int tr, .int (if tr = 4 then pl else -1), .int ft, .int (nI mc), .ref 51, .ref (nA mc), .ref 53, .ref 54, .int (nI tl), .int sz_, .int at_, .int so_, .int pl_, .int mk_, .int nu_, .int di_, .int br_, .int iff_, .long wo_, .ref 55, .ref 56, .int (nI dc), .int (nI td), .ref 57, .int (nI ac), .ref 58, .ref 59, .ref 60, .ref 61, .ref 62, .ref 63, .int (bI hs), .ref 64, .int (nI dfn)]))) (n := n) (s := s) (v := l) (lo := (-1000)) (hi := h)   (Nat.le_refl _)).call rfl lkX11_200 smX11_in rfl rfl (by omega) (Nat.le_of_ble_eq_true rfl) dX11_guard_34 (fun v9 G9 h9 => ?_) (fun q9 G9 h9 => (by cases h9.1))
      obtain ⟨h8, rfl⟩ := h9; cases h8
      show bV O _ d 37 [(0, .ref 50), (1, .int x), (2, .int (nI k9)), (3, .int l), (4, .int h)] [.int (bI (jIn l (-1000) h))] (bU f 50 (.inr (11, [.int 0, .int tr, .int (if tr = 4 then pl else -1), .int ft, .int (nI mc), .ref 51, .ref (nA mc), .ref 53, .ref 54, .int (nI tl), .int sz_, .int at_, .int so_, .int pl_, .int mk_, .int nu_, .int di_, .int br_, .int iff_, .long wo_, .ref 55, .ref 56, .int (nI dc), .int (nI td), .ref 57, .int (nI ac), .ref 58, .ref 59, .ref 60, .ref 61, .ref 62, .ref 63, .int (bI hs), .ref 64, .int (nI dfn)])), n, s) _
      refine r_if_eq (tgt := 48) (by decide) dX11_guard_37 (fun c37 => ?_) (fun c37 => ?_)
      · have c37 := bI_0.mp c37
        refine r_aload_n (n := 0) (i := 0) 0 rfl rfl dX11_guard_48 ?_
        refine r_iconst (v := 2) (by decide) dX11_guard_49 ?_
        refine p_callV (As := [.int 2]) (rest := []) (kX11_denied (O := O) (d := 0) (f := bU f 50 (.inr (11, [.int 0, .int tr, .int (if tr = 4 then pl else -1), .int ft, .int (nI mc), .ref 51, .ref (nA mc), .ref 53, .ref 54, .int (nI tl), .int sz_, .int at_, .int so_, .int pl_, .int mk_, .int nu_, .int di_, .int br_, .int iff_, .long wo_, .ref 55, .ref 56, .int (nI dc), .int (nI td), .ref 57, .int (nI ac), .ref 58, .ref 59, .ref 60, .ref 61, .ref 62, .ref 63, .int (bI hs), .ref 64, .int (nI dfn)]))) (n := n) (s := s) (th_ := 0) (tr_ := tr) (wh_ := (if tr = 4 then pl else -1)) (fl_ := ft) (nm_ := nI mc) (q_ := nA mc) (tp_ := nI tl) (sz_ := sz_) (at_ := at_) (so_ := so_) (pl_ := pl_) (mk_ := mk_) (nu_ := nu_) (di_ := di_) (br_ := br_) (iff_ := iff_) (wo_ := wo_) (nd_ := nI dc) (td_ := nI td) (na_ := nI ac) (hs_ := bI hs) (nf_ := nI dfn) (y := 2) (by exact bU_s _ _ _)  (Nat.le_refl _)).call rfl lkX11_228 imX11_denied seX11_denied rfl (by exact bU_s _ _ _) rfl rfl (by omega) (Nat.le_of_ble_eq_true rfl) dX11_guard_50 (fun v9 G9 h9 => ?_) (fun q9 G9 h9 => (by cases h9.1))
        obtain ⟨h8, rfl⟩ := h9; cases h8
        refine bV_h (f2 := bU f 50 (.inr (11, [.int 0, .int 2, .int (-1), .int ft, .int (nI mc), .ref 51, .ref (nA mc), .ref 53, .ref 54, .int (nI tl), .int sz_, .int at_, .int so_, .int pl_, .int mk_, .int nu_, .int di_, .int br_, .int iff_, .long wo_, .ref 55, .ref 56, .int (nI dc), .int (nI td), .ref 57, .int (nI ac), .ref 58, .ref 59, .ref 60, .ref 61, .ref 62, .ref 63, .int (bI hs), .ref 64, .int (nI dfn)]))) (bU_u _ _ _ _) ?_
        show bV O _ d 53 [(0, .ref 50), (1, .int x), (2, .int (nI k9)), (3, .int l), (4, .int h)] [.int 0] (bU f 50 (.inr (11, [.int 0, .int 2, .int (-1), .int ft, .int (nI mc), .ref 51, .ref (nA mc), .ref 53, .ref 54, .int (nI tl), .int sz_, .int at_, .int so_, .int pl_, .int mk_, .int nu_, .int di_, .int br_, .int iff_, .long wo_, .ref 55, .ref 56, .int (nI dc), .int (nI td), .ref 57, .int (nI ac), .ref 58, .ref 59, .ref 60, .ref 61, .ref 62, .ref 63, .int (bI hs), .ref 64, .int (nI dfn)])), n, s) _
        refine r_zreturn rfl (by first | decide +kernel | exact narZ _ | assumption) dX11_guard_53 ?_
        all_goals have a19 : ¬ nI k9 < 0 := nI_pos (by omega)
        all_goals have b19 : nI k9 < 6 := lit_lt (n := 6) rfl hk9 (by decide)
        all_goals rcases jIn_f c37 with a37 | b37
        all_goals try have a37 : l < -1000 := Int32.lt_iff_toInt_lt.mpr a37
        all_goals try have b37 : ¬ l ≤ h := (by have h9 := b37; rw [Int32.le_iff_toInt_le]; omega)
        all_goals by_cases z37 : l < -1000
        all_goals all_goals by_cases y37 : 1000 < h
        all_goals (unfold s_guard; try simp only [])
        all_goals try (first | simp only [if_pos c10] | simp only [if_neg c10] | simp only [if_neg (Bool.eq_false_iff.mp c10)])
        all_goals try (first | simp only [if_pos c19] | simp only [if_neg c19] | simp only [if_neg (Bool.eq_false_iff.mp c19)])
        all_goals try (first | simp only [if_pos c37] | simp only [if_neg c37] | simp only [if_neg (Bool.eq_false_iff.mp c37)])
        all_goals try (first | simp only [if_pos a19] | simp only [if_neg a19] | simp only [if_neg (Bool.eq_false_iff.mp a19)])
        all_goals try (first | simp only [if_pos b19] | simp only [if_neg b19] | simp only [if_neg (Bool.eq_false_iff.mp b19)])
        all_goals try (first | simp only [if_pos a37] | simp only [if_neg a37] | simp only [if_neg (Bool.eq_false_iff.mp a37)])
        all_goals try (first | simp only [if_pos z37] | simp only [if_neg z37] | simp only [if_neg (Bool.eq_false_iff.mp z37)])
        all_goals try (first | simp only [if_pos y37] | simp only [if_neg y37] | simp only [if_neg (Bool.eq_false_iff.mp y37)])
        all_goals try (first | simp only [if_pos b37] | simp only [if_neg b37] | simp only [if_neg (Bool.eq_false_iff.mp b37)])
        all_goals try simp only [cl_nI (show k9 < 2 ^ 31 by omega)]
        all_goals exact pM_mk (NS_mk (by exact bU_s _ _ _) (by first | rfl | exact (if_neg (by decide)).symm | exact (if_pos rfl).symm)) (hT.fr (fun q _ _ => (bU_n (by omega)).trans (rfl))) (hM.fr j1 (fun q _ => (bU_n (by omega)).trans (rfl))) (hI.fr ((bU_n (by decide)).trans (rfl))) (hP.fr ((bU_n (by decide)).trans (rfl))) (hD.fr j2 (fun q _ => (bU_n (by omega)).trans (rfl))) (hA.fr (fun q _ _ => (bU_n (by omega)).trans (rfl))) (hC.fr ((bU_n (by decide)).trans (rfl))) (hF.fr ((bU_n (by decide)).trans (rfl))) (fun q _ => (bU_n (by omega)).trans (rfl)) (by omega) (by omega)
      · have c37 := bI_1.mp c37
        refine r_iload (i := 4) 4 rfl dX11_guard_40 ?_
        refine r_sipush (v := 1000) (by decide) dX11_guard_42 ?_
        refine r_icmp_le (tgt := 54) (by decide) dX11_guard_45 (fun c45 => ?_) (fun c45 => ?_)
        · refine r_aload_n (n := 0) (i := 0) 0 rfl rfl dX11_guard_54 ?_
          refine p_get (fs := [.int 0, .int tr, .int (if tr = 4 then pl else -1), .int ft, .int (nI mc), .ref 51, .ref (nA mc), .ref 53, .ref 54, .int (nI tl), .int sz_, .int at_, .int so_, .int pl_, .int mk_, .int nu_, .int di_, .int br_, .int iff_, .long wo_, .ref 55, .ref 56, .int (nI dc), .int (nI td), .ref 57, .int (nI ac), .ref 58, .ref 59, .ref 60, .ref 61, .ref 62, .ref 63, .int (bI hs), .ref 64, .int (nI dfn)]) flX11_46 (by exact bU_s _ _ _) rfl dX11_guard_55 ?_
          refine r_iload_n (n := 1) (i := 1) 1 rfl rfl dX11_guard_58 ?_
          refine p_aald (kd := 7) rfl (by exact ((bU_n (by decide)).trans (hD.1))) (vpx c10 j2 (by decide)) dX11_guard_59 ?_
          rw [tab_in c10]
          obtain ⟨lo9, hi9, fm9, dy9, tl9, d0, d1, d2, d3, d4, d5, e1, e2, e3, e4, e5⟩ := hD.2.1 _ (inB_lt c10)
          have bE := eA_b (i := cl x) (by have := inB_lt c10; omega)
          have hfc : d_fc (dr (cl x)) ≤ 20 := (j9 _ (inB_lt c10)).2.1.1
          show bV O _ d 60 [(0, .ref 50), (1, .int x), (2, .int (nI k9)), (3, .int l), (4, .int h)] [.ref (eA (cl x))] (bU f 50 (.inr (11, [.int 0, .int tr, .int (if tr = 4 then pl else -1), .int ft, .int (nI mc), .ref 51, .ref (nA mc), .ref 53, .ref 54, .int (nI tl), .int sz_, .int at_, .int so_, .int pl_, .int mk_, .int nu_, .int di_, .int br_, .int iff_, .long wo_, .ref 55, .ref 56, .int (nI dc), .int (nI td), .ref 57, .int (nI ac), .ref 58, .ref 59, .ref 60, .ref 61, .ref 62, .ref 63, .int (bI hs), .ref 64, .int (nI dfn)])), n, s) _
          refine p_get (fs := [.int (d_ch (dr (cl x))), .int (d_rv (dr (cl x))), .int (d_sh (dr (cl x))), .int (d_rf (dr (cl x))), .int (nI (d_fc (dr (cl x)))), .int (d_kp (dr (cl x))), .ref ((eA (cl x)) + 1), .ref ((eA (cl x)) + 2), .ref ((eA (cl x)) + 3), .ref ((eA (cl x)) + 4), .ref ((eA (cl x)) + 5)]) flX11_274 (by exact ((bU_n (by omega)).trans (d0))) rfl dX11_guard_60 ?_
          refine r_iload_n (n := 2) (i := 2) 2 rfl rfl dX11_guard_63 ?_
          refine r_iload_n (n := 3) (i := 3) 3 rfl rfl dX11_guard_64 ?_
          refine p_iastN (t := k9) (by exact ((bU_n (by omega)).trans (d1))) (by omega) (by omega) dX11_guard_65 ?_
          refine r_aload_n (n := 0) (i := 0) 0 rfl rfl dX11_guard_66 ?_
          refine p_get (fs := [.int 0, .int tr, .int (if tr = 4 then pl else -1), .int ft, .int (nI mc), .ref 51, .ref (nA mc), .ref 53, .ref 54, .int (nI tl), .int sz_, .int at_, .int so_, .int pl_, .int mk_, .int nu_, .int di_, .int br_, .int iff_, .long wo_, .ref 55, .ref 56, .int (nI dc), .int (nI td), .ref 57, .int (nI ac), .ref 58, .ref 59, .ref 60, .ref 61, .ref 62, .ref 63, .int (bI hs), .ref 64, .int (nI dfn)]) flX11_46 (by exact ((bU_n (by omega)).trans (bU_s _ _ _))) rfl dX11_guard_67 ?_
          refine r_iload_n (n := 1) (i := 1) 1 rfl rfl dX11_guard_70 ?_
          refine p_aald (kd := 7) rfl (by exact ((bU_n (by omega)).trans (((bU_n (by decide)).trans (hD.1))))) (vpx c10 j2 (by decide)) dX11_guard_71 ?_
          rw [tab_in c10]
          show bV O _ d 72 [(0, .ref 50), (1, .int x), (2, .int (nI k9)), (3, .int l), (4, .int h)] [.ref (eA (cl x))] (bU (bU f 50 (.inr (11, [.int 0, .int tr, .int (if tr = 4 then pl else -1), .int ft, .int (nI mc), .ref 51, .ref (nA mc), .ref 53, .ref 54, .int (nI tl), .int sz_, .int at_, .int so_, .int pl_, .int mk_, .int nu_, .int di_, .int br_, .int iff_, .long wo_, .ref 55, .ref 56, .int (nI dc), .int (nI td), .ref 57, .int (nI ac), .ref 58, .ref 59, .ref 60, .ref 61, .ref 62, .ref 63, .int (bI hs), .ref 64, .int (nI dfn)]))) ((eA (cl x)) + 1) (.inl (0, 6, .inl (upd lo9 k9 l))), n, s) _
          refine p_get (fs := [.int (d_ch (dr (cl x))), .int (d_rv (dr (cl x))), .int (d_sh (dr (cl x))), .int (d_rf (dr (cl x))), .int (nI (d_fc (dr (cl x)))), .int (d_kp (dr (cl x))), .ref ((eA (cl x)) + 1), .ref ((eA (cl x)) + 2), .ref ((eA (cl x)) + 3), .ref ((eA (cl x)) + 4), .ref ((eA (cl x)) + 5)]) flX11_277 (by exact ((bU_n (by omega)).trans (((bU_n (by omega)).trans (d0))))) rfl dX11_guard_72 ?_
          refine r_iload_n (n := 2) (i := 2) 2 rfl rfl dX11_guard_75 ?_
          refine r_iload (i := 4) 4 rfl dX11_guard_76 ?_
          refine p_iastN (t := k9) (by exact ((bU_n (by omega)).trans (((bU_n (by omega)).trans (d2))))) (by omega) (by omega) dX11_guard_78 ?_
          refine r_aload_n (n := 0) (i := 0) 0 rfl rfl dX11_guard_79 ?_
          refine p_callV (As := []) (rest := []) (kX11_granted (O := O) (d := 0) (f := bU (bU (bU f 50 (.inr (11, [.int 0, .int tr, .int (if tr = 4 then pl else -1), .int ft, .int (nI mc), .ref 51, .ref (nA mc), .ref 53, .ref 54, .int (nI tl), .int sz_, .int at_, .int so_, .int pl_, .int mk_, .int nu_, .int di_, .int br_, .int iff_, .long wo_, .ref 55, .ref 56, .int (nI dc), .int (nI td), .ref 57, .int (nI ac), .ref 58, .ref 59, .ref 60, .ref 61, .ref 62, .ref 63, .int (bI hs), .ref 64, .int (nI dfn)]))) ((eA (cl x)) + 1) (.inl (0, 6, .inl (upd lo9 k9 l)))) ((eA (cl x)) + 2) (.inl (0, 6, .inl (upd hi9 k9 h)))) (n := n) (s := s) (th_ := 0) (tr_ := tr) (wh_ := (if tr = 4 then pl else -1)) (fl_ := ft) (nm_ := nI mc) (q_ := nA mc) (tp_ := nI tl) (sz_ := sz_) (at_ := at_) (so_ := so_) (pl_ := pl_) (mk_ := mk_) (nu_ := nu_) (di_ := di_) (br_ := br_) (iff_ := iff_) (wo_ := wo_) (nd_ := nI dc) (td_ := nI td) (na_ := nI ac) (hs_ := bI hs) (nf_ := nI dfn) (by exact ((bU_n (by omega)).trans (((bU_n (by omega)).trans (bU_s _ _ _)))))  (Nat.le_refl _)).call rfl lkX11_231 imX11_granted seX11_granted rfl (by exact ((bU_n (by omega)).trans (((bU_n (by omega)).trans (bU_s _ _ _))))) rfl rfl (by omega) (Nat.le_of_ble_eq_true rfl) dX11_guard_80 (fun v9 G9 h9 => ?_) (fun q9 G9 h9 => (by cases h9.1))
          obtain ⟨h8, rfl⟩ := h9; cases h8
          refine bV_h (f2 := bU (bU (bU f 50 (.inr (11, [.int 0, .int 0, .int (-1), .int ft, .int (nI mc), .ref 51, .ref (nA mc), .ref 53, .ref 54, .int (nI tl), .int sz_, .int at_, .int so_, .int pl_, .int mk_, .int nu_, .int di_, .int br_, .int iff_, .long wo_, .ref 55, .ref 56, .int (nI dc), .int (nI td), .ref 57, .int (nI ac), .ref 58, .ref 59, .ref 60, .ref 61, .ref 62, .ref 63, .int (bI hs), .ref 64, .int (nI dfn)]))) ((eA (cl x)) + 1) (.inl (0, 6, .inl (upd lo9 k9 l)))) ((eA (cl x)) + 2) (.inl (0, 6, .inl (upd hi9 k9 h)))) (((bU_c (by omega)).trans (congrArg (fun z => bU z ((eA (cl x)) + 2) (.inl (0, 6, .inl (upd hi9 k9 h)))) (((bU_c (by omega)).trans (congrArg (fun z => bU z ((eA (cl x)) + 1) (.inl (0, 6, .inl (upd lo9 k9 l)))) (bU_u _ _ _ _))))))) ?_
          show bV O _ d 83 [(0, .ref 50), (1, .int x), (2, .int (nI k9)), (3, .int l), (4, .int h)] [.int 1] (bU (bU (bU f 50 (.inr (11, [.int 0, .int 0, .int (-1), .int ft, .int (nI mc), .ref 51, .ref (nA mc), .ref 53, .ref 54, .int (nI tl), .int sz_, .int at_, .int so_, .int pl_, .int mk_, .int nu_, .int di_, .int br_, .int iff_, .long wo_, .ref 55, .ref 56, .int (nI dc), .int (nI td), .ref 57, .int (nI ac), .ref 58, .ref 59, .ref 60, .ref 61, .ref 62, .ref 63, .int (bI hs), .ref 64, .int (nI dfn)]))) ((eA (cl x)) + 1) (.inl (0, 6, .inl (upd lo9 k9 l)))) ((eA (cl x)) + 2) (.inl (0, 6, .inl (upd hi9 k9 h))), n, s) _
          refine r_zreturn rfl (by first | decide +kernel | exact narZ _ | assumption) dX11_guard_83 ?_
          all_goals have a19 : ¬ nI k9 < 0 := nI_pos (by omega)
          all_goals have b19 : nI k9 < 6 := lit_lt (n := 6) rfl hk9 (by decide)
          all_goals have a37 : ¬ l < -1000 := (by have m1 : (-1000 : Int32).toInt = -1000 := (by decide); have h := jIn_t c37; rw [Int32.lt_iff_toInt_lt]; omega)
          all_goals have b37 : l ≤ h := (by have h9 := jIn_t c37; rw [Int32.le_iff_toInt_le]; omega)
          all_goals first | have d45 : ¬ 1000 < h := Int32.not_lt.mpr c45 | have d45 : 1000 < h := Int32.not_le.mp c45
          all_goals (unfold s_guard; try simp only [])
          all_goals try (first | simp only [if_pos c10] | simp only [if_neg c10] | simp only [if_neg (Bool.eq_false_iff.mp c10)])
          all_goals try (first | simp only [if_pos c19] | simp only [if_neg c19] | simp only [if_neg (Bool.eq_false_iff.mp c19)])
          all_goals try (first | simp only [if_pos c37] | simp only [if_neg c37] | simp only [if_neg (Bool.eq_false_iff.mp c37)])
          all_goals try (first | simp only [if_pos c45] | simp only [if_neg c45] | simp only [if_neg (Bool.eq_false_iff.mp c45)])
          all_goals try (first | simp only [if_pos a19] | simp only [if_neg a19] | simp only [if_neg (Bool.eq_false_iff.mp a19)])
          all_goals try (first | simp only [if_pos b19] | simp only [if_neg b19] | simp only [if_neg (Bool.eq_false_iff.mp b19)])
          all_goals try (first | simp only [if_pos a37] | simp only [if_neg a37] | simp only [if_neg (Bool.eq_false_iff.mp a37)])
          all_goals try (first | simp only [if_pos b37] | simp only [if_neg b37] | simp only [if_neg (Bool.eq_false_iff.mp b37)])
          all_goals try (first | simp only [if_pos d45] | simp only [if_neg d45] | simp only [if_neg (Bool.eq_false_iff.mp d45)])
          all_goals try simp only [cl_nI (show k9 < 2 ^ 31 by omega)]
          all_goals exact pM_mk (NS_mk (by exact ((bU_n (by omega)).trans (((bU_n (by omega)).trans (bU_s _ _ _))))) (by first | rfl | exact (if_neg (by decide)).symm | exact (if_pos rfl).symm)) (hT.fr (fun q _ _ => (bU_n (by omega)).trans ((bU_n (by omega)).trans ((bU_n (by omega)).trans (rfl))))) (hM.fr j1 (fun q _ => (bU_n (by omega)).trans ((bU_n (by omega)).trans ((bU_n (by omega)).trans (rfl))))) (hI.fr ((bU_n (by omega)).trans ((bU_n (by omega)).trans ((bU_n (by decide)).trans (rfl))))) (hP.fr ((bU_n (by omega)).trans ((bU_n (by omega)).trans ((bU_n (by decide)).trans (rfl))))) (hD.put j2 (inB_lt c10) ⟨_, _, _, _, _, (by exact ((bU_n (by omega)).trans (((bU_n (by omega)).trans (((bU_n (by omega)).trans (d0))))))), (by exact ((bU_n (by omega)).trans (bU_s _ _ _))), (by exact bU_s _ _ _), (by exact ((bU_n (by omega)).trans (((bU_n (by omega)).trans (((bU_n (by omega)).trans (d3))))))), (by exact ((bU_n (by omega)).trans (((bU_n (by omega)).trans (((bU_n (by omega)).trans (d4))))))), (by exact ((bU_n (by omega)).trans (((bU_n (by omega)).trans (((bU_n (by omega)).trans (d5))))))), upd_pw e1, upd_pw e2, e3, e4, e5⟩ (fun q _ => (bU_n (by omega)).trans ((bU_n (by omega)).trans ((bU_n (by omega)).trans (rfl))))) (hA.fr (fun q _ _ => (bU_n (by omega)).trans ((bU_n (by omega)).trans ((bU_n (by omega)).trans (rfl))))) (hC.fr ((bU_n (by omega)).trans ((bU_n (by omega)).trans ((bU_n (by decide)).trans (rfl))))) (hF.fr ((bU_n (by omega)).trans ((bU_n (by omega)).trans ((bU_n (by decide)).trans (rfl))))) (fun q _ => (bU_n (by omega)).trans ((bU_n (by omega)).trans ((bU_n (by omega)).trans (rfl)))) (by omega) (by omega)
        · refine r_aload_n (n := 0) (i := 0) 0 rfl rfl dX11_guard_48 ?_
          refine r_iconst (v := 2) (by decide) dX11_guard_49 ?_
          refine p_callV (As := [.int 2]) (rest := []) (kX11_denied (O := O) (d := 0) (f := bU f 50 (.inr (11, [.int 0, .int tr, .int (if tr = 4 then pl else -1), .int ft, .int (nI mc), .ref 51, .ref (nA mc), .ref 53, .ref 54, .int (nI tl), .int sz_, .int at_, .int so_, .int pl_, .int mk_, .int nu_, .int di_, .int br_, .int iff_, .long wo_, .ref 55, .ref 56, .int (nI dc), .int (nI td), .ref 57, .int (nI ac), .ref 58, .ref 59, .ref 60, .ref 61, .ref 62, .ref 63, .int (bI hs), .ref 64, .int (nI dfn)]))) (n := n) (s := s) (th_ := 0) (tr_ := tr) (wh_ := (if tr = 4 then pl else -1)) (fl_ := ft) (nm_ := nI mc) (q_ := nA mc) (tp_ := nI tl) (sz_ := sz_) (at_ := at_) (so_ := so_) (pl_ := pl_) (mk_ := mk_) (nu_ := nu_) (di_ := di_) (br_ := br_) (iff_ := iff_) (wo_ := wo_) (nd_ := nI dc) (td_ := nI td) (na_ := nI ac) (hs_ := bI hs) (nf_ := nI dfn) (y := 2) (by exact bU_s _ _ _)  (Nat.le_refl _)).call rfl lkX11_228 imX11_denied seX11_denied rfl (by exact bU_s _ _ _) rfl rfl (by omega) (Nat.le_of_ble_eq_true rfl) dX11_guard_50 (fun v9 G9 h9 => ?_) (fun q9 G9 h9 => (by cases h9.1))
          obtain ⟨h8, rfl⟩ := h9; cases h8
          refine bV_h (f2 := bU f 50 (.inr (11, [.int 0, .int 2, .int (-1), .int ft, .int (nI mc), .ref 51, .ref (nA mc), .ref 53, .ref 54, .int (nI tl), .int sz_, .int at_, .int so_, .int pl_, .int mk_, .int nu_, .int di_, .int br_, .int iff_, .long wo_, .ref 55, .ref 56, .int (nI dc), .int (nI td), .ref 57, .int (nI ac), .ref 58, .ref 59, .ref 60, .ref 61, .ref 62, .ref 63, .int (bI hs), .ref 64, .int (nI dfn)]))) (bU_u _ _ _ _) ?_
          show bV O _ d 53 [(0, .ref 50), (1, .int x), (2, .int (nI k9)), (3, .int l), (4, .int h)] [.int 0] (bU f 50 (.inr (11, [.int 0, .int 2, .int (-1), .int ft, .int (nI mc), .ref 51, .ref (nA mc), .ref 53, .ref 54, .int (nI tl), .int sz_, .int at_, .int so_, .int pl_, .int mk_, .int nu_, .int di_, .int br_, .int iff_, .long wo_, .ref 55, .ref 56, .int (nI dc), .int (nI td), .ref 57, .int (nI ac), .ref 58, .ref 59, .ref 60, .ref 61, .ref 62, .ref 63, .int (bI hs), .ref 64, .int (nI dfn)])), n, s) _
          refine r_zreturn rfl (by first | decide +kernel | exact narZ _ | assumption) dX11_guard_53 ?_
          all_goals have a19 : ¬ nI k9 < 0 := nI_pos (by omega)
          all_goals have b19 : nI k9 < 6 := lit_lt (n := 6) rfl hk9 (by decide)
          all_goals have a37 : ¬ l < -1000 := (by have m1 : (-1000 : Int32).toInt = -1000 := (by decide); have h := jIn_t c37; rw [Int32.lt_iff_toInt_lt]; omega)
          all_goals have b37 : l ≤ h := (by have h9 := jIn_t c37; rw [Int32.le_iff_toInt_le]; omega)
          all_goals first | have d45 : ¬ 1000 < h := Int32.not_lt.mpr c45 | have d45 : 1000 < h := Int32.not_le.mp c45
          all_goals (unfold s_guard; try simp only [])
          all_goals try (first | simp only [if_pos c10] | simp only [if_neg c10] | simp only [if_neg (Bool.eq_false_iff.mp c10)])
          all_goals try (first | simp only [if_pos c19] | simp only [if_neg c19] | simp only [if_neg (Bool.eq_false_iff.mp c19)])
          all_goals try (first | simp only [if_pos c37] | simp only [if_neg c37] | simp only [if_neg (Bool.eq_false_iff.mp c37)])
          all_goals try (first | simp only [if_pos c45] | simp only [if_neg c45] | simp only [if_neg (Bool.eq_false_iff.mp c45)])
          all_goals try (first | simp only [if_pos a19] | simp only [if_neg a19] | simp only [if_neg (Bool.eq_false_iff.mp a19)])
          all_goals try (first | simp only [if_pos b19] | simp only [if_neg b19] | simp only [if_neg (Bool.eq_false_iff.mp b19)])
          all_goals try (first | simp only [if_pos a37] | simp only [if_neg a37] | simp only [if_neg (Bool.eq_false_iff.mp a37)])
          all_goals try (first | simp only [if_pos b37] | simp only [if_neg b37] | simp only [if_neg (Bool.eq_false_iff.mp b37)])
          all_goals try (first | simp only [if_pos d45] | simp only [if_neg d45] | simp only [if_neg (Bool.eq_false_iff.mp d45)])
          all_goals try simp only [cl_nI (show k9 < 2 ^ 31 by omega)]
          all_goals exact pM_mk (NS_mk (by exact bU_s _ _ _) (by first | rfl | exact (if_neg (by decide)).symm | exact (if_pos rfl).symm)) (hT.fr (fun q _ _ => (bU_n (by omega)).trans (rfl))) (hM.fr j1 (fun q _ => (bU_n (by omega)).trans (rfl))) (hI.fr ((bU_n (by decide)).trans (rfl))) (hP.fr ((bU_n (by decide)).trans (rfl))) (hD.fr j2 (fun q _ => (bU_n (by omega)).trans (rfl))) (hA.fr (fun q _ _ => (bU_n (by omega)).trans (rfl))) (hC.fr ((bU_n (by decide)).trans (rfl))) (hF.fr ((bU_n (by decide)).trans (rfl))) (fun q _ => (bU_n (by omega)).trans (rfl)) (by omega) (by omega)
    · have c19 := bI_0.mp c19
      refine r_aload_n (n := 0) (i := 0) 0 rfl rfl dX11_guard_22 ?_
      refine r_iconst (v := 1) (by decide) dX11_guard_23 ?_
      refine p_callV (As := [.int 1]) (rest := []) (kX11_denied (O := O) (d := 0) (f := bU f 50 (.inr (11, [.int 0, .int tr, .int (if tr = 4 then pl else -1), .int ft, .int (nI mc), .ref 51, .ref (nA mc), .ref 53, .ref 54, .int (nI tl), .int sz_, .int at_, .int so_, .int pl_, .int mk_, .int nu_, .int di_, .int br_, .int iff_, .long wo_, .ref 55, .ref 56, .int (nI dc), .int (nI td), .ref 57, .int (nI ac), .ref 58, .ref 59, .ref 60, .ref 61, .ref 62, .ref 63, .int (bI hs), .ref 64, .int (nI dfn)]))) (n := n) (s := s) (th_ := 0) (tr_ := tr) (wh_ := (if tr = 4 then pl else -1)) (fl_ := ft) (nm_ := nI mc) (q_ := nA mc) (tp_ := nI tl) (sz_ := sz_) (at_ := at_) (so_ := so_) (pl_ := pl_) (mk_ := mk_) (nu_ := nu_) (di_ := di_) (br_ := br_) (iff_ := iff_) (wo_ := wo_) (nd_ := nI dc) (td_ := nI td) (na_ := nI ac) (hs_ := bI hs) (nf_ := nI dfn) (y := 1) (by exact bU_s _ _ _)  (Nat.le_refl _)).call rfl lkX11_228 imX11_denied seX11_denied rfl (by exact bU_s _ _ _) rfl rfl (by omega) (Nat.le_of_ble_eq_true rfl) dX11_guard_24 (fun v9 G9 h9 => ?_) (fun q9 G9 h9 => (by cases h9.1))
      obtain ⟨h8, rfl⟩ := h9; cases h8
      refine bV_h (f2 := bU f 50 (.inr (11, [.int 0, .int 1, .int (-1), .int ft, .int (nI mc), .ref 51, .ref (nA mc), .ref 53, .ref 54, .int (nI tl), .int sz_, .int at_, .int so_, .int pl_, .int mk_, .int nu_, .int di_, .int br_, .int iff_, .long wo_, .ref 55, .ref 56, .int (nI dc), .int (nI td), .ref 57, .int (nI ac), .ref 58, .ref 59, .ref 60, .ref 61, .ref 62, .ref 63, .int (bI hs), .ref 64, .int (nI dfn)]))) (bU_u _ _ _ _) ?_
      show bV O _ d 27 [(0, .ref 50), (1, .int x), (2, .int k), (3, .int l), (4, .int h)] [.int 0] (bU f 50 (.inr (11, [.int 0, .int 1, .int (-1), .int ft, .int (nI mc), .ref 51, .ref (nA mc), .ref 53, .ref 54, .int (nI tl), .int sz_, .int at_, .int so_, .int pl_, .int mk_, .int nu_, .int di_, .int br_, .int iff_, .long wo_, .ref 55, .ref 56, .int (nI dc), .int (nI td), .ref 57, .int (nI ac), .ref 58, .ref 59, .ref 60, .ref 61, .ref 62, .ref 63, .int (bI hs), .ref 64, .int (nI dfn)])), n, s) _
      refine r_zreturn rfl (by first | decide +kernel | exact narZ _ | assumption) dX11_guard_27 ?_
      all_goals rcases jIn_kf c19 with a19 | ⟨a19, b19⟩
      all_goals try have b19 : ¬ k < 6 := (by have h := b19; have h5 : (5 : Int32).toInt = 5 := (by decide); have h6 : (6 : Int32).toInt = 6 := (by decide); rw [Int32.lt_iff_toInt_lt] at *; omega)
      all_goals (unfold s_guard; try simp only [])
      all_goals try (first | simp only [if_pos c10] | simp only [if_neg c10] | simp only [if_neg (Bool.eq_false_iff.mp c10)])
      all_goals try (first | simp only [if_pos c19] | simp only [if_neg c19] | simp only [if_neg (Bool.eq_false_iff.mp c19)])
      all_goals try (first | simp only [if_pos a19] | simp only [if_neg a19] | simp only [if_neg (Bool.eq_false_iff.mp a19)])
      all_goals try (first | simp only [if_pos b19] | simp only [if_neg b19] | simp only [if_neg (Bool.eq_false_iff.mp b19)])
      all_goals try simp only [cl_nI (show k9 < 2 ^ 31 by omega)]
      all_goals exact pM_mk (NS_mk (by exact bU_s _ _ _) (by first | rfl | exact (if_neg (by decide)).symm | exact (if_pos rfl).symm)) (hT.fr (fun q _ _ => (bU_n (by omega)).trans (rfl))) (hM.fr j1 (fun q _ => (bU_n (by omega)).trans (rfl))) (hI.fr ((bU_n (by decide)).trans (rfl))) (hP.fr ((bU_n (by decide)).trans (rfl))) (hD.fr j2 (fun q _ => (bU_n (by omega)).trans (rfl))) (hA.fr (fun q _ _ => (bU_n (by omega)).trans (rfl))) (hC.fr ((bU_n (by decide)).trans (rfl))) (hF.fr ((bU_n (by decide)).trans (rfl))) (fun q _ => (bU_n (by omega)).trans (rfl)) (by omega) (by omega)
set_option maxRecDepth 4000 in
theorem m_rival {O : bO} {d : Nat} {f : bF} {n s : Nat} {bs : Nat → Int32} {tl : Nat} {mc : Nat} {md : Nat → MR} {ip : Nat → Int32} {dc : Nat} {dr : Nat → DR} {ac : Nat} {an : Nat → AR} {hs : Bool} {sd : Nat → Int32} {df : Nat → Int32} {dfn : Nat} {td : Nat} {tr : Int32} {ft : Int32} {pl : Int32} {x : Int32} {m : Int32} {h : Int32} (hX : MP f (bs, tl, mc, md, ip, dc, dr, ac, an, hs, sd, df, dfn, td, tr, ft, pl)) (jX : JJ (bs, tl, mc, md, ip, dc, dr, ac, an, hs, sd, df, dfn, td, tr, ft, pl))  (hd : 1 ≤ d) : bCall O mX11_rival d [.ref 50, .int x, .int m, .int h] (f, n, s) (pM f n s 0 0 (s_rival (bs, tl, mc, md, ip, dc, dr, ac, an, hs, sd, df, dfn, td, tr, ft, pl) x m h)) := by
  refine bCall_of (by decide) rfl (Nat.le_of_ble_eq_true rfl) ?_
  obtain ⟨hNS, hT, hM, hI, hP, hD, hA, hC, hF⟩ := id hX
  simp only [] at hNS hT hM hI hP hD hA hC hF
  obtain ⟨j1, j2, j3, j4, j5, j6, j7, j8, j9, j10⟩ := id jX
  simp only [] at j1 j2 j3 j4 j5 j6 j7 j8 j9 j10
  obtain ⟨th_, sz_, at_, so_, pl_, mk_, nu_, di_, br_, iff_, wo_, hO⟩ := id hNS
  obtain ⟨tg9, kd9, sp9, h53, h54, hTb⟩ := id hT
  obtain ⟨ig9, h55, hIp⟩ := id hI
  obtain ⟨pg9, h56⟩ := id hP
  obtain ⟨kp9, aq9, bc9, br9, tu9, h58, h59, h60, h61, h62, hAp⟩ := id hA
  obtain ⟨sg9, h63, hC0, hC1, hC2, hC3, hC4⟩ := id hC
  obtain ⟨dg9, h64, hFp⟩ := id hF
  have bN := nA_b (i := mc) j1
  show bV O _ d 0 [(0, .ref 50), (1, .int x), (2, .int m), (3, .int h)] [] (f, n, s) _
  refine r_aload_n (n := 0) (i := 0) 0 rfl rfl dX11_rival_0 ?_
  refine r_iconst (v := 0) (by decide) dX11_rival_1 ?_
  refine p_put (fs := [.int th_, .int tr, .int (if tr = 4 then pl else -1), .int ft, .int (nI mc), .ref 51, .ref (nA mc), .ref 53, .ref 54, .int (nI tl), .int sz_, .int at_, .int so_, .int pl_, .int mk_, .int nu_, .int di_, .int br_, .int iff_, .long wo_, .ref 55, .ref 56, .int (nI dc), .int (nI td), .ref 57, .int (nI ac), .ref 58, .ref 59, .ref 60, .ref 61, .ref 62, .ref 63, .int (bI hs), .ref 64, .int (nI dfn)]) (fs' := [.int 0, .int tr, .int (if tr = 4 then pl else -1), .int ft, .int (nI mc), .ref 51, .ref (nA mc), .ref 53, .ref 54, .int (nI tl), .int sz_, .int at_, .int so_, .int pl_, .int mk_, .int nu_, .int di_, .int br_, .int iff_, .long wo_, .ref 55, .ref 56, .int (nI dc), .int (nI td), .ref 57, .int (nI ac), .ref 58, .ref 59, .ref 60, .ref 61, .ref 62, .ref 63, .int (bI hs), .ref 64, .int (nI dfn)]) flX11_71 hO (Nat.le_of_ble_eq_true rfl) (bNf_i _) rfl dX11_rival_2 ?_
  refine r_aload_n (n := 0) (i := 0) 0 rfl rfl dX11_rival_5 ?_
  refine r_iload_n (n := 1) (i := 1) 1 rfl rfl dX11_rival_6 ?_
  refine p_callV (As := [.int x]) (rest := []) (kX11_isDoor (O := O) (d := 0) (f := bU f 50 (.inr (11, [.int 0, .int tr, .int (if tr = 4 then pl else -1), .int ft, .int (nI mc), .ref 51, .ref (nA mc), .ref 53, .ref 54, .int (nI tl), .int sz_, .int at_, .int so_, .int pl_, .int mk_, .int nu_, .int di_, .int br_, .int iff_, .long wo_, .ref 55, .ref 56, .int (nI dc), .int (nI td), .ref 57, .int (nI ac), .ref 58, .ref 59, .ref 60, .ref 61, .ref 62, .ref 63, .int (bI hs), .ref 64, .int (nI dfn)]))) (n := n) (s := s) (th_ := 0) (tr_ := tr) (wh_ := (if tr = 4 then pl else -1)) (fl_ := ft) (nm_ := nI mc) (q_ := nA mc) (tp_ := nI tl) (sz_ := sz_) (at_ := at_) (so_ := so_) (pl_ := pl_) (mk_ := mk_) (nu_ := nu_) (di_ := di_) (br_ := br_) (iff_ := iff_) (wo_ := wo_) (td_ := nI td) (na_ := nI ac) (hs_ := bI hs) (nf_ := nI dfn) (m9 := dc) (x := x) (by exact bU_s _ _ _) (by omega) (Nat.le_refl _)).call rfl lkX11_271 imX11_isDoor seX11_isDoor rfl (by exact bU_s _ _ _) rfl rfl (by omega) (Nat.le_of_ble_eq_true rfl) dX11_rival_7 (fun v9 G9 h9 => ?_) (fun q9 G9 h9 => (by cases h9.1))
  obtain ⟨h8, rfl⟩ := h9; cases h8
  show bV O _ d 10 [(0, .ref 50), (1, .int x), (2, .int m), (3, .int h)] [.int (bI (inB x dc))] (bU f 50 (.inr (11, [.int 0, .int tr, .int (if tr = 4 then pl else -1), .int ft, .int (nI mc), .ref 51, .ref (nA mc), .ref 53, .ref 54, .int (nI tl), .int sz_, .int at_, .int so_, .int pl_, .int mk_, .int nu_, .int di_, .int br_, .int iff_, .long wo_, .ref 55, .ref 56, .int (nI dc), .int (nI td), .ref 57, .int (nI ac), .ref 58, .ref 59, .ref 60, .ref 61, .ref 62, .ref 63, .int (bI hs), .ref 64, .int (nI dfn)])), n, s) _
  refine r_if_eq (tgt := 21) (by decide) dX11_rival_10 (fun c10 => ?_) (fun c10 => ?_)
  · have c10 := bI_0.mp c10
    refine r_aload_n (n := 0) (i := 0) 0 rfl rfl dX11_rival_21 ?_
    refine r_iconst (v := 1) (by decide) dX11_rival_22 ?_
    refine p_callV (As := [.int 1]) (rest := []) (kX11_denied (O := O) (d := 0) (f := bU f 50 (.inr (11, [.int 0, .int tr, .int (if tr = 4 then pl else -1), .int ft, .int (nI mc), .ref 51, .ref (nA mc), .ref 53, .ref 54, .int (nI tl), .int sz_, .int at_, .int so_, .int pl_, .int mk_, .int nu_, .int di_, .int br_, .int iff_, .long wo_, .ref 55, .ref 56, .int (nI dc), .int (nI td), .ref 57, .int (nI ac), .ref 58, .ref 59, .ref 60, .ref 61, .ref 62, .ref 63, .int (bI hs), .ref 64, .int (nI dfn)]))) (n := n) (s := s) (th_ := 0) (tr_ := tr) (wh_ := (if tr = 4 then pl else -1)) (fl_ := ft) (nm_ := nI mc) (q_ := nA mc) (tp_ := nI tl) (sz_ := sz_) (at_ := at_) (so_ := so_) (pl_ := pl_) (mk_ := mk_) (nu_ := nu_) (di_ := di_) (br_ := br_) (iff_ := iff_) (wo_ := wo_) (nd_ := nI dc) (td_ := nI td) (na_ := nI ac) (hs_ := bI hs) (nf_ := nI dfn) (y := 1) (by exact bU_s _ _ _)  (Nat.le_refl _)).call rfl lkX11_228 imX11_denied seX11_denied rfl (by exact bU_s _ _ _) rfl rfl (by omega) (Nat.le_of_ble_eq_true rfl) dX11_rival_23 (fun v9 G9 h9 => ?_) (fun q9 G9 h9 => (by cases h9.1))
    obtain ⟨h8, rfl⟩ := h9; cases h8
    refine bV_h (f2 := bU f 50 (.inr (11, [.int 0, .int 1, .int (-1), .int ft, .int (nI mc), .ref 51, .ref (nA mc), .ref 53, .ref 54, .int (nI tl), .int sz_, .int at_, .int so_, .int pl_, .int mk_, .int nu_, .int di_, .int br_, .int iff_, .long wo_, .ref 55, .ref 56, .int (nI dc), .int (nI td), .ref 57, .int (nI ac), .ref 58, .ref 59, .ref 60, .ref 61, .ref 62, .ref 63, .int (bI hs), .ref 64, .int (nI dfn)]))) (bU_u _ _ _ _) ?_
    show bV O _ d 26 [(0, .ref 50), (1, .int x), (2, .int m), (3, .int h)] [.int 0] (bU f 50 (.inr (11, [.int 0, .int 1, .int (-1), .int ft, .int (nI mc), .ref 51, .ref (nA mc), .ref 53, .ref 54, .int (nI tl), .int sz_, .int at_, .int so_, .int pl_, .int mk_, .int nu_, .int di_, .int br_, .int iff_, .long wo_, .ref 55, .ref 56, .int (nI dc), .int (nI td), .ref 57, .int (nI ac), .ref 58, .ref 59, .ref 60, .ref 61, .ref 62, .ref 63, .int (bI hs), .ref 64, .int (nI dfn)])), n, s) _
    refine r_zreturn rfl (by first | decide +kernel | exact narZ _ | assumption) dX11_rival_26 ?_
    all_goals (unfold s_rival; try simp only [])
    all_goals try (first | simp only [if_pos c10] | simp only [if_neg c10] | simp only [if_neg (Bool.eq_false_iff.mp c10)])
    all_goals exact pM_mk (NS_mk (by exact bU_s _ _ _) (by first | rfl | exact (if_neg (by decide)).symm | exact (if_pos rfl).symm)) (hT.fr (fun q _ _ => (bU_n (by omega)).trans (rfl))) (hM.fr j1 (fun q _ => (bU_n (by omega)).trans (rfl))) (hI.fr ((bU_n (by decide)).trans (rfl))) (hP.fr ((bU_n (by decide)).trans (rfl))) (hD.fr j2 (fun q _ => (bU_n (by omega)).trans (rfl))) (hA.fr (fun q _ _ => (bU_n (by omega)).trans (rfl))) (hC.fr ((bU_n (by decide)).trans (rfl))) (hF.fr ((bU_n (by decide)).trans (rfl))) (fun q _ => (bU_n (by omega)).trans (rfl)) (by omega) (by omega)
  · have c10 := bI_1.mp c10
    refine r_aload_n (n := 0) (i := 0) 0 rfl rfl dX11_rival_13 ?_
    refine r_iload_n (n := 2) (i := 2) 2 rfl rfl dX11_rival_14 ?_
    refine p_callV (As := [.int m]) (rest := []) (kX11_isModel (O := O) (d := 0) (f := bU f 50 (.inr (11, [.int 0, .int tr, .int (if tr = 4 then pl else -1), .int ft, .int (nI mc), .ref 51, .ref (nA mc), .ref 53, .ref 54, .int (nI tl), .int sz_, .int at_, .int so_, .int pl_, .int mk_, .int nu_, .int di_, .int br_, .int iff_, .long wo_, .ref 55, .ref 56, .int (nI dc), .int (nI td), .ref 57, .int (nI ac), .ref 58, .ref 59, .ref 60, .ref 61, .ref 62, .ref 63, .int (bI hs), .ref 64, .int (nI dfn)]))) (n := n) (s := s) (th_ := 0) (tr_ := tr) (wh_ := (if tr = 4 then pl else -1)) (fl_ := ft) (q_ := nA mc) (tp_ := nI tl) (sz_ := sz_) (at_ := at_) (so_ := so_) (pl_ := pl_) (mk_ := mk_) (nu_ := nu_) (di_ := di_) (br_ := br_) (iff_ := iff_) (wo_ := wo_) (nd_ := nI dc) (td_ := nI td) (na_ := nI ac) (hs_ := bI hs) (nf_ := nI dfn) (m9 := mc) (x := m) (by exact bU_s _ _ _) (by omega) (Nat.le_refl _)).call rfl lkX11_225 imX11_isModel seX11_isModel rfl (by exact bU_s _ _ _) rfl rfl (by omega) (Nat.le_of_ble_eq_true rfl) dX11_rival_15 (fun v9 G9 h9 => ?_) (fun q9 G9 h9 => (by cases h9.1))
    obtain ⟨h8, rfl⟩ := h9; cases h8
    show bV O _ d 18 [(0, .ref 50), (1, .int x), (2, .int m), (3, .int h)] [.int (bI (inB m mc))] (bU f 50 (.inr (11, [.int 0, .int tr, .int (if tr = 4 then pl else -1), .int ft, .int (nI mc), .ref 51, .ref (nA mc), .ref 53, .ref 54, .int (nI tl), .int sz_, .int at_, .int so_, .int pl_, .int mk_, .int nu_, .int di_, .int br_, .int iff_, .long wo_, .ref 55, .ref 56, .int (nI dc), .int (nI td), .ref 57, .int (nI ac), .ref 58, .ref 59, .ref 60, .ref 61, .ref 62, .ref 63, .int (bI hs), .ref 64, .int (nI dfn)])), n, s) _
    refine r_if_ne (tgt := 27) (by decide) dX11_rival_18 (fun c18 => ?_) (fun c18 => ?_)
    · have c18 := bI_1.mp c18
      refine r_iload_n (n := 3) (i := 3) 3 rfl rfl dX11_rival_27 ?_
      refine r_iconst (v := 0) (by decide) dX11_rival_28 ?_
      refine r_bipush (v := 100) (by decide) dX11_rival_29 ?_
      refine p_callS (As := [.int h, .int 0, .int 100]) (rest := []) (kX11_in (O := O) (d := 0) (f := bU f 50 (.inr (11, [.int 0, .int tr, .int (if tr = 4 then pl else -1), .int ft, .int (nI mc), .ref 51, .ref (nA mc), .ref 53, .ref 54, .int (nI tl), .int sz_, .int at_, .int so_, .int pl_, .int mk_, .int nu_, .int di_, .int br_, .int iff_, .long wo_, .ref 55, .ref 56, .int (nI dc), .int (nI td), .ref 57, .int (nI ac), .ref 58, .ref 59, .ref 60, .ref 61, .ref 62, .ref 63, .int (bI hs), .ref 64, .int (nI dfn)]))) (n := n) (s := s) (v := h) (lo := 0) (hi := 100)   (Nat.le_refl _)).call rfl lkX11_200 smX11_in rfl rfl (by omega) (Nat.le_of_ble_eq_true rfl) dX11_rival_31 (fun v9 G9 h9 => ?_) (fun q9 G9 h9 => (by cases h9.1))
      obtain ⟨h8, rfl⟩ := h9; cases h8
      show bV O _ d 34 [(0, .ref 50), (1, .int x), (2, .int m), (3, .int h)] [.int (bI (jIn h 0 100))] (bU f 50 (.inr (11, [.int 0, .int tr, .int (if tr = 4 then pl else -1), .int ft, .int (nI mc), .ref 51, .ref (nA mc), .ref 53, .ref 54, .int (nI tl), .int sz_, .int at_, .int so_, .int pl_, .int mk_, .int nu_, .int di_, .int br_, .int iff_, .long wo_, .ref 55, .ref 56, .int (nI dc), .int (nI td), .ref 57, .int (nI ac), .ref 58, .ref 59, .ref 60, .ref 61, .ref 62, .ref 63, .int (bI hs), .ref 64, .int (nI dfn)])), n, s) _
      refine r_if_ne (tgt := 43) (by decide) dX11_rival_34 (fun c34 => ?_) (fun c34 => ?_)
      · have c34 := bI_1.mp c34
        refine r_aload_n (n := 0) (i := 0) 0 rfl rfl dX11_rival_43 ?_
        refine p_get (fs := [.int 0, .int tr, .int (if tr = 4 then pl else -1), .int ft, .int (nI mc), .ref 51, .ref (nA mc), .ref 53, .ref 54, .int (nI tl), .int sz_, .int at_, .int so_, .int pl_, .int mk_, .int nu_, .int di_, .int br_, .int iff_, .long wo_, .ref 55, .ref 56, .int (nI dc), .int (nI td), .ref 57, .int (nI ac), .ref 58, .ref 59, .ref 60, .ref 61, .ref 62, .ref 63, .int (bI hs), .ref 64, .int (nI dfn)]) flX11_46 (by exact bU_s _ _ _) rfl dX11_rival_44 ?_
        refine r_iload_n (n := 1) (i := 1) 1 rfl rfl dX11_rival_47 ?_
        refine p_aald (kd := 7) rfl (by exact ((bU_n (by decide)).trans (hD.1))) (vpx c10 j2 (by decide)) dX11_rival_48 ?_
        rw [tab_in c10]
        obtain ⟨lo9, hi9, fm9, dy9, tl9, d0, d1, d2, d3, d4, d5, e1, e2, e3, e4, e5⟩ := hD.2.1 _ (inB_lt c10)
        have bE := eA_b (i := cl x) (by have := inB_lt c10; omega)
        have hfc : d_fc (dr (cl x)) ≤ 20 := (j9 _ (inB_lt c10)).2.1.1
        show bV O _ d 49 [(0, .ref 50), (1, .int x), (2, .int m), (3, .int h)] [.ref (eA (cl x))] (bU f 50 (.inr (11, [.int 0, .int tr, .int (if tr = 4 then pl else -1), .int ft, .int (nI mc), .ref 51, .ref (nA mc), .ref 53, .ref 54, .int (nI tl), .int sz_, .int at_, .int so_, .int pl_, .int mk_, .int nu_, .int di_, .int br_, .int iff_, .long wo_, .ref 55, .ref 56, .int (nI dc), .int (nI td), .ref 57, .int (nI ac), .ref 58, .ref 59, .ref 60, .ref 61, .ref 62, .ref 63, .int (bI hs), .ref 64, .int (nI dfn)])), n, s) _
        refine r_astore (i := 4) (L' := [(4, .ref (eA (cl x))), (0, .ref 50), (1, .int x), (2, .int m), (3, .int h)]) dX11_rival_49 (by decide) rfl ?_
        refine r_aload (i := 4) 0 rfl dX11_rival_51 ?_
        refine p_get (fs := [.int (d_ch (dr (cl x))), .int (d_rv (dr (cl x))), .int (d_sh (dr (cl x))), .int (d_rf (dr (cl x))), .int (nI (d_fc (dr (cl x)))), .int (d_kp (dr (cl x))), .ref ((eA (cl x)) + 1), .ref ((eA (cl x)) + 2), .ref ((eA (cl x)) + 3), .ref ((eA (cl x)) + 4), .ref ((eA (cl x)) + 5)]) flX11_286 (by exact ((bU_n (by omega)).trans (d0))) rfl dX11_rival_53 ?_
        refine r_bipush (v := (-2)) (by decide) dX11_rival_56 ?_
        refine r_icmp_eq (tgt := 70) (by decide) dX11_rival_58 (fun c58 => ?_) (fun c58 => ?_)
        · refine r_aload_n (n := 0) (i := 0) 1 rfl rfl dX11_rival_70 ?_
          refine r_iconst (v := 5) (by decide) dX11_rival_71 ?_
          refine p_callV (As := [.int 5]) (rest := []) (kX11_denied (O := O) (d := 0) (f := bU f 50 (.inr (11, [.int 0, .int tr, .int (if tr = 4 then pl else -1), .int ft, .int (nI mc), .ref 51, .ref (nA mc), .ref 53, .ref 54, .int (nI tl), .int sz_, .int at_, .int so_, .int pl_, .int mk_, .int nu_, .int di_, .int br_, .int iff_, .long wo_, .ref 55, .ref 56, .int (nI dc), .int (nI td), .ref 57, .int (nI ac), .ref 58, .ref 59, .ref 60, .ref 61, .ref 62, .ref 63, .int (bI hs), .ref 64, .int (nI dfn)]))) (n := n) (s := s) (th_ := 0) (tr_ := tr) (wh_ := (if tr = 4 then pl else -1)) (fl_ := ft) (nm_ := nI mc) (q_ := nA mc) (tp_ := nI tl) (sz_ := sz_) (at_ := at_) (so_ := so_) (pl_ := pl_) (mk_ := mk_) (nu_ := nu_) (di_ := di_) (br_ := br_) (iff_ := iff_) (wo_ := wo_) (nd_ := nI dc) (td_ := nI td) (na_ := nI ac) (hs_ := bI hs) (nf_ := nI dfn) (y := 5) (by exact bU_s _ _ _)  (Nat.le_refl _)).call rfl lkX11_228 imX11_denied seX11_denied rfl (by exact bU_s _ _ _) rfl rfl (by omega) (Nat.le_of_ble_eq_true rfl) dX11_rival_72 (fun v9 G9 h9 => ?_) (fun q9 G9 h9 => (by cases h9.1))
          obtain ⟨h8, rfl⟩ := h9; cases h8
          refine bV_h (f2 := bU f 50 (.inr (11, [.int 0, .int 5, .int (-1), .int ft, .int (nI mc), .ref 51, .ref (nA mc), .ref 53, .ref 54, .int (nI tl), .int sz_, .int at_, .int so_, .int pl_, .int mk_, .int nu_, .int di_, .int br_, .int iff_, .long wo_, .ref 55, .ref 56, .int (nI dc), .int (nI td), .ref 57, .int (nI ac), .ref 58, .ref 59, .ref 60, .ref 61, .ref 62, .ref 63, .int (bI hs), .ref 64, .int (nI dfn)]))) (bU_u _ _ _ _) ?_
          show bV O _ d 75 [(4, .ref (eA (cl x))), (0, .ref 50), (1, .int x), (2, .int m), (3, .int h)] [.int 0] (bU f 50 (.inr (11, [.int 0, .int 5, .int (-1), .int ft, .int (nI mc), .ref 51, .ref (nA mc), .ref 53, .ref 54, .int (nI tl), .int sz_, .int at_, .int so_, .int pl_, .int mk_, .int nu_, .int di_, .int br_, .int iff_, .long wo_, .ref 55, .ref 56, .int (nI dc), .int (nI td), .ref 57, .int (nI ac), .ref 58, .ref 59, .ref 60, .ref 61, .ref 62, .ref 63, .int (bI hs), .ref 64, .int (nI dfn)])), n, s) _
          refine r_zreturn rfl (by first | decide +kernel | exact narZ _ | assumption) dX11_rival_75 ?_
          all_goals have a34 : ¬ h < 0 := (by have m1 : (0 : Int32).toInt = 0 := (by decide); have m2 : (100 : Int32).toInt = 100 := (by decide); have h := jIn_t c34; rw [Int32.lt_iff_toInt_lt]; omega)
          all_goals have b34 : h ≤ 100 := (by have m1 : (0 : Int32).toInt = 0 := (by decide); have m2 : (100 : Int32).toInt = 100 := (by decide); have h := jIn_t c34; rw [Int32.le_iff_toInt_le]; omega)
          all_goals (unfold s_rival; try simp only [])
          all_goals try (first | simp only [if_pos c10] | simp only [if_neg c10] | simp only [if_neg (Bool.eq_false_iff.mp c10)])
          all_goals try (first | simp only [if_pos c18] | simp only [if_neg c18] | simp only [if_neg (Bool.eq_false_iff.mp c18)])
          all_goals try (first | simp only [if_pos c34] | simp only [if_neg c34] | simp only [if_neg (Bool.eq_false_iff.mp c34)])
          all_goals try (first | simp only [if_pos c58] | simp only [if_neg c58] | simp only [if_neg (Bool.eq_false_iff.mp c58)])
          all_goals try (first | simp only [if_pos a34] | simp only [if_neg a34] | simp only [if_neg (Bool.eq_false_iff.mp a34)])
          all_goals try (first | simp only [if_pos b34] | simp only [if_neg b34] | simp only [if_neg (Bool.eq_false_iff.mp b34)])
          all_goals exact pM_mk (NS_mk (by exact bU_s _ _ _) (by first | rfl | exact (if_neg (by decide)).symm | exact (if_pos rfl).symm)) (hT.fr (fun q _ _ => (bU_n (by omega)).trans (rfl))) (hM.fr j1 (fun q _ => (bU_n (by omega)).trans (rfl))) (hI.fr ((bU_n (by decide)).trans (rfl))) (hP.fr ((bU_n (by decide)).trans (rfl))) (hD.fr j2 (fun q _ => (bU_n (by omega)).trans (rfl))) (hA.fr (fun q _ _ => (bU_n (by omega)).trans (rfl))) (hC.fr ((bU_n (by decide)).trans (rfl))) (hF.fr ((bU_n (by decide)).trans (rfl))) (fun q _ => (bU_n (by omega)).trans (rfl)) (by omega) (by omega)
        · refine r_aload (i := 4) 0 rfl dX11_rival_61 ?_
          refine p_get (fs := [.int (d_ch (dr (cl x))), .int (d_rv (dr (cl x))), .int (d_sh (dr (cl x))), .int (d_rf (dr (cl x))), .int (nI (d_fc (dr (cl x)))), .int (d_kp (dr (cl x))), .ref ((eA (cl x)) + 1), .ref ((eA (cl x)) + 2), .ref ((eA (cl x)) + 3), .ref ((eA (cl x)) + 4), .ref ((eA (cl x)) + 5)]) flX11_286 (by exact ((bU_n (by omega)).trans (d0))) rfl dX11_rival_63 ?_
          refine r_iload_n (n := 2) (i := 2) 3 rfl rfl dX11_rival_66 ?_
          refine r_icmp_ne (tgt := 76) (by decide) dX11_rival_67 (fun c67 => ?_) (fun c67 => ?_)
          · refine r_aload (i := 4) 0 rfl dX11_rival_76 ?_
            refine r_iload_n (n := 2) (i := 2) 3 rfl rfl dX11_rival_78 ?_
            refine p_put (fs := [.int (d_ch (dr (cl x))), .int (d_rv (dr (cl x))), .int (d_sh (dr (cl x))), .int (d_rf (dr (cl x))), .int (nI (d_fc (dr (cl x)))), .int (d_kp (dr (cl x))), .ref ((eA (cl x)) + 1), .ref ((eA (cl x)) + 2), .ref ((eA (cl x)) + 3), .ref ((eA (cl x)) + 4), .ref ((eA (cl x)) + 5)]) (fs' := [.int (d_ch (dr (cl x))), .int m, .int (d_sh (dr (cl x))), .int (d_rf (dr (cl x))), .int (nI (d_fc (dr (cl x)))), .int (d_kp (dr (cl x))), .ref ((eA (cl x)) + 1), .ref ((eA (cl x)) + 2), .ref ((eA (cl x)) + 3), .ref ((eA (cl x)) + 4), .ref ((eA (cl x)) + 5)]) flX11_280 (by exact ((bU_n (by omega)).trans (d0))) (Nat.le_of_ble_eq_true rfl) (bNf_i _) rfl dX11_rival_79 ?_
            refine r_aload (i := 4) 0 rfl dX11_rival_82 ?_
            refine r_iload_n (n := 3) (i := 3) 4 rfl rfl dX11_rival_84 ?_
            refine p_put (fs := [.int (d_ch (dr (cl x))), .int m, .int (d_sh (dr (cl x))), .int (d_rf (dr (cl x))), .int (nI (d_fc (dr (cl x)))), .int (d_kp (dr (cl x))), .ref ((eA (cl x)) + 1), .ref ((eA (cl x)) + 2), .ref ((eA (cl x)) + 3), .ref ((eA (cl x)) + 4), .ref ((eA (cl x)) + 5)]) (fs' := [.int (d_ch (dr (cl x))), .int m, .int h, .int (d_rf (dr (cl x))), .int (nI (d_fc (dr (cl x)))), .int (d_kp (dr (cl x))), .ref ((eA (cl x)) + 1), .ref ((eA (cl x)) + 2), .ref ((eA (cl x)) + 3), .ref ((eA (cl x)) + 4), .ref ((eA (cl x)) + 5)]) flX11_283 (by exact bU_s _ _ _) (Nat.le_of_ble_eq_true rfl) (bNf_i _) rfl dX11_rival_85 ?_
            refine bV_h (f2 := bU (bU f 50 (.inr (11, [.int 0, .int tr, .int (if tr = 4 then pl else -1), .int ft, .int (nI mc), .ref 51, .ref (nA mc), .ref 53, .ref 54, .int (nI tl), .int sz_, .int at_, .int so_, .int pl_, .int mk_, .int nu_, .int di_, .int br_, .int iff_, .long wo_, .ref 55, .ref 56, .int (nI dc), .int (nI td), .ref 57, .int (nI ac), .ref 58, .ref 59, .ref 60, .ref 61, .ref 62, .ref 63, .int (bI hs), .ref 64, .int (nI dfn)]))) (eA (cl x)) (.inr (8, [.int (d_ch (dr (cl x))), .int m, .int h, .int (d_rf (dr (cl x))), .int (nI (d_fc (dr (cl x)))), .int (d_kp (dr (cl x))), .ref ((eA (cl x)) + 1), .ref ((eA (cl x)) + 2), .ref ((eA (cl x)) + 3), .ref ((eA (cl x)) + 4), .ref ((eA (cl x)) + 5)]))) (bU_u _ _ _ _) ?_
            refine r_aload_n (n := 0) (i := 0) 1 rfl rfl dX11_rival_88 ?_
            refine p_callV (As := []) (rest := []) (kX11_granted (O := O) (d := 0) (f := bU (bU f 50 (.inr (11, [.int 0, .int tr, .int (if tr = 4 then pl else -1), .int ft, .int (nI mc), .ref 51, .ref (nA mc), .ref 53, .ref 54, .int (nI tl), .int sz_, .int at_, .int so_, .int pl_, .int mk_, .int nu_, .int di_, .int br_, .int iff_, .long wo_, .ref 55, .ref 56, .int (nI dc), .int (nI td), .ref 57, .int (nI ac), .ref 58, .ref 59, .ref 60, .ref 61, .ref 62, .ref 63, .int (bI hs), .ref 64, .int (nI dfn)]))) (eA (cl x)) (.inr (8, [.int (d_ch (dr (cl x))), .int m, .int h, .int (d_rf (dr (cl x))), .int (nI (d_fc (dr (cl x)))), .int (d_kp (dr (cl x))), .ref ((eA (cl x)) + 1), .ref ((eA (cl x)) + 2), .ref ((eA (cl x)) + 3), .ref ((eA (cl x)) + 4), .ref ((eA (cl x)) + 5)]))) (n := n) (s := s) (th_ := 0) (tr_ := tr) (wh_ := (if tr = 4 then pl else -1)) (fl_ := ft) (nm_ := nI mc) (q_ := nA mc) (tp_ := nI tl) (sz_ := sz_) (at_ := at_) (so_ := so_) (pl_ := pl_) (mk_ := mk_) (nu_ := nu_) (di_ := di_) (br_ := br_) (iff_ := iff_) (wo_ := wo_) (nd_ := nI dc) (td_ := nI td) (na_ := nI ac) (hs_ := bI hs) (nf_ := nI dfn) (by exact ((bU_n (by omega)).trans (bU_s _ _ _)))  (Nat.le_refl _)).call rfl lkX11_231 imX11_granted seX11_granted rfl (by exact ((bU_n (by omega)).trans (bU_s _ _ _))) rfl rfl (by omega) (Nat.le_of_ble_eq_true rfl) dX11_rival_89 (fun v9 G9 h9 => ?_) (fun q9 G9 h9 => (by cases h9.1))
            obtain ⟨h8, rfl⟩ := h9; cases h8
            refine bV_h (f2 := bU (bU f 50 (.inr (11, [.int 0, .int 0, .int (-1), .int ft, .int (nI mc), .ref 51, .ref (nA mc), .ref 53, .ref 54, .int (nI tl), .int sz_, .int at_, .int so_, .int pl_, .int mk_, .int nu_, .int di_, .int br_, .int iff_, .long wo_, .ref 55, .ref 56, .int (nI dc), .int (nI td), .ref 57, .int (nI ac), .ref 58, .ref 59, .ref 60, .ref 61, .ref 62, .ref 63, .int (bI hs), .ref 64, .int (nI dfn)]))) (eA (cl x)) (.inr (8, [.int (d_ch (dr (cl x))), .int m, .int h, .int (d_rf (dr (cl x))), .int (nI (d_fc (dr (cl x)))), .int (d_kp (dr (cl x))), .ref ((eA (cl x)) + 1), .ref ((eA (cl x)) + 2), .ref ((eA (cl x)) + 3), .ref ((eA (cl x)) + 4), .ref ((eA (cl x)) + 5)]))) (((bU_c (by omega)).trans (congrArg (fun z => bU z (eA (cl x)) (.inr (8, [.int (d_ch (dr (cl x))), .int m, .int h, .int (d_rf (dr (cl x))), .int (nI (d_fc (dr (cl x)))), .int (d_kp (dr (cl x))), .ref ((eA (cl x)) + 1), .ref ((eA (cl x)) + 2), .ref ((eA (cl x)) + 3), .ref ((eA (cl x)) + 4), .ref ((eA (cl x)) + 5)]))) (bU_u _ _ _ _)))) ?_
            show bV O _ d 92 [(4, .ref (eA (cl x))), (0, .ref 50), (1, .int x), (2, .int m), (3, .int h)] [.int 1] (bU (bU f 50 (.inr (11, [.int 0, .int 0, .int (-1), .int ft, .int (nI mc), .ref 51, .ref (nA mc), .ref 53, .ref 54, .int (nI tl), .int sz_, .int at_, .int so_, .int pl_, .int mk_, .int nu_, .int di_, .int br_, .int iff_, .long wo_, .ref 55, .ref 56, .int (nI dc), .int (nI td), .ref 57, .int (nI ac), .ref 58, .ref 59, .ref 60, .ref 61, .ref 62, .ref 63, .int (bI hs), .ref 64, .int (nI dfn)]))) (eA (cl x)) (.inr (8, [.int (d_ch (dr (cl x))), .int m, .int h, .int (d_rf (dr (cl x))), .int (nI (d_fc (dr (cl x)))), .int (d_kp (dr (cl x))), .ref ((eA (cl x)) + 1), .ref ((eA (cl x)) + 2), .ref ((eA (cl x)) + 3), .ref ((eA (cl x)) + 4), .ref ((eA (cl x)) + 5)])), n, s) _
            refine r_zreturn rfl (by first | decide +kernel | exact narZ _ | assumption) dX11_rival_92 ?_
            all_goals have a34 : ¬ h < 0 := (by have m1 : (0 : Int32).toInt = 0 := (by decide); have m2 : (100 : Int32).toInt = 100 := (by decide); have h := jIn_t c34; rw [Int32.lt_iff_toInt_lt]; omega)
            all_goals have b34 : h ≤ 100 := (by have m1 : (0 : Int32).toInt = 0 := (by decide); have m2 : (100 : Int32).toInt = 100 := (by decide); have h := jIn_t c34; rw [Int32.le_iff_toInt_le]; omega)
            all_goals (unfold s_rival; try simp only [])
            all_goals try (first | simp only [if_pos c10] | simp only [if_neg c10] | simp only [if_neg (Bool.eq_false_iff.mp c10)])
            all_goals try (first | simp only [if_pos c18] | simp only [if_neg c18] | simp only [if_neg (Bool.eq_false_iff.mp c18)])
            all_goals try (first | simp only [if_pos c34] | simp only [if_neg c34] | simp only [if_neg (Bool.eq_false_iff.mp c34)])
            all_goals try (first | simp only [if_pos c58] | simp only [if_neg c58] | simp only [if_neg (Bool.eq_false_iff.mp c58)])
            all_goals try (first | simp only [if_pos c67] | simp only [if_neg c67] | simp only [if_neg (Bool.eq_false_iff.mp c67)])
            all_goals try (first | simp only [if_pos a34] | simp only [if_neg a34] | simp only [if_neg (Bool.eq_false_iff.mp a34)])
            all_goals try (first | simp only [if_pos b34] | simp only [if_neg b34] | simp only [if_neg (Bool.eq_false_iff.mp b34)])
            all_goals exact pM_mk (NS_mk (by exact ((bU_n (by omega)).trans (bU_s _ _ _))) (by first | rfl | exact (if_neg (by decide)).symm | exact (if_pos rfl).symm)) (hT.fr (fun q _ _ => (bU_n (by omega)).trans ((bU_n (by omega)).trans (rfl)))) (hM.fr j1 (fun q _ => (bU_n (by omega)).trans ((bU_n (by omega)).trans (rfl)))) (hI.fr ((bU_n (by omega)).trans ((bU_n (by decide)).trans (rfl)))) (hP.fr ((bU_n (by omega)).trans ((bU_n (by decide)).trans (rfl)))) (hD.put j2 (inB_lt c10) ⟨_, _, _, _, _, (by exact bU_s _ _ _), (by exact ((bU_n (by omega)).trans (((bU_n (by omega)).trans (d1))))), (by exact ((bU_n (by omega)).trans (((bU_n (by omega)).trans (d2))))), (by exact ((bU_n (by omega)).trans (((bU_n (by omega)).trans (d3))))), (by exact ((bU_n (by omega)).trans (((bU_n (by omega)).trans (d4))))), (by exact ((bU_n (by omega)).trans (((bU_n (by omega)).trans (d5))))), e1, e2, e3, e4, e5⟩ (fun q _ => (bU_n (by omega)).trans ((bU_n (by omega)).trans (rfl)))) (hA.fr (fun q _ _ => (bU_n (by omega)).trans ((bU_n (by omega)).trans (rfl)))) (hC.fr ((bU_n (by omega)).trans ((bU_n (by decide)).trans (rfl)))) (hF.fr ((bU_n (by omega)).trans ((bU_n (by decide)).trans (rfl)))) (fun q _ => (bU_n (by omega)).trans ((bU_n (by omega)).trans (rfl))) (by omega) (by omega)
          · refine r_aload_n (n := 0) (i := 0) 1 rfl rfl dX11_rival_70 ?_
            refine r_iconst (v := 5) (by decide) dX11_rival_71 ?_
            refine p_callV (As := [.int 5]) (rest := []) (kX11_denied (O := O) (d := 0) (f := bU f 50 (.inr (11, [.int 0, .int tr, .int (if tr = 4 then pl else -1), .int ft, .int (nI mc), .ref 51, .ref (nA mc), .ref 53, .ref 54, .int (nI tl), .int sz_, .int at_, .int so_, .int pl_, .int mk_, .int nu_, .int di_, .int br_, .int iff_, .long wo_, .ref 55, .ref 56, .int (nI dc), .int (nI td), .ref 57, .int (nI ac), .ref 58, .ref 59, .ref 60, .ref 61, .ref 62, .ref 63, .int (bI hs), .ref 64, .int (nI dfn)]))) (n := n) (s := s) (th_ := 0) (tr_ := tr) (wh_ := (if tr = 4 then pl else -1)) (fl_ := ft) (nm_ := nI mc) (q_ := nA mc) (tp_ := nI tl) (sz_ := sz_) (at_ := at_) (so_ := so_) (pl_ := pl_) (mk_ := mk_) (nu_ := nu_) (di_ := di_) (br_ := br_) (iff_ := iff_) (wo_ := wo_) (nd_ := nI dc) (td_ := nI td) (na_ := nI ac) (hs_ := bI hs) (nf_ := nI dfn) (y := 5) (by exact bU_s _ _ _)  (Nat.le_refl _)).call rfl lkX11_228 imX11_denied seX11_denied rfl (by exact bU_s _ _ _) rfl rfl (by omega) (Nat.le_of_ble_eq_true rfl) dX11_rival_72 (fun v9 G9 h9 => ?_) (fun q9 G9 h9 => (by cases h9.1))
            obtain ⟨h8, rfl⟩ := h9; cases h8
            refine bV_h (f2 := bU f 50 (.inr (11, [.int 0, .int 5, .int (-1), .int ft, .int (nI mc), .ref 51, .ref (nA mc), .ref 53, .ref 54, .int (nI tl), .int sz_, .int at_, .int so_, .int pl_, .int mk_, .int nu_, .int di_, .int br_, .int iff_, .long wo_, .ref 55, .ref 56, .int (nI dc), .int (nI td), .ref 57, .int (nI ac), .ref 58, .ref 59, .ref 60, .ref 61, .ref 62, .ref 63, .int (bI hs), .ref 64, .int (nI dfn)]))) (bU_u _ _ _ _) ?_
            show bV O _ d 75 [(4, .ref (eA (cl x))), (0, .ref 50), (1, .int x), (2, .int m), (3, .int h)] [.int 0] (bU f 50 (.inr (11, [.int 0, .int 5, .int (-1), .int ft, .int (nI mc), .ref 51, .ref (nA mc), .ref 53, .ref 54, .int (nI tl), .int sz_, .int at_, .int so_, .int pl_, .int mk_, .int nu_, .int di_, .int br_, .int iff_, .long wo_, .ref 55, .ref 56, .int (nI dc), .int (nI td), .ref 57, .int (nI ac), .ref 58, .ref 59, .ref 60, .ref 61, .ref 62, .ref 63, .int (bI hs), .ref 64, .int (nI dfn)])), n, s) _
            refine r_zreturn rfl (by first | decide +kernel | exact narZ _ | assumption) dX11_rival_75 ?_
            all_goals have a34 : ¬ h < 0 := (by have m1 : (0 : Int32).toInt = 0 := (by decide); have m2 : (100 : Int32).toInt = 100 := (by decide); have h := jIn_t c34; rw [Int32.lt_iff_toInt_lt]; omega)
            all_goals have b34 : h ≤ 100 := (by have m1 : (0 : Int32).toInt = 0 := (by decide); have m2 : (100 : Int32).toInt = 100 := (by decide); have h := jIn_t c34; rw [Int32.le_iff_toInt_le]; omega)
            all_goals (unfold s_rival; try simp only [])
            all_goals try (first | simp only [if_pos c10] | simp only [if_neg c10] | simp only [if_neg (Bool.eq_false_iff.mp c10)])
            all_goals try (first | simp only [if_pos c18] | simp only [if_neg c18] | simp only [if_neg (Bool.eq_false_iff.mp c18)])
            all_goals try (first | simp only [if_pos c34] | simp only [if_neg c34] | simp only [if_neg (Bool.eq_false_iff.mp c34)])
            all_goals try (first | simp only [if_pos c58] | simp only [if_neg c58] | simp only [if_neg (Bool.eq_false_iff.mp c58)])
            all_goals try (first | simp only [if_pos c67] | simp only [if_neg c67] | simp only [if_neg (Bool.eq_false_iff.mp c67)])
            all_goals try (first | simp only [if_pos a34] | simp only [if_neg a34] | simp only [if_neg (Bool.eq_false_iff.mp a34)])
            all_goals try (first | simp only [if_pos b34] | simp only [if_neg b34] | simp only [if_neg (Bool.eq_false_iff.mp b34)])
            all_goals exact pM_mk (NS_mk (by exact bU_s _ _ _) (by first | rfl | exact (if_neg (by decide)).symm | exact (if_pos rfl).symm)) (hT.fr (fun q _ _ => (bU_n (by omega)).trans (rfl))) (hM.fr j1 (fun q _ => (bU_n (by omega)).trans (rfl))) (hI.fr ((bU_n (by decide)).trans (rfl))) (hP.fr ((bU_n (by decide)).trans (rfl))) (hD.fr j2 (fun q _ => (bU_n (by omega)).trans (rfl))) (hA.fr (fun q _ _ => (bU_n (by omega)).trans (rfl))) (hC.fr ((bU_n (by decide)).trans (rfl))) (hF.fr ((bU_n (by decide)).trans (rfl))) (fun q _ => (bU_n (by omega)).trans (rfl)) (by omega) (by omega)
      · have c34 := bI_0.mp c34
        refine r_aload_n (n := 0) (i := 0) 0 rfl rfl dX11_rival_37 ?_
        refine r_iconst (v := 2) (by decide) dX11_rival_38 ?_
        refine p_callV (As := [.int 2]) (rest := []) (kX11_denied (O := O) (d := 0) (f := bU f 50 (.inr (11, [.int 0, .int tr, .int (if tr = 4 then pl else -1), .int ft, .int (nI mc), .ref 51, .ref (nA mc), .ref 53, .ref 54, .int (nI tl), .int sz_, .int at_, .int so_, .int pl_, .int mk_, .int nu_, .int di_, .int br_, .int iff_, .long wo_, .ref 55, .ref 56, .int (nI dc), .int (nI td), .ref 57, .int (nI ac), .ref 58, .ref 59, .ref 60, .ref 61, .ref 62, .ref 63, .int (bI hs), .ref 64, .int (nI dfn)]))) (n := n) (s := s) (th_ := 0) (tr_ := tr) (wh_ := (if tr = 4 then pl else -1)) (fl_ := ft) (nm_ := nI mc) (q_ := nA mc) (tp_ := nI tl) (sz_ := sz_) (at_ := at_) (so_ := so_) (pl_ := pl_) (mk_ := mk_) (nu_ := nu_) (di_ := di_) (br_ := br_) (iff_ := iff_) (wo_ := wo_) (nd_ := nI dc) (td_ := nI td) (na_ := nI ac) (hs_ := bI hs) (nf_ := nI dfn) (y := 2) (by exact bU_s _ _ _)  (Nat.le_refl _)).call rfl lkX11_228 imX11_denied seX11_denied rfl (by exact bU_s _ _ _) rfl rfl (by omega) (Nat.le_of_ble_eq_true rfl) dX11_rival_39 (fun v9 G9 h9 => ?_) (fun q9 G9 h9 => (by cases h9.1))
        obtain ⟨h8, rfl⟩ := h9; cases h8
        refine bV_h (f2 := bU f 50 (.inr (11, [.int 0, .int 2, .int (-1), .int ft, .int (nI mc), .ref 51, .ref (nA mc), .ref 53, .ref 54, .int (nI tl), .int sz_, .int at_, .int so_, .int pl_, .int mk_, .int nu_, .int di_, .int br_, .int iff_, .long wo_, .ref 55, .ref 56, .int (nI dc), .int (nI td), .ref 57, .int (nI ac), .ref 58, .ref 59, .ref 60, .ref 61, .ref 62, .ref 63, .int (bI hs), .ref 64, .int (nI dfn)]))) (bU_u _ _ _ _) ?_
        show bV O _ d 42 [(0, .ref 50), (1, .int x), (2, .int m), (3, .int h)] [.int 0] (bU f 50 (.inr (11, [.int 0, .int 2, .int (-1), .int ft, .int (nI mc), .ref 51, .ref (nA mc), .ref 53, .ref 54, .int (nI tl), .int sz_, .int at_, .int so_, .int pl_, .int mk_, .int nu_, .int di_, .int br_, .int iff_, .long wo_, .ref 55, .ref 56, .int (nI dc), .int (nI td), .ref 57, .int (nI ac), .ref 58, .ref 59, .ref 60, .ref 61, .ref 62, .ref 63, .int (bI hs), .ref 64, .int (nI dfn)])), n, s) _
        refine r_zreturn rfl (by first | decide +kernel | exact narZ _ | assumption) dX11_rival_42 ?_
        all_goals rcases jIn_f c34 with a34 | b34
        all_goals try have a34 : h < 0 := Int32.lt_iff_toInt_lt.mpr a34
        all_goals try have b34 : ¬ h ≤ 100 := (by have h := b34; rw [Int32.le_iff_toInt_le]; omega)
        all_goals by_cases z34 : h < 0
        all_goals (unfold s_rival; try simp only [])
        all_goals try (first | simp only [if_pos c10] | simp only [if_neg c10] | simp only [if_neg (Bool.eq_false_iff.mp c10)])
        all_goals try (first | simp only [if_pos c18] | simp only [if_neg c18] | simp only [if_neg (Bool.eq_false_iff.mp c18)])
        all_goals try (first | simp only [if_pos c34] | simp only [if_neg c34] | simp only [if_neg (Bool.eq_false_iff.mp c34)])
        all_goals try (first | simp only [if_pos a34] | simp only [if_neg a34] | simp only [if_neg (Bool.eq_false_iff.mp a34)])
        all_goals try (first | simp only [if_pos z34] | simp only [if_neg z34] | simp only [if_neg (Bool.eq_false_iff.mp z34)])
        all_goals try (first | simp only [if_pos b34] | simp only [if_neg b34] | simp only [if_neg (Bool.eq_false_iff.mp b34)])
        all_goals exact pM_mk (NS_mk (by exact bU_s _ _ _) (by first | rfl | exact (if_neg (by decide)).symm | exact (if_pos rfl).symm)) (hT.fr (fun q _ _ => (bU_n (by omega)).trans (rfl))) (hM.fr j1 (fun q _ => (bU_n (by omega)).trans (rfl))) (hI.fr ((bU_n (by decide)).trans (rfl))) (hP.fr ((bU_n (by decide)).trans (rfl))) (hD.fr j2 (fun q _ => (bU_n (by omega)).trans (rfl))) (hA.fr (fun q _ _ => (bU_n (by omega)).trans (rfl))) (hC.fr ((bU_n (by decide)).trans (rfl))) (hF.fr ((bU_n (by decide)).trans (rfl))) (fun q _ => (bU_n (by omega)).trans (rfl)) (by omega) (by omega)
    · have c18 := bI_0.mp c18
      refine r_aload_n (n := 0) (i := 0) 0 rfl rfl dX11_rival_21 ?_
      refine r_iconst (v := 1) (by decide) dX11_rival_22 ?_
      refine p_callV (As := [.int 1]) (rest := []) (kX11_denied (O := O) (d := 0) (f := bU f 50 (.inr (11, [.int 0, .int tr, .int (if tr = 4 then pl else -1), .int ft, .int (nI mc), .ref 51, .ref (nA mc), .ref 53, .ref 54, .int (nI tl), .int sz_, .int at_, .int so_, .int pl_, .int mk_, .int nu_, .int di_, .int br_, .int iff_, .long wo_, .ref 55, .ref 56, .int (nI dc), .int (nI td), .ref 57, .int (nI ac), .ref 58, .ref 59, .ref 60, .ref 61, .ref 62, .ref 63, .int (bI hs), .ref 64, .int (nI dfn)]))) (n := n) (s := s) (th_ := 0) (tr_ := tr) (wh_ := (if tr = 4 then pl else -1)) (fl_ := ft) (nm_ := nI mc) (q_ := nA mc) (tp_ := nI tl) (sz_ := sz_) (at_ := at_) (so_ := so_) (pl_ := pl_) (mk_ := mk_) (nu_ := nu_) (di_ := di_) (br_ := br_) (iff_ := iff_) (wo_ := wo_) (nd_ := nI dc) (td_ := nI td) (na_ := nI ac) (hs_ := bI hs) (nf_ := nI dfn) (y := 1) (by exact bU_s _ _ _)  (Nat.le_refl _)).call rfl lkX11_228 imX11_denied seX11_denied rfl (by exact bU_s _ _ _) rfl rfl (by omega) (Nat.le_of_ble_eq_true rfl) dX11_rival_23 (fun v9 G9 h9 => ?_) (fun q9 G9 h9 => (by cases h9.1))
      obtain ⟨h8, rfl⟩ := h9; cases h8
      refine bV_h (f2 := bU f 50 (.inr (11, [.int 0, .int 1, .int (-1), .int ft, .int (nI mc), .ref 51, .ref (nA mc), .ref 53, .ref 54, .int (nI tl), .int sz_, .int at_, .int so_, .int pl_, .int mk_, .int nu_, .int di_, .int br_, .int iff_, .long wo_, .ref 55, .ref 56, .int (nI dc), .int (nI td), .ref 57, .int (nI ac), .ref 58, .ref 59, .ref 60, .ref 61, .ref 62, .ref 63, .int (bI hs), .ref 64, .int (nI dfn)]))) (bU_u _ _ _ _) ?_
      show bV O _ d 26 [(0, .ref 50), (1, .int x), (2, .int m), (3, .int h)] [.int 0] (bU f 50 (.inr (11, [.int 0, .int 1, .int (-1), .int ft, .int (nI mc), .ref 51, .ref (nA mc), .ref 53, .ref 54, .int (nI tl), .int sz_, .int at_, .int so_, .int pl_, .int mk_, .int nu_, .int di_, .int br_, .int iff_, .long wo_, .ref 55, .ref 56, .int (nI dc), .int (nI td), .ref 57, .int (nI ac), .ref 58, .ref 59, .ref 60, .ref 61, .ref 62, .ref 63, .int (bI hs), .ref 64, .int (nI dfn)])), n, s) _
      refine r_zreturn rfl (by first | decide +kernel | exact narZ _ | assumption) dX11_rival_26 ?_
      all_goals (unfold s_rival; try simp only [])
      all_goals try (first | simp only [if_pos c10] | simp only [if_neg c10] | simp only [if_neg (Bool.eq_false_iff.mp c10)])
      all_goals try (first | simp only [if_pos c18] | simp only [if_neg c18] | simp only [if_neg (Bool.eq_false_iff.mp c18)])
      all_goals exact pM_mk (NS_mk (by exact bU_s _ _ _) (by first | rfl | exact (if_neg (by decide)).symm | exact (if_pos rfl).symm)) (hT.fr (fun q _ _ => (bU_n (by omega)).trans (rfl))) (hM.fr j1 (fun q _ => (bU_n (by omega)).trans (rfl))) (hI.fr ((bU_n (by decide)).trans (rfl))) (hP.fr ((bU_n (by decide)).trans (rfl))) (hD.fr j2 (fun q _ => (bU_n (by omega)).trans (rfl))) (hA.fr (fun q _ _ => (bU_n (by omega)).trans (rfl))) (hC.fr ((bU_n (by decide)).trans (rfl))) (hF.fr ((bU_n (by decide)).trans (rfl))) (fun q _ => (bU_n (by omega)).trans (rfl)) (by omega) (by omega)
set_option maxRecDepth 4000 in
theorem m_back {O : bO} {d : Nat} {f : bF} {n s : Nat} {bs : Nat → Int32} {tl : Nat} {mc : Nat} {md : Nat → MR} {ip : Nat → Int32} {dc : Nat} {dr : Nat → DR} {ac : Nat} {an : Nat → AR} {hs : Bool} {sd : Nat → Int32} {df : Nat → Int32} {dfn : Nat} {td : Nat} {tr : Int32} {ft : Int32} {pl : Int32} {x : Int32} (hX : MP f (bs, tl, mc, md, ip, dc, dr, ac, an, hs, sd, df, dfn, td, tr, ft, pl)) (jX : JJ (bs, tl, mc, md, ip, dc, dr, ac, an, hs, sd, df, dfn, td, tr, ft, pl))  (hd : 1 ≤ d) : bCall O mX11_back d [.ref 50, .int x] (f, n, s) (pM f n s 0 0 (s_back (bs, tl, mc, md, ip, dc, dr, ac, an, hs, sd, df, dfn, td, tr, ft, pl) x)) := by
  refine bCall_of (by decide) rfl (Nat.le_of_ble_eq_true rfl) ?_
  obtain ⟨hNS, hT, hM, hI, hP, hD, hA, hC, hF⟩ := id hX
  simp only [] at hNS hT hM hI hP hD hA hC hF
  obtain ⟨j1, j2, j3, j4, j5, j6, j7, j8, j9, j10⟩ := id jX
  simp only [] at j1 j2 j3 j4 j5 j6 j7 j8 j9 j10
  obtain ⟨th_, sz_, at_, so_, pl_, mk_, nu_, di_, br_, iff_, wo_, hO⟩ := id hNS
  obtain ⟨tg9, kd9, sp9, h53, h54, hTb⟩ := id hT
  obtain ⟨ig9, h55, hIp⟩ := id hI
  obtain ⟨pg9, h56⟩ := id hP
  obtain ⟨kp9, aq9, bc9, br9, tu9, h58, h59, h60, h61, h62, hAp⟩ := id hA
  obtain ⟨sg9, h63, hC0, hC1, hC2, hC3, hC4⟩ := id hC
  obtain ⟨dg9, h64, hFp⟩ := id hF
  have bN := nA_b (i := mc) j1
  show bV O _ d 0 [(0, .ref 50), (1, .int x)] [] (f, n, s) _
  refine r_aload_n (n := 0) (i := 0) 0 rfl rfl dX11_back_0 ?_
  refine r_iconst (v := 0) (by decide) dX11_back_1 ?_
  refine p_put (fs := [.int th_, .int tr, .int (if tr = 4 then pl else -1), .int ft, .int (nI mc), .ref 51, .ref (nA mc), .ref 53, .ref 54, .int (nI tl), .int sz_, .int at_, .int so_, .int pl_, .int mk_, .int nu_, .int di_, .int br_, .int iff_, .long wo_, .ref 55, .ref 56, .int (nI dc), .int (nI td), .ref 57, .int (nI ac), .ref 58, .ref 59, .ref 60, .ref 61, .ref 62, .ref 63, .int (bI hs), .ref 64, .int (nI dfn)]) (fs' := [.int 0, .int tr, .int (if tr = 4 then pl else -1), .int ft, .int (nI mc), .ref 51, .ref (nA mc), .ref 53, .ref 54, .int (nI tl), .int sz_, .int at_, .int so_, .int pl_, .int mk_, .int nu_, .int di_, .int br_, .int iff_, .long wo_, .ref 55, .ref 56, .int (nI dc), .int (nI td), .ref 57, .int (nI ac), .ref 58, .ref 59, .ref 60, .ref 61, .ref 62, .ref 63, .int (bI hs), .ref 64, .int (nI dfn)]) flX11_71 hO (Nat.le_of_ble_eq_true rfl) (bNf_i _) rfl dX11_back_2 ?_
  refine r_aload_n (n := 0) (i := 0) 0 rfl rfl dX11_back_5 ?_
  refine r_iload_n (n := 1) (i := 1) 1 rfl rfl dX11_back_6 ?_
  refine p_callV (As := [.int x]) (rest := []) (kX11_isDoor (O := O) (d := 0) (f := bU f 50 (.inr (11, [.int 0, .int tr, .int (if tr = 4 then pl else -1), .int ft, .int (nI mc), .ref 51, .ref (nA mc), .ref 53, .ref 54, .int (nI tl), .int sz_, .int at_, .int so_, .int pl_, .int mk_, .int nu_, .int di_, .int br_, .int iff_, .long wo_, .ref 55, .ref 56, .int (nI dc), .int (nI td), .ref 57, .int (nI ac), .ref 58, .ref 59, .ref 60, .ref 61, .ref 62, .ref 63, .int (bI hs), .ref 64, .int (nI dfn)]))) (n := n) (s := s) (th_ := 0) (tr_ := tr) (wh_ := (if tr = 4 then pl else -1)) (fl_ := ft) (nm_ := nI mc) (q_ := nA mc) (tp_ := nI tl) (sz_ := sz_) (at_ := at_) (so_ := so_) (pl_ := pl_) (mk_ := mk_) (nu_ := nu_) (di_ := di_) (br_ := br_) (iff_ := iff_) (wo_ := wo_) (td_ := nI td) (na_ := nI ac) (hs_ := bI hs) (nf_ := nI dfn) (m9 := dc) (x := x) (by exact bU_s _ _ _) (by omega) (Nat.le_refl _)).call rfl lkX11_271 imX11_isDoor seX11_isDoor rfl (by exact bU_s _ _ _) rfl rfl (by omega) (Nat.le_of_ble_eq_true rfl) dX11_back_7 (fun v9 G9 h9 => ?_) (fun q9 G9 h9 => (by cases h9.1))
  obtain ⟨h8, rfl⟩ := h9; cases h8
  show bV O _ d 10 [(0, .ref 50), (1, .int x)] [.int (bI (inB x dc))] (bU f 50 (.inr (11, [.int 0, .int tr, .int (if tr = 4 then pl else -1), .int ft, .int (nI mc), .ref 51, .ref (nA mc), .ref 53, .ref 54, .int (nI tl), .int sz_, .int at_, .int so_, .int pl_, .int mk_, .int nu_, .int di_, .int br_, .int iff_, .long wo_, .ref 55, .ref 56, .int (nI dc), .int (nI td), .ref 57, .int (nI ac), .ref 58, .ref 59, .ref 60, .ref 61, .ref 62, .ref 63, .int (bI hs), .ref 64, .int (nI dfn)])), n, s) _
  refine r_if_ne (tgt := 19) (by decide) dX11_back_10 (fun c10 => ?_) (fun c10 => ?_)
  · have c10 := bI_1.mp c10
    refine r_aload_n (n := 0) (i := 0) 0 rfl rfl dX11_back_19 ?_
    refine p_get (fs := [.int 0, .int tr, .int (if tr = 4 then pl else -1), .int ft, .int (nI mc), .ref 51, .ref (nA mc), .ref 53, .ref 54, .int (nI tl), .int sz_, .int at_, .int so_, .int pl_, .int mk_, .int nu_, .int di_, .int br_, .int iff_, .long wo_, .ref 55, .ref 56, .int (nI dc), .int (nI td), .ref 57, .int (nI ac), .ref 58, .ref 59, .ref 60, .ref 61, .ref 62, .ref 63, .int (bI hs), .ref 64, .int (nI dfn)]) flX11_46 (by exact bU_s _ _ _) rfl dX11_back_20 ?_
    refine r_iload_n (n := 1) (i := 1) 1 rfl rfl dX11_back_23 ?_
    refine p_aald (kd := 7) rfl (by exact ((bU_n (by decide)).trans (hD.1))) (vpx c10 j2 (by decide)) dX11_back_24 ?_
    rw [tab_in c10]
    obtain ⟨lo9, hi9, fm9, dy9, tl9, d0, d1, d2, d3, d4, d5, e1, e2, e3, e4, e5⟩ := hD.2.1 _ (inB_lt c10)
    have bE := eA_b (i := cl x) (by have := inB_lt c10; omega)
    have hfc : d_fc (dr (cl x)) ≤ 20 := (j9 _ (inB_lt c10)).2.1.1
    show bV O _ d 25 [(0, .ref 50), (1, .int x)] [.ref (eA (cl x))] (bU f 50 (.inr (11, [.int 0, .int tr, .int (if tr = 4 then pl else -1), .int ft, .int (nI mc), .ref 51, .ref (nA mc), .ref 53, .ref 54, .int (nI tl), .int sz_, .int at_, .int so_, .int pl_, .int mk_, .int nu_, .int di_, .int br_, .int iff_, .long wo_, .ref 55, .ref 56, .int (nI dc), .int (nI td), .ref 57, .int (nI ac), .ref 58, .ref 59, .ref 60, .ref 61, .ref 62, .ref 63, .int (bI hs), .ref 64, .int (nI dfn)])), n, s) _
    refine r_astore_n (n := 2) (i := 2) (L' := [(2, .ref (eA (cl x))), (0, .ref 50), (1, .int x)]) rfl dX11_back_25 (by decide) rfl ?_
    refine r_aload_n (n := 2) (i := 2) 0 rfl rfl dX11_back_26 ?_
    refine p_get (fs := [.int (d_ch (dr (cl x))), .int (d_rv (dr (cl x))), .int (d_sh (dr (cl x))), .int (d_rf (dr (cl x))), .int (nI (d_fc (dr (cl x)))), .int (d_kp (dr (cl x))), .ref ((eA (cl x)) + 1), .ref ((eA (cl x)) + 2), .ref ((eA (cl x)) + 3), .ref ((eA (cl x)) + 4), .ref ((eA (cl x)) + 5)]) flX11_295 (by exact ((bU_n (by omega)).trans (d0))) rfl dX11_back_27 ?_
    refine r_if_ne (tgt := 39) (by decide) dX11_back_30 (fun c30 => ?_) (fun c30 => ?_)
    · have c30 : ¬ (d_fc (dr (cl x))) = 0 := fun h7 => c30 ((nI_eq (a := (d_fc (dr (cl x)))) (b := 0) (by omega) (by omega)).mpr h7)
      refine r_aload_n (n := 2) (i := 2) 0 rfl rfl dX11_back_39 ?_
      refine r_dup rfl dX11_back_40 ?_
      refine p_get (fs := [.int (d_ch (dr (cl x))), .int (d_rv (dr (cl x))), .int (d_sh (dr (cl x))), .int (d_rf (dr (cl x))), .int (nI (d_fc (dr (cl x)))), .int (d_kp (dr (cl x))), .ref ((eA (cl x)) + 1), .ref ((eA (cl x)) + 2), .ref ((eA (cl x)) + 3), .ref ((eA (cl x)) + 4), .ref ((eA (cl x)) + 5)]) flX11_295 (by exact ((bU_n (by omega)).trans (d0))) rfl dX11_back_41 ?_
      refine r_iconst (v := 1) (by decide) dX11_back_44 ?_
      refine r_isubE (v := nI ((d_fc (dr (cl x))) - 1)) (pk_sub (a := d_fc (dr (cl x))) (b := 1) (by omega)) dX11_back_45 ?_
      refine p_put (fs := [.int (d_ch (dr (cl x))), .int (d_rv (dr (cl x))), .int (d_sh (dr (cl x))), .int (d_rf (dr (cl x))), .int (nI (d_fc (dr (cl x)))), .int (d_kp (dr (cl x))), .ref ((eA (cl x)) + 1), .ref ((eA (cl x)) + 2), .ref ((eA (cl x)) + 3), .ref ((eA (cl x)) + 4), .ref ((eA (cl x)) + 5)]) (fs' := [.int (d_ch (dr (cl x))), .int (d_rv (dr (cl x))), .int (d_sh (dr (cl x))), .int (d_rf (dr (cl x))), .int (nI ((d_fc (dr (cl x))) - 1)), .int (d_kp (dr (cl x))), .ref ((eA (cl x)) + 1), .ref ((eA (cl x)) + 2), .ref ((eA (cl x)) + 3), .ref ((eA (cl x)) + 4), .ref ((eA (cl x)) + 5)]) flX11_295 (by exact ((bU_n (by omega)).trans (d0))) (Nat.le_of_ble_eq_true rfl) (bNf_i _) rfl dX11_back_46 ?_
      refine r_aload_n (n := 0) (i := 0) 1 rfl rfl dX11_back_49 ?_
      refine r_aload_n (n := 2) (i := 2) 0 rfl rfl dX11_back_50 ?_
      refine r_aload_n (n := 2) (i := 2) 0 rfl rfl dX11_back_51 ?_
      refine p_get (fs := [.int (d_ch (dr (cl x))), .int (d_rv (dr (cl x))), .int (d_sh (dr (cl x))), .int (d_rf (dr (cl x))), .int (nI ((d_fc (dr (cl x))) - 1)), .int (d_kp (dr (cl x))), .ref ((eA (cl x)) + 1), .ref ((eA (cl x)) + 2), .ref ((eA (cl x)) + 3), .ref ((eA (cl x)) + 4), .ref ((eA (cl x)) + 5)]) flX11_298 (by exact bU_s _ _ _) rfl dX11_back_52 ?_
      refine r_aload_n (n := 2) (i := 2) 0 rfl rfl dX11_back_55 ?_
      refine p_get (fs := [.int (d_ch (dr (cl x))), .int (d_rv (dr (cl x))), .int (d_sh (dr (cl x))), .int (d_rf (dr (cl x))), .int (nI ((d_fc (dr (cl x))) - 1)), .int (d_kp (dr (cl x))), .ref ((eA (cl x)) + 1), .ref ((eA (cl x)) + 2), .ref ((eA (cl x)) + 3), .ref ((eA (cl x)) + 4), .ref ((eA (cl x)) + 5)]) flX11_295 (by exact bU_s _ _ _) rfl dX11_back_56 ?_
      refine p_ialdN (t := (d_fc (dr (cl x))) - 1) (by exact ((bU_n (by omega)).trans (((bU_n (by omega)).trans (d3))))) (by omega) (by omega) dX11_back_59 ?_
      refine p_callV (As := [.ref (eA (cl x)), .int (fm9 ((d_fc (dr (cl x))) - 1))]) (rest := []) (kX11_crowned (O := O) (d := 0) (f := bU (bU f 50 (.inr (11, [.int 0, .int tr, .int (if tr = 4 then pl else -1), .int ft, .int (nI mc), .ref 51, .ref (nA mc), .ref 53, .ref 54, .int (nI tl), .int sz_, .int at_, .int so_, .int pl_, .int mk_, .int nu_, .int di_, .int br_, .int iff_, .long wo_, .ref 55, .ref 56, .int (nI dc), .int (nI td), .ref 57, .int (nI ac), .ref 58, .ref 59, .ref 60, .ref 61, .ref 62, .ref 63, .int (bI hs), .ref 64, .int (nI dfn)]))) (eA (cl x)) (.inr (8, [.int (d_ch (dr (cl x))), .int (d_rv (dr (cl x))), .int (d_sh (dr (cl x))), .int (d_rf (dr (cl x))), .int (nI ((d_fc (dr (cl x))) - 1)), .int (d_kp (dr (cl x))), .ref ((eA (cl x)) + 1), .ref ((eA (cl x)) + 2), .ref ((eA (cl x)) + 3), .ref ((eA (cl x)) + 4), .ref ((eA (cl x)) + 5)]))) (n := n) (s := s) (th_ := 0) (tr_ := tr) (wh_ := (if tr = 4 then pl else -1)) (fl_ := ft) (nm_ := nI mc) (tp_ := nI tl) (sz_ := sz_) (at_ := at_) (so_ := so_) (pl_ := pl_) (mk_ := mk_) (nu_ := nu_) (di_ := di_) (br_ := br_) (iff_ := iff_) (wo_ := wo_) (nd_ := nI dc) (na_ := nI ac) (hs_ := bI hs) (nf_ := nI dfn) (q9 := nA mc) (ch_ := d_ch (dr (cl x))) (rv_ := d_rv (dr (cl x))) (sh_ := d_sh (dr (cl x))) (rf_ := d_rf (dr (cl x))) (bk_ := nI ((d_fc (dr (cl x))) - 1)) (kp_ := d_kp (dr (cl x))) (q := eA (cl x)) (t9 := td) (m := fm9 ((d_fc (dr (cl x))) - 1)) (dy := dy9) (by exact bU_s _ _ _) (by exact ((bU_n (by omega)).trans (((bU_n (by omega)).trans (d4))))) (by exact ((bU_n (by omega)).trans (bU_s _ _ _))) (by omega) j5 (Nat.le_refl _)).call rfl lkX11_301 imX11_crowned seX11_crowned rfl (by exact ((bU_n (by omega)).trans (bU_s _ _ _))) rfl rfl (by omega) (Nat.le_of_ble_eq_true rfl) dX11_back_60 (fun v9 G9 h9 => ?_) (fun q9 G9 h9 => (by cases h9.1))
      obtain ⟨h8, rfl⟩ := h9; cases h8
      refine bV_h (f2 := bU (bU (bU f 50 (.inr (11, [.int 0, .int tr, .int (if tr = 4 then pl else -1), .int ft, .int (nI mc), .ref 51, .ref (nA mc), .ref 53, .ref 54, .int (nI tl), .int sz_, .int at_, .int so_, .int pl_, .int mk_, .int nu_, .int di_, .int br_, .int iff_, .long wo_, .ref 55, .ref 56, .int (nI dc), .int (nI td), .ref 57, .int (nI ac), .ref 58, .ref 59, .ref 60, .ref 61, .ref 62, .ref 63, .int (bI hs), .ref 64, .int (nI dfn)]))) (eA (cl x)) (.inr (8, [.int (fm9 ((d_fc (dr (cl x))) - 1)), .int (d_rv (dr (cl x))), .int (d_sh (dr (cl x))), .int (d_rf (dr (cl x))), .int (nI ((d_fc (dr (cl x))) - 1)), .int (d_kp (dr (cl x))), .ref ((eA (cl x)) + 1), .ref ((eA (cl x)) + 2), .ref ((eA (cl x)) + 3), .ref ((eA (cl x)) + 4), .ref ((eA (cl x)) + 5)]))) ((eA (cl x)) + 4) (.inl (0, 2001, .inl (upd dy9 td (fm9 ((d_fc (dr (cl x))) - 1)))))) (by funext z; simp only [bU]; repeat (first | rfl | split <;> try simp_all)) ?_
      show bV O _ d 63 [(2, .ref (eA (cl x))), (0, .ref 50), (1, .int x)] [] (bU (bU (bU f 50 (.inr (11, [.int 0, .int tr, .int (if tr = 4 then pl else -1), .int ft, .int (nI mc), .ref 51, .ref (nA mc), .ref 53, .ref 54, .int (nI tl), .int sz_, .int at_, .int so_, .int pl_, .int mk_, .int nu_, .int di_, .int br_, .int iff_, .long wo_, .ref 55, .ref 56, .int (nI dc), .int (nI td), .ref 57, .int (nI ac), .ref 58, .ref 59, .ref 60, .ref 61, .ref 62, .ref 63, .int (bI hs), .ref 64, .int (nI dfn)]))) (eA (cl x)) (.inr (8, [.int (fm9 ((d_fc (dr (cl x))) - 1)), .int (d_rv (dr (cl x))), .int (d_sh (dr (cl x))), .int (d_rf (dr (cl x))), .int (nI ((d_fc (dr (cl x))) - 1)), .int (d_kp (dr (cl x))), .ref ((eA (cl x)) + 1), .ref ((eA (cl x)) + 2), .ref ((eA (cl x)) + 3), .ref ((eA (cl x)) + 4), .ref ((eA (cl x)) + 5)]))) ((eA (cl x)) + 4) (.inl (0, 2001, .inl (upd dy9 td (fm9 ((d_fc (dr (cl x))) - 1))))), n, s) _
      refine r_aload_n (n := 0) (i := 0) 1 rfl rfl dX11_back_63 ?_
      refine r_aload_n (n := 2) (i := 2) 0 rfl rfl dX11_back_64 ?_
      refine p_callV (As := [.ref (eA (cl x))]) (rest := []) (kX11_noRival (O := O) (d := 0) (f := bU (bU (bU f 50 (.inr (11, [.int 0, .int tr, .int (if tr = 4 then pl else -1), .int ft, .int (nI mc), .ref 51, .ref (nA mc), .ref 53, .ref 54, .int (nI tl), .int sz_, .int at_, .int so_, .int pl_, .int mk_, .int nu_, .int di_, .int br_, .int iff_, .long wo_, .ref 55, .ref 56, .int (nI dc), .int (nI td), .ref 57, .int (nI ac), .ref 58, .ref 59, .ref 60, .ref 61, .ref 62, .ref 63, .int (bI hs), .ref 64, .int (nI dfn)]))) (eA (cl x)) (.inr (8, [.int (fm9 ((d_fc (dr (cl x))) - 1)), .int (d_rv (dr (cl x))), .int (d_sh (dr (cl x))), .int (d_rf (dr (cl x))), .int (nI ((d_fc (dr (cl x))) - 1)), .int (d_kp (dr (cl x))), .ref ((eA (cl x)) + 1), .ref ((eA (cl x)) + 2), .ref ((eA (cl x)) + 3), .ref ((eA (cl x)) + 4), .ref ((eA (cl x)) + 5)]))) ((eA (cl x)) + 4) (.inl (0, 2001, .inl (upd dy9 td (fm9 ((d_fc (dr (cl x))) - 1)))))) (n := n) (s := s) (ch_ := fm9 ((d_fc (dr (cl x))) - 1)) (rv_ := d_rv (dr (cl x))) (sh_ := d_sh (dr (cl x))) (rf_ := d_rf (dr (cl x))) (bk_ := nI ((d_fc (dr (cl x))) - 1)) (kp_ := d_kp (dr (cl x))) (q := eA (cl x)) (by exact ((bU_n (by omega)).trans (bU_s _ _ _)))  (Nat.le_refl _)).call rfl lkX11_305 imX11_noRival seX11_noRival rfl (by exact ((bU_n (by omega)).trans (((bU_n (by omega)).trans (bU_s _ _ _))))) rfl rfl (by omega) (Nat.le_of_ble_eq_true rfl) dX11_back_65 (fun v9 G9 h9 => ?_) (fun q9 G9 h9 => (by cases h9.1))
      obtain ⟨h8, rfl⟩ := h9; cases h8
      refine bV_h (f2 := bU (bU (bU f 50 (.inr (11, [.int 0, .int tr, .int (if tr = 4 then pl else -1), .int ft, .int (nI mc), .ref 51, .ref (nA mc), .ref 53, .ref 54, .int (nI tl), .int sz_, .int at_, .int so_, .int pl_, .int mk_, .int nu_, .int di_, .int br_, .int iff_, .long wo_, .ref 55, .ref 56, .int (nI dc), .int (nI td), .ref 57, .int (nI ac), .ref 58, .ref 59, .ref 60, .ref 61, .ref 62, .ref 63, .int (bI hs), .ref 64, .int (nI dfn)]))) (eA (cl x)) (.inr (8, [.int (fm9 ((d_fc (dr (cl x))) - 1)), .int (-2), .int 0, .int (d_rf (dr (cl x))), .int (nI ((d_fc (dr (cl x))) - 1)), .int (d_kp (dr (cl x))), .ref ((eA (cl x)) + 1), .ref ((eA (cl x)) + 2), .ref ((eA (cl x)) + 3), .ref ((eA (cl x)) + 4), .ref ((eA (cl x)) + 5)]))) ((eA (cl x)) + 4) (.inl (0, 2001, .inl (upd dy9 td (fm9 ((d_fc (dr (cl x))) - 1)))))) (((bU_c (by omega)).trans (congrArg (fun z => bU z ((eA (cl x)) + 4) (.inl (0, 2001, .inl (upd dy9 td (fm9 ((d_fc (dr (cl x))) - 1)))))) (bU_u _ _ _ _)))) ?_
      show bV O _ d 68 [(2, .ref (eA (cl x))), (0, .ref 50), (1, .int x)] [] (bU (bU (bU f 50 (.inr (11, [.int 0, .int tr, .int (if tr = 4 then pl else -1), .int ft, .int (nI mc), .ref 51, .ref (nA mc), .ref 53, .ref 54, .int (nI tl), .int sz_, .int at_, .int so_, .int pl_, .int mk_, .int nu_, .int di_, .int br_, .int iff_, .long wo_, .ref 55, .ref 56, .int (nI dc), .int (nI td), .ref 57, .int (nI ac), .ref 58, .ref 59, .ref 60, .ref 61, .ref 62, .ref 63, .int (bI hs), .ref 64, .int (nI dfn)]))) (eA (cl x)) (.inr (8, [.int (fm9 ((d_fc (dr (cl x))) - 1)), .int (-2), .int 0, .int (d_rf (dr (cl x))), .int (nI ((d_fc (dr (cl x))) - 1)), .int (d_kp (dr (cl x))), .ref ((eA (cl x)) + 1), .ref ((eA (cl x)) + 2), .ref ((eA (cl x)) + 3), .ref ((eA (cl x)) + 4), .ref ((eA (cl x)) + 5)]))) ((eA (cl x)) + 4) (.inl (0, 2001, .inl (upd dy9 td (fm9 ((d_fc (dr (cl x))) - 1))))), n, s) _
      refine r_aload_n (n := 0) (i := 0) 1 rfl rfl dX11_back_68 ?_
      refine p_callV (As := []) (rest := []) (kX11_granted (O := O) (d := 0) (f := bU (bU (bU f 50 (.inr (11, [.int 0, .int tr, .int (if tr = 4 then pl else -1), .int ft, .int (nI mc), .ref 51, .ref (nA mc), .ref 53, .ref 54, .int (nI tl), .int sz_, .int at_, .int so_, .int pl_, .int mk_, .int nu_, .int di_, .int br_, .int iff_, .long wo_, .ref 55, .ref 56, .int (nI dc), .int (nI td), .ref 57, .int (nI ac), .ref 58, .ref 59, .ref 60, .ref 61, .ref 62, .ref 63, .int (bI hs), .ref 64, .int (nI dfn)]))) (eA (cl x)) (.inr (8, [.int (fm9 ((d_fc (dr (cl x))) - 1)), .int (-2), .int 0, .int (d_rf (dr (cl x))), .int (nI ((d_fc (dr (cl x))) - 1)), .int (d_kp (dr (cl x))), .ref ((eA (cl x)) + 1), .ref ((eA (cl x)) + 2), .ref ((eA (cl x)) + 3), .ref ((eA (cl x)) + 4), .ref ((eA (cl x)) + 5)]))) ((eA (cl x)) + 4) (.inl (0, 2001, .inl (upd dy9 td (fm9 ((d_fc (dr (cl x))) - 1)))))) (n := n) (s := s) (th_ := 0) (tr_ := tr) (wh_ := (if tr = 4 then pl else -1)) (fl_ := ft) (nm_ := nI mc) (q_ := nA mc) (tp_ := nI tl) (sz_ := sz_) (at_ := at_) (so_ := so_) (pl_ := pl_) (mk_ := mk_) (nu_ := nu_) (di_ := di_) (br_ := br_) (iff_ := iff_) (wo_ := wo_) (nd_ := nI dc) (td_ := nI td) (na_ := nI ac) (hs_ := bI hs) (nf_ := nI dfn) (by exact ((bU_n (by omega)).trans (((bU_n (by omega)).trans (bU_s _ _ _)))))  (Nat.le_refl _)).call rfl lkX11_231 imX11_granted seX11_granted rfl (by exact ((bU_n (by omega)).trans (((bU_n (by omega)).trans (bU_s _ _ _))))) rfl rfl (by omega) (Nat.le_of_ble_eq_true rfl) dX11_back_69 (fun v9 G9 h9 => ?_) (fun q9 G9 h9 => (by cases h9.1))
      obtain ⟨h8, rfl⟩ := h9; cases h8
      refine bV_h (f2 := bU (bU (bU f 50 (.inr (11, [.int 0, .int 0, .int (-1), .int ft, .int (nI mc), .ref 51, .ref (nA mc), .ref 53, .ref 54, .int (nI tl), .int sz_, .int at_, .int so_, .int pl_, .int mk_, .int nu_, .int di_, .int br_, .int iff_, .long wo_, .ref 55, .ref 56, .int (nI dc), .int (nI td), .ref 57, .int (nI ac), .ref 58, .ref 59, .ref 60, .ref 61, .ref 62, .ref 63, .int (bI hs), .ref 64, .int (nI dfn)]))) (eA (cl x)) (.inr (8, [.int (fm9 ((d_fc (dr (cl x))) - 1)), .int (-2), .int 0, .int (d_rf (dr (cl x))), .int (nI ((d_fc (dr (cl x))) - 1)), .int (d_kp (dr (cl x))), .ref ((eA (cl x)) + 1), .ref ((eA (cl x)) + 2), .ref ((eA (cl x)) + 3), .ref ((eA (cl x)) + 4), .ref ((eA (cl x)) + 5)]))) ((eA (cl x)) + 4) (.inl (0, 2001, .inl (upd dy9 td (fm9 ((d_fc (dr (cl x))) - 1)))))) (((bU_c (by omega)).trans (congrArg (fun z => bU z ((eA (cl x)) + 4) (.inl (0, 2001, .inl (upd dy9 td (fm9 ((d_fc (dr (cl x))) - 1)))))) (((bU_c (by omega)).trans (congrArg (fun z => bU z (eA (cl x)) (.inr (8, [.int (fm9 ((d_fc (dr (cl x))) - 1)), .int (-2), .int 0, .int (d_rf (dr (cl x))), .int (nI ((d_fc (dr (cl x))) - 1)), .int (d_kp (dr (cl x))), .ref ((eA (cl x)) + 1), .ref ((eA (cl x)) + 2), .ref ((eA (cl x)) + 3), .ref ((eA (cl x)) + 4), .ref ((eA (cl x)) + 5)]))) (bU_u _ _ _ _))))))) ?_
      show bV O _ d 72 [(2, .ref (eA (cl x))), (0, .ref 50), (1, .int x)] [.int 1] (bU (bU (bU f 50 (.inr (11, [.int 0, .int 0, .int (-1), .int ft, .int (nI mc), .ref 51, .ref (nA mc), .ref 53, .ref 54, .int (nI tl), .int sz_, .int at_, .int so_, .int pl_, .int mk_, .int nu_, .int di_, .int br_, .int iff_, .long wo_, .ref 55, .ref 56, .int (nI dc), .int (nI td), .ref 57, .int (nI ac), .ref 58, .ref 59, .ref 60, .ref 61, .ref 62, .ref 63, .int (bI hs), .ref 64, .int (nI dfn)]))) (eA (cl x)) (.inr (8, [.int (fm9 ((d_fc (dr (cl x))) - 1)), .int (-2), .int 0, .int (d_rf (dr (cl x))), .int (nI ((d_fc (dr (cl x))) - 1)), .int (d_kp (dr (cl x))), .ref ((eA (cl x)) + 1), .ref ((eA (cl x)) + 2), .ref ((eA (cl x)) + 3), .ref ((eA (cl x)) + 4), .ref ((eA (cl x)) + 5)]))) ((eA (cl x)) + 4) (.inl (0, 2001, .inl (upd dy9 td (fm9 ((d_fc (dr (cl x))) - 1))))), n, s) _
      refine r_zreturn rfl (by first | decide +kernel | exact narZ _ | assumption) dX11_back_72 ?_
      all_goals try have z30 : ¬ d_fm (dr (cl x)) (d_fc (dr (cl x)) - 1) = -2 := inB_ne2 ((j9 _ (inB_lt c10)).2.1.2.1 _ (by omega))
      all_goals try rw [e3 _ (show d_fc (dr (cl x)) - 1 < 20 by omega)]
      all_goals (unfold s_back; try simp only [])
      all_goals try (first | simp only [if_pos c10] | simp only [if_neg c10] | simp only [if_neg (Bool.eq_false_iff.mp c10)])
      all_goals try (first | simp only [if_pos c30] | simp only [if_neg c30] | simp only [if_neg (Bool.eq_false_iff.mp c30)])
      all_goals try (first | simp only [if_pos z30] | simp only [if_neg z30] | simp only [if_neg (Bool.eq_false_iff.mp z30)])
      all_goals try rw [if_pos rfl]
      all_goals exact pM_mk (NS_mk (by exact ((bU_n (by omega)).trans (((bU_n (by omega)).trans (bU_s _ _ _))))) (by first | rfl | exact (if_neg (by decide)).symm | exact (if_pos rfl).symm)) (hT.fr (fun q _ _ => (bU_n (by omega)).trans ((bU_n (by omega)).trans ((bU_n (by omega)).trans (rfl))))) (hM.fr j1 (fun q _ => (bU_n (by omega)).trans ((bU_n (by omega)).trans ((bU_n (by omega)).trans (rfl))))) (hI.fr ((bU_n (by omega)).trans ((bU_n (by omega)).trans ((bU_n (by decide)).trans (rfl))))) (hP.fr ((bU_n (by omega)).trans ((bU_n (by omega)).trans ((bU_n (by decide)).trans (rfl))))) (hD.put j2 (inB_lt c10) ⟨_, _, _, _, _, (by exact ((bU_n (by omega)).trans (bU_s _ _ _))), (by exact ((bU_n (by omega)).trans (((bU_n (by omega)).trans (((bU_n (by omega)).trans (d1))))))), (by exact ((bU_n (by omega)).trans (((bU_n (by omega)).trans (((bU_n (by omega)).trans (d2))))))), (by exact ((bU_n (by omega)).trans (((bU_n (by omega)).trans (((bU_n (by omega)).trans (d3))))))), (by exact bU_s _ _ _), (by exact ((bU_n (by omega)).trans (((bU_n (by omega)).trans (((bU_n (by omega)).trans (d5))))))), e1, e2, e3, upd_pw' e4, e5⟩ (fun q _ => (bU_n (by omega)).trans ((bU_n (by omega)).trans ((bU_n (by omega)).trans (rfl))))) (hA.fr (fun q _ _ => (bU_n (by omega)).trans ((bU_n (by omega)).trans ((bU_n (by omega)).trans (rfl))))) (hC.fr ((bU_n (by omega)).trans ((bU_n (by omega)).trans ((bU_n (by decide)).trans (rfl))))) (hF.fr ((bU_n (by omega)).trans ((bU_n (by omega)).trans ((bU_n (by decide)).trans (rfl))))) (fun q _ => (bU_n (by omega)).trans ((bU_n (by omega)).trans ((bU_n (by omega)).trans (rfl)))) (by omega) (by omega)
    · have c30 : (d_fc (dr (cl x))) = 0 := (nI_eq (a := (d_fc (dr (cl x)))) (b := 0) (by omega) (by omega)).mp c30
      refine r_aload_n (n := 0) (i := 0) 1 rfl rfl dX11_back_33 ?_
      refine r_iconst (v := 5) (by decide) dX11_back_34 ?_
      refine p_callV (As := [.int 5]) (rest := []) (kX11_denied (O := O) (d := 0) (f := bU f 50 (.inr (11, [.int 0, .int tr, .int (if tr = 4 then pl else -1), .int ft, .int (nI mc), .ref 51, .ref (nA mc), .ref 53, .ref 54, .int (nI tl), .int sz_, .int at_, .int so_, .int pl_, .int mk_, .int nu_, .int di_, .int br_, .int iff_, .long wo_, .ref 55, .ref 56, .int (nI dc), .int (nI td), .ref 57, .int (nI ac), .ref 58, .ref 59, .ref 60, .ref 61, .ref 62, .ref 63, .int (bI hs), .ref 64, .int (nI dfn)]))) (n := n) (s := s) (th_ := 0) (tr_ := tr) (wh_ := (if tr = 4 then pl else -1)) (fl_ := ft) (nm_ := nI mc) (q_ := nA mc) (tp_ := nI tl) (sz_ := sz_) (at_ := at_) (so_ := so_) (pl_ := pl_) (mk_ := mk_) (nu_ := nu_) (di_ := di_) (br_ := br_) (iff_ := iff_) (wo_ := wo_) (nd_ := nI dc) (td_ := nI td) (na_ := nI ac) (hs_ := bI hs) (nf_ := nI dfn) (y := 5) (by exact bU_s _ _ _)  (Nat.le_refl _)).call rfl lkX11_228 imX11_denied seX11_denied rfl (by exact bU_s _ _ _) rfl rfl (by omega) (Nat.le_of_ble_eq_true rfl) dX11_back_35 (fun v9 G9 h9 => ?_) (fun q9 G9 h9 => (by cases h9.1))
      obtain ⟨h8, rfl⟩ := h9; cases h8
      refine bV_h (f2 := bU f 50 (.inr (11, [.int 0, .int 5, .int (-1), .int ft, .int (nI mc), .ref 51, .ref (nA mc), .ref 53, .ref 54, .int (nI tl), .int sz_, .int at_, .int so_, .int pl_, .int mk_, .int nu_, .int di_, .int br_, .int iff_, .long wo_, .ref 55, .ref 56, .int (nI dc), .int (nI td), .ref 57, .int (nI ac), .ref 58, .ref 59, .ref 60, .ref 61, .ref 62, .ref 63, .int (bI hs), .ref 64, .int (nI dfn)]))) (bU_u _ _ _ _) ?_
      show bV O _ d 38 [(2, .ref (eA (cl x))), (0, .ref 50), (1, .int x)] [.int 0] (bU f 50 (.inr (11, [.int 0, .int 5, .int (-1), .int ft, .int (nI mc), .ref 51, .ref (nA mc), .ref 53, .ref 54, .int (nI tl), .int sz_, .int at_, .int so_, .int pl_, .int mk_, .int nu_, .int di_, .int br_, .int iff_, .long wo_, .ref 55, .ref 56, .int (nI dc), .int (nI td), .ref 57, .int (nI ac), .ref 58, .ref 59, .ref 60, .ref 61, .ref 62, .ref 63, .int (bI hs), .ref 64, .int (nI dfn)])), n, s) _
      refine r_zreturn rfl (by first | decide +kernel | exact narZ _ | assumption) dX11_back_38 ?_
      all_goals try have z30 : ¬ d_fm (dr (cl x)) (d_fc (dr (cl x)) - 1) = -2 := inB_ne2 ((j9 _ (inB_lt c10)).2.1.2.1 _ (by omega))
      all_goals try rw [e3 _ (show d_fc (dr (cl x)) - 1 < 20 by omega)]
      all_goals (unfold s_back; try simp only [])
      all_goals try (first | simp only [if_pos c10] | simp only [if_neg c10] | simp only [if_neg (Bool.eq_false_iff.mp c10)])
      all_goals try (first | simp only [if_pos c30] | simp only [if_neg c30] | simp only [if_neg (Bool.eq_false_iff.mp c30)])
      all_goals try (first | simp only [if_pos z30] | simp only [if_neg z30] | simp only [if_neg (Bool.eq_false_iff.mp z30)])
      all_goals try rw [if_pos rfl]
      all_goals exact pM_mk (NS_mk (by exact bU_s _ _ _) (by first | rfl | exact (if_neg (by decide)).symm | exact (if_pos rfl).symm)) (hT.fr (fun q _ _ => (bU_n (by omega)).trans (rfl))) (hM.fr j1 (fun q _ => (bU_n (by omega)).trans (rfl))) (hI.fr ((bU_n (by decide)).trans (rfl))) (hP.fr ((bU_n (by decide)).trans (rfl))) ((by rw [show d_fc (dr (cl x)) - 1 = d_fc (dr (cl x)) by omega]; exact hD.put j2 (inB_lt c10) ((hD.2.1 _ (inB_lt c10)).fr (fun j hj => (bU_n (by omega)).trans (rfl))) (fun q _ => (bU_n (by omega)).trans (rfl)))) (hA.fr (fun q _ _ => (bU_n (by omega)).trans (rfl))) (hC.fr ((bU_n (by decide)).trans (rfl))) (hF.fr ((bU_n (by decide)).trans (rfl))) (fun q _ => (bU_n (by omega)).trans (rfl)) (by omega) (by omega)
  · have c10 := bI_0.mp c10
    refine r_aload_n (n := 0) (i := 0) 0 rfl rfl dX11_back_13 ?_
    refine r_iconst (v := 1) (by decide) dX11_back_14 ?_
    refine p_callV (As := [.int 1]) (rest := []) (kX11_denied (O := O) (d := 0) (f := bU f 50 (.inr (11, [.int 0, .int tr, .int (if tr = 4 then pl else -1), .int ft, .int (nI mc), .ref 51, .ref (nA mc), .ref 53, .ref 54, .int (nI tl), .int sz_, .int at_, .int so_, .int pl_, .int mk_, .int nu_, .int di_, .int br_, .int iff_, .long wo_, .ref 55, .ref 56, .int (nI dc), .int (nI td), .ref 57, .int (nI ac), .ref 58, .ref 59, .ref 60, .ref 61, .ref 62, .ref 63, .int (bI hs), .ref 64, .int (nI dfn)]))) (n := n) (s := s) (th_ := 0) (tr_ := tr) (wh_ := (if tr = 4 then pl else -1)) (fl_ := ft) (nm_ := nI mc) (q_ := nA mc) (tp_ := nI tl) (sz_ := sz_) (at_ := at_) (so_ := so_) (pl_ := pl_) (mk_ := mk_) (nu_ := nu_) (di_ := di_) (br_ := br_) (iff_ := iff_) (wo_ := wo_) (nd_ := nI dc) (td_ := nI td) (na_ := nI ac) (hs_ := bI hs) (nf_ := nI dfn) (y := 1) (by exact bU_s _ _ _)  (Nat.le_refl _)).call rfl lkX11_228 imX11_denied seX11_denied rfl (by exact bU_s _ _ _) rfl rfl (by omega) (Nat.le_of_ble_eq_true rfl) dX11_back_15 (fun v9 G9 h9 => ?_) (fun q9 G9 h9 => (by cases h9.1))
    obtain ⟨h8, rfl⟩ := h9; cases h8
    refine bV_h (f2 := bU f 50 (.inr (11, [.int 0, .int 1, .int (-1), .int ft, .int (nI mc), .ref 51, .ref (nA mc), .ref 53, .ref 54, .int (nI tl), .int sz_, .int at_, .int so_, .int pl_, .int mk_, .int nu_, .int di_, .int br_, .int iff_, .long wo_, .ref 55, .ref 56, .int (nI dc), .int (nI td), .ref 57, .int (nI ac), .ref 58, .ref 59, .ref 60, .ref 61, .ref 62, .ref 63, .int (bI hs), .ref 64, .int (nI dfn)]))) (bU_u _ _ _ _) ?_
    show bV O _ d 18 [(0, .ref 50), (1, .int x)] [.int 0] (bU f 50 (.inr (11, [.int 0, .int 1, .int (-1), .int ft, .int (nI mc), .ref 51, .ref (nA mc), .ref 53, .ref 54, .int (nI tl), .int sz_, .int at_, .int so_, .int pl_, .int mk_, .int nu_, .int di_, .int br_, .int iff_, .long wo_, .ref 55, .ref 56, .int (nI dc), .int (nI td), .ref 57, .int (nI ac), .ref 58, .ref 59, .ref 60, .ref 61, .ref 62, .ref 63, .int (bI hs), .ref 64, .int (nI dfn)])), n, s) _
    refine r_zreturn rfl (by first | decide +kernel | exact narZ _ | assumption) dX11_back_18 ?_
    all_goals (unfold s_back; try simp only [])
    all_goals try (first | simp only [if_pos c10] | simp only [if_neg c10] | simp only [if_neg (Bool.eq_false_iff.mp c10)])
    all_goals try rw [if_pos rfl]
    all_goals exact pM_mk (NS_mk (by exact bU_s _ _ _) (by first | rfl | exact (if_neg (by decide)).symm | exact (if_pos rfl).symm)) (hT.fr (fun q _ _ => (bU_n (by omega)).trans (rfl))) (hM.fr j1 (fun q _ => (bU_n (by omega)).trans (rfl))) (hI.fr ((bU_n (by decide)).trans (rfl))) (hP.fr ((bU_n (by decide)).trans (rfl))) (hD.fr j2 (fun q _ => (bU_n (by omega)).trans (rfl))) (hA.fr (fun q _ _ => (bU_n (by omega)).trans (rfl))) (hC.fr ((bU_n (by decide)).trans (rfl))) (hF.fr ((bU_n (by decide)).trans (rfl))) (fun q _ => (bU_n (by omega)).trans (rfl)) (by omega) (by omega)
set_option maxRecDepth 4000 in
theorem m_champion {O : bO} {d : Nat} {f : bF} {n s : Nat} {bs : Nat → Int32} {tl : Nat} {mc : Nat} {md : Nat → MR} {ip : Nat → Int32} {dc : Nat} {dr : Nat → DR} {ac : Nat} {an : Nat → AR} {hs : Bool} {sd : Nat → Int32} {df : Nat → Int32} {dfn : Nat} {td : Nat} {tr : Int32} {ft : Int32} {pl : Int32} {x : Int32} {y : Int32} (hX : MP f (bs, tl, mc, md, ip, dc, dr, ac, an, hs, sd, df, dfn, td, tr, ft, pl)) (jX : JJ (bs, tl, mc, md, ip, dc, dr, ac, an, hs, sd, df, dfn, td, tr, ft, pl))  (hd : 1 ≤ d) : bCall O mX11_champion d [.ref 50, .int x, .int y] (f, n, s) (pM f n s 0 0 (s_champion (bs, tl, mc, md, ip, dc, dr, ac, an, hs, sd, df, dfn, td, tr, ft, pl) x y)) := by
  refine bCall_of (by decide) rfl (Nat.le_of_ble_eq_true rfl) ?_
  obtain ⟨hNS, hT, hM, hI, hP, hD, hA, hC, hF⟩ := id hX
  simp only [] at hNS hT hM hI hP hD hA hC hF
  obtain ⟨j1, j2, j3, j4, j5, j6, j7, j8, j9, j10⟩ := id jX
  simp only [] at j1 j2 j3 j4 j5 j6 j7 j8 j9 j10
  obtain ⟨th_, sz_, at_, so_, pl_, mk_, nu_, di_, br_, iff_, wo_, hO⟩ := id hNS
  obtain ⟨tg9, kd9, sp9, h53, h54, hTb⟩ := id hT
  obtain ⟨ig9, h55, hIp⟩ := id hI
  obtain ⟨pg9, h56⟩ := id hP
  obtain ⟨kp9, aq9, bc9, br9, tu9, h58, h59, h60, h61, h62, hAp⟩ := id hA
  obtain ⟨sg9, h63, hC0, hC1, hC2, hC3, hC4⟩ := id hC
  obtain ⟨dg9, h64, hFp⟩ := id hF
  have bN := nA_b (i := mc) j1
  show bV O _ d 0 [(0, .ref 50), (1, .int x), (2, .int y)] [] (f, n, s) _
  refine r_aload_n (n := 0) (i := 0) 0 rfl rfl dX11_champion_0 ?_
  refine r_iconst (v := 0) (by decide) dX11_champion_1 ?_
  refine p_put (fs := [.int th_, .int tr, .int (if tr = 4 then pl else -1), .int ft, .int (nI mc), .ref 51, .ref (nA mc), .ref 53, .ref 54, .int (nI tl), .int sz_, .int at_, .int so_, .int pl_, .int mk_, .int nu_, .int di_, .int br_, .int iff_, .long wo_, .ref 55, .ref 56, .int (nI dc), .int (nI td), .ref 57, .int (nI ac), .ref 58, .ref 59, .ref 60, .ref 61, .ref 62, .ref 63, .int (bI hs), .ref 64, .int (nI dfn)]) (fs' := [.int 0, .int tr, .int (if tr = 4 then pl else -1), .int ft, .int (nI mc), .ref 51, .ref (nA mc), .ref 53, .ref 54, .int (nI tl), .int sz_, .int at_, .int so_, .int pl_, .int mk_, .int nu_, .int di_, .int br_, .int iff_, .long wo_, .ref 55, .ref 56, .int (nI dc), .int (nI td), .ref 57, .int (nI ac), .ref 58, .ref 59, .ref 60, .ref 61, .ref 62, .ref 63, .int (bI hs), .ref 64, .int (nI dfn)]) flX11_71 hO (Nat.le_of_ble_eq_true rfl) (bNf_i _) rfl dX11_champion_2 ?_
  refine r_aload_n (n := 0) (i := 0) 0 rfl rfl dX11_champion_5 ?_
  refine r_iload_n (n := 1) (i := 1) 1 rfl rfl dX11_champion_6 ?_
  refine p_callV (As := [.int x]) (rest := []) (kX11_isDoor (O := O) (d := 0) (f := bU f 50 (.inr (11, [.int 0, .int tr, .int (if tr = 4 then pl else -1), .int ft, .int (nI mc), .ref 51, .ref (nA mc), .ref 53, .ref 54, .int (nI tl), .int sz_, .int at_, .int so_, .int pl_, .int mk_, .int nu_, .int di_, .int br_, .int iff_, .long wo_, .ref 55, .ref 56, .int (nI dc), .int (nI td), .ref 57, .int (nI ac), .ref 58, .ref 59, .ref 60, .ref 61, .ref 62, .ref 63, .int (bI hs), .ref 64, .int (nI dfn)]))) (n := n) (s := s) (th_ := 0) (tr_ := tr) (wh_ := (if tr = 4 then pl else -1)) (fl_ := ft) (nm_ := nI mc) (q_ := nA mc) (tp_ := nI tl) (sz_ := sz_) (at_ := at_) (so_ := so_) (pl_ := pl_) (mk_ := mk_) (nu_ := nu_) (di_ := di_) (br_ := br_) (iff_ := iff_) (wo_ := wo_) (td_ := nI td) (na_ := nI ac) (hs_ := bI hs) (nf_ := nI dfn) (m9 := dc) (x := x) (by exact bU_s _ _ _) (by omega) (Nat.le_refl _)).call rfl lkX11_271 imX11_isDoor seX11_isDoor rfl (by exact bU_s _ _ _) rfl rfl (by omega) (Nat.le_of_ble_eq_true rfl) dX11_champion_7 (fun v9 G9 h9 => ?_) (fun q9 G9 h9 => (by cases h9.1))
  obtain ⟨h8, rfl⟩ := h9; cases h8
  show bV O _ d 10 [(0, .ref 50), (1, .int x), (2, .int y)] [.int (bI (inB x dc))] (bU f 50 (.inr (11, [.int 0, .int tr, .int (if tr = 4 then pl else -1), .int ft, .int (nI mc), .ref 51, .ref (nA mc), .ref 53, .ref 54, .int (nI tl), .int sz_, .int at_, .int so_, .int pl_, .int mk_, .int nu_, .int di_, .int br_, .int iff_, .long wo_, .ref 55, .ref 56, .int (nI dc), .int (nI td), .ref 57, .int (nI ac), .ref 58, .ref 59, .ref 60, .ref 61, .ref 62, .ref 63, .int (bI hs), .ref 64, .int (nI dfn)])), n, s) _
  refine r_if_eq (tgt := 39) (by decide) dX11_champion_10 (fun c10 => ?_) (fun c10 => ?_)
  · have c10 := bI_0.mp c10
    refine r_iconst (v := (-1)) (by decide) dX11_champion_39 ?_
    refine r_ireturn rfl dX11_champion_40 ?_
    all_goals (unfold s_champion; try simp only [])
    all_goals try (first | simp only [if_pos c10] | simp only [if_neg c10] | simp only [if_neg (Bool.eq_false_iff.mp c10)])
    all_goals exact pM_mk (NS_mk (by exact bU_s _ _ _) (by first | rfl | exact (if_neg (by decide)).symm | exact (if_pos rfl).symm)) (hT.fr (fun q _ _ => (bU_n (by omega)).trans (rfl))) (hM.fr j1 (fun q _ => (bU_n (by omega)).trans (rfl))) (hI.fr ((bU_n (by decide)).trans (rfl))) (hP.fr ((bU_n (by decide)).trans (rfl))) (hD.fr j2 (fun q _ => (bU_n (by omega)).trans (rfl))) (hA.fr (fun q _ _ => (bU_n (by omega)).trans (rfl))) (hC.fr ((bU_n (by decide)).trans (rfl))) (hF.fr ((bU_n (by decide)).trans (rfl))) (fun q _ => (bU_n (by omega)).trans (rfl)) (by omega) (by omega)
  · have c10 := bI_1.mp c10
    refine r_iload_n (n := 2) (i := 2) 2 rfl rfl dX11_champion_13 ?_
    refine r_iconst (v := 0) (by decide) dX11_champion_14 ?_
    refine r_aload_n (n := 0) (i := 0) 0 rfl rfl dX11_champion_15 ?_
    refine p_get (fs := [.int 0, .int tr, .int (if tr = 4 then pl else -1), .int ft, .int (nI mc), .ref 51, .ref (nA mc), .ref 53, .ref 54, .int (nI tl), .int sz_, .int at_, .int so_, .int pl_, .int mk_, .int nu_, .int di_, .int br_, .int iff_, .long wo_, .ref 55, .ref 56, .int (nI dc), .int (nI td), .ref 57, .int (nI ac), .ref 58, .ref 59, .ref 60, .ref 61, .ref 62, .ref 63, .int (bI hs), .ref 64, .int (nI dfn)]) flX11_292 (by exact bU_s _ _ _) rfl dX11_champion_16 ?_
    refine p_callS (As := [.int y, .int 0, .int (nI td)]) (rest := []) (kX11_in (O := O) (d := 0) (f := bU f 50 (.inr (11, [.int 0, .int tr, .int (if tr = 4 then pl else -1), .int ft, .int (nI mc), .ref 51, .ref (nA mc), .ref 53, .ref 54, .int (nI tl), .int sz_, .int at_, .int so_, .int pl_, .int mk_, .int nu_, .int di_, .int br_, .int iff_, .long wo_, .ref 55, .ref 56, .int (nI dc), .int (nI td), .ref 57, .int (nI ac), .ref 58, .ref 59, .ref 60, .ref 61, .ref 62, .ref 63, .int (bI hs), .ref 64, .int (nI dfn)]))) (n := n) (s := s) (v := y) (lo := 0) (hi := nI td)   (Nat.le_refl _)).call rfl lkX11_200 smX11_in rfl rfl (by omega) (Nat.le_of_ble_eq_true rfl) dX11_champion_19 (fun v9 G9 h9 => ?_) (fun q9 G9 h9 => (by cases h9.1))
    obtain ⟨h8, rfl⟩ := h9; cases h8
    show bV O _ d 22 [(0, .ref 50), (1, .int x), (2, .int y)] [.int (bI (jIn y 0 (nI td)))] (bU f 50 (.inr (11, [.int 0, .int tr, .int (if tr = 4 then pl else -1), .int ft, .int (nI mc), .ref 51, .ref (nA mc), .ref 53, .ref 54, .int (nI tl), .int sz_, .int at_, .int so_, .int pl_, .int mk_, .int nu_, .int di_, .int br_, .int iff_, .long wo_, .ref 55, .ref 56, .int (nI dc), .int (nI td), .ref 57, .int (nI ac), .ref 58, .ref 59, .ref 60, .ref 61, .ref 62, .ref 63, .int (bI hs), .ref 64, .int (nI dfn)])), n, s) _
    refine r_if_eq (tgt := 39) (by decide) dX11_champion_22 (fun c22 => ?_) (fun c22 => ?_)
    · have c22 := bI_0.mp c22
      refine r_iconst (v := (-1)) (by decide) dX11_champion_39 ?_
      refine r_ireturn rfl dX11_champion_40 ?_
      all_goals rcases jIn_kf c22 with a22 | ⟨a22, b22⟩
      all_goals try have b22 : ¬ y ≤ nI td := Int32.not_le.mpr b22
      all_goals (unfold s_champion; try simp only [])
      all_goals try (first | simp only [if_pos c10] | simp only [if_neg c10] | simp only [if_neg (Bool.eq_false_iff.mp c10)])
      all_goals try (first | simp only [if_pos c22] | simp only [if_neg c22] | simp only [if_neg (Bool.eq_false_iff.mp c22)])
      all_goals try (first | simp only [if_pos a22] | simp only [if_neg a22] | simp only [if_neg (Bool.eq_false_iff.mp a22)])
      all_goals try (first | simp only [if_pos b22] | simp only [if_neg b22] | simp only [if_neg (Bool.eq_false_iff.mp b22)])
      all_goals exact pM_mk (NS_mk (by exact bU_s _ _ _) (by first | rfl | exact (if_neg (by decide)).symm | exact (if_pos rfl).symm)) (hT.fr (fun q _ _ => (bU_n (by omega)).trans (rfl))) (hM.fr j1 (fun q _ => (bU_n (by omega)).trans (rfl))) (hI.fr ((bU_n (by decide)).trans (rfl))) (hP.fr ((bU_n (by decide)).trans (rfl))) (hD.fr j2 (fun q _ => (bU_n (by omega)).trans (rfl))) (hA.fr (fun q _ _ => (bU_n (by omega)).trans (rfl))) (hC.fr ((bU_n (by decide)).trans (rfl))) (hF.fr ((bU_n (by decide)).trans (rfl))) (fun q _ => (bU_n (by omega)).trans (rfl)) (by omega) (by omega)
    · have c22 := bI_1.mp c22
      obtain ⟨y9, hy9, rfl⟩ := jIn_k (n := td + 1) c22 (by rw [nI_toInt (by omega)]; omega) (by omega)
      refine r_aload_n (n := 0) (i := 0) 0 rfl rfl dX11_champion_25 ?_
      refine p_get (fs := [.int 0, .int tr, .int (if tr = 4 then pl else -1), .int ft, .int (nI mc), .ref 51, .ref (nA mc), .ref 53, .ref 54, .int (nI tl), .int sz_, .int at_, .int so_, .int pl_, .int mk_, .int nu_, .int di_, .int br_, .int iff_, .long wo_, .ref 55, .ref 56, .int (nI dc), .int (nI td), .ref 57, .int (nI ac), .ref 58, .ref 59, .ref 60, .ref 61, .ref 62, .ref 63, .int (bI hs), .ref 64, .int (nI dfn)]) flX11_46 (by exact bU_s _ _ _) rfl dX11_champion_26 ?_
      refine r_iload_n (n := 1) (i := 1) 1 rfl rfl dX11_champion_29 ?_
      refine p_aald (kd := 7) rfl (by exact ((bU_n (by decide)).trans (hD.1))) (vpx c10 j2 (by decide)) dX11_champion_30 ?_
      rw [tab_in c10]
      obtain ⟨lo9, hi9, fm9, dy9, tl9, d0, d1, d2, d3, d4, d5, e1, e2, e3, e4, e5⟩ := hD.2.1 _ (inB_lt c10)
      have bE := eA_b (i := cl x) (by have := inB_lt c10; omega)
      have hfc : d_fc (dr (cl x)) ≤ 20 := (j9 _ (inB_lt c10)).2.1.1
      show bV O _ d 31 [(0, .ref 50), (1, .int x), (2, .int (nI y9))] [.ref (eA (cl x))] (bU f 50 (.inr (11, [.int 0, .int tr, .int (if tr = 4 then pl else -1), .int ft, .int (nI mc), .ref 51, .ref (nA mc), .ref 53, .ref 54, .int (nI tl), .int sz_, .int at_, .int so_, .int pl_, .int mk_, .int nu_, .int di_, .int br_, .int iff_, .long wo_, .ref 55, .ref 56, .int (nI dc), .int (nI td), .ref 57, .int (nI ac), .ref 58, .ref 59, .ref 60, .ref 61, .ref 62, .ref 63, .int (bI hs), .ref 64, .int (nI dfn)])), n, s) _
      refine p_get (fs := [.int (d_ch (dr (cl x))), .int (d_rv (dr (cl x))), .int (d_sh (dr (cl x))), .int (d_rf (dr (cl x))), .int (nI (d_fc (dr (cl x)))), .int (d_kp (dr (cl x))), .ref ((eA (cl x)) + 1), .ref ((eA (cl x)) + 2), .ref ((eA (cl x)) + 3), .ref ((eA (cl x)) + 4), .ref ((eA (cl x)) + 5)]) flX11_289 (by exact ((bU_n (by omega)).trans (d0))) rfl dX11_champion_31 ?_
      refine r_iload_n (n := 2) (i := 2) 2 rfl rfl dX11_champion_34 ?_
      refine p_ialdN (t := y9) (by exact ((bU_n (by omega)).trans (d4))) (by omega) (by omega) dX11_champion_35 ?_
      refine r_goto (tgt := 40) (by decide) dX11_champion_36 ?_
      refine r_ireturn rfl dX11_champion_40 ?_
      all_goals have a22 : ¬ nI y9 < 0 := nI_pos (by omega)
      all_goals have b22 : nI y9 ≤ nI td := (nI_leI (by omega) (by omega)).mpr (by omega)
      all_goals rw [e4 y9 (by omega), ← (j9 _ (inB_lt c10)).1.2.2.2.2.2 y9 (by omega)]
      all_goals (unfold s_champion; try simp only [])
      all_goals try (first | simp only [if_pos c10] | simp only [if_neg c10] | simp only [if_neg (Bool.eq_false_iff.mp c10)])
      all_goals try (first | simp only [if_pos c22] | simp only [if_neg c22] | simp only [if_neg (Bool.eq_false_iff.mp c22)])
      all_goals try (first | simp only [if_pos a22] | simp only [if_neg a22] | simp only [if_neg (Bool.eq_false_iff.mp a22)])
      all_goals try (first | simp only [if_pos b22] | simp only [if_neg b22] | simp only [if_neg (Bool.eq_false_iff.mp b22)])
      all_goals exact pM_mk (NS_mk (by exact bU_s _ _ _) (by first | rfl | exact (if_neg (by decide)).symm | exact (if_pos rfl).symm)) (hT.fr (fun q _ _ => (bU_n (by omega)).trans (rfl))) (hM.fr j1 (fun q _ => (bU_n (by omega)).trans (rfl))) (hI.fr ((bU_n (by decide)).trans (rfl))) (hP.fr ((bU_n (by decide)).trans (rfl))) (hD.fr j2 (fun q _ => (bU_n (by omega)).trans (rfl))) (hA.fr (fun q _ _ => (bU_n (by omega)).trans (rfl))) (hC.fr ((bU_n (by decide)).trans (rfl))) (hF.fr ((bU_n (by decide)).trans (rfl))) (fun q _ => (bU_n (by omega)).trans (rfl)) (by omega) (by omega)
set_option maxRecDepth 4000 in
theorem m_kept {O : bO} {d : Nat} {f : bF} {n s : Nat} {bs : Nat → Int32} {tl : Nat} {mc : Nat} {md : Nat → MR} {ip : Nat → Int32} {dc : Nat} {dr : Nat → DR} {ac : Nat} {an : Nat → AR} {hs : Bool} {sd : Nat → Int32} {df : Nat → Int32} {dfn : Nat} {td : Nat} {tr : Int32} {ft : Int32} {pl : Int32} {x : Int32} {w : Int32} (hX : MP f (bs, tl, mc, md, ip, dc, dr, ac, an, hs, sd, df, dfn, td, tr, ft, pl)) (jX : JJ (bs, tl, mc, md, ip, dc, dr, ac, an, hs, sd, df, dfn, td, tr, ft, pl))  (hd : 1 ≤ d) : bCall O mX11_kept d [.ref 50, .int x, .int w] (f, n, s) (pM f n s 0 0 (s_kept (bs, tl, mc, md, ip, dc, dr, ac, an, hs, sd, df, dfn, td, tr, ft, pl) x w)) := by
  refine bCall_of (by decide) rfl (Nat.le_of_ble_eq_true rfl) ?_
  obtain ⟨hNS, hT, hM, hI, hP, hD, hA, hC, hF⟩ := id hX
  simp only [] at hNS hT hM hI hP hD hA hC hF
  obtain ⟨j1, j2, j3, j4, j5, j6, j7, j8, j9, j10⟩ := id jX
  simp only [] at j1 j2 j3 j4 j5 j6 j7 j8 j9 j10
  obtain ⟨th_, sz_, at_, so_, pl_, mk_, nu_, di_, br_, iff_, wo_, hO⟩ := id hNS
  obtain ⟨tg9, kd9, sp9, h53, h54, hTb⟩ := id hT
  obtain ⟨ig9, h55, hIp⟩ := id hI
  obtain ⟨pg9, h56⟩ := id hP
  obtain ⟨kp9, aq9, bc9, br9, tu9, h58, h59, h60, h61, h62, hAp⟩ := id hA
  obtain ⟨sg9, h63, hC0, hC1, hC2, hC3, hC4⟩ := id hC
  obtain ⟨dg9, h64, hFp⟩ := id hF
  have bN := nA_b (i := mc) j1
  show bV O _ d 0 [(0, .ref 50), (1, .int x), (2, .int w)] [] (f, n, s) _
  refine r_aload_n (n := 0) (i := 0) 0 rfl rfl dX11_kept_0 ?_
  refine r_iconst (v := 0) (by decide) dX11_kept_1 ?_
  refine p_put (fs := [.int th_, .int tr, .int (if tr = 4 then pl else -1), .int ft, .int (nI mc), .ref 51, .ref (nA mc), .ref 53, .ref 54, .int (nI tl), .int sz_, .int at_, .int so_, .int pl_, .int mk_, .int nu_, .int di_, .int br_, .int iff_, .long wo_, .ref 55, .ref 56, .int (nI dc), .int (nI td), .ref 57, .int (nI ac), .ref 58, .ref 59, .ref 60, .ref 61, .ref 62, .ref 63, .int (bI hs), .ref 64, .int (nI dfn)]) (fs' := [.int 0, .int tr, .int (if tr = 4 then pl else -1), .int ft, .int (nI mc), .ref 51, .ref (nA mc), .ref 53, .ref 54, .int (nI tl), .int sz_, .int at_, .int so_, .int pl_, .int mk_, .int nu_, .int di_, .int br_, .int iff_, .long wo_, .ref 55, .ref 56, .int (nI dc), .int (nI td), .ref 57, .int (nI ac), .ref 58, .ref 59, .ref 60, .ref 61, .ref 62, .ref 63, .int (bI hs), .ref 64, .int (nI dfn)]) flX11_71 hO (Nat.le_of_ble_eq_true rfl) (bNf_i _) rfl dX11_kept_2 ?_
  refine r_aload_n (n := 0) (i := 0) 0 rfl rfl dX11_kept_5 ?_
  refine r_iload_n (n := 1) (i := 1) 1 rfl rfl dX11_kept_6 ?_
  refine p_callV (As := [.int x]) (rest := []) (kX11_isAnswer (O := O) (d := 0) (f := bU f 50 (.inr (11, [.int 0, .int tr, .int (if tr = 4 then pl else -1), .int ft, .int (nI mc), .ref 51, .ref (nA mc), .ref 53, .ref 54, .int (nI tl), .int sz_, .int at_, .int so_, .int pl_, .int mk_, .int nu_, .int di_, .int br_, .int iff_, .long wo_, .ref 55, .ref 56, .int (nI dc), .int (nI td), .ref 57, .int (nI ac), .ref 58, .ref 59, .ref 60, .ref 61, .ref 62, .ref 63, .int (bI hs), .ref 64, .int (nI dfn)]))) (n := n) (s := s) (th_ := 0) (tr_ := tr) (wh_ := (if tr = 4 then pl else -1)) (fl_ := ft) (nm_ := nI mc) (q_ := nA mc) (tp_ := nI tl) (sz_ := sz_) (at_ := at_) (so_ := so_) (pl_ := pl_) (mk_ := mk_) (nu_ := nu_) (di_ := di_) (br_ := br_) (iff_ := iff_) (wo_ := wo_) (nd_ := nI dc) (td_ := nI td) (hs_ := bI hs) (nf_ := nI dfn) (m9 := ac) (x := x) (by exact bU_s _ _ _) (by omega) (Nat.le_refl _)).call rfl lkX11_316 imX11_isAnswer seX11_isAnswer rfl (by exact bU_s _ _ _) rfl rfl (by omega) (Nat.le_of_ble_eq_true rfl) dX11_kept_7 (fun v9 G9 h9 => ?_) (fun q9 G9 h9 => (by cases h9.1))
  obtain ⟨h8, rfl⟩ := h9; cases h8
  show bV O _ d 10 [(0, .ref 50), (1, .int x), (2, .int w)] [.int (bI (inB x ac))] (bU f 50 (.inr (11, [.int 0, .int tr, .int (if tr = 4 then pl else -1), .int ft, .int (nI mc), .ref 51, .ref (nA mc), .ref 53, .ref 54, .int (nI tl), .int sz_, .int at_, .int so_, .int pl_, .int mk_, .int nu_, .int di_, .int br_, .int iff_, .long wo_, .ref 55, .ref 56, .int (nI dc), .int (nI td), .ref 57, .int (nI ac), .ref 58, .ref 59, .ref 60, .ref 61, .ref 62, .ref 63, .int (bI hs), .ref 64, .int (nI dfn)])), n, s) _
  refine r_if_eq (tgt := 36) (by decide) dX11_kept_10 (fun c10 => ?_) (fun c10 => ?_)
  · have c10 := bI_0.mp c10
    refine r_iconst (v := (-1)) (by decide) dX11_kept_36 ?_
    refine r_ireturn rfl dX11_kept_37 ?_
    all_goals (unfold s_kept; try simp only [])
    all_goals try (first | simp only [if_pos c10] | simp only [if_neg c10] | simp only [if_neg (Bool.eq_false_iff.mp c10)])
    all_goals try simp only [cl_nI (show i9 < 2 ^ 31 by omega)]
    all_goals exact pM_mk (NS_mk (by exact bU_s _ _ _) (by first | rfl | exact (if_neg (by decide)).symm | exact (if_pos rfl).symm)) (hT.fr (fun q _ _ => (bU_n (by omega)).trans (rfl))) (hM.fr j1 (fun q _ => (bU_n (by omega)).trans (rfl))) (hI.fr ((bU_n (by decide)).trans (rfl))) (hP.fr ((bU_n (by decide)).trans (rfl))) (hD.fr j2 (fun q _ => (bU_n (by omega)).trans (rfl))) (hA.fr (fun q _ _ => (bU_n (by omega)).trans (rfl))) (hC.fr ((bU_n (by decide)).trans (rfl))) (hF.fr ((bU_n (by decide)).trans (rfl))) (fun q _ => (bU_n (by omega)).trans (rfl)) (by omega) (by omega)
  · have c10 := bI_1.mp c10
    obtain ⟨i9, hi9, rfl⟩ := inB_ex c10
    refine r_iload_n (n := 2) (i := 2) 2 rfl rfl dX11_kept_13 ?_
    refine r_iconst (v := 0) (by decide) dX11_kept_14 ?_
    refine r_iconst (v := 5) (by decide) dX11_kept_15 ?_
    refine p_callS (As := [.int w, .int 0, .int 5]) (rest := []) (kX11_in (O := O) (d := 0) (f := bU f 50 (.inr (11, [.int 0, .int tr, .int (if tr = 4 then pl else -1), .int ft, .int (nI mc), .ref 51, .ref (nA mc), .ref 53, .ref 54, .int (nI tl), .int sz_, .int at_, .int so_, .int pl_, .int mk_, .int nu_, .int di_, .int br_, .int iff_, .long wo_, .ref 55, .ref 56, .int (nI dc), .int (nI td), .ref 57, .int (nI ac), .ref 58, .ref 59, .ref 60, .ref 61, .ref 62, .ref 63, .int (bI hs), .ref 64, .int (nI dfn)]))) (n := n) (s := s) (v := w) (lo := 0) (hi := 5)   (Nat.le_refl _)).call rfl lkX11_200 smX11_in rfl rfl (by omega) (Nat.le_of_ble_eq_true rfl) dX11_kept_16 (fun v9 G9 h9 => ?_) (fun q9 G9 h9 => (by cases h9.1))
    obtain ⟨h8, rfl⟩ := h9; cases h8
    show bV O _ d 19 [(0, .ref 50), (1, .int (nI i9)), (2, .int w)] [.int (bI (jIn w 0 5))] (bU f 50 (.inr (11, [.int 0, .int tr, .int (if tr = 4 then pl else -1), .int ft, .int (nI mc), .ref 51, .ref (nA mc), .ref 53, .ref 54, .int (nI tl), .int sz_, .int at_, .int so_, .int pl_, .int mk_, .int nu_, .int di_, .int br_, .int iff_, .long wo_, .ref 55, .ref 56, .int (nI dc), .int (nI td), .ref 57, .int (nI ac), .ref 58, .ref 59, .ref 60, .ref 61, .ref 62, .ref 63, .int (bI hs), .ref 64, .int (nI dfn)])), n, s) _
    refine r_if_eq (tgt := 36) (by decide) dX11_kept_19 (fun c19 => ?_) (fun c19 => ?_)
    · have c19 := bI_0.mp c19
      refine r_iconst (v := (-1)) (by decide) dX11_kept_36 ?_
      refine r_ireturn rfl dX11_kept_37 ?_
      all_goals have q0 : ¬ w = 0 := fun h7 => by rw [h7] at c19; exact absurd c19 (by decide)
      all_goals have q1 : ¬ w = 1 := fun h7 => by rw [h7] at c19; exact absurd c19 (by decide)
      all_goals have q2 : ¬ w = 2 := fun h7 => by rw [h7] at c19; exact absurd c19 (by decide)
      all_goals have q3 : ¬ w = 3 := fun h7 => by rw [h7] at c19; exact absurd c19 (by decide)
      all_goals have q4 : ¬ w = 4 := fun h7 => by rw [h7] at c19; exact absurd c19 (by decide)
      all_goals have q5 : ¬ w = 5 := fun h7 => by rw [h7] at c19; exact absurd c19 (by decide)
      all_goals (unfold s_kept; try simp only [])
      all_goals try (first | simp only [if_pos c10] | simp only [if_neg c10] | simp only [if_neg (Bool.eq_false_iff.mp c10)])
      all_goals try (first | simp only [if_pos c19] | simp only [if_neg c19] | simp only [if_neg (Bool.eq_false_iff.mp c19)])
      all_goals try (first | simp only [if_pos q0] | simp only [if_neg q0] | simp only [if_neg (Bool.eq_false_iff.mp q0)])
      all_goals try (first | simp only [if_pos q1] | simp only [if_neg q1] | simp only [if_neg (Bool.eq_false_iff.mp q1)])
      all_goals try (first | simp only [if_pos q2] | simp only [if_neg q2] | simp only [if_neg (Bool.eq_false_iff.mp q2)])
      all_goals try (first | simp only [if_pos q3] | simp only [if_neg q3] | simp only [if_neg (Bool.eq_false_iff.mp q3)])
      all_goals try (first | simp only [if_pos q4] | simp only [if_neg q4] | simp only [if_neg (Bool.eq_false_iff.mp q4)])
      all_goals try (first | simp only [if_pos q5] | simp only [if_neg q5] | simp only [if_neg (Bool.eq_false_iff.mp q5)])
      all_goals try simp only [cl_nI (show i9 < 2 ^ 31 by omega)]
      all_goals exact pM_mk (NS_mk (by exact bU_s _ _ _) (by first | rfl | exact (if_neg (by decide)).symm | exact (if_pos rfl).symm)) (hT.fr (fun q _ _ => (bU_n (by omega)).trans (rfl))) (hM.fr j1 (fun q _ => (bU_n (by omega)).trans (rfl))) (hI.fr ((bU_n (by decide)).trans (rfl))) (hP.fr ((bU_n (by decide)).trans (rfl))) (hD.fr j2 (fun q _ => (bU_n (by omega)).trans (rfl))) (hA.fr (fun q _ _ => (bU_n (by omega)).trans (rfl))) (hC.fr ((bU_n (by decide)).trans (rfl))) (hF.fr ((bU_n (by decide)).trans (rfl))) (fun q _ => (bU_n (by omega)).trans (rfl)) (by omega) (by omega)
    · have c19 := bI_1.mp c19
      obtain ⟨w9, hw9, rfl⟩ := jIn_k (n := 6) c19 (by decide) (by decide)
      refine r_aload_n (n := 0) (i := 0) 0 rfl rfl dX11_kept_22 ?_
      refine p_get (fs := [.int 0, .int tr, .int (if tr = 4 then pl else -1), .int ft, .int (nI mc), .ref 51, .ref (nA mc), .ref 53, .ref 54, .int (nI tl), .int sz_, .int at_, .int so_, .int pl_, .int mk_, .int nu_, .int di_, .int br_, .int iff_, .long wo_, .ref 55, .ref 56, .int (nI dc), .int (nI td), .ref 57, .int (nI ac), .ref 58, .ref 59, .ref 60, .ref 61, .ref 62, .ref 63, .int (bI hs), .ref 64, .int (nI dfn)]) flX11_50 (by exact bU_s _ _ _) rfl dX11_kept_23 ?_
      refine r_bipush (v := 6) (by decide) dX11_kept_26 ?_
      refine r_iload_n (n := 1) (i := 1) 1 rfl rfl dX11_kept_28 ?_
      refine r_imulE (v := nI (6 * i9)) (pk_mul 6 i9) dX11_kept_29 ?_
      refine r_iload_n (n := 2) (i := 2) 2 rfl rfl dX11_kept_30 ?_
      refine r_iaddE (v := nI (6 * i9 + w9)) (nI_add (6 * i9) w9) dX11_kept_31 ?_
      refine p_ialdN (t := 6 * i9 + w9) (by exact ((bU_n (by decide)).trans (h58))) (by omega) (by omega) dX11_kept_32 ?_
      refine r_goto (tgt := 37) (by decide) dX11_kept_33 ?_
      refine r_ireturn rfl dX11_kept_37 ?_
      all_goals rw [kpt (hAp i9 hi9) hw9]
      all_goals (unfold s_kept; try simp only [])
      all_goals try (first | simp only [if_pos c10] | simp only [if_neg c10] | simp only [if_neg (Bool.eq_false_iff.mp c10)])
      all_goals try (first | simp only [if_pos c19] | simp only [if_neg c19] | simp only [if_neg (Bool.eq_false_iff.mp c19)])
      all_goals try simp only [cl_nI (show i9 < 2 ^ 31 by omega)]
      all_goals exact pM_mk (NS_mk (by exact bU_s _ _ _) (by first | rfl | exact (if_neg (by decide)).symm | exact (if_pos rfl).symm)) (hT.fr (fun q _ _ => (bU_n (by omega)).trans (rfl))) (hM.fr j1 (fun q _ => (bU_n (by omega)).trans (rfl))) (hI.fr ((bU_n (by decide)).trans (rfl))) (hP.fr ((bU_n (by decide)).trans (rfl))) (hD.fr j2 (fun q _ => (bU_n (by omega)).trans (rfl))) (hA.fr (fun q _ _ => (bU_n (by omega)).trans (rfl))) (hC.fr ((bU_n (by decide)).trans (rfl))) (hF.fr ((bU_n (by decide)).trans (rfl))) (fun q _ => (bU_n (by omega)).trans (rfl)) (by omega) (by omega)
set_option maxRecDepth 4000 in
theorem m_answer {O : bO} {d : Nat} {f : bF} {n s : Nat} {bs : Nat → Int32} {tl : Nat} {mc : Nat} {md : Nat → MR} {ip : Nat → Int32} {dc : Nat} {dr : Nat → DR} {ac : Nat} {an : Nat → AR} {hs : Bool} {sd : Nat → Int32} {df : Nat → Int32} {dfn : Nat} {td : Nat} {tr : Int32} {ft : Int32} {pl : Int32} {x : Int32} {w : Int32} (hX : MP f (bs, tl, mc, md, ip, dc, dr, ac, an, hs, sd, df, dfn, td, tr, ft, pl)) (jX : JJ (bs, tl, mc, md, ip, dc, dr, ac, an, hs, sd, df, dfn, td, tr, ft, pl))  (hd : 1 ≤ d) : bCall O mX11_answer d [.ref 50, .int x, .int w] (f, n, s) (pM f n s 0 0 (s_answer (bs, tl, mc, md, ip, dc, dr, ac, an, hs, sd, df, dfn, td, tr, ft, pl) x w)) := by
  refine bCall_of (by decide) rfl (Nat.le_of_ble_eq_true rfl) ?_
  obtain ⟨hNS, hT, hM, hI, hP, hD, hA, hC, hF⟩ := id hX
  simp only [] at hNS hT hM hI hP hD hA hC hF
  obtain ⟨j1, j2, j3, j4, j5, j6, j7, j8, j9, j10⟩ := id jX
  simp only [] at j1 j2 j3 j4 j5 j6 j7 j8 j9 j10
  obtain ⟨th_, sz_, at_, so_, pl_, mk_, nu_, di_, br_, iff_, wo_, hO⟩ := id hNS
  obtain ⟨tg9, kd9, sp9, h53, h54, hTb⟩ := id hT
  obtain ⟨ig9, h55, hIp⟩ := id hI
  obtain ⟨pg9, h56⟩ := id hP
  obtain ⟨kp9, aq9, bc9, br9, tu9, h58, h59, h60, h61, h62, hAp⟩ := id hA
  obtain ⟨sg9, h63, hC0, hC1, hC2, hC3, hC4⟩ := id hC
  obtain ⟨dg9, h64, hFp⟩ := id hF
  have bN := nA_b (i := mc) j1
  show bV O _ d 0 [(0, .ref 50), (1, .int x), (2, .int w)] [] (f, n, s) _
  refine r_aload_n (n := 0) (i := 0) 0 rfl rfl dX11_answer_0 ?_
  refine r_iconst (v := 0) (by decide) dX11_answer_1 ?_
  refine p_put (fs := [.int th_, .int tr, .int (if tr = 4 then pl else -1), .int ft, .int (nI mc), .ref 51, .ref (nA mc), .ref 53, .ref 54, .int (nI tl), .int sz_, .int at_, .int so_, .int pl_, .int mk_, .int nu_, .int di_, .int br_, .int iff_, .long wo_, .ref 55, .ref 56, .int (nI dc), .int (nI td), .ref 57, .int (nI ac), .ref 58, .ref 59, .ref 60, .ref 61, .ref 62, .ref 63, .int (bI hs), .ref 64, .int (nI dfn)]) (fs' := [.int 0, .int tr, .int (if tr = 4 then pl else -1), .int ft, .int (nI mc), .ref 51, .ref (nA mc), .ref 53, .ref 54, .int (nI tl), .int sz_, .int at_, .int so_, .int pl_, .int mk_, .int nu_, .int di_, .int br_, .int iff_, .long wo_, .ref 55, .ref 56, .int (nI dc), .int (nI td), .ref 57, .int (nI ac), .ref 58, .ref 59, .ref 60, .ref 61, .ref 62, .ref 63, .int (bI hs), .ref 64, .int (nI dfn)]) flX11_71 hO (Nat.le_of_ble_eq_true rfl) (bNf_i _) rfl dX11_answer_2 ?_
  refine r_aload_n (n := 0) (i := 0) 0 rfl rfl dX11_answer_5 ?_
  refine r_iload_n (n := 1) (i := 1) 1 rfl rfl dX11_answer_6 ?_
  refine p_callV (As := [.int x]) (rest := []) (kX11_isAnswer (O := O) (d := 0) (f := bU f 50 (.inr (11, [.int 0, .int tr, .int (if tr = 4 then pl else -1), .int ft, .int (nI mc), .ref 51, .ref (nA mc), .ref 53, .ref 54, .int (nI tl), .int sz_, .int at_, .int so_, .int pl_, .int mk_, .int nu_, .int di_, .int br_, .int iff_, .long wo_, .ref 55, .ref 56, .int (nI dc), .int (nI td), .ref 57, .int (nI ac), .ref 58, .ref 59, .ref 60, .ref 61, .ref 62, .ref 63, .int (bI hs), .ref 64, .int (nI dfn)]))) (n := n) (s := s) (th_ := 0) (tr_ := tr) (wh_ := (if tr = 4 then pl else -1)) (fl_ := ft) (nm_ := nI mc) (q_ := nA mc) (tp_ := nI tl) (sz_ := sz_) (at_ := at_) (so_ := so_) (pl_ := pl_) (mk_ := mk_) (nu_ := nu_) (di_ := di_) (br_ := br_) (iff_ := iff_) (wo_ := wo_) (nd_ := nI dc) (td_ := nI td) (hs_ := bI hs) (nf_ := nI dfn) (m9 := ac) (x := x) (by exact bU_s _ _ _) (by omega) (Nat.le_refl _)).call rfl lkX11_316 imX11_isAnswer seX11_isAnswer rfl (by exact bU_s _ _ _) rfl rfl (by omega) (Nat.le_of_ble_eq_true rfl) dX11_answer_7 (fun v9 G9 h9 => ?_) (fun q9 G9 h9 => (by cases h9.1))
  obtain ⟨h8, rfl⟩ := h9; cases h8
  show bV O _ d 10 [(0, .ref 50), (1, .int x), (2, .int w)] [.int (bI (inB x ac))] (bU f 50 (.inr (11, [.int 0, .int tr, .int (if tr = 4 then pl else -1), .int ft, .int (nI mc), .ref 51, .ref (nA mc), .ref 53, .ref 54, .int (nI tl), .int sz_, .int at_, .int so_, .int pl_, .int mk_, .int nu_, .int di_, .int br_, .int iff_, .long wo_, .ref 55, .ref 56, .int (nI dc), .int (nI td), .ref 57, .int (nI ac), .ref 58, .ref 59, .ref 60, .ref 61, .ref 62, .ref 63, .int (bI hs), .ref 64, .int (nI dfn)])), n, s) _
  refine r_if_ne (tgt := 17) (by decide) dX11_answer_10 (fun c10 => ?_) (fun c10 => ?_)
  · have c10 := bI_1.mp c10
    obtain ⟨i9, hi9, rfl⟩ := inB_ex c10
    refine r_iload_n (n := 2) (i := 2) 2 rfl rfl dX11_answer_17 ?_
    by_cases q18_0 : w = 0
    · refine r_tableIn (off := 30) (tgt := 48) dX11_answer_18 (by rw [q18_0]; decide) (by rw [q18_0]; decide) (by rw [q18_0]; decide) (by decide) ?_
      refine r_aload_n (n := 0) (i := 0) 0 rfl rfl dX11_answer_48 ?_
      refine r_iload_n (n := 1) (i := 1) 1 rfl rfl dX11_answer_49 ?_
      refine p_callV (As := [.int (nI i9)]) (rest := []) (kX11_answered (O := O) (d := 0) (f := bU f 50 (.inr (11, [.int 0, .int tr, .int (if tr = 4 then pl else -1), .int ft, .int (nI mc), .ref 51, .ref (nA mc), .ref 53, .ref 54, .int (nI tl), .int sz_, .int at_, .int so_, .int pl_, .int mk_, .int nu_, .int di_, .int br_, .int iff_, .long wo_, .ref 55, .ref 56, .int (nI dc), .int (nI td), .ref 57, .int (nI ac), .ref 58, .ref 59, .ref 60, .ref 61, .ref 62, .ref 63, .int (bI hs), .ref 64, .int (nI dfn)]))) (n := n) (s := s) (th_ := 0) (tr_ := tr) (wh_ := (if tr = 4 then pl else -1)) (fl_ := ft) (nm_ := nI mc) (q_ := nA mc) (tp_ := nI tl) (sz_ := sz_) (at_ := at_) (so_ := so_) (pl_ := pl_) (mk_ := mk_) (nu_ := nu_) (di_ := di_) (br_ := br_) (iff_ := iff_) (wo_ := wo_) (nd_ := nI dc) (td_ := nI td) (na_ := nI ac) (hs_ := bI hs) (nf_ := nI dfn) (i := i9) (kp := kp9) (bc := bc9) (br := br9) (by exact bU_s _ _ _) (by exact ((bU_n (by decide)).trans (h58))) (by exact ((bU_n (by decide)).trans (h60))) (by exact ((bU_n (by decide)).trans (h61))) (by omega) (Nat.le_refl _)).call rfl lkX11_319 imX11_answered seX11_answered rfl (by exact bU_s _ _ _) rfl rfl (by omega) (Nat.le_of_ble_eq_true rfl) dX11_answer_50 (fun v9 G9 h9 => ?_) (fun q9 G9 h9 => (by cases h9.1))
      obtain ⟨h8, rfl⟩ := h9; cases h8
      show bV O _ d 53 [(0, .ref 50), (1, .int (nI i9)), (2, .int w)] [.int (if kp9 (6 * i9 + 3) = kp9 (6 * i9 + 4) then bc9 i9 else br9 i9)] (bU f 50 (.inr (11, [.int 0, .int tr, .int (if tr = 4 then pl else -1), .int ft, .int (nI mc), .ref 51, .ref (nA mc), .ref 53, .ref 54, .int (nI tl), .int sz_, .int at_, .int so_, .int pl_, .int mk_, .int nu_, .int di_, .int br_, .int iff_, .long wo_, .ref 55, .ref 56, .int (nI dc), .int (nI td), .ref 57, .int (nI ac), .ref 58, .ref 59, .ref 60, .ref 61, .ref 62, .ref 63, .int (bI hs), .ref 64, .int (nI dfn)])), n, s) _
      refine r_ireturn rfl dX11_answer_53 ?_
      all_goals try rw [ansG (hAp i9 hi9) (j10 i9 hi9)]
      all_goals try rw [(hAp i9 hi9).2.2.2.2.2.2.2.1]
      all_goals try rw [(hAp i9 hi9).2.2.2.2.2.2.2.2.1]
      all_goals try rw [(hAp i9 hi9).2.2.2.2.2.2.2.2.2]
      all_goals (unfold s_answer; try simp only [])
      all_goals try (first | simp only [if_pos c10] | simp only [if_neg c10] | simp only [if_neg (Bool.eq_false_iff.mp c10)])
      all_goals try (first | simp only [if_pos q18_0] | simp only [if_neg q18_0] | simp only [if_neg (Bool.eq_false_iff.mp q18_0)])
      all_goals try simp only [cl_nI (show i9 < 2 ^ 31 by omega)]
      all_goals exact pM_mk (NS_mk (by exact bU_s _ _ _) (by first | rfl | exact (if_neg (by decide)).symm | exact (if_pos rfl).symm)) (hT.fr (fun q _ _ => (bU_n (by omega)).trans (rfl))) (hM.fr j1 (fun q _ => (bU_n (by omega)).trans (rfl))) (hI.fr ((bU_n (by decide)).trans (rfl))) (hP.fr ((bU_n (by decide)).trans (rfl))) (hD.fr j2 (fun q _ => (bU_n (by omega)).trans (rfl))) (hA.fr (fun q _ _ => (bU_n (by omega)).trans (rfl))) (hC.fr ((bU_n (by decide)).trans (rfl))) (hF.fr ((bU_n (by decide)).trans (rfl))) (fun q _ => (bU_n (by omega)).trans (rfl)) (by omega) (by omega)
    · by_cases q18_1 : w = 1
      · refine r_tableIn (off := 36) (tgt := 54) dX11_answer_18 (by rw [q18_1]; decide) (by rw [q18_1]; decide) (by rw [q18_1]; decide) (by decide) ?_
        refine r_aload_n (n := 0) (i := 0) 0 rfl rfl dX11_answer_54 ?_
        refine p_get (fs := [.int 0, .int tr, .int (if tr = 4 then pl else -1), .int ft, .int (nI mc), .ref 51, .ref (nA mc), .ref 53, .ref 54, .int (nI tl), .int sz_, .int at_, .int so_, .int pl_, .int mk_, .int nu_, .int di_, .int br_, .int iff_, .long wo_, .ref 55, .ref 56, .int (nI dc), .int (nI td), .ref 57, .int (nI ac), .ref 58, .ref 59, .ref 60, .ref 61, .ref 62, .ref 63, .int (bI hs), .ref 64, .int (nI dfn)]) flX11_56 (by exact bU_s _ _ _) rfl dX11_answer_55 ?_
        refine r_iload_n (n := 1) (i := 1) 1 rfl rfl dX11_answer_58 ?_
        refine p_ialdN (t := i9) (by exact ((bU_n (by decide)).trans (h60))) (by omega) (by omega) dX11_answer_59 ?_
        refine r_ireturn rfl dX11_answer_60 ?_
        all_goals try rw [ansG (hAp i9 hi9) (j10 i9 hi9)]
        all_goals try rw [(hAp i9 hi9).2.2.2.2.2.2.2.1]
        all_goals try rw [(hAp i9 hi9).2.2.2.2.2.2.2.2.1]
        all_goals try rw [(hAp i9 hi9).2.2.2.2.2.2.2.2.2]
        all_goals (unfold s_answer; try simp only [])
        all_goals try (first | simp only [if_pos c10] | simp only [if_neg c10] | simp only [if_neg (Bool.eq_false_iff.mp c10)])
        all_goals try (first | simp only [if_pos q18_0] | simp only [if_neg q18_0] | simp only [if_neg (Bool.eq_false_iff.mp q18_0)])
        all_goals try (first | simp only [if_pos q18_1] | simp only [if_neg q18_1] | simp only [if_neg (Bool.eq_false_iff.mp q18_1)])
        all_goals try simp only [cl_nI (show i9 < 2 ^ 31 by omega)]
        all_goals exact pM_mk (NS_mk (by exact bU_s _ _ _) (by first | rfl | exact (if_neg (by decide)).symm | exact (if_pos rfl).symm)) (hT.fr (fun q _ _ => (bU_n (by omega)).trans (rfl))) (hM.fr j1 (fun q _ => (bU_n (by omega)).trans (rfl))) (hI.fr ((bU_n (by decide)).trans (rfl))) (hP.fr ((bU_n (by decide)).trans (rfl))) (hD.fr j2 (fun q _ => (bU_n (by omega)).trans (rfl))) (hA.fr (fun q _ _ => (bU_n (by omega)).trans (rfl))) (hC.fr ((bU_n (by decide)).trans (rfl))) (hF.fr ((bU_n (by decide)).trans (rfl))) (fun q _ => (bU_n (by omega)).trans (rfl)) (by omega) (by omega)
      · by_cases q18_2 : w = 2
        · refine r_tableIn (off := 43) (tgt := 61) dX11_answer_18 (by rw [q18_2]; decide) (by rw [q18_2]; decide) (by rw [q18_2]; decide) (by decide) ?_
          refine r_aload_n (n := 0) (i := 0) 0 rfl rfl dX11_answer_61 ?_
          refine p_get (fs := [.int 0, .int tr, .int (if tr = 4 then pl else -1), .int ft, .int (nI mc), .ref 51, .ref (nA mc), .ref 53, .ref 54, .int (nI tl), .int sz_, .int at_, .int so_, .int pl_, .int mk_, .int nu_, .int di_, .int br_, .int iff_, .long wo_, .ref 55, .ref 56, .int (nI dc), .int (nI td), .ref 57, .int (nI ac), .ref 58, .ref 59, .ref 60, .ref 61, .ref 62, .ref 63, .int (bI hs), .ref 64, .int (nI dfn)]) flX11_59 (by exact bU_s _ _ _) rfl dX11_answer_62 ?_
          refine r_iload_n (n := 1) (i := 1) 1 rfl rfl dX11_answer_65 ?_
          refine p_ialdN (t := i9) (by exact ((bU_n (by decide)).trans (h61))) (by omega) (by omega) dX11_answer_66 ?_
          refine r_ireturn rfl dX11_answer_67 ?_
          all_goals try rw [ansG (hAp i9 hi9) (j10 i9 hi9)]
          all_goals try rw [(hAp i9 hi9).2.2.2.2.2.2.2.1]
          all_goals try rw [(hAp i9 hi9).2.2.2.2.2.2.2.2.1]
          all_goals try rw [(hAp i9 hi9).2.2.2.2.2.2.2.2.2]
          all_goals (unfold s_answer; try simp only [])
          all_goals try (first | simp only [if_pos c10] | simp only [if_neg c10] | simp only [if_neg (Bool.eq_false_iff.mp c10)])
          all_goals try (first | simp only [if_pos q18_0] | simp only [if_neg q18_0] | simp only [if_neg (Bool.eq_false_iff.mp q18_0)])
          all_goals try (first | simp only [if_pos q18_1] | simp only [if_neg q18_1] | simp only [if_neg (Bool.eq_false_iff.mp q18_1)])
          all_goals try (first | simp only [if_pos q18_2] | simp only [if_neg q18_2] | simp only [if_neg (Bool.eq_false_iff.mp q18_2)])
          all_goals try simp only [cl_nI (show i9 < 2 ^ 31 by omega)]
          all_goals exact pM_mk (NS_mk (by exact bU_s _ _ _) (by first | rfl | exact (if_neg (by decide)).symm | exact (if_pos rfl).symm)) (hT.fr (fun q _ _ => (bU_n (by omega)).trans (rfl))) (hM.fr j1 (fun q _ => (bU_n (by omega)).trans (rfl))) (hI.fr ((bU_n (by decide)).trans (rfl))) (hP.fr ((bU_n (by decide)).trans (rfl))) (hD.fr j2 (fun q _ => (bU_n (by omega)).trans (rfl))) (hA.fr (fun q _ _ => (bU_n (by omega)).trans (rfl))) (hC.fr ((bU_n (by decide)).trans (rfl))) (hF.fr ((bU_n (by decide)).trans (rfl))) (fun q _ => (bU_n (by omega)).trans (rfl)) (by omega) (by omega)
        · by_cases q18_3 : w = 3
          · refine r_tableIn (off := 50) (tgt := 68) dX11_answer_18 (by rw [q18_3]; decide) (by rw [q18_3]; decide) (by rw [q18_3]; decide) (by decide) ?_
            refine r_aload_n (n := 0) (i := 0) 0 rfl rfl dX11_answer_68 ?_
            refine p_get (fs := [.int 0, .int tr, .int (if tr = 4 then pl else -1), .int ft, .int (nI mc), .ref 51, .ref (nA mc), .ref 53, .ref 54, .int (nI tl), .int sz_, .int at_, .int so_, .int pl_, .int mk_, .int nu_, .int di_, .int br_, .int iff_, .long wo_, .ref 55, .ref 56, .int (nI dc), .int (nI td), .ref 57, .int (nI ac), .ref 58, .ref 59, .ref 60, .ref 61, .ref 62, .ref 63, .int (bI hs), .ref 64, .int (nI dfn)]) flX11_62 (by exact bU_s _ _ _) rfl dX11_answer_69 ?_
            refine r_iload_n (n := 1) (i := 1) 1 rfl rfl dX11_answer_72 ?_
            refine p_ialdN (t := i9) (by exact ((bU_n (by decide)).trans (h62))) (by omega) (by omega) dX11_answer_73 ?_
            refine r_ireturn rfl dX11_answer_74 ?_
            all_goals try rw [ansG (hAp i9 hi9) (j10 i9 hi9)]
            all_goals try rw [(hAp i9 hi9).2.2.2.2.2.2.2.1]
            all_goals try rw [(hAp i9 hi9).2.2.2.2.2.2.2.2.1]
            all_goals try rw [(hAp i9 hi9).2.2.2.2.2.2.2.2.2]
            all_goals (unfold s_answer; try simp only [])
            all_goals try (first | simp only [if_pos c10] | simp only [if_neg c10] | simp only [if_neg (Bool.eq_false_iff.mp c10)])
            all_goals try (first | simp only [if_pos q18_0] | simp only [if_neg q18_0] | simp only [if_neg (Bool.eq_false_iff.mp q18_0)])
            all_goals try (first | simp only [if_pos q18_1] | simp only [if_neg q18_1] | simp only [if_neg (Bool.eq_false_iff.mp q18_1)])
            all_goals try (first | simp only [if_pos q18_2] | simp only [if_neg q18_2] | simp only [if_neg (Bool.eq_false_iff.mp q18_2)])
            all_goals try (first | simp only [if_pos q18_3] | simp only [if_neg q18_3] | simp only [if_neg (Bool.eq_false_iff.mp q18_3)])
            all_goals try simp only [cl_nI (show i9 < 2 ^ 31 by omega)]
            all_goals exact pM_mk (NS_mk (by exact bU_s _ _ _) (by first | rfl | exact (if_neg (by decide)).symm | exact (if_pos rfl).symm)) (hT.fr (fun q _ _ => (bU_n (by omega)).trans (rfl))) (hM.fr j1 (fun q _ => (bU_n (by omega)).trans (rfl))) (hI.fr ((bU_n (by decide)).trans (rfl))) (hP.fr ((bU_n (by decide)).trans (rfl))) (hD.fr j2 (fun q _ => (bU_n (by omega)).trans (rfl))) (hA.fr (fun q _ _ => (bU_n (by omega)).trans (rfl))) (hC.fr ((bU_n (by decide)).trans (rfl))) (hF.fr ((bU_n (by decide)).trans (rfl))) (fun q _ => (bU_n (by omega)).trans (rfl)) (by omega) (by omega)
          · refine r_tableOut (tgt := 75) dX11_answer_18 (tbO4 w q18_0 q18_1 q18_2 q18_3) (by decide) ?_
            refine r_ldcw ckX11_266 dX11_answer_75 ?_
            refine r_ireturn rfl dX11_answer_78 ?_
            all_goals try rw [ansG (hAp i9 hi9) (j10 i9 hi9)]
            all_goals try rw [(hAp i9 hi9).2.2.2.2.2.2.2.1]
            all_goals try rw [(hAp i9 hi9).2.2.2.2.2.2.2.2.1]
            all_goals try rw [(hAp i9 hi9).2.2.2.2.2.2.2.2.2]
            all_goals (unfold s_answer; try simp only [])
            all_goals try (first | simp only [if_pos c10] | simp only [if_neg c10] | simp only [if_neg (Bool.eq_false_iff.mp c10)])
            all_goals try (first | simp only [if_pos q18_0] | simp only [if_neg q18_0] | simp only [if_neg (Bool.eq_false_iff.mp q18_0)])
            all_goals try (first | simp only [if_pos q18_1] | simp only [if_neg q18_1] | simp only [if_neg (Bool.eq_false_iff.mp q18_1)])
            all_goals try (first | simp only [if_pos q18_2] | simp only [if_neg q18_2] | simp only [if_neg (Bool.eq_false_iff.mp q18_2)])
            all_goals try (first | simp only [if_pos q18_3] | simp only [if_neg q18_3] | simp only [if_neg (Bool.eq_false_iff.mp q18_3)])
            all_goals try simp only [cl_nI (show i9 < 2 ^ 31 by omega)]
            all_goals exact pM_mk (NS_mk (by exact bU_s _ _ _) (by first | rfl | exact (if_neg (by decide)).symm | exact (if_pos rfl).symm)) (hT.fr (fun q _ _ => (bU_n (by omega)).trans (rfl))) (hM.fr j1 (fun q _ => (bU_n (by omega)).trans (rfl))) (hI.fr ((bU_n (by decide)).trans (rfl))) (hP.fr ((bU_n (by decide)).trans (rfl))) (hD.fr j2 (fun q _ => (bU_n (by omega)).trans (rfl))) (hA.fr (fun q _ _ => (bU_n (by omega)).trans (rfl))) (hC.fr ((bU_n (by decide)).trans (rfl))) (hF.fr ((bU_n (by decide)).trans (rfl))) (fun q _ => (bU_n (by omega)).trans (rfl)) (by omega) (by omega)
  · have c10 := bI_0.mp c10
    refine r_ldcw ckX11_266 dX11_answer_13 ?_
    refine r_ireturn rfl dX11_answer_16 ?_
    all_goals (unfold s_answer; try simp only [])
    all_goals try (first | simp only [if_pos c10] | simp only [if_neg c10] | simp only [if_neg (Bool.eq_false_iff.mp c10)])
    all_goals try simp only [cl_nI (show i9 < 2 ^ 31 by omega)]
    all_goals exact pM_mk (NS_mk (by exact bU_s _ _ _) (by first | rfl | exact (if_neg (by decide)).symm | exact (if_pos rfl).symm)) (hT.fr (fun q _ _ => (bU_n (by omega)).trans (rfl))) (hM.fr j1 (fun q _ => (bU_n (by omega)).trans (rfl))) (hI.fr ((bU_n (by decide)).trans (rfl))) (hP.fr ((bU_n (by decide)).trans (rfl))) (hD.fr j2 (fun q _ => (bU_n (by omega)).trans (rfl))) (hA.fr (fun q _ _ => (bU_n (by omega)).trans (rfl))) (hC.fr ((bU_n (by decide)).trans (rfl))) (hF.fr ((bU_n (by decide)).trans (rfl))) (fun q _ => (bU_n (by omega)).trans (rfl)) (by omega) (by omega)
set_option maxRecDepth 4000 in
theorem m_truth {O : bO} {d : Nat} {f : bF} {n s : Nat} {bs : Nat → Int32} {tl : Nat} {mc : Nat} {md : Nat → MR} {ip : Nat → Int32} {dc : Nat} {dr : Nat → DR} {ac : Nat} {an : Nat → AR} {hs : Bool} {sd : Nat → Int32} {df : Nat → Int32} {dfn : Nat} {td : Nat} {tr : Int32} {ft : Int32} {pl : Int32} {x : Int32} {v : Int32} (hX : MP f (bs, tl, mc, md, ip, dc, dr, ac, an, hs, sd, df, dfn, td, tr, ft, pl)) (jX : JJ (bs, tl, mc, md, ip, dc, dr, ac, an, hs, sd, df, dfn, td, tr, ft, pl))  (hd : 1 ≤ d) : bCall O mX11_truth d [.ref 50, .int x, .int v] (f, n, s) (pM f n s 0 0 (s_truth (bs, tl, mc, md, ip, dc, dr, ac, an, hs, sd, df, dfn, td, tr, ft, pl) x v)) := by
  refine bCall_of (by decide) rfl (Nat.le_of_ble_eq_true rfl) ?_
  obtain ⟨hNS, hT, hM, hI, hP, hD, hA, hC, hF⟩ := id hX
  simp only [] at hNS hT hM hI hP hD hA hC hF
  obtain ⟨j1, j2, j3, j4, j5, j6, j7, j8, j9, j10⟩ := id jX
  simp only [] at j1 j2 j3 j4 j5 j6 j7 j8 j9 j10
  obtain ⟨th_, sz_, at_, so_, pl_, mk_, nu_, di_, br_, iff_, wo_, hO⟩ := id hNS
  obtain ⟨tg9, kd9, sp9, h53, h54, hTb⟩ := id hT
  obtain ⟨ig9, h55, hIp⟩ := id hI
  obtain ⟨pg9, h56⟩ := id hP
  obtain ⟨kp9, aq9, bc9, br9, tu9, h58, h59, h60, h61, h62, hAp⟩ := id hA
  obtain ⟨sg9, h63, hC0, hC1, hC2, hC3, hC4⟩ := id hC
  obtain ⟨dg9, h64, hFp⟩ := id hF
  have bN := nA_b (i := mc) j1
  show bV O _ d 0 [(0, .ref 50), (1, .int x), (2, .int v)] [] (f, n, s) _
  refine r_aload_n (n := 0) (i := 0) 0 rfl rfl dX11_truth_0 ?_
  refine r_iconst (v := 0) (by decide) dX11_truth_1 ?_
  refine p_put (fs := [.int th_, .int tr, .int (if tr = 4 then pl else -1), .int ft, .int (nI mc), .ref 51, .ref (nA mc), .ref 53, .ref 54, .int (nI tl), .int sz_, .int at_, .int so_, .int pl_, .int mk_, .int nu_, .int di_, .int br_, .int iff_, .long wo_, .ref 55, .ref 56, .int (nI dc), .int (nI td), .ref 57, .int (nI ac), .ref 58, .ref 59, .ref 60, .ref 61, .ref 62, .ref 63, .int (bI hs), .ref 64, .int (nI dfn)]) (fs' := [.int 0, .int tr, .int (if tr = 4 then pl else -1), .int ft, .int (nI mc), .ref 51, .ref (nA mc), .ref 53, .ref 54, .int (nI tl), .int sz_, .int at_, .int so_, .int pl_, .int mk_, .int nu_, .int di_, .int br_, .int iff_, .long wo_, .ref 55, .ref 56, .int (nI dc), .int (nI td), .ref 57, .int (nI ac), .ref 58, .ref 59, .ref 60, .ref 61, .ref 62, .ref 63, .int (bI hs), .ref 64, .int (nI dfn)]) flX11_71 hO (Nat.le_of_ble_eq_true rfl) (bNf_i _) rfl dX11_truth_2 ?_
  refine r_aload_n (n := 0) (i := 0) 0 rfl rfl dX11_truth_5 ?_
  refine r_iload_n (n := 1) (i := 1) 1 rfl rfl dX11_truth_6 ?_
  refine p_callV (As := [.int x]) (rest := []) (kX11_isAnswer (O := O) (d := 0) (f := bU f 50 (.inr (11, [.int 0, .int tr, .int (if tr = 4 then pl else -1), .int ft, .int (nI mc), .ref 51, .ref (nA mc), .ref 53, .ref 54, .int (nI tl), .int sz_, .int at_, .int so_, .int pl_, .int mk_, .int nu_, .int di_, .int br_, .int iff_, .long wo_, .ref 55, .ref 56, .int (nI dc), .int (nI td), .ref 57, .int (nI ac), .ref 58, .ref 59, .ref 60, .ref 61, .ref 62, .ref 63, .int (bI hs), .ref 64, .int (nI dfn)]))) (n := n) (s := s) (th_ := 0) (tr_ := tr) (wh_ := (if tr = 4 then pl else -1)) (fl_ := ft) (nm_ := nI mc) (q_ := nA mc) (tp_ := nI tl) (sz_ := sz_) (at_ := at_) (so_ := so_) (pl_ := pl_) (mk_ := mk_) (nu_ := nu_) (di_ := di_) (br_ := br_) (iff_ := iff_) (wo_ := wo_) (nd_ := nI dc) (td_ := nI td) (hs_ := bI hs) (nf_ := nI dfn) (m9 := ac) (x := x) (by exact bU_s _ _ _) (by omega) (Nat.le_refl _)).call rfl lkX11_316 imX11_isAnswer seX11_isAnswer rfl (by exact bU_s _ _ _) rfl rfl (by omega) (Nat.le_of_ble_eq_true rfl) dX11_truth_7 (fun v9 G9 h9 => ?_) (fun q9 G9 h9 => (by cases h9.1))
  obtain ⟨h8, rfl⟩ := h9; cases h8
  show bV O _ d 10 [(0, .ref 50), (1, .int x), (2, .int v)] [.int (bI (inB x ac))] (bU f 50 (.inr (11, [.int 0, .int tr, .int (if tr = 4 then pl else -1), .int ft, .int (nI mc), .ref 51, .ref (nA mc), .ref 53, .ref 54, .int (nI tl), .int sz_, .int at_, .int so_, .int pl_, .int mk_, .int nu_, .int di_, .int br_, .int iff_, .long wo_, .ref 55, .ref 56, .int (nI dc), .int (nI td), .ref 57, .int (nI ac), .ref 58, .ref 59, .ref 60, .ref 61, .ref 62, .ref 63, .int (bI hs), .ref 64, .int (nI dfn)])), n, s) _
  refine r_if_ne (tgt := 19) (by decide) dX11_truth_10 (fun c10 => ?_) (fun c10 => ?_)
  · have c10 := bI_1.mp c10
    obtain ⟨i9, hi9, rfl⟩ := inB_ex c10
    refine r_iload_n (n := 2) (i := 2) 2 rfl rfl dX11_truth_19 ?_
    refine r_ldcw ckX11_322 dX11_truth_20 ?_
    refine r_ldcw ckX11_323 dX11_truth_23 ?_
    refine p_callS (As := [.int v, .int (-1000000000), .int 1000000000]) (rest := []) (kX11_in (O := O) (d := 0) (f := bU f 50 (.inr (11, [.int 0, .int tr, .int (if tr = 4 then pl else -1), .int ft, .int (nI mc), .ref 51, .ref (nA mc), .ref 53, .ref 54, .int (nI tl), .int sz_, .int at_, .int so_, .int pl_, .int mk_, .int nu_, .int di_, .int br_, .int iff_, .long wo_, .ref 55, .ref 56, .int (nI dc), .int (nI td), .ref 57, .int (nI ac), .ref 58, .ref 59, .ref 60, .ref 61, .ref 62, .ref 63, .int (bI hs), .ref 64, .int (nI dfn)]))) (n := n) (s := s) (v := v) (lo := (-1000000000)) (hi := 1000000000)   (Nat.le_refl _)).call rfl lkX11_200 smX11_in rfl rfl (by omega) (Nat.le_of_ble_eq_true rfl) dX11_truth_26 (fun v9 G9 h9 => ?_) (fun q9 G9 h9 => (by cases h9.1))
    obtain ⟨h8, rfl⟩ := h9; cases h8
    show bV O _ d 29 [(0, .ref 50), (1, .int (nI i9)), (2, .int v)] [.int (bI (jIn v (-1000000000) 1000000000))] (bU f 50 (.inr (11, [.int 0, .int tr, .int (if tr = 4 then pl else -1), .int ft, .int (nI mc), .ref 51, .ref (nA mc), .ref 53, .ref 54, .int (nI tl), .int sz_, .int at_, .int so_, .int pl_, .int mk_, .int nu_, .int di_, .int br_, .int iff_, .long wo_, .ref 55, .ref 56, .int (nI dc), .int (nI td), .ref 57, .int (nI ac), .ref 58, .ref 59, .ref 60, .ref 61, .ref 62, .ref 63, .int (bI hs), .ref 64, .int (nI dfn)])), n, s) _
    refine r_if_ne (tgt := 38) (by decide) dX11_truth_29 (fun c29 => ?_) (fun c29 => ?_)
    · have c29 := bI_1.mp c29
      refine r_aload_n (n := 0) (i := 0) 0 rfl rfl dX11_truth_38 ?_
      refine p_get (fs := [.int 0, .int tr, .int (if tr = 4 then pl else -1), .int ft, .int (nI mc), .ref 51, .ref (nA mc), .ref 53, .ref 54, .int (nI tl), .int sz_, .int at_, .int so_, .int pl_, .int mk_, .int nu_, .int di_, .int br_, .int iff_, .long wo_, .ref 55, .ref 56, .int (nI dc), .int (nI td), .ref 57, .int (nI ac), .ref 58, .ref 59, .ref 60, .ref 61, .ref 62, .ref 63, .int (bI hs), .ref 64, .int (nI dfn)]) flX11_62 (by exact bU_s _ _ _) rfl dX11_truth_39 ?_
      refine r_iload_n (n := 1) (i := 1) 1 rfl rfl dX11_truth_42 ?_
      refine r_iload_n (n := 2) (i := 2) 2 rfl rfl dX11_truth_43 ?_
      refine p_iastN (t := i9) (by exact ((bU_n (by decide)).trans (h62))) (by omega) (by omega) dX11_truth_44 ?_
      refine r_aload_n (n := 0) (i := 0) 0 rfl rfl dX11_truth_45 ?_
      refine p_callV (As := []) (rest := []) (kX11_granted (O := O) (d := 0) (f := bU (bU f 50 (.inr (11, [.int 0, .int tr, .int (if tr = 4 then pl else -1), .int ft, .int (nI mc), .ref 51, .ref (nA mc), .ref 53, .ref 54, .int (nI tl), .int sz_, .int at_, .int so_, .int pl_, .int mk_, .int nu_, .int di_, .int br_, .int iff_, .long wo_, .ref 55, .ref 56, .int (nI dc), .int (nI td), .ref 57, .int (nI ac), .ref 58, .ref 59, .ref 60, .ref 61, .ref 62, .ref 63, .int (bI hs), .ref 64, .int (nI dfn)]))) 62 (.inl (0, 200, .inl (upd tu9 i9 v)))) (n := n) (s := s) (th_ := 0) (tr_ := tr) (wh_ := (if tr = 4 then pl else -1)) (fl_ := ft) (nm_ := nI mc) (q_ := nA mc) (tp_ := nI tl) (sz_ := sz_) (at_ := at_) (so_ := so_) (pl_ := pl_) (mk_ := mk_) (nu_ := nu_) (di_ := di_) (br_ := br_) (iff_ := iff_) (wo_ := wo_) (nd_ := nI dc) (td_ := nI td) (na_ := nI ac) (hs_ := bI hs) (nf_ := nI dfn) (by exact ((bU_n (by decide)).trans (bU_s _ _ _)))  (Nat.le_refl _)).call rfl lkX11_231 imX11_granted seX11_granted rfl (by exact ((bU_n (by decide)).trans (bU_s _ _ _))) rfl rfl (by omega) (Nat.le_of_ble_eq_true rfl) dX11_truth_46 (fun v9 G9 h9 => ?_) (fun q9 G9 h9 => (by cases h9.1))
      obtain ⟨h8, rfl⟩ := h9; cases h8
      refine bV_h (f2 := bU (bU f 50 (.inr (11, [.int 0, .int 0, .int (-1), .int ft, .int (nI mc), .ref 51, .ref (nA mc), .ref 53, .ref 54, .int (nI tl), .int sz_, .int at_, .int so_, .int pl_, .int mk_, .int nu_, .int di_, .int br_, .int iff_, .long wo_, .ref 55, .ref 56, .int (nI dc), .int (nI td), .ref 57, .int (nI ac), .ref 58, .ref 59, .ref 60, .ref 61, .ref 62, .ref 63, .int (bI hs), .ref 64, .int (nI dfn)]))) 62 (.inl (0, 200, .inl (upd tu9 i9 v)))) (((bU_c (by decide)).trans (congrArg (fun z => bU z 62 (.inl (0, 200, .inl (upd tu9 i9 v)))) (bU_u _ _ _ _)))) ?_
      show bV O _ d 49 [(0, .ref 50), (1, .int (nI i9)), (2, .int v)] [.int 1] (bU (bU f 50 (.inr (11, [.int 0, .int 0, .int (-1), .int ft, .int (nI mc), .ref 51, .ref (nA mc), .ref 53, .ref 54, .int (nI tl), .int sz_, .int at_, .int so_, .int pl_, .int mk_, .int nu_, .int di_, .int br_, .int iff_, .long wo_, .ref 55, .ref 56, .int (nI dc), .int (nI td), .ref 57, .int (nI ac), .ref 58, .ref 59, .ref 60, .ref 61, .ref 62, .ref 63, .int (bI hs), .ref 64, .int (nI dfn)]))) 62 (.inl (0, 200, .inl (upd tu9 i9 v))), n, s) _
      refine r_zreturn rfl (by first | decide +kernel | exact narZ _ | assumption) dX11_truth_49 ?_
      all_goals have a29 : ¬ v < -1000000000 := (by have m1 : (-1000000000 : Int32).toInt = -1000000000 := (by decide); have m2 : (1000000000 : Int32).toInt = 1000000000 := (by decide); have h := jIn_t c29; rw [Int32.lt_iff_toInt_lt]; omega)
      all_goals have b29 : v ≤ 1000000000 := (by have m1 : (-1000000000 : Int32).toInt = -1000000000 := (by decide); have m2 : (1000000000 : Int32).toInt = 1000000000 := (by decide); have h := jIn_t c29; rw [Int32.le_iff_toInt_le]; omega)
      all_goals (unfold s_truth; try simp only [])
      all_goals try (first | simp only [if_pos c10] | simp only [if_neg c10] | simp only [if_neg (Bool.eq_false_iff.mp c10)])
      all_goals try (first | simp only [if_pos c29] | simp only [if_neg c29] | simp only [if_neg (Bool.eq_false_iff.mp c29)])
      all_goals try (first | simp only [if_pos a29] | simp only [if_neg a29] | simp only [if_neg (Bool.eq_false_iff.mp a29)])
      all_goals try (first | simp only [if_pos b29] | simp only [if_neg b29] | simp only [if_neg (Bool.eq_false_iff.mp b29)])
      all_goals try simp only [cl_nI (show i9 < 2 ^ 31 by omega)]
      all_goals exact pM_mk (NS_mk (by exact ((bU_n (by decide)).trans (bU_s _ _ _))) (by first | rfl | exact (if_neg (by decide)).symm | exact (if_pos rfl).symm)) (hT.fr (fun q _ _ => (bU_n (by omega)).trans ((bU_n (by omega)).trans (rfl)))) (hM.fr j1 (fun q _ => (bU_n (by omega)).trans ((bU_n (by omega)).trans (rfl)))) (hI.fr ((bU_n (by decide)).trans ((bU_n (by decide)).trans (rfl)))) (hP.fr ((bU_n (by decide)).trans ((bU_n (by decide)).trans (rfl)))) (hD.fr j2 (fun q _ => (bU_n (by omega)).trans ((bU_n (by omega)).trans (rfl)))) (⟨_, _, _, _, _, (by exact ((bU_n (by decide)).trans (((bU_n (by decide)).trans (h58))))), (by exact ((bU_n (by decide)).trans (((bU_n (by decide)).trans (h59))))), (by exact ((bU_n (by decide)).trans (((bU_n (by decide)).trans (h60))))), (by exact ((bU_n (by decide)).trans (((bU_n (by decide)).trans (h61))))), (by exact bU_s _ _ _), NA_truth hAp⟩) (hC.fr ((bU_n (by decide)).trans ((bU_n (by decide)).trans (rfl)))) (hF.fr ((bU_n (by decide)).trans ((bU_n (by decide)).trans (rfl)))) (fun q _ => (bU_n (by omega)).trans ((bU_n (by omega)).trans (rfl))) (by omega) (by omega)
    · have c29 := bI_0.mp c29
      refine r_aload_n (n := 0) (i := 0) 0 rfl rfl dX11_truth_32 ?_
      refine r_iconst (v := 2) (by decide) dX11_truth_33 ?_
      refine p_callV (As := [.int 2]) (rest := []) (kX11_denied (O := O) (d := 0) (f := bU f 50 (.inr (11, [.int 0, .int tr, .int (if tr = 4 then pl else -1), .int ft, .int (nI mc), .ref 51, .ref (nA mc), .ref 53, .ref 54, .int (nI tl), .int sz_, .int at_, .int so_, .int pl_, .int mk_, .int nu_, .int di_, .int br_, .int iff_, .long wo_, .ref 55, .ref 56, .int (nI dc), .int (nI td), .ref 57, .int (nI ac), .ref 58, .ref 59, .ref 60, .ref 61, .ref 62, .ref 63, .int (bI hs), .ref 64, .int (nI dfn)]))) (n := n) (s := s) (th_ := 0) (tr_ := tr) (wh_ := (if tr = 4 then pl else -1)) (fl_ := ft) (nm_ := nI mc) (q_ := nA mc) (tp_ := nI tl) (sz_ := sz_) (at_ := at_) (so_ := so_) (pl_ := pl_) (mk_ := mk_) (nu_ := nu_) (di_ := di_) (br_ := br_) (iff_ := iff_) (wo_ := wo_) (nd_ := nI dc) (td_ := nI td) (na_ := nI ac) (hs_ := bI hs) (nf_ := nI dfn) (y := 2) (by exact bU_s _ _ _)  (Nat.le_refl _)).call rfl lkX11_228 imX11_denied seX11_denied rfl (by exact bU_s _ _ _) rfl rfl (by omega) (Nat.le_of_ble_eq_true rfl) dX11_truth_34 (fun v9 G9 h9 => ?_) (fun q9 G9 h9 => (by cases h9.1))
      obtain ⟨h8, rfl⟩ := h9; cases h8
      refine bV_h (f2 := bU f 50 (.inr (11, [.int 0, .int 2, .int (-1), .int ft, .int (nI mc), .ref 51, .ref (nA mc), .ref 53, .ref 54, .int (nI tl), .int sz_, .int at_, .int so_, .int pl_, .int mk_, .int nu_, .int di_, .int br_, .int iff_, .long wo_, .ref 55, .ref 56, .int (nI dc), .int (nI td), .ref 57, .int (nI ac), .ref 58, .ref 59, .ref 60, .ref 61, .ref 62, .ref 63, .int (bI hs), .ref 64, .int (nI dfn)]))) (bU_u _ _ _ _) ?_
      show bV O _ d 37 [(0, .ref 50), (1, .int (nI i9)), (2, .int v)] [.int 0] (bU f 50 (.inr (11, [.int 0, .int 2, .int (-1), .int ft, .int (nI mc), .ref 51, .ref (nA mc), .ref 53, .ref 54, .int (nI tl), .int sz_, .int at_, .int so_, .int pl_, .int mk_, .int nu_, .int di_, .int br_, .int iff_, .long wo_, .ref 55, .ref 56, .int (nI dc), .int (nI td), .ref 57, .int (nI ac), .ref 58, .ref 59, .ref 60, .ref 61, .ref 62, .ref 63, .int (bI hs), .ref 64, .int (nI dfn)])), n, s) _
      refine r_zreturn rfl (by first | decide +kernel | exact narZ _ | assumption) dX11_truth_37 ?_
      all_goals rcases jIn_f c29 with a29 | b29
      all_goals try have a29 : v < -1000000000 := Int32.lt_iff_toInt_lt.mpr a29
      all_goals try have b29 : ¬ v ≤ 1000000000 := (by have h := b29; rw [Int32.le_iff_toInt_le]; omega)
      all_goals by_cases z29 : v < -1000000000
      all_goals (unfold s_truth; try simp only [])
      all_goals try (first | simp only [if_pos c10] | simp only [if_neg c10] | simp only [if_neg (Bool.eq_false_iff.mp c10)])
      all_goals try (first | simp only [if_pos c29] | simp only [if_neg c29] | simp only [if_neg (Bool.eq_false_iff.mp c29)])
      all_goals try (first | simp only [if_pos a29] | simp only [if_neg a29] | simp only [if_neg (Bool.eq_false_iff.mp a29)])
      all_goals try (first | simp only [if_pos z29] | simp only [if_neg z29] | simp only [if_neg (Bool.eq_false_iff.mp z29)])
      all_goals try (first | simp only [if_pos b29] | simp only [if_neg b29] | simp only [if_neg (Bool.eq_false_iff.mp b29)])
      all_goals try simp only [cl_nI (show i9 < 2 ^ 31 by omega)]
      all_goals exact pM_mk (NS_mk (by exact bU_s _ _ _) (by first | rfl | exact (if_neg (by decide)).symm | exact (if_pos rfl).symm)) (hT.fr (fun q _ _ => (bU_n (by omega)).trans (rfl))) (hM.fr j1 (fun q _ => (bU_n (by omega)).trans (rfl))) (hI.fr ((bU_n (by decide)).trans (rfl))) (hP.fr ((bU_n (by decide)).trans (rfl))) (hD.fr j2 (fun q _ => (bU_n (by omega)).trans (rfl))) (hA.fr (fun q _ _ => (bU_n (by omega)).trans (rfl))) (hC.fr ((bU_n (by decide)).trans (rfl))) (hF.fr ((bU_n (by decide)).trans (rfl))) (fun q _ => (bU_n (by omega)).trans (rfl)) (by omega) (by omega)
  · have c10 := bI_0.mp c10
    refine r_aload_n (n := 0) (i := 0) 0 rfl rfl dX11_truth_13 ?_
    refine r_iconst (v := 1) (by decide) dX11_truth_14 ?_
    refine p_callV (As := [.int 1]) (rest := []) (kX11_denied (O := O) (d := 0) (f := bU f 50 (.inr (11, [.int 0, .int tr, .int (if tr = 4 then pl else -1), .int ft, .int (nI mc), .ref 51, .ref (nA mc), .ref 53, .ref 54, .int (nI tl), .int sz_, .int at_, .int so_, .int pl_, .int mk_, .int nu_, .int di_, .int br_, .int iff_, .long wo_, .ref 55, .ref 56, .int (nI dc), .int (nI td), .ref 57, .int (nI ac), .ref 58, .ref 59, .ref 60, .ref 61, .ref 62, .ref 63, .int (bI hs), .ref 64, .int (nI dfn)]))) (n := n) (s := s) (th_ := 0) (tr_ := tr) (wh_ := (if tr = 4 then pl else -1)) (fl_ := ft) (nm_ := nI mc) (q_ := nA mc) (tp_ := nI tl) (sz_ := sz_) (at_ := at_) (so_ := so_) (pl_ := pl_) (mk_ := mk_) (nu_ := nu_) (di_ := di_) (br_ := br_) (iff_ := iff_) (wo_ := wo_) (nd_ := nI dc) (td_ := nI td) (na_ := nI ac) (hs_ := bI hs) (nf_ := nI dfn) (y := 1) (by exact bU_s _ _ _)  (Nat.le_refl _)).call rfl lkX11_228 imX11_denied seX11_denied rfl (by exact bU_s _ _ _) rfl rfl (by omega) (Nat.le_of_ble_eq_true rfl) dX11_truth_15 (fun v9 G9 h9 => ?_) (fun q9 G9 h9 => (by cases h9.1))
    obtain ⟨h8, rfl⟩ := h9; cases h8
    refine bV_h (f2 := bU f 50 (.inr (11, [.int 0, .int 1, .int (-1), .int ft, .int (nI mc), .ref 51, .ref (nA mc), .ref 53, .ref 54, .int (nI tl), .int sz_, .int at_, .int so_, .int pl_, .int mk_, .int nu_, .int di_, .int br_, .int iff_, .long wo_, .ref 55, .ref 56, .int (nI dc), .int (nI td), .ref 57, .int (nI ac), .ref 58, .ref 59, .ref 60, .ref 61, .ref 62, .ref 63, .int (bI hs), .ref 64, .int (nI dfn)]))) (bU_u _ _ _ _) ?_
    show bV O _ d 18 [(0, .ref 50), (1, .int x), (2, .int v)] [.int 0] (bU f 50 (.inr (11, [.int 0, .int 1, .int (-1), .int ft, .int (nI mc), .ref 51, .ref (nA mc), .ref 53, .ref 54, .int (nI tl), .int sz_, .int at_, .int so_, .int pl_, .int mk_, .int nu_, .int di_, .int br_, .int iff_, .long wo_, .ref 55, .ref 56, .int (nI dc), .int (nI td), .ref 57, .int (nI ac), .ref 58, .ref 59, .ref 60, .ref 61, .ref 62, .ref 63, .int (bI hs), .ref 64, .int (nI dfn)])), n, s) _
    refine r_zreturn rfl (by first | decide +kernel | exact narZ _ | assumption) dX11_truth_18 ?_
    all_goals (unfold s_truth; try simp only [])
    all_goals try (first | simp only [if_pos c10] | simp only [if_neg c10] | simp only [if_neg (Bool.eq_false_iff.mp c10)])
    all_goals try simp only [cl_nI (show i9 < 2 ^ 31 by omega)]
    all_goals exact pM_mk (NS_mk (by exact bU_s _ _ _) (by first | rfl | exact (if_neg (by decide)).symm | exact (if_pos rfl).symm)) (hT.fr (fun q _ _ => (bU_n (by omega)).trans (rfl))) (hM.fr j1 (fun q _ => (bU_n (by omega)).trans (rfl))) (hI.fr ((bU_n (by decide)).trans (rfl))) (hP.fr ((bU_n (by decide)).trans (rfl))) (hD.fr j2 (fun q _ => (bU_n (by omega)).trans (rfl))) (hA.fr (fun q _ _ => (bU_n (by omega)).trans (rfl))) (hC.fr ((bU_n (by decide)).trans (rfl))) (hF.fr ((bU_n (by decide)).trans (rfl))) (fun q _ => (bU_n (by omega)).trans (rfl)) (by omega) (by omega)
set_option maxRecDepth 4000 in
theorem m_sides {O : bO} {d : Nat} {f : bF} {n s : Nat} {bs : Nat → Int32} {tl : Nat} {mc : Nat} {md : Nat → MR} {ip : Nat → Int32} {dc : Nat} {dr : Nat → DR} {ac : Nat} {an : Nat → AR} {hs : Bool} {sd : Nat → Int32} {df : Nat → Int32} {dfn : Nat} {td : Nat} {tr : Int32} {ft : Int32} {pl : Int32} {w : Int32} (hX : MP f (bs, tl, mc, md, ip, dc, dr, ac, an, hs, sd, df, dfn, td, tr, ft, pl)) (jX : JJ (bs, tl, mc, md, ip, dc, dr, ac, an, hs, sd, df, dfn, td, tr, ft, pl))  (hd : 1 ≤ d) : bCall O mX11_sides d [.ref 50, .int w] (f, n, s) (pM f n s 0 0 (s_sides (bs, tl, mc, md, ip, dc, dr, ac, an, hs, sd, df, dfn, td, tr, ft, pl) w)) := by
  refine bCall_of (by decide) rfl (Nat.le_of_ble_eq_true rfl) ?_
  obtain ⟨hNS, hT, hM, hI, hP, hD, hA, hC, hF⟩ := id hX
  simp only [] at hNS hT hM hI hP hD hA hC hF
  obtain ⟨j1, j2, j3, j4, j5, j6, j7, j8, j9, j10⟩ := id jX
  simp only [] at j1 j2 j3 j4 j5 j6 j7 j8 j9 j10
  obtain ⟨th_, sz_, at_, so_, pl_, mk_, nu_, di_, br_, iff_, wo_, hO⟩ := id hNS
  obtain ⟨tg9, kd9, sp9, h53, h54, hTb⟩ := id hT
  obtain ⟨ig9, h55, hIp⟩ := id hI
  obtain ⟨pg9, h56⟩ := id hP
  obtain ⟨kp9, aq9, bc9, br9, tu9, h58, h59, h60, h61, h62, hAp⟩ := id hA
  obtain ⟨sg9, h63, hC0, hC1, hC2, hC3, hC4⟩ := id hC
  obtain ⟨dg9, h64, hFp⟩ := id hF
  have bN := nA_b (i := mc) j1
  show bV O _ d 0 [(0, .ref 50), (1, .int w)] [] (f, n, s) _
  refine r_aload_n (n := 0) (i := 0) 0 rfl rfl dX11_sides_0 ?_
  refine r_iconst (v := 0) (by decide) dX11_sides_1 ?_
  refine p_put (fs := [.int th_, .int tr, .int (if tr = 4 then pl else -1), .int ft, .int (nI mc), .ref 51, .ref (nA mc), .ref 53, .ref 54, .int (nI tl), .int sz_, .int at_, .int so_, .int pl_, .int mk_, .int nu_, .int di_, .int br_, .int iff_, .long wo_, .ref 55, .ref 56, .int (nI dc), .int (nI td), .ref 57, .int (nI ac), .ref 58, .ref 59, .ref 60, .ref 61, .ref 62, .ref 63, .int (bI hs), .ref 64, .int (nI dfn)]) (fs' := [.int 0, .int tr, .int (if tr = 4 then pl else -1), .int ft, .int (nI mc), .ref 51, .ref (nA mc), .ref 53, .ref 54, .int (nI tl), .int sz_, .int at_, .int so_, .int pl_, .int mk_, .int nu_, .int di_, .int br_, .int iff_, .long wo_, .ref 55, .ref 56, .int (nI dc), .int (nI td), .ref 57, .int (nI ac), .ref 58, .ref 59, .ref 60, .ref 61, .ref 62, .ref 63, .int (bI hs), .ref 64, .int (nI dfn)]) flX11_71 hO (Nat.le_of_ble_eq_true rfl) (bNf_i _) rfl dX11_sides_2 ?_
  refine r_aload_n (n := 0) (i := 0) 0 rfl rfl dX11_sides_5 ?_
  refine p_get (fs := [.int 0, .int tr, .int (if tr = 4 then pl else -1), .int ft, .int (nI mc), .ref 51, .ref (nA mc), .ref 53, .ref 54, .int (nI tl), .int sz_, .int at_, .int so_, .int pl_, .int mk_, .int nu_, .int di_, .int br_, .int iff_, .long wo_, .ref 55, .ref 56, .int (nI dc), .int (nI td), .ref 57, .int (nI ac), .ref 58, .ref 59, .ref 60, .ref 61, .ref 62, .ref 63, .int (bI hs), .ref 64, .int (nI dfn)]) flX11_324 (by exact bU_s _ _ _) rfl dX11_sides_6 ?_
  refine r_if_eq (tgt := 30) (by decide) dX11_sides_9 (fun c9 => ?_) (fun c9 => ?_)
  · have c9 := bI_0.mp c9
    refine r_iconst (v := (-1)) (by decide) dX11_sides_30 ?_
    refine r_ireturn rfl dX11_sides_31 ?_
    all_goals (unfold s_sides; try simp only [])
    all_goals try (first | simp only [if_pos c9] | simp only [if_neg c9] | simp only [if_neg (Bool.eq_false_iff.mp c9)])
    all_goals exact pM_mk (NS_mk (by exact bU_s _ _ _) (by first | rfl | exact (if_neg (by decide)).symm | exact (if_pos rfl).symm)) (hT.fr (fun q _ _ => (bU_n (by omega)).trans (rfl))) (hM.fr j1 (fun q _ => (bU_n (by omega)).trans (rfl))) (hI.fr ((bU_n (by decide)).trans (rfl))) (hP.fr ((bU_n (by decide)).trans (rfl))) (hD.fr j2 (fun q _ => (bU_n (by omega)).trans (rfl))) (hA.fr (fun q _ _ => (bU_n (by omega)).trans (rfl))) (hC.fr ((bU_n (by decide)).trans (rfl))) (hF.fr ((bU_n (by decide)).trans (rfl))) (fun q _ => (bU_n (by omega)).trans (rfl)) (by omega) (by omega)
  · have c9 := bI_1.mp c9
    refine r_iload_n (n := 1) (i := 1) 1 rfl rfl dX11_sides_12 ?_
    refine r_iconst (v := 0) (by decide) dX11_sides_13 ?_
    refine r_iconst (v := 4) (by decide) dX11_sides_14 ?_
    refine p_callS (As := [.int w, .int 0, .int 4]) (rest := []) (kX11_in (O := O) (d := 0) (f := bU f 50 (.inr (11, [.int 0, .int tr, .int (if tr = 4 then pl else -1), .int ft, .int (nI mc), .ref 51, .ref (nA mc), .ref 53, .ref 54, .int (nI tl), .int sz_, .int at_, .int so_, .int pl_, .int mk_, .int nu_, .int di_, .int br_, .int iff_, .long wo_, .ref 55, .ref 56, .int (nI dc), .int (nI td), .ref 57, .int (nI ac), .ref 58, .ref 59, .ref 60, .ref 61, .ref 62, .ref 63, .int (bI hs), .ref 64, .int (nI dfn)]))) (n := n) (s := s) (v := w) (lo := 0) (hi := 4)   (Nat.le_refl _)).call rfl lkX11_200 smX11_in rfl rfl (by omega) (Nat.le_of_ble_eq_true rfl) dX11_sides_15 (fun v9 G9 h9 => ?_) (fun q9 G9 h9 => (by cases h9.1))
    obtain ⟨h8, rfl⟩ := h9; cases h8
    show bV O _ d 18 [(0, .ref 50), (1, .int w)] [.int (bI (jIn w 0 4))] (bU f 50 (.inr (11, [.int 0, .int tr, .int (if tr = 4 then pl else -1), .int ft, .int (nI mc), .ref 51, .ref (nA mc), .ref 53, .ref 54, .int (nI tl), .int sz_, .int at_, .int so_, .int pl_, .int mk_, .int nu_, .int di_, .int br_, .int iff_, .long wo_, .ref 55, .ref 56, .int (nI dc), .int (nI td), .ref 57, .int (nI ac), .ref 58, .ref 59, .ref 60, .ref 61, .ref 62, .ref 63, .int (bI hs), .ref 64, .int (nI dfn)])), n, s) _
    refine r_if_eq (tgt := 30) (by decide) dX11_sides_18 (fun c18 => ?_) (fun c18 => ?_)
    · have c18 := bI_0.mp c18
      refine r_iconst (v := (-1)) (by decide) dX11_sides_30 ?_
      refine r_ireturn rfl dX11_sides_31 ?_
      all_goals have q0 : ¬ w = 0 := fun h7 => by rw [h7] at c18; exact absurd c18 (by decide)
      all_goals have q1 : ¬ w = 1 := fun h7 => by rw [h7] at c18; exact absurd c18 (by decide)
      all_goals have q2 : ¬ w = 2 := fun h7 => by rw [h7] at c18; exact absurd c18 (by decide)
      all_goals have q3 : ¬ w = 3 := fun h7 => by rw [h7] at c18; exact absurd c18 (by decide)
      all_goals have q4 : ¬ w = 4 := fun h7 => by rw [h7] at c18; exact absurd c18 (by decide)
      all_goals (unfold s_sides; try simp only [])
      all_goals try (first | simp only [if_pos c9] | simp only [if_neg c9] | simp only [if_neg (Bool.eq_false_iff.mp c9)])
      all_goals try (first | simp only [if_pos c18] | simp only [if_neg c18] | simp only [if_neg (Bool.eq_false_iff.mp c18)])
      all_goals try (first | simp only [if_pos q0] | simp only [if_neg q0] | simp only [if_neg (Bool.eq_false_iff.mp q0)])
      all_goals try (first | simp only [if_pos q1] | simp only [if_neg q1] | simp only [if_neg (Bool.eq_false_iff.mp q1)])
      all_goals try (first | simp only [if_pos q2] | simp only [if_neg q2] | simp only [if_neg (Bool.eq_false_iff.mp q2)])
      all_goals try (first | simp only [if_pos q3] | simp only [if_neg q3] | simp only [if_neg (Bool.eq_false_iff.mp q3)])
      all_goals try (first | simp only [if_pos q4] | simp only [if_neg q4] | simp only [if_neg (Bool.eq_false_iff.mp q4)])
      all_goals exact pM_mk (NS_mk (by exact bU_s _ _ _) (by first | rfl | exact (if_neg (by decide)).symm | exact (if_pos rfl).symm)) (hT.fr (fun q _ _ => (bU_n (by omega)).trans (rfl))) (hM.fr j1 (fun q _ => (bU_n (by omega)).trans (rfl))) (hI.fr ((bU_n (by decide)).trans (rfl))) (hP.fr ((bU_n (by decide)).trans (rfl))) (hD.fr j2 (fun q _ => (bU_n (by omega)).trans (rfl))) (hA.fr (fun q _ _ => (bU_n (by omega)).trans (rfl))) (hC.fr ((bU_n (by decide)).trans (rfl))) (hF.fr ((bU_n (by decide)).trans (rfl))) (fun q _ => (bU_n (by omega)).trans (rfl)) (by omega) (by omega)
    · have c18 := bI_1.mp c18
      obtain ⟨w9, hw9, rfl⟩ := jIn_k (n := 5) c18 (by decide) (by decide)
      refine r_aload_n (n := 0) (i := 0) 0 rfl rfl dX11_sides_21 ?_
      refine p_get (fs := [.int 0, .int tr, .int (if tr = 4 then pl else -1), .int ft, .int (nI mc), .ref 51, .ref (nA mc), .ref 53, .ref 54, .int (nI tl), .int sz_, .int at_, .int so_, .int pl_, .int mk_, .int nu_, .int di_, .int br_, .int iff_, .long wo_, .ref 55, .ref 56, .int (nI dc), .int (nI td), .ref 57, .int (nI ac), .ref 58, .ref 59, .ref 60, .ref 61, .ref 62, .ref 63, .int (bI hs), .ref 64, .int (nI dfn)]) flX11_65 (by exact bU_s _ _ _) rfl dX11_sides_22 ?_
      refine r_iload_n (n := 1) (i := 1) 1 rfl rfl dX11_sides_25 ?_
      refine p_ialdN (t := w9) (by exact ((bU_n (by decide)).trans (h63))) (by omega) (by omega) dX11_sides_26 ?_
      refine r_goto (tgt := 31) (by decide) dX11_sides_27 ?_
      refine r_ireturn rfl dX11_sides_31 ?_
      all_goals rw [sdt hC0 hC1 hC2 hC3 hC4 hw9]
      all_goals (unfold s_sides; try simp only [])
      all_goals try (first | simp only [if_pos c9] | simp only [if_neg c9] | simp only [if_neg (Bool.eq_false_iff.mp c9)])
      all_goals try (first | simp only [if_pos c18] | simp only [if_neg c18] | simp only [if_neg (Bool.eq_false_iff.mp c18)])
      all_goals exact pM_mk (NS_mk (by exact bU_s _ _ _) (by first | rfl | exact (if_neg (by decide)).symm | exact (if_pos rfl).symm)) (hT.fr (fun q _ _ => (bU_n (by omega)).trans (rfl))) (hM.fr j1 (fun q _ => (bU_n (by omega)).trans (rfl))) (hI.fr ((bU_n (by decide)).trans (rfl))) (hP.fr ((bU_n (by decide)).trans (rfl))) (hD.fr j2 (fun q _ => (bU_n (by omega)).trans (rfl))) (hA.fr (fun q _ _ => (bU_n (by omega)).trans (rfl))) (hC.fr ((bU_n (by decide)).trans (rfl))) (hF.fr ((bU_n (by decide)).trans (rfl))) (fun q _ => (bU_n (by omega)).trans (rfl)) (by omega) (by omega)
set_option maxRecDepth 4000 in
theorem m_tell {O : bO} {d : Nat} {f : bF} {n s : Nat} {bs : Nat → Int32} {tl : Nat} {mc : Nat} {md : Nat → MR} {ip : Nat → Int32} {dc : Nat} {dr : Nat → DR} {ac : Nat} {an : Nat → AR} {hs : Bool} {sd : Nat → Int32} {df : Nat → Int32} {dfn : Nat} {td : Nat} {tr : Int32} {ft : Int32} {pl : Int32} {x : Int32} (hX : MP f (bs, tl, mc, md, ip, dc, dr, ac, an, hs, sd, df, dfn, td, tr, ft, pl)) (jX : JJ (bs, tl, mc, md, ip, dc, dr, ac, an, hs, sd, df, dfn, td, tr, ft, pl))  (hd : 4 ≤ d) : bCall O mX11_tell d [.ref 50, .int x] (f, n, s) (pM f n s 0 0 (s_tell (bs, tl, mc, md, ip, dc, dr, ac, an, hs, sd, df, dfn, td, tr, ft, pl) x)) := by
  refine bCall_of (by decide) rfl (Nat.le_of_ble_eq_true rfl) ?_
  obtain ⟨hNS, hT, hM, hI, hP, hD, hA, hC, hF⟩ := id hX
  simp only [] at hNS hT hM hI hP hD hA hC hF
  obtain ⟨j1, j2, j3, j4, j5, j6, j7, j8, j9, j10⟩ := id jX
  simp only [] at j1 j2 j3 j4 j5 j6 j7 j8 j9 j10
  obtain ⟨th_, sz_, at_, so_, pl_, mk_, nu_, di_, br_, iff_, wo_, hO⟩ := id hNS
  obtain ⟨tg9, kd9, sp9, h53, h54, hTb⟩ := id hT
  obtain ⟨ig9, h55, hIp⟩ := id hI
  obtain ⟨pg9, h56⟩ := id hP
  obtain ⟨kp9, aq9, bc9, br9, tu9, h58, h59, h60, h61, h62, hAp⟩ := id hA
  obtain ⟨sg9, h63, hC0, hC1, hC2, hC3, hC4⟩ := id hC
  obtain ⟨dg9, h64, hFp⟩ := id hF
  have bN := nA_b (i := mc) j1
  show bV O _ d 0 [(0, .ref 50), (1, .int x)] [] (f, n, s) _
  refine r_aload_n (n := 0) (i := 0) 0 rfl rfl dX11_tell_0 ?_
  refine r_iconst (v := 0) (by decide) dX11_tell_1 ?_
  refine p_put (fs := [.int th_, .int tr, .int (if tr = 4 then pl else -1), .int ft, .int (nI mc), .ref 51, .ref (nA mc), .ref 53, .ref 54, .int (nI tl), .int sz_, .int at_, .int so_, .int pl_, .int mk_, .int nu_, .int di_, .int br_, .int iff_, .long wo_, .ref 55, .ref 56, .int (nI dc), .int (nI td), .ref 57, .int (nI ac), .ref 58, .ref 59, .ref 60, .ref 61, .ref 62, .ref 63, .int (bI hs), .ref 64, .int (nI dfn)]) (fs' := [.int 0, .int tr, .int (if tr = 4 then pl else -1), .int ft, .int (nI mc), .ref 51, .ref (nA mc), .ref 53, .ref 54, .int (nI tl), .int sz_, .int at_, .int so_, .int pl_, .int mk_, .int nu_, .int di_, .int br_, .int iff_, .long wo_, .ref 55, .ref 56, .int (nI dc), .int (nI td), .ref 57, .int (nI ac), .ref 58, .ref 59, .ref 60, .ref 61, .ref 62, .ref 63, .int (bI hs), .ref 64, .int (nI dfn)]) flX11_71 hO (Nat.le_of_ble_eq_true rfl) (bNf_i _) rfl dX11_tell_2 ?_
  refine r_aload_n (n := 0) (i := 0) 0 rfl rfl dX11_tell_5 ?_
  refine r_aload_n (n := 0) (i := 0) 0 rfl rfl dX11_tell_6 ?_
  refine r_iload_n (n := 1) (i := 1) 1 rfl rfl dX11_tell_7 ?_
  refine p_callV (As := [.int x]) (rest := [.ref 50]) (kX11_isModel (O := O) (d := 0) (f := bU f 50 (.inr (11, [.int 0, .int tr, .int (if tr = 4 then pl else -1), .int ft, .int (nI mc), .ref 51, .ref (nA mc), .ref 53, .ref 54, .int (nI tl), .int sz_, .int at_, .int so_, .int pl_, .int mk_, .int nu_, .int di_, .int br_, .int iff_, .long wo_, .ref 55, .ref 56, .int (nI dc), .int (nI td), .ref 57, .int (nI ac), .ref 58, .ref 59, .ref 60, .ref 61, .ref 62, .ref 63, .int (bI hs), .ref 64, .int (nI dfn)]))) (n := n) (s := s) (th_ := 0) (tr_ := tr) (wh_ := (if tr = 4 then pl else -1)) (fl_ := ft) (q_ := nA mc) (tp_ := nI tl) (sz_ := sz_) (at_ := at_) (so_ := so_) (pl_ := pl_) (mk_ := mk_) (nu_ := nu_) (di_ := di_) (br_ := br_) (iff_ := iff_) (wo_ := wo_) (nd_ := nI dc) (td_ := nI td) (na_ := nI ac) (hs_ := bI hs) (nf_ := nI dfn) (m9 := mc) (x := x) (by exact bU_s _ _ _) (by omega) (Nat.le_refl _)).call rfl lkX11_225 imX11_isModel seX11_isModel rfl (by exact bU_s _ _ _) rfl rfl (by omega) (Nat.le_of_ble_eq_true rfl) dX11_tell_8 (fun v9 G9 h9 => ?_) (fun q9 G9 h9 => (by cases h9.1))
  obtain ⟨h8, rfl⟩ := h9; cases h8
  show bV O _ d 11 [(0, .ref 50), (1, .int x)] [.int (bI (inB x mc)), .ref 50] (bU f 50 (.inr (11, [.int 0, .int tr, .int (if tr = 4 then pl else -1), .int ft, .int (nI mc), .ref 51, .ref (nA mc), .ref 53, .ref 54, .int (nI tl), .int sz_, .int at_, .int so_, .int pl_, .int mk_, .int nu_, .int di_, .int br_, .int iff_, .long wo_, .ref 55, .ref 56, .int (nI dc), .int (nI td), .ref 57, .int (nI ac), .ref 58, .ref 59, .ref 60, .ref 61, .ref 62, .ref 63, .int (bI hs), .ref 64, .int (nI dfn)])), n, s) _
  refine r_if_eq (tgt := 18) (by decide) dX11_tell_11 (fun c11 => ?_) (fun c11 => ?_)
  · have c11 := bI_0.mp c11
    refine r_iconst (v := 1) (by decide) dX11_tell_18 ?_
    refine p_put (fs := [.int 0, .int tr, .int (if tr = 4 then pl else -1), .int ft, .int (nI mc), .ref 51, .ref (nA mc), .ref 53, .ref 54, .int (nI tl), .int sz_, .int at_, .int so_, .int pl_, .int mk_, .int nu_, .int di_, .int br_, .int iff_, .long wo_, .ref 55, .ref 56, .int (nI dc), .int (nI td), .ref 57, .int (nI ac), .ref 58, .ref 59, .ref 60, .ref 61, .ref 62, .ref 63, .int (bI hs), .ref 64, .int (nI dfn)]) (fs' := [.int 0, .int 1, .int (if tr = 4 then pl else -1), .int ft, .int (nI mc), .ref 51, .ref (nA mc), .ref 53, .ref 54, .int (nI tl), .int sz_, .int at_, .int so_, .int pl_, .int mk_, .int nu_, .int di_, .int br_, .int iff_, .long wo_, .ref 55, .ref 56, .int (nI dc), .int (nI td), .ref 57, .int (nI ac), .ref 58, .ref 59, .ref 60, .ref 61, .ref 62, .ref 63, .int (bI hs), .ref 64, .int (nI dfn)]) flX11_74 (by exact bU_s _ _ _) (Nat.le_of_ble_eq_true rfl) (bNf_i _) rfl dX11_tell_19 ?_
    refine bV_h (f2 := bU f 50 (.inr (11, [.int 0, .int 1, .int (if tr = 4 then pl else -1), .int ft, .int (nI mc), .ref 51, .ref (nA mc), .ref 53, .ref 54, .int (nI tl), .int sz_, .int at_, .int so_, .int pl_, .int mk_, .int nu_, .int di_, .int br_, .int iff_, .long wo_, .ref 55, .ref 56, .int (nI dc), .int (nI td), .ref 57, .int (nI ac), .ref 58, .ref 59, .ref 60, .ref 61, .ref 62, .ref 63, .int (bI hs), .ref 64, .int (nI dfn)]))) (bU_u _ _ _ _) ?_
    refine r_aload_n (n := 0) (i := 0) 0 rfl rfl dX11_tell_22 ?_
    refine r_iconst (v := (-1)) (by decide) dX11_tell_23 ?_
    refine p_put (fs := [.int 0, .int 1, .int (if tr = 4 then pl else -1), .int ft, .int (nI mc), .ref 51, .ref (nA mc), .ref 53, .ref 54, .int (nI tl), .int sz_, .int at_, .int so_, .int pl_, .int mk_, .int nu_, .int di_, .int br_, .int iff_, .long wo_, .ref 55, .ref 56, .int (nI dc), .int (nI td), .ref 57, .int (nI ac), .ref 58, .ref 59, .ref 60, .ref 61, .ref 62, .ref 63, .int (bI hs), .ref 64, .int (nI dfn)]) (fs' := [.int 0, .int 1, .int (-1), .int ft, .int (nI mc), .ref 51, .ref (nA mc), .ref 53, .ref 54, .int (nI tl), .int sz_, .int at_, .int so_, .int pl_, .int mk_, .int nu_, .int di_, .int br_, .int iff_, .long wo_, .ref 55, .ref 56, .int (nI dc), .int (nI td), .ref 57, .int (nI ac), .ref 58, .ref 59, .ref 60, .ref 61, .ref 62, .ref 63, .int (bI hs), .ref 64, .int (nI dfn)]) flX11_11 (by exact bU_s _ _ _) (Nat.le_of_ble_eq_true rfl) (bNf_i _) rfl dX11_tell_24 ?_
    refine bV_h (f2 := bU f 50 (.inr (11, [.int 0, .int 1, .int (-1), .int ft, .int (nI mc), .ref 51, .ref (nA mc), .ref 53, .ref 54, .int (nI tl), .int sz_, .int at_, .int so_, .int pl_, .int mk_, .int nu_, .int di_, .int br_, .int iff_, .long wo_, .ref 55, .ref 56, .int (nI dc), .int (nI td), .ref 57, .int (nI ac), .ref 58, .ref 59, .ref 60, .ref 61, .ref 62, .ref 63, .int (bI hs), .ref 64, .int (nI dfn)]))) (bU_u _ _ _ _) ?_
    refine r_aload_n (n := 0) (i := 0) 0 rfl rfl dX11_tell_27 ?_
    refine p_get (fs := [.int 0, .int 1, .int (-1), .int ft, .int (nI mc), .ref 51, .ref (nA mc), .ref 53, .ref 54, .int (nI tl), .int sz_, .int at_, .int so_, .int pl_, .int mk_, .int nu_, .int di_, .int br_, .int iff_, .long wo_, .ref 55, .ref 56, .int (nI dc), .int (nI td), .ref 57, .int (nI ac), .ref 58, .ref 59, .ref 60, .ref 61, .ref 62, .ref 63, .int (bI hs), .ref 64, .int (nI dfn)]) flX11_74 (by exact bU_s _ _ _) rfl dX11_tell_28 ?_
    refine r_if_ne (tgt := 47) (by decide) dX11_tell_31 (fun _ => ?_) (fun h9 => absurd h9 (show ¬ (1 : Int32) = 0 by decide))
    refine r_ldcw ckX11_266 dX11_tell_47 ?_
    refine r_ireturn rfl dX11_tell_50 ?_
    all_goals (unfold s_tell; try simp only [])
    all_goals try (first | simp only [if_pos c11] | simp only [if_neg c11] | simp only [if_neg (Bool.eq_false_iff.mp c11)])
    all_goals exact pM_mk (NS_mk (by exact bU_s _ _ _) (by first | rfl | exact (if_neg (by decide)).symm | exact (if_pos rfl).symm)) (hT.fr (fun q _ _ => (bU_n (by omega)).trans (rfl))) (hM.fr j1 (fun q _ => (bU_n (by omega)).trans (rfl))) (hI.fr ((bU_n (by decide)).trans (rfl))) (hP.fr ((bU_n (by decide)).trans (rfl))) (hD.fr j2 (fun q _ => (bU_n (by omega)).trans (rfl))) (hA.fr (fun q _ _ => (bU_n (by omega)).trans (rfl))) (hC.fr ((bU_n (by decide)).trans (rfl))) (hF.fr ((bU_n (by decide)).trans (rfl))) (fun q _ => (bU_n (by omega)).trans (rfl)) (by omega) (by omega)
  · have c11 := bI_1.mp c11
    refine r_iconst (v := 0) (by decide) dX11_tell_14 ?_
    refine r_goto (tgt := 19) (by decide) dX11_tell_15 ?_
    refine p_put (fs := [.int 0, .int tr, .int (if tr = 4 then pl else -1), .int ft, .int (nI mc), .ref 51, .ref (nA mc), .ref 53, .ref 54, .int (nI tl), .int sz_, .int at_, .int so_, .int pl_, .int mk_, .int nu_, .int di_, .int br_, .int iff_, .long wo_, .ref 55, .ref 56, .int (nI dc), .int (nI td), .ref 57, .int (nI ac), .ref 58, .ref 59, .ref 60, .ref 61, .ref 62, .ref 63, .int (bI hs), .ref 64, .int (nI dfn)]) (fs' := [.int 0, .int 0, .int (if tr = 4 then pl else -1), .int ft, .int (nI mc), .ref 51, .ref (nA mc), .ref 53, .ref 54, .int (nI tl), .int sz_, .int at_, .int so_, .int pl_, .int mk_, .int nu_, .int di_, .int br_, .int iff_, .long wo_, .ref 55, .ref 56, .int (nI dc), .int (nI td), .ref 57, .int (nI ac), .ref 58, .ref 59, .ref 60, .ref 61, .ref 62, .ref 63, .int (bI hs), .ref 64, .int (nI dfn)]) flX11_74 (by exact bU_s _ _ _) (Nat.le_of_ble_eq_true rfl) (bNf_i _) rfl dX11_tell_19 ?_
    refine bV_h (f2 := bU f 50 (.inr (11, [.int 0, .int 0, .int (if tr = 4 then pl else -1), .int ft, .int (nI mc), .ref 51, .ref (nA mc), .ref 53, .ref 54, .int (nI tl), .int sz_, .int at_, .int so_, .int pl_, .int mk_, .int nu_, .int di_, .int br_, .int iff_, .long wo_, .ref 55, .ref 56, .int (nI dc), .int (nI td), .ref 57, .int (nI ac), .ref 58, .ref 59, .ref 60, .ref 61, .ref 62, .ref 63, .int (bI hs), .ref 64, .int (nI dfn)]))) (bU_u _ _ _ _) ?_
    refine r_aload_n (n := 0) (i := 0) 0 rfl rfl dX11_tell_22 ?_
    refine r_iconst (v := (-1)) (by decide) dX11_tell_23 ?_
    refine p_put (fs := [.int 0, .int 0, .int (if tr = 4 then pl else -1), .int ft, .int (nI mc), .ref 51, .ref (nA mc), .ref 53, .ref 54, .int (nI tl), .int sz_, .int at_, .int so_, .int pl_, .int mk_, .int nu_, .int di_, .int br_, .int iff_, .long wo_, .ref 55, .ref 56, .int (nI dc), .int (nI td), .ref 57, .int (nI ac), .ref 58, .ref 59, .ref 60, .ref 61, .ref 62, .ref 63, .int (bI hs), .ref 64, .int (nI dfn)]) (fs' := [.int 0, .int 0, .int (-1), .int ft, .int (nI mc), .ref 51, .ref (nA mc), .ref 53, .ref 54, .int (nI tl), .int sz_, .int at_, .int so_, .int pl_, .int mk_, .int nu_, .int di_, .int br_, .int iff_, .long wo_, .ref 55, .ref 56, .int (nI dc), .int (nI td), .ref 57, .int (nI ac), .ref 58, .ref 59, .ref 60, .ref 61, .ref 62, .ref 63, .int (bI hs), .ref 64, .int (nI dfn)]) flX11_11 (by exact bU_s _ _ _) (Nat.le_of_ble_eq_true rfl) (bNf_i _) rfl dX11_tell_24 ?_
    refine bV_h (f2 := bU f 50 (.inr (11, [.int 0, .int 0, .int (-1), .int ft, .int (nI mc), .ref 51, .ref (nA mc), .ref 53, .ref 54, .int (nI tl), .int sz_, .int at_, .int so_, .int pl_, .int mk_, .int nu_, .int di_, .int br_, .int iff_, .long wo_, .ref 55, .ref 56, .int (nI dc), .int (nI td), .ref 57, .int (nI ac), .ref 58, .ref 59, .ref 60, .ref 61, .ref 62, .ref 63, .int (bI hs), .ref 64, .int (nI dfn)]))) (bU_u _ _ _ _) ?_
    refine r_aload_n (n := 0) (i := 0) 0 rfl rfl dX11_tell_27 ?_
    refine p_get (fs := [.int 0, .int 0, .int (-1), .int ft, .int (nI mc), .ref 51, .ref (nA mc), .ref 53, .ref 54, .int (nI tl), .int sz_, .int at_, .int so_, .int pl_, .int mk_, .int nu_, .int di_, .int br_, .int iff_, .long wo_, .ref 55, .ref 56, .int (nI dc), .int (nI td), .ref 57, .int (nI ac), .ref 58, .ref 59, .ref 60, .ref 61, .ref 62, .ref 63, .int (bI hs), .ref 64, .int (nI dfn)]) flX11_74 (by exact bU_s _ _ _) rfl dX11_tell_28 ?_
    refine r_if_ne (tgt := 47) (by decide) dX11_tell_31 (fun h9 => absurd h9 (show ¬ (¬ (0 : Int32) = 0) by decide)) (fun _ => ?_)
    refine r_aload_n (n := 0) (i := 0) 0 rfl rfl dX11_tell_34 ?_
    refine r_iload_n (n := 1) (i := 1) 1 rfl rfl dX11_tell_35 ?_
    refine r_aload_n (n := 0) (i := 0) 0 rfl rfl dX11_tell_36 ?_
    refine p_get (fs := [.int 0, .int 0, .int (-1), .int ft, .int (nI mc), .ref 51, .ref (nA mc), .ref 53, .ref 54, .int (nI tl), .int sz_, .int at_, .int so_, .int pl_, .int mk_, .int nu_, .int di_, .int br_, .int iff_, .long wo_, .ref 55, .ref 56, .int (nI dc), .int (nI td), .ref 57, .int (nI ac), .ref 58, .ref 59, .ref 60, .ref 61, .ref 62, .ref 63, .int (bI hs), .ref 64, .int (nI dfn)]) flX11_37 (by exact bU_s _ _ _) rfl dX11_tell_37 ?_
    refine r_iconst (v := 0) (by decide) dX11_tell_40 ?_
    refine p_callV (As := [.int x, .ref 55, .int 0]) (rest := []) (kX11_tells (O := O) (d := 3) (f := bU f 50 (.inr (11, [.int 0, .int 0, .int (-1), .int ft, .int (nI mc), .ref 51, .ref (nA mc), .ref 53, .ref 54, .int (nI tl), .int sz_, .int at_, .int so_, .int pl_, .int mk_, .int nu_, .int di_, .int br_, .int iff_, .long wo_, .ref 55, .ref 56, .int (nI dc), .int (nI td), .ref 57, .int (nI ac), .ref 58, .ref 59, .ref 60, .ref 61, .ref 62, .ref 63, .int (bI hs), .ref 64, .int (nI dfn)]))) (n := n) (s := s) (mc := mc) (md := md) (o := 0) (ip := ip) (by exact bU_s _ _ _) (by exact ((bU_n (by decide)).trans (h55))) (by exact ((bU_n (by decide)).trans (h56))) (hM.fr j1 (fun q _ => (bU_n (by omega)).trans (rfl))) j1 c11 (j7 _ (inB_lt c11)) (fun k hk => by rw [Nat.zero_add]; exact hIp k hk) j8 (by omega) (by omega) (by decide) (Nat.le_refl _)) rfl lkX11_262 imX11_tells seX11_tells rfl (by exact bU_s _ _ _) rfl rfl (by omega) (Nat.le_of_ble_eq_true rfl) dX11_tell_41 (fun v9 G9 h9 => ?_) (fun q9 G9 h9 => (by cases h9.1))
    obtain ⟨h8, g41, rfl⟩ := h9; cases h8
    show bV O _ d 44 [(0, .ref 50), (1, .int x)] [.int (vl (md (cl x)).1 ip)] (bU (bU f 50 (.inr (11, [.int 0, .int 0, .int (-1), .int ft, .int (nI mc), .ref 51, .ref (nA mc), .ref 53, .ref 54, .int (nI tl), .int sz_, .int at_, .int so_, .int pl_, .int mk_, .int nu_, .int di_, .int br_, .int iff_, .long wo_, .ref 55, .ref 56, .int (nI dc), .int (nI td), .ref 57, .int (nI ac), .ref 58, .ref 59, .ref 60, .ref 61, .ref 62, .ref 63, .int (bI hs), .ref 64, .int (nI dfn)]))) 56 (.inl (0, 122, .inl g41)), n, s) _
    refine r_goto (tgt := 50) (by decide) dX11_tell_44 ?_
    refine r_ireturn rfl dX11_tell_50 ?_
    all_goals (unfold s_tell; try simp only [])
    all_goals try (first | simp only [if_pos c11] | simp only [if_neg c11] | simp only [if_neg (Bool.eq_false_iff.mp c11)])
    all_goals exact pM_mk (NS_mk (by exact ((bU_n (by decide)).trans (bU_s _ _ _))) (by first | rfl | exact (if_neg (by decide)).symm | exact (if_pos rfl).symm)) (hT.fr (fun q _ _ => (bU_n (by omega)).trans ((bU_n (by omega)).trans (rfl)))) (hM.fr j1 (fun q _ => (bU_n (by omega)).trans ((bU_n (by omega)).trans (rfl)))) (hI.fr ((bU_n (by decide)).trans ((bU_n (by decide)).trans (rfl)))) (⟨_, (by exact bU_s _ _ _)⟩) (hD.fr j2 (fun q _ => (bU_n (by omega)).trans ((bU_n (by omega)).trans (rfl)))) (hA.fr (fun q _ _ => (bU_n (by omega)).trans ((bU_n (by omega)).trans (rfl)))) (hC.fr ((bU_n (by decide)).trans ((bU_n (by decide)).trans (rfl)))) (hF.fr ((bU_n (by decide)).trans ((bU_n (by decide)).trans (rfl)))) (fun q _ => (bU_n (by omega)).trans ((bU_n (by omega)).trans (rfl))) (by omega) (by omega)
set_option maxRecDepth 4000 in
theorem m_again {O : bO} {d : Nat} {f : bF} {n s : Nat} {bs : Nat → Int32} {tl : Nat} {mc : Nat} {md : Nat → MR} {ip : Nat → Int32} {dc : Nat} {dr : Nat → DR} {ac : Nat} {an : Nat → AR} {hs : Bool} {sd : Nat → Int32} {df : Nat → Int32} {dfn : Nat} {td : Nat} {tr : Int32} {ft : Int32} {pl : Int32} {x : Int32} {m : Int32} (hX : MP f (bs, tl, mc, md, ip, dc, dr, ac, an, hs, sd, df, dfn, td, tr, ft, pl)) (jX : JJ (bs, tl, mc, md, ip, dc, dr, ac, an, hs, sd, df, dfn, td, tr, ft, pl))  (hd : 4 ≤ d) : bCall O mX11_again d [.ref 50, .int x, .int m] (f, n, s) (pM f n s 0 0 (s_again (bs, tl, mc, md, ip, dc, dr, ac, an, hs, sd, df, dfn, td, tr, ft, pl) x m)) := by
  refine bCall_of (by decide) rfl (Nat.le_of_ble_eq_true rfl) ?_
  obtain ⟨hNS, hT, hM, hI, hP, hD, hA, hC, hF⟩ := id hX
  simp only [] at hNS hT hM hI hP hD hA hC hF
  obtain ⟨j1, j2, j3, j4, j5, j6, j7, j8, j9, j10⟩ := id jX
  simp only [] at j1 j2 j3 j4 j5 j6 j7 j8 j9 j10
  obtain ⟨th_, sz_, at_, so_, pl_, mk_, nu_, di_, br_, iff_, wo_, hO⟩ := id hNS
  obtain ⟨tg9, kd9, sp9, h53, h54, hTb⟩ := id hT
  obtain ⟨ig9, h55, hIp⟩ := id hI
  obtain ⟨pg9, h56⟩ := id hP
  obtain ⟨kp9, aq9, bc9, br9, tu9, h58, h59, h60, h61, h62, hAp⟩ := id hA
  obtain ⟨sg9, h63, hC0, hC1, hC2, hC3, hC4⟩ := id hC
  obtain ⟨dg9, h64, hFp⟩ := id hF
  have bN := nA_b (i := mc) j1
  show bV O _ d 0 [(0, .ref 50), (1, .int x), (2, .int m)] [] (f, n, s) _
  refine r_aload_n (n := 0) (i := 0) 0 rfl rfl dX11_again_0 ?_
  refine r_iconst (v := 0) (by decide) dX11_again_1 ?_
  refine p_put (fs := [.int th_, .int tr, .int (if tr = 4 then pl else -1), .int ft, .int (nI mc), .ref 51, .ref (nA mc), .ref 53, .ref 54, .int (nI tl), .int sz_, .int at_, .int so_, .int pl_, .int mk_, .int nu_, .int di_, .int br_, .int iff_, .long wo_, .ref 55, .ref 56, .int (nI dc), .int (nI td), .ref 57, .int (nI ac), .ref 58, .ref 59, .ref 60, .ref 61, .ref 62, .ref 63, .int (bI hs), .ref 64, .int (nI dfn)]) (fs' := [.int 0, .int tr, .int (if tr = 4 then pl else -1), .int ft, .int (nI mc), .ref 51, .ref (nA mc), .ref 53, .ref 54, .int (nI tl), .int sz_, .int at_, .int so_, .int pl_, .int mk_, .int nu_, .int di_, .int br_, .int iff_, .long wo_, .ref 55, .ref 56, .int (nI dc), .int (nI td), .ref 57, .int (nI ac), .ref 58, .ref 59, .ref 60, .ref 61, .ref 62, .ref 63, .int (bI hs), .ref 64, .int (nI dfn)]) flX11_71 hO (Nat.le_of_ble_eq_true rfl) (bNf_i _) rfl dX11_again_2 ?_
  refine r_aload_n (n := 0) (i := 0) 0 rfl rfl dX11_again_5 ?_
  refine r_aload_n (n := 0) (i := 0) 0 rfl rfl dX11_again_6 ?_
  refine r_iload_n (n := 1) (i := 1) 1 rfl rfl dX11_again_7 ?_
  refine p_callV (As := [.int x]) (rest := [.ref 50]) (kX11_isAnswer (O := O) (d := 0) (f := bU f 50 (.inr (11, [.int 0, .int tr, .int (if tr = 4 then pl else -1), .int ft, .int (nI mc), .ref 51, .ref (nA mc), .ref 53, .ref 54, .int (nI tl), .int sz_, .int at_, .int so_, .int pl_, .int mk_, .int nu_, .int di_, .int br_, .int iff_, .long wo_, .ref 55, .ref 56, .int (nI dc), .int (nI td), .ref 57, .int (nI ac), .ref 58, .ref 59, .ref 60, .ref 61, .ref 62, .ref 63, .int (bI hs), .ref 64, .int (nI dfn)]))) (n := n) (s := s) (th_ := 0) (tr_ := tr) (wh_ := (if tr = 4 then pl else -1)) (fl_ := ft) (nm_ := nI mc) (q_ := nA mc) (tp_ := nI tl) (sz_ := sz_) (at_ := at_) (so_ := so_) (pl_ := pl_) (mk_ := mk_) (nu_ := nu_) (di_ := di_) (br_ := br_) (iff_ := iff_) (wo_ := wo_) (nd_ := nI dc) (td_ := nI td) (hs_ := bI hs) (nf_ := nI dfn) (m9 := ac) (x := x) (by exact bU_s _ _ _) (by omega) (Nat.le_refl _)).call rfl lkX11_316 imX11_isAnswer seX11_isAnswer rfl (by exact bU_s _ _ _) rfl rfl (by omega) (Nat.le_of_ble_eq_true rfl) dX11_again_8 (fun v9 G9 h9 => ?_) (fun q9 G9 h9 => (by cases h9.1))
  obtain ⟨h8, rfl⟩ := h9; cases h8
  show bV O _ d 11 [(0, .ref 50), (1, .int x), (2, .int m)] [.int (bI (inB x ac)), .ref 50] (bU f 50 (.inr (11, [.int 0, .int tr, .int (if tr = 4 then pl else -1), .int ft, .int (nI mc), .ref 51, .ref (nA mc), .ref 53, .ref 54, .int (nI tl), .int sz_, .int at_, .int so_, .int pl_, .int mk_, .int nu_, .int di_, .int br_, .int iff_, .long wo_, .ref 55, .ref 56, .int (nI dc), .int (nI td), .ref 57, .int (nI ac), .ref 58, .ref 59, .ref 60, .ref 61, .ref 62, .ref 63, .int (bI hs), .ref 64, .int (nI dfn)])), n, s) _
  refine r_if_eq (tgt := 26) (by decide) dX11_again_11 (fun c11 => ?_) (fun c11 => ?_)
  · have c11 := bI_0.mp c11
    refine r_iconst (v := 1) (by decide) dX11_again_26 ?_
    refine p_put (fs := [.int 0, .int tr, .int (if tr = 4 then pl else -1), .int ft, .int (nI mc), .ref 51, .ref (nA mc), .ref 53, .ref 54, .int (nI tl), .int sz_, .int at_, .int so_, .int pl_, .int mk_, .int nu_, .int di_, .int br_, .int iff_, .long wo_, .ref 55, .ref 56, .int (nI dc), .int (nI td), .ref 57, .int (nI ac), .ref 58, .ref 59, .ref 60, .ref 61, .ref 62, .ref 63, .int (bI hs), .ref 64, .int (nI dfn)]) (fs' := [.int 0, .int 1, .int (if tr = 4 then pl else -1), .int ft, .int (nI mc), .ref 51, .ref (nA mc), .ref 53, .ref 54, .int (nI tl), .int sz_, .int at_, .int so_, .int pl_, .int mk_, .int nu_, .int di_, .int br_, .int iff_, .long wo_, .ref 55, .ref 56, .int (nI dc), .int (nI td), .ref 57, .int (nI ac), .ref 58, .ref 59, .ref 60, .ref 61, .ref 62, .ref 63, .int (bI hs), .ref 64, .int (nI dfn)]) flX11_74 (by exact bU_s _ _ _) (Nat.le_of_ble_eq_true rfl) (bNf_i _) rfl dX11_again_27 ?_
    refine bV_h (f2 := bU f 50 (.inr (11, [.int 0, .int 1, .int (if tr = 4 then pl else -1), .int ft, .int (nI mc), .ref 51, .ref (nA mc), .ref 53, .ref 54, .int (nI tl), .int sz_, .int at_, .int so_, .int pl_, .int mk_, .int nu_, .int di_, .int br_, .int iff_, .long wo_, .ref 55, .ref 56, .int (nI dc), .int (nI td), .ref 57, .int (nI ac), .ref 58, .ref 59, .ref 60, .ref 61, .ref 62, .ref 63, .int (bI hs), .ref 64, .int (nI dfn)]))) (bU_u _ _ _ _) ?_
    refine r_aload_n (n := 0) (i := 0) 0 rfl rfl dX11_again_30 ?_
    refine r_iconst (v := (-1)) (by decide) dX11_again_31 ?_
    refine p_put (fs := [.int 0, .int 1, .int (if tr = 4 then pl else -1), .int ft, .int (nI mc), .ref 51, .ref (nA mc), .ref 53, .ref 54, .int (nI tl), .int sz_, .int at_, .int so_, .int pl_, .int mk_, .int nu_, .int di_, .int br_, .int iff_, .long wo_, .ref 55, .ref 56, .int (nI dc), .int (nI td), .ref 57, .int (nI ac), .ref 58, .ref 59, .ref 60, .ref 61, .ref 62, .ref 63, .int (bI hs), .ref 64, .int (nI dfn)]) (fs' := [.int 0, .int 1, .int (-1), .int ft, .int (nI mc), .ref 51, .ref (nA mc), .ref 53, .ref 54, .int (nI tl), .int sz_, .int at_, .int so_, .int pl_, .int mk_, .int nu_, .int di_, .int br_, .int iff_, .long wo_, .ref 55, .ref 56, .int (nI dc), .int (nI td), .ref 57, .int (nI ac), .ref 58, .ref 59, .ref 60, .ref 61, .ref 62, .ref 63, .int (bI hs), .ref 64, .int (nI dfn)]) flX11_11 (by exact bU_s _ _ _) (Nat.le_of_ble_eq_true rfl) (bNf_i _) rfl dX11_again_32 ?_
    refine bV_h (f2 := bU f 50 (.inr (11, [.int 0, .int 1, .int (-1), .int ft, .int (nI mc), .ref 51, .ref (nA mc), .ref 53, .ref 54, .int (nI tl), .int sz_, .int at_, .int so_, .int pl_, .int mk_, .int nu_, .int di_, .int br_, .int iff_, .long wo_, .ref 55, .ref 56, .int (nI dc), .int (nI td), .ref 57, .int (nI ac), .ref 58, .ref 59, .ref 60, .ref 61, .ref 62, .ref 63, .int (bI hs), .ref 64, .int (nI dfn)]))) (bU_u _ _ _ _) ?_
    refine r_aload_n (n := 0) (i := 0) 0 rfl rfl dX11_again_35 ?_
    refine p_get (fs := [.int 0, .int 1, .int (-1), .int ft, .int (nI mc), .ref 51, .ref (nA mc), .ref 53, .ref 54, .int (nI tl), .int sz_, .int at_, .int so_, .int pl_, .int mk_, .int nu_, .int di_, .int br_, .int iff_, .long wo_, .ref 55, .ref 56, .int (nI dc), .int (nI td), .ref 57, .int (nI ac), .ref 58, .ref 59, .ref 60, .ref 61, .ref 62, .ref 63, .int (bI hs), .ref 64, .int (nI dfn)]) flX11_74 (by exact bU_s _ _ _) rfl dX11_again_36 ?_
    refine r_if_ne (tgt := 58) (by decide) dX11_again_39 (fun _ => ?_) (fun h9 => absurd h9 (show ¬ (1 : Int32) = 0 by decide))
    refine r_ldcw ckX11_266 dX11_again_58 ?_
    refine r_ireturn rfl dX11_again_61 ?_
    all_goals (unfold s_again; try simp only [])
    all_goals try (first | simp only [if_pos c11] | simp only [if_neg c11] | simp only [if_neg (Bool.eq_false_iff.mp c11)])
    all_goals try simp only [cl_nI (show i9 < 2 ^ 31 by omega)]
    all_goals exact pM_mk (NS_mk (by exact bU_s _ _ _) (by first | rfl | exact (if_neg (by decide)).symm | exact (if_pos rfl).symm)) (hT.fr (fun q _ _ => (bU_n (by omega)).trans (rfl))) (hM.fr j1 (fun q _ => (bU_n (by omega)).trans (rfl))) (hI.fr ((bU_n (by decide)).trans (rfl))) (hP.fr ((bU_n (by decide)).trans (rfl))) (hD.fr j2 (fun q _ => (bU_n (by omega)).trans (rfl))) (hA.fr (fun q _ _ => (bU_n (by omega)).trans (rfl))) (hC.fr ((bU_n (by decide)).trans (rfl))) (hF.fr ((bU_n (by decide)).trans (rfl))) (fun q _ => (bU_n (by omega)).trans (rfl)) (by omega) (by omega)
  · have c11 := bI_1.mp c11
    obtain ⟨i9, hi9, rfl⟩ := inB_ex c11
    refine r_aload_n (n := 0) (i := 0) 0 rfl rfl dX11_again_14 ?_
    refine r_iload_n (n := 2) (i := 2) 2 rfl rfl dX11_again_15 ?_
    refine p_callV (As := [.int m]) (rest := [.ref 50]) (kX11_isModel (O := O) (d := 0) (f := bU f 50 (.inr (11, [.int 0, .int tr, .int (if tr = 4 then pl else -1), .int ft, .int (nI mc), .ref 51, .ref (nA mc), .ref 53, .ref 54, .int (nI tl), .int sz_, .int at_, .int so_, .int pl_, .int mk_, .int nu_, .int di_, .int br_, .int iff_, .long wo_, .ref 55, .ref 56, .int (nI dc), .int (nI td), .ref 57, .int (nI ac), .ref 58, .ref 59, .ref 60, .ref 61, .ref 62, .ref 63, .int (bI hs), .ref 64, .int (nI dfn)]))) (n := n) (s := s) (th_ := 0) (tr_ := tr) (wh_ := (if tr = 4 then pl else -1)) (fl_ := ft) (q_ := nA mc) (tp_ := nI tl) (sz_ := sz_) (at_ := at_) (so_ := so_) (pl_ := pl_) (mk_ := mk_) (nu_ := nu_) (di_ := di_) (br_ := br_) (iff_ := iff_) (wo_ := wo_) (nd_ := nI dc) (td_ := nI td) (na_ := nI ac) (hs_ := bI hs) (nf_ := nI dfn) (m9 := mc) (x := m) (by exact bU_s _ _ _) (by omega) (Nat.le_refl _)).call rfl lkX11_225 imX11_isModel seX11_isModel rfl (by exact bU_s _ _ _) rfl rfl (by omega) (Nat.le_of_ble_eq_true rfl) dX11_again_16 (fun v9 G9 h9 => ?_) (fun q9 G9 h9 => (by cases h9.1))
    obtain ⟨h8, rfl⟩ := h9; cases h8
    show bV O _ d 19 [(0, .ref 50), (1, .int (nI i9)), (2, .int m)] [.int (bI (inB m mc)), .ref 50] (bU f 50 (.inr (11, [.int 0, .int tr, .int (if tr = 4 then pl else -1), .int ft, .int (nI mc), .ref 51, .ref (nA mc), .ref 53, .ref 54, .int (nI tl), .int sz_, .int at_, .int so_, .int pl_, .int mk_, .int nu_, .int di_, .int br_, .int iff_, .long wo_, .ref 55, .ref 56, .int (nI dc), .int (nI td), .ref 57, .int (nI ac), .ref 58, .ref 59, .ref 60, .ref 61, .ref 62, .ref 63, .int (bI hs), .ref 64, .int (nI dfn)])), n, s) _
    refine r_if_eq (tgt := 26) (by decide) dX11_again_19 (fun c19 => ?_) (fun c19 => ?_)
    · have c19 := bI_0.mp c19
      refine r_iconst (v := 1) (by decide) dX11_again_26 ?_
      refine p_put (fs := [.int 0, .int tr, .int (if tr = 4 then pl else -1), .int ft, .int (nI mc), .ref 51, .ref (nA mc), .ref 53, .ref 54, .int (nI tl), .int sz_, .int at_, .int so_, .int pl_, .int mk_, .int nu_, .int di_, .int br_, .int iff_, .long wo_, .ref 55, .ref 56, .int (nI dc), .int (nI td), .ref 57, .int (nI ac), .ref 58, .ref 59, .ref 60, .ref 61, .ref 62, .ref 63, .int (bI hs), .ref 64, .int (nI dfn)]) (fs' := [.int 0, .int 1, .int (if tr = 4 then pl else -1), .int ft, .int (nI mc), .ref 51, .ref (nA mc), .ref 53, .ref 54, .int (nI tl), .int sz_, .int at_, .int so_, .int pl_, .int mk_, .int nu_, .int di_, .int br_, .int iff_, .long wo_, .ref 55, .ref 56, .int (nI dc), .int (nI td), .ref 57, .int (nI ac), .ref 58, .ref 59, .ref 60, .ref 61, .ref 62, .ref 63, .int (bI hs), .ref 64, .int (nI dfn)]) flX11_74 (by exact bU_s _ _ _) (Nat.le_of_ble_eq_true rfl) (bNf_i _) rfl dX11_again_27 ?_
      refine bV_h (f2 := bU f 50 (.inr (11, [.int 0, .int 1, .int (if tr = 4 then pl else -1), .int ft, .int (nI mc), .ref 51, .ref (nA mc), .ref 53, .ref 54, .int (nI tl), .int sz_, .int at_, .int so_, .int pl_, .int mk_, .int nu_, .int di_, .int br_, .int iff_, .long wo_, .ref 55, .ref 56, .int (nI dc), .int (nI td), .ref 57, .int (nI ac), .ref 58, .ref 59, .ref 60, .ref 61, .ref 62, .ref 63, .int (bI hs), .ref 64, .int (nI dfn)]))) (bU_u _ _ _ _) ?_
      refine r_aload_n (n := 0) (i := 0) 0 rfl rfl dX11_again_30 ?_
      refine r_iconst (v := (-1)) (by decide) dX11_again_31 ?_
      refine p_put (fs := [.int 0, .int 1, .int (if tr = 4 then pl else -1), .int ft, .int (nI mc), .ref 51, .ref (nA mc), .ref 53, .ref 54, .int (nI tl), .int sz_, .int at_, .int so_, .int pl_, .int mk_, .int nu_, .int di_, .int br_, .int iff_, .long wo_, .ref 55, .ref 56, .int (nI dc), .int (nI td), .ref 57, .int (nI ac), .ref 58, .ref 59, .ref 60, .ref 61, .ref 62, .ref 63, .int (bI hs), .ref 64, .int (nI dfn)]) (fs' := [.int 0, .int 1, .int (-1), .int ft, .int (nI mc), .ref 51, .ref (nA mc), .ref 53, .ref 54, .int (nI tl), .int sz_, .int at_, .int so_, .int pl_, .int mk_, .int nu_, .int di_, .int br_, .int iff_, .long wo_, .ref 55, .ref 56, .int (nI dc), .int (nI td), .ref 57, .int (nI ac), .ref 58, .ref 59, .ref 60, .ref 61, .ref 62, .ref 63, .int (bI hs), .ref 64, .int (nI dfn)]) flX11_11 (by exact bU_s _ _ _) (Nat.le_of_ble_eq_true rfl) (bNf_i _) rfl dX11_again_32 ?_
      refine bV_h (f2 := bU f 50 (.inr (11, [.int 0, .int 1, .int (-1), .int ft, .int (nI mc), .ref 51, .ref (nA mc), .ref 53, .ref 54, .int (nI tl), .int sz_, .int at_, .int so_, .int pl_, .int mk_, .int nu_, .int di_, .int br_, .int iff_, .long wo_, .ref 55, .ref 56, .int (nI dc), .int (nI td), .ref 57, .int (nI ac), .ref 58, .ref 59, .ref 60, .ref 61, .ref 62, .ref 63, .int (bI hs), .ref 64, .int (nI dfn)]))) (bU_u _ _ _ _) ?_
      refine r_aload_n (n := 0) (i := 0) 0 rfl rfl dX11_again_35 ?_
      refine p_get (fs := [.int 0, .int 1, .int (-1), .int ft, .int (nI mc), .ref 51, .ref (nA mc), .ref 53, .ref 54, .int (nI tl), .int sz_, .int at_, .int so_, .int pl_, .int mk_, .int nu_, .int di_, .int br_, .int iff_, .long wo_, .ref 55, .ref 56, .int (nI dc), .int (nI td), .ref 57, .int (nI ac), .ref 58, .ref 59, .ref 60, .ref 61, .ref 62, .ref 63, .int (bI hs), .ref 64, .int (nI dfn)]) flX11_74 (by exact bU_s _ _ _) rfl dX11_again_36 ?_
      refine r_if_ne (tgt := 58) (by decide) dX11_again_39 (fun _ => ?_) (fun h9 => absurd h9 (show ¬ (1 : Int32) = 0 by decide))
      refine r_ldcw ckX11_266 dX11_again_58 ?_
      refine r_ireturn rfl dX11_again_61 ?_
      all_goals (unfold s_again; try simp only [])
      all_goals try (first | simp only [if_pos c11] | simp only [if_neg c11] | simp only [if_neg (Bool.eq_false_iff.mp c11)])
      all_goals try (first | simp only [if_pos c19] | simp only [if_neg c19] | simp only [if_neg (Bool.eq_false_iff.mp c19)])
      all_goals try simp only [cl_nI (show i9 < 2 ^ 31 by omega)]
      all_goals exact pM_mk (NS_mk (by exact bU_s _ _ _) (by first | rfl | exact (if_neg (by decide)).symm | exact (if_pos rfl).symm)) (hT.fr (fun q _ _ => (bU_n (by omega)).trans (rfl))) (hM.fr j1 (fun q _ => (bU_n (by omega)).trans (rfl))) (hI.fr ((bU_n (by decide)).trans (rfl))) (hP.fr ((bU_n (by decide)).trans (rfl))) (hD.fr j2 (fun q _ => (bU_n (by omega)).trans (rfl))) (hA.fr (fun q _ _ => (bU_n (by omega)).trans (rfl))) (hC.fr ((bU_n (by decide)).trans (rfl))) (hF.fr ((bU_n (by decide)).trans (rfl))) (fun q _ => (bU_n (by omega)).trans (rfl)) (by omega) (by omega)
    · have c19 := bI_1.mp c19
      refine r_iconst (v := 0) (by decide) dX11_again_22 ?_
      refine r_goto (tgt := 27) (by decide) dX11_again_23 ?_
      refine p_put (fs := [.int 0, .int tr, .int (if tr = 4 then pl else -1), .int ft, .int (nI mc), .ref 51, .ref (nA mc), .ref 53, .ref 54, .int (nI tl), .int sz_, .int at_, .int so_, .int pl_, .int mk_, .int nu_, .int di_, .int br_, .int iff_, .long wo_, .ref 55, .ref 56, .int (nI dc), .int (nI td), .ref 57, .int (nI ac), .ref 58, .ref 59, .ref 60, .ref 61, .ref 62, .ref 63, .int (bI hs), .ref 64, .int (nI dfn)]) (fs' := [.int 0, .int 0, .int (if tr = 4 then pl else -1), .int ft, .int (nI mc), .ref 51, .ref (nA mc), .ref 53, .ref 54, .int (nI tl), .int sz_, .int at_, .int so_, .int pl_, .int mk_, .int nu_, .int di_, .int br_, .int iff_, .long wo_, .ref 55, .ref 56, .int (nI dc), .int (nI td), .ref 57, .int (nI ac), .ref 58, .ref 59, .ref 60, .ref 61, .ref 62, .ref 63, .int (bI hs), .ref 64, .int (nI dfn)]) flX11_74 (by exact bU_s _ _ _) (Nat.le_of_ble_eq_true rfl) (bNf_i _) rfl dX11_again_27 ?_
      refine bV_h (f2 := bU f 50 (.inr (11, [.int 0, .int 0, .int (if tr = 4 then pl else -1), .int ft, .int (nI mc), .ref 51, .ref (nA mc), .ref 53, .ref 54, .int (nI tl), .int sz_, .int at_, .int so_, .int pl_, .int mk_, .int nu_, .int di_, .int br_, .int iff_, .long wo_, .ref 55, .ref 56, .int (nI dc), .int (nI td), .ref 57, .int (nI ac), .ref 58, .ref 59, .ref 60, .ref 61, .ref 62, .ref 63, .int (bI hs), .ref 64, .int (nI dfn)]))) (bU_u _ _ _ _) ?_
      refine r_aload_n (n := 0) (i := 0) 0 rfl rfl dX11_again_30 ?_
      refine r_iconst (v := (-1)) (by decide) dX11_again_31 ?_
      refine p_put (fs := [.int 0, .int 0, .int (if tr = 4 then pl else -1), .int ft, .int (nI mc), .ref 51, .ref (nA mc), .ref 53, .ref 54, .int (nI tl), .int sz_, .int at_, .int so_, .int pl_, .int mk_, .int nu_, .int di_, .int br_, .int iff_, .long wo_, .ref 55, .ref 56, .int (nI dc), .int (nI td), .ref 57, .int (nI ac), .ref 58, .ref 59, .ref 60, .ref 61, .ref 62, .ref 63, .int (bI hs), .ref 64, .int (nI dfn)]) (fs' := [.int 0, .int 0, .int (-1), .int ft, .int (nI mc), .ref 51, .ref (nA mc), .ref 53, .ref 54, .int (nI tl), .int sz_, .int at_, .int so_, .int pl_, .int mk_, .int nu_, .int di_, .int br_, .int iff_, .long wo_, .ref 55, .ref 56, .int (nI dc), .int (nI td), .ref 57, .int (nI ac), .ref 58, .ref 59, .ref 60, .ref 61, .ref 62, .ref 63, .int (bI hs), .ref 64, .int (nI dfn)]) flX11_11 (by exact bU_s _ _ _) (Nat.le_of_ble_eq_true rfl) (bNf_i _) rfl dX11_again_32 ?_
      refine bV_h (f2 := bU f 50 (.inr (11, [.int 0, .int 0, .int (-1), .int ft, .int (nI mc), .ref 51, .ref (nA mc), .ref 53, .ref 54, .int (nI tl), .int sz_, .int at_, .int so_, .int pl_, .int mk_, .int nu_, .int di_, .int br_, .int iff_, .long wo_, .ref 55, .ref 56, .int (nI dc), .int (nI td), .ref 57, .int (nI ac), .ref 58, .ref 59, .ref 60, .ref 61, .ref 62, .ref 63, .int (bI hs), .ref 64, .int (nI dfn)]))) (bU_u _ _ _ _) ?_
      refine r_aload_n (n := 0) (i := 0) 0 rfl rfl dX11_again_35 ?_
      refine p_get (fs := [.int 0, .int 0, .int (-1), .int ft, .int (nI mc), .ref 51, .ref (nA mc), .ref 53, .ref 54, .int (nI tl), .int sz_, .int at_, .int so_, .int pl_, .int mk_, .int nu_, .int di_, .int br_, .int iff_, .long wo_, .ref 55, .ref 56, .int (nI dc), .int (nI td), .ref 57, .int (nI ac), .ref 58, .ref 59, .ref 60, .ref 61, .ref 62, .ref 63, .int (bI hs), .ref 64, .int (nI dfn)]) flX11_74 (by exact bU_s _ _ _) rfl dX11_again_36 ?_
      refine r_if_ne (tgt := 58) (by decide) dX11_again_39 (fun h9 => absurd h9 (show ¬ (¬ (0 : Int32) = 0) by decide)) (fun _ => ?_)
      refine r_aload_n (n := 0) (i := 0) 0 rfl rfl dX11_again_42 ?_
      refine r_iload_n (n := 2) (i := 2) 2 rfl rfl dX11_again_43 ?_
      refine r_aload_n (n := 0) (i := 0) 0 rfl rfl dX11_again_44 ?_
      refine p_get (fs := [.int 0, .int 0, .int (-1), .int ft, .int (nI mc), .ref 51, .ref (nA mc), .ref 53, .ref 54, .int (nI tl), .int sz_, .int at_, .int so_, .int pl_, .int mk_, .int nu_, .int di_, .int br_, .int iff_, .long wo_, .ref 55, .ref 56, .int (nI dc), .int (nI td), .ref 57, .int (nI ac), .ref 58, .ref 59, .ref 60, .ref 61, .ref 62, .ref 63, .int (bI hs), .ref 64, .int (nI dfn)]) flX11_53 (by exact bU_s _ _ _) rfl dX11_again_45 ?_
      refine r_bipush (v := 6) (by decide) dX11_again_48 ?_
      refine r_iload_n (n := 1) (i := 1) 1 rfl rfl dX11_again_50 ?_
      refine r_imulE (v := nI (6 * i9)) (pk_mul 6 i9) dX11_again_51 ?_
      refine p_callV (As := [.int m, .ref 59, .int (nI (6 * i9))]) (rest := []) (kX11_tells (O := O) (d := 3) (f := bU f 50 (.inr (11, [.int 0, .int 0, .int (-1), .int ft, .int (nI mc), .ref 51, .ref (nA mc), .ref 53, .ref 54, .int (nI tl), .int sz_, .int at_, .int so_, .int pl_, .int mk_, .int nu_, .int di_, .int br_, .int iff_, .long wo_, .ref 55, .ref 56, .int (nI dc), .int (nI td), .ref 57, .int (nI ac), .ref 58, .ref 59, .ref 60, .ref 61, .ref 62, .ref 63, .int (bI hs), .ref 64, .int (nI dfn)]))) (n := n) (s := s) (mc := mc) (md := md) (o := 6 * i9) (ip := a_in (an i9)) (by exact bU_s _ _ _) (by exact ((bU_n (by decide)).trans (h59))) (by exact ((bU_n (by decide)).trans (h56))) (hM.fr j1 (fun q _ => (bU_n (by omega)).trans (rfl))) j1 c19 (j7 _ (inB_lt c19)) (fun k hk => (hAp i9 hi9).2.2.2.2.2.2.1 k hk) (j10 i9 hi9).2 (by omega) (by omega) (by decide) (Nat.le_refl _)) rfl lkX11_262 imX11_tells seX11_tells rfl (by exact bU_s _ _ _) rfl rfl (by omega) (Nat.le_of_ble_eq_true rfl) dX11_again_52 (fun v9 G9 h9 => ?_) (fun q9 G9 h9 => (by cases h9.1))
      obtain ⟨h8, g52, rfl⟩ := h9; cases h8
      show bV O _ d 55 [(0, .ref 50), (1, .int (nI i9)), (2, .int m)] [.int (vl (md (cl m)).1 (a_in (an i9)))] (bU (bU f 50 (.inr (11, [.int 0, .int 0, .int (-1), .int ft, .int (nI mc), .ref 51, .ref (nA mc), .ref 53, .ref 54, .int (nI tl), .int sz_, .int at_, .int so_, .int pl_, .int mk_, .int nu_, .int di_, .int br_, .int iff_, .long wo_, .ref 55, .ref 56, .int (nI dc), .int (nI td), .ref 57, .int (nI ac), .ref 58, .ref 59, .ref 60, .ref 61, .ref 62, .ref 63, .int (bI hs), .ref 64, .int (nI dfn)]))) 56 (.inl (0, 122, .inl g52)), n, s) _
      refine r_goto (tgt := 61) (by decide) dX11_again_55 ?_
      refine r_ireturn rfl dX11_again_61 ?_
      all_goals (unfold s_again; try simp only [])
      all_goals try (first | simp only [if_pos c11] | simp only [if_neg c11] | simp only [if_neg (Bool.eq_false_iff.mp c11)])
      all_goals try (first | simp only [if_pos c19] | simp only [if_neg c19] | simp only [if_neg (Bool.eq_false_iff.mp c19)])
      all_goals try simp only [cl_nI (show i9 < 2 ^ 31 by omega)]
      all_goals exact pM_mk (NS_mk (by exact ((bU_n (by decide)).trans (bU_s _ _ _))) (by first | rfl | exact (if_neg (by decide)).symm | exact (if_pos rfl).symm)) (hT.fr (fun q _ _ => (bU_n (by omega)).trans ((bU_n (by omega)).trans (rfl)))) (hM.fr j1 (fun q _ => (bU_n (by omega)).trans ((bU_n (by omega)).trans (rfl)))) (hI.fr ((bU_n (by decide)).trans ((bU_n (by decide)).trans (rfl)))) (⟨_, (by exact bU_s _ _ _)⟩) (hD.fr j2 (fun q _ => (bU_n (by omega)).trans ((bU_n (by omega)).trans (rfl)))) (hA.fr (fun q _ _ => (bU_n (by omega)).trans ((bU_n (by omega)).trans (rfl)))) (hC.fr ((bU_n (by decide)).trans ((bU_n (by decide)).trans (rfl)))) (hF.fr ((bU_n (by decide)).trans ((bU_n (by decide)).trans (rfl)))) (fun q _ => (bU_n (by omega)).trans ((bU_n (by omega)).trans (rfl))) (by omega) (by omega)
set_option maxRecDepth 4000 in
theorem m_expect {O : bO} {d : Nat} {f : bF} {n s : Nat} {bs : Nat → Int32} {tl : Nat} {mc : Nat} {md : Nat → MR} {ip : Nat → Int32} {dc : Nat} {dr : Nat → DR} {ac : Nat} {an : Nat → AR} {hs : Bool} {sd : Nat → Int32} {df : Nat → Int32} {dfn : Nat} {td : Nat} {tr : Int32} {ft : Int32} {pl : Int32} {x : Int32} {k : Int32} {b : Int32} {v : Int32} (hX : MP f (bs, tl, mc, md, ip, dc, dr, ac, an, hs, sd, df, dfn, td, tr, ft, pl)) (jX : JJ (bs, tl, mc, md, ip, dc, dr, ac, an, hs, sd, df, dfn, td, tr, ft, pl))  (hd : 1 ≤ d) : bCall O mX11_expect d [.ref 50, .int x, .int k, .int b, .int v] (f, n, s) (pM f n s 0 0 (s_expect (bs, tl, mc, md, ip, dc, dr, ac, an, hs, sd, df, dfn, td, tr, ft, pl) x k b v)) := by
  refine bCall_of (by decide) rfl (Nat.le_of_ble_eq_true rfl) ?_
  obtain ⟨hNS, hT, hM, hI, hP, hD, hA, hC, hF⟩ := id hX
  simp only [] at hNS hT hM hI hP hD hA hC hF
  obtain ⟨j1, j2, j3, j4, j5, j6, j7, j8, j9, j10⟩ := id jX
  simp only [] at j1 j2 j3 j4 j5 j6 j7 j8 j9 j10
  obtain ⟨th_, sz_, at_, so_, pl_, mk_, nu_, di_, br_, iff_, wo_, hO⟩ := id hNS
  obtain ⟨tg9, kd9, sp9, h53, h54, hTb⟩ := id hT
  obtain ⟨ig9, h55, hIp⟩ := id hI
  obtain ⟨pg9, h56⟩ := id hP
  obtain ⟨kp9, aq9, bc9, br9, tu9, h58, h59, h60, h61, h62, hAp⟩ := id hA
  obtain ⟨sg9, h63, hC0, hC1, hC2, hC3, hC4⟩ := id hC
  obtain ⟨dg9, h64, hFp⟩ := id hF
  have bN := nA_b (i := mc) j1
  show bV O _ d 0 [(0, .ref 50), (1, .int x), (2, .int k), (3, .int b), (4, .int v)] [] (f, n, s) _
  refine r_aload_n (n := 0) (i := 0) 0 rfl rfl dX11_expect_0 ?_
  refine r_iconst (v := 0) (by decide) dX11_expect_1 ?_
  refine p_put (fs := [.int th_, .int tr, .int (if tr = 4 then pl else -1), .int ft, .int (nI mc), .ref 51, .ref (nA mc), .ref 53, .ref 54, .int (nI tl), .int sz_, .int at_, .int so_, .int pl_, .int mk_, .int nu_, .int di_, .int br_, .int iff_, .long wo_, .ref 55, .ref 56, .int (nI dc), .int (nI td), .ref 57, .int (nI ac), .ref 58, .ref 59, .ref 60, .ref 61, .ref 62, .ref 63, .int (bI hs), .ref 64, .int (nI dfn)]) (fs' := [.int 0, .int tr, .int (if tr = 4 then pl else -1), .int ft, .int (nI mc), .ref 51, .ref (nA mc), .ref 53, .ref 54, .int (nI tl), .int sz_, .int at_, .int so_, .int pl_, .int mk_, .int nu_, .int di_, .int br_, .int iff_, .long wo_, .ref 55, .ref 56, .int (nI dc), .int (nI td), .ref 57, .int (nI ac), .ref 58, .ref 59, .ref 60, .ref 61, .ref 62, .ref 63, .int (bI hs), .ref 64, .int (nI dfn)]) flX11_71 hO (Nat.le_of_ble_eq_true rfl) (bNf_i _) rfl dX11_expect_2 ?_
  refine r_aload_n (n := 0) (i := 0) 0 rfl rfl dX11_expect_5 ?_
  refine r_iload_n (n := 1) (i := 1) 1 rfl rfl dX11_expect_6 ?_
  refine p_callV (As := [.int x]) (rest := []) (kX11_isDoor (O := O) (d := 0) (f := bU f 50 (.inr (11, [.int 0, .int tr, .int (if tr = 4 then pl else -1), .int ft, .int (nI mc), .ref 51, .ref (nA mc), .ref 53, .ref 54, .int (nI tl), .int sz_, .int at_, .int so_, .int pl_, .int mk_, .int nu_, .int di_, .int br_, .int iff_, .long wo_, .ref 55, .ref 56, .int (nI dc), .int (nI td), .ref 57, .int (nI ac), .ref 58, .ref 59, .ref 60, .ref 61, .ref 62, .ref 63, .int (bI hs), .ref 64, .int (nI dfn)]))) (n := n) (s := s) (th_ := 0) (tr_ := tr) (wh_ := (if tr = 4 then pl else -1)) (fl_ := ft) (nm_ := nI mc) (q_ := nA mc) (tp_ := nI tl) (sz_ := sz_) (at_ := at_) (so_ := so_) (pl_ := pl_) (mk_ := mk_) (nu_ := nu_) (di_ := di_) (br_ := br_) (iff_ := iff_) (wo_ := wo_) (td_ := nI td) (na_ := nI ac) (hs_ := bI hs) (nf_ := nI dfn) (m9 := dc) (x := x) (by exact bU_s _ _ _) (by omega) (Nat.le_refl _)).call rfl lkX11_271 imX11_isDoor seX11_isDoor rfl (by exact bU_s _ _ _) rfl rfl (by omega) (Nat.le_of_ble_eq_true rfl) dX11_expect_7 (fun v9 G9 h9 => ?_) (fun q9 G9 h9 => (by cases h9.1))
  obtain ⟨h8, rfl⟩ := h9; cases h8
  show bV O _ d 10 [(0, .ref 50), (1, .int x), (2, .int k), (3, .int b), (4, .int v)] [.int (bI (inB x dc))] (bU f 50 (.inr (11, [.int 0, .int tr, .int (if tr = 4 then pl else -1), .int ft, .int (nI mc), .ref 51, .ref (nA mc), .ref 53, .ref 54, .int (nI tl), .int sz_, .int at_, .int so_, .int pl_, .int mk_, .int nu_, .int di_, .int br_, .int iff_, .long wo_, .ref 55, .ref 56, .int (nI dc), .int (nI td), .ref 57, .int (nI ac), .ref 58, .ref 59, .ref 60, .ref 61, .ref 62, .ref 63, .int (bI hs), .ref 64, .int (nI dfn)])), n, s) _
  refine r_if_eq (tgt := 31) (by decide) dX11_expect_10 (fun c10 => ?_) (fun c10 => ?_)
  · have c10 := bI_0.mp c10
    refine r_aload_n (n := 0) (i := 0) 0 rfl rfl dX11_expect_31 ?_
    refine r_iconst (v := 1) (by decide) dX11_expect_32 ?_
    refine p_callV (As := [.int 1]) (rest := []) (kX11_denied (O := O) (d := 0) (f := bU f 50 (.inr (11, [.int 0, .int tr, .int (if tr = 4 then pl else -1), .int ft, .int (nI mc), .ref 51, .ref (nA mc), .ref 53, .ref 54, .int (nI tl), .int sz_, .int at_, .int so_, .int pl_, .int mk_, .int nu_, .int di_, .int br_, .int iff_, .long wo_, .ref 55, .ref 56, .int (nI dc), .int (nI td), .ref 57, .int (nI ac), .ref 58, .ref 59, .ref 60, .ref 61, .ref 62, .ref 63, .int (bI hs), .ref 64, .int (nI dfn)]))) (n := n) (s := s) (th_ := 0) (tr_ := tr) (wh_ := (if tr = 4 then pl else -1)) (fl_ := ft) (nm_ := nI mc) (q_ := nA mc) (tp_ := nI tl) (sz_ := sz_) (at_ := at_) (so_ := so_) (pl_ := pl_) (mk_ := mk_) (nu_ := nu_) (di_ := di_) (br_ := br_) (iff_ := iff_) (wo_ := wo_) (nd_ := nI dc) (td_ := nI td) (na_ := nI ac) (hs_ := bI hs) (nf_ := nI dfn) (y := 1) (by exact bU_s _ _ _)  (Nat.le_refl _)).call rfl lkX11_228 imX11_denied seX11_denied rfl (by exact bU_s _ _ _) rfl rfl (by omega) (Nat.le_of_ble_eq_true rfl) dX11_expect_33 (fun v9 G9 h9 => ?_) (fun q9 G9 h9 => (by cases h9.1))
    obtain ⟨h8, rfl⟩ := h9; cases h8
    refine bV_h (f2 := bU f 50 (.inr (11, [.int 0, .int 1, .int (-1), .int ft, .int (nI mc), .ref 51, .ref (nA mc), .ref 53, .ref 54, .int (nI tl), .int sz_, .int at_, .int so_, .int pl_, .int mk_, .int nu_, .int di_, .int br_, .int iff_, .long wo_, .ref 55, .ref 56, .int (nI dc), .int (nI td), .ref 57, .int (nI ac), .ref 58, .ref 59, .ref 60, .ref 61, .ref 62, .ref 63, .int (bI hs), .ref 64, .int (nI dfn)]))) (bU_u _ _ _ _) ?_
    show bV O _ d 36 [(0, .ref 50), (1, .int x), (2, .int k), (3, .int b), (4, .int v)] [.int 0] (bU f 50 (.inr (11, [.int 0, .int 1, .int (-1), .int ft, .int (nI mc), .ref 51, .ref (nA mc), .ref 53, .ref 54, .int (nI tl), .int sz_, .int at_, .int so_, .int pl_, .int mk_, .int nu_, .int di_, .int br_, .int iff_, .long wo_, .ref 55, .ref 56, .int (nI dc), .int (nI td), .ref 57, .int (nI ac), .ref 58, .ref 59, .ref 60, .ref 61, .ref 62, .ref 63, .int (bI hs), .ref 64, .int (nI dfn)])), n, s) _
    refine r_zreturn rfl (by first | decide +kernel | exact narZ _ | assumption) dX11_expect_36 ?_
    all_goals (unfold s_expect; try simp only [])
    all_goals try (first | simp only [if_pos c10] | simp only [if_neg c10] | simp only [if_neg (Bool.eq_false_iff.mp c10)])
    all_goals try simp only [cl_nI (show k9 < 2 ^ 31 by omega)]
    all_goals try simp only [cl_nI (show b9 < 2 ^ 31 by omega)]
    all_goals try rw [Nat.mul_comm 4 k9]
    all_goals exact pM_mk (NS_mk (by exact bU_s _ _ _) (by first | rfl | exact (if_neg (by decide)).symm | exact (if_pos rfl).symm)) (hT.fr (fun q _ _ => (bU_n (by omega)).trans (rfl))) (hM.fr j1 (fun q _ => (bU_n (by omega)).trans (rfl))) (hI.fr ((bU_n (by decide)).trans (rfl))) (hP.fr ((bU_n (by decide)).trans (rfl))) (hD.fr j2 (fun q _ => (bU_n (by omega)).trans (rfl))) (hA.fr (fun q _ _ => (bU_n (by omega)).trans (rfl))) (hC.fr ((bU_n (by decide)).trans (rfl))) (hF.fr ((bU_n (by decide)).trans (rfl))) (fun q _ => (bU_n (by omega)).trans (rfl)) (by omega) (by omega)
  · have c10 := bI_1.mp c10
    refine r_iload_n (n := 2) (i := 2) 2 rfl rfl dX11_expect_13 ?_
    refine r_iconst (v := 0) (by decide) dX11_expect_14 ?_
    refine r_iconst (v := 5) (by decide) dX11_expect_15 ?_
    refine p_callS (As := [.int k, .int 0, .int 5]) (rest := []) (kX11_in (O := O) (d := 0) (f := bU f 50 (.inr (11, [.int 0, .int tr, .int (if tr = 4 then pl else -1), .int ft, .int (nI mc), .ref 51, .ref (nA mc), .ref 53, .ref 54, .int (nI tl), .int sz_, .int at_, .int so_, .int pl_, .int mk_, .int nu_, .int di_, .int br_, .int iff_, .long wo_, .ref 55, .ref 56, .int (nI dc), .int (nI td), .ref 57, .int (nI ac), .ref 58, .ref 59, .ref 60, .ref 61, .ref 62, .ref 63, .int (bI hs), .ref 64, .int (nI dfn)]))) (n := n) (s := s) (v := k) (lo := 0) (hi := 5)   (Nat.le_refl _)).call rfl lkX11_200 smX11_in rfl rfl (by omega) (Nat.le_of_ble_eq_true rfl) dX11_expect_16 (fun v9 G9 h9 => ?_) (fun q9 G9 h9 => (by cases h9.1))
    obtain ⟨h8, rfl⟩ := h9; cases h8
    show bV O _ d 19 [(0, .ref 50), (1, .int x), (2, .int k), (3, .int b), (4, .int v)] [.int (bI (jIn k 0 5))] (bU f 50 (.inr (11, [.int 0, .int tr, .int (if tr = 4 then pl else -1), .int ft, .int (nI mc), .ref 51, .ref (nA mc), .ref 53, .ref 54, .int (nI tl), .int sz_, .int at_, .int so_, .int pl_, .int mk_, .int nu_, .int di_, .int br_, .int iff_, .long wo_, .ref 55, .ref 56, .int (nI dc), .int (nI td), .ref 57, .int (nI ac), .ref 58, .ref 59, .ref 60, .ref 61, .ref 62, .ref 63, .int (bI hs), .ref 64, .int (nI dfn)])), n, s) _
    refine r_if_eq (tgt := 31) (by decide) dX11_expect_19 (fun c19 => ?_) (fun c19 => ?_)
    · have c19 := bI_0.mp c19
      refine r_aload_n (n := 0) (i := 0) 0 rfl rfl dX11_expect_31 ?_
      refine r_iconst (v := 1) (by decide) dX11_expect_32 ?_
      refine p_callV (As := [.int 1]) (rest := []) (kX11_denied (O := O) (d := 0) (f := bU f 50 (.inr (11, [.int 0, .int tr, .int (if tr = 4 then pl else -1), .int ft, .int (nI mc), .ref 51, .ref (nA mc), .ref 53, .ref 54, .int (nI tl), .int sz_, .int at_, .int so_, .int pl_, .int mk_, .int nu_, .int di_, .int br_, .int iff_, .long wo_, .ref 55, .ref 56, .int (nI dc), .int (nI td), .ref 57, .int (nI ac), .ref 58, .ref 59, .ref 60, .ref 61, .ref 62, .ref 63, .int (bI hs), .ref 64, .int (nI dfn)]))) (n := n) (s := s) (th_ := 0) (tr_ := tr) (wh_ := (if tr = 4 then pl else -1)) (fl_ := ft) (nm_ := nI mc) (q_ := nA mc) (tp_ := nI tl) (sz_ := sz_) (at_ := at_) (so_ := so_) (pl_ := pl_) (mk_ := mk_) (nu_ := nu_) (di_ := di_) (br_ := br_) (iff_ := iff_) (wo_ := wo_) (nd_ := nI dc) (td_ := nI td) (na_ := nI ac) (hs_ := bI hs) (nf_ := nI dfn) (y := 1) (by exact bU_s _ _ _)  (Nat.le_refl _)).call rfl lkX11_228 imX11_denied seX11_denied rfl (by exact bU_s _ _ _) rfl rfl (by omega) (Nat.le_of_ble_eq_true rfl) dX11_expect_33 (fun v9 G9 h9 => ?_) (fun q9 G9 h9 => (by cases h9.1))
      obtain ⟨h8, rfl⟩ := h9; cases h8
      refine bV_h (f2 := bU f 50 (.inr (11, [.int 0, .int 1, .int (-1), .int ft, .int (nI mc), .ref 51, .ref (nA mc), .ref 53, .ref 54, .int (nI tl), .int sz_, .int at_, .int so_, .int pl_, .int mk_, .int nu_, .int di_, .int br_, .int iff_, .long wo_, .ref 55, .ref 56, .int (nI dc), .int (nI td), .ref 57, .int (nI ac), .ref 58, .ref 59, .ref 60, .ref 61, .ref 62, .ref 63, .int (bI hs), .ref 64, .int (nI dfn)]))) (bU_u _ _ _ _) ?_
      show bV O _ d 36 [(0, .ref 50), (1, .int x), (2, .int k), (3, .int b), (4, .int v)] [.int 0] (bU f 50 (.inr (11, [.int 0, .int 1, .int (-1), .int ft, .int (nI mc), .ref 51, .ref (nA mc), .ref 53, .ref 54, .int (nI tl), .int sz_, .int at_, .int so_, .int pl_, .int mk_, .int nu_, .int di_, .int br_, .int iff_, .long wo_, .ref 55, .ref 56, .int (nI dc), .int (nI td), .ref 57, .int (nI ac), .ref 58, .ref 59, .ref 60, .ref 61, .ref 62, .ref 63, .int (bI hs), .ref 64, .int (nI dfn)])), n, s) _
      refine r_zreturn rfl (by first | decide +kernel | exact narZ _ | assumption) dX11_expect_36 ?_
      all_goals have a19 := jBin_f1 (b := b) c19
      all_goals (unfold s_expect; try simp only [])
      all_goals try (first | simp only [if_pos c10] | simp only [if_neg c10] | simp only [if_neg (Bool.eq_false_iff.mp c10)])
      all_goals try (first | simp only [if_pos c19] | simp only [if_neg c19] | simp only [if_neg (Bool.eq_false_iff.mp c19)])
      all_goals try (first | simp only [if_pos a19] | simp only [if_neg a19] | simp only [if_neg (Bool.eq_false_iff.mp a19)])
      all_goals try simp only [cl_nI (show k9 < 2 ^ 31 by omega)]
      all_goals try simp only [cl_nI (show b9 < 2 ^ 31 by omega)]
      all_goals try rw [Nat.mul_comm 4 k9]
      all_goals exact pM_mk (NS_mk (by exact bU_s _ _ _) (by first | rfl | exact (if_neg (by decide)).symm | exact (if_pos rfl).symm)) (hT.fr (fun q _ _ => (bU_n (by omega)).trans (rfl))) (hM.fr j1 (fun q _ => (bU_n (by omega)).trans (rfl))) (hI.fr ((bU_n (by decide)).trans (rfl))) (hP.fr ((bU_n (by decide)).trans (rfl))) (hD.fr j2 (fun q _ => (bU_n (by omega)).trans (rfl))) (hA.fr (fun q _ _ => (bU_n (by omega)).trans (rfl))) (hC.fr ((bU_n (by decide)).trans (rfl))) (hF.fr ((bU_n (by decide)).trans (rfl))) (fun q _ => (bU_n (by omega)).trans (rfl)) (by omega) (by omega)
    · have c19 := bI_1.mp c19
      obtain ⟨k9, hk9, rfl⟩ := jIn_k (n := 6) c19 (by decide) (by decide)
      refine r_iload_n (n := 3) (i := 3) 3 rfl rfl dX11_expect_22 ?_
      refine r_iconst (v := 0) (by decide) dX11_expect_23 ?_
      refine r_iconst (v := 3) (by decide) dX11_expect_24 ?_
      refine p_callS (As := [.int b, .int 0, .int 3]) (rest := []) (kX11_in (O := O) (d := 0) (f := bU f 50 (.inr (11, [.int 0, .int tr, .int (if tr = 4 then pl else -1), .int ft, .int (nI mc), .ref 51, .ref (nA mc), .ref 53, .ref 54, .int (nI tl), .int sz_, .int at_, .int so_, .int pl_, .int mk_, .int nu_, .int di_, .int br_, .int iff_, .long wo_, .ref 55, .ref 56, .int (nI dc), .int (nI td), .ref 57, .int (nI ac), .ref 58, .ref 59, .ref 60, .ref 61, .ref 62, .ref 63, .int (bI hs), .ref 64, .int (nI dfn)]))) (n := n) (s := s) (v := b) (lo := 0) (hi := 3)   (Nat.le_refl _)).call rfl lkX11_200 smX11_in rfl rfl (by omega) (Nat.le_of_ble_eq_true rfl) dX11_expect_25 (fun v9 G9 h9 => ?_) (fun q9 G9 h9 => (by cases h9.1))
      obtain ⟨h8, rfl⟩ := h9; cases h8
      show bV O _ d 28 [(0, .ref 50), (1, .int x), (2, .int (nI k9)), (3, .int b), (4, .int v)] [.int (bI (jIn b 0 3))] (bU f 50 (.inr (11, [.int 0, .int tr, .int (if tr = 4 then pl else -1), .int ft, .int (nI mc), .ref 51, .ref (nA mc), .ref 53, .ref 54, .int (nI tl), .int sz_, .int at_, .int so_, .int pl_, .int mk_, .int nu_, .int di_, .int br_, .int iff_, .long wo_, .ref 55, .ref 56, .int (nI dc), .int (nI td), .ref 57, .int (nI ac), .ref 58, .ref 59, .ref 60, .ref 61, .ref 62, .ref 63, .int (bI hs), .ref 64, .int (nI dfn)])), n, s) _
      refine r_if_ne (tgt := 37) (by decide) dX11_expect_28 (fun c28 => ?_) (fun c28 => ?_)
      · have c28 := bI_1.mp c28
        obtain ⟨b9, hb9, rfl⟩ := jIn_k (n := 4) c28 (by decide) (by decide)
        refine r_iload (i := 4) 4 rfl dX11_expect_37 ?_
        refine r_iconst (v := 0) (by decide) dX11_expect_39 ?_
        refine r_sipush (v := 1000) (by decide) dX11_expect_40 ?_
        refine p_callS (As := [.int v, .int 0, .int 1000]) (rest := []) (kX11_in (O := O) (d := 0) (f := bU f 50 (.inr (11, [.int 0, .int tr, .int (if tr = 4 then pl else -1), .int ft, .int (nI mc), .ref 51, .ref (nA mc), .ref 53, .ref 54, .int (nI tl), .int sz_, .int at_, .int so_, .int pl_, .int mk_, .int nu_, .int di_, .int br_, .int iff_, .long wo_, .ref 55, .ref 56, .int (nI dc), .int (nI td), .ref 57, .int (nI ac), .ref 58, .ref 59, .ref 60, .ref 61, .ref 62, .ref 63, .int (bI hs), .ref 64, .int (nI dfn)]))) (n := n) (s := s) (v := v) (lo := 0) (hi := 1000)   (Nat.le_refl _)).call rfl lkX11_200 smX11_in rfl rfl (by omega) (Nat.le_of_ble_eq_true rfl) dX11_expect_43 (fun v9 G9 h9 => ?_) (fun q9 G9 h9 => (by cases h9.1))
        obtain ⟨h8, rfl⟩ := h9; cases h8
        show bV O _ d 46 [(0, .ref 50), (1, .int x), (2, .int (nI k9)), (3, .int (nI b9)), (4, .int v)] [.int (bI (jIn v 0 1000))] (bU f 50 (.inr (11, [.int 0, .int tr, .int (if tr = 4 then pl else -1), .int ft, .int (nI mc), .ref 51, .ref (nA mc), .ref 53, .ref 54, .int (nI tl), .int sz_, .int at_, .int so_, .int pl_, .int mk_, .int nu_, .int di_, .int br_, .int iff_, .long wo_, .ref 55, .ref 56, .int (nI dc), .int (nI td), .ref 57, .int (nI ac), .ref 58, .ref 59, .ref 60, .ref 61, .ref 62, .ref 63, .int (bI hs), .ref 64, .int (nI dfn)])), n, s) _
        refine r_if_ne (tgt := 55) (by decide) dX11_expect_46 (fun c46 => ?_) (fun c46 => ?_)
        · have c46 := bI_1.mp c46
          refine r_aload_n (n := 0) (i := 0) 0 rfl rfl dX11_expect_55 ?_
          refine p_get (fs := [.int 0, .int tr, .int (if tr = 4 then pl else -1), .int ft, .int (nI mc), .ref 51, .ref (nA mc), .ref 53, .ref 54, .int (nI tl), .int sz_, .int at_, .int so_, .int pl_, .int mk_, .int nu_, .int di_, .int br_, .int iff_, .long wo_, .ref 55, .ref 56, .int (nI dc), .int (nI td), .ref 57, .int (nI ac), .ref 58, .ref 59, .ref 60, .ref 61, .ref 62, .ref 63, .int (bI hs), .ref 64, .int (nI dfn)]) flX11_46 (by exact bU_s _ _ _) rfl dX11_expect_56 ?_
          refine r_iload_n (n := 1) (i := 1) 1 rfl rfl dX11_expect_59 ?_
          refine p_aald (kd := 7) rfl (by exact ((bU_n (by decide)).trans (hD.1))) (vpx c10 j2 (by decide)) dX11_expect_60 ?_
          rw [tab_in c10]
          obtain ⟨lo9, hi9, fm9, dy9, tl9, d0, d1, d2, d3, d4, d5, e1, e2, e3, e4, e5⟩ := hD.2.1 _ (inB_lt c10)
          have bE := eA_b (i := cl x) (by have := inB_lt c10; omega)
          have hfc : d_fc (dr (cl x)) ≤ 20 := (j9 _ (inB_lt c10)).2.1.1
          show bV O _ d 61 [(0, .ref 50), (1, .int x), (2, .int (nI k9)), (3, .int (nI b9)), (4, .int v)] [.ref (eA (cl x))] (bU f 50 (.inr (11, [.int 0, .int tr, .int (if tr = 4 then pl else -1), .int ft, .int (nI mc), .ref 51, .ref (nA mc), .ref 53, .ref 54, .int (nI tl), .int sz_, .int at_, .int so_, .int pl_, .int mk_, .int nu_, .int di_, .int br_, .int iff_, .long wo_, .ref 55, .ref 56, .int (nI dc), .int (nI td), .ref 57, .int (nI ac), .ref 58, .ref 59, .ref 60, .ref 61, .ref 62, .ref 63, .int (bI hs), .ref 64, .int (nI dfn)])), n, s) _
          refine p_get (fs := [.int (d_ch (dr (cl x))), .int (d_rv (dr (cl x))), .int (d_sh (dr (cl x))), .int (d_rf (dr (cl x))), .int (nI (d_fc (dr (cl x)))), .int (d_kp (dr (cl x))), .ref ((eA (cl x)) + 1), .ref ((eA (cl x)) + 2), .ref ((eA (cl x)) + 3), .ref ((eA (cl x)) + 4), .ref ((eA (cl x)) + 5)]) flX11_332 (by exact ((bU_n (by omega)).trans (d0))) rfl dX11_expect_61 ?_
          refine r_iconst (v := 4) (by decide) dX11_expect_64 ?_
          refine r_iload_n (n := 2) (i := 2) 2 rfl rfl dX11_expect_65 ?_
          refine r_imulE (v := nI (4 * k9)) (pk_mul 4 k9) dX11_expect_66 ?_
          refine r_iload_n (n := 3) (i := 3) 3 rfl rfl dX11_expect_67 ?_
          refine r_iaddE (v := nI (4 * k9 + b9)) (nI_add (4 * k9) b9) dX11_expect_68 ?_
          refine r_iload (i := 4) 4 rfl dX11_expect_69 ?_
          refine p_iastN (t := 4 * k9 + b9) (by exact ((bU_n (by omega)).trans (d5))) (by omega) (by omega) dX11_expect_71 ?_
          refine r_aload_n (n := 0) (i := 0) 0 rfl rfl dX11_expect_72 ?_
          refine p_callV (As := []) (rest := []) (kX11_granted (O := O) (d := 0) (f := bU (bU f 50 (.inr (11, [.int 0, .int tr, .int (if tr = 4 then pl else -1), .int ft, .int (nI mc), .ref 51, .ref (nA mc), .ref 53, .ref 54, .int (nI tl), .int sz_, .int at_, .int so_, .int pl_, .int mk_, .int nu_, .int di_, .int br_, .int iff_, .long wo_, .ref 55, .ref 56, .int (nI dc), .int (nI td), .ref 57, .int (nI ac), .ref 58, .ref 59, .ref 60, .ref 61, .ref 62, .ref 63, .int (bI hs), .ref 64, .int (nI dfn)]))) ((eA (cl x)) + 5) (.inl (0, 24, .inl (upd tl9 (4 * k9 + b9) v)))) (n := n) (s := s) (th_ := 0) (tr_ := tr) (wh_ := (if tr = 4 then pl else -1)) (fl_ := ft) (nm_ := nI mc) (q_ := nA mc) (tp_ := nI tl) (sz_ := sz_) (at_ := at_) (so_ := so_) (pl_ := pl_) (mk_ := mk_) (nu_ := nu_) (di_ := di_) (br_ := br_) (iff_ := iff_) (wo_ := wo_) (nd_ := nI dc) (td_ := nI td) (na_ := nI ac) (hs_ := bI hs) (nf_ := nI dfn) (by exact ((bU_n (by omega)).trans (bU_s _ _ _)))  (Nat.le_refl _)).call rfl lkX11_231 imX11_granted seX11_granted rfl (by exact ((bU_n (by omega)).trans (bU_s _ _ _))) rfl rfl (by omega) (Nat.le_of_ble_eq_true rfl) dX11_expect_73 (fun v9 G9 h9 => ?_) (fun q9 G9 h9 => (by cases h9.1))
          obtain ⟨h8, rfl⟩ := h9; cases h8
          refine bV_h (f2 := bU (bU f 50 (.inr (11, [.int 0, .int 0, .int (-1), .int ft, .int (nI mc), .ref 51, .ref (nA mc), .ref 53, .ref 54, .int (nI tl), .int sz_, .int at_, .int so_, .int pl_, .int mk_, .int nu_, .int di_, .int br_, .int iff_, .long wo_, .ref 55, .ref 56, .int (nI dc), .int (nI td), .ref 57, .int (nI ac), .ref 58, .ref 59, .ref 60, .ref 61, .ref 62, .ref 63, .int (bI hs), .ref 64, .int (nI dfn)]))) ((eA (cl x)) + 5) (.inl (0, 24, .inl (upd tl9 (4 * k9 + b9) v)))) (((bU_c (by omega)).trans (congrArg (fun z => bU z ((eA (cl x)) + 5) (.inl (0, 24, .inl (upd tl9 (4 * k9 + b9) v)))) (bU_u _ _ _ _)))) ?_
          show bV O _ d 76 [(0, .ref 50), (1, .int x), (2, .int (nI k9)), (3, .int (nI b9)), (4, .int v)] [.int 1] (bU (bU f 50 (.inr (11, [.int 0, .int 0, .int (-1), .int ft, .int (nI mc), .ref 51, .ref (nA mc), .ref 53, .ref 54, .int (nI tl), .int sz_, .int at_, .int so_, .int pl_, .int mk_, .int nu_, .int di_, .int br_, .int iff_, .long wo_, .ref 55, .ref 56, .int (nI dc), .int (nI td), .ref 57, .int (nI ac), .ref 58, .ref 59, .ref 60, .ref 61, .ref 62, .ref 63, .int (bI hs), .ref 64, .int (nI dfn)]))) ((eA (cl x)) + 5) (.inl (0, 24, .inl (upd tl9 (4 * k9 + b9) v))), n, s) _
          refine r_zreturn rfl (by first | decide +kernel | exact narZ _ | assumption) dX11_expect_76 ?_
          all_goals have a28 := jBin_t hk9 hb9
          all_goals have a46 : ¬ v < 0 := (by have m1 : (0 : Int32).toInt = 0 := (by decide); have m2 : (1000 : Int32).toInt = 1000 := (by decide); have h := jIn_t c46; rw [Int32.lt_iff_toInt_lt]; omega)
          all_goals have b46 : v ≤ 1000 := (by have m1 : (0 : Int32).toInt = 0 := (by decide); have m2 : (1000 : Int32).toInt = 1000 := (by decide); have h := jIn_t c46; rw [Int32.le_iff_toInt_le]; omega)
          all_goals (unfold s_expect; try simp only [])
          all_goals try (first | simp only [if_pos c10] | simp only [if_neg c10] | simp only [if_neg (Bool.eq_false_iff.mp c10)])
          all_goals try (first | simp only [if_pos c19] | simp only [if_neg c19] | simp only [if_neg (Bool.eq_false_iff.mp c19)])
          all_goals try (first | simp only [if_pos c28] | simp only [if_neg c28] | simp only [if_neg (Bool.eq_false_iff.mp c28)])
          all_goals try (first | simp only [if_pos c46] | simp only [if_neg c46] | simp only [if_neg (Bool.eq_false_iff.mp c46)])
          all_goals try (first | simp only [if_pos a28] | simp only [if_neg a28] | simp only [if_neg (Bool.eq_false_iff.mp a28)])
          all_goals try (first | simp only [if_pos a46] | simp only [if_neg a46] | simp only [if_neg (Bool.eq_false_iff.mp a46)])
          all_goals try (first | simp only [if_pos b46] | simp only [if_neg b46] | simp only [if_neg (Bool.eq_false_iff.mp b46)])
          all_goals try simp only [cl_nI (show k9 < 2 ^ 31 by omega)]
          all_goals try simp only [cl_nI (show b9 < 2 ^ 31 by omega)]
          all_goals try rw [Nat.mul_comm 4 k9]
          all_goals exact pM_mk (NS_mk (by exact ((bU_n (by omega)).trans (bU_s _ _ _))) (by first | rfl | exact (if_neg (by decide)).symm | exact (if_pos rfl).symm)) (hT.fr (fun q _ _ => (bU_n (by omega)).trans ((bU_n (by omega)).trans (rfl)))) (hM.fr j1 (fun q _ => (bU_n (by omega)).trans ((bU_n (by omega)).trans (rfl)))) (hI.fr ((bU_n (by omega)).trans ((bU_n (by decide)).trans (rfl)))) (hP.fr ((bU_n (by omega)).trans ((bU_n (by decide)).trans (rfl)))) (hD.put j2 (inB_lt c10) ⟨_, _, _, _, _, (by exact ((bU_n (by omega)).trans (((bU_n (by omega)).trans (d0))))), (by exact ((bU_n (by omega)).trans (((bU_n (by omega)).trans (d1))))), (by exact ((bU_n (by omega)).trans (((bU_n (by omega)).trans (d2))))), (by exact ((bU_n (by omega)).trans (((bU_n (by omega)).trans (d3))))), (by exact ((bU_n (by omega)).trans (((bU_n (by omega)).trans (d4))))), (by exact bU_s _ _ _), e1, e2, e3, e4, upd_pw e5⟩ (fun q _ => (bU_n (by omega)).trans ((bU_n (by omega)).trans (rfl)))) (hA.fr (fun q _ _ => (bU_n (by omega)).trans ((bU_n (by omega)).trans (rfl)))) (hC.fr ((bU_n (by omega)).trans ((bU_n (by decide)).trans (rfl)))) (hF.fr ((bU_n (by omega)).trans ((bU_n (by decide)).trans (rfl)))) (fun q _ => (bU_n (by omega)).trans ((bU_n (by omega)).trans (rfl))) (by omega) (by omega)
        · have c46 := bI_0.mp c46
          refine r_aload_n (n := 0) (i := 0) 0 rfl rfl dX11_expect_49 ?_
          refine r_iconst (v := 2) (by decide) dX11_expect_50 ?_
          refine p_callV (As := [.int 2]) (rest := []) (kX11_denied (O := O) (d := 0) (f := bU f 50 (.inr (11, [.int 0, .int tr, .int (if tr = 4 then pl else -1), .int ft, .int (nI mc), .ref 51, .ref (nA mc), .ref 53, .ref 54, .int (nI tl), .int sz_, .int at_, .int so_, .int pl_, .int mk_, .int nu_, .int di_, .int br_, .int iff_, .long wo_, .ref 55, .ref 56, .int (nI dc), .int (nI td), .ref 57, .int (nI ac), .ref 58, .ref 59, .ref 60, .ref 61, .ref 62, .ref 63, .int (bI hs), .ref 64, .int (nI dfn)]))) (n := n) (s := s) (th_ := 0) (tr_ := tr) (wh_ := (if tr = 4 then pl else -1)) (fl_ := ft) (nm_ := nI mc) (q_ := nA mc) (tp_ := nI tl) (sz_ := sz_) (at_ := at_) (so_ := so_) (pl_ := pl_) (mk_ := mk_) (nu_ := nu_) (di_ := di_) (br_ := br_) (iff_ := iff_) (wo_ := wo_) (nd_ := nI dc) (td_ := nI td) (na_ := nI ac) (hs_ := bI hs) (nf_ := nI dfn) (y := 2) (by exact bU_s _ _ _)  (Nat.le_refl _)).call rfl lkX11_228 imX11_denied seX11_denied rfl (by exact bU_s _ _ _) rfl rfl (by omega) (Nat.le_of_ble_eq_true rfl) dX11_expect_51 (fun v9 G9 h9 => ?_) (fun q9 G9 h9 => (by cases h9.1))
          obtain ⟨h8, rfl⟩ := h9; cases h8
          refine bV_h (f2 := bU f 50 (.inr (11, [.int 0, .int 2, .int (-1), .int ft, .int (nI mc), .ref 51, .ref (nA mc), .ref 53, .ref 54, .int (nI tl), .int sz_, .int at_, .int so_, .int pl_, .int mk_, .int nu_, .int di_, .int br_, .int iff_, .long wo_, .ref 55, .ref 56, .int (nI dc), .int (nI td), .ref 57, .int (nI ac), .ref 58, .ref 59, .ref 60, .ref 61, .ref 62, .ref 63, .int (bI hs), .ref 64, .int (nI dfn)]))) (bU_u _ _ _ _) ?_
          show bV O _ d 54 [(0, .ref 50), (1, .int x), (2, .int (nI k9)), (3, .int (nI b9)), (4, .int v)] [.int 0] (bU f 50 (.inr (11, [.int 0, .int 2, .int (-1), .int ft, .int (nI mc), .ref 51, .ref (nA mc), .ref 53, .ref 54, .int (nI tl), .int sz_, .int at_, .int so_, .int pl_, .int mk_, .int nu_, .int di_, .int br_, .int iff_, .long wo_, .ref 55, .ref 56, .int (nI dc), .int (nI td), .ref 57, .int (nI ac), .ref 58, .ref 59, .ref 60, .ref 61, .ref 62, .ref 63, .int (bI hs), .ref 64, .int (nI dfn)])), n, s) _
          refine r_zreturn rfl (by first | decide +kernel | exact narZ _ | assumption) dX11_expect_54 ?_
          all_goals have a28 := jBin_t hk9 hb9
          all_goals rcases jIn_f c46 with a46 | b46
          all_goals try have a46 : v < 0 := Int32.lt_iff_toInt_lt.mpr a46
          all_goals try have b46 : ¬ v ≤ 1000 := (by have h := b46; rw [Int32.le_iff_toInt_le]; omega)
          all_goals by_cases z46 : v < 0
          all_goals (unfold s_expect; try simp only [])
          all_goals try (first | simp only [if_pos c10] | simp only [if_neg c10] | simp only [if_neg (Bool.eq_false_iff.mp c10)])
          all_goals try (first | simp only [if_pos c19] | simp only [if_neg c19] | simp only [if_neg (Bool.eq_false_iff.mp c19)])
          all_goals try (first | simp only [if_pos c28] | simp only [if_neg c28] | simp only [if_neg (Bool.eq_false_iff.mp c28)])
          all_goals try (first | simp only [if_pos c46] | simp only [if_neg c46] | simp only [if_neg (Bool.eq_false_iff.mp c46)])
          all_goals try (first | simp only [if_pos a28] | simp only [if_neg a28] | simp only [if_neg (Bool.eq_false_iff.mp a28)])
          all_goals try (first | simp only [if_pos a46] | simp only [if_neg a46] | simp only [if_neg (Bool.eq_false_iff.mp a46)])
          all_goals try (first | simp only [if_pos z46] | simp only [if_neg z46] | simp only [if_neg (Bool.eq_false_iff.mp z46)])
          all_goals try (first | simp only [if_pos b46] | simp only [if_neg b46] | simp only [if_neg (Bool.eq_false_iff.mp b46)])
          all_goals try simp only [cl_nI (show k9 < 2 ^ 31 by omega)]
          all_goals try simp only [cl_nI (show b9 < 2 ^ 31 by omega)]
          all_goals try rw [Nat.mul_comm 4 k9]
          all_goals exact pM_mk (NS_mk (by exact bU_s _ _ _) (by first | rfl | exact (if_neg (by decide)).symm | exact (if_pos rfl).symm)) (hT.fr (fun q _ _ => (bU_n (by omega)).trans (rfl))) (hM.fr j1 (fun q _ => (bU_n (by omega)).trans (rfl))) (hI.fr ((bU_n (by decide)).trans (rfl))) (hP.fr ((bU_n (by decide)).trans (rfl))) (hD.fr j2 (fun q _ => (bU_n (by omega)).trans (rfl))) (hA.fr (fun q _ _ => (bU_n (by omega)).trans (rfl))) (hC.fr ((bU_n (by decide)).trans (rfl))) (hF.fr ((bU_n (by decide)).trans (rfl))) (fun q _ => (bU_n (by omega)).trans (rfl)) (by omega) (by omega)
      · have c28 := bI_0.mp c28
        refine r_aload_n (n := 0) (i := 0) 0 rfl rfl dX11_expect_31 ?_
        refine r_iconst (v := 1) (by decide) dX11_expect_32 ?_
        refine p_callV (As := [.int 1]) (rest := []) (kX11_denied (O := O) (d := 0) (f := bU f 50 (.inr (11, [.int 0, .int tr, .int (if tr = 4 then pl else -1), .int ft, .int (nI mc), .ref 51, .ref (nA mc), .ref 53, .ref 54, .int (nI tl), .int sz_, .int at_, .int so_, .int pl_, .int mk_, .int nu_, .int di_, .int br_, .int iff_, .long wo_, .ref 55, .ref 56, .int (nI dc), .int (nI td), .ref 57, .int (nI ac), .ref 58, .ref 59, .ref 60, .ref 61, .ref 62, .ref 63, .int (bI hs), .ref 64, .int (nI dfn)]))) (n := n) (s := s) (th_ := 0) (tr_ := tr) (wh_ := (if tr = 4 then pl else -1)) (fl_ := ft) (nm_ := nI mc) (q_ := nA mc) (tp_ := nI tl) (sz_ := sz_) (at_ := at_) (so_ := so_) (pl_ := pl_) (mk_ := mk_) (nu_ := nu_) (di_ := di_) (br_ := br_) (iff_ := iff_) (wo_ := wo_) (nd_ := nI dc) (td_ := nI td) (na_ := nI ac) (hs_ := bI hs) (nf_ := nI dfn) (y := 1) (by exact bU_s _ _ _)  (Nat.le_refl _)).call rfl lkX11_228 imX11_denied seX11_denied rfl (by exact bU_s _ _ _) rfl rfl (by omega) (Nat.le_of_ble_eq_true rfl) dX11_expect_33 (fun v9 G9 h9 => ?_) (fun q9 G9 h9 => (by cases h9.1))
        obtain ⟨h8, rfl⟩ := h9; cases h8
        refine bV_h (f2 := bU f 50 (.inr (11, [.int 0, .int 1, .int (-1), .int ft, .int (nI mc), .ref 51, .ref (nA mc), .ref 53, .ref 54, .int (nI tl), .int sz_, .int at_, .int so_, .int pl_, .int mk_, .int nu_, .int di_, .int br_, .int iff_, .long wo_, .ref 55, .ref 56, .int (nI dc), .int (nI td), .ref 57, .int (nI ac), .ref 58, .ref 59, .ref 60, .ref 61, .ref 62, .ref 63, .int (bI hs), .ref 64, .int (nI dfn)]))) (bU_u _ _ _ _) ?_
        show bV O _ d 36 [(0, .ref 50), (1, .int x), (2, .int (nI k9)), (3, .int b), (4, .int v)] [.int 0] (bU f 50 (.inr (11, [.int 0, .int 1, .int (-1), .int ft, .int (nI mc), .ref 51, .ref (nA mc), .ref 53, .ref 54, .int (nI tl), .int sz_, .int at_, .int so_, .int pl_, .int mk_, .int nu_, .int di_, .int br_, .int iff_, .long wo_, .ref 55, .ref 56, .int (nI dc), .int (nI td), .ref 57, .int (nI ac), .ref 58, .ref 59, .ref 60, .ref 61, .ref 62, .ref 63, .int (bI hs), .ref 64, .int (nI dfn)])), n, s) _
        refine r_zreturn rfl (by first | decide +kernel | exact narZ _ | assumption) dX11_expect_36 ?_
        all_goals have a28 := jBin_f2 (k := nI k9) c28
        all_goals (unfold s_expect; try simp only [])
        all_goals try (first | simp only [if_pos c10] | simp only [if_neg c10] | simp only [if_neg (Bool.eq_false_iff.mp c10)])
        all_goals try (first | simp only [if_pos c19] | simp only [if_neg c19] | simp only [if_neg (Bool.eq_false_iff.mp c19)])
        all_goals try (first | simp only [if_pos c28] | simp only [if_neg c28] | simp only [if_neg (Bool.eq_false_iff.mp c28)])
        all_goals try (first | simp only [if_pos a28] | simp only [if_neg a28] | simp only [if_neg (Bool.eq_false_iff.mp a28)])
        all_goals try simp only [cl_nI (show k9 < 2 ^ 31 by omega)]
        all_goals try simp only [cl_nI (show b9 < 2 ^ 31 by omega)]
        all_goals try rw [Nat.mul_comm 4 k9]
        all_goals exact pM_mk (NS_mk (by exact bU_s _ _ _) (by first | rfl | exact (if_neg (by decide)).symm | exact (if_pos rfl).symm)) (hT.fr (fun q _ _ => (bU_n (by omega)).trans (rfl))) (hM.fr j1 (fun q _ => (bU_n (by omega)).trans (rfl))) (hI.fr ((bU_n (by decide)).trans (rfl))) (hP.fr ((bU_n (by decide)).trans (rfl))) (hD.fr j2 (fun q _ => (bU_n (by omega)).trans (rfl))) (hA.fr (fun q _ _ => (bU_n (by omega)).trans (rfl))) (hC.fr ((bU_n (by decide)).trans (rfl))) (hF.fr ((bU_n (by decide)).trans (rfl))) (fun q _ => (bU_n (by omega)).trans (rfl)) (by omega) (by omega)
