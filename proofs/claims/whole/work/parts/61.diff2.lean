/-! ===== differing: the class's, the law's own, the reference's (printed by wip/gen/diff.py) ===== -/
def qD (f : bF) (n s : Nat) (df : Nat → Int32) (dfn : Nat) (x : Int32) (r : bR) (G : bG) : Prop := (inB x dfn = true ∧ r = .inl (some (.int (df (cl x)))) ∧ G = (f, n, s)) ∨ (inB x dfn = false ∧ r = .inr 0 ∧ G = (f, n + 1, s + 6))
theorem x_differing {O : bO} {d : Nat} {f : bF} {n s : Nat} {bs : Nat → Int32} {tl : Nat} {mc : Nat} {md : Nat → MR} {ip : Nat → Int32} {dc : Nat} {dr : Nat → DR} {ac : Nat} {an : Nat → AR} {hs : Bool} {sd : Nat → Int32} {df : Nat → Int32} {dfn : Nat} {td : Nat} {tr : Int32} {ft : Int32} {pl : Int32} {x : Int32} (hX : XR f (bs, tl, mc, md, ip, dc, dr, ac, an, hs, sd, df, dfn, td, tr, ft, pl)) (jX : JX (bs, tl, mc, md, ip, dc, dr, ac, an, hs, sd, df, dfn, td, tr, ft, pl)) (hd : 6 ≤ d) : bCall O mX7_differing d [.ref 32, .int x] (f, n, s) (qD f n s df dfn x) := by
  refine bCall_of (by decide) rfl (Nat.le_of_ble_eq_true rfl) ?_
  obtain ⟨hS, hT, hW, hM, hD, hA, hI, hC, hF⟩ := id hX
  obtain ⟨j1, j2, j3, j4, j5, j6, j7, j8⟩ := id jX
  simp only [] at hS hT hW hM hD hA hI hC hF j1 j2 j3 j4 j5 j6 j7 j8
  show bV O _ d 0 [(0, .ref 32), (1, .int x)] [] (f, n, s) _
  refine r_iload_n (n := 1) (i := 1) 1 rfl rfl dX7_differing_0 ?_
  refine r_if_lt (tgt := 21) (by decide) dX7_differing_1 (fun c1 => ?_) (fun c1 => ?_)
  · refine r_throwN (G := (f, n, s)) rfl rfl (by omega) dX7_differing_21 dX7_differing_24 dX7_differing_25 dX7_differing_28 dX7_differing_31 (Or.inr ⟨?_, rfl, rfl⟩)
    first | exact inB_f1 c1 | exact inB_f2 c1 c9 (by omega) | exact absurd (Int32.lt_of_lt_of_le (Int32.not_le.mp c9) ((nI_leI (by omega) (by omega)).mpr (show dfn ≤ 200 by omega))) c18
  · refine r_iload_n (n := 1) (i := 1) 1 rfl rfl dX7_differing_4 ?_
    refine r_aload_n (n := 0) (i := 0) 0 rfl rfl dX7_differing_5 ?_
    refine p_get (fs := [.ref 33, .ref 38, .ref 40, .ref 41, .ref 42, .ref 43, .ref 44, .ref 45, .int (nI mc), .int (nI dc), .int (nI ac), .int (nI dfn), .int (nI td), .int tr, .int ft, .int pl]) flX7_271 hS rfl dX7_differing_6 ?_
    refine r_icmp_ge (tgt := 21) (by decide) dX7_differing_9 (fun c9 => ?_) (fun c9 => ?_)
    · refine r_throwN (G := (f, n, s)) rfl rfl (by omega) dX7_differing_21 dX7_differing_24 dX7_differing_25 dX7_differing_28 dX7_differing_31 (Or.inr ⟨?_, rfl, rfl⟩)
      first | exact inB_f1 c1 | exact inB_f2 c1 c9 (by omega) | exact absurd (Int32.lt_of_lt_of_le (Int32.not_le.mp c9) ((nI_leI (by omega) (by omega)).mpr (show dfn ≤ 200 by omega))) c18
    · refine r_iload_n (n := 1) (i := 1) 1 rfl rfl dX7_differing_12 ?_
      refine r_aload_n (n := 0) (i := 0) 0 rfl rfl dX7_differing_13 ?_
      refine p_get (fs := [.ref 33, .ref 38, .ref 40, .ref 41, .ref 42, .ref 43, .ref 44, .ref 45, .int (nI mc), .int (nI dc), .int (nI ac), .int (nI dfn), .int (nI td), .int tr, .int ft, .int pl]) flX7_54 hS rfl dX7_differing_14 ?_
      refine p_alen2 (kd := 0) (n := 200) (a := (200, .inl df)) rfl hF rfl dX7_differing_17 ?_
      refine r_icmp_lt (tgt := 32) (by decide) dX7_differing_18 (fun c18 => ?_) (fun c18 => ?_)
      · refine r_aload_n (n := 0) (i := 0) 0 rfl rfl dX7_differing_32 ?_
        refine p_get (fs := [.ref 33, .ref 38, .ref 40, .ref 41, .ref 42, .ref 43, .ref 44, .ref 45, .int (nI mc), .int (nI dc), .int (nI ac), .int (nI dfn), .int (nI td), .int tr, .int ft, .int pl]) flX7_54 hS rfl dX7_differing_33 ?_
        refine r_iload_n (n := 1) (i := 1) 1 rfl rfl dX7_differing_36 ?_
        refine p_iald hF (vpx (inB_tt c1 c9 (by omega)) j6 (by decide)) dX7_differing_37 ?_
        refine r_ireturn rfl dX7_differing_38 ?_
        exact Or.inl ⟨inB_tt c1 c9 (by omega), rfl, rfl⟩
      · refine r_throwN (G := (f, n, s)) rfl rfl (by omega) dX7_differing_21 dX7_differing_24 dX7_differing_25 dX7_differing_28 dX7_differing_31 (Or.inr ⟨?_, rfl, rfl⟩)
        first | exact inB_f1 c1 | exact inB_f2 c1 c9 (by omega) | exact absurd (Int32.lt_of_lt_of_le (Int32.not_le.mp c9) ((nI_leI (by omega) (by omega)).mpr (show dfn ≤ 200 by omega))) c18
def qL (f : bF) (n s : Nat) (df : Nat → Int32) (dfn : Nat) (x : Int32) (o : Int64) (r : bR) (G : bG) : Prop := (inB x dfn = true ∧ r = .inl (some (.int 0)) ∧ G = (bU f 46 (.inl (2, 1, .inr (.inl (vp_updL (fun _ => o) 0 (df (cl x)).toInt64)))), n, s)) ∨ (inB x dfn = false ∧ r = .inl (some (.int 1)) ∧ G = (f, n + 1, s + 6))
theorem k_Ldiff {O : bO} {d : Nat} {f : bF} {n s : Nat} {bs : Nat → Int32} {tl : Nat} {mc : Nat} {md : Nat → MR} {ip : Nat → Int32} {dc : Nat} {dr : Nat → DR} {ac : Nat} {an : Nat → AR} {hs : Bool} {sd : Nat → Int32} {df : Nat → Int32} {dfn : Nat} {td : Nat} {tr : Int32} {ft : Int32} {pl : Int32} {x : Int32} {o : Int64} (hX : XR f (bs, tl, mc, md, ip, dc, dr, ac, an, hs, sd, df, dfn, td, tr, ft, pl)) (jX : JX (bs, tl, mc, md, ip, dc, dr, ac, an, hs, sd, df, dfn, td, tr, ft, pl)) (h46 : f 46 = some (.inl (2, 1, .inr (.inl (fun _ => o))))) (hd : 7 ≤ d) : bCall O mL_differing d [.ref 32, .int x, .ref 46] (f, n, s) (qL f n s df dfn x o) := by
  refine bCall_ofH (by decide) rfl (Nat.le_of_ble_eq_true rfl) ?_
  show bV O _ d 0 [(0, .ref 32), (1, .int x), (2, .ref 46)] [] (f, n, s) _
  refine r_aload_n (n := 2) (i := 2) 2 rfl rfl dL_differing_0 ?_
  refine r_iconst (v := 0) (by decide) dL_differing_1 ?_
  refine r_aload_n (n := 0) (i := 0) 0 rfl rfl dL_differing_2 ?_
  refine r_iload_n (n := 1) (i := 1) 1 rfl rfl dL_differing_3 ?_
  refine r_callVO (G := (f, n, s)) (As := [.int x]) (rest := [.int 0, .ref 46]) (x_differing (d := 6) hX jX (Nat.le_refl _)) rfl lkL_7 imX7_differing seX7_differing rfl hX.1 rfl rfl (by omega) (Nat.le_of_ble_eq_true rfl) dL_differing_4 rfl rfl (by decide) clL_13 dL_differing_12 rfl (by decide) (fun v9 G9 h9 => ?_) (fun q9 G9 h9 => ?_)
  · rcases h9 with ⟨h7, h8, rfl⟩ | ⟨h7, h8, -⟩
    · cases h8
      show bV O _ d 7 [(0, .ref 32), (1, .int x), (2, .ref 46)] [.int (df (cl x)), .int 0, .ref 46] (f, n, s) _
      refine r_i2l dL_differing_7 ?_
      refine p_lastN (t := 0) h46 (by omega) (by omega) dL_differing_8 ?_
      refine r_goto (tgt := 15) (by decide) dL_differing_9 ?_
      refine r_iconst (v := 0) (by decide) dL_differing_15 ?_
      refine r_ireturn rfl dL_differing_16 ?_
      exact Or.inl ⟨h7, rfl, rfl⟩
    · cases h8
  · rcases h9 with ⟨h7, h8, -⟩ | ⟨h7, h8, rfl⟩
    · cases h8
    · cases h8
      refine ⟨rfl, ?_⟩
      show bV O _ d 13 [(0, .ref 32), (1, .int x), (2, .ref 46)] [] (f, n + 1, s + 6) _
      refine r_iconst (v := 1) (by decide) dL_differing_13 ?_
      refine r_ireturn rfl dL_differing_14 ?_
      exact Or.inr ⟨h7, rfl, rfl⟩
def qE (f : bF) (n s : Nat) (σ : SS) (x : Int32) (r : bR) (G : bG) : Prop := ∃ v : Int32, r = .inl (some (.int v)) ∧ MP G.1 σ ∧ (∀ q, (q < 50 ∨ (1000 ≤ q ∧ q < 5000)) → G.1 q = f q) ∧ G.2 = (n, s) ∧ ∃ (fs : List Value), G.1 50 = some (.inr (11, .int (if inB x σ.2.2.2.2.2.2.2.2.2.2.2.2.1 = true then 0 else 1) :: fs)) ∧ (inB x σ.2.2.2.2.2.2.2.2.2.2.2.2.1 = true → v = σ.2.2.2.2.2.2.2.2.2.2.2.1 (cl x))
theorem m_thrown {O : bO} {d : Nat} {f : bF} {n s : Nat} {v : Int32} {fs : List Value} (h0 : f 50 = some (.inr (11, .int v :: fs))) (hd : 0 ≤ d) : bMt O mX11_thrown d [.ref 50] (f, n, s) (.inl (some (.int v))) (f, n, s) := by
  refine bMt_of (bCall_of (by decide) rfl (Nat.le_of_ble_eq_true rfl) ?_)
  show bV O _ d 0 [(0, .ref 50)] [] (f, n, s) _
  refine r_aload_n (n := 0) (i := 0) 0 rfl rfl dX11_thrown_0 ?_
  refine p_get (fs := .int v :: fs) flX11_71 h0 rfl dX11_thrown_1 ?_
  refine r_ireturn rfl dX11_thrown_4 ?_
  exact ⟨rfl, rfl⟩
