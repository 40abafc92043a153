/-! ===== the reference: what its calls are made of (printed by wip/gen/msmall.py) ===== -/
theorem inB_f1 {x : Int32} {m : Nat} (h : x < 0) : inB x m = false := by simp only [inB, decide_eq_true h]; rfl
theorem inB_f2 {x : Int32} {m : Nat} (h0 : ¬ x < 0) (h : nI m ≤ x) (hm : m < 2147483648) : inB x m = false := by
  have := cl_ge h0 h (by omega)
  simp only [inB, decide_eq_false (show ¬ cl x < m by omega), Bool.and_false]
theorem inB_tt {x : Int32} {m : Nat} (h0 : ¬ x < 0) (h : ¬ nI m ≤ x) (hm : m < 2147483648) : inB x m = true := by
  have := cl_lt h0 h (by omega)
  simp only [inB, decide_eq_false h0, decide_eq_true this]
  rfl
def jBo (s : Int32) (a b : Int64) : Int32 := if s = 2 then jBd (a + b) else if s = 3 then jBd (a - b) else if s = 4 then jBd (a * b) else if s = 5 then (if b ≤ a then 0 else 1) else if s = 6 then (if a ≤ b then 0 else 1) else if s = 7 then (if a = b then 1 else 0) else if s = 9 then (lmn a b).toInt32 else (lmx a b).toInt32
theorem jBo_eq (s a b : Int32) : jBo s a.toInt64 b.toInt64 = jBoth s a b := rfl
theorem nI_dec {t k : Nat} {i : Int} (hi : Int32.ofInt i = -nI k) (h : k ≤ t) : nI t + Int32.ofInt i = nI (t - k) := by
  rw [hi, ← Int32.sub_eq_add_neg]
  exact pk_sub h
theorem tbO29 (x : Int32) (q2 : ¬ x = 2) (q3 : ¬ x = 3) (q4 : ¬ x = 4) (q5 : ¬ x = 5) (q6 : ¬ x = 6) (q7 : ¬ x = 7) (q8 : ¬ x = 8) (q9 : ¬ x = 9) : x.toInt < 2 ∨ 9 < x.toInt := by
  have h2 : x.toInt ≠ 2 := toInt_ne (k := 2) q2
  have h3 : x.toInt ≠ 3 := toInt_ne (k := 3) q3
  have h4 : x.toInt ≠ 4 := toInt_ne (k := 4) q4
  have h5 : x.toInt ≠ 5 := toInt_ne (k := 5) q5
  have h6 : x.toInt ≠ 6 := toInt_ne (k := 6) q6
  have h7 : x.toInt ≠ 7 := toInt_ne (k := 7) q7
  have h8 : x.toInt ≠ 8 := toInt_ne (k := 8) q8
  have h9 : x.toInt ≠ 9 := toInt_ne (k := 9) q9
  omega
set_option maxRecDepth 4000 in
theorem kX11_refused {O : bO} {d : Nat} {f : bF} {n s : Nat} {th_ : Int32} {tr_ : Int32} {wh_ : Int32} {fl_ : Int32} {nm_ : Int32} {q_ : Nat} {tp_ : Int32} {sz_ : Int32} {at_ : Int32} {so_ : Int32} {pl_ : Int32} {mk_ : Int32} {nu_ : Int32} {di_ : Int32} {br_ : Int32} {iff_ : Int32} {wo_ : Int64} {nd_ : Int32} {td_ : Int32} {na_ : Int32} {hs_ : Int32} {nf_ : Int32} {y : Int32} (h0 : f 50 = some (.inr (11, [.int th_, .int tr_, .int wh_, .int fl_, .int nm_, .ref 51, .ref q_, .ref 53, .ref 54, .int tp_, .int sz_, .int at_, .int so_, .int pl_, .int mk_, .int nu_, .int di_, .int br_, .int iff_, .long wo_, .ref 55, .ref 56, .int nd_, .int td_, .ref 57, .int na_, .ref 58, .ref 59, .ref 60, .ref 61, .ref 62, .ref 63, .int hs_, .ref 64, .int nf_])))  (hd : 0 ≤ d) : bMt O mX11_refused d [.ref 50, .int y] (f, n, s) (.inl (some (.int (-1)))) (bU f 50 (.inr (11, [.int th_, .int y, .int (-1), .int fl_, .int nm_, .ref 51, .ref q_, .ref 53, .ref 54, .int tp_, .int sz_, .int at_, .int so_, .int pl_, .int mk_, .int nu_, .int di_, .int br_, .int iff_, .long wo_, .ref 55, .ref 56, .int nd_, .int td_, .ref 57, .int na_, .ref 58, .ref 59, .ref 60, .ref 61, .ref 62, .ref 63, .int hs_, .ref 64, .int nf_])), n, s) := by
  refine bMt_of (bCall_of (by decide) rfl (Nat.le_of_ble_eq_true rfl) ?_)
  show bV O _ d 0 [(0, .ref 50), (1, .int y)] [] (f, n, s) _
  refine r_aload_n (n := 0) (i := 0) 0 rfl rfl dX11_refused_0 ?_
  refine r_iload_n (n := 1) (i := 1) 1 rfl rfl dX11_refused_1 ?_
  refine p_put (fs := [.int th_, .int tr_, .int wh_, .int fl_, .int nm_, .ref 51, .ref q_, .ref 53, .ref 54, .int tp_, .int sz_, .int at_, .int so_, .int pl_, .int mk_, .int nu_, .int di_, .int br_, .int iff_, .long wo_, .ref 55, .ref 56, .int nd_, .int td_, .ref 57, .int na_, .ref 58, .ref 59, .ref 60, .ref 61, .ref 62, .ref 63, .int hs_, .ref 64, .int nf_]) (fs' := [.int th_, .int y, .int wh_, .int fl_, .int nm_, .ref 51, .ref q_, .ref 53, .ref 54, .int tp_, .int sz_, .int at_, .int so_, .int pl_, .int mk_, .int nu_, .int di_, .int br_, .int iff_, .long wo_, .ref 55, .ref 56, .int nd_, .int td_, .ref 57, .int na_, .ref 58, .ref 59, .ref 60, .ref 61, .ref 62, .ref 63, .int hs_, .ref 64, .int nf_]) flX11_74 h0 (Nat.le_of_ble_eq_true rfl) (bNf_i _) rfl dX11_refused_2 ?_
  refine r_aload_n (n := 0) (i := 0) 0 rfl rfl dX11_refused_5 ?_
  refine r_iconst (v := (-1)) (by decide) dX11_refused_6 ?_
  refine p_put (fs := [.int th_, .int y, .int wh_, .int fl_, .int nm_, .ref 51, .ref q_, .ref 53, .ref 54, .int tp_, .int sz_, .int at_, .int so_, .int pl_, .int mk_, .int nu_, .int di_, .int br_, .int iff_, .long wo_, .ref 55, .ref 56, .int nd_, .int td_, .ref 57, .int na_, .ref 58, .ref 59, .ref 60, .ref 61, .ref 62, .ref 63, .int hs_, .ref 64, .int nf_]) (fs' := [.int th_, .int y, .int (-1), .int fl_, .int nm_, .ref 51, .ref q_, .ref 53, .ref 54, .int tp_, .int sz_, .int at_, .int so_, .int pl_, .int mk_, .int nu_, .int di_, .int br_, .int iff_, .long wo_, .ref 55, .ref 56, .int nd_, .int td_, .ref 57, .int na_, .ref 58, .ref 59, .ref 60, .ref 61, .ref 62, .ref 63, .int hs_, .ref 64, .int nf_]) flX11_11 (by exact bU_s _ _ _) (Nat.le_of_ble_eq_true rfl) (bNf_i _) rfl dX11_refused_7 ?_
  refine bV_h (f2 := bU f 50 (.inr (11, [.int th_, .int y, .int (-1), .int fl_, .int nm_, .ref 51, .ref q_, .ref 53, .ref 54, .int tp_, .int sz_, .int at_, .int so_, .int pl_, .int mk_, .int nu_, .int di_, .int br_, .int iff_, .long wo_, .ref 55, .ref 56, .int nd_, .int td_, .ref 57, .int na_, .ref 58, .ref 59, .ref 60, .ref 61, .ref 62, .ref 63, .int hs_, .ref 64, .int nf_]))) (bU_u _ _ _ _) ?_
  refine r_iconst (v := (-1)) (by decide) dX11_refused_10 ?_
  refine r_ireturn rfl dX11_refused_11 ?_
  refine ⟨?_, ?_⟩ <;> first | rfl | (simp []; done)
set_option maxRecDepth 4000 in
theorem kX11_denied {O : bO} {d : Nat} {f : bF} {n s : Nat} {th_ : Int32} {tr_ : Int32} {wh_ : Int32} {fl_ : Int32} {nm_ : Int32} {q_ : Nat} {tp_ : Int32} {sz_ : Int32} {at_ : Int32} {so_ : Int32} {pl_ : Int32} {mk_ : Int32} {nu_ : Int32} {di_ : Int32} {br_ : Int32} {iff_ : Int32} {wo_ : Int64} {nd_ : Int32} {td_ : Int32} {na_ : Int32} {hs_ : Int32} {nf_ : Int32} {y : Int32} (h0 : f 50 = some (.inr (11, [.int th_, .int tr_, .int wh_, .int fl_, .int nm_, .ref 51, .ref q_, .ref 53, .ref 54, .int tp_, .int sz_, .int at_, .int so_, .int pl_, .int mk_, .int nu_, .int di_, .int br_, .int iff_, .long wo_, .ref 55, .ref 56, .int nd_, .int td_, .ref 57, .int na_, .ref 58, .ref 59, .ref 60, .ref 61, .ref 62, .ref 63, .int hs_, .ref 64, .int nf_])))  (hd : 0 ≤ d) : bMt O mX11_denied d [.ref 50, .int y] (f, n, s) (.inl (some (.int 0))) (bU f 50 (.inr (11, [.int th_, .int y, .int (-1), .int fl_, .int nm_, .ref 51, .ref q_, .ref 53, .ref 54, .int tp_, .int sz_, .int at_, .int so_, .int pl_, .int mk_, .int nu_, .int di_, .int br_, .int iff_, .long wo_, .ref 55, .ref 56, .int nd_, .int td_, .ref 57, .int na_, .ref 58, .ref 59, .ref 60, .ref 61, .ref 62, .ref 63, .int hs_, .ref 64, .int nf_])), n, s) := by
  refine bMt_of (bCall_of (by decide) rfl (Nat.le_of_ble_eq_true rfl) ?_)
  show bV O _ d 0 [(0, .ref 50), (1, .int y)] [] (f, n, s) _
  refine r_aload_n (n := 0) (i := 0) 0 rfl rfl dX11_denied_0 ?_
  refine r_iload_n (n := 1) (i := 1) 1 rfl rfl dX11_denied_1 ?_
  refine p_put (fs := [.int th_, .int tr_, .int wh_, .int fl_, .int nm_, .ref 51, .ref q_, .ref 53, .ref 54, .int tp_, .int sz_, .int at_, .int so_, .int pl_, .int mk_, .int nu_, .int di_, .int br_, .int iff_, .long wo_, .ref 55, .ref 56, .int nd_, .int td_, .ref 57, .int na_, .ref 58, .ref 59, .ref 60, .ref 61, .ref 62, .ref 63, .int hs_, .ref 64, .int nf_]) (fs' := [.int th_, .int y, .int wh_, .int fl_, .int nm_, .ref 51, .ref q_, .ref 53, .ref 54, .int tp_, .int sz_, .int at_, .int so_, .int pl_, .int mk_, .int nu_, .int di_, .int br_, .int iff_, .long wo_, .ref 55, .ref 56, .int nd_, .int td_, .ref 57, .int na_, .ref 58, .ref 59, .ref 60, .ref 61, .ref 62, .ref 63, .int hs_, .ref 64, .int nf_]) flX11_74 h0 (Nat.le_of_ble_eq_true rfl) (bNf_i _) rfl dX11_denied_2 ?_
  refine r_aload_n (n := 0) (i := 0) 0 rfl rfl dX11_denied_5 ?_
  refine r_iconst (v := (-1)) (by decide) dX11_denied_6 ?_
  refine p_put (fs := [.int th_, .int y, .int wh_, .int fl_, .int nm_, .ref 51, .ref q_, .ref 53, .ref 54, .int tp_, .int sz_, .int at_, .int so_, .int pl_, .int mk_, .int nu_, .int di_, .int br_, .int iff_, .long wo_, .ref 55, .ref 56, .int nd_, .int td_, .ref 57, .int na_, .ref 58, .ref 59, .ref 60, .ref 61, .ref 62, .ref 63, .int hs_, .ref 64, .int nf_]) (fs' := [.int th_, .int y, .int (-1), .int fl_, .int nm_, .ref 51, .ref q_, .ref 53, .ref 54, .int tp_, .int sz_, .int at_, .int so_, .int pl_, .int mk_, .int nu_, .int di_, .int br_, .int iff_, .long wo_, .ref 55, .ref 56, .int nd_, .int td_, .ref 57, .int na_, .ref 58, .ref 59, .ref 60, .ref 61, .ref 62, .ref 63, .int hs_, .ref 64, .int nf_]) flX11_11 (by exact bU_s _ _ _) (Nat.le_of_ble_eq_true rfl) (bNf_i _) rfl dX11_denied_7 ?_
  refine bV_h (f2 := bU f 50 (.inr (11, [.int th_, .int y, .int (-1), .int fl_, .int nm_, .ref 51, .ref q_, .ref 53, .ref 54, .int tp_, .int sz_, .int at_, .int so_, .int pl_, .int mk_, .int nu_, .int di_, .int br_, .int iff_, .long wo_, .ref 55, .ref 56, .int nd_, .int td_, .ref 57, .int na_, .ref 58, .ref 59, .ref 60, .ref 61, .ref 62, .ref 63, .int hs_, .ref 64, .int nf_]))) (bU_u _ _ _ _) ?_
  refine r_iconst (v := 0) (by decide) dX11_denied_10 ?_
  refine r_zreturn rfl (by first | decide +kernel | exact narZ _ | assumption) dX11_denied_11 ?_
  refine ⟨?_, ?_⟩ <;> first | rfl | (simp []; done)
set_option maxRecDepth 4000 in
theorem kX11_done {O : bO} {d : Nat} {f : bF} {n s : Nat} {th_ : Int32} {tr_ : Int32} {wh_ : Int32} {fl_ : Int32} {nm_ : Int32} {q_ : Nat} {tp_ : Int32} {sz_ : Int32} {at_ : Int32} {so_ : Int32} {pl_ : Int32} {mk_ : Int32} {nu_ : Int32} {di_ : Int32} {br_ : Int32} {iff_ : Int32} {wo_ : Int64} {nd_ : Int32} {td_ : Int32} {na_ : Int32} {hs_ : Int32} {nf_ : Int32} {y : Int32} (h0 : f 50 = some (.inr (11, [.int th_, .int tr_, .int wh_, .int fl_, .int nm_, .ref 51, .ref q_, .ref 53, .ref 54, .int tp_, .int sz_, .int at_, .int so_, .int pl_, .int mk_, .int nu_, .int di_, .int br_, .int iff_, .long wo_, .ref 55, .ref 56, .int nd_, .int td_, .ref 57, .int na_, .ref 58, .ref 59, .ref 60, .ref 61, .ref 62, .ref 63, .int hs_, .ref 64, .int nf_])))  (hd : 0 ≤ d) : bMt O mX11_done d [.ref 50, .int y] (f, n, s) (.inl (some (.int y))) (bU f 50 (.inr (11, [.int th_, .int 0, .int (-1), .int fl_, .int nm_, .ref 51, .ref q_, .ref 53, .ref 54, .int tp_, .int sz_, .int at_, .int so_, .int pl_, .int mk_, .int nu_, .int di_, .int br_, .int iff_, .long wo_, .ref 55, .ref 56, .int nd_, .int td_, .ref 57, .int na_, .ref 58, .ref 59, .ref 60, .ref 61, .ref 62, .ref 63, .int hs_, .ref 64, .int nf_])), n, s) := by
  refine bMt_of (bCall_of (by decide) rfl (Nat.le_of_ble_eq_true rfl) ?_)
  show bV O _ d 0 [(0, .ref 50), (1, .int y)] [] (f, n, s) _
  refine r_aload_n (n := 0) (i := 0) 0 rfl rfl dX11_done_0 ?_
  refine r_iconst (v := 0) (by decide) dX11_done_1 ?_
  refine p_put (fs := [.int th_, .int tr_, .int wh_, .int fl_, .int nm_, .ref 51, .ref q_, .ref 53, .ref 54, .int tp_, .int sz_, .int at_, .int so_, .int pl_, .int mk_, .int nu_, .int di_, .int br_, .int iff_, .long wo_, .ref 55, .ref 56, .int nd_, .int td_, .ref 57, .int na_, .ref 58, .ref 59, .ref 60, .ref 61, .ref 62, .ref 63, .int hs_, .ref 64, .int nf_]) (fs' := [.int th_, .int 0, .int wh_, .int fl_, .int nm_, .ref 51, .ref q_, .ref 53, .ref 54, .int tp_, .int sz_, .int at_, .int so_, .int pl_, .int mk_, .int nu_, .int di_, .int br_, .int iff_, .long wo_, .ref 55, .ref 56, .int nd_, .int td_, .ref 57, .int na_, .ref 58, .ref 59, .ref 60, .ref 61, .ref 62, .ref 63, .int hs_, .ref 64, .int nf_]) flX11_74 h0 (Nat.le_of_ble_eq_true rfl) (bNf_i _) rfl dX11_done_2 ?_
  refine r_aload_n (n := 0) (i := 0) 0 rfl rfl dX11_done_5 ?_
  refine r_iconst (v := (-1)) (by decide) dX11_done_6 ?_
  refine p_put (fs := [.int th_, .int 0, .int wh_, .int fl_, .int nm_, .ref 51, .ref q_, .ref 53, .ref 54, .int tp_, .int sz_, .int at_, .int so_, .int pl_, .int mk_, .int nu_, .int di_, .int br_, .int iff_, .long wo_, .ref 55, .ref 56, .int nd_, .int td_, .ref 57, .int na_, .ref 58, .ref 59, .ref 60, .ref 61, .ref 62, .ref 63, .int hs_, .ref 64, .int nf_]) (fs' := [.int th_, .int 0, .int (-1), .int fl_, .int nm_, .ref 51, .ref q_, .ref 53, .ref 54, .int tp_, .int sz_, .int at_, .int so_, .int pl_, .int mk_, .int nu_, .int di_, .int br_, .int iff_, .long wo_, .ref 55, .ref 56, .int nd_, .int td_, .ref 57, .int na_, .ref 58, .ref 59, .ref 60, .ref 61, .ref 62, .ref 63, .int hs_, .ref 64, .int nf_]) flX11_11 (by exact bU_s _ _ _) (Nat.le_of_ble_eq_true rfl) (bNf_i _) rfl dX11_done_7 ?_
  refine bV_h (f2 := bU f 50 (.inr (11, [.int th_, .int 0, .int (-1), .int fl_, .int nm_, .ref 51, .ref q_, .ref 53, .ref 54, .int tp_, .int sz_, .int at_, .int so_, .int pl_, .int mk_, .int nu_, .int di_, .int br_, .int iff_, .long wo_, .ref 55, .ref 56, .int nd_, .int td_, .ref 57, .int na_, .ref 58, .ref 59, .ref 60, .ref 61, .ref 62, .ref 63, .int hs_, .ref 64, .int nf_]))) (bU_u _ _ _ _) ?_
  refine r_iload_n (n := 1) (i := 1) 1 rfl rfl dX11_done_10 ?_
  refine r_ireturn rfl dX11_done_11 ?_
  refine ⟨?_, ?_⟩ <;> first | rfl | (simp []; done)
set_option maxRecDepth 4000 in
theorem kX11_granted {O : bO} {d : Nat} {f : bF} {n s : Nat} {th_ : Int32} {tr_ : Int32} {wh_ : Int32} {fl_ : Int32} {nm_ : Int32} {q_ : Nat} {tp_ : Int32} {sz_ : Int32} {at_ : Int32} {so_ : Int32} {pl_ : Int32} {mk_ : Int32} {nu_ : Int32} {di_ : Int32} {br_ : Int32} {iff_ : Int32} {wo_ : Int64} {nd_ : Int32} {td_ : Int32} {na_ : Int32} {hs_ : Int32} {nf_ : Int32} (h0 : f 50 = some (.inr (11, [.int th_, .int tr_, .int wh_, .int fl_, .int nm_, .ref 51, .ref q_, .ref 53, .ref 54, .int tp_, .int sz_, .int at_, .int so_, .int pl_, .int mk_, .int nu_, .int di_, .int br_, .int iff_, .long wo_, .ref 55, .ref 56, .int nd_, .int td_, .ref 57, .int na_, .ref 58, .ref 59, .ref 60, .ref 61, .ref 62, .ref 63, .int hs_, .ref 64, .int nf_])))  (hd : 0 ≤ d) : bMt O mX11_granted d [.ref 50] (f, n, s) (.inl (some (.int 1))) (bU f 50 (.inr (11, [.int th_, .int 0, .int (-1), .int fl_, .int nm_, .ref 51, .ref q_, .ref 53, .ref 54, .int tp_, .int sz_, .int at_, .int so_, .int pl_, .int mk_, .int nu_, .int di_, .int br_, .int iff_, .long wo_, .ref 55, .ref 56, .int nd_, .int td_, .ref 57, .int na_, .ref 58, .ref 59, .ref 60, .ref 61, .ref 62, .ref 63, .int hs_, .ref 64, .int nf_])), n, s) := by
  refine bMt_of (bCall_of (by decide) rfl (Nat.le_of_ble_eq_true rfl) ?_)
  show bV O _ d 0 [(0, .ref 50)] [] (f, n, s) _
  refine r_aload_n (n := 0) (i := 0) 0 rfl rfl dX11_granted_0 ?_
  refine r_iconst (v := 0) (by decide) dX11_granted_1 ?_
  refine p_put (fs := [.int th_, .int tr_, .int wh_, .int fl_, .int nm_, .ref 51, .ref q_, .ref 53, .ref 54, .int tp_, .int sz_, .int at_, .int so_, .int pl_, .int mk_, .int nu_, .int di_, .int br_, .int iff_, .long wo_, .ref 55, .ref 56, .int nd_, .int td_, .ref 57, .int na_, .ref 58, .ref 59, .ref 60, .ref 61, .ref 62, .ref 63, .int hs_, .ref 64, .int nf_]) (fs' := [.int th_, .int 0, .int wh_, .int fl_, .int nm_, .ref 51, .ref q_, .ref 53, .ref 54, .int tp_, .int sz_, .int at_, .int so_, .int pl_, .int mk_, .int nu_, .int di_, .int br_, .int iff_, .long wo_, .ref 55, .ref 56, .int nd_, .int td_, .ref 57, .int na_, .ref 58, .ref 59, .ref 60, .ref 61, .ref 62, .ref 63, .int hs_, .ref 64, .int nf_]) flX11_74 h0 (Nat.le_of_ble_eq_true rfl) (bNf_i _) rfl dX11_granted_2 ?_
  refine r_aload_n (n := 0) (i := 0) 0 rfl rfl dX11_granted_5 ?_
  refine r_iconst (v := (-1)) (by decide) dX11_granted_6 ?_
  refine p_put (fs := [.int th_, .int 0, .int wh_, .int fl_, .int nm_, .ref 51, .ref q_, .ref 53, .ref 54, .int tp_, .int sz_, .int at_, .int so_, .int pl_, .int mk_, .int nu_, .int di_, .int br_, .int iff_, .long wo_, .ref 55, .ref 56, .int nd_, .int td_, .ref 57, .int na_, .ref 58, .ref 59, .ref 60, .ref 61, .ref 62, .ref 63, .int hs_, .ref 64, .int nf_]) (fs' := [.int th_, .int 0, .int (-1), .int fl_, .int nm_, .ref 51, .ref q_, .ref 53, .ref 54, .int tp_, .int sz_, .int at_, .int so_, .int pl_, .int mk_, .int nu_, .int di_, .int br_, .int iff_, .long wo_, .ref 55, .ref 56, .int nd_, .int td_, .ref 57, .int na_, .ref 58, .ref 59, .ref 60, .ref 61, .ref 62, .ref 63, .int hs_, .ref 64, .int nf_]) flX11_11 (by exact bU_s _ _ _) (Nat.le_of_ble_eq_true rfl) (bNf_i _) rfl dX11_granted_7 ?_
  refine bV_h (f2 := bU f 50 (.inr (11, [.int th_, .int 0, .int (-1), .int fl_, .int nm_, .ref 51, .ref q_, .ref 53, .ref 54, .int tp_, .int sz_, .int at_, .int so_, .int pl_, .int mk_, .int nu_, .int di_, .int br_, .int iff_, .long wo_, .ref 55, .ref 56, .int nd_, .int td_, .ref 57, .int na_, .ref 58, .ref 59, .ref 60, .ref 61, .ref 62, .ref 63, .int hs_, .ref 64, .int nf_]))) (bU_u _ _ _ _) ?_
  refine r_iconst (v := 1) (by decide) dX11_granted_10 ?_
  refine r_zreturn rfl (by first | decide +kernel | exact narZ _ | assumption) dX11_granted_11 ?_
  refine ⟨?_, ?_⟩ <;> first | rfl | (simp []; done)
set_option maxRecDepth 4000 in
theorem kX11_isModel {O : bO} {d : Nat} {f : bF} {n s : Nat} {th_ : Int32} {tr_ : Int32} {wh_ : Int32} {fl_ : Int32} {q_ : Nat} {tp_ : Int32} {sz_ : Int32} {at_ : Int32} {so_ : Int32} {pl_ : Int32} {mk_ : Int32} {nu_ : Int32} {di_ : Int32} {br_ : Int32} {iff_ : Int32} {wo_ : Int64} {nd_ : Int32} {td_ : Int32} {na_ : Int32} {hs_ : Int32} {nf_ : Int32} {m9 : Nat} {x : Int32} (h0 : f 50 = some (.inr (11, [.int th_, .int tr_, .int wh_, .int fl_, .int (nI m9), .ref 51, .ref q_, .ref 53, .ref 54, .int tp_, .int sz_, .int at_, .int so_, .int pl_, .int mk_, .int nu_, .int di_, .int br_, .int iff_, .long wo_, .ref 55, .ref 56, .int nd_, .int td_, .ref 57, .int na_, .ref 58, .ref 59, .ref 60, .ref 61, .ref 62, .ref 63, .int hs_, .ref 64, .int nf_]))) (e0 : m9 < 2147483648) (hd : 0 ≤ d) : bMt O mX11_isModel d [.ref 50, .int x] (f, n, s) (.inl (some (.int (bI (inB x m9))))) (f, n, s) := by
  refine bMt_of (bCall_of (by decide) rfl (Nat.le_of_ble_eq_true rfl) ?_)
  show bV O _ d 0 [(0, .ref 50), (1, .int x)] [] (f, n, s) _
  refine r_iload_n (n := 1) (i := 1) 1 rfl rfl dX11_isModel_0 ?_
  refine r_if_lt (tgt := 16) (by decide) dX11_isModel_1 (fun c1 => ?_) (fun c1 => ?_)
  · refine r_iconst (v := 0) (by decide) dX11_isModel_16 ?_
    refine r_zreturn rfl (by first | decide +kernel | exact narZ _ | assumption) dX11_isModel_17 ?_
    refine ⟨?_, rfl⟩
    first | rw [inB_f1 c1, bI_f] | rw [inB_f2 c1 c9 e0, bI_f] | rw [inB_tt c1 c9 e0, bI_t]
  · refine r_iload_n (n := 1) (i := 1) 1 rfl rfl dX11_isModel_4 ?_
    refine r_aload_n (n := 0) (i := 0) 0 rfl rfl dX11_isModel_5 ?_
    refine p_get (fs := [.int th_, .int tr_, .int wh_, .int fl_, .int (nI m9), .ref 51, .ref q_, .ref 53, .ref 54, .int tp_, .int sz_, .int at_, .int so_, .int pl_, .int mk_, .int nu_, .int di_, .int br_, .int iff_, .long wo_, .ref 55, .ref 56, .int nd_, .int td_, .ref 57, .int na_, .ref 58, .ref 59, .ref 60, .ref 61, .ref 62, .ref 63, .int hs_, .ref 64, .int nf_]) flX11_219 h0 rfl dX11_isModel_6 ?_
    refine r_icmp_ge (tgt := 16) (by decide) dX11_isModel_9 (fun c9 => ?_) (fun c9 => ?_)
    · refine r_iconst (v := 0) (by decide) dX11_isModel_16 ?_
      refine r_zreturn rfl (by first | decide +kernel | exact narZ _ | assumption) dX11_isModel_17 ?_
      refine ⟨?_, rfl⟩
      first | rw [inB_f1 c1, bI_f] | rw [inB_f2 c1 c9 e0, bI_f] | rw [inB_tt c1 c9 e0, bI_t]
    · refine r_iconst (v := 1) (by decide) dX11_isModel_12 ?_
      refine r_goto (tgt := 17) (by decide) dX11_isModel_13 ?_
      refine r_zreturn rfl (by first | decide +kernel | exact narZ _ | assumption) dX11_isModel_17 ?_
      refine ⟨?_, rfl⟩
      first | rw [inB_f1 c1, bI_f] | rw [inB_f2 c1 c9 e0, bI_f] | rw [inB_tt c1 c9 e0, bI_t]
set_option maxRecDepth 4000 in
theorem kX11_isDoor {O : bO} {d : Nat} {f : bF} {n s : Nat} {th_ : Int32} {tr_ : Int32} {wh_ : Int32} {fl_ : Int32} {nm_ : Int32} {q_ : Nat} {tp_ : Int32} {sz_ : Int32} {at_ : Int32} {so_ : Int32} {pl_ : Int32} {mk_ : Int32} {nu_ : Int32} {di_ : Int32} {br_ : Int32} {iff_ : Int32} {wo_ : Int64} {td_ : Int32} {na_ : Int32} {hs_ : Int32} {nf_ : Int32} {m9 : Nat} {x : Int32} (h0 : f 50 = some (.inr (11, [.int th_, .int tr_, .int wh_, .int fl_, .int nm_, .ref 51, .ref q_, .ref 53, .ref 54, .int tp_, .int sz_, .int at_, .int so_, .int pl_, .int mk_, .int nu_, .int di_, .int br_, .int iff_, .long wo_, .ref 55, .ref 56, .int (nI m9), .int td_, .ref 57, .int na_, .ref 58, .ref 59, .ref 60, .ref 61, .ref 62, .ref 63, .int hs_, .ref 64, .int nf_]))) (e0 : m9 < 2147483648) (hd : 0 ≤ d) : bMt O mX11_isDoor d [.ref 50, .int x] (f, n, s) (.inl (some (.int (bI (inB x m9))))) (f, n, s) := by
  refine bMt_of (bCall_of (by decide) rfl (Nat.le_of_ble_eq_true rfl) ?_)
  show bV O _ d 0 [(0, .ref 50), (1, .int x)] [] (f, n, s) _
  refine r_iload_n (n := 1) (i := 1) 1 rfl rfl dX11_isDoor_0 ?_
  refine r_if_lt (tgt := 16) (by decide) dX11_isDoor_1 (fun c1 => ?_) (fun c1 => ?_)
  · refine r_iconst (v := 0) (by decide) dX11_isDoor_16 ?_
    refine r_zreturn rfl (by first | decide +kernel | exact narZ _ | assumption) dX11_isDoor_17 ?_
    refine ⟨?_, rfl⟩
    first | rw [inB_f1 c1, bI_f] | rw [inB_f2 c1 c9 e0, bI_f] | rw [inB_tt c1 c9 e0, bI_t]
  · refine r_iload_n (n := 1) (i := 1) 1 rfl rfl dX11_isDoor_4 ?_
    refine r_aload_n (n := 0) (i := 0) 0 rfl rfl dX11_isDoor_5 ?_
    refine p_get (fs := [.int th_, .int tr_, .int wh_, .int fl_, .int nm_, .ref 51, .ref q_, .ref 53, .ref 54, .int tp_, .int sz_, .int at_, .int so_, .int pl_, .int mk_, .int nu_, .int di_, .int br_, .int iff_, .long wo_, .ref 55, .ref 56, .int (nI m9), .int td_, .ref 57, .int na_, .ref 58, .ref 59, .ref 60, .ref 61, .ref 62, .ref 63, .int hs_, .ref 64, .int nf_]) flX11_267 h0 rfl dX11_isDoor_6 ?_
    refine r_icmp_ge (tgt := 16) (by decide) dX11_isDoor_9 (fun c9 => ?_) (fun c9 => ?_)
    · refine r_iconst (v := 0) (by decide) dX11_isDoor_16 ?_
      refine r_zreturn rfl (by first | decide +kernel | exact narZ _ | assumption) dX11_isDoor_17 ?_
      refine ⟨?_, rfl⟩
      first | rw [inB_f1 c1, bI_f] | rw [inB_f2 c1 c9 e0, bI_f] | rw [inB_tt c1 c9 e0, bI_t]
    · refine r_iconst (v := 1) (by decide) dX11_isDoor_12 ?_
      refine r_goto (tgt := 17) (by decide) dX11_isDoor_13 ?_
      refine r_zreturn rfl (by first | decide +kernel | exact narZ _ | assumption) dX11_isDoor_17 ?_
      refine ⟨?_, rfl⟩
      first | rw [inB_f1 c1, bI_f] | rw [inB_f2 c1 c9 e0, bI_f] | rw [inB_tt c1 c9 e0, bI_t]
set_option maxRecDepth 4000 in
theorem kX11_isAnswer {O : bO} {d : Nat} {f : bF} {n s : Nat} {th_ : Int32} {tr_ : Int32} {wh_ : Int32} {fl_ : Int32} {nm_ : Int32} {q_ : Nat} {tp_ : Int32} {sz_ : Int32} {at_ : Int32} {so_ : Int32} {pl_ : Int32} {mk_ : Int32} {nu_ : Int32} {di_ : Int32} {br_ : Int32} {iff_ : Int32} {wo_ : Int64} {nd_ : Int32} {td_ : Int32} {hs_ : Int32} {nf_ : Int32} {m9 : Nat} {x : Int32} (h0 : f 50 = some (.inr (11, [.int th_, .int tr_, .int wh_, .int fl_, .int nm_, .ref 51, .ref q_, .ref 53, .ref 54, .int tp_, .int sz_, .int at_, .int so_, .int pl_, .int mk_, .int nu_, .int di_, .int br_, .int iff_, .long wo_, .ref 55, .ref 56, .int nd_, .int td_, .ref 57, .int (nI m9), .ref 58, .ref 59, .ref 60, .ref 61, .ref 62, .ref 63, .int hs_, .ref 64, .int nf_]))) (e0 : m9 < 2147483648) (hd : 0 ≤ d) : bMt O mX11_isAnswer d [.ref 50, .int x] (f, n, s) (.inl (some (.int (bI (inB x m9))))) (f, n, s) := by
  refine bMt_of (bCall_of (by decide) rfl (Nat.le_of_ble_eq_true rfl) ?_)
  show bV O _ d 0 [(0, .ref 50), (1, .int x)] [] (f, n, s) _
  refine r_iload_n (n := 1) (i := 1) 1 rfl rfl dX11_isAnswer_0 ?_
  refine r_if_lt (tgt := 16) (by decide) dX11_isAnswer_1 (fun c1 => ?_) (fun c1 => ?_)
  · refine r_iconst (v := 0) (by decide) dX11_isAnswer_16 ?_
    refine r_zreturn rfl (by first | decide +kernel | exact narZ _ | assumption) dX11_isAnswer_17 ?_
    refine ⟨?_, rfl⟩
    first | rw [inB_f1 c1, bI_f] | rw [inB_f2 c1 c9 e0, bI_f] | rw [inB_tt c1 c9 e0, bI_t]
  · refine r_iload_n (n := 1) (i := 1) 1 rfl rfl dX11_isAnswer_4 ?_
    refine r_aload_n (n := 0) (i := 0) 0 rfl rfl dX11_isAnswer_5 ?_
    refine p_get (fs := [.int th_, .int tr_, .int wh_, .int fl_, .int nm_, .ref 51, .ref q_, .ref 53, .ref 54, .int tp_, .int sz_, .int at_, .int so_, .int pl_, .int mk_, .int nu_, .int di_, .int br_, .int iff_, .long wo_, .ref 55, .ref 56, .int nd_, .int td_, .ref 57, .int (nI m9), .ref 58, .ref 59, .ref 60, .ref 61, .ref 62, .ref 63, .int hs_, .ref 64, .int nf_]) flX11_313 h0 rfl dX11_isAnswer_6 ?_
    refine r_icmp_ge (tgt := 16) (by decide) dX11_isAnswer_9 (fun c9 => ?_) (fun c9 => ?_)
    · refine r_iconst (v := 0) (by decide) dX11_isAnswer_16 ?_
      refine r_zreturn rfl (by first | decide +kernel | exact narZ _ | assumption) dX11_isAnswer_17 ?_
      refine ⟨?_, rfl⟩
      first | rw [inB_f1 c1, bI_f] | rw [inB_f2 c1 c9 e0, bI_f] | rw [inB_tt c1 c9 e0, bI_t]
    · refine r_iconst (v := 1) (by decide) dX11_isAnswer_12 ?_
      refine r_goto (tgt := 17) (by decide) dX11_isAnswer_13 ?_
      refine r_zreturn rfl (by first | decide +kernel | exact narZ _ | assumption) dX11_isAnswer_17 ?_
      refine ⟨?_, rfl⟩
      first | rw [inB_f1 c1, bI_f] | rw [inB_f2 c1 c9 e0, bI_f] | rw [inB_tt c1 c9 e0, bI_t]
set_option maxRecDepth 4000 in
theorem kX11_bound {O : bO} {d : Nat} {f : bF} {n s : Nat} {v : Int64}   (hd : 1 ≤ d) : bMt O mX11_bound d [.long v] (f, n, s) (.inl (some (.int (jBd v)))) (f, n, s) := by
  refine bMt_of (bCall_of (by decide) rfl (Nat.le_of_ble_eq_true rfl) ?_)
  show bV O _ d 0 [(0, .long v)] [] (f, n, s) _
  refine r_ldc2 ckX11_235 dX11_bound_0 ?_
  refine r_ldc2 ckX11_237 dX11_bound_3 ?_
  refine r_lload_n (n := 0) (i := 0) 0 rfl rfl dX11_bound_6 ?_
  refine r_mminL (by omega) lkX11_239 (Nat.le_of_ble_eq_true rfl) dX11_bound_7 ?_
  refine r_mmaxL (by omega) lkX11_245 (Nat.le_of_ble_eq_true rfl) dX11_bound_10 ?_
  refine r_l2i dX11_bound_13 ?_
  refine r_ireturn rfl dX11_bound_14 ?_
  exact ⟨rfl, rfl⟩
set_option maxRecDepth 4000 in
theorem kX11_both {O : bO} {d : Nat} {f : bF} {n s : Nat} {y : Int32} {a : Int64} {b : Int64}   (hd : 2 ≤ d) : bMt O mX11_both d [.int y, .long a, .long b] (f, n, s) (.inl (some (.int (jBo y a b)))) (f, n, s) := by
  refine bMt_of (bCall_of (by decide) rfl (Nat.le_of_ble_eq_true rfl) ?_)
  show bV O _ d 0 [(0, .int y), (1, .long a), (3, .long b)] [] (f, n, s) _
  refine r_iload_n (n := 0) (i := 0) 0 rfl rfl dX11_both_0 ?_
  by_cases q2 : y = 2
  · refine r_tableIn (off := 47) (tgt := 48) dX11_both_1 (by rw [q2]; decide) (by rw [q2]; decide) (by rw [q2]; decide) (by decide) ?_
    refine r_lload_n (n := 1) (i := 1) 1 rfl rfl dX11_both_48 ?_
    refine r_lload_n (n := 3) (i := 3) 2 rfl rfl dX11_both_49 ?_
    refine r_ladd dX11_both_50 ?_
    refine p_callS (As := [.long (a + b)]) (rest := []) (kX11_bound (O := O) (d := 1) (f := f) (n := n) (s := s) (v := a + b)   (Nat.le_refl _)).call rfl lkX11_254 smX11_bound rfl rfl (by omega) (Nat.le_of_ble_eq_true rfl) dX11_both_51 (fun v9 G9 h9 => ?_) (fun q9 G9 h9 => (by cases h9.1))
    obtain ⟨h8, rfl⟩ := h9; cases h8
    show bV O _ d 54 [(0, .int y), (1, .long a), (3, .long b)] [.int (jBd (a + b))] (f, n, s) _
    refine r_ireturn rfl dX11_both_54 ?_
    refine ⟨?_, rfl⟩
    unfold jBo
    try (first | simp only [if_pos q2] | simp only [if_neg q2] | simp only [if_neg (Bool.eq_false_iff.mp q2)])
    all_goals first | rfl | (rw [q8]; rfl)
  · by_cases q3 : y = 3
    · refine r_tableIn (off := 54) (tgt := 55) dX11_both_1 (by rw [q3]; decide) (by rw [q3]; decide) (by rw [q3]; decide) (by decide) ?_
      refine r_lload_n (n := 1) (i := 1) 1 rfl rfl dX11_both_55 ?_
      refine r_lload_n (n := 3) (i := 3) 2 rfl rfl dX11_both_56 ?_
      refine r_lsub dX11_both_57 ?_
      refine p_callS (As := [.long (a - b)]) (rest := []) (kX11_bound (O := O) (d := 1) (f := f) (n := n) (s := s) (v := a - b)   (Nat.le_refl _)).call rfl lkX11_254 smX11_bound rfl rfl (by omega) (Nat.le_of_ble_eq_true rfl) dX11_both_58 (fun v9 G9 h9 => ?_) (fun q9 G9 h9 => (by cases h9.1))
      obtain ⟨h8, rfl⟩ := h9; cases h8
      show bV O _ d 61 [(0, .int y), (1, .long a), (3, .long b)] [.int (jBd (a - b))] (f, n, s) _
      refine r_ireturn rfl dX11_both_61 ?_
      refine ⟨?_, rfl⟩
      unfold jBo
      try (first | simp only [if_pos q2] | simp only [if_neg q2] | simp only [if_neg (Bool.eq_false_iff.mp q2)])
      try (first | simp only [if_pos q3] | simp only [if_neg q3] | simp only [if_neg (Bool.eq_false_iff.mp q3)])
      all_goals first | rfl | (rw [q8]; rfl)
    · by_cases q4 : y = 4
      · refine r_tableIn (off := 61) (tgt := 62) dX11_both_1 (by rw [q4]; decide) (by rw [q4]; decide) (by rw [q4]; decide) (by decide) ?_
        refine r_lload_n (n := 1) (i := 1) 1 rfl rfl dX11_both_62 ?_
        refine r_lload_n (n := 3) (i := 3) 2 rfl rfl dX11_both_63 ?_
        refine r_lmul dX11_both_64 ?_
        refine p_callS (As := [.long (a * b)]) (rest := []) (kX11_bound (O := O) (d := 1) (f := f) (n := n) (s := s) (v := a * b)   (Nat.le_refl _)).call rfl lkX11_254 smX11_bound rfl rfl (by omega) (Nat.le_of_ble_eq_true rfl) dX11_both_65 (fun v9 G9 h9 => ?_) (fun q9 G9 h9 => (by cases h9.1))
        obtain ⟨h8, rfl⟩ := h9; cases h8
        show bV O _ d 68 [(0, .int y), (1, .long a), (3, .long b)] [.int (jBd (a * b))] (f, n, s) _
        refine r_ireturn rfl dX11_both_68 ?_
        refine ⟨?_, rfl⟩
        unfold jBo
        try (first | simp only [if_pos q2] | simp only [if_neg q2] | simp only [if_neg (Bool.eq_false_iff.mp q2)])
        try (first | simp only [if_pos q3] | simp only [if_neg q3] | simp only [if_neg (Bool.eq_false_iff.mp q3)])
        try (first | simp only [if_pos q4] | simp only [if_neg q4] | simp only [if_neg (Bool.eq_false_iff.mp q4)])
        all_goals first | rfl | (rw [q8]; rfl)
      · by_cases q5 : y = 5
        · refine r_tableIn (off := 68) (tgt := 69) dX11_both_1 (by rw [q5]; decide) (by rw [q5]; decide) (by rw [q5]; decide) (by decide) ?_
          refine r_lload_n (n := 1) (i := 1) 1 rfl rfl dX11_both_69 ?_
          refine r_lload_n (n := 3) (i := 3) 2 rfl rfl dX11_both_70 ?_
          refine r_lcmp dX11_both_71 ?_
          refine r_if_ge (tgt := 79) (by decide) dX11_both_72 (fun c72 => ?_) (fun c72 => ?_)
          · have c72 := (lg_cmp_ge _ _).mp c72
            refine r_iconst (v := 0) (by decide) dX11_both_79 ?_
            refine r_ireturn rfl dX11_both_80 ?_
            refine ⟨?_, rfl⟩
            unfold jBo
            try (first | simp only [if_pos q2] | simp only [if_neg q2] | simp only [if_neg (Bool.eq_false_iff.mp q2)])
            try (first | simp only [if_pos q3] | simp only [if_neg q3] | simp only [if_neg (Bool.eq_false_iff.mp q3)])
            try (first | simp only [if_pos q4] | simp only [if_neg q4] | simp only [if_neg (Bool.eq_false_iff.mp q4)])
            try (first | simp only [if_pos q5] | simp only [if_neg q5] | simp only [if_neg (Bool.eq_false_iff.mp q5)])
            try (first | simp only [if_pos c72] | simp only [if_neg c72] | simp only [if_neg (Bool.eq_false_iff.mp c72)])
            all_goals first | rfl | (rw [q8]; rfl)
          · have c72 : ¬ b ≤ a := fun h7 => c72 ((lg_cmp_ge _ _).mpr h7)
            refine r_iconst (v := 1) (by decide) dX11_both_75 ?_
            refine r_goto (tgt := 80) (by decide) dX11_both_76 ?_
            refine r_ireturn rfl dX11_both_80 ?_
            refine ⟨?_, rfl⟩
            unfold jBo
            try (first | simp only [if_pos q2] | simp only [if_neg q2] | simp only [if_neg (Bool.eq_false_iff.mp q2)])
            try (first | simp only [if_pos q3] | simp only [if_neg q3] | simp only [if_neg (Bool.eq_false_iff.mp q3)])
            try (first | simp only [if_pos q4] | simp only [if_neg q4] | simp only [if_neg (Bool.eq_false_iff.mp q4)])
            try (first | simp only [if_pos q5] | simp only [if_neg q5] | simp only [if_neg (Bool.eq_false_iff.mp q5)])
            try (first | simp only [if_pos c72] | simp only [if_neg c72] | simp only [if_neg (Bool.eq_false_iff.mp c72)])
            all_goals first | rfl | (rw [q8]; rfl)
        · by_cases q6 : y = 6
          · refine r_tableIn (off := 80) (tgt := 81) dX11_both_1 (by rw [q6]; decide) (by rw [q6]; decide) (by rw [q6]; decide) (by decide) ?_
            refine r_lload_n (n := 1) (i := 1) 1 rfl rfl dX11_both_81 ?_
            refine r_lload_n (n := 3) (i := 3) 2 rfl rfl dX11_both_82 ?_
            refine r_lcmp dX11_both_83 ?_
            refine r_if_le (tgt := 91) (by decide) dX11_both_84 (fun c84 => ?_) (fun c84 => ?_)
            · have c84 := (lg_cmp_le _ _).mp c84
              refine r_iconst (v := 0) (by decide) dX11_both_91 ?_
              refine r_ireturn rfl dX11_both_92 ?_
              refine ⟨?_, rfl⟩
              unfold jBo
              try (first | simp only [if_pos q2] | simp only [if_neg q2] | simp only [if_neg (Bool.eq_false_iff.mp q2)])
              try (first | simp only [if_pos q3] | simp only [if_neg q3] | simp only [if_neg (Bool.eq_false_iff.mp q3)])
              try (first | simp only [if_pos q4] | simp only [if_neg q4] | simp only [if_neg (Bool.eq_false_iff.mp q4)])
              try (first | simp only [if_pos q5] | simp only [if_neg q5] | simp only [if_neg (Bool.eq_false_iff.mp q5)])
              try (first | simp only [if_pos q6] | simp only [if_neg q6] | simp only [if_neg (Bool.eq_false_iff.mp q6)])
              try (first | simp only [if_pos c84] | simp only [if_neg c84] | simp only [if_neg (Bool.eq_false_iff.mp c84)])
              all_goals first | rfl | (rw [q8]; rfl)
            · have c84 : ¬ a ≤ b := fun h7 => c84 ((lg_cmp_le _ _).mpr h7)
              refine r_iconst (v := 1) (by decide) dX11_both_87 ?_
              refine r_goto (tgt := 92) (by decide) dX11_both_88 ?_
              refine r_ireturn rfl dX11_both_92 ?_
              refine ⟨?_, rfl⟩
              unfold jBo
              try (first | simp only [if_pos q2] | simp only [if_neg q2] | simp only [if_neg (Bool.eq_false_iff.mp q2)])
              try (first | simp only [if_pos q3] | simp only [if_neg q3] | simp only [if_neg (Bool.eq_false_iff.mp q3)])
              try (first | simp only [if_pos q4] | simp only [if_neg q4] | simp only [if_neg (Bool.eq_false_iff.mp q4)])
              try (first | simp only [if_pos q5] | simp only [if_neg q5] | simp only [if_neg (Bool.eq_false_iff.mp q5)])
              try (first | simp only [if_pos q6] | simp only [if_neg q6] | simp only [if_neg (Bool.eq_false_iff.mp q6)])
              try (first | simp only [if_pos c84] | simp only [if_neg c84] | simp only [if_neg (Bool.eq_false_iff.mp c84)])
              all_goals first | rfl | (rw [q8]; rfl)
          · by_cases q7 : y = 7
            · refine r_tableIn (off := 92) (tgt := 93) dX11_both_1 (by rw [q7]; decide) (by rw [q7]; decide) (by rw [q7]; decide) (by decide) ?_
              refine r_lload_n (n := 1) (i := 1) 1 rfl rfl dX11_both_93 ?_
              refine r_lload_n (n := 3) (i := 3) 2 rfl rfl dX11_both_94 ?_
              refine r_lcmp dX11_both_95 ?_
              refine r_if_ne (tgt := 103) (by decide) dX11_both_96 (fun c96 => ?_) (fun c96 => ?_)
              · have c96 : ¬ a = b := fun h7 => c96 ((lg_cmp_eq _ _).mpr h7)
                refine r_iconst (v := 0) (by decide) dX11_both_103 ?_
                refine r_ireturn rfl dX11_both_104 ?_
                refine ⟨?_, rfl⟩
                unfold jBo
                try (first | simp only [if_pos q2] | simp only [if_neg q2] | simp only [if_neg (Bool.eq_false_iff.mp q2)])
                try (first | simp only [if_pos q3] | simp only [if_neg q3] | simp only [if_neg (Bool.eq_false_iff.mp q3)])
                try (first | simp only [if_pos q4] | simp only [if_neg q4] | simp only [if_neg (Bool.eq_false_iff.mp q4)])
                try (first | simp only [if_pos q5] | simp only [if_neg q5] | simp only [if_neg (Bool.eq_false_iff.mp q5)])
                try (first | simp only [if_pos q6] | simp only [if_neg q6] | simp only [if_neg (Bool.eq_false_iff.mp q6)])
                try (first | simp only [if_pos q7] | simp only [if_neg q7] | simp only [if_neg (Bool.eq_false_iff.mp q7)])
                try (first | simp only [if_pos c96] | simp only [if_neg c96] | simp only [if_neg (Bool.eq_false_iff.mp c96)])
                all_goals first | rfl | (rw [q8]; rfl)
              · have c96 := (lg_cmp_eq _ _).mp c96
                refine r_iconst (v := 1) (by decide) dX11_both_99 ?_
                refine r_goto (tgt := 104) (by decide) dX11_both_100 ?_
                refine r_ireturn rfl dX11_both_104 ?_
                refine ⟨?_, rfl⟩
                unfold jBo
                try (first | simp only [if_pos q2] | simp only [if_neg q2] | simp only [if_neg (Bool.eq_false_iff.mp q2)])
                try (first | simp only [if_pos q3] | simp only [if_neg q3] | simp only [if_neg (Bool.eq_false_iff.mp q3)])
                try (first | simp only [if_pos q4] | simp only [if_neg q4] | simp only [if_neg (Bool.eq_false_iff.mp q4)])
                try (first | simp only [if_pos q5] | simp only [if_neg q5] | simp only [if_neg (Bool.eq_false_iff.mp q5)])
                try (first | simp only [if_pos q6] | simp only [if_neg q6] | simp only [if_neg (Bool.eq_false_iff.mp q6)])
                try (first | simp only [if_pos q7] | simp only [if_neg q7] | simp only [if_neg (Bool.eq_false_iff.mp q7)])
                try (first | simp only [if_pos c96] | simp only [if_neg c96] | simp only [if_neg (Bool.eq_false_iff.mp c96)])
                all_goals first | rfl | (rw [q8]; rfl)
            · by_cases q8 : y = 8
              · refine r_tableIn (off := 111) (tgt := 112) dX11_both_1 (by rw [q8]; decide) (by rw [q8]; decide) (by rw [q8]; decide) (by decide) ?_
                refine r_lload_n (n := 1) (i := 1) 1 rfl rfl dX11_both_112 ?_
                refine r_lload_n (n := 3) (i := 3) 2 rfl rfl dX11_both_113 ?_
                refine r_mmaxL (by omega) lkX11_245 (Nat.le_of_ble_eq_true rfl) dX11_both_114 ?_
                refine r_l2i dX11_both_117 ?_
                refine r_ireturn rfl dX11_both_118 ?_
                refine ⟨?_, rfl⟩
                unfold jBo
                try (first | simp only [if_pos q2] | simp only [if_neg q2] | simp only [if_neg (Bool.eq_false_iff.mp q2)])
                try (first | simp only [if_pos q3] | simp only [if_neg q3] | simp only [if_neg (Bool.eq_false_iff.mp q3)])
                try (first | simp only [if_pos q4] | simp only [if_neg q4] | simp only [if_neg (Bool.eq_false_iff.mp q4)])
                try (first | simp only [if_pos q5] | simp only [if_neg q5] | simp only [if_neg (Bool.eq_false_iff.mp q5)])
                try (first | simp only [if_pos q6] | simp only [if_neg q6] | simp only [if_neg (Bool.eq_false_iff.mp q6)])
                try (first | simp only [if_pos q7] | simp only [if_neg q7] | simp only [if_neg (Bool.eq_false_iff.mp q7)])
                try (first | simp only [if_pos q8] | simp only [if_neg q8] | simp only [if_neg (Bool.eq_false_iff.mp q8)])
                all_goals first | rfl | (rw [q8]; rfl)
              · by_cases q9 : y = 9
                · refine r_tableIn (off := 104) (tgt := 105) dX11_both_1 (by rw [q9]; decide) (by rw [q9]; decide) (by rw [q9]; decide) (by decide) ?_
                  refine r_lload_n (n := 1) (i := 1) 1 rfl rfl dX11_both_105 ?_
                  refine r_lload_n (n := 3) (i := 3) 2 rfl rfl dX11_both_106 ?_
                  refine r_mminL (by omega) lkX11_239 (Nat.le_of_ble_eq_true rfl) dX11_both_107 ?_
                  refine r_l2i dX11_both_110 ?_
                  refine r_ireturn rfl dX11_both_111 ?_
                  refine ⟨?_, rfl⟩
                  unfold jBo
                  try (first | simp only [if_pos q2] | simp only [if_neg q2] | simp only [if_neg (Bool.eq_false_iff.mp q2)])
                  try (first | simp only [if_pos q3] | simp only [if_neg q3] | simp only [if_neg (Bool.eq_false_iff.mp q3)])
                  try (first | simp only [if_pos q4] | simp only [if_neg q4] | simp only [if_neg (Bool.eq_false_iff.mp q4)])
                  try (first | simp only [if_pos q5] | simp only [if_neg q5] | simp only [if_neg (Bool.eq_false_iff.mp q5)])
                  try (first | simp only [if_pos q6] | simp only [if_neg q6] | simp only [if_neg (Bool.eq_false_iff.mp q6)])
                  try (first | simp only [if_pos q7] | simp only [if_neg q7] | simp only [if_neg (Bool.eq_false_iff.mp q7)])
                  try (first | simp only [if_pos q8] | simp only [if_neg q8] | simp only [if_neg (Bool.eq_false_iff.mp q8)])
                  try (first | simp only [if_pos q9] | simp only [if_neg q9] | simp only [if_neg (Bool.eq_false_iff.mp q9)])
                  all_goals first | rfl | (rw [q8]; rfl)
                · refine r_tableOut (tgt := 112) dX11_both_1 (tbO29 y q2 q3 q4 q5 q6 q7 q8 q9) (by decide) ?_
                  refine r_lload_n (n := 1) (i := 1) 1 rfl rfl dX11_both_112 ?_
                  refine r_lload_n (n := 3) (i := 3) 2 rfl rfl dX11_both_113 ?_
                  refine r_mmaxL (by omega) lkX11_245 (Nat.le_of_ble_eq_true rfl) dX11_both_114 ?_
                  refine r_l2i dX11_both_117 ?_
                  refine r_ireturn rfl dX11_both_118 ?_
                  refine ⟨?_, rfl⟩
                  unfold jBo
                  try (first | simp only [if_pos q2] | simp only [if_neg q2] | simp only [if_neg (Bool.eq_false_iff.mp q2)])
                  try (first | simp only [if_pos q3] | simp only [if_neg q3] | simp only [if_neg (Bool.eq_false_iff.mp q3)])
                  try (first | simp only [if_pos q4] | simp only [if_neg q4] | simp only [if_neg (Bool.eq_false_iff.mp q4)])
                  try (first | simp only [if_pos q5] | simp only [if_neg q5] | simp only [if_neg (Bool.eq_false_iff.mp q5)])
                  try (first | simp only [if_pos q6] | simp only [if_neg q6] | simp only [if_neg (Bool.eq_false_iff.mp q6)])
                  try (first | simp only [if_pos q7] | simp only [if_neg q7] | simp only [if_neg (Bool.eq_false_iff.mp q7)])
                  try (first | simp only [if_pos q8] | simp only [if_neg q8] | simp only [if_neg (Bool.eq_false_iff.mp q8)])
                  try (first | simp only [if_pos q9] | simp only [if_neg q9] | simp only [if_neg (Bool.eq_false_iff.mp q9)])
                  all_goals first | rfl | (rw [q8]; rfl)
set_option maxRecDepth 4000 in
theorem kX11_binOf {O : bO} {d : Nat} {f : bF} {n s : Nat} {v : Int32}   (hd : 0 ≤ d) : bMt O mX11_binOf d [.int v] (f, n, s) (.inl (some (.int (nI (jBn v))))) (f, n, s) := by
  refine bMt_of (bCall_of (by decide) rfl (Nat.le_of_ble_eq_true rfl) ?_)
  show bV O _ d 0 [(0, .int v)] [] (f, n, s) _
  refine r_iload_n (n := 0) (i := 0) 0 rfl rfl dX11_binOf_0 ?_
  refine r_sipush (v := (-500)) (by decide) dX11_binOf_1 ?_
  refine r_icmp_ge (tgt := 11) (by decide) dX11_binOf_4 (fun c4 => ?_) (fun c4 => ?_)
  · refine r_iload_n (n := 0) (i := 0) 0 rfl rfl dX11_binOf_11 ?_
    refine r_if_ge (tgt := 19) (by decide) dX11_binOf_12 (fun c12 => ?_) (fun c12 => ?_)
    · refine r_iload_n (n := 0) (i := 0) 0 rfl rfl dX11_binOf_19 ?_
      refine r_sipush (v := 500) (by decide) dX11_binOf_20 ?_
      refine r_icmp_ge (tgt := 30) (by decide) dX11_binOf_23 (fun c23 => ?_) (fun c23 => ?_)
      · refine r_iconst (v := 3) (by decide) dX11_binOf_30 ?_
        refine r_ireturn rfl dX11_binOf_31 ?_
        refine ⟨?_, rfl⟩
        unfold jBn
        try (first | simp only [if_pos c4] | simp only [if_neg c4] | simp only [if_neg (Bool.eq_false_iff.mp c4)])
        try (first | simp only [if_pos c12] | simp only [if_neg c12] | simp only [if_neg (Bool.eq_false_iff.mp c12)])
        try (first | simp only [if_pos c23] | simp only [if_neg c23] | simp only [if_neg (Bool.eq_false_iff.mp c23)])
        all_goals first | rfl | decide
      · refine r_iconst (v := 2) (by decide) dX11_binOf_26 ?_
        refine r_goto (tgt := 31) (by decide) dX11_binOf_27 ?_
        refine r_ireturn rfl dX11_binOf_31 ?_
        refine ⟨?_, rfl⟩
        unfold jBn
        try (first | simp only [if_pos c4] | simp only [if_neg c4] | simp only [if_neg (Bool.eq_false_iff.mp c4)])
        try (first | simp only [if_pos c12] | simp only [if_neg c12] | simp only [if_neg (Bool.eq_false_iff.mp c12)])
        try (first | simp only [if_pos c23] | simp only [if_neg c23] | simp only [if_neg (Bool.eq_false_iff.mp c23)])
        all_goals first | rfl | decide
    · refine r_iconst (v := 1) (by decide) dX11_binOf_15 ?_
      refine r_goto (tgt := 31) (by decide) dX11_binOf_16 ?_
      refine r_ireturn rfl dX11_binOf_31 ?_
      refine ⟨?_, rfl⟩
      unfold jBn
      try (first | simp only [if_pos c4] | simp only [if_neg c4] | simp only [if_neg (Bool.eq_false_iff.mp c4)])
      try (first | simp only [if_pos c12] | simp only [if_neg c12] | simp only [if_neg (Bool.eq_false_iff.mp c12)])
      all_goals first | rfl | decide
  · refine r_iconst (v := 0) (by decide) dX11_binOf_7 ?_
    refine r_goto (tgt := 31) (by decide) dX11_binOf_8 ?_
    refine r_ireturn rfl dX11_binOf_31 ?_
    refine ⟨?_, rfl⟩
    unfold jBn
    try (first | simp only [if_pos c4] | simp only [if_neg c4] | simp only [if_neg (Bool.eq_false_iff.mp c4)])
    all_goals first | rfl | decide
set_option maxRecDepth 4000 in
theorem kX11_noRival {O : bO} {d : Nat} {f : bF} {n s : Nat} {ch_ : Int32} {rv_ : Int32} {sh_ : Int32} {rf_ : Int32} {bk_ : Int32} {kp_ : Int32} {q : Nat} (h0 : f q = some (.inr (8, [.int ch_, .int rv_, .int sh_, .int rf_, .int bk_, .int kp_, .ref (q + 1), .ref (q + 2), .ref (q + 3), .ref (q + 4), .ref (q + 5)])))  (hd : 0 ≤ d) : bMt O mX11_noRival d [.ref 50, .ref q] (f, n, s) (.inl none) (bU f q (.inr (8, [.int ch_, .int (-2), .int 0, .int rf_, .int bk_, .int kp_, .ref (q + 1), .ref (q + 2), .ref (q + 3), .ref (q + 4), .ref (q + 5)])), n, s) := by
  refine bMt_of (bCall_of (by decide) rfl (Nat.le_of_ble_eq_true rfl) ?_)
  show bV O _ d 0 [(0, .ref 50), (1, .ref q)] [] (f, n, s) _
  refine r_aload_n (n := 1) (i := 1) 1 rfl rfl dX11_noRival_0 ?_
  refine r_bipush (v := (-2)) (by decide) dX11_noRival_1 ?_
  refine p_put (fs := [.int ch_, .int rv_, .int sh_, .int rf_, .int bk_, .int kp_, .ref (q + 1), .ref (q + 2), .ref (q + 3), .ref (q + 4), .ref (q + 5)]) (fs' := [.int ch_, .int (-2), .int sh_, .int rf_, .int bk_, .int kp_, .ref (q + 1), .ref (q + 2), .ref (q + 3), .ref (q + 4), .ref (q + 5)]) flX11_280 h0 (Nat.le_of_ble_eq_true rfl) (bNf_i _) rfl dX11_noRival_3 ?_
  refine r_aload_n (n := 1) (i := 1) 1 rfl rfl dX11_noRival_6 ?_
  refine r_iconst (v := 0) (by decide) dX11_noRival_7 ?_
  refine p_put (fs := [.int ch_, .int (-2), .int sh_, .int rf_, .int bk_, .int kp_, .ref (q + 1), .ref (q + 2), .ref (q + 3), .ref (q + 4), .ref (q + 5)]) (fs' := [.int ch_, .int (-2), .int 0, .int rf_, .int bk_, .int kp_, .ref (q + 1), .ref (q + 2), .ref (q + 3), .ref (q + 4), .ref (q + 5)]) flX11_283 (by exact bU_s _ _ _) (Nat.le_of_ble_eq_true rfl) (bNf_i _) rfl dX11_noRival_8 ?_
  refine bV_h (f2 := bU f q (.inr (8, [.int ch_, .int (-2), .int 0, .int rf_, .int bk_, .int kp_, .ref (q + 1), .ref (q + 2), .ref (q + 3), .ref (q + 4), .ref (q + 5)]))) (bU_u _ _ _ _) ?_
  refine r_return rfl dX11_noRival_11 ?_
  refine ⟨?_, ?_⟩ <;> first | rfl | (simp []; done)
set_option maxRecDepth 4000 in
theorem kX11_crowned {O : bO} {d : Nat} {f : bF} {n s : Nat} {th_ : Int32} {tr_ : Int32} {wh_ : Int32} {fl_ : Int32} {nm_ : Int32} {tp_ : Int32} {sz_ : Int32} {at_ : Int32} {so_ : Int32} {pl_ : Int32} {mk_ : Int32} {nu_ : Int32} {di_ : Int32} {br_ : Int32} {iff_ : Int32} {wo_ : Int64} {nd_ : Int32} {na_ : Int32} {hs_ : Int32} {nf_ : Int32} {q9 : Nat} {ch_ : Int32} {rv_ : Int32} {sh_ : Int32} {rf_ : Int32} {bk_ : Int32} {kp_ : Int32} {q : Nat} {t9 : Nat} {m : Int32} {dy : Nat → Int32} (h0 : f q = some (.inr (8, [.int ch_, .int rv_, .int sh_, .int rf_, .int bk_, .int kp_, .ref (q + 1), .ref (q + 2), .ref (q + 3), .ref (q + 4), .ref (q + 5)]))) (h1 : f (q + 4) = some (.inl (0, 2001, .inl dy))) (h2 : f 50 = some (.inr (11, [.int th_, .int tr_, .int wh_, .int fl_, .int nm_, .ref 51, .ref q9, .ref 53, .ref 54, .int tp_, .int sz_, .int at_, .int so_, .int pl_, .int mk_, .int nu_, .int di_, .int br_, .int iff_, .long wo_, .ref 55, .ref 56, .int nd_, .int (nI t9), .ref 57, .int na_, .ref 58, .ref 59, .ref 60, .ref 61, .ref 62, .ref 63, .int hs_, .ref 64, .int nf_]))) (e0 : 6000 ≤ q) (e1 : t9 ≤ 2000) (hd : 0 ≤ d) : bMt O mX11_crowned d [.ref 50, .ref q, .int m] (f, n, s) (.inl none) (bU (bU f q (.inr (8, [.int m, .int rv_, .int sh_, .int rf_, .int bk_, .int kp_, .ref (q + 1), .ref (q + 2), .ref (q + 3), .ref (q + 4), .ref (q + 5)]))) (q + 4) (.inl (0, 2001, .inl (upd dy t9 m))), n, s) := by
  refine bMt_of (bCall_of (by decide) rfl (Nat.le_of_ble_eq_true rfl) ?_)
  show bV O _ d 0 [(0, .ref 50), (1, .ref q), (2, .int m)] [] (f, n, s) _
  refine r_aload_n (n := 1) (i := 1) 1 rfl rfl dX11_crowned_0 ?_
  refine r_iload_n (n := 2) (i := 2) 2 rfl rfl dX11_crowned_1 ?_
  refine p_put (fs := [.int ch_, .int rv_, .int sh_, .int rf_, .int bk_, .int kp_, .ref (q + 1), .ref (q + 2), .ref (q + 3), .ref (q + 4), .ref (q + 5)]) (fs' := [.int m, .int rv_, .int sh_, .int rf_, .int bk_, .int kp_, .ref (q + 1), .ref (q + 2), .ref (q + 3), .ref (q + 4), .ref (q + 5)]) flX11_286 h0 (Nat.le_of_ble_eq_true rfl) (bNf_i _) rfl dX11_crowned_2 ?_
  refine r_aload_n (n := 1) (i := 1) 1 rfl rfl dX11_crowned_5 ?_
  refine p_get (fs := [.int m, .int rv_, .int sh_, .int rf_, .int bk_, .int kp_, .ref (q + 1), .ref (q + 2), .ref (q + 3), .ref (q + 4), .ref (q + 5)]) flX11_289 (by exact bU_s _ _ _) rfl dX11_crowned_6 ?_
  refine r_aload_n (n := 0) (i := 0) 0 rfl rfl dX11_crowned_9 ?_
  refine p_get (fs := [.int th_, .int tr_, .int wh_, .int fl_, .int nm_, .ref 51, .ref q9, .ref 53, .ref 54, .int tp_, .int sz_, .int at_, .int so_, .int pl_, .int mk_, .int nu_, .int di_, .int br_, .int iff_, .long wo_, .ref 55, .ref 56, .int nd_, .int (nI t9), .ref 57, .int na_, .ref 58, .ref 59, .ref 60, .ref 61, .ref 62, .ref 63, .int hs_, .ref 64, .int nf_]) flX11_292 (by exact ((bU_n (by omega)).trans (h2))) rfl dX11_crowned_10 ?_
  refine r_iload_n (n := 2) (i := 2) 2 rfl rfl dX11_crowned_13 ?_
  refine p_iastN (t := t9) (by exact ((bU_n (by omega)).trans (h1))) (by omega) (by omega) dX11_crowned_14 ?_
  refine r_return rfl dX11_crowned_15 ?_
  refine ⟨?_, ?_⟩ <;> first | rfl | (simp []; done)
set_option maxRecDepth 4000 in
theorem kX9_init {O : bO} {d : Nat} {f : bF} {n s : Nat} {q : Nat} (h0 : f q = some (.inr (9, [.int 0, .int 0, .int 0, .null, .null]))) (e0 : 1000 ≤ q) (e1 : f (q + 1) = none) (e2 : f (q + 2) = none) (hd : 1 ≤ d) : bMt O mX9_init d [.ref q] (f, n, s) (.inl none) (bU (bU (bU f (q + 1) (.inl (0, 122, .inl (fun _ => 0)))) (q + 2) (.inl (0, 122, .inl (fun _ => 0)))) q (.inr (9, [.int 0, .int 0, .int 0, .ref (q + 1), .ref (q + 2)])), n + 1 + 1, s + 122 + 122) := by
  refine bMt_of (bCall_of (by decide) rfl (Nat.le_of_ble_eq_true rfl) ?_)
  show bV O _ d 0 [(0, .ref q)] [] (f, n, s) _
  refine r_aload_n (n := 0) (i := 0) 0 rfl rfl dX9_init_0 ?_
  refine r_objInit (by omega) loX9_3 imObj cdObj (Nat.le_of_ble_eq_true rfl) dX9_init_1 ?_
  refine r_aload_n (n := 0) (i := 0) 0 rfl rfl dX9_init_4 ?_
  refine r_bipush (v := 122) (by decide) dX9_init_5 ?_
  refine p_newa (at9 := .int) (ty := .int) (kd := 0) (n := 122) (a0 := (122, .inl (fun _ => 0))) (q + 1) rfl rfl ac_int (fun _ => rfl) (fun _ _ _ => ⟨rfl, trivial⟩) (by decide) (by decide) (by decide) e1 (by omega) dX9_init_7 ?_
  refine p_putF (fs := [.int 0, .int 0, .int 0, .null, .null]) (fs' := [.int 0, .int 0, .int 0, .ref (q + 1), .null]) fdX9_9 rfl (by exact ((bU_n (by omega)).trans (h0))) (Nat.le_of_ble_eq_true rfl) (bNf_a _ _) rfl dX9_init_9 ?_
  refine r_aload_n (n := 0) (i := 0) 0 rfl rfl dX9_init_12 ?_
  refine r_bipush (v := 122) (by decide) dX9_init_13 ?_
  refine p_newa (at9 := .int) (ty := .int) (kd := 0) (n := 122) (a0 := (122, .inl (fun _ => 0))) (q + 2) rfl rfl ac_int (fun _ => rfl) (fun _ _ _ => ⟨rfl, trivial⟩) (by decide) (by decide) (by decide) (by exact ((bU_n (by omega)).trans (((bU_n (by omega)).trans (e2))))) (by omega) dX9_init_15 ?_
  refine p_putF (fs := [.int 0, .int 0, .int 0, .ref (q + 1), .null]) (fs' := [.int 0, .int 0, .int 0, .ref (q + 1), .ref (q + 2)]) fdX9_15 rfl (by exact ((bU_n (by omega)).trans (bU_s _ _ _))) (Nat.le_of_ble_eq_true rfl) (bNf_a _ _) rfl dX9_init_17 ?_
  refine bV_h (f2 := bU (bU (bU f (q + 1) (.inl (0, 122, .inl (fun _ => 0)))) q (.inr (9, [.int 0, .int 0, .int 0, .ref (q + 1), .ref (q + 2)]))) (q + 2) (.inl (0, 122, .inl (fun _ => 0)))) (((bU_c (by omega)).trans (congrArg (fun z => bU z (q + 2) (.inl (0, 122, .inl (fun _ => 0)))) (bU_u _ _ _ _)))) ?_
  refine r_return rfl dX9_init_20 ?_
  refine ⟨rfl, ?_⟩
  simp only [Prod.mk.injEq, and_true]
  funext z; simp only [bU]; repeat (first | rfl | omega | split)
/-- the first k set to v -/
def fil (g : Nat → Int32) (v : Int32) (k : Nat) : Nat → Int32 := fun j => if j < k then v else g j
theorem fil_s {g : Nat → Int32} {v : Int32} {k : Nat} : upd (fil g v k) k v = fil g v (k + 1) := by
  funext j
  by_cases h : j = k
  · subst h
    rw [pk_us]
    unfold fil
    rw [if_pos (by omega)]
  · rw [pk_un h]
    unfold fil
    by_cases h2 : j < k
    · rw [if_pos h2, if_pos (by omega)]
    · rw [if_neg h2, if_neg (by omega)]
theorem fil_0 {g : Nat → Int32} {v : Int32} : fil g v 0 = g := by
  funext j
  unfold fil
  rw [if_neg (by omega)]
theorem lp_d2 {O : bO} {d : Nat} {f : bF} {n s q : Nat} (h0 : f q = some (.inr (8, [.int (-2), .int (-2), .int 0, .int 0, .int 0, .int 0, .ref (q + 1), .ref (q + 2), .ref (q + 3), .ref (q + 4), .ref (q + 5)]))) (hd : 0 ≤ d) : ∀ (m k : Nat), k + m = 2001 → bV O mX8_init d 91 [(1, .int (nI k)), (0, .ref q)] [] (bU f (q + 4) (.inl (0, 2001, .inl (fil (fun _ => 0) (-2) k))), n, s) (fun r G' => r = .inl none ∧ G' = (bU f (q + 4) (.inl (0, 2001, .inl (fil (fun _ => 0) (-2) 2001))), n, s)) := by
  intro m
  induction m with
  | zero =>
    intro k hk
    show bV O _ d 91 [(1, .int (nI k)), (0, .ref q)] [] (bU f (q + 4) (.inl (0, 2001, .inl (fil (fun _ => 0) (-2) k))), n, s) _
    refine r_iload_n (n := 1) (i := 1) 0 rfl rfl dX8_init_91 ?_
    refine r_sipush (v := 2000) (by decide) dX8_init_92 ?_
    refine r_icmp_gt (tgt := 112) (by decide) dX8_init_95 (fun _ => ?_) (fun h9 => absurd ((nI_ltI (a := 2000) (b := k) (by omega) (by omega)).mpr (by omega)) h9)
    refine r_return rfl dX8_init_112 ?_
    have : k = 2001 := by omega
    subst this
    exact ⟨rfl, rfl⟩
  | succ m ih =>
    intro k hk
    show bV O _ d 91 [(1, .int (nI k)), (0, .ref q)] [] (bU f (q + 4) (.inl (0, 2001, .inl (fil (fun _ => 0) (-2) k))), n, s) _
    refine r_iload_n (n := 1) (i := 1) 0 rfl rfl dX8_init_91 ?_
    refine r_sipush (v := 2000) (by decide) dX8_init_92 ?_
    refine r_icmp_gt (tgt := 112) (by decide) dX8_init_95 (fun h9 => absurd h9 (fun h7 => absurd ((nI_ltI (a := 2000) (b := k) (by omega) (by omega)).mp h7) (by omega))) (fun _ => ?_)
    refine r_aload_n (n := 0) (i := 0) 1 rfl rfl dX8_init_98 ?_
    refine p_get (fs := [.int (-2), .int (-2), .int 0, .int 0, .int 0, .int 0, .ref (q + 1), .ref (q + 2), .ref (q + 3), .ref (q + 4), .ref (q + 5)]) flX8_28 (by exact ((bU_n (by omega)).trans (h0))) rfl dX8_init_99 ?_
    refine r_iload_n (n := 1) (i := 1) 0 rfl rfl dX8_init_102 ?_
    refine r_bipush (v := (-2)) (by decide) dX8_init_103 ?_
    refine p_iastN (t := k) (by exact bU_s _ _ _) (by omega) (by omega) dX8_init_105 ?_
    refine bV_h (f2 := bU f (q + 4) (.inl (0, 2001, .inl (upd (fil (fun _ => 0) (-2) k) k (-2))))) (bU_u _ _ _ _) ?_
    refine r_iinc (i := 1) (v := nI (k + 1)) (L' := [(1, .int (nI (k + 1))), (0, .ref q)]) 0 rfl (nI_inc1 k) dX8_init_106 (by decide) rfl ?_
    refine r_goto (tgt := 91) (by decide) dX8_init_109 ?_
    rw [fil_s]; exact ih (k + 1) (by omega)
theorem lp_d1 {O : bO} {d : Nat} {f : bF} {n s q : Nat} (h0 : f q = some (.inr (8, [.int (-2), .int (-2), .int 0, .int 0, .int 0, .int 0, .ref (q + 1), .ref (q + 2), .ref (q + 3), .ref (q + 4), .ref (q + 5)]))) (h4 : f (q + 4) = some (.inl (0, 2001, .inl (fun _ => 0)))) (hd : 0 ≤ d) : ∀ (m k : Nat), k + m = 6 → bV O mX8_init d 59 [(1, .int (nI k)), (0, .ref q)] [] (bU (bU f (q + 1) (.inl (0, 6, .inl (fil (fun _ => 0) (-1000) k)))) (q + 2) (.inl (0, 6, .inl (fil (fun _ => 0) 1000 k))), n, s) (fun r G' => r = .inl none ∧ G' = (bU (bU (bU f (q + 1) (.inl (0, 6, .inl (fil (fun _ => 0) (-1000) 6)))) (q + 2) (.inl (0, 6, .inl (fil (fun _ => 0) 1000 6)))) (q + 4) (.inl (0, 2001, .inl (fil (fun _ => 0) (-2) 2001))), n, s)) := by
  intro m
  induction m with
  | zero =>
    intro k hk
    show bV O _ d 59 [(1, .int (nI k)), (0, .ref q)] [] (bU (bU f (q + 1) (.inl (0, 6, .inl (fil (fun _ => 0) (-1000) k)))) (q + 2) (.inl (0, 6, .inl (fil (fun _ => 0) 1000 k))), n, s) _
    refine r_iload_n (n := 1) (i := 1) 0 rfl rfl dX8_init_59 ?_
    refine r_bipush (v := 6) (by decide) dX8_init_60 ?_
    refine r_icmp_ge (tgt := 89) (by decide) dX8_init_62 (fun _ => ?_) (fun h9 => absurd ((nI_leI (a := 6) (b := k) (by omega) (by omega)).mpr (by omega)) h9)
    refine r_iconst (v := 0) (by decide) dX8_init_89 ?_
    refine r_istore_n (n := 1) (i := 1) (L' := [(1, .int 0), (0, .ref q)]) rfl dX8_init_90 (by decide) rfl ?_
    have e6 : k = 6 := by omega
    subst e6
    refine bV_h (f2 := bU (bU (bU f (q + 1) (.inl (0, 6, .inl (fil (fun _ => 0) (-1000) 6)))) (q + 2) (.inl (0, 6, .inl (fil (fun _ => 0) 1000 6)))) (q + 4) (.inl (0, 2001, .inl (fil (fun _ => 0) (-2) 0)))) (by rw [fil_0]; exact (bU_i (by exact ((bU_n (by omega)).trans ((bU_n (by omega)).trans h4)))).symm) ?_
    exact lp_d2 (by exact ((bU_n (by omega)).trans ((bU_n (by omega)).trans h0))) hd 2001 0 rfl
  | succ m ih =>
    intro k hk
    show bV O _ d 59 [(1, .int (nI k)), (0, .ref q)] [] (bU (bU f (q + 1) (.inl (0, 6, .inl (fil (fun _ => 0) (-1000) k)))) (q + 2) (.inl (0, 6, .inl (fil (fun _ => 0) 1000 k))), n, s) _
    refine r_iload_n (n := 1) (i := 1) 0 rfl rfl dX8_init_59 ?_
    refine r_bipush (v := 6) (by decide) dX8_init_60 ?_
    refine r_icmp_ge (tgt := 89) (by decide) dX8_init_62 (fun h9 => absurd h9 (fun h7 => absurd ((nI_leI (a := 6) (b := k) (by omega) (by omega)).mp h7) (by omega))) (fun _ => ?_)
    refine r_aload_n (n := 0) (i := 0) 1 rfl rfl dX8_init_65 ?_
    refine p_get (fs := [.int (-2), .int (-2), .int 0, .int 0, .int 0, .int 0, .ref (q + 1), .ref (q + 2), .ref (q + 3), .ref (q + 4), .ref (q + 5)]) flX8_18 (by exact ((bU_n (by omega)).trans (((bU_n (by omega)).trans (h0))))) rfl dX8_init_66 ?_
    refine r_iload_n (n := 1) (i := 1) 0 rfl rfl dX8_init_69 ?_
    refine r_sipush (v := (-1000)) (by decide) dX8_init_70 ?_
    refine p_iastN (t := k) (by exact ((bU_n (by omega)).trans (bU_s _ _ _))) (by omega) (by omega) dX8_init_73 ?_
    refine bV_h (f2 := bU (bU f (q + 1) (.inl (0, 6, .inl (upd (fil (fun _ => 0) (-1000) k) k (-1000))))) (q + 2) (.inl (0, 6, .inl (fil (fun _ => 0) 1000 k)))) (((bU_c (by omega)).trans (congrArg (fun z => bU z (q + 2) (.inl (0, 6, .inl (fil (fun _ => 0) 1000 k)))) (bU_u _ _ _ _)))) ?_
    refine r_aload_n (n := 0) (i := 0) 1 rfl rfl dX8_init_74 ?_
    refine p_get (fs := [.int (-2), .int (-2), .int 0, .int 0, .int 0, .int 0, .ref (q + 1), .ref (q + 2), .ref (q + 3), .ref (q + 4), .ref (q + 5)]) flX8_22 (by exact ((bU_n (by omega)).trans (((bU_n (by omega)).trans (h0))))) rfl dX8_init_75 ?_
    refine r_iload_n (n := 1) (i := 1) 0 rfl rfl dX8_init_78 ?_
    refine r_sipush (v := 1000) (by decide) dX8_init_79 ?_
    refine p_iastN (t := k) (by exact bU_s _ _ _) (by omega) (by omega) dX8_init_82 ?_
    refine bV_h (f2 := bU (bU f (q + 1) (.inl (0, 6, .inl (upd (fil (fun _ => 0) (-1000) k) k (-1000))))) (q + 2) (.inl (0, 6, .inl (upd (fil (fun _ => 0) 1000 k) k 1000)))) (bU_u _ _ _ _) ?_
    refine r_iinc (i := 1) (v := nI (k + 1)) (L' := [(1, .int (nI (k + 1))), (0, .ref q)]) 0 rfl (nI_inc1 k) dX8_init_83 (by decide) rfl ?_
    refine r_goto (tgt := 59) (by decide) dX8_init_86 ?_
    rw [fil_s, fil_s]; exact ih (k + 1) (by omega)
set_option maxRecDepth 4000 in
theorem kX8_init {O : bO} {d : Nat} {f : bF} {n s : Nat} {q : Nat} (h0 : f q = some (.inr (8, [.int 0, .int 0, .int 0, .int 0, .int 0, .int 0, .null, .null, .null, .null, .null]))) (e0 : 1000 ≤ q) (e1 : f (q + 1) = none) (e2 : f (q + 2) = none) (e3 : f (q + 3) = none) (e4 : f (q + 4) = none) (e5 : f (q + 5) = none) (hd : 1 ≤ d) : bMt O mX8_init d [.ref q] (f, n, s) (.inl none) (bU (bU (bU (bU (bU (bU f (q + 1) (.inl (0, 6, .inl (fil (fun _ => 0) (-1000) 6)))) (q + 2) (.inl (0, 6, .inl (fil (fun _ => 0) 1000 6)))) (q + 3) (.inl (0, 20, .inl (fun _ => 0)))) (q + 4) (.inl (0, 2001, .inl (fil (fun _ => 0) (-2) 2001)))) (q + 5) (.inl (0, 24, .inl (fun _ => 0)))) q (.inr (8, [.int (-2), .int (-2), .int 0, .int 0, .int 0, .int 0, .ref (q + 1), .ref (q + 2), .ref (q + 3), .ref (q + 4), .ref (q + 5)])), n + 1 + 1 + 1 + 1 + 1, s + 6 + 6 + 20 + 2001 + 24) := by
  refine bMt_of (bCall_of (by decide) rfl (Nat.le_of_ble_eq_true rfl) ?_)
  show bV O _ d 0 [(0, .ref q)] [] (f, n, s) _
  refine r_aload_n (n := 0) (i := 0) 0 rfl rfl dX8_init_0 ?_
  refine r_objInit (by omega) loX8_3 imObj cdObj (Nat.le_of_ble_eq_true rfl) dX8_init_1 ?_
  refine r_aload_n (n := 0) (i := 0) 0 rfl rfl dX8_init_4 ?_
  refine r_bipush (v := (-2)) (by decide) dX8_init_5 ?_
  refine p_put (fs := [.int 0, .int 0, .int 0, .int 0, .int 0, .int 0, .null, .null, .null, .null, .null]) (fs' := [.int (-2), .int 0, .int 0, .int 0, .int 0, .int 0, .null, .null, .null, .null, .null]) flX8_9 h0 (Nat.le_of_ble_eq_true rfl) (bNf_i _) rfl dX8_init_7 ?_
  refine r_aload_n (n := 0) (i := 0) 0 rfl rfl dX8_init_10 ?_
  refine r_bipush (v := (-2)) (by decide) dX8_init_11 ?_
  refine p_put (fs := [.int (-2), .int 0, .int 0, .int 0, .int 0, .int 0, .null, .null, .null, .null, .null]) (fs' := [.int (-2), .int (-2), .int 0, .int 0, .int 0, .int 0, .null, .null, .null, .null, .null]) flX8_15 (by exact bU_s _ _ _) (Nat.le_of_ble_eq_true rfl) (bNf_i _) rfl dX8_init_13 ?_
  refine bV_h (f2 := bU f q (.inr (8, [.int (-2), .int (-2), .int 0, .int 0, .int 0, .int 0, .null, .null, .null, .null, .null]))) (bU_u _ _ _ _) ?_
  refine r_aload_n (n := 0) (i := 0) 0 rfl rfl dX8_init_16 ?_
  refine r_bipush (v := 6) (by decide) dX8_init_17 ?_
  refine p_newa (at9 := .int) (ty := .int) (kd := 0) (n := 6) (a0 := (6, .inl (fun _ => 0))) (q + 1) rfl rfl ac_int (fun _ => rfl) (fun _ _ _ => ⟨rfl, trivial⟩) (by decide) (by decide) (by decide) (by exact ((bU_n (by omega)).trans (e1))) (by omega) dX8_init_19 ?_
  refine p_putF (fs := [.int (-2), .int (-2), .int 0, .int 0, .int 0, .int 0, .null, .null, .null, .null, .null]) (fs' := [.int (-2), .int (-2), .int 0, .int 0, .int 0, .int 0, .ref (q + 1), .null, .null, .null, .null]) fdX8_18 rfl (by exact ((bU_n (by omega)).trans (bU_s _ _ _))) (Nat.le_of_ble_eq_true rfl) (bNf_a _ _) rfl dX8_init_21 ?_
  refine bV_h (f2 := bU (bU f q (.inr (8, [.int (-2), .int (-2), .int 0, .int 0, .int 0, .int 0, .ref (q + 1), .null, .null, .null, .null]))) (q + 1) (.inl (0, 6, .inl (fun _ => 0)))) (((bU_c (by omega)).trans (congrArg (fun z => bU z (q + 1) (.inl (0, 6, .inl (fun _ => 0)))) (bU_u _ _ _ _)))) ?_
  refine r_aload_n (n := 0) (i := 0) 0 rfl rfl dX8_init_24 ?_
  refine r_bipush (v := 6) (by decide) dX8_init_25 ?_
  refine p_newa (at9 := .int) (ty := .int) (kd := 0) (n := 6) (a0 := (6, .inl (fun _ => 0))) (q + 2) rfl rfl ac_int (fun _ => rfl) (fun _ _ _ => ⟨rfl, trivial⟩) (by decide) (by decide) (by decide) (by exact ((bU_n (by omega)).trans (((bU_n (by omega)).trans (e2))))) (by omega) dX8_init_27 ?_
  refine p_putF (fs := [.int (-2), .int (-2), .int 0, .int 0, .int 0, .int 0, .ref (q + 1), .null, .null, .null, .null]) (fs' := [.int (-2), .int (-2), .int 0, .int 0, .int 0, .int 0, .ref (q + 1), .ref (q + 2), .null, .null, .null]) fdX8_22 rfl (by exact ((bU_n (by omega)).trans (((bU_n (by omega)).trans (bU_s _ _ _))))) (Nat.le_of_ble_eq_true rfl) (bNf_a _ _) rfl dX8_init_29 ?_
  refine bV_h (f2 := bU (bU (bU f q (.inr (8, [.int (-2), .int (-2), .int 0, .int 0, .int 0, .int 0, .ref (q + 1), .ref (q + 2), .null, .null, .null]))) (q + 1) (.inl (0, 6, .inl (fun _ => 0)))) (q + 2) (.inl (0, 6, .inl (fun _ => 0)))) (((bU_c (by omega)).trans (congrArg (fun z => bU z (q + 2) (.inl (0, 6, .inl (fun _ => 0)))) (((bU_c (by omega)).trans (congrArg (fun z => bU z (q + 1) (.inl (0, 6, .inl (fun _ => 0)))) (bU_u _ _ _ _))))))) ?_
  refine r_aload_n (n := 0) (i := 0) 0 rfl rfl dX8_init_32 ?_
  refine r_bipush (v := 20) (by decide) dX8_init_33 ?_
  refine p_newa (at9 := .int) (ty := .int) (kd := 0) (n := 20) (a0 := (20, .inl (fun _ => 0))) (q + 3) rfl rfl ac_int (fun _ => rfl) (fun _ _ _ => ⟨rfl, trivial⟩) (by decide) (by decide) (by decide) (by exact ((bU_n (by omega)).trans (((bU_n (by omega)).trans (((bU_n (by omega)).trans (e3))))))) (by omega) dX8_init_35 ?_
  refine p_putF (fs := [.int (-2), .int (-2), .int 0, .int 0, .int 0, .int 0, .ref (q + 1), .ref (q + 2), .null, .null, .null]) (fs' := [.int (-2), .int (-2), .int 0, .int 0, .int 0, .int 0, .ref (q + 1), .ref (q + 2), .ref (q + 3), .null, .null]) fdX8_25 rfl (by exact ((bU_n (by omega)).trans (((bU_n (by omega)).trans (((bU_n (by omega)).trans (bU_s _ _ _))))))) (Nat.le_of_ble_eq_true rfl) (bNf_a _ _) rfl dX8_init_37 ?_
  refine bV_h (f2 := bU (bU (bU (bU f q (.inr (8, [.int (-2), .int (-2), .int 0, .int 0, .int 0, .int 0, .ref (q + 1), .ref (q + 2), .ref (q + 3), .null, .null]))) (q + 1) (.inl (0, 6, .inl (fun _ => 0)))) (q + 2) (.inl (0, 6, .inl (fun _ => 0)))) (q + 3) (.inl (0, 20, .inl (fun _ => 0)))) (((bU_c (by omega)).trans (congrArg (fun z => bU z (q + 3) (.inl (0, 20, .inl (fun _ => 0)))) (((bU_c (by omega)).trans (congrArg (fun z => bU z (q + 2) (.inl (0, 6, .inl (fun _ => 0)))) (((bU_c (by omega)).trans (congrArg (fun z => bU z (q + 1) (.inl (0, 6, .inl (fun _ => 0)))) (bU_u _ _ _ _)))))))))) ?_
  refine r_aload_n (n := 0) (i := 0) 0 rfl rfl dX8_init_40 ?_
  refine r_sipush (v := 2001) (by decide) dX8_init_41 ?_
  refine p_newa (at9 := .int) (ty := .int) (kd := 0) (n := 2001) (a0 := (2001, .inl (fun _ => 0))) (q + 4) rfl rfl ac_int (fun _ => rfl) (fun _ _ _ => ⟨rfl, trivial⟩) (by decide) (by decide) (by decide) (by exact ((bU_n (by omega)).trans (((bU_n (by omega)).trans (((bU_n (by omega)).trans (((bU_n (by omega)).trans (e4))))))))) (by omega) dX8_init_44 ?_
  refine p_putF (fs := [.int (-2), .int (-2), .int 0, .int 0, .int 0, .int 0, .ref (q + 1), .ref (q + 2), .ref (q + 3), .null, .null]) (fs' := [.int (-2), .int (-2), .int 0, .int 0, .int 0, .int 0, .ref (q + 1), .ref (q + 2), .ref (q + 3), .ref (q + 4), .null]) fdX8_28 rfl (by exact ((bU_n (by omega)).trans (((bU_n (by omega)).trans (((bU_n (by omega)).trans (((bU_n (by omega)).trans (bU_s _ _ _))))))))) (Nat.le_of_ble_eq_true rfl) (bNf_a _ _) rfl dX8_init_46 ?_
  refine bV_h (f2 := bU (bU (bU (bU (bU f q (.inr (8, [.int (-2), .int (-2), .int 0, .int 0, .int 0, .int 0, .ref (q + 1), .ref (q + 2), .ref (q + 3), .ref (q + 4), .null]))) (q + 1) (.inl (0, 6, .inl (fun _ => 0)))) (q + 2) (.inl (0, 6, .inl (fun _ => 0)))) (q + 3) (.inl (0, 20, .inl (fun _ => 0)))) (q + 4) (.inl (0, 2001, .inl (fun _ => 0)))) (((bU_c (by omega)).trans (congrArg (fun z => bU z (q + 4) (.inl (0, 2001, .inl (fun _ => 0)))) (((bU_c (by omega)).trans (congrArg (fun z => bU z (q + 3) (.inl (0, 20, .inl (fun _ => 0)))) (((bU_c (by omega)).trans (congrArg (fun z => bU z (q + 2) (.inl (0, 6, .inl (fun _ => 0)))) (((bU_c (by omega)).trans (congrArg (fun z => bU z (q + 1) (.inl (0, 6, .inl (fun _ => 0)))) (bU_u _ _ _ _))))))))))))) ?_
  refine r_aload_n (n := 0) (i := 0) 0 rfl rfl dX8_init_49 ?_
  refine r_bipush (v := 24) (by decide) dX8_init_50 ?_
  refine p_newa (at9 := .int) (ty := .int) (kd := 0) (n := 24) (a0 := (24, .inl (fun _ => 0))) (q + 5) rfl rfl ac_int (fun _ => rfl) (fun _ _ _ => ⟨rfl, trivial⟩) (by decide) (by decide) (by decide) (by exact ((bU_n (by omega)).trans (((bU_n (by omega)).trans (((bU_n (by omega)).trans (((bU_n (by omega)).trans (((bU_n (by omega)).trans (e5))))))))))) (by omega) dX8_init_52 ?_
  refine p_putF (fs := [.int (-2), .int (-2), .int 0, .int 0, .int 0, .int 0, .ref (q + 1), .ref (q + 2), .ref (q + 3), .ref (q + 4), .null]) (fs' := [.int (-2), .int (-2), .int 0, .int 0, .int 0, .int 0, .ref (q + 1), .ref (q + 2), .ref (q + 3), .ref (q + 4), .ref (q + 5)]) fdX8_31 rfl (by exact ((bU_n (by omega)).trans (((bU_n (by omega)).trans (((bU_n (by omega)).trans (((bU_n (by omega)).trans (((bU_n (by omega)).trans (bU_s _ _ _))))))))))) (Nat.le_of_ble_eq_true rfl) (bNf_a _ _) rfl dX8_init_54 ?_
  refine bV_h (f2 := bU (bU (bU (bU (bU (bU f q (.inr (8, [.int (-2), .int (-2), .int 0, .int 0, .int 0, .int 0, .ref (q + 1), .ref (q + 2), .ref (q + 3), .ref (q + 4), .ref (q + 5)]))) (q + 1) (.inl (0, 6, .inl (fun _ => 0)))) (q + 2) (.inl (0, 6, .inl (fun _ => 0)))) (q + 3) (.inl (0, 20, .inl (fun _ => 0)))) (q + 4) (.inl (0, 2001, .inl (fun _ => 0)))) (q + 5) (.inl (0, 24, .inl (fun _ => 0)))) (((bU_c (by omega)).trans (congrArg (fun z => bU z (q + 5) (.inl (0, 24, .inl (fun _ => 0)))) (((bU_c (by omega)).trans (congrArg (fun z => bU z (q + 4) (.inl (0, 2001, .inl (fun _ => 0)))) (((bU_c (by omega)).trans (congrArg (fun z => bU z (q + 3) (.inl (0, 20, .inl (fun _ => 0)))) (((bU_c (by omega)).trans (congrArg (fun z => bU z (q + 2) (.inl (0, 6, .inl (fun _ => 0)))) (((bU_c (by omega)).trans (congrArg (fun z => bU z (q + 1) (.inl (0, 6, .inl (fun _ => 0)))) (bU_u _ _ _ _)))))))))))))))) ?_
  refine r_iconst (v := 0) (by decide) dX8_init_57 ?_
  refine r_istore_n (n := 1) (i := 1) (L' := [(1, .int 0), (0, .ref q)]) rfl dX8_init_58 (by decide) rfl ?_
  refine bV_h (f2 := bU (bU (bU (bU (bU (bU f q (.inr (8, [.int (-2), .int (-2), .int 0, .int 0, .int 0, .int 0, .ref (q + 1), .ref (q + 2), .ref (q + 3), .ref (q + 4), .ref (q + 5)]))) (q + 3) (.inl (0, 20, .inl (fun _ => 0)))) (q + 4) (.inl (0, 2001, .inl (fun _ => 0)))) (q + 5) (.inl (0, 24, .inl (fun _ => 0)))) (q + 1) (.inl (0, 6, .inl (fil (fun _ => 0) (-1000) 0)))) (q + 2) (.inl (0, 6, .inl (fil (fun _ => 0) 1000 0)))) (by rw [fil_0, fil_0]; funext z; simp only [bU]; repeat (first | rfl | omega | split)) ?_
  refine (lp_d1 (by exact ((bU_n (by omega)).trans ((bU_n (by omega)).trans ((bU_n (by omega)).trans (bU_s _ _ _))))) (by exact ((bU_n (by omega)).trans (bU_s _ _ _))) (by omega) 6 0 rfl).mono ?_
  intro r G ⟨h1, h2⟩
  exact ⟨h1, by rw [h2]; simp only [Prod.mk.injEq, and_true]; funext z; simp only [bU]; repeat (first | rfl | omega | split)⟩
theorem sgM_2 {k : Int32} (h1 : ¬ k = 258) (h2 : ¬ k = 259) (h3 : ¬ k = 266) (h4 : ¬ k = 261) : ¬ sgM k = 0 ∧ ¬ sgM k = 1 ∧ ¬ sgM k = 8 ∧ ¬ sgM k = 11 := by
  unfold sgM
  rw [if_neg h1, if_neg h2, if_neg h3, if_neg h4]
  repeat' split
  all_goals decide
theorem lp_tells {O : bO} {d : Nat} {f : bF} {n s : Nat} {th_ : Int32} {tr_ : Int32} {wh_ : Int32} {fl_ : Int32} {nm_ : Int32} {q_ : Nat} {tp_ : Int32} {sz_ : Int32} {at_ : Int32} {so_ : Int32} {pl_ : Int32} {mk_ : Int32} {nu_ : Int32} {di_ : Int32} {br_ : Int32} {iff_ : Int32} {wo_ : Int64} {nd_ : Int32} {td_ : Int32} {na_ : Int32} {hs_ : Int32} {nf_ : Int32} {N mo ms mv r R o : Nat} {pt ak x : Int32} {sg vs row : Nat → Int32} (h0 : f 50 = some (.inr (11, [.int th_, .int tr_, .int wh_, .int fl_, .int nm_, .ref 51, .ref q_, .ref 53, .ref 54, .int tp_, .int sz_, .int at_, .int so_, .int pl_, .int mk_, .int nu_, .int di_, .int br_, .int iff_, .long wo_, .ref 55, .ref 56, .int nd_, .int td_, .ref 57, .int na_, .ref 58, .ref 59, .ref 60, .ref 61, .ref 62, .ref 63, .int hs_, .ref 64, .int nf_]))) (h1 : f mo = some (.inr (9, [.int pt, .int (nI N), .int ak, .ref ms, .ref mv]))) (h2 : f ms = some (.inl (0, 122, .inl sg))) (h3 : f mv = some (.inl (0, 122, .inl vs))) (h4 : f r = some (.inl (0, R, .inl row))) (hN : N ≤ 60) (hR : o + 6 ≤ R) (hR2 : R < 5000) (g1 : mo ≠ 56) (g2 : ms ≠ 56) (g3 : mv ≠ 56) (g4 : r ≠ 56) (hd : 3 ≤ d) : ∀ (c : List (Int32 × Int32)) (i t : Nat) (g : Nat → Int32), i + c.length = N → (∀ (j : Nat) (h : j < c.length), sg (i + j) = sgM c[j].1 ∧ vs (i + j) = c[j].2) → okr c t → (c = [] → 0 < t) → t ≤ 60 → bV O mX11_tells d 14 [(6, .int (nI i)), (5, .int (nI t)), (4, .ref mo), (0, .ref 50), (1, .int x), (2, .ref r), (3, .int (nI o))] [] (bU f 56 (.inl (0, 122, .inl g)), n, s) (fun r9 G' => r9 = .inl (some (.int ((rg (opvM (fun k => row (o + k))) c (g, t)).1 0))) ∧ G' = (bU f 56 (.inl (0, 122, .inl (rg (opvM (fun k => row (o + k))) c (g, t)).1)), n, s)) := by
  intro c
  induction c with
  | nil =>
    intro i t g hi hk ho ht ht6
    have hi : i = N := by simpa using hi
    show bV O _ d 14 [(6, .int (nI i)), (5, .int (nI t)), (4, .ref mo), (0, .ref 50), (1, .int x), (2, .ref r), (3, .int (nI o))] [] (bU f 56 (.inl (0, 122, .inl g)), n, s) _
    refine r_iload (i := 6) 0 rfl dX11_tells_14 ?_
    refine r_aload (i := 4) 2 rfl dX11_tells_16 ?_
    refine p_get (fs := [.int pt, .int (nI N), .int ak, .ref ms, .ref mv]) flX11_216 (by exact ((bU_n (by omega)).trans (h1))) rfl dX11_tells_18 ?_
    refine r_icmp_ge (tgt := 214) (by decide) dX11_tells_21 (fun _ => ?_) (fun h9 => absurd ((nI_leI (a := N) (b := i) (by omega) (by omega)).mpr (by omega)) h9)
    refine r_aload_n (n := 0) (i := 0) 3 rfl rfl dX11_tells_214 ?_
    refine p_get (fs := [.int th_, .int tr_, .int wh_, .int fl_, .int nm_, .ref 51, .ref q_, .ref 53, .ref 54, .int tp_, .int sz_, .int at_, .int so_, .int pl_, .int mk_, .int nu_, .int di_, .int br_, .int iff_, .long wo_, .ref 55, .ref 56, .int nd_, .int td_, .ref 57, .int na_, .ref 58, .ref 59, .ref 60, .ref 61, .ref 62, .ref 63, .int hs_, .ref 64, .int nf_]) flX11_41 (by exact ((bU_n (by decide)).trans (h0))) rfl dX11_tells_215 ?_
    refine r_iconst (v := 0) (by decide) dX11_tells_218 ?_
    refine p_ialdN (t := 0) (by exact bU_s _ _ _) (by omega) (by omega) dX11_tells_219 ?_
    refine r_ireturn rfl dX11_tells_220 ?_
    exact ⟨rfl, rfl⟩
  | cons kv c ih =>
    intro i t g hi hk ho _ ht6
    have hl : i + (c.length + 1) = N := by simpa using hi
    obtain ⟨o1, o2, o3, o4, o5⟩ := ho
    have hs0 := (hk 0 (by simp)).1
    have hv0 := (hk 0 (by simp)).2
    simp only [Nat.add_zero, List.getElem_cons_zero] at hs0 hv0
    have hk2 : ∀ (j : Nat) (h : j < c.length), sg (i + 1 + j) = sgM c[j].1 ∧ vs (i + 1 + j) = c[j].2 := fun j h => by
      have := hk (j + 1) (by simp; omega)
      simp only [List.getElem_cons_succ] at this
      rw [show i + 1 + j = i + (j + 1) by omega]
      exact this
    have hih := fun (g' : Nat → Int32) (t' : Nat) (h1 : okr c t') (h2 : 0 < t') (h3 : t' ≤ 60) => ih (i + 1) t' g' (by omega) hk2 h1 (fun _ => h2) h3
    by_cases hk258 : kv.1 = 258
    · have hs : sg i = 0 := by rw [hs0, hk258]; decide
      have hn : jNd kv.1 = 0 := by rw [hk258]; decide
      have hk9 := hk258
      show bV O _ d 14 [(6, .int (nI i)), (5, .int (nI t)), (4, .ref mo), (0, .ref 50), (1, .int x), (2, .ref r), (3, .int (nI o))] [] (bU f 56 (.inl (0, 122, .inl g)), n, s) _
      refine r_iload (i := 6) 0 rfl dX11_tells_14 ?_
      refine r_aload (i := 4) 2 rfl dX11_tells_16 ?_
      refine p_get (fs := [.int pt, .int (nI N), .int ak, .ref ms, .ref mv]) flX11_216 (by exact ((bU_n (by omega)).trans (h1))) rfl dX11_tells_18 ?_
      refine r_icmp_ge (tgt := 214) (by decide) dX11_tells_21 (fun h9 => absurd h9 (fun h7 => absurd ((nI_leI (a := N) (b := i) (by omega) (by omega)).mp h7) (by omega))) (fun _ => ?_)
      refine r_aload (i := 4) 2 rfl dX11_tells_24 ?_
      refine p_get (fs := [.int pt, .int (nI N), .int ak, .ref ms, .ref mv]) flX11_248 (by exact ((bU_n (by omega)).trans (h1))) rfl dX11_tells_26 ?_
      refine r_iload (i := 6) 0 rfl dX11_tells_29 ?_
      refine p_ialdN (t := i) (by exact ((bU_n (by omega)).trans (h2))) (by omega) (by omega) dX11_tells_31 ?_
      refine r_istore (i := 7) (L' := [(7, .int (sg i)), (6, .int (nI i)), (5, .int (nI t)), (4, .ref mo), (0, .ref 50), (1, .int x), (2, .ref r), (3, .int (nI o))]) dX11_tells_32 (by decide) rfl ?_
      refine r_iload (i := 7) 0 rfl dX11_tells_34 ?_
      refine r_if_eq (tgt := 45) (by decide) dX11_tells_36 (fun _ => ?_) (fun h9 => absurd hs h9)
      refine r_aload_n (n := 0) (i := 0) 4 rfl rfl dX11_tells_45 ?_
      refine p_get (fs := [.int th_, .int tr_, .int wh_, .int fl_, .int nm_, .ref 51, .ref q_, .ref 53, .ref 54, .int tp_, .int sz_, .int at_, .int so_, .int pl_, .int mk_, .int nu_, .int di_, .int br_, .int iff_, .long wo_, .ref 55, .ref 56, .int nd_, .int td_, .ref 57, .int na_, .ref 58, .ref 59, .ref 60, .ref 61, .ref 62, .ref 63, .int hs_, .ref 64, .int nf_]) flX11_41 (by exact ((bU_n (by decide)).trans (h0))) rfl dX11_tells_46 ?_
      refine r_iload (i := 5) 2 rfl dX11_tells_49 ?_
      refine r_iload (i := 7) 0 rfl dX11_tells_51 ?_
      refine r_if_ne (tgt := 67) (by decide) dX11_tells_53 (fun h9 => absurd h9 (fun h7 => h7 hs)) (fun _ => ?_)
      refine r_aload (i := 4) 3 rfl dX11_tells_56 ?_
      refine p_get (fs := [.int pt, .int (nI N), .int ak, .ref ms, .ref mv]) flX11_251 (by exact ((bU_n (by omega)).trans (h1))) rfl dX11_tells_58 ?_
      refine r_iload (i := 6) 1 rfl dX11_tells_61 ?_
      refine p_ialdN (t := i) (by exact ((bU_n (by omega)).trans (h3))) (by omega) (by omega) dX11_tells_63 ?_
      refine r_goto (tgt := 79) (by decide) dX11_tells_64 ?_
      refine p_iastN (t := t) (by exact bU_s _ _ _) (by omega) (by omega) dX11_tells_79 ?_
      refine bV_h (f2 := bU f 56 (.inl (0, 122, .inl (upd g t (vs i))))) (bU_u _ _ _ _) ?_
      refine r_iinc (i := 5) (v := nI (t + 1)) (L' := [(5, .int (nI (t + 1))), (7, .int (sg i)), (6, .int (nI i)), (4, .ref mo), (0, .ref 50), (1, .int x), (2, .ref r), (3, .int (nI o))]) 2 rfl (nI_inc1 t) dX11_tells_80 (by decide) rfl ?_
      refine r_goto (tgt := 208) (by decide) dX11_tells_83 ?_
      refine r_iinc (i := 6) (v := nI (i + 1)) (L' := [(6, .int (nI (i + 1))), (5, .int (nI (t + 1))), (7, .int (sg i)), (4, .ref mo), (0, .ref 50), (1, .int x), (2, .ref r), (3, .int (nI o))]) 2 rfl (nI_inc1 i) dX11_tells_208 (by decide) rfl ?_
      refine r_goto (tgt := 14) (by decide) dX11_tells_211 ?_
      have o6 : okr c (t + 1) := by rw [hn] at o5; exact o5
      have e7 : (upd g t (vs i)) = upd g (t - jNd kv.1) (opvM (fun k => row (o + k)) kv g (t - jNd kv.1)) := by rw [hn, Nat.sub_zero]; unfold opvM; rw [if_pos hn, if_pos hk9, hv0]
      have e8 : t - jNd kv.1 + 1 = t + 1 := by rw [hn]; omega
      rw [e7]
      refine bV_loc [0, 1, 3, 4, 5, 6, 7] rfl ?_
      have h9 := hih (upd g (t - jNd kv.1) (opvM (fun k => row (o + k)) kv g (t - jNd kv.1))) (t + 1) o6 (by omega) (by omega)
      rw [show rg (opvM (fun k => row (o + k))) (kv :: c) (g, t) = rg (opvM (fun k => row (o + k))) c (upd g (t - jNd kv.1) (opvM (fun k => row (o + k)) kv g (t - jNd kv.1)), t + 1) from (show rg (opvM (fun k => row (o + k))) (kv :: c) (g, t) = rg (opvM (fun k => row (o + k))) c (upd g (t - jNd kv.1) (opvM (fun k => row (o + k)) kv g (t - jNd kv.1)), t - jNd kv.1 + 1) from rfl).trans (by rw [e8])]
      exact h9
    by_cases hk259 : kv.1 = 259
    · have hs : sg i = 1 := by rw [hs0, hk259]; decide
      have hn : jNd kv.1 = 0 := by rw [hk259]; decide
      obtain ⟨k6, hk6, hv6⟩ : ∃ k6 : Nat, k6 < 6 ∧ vs i = nI k6 := by
        have h5 := o4 hn hk258
        refine ⟨cl kv.2, cl_lt h5.1 h5.2 (by decide), ?_⟩
        rw [hv0, nI_cl h5.1]
      show bV O _ d 14 [(6, .int (nI i)), (5, .int (nI t)), (4, .ref mo), (0, .ref 50), (1, .int x), (2, .ref r), (3, .int (nI o))] [] (bU f 56 (.inl (0, 122, .inl g)), n, s) _
      refine r_iload (i := 6) 0 rfl dX11_tells_14 ?_
      refine r_aload (i := 4) 2 rfl dX11_tells_16 ?_
      refine p_get (fs := [.int pt, .int (nI N), .int ak, .ref ms, .ref mv]) flX11_216 (by exact ((bU_n (by omega)).trans (h1))) rfl dX11_tells_18 ?_
      refine r_icmp_ge (tgt := 214) (by decide) dX11_tells_21 (fun h9 => absurd h9 (fun h7 => absurd ((nI_leI (a := N) (b := i) (by omega) (by omega)).mp h7) (by omega))) (fun _ => ?_)
      refine r_aload (i := 4) 2 rfl dX11_tells_24 ?_
      refine p_get (fs := [.int pt, .int (nI N), .int ak, .ref ms, .ref mv]) flX11_248 (by exact ((bU_n (by omega)).trans (h1))) rfl dX11_tells_26 ?_
      refine r_iload (i := 6) 0 rfl dX11_tells_29 ?_
      refine p_ialdN (t := i) (by exact ((bU_n (by omega)).trans (h2))) (by omega) (by omega) dX11_tells_31 ?_
      refine r_istore (i := 7) (L' := [(7, .int (sg i)), (6, .int (nI i)), (5, .int (nI t)), (4, .ref mo), (0, .ref 50), (1, .int x), (2, .ref r), (3, .int (nI o))]) dX11_tells_32 (by decide) rfl ?_
      refine r_iload (i := 7) 0 rfl dX11_tells_34 ?_
      refine r_if_eq (tgt := 45) (by decide) dX11_tells_36 (fun h9 => absurd h9 (by rw [hs]; decide)) (fun _ => ?_)
      refine r_iload (i := 7) 0 rfl dX11_tells_39 ?_
      refine r_iconst (v := 1) (by decide) dX11_tells_41 ?_
      refine r_icmp_ne (tgt := 86) (by decide) dX11_tells_42 (fun h9 => absurd h9 (fun h7 => h7 hs)) (fun _ => ?_)
      refine r_aload_n (n := 0) (i := 0) 4 rfl rfl dX11_tells_45 ?_
      refine p_get (fs := [.int th_, .int tr_, .int wh_, .int fl_, .int nm_, .ref 51, .ref q_, .ref 53, .ref 54, .int tp_, .int sz_, .int at_, .int so_, .int pl_, .int mk_, .int nu_, .int di_, .int br_, .int iff_, .long wo_, .ref 55, .ref 56, .int nd_, .int td_, .ref 57, .int na_, .ref 58, .ref 59, .ref 60, .ref 61, .ref 62, .ref 63, .int hs_, .ref 64, .int nf_]) flX11_41 (by exact ((bU_n (by decide)).trans (h0))) rfl dX11_tells_46 ?_
      refine r_iload (i := 5) 2 rfl dX11_tells_49 ?_
      refine r_iload (i := 7) 0 rfl dX11_tells_51 ?_
      refine r_if_ne (tgt := 67) (by decide) dX11_tells_53 (fun _ => ?_) (fun h9 => absurd h9 (by rw [hs]; decide))
      refine r_aload_n (n := 2) (i := 2) 6 rfl rfl dX11_tells_67 ?_
      refine r_iload_n (n := 3) (i := 3) 7 rfl rfl dX11_tells_68 ?_
      refine r_aload (i := 4) 3 rfl dX11_tells_69 ?_
      refine p_get (fs := [.int pt, .int (nI N), .int ak, .ref ms, .ref mv]) flX11_251 (by exact ((bU_n (by omega)).trans (h1))) rfl dX11_tells_71 ?_
      refine r_iload (i := 6) 1 rfl dX11_tells_74 ?_
      refine p_ialdN (t := i) (by exact ((bU_n (by omega)).trans (h3))) (by omega) (by omega) dX11_tells_76 ?_
      refine r_iadd dX11_tells_77 ?_
      refine p_iald (by exact ((bU_n (by omega)).trans (h4))) (by rw [hv6, nI_add]; exact vp_in_nI (by omega) (by omega)) dX11_tells_78 ?_
      refine p_iastN (t := t) (by exact bU_s _ _ _) (by omega) (by omega) dX11_tells_79 ?_
      refine bV_h (f2 := bU f 56 (.inl (0, 122, .inl (upd g t (row ((nI o) + (vs i)).toNatClampNeg))))) (bU_u _ _ _ _) ?_
      refine r_iinc (i := 5) (v := nI (t + 1)) (L' := [(5, .int (nI (t + 1))), (7, .int (sg i)), (6, .int (nI i)), (4, .ref mo), (0, .ref 50), (1, .int x), (2, .ref r), (3, .int (nI o))]) 2 rfl (nI_inc1 t) dX11_tells_80 (by decide) rfl ?_
      refine r_goto (tgt := 208) (by decide) dX11_tells_83 ?_
      refine r_iinc (i := 6) (v := nI (i + 1)) (L' := [(6, .int (nI (i + 1))), (5, .int (nI (t + 1))), (7, .int (sg i)), (4, .ref mo), (0, .ref 50), (1, .int x), (2, .ref r), (3, .int (nI o))]) 2 rfl (nI_inc1 i) dX11_tells_208 (by decide) rfl ?_
      refine r_goto (tgt := 14) (by decide) dX11_tells_211 ?_
      have o6 : okr c (t + 1) := by rw [hn] at o5; exact o5
      have e7 : (upd g t (row ((nI o) + (vs i)).toNatClampNeg)) = upd g (t - jNd kv.1) (opvM (fun k => row (o + k)) kv g (t - jNd kv.1)) := by rw [hn, Nat.sub_zero]; unfold opvM; rw [if_pos hn, if_neg hk258, ← hv0, show (nI o + vs i).toNatClampNeg = o + k6 by rw [hv6, nI_add, nI_clamp (by omega)], hv6, nI_clamp (by omega)]
      have e8 : t - jNd kv.1 + 1 = t + 1 := by rw [hn]; omega
      rw [e7]
      refine bV_loc [0, 1, 3, 4, 5, 6, 7] rfl ?_
      have h9 := hih (upd g (t - jNd kv.1) (opvM (fun k => row (o + k)) kv g (t - jNd kv.1))) (t + 1) o6 (by omega) (by omega)
      rw [show rg (opvM (fun k => row (o + k))) (kv :: c) (g, t) = rg (opvM (fun k => row (o + k))) c (upd g (t - jNd kv.1) (opvM (fun k => row (o + k)) kv g (t - jNd kv.1)), t + 1) from (show rg (opvM (fun k => row (o + k))) (kv :: c) (g, t) = rg (opvM (fun k => row (o + k))) c (upd g (t - jNd kv.1) (opvM (fun k => row (o + k)) kv g (t - jNd kv.1)), t - jNd kv.1 + 1) from rfl).trans (by rw [e8])]
      exact h9
    by_cases hk266 : kv.1 = 266
    · have hs : sg i = 8 := by rw [hs0, hk266]; decide
      have hn : jNd kv.1 = 1 := by rw [hk266]; decide
      rw [hn] at o1
      show bV O _ d 14 [(6, .int (nI i)), (5, .int (nI t)), (4, .ref mo), (0, .ref 50), (1, .int x), (2, .ref r), (3, .int (nI o))] [] (bU f 56 (.inl (0, 122, .inl g)), n, s) _
      refine r_iload (i := 6) 0 rfl dX11_tells_14 ?_
      refine r_aload (i := 4) 2 rfl dX11_tells_16 ?_
      refine p_get (fs := [.int pt, .int (nI N), .int ak, .ref ms, .ref mv]) flX11_216 (by exact ((bU_n (by omega)).trans (h1))) rfl dX11_tells_18 ?_
      refine r_icmp_ge (tgt := 214) (by decide) dX11_tells_21 (fun h9 => absurd h9 (fun h7 => absurd ((nI_leI (a := N) (b := i) (by omega) (by omega)).mp h7) (by omega))) (fun _ => ?_)
      refine r_aload (i := 4) 2 rfl dX11_tells_24 ?_
      refine p_get (fs := [.int pt, .int (nI N), .int ak, .ref ms, .ref mv]) flX11_248 (by exact ((bU_n (by omega)).trans (h1))) rfl dX11_tells_26 ?_
      refine r_iload (i := 6) 0 rfl dX11_tells_29 ?_
      refine p_ialdN (t := i) (by exact ((bU_n (by omega)).trans (h2))) (by omega) (by omega) dX11_tells_31 ?_
      refine r_istore (i := 7) (L' := [(7, .int (sg i)), (6, .int (nI i)), (5, .int (nI t)), (4, .ref mo), (0, .ref 50), (1, .int x), (2, .ref r), (3, .int (nI o))]) dX11_tells_32 (by decide) rfl ?_
      refine r_iload (i := 7) 0 rfl dX11_tells_34 ?_
      refine r_if_eq (tgt := 45) (by decide) dX11_tells_36 (fun h9 => absurd h9 (by rw [hs]; decide)) (fun _ => ?_)
      refine r_iload (i := 7) 0 rfl dX11_tells_39 ?_
      refine r_iconst (v := 1) (by decide) dX11_tells_41 ?_
      refine r_icmp_ne (tgt := 86) (by decide) dX11_tells_42 (fun _ => ?_) (fun h9 => absurd h9 (by rw [hs]; decide))
      refine r_iload (i := 7) 0 rfl dX11_tells_86 ?_
      refine r_bipush (v := 8) (by decide) dX11_tells_88 ?_
      refine r_icmp_ne (tgt := 119) (by decide) dX11_tells_90 (fun h9 => absurd h9 (fun h7 => h7 hs)) (fun _ => ?_)
      refine r_aload_n (n := 0) (i := 0) 4 rfl rfl dX11_tells_93 ?_
      refine p_get (fs := [.int th_, .int tr_, .int wh_, .int fl_, .int nm_, .ref 51, .ref q_, .ref 53, .ref 54, .int tp_, .int sz_, .int at_, .int so_, .int pl_, .int mk_, .int nu_, .int di_, .int br_, .int iff_, .long wo_, .ref 55, .ref 56, .int nd_, .int td_, .ref 57, .int na_, .ref 58, .ref 59, .ref 60, .ref 61, .ref 62, .ref 63, .int hs_, .ref 64, .int nf_]) flX11_41 (by exact ((bU_n (by decide)).trans (h0))) rfl dX11_tells_94 ?_
      refine r_iload (i := 5) 2 rfl dX11_tells_97 ?_
      refine r_iconst (v := 1) (by decide) dX11_tells_99 ?_
      refine r_isubE (v := nI (t - 1)) (pk_sub (a := t) (b := 1) (by omega)) dX11_tells_100 ?_
      refine r_aload_n (n := 0) (i := 0) 4 rfl rfl dX11_tells_101 ?_
      refine p_get (fs := [.int th_, .int tr_, .int wh_, .int fl_, .int nm_, .ref 51, .ref q_, .ref 53, .ref 54, .int tp_, .int sz_, .int at_, .int so_, .int pl_, .int mk_, .int nu_, .int di_, .int br_, .int iff_, .long wo_, .ref 55, .ref 56, .int nd_, .int td_, .ref 57, .int na_, .ref 58, .ref 59, .ref 60, .ref 61, .ref 62, .ref 63, .int hs_, .ref 64, .int nf_]) flX11_41 (by exact ((bU_n (by decide)).trans (h0))) rfl dX11_tells_102 ?_
      refine r_iload (i := 5) 2 rfl dX11_tells_105 ?_
      refine r_iconst (v := 1) (by decide) dX11_tells_107 ?_
      refine r_isubE (v := nI (t - 1)) (pk_sub (a := t) (b := 1) (by omega)) dX11_tells_108 ?_
      refine p_ialdN (t := t - 1) (by exact bU_s _ _ _) (by omega) (by omega) dX11_tells_109 ?_
      refine r_i2l dX11_tells_110 ?_
      refine r_lneg dX11_tells_111 ?_
      refine p_callS (As := [.long (-((g (t - 1)).toInt64))]) (rest := [.int (nI (t - 1)), .ref 56]) (kX11_bound (O := O) (d := 1) (f := bU f 56 (.inl (0, 122, .inl g))) (n := n) (s := s) (v := -((g (t - 1)).toInt64))   (Nat.le_refl _)).call rfl lkX11_254 smX11_bound rfl rfl (by omega) (Nat.le_of_ble_eq_true rfl) dX11_tells_112 (fun v9 G9 h9 => ?_) (fun q9 G9 h9 => (by cases h9.1))
      obtain ⟨h8, rfl⟩ := h9; cases h8
      show bV O _ d 115 [(7, .int (sg i)), (6, .int (nI i)), (5, .int (nI t)), (4, .ref mo), (0, .ref 50), (1, .int x), (2, .ref r), (3, .int (nI o))] [.int (jBd (-((g (t - 1)).toInt64))), .int (nI (t - 1)), .ref 56] (bU f 56 (.inl (0, 122, .inl g)), n, s) _
      refine p_iastN (t := t - 1) (by exact bU_s _ _ _) (by omega) (by omega) dX11_tells_115 ?_
      refine bV_h (f2 := bU f 56 (.inl (0, 122, .inl (upd g (t - 1) (jBd (-((g (t - 1)).toInt64))))))) (bU_u _ _ _ _) ?_
      refine r_goto (tgt := 208) (by decide) dX11_tells_116 ?_
      refine r_iinc (i := 6) (v := nI (i + 1)) (L' := [(6, .int (nI (i + 1))), (7, .int (sg i)), (5, .int (nI t)), (4, .ref mo), (0, .ref 50), (1, .int x), (2, .ref r), (3, .int (nI o))]) 1 rfl (nI_inc1 i) dX11_tells_208 (by decide) rfl ?_
      refine r_goto (tgt := 14) (by decide) dX11_tells_211 ?_
      have o6 : okr c t := by rw [hn, Nat.sub_add_cancel (by omega)] at o5; exact o5
      have e7 : (upd g (t - 1) (jBd (-((g (t - 1)).toInt64)))) = upd g (t - jNd kv.1) (opvM (fun k => row (o + k)) kv g (t - jNd kv.1)) := by rw [hn]; unfold opvM; rw [if_neg (by rw [hn]; decide), if_pos hn]
      have e8 : t - jNd kv.1 + 1 = t := by rw [hn]; omega
      rw [e7]
      refine bV_loc [0, 2, 3, 4, 5, 6, 7] rfl ?_
      have h9 := hih (upd g (t - jNd kv.1) (opvM (fun k => row (o + k)) kv g (t - jNd kv.1))) (t) o6 (by omega) (by omega)
      rw [show rg (opvM (fun k => row (o + k))) (kv :: c) (g, t) = rg (opvM (fun k => row (o + k))) c (upd g (t - jNd kv.1) (opvM (fun k => row (o + k)) kv g (t - jNd kv.1)), t) from (show rg (opvM (fun k => row (o + k))) (kv :: c) (g, t) = rg (opvM (fun k => row (o + k))) c (upd g (t - jNd kv.1) (opvM (fun k => row (o + k)) kv g (t - jNd kv.1)), t - jNd kv.1 + 1) from rfl).trans (by rw [e8])]
      exact h9
    by_cases hk261 : kv.1 = 261
    · have hs : sg i = 11 := by rw [hs0, hk261]; decide
      have hn : jNd kv.1 = 3 := by rw [hk261]; decide
      rw [hn] at o1
      show bV O _ d 14 [(6, .int (nI i)), (5, .int (nI t)), (4, .ref mo), (0, .ref 50), (1, .int x), (2, .ref r), (3, .int (nI o))] [] (bU f 56 (.inl (0, 122, .inl g)), n, s) _
      refine r_iload (i := 6) 0 rfl dX11_tells_14 ?_
      refine r_aload (i := 4) 2 rfl dX11_tells_16 ?_
      refine p_get (fs := [.int pt, .int (nI N), .int ak, .ref ms, .ref mv]) flX11_216 (by exact ((bU_n (by omega)).trans (h1))) rfl dX11_tells_18 ?_
      refine r_icmp_ge (tgt := 214) (by decide) dX11_tells_21 (fun h9 => absurd h9 (fun h7 => absurd ((nI_leI (a := N) (b := i) (by omega) (by omega)).mp h7) (by omega))) (fun _ => ?_)
      refine r_aload (i := 4) 2 rfl dX11_tells_24 ?_
      refine p_get (fs := [.int pt, .int (nI N), .int ak, .ref ms, .ref mv]) flX11_248 (by exact ((bU_n (by omega)).trans (h1))) rfl dX11_tells_26 ?_
      refine r_iload (i := 6) 0 rfl dX11_tells_29 ?_
      refine p_ialdN (t := i) (by exact ((bU_n (by omega)).trans (h2))) (by omega) (by omega) dX11_tells_31 ?_
      refine r_istore (i := 7) (L' := [(7, .int (sg i)), (6, .int (nI i)), (5, .int (nI t)), (4, .ref mo), (0, .ref 50), (1, .int x), (2, .ref r), (3, .int (nI o))]) dX11_tells_32 (by decide) rfl ?_
      refine r_iload (i := 7) 0 rfl dX11_tells_34 ?_
      refine r_if_eq (tgt := 45) (by decide) dX11_tells_36 (fun h9 => absurd h9 (by rw [hs]; decide)) (fun _ => ?_)
      refine r_iload (i := 7) 0 rfl dX11_tells_39 ?_
      refine r_iconst (v := 1) (by decide) dX11_tells_41 ?_
      refine r_icmp_ne (tgt := 86) (by decide) dX11_tells_42 (fun _ => ?_) (fun h9 => absurd h9 (by rw [hs]; decide))
      refine r_iload (i := 7) 0 rfl dX11_tells_86 ?_
      refine r_bipush (v := 8) (by decide) dX11_tells_88 ?_
      refine r_icmp_ne (tgt := 119) (by decide) dX11_tells_90 (fun _ => ?_) (fun h9 => absurd h9 (by rw [hs]; decide))
      refine r_iload (i := 7) 0 rfl dX11_tells_119 ?_
      refine r_bipush (v := 11) (by decide) dX11_tells_121 ?_
      refine r_icmp_ne (tgt := 173) (by decide) dX11_tells_123 (fun h9 => absurd h9 (fun h7 => h7 hs)) (fun _ => ?_)
      refine r_iinc (i := 5) (v := nI (t - 2)) (L' := [(5, .int (nI (t - 2))), (7, .int (sg i)), (6, .int (nI i)), (4, .ref mo), (0, .ref 50), (1, .int x), (2, .ref r), (3, .int (nI o))]) 2 rfl (nI_dec (k := 2) (by decide) (by omega)) dX11_tells_126 (by decide) rfl ?_
      refine r_aload_n (n := 0) (i := 0) 4 rfl rfl dX11_tells_129 ?_
      refine p_get (fs := [.int th_, .int tr_, .int wh_, .int fl_, .int nm_, .ref 51, .ref q_, .ref 53, .ref 54, .int tp_, .int sz_, .int at_, .int so_, .int pl_, .int mk_, .int nu_, .int di_, .int br_, .int iff_, .long wo_, .ref 55, .ref 56, .int nd_, .int td_, .ref 57, .int na_, .ref 58, .ref 59, .ref 60, .ref 61, .ref 62, .ref 63, .int hs_, .ref 64, .int nf_]) flX11_41 (by exact ((bU_n (by decide)).trans (h0))) rfl dX11_tells_130 ?_
      refine r_iload (i := 5) 0 rfl dX11_tells_133 ?_
      refine r_iconst (v := 1) (by decide) dX11_tells_135 ?_
      refine r_isubE (v := nI ((t - 2) - 1)) (pk_sub (a := t - 2) (b := 1) (by omega)) dX11_tells_136 ?_
      refine r_aload_n (n := 0) (i := 0) 4 rfl rfl dX11_tells_137 ?_
      refine p_get (fs := [.int th_, .int tr_, .int wh_, .int fl_, .int nm_, .ref 51, .ref q_, .ref 53, .ref 54, .int tp_, .int sz_, .int at_, .int so_, .int pl_, .int mk_, .int nu_, .int di_, .int br_, .int iff_, .long wo_, .ref 55, .ref 56, .int nd_, .int td_, .ref 57, .int na_, .ref 58, .ref 59, .ref 60, .ref 61, .ref 62, .ref 63, .int hs_, .ref 64, .int nf_]) flX11_41 (by exact ((bU_n (by decide)).trans (h0))) rfl dX11_tells_138 ?_
      refine r_iload (i := 5) 0 rfl dX11_tells_141 ?_
      refine r_iconst (v := 1) (by decide) dX11_tells_143 ?_
      refine r_isubE (v := nI ((t - 2) - 1)) (pk_sub (a := t - 2) (b := 1) (by omega)) dX11_tells_144 ?_
      refine p_ialdN (t := (t - 2) - 1) (by exact bU_s _ _ _) (by omega) (by omega) dX11_tells_145 ?_
      refine r_iconst (v := 1) (by decide) dX11_tells_146 ?_
      refine r_icmp_ne (tgt := 160) (by decide) dX11_tells_147 (fun c147 => ?_) (fun c147 => ?_)
      · refine r_aload_n (n := 0) (i := 0) 4 rfl rfl dX11_tells_160 ?_
        refine p_get (fs := [.int th_, .int tr_, .int wh_, .int fl_, .int nm_, .ref 51, .ref q_, .ref 53, .ref 54, .int tp_, .int sz_, .int at_, .int so_, .int pl_, .int mk_, .int nu_, .int di_, .int br_, .int iff_, .long wo_, .ref 55, .ref 56, .int nd_, .int td_, .ref 57, .int na_, .ref 58, .ref 59, .ref 60, .ref 61, .ref 62, .ref 63, .int hs_, .ref 64, .int nf_]) flX11_41 (by exact ((bU_n (by decide)).trans (h0))) rfl dX11_tells_161 ?_
        refine r_iload (i := 5) 0 rfl dX11_tells_164 ?_
        refine r_iconst (v := 1) (by decide) dX11_tells_166 ?_
        refine r_iaddE (v := nI (t - 2 + 1)) (nI_add (t - 2) 1) dX11_tells_167 ?_
        refine p_ialdN (t := t - 2 + 1) (by exact bU_s _ _ _) (by omega) (by omega) dX11_tells_168 ?_
        refine p_iastN (t := (t - 2) - 1) (by exact bU_s _ _ _) (by omega) (by omega) dX11_tells_169 ?_
        refine bV_h (f2 := bU f 56 (.inl (0, 122, .inl (upd g ((t - 2) - 1) (g (t - 2 + 1)))))) (bU_u _ _ _ _) ?_
        refine r_goto (tgt := 208) (by decide) dX11_tells_170 ?_
        refine r_iinc (i := 6) (v := nI (i + 1)) (L' := [(6, .int (nI (i + 1))), (5, .int (nI (t - 2))), (7, .int (sg i)), (4, .ref mo), (0, .ref 50), (1, .int x), (2, .ref r), (3, .int (nI o))]) 2 rfl (nI_inc1 i) dX11_tells_208 (by decide) rfl ?_
        refine r_goto (tgt := 14) (by decide) dX11_tells_211 ?_
        have o6 : okr c (t - 2) := by rw [hn, show t - 3 + 1 = t - 2 by omega] at o5; exact o5
        have e7 : (upd g ((t - 2) - 1) (g (t - 2 + 1))) = upd g (t - jNd kv.1) (opvM (fun k => row (o + k)) kv g (t - jNd kv.1)) := by rw [hn, show t - 2 - 1 = t - 3 by omega]; unfold opvM; rw [if_neg (by rw [hn]; decide), if_neg (by rw [hn]; decide), if_neg (by rw [hn]; decide), show t - 3 + 1 = t - 2 by omega, show t - 3 + 2 = t - 2 + 1 by omega]; rw [show t - 2 - 1 = t - 3 by omega] at c147; first | rw [if_pos c147] | rw [if_neg c147]
        have e8 : t - jNd kv.1 + 1 = t - 2 := by rw [hn]; omega
        rw [e7]
        refine bV_loc [0, 1, 3, 4, 5, 6, 7] rfl ?_
        have h9 := hih (upd g (t - jNd kv.1) (opvM (fun k => row (o + k)) kv g (t - jNd kv.1))) (t - 2) o6 (by omega) (by omega)
        rw [show rg (opvM (fun k => row (o + k))) (kv :: c) (g, t) = rg (opvM (fun k => row (o + k))) c (upd g (t - jNd kv.1) (opvM (fun k => row (o + k)) kv g (t - jNd kv.1)), t - 2) from (show rg (opvM (fun k => row (o + k))) (kv :: c) (g, t) = rg (opvM (fun k => row (o + k))) c (upd g (t - jNd kv.1) (opvM (fun k => row (o + k)) kv g (t - jNd kv.1)), t - jNd kv.1 + 1) from rfl).trans (by rw [e8])]
        exact h9
      · refine r_aload_n (n := 0) (i := 0) 4 rfl rfl dX11_tells_150 ?_
        refine p_get (fs := [.int th_, .int tr_, .int wh_, .int fl_, .int nm_, .ref 51, .ref q_, .ref 53, .ref 54, .int tp_, .int sz_, .int at_, .int so_, .int pl_, .int mk_, .int nu_, .int di_, .int br_, .int iff_, .long wo_, .ref 55, .ref 56, .int nd_, .int td_, .ref 57, .int na_, .ref 58, .ref 59, .ref 60, .ref 61, .ref 62, .ref 63, .int hs_, .ref 64, .int nf_]) flX11_41 (by exact ((bU_n (by decide)).trans (h0))) rfl dX11_tells_151 ?_
        refine r_iload (i := 5) 0 rfl dX11_tells_154 ?_
        refine p_ialdN (t := t - 2) (by exact bU_s _ _ _) (by omega) (by omega) dX11_tells_156 ?_
        refine r_goto (tgt := 169) (by decide) dX11_tells_157 ?_
        refine p_iastN (t := (t - 2) - 1) (by exact bU_s _ _ _) (by omega) (by omega) dX11_tells_169 ?_
        refine bV_h (f2 := bU f 56 (.inl (0, 122, .inl (upd g ((t - 2) - 1) (g (t - 2)))))) (bU_u _ _ _ _) ?_
        refine r_goto (tgt := 208) (by decide) dX11_tells_170 ?_
        refine r_iinc (i := 6) (v := nI (i + 1)) (L' := [(6, .int (nI (i + 1))), (5, .int (nI (t - 2))), (7, .int (sg i)), (4, .ref mo), (0, .ref 50), (1, .int x), (2, .ref r), (3, .int (nI o))]) 2 rfl (nI_inc1 i) dX11_tells_208 (by decide) rfl ?_
        refine r_goto (tgt := 14) (by decide) dX11_tells_211 ?_
        have o6 : okr c (t - 2) := by rw [hn, show t - 3 + 1 = t - 2 by omega] at o5; exact o5
        have e7 : (upd g ((t - 2) - 1) (g (t - 2))) = upd g (t - jNd kv.1) (opvM (fun k => row (o + k)) kv g (t - jNd kv.1)) := by rw [hn, show t - 2 - 1 = t - 3 by omega]; unfold opvM; rw [if_neg (by rw [hn]; decide), if_neg (by rw [hn]; decide), if_neg (by rw [hn]; decide), show t - 3 + 1 = t - 2 by omega, show t - 3 + 2 = t - 2 + 1 by omega]; rw [show t - 2 - 1 = t - 3 by omega] at c147; first | rw [if_pos c147] | rw [if_neg c147]
        have e8 : t - jNd kv.1 + 1 = t - 2 := by rw [hn]; omega
        rw [e7]
        refine bV_loc [0, 1, 3, 4, 5, 6, 7] rfl ?_
        have h9 := hih (upd g (t - jNd kv.1) (opvM (fun k => row (o + k)) kv g (t - jNd kv.1))) (t - 2) o6 (by omega) (by omega)
        rw [show rg (opvM (fun k => row (o + k))) (kv :: c) (g, t) = rg (opvM (fun k => row (o + k))) c (upd g (t - jNd kv.1) (opvM (fun k => row (o + k)) kv g (t - jNd kv.1)), t - 2) from (show rg (opvM (fun k => row (o + k))) (kv :: c) (g, t) = rg (opvM (fun k => row (o + k))) c (upd g (t - jNd kv.1) (opvM (fun k => row (o + k)) kv g (t - jNd kv.1)), t - jNd kv.1 + 1) from rfl).trans (by rw [e8])]
        exact h9
    have hn : jNd kv.1 = 2 := by unfold jNd; rw [if_neg hk258, if_neg hk259, if_neg hk266, if_neg hk261]
    rw [hn] at o1
    obtain ⟨n0, n1, n8, n11⟩ := sgM_2 hk258 hk259 hk266 hk261
    rw [← hs0] at n0 n1 n8 n11
    show bV O _ d 14 [(6, .int (nI i)), (5, .int (nI t)), (4, .ref mo), (0, .ref 50), (1, .int x), (2, .ref r), (3, .int (nI o))] [] (bU f 56 (.inl (0, 122, .inl g)), n, s) _
    refine r_iload (i := 6) 0 rfl dX11_tells_14 ?_
    refine r_aload (i := 4) 2 rfl dX11_tells_16 ?_
    refine p_get (fs := [.int pt, .int (nI N), .int ak, .ref ms, .ref mv]) flX11_216 (by exact ((bU_n (by omega)).trans (h1))) rfl dX11_tells_18 ?_
    refine r_icmp_ge (tgt := 214) (by decide) dX11_tells_21 (fun h9 => absurd h9 (fun h7 => absurd ((nI_leI (a := N) (b := i) (by omega) (by omega)).mp h7) (by omega))) (fun _ => ?_)
    refine r_aload (i := 4) 2 rfl dX11_tells_24 ?_
    refine p_get (fs := [.int pt, .int (nI N), .int ak, .ref ms, .ref mv]) flX11_248 (by exact ((bU_n (by omega)).trans (h1))) rfl dX11_tells_26 ?_
    refine r_iload (i := 6) 0 rfl dX11_tells_29 ?_
    refine p_ialdN (t := i) (by exact ((bU_n (by omega)).trans (h2))) (by omega) (by omega) dX11_tells_31 ?_
    refine r_istore (i := 7) (L' := [(7, .int (sg i)), (6, .int (nI i)), (5, .int (nI t)), (4, .ref mo), (0, .ref 50), (1, .int x), (2, .ref r), (3, .int (nI o))]) dX11_tells_32 (by decide) rfl ?_
    refine r_iload (i := 7) 0 rfl dX11_tells_34 ?_
    refine r_if_eq (tgt := 45) (by decide) dX11_tells_36 (fun h9 => absurd h9 n0) (fun _ => ?_)
    refine r_iload (i := 7) 0 rfl dX11_tells_39 ?_
    refine r_iconst (v := 1) (by decide) dX11_tells_41 ?_
    refine r_icmp_ne (tgt := 86) (by decide) dX11_tells_42 (fun _ => ?_) (fun h9 => absurd h9 n1)
    refine r_iload (i := 7) 0 rfl dX11_tells_86 ?_
    refine r_bipush (v := 8) (by decide) dX11_tells_88 ?_
    refine r_icmp_ne (tgt := 119) (by decide) dX11_tells_90 (fun _ => ?_) (fun h9 => absurd h9 n8)
    refine r_iload (i := 7) 0 rfl dX11_tells_119 ?_
    refine r_bipush (v := 11) (by decide) dX11_tells_121 ?_
    refine r_icmp_ne (tgt := 173) (by decide) dX11_tells_123 (fun _ => ?_) (fun h9 => absurd h9 n11)
    refine r_iinc (i := 5) (v := nI (t - 1)) (L' := [(5, .int (nI (t - 1))), (7, .int (sg i)), (6, .int (nI i)), (4, .ref mo), (0, .ref 50), (1, .int x), (2, .ref r), (3, .int (nI o))]) 2 rfl (nI_dec (k := 1) (by decide) (by omega)) dX11_tells_173 (by decide) rfl ?_
    refine r_aload_n (n := 0) (i := 0) 4 rfl rfl dX11_tells_176 ?_
    refine p_get (fs := [.int th_, .int tr_, .int wh_, .int fl_, .int nm_, .ref 51, .ref q_, .ref 53, .ref 54, .int tp_, .int sz_, .int at_, .int so_, .int pl_, .int mk_, .int nu_, .int di_, .int br_, .int iff_, .long wo_, .ref 55, .ref 56, .int nd_, .int td_, .ref 57, .int na_, .ref 58, .ref 59, .ref 60, .ref 61, .ref 62, .ref 63, .int hs_, .ref 64, .int nf_]) flX11_41 (by exact ((bU_n (by decide)).trans (h0))) rfl dX11_tells_177 ?_
    refine r_iload (i := 5) 0 rfl dX11_tells_180 ?_
    refine r_iconst (v := 1) (by decide) dX11_tells_182 ?_
    refine r_isubE (v := nI ((t - 1) - 1)) (pk_sub (a := t - 1) (b := 1) (by omega)) dX11_tells_183 ?_
    refine r_iload (i := 7) 1 rfl dX11_tells_184 ?_
    refine r_aload_n (n := 0) (i := 0) 4 rfl rfl dX11_tells_186 ?_
    refine p_get (fs := [.int th_, .int tr_, .int wh_, .int fl_, .int nm_, .ref 51, .ref q_, .ref 53, .ref 54, .int tp_, .int sz_, .int at_, .int so_, .int pl_, .int mk_, .int nu_, .int di_, .int br_, .int iff_, .long wo_, .ref 55, .ref 56, .int nd_, .int td_, .ref 57, .int na_, .ref 58, .ref 59, .ref 60, .ref 61, .ref 62, .ref 63, .int hs_, .ref 64, .int nf_]) flX11_41 (by exact ((bU_n (by decide)).trans (h0))) rfl dX11_tells_187 ?_
    refine r_iload (i := 5) 0 rfl dX11_tells_190 ?_
    refine r_iconst (v := 1) (by decide) dX11_tells_192 ?_
    refine r_isubE (v := nI ((t - 1) - 1)) (pk_sub (a := t - 1) (b := 1) (by omega)) dX11_tells_193 ?_
    refine p_ialdN (t := (t - 1) - 1) (by exact bU_s _ _ _) (by omega) (by omega) dX11_tells_194 ?_
    refine r_i2l dX11_tells_195 ?_
    refine r_aload_n (n := 0) (i := 0) 4 rfl rfl dX11_tells_196 ?_
    refine p_get (fs := [.int th_, .int tr_, .int wh_, .int fl_, .int nm_, .ref 51, .ref q_, .ref 53, .ref 54, .int tp_, .int sz_, .int at_, .int so_, .int pl_, .int mk_, .int nu_, .int di_, .int br_, .int iff_, .long wo_, .ref 55, .ref 56, .int nd_, .int td_, .ref 57, .int na_, .ref 58, .ref 59, .ref 60, .ref 61, .ref 62, .ref 63, .int hs_, .ref 64, .int nf_]) flX11_41 (by exact ((bU_n (by decide)).trans (h0))) rfl dX11_tells_197 ?_
    refine r_iload (i := 5) 0 rfl dX11_tells_200 ?_
    refine p_ialdN (t := t - 1) (by exact bU_s _ _ _) (by omega) (by omega) dX11_tells_202 ?_
    refine r_i2l dX11_tells_203 ?_
    refine p_callS (As := [.int (sg i), .long ((g ((t - 1) - 1)).toInt64), .long ((g (t - 1)).toInt64)]) (rest := [.int (nI ((t - 1) - 1)), .ref 56]) (kX11_both (O := O) (d := 2) (f := bU f 56 (.inl (0, 122, .inl g))) (n := n) (s := s) (y := sg i) (a := (g ((t - 1) - 1)).toInt64) (b := (g (t - 1)).toInt64)   (Nat.le_refl _)).call rfl lkX11_258 smX11_both rfl rfl (by omega) (Nat.le_of_ble_eq_true rfl) dX11_tells_204 (fun v9 G9 h9 => ?_) (fun q9 G9 h9 => (by cases h9.1))
    obtain ⟨h8, rfl⟩ := h9; cases h8
    show bV O _ d 207 [(5, .int (nI (t - 1))), (7, .int (sg i)), (6, .int (nI i)), (4, .ref mo), (0, .ref 50), (1, .int x), (2, .ref r), (3, .int (nI o))] [.int (jBo (sg i) ((g ((t - 1) - 1)).toInt64) ((g (t - 1)).toInt64)), .int (nI ((t - 1) - 1)), .ref 56] (bU f 56 (.inl (0, 122, .inl g)), n, s) _
    refine p_iastN (t := (t - 1) - 1) (by exact bU_s _ _ _) (by omega) (by omega) dX11_tells_207 ?_
    refine bV_h (f2 := bU f 56 (.inl (0, 122, .inl (upd g ((t - 1) - 1) (jBo (sg i) ((g ((t - 1) - 1)).toInt64) ((g (t - 1)).toInt64)))))) (bU_u _ _ _ _) ?_
    refine r_iinc (i := 6) (v := nI (i + 1)) (L' := [(6, .int (nI (i + 1))), (5, .int (nI (t - 1))), (7, .int (sg i)), (4, .ref mo), (0, .ref 50), (1, .int x), (2, .ref r), (3, .int (nI o))]) 2 rfl (nI_inc1 i) dX11_tells_208 (by decide) rfl ?_
    refine r_goto (tgt := 14) (by decide) dX11_tells_211 ?_
    have o6 : okr c (t - 1) := by rw [hn, show t - 2 + 1 = t - 1 by omega] at o5; exact o5
    have e7 : (upd g ((t - 1) - 1) (jBo (sg i) ((g ((t - 1) - 1)).toInt64) ((g (t - 1)).toInt64))) = upd g (t - jNd kv.1) (opvM (fun k => row (o + k)) kv g (t - jNd kv.1)) := by rw [hn, show t - 1 - 1 = t - 2 by omega, hs0, jBo_eq]; unfold opvM; rw [if_neg (by rw [hn]; decide), if_neg (by rw [hn]; decide), if_pos hn, show t - 2 + 1 = t - 1 by omega]
    have e8 : t - jNd kv.1 + 1 = t - 1 := by rw [hn]; omega
    rw [e7]
    refine bV_loc [0, 1, 3, 4, 5, 6, 7] rfl ?_
    have h9 := hih (upd g (t - jNd kv.1) (opvM (fun k => row (o + k)) kv g (t - jNd kv.1))) (t - 1) o6 (by omega) (by omega)
    rw [show rg (opvM (fun k => row (o + k))) (kv :: c) (g, t) = rg (opvM (fun k => row (o + k))) c (upd g (t - jNd kv.1) (opvM (fun k => row (o + k)) kv g (t - jNd kv.1)), t - 1) from (show rg (opvM (fun k => row (o + k))) (kv :: c) (g, t) = rg (opvM (fun k => row (o + k))) c (upd g (t - jNd kv.1) (opvM (fun k => row (o + k)) kv g (t - jNd kv.1)), t - jNd kv.1 + 1) from rfl).trans (by rw [e8])]
    exact h9
theorem vl_congr {c : cL} {ip iq : Nat → Int32} (h : EX c) (hi : ∀ k, k < 6 → ip k = iq k) : vl c ip = vl c iq := by
  have : ∃ v, SEM (opv ip) c v ∧ SEM (opv iq) c v := by
    refine h (fun c => ∃ v, SEM (opv ip) c v ∧ SEM (opv iq) c v) ?_ ?_ ?_ ?_ ?_
    · intro v _ _
      exact ⟨v, SEM_0 rfl (fun _ _ => rfl), SEM_0 rfl (fun _ _ => rfl)⟩
    · intro k hk
      have hc : (nI k).toNatClampNeg = k := nI_clamp (by omega)
      refine ⟨ip k, SEM_0 rfl (fun _ _ => ?_), SEM_0 rfl (fun _ _ => ?_)⟩
      · show ip (nI k).toNatClampNeg = ip k
        rw [hc]
      · show iq (nI k).toNatClampNeg = ip k
        rw [hc, hi k hk]
    · intro a ⟨v, h1, h2⟩
      exact ⟨-v, SEM_1 (N := fun x => -x) rfl (fun _ _ => rfl) h1, SEM_1 (N := fun x => -x) rfl (fun _ _ => rfl) h2⟩
    · intro a b k hk ⟨va, a1, a2⟩ ⟨vb, b1, b2⟩
      exact ⟨jJoin k va vb, SEM_2 (B := jJoin k) (opB_nd hk) (opv_2 (opB_nd hk)) a1 b1, SEM_2 (B := jJoin k) (opB_nd hk) (opv_2 (opB_nd hk)) a2 b2⟩
    · intro a b k x y hk ⟨va, a1, a2⟩ ⟨vb, b1, b2⟩ ⟨vx, x1, x2⟩ ⟨vy, y1, y2⟩
      exact ⟨if jJoin k va vb = 0 then vy else vx, SEM_3 (F := fun p q r => if p = 0 then r else q) rfl (fun _ _ => rfl) (SEM_2 (B := jJoin k) (opC_nd hk) (opv_2 (opC_nd hk)) a1 b1) x1 y1, SEM_3 (F := fun p q r => if p = 0 then r else q) rfl (fun _ _ => rfl) (SEM_2 (B := jJoin k) (opC_nd hk) (opv_2 (opC_nd hk)) a2 b2) x2 y2⟩
  obtain ⟨v, h1, h2⟩ := this
  obtain ⟨g1, e1, e2, -⟩ := h1 (fun _ => 0) 0
  obtain ⟨g2, f1, f2, -⟩ := h2 (fun _ => 0) 0
  unfold vl
  rw [rg_rn, rg_rn, e1, f1]
  show g1 0 = g2 0
  rw [e2, f2]
theorem kX11_tells {O : bO} {d : Nat} {f : bF} {n s : Nat} {th_ : Int32} {tr_ : Int32} {wh_ : Int32} {fl_ : Int32} {nm_ : Int32} {q_ : Nat} {tp_ : Int32} {sz_ : Int32} {at_ : Int32} {so_ : Int32} {pl_ : Int32} {mk_ : Int32} {nu_ : Int32} {di_ : Int32} {br_ : Int32} {iff_ : Int32} {wo_ : Int64} {nd_ : Int32} {td_ : Int32} {na_ : Int32} {hs_ : Int32} {nf_ : Int32} {r R o mc : Nat} {x : Int32} {row ip g : Nat → Int32} {md : Nat → MR} (h0 : f 50 = some (.inr (11, [.int th_, .int tr_, .int wh_, .int fl_, .int nm_, .ref 51, .ref q_, .ref 53, .ref 54, .int tp_, .int sz_, .int at_, .int so_, .int pl_, .int mk_, .int nu_, .int di_, .int br_, .int iff_, .long wo_, .ref 55, .ref 56, .int nd_, .int td_, .ref 57, .int na_, .ref 58, .ref 59, .ref 60, .ref 61, .ref 62, .ref 63, .int hs_, .ref 64, .int nf_]))) (h4 : f r = some (.inl (0, R, .inl row))) (h56 : f 56 = some (.inl (0, 122, .inl g))) (hM : NM f mc md) (hm : mc ≤ 20) (hx : inB x mc = true) (hE : EX (md (cl x)).1 ∧ (md (cl x)).1.length ≤ 60) (hrow : ∀ k, k < 6 → row (o + k) = ip k) (hip : ∀ k, k < 6 → in9 (ip k)) (hR : o + 6 ≤ R) (hR2 : R < 5000) (g4 : r ≠ 56) (hd : 3 ≤ d) : bCall O mX11_tells d [.ref 50, .int x, .ref r, .int (nI o)] (f, n, s) (fun r9 G' => r9 = .inl (some (.int (vl (md (cl x)).1 ip))) ∧ ∃ g' : Nat → Int32, G' = (bU f 56 (.inl (0, 122, .inl g')), n, s)) := by
  obtain ⟨sg, vs, m1, m2, m3, m4⟩ := hM.2.1 _ (inB_lt hx)
  have hb := nA_b (i := cl x) (by have := inB_lt hx; omega)
  have hw := hE.1.wx hE.2
  have hip2 : ∀ k, k < 6 → -1000 ≤ (row (o + k)).toInt ∧ (row (o + k)).toInt ≤ 1000 := fun k hk => by rw [hrow k hk]; exact hip k hk
  have e1 : vl (md (cl x)).1 ip = vl (md (cl x)).1 (fun k => row (o + k)) := vl_congr hE.1 (fun k hk => (hrow k hk).symm)
  rw [e1]
  refine bCall_of (by decide) rfl (Nat.le_of_ble_eq_true rfl) ?_
  refine bV_h (bU_i h56).symm ?_
  show bV O _ d 0 [(0, .ref 50), (1, .int x), (2, .ref r), (3, .int (nI o))] [] (bU f 56 (.inl (0, 122, .inl g)), n, s) _
  refine r_aload_n (n := 0) (i := 0) 0 rfl rfl dX11_tells_0 ?_
  refine p_get (fs := [.int th_, .int tr_, .int wh_, .int fl_, .int nm_, .ref 51, .ref q_, .ref 53, .ref 54, .int tp_, .int sz_, .int at_, .int so_, .int pl_, .int mk_, .int nu_, .int di_, .int br_, .int iff_, .long wo_, .ref 55, .ref 56, .int nd_, .int td_, .ref 57, .int na_, .ref 58, .ref 59, .ref 60, .ref 61, .ref 62, .ref 63, .int hs_, .ref 64, .int nf_]) flX11_17 (by exact ((bU_n (by decide)).trans (h0))) rfl dX11_tells_1 ?_
  refine r_iload_n (n := 1) (i := 1) 1 rfl rfl dX11_tells_4 ?_
  refine p_aald (kd := 6) rfl (by exact ((bU_n (by decide)).trans (hM.1))) (vpk (inB_nn hx) (by have := inB_lt hx; rw [← nI_cl (inB_nn hx)]; exact (nI_ltI (by omega) (by omega)).mpr (by omega)) (by decide)) dX11_tells_5 ?_
  · rw [tab_in hx]
    refine r_astore (i := 4) (L' := [(4, .ref (nA (cl x))), (0, .ref 50), (1, .int x), (2, .ref r), (3, .int (nI o))]) dX11_tells_6 (by decide) rfl ?_
    refine r_iconst (v := 0) (by decide) dX11_tells_8 ?_
    refine r_istore (i := 5) (L' := [(5, .int 0), (4, .ref (nA (cl x))), (0, .ref 50), (1, .int x), (2, .ref r), (3, .int (nI o))]) dX11_tells_9 (by decide) rfl ?_
    refine r_iconst (v := 0) (by decide) dX11_tells_11 ?_
    refine r_istore (i := 6) (L' := [(6, .int 0), (5, .int 0), (4, .ref (nA (cl x))), (0, .ref 50), (1, .int x), (2, .ref r), (3, .int (nI o))]) dX11_tells_12 (by decide) rfl ?_
    refine bV_loc [0, 1, 2, 3, 4, 5, 6] rfl ?_
    refine (lp_tells (ms := nA (cl x) + 1) (mv := nA (cl x) + 2) (o := o) h0 m1 m2 m3 h4 hE.2 hR hR2 (by omega) (by omega) (by omega) g4 hd (md (cl x)).1 0 0 g (by omega) (fun j h => ?_) hw.1 (fun h => absurd h hw.2.1) (by omega)).mono ?_
    · rw [Nat.zero_add]; exact m4 j _ (List.getElem?_eq_getElem h)
    · intro r9 G' ⟨h1, h2⟩
      refine ⟨?_, _, h2⟩
      rw [h1, (hE.1.tells (fun k => row (o + k)) g hip2).1]
