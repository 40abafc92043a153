/-! ===== the class: loops of a door, reading a model, the shelf's helpers (printed by wip/gen/low2.py) ===== -/
def chF (cd ct : Nat → Int32) (day : Int32) : Nat → Nat → Int32 → Int32
  | 0, _, v => v
  | k + 1, i, v => if cd i ≤ day then chF cd ct day k (i + 1) (ct i) else v
theorem lp_chOn {O : bO} {d : Nat} {f : bF} {n s : Nat} {q : Nat} {ch : Int32} {rv : Int32} {sh : Int32} {fc : Nat} {cn : Nat} {kp : Int32} {rf : Int32} {cd ct : Nat → Int32} {day : Int32} (h0 : f q = some (.inr (1, [.ref (q + 1), .ref (q + 2), .ref (q + 3), .ref (q + 4), .ref (q + 5), .ref (q + 6), .ref (q + 7), .int ch, .int rv, .int sh, .int (nI fc), .int (nI cn), .int kp, .int rf]))) (h1 : f (q + 4) = some (.inl (0, 2001, .inl cd))) (h2 : f (q + 5) = some (.inl (0, 2001, .inl ct))) (e0 : cn ≤ 2001) : ∀ (j i : Nat) (v : Int32), i + j = cn → bV O mX1_championOn d 5 [(3, .int (nI i)), (2, .int v), (0, .ref q), (1, .int day)] [] (f, n, s) (fun r G' => r = .inl (some (.int (chF cd ct day j i v))) ∧ G' = (f, n, s)) := by
  intro j
  induction j with
  | zero =>
    intro i v hi
    show bV O _ d 5 [(3, .int (nI i)), (2, .int v), (0, .ref q), (1, .int day)] [] (f, n, s) _
    refine r_iload_n (n := 3) (i := 3) 0 rfl rfl dX1_championOn_5 ?_
    refine r_aload_n (n := 0) (i := 0) 2 rfl rfl dX1_championOn_6 ?_
    refine p_get (fs := [.ref (q + 1), .ref (q + 2), .ref (q + 3), .ref (q + 4), .ref (q + 5), .ref (q + 6), .ref (q + 7), .int ch, .int rv, .int sh, .int (nI fc), .int (nI cn), .int kp, .int rf]) flX1_58 h0 rfl dX1_championOn_7 ?_
    refine r_icmp_ge (tgt := 56) (by decide) dX1_championOn_10 (fun _ => ?_) (fun h9 => absurd ((nI_leI (a := cn) (b := i) (by omega) (by omega)).mpr (by omega)) h9)
    refine r_iload_n (n := 2) (i := 2) 1 rfl rfl dX1_championOn_56 ?_
    refine r_ireturn rfl dX1_championOn_57 ?_
    exact ⟨rfl, rfl⟩
  | succ j ih =>
    intro i v hi
    show bV O _ d 5 [(3, .int (nI i)), (2, .int v), (0, .ref q), (1, .int day)] [] (f, n, s) _
    refine r_iload_n (n := 3) (i := 3) 0 rfl rfl dX1_championOn_5 ?_
    refine r_aload_n (n := 0) (i := 0) 2 rfl rfl dX1_championOn_6 ?_
    refine p_get (fs := [.ref (q + 1), .ref (q + 2), .ref (q + 3), .ref (q + 4), .ref (q + 5), .ref (q + 6), .ref (q + 7), .int ch, .int rv, .int sh, .int (nI fc), .int (nI cn), .int kp, .int rf]) flX1_58 h0 rfl dX1_championOn_7 ?_
    refine r_icmp_ge (tgt := 56) (by decide) dX1_championOn_10 (fun h9 => absurd h9 (fun h7 => absurd ((nI_leI (a := cn) (b := i) (by omega) (by omega)).mp h7) (by omega))) (fun _ => ?_)
    refine r_iload_n (n := 3) (i := 3) 0 rfl rfl dX1_championOn_13 ?_
    refine r_aload_n (n := 0) (i := 0) 2 rfl rfl dX1_championOn_14 ?_
    refine p_get (fs := [.ref (q + 1), .ref (q + 2), .ref (q + 3), .ref (q + 4), .ref (q + 5), .ref (q + 6), .ref (q + 7), .int ch, .int rv, .int sh, .int (nI fc), .int (nI cn), .int kp, .int rf]) flX1_21 h0 rfl dX1_championOn_15 ?_
    refine p_alen2 (kd := 0) (n := 2001) (a := (2001, .inl cd)) rfl h1 rfl dX1_championOn_18 ?_
    refine r_icmp_ge (tgt := 56) (by decide) dX1_championOn_19 (fun h9 => absurd h9 (fun h7 => absurd ((nI_leI (a := 2001) (b := i) (by omega) (by omega)).mp h7) (by omega))) (fun _ => ?_)
    refine r_iload_n (n := 3) (i := 3) 0 rfl rfl dX1_championOn_22 ?_
    refine r_aload_n (n := 0) (i := 0) 2 rfl rfl dX1_championOn_23 ?_
    refine p_get (fs := [.ref (q + 1), .ref (q + 2), .ref (q + 3), .ref (q + 4), .ref (q + 5), .ref (q + 6), .ref (q + 7), .int ch, .int rv, .int sh, .int (nI fc), .int (nI cn), .int kp, .int rf]) flX1_24 h0 rfl dX1_championOn_24 ?_
    refine p_alen2 (kd := 0) (n := 2001) (a := (2001, .inl ct)) rfl h2 rfl dX1_championOn_27 ?_
    refine r_icmp_ge (tgt := 56) (by decide) dX1_championOn_28 (fun h9 => absurd h9 (fun h7 => absurd ((nI_leI (a := 2001) (b := i) (by omega) (by omega)).mp h7) (by omega))) (fun _ => ?_)
    refine r_aload_n (n := 0) (i := 0) 2 rfl rfl dX1_championOn_31 ?_
    refine p_get (fs := [.ref (q + 1), .ref (q + 2), .ref (q + 3), .ref (q + 4), .ref (q + 5), .ref (q + 6), .ref (q + 7), .int ch, .int rv, .int sh, .int (nI fc), .int (nI cn), .int kp, .int rf]) flX1_21 h0 rfl dX1_championOn_32 ?_
    refine r_iload_n (n := 3) (i := 3) 0 rfl rfl dX1_championOn_35 ?_
    refine p_ialdN (t := i) h1 (by omega) (by omega) dX1_championOn_36 ?_
    refine r_iload_n (n := 1) (i := 1) 3 rfl rfl dX1_championOn_37 ?_
    refine r_icmp_le (tgt := 43) (by decide) dX1_championOn_38 (fun c38 => ?_) (fun c38 => ?_)
    · refine r_aload_n (n := 0) (i := 0) 2 rfl rfl dX1_championOn_43 ?_
      refine p_get (fs := [.ref (q + 1), .ref (q + 2), .ref (q + 3), .ref (q + 4), .ref (q + 5), .ref (q + 6), .ref (q + 7), .int ch, .int rv, .int sh, .int (nI fc), .int (nI cn), .int kp, .int rf]) flX1_24 h0 rfl dX1_championOn_44 ?_
      refine r_iload_n (n := 3) (i := 3) 0 rfl rfl dX1_championOn_47 ?_
      refine p_ialdN (t := i) h2 (by omega) (by omega) dX1_championOn_48 ?_
      refine r_istore_n (n := 2) (i := 2) (L' := [(2, .int (ct i)), (3, .int (nI i)), (0, .ref q), (1, .int day)]) rfl dX1_championOn_49 (by decide) rfl ?_
      refine r_iinc (i := 3) (v := nI (i + 1)) (L' := [(3, .int (nI (i + 1))), (2, .int (ct i)), (0, .ref q), (1, .int day)]) 1 rfl (nI_inc1 i) dX1_championOn_50 (by decide) rfl ?_
      refine r_goto (tgt := 5) (by decide) dX1_championOn_53 ?_
      rw [show chF cd ct day (j + 1) i v = chF cd ct day j (i + 1) (ct i) by rw [chF, if_pos c38]]; refine bV_loc [0, 1, 2, 3] rfl ?_; exact ih (i + 1) (ct i) (by omega)
    · refine r_iload_n (n := 2) (i := 2) 1 rfl rfl dX1_championOn_41 ?_
      refine r_ireturn rfl dX1_championOn_42 ?_
      rw [show chF cd ct day (j + 1) i v = v by rw [chF, if_neg c38]]
      exact ⟨rfl, rfl⟩
set_option maxRecDepth 4000 in
theorem kX1_championOn {O : bO} {d : Nat} {f : bF} {n s : Nat} {q : Nat} {ch : Int32} {rv : Int32} {sh : Int32} {fc : Nat} {cn : Nat} {kp : Int32} {rf : Int32} {cd : Nat → Int32} {ct : Nat → Int32} {day : Int32} (h0 : f q = some (.inr (1, [.ref (q + 1), .ref (q + 2), .ref (q + 3), .ref (q + 4), .ref (q + 5), .ref (q + 6), .ref (q + 7), .int ch, .int rv, .int sh, .int (nI fc), .int (nI cn), .int kp, .int rf]))) (h1 : f (q + 4) = some (.inl (0, 2001, .inl cd))) (h2 : f (q + 5) = some (.inl (0, 2001, .inl ct))) (e0 : cn ≤ 2001) (hd : 0 ≤ d) : bMt O mX1_championOn d [.ref q, .int day] (f, n, s) (.inl (some (.int (chF cd ct day cn 0 (-2))))) (f, n, s) := by
  refine bMt_of (bCall_of (by decide) rfl (Nat.le_of_ble_eq_true rfl) ?_)
  show bV O _ d 0 [(0, .ref q), (1, .int day)] [] (f, n, s) _
  refine r_bipush (v := (-2)) (by decide) dX1_championOn_0 ?_
  refine r_istore_n (n := 2) (i := 2) (L' := [(2, .int (-2)), (0, .ref q), (1, .int day)]) rfl dX1_championOn_2 (by decide) rfl ?_
  refine r_iconst (v := 0) (by decide) dX1_championOn_3 ?_
  refine r_istore_n (n := 3) (i := 3) (L' := [(3, .int 0), (2, .int (-2)), (0, .ref q), (1, .int day)]) rfl dX1_championOn_4 (by decide) rfl ?_
  exact lp_chOn h0 h1 h2 e0 cn 0 (-2) (by omega)
def cu (ip g : Nat → Int32) (k : Nat) : Nat → Int32 := upd g (k * 4 + jBn (ip k)) (g (k * 4 + jBn (ip k)) + 1)
def cuL (ip : Nat → Int32) : Nat → Nat → (Nat → Int32) → (Nat → Int32)
  | 0, _, g => g
  | j + 1, k, g => cuL ip j (k + 1) (cu ip g k)
theorem lp_cnt {O : bO} {d : Nat} {f : bF} {n s : Nat} {q : Nat} {ch : Int32} {rv : Int32} {sh : Int32} {fc : Nat} {cn : Nat} {kp : Int32} {rf : Int32} {ip : Nat → Int32} {r : Nat} (h0 : f q = some (.inr (1, [.ref (q + 1), .ref (q + 2), .ref (q + 3), .ref (q + 4), .ref (q + 5), .ref (q + 6), .ref (q + 7), .int ch, .int rv, .int sh, .int (nI fc), .int (nI cn), .int kp, .int rf]))) (h2 : f r = some (.inl (0, 6, .inl ip))) (e0 : r ≠ q + 6) (hd : 1 ≤ d) : ∀ (j k : Nat) (g : Nat → Int32), k + j = 6 → bV O mX1_countAnswer d 12 [(2, .int (nI k)), (0, .ref q), (1, .ref r)] [] (bU f (q + 6) (.inl (0, 24, .inl g)), n, s) (fun r9 G' => r9 = .inl none ∧ G' = (bU f (q + 6) (.inl (0, 24, .inl (cuL ip j k g))), n, s)) := by
  intro j
  induction j with
  | zero =>
    intro k g hi
    show bV O _ d 12 [(2, .int (nI k)), (0, .ref q), (1, .ref r)] [] (bU f (q + 6) (.inl (0, 24, .inl g)), n, s) _
    refine r_iload_n (n := 2) (i := 2) 0 rfl rfl dX1_countAnswer_12 ?_
    refine r_aload_n (n := 1) (i := 1) 2 rfl rfl dX1_countAnswer_13 ?_
    refine p_alen2 (kd := 0) (n := 6) (a := (6, .inl ip)) rfl (by exact ((bU_n (by omega)).trans (h2))) rfl dX1_countAnswer_14 ?_
    refine r_icmp_ge (tgt := 49) (by decide) dX1_countAnswer_15 (fun _ => ?_) (fun h9 => absurd ((nI_leI (a := 6) (b := k) (by omega) (by omega)).mpr (by omega)) h9)
    refine r_return rfl dX1_countAnswer_49 ?_
    exact ⟨rfl, rfl⟩
  | succ j ih =>
    intro k g hi
    have hj := jBn_lt (ip k)
    show bV O _ d 12 [(2, .int (nI k)), (0, .ref q), (1, .ref r)] [] (bU f (q + 6) (.inl (0, 24, .inl g)), n, s) _
    refine r_iload_n (n := 2) (i := 2) 0 rfl rfl dX1_countAnswer_12 ?_
    refine r_aload_n (n := 1) (i := 1) 2 rfl rfl dX1_countAnswer_13 ?_
    refine p_alen2 (kd := 0) (n := 6) (a := (6, .inl ip)) rfl (by exact ((bU_n (by omega)).trans (h2))) rfl dX1_countAnswer_14 ?_
    refine r_icmp_ge (tgt := 49) (by decide) dX1_countAnswer_15 (fun h9 => absurd h9 (fun h7 => absurd ((nI_leI (a := 6) (b := k) (by omega) (by omega)).mp h7) (by omega))) (fun _ => ?_)
    refine r_iload_n (n := 2) (i := 2) 0 rfl rfl dX1_countAnswer_18 ?_
    refine r_bipush (v := 6) (by decide) dX1_countAnswer_19 ?_
    refine r_icmp_ge (tgt := 49) (by decide) dX1_countAnswer_21 (fun h9 => absurd h9 (fun h7 => absurd ((nI_leI (a := 6) (b := k) (by omega) (by omega)).mp h7) (by omega))) (fun _ => ?_)
    refine r_aload_n (n := 0) (i := 0) 1 rfl rfl dX1_countAnswer_24 ?_
    refine p_get (fs := [.ref (q + 1), .ref (q + 2), .ref (q + 3), .ref (q + 4), .ref (q + 5), .ref (q + 6), .ref (q + 7), .int ch, .int rv, .int sh, .int (nI fc), .int (nI cn), .int kp, .int rf]) flX1_27 (by exact ((bU_n (by omega)).trans (h0))) rfl dX1_countAnswer_25 ?_
    refine r_iload_n (n := 2) (i := 2) 0 rfl rfl dX1_countAnswer_28 ?_
    refine r_iconst (v := 4) (by decide) dX1_countAnswer_29 ?_
    refine r_imulE (v := nI (k * 4)) (pk_mul k 4) dX1_countAnswer_30 ?_
    refine r_aload_n (n := 1) (i := 1) 2 rfl rfl dX1_countAnswer_31 ?_
    refine r_iload_n (n := 2) (i := 2) 0 rfl rfl dX1_countAnswer_32 ?_
    refine p_ialdN (t := k) (by exact ((bU_n (by omega)).trans (h2))) (by omega) (by omega) dX1_countAnswer_33 ?_
    refine p_callS (As := [.int (ip k)]) (rest := [.int (nI (k * 4)), .ref (q + 6)]) (kX1_binOf (O := O) (d := 0) (f := bU f (q + 6) (.inl (0, 24, .inl g))) (n := n) (s := s) (v := ip k)   (Nat.le_refl _)).call rfl lkX1_64 smX1_binOf rfl rfl (by omega) (Nat.le_of_ble_eq_true rfl) dX1_countAnswer_34 (fun v9 G9 h9 => ?_) (fun q9 G9 h9 => (by cases h9.1))
    obtain ⟨h8, rfl⟩ := h9; cases h8
    show bV O _ d 37 [(2, .int (nI k)), (0, .ref q), (1, .ref r)] [.int (nI (jBn (ip k))), .int (nI (k * 4)), .ref (q + 6)] (bU f (q + 6) (.inl (0, 24, .inl g)), n, s) _
    refine r_iaddE (v := nI (k * 4 + (jBn (ip k)))) (nI_add (k * 4) (jBn (ip k))) dX1_countAnswer_37 ?_
    refine r_dup2 rfl rfl dX1_countAnswer_38 ?_
    refine p_ialdN (t := k * 4 + (jBn (ip k))) (by exact bU_s _ _ _) (by omega) (by omega) dX1_countAnswer_39 ?_
    refine r_iconst (v := 1) (by decide) dX1_countAnswer_40 ?_
    refine r_iadd dX1_countAnswer_41 ?_
    refine p_iastN (t := k * 4 + (jBn (ip k))) (by exact bU_s _ _ _) (by omega) (by omega) dX1_countAnswer_42 ?_
    refine bV_h (f2 := bU f (q + 6) (.inl (0, 24, .inl (upd g (k * 4 + (jBn (ip k))) ((g (k * 4 + (jBn (ip k)))) + 1))))) (bU_u _ _ _ _) ?_
    refine r_iinc (i := 2) (v := nI (k + 1)) (L' := [(2, .int (nI (k + 1))), (0, .ref q), (1, .ref r)]) 0 rfl (nI_inc1 k) dX1_countAnswer_43 (by decide) rfl ?_
    refine r_goto (tgt := 12) (by decide) dX1_countAnswer_46 ?_
    refine bV_loc [0, 1, 2] rfl ?_; exact ih (k + 1) _ (by omega)
set_option maxRecDepth 4000 in
theorem kX1_countAnswer {O : bO} {d : Nat} {f : bF} {n s : Nat} {q : Nat} {ch : Int32} {rv : Int32} {sh : Int32} {fc : Nat} {cn : Nat} {kp : Int32} {rf : Int32} {ip : Nat → Int32} {g : Nat → Int32} {r : Nat} (h0 : f q = some (.inr (1, [.ref (q + 1), .ref (q + 2), .ref (q + 3), .ref (q + 4), .ref (q + 5), .ref (q + 6), .ref (q + 7), .int ch, .int rv, .int sh, .int (nI fc), .int (nI cn), .int kp, .int rf]))) (h1 : f (q + 6) = some (.inl (0, 24, .inl g))) (h2 : f r = some (.inl (0, 6, .inl ip))) (e0 : r ≠ q + 6) (e1 : r ≠ q) (hd : 1 ≤ d) : bMt O mX1_countAnswer d [.ref q, .ref r] (f, n, s) (.inl none) (bU (bU f q (.inr (1, [.ref (q + 1), .ref (q + 2), .ref (q + 3), .ref (q + 4), .ref (q + 5), .ref (q + 6), .ref (q + 7), .int ch, .int rv, .int sh, .int (nI fc), .int (nI cn), .int (kp + 1), .int rf]))) (q + 6) (.inl (0, 24, .inl (cuL ip 6 0 g))), n, s) := by
  refine bMt_of (bCall_of (by decide) rfl (Nat.le_of_ble_eq_true rfl) ?_)
  show bV O _ d 0 [(0, .ref q), (1, .ref r)] [] (f, n, s) _
  refine r_aload_n (n := 0) (i := 0) 0 rfl rfl dX1_countAnswer_0 ?_
  refine r_dup rfl dX1_countAnswer_1 ?_
  refine p_get (fs := [.ref (q + 1), .ref (q + 2), .ref (q + 3), .ref (q + 4), .ref (q + 5), .ref (q + 6), .ref (q + 7), .int ch, .int rv, .int sh, .int (nI fc), .int (nI cn), .int kp, .int rf]) flX1_61 h0 rfl dX1_countAnswer_2 ?_
  refine r_iconst (v := 1) (by decide) dX1_countAnswer_5 ?_
  refine r_iadd dX1_countAnswer_6 ?_
  refine p_put (fs := [.ref (q + 1), .ref (q + 2), .ref (q + 3), .ref (q + 4), .ref (q + 5), .ref (q + 6), .ref (q + 7), .int ch, .int rv, .int sh, .int (nI fc), .int (nI cn), .int kp, .int rf]) (fs' := [.ref (q + 1), .ref (q + 2), .ref (q + 3), .ref (q + 4), .ref (q + 5), .ref (q + 6), .ref (q + 7), .int ch, .int rv, .int sh, .int (nI fc), .int (nI cn), .int (kp + 1), .int rf]) flX1_61 h0 (Nat.le_of_ble_eq_true rfl) (bNf_i _) rfl dX1_countAnswer_7 ?_
  refine r_iconst (v := 0) (by decide) dX1_countAnswer_10 ?_
  refine r_istore_n (n := 2) (i := 2) (L' := [(2, .int 0), (0, .ref q), (1, .ref r)]) rfl dX1_countAnswer_11 (by decide) rfl ?_
  refine bV_h (f2 := bU (bU f q (.inr (1, [.ref (q + 1), .ref (q + 2), .ref (q + 3), .ref (q + 4), .ref (q + 5), .ref (q + 6), .ref (q + 7), .int ch, .int rv, .int sh, .int (nI fc), .int (nI cn), .int (kp + 1), .int rf]))) (q + 6) (.inl (0, 24, .inl g))) (bU_i ((bU_n (by omega)).trans h1)).symm ?_; exact lp_cnt (ch := ch) (rv := rv) (sh := sh) (fc := fc) (cn := cn) (kp := kp + 1) (rf := rf) (bU_s _ _ _) ((bU_n (by omega)).trans h2) e0 (by omega) 6 0 g (by omega)
def st0 (bs : Nat → Int32) (e : Nat) (tv : Int32) : pS := ((tkP bs e 0, tkN bs e (tkP bs e 0), tkK bs e (tkP bs e 0), tkV bs e (tkP bs e 0) tv), 0, [], 0)
/-- a MODEL of the tape's first e bytes; tv is a number left over -/
def modelT (bs : Nat → Int32) (e : Nat) (tv : Int32) : pR := pB (tellS bs e 17 0 0 (st0 bs e tv)) fun s => if s.1.2.2.1 = 256 then .inr s else .inl (1, s.1.1)
def qR (f : bF) (n s : Nat) (tl : Int32) (e : Nat) (res : pR) (r : bR) (G : bG) : Prop := match res with
  | .inr st => r = .inl (some (.int 0)) ∧ ∃ ks vs : Nat → Int32, cod ks vs st.2.2.1 ∧ G = (hRd f tl e st ks vs 0, n, s)
  | .inl x => r = .inl (some (.int x.1)) ∧ ∃ (st : pS) (ks vs : Nat → Int32), st.1.1 = x.2 ∧ G = (hRd f tl e st ks vs x.1, n, s)
theorem st0_ok {bs : Nat → Int32} {e : Nat} {tv : Int32} (he : e ≤ 300) : okS 0 0 (st0 bs e tv) := ⟨tkP_le he (by omega), tkN_le he (tkP_le he (by omega)), Nat.zero_le _, Nat.zero_le _, Nat.zero_le _⟩
set_option maxRecDepth 4000 in
theorem c_read {O : bO} {d : Nat} {f : bF} {n s : Nat} {w m b ft tl te tn tp tk tv : Int32} {e : Nat} {bs ks vs : Nat → Int32} (h33 : f 33 = some (.inr (3, [.ref 34, .ref 36, .ref 37, .int w, .int m, .int b, .int ft]))) (h34 : f 34 = some (.inr (5, [.ref 35, .int tl, .int te, .int tn, .int tp, .int tk, .int tv]))) (h35 : f 35 = some (.inl (0, 300, .inl bs))) (h36 : f 36 = some (.inl (0, 60, .inl ks))) (h37 : f 37 = some (.inl (0, 60, .inl vs))) (e0 : e ≤ 300) (hd : 157 ≤ d) : bCall O mX3_read d [.ref 33, .int (nI e)] (f, n, s) (qR f n s tl e (modelT bs e tv)) := by
  refine bCall_of (by decide) rfl (Nat.le_of_ble_eq_true rfl) ?_
  show bV O _ d 0 [(0, .ref 33), (1, .int (nI e))] [] (f, n, s) _
  refine r_aload_n (n := 0) (i := 0) 0 rfl rfl dX3_read_0 ?_
  refine r_iconst (v := 0) (by decide) dX3_read_1 ?_
  refine p_put (fs := [.ref 34, .ref 36, .ref 37, .int w, .int m, .int b, .int ft]) (fs' := [.ref 34, .ref 36, .ref 37, .int 0, .int m, .int b, .int ft]) flX3_25 h33 (Nat.le_of_ble_eq_true rfl) (bNf_i _) rfl dX3_read_2 ?_
  refine r_aload_n (n := 0) (i := 0) 0 rfl rfl dX3_read_5 ?_
  refine r_iconst (v := 0) (by decide) dX3_read_6 ?_
  refine p_put (fs := [.ref 34, .ref 36, .ref 37, .int 0, .int m, .int b, .int ft]) (fs' := [.ref 34, .ref 36, .ref 37, .int 0, .int 0, .int b, .int ft]) flX3_29 (by exact bU_s _ _ _) (Nat.le_of_ble_eq_true rfl) (bNf_i _) rfl dX3_read_7 ?_
  refine bV_h (f2 := bU f 33 (.inr (3, [.ref 34, .ref 36, .ref 37, .int 0, .int 0, .int b, .int ft]))) (bU_u _ _ _ _) ?_
  refine r_aload_n (n := 0) (i := 0) 0 rfl rfl dX3_read_10 ?_
  refine r_iconst (v := 0) (by decide) dX3_read_11 ?_
  refine p_put (fs := [.ref 34, .ref 36, .ref 37, .int 0, .int 0, .int b, .int ft]) (fs' := [.ref 34, .ref 36, .ref 37, .int 0, .int 0, .int 0, .int ft]) flX3_32 (by exact bU_s _ _ _) (Nat.le_of_ble_eq_true rfl) (bNf_i _) rfl dX3_read_12 ?_
  refine bV_h (f2 := bU f 33 (.inr (3, [.ref 34, .ref 36, .ref 37, .int 0, .int 0, .int 0, .int ft]))) (bU_u _ _ _ _) ?_
  refine r_aload_n (n := 0) (i := 0) 0 rfl rfl dX3_read_15 ?_
  refine r_iconst (v := 0) (by decide) dX3_read_16 ?_
  refine p_put (fs := [.ref 34, .ref 36, .ref 37, .int 0, .int 0, .int 0, .int ft]) (fs' := [.ref 34, .ref 36, .ref 37, .int 0, .int 0, .int 0, .int 0]) flX3_35 (by exact bU_s _ _ _) (Nat.le_of_ble_eq_true rfl) (bNf_i _) rfl dX3_read_17 ?_
  refine bV_h (f2 := bU f 33 (.inr (3, [.ref 34, .ref 36, .ref 37, .int 0, .int 0, .int 0, .int 0]))) (bU_u _ _ _ _) ?_
  refine r_aload_n (n := 0) (i := 0) 0 rfl rfl dX3_read_20 ?_
  refine p_get (fs := [.ref 34, .ref 36, .ref 37, .int 0, .int 0, .int 0, .int 0]) flX3_12 (by exact bU_s _ _ _) rfl dX3_read_21 ?_
  refine r_iload_n (n := 1) (i := 1) 1 rfl rfl dX3_read_24 ?_
  refine p_callV (As := [.int (nI e)]) (rest := []) (kX5_begin (O := O) (d := 8) (f := bU f 33 (.inr (3, [.ref 34, .ref 36, .ref 37, .int 0, .int 0, .int 0, .int 0]))) (n := n) (s := s) (tl := tl) (te := te) (tn := tn) (tk := tk) (tv := tv) (tp := tp) (e := e) (bs := bs) (by exact ((bU_n (by decide)).trans (h34))) (by exact ((bU_n (by decide)).trans (h35))) (by first | assumption | omega | decide) (Nat.le_refl _)).call rfl lkX3_38 imX5_begin seX5_begin rfl (by exact ((bU_n (by decide)).trans (h34))) rfl rfl (by omega) (Nat.le_of_ble_eq_true rfl) dX3_read_25 (fun v9 G9 h9 => ?_) (fun q9 G9 h9 => (by cases h9.1))
  obtain ⟨h8, rfl⟩ := h9; cases h8
  show bV O _ d 28 [(0, .ref 33), (1, .int (nI e))] [] (bU (bU f 33 (.inr (3, [.ref 34, .ref 36, .ref 37, .int 0, .int 0, .int 0, .int 0]))) 34 (.inr (5, [.ref 35, .int tl, .int (nI e), .int (nI (tkN bs e (tkP bs e 0))), .int (nI (tkP bs e 0)), .int (tkK bs e (tkP bs e 0)), .int (tkV bs e (tkP bs e 0) tv)])), n, s) _
  refine r_aload_n (n := 0) (i := 0) 0 rfl rfl dX3_read_28 ?_
  refine r_iconst (v := 0) (by decide) dX3_read_29 ?_
  refine r_iconst (v := 0) (by decide) dX3_read_30 ?_
  refine bV_h (f2 := hRd f tl e (st0 bs e tv) ks vs 0) (by funext z; simp only [hRd, bU, st0, tpC, rdC, List.length_nil]; repeat (first | rfl | (subst_vars; assumption) | split | omega)) ?_
  refine p_callV (As := [.int 0, .int 0]) (rest := []) (c_RT h35 e0 17 0 0 0 0 (st0 bs e tv) ks vs (by omega) (by omega) (by omega) (fun j x hj => by cases hj) (st0_ok e0)) rfl lkX3_42 imX3_readTell seX3_readTell rfl (by exact ((bU_n (by decide)).trans ((bU_n (by decide)).trans (bU_s _ _ _)))) rfl rfl (by omega) (Nat.le_of_ble_eq_true rfl) dX3_read_31 (fun v9 G9 h9 => ?_) (fun q9 G9 h9 => absurd h9 rP_nx)
  unfold modelT
  rcases hR : tellS bs e 17 0 0 (st0 bs e tv) with ⟨ft1, pl1⟩ | st1
  · rw [hR] at h9; obtain ⟨h8, st1, ks1, vs1, h7, rfl⟩ := h9; cases h8
    show bV O _ d 34 [(0, .ref 33), (1, .int (nI e))] [.int 0] (bU (bU (bU (bU f 34 (.inr (5, [.ref 35, .int tl, .int (nI e), .int (nI st1.1.2.1), .int (nI st1.1.1), .int st1.1.2.2.1, .int st1.1.2.2.2]))) 33 (.inr (3, [.ref 34, .ref 36, .ref 37, .int (nI st1.2.2.1.length), .int (nI st1.2.1), .int st1.2.2.2, .int ft1]))) 36 (.inl (0, 60, .inl ks1))) 37 (.inl (0, 60, .inl vs1)), n, s) _
    refine r_if_eq (tgt := 56) (by decide) dX3_read_34 (fun _ => ?_) (fun h9 => absurd (show (0 : Int32) = 0 by decide) h9)
    refine r_aload_n (n := 0) (i := 0) 0 rfl rfl dX3_read_56 ?_
    refine p_get (fs := [.ref 34, .ref 36, .ref 37, .int (nI st1.2.2.1.length), .int (nI st1.2.1), .int st1.2.2.2, .int ft1]) flX3_35 (by exact ((bU_n (by decide)).trans (((bU_n (by decide)).trans (bU_s _ _ _))))) rfl dX3_read_57 ?_
    refine r_ireturn rfl dX3_read_60 ?_
    exact ⟨rfl, st1, ks1, vs1, h7, rfl⟩
  · rw [hR] at h9; obtain ⟨h8, ks1, vs1, hc1, rfl⟩ := h9; cases h8
    show bV O _ d 34 [(0, .ref 33), (1, .int (nI e))] [.int 1] (bU (bU (bU (bU f 34 (.inr (5, [.ref 35, .int tl, .int (nI e), .int (nI st1.1.2.1), .int (nI st1.1.1), .int st1.1.2.2.1, .int st1.1.2.2.2]))) 33 (.inr (3, [.ref 34, .ref 36, .ref 37, .int (nI st1.2.2.1.length), .int (nI st1.2.1), .int st1.2.2.2, .int 0]))) 36 (.inl (0, 60, .inl ks1))) 37 (.inl (0, 60, .inl vs1)), n, s) _
    refine r_if_eq (tgt := 56) (by decide) dX3_read_34 (fun h9 => absurd h9 (show ¬ ((1 : Int32) = 0) by decide)) (fun _ => ?_)
    refine r_aload_n (n := 0) (i := 0) 0 rfl rfl dX3_read_37 ?_
    refine p_get (fs := [.ref 34, .ref 36, .ref 37, .int (nI st1.2.2.1.length), .int (nI st1.2.1), .int st1.2.2.2, .int 0]) flX3_12 (by exact ((bU_n (by decide)).trans (((bU_n (by decide)).trans (bU_s _ _ _))))) rfl dX3_read_38 ?_
    refine p_get (fs := [.ref 35, .int tl, .int (nI e), .int (nI st1.1.2.1), .int (nI st1.1.1), .int st1.1.2.2.1, .int st1.1.2.2.2]) flX3_46 (by exact ((bU_n (by decide)).trans (((bU_n (by decide)).trans (((bU_n (by decide)).trans (bU_s _ _ _))))))) rfl dX3_read_41 ?_
    refine r_sipush (v := 256) (by decide) dX3_read_44 ?_
    refine r_icmp_eq (tgt := 56) (by decide) dX3_read_47 (fun c47 => ?_) (fun c47 => ?_)
    · refine r_aload_n (n := 0) (i := 0) 0 rfl rfl dX3_read_56 ?_
      refine p_get (fs := [.ref 34, .ref 36, .ref 37, .int (nI st1.2.2.1.length), .int (nI st1.2.1), .int st1.2.2.2, .int 0]) flX3_35 (by exact ((bU_n (by decide)).trans (((bU_n (by decide)).trans (bU_s _ _ _))))) rfl dX3_read_57 ?_
      refine r_ireturn rfl dX3_read_60 ?_
      rw [pB_r, if_pos c47]
      exact ⟨rfl, ks1, vs1, hc1, rfl⟩
    · refine r_aload_n (n := 0) (i := 0) 0 rfl rfl dX3_read_50 ?_
      refine r_iconst (v := 1) (by decide) dX3_read_51 ?_
      refine p_callV (As := [.int 1]) (rest := []) (kX3_meet (O := O) (d := 0) (f := bU (bU (bU (bU f 34 (.inr (5, [.ref 35, .int tl, .int (nI e), .int (nI st1.1.2.1), .int (nI st1.1.1), .int st1.1.2.2.1, .int st1.1.2.2.2]))) 33 (.inr (3, [.ref 34, .ref 36, .ref 37, .int (nI st1.2.2.1.length), .int (nI st1.2.1), .int st1.2.2.2, .int 0]))) 36 (.inl (0, 60, .inl ks1))) 37 (.inl (0, 60, .inl vs1))) (n := n) (s := s) (w := nI st1.2.2.1.length) (m := nI st1.2.1) (bi := st1.2.2.2) (ft := 0) (x := 1) (by exact ((bU_n (by decide)).trans (((bU_n (by decide)).trans (bU_s _ _ _)))))  (Nat.le_refl _)).call rfl lkX3_49 imX3_meet seX3_meet rfl (by exact ((bU_n (by decide)).trans (((bU_n (by decide)).trans (bU_s _ _ _))))) rfl rfl (by omega) (Nat.le_of_ble_eq_true rfl) dX3_read_52 (fun v9 G9 h9 => ?_) (fun q9 G9 h9 => (by cases h9.1))
      obtain ⟨h8, rfl⟩ := h9; cases h8
      refine bV_h (f2 := bU (bU (bU (bU f 34 (.inr (5, [.ref 35, .int tl, .int (nI e), .int (nI st1.1.2.1), .int (nI st1.1.1), .int st1.1.2.2.1, .int st1.1.2.2.2]))) 33 (.inr (3, [.ref 34, .ref 36, .ref 37, .int (nI st1.2.2.1.length), .int (nI st1.2.1), .int st1.2.2.2, .int 1]))) 36 (.inl (0, 60, .inl ks1))) 37 (.inl (0, 60, .inl vs1))) (((bU_c (by decide)).trans (congrArg (fun z => bU z 37 (.inl (0, 60, .inl vs1))) (((bU_c (by decide)).trans (congrArg (fun z => bU z 36 (.inl (0, 60, .inl ks1))) (bU_u _ _ _ _))))))) ?_
      show bV O _ d 55 [(0, .ref 33), (1, .int (nI e))] [.int 0] (bU (bU (bU (bU f 34 (.inr (5, [.ref 35, .int tl, .int (nI e), .int (nI st1.1.2.1), .int (nI st1.1.1), .int st1.1.2.2.1, .int st1.1.2.2.2]))) 33 (.inr (3, [.ref 34, .ref 36, .ref 37, .int (nI st1.2.2.1.length), .int (nI st1.2.1), .int st1.2.2.2, .int 1]))) 36 (.inl (0, 60, .inl ks1))) 37 (.inl (0, 60, .inl vs1)), n, s) _
      refine r_pop rfl dX3_read_55 ?_
      refine r_aload_n (n := 0) (i := 0) 0 rfl rfl dX3_read_56 ?_
      refine p_get (fs := [.ref 34, .ref 36, .ref 37, .int (nI st1.2.2.1.length), .int (nI st1.2.1), .int st1.2.2.2, .int 1]) flX3_35 (by exact ((bU_n (by decide)).trans (((bU_n (by decide)).trans (bU_s _ _ _))))) rfl dX3_read_57 ?_
      refine r_ireturn rfl dX3_read_60 ?_
      rw [pB_r, if_neg c47]
      exact ⟨rfl, st1, ks1, vs1, rfl, rfl⟩
set_option maxRecDepth 4000 in
theorem kX7_refuse {O : bO} {d : Nat} {f : bF} {n s : Nat} {ct_m : Int32} {ct_d : Int32} {ct_a : Int32} {ct_f : Int32} {tday : Int32} {trb : Int32} {flt : Int32} {plc : Int32} {x : Int32} (h0 : f 32 = some (.inr (7, [.ref 33, .ref 38, .ref 40, .ref 41, .ref 42, .ref 43, .ref 44, .ref 45, .int ct_m, .int ct_d, .int ct_a, .int ct_f, .int tday, .int trb, .int flt, .int plc])))  (hd : 0 ≤ d) : bMt O mX7_refuse d [.ref 32, .int x] (f, n, s) (.inl (some (.int (-1)))) (bU f 32 (.inr (7, [.ref 33, .ref 38, .ref 40, .ref 41, .ref 42, .ref 43, .ref 44, .ref 45, .int ct_m, .int ct_d, .int ct_a, .int ct_f, .int tday, .int x, .int flt, .int plc])), n, s) := by
  refine bMt_of (bCall_of (by decide) rfl (Nat.le_of_ble_eq_true rfl) ?_)
  show bV O _ d 0 [(0, .ref 32), (1, .int x)] [] (f, n, s) _
  refine r_aload_n (n := 0) (i := 0) 0 rfl rfl dX7_refuse_0 ?_
  refine r_iload_n (n := 1) (i := 1) 1 rfl rfl dX7_refuse_1 ?_
  refine p_put (fs := [.ref 33, .ref 38, .ref 40, .ref 41, .ref 42, .ref 43, .ref 44, .ref 45, .int ct_m, .int ct_d, .int ct_a, .int ct_f, .int tday, .int trb, .int flt, .int plc]) (fs' := [.ref 33, .ref 38, .ref 40, .ref 41, .ref 42, .ref 43, .ref 44, .ref 45, .int ct_m, .int ct_d, .int ct_a, .int ct_f, .int tday, .int x, .int flt, .int plc]) flX7_96 h0 (Nat.le_of_ble_eq_true rfl) (bNf_i _) rfl dX7_refuse_2 ?_
  refine r_iconst (v := (-1)) (by decide) dX7_refuse_5 ?_
  refine r_ireturn rfl dX7_refuse_6 ?_
  refine ⟨?_, ?_⟩ <;> first | rfl | (simp []; done)
set_option maxRecDepth 4000 in
theorem kX7_grant {O : bO} {d : Nat} {f : bF} {n s : Nat} {ct_m : Int32} {ct_d : Int32} {ct_a : Int32} {ct_f : Int32} {tday : Int32} {trb : Int32} {flt : Int32} {plc : Int32} {x : Int32} (h0 : f 32 = some (.inr (7, [.ref 33, .ref 38, .ref 40, .ref 41, .ref 42, .ref 43, .ref 44, .ref 45, .int ct_m, .int ct_d, .int ct_a, .int ct_f, .int tday, .int trb, .int flt, .int plc])))  (hd : 0 ≤ d) : bMt O mX7_grant d [.ref 32, .int x] (f, n, s) (.inl (some (.int x))) (bU f 32 (.inr (7, [.ref 33, .ref 38, .ref 40, .ref 41, .ref 42, .ref 43, .ref 44, .ref 45, .int ct_m, .int ct_d, .int ct_a, .int ct_f, .int tday, .int 0, .int flt, .int plc])), n, s) := by
  refine bMt_of (bCall_of (by decide) rfl (Nat.le_of_ble_eq_true rfl) ?_)
  show bV O _ d 0 [(0, .ref 32), (1, .int x)] [] (f, n, s) _
  refine r_aload_n (n := 0) (i := 0) 0 rfl rfl dX7_grant_0 ?_
  refine r_iconst (v := 0) (by decide) dX7_grant_1 ?_
  refine p_put (fs := [.ref 33, .ref 38, .ref 40, .ref 41, .ref 42, .ref 43, .ref 44, .ref 45, .int ct_m, .int ct_d, .int ct_a, .int ct_f, .int tday, .int trb, .int flt, .int plc]) (fs' := [.ref 33, .ref 38, .ref 40, .ref 41, .ref 42, .ref 43, .ref 44, .ref 45, .int ct_m, .int ct_d, .int ct_a, .int ct_f, .int tday, .int 0, .int flt, .int plc]) flX7_96 h0 (Nat.le_of_ble_eq_true rfl) (bNf_i _) rfl dX7_grant_2 ?_
  refine r_iload_n (n := 1) (i := 1) 1 rfl rfl dX7_grant_5 ?_
  refine r_ireturn rfl dX7_grant_6 ?_
  refine ⟨?_, ?_⟩ <;> first | rfl | (simp []; done)
set_option maxRecDepth 4000 in
theorem kX7_deny {O : bO} {d : Nat} {f : bF} {n s : Nat} {ct_m : Int32} {ct_d : Int32} {ct_a : Int32} {ct_f : Int32} {tday : Int32} {trb : Int32} {flt : Int32} {plc : Int32} {x : Int32} (h0 : f 32 = some (.inr (7, [.ref 33, .ref 38, .ref 40, .ref 41, .ref 42, .ref 43, .ref 44, .ref 45, .int ct_m, .int ct_d, .int ct_a, .int ct_f, .int tday, .int trb, .int flt, .int plc])))  (hd : 0 ≤ d) : bMt O mX7_deny d [.ref 32, .int x] (f, n, s) (.inl (some (.int 0))) (bU f 32 (.inr (7, [.ref 33, .ref 38, .ref 40, .ref 41, .ref 42, .ref 43, .ref 44, .ref 45, .int ct_m, .int ct_d, .int ct_a, .int ct_f, .int tday, .int x, .int flt, .int plc])), n, s) := by
  refine bMt_of (bCall_of (by decide) rfl (Nat.le_of_ble_eq_true rfl) ?_)
  show bV O _ d 0 [(0, .ref 32), (1, .int x)] [] (f, n, s) _
  refine r_aload_n (n := 0) (i := 0) 0 rfl rfl dX7_deny_0 ?_
  refine r_iload_n (n := 1) (i := 1) 1 rfl rfl dX7_deny_1 ?_
  refine p_put (fs := [.ref 33, .ref 38, .ref 40, .ref 41, .ref 42, .ref 43, .ref 44, .ref 45, .int ct_m, .int ct_d, .int ct_a, .int ct_f, .int tday, .int trb, .int flt, .int plc]) (fs' := [.ref 33, .ref 38, .ref 40, .ref 41, .ref 42, .ref 43, .ref 44, .ref 45, .int ct_m, .int ct_d, .int ct_a, .int ct_f, .int tday, .int x, .int flt, .int plc]) flX7_96 h0 (Nat.le_of_ble_eq_true rfl) (bNf_i _) rfl dX7_deny_2 ?_
  refine r_iconst (v := 0) (by decide) dX7_deny_5 ?_
  refine r_zreturn rfl (by first | decide +kernel | exact narZ _ | assumption) dX7_deny_6 ?_
  refine ⟨?_, ?_⟩ <;> first | rfl | (simp []; done)
set_option maxRecDepth 4000 in
theorem kX7_allow {O : bO} {d : Nat} {f : bF} {n s : Nat} {ct_m : Int32} {ct_d : Int32} {ct_a : Int32} {ct_f : Int32} {tday : Int32} {trb : Int32} {flt : Int32} {plc : Int32} (h0 : f 32 = some (.inr (7, [.ref 33, .ref 38, .ref 40, .ref 41, .ref 42, .ref 43, .ref 44, .ref 45, .int ct_m, .int ct_d, .int ct_a, .int ct_f, .int tday, .int trb, .int flt, .int plc])))  (hd : 0 ≤ d) : bMt O mX7_allow d [.ref 32] (f, n, s) (.inl (some (.int 1))) (bU f 32 (.inr (7, [.ref 33, .ref 38, .ref 40, .ref 41, .ref 42, .ref 43, .ref 44, .ref 45, .int ct_m, .int ct_d, .int ct_a, .int ct_f, .int tday, .int 0, .int flt, .int plc])), n, s) := by
  refine bMt_of (bCall_of (by decide) rfl (Nat.le_of_ble_eq_true rfl) ?_)
  show bV O _ d 0 [(0, .ref 32)] [] (f, n, s) _
  refine r_aload_n (n := 0) (i := 0) 0 rfl rfl dX7_allow_0 ?_
  refine r_iconst (v := 0) (by decide) dX7_allow_1 ?_
  refine p_put (fs := [.ref 33, .ref 38, .ref 40, .ref 41, .ref 42, .ref 43, .ref 44, .ref 45, .int ct_m, .int ct_d, .int ct_a, .int ct_f, .int tday, .int trb, .int flt, .int plc]) (fs' := [.ref 33, .ref 38, .ref 40, .ref 41, .ref 42, .ref 43, .ref 44, .ref 45, .int ct_m, .int ct_d, .int ct_a, .int ct_f, .int tday, .int 0, .int flt, .int plc]) flX7_96 h0 (Nat.le_of_ble_eq_true rfl) (bNf_i _) rfl dX7_allow_2 ?_
  refine r_iconst (v := 1) (by decide) dX7_allow_5 ?_
  refine r_zreturn rfl (by first | decide +kernel | exact narZ _ | assumption) dX7_allow_6 ?_
  refine ⟨?_, ?_⟩ <;> first | rfl | (simp []; done)
