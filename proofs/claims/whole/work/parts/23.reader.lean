/-! ===== ModelShelf$Reader (printed by wip/gen/reader.py) ===== -/
set_option maxRecDepth 4000 in
theorem kX3_meet {O : bO} {d : Nat} {f : bF} {n s : Nat} {w : Int32} {m : Int32} {bi : Int32} {ft : Int32} {x : Int32} (h0 : f 33 = some (.inr (3, [.ref 34, .ref 36, .ref 37, .int w, .int m, .int bi, .int ft])))  (hd : 0 ≤ d) : bMt O mX3_meet d [.ref 33, .int x] (f, n, s) (.inl (some (.int 0))) (bU f 33 (.inr (3, [.ref 34, .ref 36, .ref 37, .int w, .int m, .int bi, .int x])), n, s) := by
  refine bMt_of (bCall_of (by decide) rfl (Nat.le_of_ble_eq_true rfl) ?_)
  show bV O _ d 0 [(0, .ref 33), (1, .int x)] [] (f, n, s) _
  refine r_aload_n (n := 0) (i := 0) 0 rfl rfl dX3_meet_0 ?_
  refine r_iload_n (n := 1) (i := 1) 1 rfl rfl dX3_meet_1 ?_
  refine p_put (fs := [.ref 34, .ref 36, .ref 37, .int w, .int m, .int bi, .int ft]) (fs' := [.ref 34, .ref 36, .ref 37, .int w, .int m, .int bi, .int x]) flX3_35 h0 (Nat.le_of_ble_eq_true rfl) (bNf_i _) rfl dX3_meet_2 ?_
  refine r_iconst (v := 0) (by decide) dX3_meet_5 ?_
  refine r_zreturn rfl (by first | decide +kernel | exact narZ _ | assumption) dX3_meet_6 ?_
  refine ⟨?_, ?_⟩ <;> first | rfl | (simp []; done)
set_option maxRecDepth 4000 in
theorem c_take {O : bO} {d : Nat} {f : bF} {n s : Nat} {tl : Int32} {e : Nat} {bs : Nat → Int32} {st : pS} {ks vs : Nat → Int32} {k : Nat} (h35 : f 35 = some (.inl (0, 300, .inl bs))) (e0 : e ≤ 300) (hc : cod ks vs st.2.2.1) (ho : okS k st) {x : Int32} (hd : 8 ≤ d) : bCall O mX3_take d [.ref 33, .int x] (hRd f tl e st ks vs 0, n, s) (rP f n s tl e (pTake bs e x st)) := by
  refine bCall_of (by decide) rfl (Nat.le_of_ble_eq_true rfl) ?_
  obtain ⟨o1, o2, o3, o4⟩ := id ho
  show bV O _ d 0 [(0, .ref 33), (1, .int x)] [] (bU (bU (bU (bU f 34 (.inr (5, [.ref 35, .int tl, .int (nI e), .int (nI st.1.2.1), .int (nI st.1.1), .int st.1.2.2.1, .int st.1.2.2.2]))) 33 (.inr (3, [.ref 34, .ref 36, .ref 37, .int (nI st.2.2.1.length), .int (nI st.2.1), .int st.2.2.2, .int 0]))) 36 (.inl (0, 60, .inl ks))) 37 (.inl (0, 60, .inl vs)), n, s) _
  refine r_aload_n (n := 0) (i := 0) 0 rfl rfl dX3_take_0 ?_
  refine p_get (fs := [.ref 34, .ref 36, .ref 37, .int (nI st.2.2.1.length), .int (nI st.2.1), .int st.2.2.2, .int 0]) flX3_12 (by exact ((bU_n (by decide)).trans (((bU_n (by decide)).trans (bU_s _ _ _))))) rfl dX3_take_1 ?_
  refine p_get (fs := [.ref 35, .int tl, .int (nI e), .int (nI st.1.2.1), .int (nI st.1.1), .int st.1.2.2.1, .int st.1.2.2.2]) flX3_46 (by exact ((bU_n (by decide)).trans (((bU_n (by decide)).trans (((bU_n (by decide)).trans (bU_s _ _ _))))))) rfl dX3_take_4 ?_
  refine r_iload_n (n := 1) (i := 1) 1 rfl rfl dX3_take_7 ?_
  refine r_icmp_eq (tgt := 17) (by decide) dX3_take_8 (fun c8 => ?_) (fun c8 => ?_)
  · refine r_aload_n (n := 0) (i := 0) 0 rfl rfl dX3_take_17 ?_
    refine p_get (fs := [.ref 34, .ref 36, .ref 37, .int (nI st.2.2.1.length), .int (nI st.2.1), .int st.2.2.2, .int 0]) flX3_12 (by exact ((bU_n (by decide)).trans (((bU_n (by decide)).trans (bU_s _ _ _))))) rfl dX3_take_18 ?_
    refine p_callV (As := []) (rest := []) (kX5_advance (O := O) (d := 7) (f := bU (bU (bU (bU f 34 (.inr (5, [.ref 35, .int tl, .int (nI e), .int (nI st.1.2.1), .int (nI st.1.1), .int st.1.2.2.1, .int st.1.2.2.2]))) 33 (.inr (3, [.ref 34, .ref 36, .ref 37, .int (nI st.2.2.1.length), .int (nI st.2.1), .int st.2.2.2, .int 0]))) 36 (.inl (0, 60, .inl ks))) 37 (.inl (0, 60, .inl vs))) (n := n) (s := s) (tl := tl) (tk := st.1.2.2.1) (tv := st.1.2.2.2) (tp := nI st.1.1) (e := e) (q := st.1.2.1) (bs := bs) (by exact ((bU_n (by decide)).trans (((bU_n (by decide)).trans (((bU_n (by decide)).trans (bU_s _ _ _))))))) (by exact ((bU_n (by decide)).trans (((bU_n (by decide)).trans (((bU_n (by decide)).trans (((bU_n (by decide)).trans (h35))))))))) (by first | assumption | omega | decide) (by first | assumption | omega | decide) (Nat.le_refl _)).call rfl lkX3_90 imX5_advance seX5_advance rfl (by exact ((bU_n (by decide)).trans (((bU_n (by decide)).trans (((bU_n (by decide)).trans (bU_s _ _ _))))))) rfl rfl (by omega) (Nat.le_of_ble_eq_true rfl) dX3_take_21 (fun v9 G9 h9 => ?_) (fun q9 G9 h9 => (by cases h9.1))
    obtain ⟨h8, rfl⟩ := h9; cases h8
    refine bV_h (f2 := bU (bU (bU (bU f 34 (.inr (5, [.ref 35, .int tl, .int (nI e), .int (nI (tkN bs e (tkP bs e st.1.2.1))), .int (nI (tkP bs e st.1.2.1)), .int (tkK bs e (tkP bs e st.1.2.1)), .int (tkV bs e (tkP bs e st.1.2.1) st.1.2.2.2)]))) 33 (.inr (3, [.ref 34, .ref 36, .ref 37, .int (nI st.2.2.1.length), .int (nI st.2.1), .int st.2.2.2, .int 0]))) 36 (.inl (0, 60, .inl ks))) 37 (.inl (0, 60, .inl vs))) (((bU_c (by decide)).trans (congrArg (fun z => bU z 37 (.inl (0, 60, .inl vs))) (((bU_c (by decide)).trans (congrArg (fun z => bU z 36 (.inl (0, 60, .inl ks))) (((bU_c (by decide)).trans (congrArg (fun z => bU z 33 (.inr (3, [.ref 34, .ref 36, .ref 37, .int (nI st.2.2.1.length), .int (nI st.2.1), .int st.2.2.2, .int 0]))) (bU_u _ _ _ _)))))))))) ?_
    show bV O _ d 24 [(0, .ref 33), (1, .int x)] [] (bU (bU (bU (bU f 34 (.inr (5, [.ref 35, .int tl, .int (nI e), .int (nI (tkN bs e (tkP bs e st.1.2.1))), .int (nI (tkP bs e st.1.2.1)), .int (tkK bs e (tkP bs e st.1.2.1)), .int (tkV bs e (tkP bs e st.1.2.1) st.1.2.2.2)]))) 33 (.inr (3, [.ref 34, .ref 36, .ref 37, .int (nI st.2.2.1.length), .int (nI st.2.1), .int st.2.2.2, .int 0]))) 36 (.inl (0, 60, .inl ks))) 37 (.inl (0, 60, .inl vs)), n, s) _
    refine r_iconst (v := 1) (by decide) dX3_take_24 ?_
    refine r_zreturn rfl (by first | decide +kernel | exact narZ _ | assumption) dX3_take_25 ?_
    show rP f n s tl e _ _ _
    simp only [pTake, c8, if_true, reduceIte]
    exact ⟨rfl, ks, vs, hc, rfl⟩
  · refine r_aload_n (n := 0) (i := 0) 0 rfl rfl dX3_take_11 ?_
    refine r_iconst (v := 1) (by decide) dX3_take_12 ?_
    refine p_callV (As := [.int 1]) (rest := []) (kX3_meet (O := O) (d := 0) (f := bU (bU (bU (bU f 34 (.inr (5, [.ref 35, .int tl, .int (nI e), .int (nI st.1.2.1), .int (nI st.1.1), .int st.1.2.2.1, .int st.1.2.2.2]))) 33 (.inr (3, [.ref 34, .ref 36, .ref 37, .int (nI st.2.2.1.length), .int (nI st.2.1), .int st.2.2.2, .int 0]))) 36 (.inl (0, 60, .inl ks))) 37 (.inl (0, 60, .inl vs))) (n := n) (s := s) (w := nI st.2.2.1.length) (m := nI st.2.1) (bi := st.2.2.2) (ft := 0) (x := 1) (by exact ((bU_n (by decide)).trans (((bU_n (by decide)).trans (bU_s _ _ _)))))  (Nat.le_refl _)).call rfl lkX3_49 imX3_meet seX3_meet rfl (by exact ((bU_n (by decide)).trans (((bU_n (by decide)).trans (bU_s _ _ _))))) rfl rfl (by omega) (Nat.le_of_ble_eq_true rfl) dX3_take_13 (fun v9 G9 h9 => ?_) (fun q9 G9 h9 => (by cases h9.1))
    obtain ⟨h8, rfl⟩ := h9; cases h8
    refine bV_h (f2 := bU (bU (bU (bU f 34 (.inr (5, [.ref 35, .int tl, .int (nI e), .int (nI st.1.2.1), .int (nI st.1.1), .int st.1.2.2.1, .int st.1.2.2.2]))) 33 (.inr (3, [.ref 34, .ref 36, .ref 37, .int (nI st.2.2.1.length), .int (nI st.2.1), .int st.2.2.2, .int 1]))) 36 (.inl (0, 60, .inl ks))) 37 (.inl (0, 60, .inl vs))) (((bU_c (by decide)).trans (congrArg (fun z => bU z 37 (.inl (0, 60, .inl vs))) (((bU_c (by decide)).trans (congrArg (fun z => bU z 36 (.inl (0, 60, .inl ks))) (bU_u _ _ _ _))))))) ?_
    show bV O _ d 16 [(0, .ref 33), (1, .int x)] [.int 0] (bU (bU (bU (bU f 34 (.inr (5, [.ref 35, .int tl, .int (nI e), .int (nI st.1.2.1), .int (nI st.1.1), .int st.1.2.2.1, .int st.1.2.2.2]))) 33 (.inr (3, [.ref 34, .ref 36, .ref 37, .int (nI st.2.2.1.length), .int (nI st.2.1), .int st.2.2.2, .int 1]))) 36 (.inl (0, 60, .inl ks))) 37 (.inl (0, 60, .inl vs)), n, s) _
    refine r_zreturn rfl (by first | decide +kernel | exact narZ _ | assumption) dX3_take_16 ?_
    show rP f n s tl e _ _ _
    simp only [pTake, c8, if_false, reduceIte]
    exact ⟨rfl, st, ks, vs, rfl, rfl⟩
set_option maxRecDepth 4000 in
theorem c_takePart {O : bO} {d : Nat} {f : bF} {n s : Nat} {tl : Int32} {e : Nat} {bs : Nat → Int32} {st : pS} {ks vs : Nat → Int32} {k : Nat} (h35 : f 35 = some (.inl (0, 300, .inl bs))) (e0 : e ≤ 300) (hc : cod ks vs st.2.2.1) (ho : okS k st) (hd : 8 ≤ d) : bCall O mX3_takePart d [.ref 33] (hRd f tl e st ks vs 0, n, s) (rP f n s tl e (pPart bs e st)) := by
  refine bCall_of (by decide) rfl (Nat.le_of_ble_eq_true rfl) ?_
  obtain ⟨o1, o2, o3, o4⟩ := id ho
  show bV O _ d 0 [(0, .ref 33)] [] (bU (bU (bU (bU f 34 (.inr (5, [.ref 35, .int tl, .int (nI e), .int (nI st.1.2.1), .int (nI st.1.1), .int st.1.2.2.1, .int st.1.2.2.2]))) 33 (.inr (3, [.ref 34, .ref 36, .ref 37, .int (nI st.2.2.1.length), .int (nI st.2.1), .int st.2.2.2, .int 0]))) 36 (.inl (0, 60, .inl ks))) 37 (.inl (0, 60, .inl vs)), n, s) _
  refine r_aload_n (n := 0) (i := 0) 0 rfl rfl dX3_takePart_0 ?_
  refine p_get (fs := [.ref 34, .ref 36, .ref 37, .int (nI st.2.2.1.length), .int (nI st.2.1), .int st.2.2.2, .int 0]) flX3_29 (by exact ((bU_n (by decide)).trans (((bU_n (by decide)).trans (bU_s _ _ _))))) rfl dX3_takePart_1 ?_
  refine r_bipush (v := 60) (by decide) dX3_takePart_4 ?_
  refine r_icmp_lt (tgt := 15) (by decide) dX3_takePart_6 (fun c6 => ?_) (fun c6 => ?_)
  · have c6 : st.2.1 < 60 := (nI_ltI (a := st.2.1) (b := 60) (by omega) (by omega)).mp c6
    refine r_aload_n (n := 0) (i := 0) 0 rfl rfl dX3_takePart_15 ?_
    refine r_dup rfl dX3_takePart_16 ?_
    refine p_get (fs := [.ref 34, .ref 36, .ref 37, .int (nI st.2.2.1.length), .int (nI st.2.1), .int st.2.2.2, .int 0]) flX3_29 (by exact ((bU_n (by decide)).trans (((bU_n (by decide)).trans (bU_s _ _ _))))) rfl dX3_takePart_17 ?_
    refine r_iconst (v := 1) (by decide) dX3_takePart_20 ?_
    refine r_iaddE (v := nI (st.2.1 + 1)) (nI_add st.2.1 1) dX3_takePart_21 ?_
    refine p_put (fs := [.ref 34, .ref 36, .ref 37, .int (nI st.2.2.1.length), .int (nI st.2.1), .int st.2.2.2, .int 0]) (fs' := [.ref 34, .ref 36, .ref 37, .int (nI st.2.2.1.length), .int (nI (st.2.1 + 1)), .int st.2.2.2, .int 0]) flX3_29 (by exact ((bU_n (by decide)).trans (((bU_n (by decide)).trans (bU_s _ _ _))))) (Nat.le_of_ble_eq_true rfl) (bNf_i _) rfl dX3_takePart_22 ?_
    refine bV_h (f2 := bU (bU (bU (bU f 34 (.inr (5, [.ref 35, .int tl, .int (nI e), .int (nI st.1.2.1), .int (nI st.1.1), .int st.1.2.2.1, .int st.1.2.2.2]))) 33 (.inr (3, [.ref 34, .ref 36, .ref 37, .int (nI st.2.2.1.length), .int (nI (st.2.1 + 1)), .int st.2.2.2, .int 0]))) 36 (.inl (0, 60, .inl ks))) 37 (.inl (0, 60, .inl vs))) (((bU_c (by decide)).trans (congrArg (fun z => bU z 37 (.inl (0, 60, .inl vs))) (((bU_c (by decide)).trans (congrArg (fun z => bU z 36 (.inl (0, 60, .inl ks))) (bU_u _ _ _ _))))))) ?_
    refine r_aload_n (n := 0) (i := 0) 0 rfl rfl dX3_takePart_25 ?_
    refine p_get (fs := [.ref 34, .ref 36, .ref 37, .int (nI st.2.2.1.length), .int (nI (st.2.1 + 1)), .int st.2.2.2, .int 0]) flX3_12 (by exact ((bU_n (by decide)).trans (((bU_n (by decide)).trans (bU_s _ _ _))))) rfl dX3_takePart_26 ?_
    refine p_callV (As := []) (rest := []) (kX5_advance (O := O) (d := 7) (f := bU (bU (bU (bU f 34 (.inr (5, [.ref 35, .int tl, .int (nI e), .int (nI st.1.2.1), .int (nI st.1.1), .int st.1.2.2.1, .int st.1.2.2.2]))) 33 (.inr (3, [.ref 34, .ref 36, .ref 37, .int (nI st.2.2.1.length), .int (nI (st.2.1 + 1)), .int st.2.2.2, .int 0]))) 36 (.inl (0, 60, .inl ks))) 37 (.inl (0, 60, .inl vs))) (n := n) (s := s) (tl := tl) (tk := st.1.2.2.1) (tv := st.1.2.2.2) (tp := nI st.1.1) (e := e) (q := st.1.2.1) (bs := bs) (by exact ((bU_n (by decide)).trans (((bU_n (by decide)).trans (((bU_n (by decide)).trans (bU_s _ _ _))))))) (by exact ((bU_n (by decide)).trans (((bU_n (by decide)).trans (((bU_n (by decide)).trans (((bU_n (by decide)).trans (h35))))))))) (by first | assumption | omega | decide) (by first | assumption | omega | decide) (Nat.le_refl _)).call rfl lkX3_90 imX5_advance seX5_advance rfl (by exact ((bU_n (by decide)).trans (((bU_n (by decide)).trans (((bU_n (by decide)).trans (bU_s _ _ _))))))) rfl rfl (by omega) (Nat.le_of_ble_eq_true rfl) dX3_takePart_29 (fun v9 G9 h9 => ?_) (fun q9 G9 h9 => (by cases h9.1))
    obtain ⟨h8, rfl⟩ := h9; cases h8
    refine bV_h (f2 := bU (bU (bU (bU f 34 (.inr (5, [.ref 35, .int tl, .int (nI e), .int (nI (tkN bs e (tkP bs e st.1.2.1))), .int (nI (tkP bs e st.1.2.1)), .int (tkK bs e (tkP bs e st.1.2.1)), .int (tkV bs e (tkP bs e st.1.2.1) st.1.2.2.2)]))) 33 (.inr (3, [.ref 34, .ref 36, .ref 37, .int (nI st.2.2.1.length), .int (nI (st.2.1 + 1)), .int st.2.2.2, .int 0]))) 36 (.inl (0, 60, .inl ks))) 37 (.inl (0, 60, .inl vs))) (((bU_c (by decide)).trans (congrArg (fun z => bU z 37 (.inl (0, 60, .inl vs))) (((bU_c (by decide)).trans (congrArg (fun z => bU z 36 (.inl (0, 60, .inl ks))) (((bU_c (by decide)).trans (congrArg (fun z => bU z 33 (.inr (3, [.ref 34, .ref 36, .ref 37, .int (nI st.2.2.1.length), .int (nI (st.2.1 + 1)), .int st.2.2.2, .int 0]))) (bU_u _ _ _ _)))))))))) ?_
    show bV O _ d 32 [(0, .ref 33)] [] (bU (bU (bU (bU f 34 (.inr (5, [.ref 35, .int tl, .int (nI e), .int (nI (tkN bs e (tkP bs e st.1.2.1))), .int (nI (tkP bs e st.1.2.1)), .int (tkK bs e (tkP bs e st.1.2.1)), .int (tkV bs e (tkP bs e st.1.2.1) st.1.2.2.2)]))) 33 (.inr (3, [.ref 34, .ref 36, .ref 37, .int (nI st.2.2.1.length), .int (nI (st.2.1 + 1)), .int st.2.2.2, .int 0]))) 36 (.inl (0, 60, .inl ks))) 37 (.inl (0, 60, .inl vs)), n, s) _
    refine r_iconst (v := 1) (by decide) dX3_takePart_32 ?_
    refine r_zreturn rfl (by first | decide +kernel | exact narZ _ | assumption) dX3_takePart_33 ?_
    show rP f n s tl e _ _ _
    simp only [pPart, c6, if_true, reduceIte]
    exact ⟨rfl, ks, vs, hc, rfl⟩
  · have c6 : ¬ st.2.1 < 60 := fun h7 => c6 ((nI_ltI (a := st.2.1) (b := 60) (by omega) (by omega)).mpr h7)
    refine r_aload_n (n := 0) (i := 0) 0 rfl rfl dX3_takePart_9 ?_
    refine r_iconst (v := 3) (by decide) dX3_takePart_10 ?_
    refine p_callV (As := [.int 3]) (rest := []) (kX3_meet (O := O) (d := 0) (f := bU (bU (bU (bU f 34 (.inr (5, [.ref 35, .int tl, .int (nI e), .int (nI st.1.2.1), .int (nI st.1.1), .int st.1.2.2.1, .int st.1.2.2.2]))) 33 (.inr (3, [.ref 34, .ref 36, .ref 37, .int (nI st.2.2.1.length), .int (nI st.2.1), .int st.2.2.2, .int 0]))) 36 (.inl (0, 60, .inl ks))) 37 (.inl (0, 60, .inl vs))) (n := n) (s := s) (w := nI st.2.2.1.length) (m := nI st.2.1) (bi := st.2.2.2) (ft := 0) (x := 3) (by exact ((bU_n (by decide)).trans (((bU_n (by decide)).trans (bU_s _ _ _)))))  (Nat.le_refl _)).call rfl lkX3_49 imX3_meet seX3_meet rfl (by exact ((bU_n (by decide)).trans (((bU_n (by decide)).trans (bU_s _ _ _))))) rfl rfl (by omega) (Nat.le_of_ble_eq_true rfl) dX3_takePart_11 (fun v9 G9 h9 => ?_) (fun q9 G9 h9 => (by cases h9.1))
    obtain ⟨h8, rfl⟩ := h9; cases h8
    refine bV_h (f2 := bU (bU (bU (bU f 34 (.inr (5, [.ref 35, .int tl, .int (nI e), .int (nI st.1.2.1), .int (nI st.1.1), .int st.1.2.2.1, .int st.1.2.2.2]))) 33 (.inr (3, [.ref 34, .ref 36, .ref 37, .int (nI st.2.2.1.length), .int (nI st.2.1), .int st.2.2.2, .int 3]))) 36 (.inl (0, 60, .inl ks))) 37 (.inl (0, 60, .inl vs))) (((bU_c (by decide)).trans (congrArg (fun z => bU z 37 (.inl (0, 60, .inl vs))) (((bU_c (by decide)).trans (congrArg (fun z => bU z 36 (.inl (0, 60, .inl ks))) (bU_u _ _ _ _))))))) ?_
    show bV O _ d 14 [(0, .ref 33)] [.int 0] (bU (bU (bU (bU f 34 (.inr (5, [.ref 35, .int tl, .int (nI e), .int (nI st.1.2.1), .int (nI st.1.1), .int st.1.2.2.1, .int st.1.2.2.2]))) 33 (.inr (3, [.ref 34, .ref 36, .ref 37, .int (nI st.2.2.1.length), .int (nI st.2.1), .int st.2.2.2, .int 3]))) 36 (.inl (0, 60, .inl ks))) 37 (.inl (0, 60, .inl vs)), n, s) _
    refine r_zreturn rfl (by first | decide +kernel | exact narZ _ | assumption) dX3_takePart_14 ?_
    show rP f n s tl e _ _ _
    simp only [pPart, c6, if_false, reduceIte]
    exact ⟨rfl, st, ks, vs, rfl, rfl⟩
set_option maxRecDepth 4000 in
theorem c_write {O : bO} {d : Nat} {f : bF} {n s : Nat} {tl : Int32} {e : Nat} {bs : Nat → Int32} {st : pS} {ks vs : Nat → Int32} {k : Nat} (h35 : f 35 = some (.inl (0, 300, .inl bs))) (e0 : e ≤ 300) (hc : cod ks vs st.2.2.1) (ho : okS k st) {x v : Int32} (h1 : 1 ≤ k) (hd : 1 ≤ d) : bCall O mX3_write d [.ref 33, .int x, .int v] (hRd f tl e st ks vs 0, n, s) (rP f n s tl e (pWr x v st)) := by
  refine bCall_of (by decide) rfl (Nat.le_of_ble_eq_true rfl) ?_
  obtain ⟨o1, o2, o3, o4⟩ := id ho
  show bV O _ d 0 [(0, .ref 33), (1, .int x), (2, .int v)] [] (bU (bU (bU (bU f 34 (.inr (5, [.ref 35, .int tl, .int (nI e), .int (nI st.1.2.1), .int (nI st.1.1), .int st.1.2.2.1, .int st.1.2.2.2]))) 33 (.inr (3, [.ref 34, .ref 36, .ref 37, .int (nI st.2.2.1.length), .int (nI st.2.1), .int st.2.2.2, .int 0]))) 36 (.inl (0, 60, .inl ks))) 37 (.inl (0, 60, .inl vs)), n, s) _
  refine r_aload_n (n := 0) (i := 0) 0 rfl rfl dX3_write_0 ?_
  refine p_get (fs := [.ref 34, .ref 36, .ref 37, .int (nI st.2.2.1.length), .int (nI st.2.1), .int st.2.2.2, .int 0]) flX3_25 (by exact ((bU_n (by decide)).trans (((bU_n (by decide)).trans (bU_s _ _ _))))) rfl dX3_write_1 ?_
  refine r_if_lt (tgt := 31) (by decide) dX3_write_4 (fun h9 => absurd h9 (nI_pos (by omega))) (fun _ => ?_)
  refine r_aload_n (n := 0) (i := 0) 0 rfl rfl dX3_write_7 ?_
  refine p_get (fs := [.ref 34, .ref 36, .ref 37, .int (nI st.2.2.1.length), .int (nI st.2.1), .int st.2.2.2, .int 0]) flX3_25 (by exact ((bU_n (by decide)).trans (((bU_n (by decide)).trans (bU_s _ _ _))))) rfl dX3_write_8 ?_
  refine r_aload_n (n := 0) (i := 0) 0 rfl rfl dX3_write_11 ?_
  refine p_get (fs := [.ref 34, .ref 36, .ref 37, .int (nI st.2.2.1.length), .int (nI st.2.1), .int st.2.2.2, .int 0]) flX3_18 (by exact ((bU_n (by decide)).trans (((bU_n (by decide)).trans (bU_s _ _ _))))) rfl dX3_write_12 ?_
  refine p_alen2 (kd := 0) (n := 60) (a := (60, .inl ks)) rfl (by exact ((bU_n (by decide)).trans (bU_s _ _ _))) rfl dX3_write_15 ?_
  refine r_icmp_ge (tgt := 31) (by decide) dX3_write_16 (fun h9 => absurd h9 (fun h7 => absurd ((nI_leI (a := 60) (b := st.2.2.1.length) (by omega) (by omega)).mp h7) (by omega))) (fun _ => ?_)
  refine r_aload_n (n := 0) (i := 0) 0 rfl rfl dX3_write_19 ?_
  refine p_get (fs := [.ref 34, .ref 36, .ref 37, .int (nI st.2.2.1.length), .int (nI st.2.1), .int st.2.2.2, .int 0]) flX3_25 (by exact ((bU_n (by decide)).trans (((bU_n (by decide)).trans (bU_s _ _ _))))) rfl dX3_write_20 ?_
  refine r_aload_n (n := 0) (i := 0) 0 rfl rfl dX3_write_23 ?_
  refine p_get (fs := [.ref 34, .ref 36, .ref 37, .int (nI st.2.2.1.length), .int (nI st.2.1), .int st.2.2.2, .int 0]) flX3_22 (by exact ((bU_n (by decide)).trans (((bU_n (by decide)).trans (bU_s _ _ _))))) rfl dX3_write_24 ?_
  refine p_alen2 (kd := 0) (n := 60) (a := (60, .inl vs)) rfl (by exact bU_s _ _ _) rfl dX3_write_27 ?_
  refine r_icmp_lt (tgt := 37) (by decide) dX3_write_28 (fun _ => ?_) (fun h9 => absurd ((nI_ltI (a := st.2.2.1.length) (b := 60) (by omega) (by omega)).mpr (by omega)) h9)
  refine r_aload_n (n := 0) (i := 0) 0 rfl rfl dX3_write_37 ?_
  refine p_get (fs := [.ref 34, .ref 36, .ref 37, .int (nI st.2.2.1.length), .int (nI st.2.1), .int st.2.2.2, .int 0]) flX3_18 (by exact ((bU_n (by decide)).trans (((bU_n (by decide)).trans (bU_s _ _ _))))) rfl dX3_write_38 ?_
  refine r_aload_n (n := 0) (i := 0) 0 rfl rfl dX3_write_41 ?_
  refine p_get (fs := [.ref 34, .ref 36, .ref 37, .int (nI st.2.2.1.length), .int (nI st.2.1), .int st.2.2.2, .int 0]) flX3_25 (by exact ((bU_n (by decide)).trans (((bU_n (by decide)).trans (bU_s _ _ _))))) rfl dX3_write_42 ?_
  refine r_iload_n (n := 1) (i := 1) 1 rfl rfl dX3_write_45 ?_
  refine p_iastN (t := st.2.2.1.length) (by exact ((bU_n (by decide)).trans (bU_s _ _ _))) (by omega) (by omega) dX3_write_46 ?_
  refine bV_h (f2 := bU (bU (bU (bU f 34 (.inr (5, [.ref 35, .int tl, .int (nI e), .int (nI st.1.2.1), .int (nI st.1.1), .int st.1.2.2.1, .int st.1.2.2.2]))) 33 (.inr (3, [.ref 34, .ref 36, .ref 37, .int (nI st.2.2.1.length), .int (nI st.2.1), .int st.2.2.2, .int 0]))) 36 (.inl (0, 60, .inl (upd ks st.2.2.1.length x)))) 37 (.inl (0, 60, .inl vs))) (((bU_c (by decide)).trans (congrArg (fun z => bU z 37 (.inl (0, 60, .inl vs))) (bU_u _ _ _ _)))) ?_
  refine r_aload_n (n := 0) (i := 0) 0 rfl rfl dX3_write_47 ?_
  refine p_get (fs := [.ref 34, .ref 36, .ref 37, .int (nI st.2.2.1.length), .int (nI st.2.1), .int st.2.2.2, .int 0]) flX3_22 (by exact ((bU_n (by decide)).trans (((bU_n (by decide)).trans (bU_s _ _ _))))) rfl dX3_write_48 ?_
  refine r_aload_n (n := 0) (i := 0) 0 rfl rfl dX3_write_51 ?_
  refine p_get (fs := [.ref 34, .ref 36, .ref 37, .int (nI st.2.2.1.length), .int (nI st.2.1), .int st.2.2.2, .int 0]) flX3_25 (by exact ((bU_n (by decide)).trans (((bU_n (by decide)).trans (bU_s _ _ _))))) rfl dX3_write_52 ?_
  refine r_iload_n (n := 2) (i := 2) 2 rfl rfl dX3_write_55 ?_
  refine p_iastN (t := st.2.2.1.length) (by exact bU_s _ _ _) (by omega) (by omega) dX3_write_56 ?_
  refine bV_h (f2 := bU (bU (bU (bU f 34 (.inr (5, [.ref 35, .int tl, .int (nI e), .int (nI st.1.2.1), .int (nI st.1.1), .int st.1.2.2.1, .int st.1.2.2.2]))) 33 (.inr (3, [.ref 34, .ref 36, .ref 37, .int (nI st.2.2.1.length), .int (nI st.2.1), .int st.2.2.2, .int 0]))) 36 (.inl (0, 60, .inl (upd ks st.2.2.1.length x)))) 37 (.inl (0, 60, .inl (upd vs st.2.2.1.length v)))) (bU_u _ _ _ _) ?_
  refine r_aload_n (n := 0) (i := 0) 0 rfl rfl dX3_write_57 ?_
  refine r_dup rfl dX3_write_58 ?_
  refine p_get (fs := [.ref 34, .ref 36, .ref 37, .int (nI st.2.2.1.length), .int (nI st.2.1), .int st.2.2.2, .int 0]) flX3_25 (by exact ((bU_n (by decide)).trans (((bU_n (by decide)).trans (bU_s _ _ _))))) rfl dX3_write_59 ?_
  refine r_iconst (v := 1) (by decide) dX3_write_62 ?_
  refine r_iaddE (v := nI (st.2.2.1.length + 1)) (nI_add st.2.2.1.length 1) dX3_write_63 ?_
  refine p_put (fs := [.ref 34, .ref 36, .ref 37, .int (nI st.2.2.1.length), .int (nI st.2.1), .int st.2.2.2, .int 0]) (fs' := [.ref 34, .ref 36, .ref 37, .int (nI (st.2.2.1.length + 1)), .int (nI st.2.1), .int st.2.2.2, .int 0]) flX3_25 (by exact ((bU_n (by decide)).trans (((bU_n (by decide)).trans (bU_s _ _ _))))) (Nat.le_of_ble_eq_true rfl) (bNf_i _) rfl dX3_write_64 ?_
  refine bV_h (f2 := bU (bU (bU (bU f 34 (.inr (5, [.ref 35, .int tl, .int (nI e), .int (nI st.1.2.1), .int (nI st.1.1), .int st.1.2.2.1, .int st.1.2.2.2]))) 33 (.inr (3, [.ref 34, .ref 36, .ref 37, .int (nI (st.2.2.1.length + 1)), .int (nI st.2.1), .int st.2.2.2, .int 0]))) 36 (.inl (0, 60, .inl (upd ks st.2.2.1.length x)))) 37 (.inl (0, 60, .inl (upd vs st.2.2.1.length v)))) (((bU_c (by decide)).trans (congrArg (fun z => bU z 37 (.inl (0, 60, .inl (upd vs st.2.2.1.length v)))) (((bU_c (by decide)).trans (congrArg (fun z => bU z 36 (.inl (0, 60, .inl (upd ks st.2.2.1.length x)))) (bU_u _ _ _ _))))))) ?_
  refine r_iconst (v := 1) (by decide) dX3_write_67 ?_
  refine r_zreturn rfl (by first | decide +kernel | exact narZ _ | assumption) dX3_write_68 ?_
  show rP f n s tl e _ _ _
  exact ⟨rfl, upd ks st.2.2.1.length x, upd vs st.2.2.1.length v, cod_add hc, by simp [hRd, tpC, rdC]⟩
