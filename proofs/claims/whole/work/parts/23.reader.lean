/-! ===== ModelShelf$Reader (printed by wip/gen/reader.py) ===== -/
set_option maxRecDepth 4000 in
theorem kX3_meet {O : bO} {d : Nat} {f : bF} {n s : Nat} {w : Int32} {m : Int32} {bi : Int32} {ft : Int32} {x : Int32} (h0 : f 33 = some (.inr (3, [.ref 34, .ref 36, .ref 37, .int w, .int m, .int bi, .int ft])))  (hd : 0 ≤ d) : bMt O mX3_meet d [.ref 33, .int x] (f, n, s) (.inl (some (.int 0))) (bU f 33 (.inr (3, [.ref 34, .ref 36, .ref 37, .int w, .int m, .int bi, .int x])), n, s) := by
  refine bMt_of (bCall_of (by decide) rfl (Nat.le_of_ble_eq_true rfl) ?_)
  show bV O _ d 0 [(0, .ref 33), (1, .int x)] [] (f, n, s) _
  refine r_aload_n (n := 0) (i := 0) 0 rfl rfl dX3_meet_0 ?_
  refine r_iload_n (n := 1) (i := 1) 1 rfl rfl dX3_meet_1 ?_
  refine p_put (fs := [.ref 34, .ref 36, .ref 37, .int w, .int m, .int bi, .int ft]) (fs' := [.ref 34, .ref 36, .ref 37, .int w, .int m, .int bi, .int x]) flX3_35 h0 (Nat.le_of_ble_eq_true rfl) (bNf_i _) rfl dX3_meet_2 ?_
  refine r_iconst (v := 0) (by decide) dX3_meet_5 ?_
  refine r_zreturn rfl (by first | decide +kernel | exact narZ _ | assumption) dX3_meet_6 ?_
  refine ⟨?_, ?_⟩ <;> first | rfl | (simp []; done)
set_option maxRecDepth 4000 in
theorem c_take {O : bO} {d : Nat} {f : bF} {n s : Nat} {tl : Int32} {e : Nat} {bs : Nat → Int32} {st : pS} {ks vs : Nat → Int32} {k a : Nat} (h35 : f 35 = some (.inl (0, 300, .inl bs))) (e0 : e ≤ 300) (hc : cod ks vs st.2.2.1) (ho : okS k a st) {x : Int32} (hd : 8 ≤ d) : bCall O mX3_take d [.ref 33, .int x] (hRd f tl e st ks vs 0, n, s) (rP f n s tl e (pTake bs e x st)) := by
  refine bCall_of (by decide) rfl (Nat.le_of_ble_eq_true rfl) ?_
  obtain ⟨o1, o2, o3, o4, o5⟩ := id ho
  show bV O _ d 0 [(0, .ref 33), (1, .int x)] [] (bU (bU (bU (bU f 34 (.inr (5, [.ref 35, .int tl, .int (nI e), .int (nI st.1.2.1), .int (nI st.1.1), .int st.1.2.2.1, .int st.1.2.2.2]))) 33 (.inr (3, [.ref 34, .ref 36, .ref 37, .int (nI st.2.2.1.length), .int (nI st.2.1), .int st.2.2.2, .int 0]))) 36 (.inl (0, 60, .inl ks))) 37 (.inl (0, 60, .inl vs)), n, s) _
  refine r_aload_n (n := 0) (i := 0) 0 rfl rfl dX3_take_0 ?_
  refine p_get (fs := [.ref 34, .ref 36, .ref 37, .int (nI st.2.2.1.length), .int (nI st.2.1), .int st.2.2.2, .int 0]) flX3_12 (by exact ((bU_n (by decide)).trans (((bU_n (by decide)).trans (bU_s _ _ _))))) rfl dX3_take_1 ?_
  refine p_get (fs := [.ref 35, .int tl, .int (nI e), .int (nI st.1.2.1), .int (nI st.1.1), .int st.1.2.2.1, .int st.1.2.2.2]) flX3_46 (by exact ((bU_n (by decide)).trans (((bU_n (by decide)).trans (((bU_n (by decide)).trans (bU_s _ _ _))))))) rfl dX3_take_4 ?_
  refine r_iload_n (n := 1) (i := 1) 1 rfl rfl dX3_take_7 ?_
  refine r_icmp_eq (tgt := 17) (by decide) dX3_take_8 (fun c8 => ?_) (fun c8 => ?_)
  · refine r_aload_n (n := 0) (i := 0) 0 rfl rfl dX3_take_17 ?_
    refine p_get (fs := [.ref 34, .ref 36, .ref 37, .int (nI st.2.2.1.length), .int (nI st.2.1), .int st.2.2.2, .int 0]) flX3_12 (by exact ((bU_n (by decide)).trans (((bU_n (by decide)).trans (bU_s _ _ _))))) rfl dX3_take_18 ?_
    refine p_callV (As := []) (rest := []) (kX5_advance (O := O) (d := 7) (f := bU (bU (bU (bU f 34 (.inr (5, [.ref 35, .int tl, .int (nI e), .int (nI st.1.2.1), .int (nI st.1.1), .int st.1.2.2.1, .int st.1.2.2.2]))) 33 (.inr (3, [.ref 34, .ref 36, .ref 37, .int (nI st.2.2.1.length), .int (nI st.2.1), .int st.2.2.2, .int 0]))) 36 (.inl (0, 60, .inl ks))) 37 (.inl (0, 60, .inl vs))) (n := n) (s := s) (tl := tl) (tk := st.1.2.2.1) (tv := st.1.2.2.2) (tp := nI st.1.1) (e := e) (q := st.1.2.1) (bs := bs) (by exact ((bU_n (by decide)).trans (((bU_n (by decide)).trans (((bU_n (by decide)).trans (bU_s _ _ _))))))) (by exact ((bU_n (by decide)).trans (((bU_n (by decide)).trans (((bU_n (by decide)).trans (((bU_n (by decide)).trans (h35))))))))) (by first | assumption | omega | decide) (by first | assumption | omega | decide) (Nat.le_refl _)).call rfl lkX3_90 imX5_advance seX5_advance rfl (by exact ((bU_n (by decide)).trans (((bU_n (by decide)).trans (((bU_n (by decide)).trans (bU_s _ _ _))))))) rfl rfl (by omega) (Nat.le_of_ble_eq_true rfl) dX3_take_21 (fun v9 G9 h9 => ?_) (fun q9 G9 h9 => (by cases h9.1))
    obtain ⟨h8, rfl⟩ := h9; cases h8
    refine bV_h (f2 := bU (bU (bU (bU f 34 (.inr (5, [.ref 35, .int tl, .int (nI e), .int (nI (tkN bs e (tkP bs e st.1.2.1))), .int (nI (tkP bs e st.1.2.1)), .int (tkK bs e (tkP bs e st.1.2.1)), .int (tkV bs e (tkP bs e st.1.2.1) st.1.2.2.2)]))) 33 (.inr (3, [.ref 34, .ref 36, .ref 37, .int (nI st.2.2.1.length), .int (nI st.2.1), .int st.2.2.2, .int 0]))) 36 (.inl (0, 60, .inl ks))) 37 (.inl (0, 60, .inl vs))) (((bU_c (by decide)).trans (congrArg (fun z => bU z 37 (.inl (0, 60, .inl vs))) (((bU_c (by decide)).trans (congrArg (fun z => bU z 36 (.inl (0, 60, .inl ks))) (((bU_c (by decide)).trans (congrArg (fun z => bU z 33 (.inr (3, [.ref 34, .ref 36, .ref 37, .int (nI st.2.2.1.length), .int (nI st.2.1), .int st.2.2.2, .int 0]))) (bU_u _ _ _ _)))))))))) ?_
    show bV O _ d 24 [(0, .ref 33), (1, .int x)] [] (bU (bU (bU (bU f 34 (.inr (5, [.ref 35, .int tl, .int (nI e), .int (nI (tkN bs e (tkP bs e st.1.2.1))), .int (nI (tkP bs e st.1.2.1)), .int (tkK bs e (tkP bs e st.1.2.1)), .int (tkV bs e (tkP bs e st.1.2.1) st.1.2.2.2)]))) 33 (.inr (3, [.ref 34, .ref 36, .ref 37, .int (nI st.2.2.1.length), .int (nI st.2.1), .int st.2.2.2, .int 0]))) 36 (.inl (0, 60, .inl ks))) 37 (.inl (0, 60, .inl vs)), n, s) _
    refine r_iconst (v := 1) (by decide) dX3_take_24 ?_
    refine r_zreturn rfl (by first | decide +kernel | exact narZ _ | assumption) dX3_take_25 ?_
    show rP f n s tl e _ _ _
    simp only [pTake, c8, if_true, reduceIte]
    exact ⟨rfl, ks, vs, hc, rfl⟩
  · refine r_aload_n (n := 0) (i := 0) 0 rfl rfl dX3_take_11 ?_
    refine r_iconst (v := 1) (by decide) dX3_take_12 ?_
    refine p_callV (As := [.int 1]) (rest := []) (kX3_meet (O := O) (d := 0) (f := bU (bU (bU (bU f 34 (.inr (5, [.ref 35, .int tl, .int (nI e), .int (nI st.1.2.1), .int (nI st.1.1), .int st.1.2.2.1, .int st.1.2.2.2]))) 33 (.inr (3, [.ref 34, .ref 36, .ref 37, .int (nI st.2.2.1.length), .int (nI st.2.1), .int st.2.2.2, .int 0]))) 36 (.inl (0, 60, .inl ks))) 37 (.inl (0, 60, .inl vs))) (n := n) (s := s) (w := nI st.2.2.1.length) (m := nI st.2.1) (bi := st.2.2.2) (ft := 0) (x := 1) (by exact ((bU_n (by decide)).trans (((bU_n (by decide)).trans (bU_s _ _ _)))))  (Nat.le_refl _)).call rfl lkX3_49 imX3_meet seX3_meet rfl (by exact ((bU_n (by decide)).trans (((bU_n (by decide)).trans (bU_s _ _ _))))) rfl rfl (by omega) (Nat.le_of_ble_eq_true rfl) dX3_take_13 (fun v9 G9 h9 => ?_) (fun q9 G9 h9 => (by cases h9.1))
    obtain ⟨h8, rfl⟩ := h9; cases h8
    refine bV_h (f2 := bU (bU (bU (bU f 34 (.inr (5, [.ref 35, .int tl, .int (nI e), .int (nI st.1.2.1), .int (nI st.1.1), .int st.1.2.2.1, .int st.1.2.2.2]))) 33 (.inr (3, [.ref 34, .ref 36, .ref 37, .int (nI st.2.2.1.length), .int (nI st.2.1), .int st.2.2.2, .int 1]))) 36 (.inl (0, 60, .inl ks))) 37 (.inl (0, 60, .inl vs))) (((bU_c (by decide)).trans (congrArg (fun z => bU z 37 (.inl (0, 60, .inl vs))) (((bU_c (by decide)).trans (congrArg (fun z => bU z 36 (.inl (0, 60, .inl ks))) (bU_u _ _ _ _))))))) ?_
    show bV O _ d 16 [(0, .ref 33), (1, .int x)] [.int 0] (bU (bU (bU (bU f 34 (.inr (5, [.ref 35, .int tl, .int (nI e), .int (nI st.1.2.1), .int (nI st.1.1), .int st.1.2.2.1, .int st.1.2.2.2]))) 33 (.inr (3, [.ref 34, .ref 36, .ref 37, .int (nI st.2.2.1.length), .int (nI st.2.1), .int st.2.2.2, .int 1]))) 36 (.inl (0, 60, .inl ks))) 37 (.inl (0, 60, .inl vs)), n, s) _
    refine r_zreturn rfl (by first | decide +kernel | exact narZ _ | assumption) dX3_take_16 ?_
    show rP f n s tl e _ _ _
    simp only [pTake, c8, if_false, reduceIte]
    exact ⟨rfl, st, ks, vs, rfl, rfl⟩
set_option maxRecDepth 4000 in
theorem c_takePart {O : bO} {d : Nat} {f : bF} {n s : Nat} {tl : Int32} {e : Nat} {bs : Nat → Int32} {st : pS} {ks vs : Nat → Int32} {k a : Nat} (h35 : f 35 = some (.inl (0, 300, .inl bs))) (e0 : e ≤ 300) (hc : cod ks vs st.2.2.1) (ho : okS k a st) (hd : 8 ≤ d) : bCall O mX3_takePart d [.ref 33] (hRd f tl e st ks vs 0, n, s) (rP f n s tl e (pPart bs e st)) := by
  refine bCall_of (by decide) rfl (Nat.le_of_ble_eq_true rfl) ?_
  obtain ⟨o1, o2, o3, o4, o5⟩ := id ho
  show bV O _ d 0 [(0, .ref 33)] [] (bU (bU (bU (bU f 34 (.inr (5, [.ref 35, .int tl, .int (nI e), .int (nI st.1.2.1), .int (nI st.1.1), .int st.1.2.2.1, .int st.1.2.2.2]))) 33 (.inr (3, [.ref 34, .ref 36, .ref 37, .int (nI st.2.2.1.length), .int (nI st.2.1), .int st.2.2.2, .int 0]))) 36 (.inl (0, 60, .inl ks))) 37 (.inl (0, 60, .inl vs)), n, s) _
  refine r_aload_n (n := 0) (i := 0) 0 rfl rfl dX3_takePart_0 ?_
  refine p_get (fs := [.ref 34, .ref 36, .ref 37, .int (nI st.2.2.1.length), .int (nI st.2.1), .int st.2.2.2, .int 0]) flX3_29 (by exact ((bU_n (by decide)).trans (((bU_n (by decide)).trans (bU_s _ _ _))))) rfl dX3_takePart_1 ?_
  refine r_bipush (v := 60) (by decide) dX3_takePart_4 ?_
  refine r_icmp_lt (tgt := 15) (by decide) dX3_takePart_6 (fun c6 => ?_) (fun c6 => ?_)
  · have c6 : st.2.1 < 60 := (nI_ltI (a := st.2.1) (b := 60) (by omega) (by omega)).mp c6
    refine r_aload_n (n := 0) (i := 0) 0 rfl rfl dX3_takePart_15 ?_
    refine r_dup rfl dX3_takePart_16 ?_
    refine p_get (fs := [.ref 34, .ref 36, .ref 37, .int (nI st.2.2.1.length), .int (nI st.2.1), .int st.2.2.2, .int 0]) flX3_29 (by exact ((bU_n (by decide)).trans (((bU_n (by decide)).trans (bU_s _ _ _))))) rfl dX3_takePart_17 ?_
    refine r_iconst (v := 1) (by decide) dX3_takePart_20 ?_
    refine r_iaddE (v := nI (st.2.1 + 1)) (nI_add st.2.1 1) dX3_takePart_21 ?_
    refine p_put (fs := [.ref 34, .ref 36, .ref 37, .int (nI st.2.2.1.length), .int (nI st.2.1), .int st.2.2.2, .int 0]) (fs' := [.ref 34, .ref 36, .ref 37, .int (nI st.2.2.1.length), .int (nI (st.2.1 + 1)), .int st.2.2.2, .int 0]) flX3_29 (by exact ((bU_n (by decide)).trans (((bU_n (by decide)).trans (bU_s _ _ _))))) (Nat.le_of_ble_eq_true rfl) (bNf_i _) rfl dX3_takePart_22 ?_
    refine bV_h (f2 := bU (bU (bU (bU f 34 (.inr (5, [.ref 35, .int tl, .int (nI e), .int (nI st.1.2.1), .int (nI st.1.1), .int st.1.2.2.1, .int st.1.2.2.2]))) 33 (.inr (3, [.ref 34, .ref 36, .ref 37, .int (nI st.2.2.1.length), .int (nI (st.2.1 + 1)), .int st.2.2.2, .int 0]))) 36 (.inl (0, 60, .inl ks))) 37 (.inl (0, 60, .inl vs))) (((bU_c (by decide)).trans (congrArg (fun z => bU z 37 (.inl (0, 60, .inl vs))) (((bU_c (by decide)).trans (congrArg (fun z => bU z 36 (.inl (0, 60, .inl ks))) (bU_u _ _ _ _))))))) ?_
    refine r_aload_n (n := 0) (i := 0) 0 rfl rfl dX3_takePart_25 ?_
    refine p_get (fs := [.ref 34, .ref 36, .ref 37, .int (nI st.2.2.1.length), .int (nI (st.2.1 + 1)), .int st.2.2.2, .int 0]) flX3_12 (by exact ((bU_n (by decide)).trans (((bU_n (by decide)).trans (bU_s _ _ _))))) rfl dX3_takePart_26 ?_
    refine p_callV (As := []) (rest := []) (kX5_advance (O := O) (d := 7) (f := bU (bU (bU (bU f 34 (.inr (5, [.ref 35, .int tl, .int (nI e), .int (nI st.1.2.1), .int (nI st.1.1), .int st.1.2.2.1, .int st.1.2.2.2]))) 33 (.inr (3, [.ref 34, .ref 36, .ref 37, .int (nI st.2.2.1.length), .int (nI (st.2.1 + 1)), .int st.2.2.2, .int 0]))) 36 (.inl (0, 60, .inl ks))) 37 (.inl (0, 60, .inl vs))) (n := n) (s := s) (tl := tl) (tk := st.1.2.2.1) (tv := st.1.2.2.2) (tp := nI st.1.1) (e := e) (q := st.1.2.1) (bs := bs) (by exact ((bU_n (by decide)).trans (((bU_n (by decide)).trans (((bU_n (by decide)).trans (bU_s _ _ _))))))) (by exact ((bU_n (by decide)).trans (((bU_n (by decide)).trans (((bU_n (by decide)).trans (((bU_n (by decide)).trans (h35))))))))) (by first | assumption | omega | decide) (by first | assumption | omega | decide) (Nat.le_refl _)).call rfl lkX3_90 imX5_advance seX5_advance rfl (by exact ((bU_n (by decide)).trans (((bU_n (by decide)).trans (((bU_n (by decide)).trans (bU_s _ _ _))))))) rfl rfl (by omega) (Nat.le_of_ble_eq_true rfl) dX3_takePart_29 (fun v9 G9 h9 => ?_) (fun q9 G9 h9 => (by cases h9.1))
    obtain ⟨h8, rfl⟩ := h9; cases h8
    refine bV_h (f2 := bU (bU (bU (bU f 34 (.inr (5, [.ref 35, .int tl, .int (nI e), .int (nI (tkN bs e (tkP bs e st.1.2.1))), .int (nI (tkP bs e st.1.2.1)), .int (tkK bs e (tkP bs e st.1.2.1)), .int (tkV bs e (tkP bs e st.1.2.1) st.1.2.2.2)]))) 33 (.inr (3, [.ref 34, .ref 36, .ref 37, .int (nI st.2.2.1.length), .int (nI (st.2.1 + 1)), .int st.2.2.2, .int 0]))) 36 (.inl (0, 60, .inl ks))) 37 (.inl (0, 60, .inl vs))) (((bU_c (by decide)).trans (congrArg (fun z => bU z 37 (.inl (0, 60, .inl vs))) (((bU_c (by decide)).trans (congrArg (fun z => bU z 36 (.inl (0, 60, .inl ks))) (((bU_c (by decide)).trans (congrArg (fun z => bU z 33 (.inr (3, [.ref 34, .ref 36, .ref 37, .int (nI st.2.2.1.length), .int (nI (st.2.1 + 1)), .int st.2.2.2, .int 0]))) (bU_u _ _ _ _)))))))))) ?_
    show bV O _ d 32 [(0, .ref 33)] [] (bU (bU (bU (bU f 34 (.inr (5, [.ref 35, .int tl, .int (nI e), .int (nI (tkN bs e (tkP bs e st.1.2.1))), .int (nI (tkP bs e st.1.2.1)), .int (tkK bs e (tkP bs e st.1.2.1)), .int (tkV bs e (tkP bs e st.1.2.1) st.1.2.2.2)]))) 33 (.inr (3, [.ref 34, .ref 36, .ref 37, .int (nI st.2.2.1.length), .int (nI (st.2.1 + 1)), .int st.2.2.2, .int 0]))) 36 (.inl (0, 60, .inl ks))) 37 (.inl (0, 60, .inl vs)), n, s) _
    refine r_iconst (v := 1) (by decide) dX3_takePart_32 ?_
    refine r_zreturn rfl (by first | decide +kernel | exact narZ _ | assumption) dX3_takePart_33 ?_
    show rP f n s tl e _ _ _
    simp only [pPart, c6, if_true, reduceIte]
    exact ⟨rfl, ks, vs, hc, rfl⟩
  · have c6 : ¬ st.2.1 < 60 := fun h7 => c6 ((nI_ltI (a := st.2.1) (b := 60) (by omega) (by omega)).mpr h7)
    refine r_aload_n (n := 0) (i := 0) 0 rfl rfl dX3_takePart_9 ?_
    refine r_iconst (v := 3) (by decide) dX3_takePart_10 ?_
    refine p_callV (As := [.int 3]) (rest := []) (kX3_meet (O := O) (d := 0) (f := bU (bU (bU (bU f 34 (.inr (5, [.ref 35, .int tl, .int (nI e), .int (nI st.1.2.1), .int (nI st.1.1), .int st.1.2.2.1, .int st.1.2.2.2]))) 33 (.inr (3, [.ref 34, .ref 36, .ref 37, .int (nI st.2.2.1.length), .int (nI st.2.1), .int st.2.2.2, .int 0]))) 36 (.inl (0, 60, .inl ks))) 37 (.inl (0, 60, .inl vs))) (n := n) (s := s) (w := nI st.2.2.1.length) (m := nI st.2.1) (bi := st.2.2.2) (ft := 0) (x := 3) (by exact ((bU_n (by decide)).trans (((bU_n (by decide)).trans (bU_s _ _ _)))))  (Nat.le_refl _)).call rfl lkX3_49 imX3_meet seX3_meet rfl (by exact ((bU_n (by decide)).trans (((bU_n (by decide)).trans (bU_s _ _ _))))) rfl rfl (by omega) (Nat.le_of_ble_eq_true rfl) dX3_takePart_11 (fun v9 G9 h9 => ?_) (fun q9 G9 h9 => (by cases h9.1))
    obtain ⟨h8, rfl⟩ := h9; cases h8
    refine bV_h (f2 := bU (bU (bU (bU f 34 (.inr (5, [.ref 35, .int tl, .int (nI e), .int (nI st.1.2.1), .int (nI st.1.1), .int st.1.2.2.1, .int st.1.2.2.2]))) 33 (.inr (3, [.ref 34, .ref 36, .ref 37, .int (nI st.2.2.1.length), .int (nI st.2.1), .int st.2.2.2, .int 3]))) 36 (.inl (0, 60, .inl ks))) 37 (.inl (0, 60, .inl vs))) (((bU_c (by decide)).trans (congrArg (fun z => bU z 37 (.inl (0, 60, .inl vs))) (((bU_c (by decide)).trans (congrArg (fun z => bU z 36 (.inl (0, 60, .inl ks))) (bU_u _ _ _ _))))))) ?_
    show bV O _ d 14 [(0, .ref 33)] [.int 0] (bU (bU (bU (bU f 34 (.inr (5, [.ref 35, .int tl, .int (nI e), .int (nI st.1.2.1), .int (nI st.1.1), .int st.1.2.2.1, .int st.1.2.2.2]))) 33 (.inr (3, [.ref 34, .ref 36, .ref 37, .int (nI st.2.2.1.length), .int (nI st.2.1), .int st.2.2.2, .int 3]))) 36 (.inl (0, 60, .inl ks))) 37 (.inl (0, 60, .inl vs)), n, s) _
    refine r_zreturn rfl (by first | decide +kernel | exact narZ _ | assumption) dX3_takePart_14 ?_
    show rP f n s tl e _ _ _
    simp only [pPart, c6, if_false, reduceIte]
    exact ⟨rfl, st, ks, vs, rfl, rfl⟩
set_option maxRecDepth 4000 in
theorem c_write {O : bO} {d : Nat} {f : bF} {n s : Nat} {tl : Int32} {e : Nat} {bs : Nat → Int32} {st : pS} {ks vs : Nat → Int32} {k a : Nat} (h35 : f 35 = some (.inl (0, 300, .inl bs))) (e0 : e ≤ 300) (hc : cod ks vs st.2.2.1) (ho : okS k a st) {x v : Int32} (h1 : 1 ≤ k) (hd : 1 ≤ d) : bCall O mX3_write d [.ref 33, .int x, .int v] (hRd f tl e st ks vs 0, n, s) (rP f n s tl e (pWr x v st)) := by
  refine bCall_of (by decide) rfl (Nat.le_of_ble_eq_true rfl) ?_
  obtain ⟨o1, o2, o3, o4, o5⟩ := id ho
  show bV O _ d 0 [(0, .ref 33), (1, .int x), (2, .int v)] [] (bU (bU (bU (bU f 34 (.inr (5, [.ref 35, .int tl, .int (nI e), .int (nI st.1.2.1), .int (nI st.1.1), .int st.1.2.2.1, .int st.1.2.2.2]))) 33 (.inr (3, [.ref 34, .ref 36, .ref 37, .int (nI st.2.2.1.length), .int (nI st.2.1), .int st.2.2.2, .int 0]))) 36 (.inl (0, 60, .inl ks))) 37 (.inl (0, 60, .inl vs)), n, s) _
  refine r_aload_n (n := 0) (i := 0) 0 rfl rfl dX3_write_0 ?_
  refine p_get (fs := [.ref 34, .ref 36, .ref 37, .int (nI st.2.2.1.length), .int (nI st.2.1), .int st.2.2.2, .int 0]) flX3_25 (by exact ((bU_n (by decide)).trans (((bU_n (by decide)).trans (bU_s _ _ _))))) rfl dX3_write_1 ?_
  refine r_if_lt (tgt := 31) (by decide) dX3_write_4 (fun h9 => absurd h9 (nI_pos (by omega))) (fun _ => ?_)
  refine r_aload_n (n := 0) (i := 0) 0 rfl rfl dX3_write_7 ?_
  refine p_get (fs := [.ref 34, .ref 36, .ref 37, .int (nI st.2.2.1.length), .int (nI st.2.1), .int st.2.2.2, .int 0]) flX3_25 (by exact ((bU_n (by decide)).trans (((bU_n (by decide)).trans (bU_s _ _ _))))) rfl dX3_write_8 ?_
  refine r_aload_n (n := 0) (i := 0) 0 rfl rfl dX3_write_11 ?_
  refine p_get (fs := [.ref 34, .ref 36, .ref 37, .int (nI st.2.2.1.length), .int (nI st.2.1), .int st.2.2.2, .int 0]) flX3_18 (by exact ((bU_n (by decide)).trans (((bU_n (by decide)).trans (bU_s _ _ _))))) rfl dX3_write_12 ?_
  refine p_alen2 (kd := 0) (n := 60) (a := (60, .inl ks)) rfl (by exact ((bU_n (by decide)).trans (bU_s _ _ _))) rfl dX3_write_15 ?_
  refine r_icmp_ge (tgt := 31) (by decide) dX3_write_16 (fun h9 => absurd h9 (fun h7 => absurd ((nI_leI (a := 60) (b := st.2.2.1.length) (by omega) (by omega)).mp h7) (by omega))) (fun _ => ?_)
  refine r_aload_n (n := 0) (i := 0) 0 rfl rfl dX3_write_19 ?_
  refine p_get (fs := [.ref 34, .ref 36, .ref 37, .int (nI st.2.2.1.length), .int (nI st.2.1), .int st.2.2.2, .int 0]) flX3_25 (by exact ((bU_n (by decide)).trans (((bU_n (by decide)).trans (bU_s _ _ _))))) rfl dX3_write_20 ?_
  refine r_aload_n (n := 0) (i := 0) 0 rfl rfl dX3_write_23 ?_
  refine p_get (fs := [.ref 34, .ref 36, .ref 37, .int (nI st.2.2.1.length), .int (nI st.2.1), .int st.2.2.2, .int 0]) flX3_22 (by exact ((bU_n (by decide)).trans (((bU_n (by decide)).trans (bU_s _ _ _))))) rfl dX3_write_24 ?_
  refine p_alen2 (kd := 0) (n := 60) (a := (60, .inl vs)) rfl (by exact bU_s _ _ _) rfl dX3_write_27 ?_
  refine r_icmp_lt (tgt := 37) (by decide) dX3_write_28 (fun _ => ?_) (fun h9 => absurd ((nI_ltI (a := st.2.2.1.length) (b := 60) (by omega) (by omega)).mpr (by omega)) h9)
  refine r_aload_n (n := 0) (i := 0) 0 rfl rfl dX3_write_37 ?_
  refine p_get (fs := [.ref 34, .ref 36, .ref 37, .int (nI st.2.2.1.length), .int (nI st.2.1), .int st.2.2.2, .int 0]) flX3_18 (by exact ((bU_n (by decide)).trans (((bU_n (by decide)).trans (bU_s _ _ _))))) rfl dX3_write_38 ?_
  refine r_aload_n (n := 0) (i := 0) 0 rfl rfl dX3_write_41 ?_
  refine p_get (fs := [.ref 34, .ref 36, .ref 37, .int (nI st.2.2.1.length), .int (nI st.2.1), .int st.2.2.2, .int 0]) flX3_25 (by exact ((bU_n (by decide)).trans (((bU_n (by decide)).trans (bU_s _ _ _))))) rfl dX3_write_42 ?_
  refine r_iload_n (n := 1) (i := 1) 1 rfl rfl dX3_write_45 ?_
  refine p_iastN (t := st.2.2.1.length) (by exact ((bU_n (by decide)).trans (bU_s _ _ _))) (by omega) (by omega) dX3_write_46 ?_
  refine bV_h (f2 := bU (bU (bU (bU f 34 (.inr (5, [.ref 35, .int tl, .int (nI e), .int (nI st.1.2.1), .int (nI st.1.1), .int st.1.2.2.1, .int st.1.2.2.2]))) 33 (.inr (3, [.ref 34, .ref 36, .ref 37, .int (nI st.2.2.1.length), .int (nI st.2.1), .int st.2.2.2, .int 0]))) 36 (.inl (0, 60, .inl (upd ks st.2.2.1.length x)))) 37 (.inl (0, 60, .inl vs))) (((bU_c (by decide)).trans (congrArg (fun z => bU z 37 (.inl (0, 60, .inl vs))) (bU_u _ _ _ _)))) ?_
  refine r_aload_n (n := 0) (i := 0) 0 rfl rfl dX3_write_47 ?_
  refine p_get (fs := [.ref 34, .ref 36, .ref 37, .int (nI st.2.2.1.length), .int (nI st.2.1), .int st.2.2.2, .int 0]) flX3_22 (by exact ((bU_n (by decide)).trans (((bU_n (by decide)).trans (bU_s _ _ _))))) rfl dX3_write_48 ?_
  refine r_aload_n (n := 0) (i := 0) 0 rfl rfl dX3_write_51 ?_
  refine p_get (fs := [.ref 34, .ref 36, .ref 37, .int (nI st.2.2.1.length), .int (nI st.2.1), .int st.2.2.2, .int 0]) flX3_25 (by exact ((bU_n (by decide)).trans (((bU_n (by decide)).trans (bU_s _ _ _))))) rfl dX3_write_52 ?_
  refine r_iload_n (n := 2) (i := 2) 2 rfl rfl dX3_write_55 ?_
  refine p_iastN (t := st.2.2.1.length) (by exact bU_s _ _ _) (by omega) (by omega) dX3_write_56 ?_
  refine bV_h (f2 := bU (bU (bU (bU f 34 (.inr (5, [.ref 35, .int tl, .int (nI e), .int (nI st.1.2.1), .int (nI st.1.1), .int st.1.2.2.1, .int st.1.2.2.2]))) 33 (.inr (3, [.ref 34, .ref 36, .ref 37, .int (nI st.2.2.1.length), .int (nI st.2.1), .int st.2.2.2, .int 0]))) 36 (.inl (0, 60, .inl (upd ks st.2.2.1.length x)))) 37 (.inl (0, 60, .inl (upd vs st.2.2.1.length v)))) (bU_u _ _ _ _) ?_
  refine r_aload_n (n := 0) (i := 0) 0 rfl rfl dX3_write_57 ?_
  refine r_dup rfl dX3_write_58 ?_
  refine p_get (fs := [.ref 34, .ref 36, .ref 37, .int (nI st.2.2.1.length), .int (nI st.2.1), .int st.2.2.2, .int 0]) flX3_25 (by exact ((bU_n (by decide)).trans (((bU_n (by decide)).trans (bU_s _ _ _))))) rfl dX3_write_59 ?_
  refine r_iconst (v := 1) (by decide) dX3_write_62 ?_
  refine r_iaddE (v := nI (st.2.2.1.length + 1)) (nI_add st.2.2.1.length 1) dX3_write_63 ?_
  refine p_put (fs := [.ref 34, .ref 36, .ref 37, .int (nI st.2.2.1.length), .int (nI st.2.1), .int st.2.2.2, .int 0]) (fs' := [.ref 34, .ref 36, .ref 37, .int (nI (st.2.2.1.length + 1)), .int (nI st.2.1), .int st.2.2.2, .int 0]) flX3_25 (by exact ((bU_n (by decide)).trans (((bU_n (by decide)).trans (bU_s _ _ _))))) (Nat.le_of_ble_eq_true rfl) (bNf_i _) rfl dX3_write_64 ?_
  refine bV_h (f2 := bU (bU (bU (bU f 34 (.inr (5, [.ref 35, .int tl, .int (nI e), .int (nI st.1.2.1), .int (nI st.1.1), .int st.1.2.2.1, .int st.1.2.2.2]))) 33 (.inr (3, [.ref 34, .ref 36, .ref 37, .int (nI (st.2.2.1.length + 1)), .int (nI st.2.1), .int st.2.2.2, .int 0]))) 36 (.inl (0, 60, .inl (upd ks st.2.2.1.length x)))) 37 (.inl (0, 60, .inl (upd vs st.2.2.1.length v)))) (((bU_c (by decide)).trans (congrArg (fun z => bU z 37 (.inl (0, 60, .inl (upd vs st.2.2.1.length v)))) (((bU_c (by decide)).trans (congrArg (fun z => bU z 36 (.inl (0, 60, .inl (upd ks st.2.2.1.length x)))) (bU_u _ _ _ _))))))) ?_
  refine r_iconst (v := 1) (by decide) dX3_write_67 ?_
  refine r_zreturn rfl (by first | decide +kernel | exact narZ _ | assumption) dX3_write_68 ?_
  show rP f n s tl e _ _ _
  exact ⟨rfl, upd ks st.2.2.1.length x, upd vs st.2.2.1.length v, cod_add hc, by simp [hRd, tpC, rdC]⟩
set_option maxRecDepth 4000 in
theorem c_openBracket {O : bO} {d : Nat} {f : bF} {n s : Nat} {tl : Int32} {e : Nat} {bs : Nat → Int32} {st : pS} {ks vs : Nat → Int32} {k a : Nat} (h35 : f 35 = some (.inl (0, 300, .inl bs))) (e0 : e ≤ 300) (hc : cod ks vs st.2.2.1) (ho : okS k a st) {b : Nat} (hb : b ≤ 8) (hd : 9 ≤ d) : bCall O mX3_openBracket d [.ref 33, .int (nI b)] (hRd f tl e st ks vs 0, n, s) (rP f n s tl e (pOpen bs e b st)) := by
  refine bCall_of (by decide) rfl (Nat.le_of_ble_eq_true rfl) ?_
  obtain ⟨o1, o2, o3, o4, o5⟩ := id ho
  show bV O _ d 0 [(0, .ref 33), (1, .int (nI b))] [] (bU (bU (bU (bU f 34 (.inr (5, [.ref 35, .int tl, .int (nI e), .int (nI st.1.2.1), .int (nI st.1.1), .int st.1.2.2.1, .int st.1.2.2.2]))) 33 (.inr (3, [.ref 34, .ref 36, .ref 37, .int (nI st.2.2.1.length), .int (nI st.2.1), .int st.2.2.2, .int 0]))) 36 (.inl (0, 60, .inl ks))) 37 (.inl (0, 60, .inl vs)), n, s) _
  refine r_aload_n (n := 0) (i := 0) 0 rfl rfl dX3_openBracket_0 ?_
  refine p_get (fs := [.ref 34, .ref 36, .ref 37, .int (nI st.2.2.1.length), .int (nI st.2.1), .int st.2.2.2, .int 0]) flX3_12 (by exact ((bU_n (by decide)).trans (((bU_n (by decide)).trans (bU_s _ _ _))))) rfl dX3_openBracket_1 ?_
  refine p_get (fs := [.ref 35, .int tl, .int (nI e), .int (nI st.1.2.1), .int (nI st.1.1), .int st.1.2.2.1, .int st.1.2.2.2]) flX3_46 (by exact ((bU_n (by decide)).trans (((bU_n (by decide)).trans (((bU_n (by decide)).trans (bU_s _ _ _))))))) rfl dX3_openBracket_4 ?_
  refine r_bipush (v := 40) (by decide) dX3_openBracket_7 ?_
  refine r_icmp_eq (tgt := 18) (by decide) dX3_openBracket_9 (fun c9 => ?_) (fun c9 => ?_)
  · refine r_iload_n (n := 1) (i := 1) 1 rfl rfl dX3_openBracket_18 ?_
    refine r_bipush (v := 8) (by decide) dX3_openBracket_19 ?_
    refine r_icmp_lt (tgt := 30) (by decide) dX3_openBracket_21 (fun c21 => ?_) (fun c21 => ?_)
    · have c21 : b < 8 := (nI_ltI (a := b) (b := 8) (by omega) (by omega)).mp c21
      refine r_aload_n (n := 0) (i := 0) 0 rfl rfl dX3_openBracket_30 ?_
      refine p_get (fs := [.ref 34, .ref 36, .ref 37, .int (nI st.2.2.1.length), .int (nI st.2.1), .int st.2.2.2, .int 0]) flX3_12 (by exact ((bU_n (by decide)).trans (((bU_n (by decide)).trans (bU_s _ _ _))))) rfl dX3_openBracket_31 ?_
      refine p_callV (As := []) (rest := []) (kX5_advance (O := O) (d := 7) (f := bU (bU (bU (bU f 34 (.inr (5, [.ref 35, .int tl, .int (nI e), .int (nI st.1.2.1), .int (nI st.1.1), .int st.1.2.2.1, .int st.1.2.2.2]))) 33 (.inr (3, [.ref 34, .ref 36, .ref 37, .int (nI st.2.2.1.length), .int (nI st.2.1), .int st.2.2.2, .int 0]))) 36 (.inl (0, 60, .inl ks))) 37 (.inl (0, 60, .inl vs))) (n := n) (s := s) (tl := tl) (tk := st.1.2.2.1) (tv := st.1.2.2.2) (tp := nI st.1.1) (e := e) (q := st.1.2.1) (bs := bs) (by exact ((bU_n (by decide)).trans (((bU_n (by decide)).trans (((bU_n (by decide)).trans (bU_s _ _ _))))))) (by exact ((bU_n (by decide)).trans (((bU_n (by decide)).trans (((bU_n (by decide)).trans (((bU_n (by decide)).trans (h35))))))))) (by first | assumption | omega | decide) (by first | assumption | omega | decide) (Nat.le_refl _)).call rfl lkX3_90 imX5_advance seX5_advance rfl (by exact ((bU_n (by decide)).trans (((bU_n (by decide)).trans (((bU_n (by decide)).trans (bU_s _ _ _))))))) rfl rfl (by omega) (Nat.le_of_ble_eq_true rfl) dX3_openBracket_34 (fun v9 G9 h9 => ?_) (fun q9 G9 h9 => (by cases h9.1))
      obtain ⟨h8, rfl⟩ := h9; cases h8
      refine bV_h (f2 := bU (bU (bU (bU f 34 (.inr (5, [.ref 35, .int tl, .int (nI e), .int (nI (tkN bs e (tkP bs e st.1.2.1))), .int (nI (tkP bs e st.1.2.1)), .int (tkK bs e (tkP bs e st.1.2.1)), .int (tkV bs e (tkP bs e st.1.2.1) st.1.2.2.2)]))) 33 (.inr (3, [.ref 34, .ref 36, .ref 37, .int (nI st.2.2.1.length), .int (nI st.2.1), .int st.2.2.2, .int 0]))) 36 (.inl (0, 60, .inl ks))) 37 (.inl (0, 60, .inl vs))) (((bU_c (by decide)).trans (congrArg (fun z => bU z 37 (.inl (0, 60, .inl vs))) (((bU_c (by decide)).trans (congrArg (fun z => bU z 36 (.inl (0, 60, .inl ks))) (((bU_c (by decide)).trans (congrArg (fun z => bU z 33 (.inr (3, [.ref 34, .ref 36, .ref 37, .int (nI st.2.2.1.length), .int (nI st.2.1), .int st.2.2.2, .int 0]))) (bU_u _ _ _ _)))))))))) ?_
      show bV O _ d 37 [(0, .ref 33), (1, .int (nI b))] [] (bU (bU (bU (bU f 34 (.inr (5, [.ref 35, .int tl, .int (nI e), .int (nI (tkN bs e (tkP bs e st.1.2.1))), .int (nI (tkP bs e st.1.2.1)), .int (tkK bs e (tkP bs e st.1.2.1)), .int (tkV bs e (tkP bs e st.1.2.1) st.1.2.2.2)]))) 33 (.inr (3, [.ref 34, .ref 36, .ref 37, .int (nI st.2.2.1.length), .int (nI st.2.1), .int st.2.2.2, .int 0]))) 36 (.inl (0, 60, .inl ks))) 37 (.inl (0, 60, .inl vs)), n, s) _
      refine r_iconst (v := 1) (by decide) dX3_openBracket_37 ?_
      refine r_zreturn rfl (by first | decide +kernel | exact narZ _ | assumption) dX3_openBracket_38 ?_
      rw [show pOpen bs e b st = .inr (adv bs e st.1, st.2.1, st.2.2.1, st.2.2.2) by simp only [pOpen, pTake, c9, c21, if_true, if_false, reduceIte]]
      exact ⟨rfl, ks, vs, hc, rfl⟩
    · have c21 : ¬ b < 8 := fun h7 => c21 ((nI_ltI (a := b) (b := 8) (by omega) (by omega)).mpr h7)
      refine r_aload_n (n := 0) (i := 0) 0 rfl rfl dX3_openBracket_24 ?_
      refine r_iconst (v := 3) (by decide) dX3_openBracket_25 ?_
      refine p_callV (As := [.int 3]) (rest := []) (kX3_meet (O := O) (d := 0) (f := bU (bU (bU (bU f 34 (.inr (5, [.ref 35, .int tl, .int (nI e), .int (nI st.1.2.1), .int (nI st.1.1), .int st.1.2.2.1, .int st.1.2.2.2]))) 33 (.inr (3, [.ref 34, .ref 36, .ref 37, .int (nI st.2.2.1.length), .int (nI st.2.1), .int st.2.2.2, .int 0]))) 36 (.inl (0, 60, .inl ks))) 37 (.inl (0, 60, .inl vs))) (n := n) (s := s) (w := nI st.2.2.1.length) (m := nI st.2.1) (bi := st.2.2.2) (ft := 0) (x := 3) (by exact ((bU_n (by decide)).trans (((bU_n (by decide)).trans (bU_s _ _ _)))))  (Nat.le_refl _)).call rfl lkX3_49 imX3_meet seX3_meet rfl (by exact ((bU_n (by decide)).trans (((bU_n (by decide)).trans (bU_s _ _ _))))) rfl rfl (by omega) (Nat.le_of_ble_eq_true rfl) dX3_openBracket_26 (fun v9 G9 h9 => ?_) (fun q9 G9 h9 => (by cases h9.1))
      obtain ⟨h8, rfl⟩ := h9; cases h8
      refine bV_h (f2 := bU (bU (bU (bU f 34 (.inr (5, [.ref 35, .int tl, .int (nI e), .int (nI st.1.2.1), .int (nI st.1.1), .int st.1.2.2.1, .int st.1.2.2.2]))) 33 (.inr (3, [.ref 34, .ref 36, .ref 37, .int (nI st.2.2.1.length), .int (nI st.2.1), .int st.2.2.2, .int 3]))) 36 (.inl (0, 60, .inl ks))) 37 (.inl (0, 60, .inl vs))) (((bU_c (by decide)).trans (congrArg (fun z => bU z 37 (.inl (0, 60, .inl vs))) (((bU_c (by decide)).trans (congrArg (fun z => bU z 36 (.inl (0, 60, .inl ks))) (bU_u _ _ _ _))))))) ?_
      show bV O _ d 29 [(0, .ref 33), (1, .int (nI b))] [.int 0] (bU (bU (bU (bU f 34 (.inr (5, [.ref 35, .int tl, .int (nI e), .int (nI st.1.2.1), .int (nI st.1.1), .int st.1.2.2.1, .int st.1.2.2.2]))) 33 (.inr (3, [.ref 34, .ref 36, .ref 37, .int (nI st.2.2.1.length), .int (nI st.2.1), .int st.2.2.2, .int 3]))) 36 (.inl (0, 60, .inl ks))) 37 (.inl (0, 60, .inl vs)), n, s) _
      refine r_zreturn rfl (by first | decide +kernel | exact narZ _ | assumption) dX3_openBracket_29 ?_
      rw [show pOpen bs e b st = .inl (3, st.1.1) by simp only [pOpen, pTake, c9, c21, if_true, if_false, reduceIte]]
      exact ⟨rfl, st, ks, vs, rfl, rfl⟩
  · refine r_aload_n (n := 0) (i := 0) 0 rfl rfl dX3_openBracket_12 ?_
    refine r_iconst (v := 1) (by decide) dX3_openBracket_13 ?_
    refine p_callV (As := [.int 1]) (rest := []) (kX3_meet (O := O) (d := 0) (f := bU (bU (bU (bU f 34 (.inr (5, [.ref 35, .int tl, .int (nI e), .int (nI st.1.2.1), .int (nI st.1.1), .int st.1.2.2.1, .int st.1.2.2.2]))) 33 (.inr (3, [.ref 34, .ref 36, .ref 37, .int (nI st.2.2.1.length), .int (nI st.2.1), .int st.2.2.2, .int 0]))) 36 (.inl (0, 60, .inl ks))) 37 (.inl (0, 60, .inl vs))) (n := n) (s := s) (w := nI st.2.2.1.length) (m := nI st.2.1) (bi := st.2.2.2) (ft := 0) (x := 1) (by exact ((bU_n (by decide)).trans (((bU_n (by decide)).trans (bU_s _ _ _)))))  (Nat.le_refl _)).call rfl lkX3_49 imX3_meet seX3_meet rfl (by exact ((bU_n (by decide)).trans (((bU_n (by decide)).trans (bU_s _ _ _))))) rfl rfl (by omega) (Nat.le_of_ble_eq_true rfl) dX3_openBracket_14 (fun v9 G9 h9 => ?_) (fun q9 G9 h9 => (by cases h9.1))
    obtain ⟨h8, rfl⟩ := h9; cases h8
    refine bV_h (f2 := bU (bU (bU (bU f 34 (.inr (5, [.ref 35, .int tl, .int (nI e), .int (nI st.1.2.1), .int (nI st.1.1), .int st.1.2.2.1, .int st.1.2.2.2]))) 33 (.inr (3, [.ref 34, .ref 36, .ref 37, .int (nI st.2.2.1.length), .int (nI st.2.1), .int st.2.2.2, .int 1]))) 36 (.inl (0, 60, .inl ks))) 37 (.inl (0, 60, .inl vs))) (((bU_c (by decide)).trans (congrArg (fun z => bU z 37 (.inl (0, 60, .inl vs))) (((bU_c (by decide)).trans (congrArg (fun z => bU z 36 (.inl (0, 60, .inl ks))) (bU_u _ _ _ _))))))) ?_
    show bV O _ d 17 [(0, .ref 33), (1, .int (nI b))] [.int 0] (bU (bU (bU (bU f 34 (.inr (5, [.ref 35, .int tl, .int (nI e), .int (nI st.1.2.1), .int (nI st.1.1), .int st.1.2.2.1, .int st.1.2.2.2]))) 33 (.inr (3, [.ref 34, .ref 36, .ref 37, .int (nI st.2.2.1.length), .int (nI st.2.1), .int st.2.2.2, .int 1]))) 36 (.inl (0, 60, .inl ks))) 37 (.inl (0, 60, .inl vs)), n, s) _
    refine r_zreturn rfl (by first | decide +kernel | exact narZ _ | assumption) dX3_openBracket_17 ?_
    rw [show pOpen bs e b st = .inl (1, st.1.1) by simp only [pOpen, pTake, c9, if_true, if_false, reduceIte]]
    exact ⟨rfl, st, ks, vs, rfl, rfl⟩
set_option maxRecDepth 4000 in
theorem c_readPair {O : bO} {d : Nat} {f : bF} {n s : Nat} {tl : Int32} {e : Nat} {bs : Nat → Int32} {st : pS} {ks vs : Nat → Int32} {k a : Nat} (h35 : f 35 = some (.inl (0, 300, .inl bs))) (e0 : e ≤ 300) (hc : cod ks vs st.2.2.1) (ho : okS k a st) {T : Nat → Nat → pS → pR} {dT lev : Nat} (HT : RT O dT lev f n s tl e T) (hT : okT T) {b i : Nat} (hb : b ≤ 8) (hi : i ≤ 8) (hl : (8 - b) + (8 - i) ≤ lev) (h20 : 20 ≤ dT) (hd : dT + 1 ≤ d) : bCall O mX3_readPair d [.ref 33, .int (nI b), .int (nI i)] (hRd f tl e st ks vs 0, n, s) (rP f n s tl e (pPair bs e T b i st)) := by
  refine bCall_of (by decide) rfl (Nat.le_of_ble_eq_true rfl) ?_
  obtain ⟨o1, o2, o3, o4, o5⟩ := id ho
  show bV O _ d 0 [(0, .ref 33), (1, .int (nI b)), (2, .int (nI i))] [] (bU (bU (bU (bU f 34 (.inr (5, [.ref 35, .int tl, .int (nI e), .int (nI st.1.2.1), .int (nI st.1.1), .int st.1.2.2.1, .int st.1.2.2.2]))) 33 (.inr (3, [.ref 34, .ref 36, .ref 37, .int (nI st.2.2.1.length), .int (nI st.2.1), .int st.2.2.2, .int 0]))) 36 (.inl (0, 60, .inl ks))) 37 (.inl (0, 60, .inl vs)), n, s) _
  refine r_aload_n (n := 0) (i := 0) 0 rfl rfl dX3_readPair_0 ?_
  refine r_iload_n (n := 1) (i := 1) 1 rfl rfl dX3_readPair_1 ?_
  refine p_callV (As := [.int (nI b)]) (rest := []) (c_openBracket (d := 9) h35 e0 hc ho (b := b) (by omega) (Nat.le_refl _)) rfl lkX3_84 imX3_openBracket seX3_openBracket rfl (by exact ((bU_n (by decide)).trans (((bU_n (by decide)).trans (bU_s _ _ _))))) rfl rfl (by omega) (Nat.le_of_ble_eq_true rfl) dX3_readPair_2 (fun v9 G9 h9 => ?_) (fun q9 G9 h9 => absurd h9 rP_nx)
  rcases hR1 : pOpen bs e b st with ⟨ft1, pl1⟩ | st1
  · rw [hR1] at h9; obtain ⟨h8, h7⟩ := h9; cases h8
    show bV O _ d 5 [(0, .ref 33), (1, .int (nI b)), (2, .int (nI i))] [.int 0] G9 _
    refine r_if_eq (tgt := 52) (by decide) dX3_readPair_5 (fun _ => ?_) (fun h9 => absurd (show (0 : Int32) = 0 by decide) h9)
    refine r_iconst (v := 0) (by decide) dX3_readPair_52 ?_
    refine r_zreturn rfl (by first | decide +kernel | exact narZ _ | assumption) dX3_readPair_53 ?_
    rw [show pPair bs e T b i st = .inl (ft1, pl1) by simp only [pPair, pB_l, pB_r, hR1, if_true, if_false, or_true, true_or, or_false, false_or, reduceIte, not_false_eq_true, not_true_eq_false, or_self]]
    exact ⟨rfl, h7⟩
  · rw [hR1] at h9; obtain ⟨h8, ks1, vs1, hc1, rfl⟩ := h9; cases h8
    have ho1 : okS (k) (a) st1 := pOpen_ok e0 ho hR1
    obtain ⟨p11, p21, p31, p41, p51⟩ := id ho1
    have hb8 := pOpen_b hR1
    show bV O _ d 5 [(0, .ref 33), (1, .int (nI b)), (2, .int (nI i))] [.int 1] (bU (bU (bU (bU f 34 (.inr (5, [.ref 35, .int tl, .int (nI e), .int (nI st1.1.2.1), .int (nI st1.1.1), .int st1.1.2.2.1, .int st1.1.2.2.2]))) 33 (.inr (3, [.ref 34, .ref 36, .ref 37, .int (nI st1.2.2.1.length), .int (nI st1.2.1), .int st1.2.2.2, .int 0]))) 36 (.inl (0, 60, .inl ks1))) 37 (.inl (0, 60, .inl vs1)), n, s) _
    refine r_if_eq (tgt := 52) (by decide) dX3_readPair_5 (fun h9 => absurd h9 (show ¬ ((1 : Int32) = 0) by decide)) (fun _ => ?_)
    refine r_aload_n (n := 0) (i := 0) 0 rfl rfl dX3_readPair_8 ?_
    refine r_iload_n (n := 1) (i := 1) 1 rfl rfl dX3_readPair_9 ?_
    refine r_iconst (v := 1) (by decide) dX3_readPair_10 ?_
    refine r_iaddE (v := nI (b + 1)) (nI_add b 1) dX3_readPair_11 ?_
    refine r_iload_n (n := 2) (i := 2) 2 rfl rfl dX3_readPair_12 ?_
    refine p_callV (As := [.int (nI (b + 1)), .int (nI i)]) (rest := []) (HT (b + 1) (i) _ _ st1 ks1 vs1 (by omega) (by omega) (by omega) hc1 ho1) rfl lkX3_42 imX3_readTell seX3_readTell rfl (by exact ((bU_n (by decide)).trans (((bU_n (by decide)).trans (bU_s _ _ _))))) rfl rfl (by omega) (Nat.le_of_ble_eq_true rfl) dX3_readPair_13 (fun v9 G9 h9 => ?_) (fun q9 G9 h9 => absurd h9 rP_nx)
    rcases hR2 : T (b + 1) (i) st1 with ⟨ft2, pl2⟩ | st2
    · rw [hR2] at h9; obtain ⟨h8, h7⟩ := h9; cases h8
      show bV O _ d 16 [(0, .ref 33), (1, .int (nI b)), (2, .int (nI i))] [.int 0] G9 _
      refine r_if_eq (tgt := 52) (by decide) dX3_readPair_16 (fun _ => ?_) (fun h9 => absurd (show (0 : Int32) = 0 by decide) h9)
      refine r_iconst (v := 0) (by decide) dX3_readPair_52 ?_
      refine r_zreturn rfl (by first | decide +kernel | exact narZ _ | assumption) dX3_readPair_53 ?_
      rw [show pPair bs e T b i st = .inl (ft2, pl2) by simp only [pPair, pB_l, pB_r, hR1, hR2, if_true, if_false, or_true, true_or, or_false, false_or, reduceIte, not_false_eq_true, not_true_eq_false, or_self]]
      exact ⟨rfl, h7⟩
    · rw [hR2] at h9; obtain ⟨h8, ks2, vs2, hc2, rfl⟩ := h9; cases h8
      have ho2 : okS (k) (a) st2 := hT _ _ _ _ _ _ ho1 hR2
      obtain ⟨p12, p22, p32, p42, p52⟩ := id ho2
      show bV O _ d 16 [(0, .ref 33), (1, .int (nI b)), (2, .int (nI i))] [.int 1] (bU (bU (bU (bU f 34 (.inr (5, [.ref 35, .int tl, .int (nI e), .int (nI st2.1.2.1), .int (nI st2.1.1), .int st2.1.2.2.1, .int st2.1.2.2.2]))) 33 (.inr (3, [.ref 34, .ref 36, .ref 37, .int (nI st2.2.2.1.length), .int (nI st2.2.1), .int st2.2.2.2, .int 0]))) 36 (.inl (0, 60, .inl ks2))) 37 (.inl (0, 60, .inl vs2)), n, s) _
      refine r_if_eq (tgt := 52) (by decide) dX3_readPair_16 (fun h9 => absurd h9 (show ¬ ((1 : Int32) = 0) by decide)) (fun _ => ?_)
      refine r_aload_n (n := 0) (i := 0) 0 rfl rfl dX3_readPair_19 ?_
      refine r_bipush (v := 44) (by decide) dX3_readPair_20 ?_
      refine p_callV (As := [.int 44]) (rest := []) (c_take (d := 8) h35 e0 hc2 ho2 (Nat.le_refl _)) rfl lkX3_66 imX3_take seX3_take rfl (by exact ((bU_n (by decide)).trans (((bU_n (by decide)).trans (bU_s _ _ _))))) rfl rfl (by omega) (Nat.le_of_ble_eq_true rfl) dX3_readPair_22 (fun v9 G9 h9 => ?_) (fun q9 G9 h9 => absurd h9 rP_nx)
      rcases hR3 : pTake bs e 44 st2 with ⟨ft3, pl3⟩ | st3
      · rw [hR3] at h9; obtain ⟨h8, h7⟩ := h9; cases h8
        show bV O _ d 25 [(0, .ref 33), (1, .int (nI b)), (2, .int (nI i))] [.int 0] G9 _
        refine r_if_eq (tgt := 52) (by decide) dX3_readPair_25 (fun _ => ?_) (fun h9 => absurd (show (0 : Int32) = 0 by decide) h9)
        refine r_iconst (v := 0) (by decide) dX3_readPair_52 ?_
        refine r_zreturn rfl (by first | decide +kernel | exact narZ _ | assumption) dX3_readPair_53 ?_
        rw [show pPair bs e T b i st = .inl (ft3, pl3) by simp only [pPair, pB_l, pB_r, hR1, hR2, hR3, if_true, if_false, or_true, true_or, or_false, false_or, reduceIte, not_false_eq_true, not_true_eq_false, or_self]]
        exact ⟨rfl, h7⟩
      · rw [hR3] at h9; obtain ⟨h8, ks3, vs3, hc3, rfl⟩ := h9; cases h8
        have ho3 : okS (k) (a) st3 := pTake_ok e0 ho2 hR3
        obtain ⟨p13, p23, p33, p43, p53⟩ := id ho3
        show bV O _ d 25 [(0, .ref 33), (1, .int (nI b)), (2, .int (nI i))] [.int 1] (bU (bU (bU (bU f 34 (.inr (5, [.ref 35, .int tl, .int (nI e), .int (nI st3.1.2.1), .int (nI st3.1.1), .int st3.1.2.2.1, .int st3.1.2.2.2]))) 33 (.inr (3, [.ref 34, .ref 36, .ref 37, .int (nI st3.2.2.1.length), .int (nI st3.2.1), .int st3.2.2.2, .int 0]))) 36 (.inl (0, 60, .inl ks3))) 37 (.inl (0, 60, .inl vs3)), n, s) _
        refine r_if_eq (tgt := 52) (by decide) dX3_readPair_25 (fun h9 => absurd h9 (show ¬ ((1 : Int32) = 0) by decide)) (fun _ => ?_)
        refine r_aload_n (n := 0) (i := 0) 0 rfl rfl dX3_readPair_28 ?_
        refine r_iload_n (n := 1) (i := 1) 1 rfl rfl dX3_readPair_29 ?_
        refine r_iconst (v := 1) (by decide) dX3_readPair_30 ?_
        refine r_iaddE (v := nI (b + 1)) (nI_add b 1) dX3_readPair_31 ?_
        refine r_iload_n (n := 2) (i := 2) 2 rfl rfl dX3_readPair_32 ?_
        refine p_callV (As := [.int (nI (b + 1)), .int (nI i)]) (rest := []) (HT (b + 1) (i) _ _ st3 ks3 vs3 (by omega) (by omega) (by omega) hc3 ho3) rfl lkX3_42 imX3_readTell seX3_readTell rfl (by exact ((bU_n (by decide)).trans (((bU_n (by decide)).trans (bU_s _ _ _))))) rfl rfl (by omega) (Nat.le_of_ble_eq_true rfl) dX3_readPair_33 (fun v9 G9 h9 => ?_) (fun q9 G9 h9 => absurd h9 rP_nx)
        rcases hR4 : T (b + 1) (i) st3 with ⟨ft4, pl4⟩ | st4
        · rw [hR4] at h9; obtain ⟨h8, h7⟩ := h9; cases h8
          show bV O _ d 36 [(0, .ref 33), (1, .int (nI b)), (2, .int (nI i))] [.int 0] G9 _
          refine r_if_eq (tgt := 52) (by decide) dX3_readPair_36 (fun _ => ?_) (fun h9 => absurd (show (0 : Int32) = 0 by decide) h9)
          refine r_iconst (v := 0) (by decide) dX3_readPair_52 ?_
          refine r_zreturn rfl (by first | decide +kernel | exact narZ _ | assumption) dX3_readPair_53 ?_
          rw [show pPair bs e T b i st = .inl (ft4, pl4) by simp only [pPair, pB_l, pB_r, hR1, hR2, hR3, hR4, if_true, if_false, or_true, true_or, or_false, false_or, reduceIte, not_false_eq_true, not_true_eq_false, or_self]]
          exact ⟨rfl, h7⟩
        · rw [hR4] at h9; obtain ⟨h8, ks4, vs4, hc4, rfl⟩ := h9; cases h8
          have ho4 : okS (k) (a) st4 := hT _ _ _ _ _ _ ho3 hR4
          obtain ⟨p14, p24, p34, p44, p54⟩ := id ho4
          show bV O _ d 36 [(0, .ref 33), (1, .int (nI b)), (2, .int (nI i))] [.int 1] (bU (bU (bU (bU f 34 (.inr (5, [.ref 35, .int tl, .int (nI e), .int (nI st4.1.2.1), .int (nI st4.1.1), .int st4.1.2.2.1, .int st4.1.2.2.2]))) 33 (.inr (3, [.ref 34, .ref 36, .ref 37, .int (nI st4.2.2.1.length), .int (nI st4.2.1), .int st4.2.2.2, .int 0]))) 36 (.inl (0, 60, .inl ks4))) 37 (.inl (0, 60, .inl vs4)), n, s) _
          refine r_if_eq (tgt := 52) (by decide) dX3_readPair_36 (fun h9 => absurd h9 (show ¬ ((1 : Int32) = 0) by decide)) (fun _ => ?_)
          refine r_aload_n (n := 0) (i := 0) 0 rfl rfl dX3_readPair_39 ?_
          refine r_bipush (v := 41) (by decide) dX3_readPair_40 ?_
          refine p_callV (As := [.int 41]) (rest := []) (c_take (d := 8) h35 e0 hc4 ho4 (Nat.le_refl _)) rfl lkX3_66 imX3_take seX3_take rfl (by exact ((bU_n (by decide)).trans (((bU_n (by decide)).trans (bU_s _ _ _))))) rfl rfl (by omega) (Nat.le_of_ble_eq_true rfl) dX3_readPair_42 (fun v9 G9 h9 => ?_) (fun q9 G9 h9 => absurd h9 rP_nx)
          rcases hR5 : pTake bs e 41 st4 with ⟨ft5, pl5⟩ | st5
          · rw [hR5] at h9; obtain ⟨h8, h7⟩ := h9; cases h8
            show bV O _ d 45 [(0, .ref 33), (1, .int (nI b)), (2, .int (nI i))] [.int 0] G9 _
            refine r_if_eq (tgt := 52) (by decide) dX3_readPair_45 (fun _ => ?_) (fun h9 => absurd (show (0 : Int32) = 0 by decide) h9)
            refine r_iconst (v := 0) (by decide) dX3_readPair_52 ?_
            refine r_zreturn rfl (by first | decide +kernel | exact narZ _ | assumption) dX3_readPair_53 ?_
            rw [show pPair bs e T b i st = .inl (ft5, pl5) by simp only [pPair, pB_l, pB_r, hR1, hR2, hR3, hR4, hR5, if_true, if_false, or_true, true_or, or_false, false_or, reduceIte, not_false_eq_true, not_true_eq_false, or_self]]
            exact ⟨rfl, h7⟩
          · rw [hR5] at h9; obtain ⟨h8, ks5, vs5, hc5, rfl⟩ := h9; cases h8
            have ho5 : okS (k) (a) st5 := pTake_ok e0 ho4 hR5
            obtain ⟨p15, p25, p35, p45, p55⟩ := id ho5
            show bV O _ d 45 [(0, .ref 33), (1, .int (nI b)), (2, .int (nI i))] [.int 1] (bU (bU (bU (bU f 34 (.inr (5, [.ref 35, .int tl, .int (nI e), .int (nI st5.1.2.1), .int (nI st5.1.1), .int st5.1.2.2.1, .int st5.1.2.2.2]))) 33 (.inr (3, [.ref 34, .ref 36, .ref 37, .int (nI st5.2.2.1.length), .int (nI st5.2.1), .int st5.2.2.2, .int 0]))) 36 (.inl (0, 60, .inl ks5))) 37 (.inl (0, 60, .inl vs5)), n, s) _
            refine r_if_eq (tgt := 52) (by decide) dX3_readPair_45 (fun h9 => absurd h9 (show ¬ ((1 : Int32) = 0) by decide)) (fun _ => ?_)
            refine r_iconst (v := 1) (by decide) dX3_readPair_48 ?_
            refine r_goto (tgt := 53) (by decide) dX3_readPair_49 ?_
            refine r_zreturn rfl (by first | decide +kernel | exact narZ _ | assumption) dX3_readPair_53 ?_
            rw [show pPair bs e T b i st = .inr st5 by simp only [pPair, pB_l, pB_r, hR1, hR2, hR3, hR4, hR5, if_true, if_false, or_true, true_or, or_false, false_or, reduceIte, not_false_eq_true, not_true_eq_false, or_self]]
            exact ⟨rfl, ks5, vs5, hc5, rfl⟩
set_option maxRecDepth 4000 in
theorem c_readPlainOne {O : bO} {d : Nat} {f : bF} {n s : Nat} {tl : Int32} {e : Nat} {bs : Nat → Int32} {st : pS} {ks vs : Nat → Int32} {k a : Nat} (h35 : f 35 = some (.inl (0, 300, .inl bs))) (e0 : e ≤ 300) (hc : cod ks vs st.2.2.1) (ho : okS k a st) {T : Nat → Nat → pS → pR} {dT lev : Nat} (HT : RT O dT lev f n s tl e T) (hT : okT T) {b i : Nat} (hb : b ≤ 8) (hi : i ≤ 8) (hl : (8 - b) + (8 - i) ≤ lev) (h20 : 20 ≤ dT) (hd : dT + 2 ≤ d) : bCall O mX3_readPlainOne d [.ref 33, .int (nI b), .int (nI i)] (hRd f tl e st ks vs 0, n, s) (rP f n s tl e (pPlain bs e T b i st)) := by
  refine bCall_of (by decide) rfl (Nat.le_of_ble_eq_true rfl) ?_
  obtain ⟨o1, o2, o3, o4, o5⟩ := id ho
  show bV O _ d 0 [(0, .ref 33), (1, .int (nI b)), (2, .int (nI i))] [] (bU (bU (bU (bU f 34 (.inr (5, [.ref 35, .int tl, .int (nI e), .int (nI st.1.2.1), .int (nI st.1.1), .int st.1.2.2.1, .int st.1.2.2.2]))) 33 (.inr (3, [.ref 34, .ref 36, .ref 37, .int (nI st.2.2.1.length), .int (nI st.2.1), .int st.2.2.2, .int 0]))) 36 (.inl (0, 60, .inl ks))) 37 (.inl (0, 60, .inl vs)), n, s) _
  refine r_aload_n (n := 0) (i := 0) 0 rfl rfl dX3_readPlainOne_0 ?_
  refine p_get (fs := [.ref 34, .ref 36, .ref 37, .int (nI st.2.2.1.length), .int (nI st.2.1), .int st.2.2.2, .int 0]) flX3_12 (by exact ((bU_n (by decide)).trans (((bU_n (by decide)).trans (bU_s _ _ _))))) rfl dX3_readPlainOne_1 ?_
  refine p_get (fs := [.ref 35, .int tl, .int (nI e), .int (nI st.1.2.1), .int (nI st.1.1), .int st.1.2.2.1, .int st.1.2.2.2]) flX3_46 (by exact ((bU_n (by decide)).trans (((bU_n (by decide)).trans (((bU_n (by decide)).trans (bU_s _ _ _))))))) rfl dX3_readPlainOne_4 ?_
  refine r_istore_n (n := 3) (i := 3) (L' := [(3, .int st.1.2.2.1), (0, .ref 33), (1, .int (nI b)), (2, .int (nI i))]) rfl dX3_readPlainOne_7 (by decide) rfl ?_
  refine r_aload_n (n := 0) (i := 0) 1 rfl rfl dX3_readPlainOne_8 ?_
  refine p_get (fs := [.ref 34, .ref 36, .ref 37, .int (nI st.2.2.1.length), .int (nI st.2.1), .int st.2.2.2, .int 0]) flX3_12 (by exact ((bU_n (by decide)).trans (((bU_n (by decide)).trans (bU_s _ _ _))))) rfl dX3_readPlainOne_9 ?_
  refine p_get (fs := [.ref 35, .int tl, .int (nI e), .int (nI st.1.2.1), .int (nI st.1.1), .int st.1.2.2.1, .int st.1.2.2.2]) flX3_81 (by exact ((bU_n (by decide)).trans (((bU_n (by decide)).trans (((bU_n (by decide)).trans (bU_s _ _ _))))))) rfl dX3_readPlainOne_12 ?_
  refine r_istore (i := 4) (L' := [(4, .int st.1.2.2.2), (3, .int st.1.2.2.1), (0, .ref 33), (1, .int (nI b)), (2, .int (nI i))]) dX3_readPlainOne_15 (by decide) rfl ?_
  refine r_iload_n (n := 3) (i := 3) 1 rfl rfl dX3_readPlainOne_17 ?_
  by_cases q258 : st.1.2.2.1 = 258
  · refine r_lookup (off := 58) (tgt := 76) dX3_readPlainOne_18 (by decide) (by rw [q258]; decide) (by decide) ?_
    refine r_aload_n (n := 0) (i := 0) 2 rfl rfl dX3_readPlainOne_76 ?_
    refine p_callV (As := []) (rest := []) (c_takePart (d := 8) h35 e0 hc ho (Nat.le_refl _)) rfl lkX3_59 imX3_takePart seX3_takePart rfl (by exact ((bU_n (by decide)).trans (((bU_n (by decide)).trans (bU_s _ _ _))))) rfl rfl (by omega) (Nat.le_of_ble_eq_true rfl) dX3_readPlainOne_77 (fun v9 G9 h9 => ?_) (fun q9 G9 h9 => absurd h9 rP_nx)
    rcases hR1 : pPart bs e st with ⟨ft1, pl1⟩ | st1
    · rw [hR1] at h9; obtain ⟨h8, h7⟩ := h9; cases h8
      show bV O _ d 80 [(4, .int st.1.2.2.2), (3, .int st.1.2.2.1), (0, .ref 33), (1, .int (nI b)), (2, .int (nI i))] [.int 0] G9 _
      refine r_if_eq (tgt := 99) (by decide) dX3_readPlainOne_80 (fun _ => ?_) (fun h9 => absurd (show (0 : Int32) = 0 by decide) h9)
      refine r_iconst (v := 0) (by decide) dX3_readPlainOne_99 ?_
      refine r_zreturn rfl (by first | decide +kernel | exact narZ _ | assumption) dX3_readPlainOne_100 ?_
      rw [show pPlain bs e T b i st = .inl (ft1, pl1) by unfold pPlain; rw [if_pos q258]; try simp only [pB_l, pB_r, hR1]]
      exact ⟨rfl, h7⟩
    · rw [hR1] at h9; obtain ⟨h8, ks1, vs1, hc1, rfl⟩ := h9; cases h8
      have ho1 : okS (k + 1) (a + 1) st1 := pPart_ok e0 ho hR1
      obtain ⟨p11, p21, p31, p41, p51⟩ := id ho1
      show bV O _ d 80 [(4, .int st.1.2.2.2), (3, .int st.1.2.2.1), (0, .ref 33), (1, .int (nI b)), (2, .int (nI i))] [.int 1] (bU (bU (bU (bU f 34 (.inr (5, [.ref 35, .int tl, .int (nI e), .int (nI st1.1.2.1), .int (nI st1.1.1), .int st1.1.2.2.1, .int st1.1.2.2.2]))) 33 (.inr (3, [.ref 34, .ref 36, .ref 37, .int (nI st1.2.2.1.length), .int (nI st1.2.1), .int st1.2.2.2, .int 0]))) 36 (.inl (0, 60, .inl ks1))) 37 (.inl (0, 60, .inl vs1)), n, s) _
      refine r_if_eq (tgt := 99) (by decide) dX3_readPlainOne_80 (fun h9 => absurd h9 (show ¬ ((1 : Int32) = 0) by decide)) (fun _ => ?_)
      refine r_aload_n (n := 0) (i := 0) 2 rfl rfl dX3_readPlainOne_83 ?_
      refine r_sipush (v := 258) (by decide) dX3_readPlainOne_84 ?_
      refine r_iload (i := 4) 0 rfl dX3_readPlainOne_87 ?_
      refine p_callV (As := [.int 258, .int st.1.2.2.2]) (rest := []) (c_write (d := 1) h35 e0 hc1 ho1 (by omega) (Nat.le_refl _)) rfl lkX3_69 imX3_write seX3_write rfl (by exact ((bU_n (by decide)).trans (((bU_n (by decide)).trans (bU_s _ _ _))))) rfl rfl (by omega) (Nat.le_of_ble_eq_true rfl) dX3_readPlainOne_89 (fun v9 G9 h9 => ?_) (fun q9 G9 h9 => absurd h9 rP_nx)
      rcases hR2 : pWr 258 st.1.2.2.2 st1 with ⟨ft2, pl2⟩ | st2
      · cases hR2
      · rw [hR2] at h9; obtain ⟨h8, ks2, vs2, hc2, rfl⟩ := h9; cases h8
        have ho2 : okS (k) (a + 1) st2 := pWr_ok (k := k) ho1 hR2
        obtain ⟨p12, p22, p32, p42, p52⟩ := id ho2
        show bV O _ d 92 [(4, .int st.1.2.2.2), (3, .int st.1.2.2.1), (0, .ref 33), (1, .int (nI b)), (2, .int (nI i))] [.int 1] (bU (bU (bU (bU f 34 (.inr (5, [.ref 35, .int tl, .int (nI e), .int (nI st2.1.2.1), .int (nI st2.1.1), .int st2.1.2.2.1, .int st2.1.2.2.2]))) 33 (.inr (3, [.ref 34, .ref 36, .ref 37, .int (nI st2.2.2.1.length), .int (nI st2.2.1), .int st2.2.2.2, .int 0]))) 36 (.inl (0, 60, .inl ks2))) 37 (.inl (0, 60, .inl vs2)), n, s) _
        refine r_if_eq (tgt := 99) (by decide) dX3_readPlainOne_92 (fun h9 => absurd h9 (show ¬ ((1 : Int32) = 0) by decide)) (fun _ => ?_)
        refine r_iconst (v := 1) (by decide) dX3_readPlainOne_95 ?_
        refine r_goto (tgt := 100) (by decide) dX3_readPlainOne_96 ?_
        refine r_zreturn rfl (by first | decide +kernel | exact narZ _ | assumption) dX3_readPlainOne_100 ?_
        rw [show pPlain bs e T b i st = .inr st2 by unfold pPlain; rw [if_pos q258]; try simp only [pB_l, pB_r, hR1, hR2]]
        exact ⟨rfl, ks2, vs2, hc2, rfl⟩
  · by_cases q259 : st.1.2.2.1 = 259
    · refine r_lookup (off := 83) (tgt := 101) dX3_readPlainOne_18 (by decide) (by rw [q259]; decide) (by decide) ?_
      refine r_aload_n (n := 0) (i := 0) 2 rfl rfl dX3_readPlainOne_101 ?_
      refine r_dup rfl dX3_readPlainOne_102 ?_
      refine p_get (fs := [.ref 34, .ref 36, .ref 37, .int (nI st.2.2.1.length), .int (nI st.2.1), .int st.2.2.2, .int 0]) flX3_32 (by exact ((bU_n (by decide)).trans (((bU_n (by decide)).trans (bU_s _ _ _))))) rfl dX3_readPlainOne_103 ?_
      refine r_iconst (v := 1) (by decide) dX3_readPlainOne_106 ?_
      refine r_iload (i := 4) 0 rfl dX3_readPlainOne_107 ?_
      refine r_ishl dX3_readPlainOne_109 ?_
      refine r_ior dX3_readPlainOne_110 ?_
      refine p_put (fs := [.ref 34, .ref 36, .ref 37, .int (nI st.2.2.1.length), .int (nI st.2.1), .int st.2.2.2, .int 0]) (fs' := [.ref 34, .ref 36, .ref 37, .int (nI st.2.2.1.length), .int (nI st.2.1), .int (st.2.2.2 ||| (1 <<< (st.1.2.2.2 &&& 31))), .int 0]) flX3_32 (by exact ((bU_n (by decide)).trans (((bU_n (by decide)).trans (bU_s _ _ _))))) (Nat.le_of_ble_eq_true rfl) (bNf_i _) rfl dX3_readPlainOne_111 ?_
      refine bV_h (f2 := bU (bU (bU (bU f 34 (.inr (5, [.ref 35, .int tl, .int (nI e), .int (nI st.1.2.1), .int (nI st.1.1), .int st.1.2.2.1, .int st.1.2.2.2]))) 33 (.inr (3, [.ref 34, .ref 36, .ref 37, .int (nI st.2.2.1.length), .int (nI st.2.1), .int (st.2.2.2 ||| (1 <<< (st.1.2.2.2 &&& 31))), .int 0]))) 36 (.inl (0, 60, .inl ks))) 37 (.inl (0, 60, .inl vs))) (((bU_c (by decide)).trans (congrArg (fun z => bU z 37 (.inl (0, 60, .inl vs))) (((bU_c (by decide)).trans (congrArg (fun z => bU z 36 (.inl (0, 60, .inl ks))) (bU_u _ _ _ _))))))) ?_
      refine r_aload_n (n := 0) (i := 0) 2 rfl rfl dX3_readPlainOne_114 ?_
      refine p_callV (As := []) (rest := []) (c_takePart (d := 8) (st := pBits st) h35 e0 hc (show okS (k) (a) (pBits st) from ho) (Nat.le_refl _)) rfl lkX3_59 imX3_takePart seX3_takePart rfl (by exact ((bU_n (by decide)).trans (((bU_n (by decide)).trans (bU_s _ _ _))))) rfl rfl (by omega) (Nat.le_of_ble_eq_true rfl) dX3_readPlainOne_115 (fun v9 G9 h9 => ?_) (fun q9 G9 h9 => absurd h9 rP_nx)
      rcases hR1 : pPart bs e (pBits st) with ⟨ft1, pl1⟩ | st1
      · rw [hR1] at h9; obtain ⟨h8, h7⟩ := h9; cases h8
        show bV O _ d 118 [(4, .int st.1.2.2.2), (3, .int st.1.2.2.1), (0, .ref 33), (1, .int (nI b)), (2, .int (nI i))] [.int 0] G9 _
        refine r_if_eq (tgt := 137) (by decide) dX3_readPlainOne_118 (fun _ => ?_) (fun h9 => absurd (show (0 : Int32) = 0 by decide) h9)
        refine r_iconst (v := 0) (by decide) dX3_readPlainOne_137 ?_
        refine r_zreturn rfl (by first | decide +kernel | exact narZ _ | assumption) dX3_readPlainOne_138 ?_
        rw [show pPlain bs e T b i st = .inl (ft1, pl1) by unfold pPlain; rw [if_neg q258, if_pos q259]; try simp only [pB_l, pB_r, hR1]]
        exact ⟨rfl, h7⟩
      · rw [hR1] at h9; obtain ⟨h8, ks1, vs1, hc1, rfl⟩ := h9; cases h8
        have ho1 : okS (k + 1) (a + 1) st1 := pPart_ok e0 (show okS (k) (a) (pBits st) from ho) hR1
        obtain ⟨p11, p21, p31, p41, p51⟩ := id ho1
        show bV O _ d 118 [(4, .int st.1.2.2.2), (3, .int st.1.2.2.1), (0, .ref 33), (1, .int (nI b)), (2, .int (nI i))] [.int 1] (bU (bU (bU (bU f 34 (.inr (5, [.ref 35, .int tl, .int (nI e), .int (nI st1.1.2.1), .int (nI st1.1.1), .int st1.1.2.2.1, .int st1.1.2.2.2]))) 33 (.inr (3, [.ref 34, .ref 36, .ref 37, .int (nI st1.2.2.1.length), .int (nI st1.2.1), .int st1.2.2.2, .int 0]))) 36 (.inl (0, 60, .inl ks1))) 37 (.inl (0, 60, .inl vs1)), n, s) _
        refine r_if_eq (tgt := 137) (by decide) dX3_readPlainOne_118 (fun h9 => absurd h9 (show ¬ ((1 : Int32) = 0) by decide)) (fun _ => ?_)
        refine r_aload_n (n := 0) (i := 0) 2 rfl rfl dX3_readPlainOne_121 ?_
        refine r_sipush (v := 259) (by decide) dX3_readPlainOne_122 ?_
        refine r_iload (i := 4) 0 rfl dX3_readPlainOne_125 ?_
        refine p_callV (As := [.int 259, .int st.1.2.2.2]) (rest := []) (c_write (d := 1) h35 e0 hc1 ho1 (by omega) (Nat.le_refl _)) rfl lkX3_69 imX3_write seX3_write rfl (by exact ((bU_n (by decide)).trans (((bU_n (by decide)).trans (bU_s _ _ _))))) rfl rfl (by omega) (Nat.le_of_ble_eq_true rfl) dX3_readPlainOne_127 (fun v9 G9 h9 => ?_) (fun q9 G9 h9 => absurd h9 rP_nx)
        rcases hR2 : pWr 259 st.1.2.2.2 st1 with ⟨ft2, pl2⟩ | st2
        · cases hR2
        · rw [hR2] at h9; obtain ⟨h8, ks2, vs2, hc2, rfl⟩ := h9; cases h8
          have ho2 : okS (k) (a + 1) st2 := pWr_ok (k := k) ho1 hR2
          obtain ⟨p12, p22, p32, p42, p52⟩ := id ho2
          show bV O _ d 130 [(4, .int st.1.2.2.2), (3, .int st.1.2.2.1), (0, .ref 33), (1, .int (nI b)), (2, .int (nI i))] [.int 1] (bU (bU (bU (bU f 34 (.inr (5, [.ref 35, .int tl, .int (nI e), .int (nI st2.1.2.1), .int (nI st2.1.1), .int st2.1.2.2.1, .int st2.1.2.2.2]))) 33 (.inr (3, [.ref 34, .ref 36, .ref 37, .int (nI st2.2.2.1.length), .int (nI st2.2.1), .int st2.2.2.2, .int 0]))) 36 (.inl (0, 60, .inl ks2))) 37 (.inl (0, 60, .inl vs2)), n, s) _
          refine r_if_eq (tgt := 137) (by decide) dX3_readPlainOne_130 (fun h9 => absurd h9 (show ¬ ((1 : Int32) = 0) by decide)) (fun _ => ?_)
          refine r_iconst (v := 1) (by decide) dX3_readPlainOne_133 ?_
          refine r_goto (tgt := 138) (by decide) dX3_readPlainOne_134 ?_
          refine r_zreturn rfl (by first | decide +kernel | exact narZ _ | assumption) dX3_readPlainOne_138 ?_
          rw [show pPlain bs e T b i st = .inr st2 by unfold pPlain; rw [if_neg q258, if_pos q259]; try simp only [pB_l, pB_r, hR1, hR2]]
          exact ⟨rfl, ks2, vs2, hc2, rfl⟩
    · by_cases q40 : st.1.2.2.1 = 40
      · refine r_lookup (off := 121) (tgt := 139) dX3_readPlainOne_18 (by decide) (by rw [q40]; decide) (by decide) ?_
        refine r_aload_n (n := 0) (i := 0) 2 rfl rfl dX3_readPlainOne_139 ?_
        refine r_iload_n (n := 1) (i := 1) 3 rfl rfl dX3_readPlainOne_140 ?_
        refine p_callV (As := [.int (nI b)]) (rest := []) (c_openBracket (d := 9) h35 e0 hc ho (b := b) (by omega) (Nat.le_refl _)) rfl lkX3_84 imX3_openBracket seX3_openBracket rfl (by exact ((bU_n (by decide)).trans (((bU_n (by decide)).trans (bU_s _ _ _))))) rfl rfl (by omega) (Nat.le_of_ble_eq_true rfl) dX3_readPlainOne_141 (fun v9 G9 h9 => ?_) (fun q9 G9 h9 => absurd h9 rP_nx)
        rcases hR1 : pOpen bs e b st with ⟨ft1, pl1⟩ | st1
        · rw [hR1] at h9; obtain ⟨h8, h7⟩ := h9; cases h8
          show bV O _ d 144 [(4, .int st.1.2.2.2), (3, .int st.1.2.2.1), (0, .ref 33), (1, .int (nI b)), (2, .int (nI i))] [.int 0] G9 _
          refine r_if_eq (tgt := 171) (by decide) dX3_readPlainOne_144 (fun _ => ?_) (fun h9 => absurd (show (0 : Int32) = 0 by decide) h9)
          refine r_iconst (v := 0) (by decide) dX3_readPlainOne_171 ?_
          refine r_zreturn rfl (by first | decide +kernel | exact narZ _ | assumption) dX3_readPlainOne_172 ?_
          rw [show pPlain bs e T b i st = .inl (ft1, pl1) by unfold pPlain; rw [if_neg q258, if_neg q259, if_pos q40]; try simp only [pB_l, pB_r, hR1]]
          exact ⟨rfl, h7⟩
        · rw [hR1] at h9; obtain ⟨h8, ks1, vs1, hc1, rfl⟩ := h9; cases h8
          have ho1 : okS (k) (a) st1 := pOpen_ok e0 ho hR1
          obtain ⟨p11, p21, p31, p41, p51⟩ := id ho1
          have hb8 := pOpen_b hR1
          show bV O _ d 144 [(4, .int st.1.2.2.2), (3, .int st.1.2.2.1), (0, .ref 33), (1, .int (nI b)), (2, .int (nI i))] [.int 1] (bU (bU (bU (bU f 34 (.inr (5, [.ref 35, .int tl, .int (nI e), .int (nI st1.1.2.1), .int (nI st1.1.1), .int st1.1.2.2.1, .int st1.1.2.2.2]))) 33 (.inr (3, [.ref 34, .ref 36, .ref 37, .int (nI st1.2.2.1.length), .int (nI st1.2.1), .int st1.2.2.2, .int 0]))) 36 (.inl (0, 60, .inl ks1))) 37 (.inl (0, 60, .inl vs1)), n, s) _
          refine r_if_eq (tgt := 171) (by decide) dX3_readPlainOne_144 (fun h9 => absurd h9 (show ¬ ((1 : Int32) = 0) by decide)) (fun _ => ?_)
          refine r_aload_n (n := 0) (i := 0) 2 rfl rfl dX3_readPlainOne_147 ?_
          refine r_iload_n (n := 1) (i := 1) 3 rfl rfl dX3_readPlainOne_148 ?_
          refine r_iconst (v := 1) (by decide) dX3_readPlainOne_149 ?_
          refine r_iaddE (v := nI (b + 1)) (nI_add b 1) dX3_readPlainOne_150 ?_
          refine r_iload_n (n := 2) (i := 2) 4 rfl rfl dX3_readPlainOne_151 ?_
          refine p_callV (As := [.int (nI (b + 1)), .int (nI i)]) (rest := []) (HT (b + 1) (i) _ _ st1 ks1 vs1 (by omega) (by omega) (by omega) hc1 ho1) rfl lkX3_42 imX3_readTell seX3_readTell rfl (by exact ((bU_n (by decide)).trans (((bU_n (by decide)).trans (bU_s _ _ _))))) rfl rfl (by omega) (Nat.le_of_ble_eq_true rfl) dX3_readPlainOne_152 (fun v9 G9 h9 => ?_) (fun q9 G9 h9 => absurd h9 rP_nx)
          rcases hR2 : T (b + 1) (i) st1 with ⟨ft2, pl2⟩ | st2
          · rw [hR2] at h9; obtain ⟨h8, h7⟩ := h9; cases h8
            show bV O _ d 155 [(4, .int st.1.2.2.2), (3, .int st.1.2.2.1), (0, .ref 33), (1, .int (nI b)), (2, .int (nI i))] [.int 0] G9 _
            refine r_if_eq (tgt := 171) (by decide) dX3_readPlainOne_155 (fun _ => ?_) (fun h9 => absurd (show (0 : Int32) = 0 by decide) h9)
            refine r_iconst (v := 0) (by decide) dX3_readPlainOne_171 ?_
            refine r_zreturn rfl (by first | decide +kernel | exact narZ _ | assumption) dX3_readPlainOne_172 ?_
            rw [show pPlain bs e T b i st = .inl (ft2, pl2) by unfold pPlain; rw [if_neg q258, if_neg q259, if_pos q40]; try simp only [pB_l, pB_r, hR1, hR2]]
            exact ⟨rfl, h7⟩
          · rw [hR2] at h9; obtain ⟨h8, ks2, vs2, hc2, rfl⟩ := h9; cases h8
            have ho2 : okS (k) (a) st2 := hT _ _ _ _ _ _ ho1 hR2
            obtain ⟨p12, p22, p32, p42, p52⟩ := id ho2
            show bV O _ d 155 [(4, .int st.1.2.2.2), (3, .int st.1.2.2.1), (0, .ref 33), (1, .int (nI b)), (2, .int (nI i))] [.int 1] (bU (bU (bU (bU f 34 (.inr (5, [.ref 35, .int tl, .int (nI e), .int (nI st2.1.2.1), .int (nI st2.1.1), .int st2.1.2.2.1, .int st2.1.2.2.2]))) 33 (.inr (3, [.ref 34, .ref 36, .ref 37, .int (nI st2.2.2.1.length), .int (nI st2.2.1), .int st2.2.2.2, .int 0]))) 36 (.inl (0, 60, .inl ks2))) 37 (.inl (0, 60, .inl vs2)), n, s) _
            refine r_if_eq (tgt := 171) (by decide) dX3_readPlainOne_155 (fun h9 => absurd h9 (show ¬ ((1 : Int32) = 0) by decide)) (fun _ => ?_)
            refine r_aload_n (n := 0) (i := 0) 2 rfl rfl dX3_readPlainOne_158 ?_
            refine r_bipush (v := 41) (by decide) dX3_readPlainOne_159 ?_
            refine p_callV (As := [.int 41]) (rest := []) (c_take (d := 8) h35 e0 hc2 ho2 (Nat.le_refl _)) rfl lkX3_66 imX3_take seX3_take rfl (by exact ((bU_n (by decide)).trans (((bU_n (by decide)).trans (bU_s _ _ _))))) rfl rfl (by omega) (Nat.le_of_ble_eq_true rfl) dX3_readPlainOne_161 (fun v9 G9 h9 => ?_) (fun q9 G9 h9 => absurd h9 rP_nx)
            rcases hR3 : pTake bs e 41 st2 with ⟨ft3, pl3⟩ | st3
            · rw [hR3] at h9; obtain ⟨h8, h7⟩ := h9; cases h8
              show bV O _ d 164 [(4, .int st.1.2.2.2), (3, .int st.1.2.2.1), (0, .ref 33), (1, .int (nI b)), (2, .int (nI i))] [.int 0] G9 _
              refine r_if_eq (tgt := 171) (by decide) dX3_readPlainOne_164 (fun _ => ?_) (fun h9 => absurd (show (0 : Int32) = 0 by decide) h9)
              refine r_iconst (v := 0) (by decide) dX3_readPlainOne_171 ?_
              refine r_zreturn rfl (by first | decide +kernel | exact narZ _ | assumption) dX3_readPlainOne_172 ?_
              rw [show pPlain bs e T b i st = .inl (ft3, pl3) by unfold pPlain; rw [if_neg q258, if_neg q259, if_pos q40]; try simp only [pB_l, pB_r, hR1, hR2, hR3]]
              exact ⟨rfl, h7⟩
            · rw [hR3] at h9; obtain ⟨h8, ks3, vs3, hc3, rfl⟩ := h9; cases h8
              have ho3 : okS (k) (a) st3 := pTake_ok e0 ho2 hR3
              obtain ⟨p13, p23, p33, p43, p53⟩ := id ho3
              show bV O _ d 164 [(4, .int st.1.2.2.2), (3, .int st.1.2.2.1), (0, .ref 33), (1, .int (nI b)), (2, .int (nI i))] [.int 1] (bU (bU (bU (bU f 34 (.inr (5, [.ref 35, .int tl, .int (nI e), .int (nI st3.1.2.1), .int (nI st3.1.1), .int st3.1.2.2.1, .int st3.1.2.2.2]))) 33 (.inr (3, [.ref 34, .ref 36, .ref 37, .int (nI st3.2.2.1.length), .int (nI st3.2.1), .int st3.2.2.2, .int 0]))) 36 (.inl (0, 60, .inl ks3))) 37 (.inl (0, 60, .inl vs3)), n, s) _
              refine r_if_eq (tgt := 171) (by decide) dX3_readPlainOne_164 (fun h9 => absurd h9 (show ¬ ((1 : Int32) = 0) by decide)) (fun _ => ?_)
              refine r_iconst (v := 1) (by decide) dX3_readPlainOne_167 ?_
              refine r_goto (tgt := 172) (by decide) dX3_readPlainOne_168 ?_
              refine r_zreturn rfl (by first | decide +kernel | exact narZ _ | assumption) dX3_readPlainOne_172 ?_
              rw [show pPlain bs e T b i st = .inr st3 by unfold pPlain; rw [if_neg q258, if_neg q259, if_pos q40]; try simp only [pB_l, pB_r, hR1, hR2, hR3]]
              exact ⟨rfl, ks3, vs3, hc3, rfl⟩
      · by_cases q264 : st.1.2.2.1 = 264
        · refine r_lookup (off := 155) (tgt := 173) dX3_readPlainOne_18 (by decide) (by rw [q264]; decide) (by decide) ?_
          refine r_aload_n (n := 0) (i := 0) 2 rfl rfl dX3_readPlainOne_173 ?_
          refine p_callV (As := []) (rest := []) (c_takePart (d := 8) h35 e0 hc ho (Nat.le_refl _)) rfl lkX3_59 imX3_takePart seX3_takePart rfl (by exact ((bU_n (by decide)).trans (((bU_n (by decide)).trans (bU_s _ _ _))))) rfl rfl (by omega) (Nat.le_of_ble_eq_true rfl) dX3_readPlainOne_174 (fun v9 G9 h9 => ?_) (fun q9 G9 h9 => absurd h9 rP_nx)
          rcases hR1 : pPart bs e st with ⟨ft1, pl1⟩ | st1
          · rw [hR1] at h9; obtain ⟨h8, h7⟩ := h9; cases h8
            show bV O _ d 177 [(4, .int st.1.2.2.2), (3, .int st.1.2.2.1), (0, .ref 33), (1, .int (nI b)), (2, .int (nI i))] [.int 0] G9 _
            refine r_if_eq (tgt := 202) (by decide) dX3_readPlainOne_177 (fun _ => ?_) (fun h9 => absurd (show (0 : Int32) = 0 by decide) h9)
            refine r_iconst (v := 0) (by decide) dX3_readPlainOne_202 ?_
            refine r_zreturn rfl (by first | decide +kernel | exact narZ _ | assumption) dX3_readPlainOne_203 ?_
            rw [show pPlain bs e T b i st = .inl (ft1, pl1) by unfold pPlain; rw [if_neg q258, if_neg q259, if_neg q40, if_pos q264]; try simp only [pB_l, pB_r, hR1]]
            exact ⟨rfl, h7⟩
          · rw [hR1] at h9; obtain ⟨h8, ks1, vs1, hc1, rfl⟩ := h9; cases h8
            have ho1 : okS (k + 1) (a + 1) st1 := pPart_ok e0 ho hR1
            obtain ⟨p11, p21, p31, p41, p51⟩ := id ho1
            show bV O _ d 177 [(4, .int st.1.2.2.2), (3, .int st.1.2.2.1), (0, .ref 33), (1, .int (nI b)), (2, .int (nI i))] [.int 1] (bU (bU (bU (bU f 34 (.inr (5, [.ref 35, .int tl, .int (nI e), .int (nI st1.1.2.1), .int (nI st1.1.1), .int st1.1.2.2.1, .int st1.1.2.2.2]))) 33 (.inr (3, [.ref 34, .ref 36, .ref 37, .int (nI st1.2.2.1.length), .int (nI st1.2.1), .int st1.2.2.2, .int 0]))) 36 (.inl (0, 60, .inl ks1))) 37 (.inl (0, 60, .inl vs1)), n, s) _
            refine r_if_eq (tgt := 202) (by decide) dX3_readPlainOne_177 (fun h9 => absurd h9 (show ¬ ((1 : Int32) = 0) by decide)) (fun _ => ?_)
            refine r_aload_n (n := 0) (i := 0) 2 rfl rfl dX3_readPlainOne_180 ?_
            refine r_iload_n (n := 1) (i := 1) 3 rfl rfl dX3_readPlainOne_181 ?_
            refine r_iload_n (n := 2) (i := 2) 4 rfl rfl dX3_readPlainOne_182 ?_
            refine p_callV (As := [.int (nI b), .int (nI i)]) (rest := []) (c_readPair (d := dT + 1) h35 e0 hc1 ho1 HT hT (b := b) (i := i) (by omega) (by omega) (by omega) h20 (Nat.le_refl _)) rfl lkX3_87 imX3_readPair seX3_readPair rfl (by exact ((bU_n (by decide)).trans (((bU_n (by decide)).trans (bU_s _ _ _))))) rfl rfl (by omega) (Nat.le_of_ble_eq_true rfl) dX3_readPlainOne_183 (fun v9 G9 h9 => ?_) (fun q9 G9 h9 => absurd h9 rP_nx)
            rcases hR2 : pPair bs e T b i st1 with ⟨ft2, pl2⟩ | st2
            · rw [hR2] at h9; obtain ⟨h8, h7⟩ := h9; cases h8
              show bV O _ d 186 [(4, .int st.1.2.2.2), (3, .int st.1.2.2.1), (0, .ref 33), (1, .int (nI b)), (2, .int (nI i))] [.int 0] G9 _
              refine r_if_eq (tgt := 202) (by decide) dX3_readPlainOne_186 (fun _ => ?_) (fun h9 => absurd (show (0 : Int32) = 0 by decide) h9)
              refine r_iconst (v := 0) (by decide) dX3_readPlainOne_202 ?_
              refine r_zreturn rfl (by first | decide +kernel | exact narZ _ | assumption) dX3_readPlainOne_203 ?_
              rw [show pPlain bs e T b i st = .inl (ft2, pl2) by unfold pPlain; rw [if_neg q258, if_neg q259, if_neg q40, if_pos q264]; try simp only [pB_l, pB_r, hR1, hR2]]
              exact ⟨rfl, h7⟩
            · rw [hR2] at h9; obtain ⟨h8, ks2, vs2, hc2, rfl⟩ := h9; cases h8
              have ho2 : okS (k + 1) (a + 1) st2 := pPair_ok e0 hT ho1 hR2
              obtain ⟨p12, p22, p32, p42, p52⟩ := id ho2
              show bV O _ d 186 [(4, .int st.1.2.2.2), (3, .int st.1.2.2.1), (0, .ref 33), (1, .int (nI b)), (2, .int (nI i))] [.int 1] (bU (bU (bU (bU f 34 (.inr (5, [.ref 35, .int tl, .int (nI e), .int (nI st2.1.2.1), .int (nI st2.1.1), .int st2.1.2.2.1, .int st2.1.2.2.2]))) 33 (.inr (3, [.ref 34, .ref 36, .ref 37, .int (nI st2.2.2.1.length), .int (nI st2.2.1), .int st2.2.2.2, .int 0]))) 36 (.inl (0, 60, .inl ks2))) 37 (.inl (0, 60, .inl vs2)), n, s) _
              refine r_if_eq (tgt := 202) (by decide) dX3_readPlainOne_186 (fun h9 => absurd h9 (show ¬ ((1 : Int32) = 0) by decide)) (fun _ => ?_)
              refine r_aload_n (n := 0) (i := 0) 2 rfl rfl dX3_readPlainOne_189 ?_
              refine r_iload_n (n := 3) (i := 3) 1 rfl rfl dX3_readPlainOne_190 ?_
              refine r_iconst (v := 0) (by decide) dX3_readPlainOne_191 ?_
              refine p_callV (As := [.int st.1.2.2.1, .int 0]) (rest := []) (c_write (d := 1) h35 e0 hc2 ho2 (by omega) (Nat.le_refl _)) rfl lkX3_69 imX3_write seX3_write rfl (by exact ((bU_n (by decide)).trans (((bU_n (by decide)).trans (bU_s _ _ _))))) rfl rfl (by omega) (Nat.le_of_ble_eq_true rfl) dX3_readPlainOne_192 (fun v9 G9 h9 => ?_) (fun q9 G9 h9 => absurd h9 rP_nx)
              rw [q264] at h9
              rcases hR3 : pWr 264 0 st2 with ⟨ft3, pl3⟩ | st3
              · cases hR3
              · rw [hR3] at h9; obtain ⟨h8, ks3, vs3, hc3, rfl⟩ := h9; cases h8
                have ho3 : okS (k) (a + 1) st3 := pWr_ok (k := k) ho2 hR3
                obtain ⟨p13, p23, p33, p43, p53⟩ := id ho3
                show bV O _ d 195 [(4, .int st.1.2.2.2), (3, .int st.1.2.2.1), (0, .ref 33), (1, .int (nI b)), (2, .int (nI i))] [.int 1] (bU (bU (bU (bU f 34 (.inr (5, [.ref 35, .int tl, .int (nI e), .int (nI st3.1.2.1), .int (nI st3.1.1), .int st3.1.2.2.1, .int st3.1.2.2.2]))) 33 (.inr (3, [.ref 34, .ref 36, .ref 37, .int (nI st3.2.2.1.length), .int (nI st3.2.1), .int st3.2.2.2, .int 0]))) 36 (.inl (0, 60, .inl ks3))) 37 (.inl (0, 60, .inl vs3)), n, s) _
                refine r_if_eq (tgt := 202) (by decide) dX3_readPlainOne_195 (fun h9 => absurd h9 (show ¬ ((1 : Int32) = 0) by decide)) (fun _ => ?_)
                refine r_iconst (v := 1) (by decide) dX3_readPlainOne_198 ?_
                refine r_goto (tgt := 203) (by decide) dX3_readPlainOne_199 ?_
                refine r_zreturn rfl (by first | decide +kernel | exact narZ _ | assumption) dX3_readPlainOne_203 ?_
                rw [show pPlain bs e T b i st = .inr st3 by unfold pPlain; rw [if_neg q258, if_neg q259, if_neg q40, if_pos q264]; try simp only [pB_l, pB_r, hR1, hR2, hR3]]
                exact ⟨rfl, ks3, vs3, hc3, rfl⟩
        · by_cases q265 : st.1.2.2.1 = 265
          · refine r_lookup (off := 155) (tgt := 173) dX3_readPlainOne_18 (by decide) (by rw [q265]; decide) (by decide) ?_
            refine r_aload_n (n := 0) (i := 0) 2 rfl rfl dX3_readPlainOne_173 ?_
            refine p_callV (As := []) (rest := []) (c_takePart (d := 8) h35 e0 hc ho (Nat.le_refl _)) rfl lkX3_59 imX3_takePart seX3_takePart rfl (by exact ((bU_n (by decide)).trans (((bU_n (by decide)).trans (bU_s _ _ _))))) rfl rfl (by omega) (Nat.le_of_ble_eq_true rfl) dX3_readPlainOne_174 (fun v9 G9 h9 => ?_) (fun q9 G9 h9 => absurd h9 rP_nx)
            rcases hR1 : pPart bs e st with ⟨ft1, pl1⟩ | st1
            · rw [hR1] at h9; obtain ⟨h8, h7⟩ := h9; cases h8
              show bV O _ d 177 [(4, .int st.1.2.2.2), (3, .int st.1.2.2.1), (0, .ref 33), (1, .int (nI b)), (2, .int (nI i))] [.int 0] G9 _
              refine r_if_eq (tgt := 202) (by decide) dX3_readPlainOne_177 (fun _ => ?_) (fun h9 => absurd (show (0 : Int32) = 0 by decide) h9)
              refine r_iconst (v := 0) (by decide) dX3_readPlainOne_202 ?_
              refine r_zreturn rfl (by first | decide +kernel | exact narZ _ | assumption) dX3_readPlainOne_203 ?_
              rw [show pPlain bs e T b i st = .inl (ft1, pl1) by unfold pPlain; rw [if_neg q258, if_neg q259, if_neg q40, if_neg q264, if_pos q265]; try simp only [pB_l, pB_r, hR1]]
              exact ⟨rfl, h7⟩
            · rw [hR1] at h9; obtain ⟨h8, ks1, vs1, hc1, rfl⟩ := h9; cases h8
              have ho1 : okS (k + 1) (a + 1) st1 := pPart_ok e0 ho hR1
              obtain ⟨p11, p21, p31, p41, p51⟩ := id ho1
              show bV O _ d 177 [(4, .int st.1.2.2.2), (3, .int st.1.2.2.1), (0, .ref 33), (1, .int (nI b)), (2, .int (nI i))] [.int 1] (bU (bU (bU (bU f 34 (.inr (5, [.ref 35, .int tl, .int (nI e), .int (nI st1.1.2.1), .int (nI st1.1.1), .int st1.1.2.2.1, .int st1.1.2.2.2]))) 33 (.inr (3, [.ref 34, .ref 36, .ref 37, .int (nI st1.2.2.1.length), .int (nI st1.2.1), .int st1.2.2.2, .int 0]))) 36 (.inl (0, 60, .inl ks1))) 37 (.inl (0, 60, .inl vs1)), n, s) _
              refine r_if_eq (tgt := 202) (by decide) dX3_readPlainOne_177 (fun h9 => absurd h9 (show ¬ ((1 : Int32) = 0) by decide)) (fun _ => ?_)
              refine r_aload_n (n := 0) (i := 0) 2 rfl rfl dX3_readPlainOne_180 ?_
              refine r_iload_n (n := 1) (i := 1) 3 rfl rfl dX3_readPlainOne_181 ?_
              refine r_iload_n (n := 2) (i := 2) 4 rfl rfl dX3_readPlainOne_182 ?_
              refine p_callV (As := [.int (nI b), .int (nI i)]) (rest := []) (c_readPair (d := dT + 1) h35 e0 hc1 ho1 HT hT (b := b) (i := i) (by omega) (by omega) (by omega) h20 (Nat.le_refl _)) rfl lkX3_87 imX3_readPair seX3_readPair rfl (by exact ((bU_n (by decide)).trans (((bU_n (by decide)).trans (bU_s _ _ _))))) rfl rfl (by omega) (Nat.le_of_ble_eq_true rfl) dX3_readPlainOne_183 (fun v9 G9 h9 => ?_) (fun q9 G9 h9 => absurd h9 rP_nx)
              rcases hR2 : pPair bs e T b i st1 with ⟨ft2, pl2⟩ | st2
              · rw [hR2] at h9; obtain ⟨h8, h7⟩ := h9; cases h8
                show bV O _ d 186 [(4, .int st.1.2.2.2), (3, .int st.1.2.2.1), (0, .ref 33), (1, .int (nI b)), (2, .int (nI i))] [.int 0] G9 _
                refine r_if_eq (tgt := 202) (by decide) dX3_readPlainOne_186 (fun _ => ?_) (fun h9 => absurd (show (0 : Int32) = 0 by decide) h9)
                refine r_iconst (v := 0) (by decide) dX3_readPlainOne_202 ?_
                refine r_zreturn rfl (by first | decide +kernel | exact narZ _ | assumption) dX3_readPlainOne_203 ?_
                rw [show pPlain bs e T b i st = .inl (ft2, pl2) by unfold pPlain; rw [if_neg q258, if_neg q259, if_neg q40, if_neg q264, if_pos q265]; try simp only [pB_l, pB_r, hR1, hR2]]
                exact ⟨rfl, h7⟩
              · rw [hR2] at h9; obtain ⟨h8, ks2, vs2, hc2, rfl⟩ := h9; cases h8
                have ho2 : okS (k + 1) (a + 1) st2 := pPair_ok e0 hT ho1 hR2
                obtain ⟨p12, p22, p32, p42, p52⟩ := id ho2
                show bV O _ d 186 [(4, .int st.1.2.2.2), (3, .int st.1.2.2.1), (0, .ref 33), (1, .int (nI b)), (2, .int (nI i))] [.int 1] (bU (bU (bU (bU f 34 (.inr (5, [.ref 35, .int tl, .int (nI e), .int (nI st2.1.2.1), .int (nI st2.1.1), .int st2.1.2.2.1, .int st2.1.2.2.2]))) 33 (.inr (3, [.ref 34, .ref 36, .ref 37, .int (nI st2.2.2.1.length), .int (nI st2.2.1), .int st2.2.2.2, .int 0]))) 36 (.inl (0, 60, .inl ks2))) 37 (.inl (0, 60, .inl vs2)), n, s) _
                refine r_if_eq (tgt := 202) (by decide) dX3_readPlainOne_186 (fun h9 => absurd h9 (show ¬ ((1 : Int32) = 0) by decide)) (fun _ => ?_)
                refine r_aload_n (n := 0) (i := 0) 2 rfl rfl dX3_readPlainOne_189 ?_
                refine r_iload_n (n := 3) (i := 3) 1 rfl rfl dX3_readPlainOne_190 ?_
                refine r_iconst (v := 0) (by decide) dX3_readPlainOne_191 ?_
                refine p_callV (As := [.int st.1.2.2.1, .int 0]) (rest := []) (c_write (d := 1) h35 e0 hc2 ho2 (by omega) (Nat.le_refl _)) rfl lkX3_69 imX3_write seX3_write rfl (by exact ((bU_n (by decide)).trans (((bU_n (by decide)).trans (bU_s _ _ _))))) rfl rfl (by omega) (Nat.le_of_ble_eq_true rfl) dX3_readPlainOne_192 (fun v9 G9 h9 => ?_) (fun q9 G9 h9 => absurd h9 rP_nx)
                rw [q265] at h9
                rcases hR3 : pWr 265 0 st2 with ⟨ft3, pl3⟩ | st3
                · cases hR3
                · rw [hR3] at h9; obtain ⟨h8, ks3, vs3, hc3, rfl⟩ := h9; cases h8
                  have ho3 : okS (k) (a + 1) st3 := pWr_ok (k := k) ho2 hR3
                  obtain ⟨p13, p23, p33, p43, p53⟩ := id ho3
                  show bV O _ d 195 [(4, .int st.1.2.2.2), (3, .int st.1.2.2.1), (0, .ref 33), (1, .int (nI b)), (2, .int (nI i))] [.int 1] (bU (bU (bU (bU f 34 (.inr (5, [.ref 35, .int tl, .int (nI e), .int (nI st3.1.2.1), .int (nI st3.1.1), .int st3.1.2.2.1, .int st3.1.2.2.2]))) 33 (.inr (3, [.ref 34, .ref 36, .ref 37, .int (nI st3.2.2.1.length), .int (nI st3.2.1), .int st3.2.2.2, .int 0]))) 36 (.inl (0, 60, .inl ks3))) 37 (.inl (0, 60, .inl vs3)), n, s) _
                  refine r_if_eq (tgt := 202) (by decide) dX3_readPlainOne_195 (fun h9 => absurd h9 (show ¬ ((1 : Int32) = 0) by decide)) (fun _ => ?_)
                  refine r_iconst (v := 1) (by decide) dX3_readPlainOne_198 ?_
                  refine r_goto (tgt := 203) (by decide) dX3_readPlainOne_199 ?_
                  refine r_zreturn rfl (by first | decide +kernel | exact narZ _ | assumption) dX3_readPlainOne_203 ?_
                  rw [show pPlain bs e T b i st = .inr st3 by unfold pPlain; rw [if_neg q258, if_neg q259, if_neg q40, if_neg q264, if_pos q265]; try simp only [pB_l, pB_r, hR1, hR2, hR3]]
                  exact ⟨rfl, ks3, vs3, hc3, rfl⟩
          · by_cases q260 : st.1.2.2.1 = 260
            · refine r_lookup (off := 186) (tgt := 204) dX3_readPlainOne_18 (by decide) (by rw [q260]; decide) (by decide) ?_
              refine r_aload_n (n := 0) (i := 0) 2 rfl rfl dX3_readPlainOne_204 ?_
              refine r_iconst (v := 2) (by decide) dX3_readPlainOne_205 ?_
              refine p_callV (As := [.int 2]) (rest := []) (kX3_meet (O := O) (d := 0) (f := bU (bU (bU (bU f 34 (.inr (5, [.ref 35, .int tl, .int (nI e), .int (nI st.1.2.1), .int (nI st.1.1), .int st.1.2.2.1, .int st.1.2.2.2]))) 33 (.inr (3, [.ref 34, .ref 36, .ref 37, .int (nI st.2.2.1.length), .int (nI st.2.1), .int st.2.2.2, .int 0]))) 36 (.inl (0, 60, .inl ks))) 37 (.inl (0, 60, .inl vs))) (n := n) (s := s) (w := nI st.2.2.1.length) (m := nI st.2.1) (bi := st.2.2.2) (ft := 0) (x := 2) (by exact ((bU_n (by decide)).trans (((bU_n (by decide)).trans (bU_s _ _ _)))))  (Nat.le_refl _)).call rfl lkX3_49 imX3_meet seX3_meet rfl (by exact ((bU_n (by decide)).trans (((bU_n (by decide)).trans (bU_s _ _ _))))) rfl rfl (by omega) (Nat.le_of_ble_eq_true rfl) dX3_readPlainOne_206 (fun v9 G9 h9 => ?_) (fun q9 G9 h9 => (by cases h9.1))
              obtain ⟨h8, rfl⟩ := h9; cases h8
              refine bV_h (f2 := bU (bU (bU (bU f 34 (.inr (5, [.ref 35, .int tl, .int (nI e), .int (nI st.1.2.1), .int (nI st.1.1), .int st.1.2.2.1, .int st.1.2.2.2]))) 33 (.inr (3, [.ref 34, .ref 36, .ref 37, .int (nI st.2.2.1.length), .int (nI st.2.1), .int st.2.2.2, .int 2]))) 36 (.inl (0, 60, .inl ks))) 37 (.inl (0, 60, .inl vs))) (((bU_c (by decide)).trans (congrArg (fun z => bU z 37 (.inl (0, 60, .inl vs))) (((bU_c (by decide)).trans (congrArg (fun z => bU z 36 (.inl (0, 60, .inl ks))) (bU_u _ _ _ _))))))) ?_
              show bV O _ d 209 [(4, .int st.1.2.2.2), (3, .int st.1.2.2.1), (0, .ref 33), (1, .int (nI b)), (2, .int (nI i))] [.int 0] (bU (bU (bU (bU f 34 (.inr (5, [.ref 35, .int tl, .int (nI e), .int (nI st.1.2.1), .int (nI st.1.1), .int st.1.2.2.1, .int st.1.2.2.2]))) 33 (.inr (3, [.ref 34, .ref 36, .ref 37, .int (nI st.2.2.1.length), .int (nI st.2.1), .int st.2.2.2, .int 2]))) 36 (.inl (0, 60, .inl ks))) 37 (.inl (0, 60, .inl vs)), n, s) _
              refine r_zreturn rfl (by first | decide +kernel | exact narZ _ | assumption) dX3_readPlainOne_209 ?_
              rw [show pPlain bs e T b i st = .inl (2, st.1.1) by unfold pPlain; rw [if_neg q258, if_neg q259, if_neg q40, if_neg q264, if_neg q265, if_pos q260]; try simp only [pB_l, pB_r]]
              exact ⟨rfl, st, ks, vs, rfl, rfl⟩
            · refine r_lookup (off := 192) (tgt := 210) dX3_readPlainOne_18 (by decide) (lko st.1.2.2.1 q40 q258 q259 q260 q264 q265) (by decide) ?_
              refine r_aload_n (n := 0) (i := 0) 2 rfl rfl dX3_readPlainOne_210 ?_
              refine r_iconst (v := 1) (by decide) dX3_readPlainOne_211 ?_
              refine p_callV (As := [.int 1]) (rest := []) (kX3_meet (O := O) (d := 0) (f := bU (bU (bU (bU f 34 (.inr (5, [.ref 35, .int tl, .int (nI e), .int (nI st.1.2.1), .int (nI st.1.1), .int st.1.2.2.1, .int st.1.2.2.2]))) 33 (.inr (3, [.ref 34, .ref 36, .ref 37, .int (nI st.2.2.1.length), .int (nI st.2.1), .int st.2.2.2, .int 0]))) 36 (.inl (0, 60, .inl ks))) 37 (.inl (0, 60, .inl vs))) (n := n) (s := s) (w := nI st.2.2.1.length) (m := nI st.2.1) (bi := st.2.2.2) (ft := 0) (x := 1) (by exact ((bU_n (by decide)).trans (((bU_n (by decide)).trans (bU_s _ _ _)))))  (Nat.le_refl _)).call rfl lkX3_49 imX3_meet seX3_meet rfl (by exact ((bU_n (by decide)).trans (((bU_n (by decide)).trans (bU_s _ _ _))))) rfl rfl (by omega) (Nat.le_of_ble_eq_true rfl) dX3_readPlainOne_212 (fun v9 G9 h9 => ?_) (fun q9 G9 h9 => (by cases h9.1))
              obtain ⟨h8, rfl⟩ := h9; cases h8
              refine bV_h (f2 := bU (bU (bU (bU f 34 (.inr (5, [.ref 35, .int tl, .int (nI e), .int (nI st.1.2.1), .int (nI st.1.1), .int st.1.2.2.1, .int st.1.2.2.2]))) 33 (.inr (3, [.ref 34, .ref 36, .ref 37, .int (nI st.2.2.1.length), .int (nI st.2.1), .int st.2.2.2, .int 1]))) 36 (.inl (0, 60, .inl ks))) 37 (.inl (0, 60, .inl vs))) (((bU_c (by decide)).trans (congrArg (fun z => bU z 37 (.inl (0, 60, .inl vs))) (((bU_c (by decide)).trans (congrArg (fun z => bU z 36 (.inl (0, 60, .inl ks))) (bU_u _ _ _ _))))))) ?_
              show bV O _ d 215 [(4, .int st.1.2.2.2), (3, .int st.1.2.2.1), (0, .ref 33), (1, .int (nI b)), (2, .int (nI i))] [.int 0] (bU (bU (bU (bU f 34 (.inr (5, [.ref 35, .int tl, .int (nI e), .int (nI st.1.2.1), .int (nI st.1.1), .int st.1.2.2.1, .int st.1.2.2.2]))) 33 (.inr (3, [.ref 34, .ref 36, .ref 37, .int (nI st.2.2.1.length), .int (nI st.2.1), .int st.2.2.2, .int 1]))) 36 (.inl (0, 60, .inl ks))) 37 (.inl (0, 60, .inl vs)), n, s) _
              refine r_zreturn rfl (by first | decide +kernel | exact narZ _ | assumption) dX3_readPlainOne_215 ?_
              rw [show pPlain bs e T b i st = .inl (1, st.1.1) by unfold pPlain; rw [if_neg q258, if_neg q259, if_neg q40, if_neg q264, if_neg q265, if_neg q260]; try simp only [pB_l, pB_r]]
              exact ⟨rfl, st, ks, vs, rfl, rfl⟩
