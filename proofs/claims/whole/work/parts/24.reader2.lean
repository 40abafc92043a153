/-! ===== ModelShelf$Reader, its loops and its recursion (printed by wip/gen/reader2.py) ===== -/
theorem pTermL_s (bs : Nat → Int32) (e : Nat) (T : Nat → Nat → pS → pR) (b i k : Nat) (st : pS) : pTermL bs e T b i (k + 1) st = if st.1.2.2.1 = 42 then pB (pPart bs e st) fun s1 => pB (pOne bs e T b i s1) fun s2 => pB (pWr 42 0 s2) (pTermL bs e T b i k) else .inr st := rfl
theorem pSumL_s (bs : Nat → Int32) (e : Nat) (T : Nat → Nat → pS → pR) (b i k : Nat) (st : pS) : pSumL bs e T b i (k + 1) st = if st.1.2.2.1 = 43 ∨ st.1.2.2.1 = 45 then pB (pPart bs e st) fun s1 => pB (pTerm bs e T b i s1) fun s2 => pB (pWr st.1.2.2.1 0 s2) (pSumL bs e T b i k) else .inr st := rfl
theorem lp_neg {O : bO} {d : Nat} {f : bF} {n s : Nat} {tl : Int32} {e : Nat} {bs : Nat → Int32} (h35 : f 35 = some (.inl (0, 300, .inl bs))) (e0 : e ≤ 300) {b i c : Nat} (hd : 2 ≤ d) (hc6 : c ≤ 61) : ∀ (j x k a : Nat) (st : pS) (ks vs : Nat → Int32), x + j = c → cod ks vs st.2.2.1 → okS (k + j) a st → bV O mX3_readOne d 46 [(5, .int (nI x)), (4, .int 1), (3, .int (nI c)), (0, .ref 33), (1, .int (nI b)), (2, .int (nI i))] [] (hRd f tl e st ks vs 0, n, s) (rP f n s tl e (.inr (pNeg j st))) := by
  intro j
  induction j with
  | zero =>
    intro x k a st ks vs hx hc ho
    obtain ⟨o1, o2, o3, o4, o5⟩ := id ho
    show bV O _ d 46 [(5, .int (nI x)), (4, .int 1), (3, .int (nI c)), (0, .ref 33), (1, .int (nI b)), (2, .int (nI i))] [] (bU (bU (bU (bU f 34 (.inr (5, [.ref 35, .int tl, .int (nI e), .int (nI st.1.2.1), .int (nI st.1.1), .int st.1.2.2.1, .int st.1.2.2.2]))) 33 (.inr (3, [.ref 34, .ref 36, .ref 37, .int (nI st.2.2.1.length), .int (nI st.2.1), .int st.2.2.2, .int 0]))) 36 (.inl (0, 60, .inl ks))) 37 (.inl (0, 60, .inl vs)), n, s) _
    refine r_iload (i := 5) 0 rfl dX3_readOne_46 ?_
    refine r_iload_n (n := 3) (i := 3) 2 rfl rfl dX3_readOne_48 ?_
    refine r_icmp_ge (tgt := 73) (by decide) dX3_readOne_49 (fun _ => ?_) (fun h9 => absurd ((nI_leI (a := c) (b := x) (by omega) (by omega)).mpr (by omega)) h9)
    refine r_iload (i := 4) 1 rfl dX3_readOne_73 ?_
    refine r_zreturn rfl (by first | decide +kernel | exact narZ _ | assumption) dX3_readOne_75 ?_
    exact ⟨rfl, ks, vs, hc, rfl⟩
  | succ j ih =>
    intro x k a st ks vs hx hc ho
    obtain ⟨o1, o2, o3, o4, o5⟩ := id ho
    show bV O _ d 46 [(5, .int (nI x)), (4, .int 1), (3, .int (nI c)), (0, .ref 33), (1, .int (nI b)), (2, .int (nI i))] [] (bU (bU (bU (bU f 34 (.inr (5, [.ref 35, .int tl, .int (nI e), .int (nI st.1.2.1), .int (nI st.1.1), .int st.1.2.2.1, .int st.1.2.2.2]))) 33 (.inr (3, [.ref 34, .ref 36, .ref 37, .int (nI st.2.2.1.length), .int (nI st.2.1), .int st.2.2.2, .int 0]))) 36 (.inl (0, 60, .inl ks))) 37 (.inl (0, 60, .inl vs)), n, s) _
    refine r_iload (i := 5) 0 rfl dX3_readOne_46 ?_
    refine r_iload_n (n := 3) (i := 3) 2 rfl rfl dX3_readOne_48 ?_
    refine r_icmp_ge (tgt := 73) (by decide) dX3_readOne_49 (fun h9 => absurd h9 (fun h7 => absurd ((nI_leI (a := c) (b := x) (by omega) (by omega)).mp h7) (by omega))) (fun _ => ?_)
    refine r_iload (i := 4) 1 rfl dX3_readOne_52 ?_
    refine r_if_eq (tgt := 73) (by decide) dX3_readOne_54 (fun h9 => absurd h9 (show ¬ ((1 : Int32) = 0) by decide)) (fun _ => ?_)
    refine r_aload_n (n := 0) (i := 0) 3 rfl rfl dX3_readOne_57 ?_
    refine r_sipush (v := 266) (by decide) dX3_readOne_58 ?_
    refine r_iconst (v := 0) (by decide) dX3_readOne_61 ?_
    refine p_callV (As := [.int 266, .int 0]) (rest := []) (c_write (d := 1) h35 e0 hc ho (by omega) (Nat.le_refl _)) rfl lkX3_69 imX3_write seX3_write rfl (by exact ((bU_n (by decide)).trans (((bU_n (by decide)).trans (bU_s _ _ _))))) rfl rfl (by omega) (Nat.le_of_ble_eq_true rfl) dX3_readOne_62 (fun v9 G9 h9 => ?_) (fun q9 G9 h9 => absurd h9 rP_nx)
    rcases hR1 : pWr 266 0 st with ⟨ft1, pl1⟩ | st1
    · cases hR1
    · rw [hR1] at h9; obtain ⟨h8, ks1, vs1, hc1, rfl⟩ := h9; cases h8
      have ho1 : okS (k + j) (a) st1 := pWr_ok (k := k + j) (show okS (k + j + 1) a st from ho) hR1
      obtain ⟨p11, p21, p31, p41, p51⟩ := id ho1
      show bV O _ d 65 [(5, .int (nI x)), (4, .int 1), (3, .int (nI c)), (0, .ref 33), (1, .int (nI b)), (2, .int (nI i))] [.int 1] (bU (bU (bU (bU f 34 (.inr (5, [.ref 35, .int tl, .int (nI e), .int (nI st1.1.2.1), .int (nI st1.1.1), .int st1.1.2.2.1, .int st1.1.2.2.2]))) 33 (.inr (3, [.ref 34, .ref 36, .ref 37, .int (nI st1.2.2.1.length), .int (nI st1.2.1), .int st1.2.2.2, .int 0]))) 36 (.inl (0, 60, .inl ks1))) 37 (.inl (0, 60, .inl vs1)), n, s) _
      refine r_istore (i := 4) (L' := [(4, .int 1), (5, .int (nI x)), (3, .int (nI c)), (0, .ref 33), (1, .int (nI b)), (2, .int (nI i))]) dX3_readOne_65 (by decide) rfl ?_
      refine r_iinc (i := 5) (v := nI (x + 1)) (L' := [(5, .int (nI (x + 1))), (4, .int 1), (3, .int (nI c)), (0, .ref 33), (1, .int (nI b)), (2, .int (nI i))]) 1 rfl (nI_inc1 x) dX3_readOne_67 (by decide) rfl ?_
      refine r_goto (tgt := 46) (by decide) dX3_readOne_70 ?_
      have h9 := ih (x + 1) k a st1 ks1 vs1 (by omega) hc1 ho1; rw [show pNeg j st1 = pNeg (j + 1) st by cases hR1; rfl] at h9; exact h9
theorem st_one {O : bO} {d : Nat} {f : bF} {n s : Nat} {tl : Int32} {e : Nat} {bs : Nat → Int32} (h35 : f 35 = some (.inl (0, 300, .inl bs))) (e0 : e ≤ 300) {st : pS} {ks vs : Nat → Int32} {k a c : Nat} (hc : cod ks vs st.2.2.1) (ho : okS (k + c) a st) (hc6 : c ≤ 61) {T : Nat → Nat → pS → pR} {dT lev : Nat} (HT : RT O dT lev f n s tl e T) (hT : okT T) {b i : Nat} (hb : b ≤ 8) (hi : i ≤ 8) (hl : (8 - b) + (8 - i) ≤ lev) (h20 : 20 ≤ dT) (hd : dT + 3 ≤ d) : bV O mX3_readOne d 35 [(3, .int (nI c)), (0, .ref 33), (1, .int (nI b)), (2, .int (nI i))] [] (hRd f tl e st ks vs 0, n, s) (rP f n s tl e (pB (pPlain bs e T b i st) (fun s2 => .inr (pNeg c s2)))) := by
  obtain ⟨o1, o2, o3, o4, o5⟩ := id ho
  show bV O _ d 35 [(3, .int (nI c)), (0, .ref 33), (1, .int (nI b)), (2, .int (nI i))] [] (bU (bU (bU (bU f 34 (.inr (5, [.ref 35, .int tl, .int (nI e), .int (nI st.1.2.1), .int (nI st.1.1), .int st.1.2.2.1, .int st.1.2.2.2]))) 33 (.inr (3, [.ref 34, .ref 36, .ref 37, .int (nI st.2.2.1.length), .int (nI st.2.1), .int st.2.2.2, .int 0]))) 36 (.inl (0, 60, .inl ks))) 37 (.inl (0, 60, .inl vs)), n, s) _
  refine r_aload_n (n := 0) (i := 0) 1 rfl rfl dX3_readOne_35 ?_
  refine r_iload_n (n := 1) (i := 1) 2 rfl rfl dX3_readOne_36 ?_
  refine r_iload_n (n := 2) (i := 2) 3 rfl rfl dX3_readOne_37 ?_
  refine p_callV (As := [.int (nI b), .int (nI i)]) (rest := []) (c_readPlainOne (d := dT + 2) h35 e0 hc ho HT hT (b := b) (i := i) (by omega) (by omega) (by omega) h20 (Nat.le_refl _)) rfl lkX3_78 imX3_readPlainOne seX3_readPlainOne rfl (by exact ((bU_n (by decide)).trans (((bU_n (by decide)).trans (bU_s _ _ _))))) rfl rfl (by omega) (Nat.le_of_ble_eq_true rfl) dX3_readOne_38 (fun v9 G9 h9 => ?_) (fun q9 G9 h9 => absurd h9 rP_nx)
  rcases hR1 : pPlain bs e T b i st with ⟨ft1, pl1⟩ | st1
  · rw [hR1] at h9; obtain ⟨h8, h7⟩ := h9; cases h8
    show bV O _ d 41 [(3, .int (nI c)), (0, .ref 33), (1, .int (nI b)), (2, .int (nI i))] [.int 0] G9 _
    refine r_istore (i := 4) (L' := [(4, .int 0), (3, .int (nI c)), (0, .ref 33), (1, .int (nI b)), (2, .int (nI i))]) dX3_readOne_41 (by decide) rfl ?_
    refine r_iconst (v := 0) (by decide) dX3_readOne_43 ?_
    refine r_istore (i := 5) (L' := [(5, .int 0), (4, .int 0), (3, .int (nI c)), (0, .ref 33), (1, .int (nI b)), (2, .int (nI i))]) dX3_readOne_44 (by decide) rfl ?_
    refine r_iload (i := 5) 0 rfl dX3_readOne_46 ?_
    refine r_iload_n (n := 3) (i := 3) 2 rfl rfl dX3_readOne_48 ?_
    refine r_icmp_ge (tgt := 73) (by decide) dX3_readOne_49 (fun c49 => ?_) (fun c49 => ?_)
    · have c49 : c ≤ 0 := (nI_leI (a := c) (b := 0) (by omega) (by omega)).mp c49
      refine r_iload (i := 4) 1 rfl dX3_readOne_73 ?_
      refine r_zreturn rfl (by first | decide +kernel | exact narZ _ | assumption) dX3_readOne_75 ?_
      show rP f n s tl e (.inl (ft1, pl1)) _ _
      exact ⟨rfl, h7⟩
    · have c49 : ¬ c ≤ 0 := fun h7 => c49 ((nI_leI (a := c) (b := 0) (by omega) (by omega)).mpr h7)
      refine r_iload (i := 4) 1 rfl dX3_readOne_52 ?_
      refine r_if_eq (tgt := 73) (by decide) dX3_readOne_54 (fun _ => ?_) (fun h9 => absurd (show (0 : Int32) = 0 by decide) h9)
      refine r_iload (i := 4) 1 rfl dX3_readOne_73 ?_
      refine r_zreturn rfl (by first | decide +kernel | exact narZ _ | assumption) dX3_readOne_75 ?_
      show rP f n s tl e (.inl (ft1, pl1)) _ _
      exact ⟨rfl, h7⟩
  · rw [hR1] at h9; obtain ⟨h8, ks1, vs1, hc1, rfl⟩ := h9; cases h8
    have ho1 : okS (k + c) (a) st1 := pPlain_ok e0 hT ho hR1
    obtain ⟨p11, p21, p31, p41, p51⟩ := id ho1
    show bV O _ d 41 [(3, .int (nI c)), (0, .ref 33), (1, .int (nI b)), (2, .int (nI i))] [.int 1] (bU (bU (bU (bU f 34 (.inr (5, [.ref 35, .int tl, .int (nI e), .int (nI st1.1.2.1), .int (nI st1.1.1), .int st1.1.2.2.1, .int st1.1.2.2.2]))) 33 (.inr (3, [.ref 34, .ref 36, .ref 37, .int (nI st1.2.2.1.length), .int (nI st1.2.1), .int st1.2.2.2, .int 0]))) 36 (.inl (0, 60, .inl ks1))) 37 (.inl (0, 60, .inl vs1)), n, s) _
    refine r_istore (i := 4) (L' := [(4, .int 1), (3, .int (nI c)), (0, .ref 33), (1, .int (nI b)), (2, .int (nI i))]) dX3_readOne_41 (by decide) rfl ?_
    refine r_iconst (v := 0) (by decide) dX3_readOne_43 ?_
    refine r_istore (i := 5) (L' := [(5, .int 0), (4, .int 1), (3, .int (nI c)), (0, .ref 33), (1, .int (nI b)), (2, .int (nI i))]) dX3_readOne_44 (by decide) rfl ?_
    exact lp_neg h35 e0 (by omega) (by omega) c 0 k (a) st1 ks1 vs1 (by omega) hc1 ho1
def pOneC (bs : Nat → Int32) (e : Nat) (T : Nat → Nat → pS → pR) (b i m c : Nat) (st : pS) : pR := match pMin bs e m c st with
  | .inl x => .inl x
  | .inr (c, s1) => pB (pPlain bs e T b i s1) fun s2 => .inr (pNeg c s2)
theorem lp_min {O : bO} {d : Nat} {f : bF} {n s : Nat} {tl : Int32} {e : Nat} {bs : Nat → Int32} (h35 : f 35 = some (.inl (0, 300, .inl bs))) (e0 : e ≤ 300) {T : Nat → Nat → pS → pR} {dT lev : Nat} (HT : RT O dT lev f n s tl e T) (hT : okT T) {b i : Nat} (hb : b ≤ 8) (hi : i ≤ 8) (hl : (8 - b) + (8 - i) ≤ lev) (h20 : 20 ≤ dT) (hd : dT + 3 ≤ d) : ∀ (m c k a : Nat) (st : pS) (ks vs : Nat → Int32), c + m = 61 → c ≤ a → cod ks vs st.2.2.1 → okS (k + c) a st → bV O mX3_readOne d 2 [(3, .int (nI c)), (0, .ref 33), (1, .int (nI b)), (2, .int (nI i))] [] (hRd f tl e st ks vs 0, n, s) (rP f n s tl e (pOneC bs e T b i m c st)) := by
  intro m
  induction m with
  | zero =>
    intro c k a st ks vs h1 h2 hc ho
    obtain ⟨o1, o2, o3, o4, o5⟩ := id ho
    exact absurd o5 (by omega)
  | succ m ih =>
    intro c k a st ks vs h1 h2 hc ho
    obtain ⟨o1, o2, o3, o4, o5⟩ := id ho
    show bV O _ d 2 [(3, .int (nI c)), (0, .ref 33), (1, .int (nI b)), (2, .int (nI i))] [] (bU (bU (bU (bU f 34 (.inr (5, [.ref 35, .int tl, .int (nI e), .int (nI st.1.2.1), .int (nI st.1.1), .int st.1.2.2.1, .int st.1.2.2.2]))) 33 (.inr (3, [.ref 34, .ref 36, .ref 37, .int (nI st.2.2.1.length), .int (nI st.2.1), .int st.2.2.2, .int 0]))) 36 (.inl (0, 60, .inl ks))) 37 (.inl (0, 60, .inl vs)), n, s) _
    refine r_iload_n (n := 3) (i := 3) 0 rfl rfl dX3_readOne_2 ?_
    refine r_bipush (v := 60) (by decide) dX3_readOne_3 ?_
    refine r_icmp_gt (tgt := 35) (by decide) dX3_readOne_5 (fun h9 => absurd h9 (fun h7 => absurd ((nI_ltI (a := 60) (b := c) (by omega) (by omega)).mp h7) (by omega))) (fun _ => ?_)
    refine r_aload_n (n := 0) (i := 0) 1 rfl rfl dX3_readOne_8 ?_
    refine p_get (fs := [.ref 34, .ref 36, .ref 37, .int (nI st.2.2.1.length), .int (nI st.2.1), .int st.2.2.2, .int 0]) flX3_12 (by exact ((bU_n (by decide)).trans (((bU_n (by decide)).trans (bU_s _ _ _))))) rfl dX3_readOne_9 ?_
    refine p_get (fs := [.ref 35, .int tl, .int (nI e), .int (nI st.1.2.1), .int (nI st.1.1), .int st.1.2.2.1, .int st.1.2.2.2]) flX3_46 (by exact ((bU_n (by decide)).trans (((bU_n (by decide)).trans (((bU_n (by decide)).trans (bU_s _ _ _))))))) rfl dX3_readOne_12 ?_
    refine r_bipush (v := 45) (by decide) dX3_readOne_15 ?_
    refine r_icmp_ne (tgt := 35) (by decide) dX3_readOne_17 (fun c17 => ?_) (fun c17 => ?_)
    · rw [show pOneC bs e T b i (m + 1) c st = pB (pPlain bs e T b i st) (fun s2 => .inr (pNeg c s2)) by simp only [pOneC, pMin, c17, if_false, reduceIte]]; exact st_one h35 e0 hc ho (by omega) HT hT hb hi hl h20 hd
    · refine r_aload_n (n := 0) (i := 0) 1 rfl rfl dX3_readOne_20 ?_
      refine p_callV (As := []) (rest := []) (c_takePart (d := 8) h35 e0 hc ho (Nat.le_refl _)) rfl lkX3_59 imX3_takePart seX3_takePart rfl (by exact ((bU_n (by decide)).trans (((bU_n (by decide)).trans (bU_s _ _ _))))) rfl rfl (by omega) (Nat.le_of_ble_eq_true rfl) dX3_readOne_21 (fun v9 G9 h9 => ?_) (fun q9 G9 h9 => absurd h9 rP_nx)
      rcases hR1 : pPart bs e st with ⟨ft1, pl1⟩ | st1
      · rw [hR1] at h9; obtain ⟨h8, h7⟩ := h9; cases h8
        show bV O _ d 24 [(3, .int (nI c)), (0, .ref 33), (1, .int (nI b)), (2, .int (nI i))] [.int 0] G9 _
        refine r_if_ne (tgt := 29) (by decide) dX3_readOne_24 (fun h9 => absurd h9 (show ¬ (¬ (0 : Int32) = 0) by decide)) (fun _ => ?_)
        refine r_iconst (v := 0) (by decide) dX3_readOne_27 ?_
        refine r_zreturn rfl (by first | decide +kernel | exact narZ _ | assumption) dX3_readOne_28 ?_
        rw [show pOneC bs e T b i (m + 1) c st = .inl (ft1, pl1) by simp only [pOneC, pMin, c17, hR1, if_true, reduceIte]]
        exact ⟨rfl, h7⟩
      · rw [hR1] at h9; obtain ⟨h8, ks1, vs1, hc1, rfl⟩ := h9; cases h8
        have ho1 : okS (k + (c + 1)) (a + 1) st1 := (show okS (k + (c + 1)) (a + 1) _ from pPart_ok e0 ho hR1)
        obtain ⟨p11, p21, p31, p41, p51⟩ := id ho1
        show bV O _ d 24 [(3, .int (nI c)), (0, .ref 33), (1, .int (nI b)), (2, .int (nI i))] [.int 1] (bU (bU (bU (bU f 34 (.inr (5, [.ref 35, .int tl, .int (nI e), .int (nI st1.1.2.1), .int (nI st1.1.1), .int st1.1.2.2.1, .int st1.1.2.2.2]))) 33 (.inr (3, [.ref 34, .ref 36, .ref 37, .int (nI st1.2.2.1.length), .int (nI st1.2.1), .int st1.2.2.2, .int 0]))) 36 (.inl (0, 60, .inl ks1))) 37 (.inl (0, 60, .inl vs1)), n, s) _
        refine r_if_ne (tgt := 29) (by decide) dX3_readOne_24 (fun _ => ?_) (fun h9 => absurd h9 (show ¬ (1 : Int32) = 0 by decide))
        refine r_iinc (i := 3) (v := nI (c + 1)) (L' := [(3, .int (nI (c + 1))), (0, .ref 33), (1, .int (nI b)), (2, .int (nI i))]) 0 rfl (nI_inc1 c) dX3_readOne_29 (by decide) rfl ?_
        refine r_goto (tgt := 2) (by decide) dX3_readOne_32 ?_
        rw [show pOneC bs e T b i (m + 1) c st = pOneC bs e T b i m (c + 1) st1 by simp only [pOneC, pMin, c17, hR1, if_true, reduceIte]]; exact ih (c + 1) k (a + 1) st1 ks1 vs1 (by omega) (by omega) hc1 ho1
set_option maxRecDepth 4000 in
theorem c_readOne {O : bO} {d : Nat} {f : bF} {n s : Nat} {tl : Int32} {e : Nat} {bs : Nat → Int32} {st : pS} {ks vs : Nat → Int32} {k a : Nat} (h35 : f 35 = some (.inl (0, 300, .inl bs))) (e0 : e ≤ 300) (hc : cod ks vs st.2.2.1) (ho : okS k a st) {T : Nat → Nat → pS → pR} {dT lev : Nat} (HT : RT O dT lev f n s tl e T) (hT : okT T) {b i : Nat} (hb : b ≤ 8) (hi : i ≤ 8) (hl : (8 - b) + (8 - i) ≤ lev) (h20 : 20 ≤ dT) (hd : dT + 3 ≤ d) : bCall O mX3_readOne d [.ref 33, .int (nI b), .int (nI i)] (hRd f tl e st ks vs 0, n, s) (rP f n s tl e (pOne bs e T b i st)) := by
  refine bCall_of (by decide) rfl (Nat.le_of_ble_eq_true rfl) ?_
  obtain ⟨o1, o2, o3, o4, o5⟩ := id ho
  show bV O _ d 0 [(0, .ref 33), (1, .int (nI b)), (2, .int (nI i))] [] (bU (bU (bU (bU f 34 (.inr (5, [.ref 35, .int tl, .int (nI e), .int (nI st.1.2.1), .int (nI st.1.1), .int st.1.2.2.1, .int st.1.2.2.2]))) 33 (.inr (3, [.ref 34, .ref 36, .ref 37, .int (nI st.2.2.1.length), .int (nI st.2.1), .int st.2.2.2, .int 0]))) 36 (.inl (0, 60, .inl ks))) 37 (.inl (0, 60, .inl vs)), n, s) _
  refine r_iconst (v := 0) (by decide) dX3_readOne_0 ?_
  refine r_istore_n (n := 3) (i := 3) (L' := [(3, .int 0), (0, .ref 33), (1, .int (nI b)), (2, .int (nI i))]) rfl dX3_readOne_1 (by decide) rfl ?_
  exact lp_min h35 e0 HT hT hb hi hl h20 hd 61 0 k a st ks vs rfl (by omega) hc ho
theorem lp_term {O : bO} {d : Nat} {f : bF} {n s : Nat} {tl : Int32} {e : Nat} {bs : Nat → Int32} (h35 : f 35 = some (.inl (0, 300, .inl bs))) (e0 : e ≤ 300) {T : Nat → Nat → pS → pR} {dT lev : Nat} (HT : RT O dT lev f n s tl e T) (hT : okT T) {b i : Nat} (hb : b ≤ 8) (hi : i ≤ 8) (hl : (8 - b) + (8 - i) ≤ lev) (h20 : 20 ≤ dT) (hd : dT + 4 ≤ d) : ∀ (m c k a : Nat) (st : pS) (ks vs : Nat → Int32), c + m = 61 → c ≤ a → cod ks vs st.2.2.1 → okS k a st → bV O mX3_readTerm d 10 [(4, .int (nI c)), (3, .int 1), (0, .ref 33), (1, .int (nI b)), (2, .int (nI i))] [] (hRd f tl e st ks vs 0, n, s) (rP f n s tl e (pTermL bs e T b i m st)) := by
  intro m
  induction m with
  | zero =>
    intro c k a st ks vs h1 h2 hc ho
    obtain ⟨o1, o2, o3, o4, o5⟩ := id ho
    exact absurd o5 (by omega)
  | succ m ih =>
    intro c k a st ks vs h1 h2 hc ho
    obtain ⟨o1, o2, o3, o4, o5⟩ := id ho
    show bV O _ d 10 [(4, .int (nI c)), (3, .int 1), (0, .ref 33), (1, .int (nI b)), (2, .int (nI i))] [] (bU (bU (bU (bU f 34 (.inr (5, [.ref 35, .int tl, .int (nI e), .int (nI st.1.2.1), .int (nI st.1.1), .int st.1.2.2.1, .int st.1.2.2.2]))) 33 (.inr (3, [.ref 34, .ref 36, .ref 37, .int (nI st.2.2.1.length), .int (nI st.2.1), .int st.2.2.2, .int 0]))) 36 (.inl (0, 60, .inl ks))) 37 (.inl (0, 60, .inl vs)), n, s) _
    refine r_iload (i := 4) 0 rfl dX3_readTerm_10 ?_
    refine r_bipush (v := 60) (by decide) dX3_readTerm_12 ?_
    refine r_icmp_gt (tgt := 71) (by decide) dX3_readTerm_14 (fun h9 => absurd h9 (fun h7 => absurd ((nI_ltI (a := 60) (b := c) (by omega) (by omega)).mp h7) (by omega))) (fun _ => ?_)
    refine r_iload_n (n := 3) (i := 3) 1 rfl rfl dX3_readTerm_17 ?_
    refine r_if_eq (tgt := 71) (by decide) dX3_readTerm_18 (fun h9 => absurd h9 (show ¬ ((1 : Int32) = 0) by decide)) (fun _ => ?_)
    refine r_aload_n (n := 0) (i := 0) 2 rfl rfl dX3_readTerm_21 ?_
    refine p_get (fs := [.ref 34, .ref 36, .ref 37, .int (nI st.2.2.1.length), .int (nI st.2.1), .int st.2.2.2, .int 0]) flX3_12 (by exact ((bU_n (by decide)).trans (((bU_n (by decide)).trans (bU_s _ _ _))))) rfl dX3_readTerm_22 ?_
    refine p_get (fs := [.ref 35, .int tl, .int (nI e), .int (nI st.1.2.1), .int (nI st.1.1), .int st.1.2.2.1, .int st.1.2.2.2]) flX3_46 (by exact ((bU_n (by decide)).trans (((bU_n (by decide)).trans (((bU_n (by decide)).trans (bU_s _ _ _))))))) rfl dX3_readTerm_25 ?_
    refine r_bipush (v := 42) (by decide) dX3_readTerm_28 ?_
    refine r_icmp_ne (tgt := 71) (by decide) dX3_readTerm_30 (fun c30 => ?_) (fun c30 => ?_)
    · refine r_iload_n (n := 3) (i := 3) 1 rfl rfl dX3_readTerm_71 ?_
      refine r_zreturn rfl (by first | decide +kernel | exact narZ _ | assumption) dX3_readTerm_72 ?_
      rw [show pTermL bs e T b i (m + 1) st = .inr st by rw [pTermL_s, if_neg c30]; try simp only [pB_l, pB_r]]
      exact ⟨rfl, ks, vs, hc, rfl⟩
    · refine r_aload_n (n := 0) (i := 0) 2 rfl rfl dX3_readTerm_33 ?_
      refine p_callV (As := []) (rest := []) (c_takePart (d := 8) h35 e0 hc ho (Nat.le_refl _)) rfl lkX3_59 imX3_takePart seX3_takePart rfl (by exact ((bU_n (by decide)).trans (((bU_n (by decide)).trans (bU_s _ _ _))))) rfl rfl (by omega) (Nat.le_of_ble_eq_true rfl) dX3_readTerm_34 (fun v9 G9 h9 => ?_) (fun q9 G9 h9 => absurd h9 rP_nx)
      rcases hR1 : pPart bs e st with ⟨ft1, pl1⟩ | st1
      · rw [hR1] at h9; obtain ⟨h8, h7⟩ := h9; cases h8
        show bV O _ d 37 [(4, .int (nI c)), (3, .int 1), (0, .ref 33), (1, .int (nI b)), (2, .int (nI i))] [.int 0] G9 _
        refine r_if_eq (tgt := 63) (by decide) dX3_readTerm_37 (fun _ => ?_) (fun h9 => absurd (show (0 : Int32) = 0 by decide) h9)
        refine r_iconst (v := 0) (by decide) dX3_readTerm_63 ?_
        refine r_istore_n (n := 3) (i := 3) (L' := [(3, .int 0), (4, .int (nI c)), (0, .ref 33), (1, .int (nI b)), (2, .int (nI i))]) rfl dX3_readTerm_64 (by decide) rfl ?_
        refine r_iinc (i := 4) (v := nI (c + 1)) (L' := [(4, .int (nI (c + 1))), (3, .int 0), (0, .ref 33), (1, .int (nI b)), (2, .int (nI i))]) 1 rfl (nI_inc1 c) dX3_readTerm_65 (by decide) rfl ?_
        refine r_goto (tgt := 10) (by decide) dX3_readTerm_68 ?_
        refine r_iload (i := 4) 0 rfl dX3_readTerm_10 ?_
        refine r_bipush (v := 60) (by decide) dX3_readTerm_12 ?_
        refine r_icmp_gt (tgt := 71) (by decide) dX3_readTerm_14 (fun c14 => ?_) (fun c14 => ?_)
        · have c14 : 60 < (c + 1) := (nI_ltI (a := 60) (b := (c + 1)) (by omega) (by omega)).mp c14
          refine r_iload_n (n := 3) (i := 3) 1 rfl rfl dX3_readTerm_71 ?_
          refine r_zreturn rfl (by first | decide +kernel | exact narZ _ | assumption) dX3_readTerm_72 ?_
          rw [show pTermL bs e T b i (m + 1) st = .inl (ft1, pl1) by rw [pTermL_s, if_pos c30]; try simp only [hR1, pB_l, pB_r]]
          exact ⟨rfl, h7⟩
        · have c14 : ¬ 60 < (c + 1) := fun h7 => c14 ((nI_ltI (a := 60) (b := (c + 1)) (by omega) (by omega)).mpr h7)
          refine r_iload_n (n := 3) (i := 3) 1 rfl rfl dX3_readTerm_17 ?_
          refine r_if_eq (tgt := 71) (by decide) dX3_readTerm_18 (fun _ => ?_) (fun h9 => absurd (show (0 : Int32) = 0 by decide) h9)
          refine r_iload_n (n := 3) (i := 3) 1 rfl rfl dX3_readTerm_71 ?_
          refine r_zreturn rfl (by first | decide +kernel | exact narZ _ | assumption) dX3_readTerm_72 ?_
          rw [show pTermL bs e T b i (m + 1) st = .inl (ft1, pl1) by rw [pTermL_s, if_pos c30]; try simp only [hR1, pB_l, pB_r]]
          exact ⟨rfl, h7⟩
      · rw [hR1] at h9; obtain ⟨h8, ks1, vs1, hc1, rfl⟩ := h9; cases h8
        have ho1 : okS (k + 1) (a + 1) st1 := pPart_ok e0 ho hR1
        obtain ⟨p11, p21, p31, p41, p51⟩ := id ho1
        show bV O _ d 37 [(4, .int (nI c)), (3, .int 1), (0, .ref 33), (1, .int (nI b)), (2, .int (nI i))] [.int 1] (bU (bU (bU (bU f 34 (.inr (5, [.ref 35, .int tl, .int (nI e), .int (nI st1.1.2.1), .int (nI st1.1.1), .int st1.1.2.2.1, .int st1.1.2.2.2]))) 33 (.inr (3, [.ref 34, .ref 36, .ref 37, .int (nI st1.2.2.1.length), .int (nI st1.2.1), .int st1.2.2.2, .int 0]))) 36 (.inl (0, 60, .inl ks1))) 37 (.inl (0, 60, .inl vs1)), n, s) _
        refine r_if_eq (tgt := 63) (by decide) dX3_readTerm_37 (fun h9 => absurd h9 (show ¬ ((1 : Int32) = 0) by decide)) (fun _ => ?_)
        refine r_aload_n (n := 0) (i := 0) 2 rfl rfl dX3_readTerm_40 ?_
        refine r_iload_n (n := 1) (i := 1) 3 rfl rfl dX3_readTerm_41 ?_
        refine r_iload_n (n := 2) (i := 2) 4 rfl rfl dX3_readTerm_42 ?_
        refine p_callV (As := [.int (nI b), .int (nI i)]) (rest := []) (c_readOne (d := dT + 3) h35 e0 hc1 ho1 HT hT (b := b) (i := i) (by omega) (by omega) (by omega) h20 (Nat.le_refl _)) rfl lkX3_75 imX3_readOne seX3_readOne rfl (by exact ((bU_n (by decide)).trans (((bU_n (by decide)).trans (bU_s _ _ _))))) rfl rfl (by omega) (Nat.le_of_ble_eq_true rfl) dX3_readTerm_43 (fun v9 G9 h9 => ?_) (fun q9 G9 h9 => absurd h9 rP_nx)
        rcases hR2 : pOne bs e T b i st1 with ⟨ft2, pl2⟩ | st2
        · rw [hR2] at h9; obtain ⟨h8, h7⟩ := h9; cases h8
          show bV O _ d 46 [(4, .int (nI c)), (3, .int 1), (0, .ref 33), (1, .int (nI b)), (2, .int (nI i))] [.int 0] G9 _
          refine r_if_eq (tgt := 63) (by decide) dX3_readTerm_46 (fun _ => ?_) (fun h9 => absurd (show (0 : Int32) = 0 by decide) h9)
          refine r_iconst (v := 0) (by decide) dX3_readTerm_63 ?_
          refine r_istore_n (n := 3) (i := 3) (L' := [(3, .int 0), (4, .int (nI c)), (0, .ref 33), (1, .int (nI b)), (2, .int (nI i))]) rfl dX3_readTerm_64 (by decide) rfl ?_
          refine r_iinc (i := 4) (v := nI (c + 1)) (L' := [(4, .int (nI (c + 1))), (3, .int 0), (0, .ref 33), (1, .int (nI b)), (2, .int (nI i))]) 1 rfl (nI_inc1 c) dX3_readTerm_65 (by decide) rfl ?_
          refine r_goto (tgt := 10) (by decide) dX3_readTerm_68 ?_
          refine r_iload (i := 4) 0 rfl dX3_readTerm_10 ?_
          refine r_bipush (v := 60) (by decide) dX3_readTerm_12 ?_
          refine r_icmp_gt (tgt := 71) (by decide) dX3_readTerm_14 (fun c14 => ?_) (fun c14 => ?_)
          · have c14 : 60 < (c + 1) := (nI_ltI (a := 60) (b := (c + 1)) (by omega) (by omega)).mp c14
            refine r_iload_n (n := 3) (i := 3) 1 rfl rfl dX3_readTerm_71 ?_
            refine r_zreturn rfl (by first | decide +kernel | exact narZ _ | assumption) dX3_readTerm_72 ?_
            rw [show pTermL bs e T b i (m + 1) st = .inl (ft2, pl2) by rw [pTermL_s, if_pos c30]; try simp only [hR1, hR2, pB_l, pB_r]]
            exact ⟨rfl, h7⟩
          · have c14 : ¬ 60 < (c + 1) := fun h7 => c14 ((nI_ltI (a := 60) (b := (c + 1)) (by omega) (by omega)).mpr h7)
            refine r_iload_n (n := 3) (i := 3) 1 rfl rfl dX3_readTerm_17 ?_
            refine r_if_eq (tgt := 71) (by decide) dX3_readTerm_18 (fun _ => ?_) (fun h9 => absurd (show (0 : Int32) = 0 by decide) h9)
            refine r_iload_n (n := 3) (i := 3) 1 rfl rfl dX3_readTerm_71 ?_
            refine r_zreturn rfl (by first | decide +kernel | exact narZ _ | assumption) dX3_readTerm_72 ?_
            rw [show pTermL bs e T b i (m + 1) st = .inl (ft2, pl2) by rw [pTermL_s, if_pos c30]; try simp only [hR1, hR2, pB_l, pB_r]]
            exact ⟨rfl, h7⟩
        · rw [hR2] at h9; obtain ⟨h8, ks2, vs2, hc2, rfl⟩ := h9; cases h8
          have ho2 : okS (k + 1) (a + 1) st2 := pOne_ok e0 hT ho1 hR2
          obtain ⟨p12, p22, p32, p42, p52⟩ := id ho2
          show bV O _ d 46 [(4, .int (nI c)), (3, .int 1), (0, .ref 33), (1, .int (nI b)), (2, .int (nI i))] [.int 1] (bU (bU (bU (bU f 34 (.inr (5, [.ref 35, .int tl, .int (nI e), .int (nI st2.1.2.1), .int (nI st2.1.1), .int st2.1.2.2.1, .int st2.1.2.2.2]))) 33 (.inr (3, [.ref 34, .ref 36, .ref 37, .int (nI st2.2.2.1.length), .int (nI st2.2.1), .int st2.2.2.2, .int 0]))) 36 (.inl (0, 60, .inl ks2))) 37 (.inl (0, 60, .inl vs2)), n, s) _
          refine r_if_eq (tgt := 63) (by decide) dX3_readTerm_46 (fun h9 => absurd h9 (show ¬ ((1 : Int32) = 0) by decide)) (fun _ => ?_)
          refine r_aload_n (n := 0) (i := 0) 2 rfl rfl dX3_readTerm_49 ?_
          refine r_bipush (v := 42) (by decide) dX3_readTerm_50 ?_
          refine r_iconst (v := 0) (by decide) dX3_readTerm_52 ?_
          refine p_callV (As := [.int 42, .int 0]) (rest := []) (c_write (d := 1) h35 e0 hc2 ho2 (by omega) (Nat.le_refl _)) rfl lkX3_69 imX3_write seX3_write rfl (by exact ((bU_n (by decide)).trans (((bU_n (by decide)).trans (bU_s _ _ _))))) rfl rfl (by omega) (Nat.le_of_ble_eq_true rfl) dX3_readTerm_53 (fun v9 G9 h9 => ?_) (fun q9 G9 h9 => absurd h9 rP_nx)
          rcases hR3 : pWr 42 0 st2 with ⟨ft3, pl3⟩ | st3
          · cases hR3
          · rw [hR3] at h9; obtain ⟨h8, ks3, vs3, hc3, rfl⟩ := h9; cases h8
            have ho3 : okS (k) (a + 1) st3 := pWr_ok (k := k) ho2 hR3
            obtain ⟨p13, p23, p33, p43, p53⟩ := id ho3
            show bV O _ d 56 [(4, .int (nI c)), (3, .int 1), (0, .ref 33), (1, .int (nI b)), (2, .int (nI i))] [.int 1] (bU (bU (bU (bU f 34 (.inr (5, [.ref 35, .int tl, .int (nI e), .int (nI st3.1.2.1), .int (nI st3.1.1), .int st3.1.2.2.1, .int st3.1.2.2.2]))) 33 (.inr (3, [.ref 34, .ref 36, .ref 37, .int (nI st3.2.2.1.length), .int (nI st3.2.1), .int st3.2.2.2, .int 0]))) 36 (.inl (0, 60, .inl ks3))) 37 (.inl (0, 60, .inl vs3)), n, s) _
            refine r_if_eq (tgt := 63) (by decide) dX3_readTerm_56 (fun h9 => absurd h9 (show ¬ ((1 : Int32) = 0) by decide)) (fun _ => ?_)
            refine r_iconst (v := 1) (by decide) dX3_readTerm_59 ?_
            refine r_goto (tgt := 64) (by decide) dX3_readTerm_60 ?_
            refine r_istore_n (n := 3) (i := 3) (L' := [(3, .int 1), (4, .int (nI c)), (0, .ref 33), (1, .int (nI b)), (2, .int (nI i))]) rfl dX3_readTerm_64 (by decide) rfl ?_
            refine r_iinc (i := 4) (v := nI (c + 1)) (L' := [(4, .int (nI (c + 1))), (3, .int 1), (0, .ref 33), (1, .int (nI b)), (2, .int (nI i))]) 1 rfl (nI_inc1 c) dX3_readTerm_65 (by decide) rfl ?_
            refine r_goto (tgt := 10) (by decide) dX3_readTerm_68 ?_
            rw [show pTermL bs e T b i (m + 1) st = pTermL bs e T b i m st3 by rw [pTermL_s, if_pos c30]; try simp only [hR1, hR2, hR3, pB_l, pB_r]]; refine bV_loc [0, 1, 2, 3, 4] rfl ?_; exact ih (c + 1) k (a + 1) st3 ks3 vs3 (by omega) (by omega) hc3 ho3
set_option maxRecDepth 4000 in
theorem c_readTerm {O : bO} {d : Nat} {f : bF} {n s : Nat} {tl : Int32} {e : Nat} {bs : Nat → Int32} {st : pS} {ks vs : Nat → Int32} {k a : Nat} (h35 : f 35 = some (.inl (0, 300, .inl bs))) (e0 : e ≤ 300) (hc : cod ks vs st.2.2.1) (ho : okS k a st) {T : Nat → Nat → pS → pR} {dT lev : Nat} (HT : RT O dT lev f n s tl e T) (hT : okT T) {b i : Nat} (hb : b ≤ 8) (hi : i ≤ 8) (hl : (8 - b) + (8 - i) ≤ lev) (h20 : 20 ≤ dT) (hd : dT + 4 ≤ d) : bCall O mX3_readTerm d [.ref 33, .int (nI b), .int (nI i)] (hRd f tl e st ks vs 0, n, s) (rP f n s tl e (pTerm bs e T b i st)) := by
  refine bCall_of (by decide) rfl (Nat.le_of_ble_eq_true rfl) ?_
  obtain ⟨o1, o2, o3, o4, o5⟩ := id ho
  show bV O _ d 0 [(0, .ref 33), (1, .int (nI b)), (2, .int (nI i))] [] (bU (bU (bU (bU f 34 (.inr (5, [.ref 35, .int tl, .int (nI e), .int (nI st.1.2.1), .int (nI st.1.1), .int st.1.2.2.1, .int st.1.2.2.2]))) 33 (.inr (3, [.ref 34, .ref 36, .ref 37, .int (nI st.2.2.1.length), .int (nI st.2.1), .int st.2.2.2, .int 0]))) 36 (.inl (0, 60, .inl ks))) 37 (.inl (0, 60, .inl vs)), n, s) _
  refine r_aload_n (n := 0) (i := 0) 0 rfl rfl dX3_readTerm_0 ?_
  refine r_iload_n (n := 1) (i := 1) 1 rfl rfl dX3_readTerm_1 ?_
  refine r_iload_n (n := 2) (i := 2) 2 rfl rfl dX3_readTerm_2 ?_
  refine p_callV (As := [.int (nI b), .int (nI i)]) (rest := []) (c_readOne (d := dT + 3) h35 e0 hc ho HT hT (b := b) (i := i) (by omega) (by omega) (by omega) h20 (Nat.le_refl _)) rfl lkX3_75 imX3_readOne seX3_readOne rfl (by exact ((bU_n (by decide)).trans (((bU_n (by decide)).trans (bU_s _ _ _))))) rfl rfl (by omega) (Nat.le_of_ble_eq_true rfl) dX3_readTerm_3 (fun v9 G9 h9 => ?_) (fun q9 G9 h9 => absurd h9 rP_nx)
  rcases hR1 : pOne bs e T b i st with ⟨ft1, pl1⟩ | st1
  · rw [hR1] at h9; obtain ⟨h8, h7⟩ := h9; cases h8
    show bV O _ d 6 [(0, .ref 33), (1, .int (nI b)), (2, .int (nI i))] [.int 0] G9 _
    refine r_istore_n (n := 3) (i := 3) (L' := [(3, .int 0), (0, .ref 33), (1, .int (nI b)), (2, .int (nI i))]) rfl dX3_readTerm_6 (by decide) rfl ?_
    refine r_iconst (v := 0) (by decide) dX3_readTerm_7 ?_
    refine r_istore (i := 4) (L' := [(4, .int 0), (3, .int 0), (0, .ref 33), (1, .int (nI b)), (2, .int (nI i))]) dX3_readTerm_8 (by decide) rfl ?_
    refine r_iload (i := 4) 0 rfl dX3_readTerm_10 ?_
    refine r_bipush (v := 60) (by decide) dX3_readTerm_12 ?_
    refine r_icmp_gt (tgt := 71) (by decide) dX3_readTerm_14 (fun h9 => absurd h9 (show ¬ ((60 : Int32) < 0) by decide)) (fun _ => ?_)
    refine r_iload_n (n := 3) (i := 3) 1 rfl rfl dX3_readTerm_17 ?_
    refine r_if_eq (tgt := 71) (by decide) dX3_readTerm_18 (fun _ => ?_) (fun h9 => absurd (show (0 : Int32) = 0 by decide) h9)
    refine r_iload_n (n := 3) (i := 3) 1 rfl rfl dX3_readTerm_71 ?_
    refine r_zreturn rfl (by first | decide +kernel | exact narZ _ | assumption) dX3_readTerm_72 ?_
    rw [show pTerm bs e T b i st = .inl (ft1, pl1) by simp only [pTerm, pB_l, pB_r, hR1, if_true, if_false, or_true, true_or, or_false, false_or, reduceIte, not_false_eq_true, not_true_eq_false, or_self]]
    exact ⟨rfl, h7⟩
  · rw [hR1] at h9; obtain ⟨h8, ks1, vs1, hc1, rfl⟩ := h9; cases h8
    have ho1 : okS (k) (a) st1 := pOne_ok e0 hT ho hR1
    obtain ⟨p11, p21, p31, p41, p51⟩ := id ho1
    show bV O _ d 6 [(0, .ref 33), (1, .int (nI b)), (2, .int (nI i))] [.int 1] (bU (bU (bU (bU f 34 (.inr (5, [.ref 35, .int tl, .int (nI e), .int (nI st1.1.2.1), .int (nI st1.1.1), .int st1.1.2.2.1, .int st1.1.2.2.2]))) 33 (.inr (3, [.ref 34, .ref 36, .ref 37, .int (nI st1.2.2.1.length), .int (nI st1.2.1), .int st1.2.2.2, .int 0]))) 36 (.inl (0, 60, .inl ks1))) 37 (.inl (0, 60, .inl vs1)), n, s) _
    refine r_istore_n (n := 3) (i := 3) (L' := [(3, .int 1), (0, .ref 33), (1, .int (nI b)), (2, .int (nI i))]) rfl dX3_readTerm_6 (by decide) rfl ?_
    refine r_iconst (v := 0) (by decide) dX3_readTerm_7 ?_
    refine r_istore (i := 4) (L' := [(4, .int 0), (3, .int 1), (0, .ref 33), (1, .int (nI b)), (2, .int (nI i))]) dX3_readTerm_8 (by decide) rfl ?_
    rw [show pTerm bs e T b i st = pTermL bs e T b i 61 st1 by simp only [pTerm, hR1, pB_r]]; exact lp_term h35 e0 HT hT hb hi hl h20 hd 61 0 k a st1 ks1 vs1 rfl (by omega) hc1 ho1
theorem lp_sum {O : bO} {d : Nat} {f : bF} {n s : Nat} {tl : Int32} {e : Nat} {bs : Nat → Int32} (h35 : f 35 = some (.inl (0, 300, .inl bs))) (e0 : e ≤ 300) {T : Nat → Nat → pS → pR} {dT lev : Nat} (HT : RT O dT lev f n s tl e T) (hT : okT T) {b i : Nat} (hb : b ≤ 8) (hi : i ≤ 8) (hl : (8 - b) + (8 - i) ≤ lev) (h20 : 20 ≤ dT) (hd : dT + 5 ≤ d) : ∀ (m c k a : Nat) (st : pS) (ks vs : Nat → Int32), c + m = 61 → c ≤ a → cod ks vs st.2.2.1 → okS k a st → bV O mX3_readSum d 10 [(4, .int (nI c)), (3, .int 1), (0, .ref 33), (1, .int (nI b)), (2, .int (nI i))] [] (hRd f tl e st ks vs 0, n, s) (rP f n s tl e (pSumL bs e T b i m st)) := by
  intro m
  induction m with
  | zero =>
    intro c k a st ks vs h1 h2 hc ho
    obtain ⟨o1, o2, o3, o4, o5⟩ := id ho
    exact absurd o5 (by omega)
  | succ m ih =>
    intro c k a st ks vs h1 h2 hc ho
    obtain ⟨o1, o2, o3, o4, o5⟩ := id ho
    show bV O _ d 10 [(4, .int (nI c)), (3, .int 1), (0, .ref 33), (1, .int (nI b)), (2, .int (nI i))] [] (bU (bU (bU (bU f 34 (.inr (5, [.ref 35, .int tl, .int (nI e), .int (nI st.1.2.1), .int (nI st.1.1), .int st.1.2.2.1, .int st.1.2.2.2]))) 33 (.inr (3, [.ref 34, .ref 36, .ref 37, .int (nI st.2.2.1.length), .int (nI st.2.1), .int st.2.2.2, .int 0]))) 36 (.inl (0, 60, .inl ks))) 37 (.inl (0, 60, .inl vs)), n, s) _
    refine r_iload (i := 4) 0 rfl dX3_readSum_10 ?_
    refine r_bipush (v := 60) (by decide) dX3_readSum_12 ?_
    refine r_icmp_gt (tgt := 92) (by decide) dX3_readSum_14 (fun h9 => absurd h9 (fun h7 => absurd ((nI_ltI (a := 60) (b := c) (by omega) (by omega)).mp h7) (by omega))) (fun _ => ?_)
    refine r_iload_n (n := 3) (i := 3) 1 rfl rfl dX3_readSum_17 ?_
    refine r_if_eq (tgt := 92) (by decide) dX3_readSum_18 (fun h9 => absurd h9 (show ¬ ((1 : Int32) = 0) by decide)) (fun _ => ?_)
    refine r_aload_n (n := 0) (i := 0) 2 rfl rfl dX3_readSum_21 ?_
    refine p_get (fs := [.ref 34, .ref 36, .ref 37, .int (nI st.2.2.1.length), .int (nI st.2.1), .int st.2.2.2, .int 0]) flX3_12 (by exact ((bU_n (by decide)).trans (((bU_n (by decide)).trans (bU_s _ _ _))))) rfl dX3_readSum_22 ?_
    refine p_get (fs := [.ref 35, .int tl, .int (nI e), .int (nI st.1.2.1), .int (nI st.1.1), .int st.1.2.2.1, .int st.1.2.2.2]) flX3_46 (by exact ((bU_n (by decide)).trans (((bU_n (by decide)).trans (((bU_n (by decide)).trans (bU_s _ _ _))))))) rfl dX3_readSum_25 ?_
    refine r_bipush (v := 43) (by decide) dX3_readSum_28 ?_
    refine r_icmp_eq (tgt := 45) (by decide) dX3_readSum_30 (fun c30 => ?_) (fun c30 => ?_)
    · refine r_aload_n (n := 0) (i := 0) 2 rfl rfl dX3_readSum_45 ?_
      refine p_get (fs := [.ref 34, .ref 36, .ref 37, .int (nI st.2.2.1.length), .int (nI st.2.1), .int st.2.2.2, .int 0]) flX3_12 (by exact ((bU_n (by decide)).trans (((bU_n (by decide)).trans (bU_s _ _ _))))) rfl dX3_readSum_46 ?_
      refine p_get (fs := [.ref 35, .int tl, .int (nI e), .int (nI st.1.2.1), .int (nI st.1.1), .int st.1.2.2.1, .int st.1.2.2.2]) flX3_46 (by exact ((bU_n (by decide)).trans (((bU_n (by decide)).trans (((bU_n (by decide)).trans (bU_s _ _ _))))))) rfl dX3_readSum_49 ?_
      refine r_istore (i := 5) (L' := [(5, .int st.1.2.2.1), (4, .int (nI c)), (3, .int 1), (0, .ref 33), (1, .int (nI b)), (2, .int (nI i))]) dX3_readSum_52 (by decide) rfl ?_
      refine r_aload_n (n := 0) (i := 0) 3 rfl rfl dX3_readSum_54 ?_
      refine p_callV (As := []) (rest := []) (c_takePart (d := 8) h35 e0 hc ho (Nat.le_refl _)) rfl lkX3_59 imX3_takePart seX3_takePart rfl (by exact ((bU_n (by decide)).trans (((bU_n (by decide)).trans (bU_s _ _ _))))) rfl rfl (by omega) (Nat.le_of_ble_eq_true rfl) dX3_readSum_55 (fun v9 G9 h9 => ?_) (fun q9 G9 h9 => absurd h9 rP_nx)
      rcases hR1 : pPart bs e st with ⟨ft1, pl1⟩ | st1
      · rw [hR1] at h9; obtain ⟨h8, h7⟩ := h9; cases h8
        show bV O _ d 58 [(5, .int st.1.2.2.1), (4, .int (nI c)), (3, .int 1), (0, .ref 33), (1, .int (nI b)), (2, .int (nI i))] [.int 0] G9 _
        refine r_if_eq (tgt := 84) (by decide) dX3_readSum_58 (fun _ => ?_) (fun h9 => absurd (show (0 : Int32) = 0 by decide) h9)
        refine r_iconst (v := 0) (by decide) dX3_readSum_84 ?_
        refine r_istore_n (n := 3) (i := 3) (L' := [(3, .int 0), (5, .int st.1.2.2.1), (4, .int (nI c)), (0, .ref 33), (1, .int (nI b)), (2, .int (nI i))]) rfl dX3_readSum_85 (by decide) rfl ?_
        refine r_iinc (i := 4) (v := nI (c + 1)) (L' := [(4, .int (nI (c + 1))), (3, .int 0), (5, .int st.1.2.2.1), (0, .ref 33), (1, .int (nI b)), (2, .int (nI i))]) 2 rfl (nI_inc1 c) dX3_readSum_86 (by decide) rfl ?_
        refine r_goto (tgt := 10) (by decide) dX3_readSum_89 ?_
        refine r_iload (i := 4) 0 rfl dX3_readSum_10 ?_
        refine r_bipush (v := 60) (by decide) dX3_readSum_12 ?_
        refine r_icmp_gt (tgt := 92) (by decide) dX3_readSum_14 (fun c14 => ?_) (fun c14 => ?_)
        · have c14 : 60 < (c + 1) := (nI_ltI (a := 60) (b := (c + 1)) (by omega) (by omega)).mp c14
          refine r_iload_n (n := 3) (i := 3) 1 rfl rfl dX3_readSum_92 ?_
          refine r_zreturn rfl (by first | decide +kernel | exact narZ _ | assumption) dX3_readSum_93 ?_
          rw [show pSumL bs e T b i (m + 1) st = .inl (ft1, pl1) by rw [pSumL_s, if_pos (Or.inl c30)]; try simp only [hR1, pB_l, pB_r]]
          exact ⟨rfl, h7⟩
        · have c14 : ¬ 60 < (c + 1) := fun h7 => c14 ((nI_ltI (a := 60) (b := (c + 1)) (by omega) (by omega)).mpr h7)
          refine r_iload_n (n := 3) (i := 3) 1 rfl rfl dX3_readSum_17 ?_
          refine r_if_eq (tgt := 92) (by decide) dX3_readSum_18 (fun _ => ?_) (fun h9 => absurd (show (0 : Int32) = 0 by decide) h9)
          refine r_iload_n (n := 3) (i := 3) 1 rfl rfl dX3_readSum_92 ?_
          refine r_zreturn rfl (by first | decide +kernel | exact narZ _ | assumption) dX3_readSum_93 ?_
          rw [show pSumL bs e T b i (m + 1) st = .inl (ft1, pl1) by rw [pSumL_s, if_pos (Or.inl c30)]; try simp only [hR1, pB_l, pB_r]]
          exact ⟨rfl, h7⟩
      · rw [hR1] at h9; obtain ⟨h8, ks1, vs1, hc1, rfl⟩ := h9; cases h8
        have ho1 : okS (k + 1) (a + 1) st1 := pPart_ok e0 ho hR1
        obtain ⟨p11, p21, p31, p41, p51⟩ := id ho1
        show bV O _ d 58 [(5, .int st.1.2.2.1), (4, .int (nI c)), (3, .int 1), (0, .ref 33), (1, .int (nI b)), (2, .int (nI i))] [.int 1] (bU (bU (bU (bU f 34 (.inr (5, [.ref 35, .int tl, .int (nI e), .int (nI st1.1.2.1), .int (nI st1.1.1), .int st1.1.2.2.1, .int st1.1.2.2.2]))) 33 (.inr (3, [.ref 34, .ref 36, .ref 37, .int (nI st1.2.2.1.length), .int (nI st1.2.1), .int st1.2.2.2, .int 0]))) 36 (.inl (0, 60, .inl ks1))) 37 (.inl (0, 60, .inl vs1)), n, s) _
        refine r_if_eq (tgt := 84) (by decide) dX3_readSum_58 (fun h9 => absurd h9 (show ¬ ((1 : Int32) = 0) by decide)) (fun _ => ?_)
        refine r_aload_n (n := 0) (i := 0) 3 rfl rfl dX3_readSum_61 ?_
        refine r_iload_n (n := 1) (i := 1) 4 rfl rfl dX3_readSum_62 ?_
        refine r_iload_n (n := 2) (i := 2) 5 rfl rfl dX3_readSum_63 ?_
        refine p_callV (As := [.int (nI b), .int (nI i)]) (rest := []) (c_readTerm (d := dT + 4) h35 e0 hc1 ho1 HT hT (b := b) (i := i) (by omega) (by omega) (by omega) h20 (Nat.le_refl _)) rfl lkX3_72 imX3_readTerm seX3_readTerm rfl (by exact ((bU_n (by decide)).trans (((bU_n (by decide)).trans (bU_s _ _ _))))) rfl rfl (by omega) (Nat.le_of_ble_eq_true rfl) dX3_readSum_64 (fun v9 G9 h9 => ?_) (fun q9 G9 h9 => absurd h9 rP_nx)
        rcases hR2 : pTerm bs e T b i st1 with ⟨ft2, pl2⟩ | st2
        · rw [hR2] at h9; obtain ⟨h8, h7⟩ := h9; cases h8
          show bV O _ d 67 [(5, .int st.1.2.2.1), (4, .int (nI c)), (3, .int 1), (0, .ref 33), (1, .int (nI b)), (2, .int (nI i))] [.int 0] G9 _
          refine r_if_eq (tgt := 84) (by decide) dX3_readSum_67 (fun _ => ?_) (fun h9 => absurd (show (0 : Int32) = 0 by decide) h9)
          refine r_iconst (v := 0) (by decide) dX3_readSum_84 ?_
          refine r_istore_n (n := 3) (i := 3) (L' := [(3, .int 0), (5, .int st.1.2.2.1), (4, .int (nI c)), (0, .ref 33), (1, .int (nI b)), (2, .int (nI i))]) rfl dX3_readSum_85 (by decide) rfl ?_
          refine r_iinc (i := 4) (v := nI (c + 1)) (L' := [(4, .int (nI (c + 1))), (3, .int 0), (5, .int st.1.2.2.1), (0, .ref 33), (1, .int (nI b)), (2, .int (nI i))]) 2 rfl (nI_inc1 c) dX3_readSum_86 (by decide) rfl ?_
          refine r_goto (tgt := 10) (by decide) dX3_readSum_89 ?_
          refine r_iload (i := 4) 0 rfl dX3_readSum_10 ?_
          refine r_bipush (v := 60) (by decide) dX3_readSum_12 ?_
          refine r_icmp_gt (tgt := 92) (by decide) dX3_readSum_14 (fun c14 => ?_) (fun c14 => ?_)
          · have c14 : 60 < (c + 1) := (nI_ltI (a := 60) (b := (c + 1)) (by omega) (by omega)).mp c14
            refine r_iload_n (n := 3) (i := 3) 1 rfl rfl dX3_readSum_92 ?_
            refine r_zreturn rfl (by first | decide +kernel | exact narZ _ | assumption) dX3_readSum_93 ?_
            rw [show pSumL bs e T b i (m + 1) st = .inl (ft2, pl2) by rw [pSumL_s, if_pos (Or.inl c30)]; try simp only [hR1, hR2, pB_l, pB_r]]
            exact ⟨rfl, h7⟩
          · have c14 : ¬ 60 < (c + 1) := fun h7 => c14 ((nI_ltI (a := 60) (b := (c + 1)) (by omega) (by omega)).mpr h7)
            refine r_iload_n (n := 3) (i := 3) 1 rfl rfl dX3_readSum_17 ?_
            refine r_if_eq (tgt := 92) (by decide) dX3_readSum_18 (fun _ => ?_) (fun h9 => absurd (show (0 : Int32) = 0 by decide) h9)
            refine r_iload_n (n := 3) (i := 3) 1 rfl rfl dX3_readSum_92 ?_
            refine r_zreturn rfl (by first | decide +kernel | exact narZ _ | assumption) dX3_readSum_93 ?_
            rw [show pSumL bs e T b i (m + 1) st = .inl (ft2, pl2) by rw [pSumL_s, if_pos (Or.inl c30)]; try simp only [hR1, hR2, pB_l, pB_r]]
            exact ⟨rfl, h7⟩
        · rw [hR2] at h9; obtain ⟨h8, ks2, vs2, hc2, rfl⟩ := h9; cases h8
          have ho2 : okS (k + 1) (a + 1) st2 := pTerm_ok e0 hT ho1 hR2
          obtain ⟨p12, p22, p32, p42, p52⟩ := id ho2
          show bV O _ d 67 [(5, .int st.1.2.2.1), (4, .int (nI c)), (3, .int 1), (0, .ref 33), (1, .int (nI b)), (2, .int (nI i))] [.int 1] (bU (bU (bU (bU f 34 (.inr (5, [.ref 35, .int tl, .int (nI e), .int (nI st2.1.2.1), .int (nI st2.1.1), .int st2.1.2.2.1, .int st2.1.2.2.2]))) 33 (.inr (3, [.ref 34, .ref 36, .ref 37, .int (nI st2.2.2.1.length), .int (nI st2.2.1), .int st2.2.2.2, .int 0]))) 36 (.inl (0, 60, .inl ks2))) 37 (.inl (0, 60, .inl vs2)), n, s) _
          refine r_if_eq (tgt := 84) (by decide) dX3_readSum_67 (fun h9 => absurd h9 (show ¬ ((1 : Int32) = 0) by decide)) (fun _ => ?_)
          refine r_aload_n (n := 0) (i := 0) 3 rfl rfl dX3_readSum_70 ?_
          refine r_iload (i := 5) 0 rfl dX3_readSum_71 ?_
          refine r_iconst (v := 0) (by decide) dX3_readSum_73 ?_
          refine p_callV (As := [.int st.1.2.2.1, .int 0]) (rest := []) (c_write (d := 1) h35 e0 hc2 ho2 (by omega) (Nat.le_refl _)) rfl lkX3_69 imX3_write seX3_write rfl (by exact ((bU_n (by decide)).trans (((bU_n (by decide)).trans (bU_s _ _ _))))) rfl rfl (by omega) (Nat.le_of_ble_eq_true rfl) dX3_readSum_74 (fun v9 G9 h9 => ?_) (fun q9 G9 h9 => absurd h9 rP_nx)
          rcases hR3 : pWr st.1.2.2.1 0 st2 with ⟨ft3, pl3⟩ | st3
          · cases hR3
          · rw [hR3] at h9; obtain ⟨h8, ks3, vs3, hc3, rfl⟩ := h9; cases h8
            have ho3 : okS (k) (a + 1) st3 := pWr_ok (k := k) ho2 hR3
            obtain ⟨p13, p23, p33, p43, p53⟩ := id ho3
            show bV O _ d 77 [(5, .int st.1.2.2.1), (4, .int (nI c)), (3, .int 1), (0, .ref 33), (1, .int (nI b)), (2, .int (nI i))] [.int 1] (bU (bU (bU (bU f 34 (.inr (5, [.ref 35, .int tl, .int (nI e), .int (nI st3.1.2.1), .int (nI st3.1.1), .int st3.1.2.2.1, .int st3.1.2.2.2]))) 33 (.inr (3, [.ref 34, .ref 36, .ref 37, .int (nI st3.2.2.1.length), .int (nI st3.2.1), .int st3.2.2.2, .int 0]))) 36 (.inl (0, 60, .inl ks3))) 37 (.inl (0, 60, .inl vs3)), n, s) _
            refine r_if_eq (tgt := 84) (by decide) dX3_readSum_77 (fun h9 => absurd h9 (show ¬ ((1 : Int32) = 0) by decide)) (fun _ => ?_)
            refine r_iconst (v := 1) (by decide) dX3_readSum_80 ?_
            refine r_goto (tgt := 85) (by decide) dX3_readSum_81 ?_
            refine r_istore_n (n := 3) (i := 3) (L' := [(3, .int 1), (5, .int st.1.2.2.1), (4, .int (nI c)), (0, .ref 33), (1, .int (nI b)), (2, .int (nI i))]) rfl dX3_readSum_85 (by decide) rfl ?_
            refine r_iinc (i := 4) (v := nI (c + 1)) (L' := [(4, .int (nI (c + 1))), (3, .int 1), (5, .int st.1.2.2.1), (0, .ref 33), (1, .int (nI b)), (2, .int (nI i))]) 2 rfl (nI_inc1 c) dX3_readSum_86 (by decide) rfl ?_
            refine r_goto (tgt := 10) (by decide) dX3_readSum_89 ?_
            rw [show pSumL bs e T b i (m + 1) st = pSumL bs e T b i m st3 by rw [pSumL_s, if_pos (Or.inl c30)]; try simp only [hR1, hR2, hR3, pB_l, pB_r]]; refine bV_loc [0, 1, 3, 4, 5] rfl ?_; exact ih (c + 1) k (a + 1) st3 ks3 vs3 (by omega) (by omega) hc3 ho3
    · refine r_aload_n (n := 0) (i := 0) 2 rfl rfl dX3_readSum_33 ?_
      refine p_get (fs := [.ref 34, .ref 36, .ref 37, .int (nI st.2.2.1.length), .int (nI st.2.1), .int st.2.2.2, .int 0]) flX3_12 (by exact ((bU_n (by decide)).trans (((bU_n (by decide)).trans (bU_s _ _ _))))) rfl dX3_readSum_34 ?_
      refine p_get (fs := [.ref 35, .int tl, .int (nI e), .int (nI st.1.2.1), .int (nI st.1.1), .int st.1.2.2.1, .int st.1.2.2.2]) flX3_46 (by exact ((bU_n (by decide)).trans (((bU_n (by decide)).trans (((bU_n (by decide)).trans (bU_s _ _ _))))))) rfl dX3_readSum_37 ?_
      refine r_bipush (v := 45) (by decide) dX3_readSum_40 ?_
      refine r_icmp_ne (tgt := 92) (by decide) dX3_readSum_42 (fun c42 => ?_) (fun c42 => ?_)
      · refine r_iload_n (n := 3) (i := 3) 1 rfl rfl dX3_readSum_92 ?_
        refine r_zreturn rfl (by first | decide +kernel | exact narZ _ | assumption) dX3_readSum_93 ?_
        rw [show pSumL bs e T b i (m + 1) st = .inr st by rw [pSumL_s, if_neg (fun h => h.elim c30 c42)]; try simp only [pB_l, pB_r]]
        exact ⟨rfl, ks, vs, hc, rfl⟩
      · refine r_aload_n (n := 0) (i := 0) 2 rfl rfl dX3_readSum_45 ?_
        refine p_get (fs := [.ref 34, .ref 36, .ref 37, .int (nI st.2.2.1.length), .int (nI st.2.1), .int st.2.2.2, .int 0]) flX3_12 (by exact ((bU_n (by decide)).trans (((bU_n (by decide)).trans (bU_s _ _ _))))) rfl dX3_readSum_46 ?_
        refine p_get (fs := [.ref 35, .int tl, .int (nI e), .int (nI st.1.2.1), .int (nI st.1.1), .int st.1.2.2.1, .int st.1.2.2.2]) flX3_46 (by exact ((bU_n (by decide)).trans (((bU_n (by decide)).trans (((bU_n (by decide)).trans (bU_s _ _ _))))))) rfl dX3_readSum_49 ?_
        refine r_istore (i := 5) (L' := [(5, .int st.1.2.2.1), (4, .int (nI c)), (3, .int 1), (0, .ref 33), (1, .int (nI b)), (2, .int (nI i))]) dX3_readSum_52 (by decide) rfl ?_
        refine r_aload_n (n := 0) (i := 0) 3 rfl rfl dX3_readSum_54 ?_
        refine p_callV (As := []) (rest := []) (c_takePart (d := 8) h35 e0 hc ho (Nat.le_refl _)) rfl lkX3_59 imX3_takePart seX3_takePart rfl (by exact ((bU_n (by decide)).trans (((bU_n (by decide)).trans (bU_s _ _ _))))) rfl rfl (by omega) (Nat.le_of_ble_eq_true rfl) dX3_readSum_55 (fun v9 G9 h9 => ?_) (fun q9 G9 h9 => absurd h9 rP_nx)
        rcases hR1 : pPart bs e st with ⟨ft1, pl1⟩ | st1
        · rw [hR1] at h9; obtain ⟨h8, h7⟩ := h9; cases h8
          show bV O _ d 58 [(5, .int st.1.2.2.1), (4, .int (nI c)), (3, .int 1), (0, .ref 33), (1, .int (nI b)), (2, .int (nI i))] [.int 0] G9 _
          refine r_if_eq (tgt := 84) (by decide) dX3_readSum_58 (fun _ => ?_) (fun h9 => absurd (show (0 : Int32) = 0 by decide) h9)
          refine r_iconst (v := 0) (by decide) dX3_readSum_84 ?_
          refine r_istore_n (n := 3) (i := 3) (L' := [(3, .int 0), (5, .int st.1.2.2.1), (4, .int (nI c)), (0, .ref 33), (1, .int (nI b)), (2, .int (nI i))]) rfl dX3_readSum_85 (by decide) rfl ?_
          refine r_iinc (i := 4) (v := nI (c + 1)) (L' := [(4, .int (nI (c + 1))), (3, .int 0), (5, .int st.1.2.2.1), (0, .ref 33), (1, .int (nI b)), (2, .int (nI i))]) 2 rfl (nI_inc1 c) dX3_readSum_86 (by decide) rfl ?_
          refine r_goto (tgt := 10) (by decide) dX3_readSum_89 ?_
          refine r_iload (i := 4) 0 rfl dX3_readSum_10 ?_
          refine r_bipush (v := 60) (by decide) dX3_readSum_12 ?_
          refine r_icmp_gt (tgt := 92) (by decide) dX3_readSum_14 (fun c14 => ?_) (fun c14 => ?_)
          · have c14 : 60 < (c + 1) := (nI_ltI (a := 60) (b := (c + 1)) (by omega) (by omega)).mp c14
            refine r_iload_n (n := 3) (i := 3) 1 rfl rfl dX3_readSum_92 ?_
            refine r_zreturn rfl (by first | decide +kernel | exact narZ _ | assumption) dX3_readSum_93 ?_
            rw [show pSumL bs e T b i (m + 1) st = .inl (ft1, pl1) by rw [pSumL_s, if_pos (Or.inr c42)]; try simp only [hR1, pB_l, pB_r]]
            exact ⟨rfl, h7⟩
          · have c14 : ¬ 60 < (c + 1) := fun h7 => c14 ((nI_ltI (a := 60) (b := (c + 1)) (by omega) (by omega)).mpr h7)
            refine r_iload_n (n := 3) (i := 3) 1 rfl rfl dX3_readSum_17 ?_
            refine r_if_eq (tgt := 92) (by decide) dX3_readSum_18 (fun _ => ?_) (fun h9 => absurd (show (0 : Int32) = 0 by decide) h9)
            refine r_iload_n (n := 3) (i := 3) 1 rfl rfl dX3_readSum_92 ?_
            refine r_zreturn rfl (by first | decide +kernel | exact narZ _ | assumption) dX3_readSum_93 ?_
            rw [show pSumL bs e T b i (m + 1) st = .inl (ft1, pl1) by rw [pSumL_s, if_pos (Or.inr c42)]; try simp only [hR1, pB_l, pB_r]]
            exact ⟨rfl, h7⟩
        · rw [hR1] at h9; obtain ⟨h8, ks1, vs1, hc1, rfl⟩ := h9; cases h8
          have ho1 : okS (k + 1) (a + 1) st1 := pPart_ok e0 ho hR1
          obtain ⟨p11, p21, p31, p41, p51⟩ := id ho1
          show bV O _ d 58 [(5, .int st.1.2.2.1), (4, .int (nI c)), (3, .int 1), (0, .ref 33), (1, .int (nI b)), (2, .int (nI i))] [.int 1] (bU (bU (bU (bU f 34 (.inr (5, [.ref 35, .int tl, .int (nI e), .int (nI st1.1.2.1), .int (nI st1.1.1), .int st1.1.2.2.1, .int st1.1.2.2.2]))) 33 (.inr (3, [.ref 34, .ref 36, .ref 37, .int (nI st1.2.2.1.length), .int (nI st1.2.1), .int st1.2.2.2, .int 0]))) 36 (.inl (0, 60, .inl ks1))) 37 (.inl (0, 60, .inl vs1)), n, s) _
          refine r_if_eq (tgt := 84) (by decide) dX3_readSum_58 (fun h9 => absurd h9 (show ¬ ((1 : Int32) = 0) by decide)) (fun _ => ?_)
          refine r_aload_n (n := 0) (i := 0) 3 rfl rfl dX3_readSum_61 ?_
          refine r_iload_n (n := 1) (i := 1) 4 rfl rfl dX3_readSum_62 ?_
          refine r_iload_n (n := 2) (i := 2) 5 rfl rfl dX3_readSum_63 ?_
          refine p_callV (As := [.int (nI b), .int (nI i)]) (rest := []) (c_readTerm (d := dT + 4) h35 e0 hc1 ho1 HT hT (b := b) (i := i) (by omega) (by omega) (by omega) h20 (Nat.le_refl _)) rfl lkX3_72 imX3_readTerm seX3_readTerm rfl (by exact ((bU_n (by decide)).trans (((bU_n (by decide)).trans (bU_s _ _ _))))) rfl rfl (by omega) (Nat.le_of_ble_eq_true rfl) dX3_readSum_64 (fun v9 G9 h9 => ?_) (fun q9 G9 h9 => absurd h9 rP_nx)
          rcases hR2 : pTerm bs e T b i st1 with ⟨ft2, pl2⟩ | st2
          · rw [hR2] at h9; obtain ⟨h8, h7⟩ := h9; cases h8
            show bV O _ d 67 [(5, .int st.1.2.2.1), (4, .int (nI c)), (3, .int 1), (0, .ref 33), (1, .int (nI b)), (2, .int (nI i))] [.int 0] G9 _
            refine r_if_eq (tgt := 84) (by decide) dX3_readSum_67 (fun _ => ?_) (fun h9 => absurd (show (0 : Int32) = 0 by decide) h9)
            refine r_iconst (v := 0) (by decide) dX3_readSum_84 ?_
            refine r_istore_n (n := 3) (i := 3) (L' := [(3, .int 0), (5, .int st.1.2.2.1), (4, .int (nI c)), (0, .ref 33), (1, .int (nI b)), (2, .int (nI i))]) rfl dX3_readSum_85 (by decide) rfl ?_
            refine r_iinc (i := 4) (v := nI (c + 1)) (L' := [(4, .int (nI (c + 1))), (3, .int 0), (5, .int st.1.2.2.1), (0, .ref 33), (1, .int (nI b)), (2, .int (nI i))]) 2 rfl (nI_inc1 c) dX3_readSum_86 (by decide) rfl ?_
            refine r_goto (tgt := 10) (by decide) dX3_readSum_89 ?_
            refine r_iload (i := 4) 0 rfl dX3_readSum_10 ?_
            refine r_bipush (v := 60) (by decide) dX3_readSum_12 ?_
            refine r_icmp_gt (tgt := 92) (by decide) dX3_readSum_14 (fun c14 => ?_) (fun c14 => ?_)
            · have c14 : 60 < (c + 1) := (nI_ltI (a := 60) (b := (c + 1)) (by omega) (by omega)).mp c14
              refine r_iload_n (n := 3) (i := 3) 1 rfl rfl dX3_readSum_92 ?_
              refine r_zreturn rfl (by first | decide +kernel | exact narZ _ | assumption) dX3_readSum_93 ?_
              rw [show pSumL bs e T b i (m + 1) st = .inl (ft2, pl2) by rw [pSumL_s, if_pos (Or.inr c42)]; try simp only [hR1, hR2, pB_l, pB_r]]
              exact ⟨rfl, h7⟩
            · have c14 : ¬ 60 < (c + 1) := fun h7 => c14 ((nI_ltI (a := 60) (b := (c + 1)) (by omega) (by omega)).mpr h7)
              refine r_iload_n (n := 3) (i := 3) 1 rfl rfl dX3_readSum_17 ?_
              refine r_if_eq (tgt := 92) (by decide) dX3_readSum_18 (fun _ => ?_) (fun h9 => absurd (show (0 : Int32) = 0 by decide) h9)
              refine r_iload_n (n := 3) (i := 3) 1 rfl rfl dX3_readSum_92 ?_
              refine r_zreturn rfl (by first | decide +kernel | exact narZ _ | assumption) dX3_readSum_93 ?_
              rw [show pSumL bs e T b i (m + 1) st = .inl (ft2, pl2) by rw [pSumL_s, if_pos (Or.inr c42)]; try simp only [hR1, hR2, pB_l, pB_r]]
              exact ⟨rfl, h7⟩
          · rw [hR2] at h9; obtain ⟨h8, ks2, vs2, hc2, rfl⟩ := h9; cases h8
            have ho2 : okS (k + 1) (a + 1) st2 := pTerm_ok e0 hT ho1 hR2
            obtain ⟨p12, p22, p32, p42, p52⟩ := id ho2
            show bV O _ d 67 [(5, .int st.1.2.2.1), (4, .int (nI c)), (3, .int 1), (0, .ref 33), (1, .int (nI b)), (2, .int (nI i))] [.int 1] (bU (bU (bU (bU f 34 (.inr (5, [.ref 35, .int tl, .int (nI e), .int (nI st2.1.2.1), .int (nI st2.1.1), .int st2.1.2.2.1, .int st2.1.2.2.2]))) 33 (.inr (3, [.ref 34, .ref 36, .ref 37, .int (nI st2.2.2.1.length), .int (nI st2.2.1), .int st2.2.2.2, .int 0]))) 36 (.inl (0, 60, .inl ks2))) 37 (.inl (0, 60, .inl vs2)), n, s) _
            refine r_if_eq (tgt := 84) (by decide) dX3_readSum_67 (fun h9 => absurd h9 (show ¬ ((1 : Int32) = 0) by decide)) (fun _ => ?_)
            refine r_aload_n (n := 0) (i := 0) 3 rfl rfl dX3_readSum_70 ?_
            refine r_iload (i := 5) 0 rfl dX3_readSum_71 ?_
            refine r_iconst (v := 0) (by decide) dX3_readSum_73 ?_
            refine p_callV (As := [.int st.1.2.2.1, .int 0]) (rest := []) (c_write (d := 1) h35 e0 hc2 ho2 (by omega) (Nat.le_refl _)) rfl lkX3_69 imX3_write seX3_write rfl (by exact ((bU_n (by decide)).trans (((bU_n (by decide)).trans (bU_s _ _ _))))) rfl rfl (by omega) (Nat.le_of_ble_eq_true rfl) dX3_readSum_74 (fun v9 G9 h9 => ?_) (fun q9 G9 h9 => absurd h9 rP_nx)
            rcases hR3 : pWr st.1.2.2.1 0 st2 with ⟨ft3, pl3⟩ | st3
            · cases hR3
            · rw [hR3] at h9; obtain ⟨h8, ks3, vs3, hc3, rfl⟩ := h9; cases h8
              have ho3 : okS (k) (a + 1) st3 := pWr_ok (k := k) ho2 hR3
              obtain ⟨p13, p23, p33, p43, p53⟩ := id ho3
              show bV O _ d 77 [(5, .int st.1.2.2.1), (4, .int (nI c)), (3, .int 1), (0, .ref 33), (1, .int (nI b)), (2, .int (nI i))] [.int 1] (bU (bU (bU (bU f 34 (.inr (5, [.ref 35, .int tl, .int (nI e), .int (nI st3.1.2.1), .int (nI st3.1.1), .int st3.1.2.2.1, .int st3.1.2.2.2]))) 33 (.inr (3, [.ref 34, .ref 36, .ref 37, .int (nI st3.2.2.1.length), .int (nI st3.2.1), .int st3.2.2.2, .int 0]))) 36 (.inl (0, 60, .inl ks3))) 37 (.inl (0, 60, .inl vs3)), n, s) _
              refine r_if_eq (tgt := 84) (by decide) dX3_readSum_77 (fun h9 => absurd h9 (show ¬ ((1 : Int32) = 0) by decide)) (fun _ => ?_)
              refine r_iconst (v := 1) (by decide) dX3_readSum_80 ?_
              refine r_goto (tgt := 85) (by decide) dX3_readSum_81 ?_
              refine r_istore_n (n := 3) (i := 3) (L' := [(3, .int 1), (5, .int st.1.2.2.1), (4, .int (nI c)), (0, .ref 33), (1, .int (nI b)), (2, .int (nI i))]) rfl dX3_readSum_85 (by decide) rfl ?_
              refine r_iinc (i := 4) (v := nI (c + 1)) (L' := [(4, .int (nI (c + 1))), (3, .int 1), (5, .int st.1.2.2.1), (0, .ref 33), (1, .int (nI b)), (2, .int (nI i))]) 2 rfl (nI_inc1 c) dX3_readSum_86 (by decide) rfl ?_
              refine r_goto (tgt := 10) (by decide) dX3_readSum_89 ?_
              rw [show pSumL bs e T b i (m + 1) st = pSumL bs e T b i m st3 by rw [pSumL_s, if_pos (Or.inr c42)]; try simp only [hR1, hR2, hR3, pB_l, pB_r]]; refine bV_loc [0, 1, 3, 4, 5] rfl ?_; exact ih (c + 1) k (a + 1) st3 ks3 vs3 (by omega) (by omega) hc3 ho3
set_option maxRecDepth 4000 in
theorem c_readSum {O : bO} {d : Nat} {f : bF} {n s : Nat} {tl : Int32} {e : Nat} {bs : Nat → Int32} {st : pS} {ks vs : Nat → Int32} {k a : Nat} (h35 : f 35 = some (.inl (0, 300, .inl bs))) (e0 : e ≤ 300) (hc : cod ks vs st.2.2.1) (ho : okS k a st) {T : Nat → Nat → pS → pR} {dT lev : Nat} (HT : RT O dT lev f n s tl e T) (hT : okT T) {b i : Nat} (hb : b ≤ 8) (hi : i ≤ 8) (hl : (8 - b) + (8 - i) ≤ lev) (h20 : 20 ≤ dT) (hd : dT + 5 ≤ d) : bCall O mX3_readSum d [.ref 33, .int (nI b), .int (nI i)] (hRd f tl e st ks vs 0, n, s) (rP f n s tl e (pSum bs e T b i st)) := by
  refine bCall_of (by decide) rfl (Nat.le_of_ble_eq_true rfl) ?_
  obtain ⟨o1, o2, o3, o4, o5⟩ := id ho
  show bV O _ d 0 [(0, .ref 33), (1, .int (nI b)), (2, .int (nI i))] [] (bU (bU (bU (bU f 34 (.inr (5, [.ref 35, .int tl, .int (nI e), .int (nI st.1.2.1), .int (nI st.1.1), .int st.1.2.2.1, .int st.1.2.2.2]))) 33 (.inr (3, [.ref 34, .ref 36, .ref 37, .int (nI st.2.2.1.length), .int (nI st.2.1), .int st.2.2.2, .int 0]))) 36 (.inl (0, 60, .inl ks))) 37 (.inl (0, 60, .inl vs)), n, s) _
  refine r_aload_n (n := 0) (i := 0) 0 rfl rfl dX3_readSum_0 ?_
  refine r_iload_n (n := 1) (i := 1) 1 rfl rfl dX3_readSum_1 ?_
  refine r_iload_n (n := 2) (i := 2) 2 rfl rfl dX3_readSum_2 ?_
  refine p_callV (As := [.int (nI b), .int (nI i)]) (rest := []) (c_readTerm (d := dT + 4) h35 e0 hc ho HT hT (b := b) (i := i) (by omega) (by omega) (by omega) h20 (Nat.le_refl _)) rfl lkX3_72 imX3_readTerm seX3_readTerm rfl (by exact ((bU_n (by decide)).trans (((bU_n (by decide)).trans (bU_s _ _ _))))) rfl rfl (by omega) (Nat.le_of_ble_eq_true rfl) dX3_readSum_3 (fun v9 G9 h9 => ?_) (fun q9 G9 h9 => absurd h9 rP_nx)
  rcases hR1 : pTerm bs e T b i st with ⟨ft1, pl1⟩ | st1
  · rw [hR1] at h9; obtain ⟨h8, h7⟩ := h9; cases h8
    show bV O _ d 6 [(0, .ref 33), (1, .int (nI b)), (2, .int (nI i))] [.int 0] G9 _
    refine r_istore_n (n := 3) (i := 3) (L' := [(3, .int 0), (0, .ref 33), (1, .int (nI b)), (2, .int (nI i))]) rfl dX3_readSum_6 (by decide) rfl ?_
    refine r_iconst (v := 0) (by decide) dX3_readSum_7 ?_
    refine r_istore (i := 4) (L' := [(4, .int 0), (3, .int 0), (0, .ref 33), (1, .int (nI b)), (2, .int (nI i))]) dX3_readSum_8 (by decide) rfl ?_
    refine r_iload (i := 4) 0 rfl dX3_readSum_10 ?_
    refine r_bipush (v := 60) (by decide) dX3_readSum_12 ?_
    refine r_icmp_gt (tgt := 92) (by decide) dX3_readSum_14 (fun h9 => absurd h9 (show ¬ ((60 : Int32) < 0) by decide)) (fun _ => ?_)
    refine r_iload_n (n := 3) (i := 3) 1 rfl rfl dX3_readSum_17 ?_
    refine r_if_eq (tgt := 92) (by decide) dX3_readSum_18 (fun _ => ?_) (fun h9 => absurd (show (0 : Int32) = 0 by decide) h9)
    refine r_iload_n (n := 3) (i := 3) 1 rfl rfl dX3_readSum_92 ?_
    refine r_zreturn rfl (by first | decide +kernel | exact narZ _ | assumption) dX3_readSum_93 ?_
    rw [show pSum bs e T b i st = .inl (ft1, pl1) by simp only [pSum, pB_l, pB_r, hR1, if_true, if_false, or_true, true_or, or_false, false_or, reduceIte, not_false_eq_true, not_true_eq_false, or_self]]
    exact ⟨rfl, h7⟩
  · rw [hR1] at h9; obtain ⟨h8, ks1, vs1, hc1, rfl⟩ := h9; cases h8
    have ho1 : okS (k) (a) st1 := pTerm_ok e0 hT ho hR1
    obtain ⟨p11, p21, p31, p41, p51⟩ := id ho1
    show bV O _ d 6 [(0, .ref 33), (1, .int (nI b)), (2, .int (nI i))] [.int 1] (bU (bU (bU (bU f 34 (.inr (5, [.ref 35, .int tl, .int (nI e), .int (nI st1.1.2.1), .int (nI st1.1.1), .int st1.1.2.2.1, .int st1.1.2.2.2]))) 33 (.inr (3, [.ref 34, .ref 36, .ref 37, .int (nI st1.2.2.1.length), .int (nI st1.2.1), .int st1.2.2.2, .int 0]))) 36 (.inl (0, 60, .inl ks1))) 37 (.inl (0, 60, .inl vs1)), n, s) _
    refine r_istore_n (n := 3) (i := 3) (L' := [(3, .int 1), (0, .ref 33), (1, .int (nI b)), (2, .int (nI i))]) rfl dX3_readSum_6 (by decide) rfl ?_
    refine r_iconst (v := 0) (by decide) dX3_readSum_7 ?_
    refine r_istore (i := 4) (L' := [(4, .int 0), (3, .int 1), (0, .ref 33), (1, .int (nI b)), (2, .int (nI i))]) dX3_readSum_8 (by decide) rfl ?_
    rw [show pSum bs e T b i st = pSumL bs e T b i 61 st1 by simp only [pSum, hR1, pB_r]]; exact lp_sum h35 e0 HT hT hb hi hl h20 hd 61 0 k a st1 ks1 vs1 rfl (by omega) hc1 ho1
set_option maxRecDepth 4000 in
theorem c_readTest {O : bO} {d : Nat} {f : bF} {n s : Nat} {tl : Int32} {e : Nat} {bs : Nat → Int32} {st : pS} {ks vs : Nat → Int32} {k a : Nat} (h35 : f 35 = some (.inl (0, 300, .inl bs))) (e0 : e ≤ 300) (hc : cod ks vs st.2.2.1) (ho : okS k a st) {T : Nat → Nat → pS → pR} {dT lev : Nat} (HT : RT O dT lev f n s tl e T) (hT : okT T) {b i : Nat} (hb : b ≤ 8) (hi : i ≤ 8) (hl : (8 - b) + (8 - i) ≤ lev) (h20 : 20 ≤ dT) (hd : dT + 6 ≤ d) : bCall O mX3_readTest d [.ref 33, .int (nI b), .int (nI i)] (hRd f tl e st ks vs 0, n, s) (rP f n s tl e (pTest bs e T b i st)) := by
  refine bCall_of (by decide) rfl (Nat.le_of_ble_eq_true rfl) ?_
  obtain ⟨o1, o2, o3, o4, o5⟩ := id ho
  show bV O _ d 0 [(0, .ref 33), (1, .int (nI b)), (2, .int (nI i))] [] (bU (bU (bU (bU f 34 (.inr (5, [.ref 35, .int tl, .int (nI e), .int (nI st.1.2.1), .int (nI st.1.1), .int st.1.2.2.1, .int st.1.2.2.2]))) 33 (.inr (3, [.ref 34, .ref 36, .ref 37, .int (nI st.2.2.1.length), .int (nI st.2.1), .int st.2.2.2, .int 0]))) 36 (.inl (0, 60, .inl ks))) 37 (.inl (0, 60, .inl vs)), n, s) _
  refine r_aload_n (n := 0) (i := 0) 0 rfl rfl dX3_readTest_0 ?_
  refine r_iload_n (n := 1) (i := 1) 1 rfl rfl dX3_readTest_1 ?_
  refine r_iload_n (n := 2) (i := 2) 2 rfl rfl dX3_readTest_2 ?_
  refine p_callV (As := [.int (nI b), .int (nI i)]) (rest := []) (c_readSum (d := dT + 5) h35 e0 hc ho HT hT (b := b) (i := i) (by omega) (by omega) (by omega) h20 (Nat.le_refl _)) rfl lkX3_56 imX3_readSum seX3_readSum rfl (by exact ((bU_n (by decide)).trans (((bU_n (by decide)).trans (bU_s _ _ _))))) rfl rfl (by omega) (Nat.le_of_ble_eq_true rfl) dX3_readTest_3 (fun v9 G9 h9 => ?_) (fun q9 G9 h9 => absurd h9 rP_nx)
  rcases hR1 : pSum bs e T b i st with ⟨ft1, pl1⟩ | st1
  · rw [hR1] at h9; obtain ⟨h8, h7⟩ := h9; cases h8
    show bV O _ d 6 [(0, .ref 33), (1, .int (nI b)), (2, .int (nI i))] [.int 0] G9 _
    refine r_if_ne (tgt := 11) (by decide) dX3_readTest_6 (fun h9 => absurd h9 (show ¬ (¬ (0 : Int32) = 0) by decide)) (fun _ => ?_)
    refine r_iconst (v := 0) (by decide) dX3_readTest_9 ?_
    refine r_zreturn rfl (by first | decide +kernel | exact narZ _ | assumption) dX3_readTest_10 ?_
    rw [show pTest bs e T b i st = .inl (ft1, pl1) by simp only [pTest, hR1, pB_l, pB_r]]
    exact ⟨rfl, h7⟩
  · rw [hR1] at h9; obtain ⟨h8, ks1, vs1, hc1, rfl⟩ := h9; cases h8
    have ho1 : okS (k) (a) st1 := pSum_ok e0 hT ho hR1
    obtain ⟨p11, p21, p31, p41, p51⟩ := id ho1
    show bV O _ d 6 [(0, .ref 33), (1, .int (nI b)), (2, .int (nI i))] [.int 1] (bU (bU (bU (bU f 34 (.inr (5, [.ref 35, .int tl, .int (nI e), .int (nI st1.1.2.1), .int (nI st1.1.1), .int st1.1.2.2.1, .int st1.1.2.2.2]))) 33 (.inr (3, [.ref 34, .ref 36, .ref 37, .int (nI st1.2.2.1.length), .int (nI st1.2.1), .int st1.2.2.2, .int 0]))) 36 (.inl (0, 60, .inl ks1))) 37 (.inl (0, 60, .inl vs1)), n, s) _
    refine r_if_ne (tgt := 11) (by decide) dX3_readTest_6 (fun _ => ?_) (fun h9 => absurd h9 (show ¬ (1 : Int32) = 0 by decide))
    refine r_aload_n (n := 0) (i := 0) 0 rfl rfl dX3_readTest_11 ?_
    refine p_get (fs := [.ref 34, .ref 36, .ref 37, .int (nI st1.2.2.1.length), .int (nI st1.2.1), .int st1.2.2.2, .int 0]) flX3_12 (by exact ((bU_n (by decide)).trans (((bU_n (by decide)).trans (bU_s _ _ _))))) rfl dX3_readTest_12 ?_
    refine p_get (fs := [.ref 35, .int tl, .int (nI e), .int (nI st1.1.2.1), .int (nI st1.1.1), .int st1.1.2.2.1, .int st1.1.2.2.2]) flX3_46 (by exact ((bU_n (by decide)).trans (((bU_n (by decide)).trans (((bU_n (by decide)).trans (bU_s _ _ _))))))) rfl dX3_readTest_15 ?_
    refine r_istore_n (n := 3) (i := 3) (L' := [(3, .int st1.1.2.2.1), (0, .ref 33), (1, .int (nI b)), (2, .int (nI i))]) rfl dX3_readTest_18 (by decide) rfl ?_
    refine r_iload_n (n := 3) (i := 3) 0 rfl rfl dX3_readTest_19 ?_
    refine r_bipush (v := 60) (by decide) dX3_readTest_20 ?_
    refine r_icmp_eq (tgt := 43) (by decide) dX3_readTest_22 (fun c22 => ?_) (fun c22 => ?_)
    · refine r_aload_n (n := 0) (i := 0) 1 rfl rfl dX3_readTest_43 ?_
      refine p_callV (As := []) (rest := []) (c_takePart (d := 8) h35 e0 hc1 ho1 (Nat.le_refl _)) rfl lkX3_59 imX3_takePart seX3_takePart rfl (by exact ((bU_n (by decide)).trans (((bU_n (by decide)).trans (bU_s _ _ _))))) rfl rfl (by omega) (Nat.le_of_ble_eq_true rfl) dX3_readTest_44 (fun v9 G9 h9 => ?_) (fun q9 G9 h9 => absurd h9 rP_nx)
      rcases hR2 : pPart bs e st1 with ⟨ft2, pl2⟩ | st2
      · rw [hR2] at h9; obtain ⟨h8, h7⟩ := h9; cases h8
        show bV O _ d 47 [(3, .int st1.1.2.2.1), (0, .ref 33), (1, .int (nI b)), (2, .int (nI i))] [.int 0] G9 _
        refine r_if_eq (tgt := 72) (by decide) dX3_readTest_47 (fun _ => ?_) (fun h9 => absurd (show (0 : Int32) = 0 by decide) h9)
        refine r_iconst (v := 0) (by decide) dX3_readTest_72 ?_
        refine r_zreturn rfl (by first | decide +kernel | exact narZ _ | assumption) dX3_readTest_73 ?_
        rw [show pTest bs e T b i st = .inl (ft2, pl2) by simp only [pTest, hR1, pB_l, pB_r]; rw [if_pos (Or.inl c22)]; try simp only [hR2, pB_l, pB_r]]
        exact ⟨rfl, h7⟩
      · rw [hR2] at h9; obtain ⟨h8, ks2, vs2, hc2, rfl⟩ := h9; cases h8
        have ho2 : okS (k + 1) (a + 1) st2 := pPart_ok e0 ho1 hR2
        obtain ⟨p12, p22, p32, p42, p52⟩ := id ho2
        show bV O _ d 47 [(3, .int st1.1.2.2.1), (0, .ref 33), (1, .int (nI b)), (2, .int (nI i))] [.int 1] (bU (bU (bU (bU f 34 (.inr (5, [.ref 35, .int tl, .int (nI e), .int (nI st2.1.2.1), .int (nI st2.1.1), .int st2.1.2.2.1, .int st2.1.2.2.2]))) 33 (.inr (3, [.ref 34, .ref 36, .ref 37, .int (nI st2.2.2.1.length), .int (nI st2.2.1), .int st2.2.2.2, .int 0]))) 36 (.inl (0, 60, .inl ks2))) 37 (.inl (0, 60, .inl vs2)), n, s) _
        refine r_if_eq (tgt := 72) (by decide) dX3_readTest_47 (fun h9 => absurd h9 (show ¬ ((1 : Int32) = 0) by decide)) (fun _ => ?_)
        refine r_aload_n (n := 0) (i := 0) 1 rfl rfl dX3_readTest_50 ?_
        refine r_iload_n (n := 1) (i := 1) 2 rfl rfl dX3_readTest_51 ?_
        refine r_iload_n (n := 2) (i := 2) 3 rfl rfl dX3_readTest_52 ?_
        refine p_callV (As := [.int (nI b), .int (nI i)]) (rest := []) (c_readSum (d := dT + 5) h35 e0 hc2 ho2 HT hT (b := b) (i := i) (by omega) (by omega) (by omega) h20 (Nat.le_refl _)) rfl lkX3_56 imX3_readSum seX3_readSum rfl (by exact ((bU_n (by decide)).trans (((bU_n (by decide)).trans (bU_s _ _ _))))) rfl rfl (by omega) (Nat.le_of_ble_eq_true rfl) dX3_readTest_53 (fun v9 G9 h9 => ?_) (fun q9 G9 h9 => absurd h9 rP_nx)
        rcases hR3 : pSum bs e T b i st2 with ⟨ft3, pl3⟩ | st3
        · rw [hR3] at h9; obtain ⟨h8, h7⟩ := h9; cases h8
          show bV O _ d 56 [(3, .int st1.1.2.2.1), (0, .ref 33), (1, .int (nI b)), (2, .int (nI i))] [.int 0] G9 _
          refine r_if_eq (tgt := 72) (by decide) dX3_readTest_56 (fun _ => ?_) (fun h9 => absurd (show (0 : Int32) = 0 by decide) h9)
          refine r_iconst (v := 0) (by decide) dX3_readTest_72 ?_
          refine r_zreturn rfl (by first | decide +kernel | exact narZ _ | assumption) dX3_readTest_73 ?_
          rw [show pTest bs e T b i st = .inl (ft3, pl3) by simp only [pTest, hR1, pB_l, pB_r]; rw [if_pos (Or.inl c22)]; try simp only [hR2, hR3, pB_l, pB_r]]
          exact ⟨rfl, h7⟩
        · rw [hR3] at h9; obtain ⟨h8, ks3, vs3, hc3, rfl⟩ := h9; cases h8
          have ho3 : okS (k + 1) (a + 1) st3 := pSum_ok e0 hT ho2 hR3
          obtain ⟨p13, p23, p33, p43, p53⟩ := id ho3
          show bV O _ d 56 [(3, .int st1.1.2.2.1), (0, .ref 33), (1, .int (nI b)), (2, .int (nI i))] [.int 1] (bU (bU (bU (bU f 34 (.inr (5, [.ref 35, .int tl, .int (nI e), .int (nI st3.1.2.1), .int (nI st3.1.1), .int st3.1.2.2.1, .int st3.1.2.2.2]))) 33 (.inr (3, [.ref 34, .ref 36, .ref 37, .int (nI st3.2.2.1.length), .int (nI st3.2.1), .int st3.2.2.2, .int 0]))) 36 (.inl (0, 60, .inl ks3))) 37 (.inl (0, 60, .inl vs3)), n, s) _
          refine r_if_eq (tgt := 72) (by decide) dX3_readTest_56 (fun h9 => absurd h9 (show ¬ ((1 : Int32) = 0) by decide)) (fun _ => ?_)
          refine r_aload_n (n := 0) (i := 0) 1 rfl rfl dX3_readTest_59 ?_
          refine r_iload_n (n := 3) (i := 3) 0 rfl rfl dX3_readTest_60 ?_
          refine r_iconst (v := 0) (by decide) dX3_readTest_61 ?_
          refine p_callV (As := [.int st1.1.2.2.1, .int 0]) (rest := []) (c_write (d := 1) h35 e0 hc3 ho3 (by omega) (Nat.le_refl _)) rfl lkX3_69 imX3_write seX3_write rfl (by exact ((bU_n (by decide)).trans (((bU_n (by decide)).trans (bU_s _ _ _))))) rfl rfl (by omega) (Nat.le_of_ble_eq_true rfl) dX3_readTest_62 (fun v9 G9 h9 => ?_) (fun q9 G9 h9 => absurd h9 rP_nx)
          rcases hR4 : pWr st1.1.2.2.1 0 st3 with ⟨ft4, pl4⟩ | st4
          · cases hR4
          · rw [hR4] at h9; obtain ⟨h8, ks4, vs4, hc4, rfl⟩ := h9; cases h8
            have ho4 : okS (k) (a + 1) st4 := pWr_ok (k := k) ho3 hR4
            obtain ⟨p14, p24, p34, p44, p54⟩ := id ho4
            show bV O _ d 65 [(3, .int st1.1.2.2.1), (0, .ref 33), (1, .int (nI b)), (2, .int (nI i))] [.int 1] (bU (bU (bU (bU f 34 (.inr (5, [.ref 35, .int tl, .int (nI e), .int (nI st4.1.2.1), .int (nI st4.1.1), .int st4.1.2.2.1, .int st4.1.2.2.2]))) 33 (.inr (3, [.ref 34, .ref 36, .ref 37, .int (nI st4.2.2.1.length), .int (nI st4.2.1), .int st4.2.2.2, .int 0]))) 36 (.inl (0, 60, .inl ks4))) 37 (.inl (0, 60, .inl vs4)), n, s) _
            refine r_if_eq (tgt := 72) (by decide) dX3_readTest_65 (fun h9 => absurd h9 (show ¬ ((1 : Int32) = 0) by decide)) (fun _ => ?_)
            refine r_iconst (v := 1) (by decide) dX3_readTest_68 ?_
            refine r_goto (tgt := 73) (by decide) dX3_readTest_69 ?_
            refine r_zreturn rfl (by first | decide +kernel | exact narZ _ | assumption) dX3_readTest_73 ?_
            rw [show pTest bs e T b i st = .inr st4 by simp only [pTest, hR1, pB_l, pB_r]; rw [if_pos (Or.inl c22)]; try simp only [hR2, hR3, hR4, pB_l, pB_r]]
            exact ⟨rfl, ks4, vs4, hc4, rfl⟩
    · refine r_iload_n (n := 3) (i := 3) 0 rfl rfl dX3_readTest_25 ?_
      refine r_bipush (v := 62) (by decide) dX3_readTest_26 ?_
      refine r_icmp_eq (tgt := 43) (by decide) dX3_readTest_28 (fun c28 => ?_) (fun c28 => ?_)
      · refine r_aload_n (n := 0) (i := 0) 1 rfl rfl dX3_readTest_43 ?_
        refine p_callV (As := []) (rest := []) (c_takePart (d := 8) h35 e0 hc1 ho1 (Nat.le_refl _)) rfl lkX3_59 imX3_takePart seX3_takePart rfl (by exact ((bU_n (by decide)).trans (((bU_n (by decide)).trans (bU_s _ _ _))))) rfl rfl (by omega) (Nat.le_of_ble_eq_true rfl) dX3_readTest_44 (fun v9 G9 h9 => ?_) (fun q9 G9 h9 => absurd h9 rP_nx)
        rcases hR2 : pPart bs e st1 with ⟨ft2, pl2⟩ | st2
        · rw [hR2] at h9; obtain ⟨h8, h7⟩ := h9; cases h8
          show bV O _ d 47 [(3, .int st1.1.2.2.1), (0, .ref 33), (1, .int (nI b)), (2, .int (nI i))] [.int 0] G9 _
          refine r_if_eq (tgt := 72) (by decide) dX3_readTest_47 (fun _ => ?_) (fun h9 => absurd (show (0 : Int32) = 0 by decide) h9)
          refine r_iconst (v := 0) (by decide) dX3_readTest_72 ?_
          refine r_zreturn rfl (by first | decide +kernel | exact narZ _ | assumption) dX3_readTest_73 ?_
          rw [show pTest bs e T b i st = .inl (ft2, pl2) by simp only [pTest, hR1, pB_l, pB_r]; rw [if_pos (Or.inr (Or.inl c28))]; try simp only [hR2, pB_l, pB_r]]
          exact ⟨rfl, h7⟩
        · rw [hR2] at h9; obtain ⟨h8, ks2, vs2, hc2, rfl⟩ := h9; cases h8
          have ho2 : okS (k + 1) (a + 1) st2 := pPart_ok e0 ho1 hR2
          obtain ⟨p12, p22, p32, p42, p52⟩ := id ho2
          show bV O _ d 47 [(3, .int st1.1.2.2.1), (0, .ref 33), (1, .int (nI b)), (2, .int (nI i))] [.int 1] (bU (bU (bU (bU f 34 (.inr (5, [.ref 35, .int tl, .int (nI e), .int (nI st2.1.2.1), .int (nI st2.1.1), .int st2.1.2.2.1, .int st2.1.2.2.2]))) 33 (.inr (3, [.ref 34, .ref 36, .ref 37, .int (nI st2.2.2.1.length), .int (nI st2.2.1), .int st2.2.2.2, .int 0]))) 36 (.inl (0, 60, .inl ks2))) 37 (.inl (0, 60, .inl vs2)), n, s) _
          refine r_if_eq (tgt := 72) (by decide) dX3_readTest_47 (fun h9 => absurd h9 (show ¬ ((1 : Int32) = 0) by decide)) (fun _ => ?_)
          refine r_aload_n (n := 0) (i := 0) 1 rfl rfl dX3_readTest_50 ?_
          refine r_iload_n (n := 1) (i := 1) 2 rfl rfl dX3_readTest_51 ?_
          refine r_iload_n (n := 2) (i := 2) 3 rfl rfl dX3_readTest_52 ?_
          refine p_callV (As := [.int (nI b), .int (nI i)]) (rest := []) (c_readSum (d := dT + 5) h35 e0 hc2 ho2 HT hT (b := b) (i := i) (by omega) (by omega) (by omega) h20 (Nat.le_refl _)) rfl lkX3_56 imX3_readSum seX3_readSum rfl (by exact ((bU_n (by decide)).trans (((bU_n (by decide)).trans (bU_s _ _ _))))) rfl rfl (by omega) (Nat.le_of_ble_eq_true rfl) dX3_readTest_53 (fun v9 G9 h9 => ?_) (fun q9 G9 h9 => absurd h9 rP_nx)
          rcases hR3 : pSum bs e T b i st2 with ⟨ft3, pl3⟩ | st3
          · rw [hR3] at h9; obtain ⟨h8, h7⟩ := h9; cases h8
            show bV O _ d 56 [(3, .int st1.1.2.2.1), (0, .ref 33), (1, .int (nI b)), (2, .int (nI i))] [.int 0] G9 _
            refine r_if_eq (tgt := 72) (by decide) dX3_readTest_56 (fun _ => ?_) (fun h9 => absurd (show (0 : Int32) = 0 by decide) h9)
            refine r_iconst (v := 0) (by decide) dX3_readTest_72 ?_
            refine r_zreturn rfl (by first | decide +kernel | exact narZ _ | assumption) dX3_readTest_73 ?_
            rw [show pTest bs e T b i st = .inl (ft3, pl3) by simp only [pTest, hR1, pB_l, pB_r]; rw [if_pos (Or.inr (Or.inl c28))]; try simp only [hR2, hR3, pB_l, pB_r]]
            exact ⟨rfl, h7⟩
          · rw [hR3] at h9; obtain ⟨h8, ks3, vs3, hc3, rfl⟩ := h9; cases h8
            have ho3 : okS (k + 1) (a + 1) st3 := pSum_ok e0 hT ho2 hR3
            obtain ⟨p13, p23, p33, p43, p53⟩ := id ho3
            show bV O _ d 56 [(3, .int st1.1.2.2.1), (0, .ref 33), (1, .int (nI b)), (2, .int (nI i))] [.int 1] (bU (bU (bU (bU f 34 (.inr (5, [.ref 35, .int tl, .int (nI e), .int (nI st3.1.2.1), .int (nI st3.1.1), .int st3.1.2.2.1, .int st3.1.2.2.2]))) 33 (.inr (3, [.ref 34, .ref 36, .ref 37, .int (nI st3.2.2.1.length), .int (nI st3.2.1), .int st3.2.2.2, .int 0]))) 36 (.inl (0, 60, .inl ks3))) 37 (.inl (0, 60, .inl vs3)), n, s) _
            refine r_if_eq (tgt := 72) (by decide) dX3_readTest_56 (fun h9 => absurd h9 (show ¬ ((1 : Int32) = 0) by decide)) (fun _ => ?_)
            refine r_aload_n (n := 0) (i := 0) 1 rfl rfl dX3_readTest_59 ?_
            refine r_iload_n (n := 3) (i := 3) 0 rfl rfl dX3_readTest_60 ?_
            refine r_iconst (v := 0) (by decide) dX3_readTest_61 ?_
            refine p_callV (As := [.int st1.1.2.2.1, .int 0]) (rest := []) (c_write (d := 1) h35 e0 hc3 ho3 (by omega) (Nat.le_refl _)) rfl lkX3_69 imX3_write seX3_write rfl (by exact ((bU_n (by decide)).trans (((bU_n (by decide)).trans (bU_s _ _ _))))) rfl rfl (by omega) (Nat.le_of_ble_eq_true rfl) dX3_readTest_62 (fun v9 G9 h9 => ?_) (fun q9 G9 h9 => absurd h9 rP_nx)
            rcases hR4 : pWr st1.1.2.2.1 0 st3 with ⟨ft4, pl4⟩ | st4
            · cases hR4
            · rw [hR4] at h9; obtain ⟨h8, ks4, vs4, hc4, rfl⟩ := h9; cases h8
              have ho4 : okS (k) (a + 1) st4 := pWr_ok (k := k) ho3 hR4
              obtain ⟨p14, p24, p34, p44, p54⟩ := id ho4
              show bV O _ d 65 [(3, .int st1.1.2.2.1), (0, .ref 33), (1, .int (nI b)), (2, .int (nI i))] [.int 1] (bU (bU (bU (bU f 34 (.inr (5, [.ref 35, .int tl, .int (nI e), .int (nI st4.1.2.1), .int (nI st4.1.1), .int st4.1.2.2.1, .int st4.1.2.2.2]))) 33 (.inr (3, [.ref 34, .ref 36, .ref 37, .int (nI st4.2.2.1.length), .int (nI st4.2.1), .int st4.2.2.2, .int 0]))) 36 (.inl (0, 60, .inl ks4))) 37 (.inl (0, 60, .inl vs4)), n, s) _
              refine r_if_eq (tgt := 72) (by decide) dX3_readTest_65 (fun h9 => absurd h9 (show ¬ ((1 : Int32) = 0) by decide)) (fun _ => ?_)
              refine r_iconst (v := 1) (by decide) dX3_readTest_68 ?_
              refine r_goto (tgt := 73) (by decide) dX3_readTest_69 ?_
              refine r_zreturn rfl (by first | decide +kernel | exact narZ _ | assumption) dX3_readTest_73 ?_
              rw [show pTest bs e T b i st = .inr st4 by simp only [pTest, hR1, pB_l, pB_r]; rw [if_pos (Or.inr (Or.inl c28))]; try simp only [hR2, hR3, hR4, pB_l, pB_r]]
              exact ⟨rfl, ks4, vs4, hc4, rfl⟩
      · refine r_iload_n (n := 3) (i := 3) 0 rfl rfl dX3_readTest_31 ?_
        refine r_bipush (v := 61) (by decide) dX3_readTest_32 ?_
        refine r_icmp_eq (tgt := 43) (by decide) dX3_readTest_34 (fun c34 => ?_) (fun c34 => ?_)
        · refine r_aload_n (n := 0) (i := 0) 1 rfl rfl dX3_readTest_43 ?_
          refine p_callV (As := []) (rest := []) (c_takePart (d := 8) h35 e0 hc1 ho1 (Nat.le_refl _)) rfl lkX3_59 imX3_takePart seX3_takePart rfl (by exact ((bU_n (by decide)).trans (((bU_n (by decide)).trans (bU_s _ _ _))))) rfl rfl (by omega) (Nat.le_of_ble_eq_true rfl) dX3_readTest_44 (fun v9 G9 h9 => ?_) (fun q9 G9 h9 => absurd h9 rP_nx)
          rcases hR2 : pPart bs e st1 with ⟨ft2, pl2⟩ | st2
          · rw [hR2] at h9; obtain ⟨h8, h7⟩ := h9; cases h8
            show bV O _ d 47 [(3, .int st1.1.2.2.1), (0, .ref 33), (1, .int (nI b)), (2, .int (nI i))] [.int 0] G9 _
            refine r_if_eq (tgt := 72) (by decide) dX3_readTest_47 (fun _ => ?_) (fun h9 => absurd (show (0 : Int32) = 0 by decide) h9)
            refine r_iconst (v := 0) (by decide) dX3_readTest_72 ?_
            refine r_zreturn rfl (by first | decide +kernel | exact narZ _ | assumption) dX3_readTest_73 ?_
            rw [show pTest bs e T b i st = .inl (ft2, pl2) by simp only [pTest, hR1, pB_l, pB_r]; rw [if_pos (Or.inr (Or.inr c34))]; try simp only [hR2, pB_l, pB_r]]
            exact ⟨rfl, h7⟩
          · rw [hR2] at h9; obtain ⟨h8, ks2, vs2, hc2, rfl⟩ := h9; cases h8
            have ho2 : okS (k + 1) (a + 1) st2 := pPart_ok e0 ho1 hR2
            obtain ⟨p12, p22, p32, p42, p52⟩ := id ho2
            show bV O _ d 47 [(3, .int st1.1.2.2.1), (0, .ref 33), (1, .int (nI b)), (2, .int (nI i))] [.int 1] (bU (bU (bU (bU f 34 (.inr (5, [.ref 35, .int tl, .int (nI e), .int (nI st2.1.2.1), .int (nI st2.1.1), .int st2.1.2.2.1, .int st2.1.2.2.2]))) 33 (.inr (3, [.ref 34, .ref 36, .ref 37, .int (nI st2.2.2.1.length), .int (nI st2.2.1), .int st2.2.2.2, .int 0]))) 36 (.inl (0, 60, .inl ks2))) 37 (.inl (0, 60, .inl vs2)), n, s) _
            refine r_if_eq (tgt := 72) (by decide) dX3_readTest_47 (fun h9 => absurd h9 (show ¬ ((1 : Int32) = 0) by decide)) (fun _ => ?_)
            refine r_aload_n (n := 0) (i := 0) 1 rfl rfl dX3_readTest_50 ?_
            refine r_iload_n (n := 1) (i := 1) 2 rfl rfl dX3_readTest_51 ?_
            refine r_iload_n (n := 2) (i := 2) 3 rfl rfl dX3_readTest_52 ?_
            refine p_callV (As := [.int (nI b), .int (nI i)]) (rest := []) (c_readSum (d := dT + 5) h35 e0 hc2 ho2 HT hT (b := b) (i := i) (by omega) (by omega) (by omega) h20 (Nat.le_refl _)) rfl lkX3_56 imX3_readSum seX3_readSum rfl (by exact ((bU_n (by decide)).trans (((bU_n (by decide)).trans (bU_s _ _ _))))) rfl rfl (by omega) (Nat.le_of_ble_eq_true rfl) dX3_readTest_53 (fun v9 G9 h9 => ?_) (fun q9 G9 h9 => absurd h9 rP_nx)
            rcases hR3 : pSum bs e T b i st2 with ⟨ft3, pl3⟩ | st3
            · rw [hR3] at h9; obtain ⟨h8, h7⟩ := h9; cases h8
              show bV O _ d 56 [(3, .int st1.1.2.2.1), (0, .ref 33), (1, .int (nI b)), (2, .int (nI i))] [.int 0] G9 _
              refine r_if_eq (tgt := 72) (by decide) dX3_readTest_56 (fun _ => ?_) (fun h9 => absurd (show (0 : Int32) = 0 by decide) h9)
              refine r_iconst (v := 0) (by decide) dX3_readTest_72 ?_
              refine r_zreturn rfl (by first | decide +kernel | exact narZ _ | assumption) dX3_readTest_73 ?_
              rw [show pTest bs e T b i st = .inl (ft3, pl3) by simp only [pTest, hR1, pB_l, pB_r]; rw [if_pos (Or.inr (Or.inr c34))]; try simp only [hR2, hR3, pB_l, pB_r]]
              exact ⟨rfl, h7⟩
            · rw [hR3] at h9; obtain ⟨h8, ks3, vs3, hc3, rfl⟩ := h9; cases h8
              have ho3 : okS (k + 1) (a + 1) st3 := pSum_ok e0 hT ho2 hR3
              obtain ⟨p13, p23, p33, p43, p53⟩ := id ho3
              show bV O _ d 56 [(3, .int st1.1.2.2.1), (0, .ref 33), (1, .int (nI b)), (2, .int (nI i))] [.int 1] (bU (bU (bU (bU f 34 (.inr (5, [.ref 35, .int tl, .int (nI e), .int (nI st3.1.2.1), .int (nI st3.1.1), .int st3.1.2.2.1, .int st3.1.2.2.2]))) 33 (.inr (3, [.ref 34, .ref 36, .ref 37, .int (nI st3.2.2.1.length), .int (nI st3.2.1), .int st3.2.2.2, .int 0]))) 36 (.inl (0, 60, .inl ks3))) 37 (.inl (0, 60, .inl vs3)), n, s) _
              refine r_if_eq (tgt := 72) (by decide) dX3_readTest_56 (fun h9 => absurd h9 (show ¬ ((1 : Int32) = 0) by decide)) (fun _ => ?_)
              refine r_aload_n (n := 0) (i := 0) 1 rfl rfl dX3_readTest_59 ?_
              refine r_iload_n (n := 3) (i := 3) 0 rfl rfl dX3_readTest_60 ?_
              refine r_iconst (v := 0) (by decide) dX3_readTest_61 ?_
              refine p_callV (As := [.int st1.1.2.2.1, .int 0]) (rest := []) (c_write (d := 1) h35 e0 hc3 ho3 (by omega) (Nat.le_refl _)) rfl lkX3_69 imX3_write seX3_write rfl (by exact ((bU_n (by decide)).trans (((bU_n (by decide)).trans (bU_s _ _ _))))) rfl rfl (by omega) (Nat.le_of_ble_eq_true rfl) dX3_readTest_62 (fun v9 G9 h9 => ?_) (fun q9 G9 h9 => absurd h9 rP_nx)
              rcases hR4 : pWr st1.1.2.2.1 0 st3 with ⟨ft4, pl4⟩ | st4
              · cases hR4
              · rw [hR4] at h9; obtain ⟨h8, ks4, vs4, hc4, rfl⟩ := h9; cases h8
                have ho4 : okS (k) (a + 1) st4 := pWr_ok (k := k) ho3 hR4
                obtain ⟨p14, p24, p34, p44, p54⟩ := id ho4
                show bV O _ d 65 [(3, .int st1.1.2.2.1), (0, .ref 33), (1, .int (nI b)), (2, .int (nI i))] [.int 1] (bU (bU (bU (bU f 34 (.inr (5, [.ref 35, .int tl, .int (nI e), .int (nI st4.1.2.1), .int (nI st4.1.1), .int st4.1.2.2.1, .int st4.1.2.2.2]))) 33 (.inr (3, [.ref 34, .ref 36, .ref 37, .int (nI st4.2.2.1.length), .int (nI st4.2.1), .int st4.2.2.2, .int 0]))) 36 (.inl (0, 60, .inl ks4))) 37 (.inl (0, 60, .inl vs4)), n, s) _
                refine r_if_eq (tgt := 72) (by decide) dX3_readTest_65 (fun h9 => absurd h9 (show ¬ ((1 : Int32) = 0) by decide)) (fun _ => ?_)
                refine r_iconst (v := 1) (by decide) dX3_readTest_68 ?_
                refine r_goto (tgt := 73) (by decide) dX3_readTest_69 ?_
                refine r_zreturn rfl (by first | decide +kernel | exact narZ _ | assumption) dX3_readTest_73 ?_
                rw [show pTest bs e T b i st = .inr st4 by simp only [pTest, hR1, pB_l, pB_r]; rw [if_pos (Or.inr (Or.inr c34))]; try simp only [hR2, hR3, hR4, pB_l, pB_r]]
                exact ⟨rfl, ks4, vs4, hc4, rfl⟩
        · refine r_aload_n (n := 0) (i := 0) 1 rfl rfl dX3_readTest_37 ?_
          refine r_iconst (v := 1) (by decide) dX3_readTest_38 ?_
          refine p_callV (As := [.int 1]) (rest := []) (kX3_meet (O := O) (d := 0) (f := bU (bU (bU (bU f 34 (.inr (5, [.ref 35, .int tl, .int (nI e), .int (nI st1.1.2.1), .int (nI st1.1.1), .int st1.1.2.2.1, .int st1.1.2.2.2]))) 33 (.inr (3, [.ref 34, .ref 36, .ref 37, .int (nI st1.2.2.1.length), .int (nI st1.2.1), .int st1.2.2.2, .int 0]))) 36 (.inl (0, 60, .inl ks1))) 37 (.inl (0, 60, .inl vs1))) (n := n) (s := s) (w := nI st1.2.2.1.length) (m := nI st1.2.1) (bi := st1.2.2.2) (ft := 0) (x := 1) (by exact ((bU_n (by decide)).trans (((bU_n (by decide)).trans (bU_s _ _ _)))))  (Nat.le_refl _)).call rfl lkX3_49 imX3_meet seX3_meet rfl (by exact ((bU_n (by decide)).trans (((bU_n (by decide)).trans (bU_s _ _ _))))) rfl rfl (by omega) (Nat.le_of_ble_eq_true rfl) dX3_readTest_39 (fun v9 G9 h9 => ?_) (fun q9 G9 h9 => (by cases h9.1))
          obtain ⟨h8, rfl⟩ := h9; cases h8
          refine bV_h (f2 := bU (bU (bU (bU f 34 (.inr (5, [.ref 35, .int tl, .int (nI e), .int (nI st1.1.2.1), .int (nI st1.1.1), .int st1.1.2.2.1, .int st1.1.2.2.2]))) 33 (.inr (3, [.ref 34, .ref 36, .ref 37, .int (nI st1.2.2.1.length), .int (nI st1.2.1), .int st1.2.2.2, .int 1]))) 36 (.inl (0, 60, .inl ks1))) 37 (.inl (0, 60, .inl vs1))) (((bU_c (by decide)).trans (congrArg (fun z => bU z 37 (.inl (0, 60, .inl vs1))) (((bU_c (by decide)).trans (congrArg (fun z => bU z 36 (.inl (0, 60, .inl ks1))) (bU_u _ _ _ _))))))) ?_
          show bV O _ d 42 [(3, .int st1.1.2.2.1), (0, .ref 33), (1, .int (nI b)), (2, .int (nI i))] [.int 0] (bU (bU (bU (bU f 34 (.inr (5, [.ref 35, .int tl, .int (nI e), .int (nI st1.1.2.1), .int (nI st1.1.1), .int st1.1.2.2.1, .int st1.1.2.2.2]))) 33 (.inr (3, [.ref 34, .ref 36, .ref 37, .int (nI st1.2.2.1.length), .int (nI st1.2.1), .int st1.2.2.2, .int 1]))) 36 (.inl (0, 60, .inl ks1))) 37 (.inl (0, 60, .inl vs1)), n, s) _
          refine r_zreturn rfl (by first | decide +kernel | exact narZ _ | assumption) dX3_readTest_42 ?_
          rw [show pTest bs e T b i st = .inl (1, st1.1.1) by simp only [pTest, hR1, pB_l, pB_r]; rw [if_neg (fun h => h.elim c22 (fun h => h.elim c28 c34))]]
          exact ⟨rfl, st1, ks1, vs1, rfl, rfl⟩
set_option maxRecDepth 4000 in
theorem c_readIf {O : bO} {d : Nat} {f : bF} {n s : Nat} {tl : Int32} {e : Nat} {bs : Nat → Int32} {st : pS} {ks vs : Nat → Int32} {k a : Nat} (h35 : f 35 = some (.inl (0, 300, .inl bs))) (e0 : e ≤ 300) (hc : cod ks vs st.2.2.1) (ho : okS k a st) {T : Nat → Nat → pS → pR} {dT lev : Nat} (HT : RT O dT lev f n s tl e T) (hT : okT T) {b i : Nat} (hb : b ≤ 8) (hi : i ≤ 8) (hl : (8 - b) + (8 - i) ≤ lev) (h20 : 20 ≤ dT) (hd : dT + 7 ≤ d) : bCall O mX3_readIf d [.ref 33, .int (nI b), .int (nI i)] (hRd f tl e st ks vs 0, n, s) (rP f n s tl e (pIf bs e T b i st)) := by
  refine bCall_of (by decide) rfl (Nat.le_of_ble_eq_true rfl) ?_
  obtain ⟨o1, o2, o3, o4, o5⟩ := id ho
  show bV O _ d 0 [(0, .ref 33), (1, .int (nI b)), (2, .int (nI i))] [] (bU (bU (bU (bU f 34 (.inr (5, [.ref 35, .int tl, .int (nI e), .int (nI st.1.2.1), .int (nI st.1.1), .int st.1.2.2.1, .int st.1.2.2.2]))) 33 (.inr (3, [.ref 34, .ref 36, .ref 37, .int (nI st.2.2.1.length), .int (nI st.2.1), .int st.2.2.2, .int 0]))) 36 (.inl (0, 60, .inl ks))) 37 (.inl (0, 60, .inl vs)), n, s) _
  refine r_iload_n (n := 2) (i := 2) 2 rfl rfl dX3_readIf_0 ?_
  refine r_bipush (v := 8) (by decide) dX3_readIf_1 ?_
  refine r_icmp_lt (tgt := 12) (by decide) dX3_readIf_3 (fun c3 => ?_) (fun c3 => ?_)
  · have c3 : i < 8 := (nI_ltI (a := i) (b := 8) (by omega) (by omega)).mp c3
    refine r_aload_n (n := 0) (i := 0) 0 rfl rfl dX3_readIf_12 ?_
    refine p_callV (As := []) (rest := []) (c_takePart (d := 8) h35 e0 hc ho (Nat.le_refl _)) rfl lkX3_59 imX3_takePart seX3_takePart rfl (by exact ((bU_n (by decide)).trans (((bU_n (by decide)).trans (bU_s _ _ _))))) rfl rfl (by omega) (Nat.le_of_ble_eq_true rfl) dX3_readIf_13 (fun v9 G9 h9 => ?_) (fun q9 G9 h9 => absurd h9 rP_nx)
    rcases hR1 : pPart bs e st with ⟨ft1, pl1⟩ | st1
    · rw [hR1] at h9; obtain ⟨h8, h7⟩ := h9; cases h8
      show bV O _ d 16 [(0, .ref 33), (1, .int (nI b)), (2, .int (nI i))] [.int 0] G9 _
      refine r_if_eq (tgt := 87) (by decide) dX3_readIf_16 (fun _ => ?_) (fun h9 => absurd (show (0 : Int32) = 0 by decide) h9)
      refine r_iconst (v := 0) (by decide) dX3_readIf_87 ?_
      refine r_zreturn rfl (by first | decide +kernel | exact narZ _ | assumption) dX3_readIf_88 ?_
      rw [show pIf bs e T b i st = .inl (ft1, pl1) by simp only [pIf, pB_l, pB_r, hR1, c3, if_true, if_false, or_true, true_or, or_false, false_or, reduceIte, not_false_eq_true, not_true_eq_false, or_self]]
      exact ⟨rfl, h7⟩
    · rw [hR1] at h9; obtain ⟨h8, ks1, vs1, hc1, rfl⟩ := h9; cases h8
      have ho1 : okS (k + 1) (a + 1) st1 := pPart_ok e0 ho hR1
      obtain ⟨p11, p21, p31, p41, p51⟩ := id ho1
      show bV O _ d 16 [(0, .ref 33), (1, .int (nI b)), (2, .int (nI i))] [.int 1] (bU (bU (bU (bU f 34 (.inr (5, [.ref 35, .int tl, .int (nI e), .int (nI st1.1.2.1), .int (nI st1.1.1), .int st1.1.2.2.1, .int st1.1.2.2.2]))) 33 (.inr (3, [.ref 34, .ref 36, .ref 37, .int (nI st1.2.2.1.length), .int (nI st1.2.1), .int st1.2.2.2, .int 0]))) 36 (.inl (0, 60, .inl ks1))) 37 (.inl (0, 60, .inl vs1)), n, s) _
      refine r_if_eq (tgt := 87) (by decide) dX3_readIf_16 (fun h9 => absurd h9 (show ¬ ((1 : Int32) = 0) by decide)) (fun _ => ?_)
      refine r_aload_n (n := 0) (i := 0) 0 rfl rfl dX3_readIf_19 ?_
      refine r_iload_n (n := 1) (i := 1) 1 rfl rfl dX3_readIf_20 ?_
      refine r_iload_n (n := 2) (i := 2) 2 rfl rfl dX3_readIf_21 ?_
      refine r_iconst (v := 1) (by decide) dX3_readIf_22 ?_
      refine r_iaddE (v := nI (i + 1)) (nI_add i 1) dX3_readIf_23 ?_
      refine p_callV (As := [.int (nI b), .int (nI (i + 1))]) (rest := []) (c_readTest (d := dT + 6) h35 e0 hc1 ho1 HT hT (b := b) (i := i + 1) (by omega) (by omega) (by omega) h20 (Nat.le_refl _)) rfl lkX3_63 imX3_readTest seX3_readTest rfl (by exact ((bU_n (by decide)).trans (((bU_n (by decide)).trans (bU_s _ _ _))))) rfl rfl (by omega) (Nat.le_of_ble_eq_true rfl) dX3_readIf_24 (fun v9 G9 h9 => ?_) (fun q9 G9 h9 => absurd h9 rP_nx)
      rcases hR2 : pTest bs e T b (i + 1) st1 with ⟨ft2, pl2⟩ | st2
      · rw [hR2] at h9; obtain ⟨h8, h7⟩ := h9; cases h8
        show bV O _ d 27 [(0, .ref 33), (1, .int (nI b)), (2, .int (nI i))] [.int 0] G9 _
        refine r_if_eq (tgt := 87) (by decide) dX3_readIf_27 (fun _ => ?_) (fun h9 => absurd (show (0 : Int32) = 0 by decide) h9)
        refine r_iconst (v := 0) (by decide) dX3_readIf_87 ?_
        refine r_zreturn rfl (by first | decide +kernel | exact narZ _ | assumption) dX3_readIf_88 ?_
        rw [show pIf bs e T b i st = .inl (ft2, pl2) by simp only [pIf, pB_l, pB_r, hR1, hR2, c3, if_true, if_false, or_true, true_or, or_false, false_or, reduceIte, not_false_eq_true, not_true_eq_false, or_self]]
        exact ⟨rfl, h7⟩
      · rw [hR2] at h9; obtain ⟨h8, ks2, vs2, hc2, rfl⟩ := h9; cases h8
        have ho2 : okS (k + 1) (a + 1) st2 := pTest_ok e0 hT ho1 hR2
        obtain ⟨p12, p22, p32, p42, p52⟩ := id ho2
        show bV O _ d 27 [(0, .ref 33), (1, .int (nI b)), (2, .int (nI i))] [.int 1] (bU (bU (bU (bU f 34 (.inr (5, [.ref 35, .int tl, .int (nI e), .int (nI st2.1.2.1), .int (nI st2.1.1), .int st2.1.2.2.1, .int st2.1.2.2.2]))) 33 (.inr (3, [.ref 34, .ref 36, .ref 37, .int (nI st2.2.2.1.length), .int (nI st2.2.1), .int st2.2.2.2, .int 0]))) 36 (.inl (0, 60, .inl ks2))) 37 (.inl (0, 60, .inl vs2)), n, s) _
        refine r_if_eq (tgt := 87) (by decide) dX3_readIf_27 (fun h9 => absurd h9 (show ¬ ((1 : Int32) = 0) by decide)) (fun _ => ?_)
        refine r_aload_n (n := 0) (i := 0) 0 rfl rfl dX3_readIf_30 ?_
        refine r_sipush (v := 262) (by decide) dX3_readIf_31 ?_
        refine p_callV (As := [.int 262]) (rest := []) (c_take (d := 8) h35 e0 hc2 ho2 (Nat.le_refl _)) rfl lkX3_66 imX3_take seX3_take rfl (by exact ((bU_n (by decide)).trans (((bU_n (by decide)).trans (bU_s _ _ _))))) rfl rfl (by omega) (Nat.le_of_ble_eq_true rfl) dX3_readIf_34 (fun v9 G9 h9 => ?_) (fun q9 G9 h9 => absurd h9 rP_nx)
        rcases hR3 : pTake bs e 262 st2 with ⟨ft3, pl3⟩ | st3
        · rw [hR3] at h9; obtain ⟨h8, h7⟩ := h9; cases h8
          show bV O _ d 37 [(0, .ref 33), (1, .int (nI b)), (2, .int (nI i))] [.int 0] G9 _
          refine r_if_eq (tgt := 87) (by decide) dX3_readIf_37 (fun _ => ?_) (fun h9 => absurd (show (0 : Int32) = 0 by decide) h9)
          refine r_iconst (v := 0) (by decide) dX3_readIf_87 ?_
          refine r_zreturn rfl (by first | decide +kernel | exact narZ _ | assumption) dX3_readIf_88 ?_
          rw [show pIf bs e T b i st = .inl (ft3, pl3) by simp only [pIf, pB_l, pB_r, hR1, hR2, hR3, c3, if_true, if_false, or_true, true_or, or_false, false_or, reduceIte, not_false_eq_true, not_true_eq_false, or_self]]
          exact ⟨rfl, h7⟩
        · rw [hR3] at h9; obtain ⟨h8, ks3, vs3, hc3, rfl⟩ := h9; cases h8
          have ho3 : okS (k + 1) (a + 1) st3 := pTake_ok e0 ho2 hR3
          obtain ⟨p13, p23, p33, p43, p53⟩ := id ho3
          show bV O _ d 37 [(0, .ref 33), (1, .int (nI b)), (2, .int (nI i))] [.int 1] (bU (bU (bU (bU f 34 (.inr (5, [.ref 35, .int tl, .int (nI e), .int (nI st3.1.2.1), .int (nI st3.1.1), .int st3.1.2.2.1, .int st3.1.2.2.2]))) 33 (.inr (3, [.ref 34, .ref 36, .ref 37, .int (nI st3.2.2.1.length), .int (nI st3.2.1), .int st3.2.2.2, .int 0]))) 36 (.inl (0, 60, .inl ks3))) 37 (.inl (0, 60, .inl vs3)), n, s) _
          refine r_if_eq (tgt := 87) (by decide) dX3_readIf_37 (fun h9 => absurd h9 (show ¬ ((1 : Int32) = 0) by decide)) (fun _ => ?_)
          refine r_aload_n (n := 0) (i := 0) 0 rfl rfl dX3_readIf_40 ?_
          refine r_iload_n (n := 1) (i := 1) 1 rfl rfl dX3_readIf_41 ?_
          refine r_iload_n (n := 2) (i := 2) 2 rfl rfl dX3_readIf_42 ?_
          refine r_iconst (v := 1) (by decide) dX3_readIf_43 ?_
          refine r_iaddE (v := nI (i + 1)) (nI_add i 1) dX3_readIf_44 ?_
          refine p_callV (As := [.int (nI b), .int (nI (i + 1))]) (rest := []) (HT (b) (i + 1) _ _ st3 ks3 vs3 (by omega) (by omega) (by omega) hc3 ho3) rfl lkX3_42 imX3_readTell seX3_readTell rfl (by exact ((bU_n (by decide)).trans (((bU_n (by decide)).trans (bU_s _ _ _))))) rfl rfl (by omega) (Nat.le_of_ble_eq_true rfl) dX3_readIf_45 (fun v9 G9 h9 => ?_) (fun q9 G9 h9 => absurd h9 rP_nx)
          rcases hR4 : T (b) (i + 1) st3 with ⟨ft4, pl4⟩ | st4
          · rw [hR4] at h9; obtain ⟨h8, h7⟩ := h9; cases h8
            show bV O _ d 48 [(0, .ref 33), (1, .int (nI b)), (2, .int (nI i))] [.int 0] G9 _
            refine r_if_eq (tgt := 87) (by decide) dX3_readIf_48 (fun _ => ?_) (fun h9 => absurd (show (0 : Int32) = 0 by decide) h9)
            refine r_iconst (v := 0) (by decide) dX3_readIf_87 ?_
            refine r_zreturn rfl (by first | decide +kernel | exact narZ _ | assumption) dX3_readIf_88 ?_
            rw [show pIf bs e T b i st = .inl (ft4, pl4) by simp only [pIf, pB_l, pB_r, hR1, hR2, hR3, hR4, c3, if_true, if_false, or_true, true_or, or_false, false_or, reduceIte, not_false_eq_true, not_true_eq_false, or_self]]
            exact ⟨rfl, h7⟩
          · rw [hR4] at h9; obtain ⟨h8, ks4, vs4, hc4, rfl⟩ := h9; cases h8
            have ho4 : okS (k + 1) (a + 1) st4 := hT _ _ _ _ _ _ ho3 hR4
            obtain ⟨p14, p24, p34, p44, p54⟩ := id ho4
            show bV O _ d 48 [(0, .ref 33), (1, .int (nI b)), (2, .int (nI i))] [.int 1] (bU (bU (bU (bU f 34 (.inr (5, [.ref 35, .int tl, .int (nI e), .int (nI st4.1.2.1), .int (nI st4.1.1), .int st4.1.2.2.1, .int st4.1.2.2.2]))) 33 (.inr (3, [.ref 34, .ref 36, .ref 37, .int (nI st4.2.2.1.length), .int (nI st4.2.1), .int st4.2.2.2, .int 0]))) 36 (.inl (0, 60, .inl ks4))) 37 (.inl (0, 60, .inl vs4)), n, s) _
            refine r_if_eq (tgt := 87) (by decide) dX3_readIf_48 (fun h9 => absurd h9 (show ¬ ((1 : Int32) = 0) by decide)) (fun _ => ?_)
            refine r_aload_n (n := 0) (i := 0) 0 rfl rfl dX3_readIf_51 ?_
            refine r_sipush (v := 263) (by decide) dX3_readIf_52 ?_
            refine p_callV (As := [.int 263]) (rest := []) (c_take (d := 8) h35 e0 hc4 ho4 (Nat.le_refl _)) rfl lkX3_66 imX3_take seX3_take rfl (by exact ((bU_n (by decide)).trans (((bU_n (by decide)).trans (bU_s _ _ _))))) rfl rfl (by omega) (Nat.le_of_ble_eq_true rfl) dX3_readIf_55 (fun v9 G9 h9 => ?_) (fun q9 G9 h9 => absurd h9 rP_nx)
            rcases hR5 : pTake bs e 263 st4 with ⟨ft5, pl5⟩ | st5
            · rw [hR5] at h9; obtain ⟨h8, h7⟩ := h9; cases h8
              show bV O _ d 58 [(0, .ref 33), (1, .int (nI b)), (2, .int (nI i))] [.int 0] G9 _
              refine r_if_eq (tgt := 87) (by decide) dX3_readIf_58 (fun _ => ?_) (fun h9 => absurd (show (0 : Int32) = 0 by decide) h9)
              refine r_iconst (v := 0) (by decide) dX3_readIf_87 ?_
              refine r_zreturn rfl (by first | decide +kernel | exact narZ _ | assumption) dX3_readIf_88 ?_
              rw [show pIf bs e T b i st = .inl (ft5, pl5) by simp only [pIf, pB_l, pB_r, hR1, hR2, hR3, hR4, hR5, c3, if_true, if_false, or_true, true_or, or_false, false_or, reduceIte, not_false_eq_true, not_true_eq_false, or_self]]
              exact ⟨rfl, h7⟩
            · rw [hR5] at h9; obtain ⟨h8, ks5, vs5, hc5, rfl⟩ := h9; cases h8
              have ho5 : okS (k + 1) (a + 1) st5 := pTake_ok e0 ho4 hR5
              obtain ⟨p15, p25, p35, p45, p55⟩ := id ho5
              show bV O _ d 58 [(0, .ref 33), (1, .int (nI b)), (2, .int (nI i))] [.int 1] (bU (bU (bU (bU f 34 (.inr (5, [.ref 35, .int tl, .int (nI e), .int (nI st5.1.2.1), .int (nI st5.1.1), .int st5.1.2.2.1, .int st5.1.2.2.2]))) 33 (.inr (3, [.ref 34, .ref 36, .ref 37, .int (nI st5.2.2.1.length), .int (nI st5.2.1), .int st5.2.2.2, .int 0]))) 36 (.inl (0, 60, .inl ks5))) 37 (.inl (0, 60, .inl vs5)), n, s) _
              refine r_if_eq (tgt := 87) (by decide) dX3_readIf_58 (fun h9 => absurd h9 (show ¬ ((1 : Int32) = 0) by decide)) (fun _ => ?_)
              refine r_aload_n (n := 0) (i := 0) 0 rfl rfl dX3_readIf_61 ?_
              refine r_iload_n (n := 1) (i := 1) 1 rfl rfl dX3_readIf_62 ?_
              refine r_iload_n (n := 2) (i := 2) 2 rfl rfl dX3_readIf_63 ?_
              refine r_iconst (v := 1) (by decide) dX3_readIf_64 ?_
              refine r_iaddE (v := nI (i + 1)) (nI_add i 1) dX3_readIf_65 ?_
              refine p_callV (As := [.int (nI b), .int (nI (i + 1))]) (rest := []) (HT (b) (i + 1) _ _ st5 ks5 vs5 (by omega) (by omega) (by omega) hc5 ho5) rfl lkX3_42 imX3_readTell seX3_readTell rfl (by exact ((bU_n (by decide)).trans (((bU_n (by decide)).trans (bU_s _ _ _))))) rfl rfl (by omega) (Nat.le_of_ble_eq_true rfl) dX3_readIf_66 (fun v9 G9 h9 => ?_) (fun q9 G9 h9 => absurd h9 rP_nx)
              rcases hR6 : T (b) (i + 1) st5 with ⟨ft6, pl6⟩ | st6
              · rw [hR6] at h9; obtain ⟨h8, h7⟩ := h9; cases h8
                show bV O _ d 69 [(0, .ref 33), (1, .int (nI b)), (2, .int (nI i))] [.int 0] G9 _
                refine r_if_eq (tgt := 87) (by decide) dX3_readIf_69 (fun _ => ?_) (fun h9 => absurd (show (0 : Int32) = 0 by decide) h9)
                refine r_iconst (v := 0) (by decide) dX3_readIf_87 ?_
                refine r_zreturn rfl (by first | decide +kernel | exact narZ _ | assumption) dX3_readIf_88 ?_
                rw [show pIf bs e T b i st = .inl (ft6, pl6) by simp only [pIf, pB_l, pB_r, hR1, hR2, hR3, hR4, hR5, hR6, c3, if_true, if_false, or_true, true_or, or_false, false_or, reduceIte, not_false_eq_true, not_true_eq_false, or_self]]
                exact ⟨rfl, h7⟩
              · rw [hR6] at h9; obtain ⟨h8, ks6, vs6, hc6, rfl⟩ := h9; cases h8
                have ho6 : okS (k + 1) (a + 1) st6 := hT _ _ _ _ _ _ ho5 hR6
                obtain ⟨p16, p26, p36, p46, p56⟩ := id ho6
                show bV O _ d 69 [(0, .ref 33), (1, .int (nI b)), (2, .int (nI i))] [.int 1] (bU (bU (bU (bU f 34 (.inr (5, [.ref 35, .int tl, .int (nI e), .int (nI st6.1.2.1), .int (nI st6.1.1), .int st6.1.2.2.1, .int st6.1.2.2.2]))) 33 (.inr (3, [.ref 34, .ref 36, .ref 37, .int (nI st6.2.2.1.length), .int (nI st6.2.1), .int st6.2.2.2, .int 0]))) 36 (.inl (0, 60, .inl ks6))) 37 (.inl (0, 60, .inl vs6)), n, s) _
                refine r_if_eq (tgt := 87) (by decide) dX3_readIf_69 (fun h9 => absurd h9 (show ¬ ((1 : Int32) = 0) by decide)) (fun _ => ?_)
                refine r_aload_n (n := 0) (i := 0) 0 rfl rfl dX3_readIf_72 ?_
                refine r_sipush (v := 261) (by decide) dX3_readIf_73 ?_
                refine r_iconst (v := 0) (by decide) dX3_readIf_76 ?_
                refine p_callV (As := [.int 261, .int 0]) (rest := []) (c_write (d := 1) h35 e0 hc6 ho6 (by omega) (Nat.le_refl _)) rfl lkX3_69 imX3_write seX3_write rfl (by exact ((bU_n (by decide)).trans (((bU_n (by decide)).trans (bU_s _ _ _))))) rfl rfl (by omega) (Nat.le_of_ble_eq_true rfl) dX3_readIf_77 (fun v9 G9 h9 => ?_) (fun q9 G9 h9 => absurd h9 rP_nx)
                rcases hR7 : pWr 261 0 st6 with ⟨ft7, pl7⟩ | st7
                · cases hR7
                · rw [hR7] at h9; obtain ⟨h8, ks7, vs7, hc7, rfl⟩ := h9; cases h8
                  have ho7 : okS (k) (a + 1) st7 := pWr_ok (k := k) ho6 hR7
                  obtain ⟨p17, p27, p37, p47, p57⟩ := id ho7
                  show bV O _ d 80 [(0, .ref 33), (1, .int (nI b)), (2, .int (nI i))] [.int 1] (bU (bU (bU (bU f 34 (.inr (5, [.ref 35, .int tl, .int (nI e), .int (nI st7.1.2.1), .int (nI st7.1.1), .int st7.1.2.2.1, .int st7.1.2.2.2]))) 33 (.inr (3, [.ref 34, .ref 36, .ref 37, .int (nI st7.2.2.1.length), .int (nI st7.2.1), .int st7.2.2.2, .int 0]))) 36 (.inl (0, 60, .inl ks7))) 37 (.inl (0, 60, .inl vs7)), n, s) _
                  refine r_if_eq (tgt := 87) (by decide) dX3_readIf_80 (fun h9 => absurd h9 (show ¬ ((1 : Int32) = 0) by decide)) (fun _ => ?_)
                  refine r_iconst (v := 1) (by decide) dX3_readIf_83 ?_
                  refine r_goto (tgt := 88) (by decide) dX3_readIf_84 ?_
                  refine r_zreturn rfl (by first | decide +kernel | exact narZ _ | assumption) dX3_readIf_88 ?_
                  rw [show pIf bs e T b i st = .inr st7 by simp only [pIf, pB_l, pB_r, hR1, hR2, hR3, hR4, hR5, hR6, hR7, c3, if_true, if_false, or_true, true_or, or_false, false_or, reduceIte, not_false_eq_true, not_true_eq_false, or_self]]
                  exact ⟨rfl, ks7, vs7, hc7, rfl⟩
  · have c3 : ¬ i < 8 := fun h7 => c3 ((nI_ltI (a := i) (b := 8) (by omega) (by omega)).mpr h7)
    refine r_aload_n (n := 0) (i := 0) 0 rfl rfl dX3_readIf_6 ?_
    refine r_iconst (v := 3) (by decide) dX3_readIf_7 ?_
    refine p_callV (As := [.int 3]) (rest := []) (kX3_meet (O := O) (d := 0) (f := bU (bU (bU (bU f 34 (.inr (5, [.ref 35, .int tl, .int (nI e), .int (nI st.1.2.1), .int (nI st.1.1), .int st.1.2.2.1, .int st.1.2.2.2]))) 33 (.inr (3, [.ref 34, .ref 36, .ref 37, .int (nI st.2.2.1.length), .int (nI st.2.1), .int st.2.2.2, .int 0]))) 36 (.inl (0, 60, .inl ks))) 37 (.inl (0, 60, .inl vs))) (n := n) (s := s) (w := nI st.2.2.1.length) (m := nI st.2.1) (bi := st.2.2.2) (ft := 0) (x := 3) (by exact ((bU_n (by decide)).trans (((bU_n (by decide)).trans (bU_s _ _ _)))))  (Nat.le_refl _)).call rfl lkX3_49 imX3_meet seX3_meet rfl (by exact ((bU_n (by decide)).trans (((bU_n (by decide)).trans (bU_s _ _ _))))) rfl rfl (by omega) (Nat.le_of_ble_eq_true rfl) dX3_readIf_8 (fun v9 G9 h9 => ?_) (fun q9 G9 h9 => (by cases h9.1))
    obtain ⟨h8, rfl⟩ := h9; cases h8
    refine bV_h (f2 := bU (bU (bU (bU f 34 (.inr (5, [.ref 35, .int tl, .int (nI e), .int (nI st.1.2.1), .int (nI st.1.1), .int st.1.2.2.1, .int st.1.2.2.2]))) 33 (.inr (3, [.ref 34, .ref 36, .ref 37, .int (nI st.2.2.1.length), .int (nI st.2.1), .int st.2.2.2, .int 3]))) 36 (.inl (0, 60, .inl ks))) 37 (.inl (0, 60, .inl vs))) (((bU_c (by decide)).trans (congrArg (fun z => bU z 37 (.inl (0, 60, .inl vs))) (((bU_c (by decide)).trans (congrArg (fun z => bU z 36 (.inl (0, 60, .inl ks))) (bU_u _ _ _ _))))))) ?_
    show bV O _ d 11 [(0, .ref 33), (1, .int (nI b)), (2, .int (nI i))] [.int 0] (bU (bU (bU (bU f 34 (.inr (5, [.ref 35, .int tl, .int (nI e), .int (nI st.1.2.1), .int (nI st.1.1), .int st.1.2.2.1, .int st.1.2.2.2]))) 33 (.inr (3, [.ref 34, .ref 36, .ref 37, .int (nI st.2.2.1.length), .int (nI st.2.1), .int st.2.2.2, .int 3]))) 36 (.inl (0, 60, .inl ks))) 37 (.inl (0, 60, .inl vs)), n, s) _
    refine r_zreturn rfl (by first | decide +kernel | exact narZ _ | assumption) dX3_readIf_11 ?_
    rw [show pIf bs e T b i st = .inl (3, st.1.1) by simp only [pIf, pB_l, pB_r, c3, if_true, if_false, or_true, true_or, or_false, false_or, reduceIte, not_false_eq_true, not_true_eq_false, or_self]]
    exact ⟨rfl, st, ks, vs, rfl, rfl⟩
set_option maxRecDepth 4000 in
theorem c_readTell {O : bO} {d : Nat} {f : bF} {n s : Nat} {tl : Int32} {e : Nat} {bs : Nat → Int32} {st : pS} {ks vs : Nat → Int32} {k a : Nat} (h35 : f 35 = some (.inl (0, 300, .inl bs))) (e0 : e ≤ 300) (hc : cod ks vs st.2.2.1) (ho : okS k a st) {T : Nat → Nat → pS → pR} {dT lev : Nat} (HT : RT O dT lev f n s tl e T) (hT : okT T) {b i : Nat} (hb : b ≤ 8) (hi : i ≤ 8) (hl : (8 - b) + (8 - i) ≤ lev) (h20 : 20 ≤ dT) (hd : dT + 8 ≤ d) : bCall O mX3_readTell d [.ref 33, .int (nI b), .int (nI i)] (hRd f tl e st ks vs 0, n, s) (rP f n s tl e (pTell bs e T b i st)) := by
  refine bCall_of (by decide) rfl (Nat.le_of_ble_eq_true rfl) ?_
  obtain ⟨o1, o2, o3, o4, o5⟩ := id ho
  show bV O _ d 0 [(0, .ref 33), (1, .int (nI b)), (2, .int (nI i))] [] (bU (bU (bU (bU f 34 (.inr (5, [.ref 35, .int tl, .int (nI e), .int (nI st.1.2.1), .int (nI st.1.1), .int st.1.2.2.1, .int st.1.2.2.2]))) 33 (.inr (3, [.ref 34, .ref 36, .ref 37, .int (nI st.2.2.1.length), .int (nI st.2.1), .int st.2.2.2, .int 0]))) 36 (.inl (0, 60, .inl ks))) 37 (.inl (0, 60, .inl vs)), n, s) _
  refine r_aload_n (n := 0) (i := 0) 0 rfl rfl dX3_readTell_0 ?_
  refine p_get (fs := [.ref 34, .ref 36, .ref 37, .int (nI st.2.2.1.length), .int (nI st.2.1), .int st.2.2.2, .int 0]) flX3_12 (by exact ((bU_n (by decide)).trans (((bU_n (by decide)).trans (bU_s _ _ _))))) rfl dX3_readTell_1 ?_
  refine p_get (fs := [.ref 35, .int tl, .int (nI e), .int (nI st.1.2.1), .int (nI st.1.1), .int st.1.2.2.1, .int st.1.2.2.2]) flX3_46 (by exact ((bU_n (by decide)).trans (((bU_n (by decide)).trans (((bU_n (by decide)).trans (bU_s _ _ _))))))) rfl dX3_readTell_4 ?_
  refine r_sipush (v := 261) (by decide) dX3_readTell_7 ?_
  refine r_icmp_ne (tgt := 22) (by decide) dX3_readTell_10 (fun c10 => ?_) (fun c10 => ?_)
  · refine r_aload_n (n := 0) (i := 0) 0 rfl rfl dX3_readTell_22 ?_
    refine r_iload_n (n := 1) (i := 1) 1 rfl rfl dX3_readTell_23 ?_
    refine r_iload_n (n := 2) (i := 2) 2 rfl rfl dX3_readTell_24 ?_
    refine p_callV (As := [.int (nI b), .int (nI i)]) (rest := []) (c_readSum (d := dT + 5) h35 e0 hc ho HT hT (b := b) (i := i) (by omega) (by omega) (by omega) h20 (Nat.le_refl _)) rfl lkX3_56 imX3_readSum seX3_readSum rfl (by exact ((bU_n (by decide)).trans (((bU_n (by decide)).trans (bU_s _ _ _))))) rfl rfl (by omega) (Nat.le_of_ble_eq_true rfl) dX3_readTell_25 (fun v9 G9 h9 => ?_) (fun q9 G9 h9 => absurd h9 rP_nx)
    rcases hR1 : pSum bs e T b i st with ⟨ft1, pl1⟩ | st1
    · rw [hR1] at h9; obtain ⟨h8, h7⟩ := h9; cases h8
      show bV O _ d 28 [(0, .ref 33), (1, .int (nI b)), (2, .int (nI i))] [.int 0] G9 _
      refine r_zreturn rfl (by first | decide +kernel | exact narZ _ | assumption) dX3_readTell_28 ?_
      rw [show pTell bs e T b i st = .inl (ft1, pl1) by simp only [pTell, pB_l, pB_r, hR1, c10, if_true, if_false, or_true, true_or, or_false, false_or, reduceIte, not_false_eq_true, not_true_eq_false, or_self]]
      exact ⟨rfl, h7⟩
    · rw [hR1] at h9; obtain ⟨h8, ks1, vs1, hc1, rfl⟩ := h9; cases h8
      have ho1 : okS (k) (a) st1 := pSum_ok e0 hT ho hR1
      obtain ⟨p11, p21, p31, p41, p51⟩ := id ho1
      show bV O _ d 28 [(0, .ref 33), (1, .int (nI b)), (2, .int (nI i))] [.int 1] (bU (bU (bU (bU f 34 (.inr (5, [.ref 35, .int tl, .int (nI e), .int (nI st1.1.2.1), .int (nI st1.1.1), .int st1.1.2.2.1, .int st1.1.2.2.2]))) 33 (.inr (3, [.ref 34, .ref 36, .ref 37, .int (nI st1.2.2.1.length), .int (nI st1.2.1), .int st1.2.2.2, .int 0]))) 36 (.inl (0, 60, .inl ks1))) 37 (.inl (0, 60, .inl vs1)), n, s) _
      refine r_zreturn rfl (by first | decide +kernel | exact narZ _ | assumption) dX3_readTell_28 ?_
      rw [show pTell bs e T b i st = .inr st1 by simp only [pTell, pB_l, pB_r, hR1, c10, if_true, if_false, or_true, true_or, or_false, false_or, reduceIte, not_false_eq_true, not_true_eq_false, or_self]]
      exact ⟨rfl, ks1, vs1, hc1, rfl⟩
  · refine r_aload_n (n := 0) (i := 0) 0 rfl rfl dX3_readTell_13 ?_
    refine r_iload_n (n := 1) (i := 1) 1 rfl rfl dX3_readTell_14 ?_
    refine r_iload_n (n := 2) (i := 2) 2 rfl rfl dX3_readTell_15 ?_
    refine p_callV (As := [.int (nI b), .int (nI i)]) (rest := []) (c_readIf (d := dT + 7) h35 e0 hc ho HT hT (b := b) (i := i) (by omega) (by omega) (by omega) h20 (Nat.le_refl _)) rfl lkX3_53 imX3_readIf seX3_readIf rfl (by exact ((bU_n (by decide)).trans (((bU_n (by decide)).trans (bU_s _ _ _))))) rfl rfl (by omega) (Nat.le_of_ble_eq_true rfl) dX3_readTell_16 (fun v9 G9 h9 => ?_) (fun q9 G9 h9 => absurd h9 rP_nx)
    rcases hR1 : pIf bs e T b i st with ⟨ft1, pl1⟩ | st1
    · rw [hR1] at h9; obtain ⟨h8, h7⟩ := h9; cases h8
      show bV O _ d 19 [(0, .ref 33), (1, .int (nI b)), (2, .int (nI i))] [.int 0] G9 _
      refine r_goto (tgt := 28) (by decide) dX3_readTell_19 ?_
      refine r_zreturn rfl (by first | decide +kernel | exact narZ _ | assumption) dX3_readTell_28 ?_
      rw [show pTell bs e T b i st = .inl (ft1, pl1) by simp only [pTell, pB_l, pB_r, hR1, c10, if_true, if_false, or_true, true_or, or_false, false_or, reduceIte, not_false_eq_true, not_true_eq_false, or_self]]
      exact ⟨rfl, h7⟩
    · rw [hR1] at h9; obtain ⟨h8, ks1, vs1, hc1, rfl⟩ := h9; cases h8
      have ho1 : okS (k) (a) st1 := pIf_ok e0 hT ho hR1
      obtain ⟨p11, p21, p31, p41, p51⟩ := id ho1
      show bV O _ d 19 [(0, .ref 33), (1, .int (nI b)), (2, .int (nI i))] [.int 1] (bU (bU (bU (bU f 34 (.inr (5, [.ref 35, .int tl, .int (nI e), .int (nI st1.1.2.1), .int (nI st1.1.1), .int st1.1.2.2.1, .int st1.1.2.2.2]))) 33 (.inr (3, [.ref 34, .ref 36, .ref 37, .int (nI st1.2.2.1.length), .int (nI st1.2.1), .int st1.2.2.2, .int 0]))) 36 (.inl (0, 60, .inl ks1))) 37 (.inl (0, 60, .inl vs1)), n, s) _
      refine r_goto (tgt := 28) (by decide) dX3_readTell_19 ?_
      refine r_zreturn rfl (by first | decide +kernel | exact narZ _ | assumption) dX3_readTell_28 ?_
      rw [show pTell bs e T b i st = .inr st1 by simp only [pTell, pB_l, pB_r, hR1, c10, if_true, if_false, or_true, true_or, or_false, false_or, reduceIte, not_false_eq_true, not_true_eq_false, or_self]]
      exact ⟨rfl, ks1, vs1, hc1, rfl⟩
theorem c_RT {O : bO} {f : bF} {n s : Nat} {tl : Int32} {e : Nat} {bs : Nat → Int32} (h35 : f 35 = some (.inl (0, 300, .inl bs))) (e0 : e ≤ 300) : ∀ D : Nat, RT O (20 + 8 * D) D f n s tl e (tellS bs e D) := by
  intro D
  induction D with
  | zero => intro b i k a st ks vs h1 h2 h3; exact absurd h3 (by omega)
  | succ D ih =>
    intro b i k a st ks vs h1 h2 h3 hc ho
    exact c_readTell h35 e0 hc ho ih (tellS_ok e0 D) h1 h2 (by omega) (by omega) (by omega)
