/-! ===== ModelShelf$Tape (printed by wip/gen/tape.py) ===== -/
def jLetter (x : Int32) : Bool := !(decide (x < 97)) && !(decide (122 < x))
def jDigit (x : Int32) : Bool := !(decide (x < 48)) && !(decide (57 < x))
def jSign (x : Int32) : Bool := decide (x = 40) || decide (x = 41) || decide (x = 60) || decide (x = 62) || decide (x = 61) || decide (x = 43) || decide (x = 45) || decide (x = 42) || decide (x = 44)
/-- the byte at a place of a tape of e bytes; -1 beyond -/
def tb (bs : Nat → Int32) (e p : Nat) : Int32 := if p < e then bs p else -1
theorem tb_in {bs : Nat → Int32} {e p : Nat} (h : p < e) : tb bs e p = bs p := by simp [tb, h]
theorem tb_out {bs : Nat → Int32} {e p : Nat} (h : e ≤ p) : tb bs e p = -1 := by simp [tb, Nat.not_lt.mpr h]
/-- a number's byte, by its shift -/
def jSh (v k : Int32) : Int32 := (v.toUInt32 >>> (k.toUInt32 &&& Int32.toUInt32 31)).toInt32 &&& 255
set_option maxRecDepth 4000 in
theorem kX5_isLetter {O : bO} {d : Nat} {f : bF} {n s : Nat} {x : Int32}   (hd : 0 ≤ d) : bMt O mX5_isLetter d [.int x] (f, n, s) (.inl (some (.int (bI (jLetter x))))) (f, n, s) := by
  refine bMt_of (bCall_of (by decide) rfl (Nat.le_of_ble_eq_true rfl) ?_)
  show bV O _ d 0 [(0, .int x)] [] (f, n, s) _
  refine r_iload_n (n := 0) (i := 0) 0 rfl rfl dX5_isLetter_0 ?_
  refine r_bipush (v := 97) (by decide) dX5_isLetter_1 ?_
  refine r_icmp_lt (tgt := 16) (by decide) dX5_isLetter_3 (fun c3 => ?_) (fun c3 => ?_)
  · refine r_iconst (v := 0) (by decide) dX5_isLetter_16 ?_
    refine r_zreturn rfl (by first | decide +kernel | exact narZ _ | assumption) dX5_isLetter_17 ?_
    refine ⟨?_, ?_⟩ <;> first | rfl | (simp [jLetter, bI, c3]; done)
  · refine r_iload_n (n := 0) (i := 0) 0 rfl rfl dX5_isLetter_6 ?_
    refine r_bipush (v := 122) (by decide) dX5_isLetter_7 ?_
    refine r_icmp_gt (tgt := 16) (by decide) dX5_isLetter_9 (fun c9 => ?_) (fun c9 => ?_)
    · refine r_iconst (v := 0) (by decide) dX5_isLetter_16 ?_
      refine r_zreturn rfl (by first | decide +kernel | exact narZ _ | assumption) dX5_isLetter_17 ?_
      refine ⟨?_, ?_⟩ <;> first | rfl | (simp [jLetter, bI, c3, c9]; done)
    · refine r_iconst (v := 1) (by decide) dX5_isLetter_12 ?_
      refine r_goto (tgt := 17) (by decide) dX5_isLetter_13 ?_
      refine r_zreturn rfl (by first | decide +kernel | exact narZ _ | assumption) dX5_isLetter_17 ?_
      refine ⟨?_, ?_⟩ <;> first | rfl | (simp [jLetter, bI, c3, c9]; done)
set_option maxRecDepth 4000 in
theorem kX5_isDigit {O : bO} {d : Nat} {f : bF} {n s : Nat} {x : Int32}   (hd : 0 ≤ d) : bMt O mX5_isDigit d [.int x] (f, n, s) (.inl (some (.int (bI (jDigit x))))) (f, n, s) := by
  refine bMt_of (bCall_of (by decide) rfl (Nat.le_of_ble_eq_true rfl) ?_)
  show bV O _ d 0 [(0, .int x)] [] (f, n, s) _
  refine r_iload_n (n := 0) (i := 0) 0 rfl rfl dX5_isDigit_0 ?_
  refine r_bipush (v := 48) (by decide) dX5_isDigit_1 ?_
  refine r_icmp_lt (tgt := 16) (by decide) dX5_isDigit_3 (fun c3 => ?_) (fun c3 => ?_)
  · refine r_iconst (v := 0) (by decide) dX5_isDigit_16 ?_
    refine r_zreturn rfl (by first | decide +kernel | exact narZ _ | assumption) dX5_isDigit_17 ?_
    refine ⟨?_, ?_⟩ <;> first | rfl | (simp [jDigit, bI, c3]; done)
  · refine r_iload_n (n := 0) (i := 0) 0 rfl rfl dX5_isDigit_6 ?_
    refine r_bipush (v := 57) (by decide) dX5_isDigit_7 ?_
    refine r_icmp_gt (tgt := 16) (by decide) dX5_isDigit_9 (fun c9 => ?_) (fun c9 => ?_)
    · refine r_iconst (v := 0) (by decide) dX5_isDigit_16 ?_
      refine r_zreturn rfl (by first | decide +kernel | exact narZ _ | assumption) dX5_isDigit_17 ?_
      refine ⟨?_, ?_⟩ <;> first | rfl | (simp [jDigit, bI, c3, c9]; done)
    · refine r_iconst (v := 1) (by decide) dX5_isDigit_12 ?_
      refine r_goto (tgt := 17) (by decide) dX5_isDigit_13 ?_
      refine r_zreturn rfl (by first | decide +kernel | exact narZ _ | assumption) dX5_isDigit_17 ?_
      refine ⟨?_, ?_⟩ <;> first | rfl | (simp [jDigit, bI, c3, c9]; done)
set_option maxRecDepth 4000 in
theorem kX5_isSign {O : bO} {d : Nat} {f : bF} {n s : Nat} {x : Int32}   (hd : 0 ≤ d) : bMt O mX5_isSign d [.int x] (f, n, s) (.inl (some (.int (bI (jSign x))))) (f, n, s) := by
  refine bMt_of (bCall_of (by decide) rfl (Nat.le_of_ble_eq_true rfl) ?_)
  show bV O _ d 0 [(0, .int x)] [] (f, n, s) _
  refine r_iload_n (n := 0) (i := 0) 0 rfl rfl dX5_isSign_0 ?_
  refine r_bipush (v := 40) (by decide) dX5_isSign_1 ?_
  refine r_icmp_eq (tgt := 54) (by decide) dX5_isSign_3 (fun c3 => ?_) (fun c3 => ?_)
  · refine r_iconst (v := 1) (by decide) dX5_isSign_54 ?_
    refine r_goto (tgt := 59) (by decide) dX5_isSign_55 ?_
    refine r_zreturn rfl (by first | decide +kernel | exact narZ _ | assumption) dX5_isSign_59 ?_
    refine ⟨?_, ?_⟩ <;> first | rfl | (simp [jSign, bI, c3]; done)
  · refine r_iload_n (n := 0) (i := 0) 0 rfl rfl dX5_isSign_6 ?_
    refine r_bipush (v := 41) (by decide) dX5_isSign_7 ?_
    refine r_icmp_eq (tgt := 54) (by decide) dX5_isSign_9 (fun c9 => ?_) (fun c9 => ?_)
    · refine r_iconst (v := 1) (by decide) dX5_isSign_54 ?_
      refine r_goto (tgt := 59) (by decide) dX5_isSign_55 ?_
      refine r_zreturn rfl (by first | decide +kernel | exact narZ _ | assumption) dX5_isSign_59 ?_
      refine ⟨?_, ?_⟩ <;> first | rfl | (simp [jSign, bI, c3, c9]; done)
    · refine r_iload_n (n := 0) (i := 0) 0 rfl rfl dX5_isSign_12 ?_
      refine r_bipush (v := 60) (by decide) dX5_isSign_13 ?_
      refine r_icmp_eq (tgt := 54) (by decide) dX5_isSign_15 (fun c15 => ?_) (fun c15 => ?_)
      · refine r_iconst (v := 1) (by decide) dX5_isSign_54 ?_
        refine r_goto (tgt := 59) (by decide) dX5_isSign_55 ?_
        refine r_zreturn rfl (by first | decide +kernel | exact narZ _ | assumption) dX5_isSign_59 ?_
        refine ⟨?_, ?_⟩ <;> first | rfl | (simp [jSign, bI, c3, c9, c15]; done)
      · refine r_iload_n (n := 0) (i := 0) 0 rfl rfl dX5_isSign_18 ?_
        refine r_bipush (v := 62) (by decide) dX5_isSign_19 ?_
        refine r_icmp_eq (tgt := 54) (by decide) dX5_isSign_21 (fun c21 => ?_) (fun c21 => ?_)
        · refine r_iconst (v := 1) (by decide) dX5_isSign_54 ?_
          refine r_goto (tgt := 59) (by decide) dX5_isSign_55 ?_
          refine r_zreturn rfl (by first | decide +kernel | exact narZ _ | assumption) dX5_isSign_59 ?_
          refine ⟨?_, ?_⟩ <;> first | rfl | (simp [jSign, bI, c3, c9, c15, c21]; done)
        · refine r_iload_n (n := 0) (i := 0) 0 rfl rfl dX5_isSign_24 ?_
          refine r_bipush (v := 61) (by decide) dX5_isSign_25 ?_
          refine r_icmp_eq (tgt := 54) (by decide) dX5_isSign_27 (fun c27 => ?_) (fun c27 => ?_)
          · refine r_iconst (v := 1) (by decide) dX5_isSign_54 ?_
            refine r_goto (tgt := 59) (by decide) dX5_isSign_55 ?_
            refine r_zreturn rfl (by first | decide +kernel | exact narZ _ | assumption) dX5_isSign_59 ?_
            refine ⟨?_, ?_⟩ <;> first | rfl | (simp [jSign, bI, c3, c9, c15, c21, c27]; done)
          · refine r_iload_n (n := 0) (i := 0) 0 rfl rfl dX5_isSign_30 ?_
            refine r_bipush (v := 43) (by decide) dX5_isSign_31 ?_
            refine r_icmp_eq (tgt := 54) (by decide) dX5_isSign_33 (fun c33 => ?_) (fun c33 => ?_)
            · refine r_iconst (v := 1) (by decide) dX5_isSign_54 ?_
              refine r_goto (tgt := 59) (by decide) dX5_isSign_55 ?_
              refine r_zreturn rfl (by first | decide +kernel | exact narZ _ | assumption) dX5_isSign_59 ?_
              refine ⟨?_, ?_⟩ <;> first | rfl | (simp [jSign, bI, c3, c9, c15, c21, c27, c33]; done)
            · refine r_iload_n (n := 0) (i := 0) 0 rfl rfl dX5_isSign_36 ?_
              refine r_bipush (v := 45) (by decide) dX5_isSign_37 ?_
              refine r_icmp_eq (tgt := 54) (by decide) dX5_isSign_39 (fun c39 => ?_) (fun c39 => ?_)
              · refine r_iconst (v := 1) (by decide) dX5_isSign_54 ?_
                refine r_goto (tgt := 59) (by decide) dX5_isSign_55 ?_
                refine r_zreturn rfl (by first | decide +kernel | exact narZ _ | assumption) dX5_isSign_59 ?_
                refine ⟨?_, ?_⟩ <;> first | rfl | (simp [jSign, bI, c3, c9, c15, c21, c27, c33, c39]; done)
              · refine r_iload_n (n := 0) (i := 0) 0 rfl rfl dX5_isSign_42 ?_
                refine r_bipush (v := 42) (by decide) dX5_isSign_43 ?_
                refine r_icmp_eq (tgt := 54) (by decide) dX5_isSign_45 (fun c45 => ?_) (fun c45 => ?_)
                · refine r_iconst (v := 1) (by decide) dX5_isSign_54 ?_
                  refine r_goto (tgt := 59) (by decide) dX5_isSign_55 ?_
                  refine r_zreturn rfl (by first | decide +kernel | exact narZ _ | assumption) dX5_isSign_59 ?_
                  refine ⟨?_, ?_⟩ <;> first | rfl | (simp [jSign, bI, c3, c9, c15, c21, c27, c33, c39, c45]; done)
                · refine r_iload_n (n := 0) (i := 0) 0 rfl rfl dX5_isSign_48 ?_
                  refine r_bipush (v := 44) (by decide) dX5_isSign_49 ?_
                  refine r_icmp_ne (tgt := 58) (by decide) dX5_isSign_51 (fun c51 => ?_) (fun c51 => ?_)
                  · refine r_iconst (v := 0) (by decide) dX5_isSign_58 ?_
                    refine r_zreturn rfl (by first | decide +kernel | exact narZ _ | assumption) dX5_isSign_59 ?_
                    refine ⟨?_, ?_⟩ <;> first | rfl | (simp [jSign, bI, c3, c9, c15, c21, c27, c33, c39, c45, c51]; done)
                  · refine r_iconst (v := 1) (by decide) dX5_isSign_54 ?_
                    refine r_goto (tgt := 59) (by decide) dX5_isSign_55 ?_
                    refine r_zreturn rfl (by first | decide +kernel | exact narZ _ | assumption) dX5_isSign_59 ?_
                    refine ⟨?_, ?_⟩ <;> first | rfl | (simp [jSign, bI, c3, c9, c15, c21, c27, c33, c39, c45, c51]; done)
set_option maxRecDepth 4000 in
theorem kX5_byteAt {O : bO} {d : Nat} {f : bF} {n s : Nat} {tl : Int32} {tn : Int32} {tk : Int32} {tv : Int32} {e : Nat} {tp : Int32} {bs : Nat → Int32} {a : Nat} (h0 : f 34 = some (.inr (5, [.ref 35, .int tl, .int (nI e), .int tn, .int tp, .int tk, .int tv]))) (h1 : f 35 = some (.inl (0, 300, .inl bs))) (e0 : e ≤ 300) (e1 : a < 2000) (hd : 0 ≤ d) : bMt O mX5_byteAt d [.ref 34, .int (nI a)] (f, n, s) (.inl (some (.int (tb bs e a)))) (f, n, s) := by
  refine bMt_of (bCall_of (by decide) rfl (Nat.le_of_ble_eq_true rfl) ?_)
  show bV O _ d 0 [(0, .ref 34), (1, .int (nI a))] [] (f, n, s) _
  refine r_iload_n (n := 1) (i := 1) 1 rfl rfl dX5_byteAt_0 ?_
  refine r_if_lt (tgt := 30) (by decide) dX5_byteAt_1 (fun h9 => absurd h9 (nI_pos (by omega))) (fun _ => ?_)
  refine r_iload_n (n := 1) (i := 1) 1 rfl rfl dX5_byteAt_4 ?_
  refine r_aload_n (n := 0) (i := 0) 0 rfl rfl dX5_byteAt_5 ?_
  refine p_get (fs := [.ref 35, .int tl, .int (nI e), .int tn, .int tp, .int tk, .int tv]) flX5_19 h0 rfl dX5_byteAt_6 ?_
  refine r_icmp_ge (tgt := 30) (by decide) dX5_byteAt_9 (fun c9 => ?_) (fun c9 => ?_)
  · have c9 : e ≤ a := (nI_leI (a := e) (b := a) (by omega) (by omega)).mp c9
    refine r_iconst (v := (-1)) (by decide) dX5_byteAt_30 ?_
    refine r_ireturn rfl dX5_byteAt_31 ?_
    refine ⟨?_, rfl⟩
    first | rw [tb_in (by omega)] | rw [tb_out (by omega)]
  · have c9 : ¬ e ≤ a := fun h7 => c9 ((nI_leI (a := e) (b := a) (by omega) (by omega)).mpr h7)
    refine r_iload_n (n := 1) (i := 1) 1 rfl rfl dX5_byteAt_12 ?_
    refine r_aload_n (n := 0) (i := 0) 0 rfl rfl dX5_byteAt_13 ?_
    refine p_get (fs := [.ref 35, .int tl, .int (nI e), .int tn, .int tp, .int tk, .int tv]) flX5_9 h0 rfl dX5_byteAt_14 ?_
    refine p_alen2 (kd := 0) (n := 300) (a := (300, .inl bs)) rfl h1 rfl dX5_byteAt_17 ?_
    refine r_icmp_ge (tgt := 30) (by decide) dX5_byteAt_18 (fun h9 => absurd h9 (fun h7 => absurd ((nI_leI (a := 300) (b := a) (by omega) (by omega)).mp h7) (by omega))) (fun _ => ?_)
    refine r_aload_n (n := 0) (i := 0) 0 rfl rfl dX5_byteAt_21 ?_
    refine p_get (fs := [.ref 35, .int tl, .int (nI e), .int tn, .int tp, .int tk, .int tv]) flX5_9 h0 rfl dX5_byteAt_22 ?_
    refine r_iload_n (n := 1) (i := 1) 1 rfl rfl dX5_byteAt_25 ?_
    refine p_ialdN (t := a) h1 (by omega) (by omega) dX5_byteAt_26 ?_
    refine r_goto (tgt := 31) (by decide) dX5_byteAt_27 ?_
    refine r_ireturn rfl dX5_byteAt_31 ?_
    refine ⟨?_, rfl⟩
    first | rw [tb_in (by omega)] | rw [tb_out (by omega)]
set_option maxRecDepth 4000 in
theorem kX5_append {O : bO} {d : Nat} {f : bF} {n s : Nat} {te : Int32} {tn : Int32} {tp : Int32} {tk : Int32} {tv : Int32} {t : Nat} {bs : Nat → Int32} {v : Int32} (h0 : f 34 = some (.inr (5, [.ref 35, .int (nI t), .int te, .int tn, .int tp, .int tk, .int tv]))) (h1 : f 35 = some (.inl (0, 300, .inl bs))) (e0 : t + 4 ≤ 300) (hd : 0 ≤ d) : bMt O mX5_append d [.ref 34, .int v] (f, n, s) (.inl none) (bU (bU f 35 (.inl (0, 300, .inl (upd (upd (upd (upd bs t (jSh v 24)) (t + 1) (jSh v 16)) (t + 2) (jSh v 8)) (t + 3) (jSh v 0))))) 34 (.inr (5, [.ref 35, .int (nI (t + 4)), .int te, .int tn, .int tp, .int tk, .int tv])), n, s) := by
  refine bMt_of (bCall_of (by decide) rfl (Nat.le_of_ble_eq_true rfl) ?_)
  show bV O _ d 0 [(0, .ref 34), (1, .int v)] [] (f, n, s) _
  refine r_bipush (v := 24) (by decide) dX5_append_0 ?_
  refine r_istore_n (n := 2) (i := 2) (L' := [(2, .int 24), (0, .ref 34), (1, .int v)]) rfl dX5_append_2 (by decide) rfl ?_
  refine r_iload_n (n := 2) (i := 2) 0 rfl rfl dX5_append_3 ?_
  refine r_if_lt (tgt := 58) (by decide) dX5_append_4 (fun h9 => absurd h9 (show ¬ ((24 : Int32) < 0) by decide)) (fun _ => ?_)
  refine r_aload_n (n := 0) (i := 0) 1 rfl rfl dX5_append_7 ?_
  refine p_get (fs := [.ref 35, .int (nI t), .int te, .int tn, .int tp, .int tk, .int tv]) flX5_15 h0 rfl dX5_append_8 ?_
  refine r_if_lt (tgt := 52) (by decide) dX5_append_11 (fun h9 => absurd h9 (nI_pos (by omega))) (fun _ => ?_)
  refine r_aload_n (n := 0) (i := 0) 1 rfl rfl dX5_append_14 ?_
  refine p_get (fs := [.ref 35, .int (nI t), .int te, .int tn, .int tp, .int tk, .int tv]) flX5_15 h0 rfl dX5_append_15 ?_
  refine r_aload_n (n := 0) (i := 0) 1 rfl rfl dX5_append_18 ?_
  refine p_get (fs := [.ref 35, .int (nI t), .int te, .int tn, .int tp, .int tk, .int tv]) flX5_9 h0 rfl dX5_append_19 ?_
  refine p_alen2 (kd := 0) (n := 300) (a := (300, .inl bs)) rfl h1 rfl dX5_append_22 ?_
  refine r_icmp_ge (tgt := 52) (by decide) dX5_append_23 (fun h9 => absurd h9 (fun h7 => absurd ((nI_leI (a := 300) (b := t) (by omega) (by omega)).mp h7) (by omega))) (fun _ => ?_)
  refine r_aload_n (n := 0) (i := 0) 1 rfl rfl dX5_append_26 ?_
  refine p_get (fs := [.ref 35, .int (nI t), .int te, .int tn, .int tp, .int tk, .int tv]) flX5_9 h0 rfl dX5_append_27 ?_
  refine r_aload_n (n := 0) (i := 0) 1 rfl rfl dX5_append_30 ?_
  refine p_get (fs := [.ref 35, .int (nI t), .int te, .int tn, .int tp, .int tk, .int tv]) flX5_15 h0 rfl dX5_append_31 ?_
  refine r_iload_n (n := 1) (i := 1) 2 rfl rfl dX5_append_34 ?_
  refine r_iload_n (n := 2) (i := 2) 0 rfl rfl dX5_append_35 ?_
  refine r_iushr dX5_append_36 ?_
  refine r_sipush (v := 255) (by decide) dX5_append_37 ?_
  refine r_iand dX5_append_40 ?_
  refine p_iastN (t := t) h1 (by omega) (by omega) dX5_append_41 ?_
  refine r_aload_n (n := 0) (i := 0) 1 rfl rfl dX5_append_42 ?_
  refine r_dup rfl dX5_append_43 ?_
  refine p_get (fs := [.ref 35, .int (nI t), .int te, .int tn, .int tp, .int tk, .int tv]) flX5_15 (by exact ((bU_n (by decide)).trans (h0))) rfl dX5_append_44 ?_
  refine r_iconst (v := 1) (by decide) dX5_append_47 ?_
  refine r_iaddE (v := nI (t + 1)) (nI_add t 1) dX5_append_48 ?_
  refine p_put (fs := [.ref 35, .int (nI t), .int te, .int tn, .int tp, .int tk, .int tv]) (fs' := [.ref 35, .int (nI (t + 1)), .int te, .int tn, .int tp, .int tk, .int tv]) flX5_15 (by exact ((bU_n (by decide)).trans (h0))) (Nat.le_of_ble_eq_true rfl) (bNf_i _) rfl dX5_append_49 ?_
  refine r_iinc (i := 2) (v := 16) (L' := [(2, .int 16), (0, .ref 34), (1, .int v)]) 0 rfl (by decide) dX5_append_52 (by decide) rfl ?_
  refine r_goto (tgt := 3) (by decide) dX5_append_55 ?_
  refine r_iload_n (n := 2) (i := 2) 0 rfl rfl dX5_append_3 ?_
  refine r_if_lt (tgt := 58) (by decide) dX5_append_4 (fun h9 => absurd h9 (show ¬ ((16 : Int32) < 0) by decide)) (fun _ => ?_)
  refine r_aload_n (n := 0) (i := 0) 1 rfl rfl dX5_append_7 ?_
  refine p_get (fs := [.ref 35, .int (nI (t + 1)), .int te, .int tn, .int tp, .int tk, .int tv]) flX5_15 (by exact bU_s _ _ _) rfl dX5_append_8 ?_
  refine r_if_lt (tgt := 52) (by decide) dX5_append_11 (fun h9 => absurd h9 (nI_pos (by omega))) (fun _ => ?_)
  refine r_aload_n (n := 0) (i := 0) 1 rfl rfl dX5_append_14 ?_
  refine p_get (fs := [.ref 35, .int (nI (t + 1)), .int te, .int tn, .int tp, .int tk, .int tv]) flX5_15 (by exact bU_s _ _ _) rfl dX5_append_15 ?_
  refine r_aload_n (n := 0) (i := 0) 1 rfl rfl dX5_append_18 ?_
  refine p_get (fs := [.ref 35, .int (nI (t + 1)), .int te, .int tn, .int tp, .int tk, .int tv]) flX5_9 (by exact bU_s _ _ _) rfl dX5_append_19 ?_
  refine p_alen2 (kd := 0) (n := 300) (a := (300, .inl (upd bs t (((v.toUInt32 >>> ((24 : Int32).toUInt32 &&& Int32.toUInt32 31)).toInt32) &&& 255)))) rfl (by exact ((bU_n (by decide)).trans (bU_s _ _ _))) rfl dX5_append_22 ?_
  refine r_icmp_ge (tgt := 52) (by decide) dX5_append_23 (fun h9 => absurd h9 (fun h7 => absurd ((nI_leI (a := 300) (b := (t + 1)) (by omega) (by omega)).mp h7) (by omega))) (fun _ => ?_)
  refine r_aload_n (n := 0) (i := 0) 1 rfl rfl dX5_append_26 ?_
  refine p_get (fs := [.ref 35, .int (nI (t + 1)), .int te, .int tn, .int tp, .int tk, .int tv]) flX5_9 (by exact bU_s _ _ _) rfl dX5_append_27 ?_
  refine r_aload_n (n := 0) (i := 0) 1 rfl rfl dX5_append_30 ?_
  refine p_get (fs := [.ref 35, .int (nI (t + 1)), .int te, .int tn, .int tp, .int tk, .int tv]) flX5_15 (by exact bU_s _ _ _) rfl dX5_append_31 ?_
  refine r_iload_n (n := 1) (i := 1) 2 rfl rfl dX5_append_34 ?_
  refine r_iload_n (n := 2) (i := 2) 0 rfl rfl dX5_append_35 ?_
  refine r_iushr dX5_append_36 ?_
  refine r_sipush (v := 255) (by decide) dX5_append_37 ?_
  refine r_iand dX5_append_40 ?_
  refine p_iastN (t := t + 1) (by exact ((bU_n (by decide)).trans (bU_s _ _ _))) (by omega) (by omega) dX5_append_41 ?_
  refine bV_h (f2 := bU (bU f 35 (.inl (0, 300, .inl (upd (upd bs t (((v.toUInt32 >>> ((24 : Int32).toUInt32 &&& Int32.toUInt32 31)).toInt32) &&& 255)) (t + 1) (((v.toUInt32 >>> ((16 : Int32).toUInt32 &&& Int32.toUInt32 31)).toInt32) &&& 255))))) 34 (.inr (5, [.ref 35, .int (nI (t + 1)), .int te, .int tn, .int tp, .int tk, .int tv]))) (((bU_c (by decide)).trans (congrArg (fun z => bU z 34 (.inr (5, [.ref 35, .int (nI (t + 1)), .int te, .int tn, .int tp, .int tk, .int tv]))) (bU_u _ _ _ _)))) ?_
  refine r_aload_n (n := 0) (i := 0) 1 rfl rfl dX5_append_42 ?_
  refine r_dup rfl dX5_append_43 ?_
  refine p_get (fs := [.ref 35, .int (nI (t + 1)), .int te, .int tn, .int tp, .int tk, .int tv]) flX5_15 (by exact bU_s _ _ _) rfl dX5_append_44 ?_
  refine r_iconst (v := 1) (by decide) dX5_append_47 ?_
  refine r_iaddE (v := nI (t + 2)) (nI_add (t + 1) 1) dX5_append_48 ?_
  refine p_put (fs := [.ref 35, .int (nI (t + 1)), .int te, .int tn, .int tp, .int tk, .int tv]) (fs' := [.ref 35, .int (nI (t + 2)), .int te, .int tn, .int tp, .int tk, .int tv]) flX5_15 (by exact bU_s _ _ _) (Nat.le_of_ble_eq_true rfl) (bNf_i _) rfl dX5_append_49 ?_
  refine bV_h (f2 := bU (bU f 35 (.inl (0, 300, .inl (upd (upd bs t (((v.toUInt32 >>> ((24 : Int32).toUInt32 &&& Int32.toUInt32 31)).toInt32) &&& 255)) (t + 1) (((v.toUInt32 >>> ((16 : Int32).toUInt32 &&& Int32.toUInt32 31)).toInt32) &&& 255))))) 34 (.inr (5, [.ref 35, .int (nI (t + 2)), .int te, .int tn, .int tp, .int tk, .int tv]))) (bU_u _ _ _ _) ?_
  refine r_iinc (i := 2) (v := 8) (L' := [(2, .int 8), (0, .ref 34), (1, .int v)]) 0 rfl (by decide) dX5_append_52 (by decide) rfl ?_
  refine r_goto (tgt := 3) (by decide) dX5_append_55 ?_
  refine r_iload_n (n := 2) (i := 2) 0 rfl rfl dX5_append_3 ?_
  refine r_if_lt (tgt := 58) (by decide) dX5_append_4 (fun h9 => absurd h9 (show ¬ ((8 : Int32) < 0) by decide)) (fun _ => ?_)
  refine r_aload_n (n := 0) (i := 0) 1 rfl rfl dX5_append_7 ?_
  refine p_get (fs := [.ref 35, .int (nI (t + 2)), .int te, .int tn, .int tp, .int tk, .int tv]) flX5_15 (by exact bU_s _ _ _) rfl dX5_append_8 ?_
  refine r_if_lt (tgt := 52) (by decide) dX5_append_11 (fun h9 => absurd h9 (nI_pos (by omega))) (fun _ => ?_)
  refine r_aload_n (n := 0) (i := 0) 1 rfl rfl dX5_append_14 ?_
  refine p_get (fs := [.ref 35, .int (nI (t + 2)), .int te, .int tn, .int tp, .int tk, .int tv]) flX5_15 (by exact bU_s _ _ _) rfl dX5_append_15 ?_
  refine r_aload_n (n := 0) (i := 0) 1 rfl rfl dX5_append_18 ?_
  refine p_get (fs := [.ref 35, .int (nI (t + 2)), .int te, .int tn, .int tp, .int tk, .int tv]) flX5_9 (by exact bU_s _ _ _) rfl dX5_append_19 ?_
  refine p_alen2 (kd := 0) (n := 300) (a := (300, .inl (upd (upd bs t (((v.toUInt32 >>> ((24 : Int32).toUInt32 &&& Int32.toUInt32 31)).toInt32) &&& 255)) (t + 1) (((v.toUInt32 >>> ((16 : Int32).toUInt32 &&& Int32.toUInt32 31)).toInt32) &&& 255)))) rfl (by exact ((bU_n (by decide)).trans (bU_s _ _ _))) rfl dX5_append_22 ?_
  refine r_icmp_ge (tgt := 52) (by decide) dX5_append_23 (fun h9 => absurd h9 (fun h7 => absurd ((nI_leI (a := 300) (b := (t + 2)) (by omega) (by omega)).mp h7) (by omega))) (fun _ => ?_)
  refine r_aload_n (n := 0) (i := 0) 1 rfl rfl dX5_append_26 ?_
  refine p_get (fs := [.ref 35, .int (nI (t + 2)), .int te, .int tn, .int tp, .int tk, .int tv]) flX5_9 (by exact bU_s _ _ _) rfl dX5_append_27 ?_
  refine r_aload_n (n := 0) (i := 0) 1 rfl rfl dX5_append_30 ?_
  refine p_get (fs := [.ref 35, .int (nI (t + 2)), .int te, .int tn, .int tp, .int tk, .int tv]) flX5_15 (by exact bU_s _ _ _) rfl dX5_append_31 ?_
  refine r_iload_n (n := 1) (i := 1) 2 rfl rfl dX5_append_34 ?_
  refine r_iload_n (n := 2) (i := 2) 0 rfl rfl dX5_append_35 ?_
  refine r_iushr dX5_append_36 ?_
  refine r_sipush (v := 255) (by decide) dX5_append_37 ?_
  refine r_iand dX5_append_40 ?_
  refine p_iastN (t := t + 2) (by exact ((bU_n (by decide)).trans (bU_s _ _ _))) (by omega) (by omega) dX5_append_41 ?_
  refine bV_h (f2 := bU (bU f 35 (.inl (0, 300, .inl (upd (upd (upd bs t (((v.toUInt32 >>> ((24 : Int32).toUInt32 &&& Int32.toUInt32 31)).toInt32) &&& 255)) (t + 1) (((v.toUInt32 >>> ((16 : Int32).toUInt32 &&& Int32.toUInt32 31)).toInt32) &&& 255)) (t + 2) (((v.toUInt32 >>> ((8 : Int32).toUInt32 &&& Int32.toUInt32 31)).toInt32) &&& 255))))) 34 (.inr (5, [.ref 35, .int (nI (t + 2)), .int te, .int tn, .int tp, .int tk, .int tv]))) (((bU_c (by decide)).trans (congrArg (fun z => bU z 34 (.inr (5, [.ref 35, .int (nI (t + 2)), .int te, .int tn, .int tp, .int tk, .int tv]))) (bU_u _ _ _ _)))) ?_
  refine r_aload_n (n := 0) (i := 0) 1 rfl rfl dX5_append_42 ?_
  refine r_dup rfl dX5_append_43 ?_
  refine p_get (fs := [.ref 35, .int (nI (t + 2)), .int te, .int tn, .int tp, .int tk, .int tv]) flX5_15 (by exact bU_s _ _ _) rfl dX5_append_44 ?_
  refine r_iconst (v := 1) (by decide) dX5_append_47 ?_
  refine r_iaddE (v := nI (t + 3)) (nI_add (t + 2) 1) dX5_append_48 ?_
  refine p_put (fs := [.ref 35, .int (nI (t + 2)), .int te, .int tn, .int tp, .int tk, .int tv]) (fs' := [.ref 35, .int (nI (t + 3)), .int te, .int tn, .int tp, .int tk, .int tv]) flX5_15 (by exact bU_s _ _ _) (Nat.le_of_ble_eq_true rfl) (bNf_i _) rfl dX5_append_49 ?_
  refine bV_h (f2 := bU (bU f 35 (.inl (0, 300, .inl (upd (upd (upd bs t (((v.toUInt32 >>> ((24 : Int32).toUInt32 &&& Int32.toUInt32 31)).toInt32) &&& 255)) (t + 1) (((v.toUInt32 >>> ((16 : Int32).toUInt32 &&& Int32.toUInt32 31)).toInt32) &&& 255)) (t + 2) (((v.toUInt32 >>> ((8 : Int32).toUInt32 &&& Int32.toUInt32 31)).toInt32) &&& 255))))) 34 (.inr (5, [.ref 35, .int (nI (t + 3)), .int te, .int tn, .int tp, .int tk, .int tv]))) (bU_u _ _ _ _) ?_
  refine r_iinc (i := 2) (v := 0) (L' := [(2, .int 0), (0, .ref 34), (1, .int v)]) 0 rfl (by decide) dX5_append_52 (by decide) rfl ?_
  refine r_goto (tgt := 3) (by decide) dX5_append_55 ?_
  refine r_iload_n (n := 2) (i := 2) 0 rfl rfl dX5_append_3 ?_
  refine r_if_lt (tgt := 58) (by decide) dX5_append_4 (fun h9 => absurd h9 (show ¬ ((0 : Int32) < 0) by decide)) (fun _ => ?_)
  refine r_aload_n (n := 0) (i := 0) 1 rfl rfl dX5_append_7 ?_
  refine p_get (fs := [.ref 35, .int (nI (t + 3)), .int te, .int tn, .int tp, .int tk, .int tv]) flX5_15 (by exact bU_s _ _ _) rfl dX5_append_8 ?_
  refine r_if_lt (tgt := 52) (by decide) dX5_append_11 (fun h9 => absurd h9 (nI_pos (by omega))) (fun _ => ?_)
  refine r_aload_n (n := 0) (i := 0) 1 rfl rfl dX5_append_14 ?_
  refine p_get (fs := [.ref 35, .int (nI (t + 3)), .int te, .int tn, .int tp, .int tk, .int tv]) flX5_15 (by exact bU_s _ _ _) rfl dX5_append_15 ?_
  refine r_aload_n (n := 0) (i := 0) 1 rfl rfl dX5_append_18 ?_
  refine p_get (fs := [.ref 35, .int (nI (t + 3)), .int te, .int tn, .int tp, .int tk, .int tv]) flX5_9 (by exact bU_s _ _ _) rfl dX5_append_19 ?_
  refine p_alen2 (kd := 0) (n := 300) (a := (300, .inl (upd (upd (upd bs t (((v.toUInt32 >>> ((24 : Int32).toUInt32 &&& Int32.toUInt32 31)).toInt32) &&& 255)) (t + 1) (((v.toUInt32 >>> ((16 : Int32).toUInt32 &&& Int32.toUInt32 31)).toInt32) &&& 255)) (t + 2) (((v.toUInt32 >>> ((8 : Int32).toUInt32 &&& Int32.toUInt32 31)).toInt32) &&& 255)))) rfl (by exact ((bU_n (by decide)).trans (bU_s _ _ _))) rfl dX5_append_22 ?_
  refine r_icmp_ge (tgt := 52) (by decide) dX5_append_23 (fun h9 => absurd h9 (fun h7 => absurd ((nI_leI (a := 300) (b := (t + 3)) (by omega) (by omega)).mp h7) (by omega))) (fun _ => ?_)
  refine r_aload_n (n := 0) (i := 0) 1 rfl rfl dX5_append_26 ?_
  refine p_get (fs := [.ref 35, .int (nI (t + 3)), .int te, .int tn, .int tp, .int tk, .int tv]) flX5_9 (by exact bU_s _ _ _) rfl dX5_append_27 ?_
  refine r_aload_n (n := 0) (i := 0) 1 rfl rfl dX5_append_30 ?_
  refine p_get (fs := [.ref 35, .int (nI (t + 3)), .int te, .int tn, .int tp, .int tk, .int tv]) flX5_15 (by exact bU_s _ _ _) rfl dX5_append_31 ?_
  refine r_iload_n (n := 1) (i := 1) 2 rfl rfl dX5_append_34 ?_
  refine r_iload_n (n := 2) (i := 2) 0 rfl rfl dX5_append_35 ?_
  refine r_iushr dX5_append_36 ?_
  refine r_sipush (v := 255) (by decide) dX5_append_37 ?_
  refine r_iand dX5_append_40 ?_
  refine p_iastN (t := t + 3) (by exact ((bU_n (by decide)).trans (bU_s _ _ _))) (by omega) (by omega) dX5_append_41 ?_
  refine bV_h (f2 := bU (bU f 35 (.inl (0, 300, .inl (upd (upd (upd (upd bs t (((v.toUInt32 >>> ((24 : Int32).toUInt32 &&& Int32.toUInt32 31)).toInt32) &&& 255)) (t + 1) (((v.toUInt32 >>> ((16 : Int32).toUInt32 &&& Int32.toUInt32 31)).toInt32) &&& 255)) (t + 2) (((v.toUInt32 >>> ((8 : Int32).toUInt32 &&& Int32.toUInt32 31)).toInt32) &&& 255)) (t + 3) (((v.toUInt32 >>> ((0 : Int32).toUInt32 &&& Int32.toUInt32 31)).toInt32) &&& 255))))) 34 (.inr (5, [.ref 35, .int (nI (t + 3)), .int te, .int tn, .int tp, .int tk, .int tv]))) (((bU_c (by decide)).trans (congrArg (fun z => bU z 34 (.inr (5, [.ref 35, .int (nI (t + 3)), .int te, .int tn, .int tp, .int tk, .int tv]))) (bU_u _ _ _ _)))) ?_
  refine r_aload_n (n := 0) (i := 0) 1 rfl rfl dX5_append_42 ?_
  refine r_dup rfl dX5_append_43 ?_
  refine p_get (fs := [.ref 35, .int (nI (t + 3)), .int te, .int tn, .int tp, .int tk, .int tv]) flX5_15 (by exact bU_s _ _ _) rfl dX5_append_44 ?_
  refine r_iconst (v := 1) (by decide) dX5_append_47 ?_
  refine r_iaddE (v := nI (t + 4)) (nI_add (t + 3) 1) dX5_append_48 ?_
  refine p_put (fs := [.ref 35, .int (nI (t + 3)), .int te, .int tn, .int tp, .int tk, .int tv]) (fs' := [.ref 35, .int (nI (t + 4)), .int te, .int tn, .int tp, .int tk, .int tv]) flX5_15 (by exact bU_s _ _ _) (Nat.le_of_ble_eq_true rfl) (bNf_i _) rfl dX5_append_49 ?_
  refine bV_h (f2 := bU (bU f 35 (.inl (0, 300, .inl (upd (upd (upd (upd bs t (((v.toUInt32 >>> ((24 : Int32).toUInt32 &&& Int32.toUInt32 31)).toInt32) &&& 255)) (t + 1) (((v.toUInt32 >>> ((16 : Int32).toUInt32 &&& Int32.toUInt32 31)).toInt32) &&& 255)) (t + 2) (((v.toUInt32 >>> ((8 : Int32).toUInt32 &&& Int32.toUInt32 31)).toInt32) &&& 255)) (t + 3) (((v.toUInt32 >>> ((0 : Int32).toUInt32 &&& Int32.toUInt32 31)).toInt32) &&& 255))))) 34 (.inr (5, [.ref 35, .int (nI (t + 4)), .int te, .int tn, .int tp, .int tk, .int tv]))) (bU_u _ _ _ _) ?_
  refine r_iinc (i := 2) (v := (-8)) (L' := [(2, .int (-8)), (0, .ref 34), (1, .int v)]) 0 rfl (by decide) dX5_append_52 (by decide) rfl ?_
  refine r_goto (tgt := 3) (by decide) dX5_append_55 ?_
  refine r_iload_n (n := 2) (i := 2) 0 rfl rfl dX5_append_3 ?_
  refine r_if_lt (tgt := 58) (by decide) dX5_append_4 (fun _ => ?_) (fun h9 => absurd (show ((-8) : Int32) < 0 by decide) h9)
  refine r_return rfl dX5_append_58 ?_
  refine ⟨?_, ?_⟩ <;> first | rfl | (simp [jSh]; done)
/-- the letters from p on are those of the word i, from its place j on, m of them -/
def spl (bs : Nat → Int32) (e p i : Nat) : Nat → Nat → Bool
  | 0, _ => true
  | m + 1, j => decide (tb bs e (p + j) = (((((bByt.getD i []).getD j 0 &&& 255)).toUInt32 % 65536).toInt32)) && spl bs e p i m (j + 1)
def splS (bs : Nat → Int32) (e p i l : Nat) : Bool := decide (bLen.getD i 0 = l) && spl bs e p i l 0
theorem st_spells {O : bO} {d : Nat} {f : bF} {n s : Nat} {Q : bR → bG → Prop} {tl : Int32} {tn : Int32} {tk : Int32} {tv : Int32} {e : Nat} {p : Nat} {bs : Nat → Int32} {i : Nat} {l : Nat} {j : Nat} (h0 : f 34 = some (.inr (5, [.ref 35, .int tl, .int (nI e), .int tn, .int (nI p), .int tk, .int tv]))) (h1 : f 35 = some (.inl (0, 300, .inl bs))) (e0 : e ≤ 300) (e1 : p ≤ 300) (e2 : i < 7) (e3 : l ≤ 300) (e4 : bLen.getD i 0 = l) (e5 : j ≤ l) (hx : j = l → Q (.inl (some (.int 1))) (f, n, s)) (hf : j < l → ¬ tb bs e (p + j) = (((((bByt.getD i []).getD j 0 &&& 255)).toUInt32 % 65536).toInt32) → Q (.inl (some (.int 0))) (f, n, s)) (hn : j < l → tb bs e (p + j) = (((((bByt.getD i []).getD j 0 &&& 255)).toUInt32 % 65536).toInt32) → bV O mX5_spells d 12 [(3, .int (nI (j + 1))), (0, .ref 34), (1, .ref (i + 1)), (2, .int (nI l))] [] (f, n, s) Q) (hd : 4 ≤ d) : bV O mX5_spells d 12 [(3, .int (nI j)), (0, .ref 34), (1, .ref (i + 1)), (2, .int (nI l))] [] (f, n, s) Q := by
  refine r_iload_n (n := 3) (i := 3) 0 rfl rfl dX5_spells_12 ?_
  refine r_iload_n (n := 2) (i := 2) 3 rfl rfl dX5_spells_13 ?_
  refine r_icmp_ge (tgt := 43) (by decide) dX5_spells_14 (fun c14 => ?_) (fun c14 => ?_)
  · have c14 : l ≤ j := (nI_leI (a := l) (b := j) (by omega) (by omega)).mp c14
    refine r_iconst (v := 1) (by decide) dX5_spells_43 ?_
    refine r_zreturn rfl (by first | decide +kernel | exact narZ _ | assumption) dX5_spells_44 ?_
    exact hx (by omega)
  · have c14 : ¬ l ≤ j := fun h7 => c14 ((nI_leI (a := l) (b := j) (by omega) (by omega)).mpr h7)
    refine r_aload_n (n := 0) (i := 0) 1 rfl rfl dX5_spells_17 ?_
    refine r_aload_n (n := 0) (i := 0) 1 rfl rfl dX5_spells_18 ?_
    refine p_get (fs := [.ref 35, .int tl, .int (nI e), .int tn, .int (nI p), .int tk, .int tv]) flX5_28 h0 rfl dX5_spells_19 ?_
    refine r_iload_n (n := 3) (i := 3) 0 rfl rfl dX5_spells_22 ?_
    refine r_iaddE (v := nI (p + j)) (nI_add p j) dX5_spells_23 ?_
    refine p_callV (As := [.int (nI (p + j))]) (rest := []) (kX5_byteAt (O := O) (d := 0) (f := f) (n := n) (s := s) (tl := tl) (tn := tn) (tk := tk) (tv := tv) (e := e) (tp := nI p) (bs := bs) (a := p + j) h0 h1 e0 (by omega) (Nat.le_refl _)).call rfl lkX5_31 imX5_byteAt seX5_byteAt rfl h0 rfl rfl (by omega) (Nat.le_of_ble_eq_true rfl) dX5_spells_24 (fun v9 G9 h9 => ?_) (fun q9 G9 h9 => (by cases h9.1))
    obtain ⟨h8, rfl⟩ := h9; cases h8
    show bV O _ d 27 [(3, .int (nI j)), (0, .ref 34), (1, .ref (i + 1)), (2, .int (nI l))] [.int (tb bs e (p + j))] (f, n, s) _
    refine r_aload_n (n := 1) (i := 1) 2 rfl rfl dX5_spells_27 ?_
    refine r_iload_n (n := 3) (i := 3) 0 rfl rfl dX5_spells_28 ?_
    refine p_callVS (i := i) (As := [.int (nI j)]) (rest := [.int (tb bs e (p + j))]) (kJ0_charAt_5068e (O := O) (d := 3) (f := f) (n := n) (s := s) (i := i) (j := nI j)  e2 (by rw [e4]; exact vp_in_nI (by omega) (by omega)) (Nat.le_refl _)).call rfl lkX5_79 imJ0_charAt_5068e seJ0_charAt_5068e rfl e2 rfl (by omega) (Nat.le_of_ble_eq_true rfl) dX5_spells_29 (fun v9 G9 h9 => ?_) (fun q9 G9 h9 => (by cases h9.1))
    obtain ⟨h8, rfl⟩ := h9; cases h8
    show bV O _ d 32 [(3, .int (nI j)), (0, .ref 34), (1, .ref (i + 1)), (2, .int (nI l))] [.int (((((bByt.getD i []).getD (nI j).toNatClampNeg 0 &&& 255)).toUInt32 % 65536).toInt32), .int (tb bs e (p + j))] (f, n, s) _
    refine r_icmp_eq (tgt := 37) (by decide) dX5_spells_32 (fun c32 => ?_) (fun c32 => ?_)
    · rw [nI_clamp (by omega)] at c32
      refine r_iinc (i := 3) (v := nI (j + 1)) (L' := [(3, .int (nI (j + 1))), (0, .ref 34), (1, .ref (i + 1)), (2, .int (nI l))]) 0 rfl (nI_inc1 j) dX5_spells_37 (by decide) rfl ?_
      refine r_goto (tgt := 12) (by decide) dX5_spells_40 ?_
      exact hn (by omega) c32
    · rw [nI_clamp (by omega)] at c32
      refine r_iconst (v := 0) (by decide) dX5_spells_35 ?_
      refine r_zreturn rfl (by first | decide +kernel | exact narZ _ | assumption) dX5_spells_36 ?_
      exact hf (by omega) c32
theorem lp_spells {O : bO} {d : Nat} {f : bF} {n s : Nat} {Q : bR → bG → Prop} {tl tn tk tv : Int32} {e p : Nat} {bs : Nat → Int32} {i l : Nat} (h0 : f 34 = some (.inr (5, [.ref 35, .int tl, .int (nI e), .int tn, .int (nI p), .int tk, .int tv]))) (h1 : f 35 = some (.inl (0, 300, .inl bs))) (e0 : e ≤ 300) (e1 : p ≤ 300) (e2 : i < 7) (e3 : l ≤ 300) (e4 : bLen.getD i 0 = l) (hd : 4 ≤ d) : ∀ m j : Nat, j + m = l → Q (.inl (some (.int (bI (spl bs e p i m j))))) (f, n, s) → bV O mX5_spells d 12 [(3, .int (nI j)), (0, .ref 34), (1, .ref (i + 1)), (2, .int (nI l))] [] (f, n, s) Q := by
  intro m
  induction m with
  | zero =>
    intro j hj hQ
    exact st_spells h0 h1 e0 e1 e2 e3 e4 (by omega) (fun _ => by simpa [spl, bI] using hQ) (fun h => absurd h (by omega)) (fun h => absurd h (by omega)) hd
  | succ m ih =>
    intro j hj hQ
    exact st_spells h0 h1 e0 e1 e2 e3 e4 (by omega) (fun h => absurd h (by omega)) (fun _ h2 => by rw [show bI (spl bs e p i (m + 1) j) = 0 by simp only [spl, h2, decide_false, Bool.false_and, bI]; rfl] at hQ; exact hQ) (fun _ h2 => ih (j + 1) (by omega) (by rw [show spl bs e p i (m + 1) j = spl bs e p i m (j + 1) by simp only [spl, h2, decide_true, Bool.true_and]] at hQ; exact hQ)) hd
set_option maxRecDepth 4000 in
theorem kX5_spells {O : bO} {d : Nat} {f : bF} {n s : Nat} {tl : Int32} {tn : Int32} {tk : Int32} {tv : Int32} {e : Nat} {p : Nat} {bs : Nat → Int32} {i : Nat} {l : Nat} (h0 : f 34 = some (.inr (5, [.ref 35, .int tl, .int (nI e), .int tn, .int (nI p), .int tk, .int tv]))) (h1 : f 35 = some (.inl (0, 300, .inl bs))) (e0 : e ≤ 300) (e1 : p ≤ 300) (e2 : i < 7) (e3 : l ≤ 300) (hd : 4 ≤ d) : bMt O mX5_spells d [.ref 34, .ref (i + 1), .int (nI l)] (f, n, s) (.inl (some (.int (bI (splS bs e p i l))))) (f, n, s) := by
  refine bMt_of (bCall_of (by decide) rfl (Nat.le_of_ble_eq_true rfl) ?_)
  show bV O _ d 0 [(0, .ref 34), (1, .ref (i + 1)), (2, .int (nI l))] [] (f, n, s) _
  have hl9 := bLen_lt i e2
  refine r_aload_n (n := 1) (i := 1) 1 rfl rfl dX5_spells_0 ?_
  refine p_callVS (i := i) (As := []) (rest := []) (kJ0_length_8abf5 (O := O) (d := 1) (f := f) (n := n) (s := s) (i := i)  (by first | assumption | omega | decide) (Nat.le_refl _)).call rfl lkX5_75 imJ0_length_8abf5 seJ0_length_8abf5 rfl e2 rfl (by omega) (Nat.le_of_ble_eq_true rfl) dX5_spells_1 (fun v9 G9 h9 => ?_) (fun q9 G9 h9 => (by cases h9.1))
  obtain ⟨h8, rfl⟩ := h9; cases h8
  show bV O _ d 4 [(0, .ref 34), (1, .ref (i + 1)), (2, .int (nI l))] [.int (nI (bLen.getD i 0))] (f, n, s) _
  refine r_iload_n (n := 2) (i := 2) 2 rfl rfl dX5_spells_4 ?_
  refine r_icmp_eq (tgt := 10) (by decide) dX5_spells_5 (fun c5 => ?_) (fun c5 => ?_)
  · have c5 : (bLen.getD i 0) = l := (nI_eq (a := (bLen.getD i 0)) (b := l) (by omega) (by omega)).mp c5
    have c5 := c5
    refine r_iconst (v := 0) (by decide) dX5_spells_10 ?_
    refine r_istore_n (n := 3) (i := 3) (L' := [(3, .int 0), (0, .ref 34), (1, .ref (i + 1)), (2, .int (nI l))]) rfl dX5_spells_11 (by decide) rfl ?_
    exact lp_spells h0 h1 e0 e1 e2 e3 c5 (by omega) l 0 (by omega) ⟨by simp only [splS, c5, decide_true, Bool.true_and], rfl⟩
  · have c5 : ¬ (bLen.getD i 0) = l := fun h7 => c5 ((nI_eq (a := (bLen.getD i 0)) (b := l) (by omega) (by omega)).mpr h7)
    have c5 := c5
    refine r_iconst (v := 0) (by decide) dX5_spells_8 ?_
    refine r_zreturn rfl (by first | decide +kernel | exact narZ _ | assumption) dX5_spells_9 ?_
    exact ⟨by simp only [splS, c5, decide_false, Bool.false_and, bI]; rfl, rfl⟩
def kow (bs : Nat → Int32) (e p l : Nat) : Int32 := if splS bs e p 0 l then 261 else if splS bs e p 1 l then 262 else if splS bs e p 2 l then 263 else if splS bs e p 3 l then 264 else if splS bs e p 4 l then 265 else 260
def lets (bs : Nat → Int32) (e : Nat) : Nat → Nat → Nat
  | 0, q => q
  | k + 1, q => if jLetter (tb bs e q) then lets bs e k (q + 1) else q
def digs (bs : Nat → Int32) (e : Nat) : Nat → Nat → Nat
  | 0, q => q
  | k + 1, q => if jDigit (tb bs e q) then digs bs e k (q + 1) else q
def nacc (bs : Nat → Int32) (e : Nat) : Nat → Nat → Int32 → Int32
  | 0, _, x => x
  | k + 1, q, x => if jDigit (tb bs e q) then nacc bs e k (q + 1) (x * 10 + tb bs e q - 48) else x
def skp (bs : Nat → Int32) (e : Nat) : Nat → Nat → Nat
  | 0, q => q
  | k + 1, q => if tb bs e q = 32 then skp bs e k (q + 1) else q
theorem jL_out {bs : Nat → Int32} {e q : Nat} (h : e ≤ q) : jLetter (tb bs e q) = false := by rw [tb_out h]; decide
theorem jD_out {bs : Nat → Int32} {e q : Nat} (h : e ≤ q) : jDigit (tb bs e q) = false := by rw [tb_out h]; decide
theorem tb_32 {bs : Nat → Int32} {e q : Nat} (h : e ≤ q) : ¬ tb bs e q = 32 := by rw [tb_out h]; decide
theorem lets_ge (bs : Nat → Int32) (e : Nat) : ∀ k q : Nat, q ≤ lets bs e k q ∧ lets bs e k q ≤ max q e := by
  intro k
  induction k with
  | zero => intro q; exact ⟨Nat.le_refl _, Nat.le_max_left _ _⟩
  | succ k ih =>
    intro q
    by_cases h : jLetter (tb bs e q) = true
    · have := ih (q + 1)
      have hq : q < e := Nat.lt_of_not_le (fun h2 => by rw [jL_out h2] at h; cases h)
      simp only [lets, h, if_true]
      omega
    · simp only [lets, h, if_false]
      exact ⟨Nat.le_refl _, Nat.le_max_left _ _⟩
theorem digs_ge (bs : Nat → Int32) (e : Nat) : ∀ k q : Nat, q ≤ digs bs e k q ∧ digs bs e k q ≤ max q e := by
  intro k
  induction k with
  | zero => intro q; exact ⟨Nat.le_refl _, Nat.le_max_left _ _⟩
  | succ k ih =>
    intro q
    by_cases h : jDigit (tb bs e q) = true
    · have := ih (q + 1)
      have hq : q < e := Nat.lt_of_not_le (fun h2 => by rw [jD_out h2] at h; cases h)
      simp only [digs, h, if_true]
      omega
    · simp only [digs, h, if_false]
      exact ⟨Nat.le_refl _, Nat.le_max_left _ _⟩
theorem skp_ge (bs : Nat → Int32) (e : Nat) : ∀ k q : Nat, q ≤ skp bs e k q ∧ skp bs e k q ≤ max q e := by
  intro k
  induction k with
  | zero => intro q; exact ⟨Nat.le_refl _, Nat.le_max_left _ _⟩
  | succ k ih =>
    intro q
    by_cases h : tb bs e q = 32
    · have := ih (q + 1)
      have hq : q < e := Nat.lt_of_not_le (fun h2 => tb_32 h2 h)
      simp only [skp, h, if_true]
      omega
    · simp only [skp, h, if_false]
      exact ⟨Nat.le_refl _, Nat.le_max_left _ _⟩
def wK (bs : Nat → Int32) (e p q : Nat) : Int32 := if q - p ≤ 8 then (if jDigit (tb bs e q) then (if q - p = 1 then (if tb bs e p = 120 then (if 6 ≤ tb bs e q - 48 then 260 else 259) else 260) else 260) else kow bs e p (q - p)) else 257
def wN (bs : Nat → Int32) (e q : Nat) : Nat := if jDigit (tb bs e q) then q + 1 else q
def wV (bs : Nat → Int32) (e p q : Nat) (old : Int32) : Int32 := if q - p ≤ 8 then (if jDigit (tb bs e q) then tb bs e q - 48 else old) else old
theorem st_tw {O : bO} {d : Nat} {f : bF} {n s : Nat} {Q : bR → bG → Prop} {tl : Int32} {tn : Int32} {tk : Int32} {tv : Int32} {e : Nat} {p : Nat} {bs : Nat → Int32} {q : Nat} (h0 : f 34 = some (.inr (5, [.ref 35, .int tl, .int (nI e), .int tn, .int (nI p), .int tk, .int tv]))) (h1 : f 35 = some (.inl (0, 300, .inl bs))) (e0 : e ≤ 300) (e1 : p ≤ 300) (e2 : q ≤ 300) (hx : jLetter (tb bs e q) = false → bV O mX5_passWord d 30 [(1, .int (nI q)), (0, .ref 34)] [] (f, n, s) Q) (hn : q < e → jLetter (tb bs e q) = true → bV O mX5_passWord d 5 [(1, .int (nI (q + 1))), (0, .ref 34)] [] (f, n, s) Q) (hd : 1 ≤ d) : bV O mX5_passWord d 5 [(1, .int (nI q)), (0, .ref 34)] [] (f, n, s) Q := by
  refine r_iload_n (n := 1) (i := 1) 0 rfl rfl dX5_passWord_5 ?_
  refine r_aload_n (n := 0) (i := 0) 1 rfl rfl dX5_passWord_6 ?_
  refine p_get (fs := [.ref 35, .int tl, .int (nI e), .int tn, .int (nI p), .int tk, .int tv]) flX5_19 h0 rfl dX5_passWord_7 ?_
  refine r_icmp_ge (tgt := 30) (by decide) dX5_passWord_10 (fun c10 => ?_) (fun c10 => ?_)
  · have c10 : e ≤ q := (nI_leI (a := e) (b := q) (by omega) (by omega)).mp c10
    exact hx (jL_out (by omega))
  · have c10 : ¬ e ≤ q := fun h7 => c10 ((nI_leI (a := e) (b := q) (by omega) (by omega)).mpr h7)
    refine r_aload_n (n := 0) (i := 0) 1 rfl rfl dX5_passWord_13 ?_
    refine r_iload_n (n := 1) (i := 1) 0 rfl rfl dX5_passWord_14 ?_
    refine p_callV (As := [.int (nI q)]) (rest := []) (kX5_byteAt (O := O) (d := 0) (f := f) (n := n) (s := s) (tl := tl) (tn := tn) (tk := tk) (tv := tv) (e := e) (tp := nI p) (bs := bs) (a := q) h0 h1 e0 (by omega) (Nat.le_refl _)).call rfl lkX5_31 imX5_byteAt seX5_byteAt rfl h0 rfl rfl (by omega) (Nat.le_of_ble_eq_true rfl) dX5_passWord_15 (fun v9 G9 h9 => ?_) (fun q9 G9 h9 => (by cases h9.1))
    obtain ⟨h8, rfl⟩ := h9; cases h8
    show bV O _ d 18 [(1, .int (nI q)), (0, .ref 34)] [.int (tb bs e q)] (f, n, s) _
    refine p_callS (As := [.int (tb bs e q)]) (rest := []) (kX5_isLetter (O := O) (d := 0) (f := f) (n := n) (s := s) (x := tb bs e q)   (Nat.le_refl _)).call rfl lkX5_38 smX5_isLetter rfl rfl (by omega) (Nat.le_of_ble_eq_true rfl) dX5_passWord_18 (fun v9 G9 h9 => ?_) (fun q9 G9 h9 => (by cases h9.1))
    obtain ⟨h8, rfl⟩ := h9; cases h8
    show bV O _ d 21 [(1, .int (nI q)), (0, .ref 34)] [.int (bI (jLetter (tb bs e q)))] (f, n, s) _
    refine r_if_eq (tgt := 30) (by decide) dX5_passWord_21 (fun c21 => ?_) (fun c21 => ?_)
    · have c21 := bI_0.mp c21
      exact hx c21
    · have c21 := bI_1.mp c21
      refine r_iinc (i := 1) (v := nI (q + 1)) (L' := [(1, .int (nI (q + 1))), (0, .ref 34)]) 0 rfl (nI_inc1 q) dX5_passWord_24 (by decide) rfl ?_
      refine r_goto (tgt := 5) (by decide) dX5_passWord_27 ?_
      exact hn (by omega) c21
theorem lp_tw {O : bO} {d : Nat} {f : bF} {n s : Nat} {Q : bR → bG → Prop} {tl tn tk tv : Int32} {e p : Nat} {bs : Nat → Int32} (h0 : f 34 = some (.inr (5, [.ref 35, .int tl, .int (nI e), .int tn, .int (nI p), .int tk, .int tv]))) (h1 : f 35 = some (.inl (0, 300, .inl bs))) (e0 : e ≤ 300) (e1 : p ≤ 300) (hd : 1 ≤ d) : ∀ k q : Nat, e ≤ q + k → q ≤ 300 → bV O mX5_passWord d 30 [(1, .int (nI (lets bs e k q))), (0, .ref 34)] [] (f, n, s) Q → bV O mX5_passWord d 5 [(1, .int (nI q)), (0, .ref 34)] [] (f, n, s) Q := by
  intro k
  induction k with
  | zero =>
    intro q hq h3 K
    exact st_tw h0 h1 e0 e1 h3 (fun _ => K) (fun h => absurd h (by omega)) hd
  | succ k ih =>
    intro q hq h3 K
    exact st_tw h0 h1 e0 e1 h3 (fun h => by simpa [lets, h] using K) (fun h1 h2 => ih (q + 1) (by omega) (by omega) (by simpa [lets, h2] using K)) hd
theorem st_tw2 {O : bO} {d : Nat} {f : bF} {n s : Nat} {Q : bR → bG → Prop} {tl : Int32} {tn : Int32} {tk : Int32} {tv : Int32} {e : Nat} {p : Nat} {bs : Nat → Int32} {q : Nat} (h0 : f 34 = some (.inr (5, [.ref 35, .int tl, .int (nI e), .int tn, .int (nI p), .int tk, .int tv]))) (h1 : f 35 = some (.inl (0, 300, .inl bs))) (e0 : e ≤ 300) (e1 : p ≤ 300) (e2 : q ≤ 300) (e3 : p ≤ q) (hQ : Q (.inl (some (.int (nI (q - p))))) (bU f 34 (.inr (5, [.ref 35, .int tl, .int (nI e), .int (nI (wN bs e q)), .int (nI p), .int tk, .int tv])), n, s)) (hd : 1 ≤ d) : bV O mX5_passWord d 30 [(1, .int (nI q)), (0, .ref 34)] [] (f, n, s) Q := by
  refine r_aload_n (n := 0) (i := 0) 1 rfl rfl dX5_passWord_30 ?_
  refine r_aload_n (n := 0) (i := 0) 1 rfl rfl dX5_passWord_31 ?_
  refine r_iload_n (n := 1) (i := 1) 0 rfl rfl dX5_passWord_32 ?_
  refine p_callV (As := [.int (nI q)]) (rest := [.ref 34]) (kX5_byteAt (O := O) (d := 0) (f := f) (n := n) (s := s) (tl := tl) (tn := tn) (tk := tk) (tv := tv) (e := e) (tp := nI p) (bs := bs) (a := q) h0 h1 e0 (by omega) (Nat.le_refl _)).call rfl lkX5_31 imX5_byteAt seX5_byteAt rfl h0 rfl rfl (by omega) (Nat.le_of_ble_eq_true rfl) dX5_passWord_33 (fun v9 G9 h9 => ?_) (fun q9 G9 h9 => (by cases h9.1))
  obtain ⟨h8, rfl⟩ := h9; cases h8
  show bV O _ d 36 [(1, .int (nI q)), (0, .ref 34)] [.int (tb bs e q), .ref 34] (f, n, s) _
  refine p_callS (As := [.int (tb bs e q)]) (rest := [.ref 34]) (kX5_isDigit (O := O) (d := 0) (f := f) (n := n) (s := s) (x := tb bs e q)   (Nat.le_refl _)).call rfl lkX5_49 smX5_isDigit rfl rfl (by omega) (Nat.le_of_ble_eq_true rfl) dX5_passWord_36 (fun v9 G9 h9 => ?_) (fun q9 G9 h9 => (by cases h9.1))
  obtain ⟨h8, rfl⟩ := h9; cases h8
  show bV O _ d 39 [(1, .int (nI q)), (0, .ref 34)] [.int (bI (jDigit (tb bs e q))), .ref 34] (f, n, s) _
  refine r_if_eq (tgt := 48) (by decide) dX5_passWord_39 (fun c39 => ?_) (fun c39 => ?_)
  · have c39 := bI_0.mp c39
    refine r_iload_n (n := 1) (i := 1) 0 rfl rfl dX5_passWord_48 ?_
    refine p_put (fs := [.ref 35, .int tl, .int (nI e), .int tn, .int (nI p), .int tk, .int tv]) (fs' := [.ref 35, .int tl, .int (nI e), .int (nI q), .int (nI p), .int tk, .int tv]) flX5_22 h0 (Nat.le_of_ble_eq_true rfl) (bNf_i _) rfl dX5_passWord_49 ?_
    refine r_iload_n (n := 1) (i := 1) 0 rfl rfl dX5_passWord_52 ?_
    refine r_aload_n (n := 0) (i := 0) 1 rfl rfl dX5_passWord_53 ?_
    refine p_get (fs := [.ref 35, .int tl, .int (nI e), .int (nI q), .int (nI p), .int tk, .int tv]) flX5_28 (by exact bU_s _ _ _) rfl dX5_passWord_54 ?_
    refine r_isubE (v := nI (q - p)) (pk_sub (a := q) (b := p) (by omega)) dX5_passWord_57 ?_
    refine r_ireturn rfl dX5_passWord_58 ?_
    have e9 : bU f 34 (.inr (5, [.ref 35, .int tl, .int (nI e), .int (nI q), .int (nI p), .int tk, .int tv])) = bU f 34 (.inr (5, [.ref 35, .int tl, .int (nI e), .int (nI (wN bs e q)), .int (nI p), .int tk, .int tv])) := by simp [wN, c39]
    rw [e9]
    exact hQ
  · have c39 := bI_1.mp c39
    refine r_iload_n (n := 1) (i := 1) 0 rfl rfl dX5_passWord_42 ?_
    refine r_iconst (v := 1) (by decide) dX5_passWord_43 ?_
    refine r_iaddE (v := nI (q + 1)) (nI_add q 1) dX5_passWord_44 ?_
    refine r_goto (tgt := 49) (by decide) dX5_passWord_45 ?_
    refine p_put (fs := [.ref 35, .int tl, .int (nI e), .int tn, .int (nI p), .int tk, .int tv]) (fs' := [.ref 35, .int tl, .int (nI e), .int (nI (q + 1)), .int (nI p), .int tk, .int tv]) flX5_22 h0 (Nat.le_of_ble_eq_true rfl) (bNf_i _) rfl dX5_passWord_49 ?_
    refine r_iload_n (n := 1) (i := 1) 0 rfl rfl dX5_passWord_52 ?_
    refine r_aload_n (n := 0) (i := 0) 1 rfl rfl dX5_passWord_53 ?_
    refine p_get (fs := [.ref 35, .int tl, .int (nI e), .int (nI (q + 1)), .int (nI p), .int tk, .int tv]) flX5_28 (by exact bU_s _ _ _) rfl dX5_passWord_54 ?_
    refine r_isubE (v := nI (q - p)) (pk_sub (a := q) (b := p) (by omega)) dX5_passWord_57 ?_
    refine r_ireturn rfl dX5_passWord_58 ?_
    have e9 : bU f 34 (.inr (5, [.ref 35, .int tl, .int (nI e), .int (nI (q + 1)), .int (nI p), .int tk, .int tv])) = bU f 34 (.inr (5, [.ref 35, .int tl, .int (nI e), .int (nI (wN bs e q)), .int (nI p), .int tk, .int tv])) := by simp [wN, c39]
    rw [e9]
    exact hQ
set_option maxRecDepth 4000 in
theorem kX5_passWord {O : bO} {d : Nat} {f : bF} {n s : Nat} {tl : Int32} {tn : Int32} {tk : Int32} {tv : Int32} {e : Nat} {p : Nat} {bs : Nat → Int32} (h0 : f 34 = some (.inr (5, [.ref 35, .int tl, .int (nI e), .int tn, .int (nI p), .int tk, .int tv]))) (h1 : f 35 = some (.inl (0, 300, .inl bs))) (e0 : e ≤ 300) (e1 : p ≤ 300) (hd : 1 ≤ d) : bMt O mX5_passWord d [.ref 34] (f, n, s) (.inl (some (.int (nI (lets bs e 300 p - p))))) (bU f 34 (.inr (5, [.ref 35, .int tl, .int (nI e), .int (nI (wN bs e (lets bs e 300 p))), .int (nI p), .int tk, .int tv])), n, s) := by
  refine bMt_of (bCall_of (by decide) rfl (Nat.le_of_ble_eq_true rfl) ?_)
  show bV O _ d 0 [(0, .ref 34)] [] (f, n, s) _
  refine r_aload_n (n := 0) (i := 0) 0 rfl rfl dX5_passWord_0 ?_
  refine p_get (fs := [.ref 35, .int tl, .int (nI e), .int tn, .int (nI p), .int tk, .int tv]) flX5_28 h0 rfl dX5_passWord_1 ?_
  refine r_istore_n (n := 1) (i := 1) (L' := [(1, .int (nI p)), (0, .ref 34)]) rfl dX5_passWord_4 (by decide) rfl ?_
  exact lp_tw h0 h1 e0 e1 (by omega) 300 p (by omega) e1 (st_tw2 h0 h1 e0 e1 (by have := lets_ge bs e 300 p; omega) (lets_ge bs e 300 p).1 ⟨rfl, rfl⟩ (by omega))
theorem lets_p (bs : Nat → Int32) (e p : Nat) : p + (lets bs e 300 p - p) = lets bs e 300 p := by have := lets_ge bs e 300 p; omega
section
variable {bs : Nat → Int32} {e p l : Nat} {old : Int32}
theorem wK_a (h1 : ¬ l ≤ 8) : wK bs e p (p + l) = 257 := by unfold wK; rw [Nat.add_sub_cancel_left, if_neg h1]
theorem wK_b (h1 : l ≤ 8) (h2 : jDigit (tb bs e (p + l)) = true) (h3 : ¬ l = 1) : wK bs e p (p + l) = 260 := by unfold wK; rw [Nat.add_sub_cancel_left, if_pos h1, if_pos h2, if_neg h3]
theorem wK_c (h1 : l ≤ 8) (h2 : jDigit (tb bs e (p + l)) = true) (h3 : l = 1) (h4 : ¬ tb bs e p = 120) : wK bs e p (p + l) = 260 := by unfold wK; rw [Nat.add_sub_cancel_left, if_pos h1, if_pos h2, if_pos h3, if_neg h4]
theorem wK_d (h1 : l ≤ 8) (h2 : jDigit (tb bs e (p + l)) = true) (h3 : l = 1) (h4 : tb bs e p = 120) (h5 : 6 ≤ tb bs e (p + l) - 48) : wK bs e p (p + l) = 260 := by unfold wK; rw [Nat.add_sub_cancel_left, if_pos h1, if_pos h2, if_pos h3, if_pos h4, if_pos h5]
theorem wK_x (h1 : l ≤ 8) (h2 : jDigit (tb bs e (p + l)) = true) (h3 : l = 1) (h4 : tb bs e p = 120) (h5 : ¬ 6 ≤ tb bs e (p + l) - 48) : wK bs e p (p + l) = 259 := by unfold wK; rw [Nat.add_sub_cancel_left, if_pos h1, if_pos h2, if_pos h3, if_pos h4, if_neg h5]
theorem wK_k (h1 : l ≤ 8) (h2 : jDigit (tb bs e (p + l)) = false) : wK bs e p (p + l) = kow bs e p l := by unfold wK; rw [Nat.add_sub_cancel_left, if_pos h1, if_neg (Bool.eq_false_iff.mp h2)]
theorem wV_a (h1 : ¬ l ≤ 8) : wV bs e p (p + l) old = old := by unfold wV; rw [Nat.add_sub_cancel_left, if_neg h1]
theorem wV_b (h1 : l ≤ 8) (h2 : jDigit (tb bs e (p + l)) = true) : wV bs e p (p + l) old = tb bs e (p + l) - 48 := by unfold wV; rw [Nat.add_sub_cancel_left, if_pos h1, if_pos h2]
theorem wV_k (h1 : l ≤ 8) (h2 : jDigit (tb bs e (p + l)) = false) : wV bs e p (p + l) old = old := by unfold wV; rw [Nat.add_sub_cancel_left, if_pos h1, if_neg (Bool.eq_false_iff.mp h2)]
end
set_option maxRecDepth 4000 in
theorem kX5_kindOfWord {O : bO} {d : Nat} {f : bF} {n s : Nat} {tl : Int32} {tn : Int32} {tk : Int32} {tv : Int32} {e : Nat} {p : Nat} {bs : Nat → Int32} {l : Nat} (h0 : f 34 = some (.inr (5, [.ref 35, .int tl, .int (nI e), .int tn, .int (nI p), .int tk, .int tv]))) (h1 : f 35 = some (.inl (0, 300, .inl bs))) (e0 : e ≤ 300) (e1 : p ≤ 300) (e2 : l ≤ 300) (hd : 6 ≤ d) : bMt O mX5_kindOfWord d [.ref 34, .int (nI l)] (f, n, s) (.inl (some (.int (wK bs e p (p + l))))) (bU f 34 (.inr (5, [.ref 35, .int tl, .int (nI e), .int tn, .int (nI p), .int tk, .int (wV bs e p (p + l) tv)])), n, s) := by
  refine bMt_of (bCall_of (by decide) rfl (Nat.le_of_ble_eq_true rfl) ?_)
  show bV O _ d 0 [(0, .ref 34), (1, .int (nI l))] [] (f, n, s) _
  refine r_iload_n (n := 1) (i := 1) 1 rfl rfl dX5_kindOfWord_0 ?_
  refine r_bipush (v := 8) (by decide) dX5_kindOfWord_1 ?_
  refine r_icmp_le (tgt := 10) (by decide) dX5_kindOfWord_3 (fun c3 => ?_) (fun c3 => ?_)
  · have c3 : l ≤ 8 := (nI_leI (a := l) (b := 8) (by omega) (by omega)).mp c3
    refine r_aload_n (n := 0) (i := 0) 0 rfl rfl dX5_kindOfWord_10 ?_
    refine r_aload_n (n := 0) (i := 0) 0 rfl rfl dX5_kindOfWord_11 ?_
    refine p_get (fs := [.ref 35, .int tl, .int (nI e), .int tn, .int (nI p), .int tk, .int tv]) flX5_28 h0 rfl dX5_kindOfWord_12 ?_
    refine r_iload_n (n := 1) (i := 1) 1 rfl rfl dX5_kindOfWord_15 ?_
    refine r_iaddE (v := nI (p + l)) (nI_add p l) dX5_kindOfWord_16 ?_
    refine p_callV (As := [.int (nI (p + l))]) (rest := []) (kX5_byteAt (O := O) (d := 0) (f := f) (n := n) (s := s) (tl := tl) (tn := tn) (tk := tk) (tv := tv) (e := e) (tp := nI p) (bs := bs) (a := p + l) h0 h1 (by first | assumption | omega | decide) (by first | assumption | omega | decide) (Nat.le_refl _)).call rfl lkX5_31 imX5_byteAt seX5_byteAt rfl h0 rfl rfl (by omega) (Nat.le_of_ble_eq_true rfl) dX5_kindOfWord_17 (fun v9 G9 h9 => ?_) (fun q9 G9 h9 => (by cases h9.1))
    obtain ⟨h8, rfl⟩ := h9; cases h8
    show bV O _ d 20 [(0, .ref 34), (1, .int (nI l))] [.int (tb bs e (p + l))] (f, n, s) _
    refine r_istore_n (n := 2) (i := 2) (L' := [(2, .int (tb bs e (p + l))), (0, .ref 34), (1, .int (nI l))]) rfl dX5_kindOfWord_20 (by decide) rfl ?_
    refine r_iload_n (n := 2) (i := 2) 0 rfl rfl dX5_kindOfWord_21 ?_
    refine p_callS (As := [.int (tb bs e (p + l))]) (rest := []) (kX5_isDigit (O := O) (d := 0) (f := f) (n := n) (s := s) (x := tb bs e (p + l))   (Nat.le_refl _)).call rfl lkX5_49 smX5_isDigit rfl rfl (by omega) (Nat.le_of_ble_eq_true rfl) dX5_kindOfWord_22 (fun v9 G9 h9 => ?_) (fun q9 G9 h9 => (by cases h9.1))
    obtain ⟨h8, rfl⟩ := h9; cases h8
    show bV O _ d 25 [(2, .int (tb bs e (p + l))), (0, .ref 34), (1, .int (nI l))] [.int (bI (jDigit (tb bs e (p + l))))] (f, n, s) _
    refine r_if_eq (tgt := 73) (by decide) dX5_kindOfWord_25 (fun c25 => ?_) (fun c25 => ?_)
    · have c25 := bI_0.mp c25
      refine r_aload_n (n := 0) (i := 0) 1 rfl rfl dX5_kindOfWord_73 ?_
      refine r_ldcS (i := 0) (tx := "if") (by decide) (by decide) dX5_kindOfWord_74 ?_
      refine r_iload_n (n := 1) (i := 1) 2 rfl rfl dX5_kindOfWord_76 ?_
      refine p_callV (As := [.ref 1, .int (nI l)]) (rest := []) (kX5_spells (O := O) (d := 4) (f := f) (n := n) (s := s) (tl := tl) (tn := tn) (tk := tk) (tv := tv) (e := e) (p := p) (bs := bs) (i := 0) (l := l) h0 h1 (by first | assumption | omega | decide) (by first | assumption | omega | decide) (by first | assumption | omega | decide) (by first | assumption | omega | decide) (Nat.le_refl _)).call rfl lkX5_63 imX5_spells seX5_spells rfl h0 rfl rfl (by omega) (Nat.le_of_ble_eq_true rfl) dX5_kindOfWord_77 (fun v9 G9 h9 => ?_) (fun q9 G9 h9 => (by cases h9.1))
      obtain ⟨h8, rfl⟩ := h9; cases h8
      show bV O _ d 80 [(2, .int (tb bs e (p + l))), (0, .ref 34), (1, .int (nI l))] [.int (bI (splS bs e p 0 l))] (f, n, s) _
      refine r_if_eq (tgt := 87) (by decide) dX5_kindOfWord_80 (fun c80 => ?_) (fun c80 => ?_)
      · have c80 := bI_0.mp c80
        refine r_aload_n (n := 0) (i := 0) 1 rfl rfl dX5_kindOfWord_87 ?_
        refine r_ldcS (i := 1) (tx := "then") (by decide) (by decide) dX5_kindOfWord_88 ?_
        refine r_iload_n (n := 1) (i := 1) 2 rfl rfl dX5_kindOfWord_90 ?_
        refine p_callV (As := [.ref 2, .int (nI l)]) (rest := []) (kX5_spells (O := O) (d := 4) (f := f) (n := n) (s := s) (tl := tl) (tn := tn) (tk := tk) (tv := tv) (e := e) (p := p) (bs := bs) (i := 1) (l := l) h0 h1 (by first | assumption | omega | decide) (by first | assumption | omega | decide) (by first | assumption | omega | decide) (by first | assumption | omega | decide) (Nat.le_refl _)).call rfl lkX5_63 imX5_spells seX5_spells rfl h0 rfl rfl (by omega) (Nat.le_of_ble_eq_true rfl) dX5_kindOfWord_91 (fun v9 G9 h9 => ?_) (fun q9 G9 h9 => (by cases h9.1))
        obtain ⟨h8, rfl⟩ := h9; cases h8
        show bV O _ d 94 [(2, .int (tb bs e (p + l))), (0, .ref 34), (1, .int (nI l))] [.int (bI (splS bs e p 1 l))] (f, n, s) _
        refine r_if_eq (tgt := 101) (by decide) dX5_kindOfWord_94 (fun c94 => ?_) (fun c94 => ?_)
        · have c94 := bI_0.mp c94
          refine r_aload_n (n := 0) (i := 0) 1 rfl rfl dX5_kindOfWord_101 ?_
          refine r_ldcS (i := 2) (tx := "else") (by decide) (by decide) dX5_kindOfWord_102 ?_
          refine r_iload_n (n := 1) (i := 1) 2 rfl rfl dX5_kindOfWord_104 ?_
          refine p_callV (As := [.ref 3, .int (nI l)]) (rest := []) (kX5_spells (O := O) (d := 4) (f := f) (n := n) (s := s) (tl := tl) (tn := tn) (tk := tk) (tv := tv) (e := e) (p := p) (bs := bs) (i := 2) (l := l) h0 h1 (by first | assumption | omega | decide) (by first | assumption | omega | decide) (by first | assumption | omega | decide) (by first | assumption | omega | decide) (Nat.le_refl _)).call rfl lkX5_63 imX5_spells seX5_spells rfl h0 rfl rfl (by omega) (Nat.le_of_ble_eq_true rfl) dX5_kindOfWord_105 (fun v9 G9 h9 => ?_) (fun q9 G9 h9 => (by cases h9.1))
          obtain ⟨h8, rfl⟩ := h9; cases h8
          show bV O _ d 108 [(2, .int (tb bs e (p + l))), (0, .ref 34), (1, .int (nI l))] [.int (bI (splS bs e p 2 l))] (f, n, s) _
          refine r_if_eq (tgt := 115) (by decide) dX5_kindOfWord_108 (fun c108 => ?_) (fun c108 => ?_)
          · have c108 := bI_0.mp c108
            refine r_aload_n (n := 0) (i := 0) 1 rfl rfl dX5_kindOfWord_115 ?_
            refine r_ldcS (i := 3) (tx := "least") (by decide) (by decide) dX5_kindOfWord_116 ?_
            refine r_iload_n (n := 1) (i := 1) 2 rfl rfl dX5_kindOfWord_118 ?_
            refine p_callV (As := [.ref 4, .int (nI l)]) (rest := []) (kX5_spells (O := O) (d := 4) (f := f) (n := n) (s := s) (tl := tl) (tn := tn) (tk := tk) (tv := tv) (e := e) (p := p) (bs := bs) (i := 3) (l := l) h0 h1 (by first | assumption | omega | decide) (by first | assumption | omega | decide) (by first | assumption | omega | decide) (by first | assumption | omega | decide) (Nat.le_refl _)).call rfl lkX5_63 imX5_spells seX5_spells rfl h0 rfl rfl (by omega) (Nat.le_of_ble_eq_true rfl) dX5_kindOfWord_119 (fun v9 G9 h9 => ?_) (fun q9 G9 h9 => (by cases h9.1))
            obtain ⟨h8, rfl⟩ := h9; cases h8
            show bV O _ d 122 [(2, .int (tb bs e (p + l))), (0, .ref 34), (1, .int (nI l))] [.int (bI (splS bs e p 3 l))] (f, n, s) _
            refine r_if_eq (tgt := 129) (by decide) dX5_kindOfWord_122 (fun c122 => ?_) (fun c122 => ?_)
            · have c122 := bI_0.mp c122
              refine r_aload_n (n := 0) (i := 0) 1 rfl rfl dX5_kindOfWord_129 ?_
              refine r_ldcS (i := 4) (tx := "most") (by decide) (by decide) dX5_kindOfWord_130 ?_
              refine r_iload_n (n := 1) (i := 1) 2 rfl rfl dX5_kindOfWord_132 ?_
              refine p_callV (As := [.ref 5, .int (nI l)]) (rest := []) (kX5_spells (O := O) (d := 4) (f := f) (n := n) (s := s) (tl := tl) (tn := tn) (tk := tk) (tv := tv) (e := e) (p := p) (bs := bs) (i := 4) (l := l) h0 h1 (by first | assumption | omega | decide) (by first | assumption | omega | decide) (by first | assumption | omega | decide) (by first | assumption | omega | decide) (Nat.le_refl _)).call rfl lkX5_63 imX5_spells seX5_spells rfl h0 rfl rfl (by omega) (Nat.le_of_ble_eq_true rfl) dX5_kindOfWord_133 (fun v9 G9 h9 => ?_) (fun q9 G9 h9 => (by cases h9.1))
              obtain ⟨h8, rfl⟩ := h9; cases h8
              show bV O _ d 136 [(2, .int (tb bs e (p + l))), (0, .ref 34), (1, .int (nI l))] [.int (bI (splS bs e p 4 l))] (f, n, s) _
              refine r_if_eq (tgt := 145) (by decide) dX5_kindOfWord_136 (fun c136 => ?_) (fun c136 => ?_)
              · have c136 := bI_0.mp c136
                refine r_sipush (v := 260) (by decide) dX5_kindOfWord_145 ?_
                refine r_ireturn rfl dX5_kindOfWord_148 ?_
                exact ⟨by rw [wK_k c3 c25]; simp [kow, c80, c94, c108, c122, c136], by rw [wV_k c3 c25, bU_i h0]⟩
              · have c136 := bI_1.mp c136
                refine r_sipush (v := 265) (by decide) dX5_kindOfWord_139 ?_
                refine r_goto (tgt := 148) (by decide) dX5_kindOfWord_142 ?_
                refine r_ireturn rfl dX5_kindOfWord_148 ?_
                exact ⟨by rw [wK_k c3 c25]; simp [kow, c80, c94, c108, c122, c136], by rw [wV_k c3 c25, bU_i h0]⟩
            · have c122 := bI_1.mp c122
              refine r_sipush (v := 264) (by decide) dX5_kindOfWord_125 ?_
              refine r_ireturn rfl dX5_kindOfWord_128 ?_
              exact ⟨by rw [wK_k c3 c25]; simp [kow, c80, c94, c108, c122], by rw [wV_k c3 c25, bU_i h0]⟩
          · have c108 := bI_1.mp c108
            refine r_sipush (v := 263) (by decide) dX5_kindOfWord_111 ?_
            refine r_ireturn rfl dX5_kindOfWord_114 ?_
            exact ⟨by rw [wK_k c3 c25]; simp [kow, c80, c94, c108], by rw [wV_k c3 c25, bU_i h0]⟩
        · have c94 := bI_1.mp c94
          refine r_sipush (v := 262) (by decide) dX5_kindOfWord_97 ?_
          refine r_ireturn rfl dX5_kindOfWord_100 ?_
          exact ⟨by rw [wK_k c3 c25]; simp [kow, c80, c94], by rw [wV_k c3 c25, bU_i h0]⟩
      · have c80 := bI_1.mp c80
        refine r_sipush (v := 261) (by decide) dX5_kindOfWord_83 ?_
        refine r_ireturn rfl dX5_kindOfWord_86 ?_
        exact ⟨by rw [wK_k c3 c25]; simp [kow, c80], by rw [wV_k c3 c25, bU_i h0]⟩
    · have c25 := bI_1.mp c25
      refine r_aload_n (n := 0) (i := 0) 1 rfl rfl dX5_kindOfWord_28 ?_
      refine r_iload_n (n := 2) (i := 2) 0 rfl rfl dX5_kindOfWord_29 ?_
      refine r_bipush (v := 48) (by decide) dX5_kindOfWord_30 ?_
      refine r_isub dX5_kindOfWord_32 ?_
      refine p_put (fs := [.ref 35, .int tl, .int (nI e), .int tn, .int (nI p), .int tk, .int tv]) (fs' := [.ref 35, .int tl, .int (nI e), .int tn, .int (nI p), .int tk, .int ((tb bs e (p + l)) - 48)]) flX5_58 h0 (Nat.le_of_ble_eq_true rfl) (bNf_i _) rfl dX5_kindOfWord_33 ?_
      refine r_iload_n (n := 1) (i := 1) 2 rfl rfl dX5_kindOfWord_36 ?_
      refine r_iconst (v := 1) (by decide) dX5_kindOfWord_37 ?_
      refine r_icmp_ne (tgt := 69) (by decide) dX5_kindOfWord_38 (fun c38 => ?_) (fun c38 => ?_)
      · have c38 : ¬ l = 1 := fun h7 => c38 ((nI_eq (a := l) (b := 1) (by omega) (by omega)).mpr h7)
        refine r_sipush (v := 260) (by decide) dX5_kindOfWord_69 ?_
        refine r_ireturn rfl dX5_kindOfWord_72 ?_
        exact ⟨by rw [wK_b c3 c25 c38], by rw [wV_b c3 c25]⟩
      · have c38 : l = 1 := (nI_eq (a := l) (b := 1) (by omega) (by omega)).mp c38
        refine r_aload_n (n := 0) (i := 0) 1 rfl rfl dX5_kindOfWord_41 ?_
        refine r_aload_n (n := 0) (i := 0) 1 rfl rfl dX5_kindOfWord_42 ?_
        refine p_get (fs := [.ref 35, .int tl, .int (nI e), .int tn, .int (nI p), .int tk, .int ((tb bs e (p + l)) - 48)]) flX5_28 (by exact bU_s _ _ _) rfl dX5_kindOfWord_43 ?_
        refine p_callV (As := [.int (nI p)]) (rest := []) (kX5_byteAt (O := O) (d := 0) (f := bU f 34 (.inr (5, [.ref 35, .int tl, .int (nI e), .int tn, .int (nI p), .int tk, .int ((tb bs e (p + l)) - 48)]))) (n := n) (s := s) (tl := tl) (tn := tn) (tk := tk) (tv := (tb bs e (p + l)) - 48) (e := e) (tp := nI p) (bs := bs) (a := p) (by exact bU_s _ _ _) (by exact ((bU_n (by decide)).trans (h1))) (by first | assumption | omega | decide) (by first | assumption | omega | decide) (Nat.le_refl _)).call rfl lkX5_31 imX5_byteAt seX5_byteAt rfl (by exact bU_s _ _ _) rfl rfl (by omega) (Nat.le_of_ble_eq_true rfl) dX5_kindOfWord_46 (fun v9 G9 h9 => ?_) (fun q9 G9 h9 => (by cases h9.1))
        obtain ⟨h8, rfl⟩ := h9; cases h8
        show bV O _ d 49 [(2, .int (tb bs e (p + l))), (0, .ref 34), (1, .int (nI l))] [.int (tb bs e p)] (bU f 34 (.inr (5, [.ref 35, .int tl, .int (nI e), .int tn, .int (nI p), .int tk, .int ((tb bs e (p + l)) - 48)])), n, s) _
        refine r_bipush (v := 120) (by decide) dX5_kindOfWord_49 ?_
        refine r_icmp_ne (tgt := 69) (by decide) dX5_kindOfWord_51 (fun c51 => ?_) (fun c51 => ?_)
        · refine r_sipush (v := 260) (by decide) dX5_kindOfWord_69 ?_
          refine r_ireturn rfl dX5_kindOfWord_72 ?_
          exact ⟨by rw [wK_c c3 c25 c38 c51], by rw [wV_b c3 c25]⟩
        · refine r_aload_n (n := 0) (i := 0) 1 rfl rfl dX5_kindOfWord_54 ?_
          refine p_get (fs := [.ref 35, .int tl, .int (nI e), .int tn, .int (nI p), .int tk, .int ((tb bs e (p + l)) - 48)]) flX5_58 (by exact bU_s _ _ _) rfl dX5_kindOfWord_55 ?_
          refine r_bipush (v := 6) (by decide) dX5_kindOfWord_58 ?_
          refine r_icmp_ge (tgt := 69) (by decide) dX5_kindOfWord_60 (fun c60 => ?_) (fun c60 => ?_)
          · refine r_sipush (v := 260) (by decide) dX5_kindOfWord_69 ?_
            refine r_ireturn rfl dX5_kindOfWord_72 ?_
            exact ⟨by rw [wK_d c3 c25 c38 c51 c60], by rw [wV_b c3 c25]⟩
          · refine r_sipush (v := 259) (by decide) dX5_kindOfWord_63 ?_
            refine r_goto (tgt := 72) (by decide) dX5_kindOfWord_66 ?_
            refine r_ireturn rfl dX5_kindOfWord_72 ?_
            exact ⟨by rw [wK_x c3 c25 c38 c51 c60], by rw [wV_b c3 c25]⟩
  · have c3 : ¬ l ≤ 8 := fun h7 => c3 ((nI_leI (a := l) (b := 8) (by omega) (by omega)).mpr h7)
    refine r_sipush (v := 257) (by decide) dX5_kindOfWord_6 ?_
    refine r_ireturn rfl dX5_kindOfWord_9 ?_
    exact ⟨by rw [wK_a c3], by rw [wV_a c3, bU_i h0]⟩
theorem st_tn {O : bO} {d : Nat} {f : bF} {n s : Nat} {Q : bR → bG → Prop} {tl : Int32} {tn : Int32} {tk : Int32} {tv : Int32} {e : Nat} {p : Nat} {bs : Nat → Int32} {q : Nat} {x : Int32} (h0 : f 34 = some (.inr (5, [.ref 35, .int tl, .int (nI e), .int tn, .int (nI p), .int tk, .int tv]))) (h1 : f 35 = some (.inl (0, 300, .inl bs))) (e0 : e ≤ 300) (e1 : p ≤ 300) (e2 : q ≤ 300) (hx : jDigit (tb bs e q) = false → bV O mX5_takeWhole d 46 [(2, .int (nI q)), (1, .int x), (0, .ref 34)] [] (f, n, s) Q) (hn : q < e → jDigit (tb bs e q) = true → bV O mX5_takeWhole d 7 [(2, .int (nI (q + 1))), (1, .int (x * 10 + tb bs e q - 48)), (0, .ref 34)] [] (f, n, s) Q) (hd : 1 ≤ d) : bV O mX5_takeWhole d 7 [(2, .int (nI q)), (1, .int x), (0, .ref 34)] [] (f, n, s) Q := by
  refine r_iload_n (n := 2) (i := 2) 0 rfl rfl dX5_takeWhole_7 ?_
  refine r_aload_n (n := 0) (i := 0) 2 rfl rfl dX5_takeWhole_8 ?_
  refine p_get (fs := [.ref 35, .int tl, .int (nI e), .int tn, .int (nI p), .int tk, .int tv]) flX5_19 h0 rfl dX5_takeWhole_9 ?_
  refine r_icmp_ge (tgt := 46) (by decide) dX5_takeWhole_12 (fun c12 => ?_) (fun c12 => ?_)
  · have c12 : e ≤ q := (nI_leI (a := e) (b := q) (by omega) (by omega)).mp c12
    exact hx (jD_out (by omega))
  · have c12 : ¬ e ≤ q := fun h7 => c12 ((nI_leI (a := e) (b := q) (by omega) (by omega)).mpr h7)
    refine r_aload_n (n := 0) (i := 0) 2 rfl rfl dX5_takeWhole_15 ?_
    refine r_iload_n (n := 2) (i := 2) 0 rfl rfl dX5_takeWhole_16 ?_
    refine p_callV (As := [.int (nI q)]) (rest := []) (kX5_byteAt (O := O) (d := 0) (f := f) (n := n) (s := s) (tl := tl) (tn := tn) (tk := tk) (tv := tv) (e := e) (tp := nI p) (bs := bs) (a := q) h0 h1 e0 (by omega) (Nat.le_refl _)).call rfl lkX5_31 imX5_byteAt seX5_byteAt rfl h0 rfl rfl (by omega) (Nat.le_of_ble_eq_true rfl) dX5_takeWhole_17 (fun v9 G9 h9 => ?_) (fun q9 G9 h9 => (by cases h9.1))
    obtain ⟨h8, rfl⟩ := h9; cases h8
    show bV O _ d 20 [(2, .int (nI q)), (1, .int x), (0, .ref 34)] [.int (tb bs e q)] (f, n, s) _
    refine p_callS (As := [.int (tb bs e q)]) (rest := []) (kX5_isDigit (O := O) (d := 0) (f := f) (n := n) (s := s) (x := tb bs e q)   (Nat.le_refl _)).call rfl lkX5_49 smX5_isDigit rfl rfl (by omega) (Nat.le_of_ble_eq_true rfl) dX5_takeWhole_20 (fun v9 G9 h9 => ?_) (fun q9 G9 h9 => (by cases h9.1))
    obtain ⟨h8, rfl⟩ := h9; cases h8
    show bV O _ d 23 [(2, .int (nI q)), (1, .int x), (0, .ref 34)] [.int (bI (jDigit (tb bs e q)))] (f, n, s) _
    refine r_if_eq (tgt := 46) (by decide) dX5_takeWhole_23 (fun c23 => ?_) (fun c23 => ?_)
    · have c23 := bI_0.mp c23
      exact hx c23
    · have c23 := bI_1.mp c23
      refine r_iload_n (n := 1) (i := 1) 1 rfl rfl dX5_takeWhole_26 ?_
      refine r_bipush (v := 10) (by decide) dX5_takeWhole_27 ?_
      refine r_imul dX5_takeWhole_29 ?_
      refine r_aload_n (n := 0) (i := 0) 2 rfl rfl dX5_takeWhole_30 ?_
      refine r_iload_n (n := 2) (i := 2) 0 rfl rfl dX5_takeWhole_31 ?_
      refine p_callV (As := [.int (nI q)]) (rest := [.int (x * 10)]) (kX5_byteAt (O := O) (d := 0) (f := f) (n := n) (s := s) (tl := tl) (tn := tn) (tk := tk) (tv := tv) (e := e) (tp := nI p) (bs := bs) (a := q) h0 h1 e0 (by omega) (Nat.le_refl _)).call rfl lkX5_31 imX5_byteAt seX5_byteAt rfl h0 rfl rfl (by omega) (Nat.le_of_ble_eq_true rfl) dX5_takeWhole_32 (fun v9 G9 h9 => ?_) (fun q9 G9 h9 => (by cases h9.1))
      obtain ⟨h8, rfl⟩ := h9; cases h8
      show bV O _ d 35 [(2, .int (nI q)), (1, .int x), (0, .ref 34)] [.int (tb bs e q), .int (x * 10)] (f, n, s) _
      refine r_iadd dX5_takeWhole_35 ?_
      refine r_bipush (v := 48) (by decide) dX5_takeWhole_36 ?_
      refine r_isub dX5_takeWhole_38 ?_
      refine r_istore_n (n := 1) (i := 1) (L' := [(1, .int (((x * 10) + (tb bs e q)) - 48)), (2, .int (nI q)), (0, .ref 34)]) rfl dX5_takeWhole_39 (by decide) rfl ?_
      refine r_iinc (i := 2) (v := nI (q + 1)) (L' := [(2, .int (nI (q + 1))), (1, .int (((x * 10) + (tb bs e q)) - 48)), (0, .ref 34)]) 1 rfl (nI_inc1 q) dX5_takeWhole_40 (by decide) rfl ?_
      refine r_goto (tgt := 7) (by decide) dX5_takeWhole_43 ?_
      exact hn (by omega) c23
theorem lp_tn {O : bO} {d : Nat} {f : bF} {n s : Nat} {Q : bR → bG → Prop} {tl tn tk tv : Int32} {e p : Nat} {bs : Nat → Int32} (h0 : f 34 = some (.inr (5, [.ref 35, .int tl, .int (nI e), .int tn, .int (nI p), .int tk, .int tv]))) (h1 : f 35 = some (.inl (0, 300, .inl bs))) (e0 : e ≤ 300) (e1 : p ≤ 300) (hd : 1 ≤ d) : ∀ (k q : Nat) (x : Int32), e ≤ q + k → q ≤ 300 → bV O mX5_takeWhole d 46 [(2, .int (nI (digs bs e k q))), (1, .int (nacc bs e k q x)), (0, .ref 34)] [] (f, n, s) Q → bV O mX5_takeWhole d 7 [(2, .int (nI q)), (1, .int x), (0, .ref 34)] [] (f, n, s) Q := by
  intro k
  induction k with
  | zero =>
    intro q x hq h3 K
    exact st_tn h0 h1 e0 e1 h3 (fun _ => K) (fun h => absurd h (by omega)) hd
  | succ k ih =>
    intro q x hq h3 K
    exact st_tn h0 h1 e0 e1 h3 (fun h => by simpa [digs, nacc, h] using K) (fun h1 h2 => ih (q + 1) _ (by omega) (by omega) (by simpa [digs, nacc, h2] using K)) hd
theorem st_tn2 {O : bO} {d : Nat} {f : bF} {n s : Nat} {Q : bR → bG → Prop} {tl : Int32} {tn : Int32} {tk : Int32} {tv : Int32} {e : Nat} {p : Nat} {bs : Nat → Int32} {q : Nat} {x : Int32} (h0 : f 34 = some (.inr (5, [.ref 35, .int tl, .int (nI e), .int tn, .int (nI p), .int tk, .int tv]))) (h1 : f 35 = some (.inl (0, 300, .inl bs))) (e0 : e ≤ 300) (e1 : p ≤ 300) (e2 : q ≤ 300) (e3 : p ≤ q) (hQ : Q (.inl none) (bU f 34 (.inr (5, [.ref 35, .int tl, .int (nI e), .int (nI q), .int (nI p), .int (if q - p ≤ 4 then 258 else 257), .int x])), n, s)) (hd : 0 ≤ d) : bV O mX5_takeWhole d 46 [(2, .int (nI q)), (1, .int x), (0, .ref 34)] [] (f, n, s) Q := by
  refine r_aload_n (n := 0) (i := 0) 2 rfl rfl dX5_takeWhole_46 ?_
  refine r_iload_n (n := 2) (i := 2) 0 rfl rfl dX5_takeWhole_47 ?_
  refine p_put (fs := [.ref 35, .int tl, .int (nI e), .int tn, .int (nI p), .int tk, .int tv]) (fs' := [.ref 35, .int tl, .int (nI e), .int (nI q), .int (nI p), .int tk, .int tv]) flX5_22 h0 (Nat.le_of_ble_eq_true rfl) (bNf_i _) rfl dX5_takeWhole_48 ?_
  refine r_aload_n (n := 0) (i := 0) 2 rfl rfl dX5_takeWhole_51 ?_
  refine r_iload_n (n := 1) (i := 1) 1 rfl rfl dX5_takeWhole_52 ?_
  refine p_put (fs := [.ref 35, .int tl, .int (nI e), .int (nI q), .int (nI p), .int tk, .int tv]) (fs' := [.ref 35, .int tl, .int (nI e), .int (nI q), .int (nI p), .int tk, .int x]) flX5_58 (by exact bU_s _ _ _) (Nat.le_of_ble_eq_true rfl) (bNf_i _) rfl dX5_takeWhole_53 ?_
  refine bV_h (f2 := bU f 34 (.inr (5, [.ref 35, .int tl, .int (nI e), .int (nI q), .int (nI p), .int tk, .int x]))) (bU_u _ _ _ _) ?_
  refine r_aload_n (n := 0) (i := 0) 2 rfl rfl dX5_takeWhole_56 ?_
  refine r_iload_n (n := 2) (i := 2) 0 rfl rfl dX5_takeWhole_57 ?_
  refine r_aload_n (n := 0) (i := 0) 2 rfl rfl dX5_takeWhole_58 ?_
  refine p_get (fs := [.ref 35, .int tl, .int (nI e), .int (nI q), .int (nI p), .int tk, .int x]) flX5_28 (by exact bU_s _ _ _) rfl dX5_takeWhole_59 ?_
  refine r_isubE (v := nI (q - p)) (pk_sub (a := q) (b := p) (by omega)) dX5_takeWhole_62 ?_
  refine r_iconst (v := 4) (by decide) dX5_takeWhole_63 ?_
  refine r_icmp_le (tgt := 73) (by decide) dX5_takeWhole_64 (fun c64 => ?_) (fun c64 => ?_)
  · have c64 : (q - p) ≤ 4 := (nI_leI (a := (q - p)) (b := 4) (by omega) (by omega)).mp c64
    refine r_sipush (v := 258) (by decide) dX5_takeWhole_73 ?_
    refine p_put (fs := [.ref 35, .int tl, .int (nI e), .int (nI q), .int (nI p), .int tk, .int x]) (fs' := [.ref 35, .int tl, .int (nI e), .int (nI q), .int (nI p), .int 258, .int x]) flX5_35 (by exact bU_s _ _ _) (Nat.le_of_ble_eq_true rfl) (bNf_i _) rfl dX5_takeWhole_76 ?_
    refine bV_h (f2 := bU f 34 (.inr (5, [.ref 35, .int tl, .int (nI e), .int (nI q), .int (nI p), .int 258, .int x]))) (bU_u _ _ _ _) ?_
    refine r_return rfl dX5_takeWhole_79 ?_
    have e9 : bU f 34 (.inr (5, [.ref 35, .int tl, .int (nI e), .int (nI q), .int (nI p), .int 258, .int x])) = bU f 34 (.inr (5, [.ref 35, .int tl, .int (nI e), .int (nI q), .int (nI p), .int (if q - p ≤ 4 then 258 else 257), .int x])) := by simp [c64]
    rw [e9]
    exact hQ
  · have c64 : ¬ (q - p) ≤ 4 := fun h7 => c64 ((nI_leI (a := (q - p)) (b := 4) (by omega) (by omega)).mpr h7)
    refine r_sipush (v := 257) (by decide) dX5_takeWhole_67 ?_
    refine r_goto (tgt := 76) (by decide) dX5_takeWhole_70 ?_
    refine p_put (fs := [.ref 35, .int tl, .int (nI e), .int (nI q), .int (nI p), .int tk, .int x]) (fs' := [.ref 35, .int tl, .int (nI e), .int (nI q), .int (nI p), .int 257, .int x]) flX5_35 (by exact bU_s _ _ _) (Nat.le_of_ble_eq_true rfl) (bNf_i _) rfl dX5_takeWhole_76 ?_
    refine bV_h (f2 := bU f 34 (.inr (5, [.ref 35, .int tl, .int (nI e), .int (nI q), .int (nI p), .int 257, .int x]))) (bU_u _ _ _ _) ?_
    refine r_return rfl dX5_takeWhole_79 ?_
    have e9 : bU f 34 (.inr (5, [.ref 35, .int tl, .int (nI e), .int (nI q), .int (nI p), .int 257, .int x])) = bU f 34 (.inr (5, [.ref 35, .int tl, .int (nI e), .int (nI q), .int (nI p), .int (if q - p ≤ 4 then 258 else 257), .int x])) := by simp [c64]
    rw [e9]
    exact hQ
set_option maxRecDepth 4000 in
theorem kX5_takeWhole {O : bO} {d : Nat} {f : bF} {n s : Nat} {tl : Int32} {tn : Int32} {tk : Int32} {tv : Int32} {e : Nat} {p : Nat} {bs : Nat → Int32} (h0 : f 34 = some (.inr (5, [.ref 35, .int tl, .int (nI e), .int tn, .int (nI p), .int tk, .int tv]))) (h1 : f 35 = some (.inl (0, 300, .inl bs))) (e0 : e ≤ 300) (e1 : p ≤ 300) (hd : 1 ≤ d) : bMt O mX5_takeWhole d [.ref 34] (f, n, s) (.inl none) (bU f 34 (.inr (5, [.ref 35, .int tl, .int (nI e), .int (nI (digs bs e 300 p)), .int (nI p), .int (if digs bs e 300 p - p ≤ 4 then 258 else 257), .int (nacc bs e 300 p 0)])), n, s) := by
  refine bMt_of (bCall_of (by decide) rfl (Nat.le_of_ble_eq_true rfl) ?_)
  show bV O _ d 0 [(0, .ref 34)] [] (f, n, s) _
  refine r_iconst (v := 0) (by decide) dX5_takeWhole_0 ?_
  refine r_istore_n (n := 1) (i := 1) (L' := [(1, .int 0), (0, .ref 34)]) rfl dX5_takeWhole_1 (by decide) rfl ?_
  refine r_aload_n (n := 0) (i := 0) 1 rfl rfl dX5_takeWhole_2 ?_
  refine p_get (fs := [.ref 35, .int tl, .int (nI e), .int tn, .int (nI p), .int tk, .int tv]) flX5_28 h0 rfl dX5_takeWhole_3 ?_
  refine r_istore_n (n := 2) (i := 2) (L' := [(2, .int (nI p)), (1, .int 0), (0, .ref 34)]) rfl dX5_takeWhole_6 (by decide) rfl ?_
  exact lp_tn h0 h1 e0 e1 (by omega) 300 p 0 (by omega) e1 (st_tn2 h0 h1 e0 e1 (by have := digs_ge bs e 300 p; omega) (digs_ge bs e 300 p).1 ⟨rfl, rfl⟩ (by omega))
/-- the token from q on: its place, kind, number, and what comes behind it -/
def tkP (bs : Nat → Int32) (e q : Nat) : Nat := skp bs e 300 q
def tkK (bs : Nat → Int32) (e p : Nat) : Int32 := if tb bs e p = -1 then 256 else if jLetter (tb bs e p) then wK bs e p (lets bs e 300 p) else if jDigit (tb bs e p) then (if digs bs e 300 p - p ≤ 4 then 258 else 257) else if jSign (tb bs e p) then tb bs e p else 257
def tkV (bs : Nat → Int32) (e p : Nat) (old : Int32) : Int32 := if tb bs e p = -1 then old else if jLetter (tb bs e p) then wV bs e p (lets bs e 300 p) old else if jDigit (tb bs e p) then nacc bs e 300 p 0 else old
def tkN (bs : Nat → Int32) (e p : Nat) : Nat := if tb bs e p = -1 then p else if jLetter (tb bs e p) then wN bs e (lets bs e 300 p) else if jDigit (tb bs e p) then digs bs e 300 p else p + 1
theorem st_ad {O : bO} {d : Nat} {f : bF} {n s : Nat} {Q : bR → bG → Prop} {tl : Int32} {tn : Int32} {tk : Int32} {tv : Int32} {e : Nat} {bs : Nat → Int32} {q : Nat} (h1 : f 35 = some (.inl (0, 300, .inl bs))) (e0 : e ≤ 300) (e2 : q ≤ 300) (hx : ¬ tb bs e q = 32 → bV O mX5_advance d 45 [(0, .ref 34)] [] (bU f 34 (.inr (5, [.ref 35, .int tl, .int (nI e), .int tn, .int (nI q), .int tk, .int tv])), n, s) Q) (hn : q < e → tb bs e q = 32 → bV O mX5_advance d 8 [(0, .ref 34)] [] (bU f 34 (.inr (5, [.ref 35, .int tl, .int (nI e), .int tn, .int (nI (q + 1)), .int tk, .int tv])), n, s) Q) (hd : 1 ≤ d) : bV O mX5_advance d 8 [(0, .ref 34)] [] (bU f 34 (.inr (5, [.ref 35, .int tl, .int (nI e), .int tn, .int (nI q), .int tk, .int tv])), n, s) Q := by
  refine r_aload_n (n := 0) (i := 0) 0 rfl rfl dX5_advance_8 ?_
  refine p_get (fs := [.ref 35, .int tl, .int (nI e), .int tn, .int (nI q), .int tk, .int tv]) flX5_28 (by exact bU_s _ _ _) rfl dX5_advance_9 ?_
  refine r_aload_n (n := 0) (i := 0) 0 rfl rfl dX5_advance_12 ?_
  refine p_get (fs := [.ref 35, .int tl, .int (nI e), .int tn, .int (nI q), .int tk, .int tv]) flX5_19 (by exact bU_s _ _ _) rfl dX5_advance_13 ?_
  refine r_icmp_ge (tgt := 45) (by decide) dX5_advance_16 (fun c16 => ?_) (fun c16 => ?_)
  · have c16 : e ≤ q := (nI_leI (a := e) (b := q) (by omega) (by omega)).mp c16
    exact hx (tb_32 (by omega))
  · have c16 : ¬ e ≤ q := fun h7 => c16 ((nI_leI (a := e) (b := q) (by omega) (by omega)).mpr h7)
    refine r_aload_n (n := 0) (i := 0) 0 rfl rfl dX5_advance_19 ?_
    refine r_aload_n (n := 0) (i := 0) 0 rfl rfl dX5_advance_20 ?_
    refine p_get (fs := [.ref 35, .int tl, .int (nI e), .int tn, .int (nI q), .int tk, .int tv]) flX5_28 (by exact bU_s _ _ _) rfl dX5_advance_21 ?_
    refine p_callV (As := [.int (nI q)]) (rest := []) (kX5_byteAt (O := O) (d := 0) (f := bU f 34 (.inr (5, [.ref 35, .int tl, .int (nI e), .int tn, .int (nI q), .int tk, .int tv]))) (n := n) (s := s) (tl := tl) (tn := tn) (tk := tk) (tv := tv) (e := e) (tp := nI q) (bs := bs) (a := q) (by exact bU_s _ _ _) (by exact ((bU_n (by decide)).trans (h1))) e0 (by omega) (Nat.le_refl _)).call rfl lkX5_31 imX5_byteAt seX5_byteAt rfl (by exact bU_s _ _ _) rfl rfl (by omega) (Nat.le_of_ble_eq_true rfl) dX5_advance_24 (fun v9 G9 h9 => ?_) (fun q9 G9 h9 => (by cases h9.1))
    obtain ⟨h8, rfl⟩ := h9; cases h8
    show bV O _ d 27 [(0, .ref 34)] [.int (tb bs e q)] (bU f 34 (.inr (5, [.ref 35, .int tl, .int (nI e), .int tn, .int (nI q), .int tk, .int tv])), n, s) _
    refine r_bipush (v := 32) (by decide) dX5_advance_27 ?_
    refine r_icmp_ne (tgt := 45) (by decide) dX5_advance_29 (fun c29 => ?_) (fun c29 => ?_)
    · exact hx c29
    · refine r_aload_n (n := 0) (i := 0) 0 rfl rfl dX5_advance_32 ?_
      refine r_dup rfl dX5_advance_33 ?_
      refine p_get (fs := [.ref 35, .int tl, .int (nI e), .int tn, .int (nI q), .int tk, .int tv]) flX5_28 (by exact bU_s _ _ _) rfl dX5_advance_34 ?_
      refine r_iconst (v := 1) (by decide) dX5_advance_37 ?_
      refine r_iaddE (v := nI (q + 1)) (nI_add q 1) dX5_advance_38 ?_
      refine p_put (fs := [.ref 35, .int tl, .int (nI e), .int tn, .int (nI q), .int tk, .int tv]) (fs' := [.ref 35, .int tl, .int (nI e), .int tn, .int (nI (q + 1)), .int tk, .int tv]) flX5_28 (by exact bU_s _ _ _) (Nat.le_of_ble_eq_true rfl) (bNf_i _) rfl dX5_advance_39 ?_
      refine bV_h (f2 := bU f 34 (.inr (5, [.ref 35, .int tl, .int (nI e), .int tn, .int (nI (q + 1)), .int tk, .int tv]))) (bU_u _ _ _ _) ?_
      refine r_goto (tgt := 8) (by decide) dX5_advance_42 ?_
      exact hn (by omega) c29
theorem lp_ad {O : bO} {d : Nat} {f : bF} {n s : Nat} {Q : bR → bG → Prop} {tl tn tk tv : Int32} {e : Nat} {bs : Nat → Int32} (h1 : f 35 = some (.inl (0, 300, .inl bs))) (e0 : e ≤ 300) (hd : 1 ≤ d) : ∀ k q : Nat, e ≤ q + k → q ≤ 300 → bV O mX5_advance d 45 [(0, .ref 34)] [] (bU f 34 (.inr (5, [.ref 35, .int tl, .int (nI e), .int tn, .int (nI (skp bs e k q)), .int tk, .int tv])), n, s) Q → bV O mX5_advance d 8 [(0, .ref 34)] [] (bU f 34 (.inr (5, [.ref 35, .int tl, .int (nI e), .int tn, .int (nI q), .int tk, .int tv])), n, s) Q := by
  intro k
  induction k with
  | zero =>
    intro q hq h3 K
    exact st_ad h1 e0 h3 (fun _ => K) (fun h => absurd h (by omega)) hd
  | succ k ih =>
    intro q hq h3 K
    exact st_ad h1 e0 h3 (fun h => by simpa [skp, h] using K) (fun h1 h2 => ih (q + 1) (by omega) (by omega) (by simpa [skp, h2] using K)) hd
theorem st_ad2 {O : bO} {d : Nat} {f : bF} {n s : Nat} {Q : bR → bG → Prop} {tl : Int32} {tn : Int32} {tk : Int32} {tv : Int32} {e : Nat} {p : Nat} {bs : Nat → Int32} (h1 : f 35 = some (.inl (0, 300, .inl bs))) (e0 : e ≤ 300) (e1 : p ≤ 300) (hQ : Q (.inl none) (bU f 34 (.inr (5, [.ref 35, .int tl, .int (nI e), .int (nI (tkN bs e p)), .int (nI p), .int (tkK bs e p), .int (tkV bs e p tv)])), n, s)) (hd : 7 ≤ d) : bV O mX5_advance d 45 [(0, .ref 34)] [] (bU f 34 (.inr (5, [.ref 35, .int tl, .int (nI e), .int tn, .int (nI p), .int tk, .int tv])), n, s) Q := by
  refine r_aload_n (n := 0) (i := 0) 0 rfl rfl dX5_advance_45 ?_
  refine r_aload_n (n := 0) (i := 0) 0 rfl rfl dX5_advance_46 ?_
  refine p_get (fs := [.ref 35, .int tl, .int (nI e), .int tn, .int (nI p), .int tk, .int tv]) flX5_28 (by exact bU_s _ _ _) rfl dX5_advance_47 ?_
  refine p_callV (As := [.int (nI p)]) (rest := []) (kX5_byteAt (O := O) (d := 0) (f := bU f 34 (.inr (5, [.ref 35, .int tl, .int (nI e), .int tn, .int (nI p), .int tk, .int tv]))) (n := n) (s := s) (tl := tl) (tn := tn) (tk := tk) (tv := tv) (e := e) (tp := nI p) (bs := bs) (a := p) (by exact bU_s _ _ _) (by exact ((bU_n (by decide)).trans (h1))) e0 (by omega) (Nat.le_refl _)).call rfl lkX5_31 imX5_byteAt seX5_byteAt rfl (by exact bU_s _ _ _) rfl rfl (by omega) (Nat.le_of_ble_eq_true rfl) dX5_advance_50 (fun v9 G9 h9 => ?_) (fun q9 G9 h9 => (by cases h9.1))
  obtain ⟨h8, rfl⟩ := h9; cases h8
  show bV O _ d 53 [(0, .ref 34)] [.int (tb bs e p)] (bU f 34 (.inr (5, [.ref 35, .int tl, .int (nI e), .int tn, .int (nI p), .int tk, .int tv])), n, s) _
  refine r_istore_n (n := 1) (i := 1) (L' := [(1, .int (tb bs e p)), (0, .ref 34)]) rfl dX5_advance_53 (by decide) rfl ?_
  refine r_iload_n (n := 1) (i := 1) 0 rfl rfl dX5_advance_54 ?_
  refine r_iconst (v := (-1)) (by decide) dX5_advance_55 ?_
  refine r_icmp_ne (tgt := 77) (by decide) dX5_advance_56 (fun c56 => ?_) (fun c56 => ?_)
  · refine r_iload_n (n := 1) (i := 1) 0 rfl rfl dX5_advance_77 ?_
    refine p_callS (As := [.int (tb bs e p)]) (rest := []) (kX5_isLetter (O := O) (d := 0) (f := bU f 34 (.inr (5, [.ref 35, .int tl, .int (nI e), .int tn, .int (nI p), .int tk, .int tv]))) (n := n) (s := s) (x := tb bs e p)   (Nat.le_refl _)).call rfl lkX5_38 smX5_isLetter rfl rfl (by omega) (Nat.le_of_ble_eq_true rfl) dX5_advance_78 (fun v9 G9 h9 => ?_) (fun q9 G9 h9 => (by cases h9.1))
    obtain ⟨h8, rfl⟩ := h9; cases h8
    show bV O _ d 81 [(1, .int (tb bs e p)), (0, .ref 34)] [.int (bI (jLetter (tb bs e p)))] (bU f 34 (.inr (5, [.ref 35, .int tl, .int (nI e), .int tn, .int (nI p), .int tk, .int tv])), n, s) _
    refine r_if_eq (tgt := 99) (by decide) dX5_advance_81 (fun c81 => ?_) (fun c81 => ?_)
    · have c81 := bI_0.mp c81
      refine r_iload_n (n := 1) (i := 1) 0 rfl rfl dX5_advance_99 ?_
      refine p_callS (As := [.int (tb bs e p)]) (rest := []) (kX5_isDigit (O := O) (d := 0) (f := bU f 34 (.inr (5, [.ref 35, .int tl, .int (nI e), .int tn, .int (nI p), .int tk, .int tv]))) (n := n) (s := s) (x := tb bs e p)   (Nat.le_refl _)).call rfl lkX5_49 smX5_isDigit rfl rfl (by omega) (Nat.le_of_ble_eq_true rfl) dX5_advance_100 (fun v9 G9 h9 => ?_) (fun q9 G9 h9 => (by cases h9.1))
      obtain ⟨h8, rfl⟩ := h9; cases h8
      show bV O _ d 103 [(1, .int (tb bs e p)), (0, .ref 34)] [.int (bI (jDigit (tb bs e p)))] (bU f 34 (.inr (5, [.ref 35, .int tl, .int (nI e), .int tn, .int (nI p), .int tk, .int tv])), n, s) _
      refine r_if_eq (tgt := 113) (by decide) dX5_advance_103 (fun c103 => ?_) (fun c103 => ?_)
      · have c103 := bI_0.mp c103
        refine r_aload_n (n := 0) (i := 0) 1 rfl rfl dX5_advance_113 ?_
        refine r_iload_n (n := 1) (i := 1) 0 rfl rfl dX5_advance_114 ?_
        refine p_callS (As := [.int (tb bs e p)]) (rest := [.ref 34]) (kX5_isSign (O := O) (d := 0) (f := bU f 34 (.inr (5, [.ref 35, .int tl, .int (nI e), .int tn, .int (nI p), .int tk, .int tv]))) (n := n) (s := s) (x := tb bs e p)   (Nat.le_refl _)).call rfl lkX5_55 smX5_isSign rfl rfl (by omega) (Nat.le_of_ble_eq_true rfl) dX5_advance_115 (fun v9 G9 h9 => ?_) (fun q9 G9 h9 => (by cases h9.1))
        obtain ⟨h8, rfl⟩ := h9; cases h8
        show bV O _ d 118 [(1, .int (tb bs e p)), (0, .ref 34)] [.int (bI (jSign (tb bs e p))), .ref 34] (bU f 34 (.inr (5, [.ref 35, .int tl, .int (nI e), .int tn, .int (nI p), .int tk, .int tv])), n, s) _
        refine r_if_eq (tgt := 125) (by decide) dX5_advance_118 (fun c118 => ?_) (fun c118 => ?_)
        · have c118 := bI_0.mp c118
          refine r_sipush (v := 257) (by decide) dX5_advance_125 ?_
          refine p_put (fs := [.ref 35, .int tl, .int (nI e), .int tn, .int (nI p), .int tk, .int tv]) (fs' := [.ref 35, .int tl, .int (nI e), .int tn, .int (nI p), .int 257, .int tv]) flX5_35 (by exact bU_s _ _ _) (Nat.le_of_ble_eq_true rfl) (bNf_i _) rfl dX5_advance_128 ?_
          refine bV_h (f2 := bU f 34 (.inr (5, [.ref 35, .int tl, .int (nI e), .int tn, .int (nI p), .int 257, .int tv]))) (bU_u _ _ _ _) ?_
          refine r_aload_n (n := 0) (i := 0) 1 rfl rfl dX5_advance_131 ?_
          refine r_aload_n (n := 0) (i := 0) 1 rfl rfl dX5_advance_132 ?_
          refine p_get (fs := [.ref 35, .int tl, .int (nI e), .int tn, .int (nI p), .int 257, .int tv]) flX5_28 (by exact bU_s _ _ _) rfl dX5_advance_133 ?_
          refine r_iconst (v := 1) (by decide) dX5_advance_136 ?_
          refine r_iaddE (v := nI (p + 1)) (nI_add p 1) dX5_advance_137 ?_
          refine p_put (fs := [.ref 35, .int tl, .int (nI e), .int tn, .int (nI p), .int 257, .int tv]) (fs' := [.ref 35, .int tl, .int (nI e), .int (nI (p + 1)), .int (nI p), .int 257, .int tv]) flX5_22 (by exact bU_s _ _ _) (Nat.le_of_ble_eq_true rfl) (bNf_i _) rfl dX5_advance_138 ?_
          refine bV_h (f2 := bU f 34 (.inr (5, [.ref 35, .int tl, .int (nI e), .int (nI (p + 1)), .int (nI p), .int 257, .int tv]))) (bU_u _ _ _ _) ?_
          refine r_return rfl dX5_advance_141 ?_
          have e9 : bU f 34 (.inr (5, [.ref 35, .int tl, .int (nI e), .int (nI (p + 1)), .int (nI p), .int 257, .int tv])) = bU f 34 (.inr (5, [.ref 35, .int tl, .int (nI e), .int (nI (tkN bs e p)), .int (nI p), .int (tkK bs e p), .int (tkV bs e p tv)])) := by simp [tkN, tkK, tkV, c56, c81, c103, c118]
          rw [e9]
          exact hQ
        · have c118 := bI_1.mp c118
          refine r_iload_n (n := 1) (i := 1) 0 rfl rfl dX5_advance_121 ?_
          refine r_goto (tgt := 128) (by decide) dX5_advance_122 ?_
          refine p_put (fs := [.ref 35, .int tl, .int (nI e), .int tn, .int (nI p), .int tk, .int tv]) (fs' := [.ref 35, .int tl, .int (nI e), .int tn, .int (nI p), .int (tb bs e p), .int tv]) flX5_35 (by exact bU_s _ _ _) (Nat.le_of_ble_eq_true rfl) (bNf_i _) rfl dX5_advance_128 ?_
          refine bV_h (f2 := bU f 34 (.inr (5, [.ref 35, .int tl, .int (nI e), .int tn, .int (nI p), .int (tb bs e p), .int tv]))) (bU_u _ _ _ _) ?_
          refine r_aload_n (n := 0) (i := 0) 1 rfl rfl dX5_advance_131 ?_
          refine r_aload_n (n := 0) (i := 0) 1 rfl rfl dX5_advance_132 ?_
          refine p_get (fs := [.ref 35, .int tl, .int (nI e), .int tn, .int (nI p), .int (tb bs e p), .int tv]) flX5_28 (by exact bU_s _ _ _) rfl dX5_advance_133 ?_
          refine r_iconst (v := 1) (by decide) dX5_advance_136 ?_
          refine r_iaddE (v := nI (p + 1)) (nI_add p 1) dX5_advance_137 ?_
          refine p_put (fs := [.ref 35, .int tl, .int (nI e), .int tn, .int (nI p), .int (tb bs e p), .int tv]) (fs' := [.ref 35, .int tl, .int (nI e), .int (nI (p + 1)), .int (nI p), .int (tb bs e p), .int tv]) flX5_22 (by exact bU_s _ _ _) (Nat.le_of_ble_eq_true rfl) (bNf_i _) rfl dX5_advance_138 ?_
          refine bV_h (f2 := bU f 34 (.inr (5, [.ref 35, .int tl, .int (nI e), .int (nI (p + 1)), .int (nI p), .int (tb bs e p), .int tv]))) (bU_u _ _ _ _) ?_
          refine r_return rfl dX5_advance_141 ?_
          have e9 : bU f 34 (.inr (5, [.ref 35, .int tl, .int (nI e), .int (nI (p + 1)), .int (nI p), .int (tb bs e p), .int tv])) = bU f 34 (.inr (5, [.ref 35, .int tl, .int (nI e), .int (nI (tkN bs e p)), .int (nI p), .int (tkK bs e p), .int (tkV bs e p tv)])) := by simp [tkN, tkK, tkV, c56, c81, c103, c118]
          rw [e9]
          exact hQ
      · have c103 := bI_1.mp c103
        refine r_aload_n (n := 0) (i := 0) 1 rfl rfl dX5_advance_106 ?_
        refine p_callV (As := []) (rest := []) (kX5_takeWhole (O := O) (d := 1) (f := bU f 34 (.inr (5, [.ref 35, .int tl, .int (nI e), .int tn, .int (nI p), .int tk, .int tv]))) (n := n) (s := s) (tl := tl) (tn := tn) (tk := tk) (tv := tv) (e := e) (p := p) (bs := bs) (by exact bU_s _ _ _) (by exact ((bU_n (by decide)).trans (h1))) e0 e1 (Nat.le_refl _)).call rfl lkX5_52 imX5_takeWhole seX5_takeWhole rfl (by exact bU_s _ _ _) rfl rfl (by omega) (Nat.le_of_ble_eq_true rfl) dX5_advance_107 (fun v9 G9 h9 => ?_) (fun q9 G9 h9 => (by cases h9.1))
        obtain ⟨h8, rfl⟩ := h9; cases h8
        refine bV_h (f2 := bU f 34 (.inr (5, [.ref 35, .int tl, .int (nI e), .int (nI (digs bs e 300 p)), .int (nI p), .int (if digs bs e 300 p - p ≤ 4 then 258 else 257), .int (nacc bs e 300 p 0)]))) (bU_u _ _ _ _) ?_
        show bV O _ d 110 [(1, .int (tb bs e p)), (0, .ref 34)] [] (bU f 34 (.inr (5, [.ref 35, .int tl, .int (nI e), .int (nI (digs bs e 300 p)), .int (nI p), .int (if digs bs e 300 p - p ≤ 4 then 258 else 257), .int (nacc bs e 300 p 0)])), n, s) _
        refine r_goto (tgt := 141) (by decide) dX5_advance_110 ?_
        refine r_return rfl dX5_advance_141 ?_
        have e9 : bU f 34 (.inr (5, [.ref 35, .int tl, .int (nI e), .int (nI (digs bs e 300 p)), .int (nI p), .int (if digs bs e 300 p - p ≤ 4 then 258 else 257), .int (nacc bs e 300 p 0)])) = bU f 34 (.inr (5, [.ref 35, .int tl, .int (nI e), .int (nI (tkN bs e p)), .int (nI p), .int (tkK bs e p), .int (tkV bs e p tv)])) := by simp [tkN, tkK, tkV, c56, c81, c103]
        rw [e9]
        exact hQ
    · have c81 := bI_1.mp c81
      refine r_aload_n (n := 0) (i := 0) 1 rfl rfl dX5_advance_84 ?_
      refine r_aload_n (n := 0) (i := 0) 1 rfl rfl dX5_advance_85 ?_
      refine r_aload_n (n := 0) (i := 0) 1 rfl rfl dX5_advance_86 ?_
      refine p_callV (As := []) (rest := [.ref 34, .ref 34]) (kX5_passWord (O := O) (d := 1) (f := bU f 34 (.inr (5, [.ref 35, .int tl, .int (nI e), .int tn, .int (nI p), .int tk, .int tv]))) (n := n) (s := s) (tl := tl) (tn := tn) (tk := tk) (tv := tv) (e := e) (p := p) (bs := bs) (by exact bU_s _ _ _) (by exact ((bU_n (by decide)).trans (h1))) e0 e1 (Nat.le_refl _)).call rfl lkX5_42 imX5_passWord seX5_passWord rfl (by exact bU_s _ _ _) rfl rfl (by omega) (Nat.le_of_ble_eq_true rfl) dX5_advance_87 (fun v9 G9 h9 => ?_) (fun q9 G9 h9 => (by cases h9.1))
      obtain ⟨h8, rfl⟩ := h9; cases h8
      refine bV_h (f2 := bU f 34 (.inr (5, [.ref 35, .int tl, .int (nI e), .int (nI (wN bs e (lets bs e 300 p))), .int (nI p), .int tk, .int tv]))) (bU_u _ _ _ _) ?_
      show bV O _ d 90 [(1, .int (tb bs e p)), (0, .ref 34)] [.int (nI (lets bs e 300 p - p)), .ref 34, .ref 34] (bU f 34 (.inr (5, [.ref 35, .int tl, .int (nI e), .int (nI (wN bs e (lets bs e 300 p))), .int (nI p), .int tk, .int tv])), n, s) _
      refine p_callV (As := [.int (nI (lets bs e 300 p - p))]) (rest := [.ref 34]) (kX5_kindOfWord (O := O) (d := 6) (f := bU f 34 (.inr (5, [.ref 35, .int tl, .int (nI e), .int (nI (wN bs e (lets bs e 300 p))), .int (nI p), .int tk, .int tv]))) (n := n) (s := s) (tl := tl) (tn := nI (wN bs e (lets bs e 300 p))) (tk := tk) (tv := tv) (e := e) (p := p) (bs := bs) (l := lets bs e 300 p - p) (by exact bU_s _ _ _) (by exact ((bU_n (by decide)).trans (h1))) e0 e1 (by have := lets_ge bs e 300 p; omega) (Nat.le_refl _)).call rfl lkX5_46 imX5_kindOfWord seX5_kindOfWord rfl (by exact bU_s _ _ _) rfl rfl (by omega) (Nat.le_of_ble_eq_true rfl) dX5_advance_90 (fun v9 G9 h9 => ?_) (fun q9 G9 h9 => (by cases h9.1))
      obtain ⟨h8, rfl⟩ := h9; cases h8
      refine bV_h (f2 := bU f 34 (.inr (5, [.ref 35, .int tl, .int (nI e), .int (nI (wN bs e (lets bs e 300 p))), .int (nI p), .int tk, .int (wV bs e p (p + (lets bs e 300 p - p)) tv)]))) (bU_u _ _ _ _) ?_
      show bV O _ d 93 [(1, .int (tb bs e p)), (0, .ref 34)] [.int (wK bs e p (p + (lets bs e 300 p - p))), .ref 34] (bU f 34 (.inr (5, [.ref 35, .int tl, .int (nI e), .int (nI (wN bs e (lets bs e 300 p))), .int (nI p), .int tk, .int (wV bs e p (p + (lets bs e 300 p - p)) tv)])), n, s) _
      refine p_put (fs := [.ref 35, .int tl, .int (nI e), .int (nI (wN bs e (lets bs e 300 p))), .int (nI p), .int tk, .int (wV bs e p (p + (lets bs e 300 p - p)) tv)]) (fs' := [.ref 35, .int tl, .int (nI e), .int (nI (wN bs e (lets bs e 300 p))), .int (nI p), .int (wK bs e p (p + (lets bs e 300 p - p))), .int (wV bs e p (p + (lets bs e 300 p - p)) tv)]) flX5_35 (by exact bU_s _ _ _) (Nat.le_of_ble_eq_true rfl) (bNf_i _) rfl dX5_advance_93 ?_
      refine bV_h (f2 := bU f 34 (.inr (5, [.ref 35, .int tl, .int (nI e), .int (nI (wN bs e (lets bs e 300 p))), .int (nI p), .int (wK bs e p (p + (lets bs e 300 p - p))), .int (wV bs e p (p + (lets bs e 300 p - p)) tv)]))) (bU_u _ _ _ _) ?_
      refine r_goto (tgt := 141) (by decide) dX5_advance_96 ?_
      refine r_return rfl dX5_advance_141 ?_
      rw [lets_p]
      have e9 : bU f 34 (.inr (5, [.ref 35, .int tl, .int (nI e), .int (nI (wN bs e (lets bs e 300 p))), .int (nI p), .int (wK bs e p (lets bs e 300 p)), .int (wV bs e p (lets bs e 300 p) tv)])) = bU f 34 (.inr (5, [.ref 35, .int tl, .int (nI e), .int (nI (tkN bs e p)), .int (nI p), .int (tkK bs e p), .int (tkV bs e p tv)])) := by simp [tkN, tkK, tkV, c56, c81]
      rw [e9]
      exact hQ
  · refine r_aload_n (n := 0) (i := 0) 1 rfl rfl dX5_advance_59 ?_
    refine r_sipush (v := 256) (by decide) dX5_advance_60 ?_
    refine p_put (fs := [.ref 35, .int tl, .int (nI e), .int tn, .int (nI p), .int tk, .int tv]) (fs' := [.ref 35, .int tl, .int (nI e), .int tn, .int (nI p), .int 256, .int tv]) flX5_35 (by exact bU_s _ _ _) (Nat.le_of_ble_eq_true rfl) (bNf_i _) rfl dX5_advance_63 ?_
    refine bV_h (f2 := bU f 34 (.inr (5, [.ref 35, .int tl, .int (nI e), .int tn, .int (nI p), .int 256, .int tv]))) (bU_u _ _ _ _) ?_
    refine r_aload_n (n := 0) (i := 0) 1 rfl rfl dX5_advance_66 ?_
    refine r_aload_n (n := 0) (i := 0) 1 rfl rfl dX5_advance_67 ?_
    refine p_get (fs := [.ref 35, .int tl, .int (nI e), .int tn, .int (nI p), .int 256, .int tv]) flX5_28 (by exact bU_s _ _ _) rfl dX5_advance_68 ?_
    refine p_put (fs := [.ref 35, .int tl, .int (nI e), .int tn, .int (nI p), .int 256, .int tv]) (fs' := [.ref 35, .int tl, .int (nI e), .int (nI p), .int (nI p), .int 256, .int tv]) flX5_22 (by exact bU_s _ _ _) (Nat.le_of_ble_eq_true rfl) (bNf_i _) rfl dX5_advance_71 ?_
    refine bV_h (f2 := bU f 34 (.inr (5, [.ref 35, .int tl, .int (nI e), .int (nI p), .int (nI p), .int 256, .int tv]))) (bU_u _ _ _ _) ?_
    refine r_goto (tgt := 141) (by decide) dX5_advance_74 ?_
    refine r_return rfl dX5_advance_141 ?_
    have e9 : bU f 34 (.inr (5, [.ref 35, .int tl, .int (nI e), .int (nI p), .int (nI p), .int 256, .int tv])) = bU f 34 (.inr (5, [.ref 35, .int tl, .int (nI e), .int (nI (tkN bs e p)), .int (nI p), .int (tkK bs e p), .int (tkV bs e p tv)])) := by simp [tkN, tkK, tkV, c56]
    rw [e9]
    exact hQ
set_option maxRecDepth 4000 in
theorem kX5_advance {O : bO} {d : Nat} {f : bF} {n s : Nat} {tl : Int32} {tk : Int32} {tv : Int32} {tp : Int32} {e : Nat} {q : Nat} {bs : Nat → Int32} (h0 : f 34 = some (.inr (5, [.ref 35, .int tl, .int (nI e), .int (nI q), .int tp, .int tk, .int tv]))) (h1 : f 35 = some (.inl (0, 300, .inl bs))) (e0 : e ≤ 300) (e1 : q ≤ 300) (hd : 7 ≤ d) : bMt O mX5_advance d [.ref 34] (f, n, s) (.inl none) (bU f 34 (.inr (5, [.ref 35, .int tl, .int (nI e), .int (nI (tkN bs e (tkP bs e q))), .int (nI (tkP bs e q)), .int (tkK bs e (tkP bs e q)), .int (tkV bs e (tkP bs e q) tv)])), n, s) := by
  refine bMt_of (bCall_of (by decide) rfl (Nat.le_of_ble_eq_true rfl) ?_)
  show bV O _ d 0 [(0, .ref 34)] [] (f, n, s) _
  refine r_aload_n (n := 0) (i := 0) 0 rfl rfl dX5_advance_0 ?_
  refine r_aload_n (n := 0) (i := 0) 0 rfl rfl dX5_advance_1 ?_
  refine p_get (fs := [.ref 35, .int tl, .int (nI e), .int (nI q), .int tp, .int tk, .int tv]) flX5_22 h0 rfl dX5_advance_2 ?_
  refine p_put (fs := [.ref 35, .int tl, .int (nI e), .int (nI q), .int tp, .int tk, .int tv]) (fs' := [.ref 35, .int tl, .int (nI e), .int (nI q), .int (nI q), .int tk, .int tv]) flX5_28 h0 (Nat.le_of_ble_eq_true rfl) (bNf_i _) rfl dX5_advance_5 ?_
  exact lp_ad h1 e0 (by omega) 300 q (by omega) e1 (st_ad2 h1 e0 (by have := skp_ge bs e 300 q; omega) ⟨rfl, rfl⟩ (by omega))
set_option maxRecDepth 4000 in
theorem kX5_begin {O : bO} {d : Nat} {f : bF} {n s : Nat} {tl : Int32} {te : Int32} {tn : Int32} {tk : Int32} {tv : Int32} {tp : Int32} {e : Nat} {bs : Nat → Int32} (h0 : f 34 = some (.inr (5, [.ref 35, .int tl, .int te, .int tn, .int tp, .int tk, .int tv]))) (h1 : f 35 = some (.inl (0, 300, .inl bs))) (e0 : e ≤ 300) (hd : 8 ≤ d) : bMt O mX5_begin d [.ref 34, .int (nI e)] (f, n, s) (.inl none) (bU f 34 (.inr (5, [.ref 35, .int tl, .int (nI e), .int (nI (tkN bs e (tkP bs e 0))), .int (nI (tkP bs e 0)), .int (tkK bs e (tkP bs e 0)), .int (tkV bs e (tkP bs e 0) tv)])), n, s) := by
  refine bMt_of (bCall_of (by decide) rfl (Nat.le_of_ble_eq_true rfl) ?_)
  show bV O _ d 0 [(0, .ref 34), (1, .int (nI e))] [] (f, n, s) _
  refine r_aload_n (n := 0) (i := 0) 0 rfl rfl dX5_begin_0 ?_
  refine r_iload_n (n := 1) (i := 1) 1 rfl rfl dX5_begin_1 ?_
  refine p_put (fs := [.ref 35, .int tl, .int te, .int tn, .int tp, .int tk, .int tv]) (fs' := [.ref 35, .int tl, .int (nI e), .int tn, .int tp, .int tk, .int tv]) flX5_19 h0 (Nat.le_of_ble_eq_true rfl) (bNf_i _) rfl dX5_begin_2 ?_
  refine r_aload_n (n := 0) (i := 0) 0 rfl rfl dX5_begin_5 ?_
  refine r_iconst (v := 0) (by decide) dX5_begin_6 ?_
  refine p_put (fs := [.ref 35, .int tl, .int (nI e), .int tn, .int tp, .int tk, .int tv]) (fs' := [.ref 35, .int tl, .int (nI e), .int 0, .int tp, .int tk, .int tv]) flX5_22 (by exact bU_s _ _ _) (Nat.le_of_ble_eq_true rfl) (bNf_i _) rfl dX5_begin_7 ?_
  refine bV_h (f2 := bU f 34 (.inr (5, [.ref 35, .int tl, .int (nI e), .int 0, .int tp, .int tk, .int tv]))) (bU_u _ _ _ _) ?_
  refine r_aload_n (n := 0) (i := 0) 0 rfl rfl dX5_begin_10 ?_
  refine p_callV (As := []) (rest := []) (kX5_advance (O := O) (d := 7) (f := bU f 34 (.inr (5, [.ref 35, .int tl, .int (nI e), .int 0, .int tp, .int tk, .int tv]))) (n := n) (s := s) (tl := tl) (tk := tk) (tv := tv) (tp := tp) (e := e) (q := 0) (bs := bs) (by exact bU_s _ _ _) (by exact ((bU_n (by decide)).trans (h1))) (by first | assumption | omega | decide) (by first | assumption | omega | decide) (Nat.le_refl _)).call rfl lkX5_25 imX5_advance seX5_advance rfl (by exact bU_s _ _ _) rfl rfl (by omega) (Nat.le_of_ble_eq_true rfl) dX5_begin_11 (fun v9 G9 h9 => ?_) (fun q9 G9 h9 => (by cases h9.1))
  obtain ⟨h8, rfl⟩ := h9; cases h8
  refine bV_h (f2 := bU f 34 (.inr (5, [.ref 35, .int tl, .int (nI e), .int (nI (tkN bs e (tkP bs e 0))), .int (nI (tkP bs e 0)), .int (tkK bs e (tkP bs e 0)), .int (tkV bs e (tkP bs e 0) tv)]))) (bU_u _ _ _ _) ?_
  show bV O _ d 14 [(0, .ref 34), (1, .int (nI e))] [] (bU f 34 (.inr (5, [.ref 35, .int tl, .int (nI e), .int (nI (tkN bs e (tkP bs e 0))), .int (nI (tkP bs e 0)), .int (tkK bs e (tkP bs e 0)), .int (tkV bs e (tkP bs e 0) tv)])), n, s) _
  refine r_return rfl dX5_begin_14 ?_
  refine ⟨?_, ?_⟩ <;> first | rfl | (simp []; done)
