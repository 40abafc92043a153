/-! ===== ModelShelf$Tape (printed by wip/gen/tape.py) ===== -/
def jLetter (x : Int32) : Bool := !(decide (x < 97)) && !(decide (122 < x))
def jDigit (x : Int32) : Bool := !(decide (x < 48)) && !(decide (57 < x))
def jSign (x : Int32) : Bool := decide (x = 40) || decide (x = 41) || decide (x = 60) || decide (x = 62) || decide (x = 61) || decide (x = 43) || decide (x = 45) || decide (x = 42) || decide (x = 44)
/-- the byte at a place of a tape of e bytes; -1 beyond -/
def tb (bs : Nat → Int32) (e p : Nat) : Int32 := if p < e then bs p else -1
theorem tb_in {bs : Nat → Int32} {e p : Nat} (h : p < e) : tb bs e p = bs p := by simp [tb, h]
theorem tb_out {bs : Nat → Int32} {e p : Nat} (h : e ≤ p) : tb bs e p = -1 := by simp [tb, Nat.not_lt.mpr h]
/-- a number's byte, by its shift -/
def jSh (v k : Int32) : Int32 := (v.toUInt32 >>> (k.toUInt32 &&& Int32.toUInt32 31)).toInt32 &&& 255
set_option maxRecDepth 4000 in
theorem kX5_isLetter {O : bO} {d : Nat} {f : bF} {n s : Nat} {x : Int32}   (hd : 0 ≤ d) : bMt O mX5_isLetter d [.int x] (f, n, s) (.inl (some (.int (bI (jLetter x))))) (f, n, s) := by
  refine bMt_of (bCall_of (by decide) rfl (Nat.le_of_ble_eq_true rfl) ?_)
  show bV O _ d 0 [(0, .int x)] [] (f, n, s) _
  refine r_iload_n (n := 0) (i := 0) 0 rfl rfl dX5_isLetter_0 ?_
  refine r_bipush (v := 97) (by decide) dX5_isLetter_1 ?_
  refine r_icmp_lt (tgt := 16) (by decide) dX5_isLetter_3 (fun c3 => ?_) (fun c3 => ?_)
  · refine r_iconst (v := 0) (by decide) dX5_isLetter_16 ?_
    refine r_zreturn rfl (by first | decide +kernel | exact narZ _ | assumption) dX5_isLetter_17 ?_
    refine ⟨?_, ?_⟩ <;> first | rfl | (simp [jLetter, bI, c3]; done)
  · refine r_iload_n (n := 0) (i := 0) 0 rfl rfl dX5_isLetter_6 ?_
    refine r_bipush (v := 122) (by decide) dX5_isLetter_7 ?_
    refine r_icmp_gt (tgt := 16) (by decide) dX5_isLetter_9 (fun c9 => ?_) (fun c9 => ?_)
    · refine r_iconst (v := 0) (by decide) dX5_isLetter_16 ?_
      refine r_zreturn rfl (by first | decide +kernel | exact narZ _ | assumption) dX5_isLetter_17 ?_
      refine ⟨?_, ?_⟩ <;> first | rfl | (simp [jLetter, bI, c3, c9]; done)
    · refine r_iconst (v := 1) (by decide) dX5_isLetter_12 ?_
      refine r_goto (tgt := 17) (by decide) dX5_isLetter_13 ?_
      refine r_zreturn rfl (by first | decide +kernel | exact narZ _ | assumption) dX5_isLetter_17 ?_
      refine ⟨?_, ?_⟩ <;> first | rfl | (simp [jLetter, bI, c3, c9]; done)
set_option maxRecDepth 4000 in
theorem kX5_isDigit {O : bO} {d : Nat} {f : bF} {n s : Nat} {x : Int32}   (hd : 0 ≤ d) : bMt O mX5_isDigit d [.int x] (f, n, s) (.inl (some (.int (bI (jDigit x))))) (f, n, s) := by
  refine bMt_of (bCall_of (by decide) rfl (Nat.le_of_ble_eq_true rfl) ?_)
  show bV O _ d 0 [(0, .int x)] [] (f, n, s) _
  refine r_iload_n (n := 0) (i := 0) 0 rfl rfl dX5_isDigit_0 ?_
  refine r_bipush (v := 48) (by decide) dX5_isDigit_1 ?_
  refine r_icmp_lt (tgt := 16) (by decide) dX5_isDigit_3 (fun c3 => ?_) (fun c3 => ?_)
  · refine r_iconst (v := 0) (by decide) dX5_isDigit_16 ?_
    refine r_zreturn rfl (by first | decide +kernel | exact narZ _ | assumption) dX5_isDigit_17 ?_
    refine ⟨?_, ?_⟩ <;> first | rfl | (simp [jDigit, bI, c3]; done)
  · refine r_iload_n (n := 0) (i := 0) 0 rfl rfl dX5_isDigit_6 ?_
    refine r_bipush (v := 57) (by decide) dX5_isDigit_7 ?_
    refine r_icmp_gt (tgt := 16) (by decide) dX5_isDigit_9 (fun c9 => ?_) (fun c9 => ?_)
    · refine r_iconst (v := 0) (by decide) dX5_isDigit_16 ?_
      refine r_zreturn rfl (by first | decide +kernel | exact narZ _ | assumption) dX5_isDigit_17 ?_
      refine ⟨?_, ?_⟩ <;> first | rfl | (simp [jDigit, bI, c3, c9]; done)
    · refine r_iconst (v := 1) (by decide) dX5_isDigit_12 ?_
      refine r_goto (tgt := 17) (by decide) dX5_isDigit_13 ?_
      refine r_zreturn rfl (by first | decide +kernel | exact narZ _ | assumption) dX5_isDigit_17 ?_
      refine ⟨?_, ?_⟩ <;> first | rfl | (simp [jDigit, bI, c3, c9]; done)
set_option maxRecDepth 4000 in
theorem kX5_isSign {O : bO} {d : Nat} {f : bF} {n s : Nat} {x : Int32}   (hd : 0 ≤ d) : bMt O mX5_isSign d [.int x] (f, n, s) (.inl (some (.int (bI (jSign x))))) (f, n, s) := by
  refine bMt_of (bCall_of (by decide) rfl (Nat.le_of_ble_eq_true rfl) ?_)
  show bV O _ d 0 [(0, .int x)] [] (f, n, s) _
  refine r_iload_n (n := 0) (i := 0) 0 rfl rfl dX5_isSign_0 ?_
  refine r_bipush (v := 40) (by decide) dX5_isSign_1 ?_
  refine r_icmp_eq (tgt := 54) (by decide) dX5_isSign_3 (fun c3 => ?_) (fun c3 => ?_)
  · refine r_iconst (v := 1) (by decide) dX5_isSign_54 ?_
    refine r_goto (tgt := 59) (by decide) dX5_isSign_55 ?_
    refine r_zreturn rfl (by first | decide +kernel | exact narZ _ | assumption) dX5_isSign_59 ?_
    refine ⟨?_, ?_⟩ <;> first | rfl | (simp [jSign, bI, c3]; done)
  · refine r_iload_n (n := 0) (i := 0) 0 rfl rfl dX5_isSign_6 ?_
    refine r_bipush (v := 41) (by decide) dX5_isSign_7 ?_
    refine r_icmp_eq (tgt := 54) (by decide) dX5_isSign_9 (fun c9 => ?_) (fun c9 => ?_)
    · refine r_iconst (v := 1) (by decide) dX5_isSign_54 ?_
      refine r_goto (tgt := 59) (by decide) dX5_isSign_55 ?_
      refine r_zreturn rfl (by first | decide +kernel | exact narZ _ | assumption) dX5_isSign_59 ?_
      refine ⟨?_, ?_⟩ <;> first | rfl | (simp [jSign, bI, c3, c9]; done)
    · refine r_iload_n (n := 0) (i := 0) 0 rfl rfl dX5_isSign_12 ?_
      refine r_bipush (v := 60) (by decide) dX5_isSign_13 ?_
      refine r_icmp_eq (tgt := 54) (by decide) dX5_isSign_15 (fun c15 => ?_) (fun c15 => ?_)
      · refine r_iconst (v := 1) (by decide) dX5_isSign_54 ?_
        refine r_goto (tgt := 59) (by decide) dX5_isSign_55 ?_
        refine r_zreturn rfl (by first | decide +kernel | exact narZ _ | assumption) dX5_isSign_59 ?_
        refine ⟨?_, ?_⟩ <;> first | rfl | (simp [jSign, bI, c3, c9, c15]; done)
      · refine r_iload_n (n := 0) (i := 0) 0 rfl rfl dX5_isSign_18 ?_
        refine r_bipush (v := 62) (by decide) dX5_isSign_19 ?_
        refine r_icmp_eq (tgt := 54) (by decide) dX5_isSign_21 (fun c21 => ?_) (fun c21 => ?_)
        · refine r_iconst (v := 1) (by decide) dX5_isSign_54 ?_
          refine r_goto (tgt := 59) (by decide) dX5_isSign_55 ?_
          refine r_zreturn rfl (by first | decide +kernel | exact narZ _ | assumption) dX5_isSign_59 ?_
          refine ⟨?_, ?_⟩ <;> first | rfl | (simp [jSign, bI, c3, c9, c15, c21]; done)
        · refine r_iload_n (n := 0) (i := 0) 0 rfl rfl dX5_isSign_24 ?_
          refine r_bipush (v := 61) (by decide) dX5_isSign_25 ?_
          refine r_icmp_eq (tgt := 54) (by decide) dX5_isSign_27 (fun c27 => ?_) (fun c27 => ?_)
          · refine r_iconst (v := 1) (by decide) dX5_isSign_54 ?_
            refine r_goto (tgt := 59) (by decide) dX5_isSign_55 ?_
            refine r_zreturn rfl (by first | decide +kernel | exact narZ _ | assumption) dX5_isSign_59 ?_
            refine ⟨?_, ?_⟩ <;> first | rfl | (simp [jSign, bI, c3, c9, c15, c21, c27]; done)
          · refine r_iload_n (n := 0) (i := 0) 0 rfl rfl dX5_isSign_30 ?_
            refine r_bipush (v := 43) (by decide) dX5_isSign_31 ?_
            refine r_icmp_eq (tgt := 54) (by decide) dX5_isSign_33 (fun c33 => ?_) (fun c33 => ?_)
            · refine r_iconst (v := 1) (by decide) dX5_isSign_54 ?_
              refine r_goto (tgt := 59) (by decide) dX5_isSign_55 ?_
              refine r_zreturn rfl (by first | decide +kernel | exact narZ _ | assumption) dX5_isSign_59 ?_
              refine ⟨?_, ?_⟩ <;> first | rfl | (simp [jSign, bI, c3, c9, c15, c21, c27, c33]; done)
            · refine r_iload_n (n := 0) (i := 0) 0 rfl rfl dX5_isSign_36 ?_
              refine r_bipush (v := 45) (by decide) dX5_isSign_37 ?_
              refine r_icmp_eq (tgt := 54) (by decide) dX5_isSign_39 (fun c39 => ?_) (fun c39 => ?_)
              · refine r_iconst (v := 1) (by decide) dX5_isSign_54 ?_
                refine r_goto (tgt := 59) (by decide) dX5_isSign_55 ?_
                refine r_zreturn rfl (by first | decide +kernel | exact narZ _ | assumption) dX5_isSign_59 ?_
                refine ⟨?_, ?_⟩ <;> first | rfl | (simp [jSign, bI, c3, c9, c15, c21, c27, c33, c39]; done)
              · refine r_iload_n (n := 0) (i := 0) 0 rfl rfl dX5_isSign_42 ?_
                refine r_bipush (v := 42) (by decide) dX5_isSign_43 ?_
                refine r_icmp_eq (tgt := 54) (by decide) dX5_isSign_45 (fun c45 => ?_) (fun c45 => ?_)
                · refine r_iconst (v := 1) (by decide) dX5_isSign_54 ?_
                  refine r_goto (tgt := 59) (by decide) dX5_isSign_55 ?_
                  refine r_zreturn rfl (by first | decide +kernel | exact narZ _ | assumption) dX5_isSign_59 ?_
                  refine ⟨?_, ?_⟩ <;> first | rfl | (simp [jSign, bI, c3, c9, c15, c21, c27, c33, c39, c45]; done)
                · refine r_iload_n (n := 0) (i := 0) 0 rfl rfl dX5_isSign_48 ?_
                  refine r_bipush (v := 44) (by decide) dX5_isSign_49 ?_
                  refine r_icmp_ne (tgt := 58) (by decide) dX5_isSign_51 (fun c51 => ?_) (fun c51 => ?_)
                  · refine r_iconst (v := 0) (by decide) dX5_isSign_58 ?_
                    refine r_zreturn rfl (by first | decide +kernel | exact narZ _ | assumption) dX5_isSign_59 ?_
                    refine ⟨?_, ?_⟩ <;> first | rfl | (simp [jSign, bI, c3, c9, c15, c21, c27, c33, c39, c45, c51]; done)
                  · refine r_iconst (v := 1) (by decide) dX5_isSign_54 ?_
                    refine r_goto (tgt := 59) (by decide) dX5_isSign_55 ?_
                    refine r_zreturn rfl (by first | decide +kernel | exact narZ _ | assumption) dX5_isSign_59 ?_
                    refine ⟨?_, ?_⟩ <;> first | rfl | (simp [jSign, bI, c3, c9, c15, c21, c27, c33, c39, c45, c51]; done)
set_option maxRecDepth 4000 in
theorem kX5_byteAt {O : bO} {d : Nat} {f : bF} {n s : Nat} {tl : Int32} {tn : Int32} {tk : Int32} {tv : Int32} {e : Nat} {tp : Int32} {bs : Nat → Int32} {a : Nat} (h0 : f 34 = some (.inr (5, [.ref 35, .int tl, .int (nI e), .int tn, .int tp, .int tk, .int tv]))) (h1 : f 35 = some (.inl (0, 300, .inl bs))) (e0 : e ≤ 300) (e1 : a < 2000) (hd : 0 ≤ d) : bMt O mX5_byteAt d [.ref 34, .int (nI a)] (f, n, s) (.inl (some (.int (tb bs e a)))) (f, n, s) := by
  refine bMt_of (bCall_of (by decide) rfl (Nat.le_of_ble_eq_true rfl) ?_)
  show bV O _ d 0 [(0, .ref 34), (1, .int (nI a))] [] (f, n, s) _
  refine r_iload_n (n := 1) (i := 1) 1 rfl rfl dX5_byteAt_0 ?_
  refine r_if_lt (tgt := 30) (by decide) dX5_byteAt_1 (fun h9 => absurd h9 (nI_pos (by omega))) (fun _ => ?_)
  refine r_iload_n (n := 1) (i := 1) 1 rfl rfl dX5_byteAt_4 ?_
  refine r_aload_n (n := 0) (i := 0) 0 rfl rfl dX5_byteAt_5 ?_
  refine p_get (fs := [.ref 35, .int tl, .int (nI e), .int tn, .int tp, .int tk, .int tv]) flX5_19 h0 rfl dX5_byteAt_6 ?_
  refine r_icmp_ge (tgt := 30) (by decide) dX5_byteAt_9 (fun c9 => ?_) (fun c9 => ?_)
  · have c9 : e ≤ a := (nI_leI (a := e) (b := a) (by omega) (by omega)).mp c9
    refine r_iconst (v := (-1)) (by decide) dX5_byteAt_30 ?_
    refine r_ireturn rfl dX5_byteAt_31 ?_
    refine ⟨?_, rfl⟩
    first | rw [tb_in (by omega)] | rw [tb_out (by omega)]
  · have c9 : ¬ e ≤ a := fun h7 => c9 ((nI_leI (a := e) (b := a) (by omega) (by omega)).mpr h7)
    refine r_iload_n (n := 1) (i := 1) 1 rfl rfl dX5_byteAt_12 ?_
    refine r_aload_n (n := 0) (i := 0) 0 rfl rfl dX5_byteAt_13 ?_
    refine p_get (fs := [.ref 35, .int tl, .int (nI e), .int tn, .int tp, .int tk, .int tv]) flX5_9 h0 rfl dX5_byteAt_14 ?_
    refine p_alen2 (kd := 0) (n := 300) (a := (300, .inl bs)) rfl h1 rfl dX5_byteAt_17 ?_
    refine r_icmp_ge (tgt := 30) (by decide) dX5_byteAt_18 (fun h9 => absurd h9 (fun h7 => absurd ((nI_leI (a := 300) (b := a) (by omega) (by omega)).mp h7) (by omega))) (fun _ => ?_)
    refine r_aload_n (n := 0) (i := 0) 0 rfl rfl dX5_byteAt_21 ?_
    refine p_get (fs := [.ref 35, .int tl, .int (nI e), .int tn, .int tp, .int tk, .int tv]) flX5_9 h0 rfl dX5_byteAt_22 ?_
    refine r_iload_n (n := 1) (i := 1) 1 rfl rfl dX5_byteAt_25 ?_
    refine p_ialdN (t := a) h1 (by omega) (by omega) dX5_byteAt_26 ?_
    refine r_goto (tgt := 31) (by decide) dX5_byteAt_27 ?_
    refine r_ireturn rfl dX5_byteAt_31 ?_
    refine ⟨?_, rfl⟩
    first | rw [tb_in (by omega)] | rw [tb_out (by omega)]
set_option maxRecDepth 4000 in
theorem kX5_append {O : bO} {d : Nat} {f : bF} {n s : Nat} {te : Int32} {tn : Int32} {tp : Int32} {tk : Int32} {tv : Int32} {t : Nat} {bs : Nat → Int32} {v : Int32} (h0 : f 34 = some (.inr (5, [.ref 35, .int (nI t), .int te, .int tn, .int tp, .int tk, .int tv]))) (h1 : f 35 = some (.inl (0, 300, .inl bs))) (e0 : t + 4 ≤ 300) (hd : 0 ≤ d) : bMt O mX5_append d [.ref 34, .int v] (f, n, s) (.inl none) (bU (bU f 35 (.inl (0, 300, .inl (upd (upd (upd (upd bs t (jSh v 24)) (t + 1) (jSh v 16)) (t + 2) (jSh v 8)) (t + 3) (jSh v 0))))) 34 (.inr (5, [.ref 35, .int (nI (t + 4)), .int te, .int tn, .int tp, .int tk, .int tv])), n, s) := by
  refine bMt_of (bCall_of (by decide) rfl (Nat.le_of_ble_eq_true rfl) ?_)
  show bV O _ d 0 [(0, .ref 34), (1, .int v)] [] (f, n, s) _
  refine r_bipush (v := 24) (by decide) dX5_append_0 ?_
  refine r_istore_n (n := 2) (i := 2) (L' := [(2, .int 24), (0, .ref 34), (1, .int v)]) rfl dX5_append_2 (by decide) rfl ?_
  refine r_iload_n (n := 2) (i := 2) 0 rfl rfl dX5_append_3 ?_
  refine r_if_lt (tgt := 58) (by decide) dX5_append_4 (fun h9 => absurd h9 (show ¬ ((24 : Int32) < 0) by decide)) (fun _ => ?_)
  refine r_aload_n (n := 0) (i := 0) 1 rfl rfl dX5_append_7 ?_
  refine p_get (fs := [.ref 35, .int (nI t), .int te, .int tn, .int tp, .int tk, .int tv]) flX5_15 h0 rfl dX5_append_8 ?_
  refine r_if_lt (tgt := 52) (by decide) dX5_append_11 (fun h9 => absurd h9 (nI_pos (by omega))) (fun _ => ?_)
  refine r_aload_n (n := 0) (i := 0) 1 rfl rfl dX5_append_14 ?_
  refine p_get (fs := [.ref 35, .int (nI t), .int te, .int tn, .int tp, .int tk, .int tv]) flX5_15 h0 rfl dX5_append_15 ?_
  refine r_aload_n (n := 0) (i := 0) 1 rfl rfl dX5_append_18 ?_
  refine p_get (fs := [.ref 35, .int (nI t), .int te, .int tn, .int tp, .int tk, .int tv]) flX5_9 h0 rfl dX5_append_19 ?_
  refine p_alen2 (kd := 0) (n := 300) (a := (300, .inl bs)) rfl h1 rfl dX5_append_22 ?_
  refine r_icmp_ge (tgt := 52) (by decide) dX5_append_23 (fun h9 => absurd h9 (fun h7 => absurd ((nI_leI (a := 300) (b := t) (by omega) (by omega)).mp h7) (by omega))) (fun _ => ?_)
  refine r_aload_n (n := 0) (i := 0) 1 rfl rfl dX5_append_26 ?_
  refine p_get (fs := [.ref 35, .int (nI t), .int te, .int tn, .int tp, .int tk, .int tv]) flX5_9 h0 rfl dX5_append_27 ?_
  refine r_aload_n (n := 0) (i := 0) 1 rfl rfl dX5_append_30 ?_
  refine p_get (fs := [.ref 35, .int (nI t), .int te, .int tn, .int tp, .int tk, .int tv]) flX5_15 h0 rfl dX5_append_31 ?_
  refine r_iload_n (n := 1) (i := 1) 2 rfl rfl dX5_append_34 ?_
  refine r_iload_n (n := 2) (i := 2) 0 rfl rfl dX5_append_35 ?_
  refine r_iushr dX5_append_36 ?_
  refine r_sipush (v := 255) (by decide) dX5_append_37 ?_
  refine r_iand dX5_append_40 ?_
  refine p_iastN (t := t) h1 (by omega) (by omega) dX5_append_41 ?_
  refine r_aload_n (n := 0) (i := 0) 1 rfl rfl dX5_append_42 ?_
  refine r_dup rfl dX5_append_43 ?_
  refine p_get (fs := [.ref 35, .int (nI t), .int te, .int tn, .int tp, .int tk, .int tv]) flX5_15 (by exact ((bU_n (by decide)).trans (h0))) rfl dX5_append_44 ?_
  refine r_iconst (v := 1) (by decide) dX5_append_47 ?_
  refine r_iaddE (v := nI (t + 1)) (nI_add t 1) dX5_append_48 ?_
  refine p_put (fs := [.ref 35, .int (nI t), .int te, .int tn, .int tp, .int tk, .int tv]) (fs' := [.ref 35, .int (nI (t + 1)), .int te, .int tn, .int tp, .int tk, .int tv]) flX5_15 (by exact ((bU_n (by decide)).trans (h0))) (Nat.le_of_ble_eq_true rfl) (bNf_i _) rfl dX5_append_49 ?_
  refine r_iinc (i := 2) (v := 16) (L' := [(2, .int 16), (0, .ref 34), (1, .int v)]) 0 rfl (by decide) dX5_append_52 (by decide) rfl ?_
  refine r_goto (tgt := 3) (by decide) dX5_append_55 ?_
  refine r_iload_n (n := 2) (i := 2) 0 rfl rfl dX5_append_3 ?_
  refine r_if_lt (tgt := 58) (by decide) dX5_append_4 (fun h9 => absurd h9 (show ¬ ((16 : Int32) < 0) by decide)) (fun _ => ?_)
  refine r_aload_n (n := 0) (i := 0) 1 rfl rfl dX5_append_7 ?_
  refine p_get (fs := [.ref 35, .int (nI (t + 1)), .int te, .int tn, .int tp, .int tk, .int tv]) flX5_15 (by exact bU_s _ _ _) rfl dX5_append_8 ?_
  refine r_if_lt (tgt := 52) (by decide) dX5_append_11 (fun h9 => absurd h9 (nI_pos (by omega))) (fun _ => ?_)
  refine r_aload_n (n := 0) (i := 0) 1 rfl rfl dX5_append_14 ?_
  refine p_get (fs := [.ref 35, .int (nI (t + 1)), .int te, .int tn, .int tp, .int tk, .int tv]) flX5_15 (by exact bU_s _ _ _) rfl dX5_append_15 ?_
  refine r_aload_n (n := 0) (i := 0) 1 rfl rfl dX5_append_18 ?_
  refine p_get (fs := [.ref 35, .int (nI (t + 1)), .int te, .int tn, .int tp, .int tk, .int tv]) flX5_9 (by exact bU_s _ _ _) rfl dX5_append_19 ?_
  refine p_alen2 (kd := 0) (n := 300) (a := (300, .inl (upd bs t (((v.toUInt32 >>> ((24 : Int32).toUInt32 &&& Int32.toUInt32 31)).toInt32) &&& 255)))) rfl (by exact ((bU_n (by decide)).trans (bU_s _ _ _))) rfl dX5_append_22 ?_
  refine r_icmp_ge (tgt := 52) (by decide) dX5_append_23 (fun h9 => absurd h9 (fun h7 => absurd ((nI_leI (a := 300) (b := (t + 1)) (by omega) (by omega)).mp h7) (by omega))) (fun _ => ?_)
  refine r_aload_n (n := 0) (i := 0) 1 rfl rfl dX5_append_26 ?_
  refine p_get (fs := [.ref 35, .int (nI (t + 1)), .int te, .int tn, .int tp, .int tk, .int tv]) flX5_9 (by exact bU_s _ _ _) rfl dX5_append_27 ?_
  refine r_aload_n (n := 0) (i := 0) 1 rfl rfl dX5_append_30 ?_
  refine p_get (fs := [.ref 35, .int (nI (t + 1)), .int te, .int tn, .int tp, .int tk, .int tv]) flX5_15 (by exact bU_s _ _ _) rfl dX5_append_31 ?_
  refine r_iload_n (n := 1) (i := 1) 2 rfl rfl dX5_append_34 ?_
  refine r_iload_n (n := 2) (i := 2) 0 rfl rfl dX5_append_35 ?_
  refine r_iushr dX5_append_36 ?_
  refine r_sipush (v := 255) (by decide) dX5_append_37 ?_
  refine r_iand dX5_append_40 ?_
  refine p_iastN (t := t + 1) (by exact ((bU_n (by decide)).trans (bU_s _ _ _))) (by omega) (by omega) dX5_append_41 ?_
  refine bV_h (f2 := bU (bU f 35 (.inl (0, 300, .inl (upd (upd bs t (((v.toUInt32 >>> ((24 : Int32).toUInt32 &&& Int32.toUInt32 31)).toInt32) &&& 255)) (t + 1) (((v.toUInt32 >>> ((16 : Int32).toUInt32 &&& Int32.toUInt32 31)).toInt32) &&& 255))))) 34 (.inr (5, [.ref 35, .int (nI (t + 1)), .int te, .int tn, .int tp, .int tk, .int tv]))) (((bU_c (by decide)).trans (congrArg (fun z => bU z 34 (.inr (5, [.ref 35, .int (nI (t + 1)), .int te, .int tn, .int tp, .int tk, .int tv]))) (bU_u _ _ _ _)))) ?_
  refine r_aload_n (n := 0) (i := 0) 1 rfl rfl dX5_append_42 ?_
  refine r_dup rfl dX5_append_43 ?_
  refine p_get (fs := [.ref 35, .int (nI (t + 1)), .int te, .int tn, .int tp, .int tk, .int tv]) flX5_15 (by exact bU_s _ _ _) rfl dX5_append_44 ?_
  refine r_iconst (v := 1) (by decide) dX5_append_47 ?_
  refine r_iaddE (v := nI (t + 2)) (nI_add (t + 1) 1) dX5_append_48 ?_
  refine p_put (fs := [.ref 35, .int (nI (t + 1)), .int te, .int tn, .int tp, .int tk, .int tv]) (fs' := [.ref 35, .int (nI (t + 2)), .int te, .int tn, .int tp, .int tk, .int tv]) flX5_15 (by exact bU_s _ _ _) (Nat.le_of_ble_eq_true rfl) (bNf_i _) rfl dX5_append_49 ?_
  refine bV_h (f2 := bU (bU f 35 (.inl (0, 300, .inl (upd (upd bs t (((v.toUInt32 >>> ((24 : Int32).toUInt32 &&& Int32.toUInt32 31)).toInt32) &&& 255)) (t + 1) (((v.toUInt32 >>> ((16 : Int32).toUInt32 &&& Int32.toUInt32 31)).toInt32) &&& 255))))) 34 (.inr (5, [.ref 35, .int (nI (t + 2)), .int te, .int tn, .int tp, .int tk, .int tv]))) (bU_u _ _ _ _) ?_
  refine r_iinc (i := 2) (v := 8) (L' := [(2, .int 8), (0, .ref 34), (1, .int v)]) 0 rfl (by decide) dX5_append_52 (by decide) rfl ?_
  refine r_goto (tgt := 3) (by decide) dX5_append_55 ?_
  refine r_iload_n (n := 2) (i := 2) 0 rfl rfl dX5_append_3 ?_
  refine r_if_lt (tgt := 58) (by decide) dX5_append_4 (fun h9 => absurd h9 (show ¬ ((8 : Int32) < 0) by decide)) (fun _ => ?_)
  refine r_aload_n (n := 0) (i := 0) 1 rfl rfl dX5_append_7 ?_
  refine p_get (fs := [.ref 35, .int (nI (t + 2)), .int te, .int tn, .int tp, .int tk, .int tv]) flX5_15 (by exact bU_s _ _ _) rfl dX5_append_8 ?_
  refine r_if_lt (tgt := 52) (by decide) dX5_append_11 (fun h9 => absurd h9 (nI_pos (by omega))) (fun _ => ?_)
  refine r_aload_n (n := 0) (i := 0) 1 rfl rfl dX5_append_14 ?_
  refine p_get (fs := [.ref 35, .int (nI (t + 2)), .int te, .int tn, .int tp, .int tk, .int tv]) flX5_15 (by exact bU_s _ _ _) rfl dX5_append_15 ?_
  refine r_aload_n (n := 0) (i := 0) 1 rfl rfl dX5_append_18 ?_
  refine p_get (fs := [.ref 35, .int (nI (t + 2)), .int te, .int tn, .int tp, .int tk, .int tv]) flX5_9 (by exact bU_s _ _ _) rfl dX5_append_19 ?_
  refine p_alen2 (kd := 0) (n := 300) (a := (300, .inl (upd (upd bs t (((v.toUInt32 >>> ((24 : Int32).toUInt32 &&& Int32.toUInt32 31)).toInt32) &&& 255)) (t + 1) (((v.toUInt32 >>> ((16 : Int32).toUInt32 &&& Int32.toUInt32 31)).toInt32) &&& 255)))) rfl (by exact ((bU_n (by decide)).trans (bU_s _ _ _))) rfl dX5_append_22 ?_
  refine r_icmp_ge (tgt := 52) (by decide) dX5_append_23 (fun h9 => absurd h9 (fun h7 => absurd ((nI_leI (a := 300) (b := (t + 2)) (by omega) (by omega)).mp h7) (by omega))) (fun _ => ?_)
  refine r_aload_n (n := 0) (i := 0) 1 rfl rfl dX5_append_26 ?_
  refine p_get (fs := [.ref 35, .int (nI (t + 2)), .int te, .int tn, .int tp, .int tk, .int tv]) flX5_9 (by exact bU_s _ _ _) rfl dX5_append_27 ?_
  refine r_aload_n (n := 0) (i := 0) 1 rfl rfl dX5_append_30 ?_
  refine p_get (fs := [.ref 35, .int (nI (t + 2)), .int te, .int tn, .int tp, .int tk, .int tv]) flX5_15 (by exact bU_s _ _ _) rfl dX5_append_31 ?_
  refine r_iload_n (n := 1) (i := 1) 2 rfl rfl dX5_append_34 ?_
  refine r_iload_n (n := 2) (i := 2) 0 rfl rfl dX5_append_35 ?_
  refine r_iushr dX5_append_36 ?_
  refine r_sipush (v := 255) (by decide) dX5_append_37 ?_
  refine r_iand dX5_append_40 ?_
  refine p_iastN (t := t + 2) (by exact ((bU_n (by decide)).trans (bU_s _ _ _))) (by omega) (by omega) dX5_append_41 ?_
  refine bV_h (f2 := bU (bU f 35 (.inl (0, 300, .inl (upd (upd (upd bs t (((v.toUInt32 >>> ((24 : Int32).toUInt32 &&& Int32.toUInt32 31)).toInt32) &&& 255)) (t + 1) (((v.toUInt32 >>> ((16 : Int32).toUInt32 &&& Int32.toUInt32 31)).toInt32) &&& 255)) (t + 2) (((v.toUInt32 >>> ((8 : Int32).toUInt32 &&& Int32.toUInt32 31)).toInt32) &&& 255))))) 34 (.inr (5, [.ref 35, .int (nI (t + 2)), .int te, .int tn, .int tp, .int tk, .int tv]))) (((bU_c (by decide)).trans (congrArg (fun z => bU z 34 (.inr (5, [.ref 35, .int (nI (t + 2)), .int te, .int tn, .int tp, .int tk, .int tv]))) (bU_u _ _ _ _)))) ?_
  refine r_aload_n (n := 0) (i := 0) 1 rfl rfl dX5_append_42 ?_
  refine r_dup rfl dX5_append_43 ?_
  refine p_get (fs := [.ref 35, .int (nI (t + 2)), .int te, .int tn, .int tp, .int tk, .int tv]) flX5_15 (by exact bU_s _ _ _) rfl dX5_append_44 ?_
  refine r_iconst (v := 1) (by decide) dX5_append_47 ?_
  refine r_iaddE (v := nI (t + 3)) (nI_add (t + 2) 1) dX5_append_48 ?_
  refine p_put (fs := [.ref 35, .int (nI (t + 2)), .int te, .int tn, .int tp, .int tk, .int tv]) (fs' := [.ref 35, .int (nI (t + 3)), .int te, .int tn, .int tp, .int tk, .int tv]) flX5_15 (by exact bU_s _ _ _) (Nat.le_of_ble_eq_true rfl) (bNf_i _) rfl dX5_append_49 ?_
  refine bV_h (f2 := bU (bU f 35 (.inl (0, 300, .inl (upd (upd (upd bs t (((v.toUInt32 >>> ((24 : Int32).toUInt32 &&& Int32.toUInt32 31)).toInt32) &&& 255)) (t + 1) (((v.toUInt32 >>> ((16 : Int32).toUInt32 &&& Int32.toUInt32 31)).toInt32) &&& 255)) (t + 2) (((v.toUInt32 >>> ((8 : Int32).toUInt32 &&& Int32.toUInt32 31)).toInt32) &&& 255))))) 34 (.inr (5, [.ref 35, .int (nI (t + 3)), .int te, .int tn, .int tp, .int tk, .int tv]))) (bU_u _ _ _ _) ?_
  refine r_iinc (i := 2) (v := 0) (L' := [(2, .int 0), (0, .ref 34), (1, .int v)]) 0 rfl (by decide) dX5_append_52 (by decide) rfl ?_
  refine r_goto (tgt := 3) (by decide) dX5_append_55 ?_
  refine r_iload_n (n := 2) (i := 2) 0 rfl rfl dX5_append_3 ?_
  refine r_if_lt (tgt := 58) (by decide) dX5_append_4 (fun h9 => absurd h9 (show ¬ ((0 : Int32) < 0) by decide)) (fun _ => ?_)
  refine r_aload_n (n := 0) (i := 0) 1 rfl rfl dX5_append_7 ?_
  refine p_get (fs := [.ref 35, .int (nI (t + 3)), .int te, .int tn, .int tp, .int tk, .int tv]) flX5_15 (by exact bU_s _ _ _) rfl dX5_append_8 ?_
  refine r_if_lt (tgt := 52) (by decide) dX5_append_11 (fun h9 => absurd h9 (nI_pos (by omega))) (fun _ => ?_)
  refine r_aload_n (n := 0) (i := 0) 1 rfl rfl dX5_append_14 ?_
  refine p_get (fs := [.ref 35, .int (nI (t + 3)), .int te, .int tn, .int tp, .int tk, .int tv]) flX5_15 (by exact bU_s _ _ _) rfl dX5_append_15 ?_
  refine r_aload_n (n := 0) (i := 0) 1 rfl rfl dX5_append_18 ?_
  refine p_get (fs := [.ref 35, .int (nI (t + 3)), .int te, .int tn, .int tp, .int tk, .int tv]) flX5_9 (by exact bU_s _ _ _) rfl dX5_append_19 ?_
  refine p_alen2 (kd := 0) (n := 300) (a := (300, .inl (upd (upd (upd bs t (((v.toUInt32 >>> ((24 : Int32).toUInt32 &&& Int32.toUInt32 31)).toInt32) &&& 255)) (t + 1) (((v.toUInt32 >>> ((16 : Int32).toUInt32 &&& Int32.toUInt32 31)).toInt32) &&& 255)) (t + 2) (((v.toUInt32 >>> ((8 : Int32).toUInt32 &&& Int32.toUInt32 31)).toInt32) &&& 255)))) rfl (by exact ((bU_n (by decide)).trans (bU_s _ _ _))) rfl dX5_append_22 ?_
  refine r_icmp_ge (tgt := 52) (by decide) dX5_append_23 (fun h9 => absurd h9 (fun h7 => absurd ((nI_leI (a := 300) (b := (t + 3)) (by omega) (by omega)).mp h7) (by omega))) (fun _ => ?_)
  refine r_aload_n (n := 0) (i := 0) 1 rfl rfl dX5_append_26 ?_
  refine p_get (fs := [.ref 35, .int (nI (t + 3)), .int te, .int tn, .int tp, .int tk, .int tv]) flX5_9 (by exact bU_s _ _ _) rfl dX5_append_27 ?_
  refine r_aload_n (n := 0) (i := 0) 1 rfl rfl dX5_append_30 ?_
  refine p_get (fs := [.ref 35, .int (nI (t + 3)), .int te, .int tn, .int tp, .int tk, .int tv]) flX5_15 (by exact bU_s _ _ _) rfl dX5_append_31 ?_
  refine r_iload_n (n := 1) (i := 1) 2 rfl rfl dX5_append_34 ?_
  refine r_iload_n (n := 2) (i := 2) 0 rfl rfl dX5_append_35 ?_
  refine r_iushr dX5_append_36 ?_
  refine r_sipush (v := 255) (by decide) dX5_append_37 ?_
  refine r_iand dX5_append_40 ?_
  refine p_iastN (t := t + 3) (by exact ((bU_n (by decide)).trans (bU_s _ _ _))) (by omega) (by omega) dX5_append_41 ?_
  refine bV_h (f2 := bU (bU f 35 (.inl (0, 300, .inl (upd (upd (upd (upd bs t (((v.toUInt32 >>> ((24 : Int32).toUInt32 &&& Int32.toUInt32 31)).toInt32) &&& 255)) (t + 1) (((v.toUInt32 >>> ((16 : Int32).toUInt32 &&& Int32.toUInt32 31)).toInt32) &&& 255)) (t + 2) (((v.toUInt32 >>> ((8 : Int32).toUInt32 &&& Int32.toUInt32 31)).toInt32) &&& 255)) (t + 3) (((v.toUInt32 >>> ((0 : Int32).toUInt32 &&& Int32.toUInt32 31)).toInt32) &&& 255))))) 34 (.inr (5, [.ref 35, .int (nI (t + 3)), .int te, .int tn, .int tp, .int tk, .int tv]))) (((bU_c (by decide)).trans (congrArg (fun z => bU z 34 (.inr (5, [.ref 35, .int (nI (t + 3)), .int te, .int tn, .int tp, .int tk, .int tv]))) (bU_u _ _ _ _)))) ?_
  refine r_aload_n (n := 0) (i := 0) 1 rfl rfl dX5_append_42 ?_
  refine r_dup rfl dX5_append_43 ?_
  refine p_get (fs := [.ref 35, .int (nI (t + 3)), .int te, .int tn, .int tp, .int tk, .int tv]) flX5_15 (by exact bU_s _ _ _) rfl dX5_append_44 ?_
  refine r_iconst (v := 1) (by decide) dX5_append_47 ?_
  refine r_iaddE (v := nI (t + 4)) (nI_add (t + 3) 1) dX5_append_48 ?_
  refine p_put (fs := [.ref 35, .int (nI (t + 3)), .int te, .int tn, .int tp, .int tk, .int tv]) (fs' := [.ref 35, .int (nI (t + 4)), .int te, .int tn, .int tp, .int tk, .int tv]) flX5_15 (by exact bU_s _ _ _) (Nat.le_of_ble_eq_true rfl) (bNf_i _) rfl dX5_append_49 ?_
  refine bV_h (f2 := bU (bU f 35 (.inl (0, 300, .inl (upd (upd (upd (upd bs t (((v.toUInt32 >>> ((24 : Int32).toUInt32 &&& Int32.toUInt32 31)).toInt32) &&& 255)) (t + 1) (((v.toUInt32 >>> ((16 : Int32).toUInt32 &&& Int32.toUInt32 31)).toInt32) &&& 255)) (t + 2) (((v.toUInt32 >>> ((8 : Int32).toUInt32 &&& Int32.toUInt32 31)).toInt32) &&& 255)) (t + 3) (((v.toUInt32 >>> ((0 : Int32).toUInt32 &&& Int32.toUInt32 31)).toInt32) &&& 255))))) 34 (.inr (5, [.ref 35, .int (nI (t + 4)), .int te, .int tn, .int tp, .int tk, .int tv]))) (bU_u _ _ _ _) ?_
  refine r_iinc (i := 2) (v := (-8)) (L' := [(2, .int (-8)), (0, .ref 34), (1, .int v)]) 0 rfl (by decide) dX5_append_52 (by decide) rfl ?_
  refine r_goto (tgt := 3) (by decide) dX5_append_55 ?_
  refine r_iload_n (n := 2) (i := 2) 0 rfl rfl dX5_append_3 ?_
  refine r_if_lt (tgt := 58) (by decide) dX5_append_4 (fun _ => ?_) (fun h9 => absurd (show ((-8) : Int32) < 0 by decide) h9)
  refine r_return rfl dX5_append_58 ?_
  refine ⟨?_, ?_⟩ <;> first | rfl | (simp [jSh]; done)
/-- the letters from p on are those of the word i, from its place j on, m of them -/
def spl (bs : Nat → Int32) (e p i : Nat) : Nat → Nat → Bool
  | 0, _ => true
  | m + 1, j => decide (tb bs e (p + j) = (((((bByt.getD i []).getD j 0 &&& 255)).toUInt32 % 65536).toInt32)) && spl bs e p i m (j + 1)
def splS (bs : Nat → Int32) (e p i l : Nat) : Bool := decide (bLen.getD i 0 = l) && spl bs e p i l 0
theorem st_spells {O : bO} {d : Nat} {f : bF} {n s : Nat} {Q : bR → bG → Prop} {tl : Int32} {tn : Int32} {tk : Int32} {tv : Int32} {e : Nat} {p : Nat} {bs : Nat → Int32} {i : Nat} {l : Nat} {j : Nat} (h0 : f 34 = some (.inr (5, [.ref 35, .int tl, .int (nI e), .int tn, .int (nI p), .int tk, .int tv]))) (h1 : f 35 = some (.inl (0, 300, .inl bs))) (e0 : e ≤ 300) (e1 : p ≤ 300) (e2 : i < 7) (e3 : l ≤ 300) (e4 : bLen.getD i 0 = l) (e5 : j ≤ l) (hx : j = l → Q (.inl (some (.int 1))) (f, n, s)) (hf : j < l → ¬ tb bs e (p + j) = (((((bByt.getD i []).getD j 0 &&& 255)).toUInt32 % 65536).toInt32) → Q (.inl (some (.int 0))) (f, n, s)) (hn : j < l → tb bs e (p + j) = (((((bByt.getD i []).getD j 0 &&& 255)).toUInt32 % 65536).toInt32) → bV O mX5_spells d 12 [(3, .int (nI (j + 1))), (0, .ref 34), (1, .ref (i + 1)), (2, .int (nI l))] [] (f, n, s) Q) (hd : 4 ≤ d) : bV O mX5_spells d 12 [(3, .int (nI j)), (0, .ref 34), (1, .ref (i + 1)), (2, .int (nI l))] [] (f, n, s) Q := by
  refine r_iload_n (n := 3) (i := 3) 0 rfl rfl dX5_spells_12 ?_
  refine r_iload_n (n := 2) (i := 2) 3 rfl rfl dX5_spells_13 ?_
  refine r_icmp_ge (tgt := 43) (by decide) dX5_spells_14 (fun c14 => ?_) (fun c14 => ?_)
  · have c14 : l ≤ j := (nI_leI (a := l) (b := j) (by omega) (by omega)).mp c14
    refine r_iconst (v := 1) (by decide) dX5_spells_43 ?_
    refine r_zreturn rfl (by first | decide +kernel | exact narZ _ | assumption) dX5_spells_44 ?_
    exact hx (by omega)
  · have c14 : ¬ l ≤ j := fun h7 => c14 ((nI_leI (a := l) (b := j) (by omega) (by omega)).mpr h7)
    refine r_aload_n (n := 0) (i := 0) 1 rfl rfl dX5_spells_17 ?_
    refine r_aload_n (n := 0) (i := 0) 1 rfl rfl dX5_spells_18 ?_
    refine p_get (fs := [.ref 35, .int tl, .int (nI e), .int tn, .int (nI p), .int tk, .int tv]) flX5_28 h0 rfl dX5_spells_19 ?_
    refine r_iload_n (n := 3) (i := 3) 0 rfl rfl dX5_spells_22 ?_
    refine r_iaddE (v := nI (p + j)) (nI_add p j) dX5_spells_23 ?_
    refine p_callV (As := [.int (nI (p + j))]) (rest := []) (kX5_byteAt (O := O) (d := 0) (f := f) (n := n) (s := s) (tl := tl) (tn := tn) (tk := tk) (tv := tv) (e := e) (tp := nI p) (bs := bs) (a := p + j) h0 h1 e0 (by omega) (Nat.le_refl _)).call rfl lkX5_31 imX5_byteAt seX5_byteAt rfl h0 rfl rfl (by omega) (Nat.le_of_ble_eq_true rfl) dX5_spells_24 (fun v9 G9 h9 => ?_) (fun q9 G9 h9 => (by cases h9.1))
    obtain ⟨h8, rfl⟩ := h9; cases h8
    show bV O _ d 27 [(3, .int (nI j)), (0, .ref 34), (1, .ref (i + 1)), (2, .int (nI l))] [.int (tb bs e (p + j))] (f, n, s) _
    refine r_aload_n (n := 1) (i := 1) 2 rfl rfl dX5_spells_27 ?_
    refine r_iload_n (n := 3) (i := 3) 0 rfl rfl dX5_spells_28 ?_
    refine p_callVS (i := i) (As := [.int (nI j)]) (rest := [.int (tb bs e (p + j))]) (kJ0_charAt_5068e (O := O) (d := 3) (f := f) (n := n) (s := s) (i := i) (j := nI j)  e2 (by rw [e4]; exact vp_in_nI (by omega) (by omega)) (Nat.le_refl _)).call rfl lkX5_79 imJ0_charAt_5068e seJ0_charAt_5068e rfl e2 rfl (by omega) (Nat.le_of_ble_eq_true rfl) dX5_spells_29 (fun v9 G9 h9 => ?_) (fun q9 G9 h9 => (by cases h9.1))
    obtain ⟨h8, rfl⟩ := h9; cases h8
    show bV O _ d 32 [(3, .int (nI j)), (0, .ref 34), (1, .ref (i + 1)), (2, .int (nI l))] [.int (((((bByt.getD i []).getD (nI j).toNatClampNeg 0 &&& 255)).toUInt32 % 65536).toInt32), .int (tb bs e (p + j))] (f, n, s) _
    refine r_icmp_eq (tgt := 37) (by decide) dX5_spells_32 (fun c32 => ?_) (fun c32 => ?_)
    · rw [nI_clamp (by omega)] at c32
      refine r_iinc (i := 3) (v := nI (j + 1)) (L' := [(3, .int (nI (j + 1))), (0, .ref 34), (1, .ref (i + 1)), (2, .int (nI l))]) 0 rfl (nI_inc1 j) dX5_spells_37 (by decide) rfl ?_
      refine r_goto (tgt := 12) (by decide) dX5_spells_40 ?_
      exact hn (by omega) c32
    · rw [nI_clamp (by omega)] at c32
      refine r_iconst (v := 0) (by decide) dX5_spells_35 ?_
      refine r_zreturn rfl (by first | decide +kernel | exact narZ _ | assumption) dX5_spells_36 ?_
      exact hf (by omega) c32
theorem lp_spells {O : bO} {d : Nat} {f : bF} {n s : Nat} {Q : bR → bG → Prop} {tl tn tk tv : Int32} {e p : Nat} {bs : Nat → Int32} {i l : Nat} (h0 : f 34 = some (.inr (5, [.ref 35, .int tl, .int (nI e), .int tn, .int (nI p), .int tk, .int tv]))) (h1 : f 35 = some (.inl (0, 300, .inl bs))) (e0 : e ≤ 300) (e1 : p ≤ 300) (e2 : i < 7) (e3 : l ≤ 300) (e4 : bLen.getD i 0 = l) (hd : 4 ≤ d) : ∀ m j : Nat, j + m = l → Q (.inl (some (.int (bI (spl bs e p i m j))))) (f, n, s) → bV O mX5_spells d 12 [(3, .int (nI j)), (0, .ref 34), (1, .ref (i + 1)), (2, .int (nI l))] [] (f, n, s) Q := by
  intro m
  induction m with
  | zero =>
    intro j hj hQ
    exact st_spells h0 h1 e0 e1 e2 e3 e4 (by omega) (fun _ => by simpa [spl, bI] using hQ) (fun h => absurd h (by omega)) (fun h => absurd h (by omega)) hd
  | succ m ih =>
    intro j hj hQ
    exact st_spells h0 h1 e0 e1 e2 e3 e4 (by omega) (fun h => absurd h (by omega)) (fun _ h2 => by rw [show bI (spl bs e p i (m + 1) j) = 0 by simp only [spl, h2, decide_false, Bool.false_and, bI]; rfl] at hQ; exact hQ) (fun _ h2 => ih (j + 1) (by omega) (by rw [show spl bs e p i (m + 1) j = spl bs e p i m (j + 1) by simp only [spl, h2, decide_true, Bool.true_and]] at hQ; exact hQ)) hd
set_option maxRecDepth 4000 in
theorem kX5_spells {O : bO} {d : Nat} {f : bF} {n s : Nat} {tl : Int32} {tn : Int32} {tk : Int32} {tv : Int32} {e : Nat} {p : Nat} {bs : Nat → Int32} {i : Nat} {l : Nat} (h0 : f 34 = some (.inr (5, [.ref 35, .int tl, .int (nI e), .int tn, .int (nI p), .int tk, .int tv]))) (h1 : f 35 = some (.inl (0, 300, .inl bs))) (e0 : e ≤ 300) (e1 : p ≤ 300) (e2 : i < 7) (e3 : l ≤ 300) (hd : 4 ≤ d) : bMt O mX5_spells d [.ref 34, .ref (i + 1), .int (nI l)] (f, n, s) (.inl (some (.int (bI (splS bs e p i l))))) (f, n, s) := by
  refine bMt_of (bCall_of (by decide) rfl (Nat.le_of_ble_eq_true rfl) ?_)
  show bV O _ d 0 [(0, .ref 34), (1, .ref (i + 1)), (2, .int (nI l))] [] (f, n, s) _
  have hl9 := bLen_lt i e2
  refine r_aload_n (n := 1) (i := 1) 1 rfl rfl dX5_spells_0 ?_
  refine p_callVS (i := i) (As := []) (rest := []) (kJ0_length_8abf5 (O := O) (d := 1) (f := f) (n := n) (s := s) (i := i)  (by first | assumption | omega | decide) (Nat.le_refl _)).call rfl lkX5_74 imJ0_length_8abf5 seJ0_length_8abf5 rfl e2 rfl (by omega) (Nat.le_of_ble_eq_true rfl) dX5_spells_1 (fun v9 G9 h9 => ?_) (fun q9 G9 h9 => (by cases h9.1))
  obtain ⟨h8, rfl⟩ := h9; cases h8
  show bV O _ d 4 [(0, .ref 34), (1, .ref (i + 1)), (2, .int (nI l))] [.int (nI (bLen.getD i 0))] (f, n, s) _
  refine r_iload_n (n := 2) (i := 2) 2 rfl rfl dX5_spells_4 ?_
  refine r_icmp_eq (tgt := 10) (by decide) dX5_spells_5 (fun c5 => ?_) (fun c5 => ?_)
  · have c5 : (bLen.getD i 0) = l := (nI_eq (a := (bLen.getD i 0)) (b := l) (by omega) (by omega)).mp c5
    have c5 := c5
    refine r_iconst (v := 0) (by decide) dX5_spells_10 ?_
    refine r_istore_n (n := 3) (i := 3) (L' := [(3, .int 0), (0, .ref 34), (1, .ref (i + 1)), (2, .int (nI l))]) rfl dX5_spells_11 (by decide) rfl ?_
    exact lp_spells h0 h1 e0 e1 e2 e3 c5 (by omega) l 0 (by omega) ⟨by simp only [splS, c5, decide_true, Bool.true_and], rfl⟩
  · have c5 : ¬ (bLen.getD i 0) = l := fun h7 => c5 ((nI_eq (a := (bLen.getD i 0)) (b := l) (by omega) (by omega)).mpr h7)
    have c5 := c5
    refine r_iconst (v := 0) (by decide) dX5_spells_8 ?_
    refine r_zreturn rfl (by first | decide +kernel | exact narZ _ | assumption) dX5_spells_9 ?_
    exact ⟨by simp only [splS, c5, decide_false, Bool.false_and, bI]; rfl, rfl⟩
def kow (bs : Nat → Int32) (e p l : Nat) : Int32 := if splS bs e p 0 l then 261 else if splS bs e p 1 l then 262 else if splS bs e p 2 l then 263 else if splS bs e p 3 l then 264 else if splS bs e p 4 l then 265 else 260
set_option maxRecDepth 4000 in
theorem kX5_kindOfWord {O : bO} {d : Nat} {f : bF} {n s : Nat} {tl : Int32} {tn : Int32} {tk : Int32} {tv : Int32} {e : Nat} {p : Nat} {bs : Nat → Int32} {l : Nat} (h0 : f 34 = some (.inr (5, [.ref 35, .int tl, .int (nI e), .int tn, .int (nI p), .int tk, .int tv]))) (h1 : f 35 = some (.inl (0, 300, .inl bs))) (e0 : e ≤ 300) (e1 : p ≤ 300) (e2 : l ≤ 300) (hd : 5 ≤ d) : bMt O mX5_kindOfWord d [.ref 34, .int (nI l)] (f, n, s) (.inl (some (.int (kow bs e p l)))) (f, n, s) := by
  refine bMt_of (bCall_of (by decide) rfl (Nat.le_of_ble_eq_true rfl) ?_)
  show bV O _ d 0 [(0, .ref 34), (1, .int (nI l))] [] (f, n, s) _
  refine r_aload_n (n := 0) (i := 0) 0 rfl rfl dX5_kindOfWord_0 ?_
  refine r_ldcS (i := 0) (tx := "if") (by decide) (by decide) dX5_kindOfWord_1 ?_
  refine r_iload_n (n := 1) (i := 1) 1 rfl rfl dX5_kindOfWord_3 ?_
  refine p_callV (As := [.ref 1, .int (nI l)]) (rest := []) (kX5_spells (O := O) (d := 4) (f := f) (n := n) (s := s) (tl := tl) (tn := tn) (tk := tk) (tv := tv) (e := e) (p := p) (bs := bs) (i := 0) (l := l) h0 h1 (by first | assumption | omega | decide) (by first | assumption | omega | decide) (by first | assumption | omega | decide) (by first | assumption | omega | decide) (Nat.le_refl _)).call rfl lkX5_62 imX5_spells seX5_spells rfl h0 rfl rfl (by omega) (Nat.le_of_ble_eq_true rfl) dX5_kindOfWord_4 (fun v9 G9 h9 => ?_) (fun q9 G9 h9 => (by cases h9.1))
  obtain ⟨h8, rfl⟩ := h9; cases h8
  show bV O _ d 7 [(0, .ref 34), (1, .int (nI l))] [.int (bI (splS bs e p 0 l))] (f, n, s) _
  refine r_if_eq (tgt := 14) (by decide) dX5_kindOfWord_7 (fun c7 => ?_) (fun c7 => ?_)
  · have c7 := bI_0.mp c7
    refine r_aload_n (n := 0) (i := 0) 0 rfl rfl dX5_kindOfWord_14 ?_
    refine r_ldcS (i := 1) (tx := "then") (by decide) (by decide) dX5_kindOfWord_15 ?_
    refine r_iload_n (n := 1) (i := 1) 1 rfl rfl dX5_kindOfWord_17 ?_
    refine p_callV (As := [.ref 2, .int (nI l)]) (rest := []) (kX5_spells (O := O) (d := 4) (f := f) (n := n) (s := s) (tl := tl) (tn := tn) (tk := tk) (tv := tv) (e := e) (p := p) (bs := bs) (i := 1) (l := l) h0 h1 (by first | assumption | omega | decide) (by first | assumption | omega | decide) (by first | assumption | omega | decide) (by first | assumption | omega | decide) (Nat.le_refl _)).call rfl lkX5_62 imX5_spells seX5_spells rfl h0 rfl rfl (by omega) (Nat.le_of_ble_eq_true rfl) dX5_kindOfWord_18 (fun v9 G9 h9 => ?_) (fun q9 G9 h9 => (by cases h9.1))
    obtain ⟨h8, rfl⟩ := h9; cases h8
    show bV O _ d 21 [(0, .ref 34), (1, .int (nI l))] [.int (bI (splS bs e p 1 l))] (f, n, s) _
    refine r_if_eq (tgt := 28) (by decide) dX5_kindOfWord_21 (fun c21 => ?_) (fun c21 => ?_)
    · have c21 := bI_0.mp c21
      refine r_aload_n (n := 0) (i := 0) 0 rfl rfl dX5_kindOfWord_28 ?_
      refine r_ldcS (i := 2) (tx := "else") (by decide) (by decide) dX5_kindOfWord_29 ?_
      refine r_iload_n (n := 1) (i := 1) 1 rfl rfl dX5_kindOfWord_31 ?_
      refine p_callV (As := [.ref 3, .int (nI l)]) (rest := []) (kX5_spells (O := O) (d := 4) (f := f) (n := n) (s := s) (tl := tl) (tn := tn) (tk := tk) (tv := tv) (e := e) (p := p) (bs := bs) (i := 2) (l := l) h0 h1 (by first | assumption | omega | decide) (by first | assumption | omega | decide) (by first | assumption | omega | decide) (by first | assumption | omega | decide) (Nat.le_refl _)).call rfl lkX5_62 imX5_spells seX5_spells rfl h0 rfl rfl (by omega) (Nat.le_of_ble_eq_true rfl) dX5_kindOfWord_32 (fun v9 G9 h9 => ?_) (fun q9 G9 h9 => (by cases h9.1))
      obtain ⟨h8, rfl⟩ := h9; cases h8
      show bV O _ d 35 [(0, .ref 34), (1, .int (nI l))] [.int (bI (splS bs e p 2 l))] (f, n, s) _
      refine r_if_eq (tgt := 42) (by decide) dX5_kindOfWord_35 (fun c35 => ?_) (fun c35 => ?_)
      · have c35 := bI_0.mp c35
        refine r_aload_n (n := 0) (i := 0) 0 rfl rfl dX5_kindOfWord_42 ?_
        refine r_ldcS (i := 3) (tx := "least") (by decide) (by decide) dX5_kindOfWord_43 ?_
        refine r_iload_n (n := 1) (i := 1) 1 rfl rfl dX5_kindOfWord_45 ?_
        refine p_callV (As := [.ref 4, .int (nI l)]) (rest := []) (kX5_spells (O := O) (d := 4) (f := f) (n := n) (s := s) (tl := tl) (tn := tn) (tk := tk) (tv := tv) (e := e) (p := p) (bs := bs) (i := 3) (l := l) h0 h1 (by first | assumption | omega | decide) (by first | assumption | omega | decide) (by first | assumption | omega | decide) (by first | assumption | omega | decide) (Nat.le_refl _)).call rfl lkX5_62 imX5_spells seX5_spells rfl h0 rfl rfl (by omega) (Nat.le_of_ble_eq_true rfl) dX5_kindOfWord_46 (fun v9 G9 h9 => ?_) (fun q9 G9 h9 => (by cases h9.1))
        obtain ⟨h8, rfl⟩ := h9; cases h8
        show bV O _ d 49 [(0, .ref 34), (1, .int (nI l))] [.int (bI (splS bs e p 3 l))] (f, n, s) _
        refine r_if_eq (tgt := 56) (by decide) dX5_kindOfWord_49 (fun c49 => ?_) (fun c49 => ?_)
        · have c49 := bI_0.mp c49
          refine r_aload_n (n := 0) (i := 0) 0 rfl rfl dX5_kindOfWord_56 ?_
          refine r_ldcS (i := 4) (tx := "most") (by decide) (by decide) dX5_kindOfWord_57 ?_
          refine r_iload_n (n := 1) (i := 1) 1 rfl rfl dX5_kindOfWord_59 ?_
          refine p_callV (As := [.ref 5, .int (nI l)]) (rest := []) (kX5_spells (O := O) (d := 4) (f := f) (n := n) (s := s) (tl := tl) (tn := tn) (tk := tk) (tv := tv) (e := e) (p := p) (bs := bs) (i := 4) (l := l) h0 h1 (by first | assumption | omega | decide) (by first | assumption | omega | decide) (by first | assumption | omega | decide) (by first | assumption | omega | decide) (Nat.le_refl _)).call rfl lkX5_62 imX5_spells seX5_spells rfl h0 rfl rfl (by omega) (Nat.le_of_ble_eq_true rfl) dX5_kindOfWord_60 (fun v9 G9 h9 => ?_) (fun q9 G9 h9 => (by cases h9.1))
          obtain ⟨h8, rfl⟩ := h9; cases h8
          show bV O _ d 63 [(0, .ref 34), (1, .int (nI l))] [.int (bI (splS bs e p 4 l))] (f, n, s) _
          refine r_if_eq (tgt := 72) (by decide) dX5_kindOfWord_63 (fun c63 => ?_) (fun c63 => ?_)
          · have c63 := bI_0.mp c63
            refine r_sipush (v := 260) (by decide) dX5_kindOfWord_72 ?_
            refine r_ireturn rfl dX5_kindOfWord_75 ?_
            refine ⟨?_, ?_⟩ <;> first | rfl | (simp [kow, c7, c21, c35, c49, c63]; done)
          · have c63 := bI_1.mp c63
            refine r_sipush (v := 265) (by decide) dX5_kindOfWord_66 ?_
            refine r_goto (tgt := 75) (by decide) dX5_kindOfWord_69 ?_
            refine r_ireturn rfl dX5_kindOfWord_75 ?_
            refine ⟨?_, ?_⟩ <;> first | rfl | (simp [kow, c7, c21, c35, c49, c63]; done)
        · have c49 := bI_1.mp c49
          refine r_sipush (v := 264) (by decide) dX5_kindOfWord_52 ?_
          refine r_ireturn rfl dX5_kindOfWord_55 ?_
          refine ⟨?_, ?_⟩ <;> first | rfl | (simp [kow, c7, c21, c35, c49]; done)
      · have c35 := bI_1.mp c35
        refine r_sipush (v := 263) (by decide) dX5_kindOfWord_38 ?_
        refine r_ireturn rfl dX5_kindOfWord_41 ?_
        refine ⟨?_, ?_⟩ <;> first | rfl | (simp [kow, c7, c21, c35]; done)
    · have c21 := bI_1.mp c21
      refine r_sipush (v := 262) (by decide) dX5_kindOfWord_24 ?_
      refine r_ireturn rfl dX5_kindOfWord_27 ?_
      refine ⟨?_, ?_⟩ <;> first | rfl | (simp [kow, c7, c21]; done)
  · have c7 := bI_1.mp c7
    refine r_sipush (v := 261) (by decide) dX5_kindOfWord_10 ?_
    refine r_ireturn rfl dX5_kindOfWord_13 ?_
    refine ⟨?_, ?_⟩ <;> first | rfl | (simp [kow, c7]; done)
def lets (bs : Nat → Int32) (e : Nat) : Nat → Nat → Nat
  | 0, q => q
  | k + 1, q => if jLetter (tb bs e q) then lets bs e k (q + 1) else q
def digs (bs : Nat → Int32) (e : Nat) : Nat → Nat → Nat
  | 0, q => q
  | k + 1, q => if jDigit (tb bs e q) then digs bs e k (q + 1) else q
def nacc (bs : Nat → Int32) (e : Nat) : Nat → Nat → Int32 → Int32
  | 0, _, x => x
  | k + 1, q, x => if jDigit (tb bs e q) then nacc bs e k (q + 1) (x * 10 + tb bs e q - 48) else x
def skp (bs : Nat → Int32) (e : Nat) : Nat → Nat → Nat
  | 0, q => q
  | k + 1, q => if tb bs e q = 32 then skp bs e k (q + 1) else q
theorem jL_out {bs : Nat → Int32} {e q : Nat} (h : e ≤ q) : jLetter (tb bs e q) = false := by rw [tb_out h]; decide
theorem jD_out {bs : Nat → Int32} {e q : Nat} (h : e ≤ q) : jDigit (tb bs e q) = false := by rw [tb_out h]; decide
theorem tb_32 {bs : Nat → Int32} {e q : Nat} (h : e ≤ q) : ¬ tb bs e q = 32 := by rw [tb_out h]; decide
theorem lets_ge (bs : Nat → Int32) (e : Nat) : ∀ k q : Nat, q ≤ lets bs e k q ∧ lets bs e k q ≤ max q e := by
  intro k
  induction k with
  | zero => intro q; exact ⟨Nat.le_refl _, Nat.le_max_left _ _⟩
  | succ k ih =>
    intro q
    by_cases h : jLetter (tb bs e q) = true
    · have := ih (q + 1)
      have hq : q < e := Nat.lt_of_not_le (fun h2 => by rw [jL_out h2] at h; cases h)
      simp only [lets, h, if_true]
      omega
    · simp only [lets, h, if_false]
      exact ⟨Nat.le_refl _, Nat.le_max_left _ _⟩
theorem digs_ge (bs : Nat → Int32) (e : Nat) : ∀ k q : Nat, q ≤ digs bs e k q ∧ digs bs e k q ≤ max q e := by
  intro k
  induction k with
  | zero => intro q; exact ⟨Nat.le_refl _, Nat.le_max_left _ _⟩
  | succ k ih =>
    intro q
    by_cases h : jDigit (tb bs e q) = true
    · have := ih (q + 1)
      have hq : q < e := Nat.lt_of_not_le (fun h2 => by rw [jD_out h2] at h; cases h)
      simp only [digs, h, if_true]
      omega
    · simp only [digs, h, if_false]
      exact ⟨Nat.le_refl _, Nat.le_max_left _ _⟩
theorem skp_ge (bs : Nat → Int32) (e : Nat) : ∀ k q : Nat, q ≤ skp bs e k q ∧ skp bs e k q ≤ max q e := by
  intro k
  induction k with
  | zero => intro q; exact ⟨Nat.le_refl _, Nat.le_max_left _ _⟩
  | succ k ih =>
    intro q
    by_cases h : tb bs e q = 32
    · have := ih (q + 1)
      have hq : q < e := Nat.lt_of_not_le (fun h2 => tb_32 h2 h)
      simp only [skp, h, if_true]
      omega
    · simp only [skp, h, if_false]
      exact ⟨Nat.le_refl _, Nat.le_max_left _ _⟩
def wK (bs : Nat → Int32) (e p q : Nat) : Int32 := if q - p ≤ 8 then (if jDigit (tb bs e q) then (if q - p = 1 then (if tb bs e p = 120 then (if 6 ≤ tb bs e q - 48 then 260 else 259) else 260) else 260) else kow bs e p (q - p)) else 257
def wN (bs : Nat → Int32) (e q : Nat) : Nat := if jDigit (tb bs e q) then q + 1 else q
def wV (bs : Nat → Int32) (e p q : Nat) (old : Int32) : Int32 := if q - p ≤ 8 then (if jDigit (tb bs e q) then tb bs e q - 48 else old) else old
theorem st_tw {O : bO} {d : Nat} {f : bF} {n s : Nat} {Q : bR → bG → Prop} {tl : Int32} {tn : Int32} {tk : Int32} {tv : Int32} {e : Nat} {p : Nat} {bs : Nat → Int32} {q : Nat} (h0 : f 34 = some (.inr (5, [.ref 35, .int tl, .int (nI e), .int tn, .int (nI p), .int tk, .int tv]))) (h1 : f 35 = some (.inl (0, 300, .inl bs))) (e0 : e ≤ 300) (e1 : p ≤ 300) (e2 : q ≤ 300) (hx : jLetter (tb bs e q) = false → bV O mX5_takeWord d 30 [(1, .int (nI q)), (0, .ref 34)] [] (f, n, s) Q) (hn : q < e → jLetter (tb bs e q) = true → bV O mX5_takeWord d 5 [(1, .int (nI (q + 1))), (0, .ref 34)] [] (f, n, s) Q) (hd : 1 ≤ d) : bV O mX5_takeWord d 5 [(1, .int (nI q)), (0, .ref 34)] [] (f, n, s) Q := by
  refine r_iload_n (n := 1) (i := 1) 0 rfl rfl dX5_takeWord_5 ?_
  refine r_aload_n (n := 0) (i := 0) 1 rfl rfl dX5_takeWord_6 ?_
  refine p_get (fs := [.ref 35, .int tl, .int (nI e), .int tn, .int (nI p), .int tk, .int tv]) flX5_19 h0 rfl dX5_takeWord_7 ?_
  refine r_icmp_ge (tgt := 30) (by decide) dX5_takeWord_10 (fun c10 => ?_) (fun c10 => ?_)
  · have c10 : e ≤ q := (nI_leI (a := e) (b := q) (by omega) (by omega)).mp c10
    exact hx (jL_out (by omega))
  · have c10 : ¬ e ≤ q := fun h7 => c10 ((nI_leI (a := e) (b := q) (by omega) (by omega)).mpr h7)
    refine r_aload_n (n := 0) (i := 0) 1 rfl rfl dX5_takeWord_13 ?_
    refine r_iload_n (n := 1) (i := 1) 0 rfl rfl dX5_takeWord_14 ?_
    refine p_callV (As := [.int (nI q)]) (rest := []) (kX5_byteAt (O := O) (d := 0) (f := f) (n := n) (s := s) (tl := tl) (tn := tn) (tk := tk) (tv := tv) (e := e) (tp := nI p) (bs := bs) (a := q) h0 h1 e0 (by omega) (Nat.le_refl _)).call rfl lkX5_31 imX5_byteAt seX5_byteAt rfl h0 rfl rfl (by omega) (Nat.le_of_ble_eq_true rfl) dX5_takeWord_15 (fun v9 G9 h9 => ?_) (fun q9 G9 h9 => (by cases h9.1))
    obtain ⟨h8, rfl⟩ := h9; cases h8
    show bV O _ d 18 [(1, .int (nI q)), (0, .ref 34)] [.int (tb bs e q)] (f, n, s) _
    refine p_callS (As := [.int (tb bs e q)]) (rest := []) (kX5_isLetter (O := O) (d := 0) (f := f) (n := n) (s := s) (x := tb bs e q)   (Nat.le_refl _)).call rfl lkX5_38 smX5_isLetter rfl rfl (by omega) (Nat.le_of_ble_eq_true rfl) dX5_takeWord_18 (fun v9 G9 h9 => ?_) (fun q9 G9 h9 => (by cases h9.1))
    obtain ⟨h8, rfl⟩ := h9; cases h8
    show bV O _ d 21 [(1, .int (nI q)), (0, .ref 34)] [.int (bI (jLetter (tb bs e q)))] (f, n, s) _
    refine r_if_eq (tgt := 30) (by decide) dX5_takeWord_21 (fun c21 => ?_) (fun c21 => ?_)
    · have c21 := bI_0.mp c21
      exact hx c21
    · have c21 := bI_1.mp c21
      refine r_iinc (i := 1) (v := nI (q + 1)) (L' := [(1, .int (nI (q + 1))), (0, .ref 34)]) 0 rfl (nI_inc1 q) dX5_takeWord_24 (by decide) rfl ?_
      refine r_goto (tgt := 5) (by decide) dX5_takeWord_27 ?_
      exact hn (by omega) c21
theorem lp_tw {O : bO} {d : Nat} {f : bF} {n s : Nat} {Q : bR → bG → Prop} {tl tn tk tv : Int32} {e p : Nat} {bs : Nat → Int32} (h0 : f 34 = some (.inr (5, [.ref 35, .int tl, .int (nI e), .int tn, .int (nI p), .int tk, .int tv]))) (h1 : f 35 = some (.inl (0, 300, .inl bs))) (e0 : e ≤ 300) (e1 : p ≤ 300) (hd : 1 ≤ d) : ∀ k q : Nat, e ≤ q + k → q ≤ 300 → bV O mX5_takeWord d 30 [(1, .int (nI (lets bs e k q))), (0, .ref 34)] [] (f, n, s) Q → bV O mX5_takeWord d 5 [(1, .int (nI q)), (0, .ref 34)] [] (f, n, s) Q := by
  intro k
  induction k with
  | zero =>
    intro q hq h3 K
    exact st_tw h0 h1 e0 e1 h3 (fun _ => K) (fun h => absurd h (by omega)) hd
  | succ k ih =>
    intro q hq h3 K
    exact st_tw h0 h1 e0 e1 h3 (fun h => by simpa [lets, h] using K) (fun h1 h2 => ih (q + 1) (by omega) (by omega) (by simpa [lets, h2] using K)) hd
theorem st_tw2 {O : bO} {d : Nat} {f : bF} {n s : Nat} {Q : bR → bG → Prop} {tl : Int32} {tn : Int32} {tk : Int32} {tv : Int32} {e : Nat} {p : Nat} {bs : Nat → Int32} {q : Nat} (h0 : f 34 = some (.inr (5, [.ref 35, .int tl, .int (nI e), .int tn, .int (nI p), .int tk, .int tv]))) (h1 : f 35 = some (.inl (0, 300, .inl bs))) (e0 : e ≤ 300) (e1 : p ≤ 300) (e2 : q ≤ 300) (e3 : p ≤ q) (hQ : Q (.inl none) (bU f 34 (.inr (5, [.ref 35, .int tl, .int (nI e), .int (nI (wN bs e q)), .int (nI p), .int (wK bs e p q), .int (wV bs e p q tv)])), n, s)) (hd : 6 ≤ d) : bV O mX5_takeWord d 30 [(1, .int (nI q)), (0, .ref 34)] [] (f, n, s) Q := by
  refine r_iload_n (n := 1) (i := 1) 0 rfl rfl dX5_takeWord_30 ?_
  refine r_aload_n (n := 0) (i := 0) 1 rfl rfl dX5_takeWord_31 ?_
  refine p_get (fs := [.ref 35, .int tl, .int (nI e), .int tn, .int (nI p), .int tk, .int tv]) flX5_28 h0 rfl dX5_takeWord_32 ?_
  refine r_isubE (v := nI (q - p)) (pk_sub (by omega)) dX5_takeWord_35 ?_
  refine r_istore_n (n := 2) (i := 2) (L' := [(2, .int (nI (q - p))), (1, .int (nI q)), (0, .ref 34)]) rfl dX5_takeWord_36 (by decide) rfl ?_
  refine r_aload_n (n := 0) (i := 0) 2 rfl rfl dX5_takeWord_37 ?_
  refine r_iload_n (n := 1) (i := 1) 1 rfl rfl dX5_takeWord_38 ?_
  refine p_callV (As := [.int (nI q)]) (rest := []) (kX5_byteAt (O := O) (d := 0) (f := f) (n := n) (s := s) (tl := tl) (tn := tn) (tk := tk) (tv := tv) (e := e) (tp := nI p) (bs := bs) (a := q) h0 h1 e0 (by omega) (Nat.le_refl _)).call rfl lkX5_31 imX5_byteAt seX5_byteAt rfl h0 rfl rfl (by omega) (Nat.le_of_ble_eq_true rfl) dX5_takeWord_39 (fun v9 G9 h9 => ?_) (fun q9 G9 h9 => (by cases h9.1))
  obtain ⟨h8, rfl⟩ := h9; cases h8
  show bV O _ d 42 [(2, .int (nI (q - p))), (1, .int (nI q)), (0, .ref 34)] [.int (tb bs e q)] (f, n, s) _
  refine r_istore_n (n := 3) (i := 3) (L' := [(3, .int (tb bs e q)), (2, .int (nI (q - p))), (1, .int (nI q)), (0, .ref 34)]) rfl dX5_takeWord_42 (by decide) rfl ?_
  refine r_aload_n (n := 0) (i := 0) 3 rfl rfl dX5_takeWord_43 ?_
  refine r_iload_n (n := 3) (i := 3) 0 rfl rfl dX5_takeWord_44 ?_
  refine p_callS (As := [.int (tb bs e q)]) (rest := [.ref 34]) (kX5_isDigit (O := O) (d := 0) (f := f) (n := n) (s := s) (x := tb bs e q)   (Nat.le_refl _)).call rfl lkX5_45 smX5_isDigit rfl rfl (by omega) (Nat.le_of_ble_eq_true rfl) dX5_takeWord_45 (fun v9 G9 h9 => ?_) (fun q9 G9 h9 => (by cases h9.1))
  obtain ⟨h8, rfl⟩ := h9; cases h8
  show bV O _ d 48 [(3, .int (tb bs e q)), (2, .int (nI (q - p))), (1, .int (nI q)), (0, .ref 34)] [.int (bI (jDigit (tb bs e q))), .ref 34] (f, n, s) _
  refine r_if_eq (tgt := 57) (by decide) dX5_takeWord_48 (fun c48 => ?_) (fun c48 => ?_)
  · have c48 := bI_0.mp c48
    refine r_iload_n (n := 1) (i := 1) 2 rfl rfl dX5_takeWord_57 ?_
    refine p_put (fs := [.ref 35, .int tl, .int (nI e), .int tn, .int (nI p), .int tk, .int tv]) (fs' := [.ref 35, .int tl, .int (nI e), .int (nI q), .int (nI p), .int tk, .int tv]) flX5_22 h0 (Nat.le_of_ble_eq_true rfl) (bNf_i _) rfl dX5_takeWord_58 ?_
    refine r_iload_n (n := 2) (i := 2) 1 rfl rfl dX5_takeWord_61 ?_
    refine r_bipush (v := 8) (by decide) dX5_takeWord_62 ?_
    refine r_icmp_le (tgt := 77) (by decide) dX5_takeWord_64 (fun c64 => ?_) (fun c64 => ?_)
    · have c64 : (q - p) ≤ 8 := (nI_leI (a := (q - p)) (b := 8) (by omega) (by omega)).mp c64
      refine r_iload_n (n := 3) (i := 3) 0 rfl rfl dX5_takeWord_77 ?_
      refine p_callS (As := [.int (tb bs e q)]) (rest := []) (kX5_isDigit (O := O) (d := 0) (f := bU f 34 (.inr (5, [.ref 35, .int tl, .int (nI e), .int (nI q), .int (nI p), .int tk, .int tv]))) (n := n) (s := s) (x := tb bs e q)   (Nat.le_refl _)).call rfl lkX5_45 smX5_isDigit rfl rfl (by omega) (Nat.le_of_ble_eq_true rfl) dX5_takeWord_78 (fun v9 G9 h9 => ?_) (fun q9 G9 h9 => (by cases h9.1))
      obtain ⟨h8, rfl⟩ := h9; cases h8
      show bV O _ d 81 [(3, .int (tb bs e q)), (2, .int (nI (q - p))), (1, .int (nI q)), (0, .ref 34)] [.int (bI (jDigit (tb bs e q)))] (bU f 34 (.inr (5, [.ref 35, .int tl, .int (nI e), .int (nI q), .int (nI p), .int tk, .int tv])), n, s) _
      refine r_if_eq (tgt := 135) (by decide) dX5_takeWord_81 (fun _ => ?_) (fun h9 => absurd (bI_0.mpr c48) h9)
      refine r_aload_n (n := 0) (i := 0) 3 rfl rfl dX5_takeWord_135 ?_
      refine r_aload_n (n := 0) (i := 0) 3 rfl rfl dX5_takeWord_136 ?_
      refine r_iload_n (n := 2) (i := 2) 1 rfl rfl dX5_takeWord_137 ?_
      refine p_callV (As := [.int (nI (q - p))]) (rest := [.ref 34]) (kX5_kindOfWord (O := O) (d := 5) (f := bU f 34 (.inr (5, [.ref 35, .int tl, .int (nI e), .int (nI q), .int (nI p), .int tk, .int tv]))) (n := n) (s := s) (tl := tl) (tn := nI q) (tk := tk) (tv := tv) (e := e) (p := p) (bs := bs) (l := q - p) (by exact bU_s _ _ _) (by exact ((bU_n (by decide)).trans (h1))) e0 e1 (by omega) (Nat.le_refl _)).call rfl lkX5_57 imX5_kindOfWord seX5_kindOfWord rfl (by exact bU_s _ _ _) rfl rfl (by omega) (Nat.le_of_ble_eq_true rfl) dX5_takeWord_138 (fun v9 G9 h9 => ?_) (fun q9 G9 h9 => (by cases h9.1))
      obtain ⟨h8, rfl⟩ := h9; cases h8
      show bV O _ d 141 [(3, .int (tb bs e q)), (2, .int (nI (q - p))), (1, .int (nI q)), (0, .ref 34)] [.int (kow bs e p (q - p)), .ref 34] (bU f 34 (.inr (5, [.ref 35, .int tl, .int (nI e), .int (nI q), .int (nI p), .int tk, .int tv])), n, s) _
      refine p_put (fs := [.ref 35, .int tl, .int (nI e), .int (nI q), .int (nI p), .int tk, .int tv]) (fs' := [.ref 35, .int tl, .int (nI e), .int (nI q), .int (nI p), .int (kow bs e p (q - p)), .int tv]) flX5_35 (by exact bU_s _ _ _) (Nat.le_of_ble_eq_true rfl) (bNf_i _) rfl dX5_takeWord_141 ?_
      refine bV_h (f2 := bU f 34 (.inr (5, [.ref 35, .int tl, .int (nI e), .int (nI q), .int (nI p), .int (kow bs e p (q - p)), .int tv]))) (bU_u _ _ _ _) ?_
      refine r_return rfl dX5_takeWord_144 ?_
      have e9 : bU f 34 (.inr (5, [.ref 35, .int tl, .int (nI e), .int (nI q), .int (nI p), .int (kow bs e p (q - p)), .int tv])) = bU f 34 (.inr (5, [.ref 35, .int tl, .int (nI e), .int (nI (wN bs e q)), .int (nI p), .int (wK bs e p q), .int (wV bs e p q tv)])) := by simp [wN, wK, wV, c48, c64]
      rw [e9]
      exact hQ
    · have c64 : ¬ (q - p) ≤ 8 := fun h7 => c64 ((nI_leI (a := (q - p)) (b := 8) (by omega) (by omega)).mpr h7)
      refine r_aload_n (n := 0) (i := 0) 3 rfl rfl dX5_takeWord_67 ?_
      refine r_sipush (v := 257) (by decide) dX5_takeWord_68 ?_
      refine p_put (fs := [.ref 35, .int tl, .int (nI e), .int (nI q), .int (nI p), .int tk, .int tv]) (fs' := [.ref 35, .int tl, .int (nI e), .int (nI q), .int (nI p), .int 257, .int tv]) flX5_35 (by exact bU_s _ _ _) (Nat.le_of_ble_eq_true rfl) (bNf_i _) rfl dX5_takeWord_71 ?_
      refine bV_h (f2 := bU f 34 (.inr (5, [.ref 35, .int tl, .int (nI e), .int (nI q), .int (nI p), .int 257, .int tv]))) (bU_u _ _ _ _) ?_
      refine r_goto (tgt := 144) (by decide) dX5_takeWord_74 ?_
      refine r_return rfl dX5_takeWord_144 ?_
      have e9 : bU f 34 (.inr (5, [.ref 35, .int tl, .int (nI e), .int (nI q), .int (nI p), .int 257, .int tv])) = bU f 34 (.inr (5, [.ref 35, .int tl, .int (nI e), .int (nI (wN bs e q)), .int (nI p), .int (wK bs e p q), .int (wV bs e p q tv)])) := by simp [wN, wK, wV, c48, c64]
      rw [e9]
      exact hQ
  · have c48 := bI_1.mp c48
    refine r_iload_n (n := 1) (i := 1) 2 rfl rfl dX5_takeWord_51 ?_
    refine r_iconst (v := 1) (by decide) dX5_takeWord_52 ?_
    refine r_iaddE (v := nI (q + 1)) (nI_add q 1) dX5_takeWord_53 ?_
    refine r_goto (tgt := 58) (by decide) dX5_takeWord_54 ?_
    refine p_put (fs := [.ref 35, .int tl, .int (nI e), .int tn, .int (nI p), .int tk, .int tv]) (fs' := [.ref 35, .int tl, .int (nI e), .int (nI (q + 1)), .int (nI p), .int tk, .int tv]) flX5_22 h0 (Nat.le_of_ble_eq_true rfl) (bNf_i _) rfl dX5_takeWord_58 ?_
    refine r_iload_n (n := 2) (i := 2) 1 rfl rfl dX5_takeWord_61 ?_
    refine r_bipush (v := 8) (by decide) dX5_takeWord_62 ?_
    refine r_icmp_le (tgt := 77) (by decide) dX5_takeWord_64 (fun c64 => ?_) (fun c64 => ?_)
    · have c64 : (q - p) ≤ 8 := (nI_leI (a := (q - p)) (b := 8) (by omega) (by omega)).mp c64
      refine r_iload_n (n := 3) (i := 3) 0 rfl rfl dX5_takeWord_77 ?_
      refine p_callS (As := [.int (tb bs e q)]) (rest := []) (kX5_isDigit (O := O) (d := 0) (f := bU f 34 (.inr (5, [.ref 35, .int tl, .int (nI e), .int (nI (q + 1)), .int (nI p), .int tk, .int tv]))) (n := n) (s := s) (x := tb bs e q)   (Nat.le_refl _)).call rfl lkX5_45 smX5_isDigit rfl rfl (by omega) (Nat.le_of_ble_eq_true rfl) dX5_takeWord_78 (fun v9 G9 h9 => ?_) (fun q9 G9 h9 => (by cases h9.1))
      obtain ⟨h8, rfl⟩ := h9; cases h8
      show bV O _ d 81 [(3, .int (tb bs e q)), (2, .int (nI (q - p))), (1, .int (nI q)), (0, .ref 34)] [.int (bI (jDigit (tb bs e q)))] (bU f 34 (.inr (5, [.ref 35, .int tl, .int (nI e), .int (nI (q + 1)), .int (nI p), .int tk, .int tv])), n, s) _
      refine r_if_eq (tgt := 135) (by decide) dX5_takeWord_81 (fun h9 => absurd h9 (bI_1.mpr c48)) (fun _ => ?_)
      refine r_aload_n (n := 0) (i := 0) 3 rfl rfl dX5_takeWord_84 ?_
      refine r_iload_n (n := 3) (i := 3) 0 rfl rfl dX5_takeWord_85 ?_
      refine r_bipush (v := 48) (by decide) dX5_takeWord_86 ?_
      refine r_isub dX5_takeWord_88 ?_
      refine p_put (fs := [.ref 35, .int tl, .int (nI e), .int (nI (q + 1)), .int (nI p), .int tk, .int tv]) (fs' := [.ref 35, .int tl, .int (nI e), .int (nI (q + 1)), .int (nI p), .int tk, .int ((tb bs e q) - 48)]) flX5_54 (by exact bU_s _ _ _) (Nat.le_of_ble_eq_true rfl) (bNf_i _) rfl dX5_takeWord_89 ?_
      refine bV_h (f2 := bU f 34 (.inr (5, [.ref 35, .int tl, .int (nI e), .int (nI (q + 1)), .int (nI p), .int tk, .int ((tb bs e q) - 48)]))) (bU_u _ _ _ _) ?_
      refine r_aload_n (n := 0) (i := 0) 3 rfl rfl dX5_takeWord_92 ?_
      refine r_iload_n (n := 2) (i := 2) 1 rfl rfl dX5_takeWord_93 ?_
      refine r_iconst (v := 1) (by decide) dX5_takeWord_94 ?_
      refine r_icmp_ne (tgt := 126) (by decide) dX5_takeWord_95 (fun c95 => ?_) (fun c95 => ?_)
      · have c95 : ¬ (q - p) = 1 := fun h7 => c95 ((nI_eq (a := (q - p)) (b := 1) (by omega) (by omega)).mpr h7)
        refine r_sipush (v := 260) (by decide) dX5_takeWord_126 ?_
        refine p_put (fs := [.ref 35, .int tl, .int (nI e), .int (nI (q + 1)), .int (nI p), .int tk, .int ((tb bs e q) - 48)]) (fs' := [.ref 35, .int tl, .int (nI e), .int (nI (q + 1)), .int (nI p), .int 260, .int ((tb bs e q) - 48)]) flX5_35 (by exact bU_s _ _ _) (Nat.le_of_ble_eq_true rfl) (bNf_i _) rfl dX5_takeWord_129 ?_
        refine bV_h (f2 := bU f 34 (.inr (5, [.ref 35, .int tl, .int (nI e), .int (nI (q + 1)), .int (nI p), .int 260, .int ((tb bs e q) - 48)]))) (bU_u _ _ _ _) ?_
        refine r_goto (tgt := 144) (by decide) dX5_takeWord_132 ?_
        refine r_return rfl dX5_takeWord_144 ?_
        have e9 : bU f 34 (.inr (5, [.ref 35, .int tl, .int (nI e), .int (nI (q + 1)), .int (nI p), .int 260, .int ((tb bs e q) - 48)])) = bU f 34 (.inr (5, [.ref 35, .int tl, .int (nI e), .int (nI (wN bs e q)), .int (nI p), .int (wK bs e p q), .int (wV bs e p q tv)])) := by simp [wN, wK, wV, c48, c64, c95]
        rw [e9]
        exact hQ
      · have c95 : (q - p) = 1 := (nI_eq (a := (q - p)) (b := 1) (by omega) (by omega)).mp c95
        refine r_aload_n (n := 0) (i := 0) 3 rfl rfl dX5_takeWord_98 ?_
        refine r_aload_n (n := 0) (i := 0) 3 rfl rfl dX5_takeWord_99 ?_
        refine p_get (fs := [.ref 35, .int tl, .int (nI e), .int (nI (q + 1)), .int (nI p), .int tk, .int ((tb bs e q) - 48)]) flX5_28 (by exact bU_s _ _ _) rfl dX5_takeWord_100 ?_
        refine p_callV (As := [.int (nI p)]) (rest := [.ref 34]) (kX5_byteAt (O := O) (d := 0) (f := bU f 34 (.inr (5, [.ref 35, .int tl, .int (nI e), .int (nI (q + 1)), .int (nI p), .int tk, .int ((tb bs e q) - 48)]))) (n := n) (s := s) (tl := tl) (tn := nI (q + 1)) (tk := tk) (tv := (tb bs e q) - 48) (e := e) (tp := nI p) (bs := bs) (a := p) (by exact bU_s _ _ _) (by exact ((bU_n (by decide)).trans (h1))) e0 (by omega) (Nat.le_refl _)).call rfl lkX5_31 imX5_byteAt seX5_byteAt rfl (by exact bU_s _ _ _) rfl rfl (by omega) (Nat.le_of_ble_eq_true rfl) dX5_takeWord_103 (fun v9 G9 h9 => ?_) (fun q9 G9 h9 => (by cases h9.1))
        obtain ⟨h8, rfl⟩ := h9; cases h8
        show bV O _ d 106 [(3, .int (tb bs e q)), (2, .int (nI (q - p))), (1, .int (nI q)), (0, .ref 34)] [.int (tb bs e p), .ref 34] (bU f 34 (.inr (5, [.ref 35, .int tl, .int (nI e), .int (nI (q + 1)), .int (nI p), .int tk, .int ((tb bs e q) - 48)])), n, s) _
        refine r_bipush (v := 120) (by decide) dX5_takeWord_106 ?_
        refine r_icmp_ne (tgt := 126) (by decide) dX5_takeWord_108 (fun c108 => ?_) (fun c108 => ?_)
        · refine r_sipush (v := 260) (by decide) dX5_takeWord_126 ?_
          refine p_put (fs := [.ref 35, .int tl, .int (nI e), .int (nI (q + 1)), .int (nI p), .int tk, .int ((tb bs e q) - 48)]) (fs' := [.ref 35, .int tl, .int (nI e), .int (nI (q + 1)), .int (nI p), .int 260, .int ((tb bs e q) - 48)]) flX5_35 (by exact bU_s _ _ _) (Nat.le_of_ble_eq_true rfl) (bNf_i _) rfl dX5_takeWord_129 ?_
          refine bV_h (f2 := bU f 34 (.inr (5, [.ref 35, .int tl, .int (nI e), .int (nI (q + 1)), .int (nI p), .int 260, .int ((tb bs e q) - 48)]))) (bU_u _ _ _ _) ?_
          refine r_goto (tgt := 144) (by decide) dX5_takeWord_132 ?_
          refine r_return rfl dX5_takeWord_144 ?_
          have e9 : bU f 34 (.inr (5, [.ref 35, .int tl, .int (nI e), .int (nI (q + 1)), .int (nI p), .int 260, .int ((tb bs e q) - 48)])) = bU f 34 (.inr (5, [.ref 35, .int tl, .int (nI e), .int (nI (wN bs e q)), .int (nI p), .int (wK bs e p q), .int (wV bs e p q tv)])) := by simp [wN, wK, wV, c48, c64, c95, c108]
          rw [e9]
          exact hQ
        · refine r_aload_n (n := 0) (i := 0) 3 rfl rfl dX5_takeWord_111 ?_
          refine p_get (fs := [.ref 35, .int tl, .int (nI e), .int (nI (q + 1)), .int (nI p), .int tk, .int ((tb bs e q) - 48)]) flX5_54 (by exact bU_s _ _ _) rfl dX5_takeWord_112 ?_
          refine r_bipush (v := 6) (by decide) dX5_takeWord_115 ?_
          refine r_icmp_ge (tgt := 126) (by decide) dX5_takeWord_117 (fun c117 => ?_) (fun c117 => ?_)
          · refine r_sipush (v := 260) (by decide) dX5_takeWord_126 ?_
            refine p_put (fs := [.ref 35, .int tl, .int (nI e), .int (nI (q + 1)), .int (nI p), .int tk, .int ((tb bs e q) - 48)]) (fs' := [.ref 35, .int tl, .int (nI e), .int (nI (q + 1)), .int (nI p), .int 260, .int ((tb bs e q) - 48)]) flX5_35 (by exact bU_s _ _ _) (Nat.le_of_ble_eq_true rfl) (bNf_i _) rfl dX5_takeWord_129 ?_
            refine bV_h (f2 := bU f 34 (.inr (5, [.ref 35, .int tl, .int (nI e), .int (nI (q + 1)), .int (nI p), .int 260, .int ((tb bs e q) - 48)]))) (bU_u _ _ _ _) ?_
            refine r_goto (tgt := 144) (by decide) dX5_takeWord_132 ?_
            refine r_return rfl dX5_takeWord_144 ?_
            have e9 : bU f 34 (.inr (5, [.ref 35, .int tl, .int (nI e), .int (nI (q + 1)), .int (nI p), .int 260, .int ((tb bs e q) - 48)])) = bU f 34 (.inr (5, [.ref 35, .int tl, .int (nI e), .int (nI (wN bs e q)), .int (nI p), .int (wK bs e p q), .int (wV bs e p q tv)])) := by simp [wN, wK, wV, c48, c64, c95, c108, c117]
            rw [e9]
            exact hQ
          · refine r_sipush (v := 259) (by decide) dX5_takeWord_120 ?_
            refine r_goto (tgt := 129) (by decide) dX5_takeWord_123 ?_
            refine p_put (fs := [.ref 35, .int tl, .int (nI e), .int (nI (q + 1)), .int (nI p), .int tk, .int ((tb bs e q) - 48)]) (fs' := [.ref 35, .int tl, .int (nI e), .int (nI (q + 1)), .int (nI p), .int 259, .int ((tb bs e q) - 48)]) flX5_35 (by exact bU_s _ _ _) (Nat.le_of_ble_eq_true rfl) (bNf_i _) rfl dX5_takeWord_129 ?_
            refine bV_h (f2 := bU f 34 (.inr (5, [.ref 35, .int tl, .int (nI e), .int (nI (q + 1)), .int (nI p), .int 259, .int ((tb bs e q) - 48)]))) (bU_u _ _ _ _) ?_
            refine r_goto (tgt := 144) (by decide) dX5_takeWord_132 ?_
            refine r_return rfl dX5_takeWord_144 ?_
            have e9 : bU f 34 (.inr (5, [.ref 35, .int tl, .int (nI e), .int (nI (q + 1)), .int (nI p), .int 259, .int ((tb bs e q) - 48)])) = bU f 34 (.inr (5, [.ref 35, .int tl, .int (nI e), .int (nI (wN bs e q)), .int (nI p), .int (wK bs e p q), .int (wV bs e p q tv)])) := by simp [wN, wK, wV, c48, c64, c95, c108, c117]
            rw [e9]
            exact hQ
    · have c64 : ¬ (q - p) ≤ 8 := fun h7 => c64 ((nI_leI (a := (q - p)) (b := 8) (by omega) (by omega)).mpr h7)
      refine r_aload_n (n := 0) (i := 0) 3 rfl rfl dX5_takeWord_67 ?_
      refine r_sipush (v := 257) (by decide) dX5_takeWord_68 ?_
      refine p_put (fs := [.ref 35, .int tl, .int (nI e), .int (nI (q + 1)), .int (nI p), .int tk, .int tv]) (fs' := [.ref 35, .int tl, .int (nI e), .int (nI (q + 1)), .int (nI p), .int 257, .int tv]) flX5_35 (by exact bU_s _ _ _) (Nat.le_of_ble_eq_true rfl) (bNf_i _) rfl dX5_takeWord_71 ?_
      refine bV_h (f2 := bU f 34 (.inr (5, [.ref 35, .int tl, .int (nI e), .int (nI (q + 1)), .int (nI p), .int 257, .int tv]))) (bU_u _ _ _ _) ?_
      refine r_goto (tgt := 144) (by decide) dX5_takeWord_74 ?_
      refine r_return rfl dX5_takeWord_144 ?_
      have e9 : bU f 34 (.inr (5, [.ref 35, .int tl, .int (nI e), .int (nI (q + 1)), .int (nI p), .int 257, .int tv])) = bU f 34 (.inr (5, [.ref 35, .int tl, .int (nI e), .int (nI (wN bs e q)), .int (nI p), .int (wK bs e p q), .int (wV bs e p q tv)])) := by simp [wN, wK, wV, c48, c64]
      rw [e9]
      exact hQ
set_option maxRecDepth 4000 in
theorem kX5_takeWord {O : bO} {d : Nat} {f : bF} {n s : Nat} {tl : Int32} {tn : Int32} {tk : Int32} {tv : Int32} {e : Nat} {p : Nat} {bs : Nat → Int32} (h0 : f 34 = some (.inr (5, [.ref 35, .int tl, .int (nI e), .int tn, .int (nI p), .int tk, .int tv]))) (h1 : f 35 = some (.inl (0, 300, .inl bs))) (e0 : e ≤ 300) (e1 : p ≤ 300) (hd : 6 ≤ d) : bMt O mX5_takeWord d [.ref 34] (f, n, s) (.inl none) (bU f 34 (.inr (5, [.ref 35, .int tl, .int (nI e), .int (nI (wN bs e (lets bs e 300 p))), .int (nI p), .int (wK bs e p (lets bs e 300 p)), .int (wV bs e p (lets bs e 300 p) tv)])), n, s) := by
  refine bMt_of (bCall_of (by decide) rfl (Nat.le_of_ble_eq_true rfl) ?_)
  show bV O _ d 0 [(0, .ref 34)] [] (f, n, s) _
  refine r_aload_n (n := 0) (i := 0) 0 rfl rfl dX5_takeWord_0 ?_
  refine p_get (fs := [.ref 35, .int tl, .int (nI e), .int tn, .int (nI p), .int tk, .int tv]) flX5_28 h0 rfl dX5_takeWord_1 ?_
  refine r_istore_n (n := 1) (i := 1) (L' := [(1, .int (nI p)), (0, .ref 34)]) rfl dX5_takeWord_4 (by decide) rfl ?_
  exact lp_tw h0 h1 e0 e1 (by omega) 300 p (by omega) e1 (st_tw2 h0 h1 e0 e1 (by have := lets_ge bs e 300 p; omega) (lets_ge bs e 300 p).1 ⟨rfl, rfl⟩ (by omega))
theorem st_tn {O : bO} {d : Nat} {f : bF} {n s : Nat} {Q : bR → bG → Prop} {tl : Int32} {tn : Int32} {tk : Int32} {tv : Int32} {e : Nat} {p : Nat} {bs : Nat → Int32} {q : Nat} {x : Int32} (h0 : f 34 = some (.inr (5, [.ref 35, .int tl, .int (nI e), .int tn, .int (nI p), .int tk, .int tv]))) (h1 : f 35 = some (.inl (0, 300, .inl bs))) (e0 : e ≤ 300) (e1 : p ≤ 300) (e2 : q ≤ 300) (hx : jDigit (tb bs e q) = false → bV O mX5_takeWhole d 46 [(2, .int (nI q)), (1, .int x), (0, .ref 34)] [] (f, n, s) Q) (hn : q < e → jDigit (tb bs e q) = true → bV O mX5_takeWhole d 7 [(2, .int (nI (q + 1))), (1, .int (x * 10 + tb bs e q - 48)), (0, .ref 34)] [] (f, n, s) Q) (hd : 1 ≤ d) : bV O mX5_takeWhole d 7 [(2, .int (nI q)), (1, .int x), (0, .ref 34)] [] (f, n, s) Q := by
  refine r_iload_n (n := 2) (i := 2) 0 rfl rfl dX5_takeWhole_7 ?_
  refine r_aload_n (n := 0) (i := 0) 2 rfl rfl dX5_takeWhole_8 ?_
  refine p_get (fs := [.ref 35, .int tl, .int (nI e), .int tn, .int (nI p), .int tk, .int tv]) flX5_19 h0 rfl dX5_takeWhole_9 ?_
  refine r_icmp_ge (tgt := 46) (by decide) dX5_takeWhole_12 (fun c12 => ?_) (fun c12 => ?_)
  · have c12 : e ≤ q := (nI_leI (a := e) (b := q) (by omega) (by omega)).mp c12
    exact hx (jD_out (by omega))
  · have c12 : ¬ e ≤ q := fun h7 => c12 ((nI_leI (a := e) (b := q) (by omega) (by omega)).mpr h7)
    refine r_aload_n (n := 0) (i := 0) 2 rfl rfl dX5_takeWhole_15 ?_
    refine r_iload_n (n := 2) (i := 2) 0 rfl rfl dX5_takeWhole_16 ?_
    refine p_callV (As := [.int (nI q)]) (rest := []) (kX5_byteAt (O := O) (d := 0) (f := f) (n := n) (s := s) (tl := tl) (tn := tn) (tk := tk) (tv := tv) (e := e) (tp := nI p) (bs := bs) (a := q) h0 h1 e0 (by omega) (Nat.le_refl _)).call rfl lkX5_31 imX5_byteAt seX5_byteAt rfl h0 rfl rfl (by omega) (Nat.le_of_ble_eq_true rfl) dX5_takeWhole_17 (fun v9 G9 h9 => ?_) (fun q9 G9 h9 => (by cases h9.1))
    obtain ⟨h8, rfl⟩ := h9; cases h8
    show bV O _ d 20 [(2, .int (nI q)), (1, .int x), (0, .ref 34)] [.int (tb bs e q)] (f, n, s) _
    refine p_callS (As := [.int (tb bs e q)]) (rest := []) (kX5_isDigit (O := O) (d := 0) (f := f) (n := n) (s := s) (x := tb bs e q)   (Nat.le_refl _)).call rfl lkX5_45 smX5_isDigit rfl rfl (by omega) (Nat.le_of_ble_eq_true rfl) dX5_takeWhole_20 (fun v9 G9 h9 => ?_) (fun q9 G9 h9 => (by cases h9.1))
    obtain ⟨h8, rfl⟩ := h9; cases h8
    show bV O _ d 23 [(2, .int (nI q)), (1, .int x), (0, .ref 34)] [.int (bI (jDigit (tb bs e q)))] (f, n, s) _
    refine r_if_eq (tgt := 46) (by decide) dX5_takeWhole_23 (fun c23 => ?_) (fun c23 => ?_)
    · have c23 := bI_0.mp c23
      exact hx c23
    · have c23 := bI_1.mp c23
      refine r_iload_n (n := 1) (i := 1) 1 rfl rfl dX5_takeWhole_26 ?_
      refine r_bipush (v := 10) (by decide) dX5_takeWhole_27 ?_
      refine r_imul dX5_takeWhole_29 ?_
      refine r_aload_n (n := 0) (i := 0) 2 rfl rfl dX5_takeWhole_30 ?_
      refine r_iload_n (n := 2) (i := 2) 0 rfl rfl dX5_takeWhole_31 ?_
      refine p_callV (As := [.int (nI q)]) (rest := [.int (x * 10)]) (kX5_byteAt (O := O) (d := 0) (f := f) (n := n) (s := s) (tl := tl) (tn := tn) (tk := tk) (tv := tv) (e := e) (tp := nI p) (bs := bs) (a := q) h0 h1 e0 (by omega) (Nat.le_refl _)).call rfl lkX5_31 imX5_byteAt seX5_byteAt rfl h0 rfl rfl (by omega) (Nat.le_of_ble_eq_true rfl) dX5_takeWhole_32 (fun v9 G9 h9 => ?_) (fun q9 G9 h9 => (by cases h9.1))
      obtain ⟨h8, rfl⟩ := h9; cases h8
      show bV O _ d 35 [(2, .int (nI q)), (1, .int x), (0, .ref 34)] [.int (tb bs e q), .int (x * 10)] (f, n, s) _
      refine r_iadd dX5_takeWhole_35 ?_
      refine r_bipush (v := 48) (by decide) dX5_takeWhole_36 ?_
      refine r_isub dX5_takeWhole_38 ?_
      refine r_istore_n (n := 1) (i := 1) (L' := [(1, .int (((x * 10) + (tb bs e q)) - 48)), (2, .int (nI q)), (0, .ref 34)]) rfl dX5_takeWhole_39 (by decide) rfl ?_
      refine r_iinc (i := 2) (v := nI (q + 1)) (L' := [(2, .int (nI (q + 1))), (1, .int (((x * 10) + (tb bs e q)) - 48)), (0, .ref 34)]) 1 rfl (nI_inc1 q) dX5_takeWhole_40 (by decide) rfl ?_
      refine r_goto (tgt := 7) (by decide) dX5_takeWhole_43 ?_
      exact hn (by omega) c23
theorem lp_tn {O : bO} {d : Nat} {f : bF} {n s : Nat} {Q : bR → bG → Prop} {tl tn tk tv : Int32} {e p : Nat} {bs : Nat → Int32} (h0 : f 34 = some (.inr (5, [.ref 35, .int tl, .int (nI e), .int tn, .int (nI p), .int tk, .int tv]))) (h1 : f 35 = some (.inl (0, 300, .inl bs))) (e0 : e ≤ 300) (e1 : p ≤ 300) (hd : 1 ≤ d) : ∀ (k q : Nat) (x : Int32), e ≤ q + k → q ≤ 300 → bV O mX5_takeWhole d 46 [(2, .int (nI (digs bs e k q))), (1, .int (nacc bs e k q x)), (0, .ref 34)] [] (f, n, s) Q → bV O mX5_takeWhole d 7 [(2, .int (nI q)), (1, .int x), (0, .ref 34)] [] (f, n, s) Q := by
  intro k
  induction k with
  | zero =>
    intro q x hq h3 K
    exact st_tn h0 h1 e0 e1 h3 (fun _ => K) (fun h => absurd h (by omega)) hd
  | succ k ih =>
    intro q x hq h3 K
    exact st_tn h0 h1 e0 e1 h3 (fun h => by simpa [digs, nacc, h] using K) (fun h1 h2 => ih (q + 1) _ (by omega) (by omega) (by simpa [digs, nacc, h2] using K)) hd
theorem st_tn2 {O : bO} {d : Nat} {f : bF} {n s : Nat} {Q : bR → bG → Prop} {tl : Int32} {tn : Int32} {tk : Int32} {tv : Int32} {e : Nat} {p : Nat} {bs : Nat → Int32} {q : Nat} {x : Int32} (h0 : f 34 = some (.inr (5, [.ref 35, .int tl, .int (nI e), .int tn, .int (nI p), .int tk, .int tv]))) (h1 : f 35 = some (.inl (0, 300, .inl bs))) (e0 : e ≤ 300) (e1 : p ≤ 300) (e2 : q ≤ 300) (e3 : p ≤ q) (hQ : Q (.inl none) (bU f 34 (.inr (5, [.ref 35, .int tl, .int (nI e), .int (nI q), .int (nI p), .int (if q - p ≤ 4 then 258 else 257), .int x])), n, s)) (hd : 0 ≤ d) : bV O mX5_takeWhole d 46 [(2, .int (nI q)), (1, .int x), (0, .ref 34)] [] (f, n, s) Q := by
  refine r_aload_n (n := 0) (i := 0) 2 rfl rfl dX5_takeWhole_46 ?_
  refine r_iload_n (n := 2) (i := 2) 0 rfl rfl dX5_takeWhole_47 ?_
  refine p_put (fs := [.ref 35, .int tl, .int (nI e), .int tn, .int (nI p), .int tk, .int tv]) (fs' := [.ref 35, .int tl, .int (nI e), .int (nI q), .int (nI p), .int tk, .int tv]) flX5_22 h0 (Nat.le_of_ble_eq_true rfl) (bNf_i _) rfl dX5_takeWhole_48 ?_
  refine r_aload_n (n := 0) (i := 0) 2 rfl rfl dX5_takeWhole_51 ?_
  refine r_iload_n (n := 1) (i := 1) 1 rfl rfl dX5_takeWhole_52 ?_
  refine p_put (fs := [.ref 35, .int tl, .int (nI e), .int (nI q), .int (nI p), .int tk, .int tv]) (fs' := [.ref 35, .int tl, .int (nI e), .int (nI q), .int (nI p), .int tk, .int x]) flX5_54 (by exact bU_s _ _ _) (Nat.le_of_ble_eq_true rfl) (bNf_i _) rfl dX5_takeWhole_53 ?_
  refine bV_h (f2 := bU f 34 (.inr (5, [.ref 35, .int tl, .int (nI e), .int (nI q), .int (nI p), .int tk, .int x]))) (bU_u _ _ _ _) ?_
  refine r_aload_n (n := 0) (i := 0) 2 rfl rfl dX5_takeWhole_56 ?_
  refine r_iload_n (n := 2) (i := 2) 0 rfl rfl dX5_takeWhole_57 ?_
  refine r_aload_n (n := 0) (i := 0) 2 rfl rfl dX5_takeWhole_58 ?_
  refine p_get (fs := [.ref 35, .int tl, .int (nI e), .int (nI q), .int (nI p), .int tk, .int x]) flX5_28 (by exact bU_s _ _ _) rfl dX5_takeWhole_59 ?_
  refine r_isubE (v := nI (q - p)) (pk_sub (by omega)) dX5_takeWhole_62 ?_
  refine r_iconst (v := 4) (by decide) dX5_takeWhole_63 ?_
  refine r_icmp_le (tgt := 73) (by decide) dX5_takeWhole_64 (fun c64 => ?_) (fun c64 => ?_)
  · have c64 : (q - p) ≤ 4 := (nI_leI (a := (q - p)) (b := 4) (by omega) (by omega)).mp c64
    refine r_sipush (v := 258) (by decide) dX5_takeWhole_73 ?_
    refine p_put (fs := [.ref 35, .int tl, .int (nI e), .int (nI q), .int (nI p), .int tk, .int x]) (fs' := [.ref 35, .int tl, .int (nI e), .int (nI q), .int (nI p), .int 258, .int x]) flX5_35 (by exact bU_s _ _ _) (Nat.le_of_ble_eq_true rfl) (bNf_i _) rfl dX5_takeWhole_76 ?_
    refine bV_h (f2 := bU f 34 (.inr (5, [.ref 35, .int tl, .int (nI e), .int (nI q), .int (nI p), .int 258, .int x]))) (bU_u _ _ _ _) ?_
    refine r_return rfl dX5_takeWhole_79 ?_
    have e9 : bU f 34 (.inr (5, [.ref 35, .int tl, .int (nI e), .int (nI q), .int (nI p), .int 258, .int x])) = bU f 34 (.inr (5, [.ref 35, .int tl, .int (nI e), .int (nI q), .int (nI p), .int (if q - p ≤ 4 then 258 else 257), .int x])) := by simp [c64]
    rw [e9]
    exact hQ
  · have c64 : ¬ (q - p) ≤ 4 := fun h7 => c64 ((nI_leI (a := (q - p)) (b := 4) (by omega) (by omega)).mpr h7)
    refine r_sipush (v := 257) (by decide) dX5_takeWhole_67 ?_
    refine r_goto (tgt := 76) (by decide) dX5_takeWhole_70 ?_
    refine p_put (fs := [.ref 35, .int tl, .int (nI e), .int (nI q), .int (nI p), .int tk, .int x]) (fs' := [.ref 35, .int tl, .int (nI e), .int (nI q), .int (nI p), .int 257, .int x]) flX5_35 (by exact bU_s _ _ _) (Nat.le_of_ble_eq_true rfl) (bNf_i _) rfl dX5_takeWhole_76 ?_
    refine bV_h (f2 := bU f 34 (.inr (5, [.ref 35, .int tl, .int (nI e), .int (nI q), .int (nI p), .int 257, .int x]))) (bU_u _ _ _ _) ?_
    refine r_return rfl dX5_takeWhole_79 ?_
    have e9 : bU f 34 (.inr (5, [.ref 35, .int tl, .int (nI e), .int (nI q), .int (nI p), .int 257, .int x])) = bU f 34 (.inr (5, [.ref 35, .int tl, .int (nI e), .int (nI q), .int (nI p), .int (if q - p ≤ 4 then 258 else 257), .int x])) := by simp [c64]
    rw [e9]
    exact hQ
set_option maxRecDepth 4000 in
theorem kX5_takeWhole {O : bO} {d : Nat} {f : bF} {n s : Nat} {tl : Int32} {tn : Int32} {tk : Int32} {tv : Int32} {e : Nat} {p : Nat} {bs : Nat → Int32} (h0 : f 34 = some (.inr (5, [.ref 35, .int tl, .int (nI e), .int tn, .int (nI p), .int tk, .int tv]))) (h1 : f 35 = some (.inl (0, 300, .inl bs))) (e0 : e ≤ 300) (e1 : p ≤ 300) (hd : 1 ≤ d) : bMt O mX5_takeWhole d [.ref 34] (f, n, s) (.inl none) (bU f 34 (.inr (5, [.ref 35, .int tl, .int (nI e), .int (nI (digs bs e 300 p)), .int (nI p), .int (if digs bs e 300 p - p ≤ 4 then 258 else 257), .int (nacc bs e 300 p 0)])), n, s) := by
  refine bMt_of (bCall_of (by decide) rfl (Nat.le_of_ble_eq_true rfl) ?_)
  show bV O _ d 0 [(0, .ref 34)] [] (f, n, s) _
  refine r_iconst (v := 0) (by decide) dX5_takeWhole_0 ?_
  refine r_istore_n (n := 1) (i := 1) (L' := [(1, .int 0), (0, .ref 34)]) rfl dX5_takeWhole_1 (by decide) rfl ?_
  refine r_aload_n (n := 0) (i := 0) 1 rfl rfl dX5_takeWhole_2 ?_
  refine p_get (fs := [.ref 35, .int tl, .int (nI e), .int tn, .int (nI p), .int tk, .int tv]) flX5_28 h0 rfl dX5_takeWhole_3 ?_
  refine r_istore_n (n := 2) (i := 2) (L' := [(2, .int (nI p)), (1, .int 0), (0, .ref 34)]) rfl dX5_takeWhole_6 (by decide) rfl ?_
  exact lp_tn h0 h1 e0 e1 (by omega) 300 p 0 (by omega) e1 (st_tn2 h0 h1 e0 e1 (by have := digs_ge bs e 300 p; omega) (digs_ge bs e 300 p).1 ⟨rfl, rfl⟩ (by omega))
/-- the token from q on: its place, kind, number, and what comes behind it -/
def tkP (bs : Nat → Int32) (e q : Nat) : Nat := skp bs e 300 q
def tkK (bs : Nat → Int32) (e p : Nat) : Int32 := if tb bs e p = -1 then 256 else if jLetter (tb bs e p) then wK bs e p (lets bs e 300 p) else if jDigit (tb bs e p) then (if digs bs e 300 p - p ≤ 4 then 258 else 257) else if jSign (tb bs e p) then tb bs e p else 257
def tkV (bs : Nat → Int32) (e p : Nat) (old : Int32) : Int32 := if tb bs e p = -1 then old else if jLetter (tb bs e p) then wV bs e p (lets bs e 300 p) old else if jDigit (tb bs e p) then nacc bs e 300 p 0 else old
def tkN (bs : Nat → Int32) (e p : Nat) : Nat := if tb bs e p = -1 then p else if jLetter (tb bs e p) then wN bs e (lets bs e 300 p) else if jDigit (tb bs e p) then digs bs e 300 p else p + 1
theorem st_ad {O : bO} {d : Nat} {f : bF} {n s : Nat} {Q : bR → bG → Prop} {tl : Int32} {tn : Int32} {tk : Int32} {tv : Int32} {e : Nat} {bs : Nat → Int32} {q : Nat} (h1 : f 35 = some (.inl (0, 300, .inl bs))) (e0 : e ≤ 300) (e2 : q ≤ 300) (hx : ¬ tb bs e q = 32 → bV O mX5_advance d 45 [(0, .ref 34)] [] (bU f 34 (.inr (5, [.ref 35, .int tl, .int (nI e), .int tn, .int (nI q), .int tk, .int tv])), n, s) Q) (hn : q < e → tb bs e q = 32 → bV O mX5_advance d 8 [(0, .ref 34)] [] (bU f 34 (.inr (5, [.ref 35, .int tl, .int (nI e), .int tn, .int (nI (q + 1)), .int tk, .int tv])), n, s) Q) (hd : 1 ≤ d) : bV O mX5_advance d 8 [(0, .ref 34)] [] (bU f 34 (.inr (5, [.ref 35, .int tl, .int (nI e), .int tn, .int (nI q), .int tk, .int tv])), n, s) Q := by
  refine r_aload_n (n := 0) (i := 0) 0 rfl rfl dX5_advance_8 ?_
  refine p_get (fs := [.ref 35, .int tl, .int (nI e), .int tn, .int (nI q), .int tk, .int tv]) flX5_28 (by exact bU_s _ _ _) rfl dX5_advance_9 ?_
  refine r_aload_n (n := 0) (i := 0) 0 rfl rfl dX5_advance_12 ?_
  refine p_get (fs := [.ref 35, .int tl, .int (nI e), .int tn, .int (nI q), .int tk, .int tv]) flX5_19 (by exact bU_s _ _ _) rfl dX5_advance_13 ?_
  refine r_icmp_ge (tgt := 45) (by decide) dX5_advance_16 (fun c16 => ?_) (fun c16 => ?_)
  · have c16 : e ≤ q := (nI_leI (a := e) (b := q) (by omega) (by omega)).mp c16
    exact hx (tb_32 (by omega))
  · have c16 : ¬ e ≤ q := fun h7 => c16 ((nI_leI (a := e) (b := q) (by omega) (by omega)).mpr h7)
    refine r_aload_n (n := 0) (i := 0) 0 rfl rfl dX5_advance_19 ?_
    refine r_aload_n (n := 0) (i := 0) 0 rfl rfl dX5_advance_20 ?_
    refine p_get (fs := [.ref 35, .int tl, .int (nI e), .int tn, .int (nI q), .int tk, .int tv]) flX5_28 (by exact bU_s _ _ _) rfl dX5_advance_21 ?_
    refine p_callV (As := [.int (nI q)]) (rest := []) (kX5_byteAt (O := O) (d := 0) (f := bU f 34 (.inr (5, [.ref 35, .int tl, .int (nI e), .int tn, .int (nI q), .int tk, .int tv]))) (n := n) (s := s) (tl := tl) (tn := tn) (tk := tk) (tv := tv) (e := e) (tp := nI q) (bs := bs) (a := q) (by exact bU_s _ _ _) (by exact ((bU_n (by decide)).trans (h1))) e0 (by omega) (Nat.le_refl _)).call rfl lkX5_31 imX5_byteAt seX5_byteAt rfl (by exact bU_s _ _ _) rfl rfl (by omega) (Nat.le_of_ble_eq_true rfl) dX5_advance_24 (fun v9 G9 h9 => ?_) (fun q9 G9 h9 => (by cases h9.1))
    obtain ⟨h8, rfl⟩ := h9; cases h8
    show bV O _ d 27 [(0, .ref 34)] [.int (tb bs e q)] (bU f 34 (.inr (5, [.ref 35, .int tl, .int (nI e), .int tn, .int (nI q), .int tk, .int tv])), n, s) _
    refine r_bipush (v := 32) (by decide) dX5_advance_27 ?_
    refine r_icmp_ne (tgt := 45) (by decide) dX5_advance_29 (fun c29 => ?_) (fun c29 => ?_)
    · exact hx c29
    · refine r_aload_n (n := 0) (i := 0) 0 rfl rfl dX5_advance_32 ?_
      refine r_dup rfl dX5_advance_33 ?_
      refine p_get (fs := [.ref 35, .int tl, .int (nI e), .int tn, .int (nI q), .int tk, .int tv]) flX5_28 (by exact bU_s _ _ _) rfl dX5_advance_34 ?_
      refine r_iconst (v := 1) (by decide) dX5_advance_37 ?_
      refine r_iaddE (v := nI (q + 1)) (nI_add q 1) dX5_advance_38 ?_
      refine p_put (fs := [.ref 35, .int tl, .int (nI e), .int tn, .int (nI q), .int tk, .int tv]) (fs' := [.ref 35, .int tl, .int (nI e), .int tn, .int (nI (q + 1)), .int tk, .int tv]) flX5_28 (by exact bU_s _ _ _) (Nat.le_of_ble_eq_true rfl) (bNf_i _) rfl dX5_advance_39 ?_
      refine bV_h (f2 := bU f 34 (.inr (5, [.ref 35, .int tl, .int (nI e), .int tn, .int (nI (q + 1)), .int tk, .int tv]))) (bU_u _ _ _ _) ?_
      refine r_goto (tgt := 8) (by decide) dX5_advance_42 ?_
      exact hn (by omega) c29
theorem lp_ad {O : bO} {d : Nat} {f : bF} {n s : Nat} {Q : bR → bG → Prop} {tl tn tk tv : Int32} {e : Nat} {bs : Nat → Int32} (h1 : f 35 = some (.inl (0, 300, .inl bs))) (e0 : e ≤ 300) (hd : 1 ≤ d) : ∀ k q : Nat, e ≤ q + k → q ≤ 300 → bV O mX5_advance d 45 [(0, .ref 34)] [] (bU f 34 (.inr (5, [.ref 35, .int tl, .int (nI e), .int tn, .int (nI (skp bs e k q)), .int tk, .int tv])), n, s) Q → bV O mX5_advance d 8 [(0, .ref 34)] [] (bU f 34 (.inr (5, [.ref 35, .int tl, .int (nI e), .int tn, .int (nI q), .int tk, .int tv])), n, s) Q := by
  intro k
  induction k with
  | zero =>
    intro q hq h3 K
    exact st_ad h1 e0 h3 (fun _ => K) (fun h => absurd h (by omega)) hd
  | succ k ih =>
    intro q hq h3 K
    exact st_ad h1 e0 h3 (fun h => by simpa [skp, h] using K) (fun h1 h2 => ih (q + 1) (by omega) (by omega) (by simpa [skp, h2] using K)) hd
theorem st_ad2 {O : bO} {d : Nat} {f : bF} {n s : Nat} {Q : bR → bG → Prop} {tl : Int32} {tn : Int32} {tk : Int32} {tv : Int32} {e : Nat} {p : Nat} {bs : Nat → Int32} (h1 : f 35 = some (.inl (0, 300, .inl bs))) (e0 : e ≤ 300) (e1 : p ≤ 300) (hQ : Q (.inl none) (bU f 34 (.inr (5, [.ref 35, .int tl, .int (nI e), .int (nI (tkN bs e p)), .int (nI p), .int (tkK bs e p), .int (tkV bs e p tv)])), n, s)) (hd : 7 ≤ d) : bV O mX5_advance d 45 [(0, .ref 34)] [] (bU f 34 (.inr (5, [.ref 35, .int tl, .int (nI e), .int tn, .int (nI p), .int tk, .int tv])), n, s) Q := by
  refine r_aload_n (n := 0) (i := 0) 0 rfl rfl dX5_advance_45 ?_
  refine r_aload_n (n := 0) (i := 0) 0 rfl rfl dX5_advance_46 ?_
  refine p_get (fs := [.ref 35, .int tl, .int (nI e), .int tn, .int (nI p), .int tk, .int tv]) flX5_28 (by exact bU_s _ _ _) rfl dX5_advance_47 ?_
  refine p_callV (As := [.int (nI p)]) (rest := []) (kX5_byteAt (O := O) (d := 0) (f := bU f 34 (.inr (5, [.ref 35, .int tl, .int (nI e), .int tn, .int (nI p), .int tk, .int tv]))) (n := n) (s := s) (tl := tl) (tn := tn) (tk := tk) (tv := tv) (e := e) (tp := nI p) (bs := bs) (a := p) (by exact bU_s _ _ _) (by exact ((bU_n (by decide)).trans (h1))) e0 (by omega) (Nat.le_refl _)).call rfl lkX5_31 imX5_byteAt seX5_byteAt rfl (by exact bU_s _ _ _) rfl rfl (by omega) (Nat.le_of_ble_eq_true rfl) dX5_advance_50 (fun v9 G9 h9 => ?_) (fun q9 G9 h9 => (by cases h9.1))
  obtain ⟨h8, rfl⟩ := h9; cases h8
  show bV O _ d 53 [(0, .ref 34)] [.int (tb bs e p)] (bU f 34 (.inr (5, [.ref 35, .int tl, .int (nI e), .int tn, .int (nI p), .int tk, .int tv])), n, s) _
  refine r_istore_n (n := 1) (i := 1) (L' := [(1, .int (tb bs e p)), (0, .ref 34)]) rfl dX5_advance_53 (by decide) rfl ?_
  refine r_iload_n (n := 1) (i := 1) 0 rfl rfl dX5_advance_54 ?_
  refine r_iconst (v := (-1)) (by decide) dX5_advance_55 ?_
  refine r_icmp_ne (tgt := 77) (by decide) dX5_advance_56 (fun c56 => ?_) (fun c56 => ?_)
  · refine r_iload_n (n := 1) (i := 1) 0 rfl rfl dX5_advance_77 ?_
    refine p_callS (As := [.int (tb bs e p)]) (rest := []) (kX5_isLetter (O := O) (d := 0) (f := bU f 34 (.inr (5, [.ref 35, .int tl, .int (nI e), .int tn, .int (nI p), .int tk, .int tv]))) (n := n) (s := s) (x := tb bs e p)   (Nat.le_refl _)).call rfl lkX5_38 smX5_isLetter rfl rfl (by omega) (Nat.le_of_ble_eq_true rfl) dX5_advance_78 (fun v9 G9 h9 => ?_) (fun q9 G9 h9 => (by cases h9.1))
    obtain ⟨h8, rfl⟩ := h9; cases h8
    show bV O _ d 81 [(1, .int (tb bs e p)), (0, .ref 34)] [.int (bI (jLetter (tb bs e p)))] (bU f 34 (.inr (5, [.ref 35, .int tl, .int (nI e), .int tn, .int (nI p), .int tk, .int tv])), n, s) _
    refine r_if_eq (tgt := 91) (by decide) dX5_advance_81 (fun c81 => ?_) (fun c81 => ?_)
    · have c81 := bI_0.mp c81
      refine r_iload_n (n := 1) (i := 1) 0 rfl rfl dX5_advance_91 ?_
      refine p_callS (As := [.int (tb bs e p)]) (rest := []) (kX5_isDigit (O := O) (d := 0) (f := bU f 34 (.inr (5, [.ref 35, .int tl, .int (nI e), .int tn, .int (nI p), .int tk, .int tv]))) (n := n) (s := s) (x := tb bs e p)   (Nat.le_refl _)).call rfl lkX5_45 smX5_isDigit rfl rfl (by omega) (Nat.le_of_ble_eq_true rfl) dX5_advance_92 (fun v9 G9 h9 => ?_) (fun q9 G9 h9 => (by cases h9.1))
      obtain ⟨h8, rfl⟩ := h9; cases h8
      show bV O _ d 95 [(1, .int (tb bs e p)), (0, .ref 34)] [.int (bI (jDigit (tb bs e p)))] (bU f 34 (.inr (5, [.ref 35, .int tl, .int (nI e), .int tn, .int (nI p), .int tk, .int tv])), n, s) _
      refine r_if_eq (tgt := 105) (by decide) dX5_advance_95 (fun c95 => ?_) (fun c95 => ?_)
      · have c95 := bI_0.mp c95
        refine r_aload_n (n := 0) (i := 0) 1 rfl rfl dX5_advance_105 ?_
        refine r_iload_n (n := 1) (i := 1) 0 rfl rfl dX5_advance_106 ?_
        refine p_callS (As := [.int (tb bs e p)]) (rest := [.ref 34]) (kX5_isSign (O := O) (d := 0) (f := bU f 34 (.inr (5, [.ref 35, .int tl, .int (nI e), .int tn, .int (nI p), .int tk, .int tv]))) (n := n) (s := s) (x := tb bs e p)   (Nat.le_refl _)).call rfl lkX5_51 smX5_isSign rfl rfl (by omega) (Nat.le_of_ble_eq_true rfl) dX5_advance_107 (fun v9 G9 h9 => ?_) (fun q9 G9 h9 => (by cases h9.1))
        obtain ⟨h8, rfl⟩ := h9; cases h8
        show bV O _ d 110 [(1, .int (tb bs e p)), (0, .ref 34)] [.int (bI (jSign (tb bs e p))), .ref 34] (bU f 34 (.inr (5, [.ref 35, .int tl, .int (nI e), .int tn, .int (nI p), .int tk, .int tv])), n, s) _
        refine r_if_eq (tgt := 117) (by decide) dX5_advance_110 (fun c110 => ?_) (fun c110 => ?_)
        · have c110 := bI_0.mp c110
          refine r_sipush (v := 257) (by decide) dX5_advance_117 ?_
          refine p_put (fs := [.ref 35, .int tl, .int (nI e), .int tn, .int (nI p), .int tk, .int tv]) (fs' := [.ref 35, .int tl, .int (nI e), .int tn, .int (nI p), .int 257, .int tv]) flX5_35 (by exact bU_s _ _ _) (Nat.le_of_ble_eq_true rfl) (bNf_i _) rfl dX5_advance_120 ?_
          refine bV_h (f2 := bU f 34 (.inr (5, [.ref 35, .int tl, .int (nI e), .int tn, .int (nI p), .int 257, .int tv]))) (bU_u _ _ _ _) ?_
          refine r_aload_n (n := 0) (i := 0) 1 rfl rfl dX5_advance_123 ?_
          refine r_aload_n (n := 0) (i := 0) 1 rfl rfl dX5_advance_124 ?_
          refine p_get (fs := [.ref 35, .int tl, .int (nI e), .int tn, .int (nI p), .int 257, .int tv]) flX5_28 (by exact bU_s _ _ _) rfl dX5_advance_125 ?_
          refine r_iconst (v := 1) (by decide) dX5_advance_128 ?_
          refine r_iaddE (v := nI (p + 1)) (nI_add p 1) dX5_advance_129 ?_
          refine p_put (fs := [.ref 35, .int tl, .int (nI e), .int tn, .int (nI p), .int 257, .int tv]) (fs' := [.ref 35, .int tl, .int (nI e), .int (nI (p + 1)), .int (nI p), .int 257, .int tv]) flX5_22 (by exact bU_s _ _ _) (Nat.le_of_ble_eq_true rfl) (bNf_i _) rfl dX5_advance_130 ?_
          refine bV_h (f2 := bU f 34 (.inr (5, [.ref 35, .int tl, .int (nI e), .int (nI (p + 1)), .int (nI p), .int 257, .int tv]))) (bU_u _ _ _ _) ?_
          refine r_return rfl dX5_advance_133 ?_
          have e9 : bU f 34 (.inr (5, [.ref 35, .int tl, .int (nI e), .int (nI (p + 1)), .int (nI p), .int 257, .int tv])) = bU f 34 (.inr (5, [.ref 35, .int tl, .int (nI e), .int (nI (tkN bs e p)), .int (nI p), .int (tkK bs e p), .int (tkV bs e p tv)])) := by simp [tkN, tkK, tkV, c56, c81, c95, c110]
          rw [e9]
          exact hQ
        · have c110 := bI_1.mp c110
          refine r_iload_n (n := 1) (i := 1) 0 rfl rfl dX5_advance_113 ?_
          refine r_goto (tgt := 120) (by decide) dX5_advance_114 ?_
          refine p_put (fs := [.ref 35, .int tl, .int (nI e), .int tn, .int (nI p), .int tk, .int tv]) (fs' := [.ref 35, .int tl, .int (nI e), .int tn, .int (nI p), .int (tb bs e p), .int tv]) flX5_35 (by exact bU_s _ _ _) (Nat.le_of_ble_eq_true rfl) (bNf_i _) rfl dX5_advance_120 ?_
          refine bV_h (f2 := bU f 34 (.inr (5, [.ref 35, .int tl, .int (nI e), .int tn, .int (nI p), .int (tb bs e p), .int tv]))) (bU_u _ _ _ _) ?_
          refine r_aload_n (n := 0) (i := 0) 1 rfl rfl dX5_advance_123 ?_
          refine r_aload_n (n := 0) (i := 0) 1 rfl rfl dX5_advance_124 ?_
          refine p_get (fs := [.ref 35, .int tl, .int (nI e), .int tn, .int (nI p), .int (tb bs e p), .int tv]) flX5_28 (by exact bU_s _ _ _) rfl dX5_advance_125 ?_
          refine r_iconst (v := 1) (by decide) dX5_advance_128 ?_
          refine r_iaddE (v := nI (p + 1)) (nI_add p 1) dX5_advance_129 ?_
          refine p_put (fs := [.ref 35, .int tl, .int (nI e), .int tn, .int (nI p), .int (tb bs e p), .int tv]) (fs' := [.ref 35, .int tl, .int (nI e), .int (nI (p + 1)), .int (nI p), .int (tb bs e p), .int tv]) flX5_22 (by exact bU_s _ _ _) (Nat.le_of_ble_eq_true rfl) (bNf_i _) rfl dX5_advance_130 ?_
          refine bV_h (f2 := bU f 34 (.inr (5, [.ref 35, .int tl, .int (nI e), .int (nI (p + 1)), .int (nI p), .int (tb bs e p), .int tv]))) (bU_u _ _ _ _) ?_
          refine r_return rfl dX5_advance_133 ?_
          have e9 : bU f 34 (.inr (5, [.ref 35, .int tl, .int (nI e), .int (nI (p + 1)), .int (nI p), .int (tb bs e p), .int tv])) = bU f 34 (.inr (5, [.ref 35, .int tl, .int (nI e), .int (nI (tkN bs e p)), .int (nI p), .int (tkK bs e p), .int (tkV bs e p tv)])) := by simp [tkN, tkK, tkV, c56, c81, c95, c110]
          rw [e9]
          exact hQ
      · have c95 := bI_1.mp c95
        refine r_aload_n (n := 0) (i := 0) 1 rfl rfl dX5_advance_98 ?_
        refine p_callV (As := []) (rest := []) (kX5_takeWhole (O := O) (d := 1) (f := bU f 34 (.inr (5, [.ref 35, .int tl, .int (nI e), .int tn, .int (nI p), .int tk, .int tv]))) (n := n) (s := s) (tl := tl) (tn := tn) (tk := tk) (tv := tv) (e := e) (p := p) (bs := bs) (by exact bU_s _ _ _) (by exact ((bU_n (by decide)).trans (h1))) e0 e1 (Nat.le_refl _)).call rfl lkX5_48 imX5_takeWhole seX5_takeWhole rfl (by exact bU_s _ _ _) rfl rfl (by omega) (Nat.le_of_ble_eq_true rfl) dX5_advance_99 (fun v9 G9 h9 => ?_) (fun q9 G9 h9 => (by cases h9.1))
        obtain ⟨h8, rfl⟩ := h9; cases h8
        refine bV_h (f2 := bU f 34 (.inr (5, [.ref 35, .int tl, .int (nI e), .int (nI (digs bs e 300 p)), .int (nI p), .int (if digs bs e 300 p - p ≤ 4 then 258 else 257), .int (nacc bs e 300 p 0)]))) (bU_u _ _ _ _) ?_
        show bV O _ d 102 [(1, .int (tb bs e p)), (0, .ref 34)] [] (bU f 34 (.inr (5, [.ref 35, .int tl, .int (nI e), .int (nI (digs bs e 300 p)), .int (nI p), .int (if digs bs e 300 p - p ≤ 4 then 258 else 257), .int (nacc bs e 300 p 0)])), n, s) _
        refine r_goto (tgt := 133) (by decide) dX5_advance_102 ?_
        refine r_return rfl dX5_advance_133 ?_
        have e9 : bU f 34 (.inr (5, [.ref 35, .int tl, .int (nI e), .int (nI (digs bs e 300 p)), .int (nI p), .int (if digs bs e 300 p - p ≤ 4 then 258 else 257), .int (nacc bs e 300 p 0)])) = bU f 34 (.inr (5, [.ref 35, .int tl, .int (nI e), .int (nI (tkN bs e p)), .int (nI p), .int (tkK bs e p), .int (tkV bs e p tv)])) := by simp [tkN, tkK, tkV, c56, c81, c95]
        rw [e9]
        exact hQ
    · have c81 := bI_1.mp c81
      refine r_aload_n (n := 0) (i := 0) 1 rfl rfl dX5_advance_84 ?_
      refine p_callV (As := []) (rest := []) (kX5_takeWord (O := O) (d := 6) (f := bU f 34 (.inr (5, [.ref 35, .int tl, .int (nI e), .int tn, .int (nI p), .int tk, .int tv]))) (n := n) (s := s) (tl := tl) (tn := tn) (tk := tk) (tv := tv) (e := e) (p := p) (bs := bs) (by exact bU_s _ _ _) (by exact ((bU_n (by decide)).trans (h1))) e0 e1 (Nat.le_refl _)).call rfl lkX5_42 imX5_takeWord seX5_takeWord rfl (by exact bU_s _ _ _) rfl rfl (by omega) (Nat.le_of_ble_eq_true rfl) dX5_advance_85 (fun v9 G9 h9 => ?_) (fun q9 G9 h9 => (by cases h9.1))
      obtain ⟨h8, rfl⟩ := h9; cases h8
      refine bV_h (f2 := bU f 34 (.inr (5, [.ref 35, .int tl, .int (nI e), .int (nI (wN bs e (lets bs e 300 p))), .int (nI p), .int (wK bs e p (lets bs e 300 p)), .int (wV bs e p (lets bs e 300 p) tv)]))) (bU_u _ _ _ _) ?_
      show bV O _ d 88 [(1, .int (tb bs e p)), (0, .ref 34)] [] (bU f 34 (.inr (5, [.ref 35, .int tl, .int (nI e), .int (nI (wN bs e (lets bs e 300 p))), .int (nI p), .int (wK bs e p (lets bs e 300 p)), .int (wV bs e p (lets bs e 300 p) tv)])), n, s) _
      refine r_goto (tgt := 133) (by decide) dX5_advance_88 ?_
      refine r_return rfl dX5_advance_133 ?_
      have e9 : bU f 34 (.inr (5, [.ref 35, .int tl, .int (nI e), .int (nI (wN bs e (lets bs e 300 p))), .int (nI p), .int (wK bs e p (lets bs e 300 p)), .int (wV bs e p (lets bs e 300 p) tv)])) = bU f 34 (.inr (5, [.ref 35, .int tl, .int (nI e), .int (nI (tkN bs e p)), .int (nI p), .int (tkK bs e p), .int (tkV bs e p tv)])) := by simp [tkN, tkK, tkV, c56, c81]
      rw [e9]
      exact hQ
  · refine r_aload_n (n := 0) (i := 0) 1 rfl rfl dX5_advance_59 ?_
    refine r_sipush (v := 256) (by decide) dX5_advance_60 ?_
    refine p_put (fs := [.ref 35, .int tl, .int (nI e), .int tn, .int (nI p), .int tk, .int tv]) (fs' := [.ref 35, .int tl, .int (nI e), .int tn, .int (nI p), .int 256, .int tv]) flX5_35 (by exact bU_s _ _ _) (Nat.le_of_ble_eq_true rfl) (bNf_i _) rfl dX5_advance_63 ?_
    refine bV_h (f2 := bU f 34 (.inr (5, [.ref 35, .int tl, .int (nI e), .int tn, .int (nI p), .int 256, .int tv]))) (bU_u _ _ _ _) ?_
    refine r_aload_n (n := 0) (i := 0) 1 rfl rfl dX5_advance_66 ?_
    refine r_aload_n (n := 0) (i := 0) 1 rfl rfl dX5_advance_67 ?_
    refine p_get (fs := [.ref 35, .int tl, .int (nI e), .int tn, .int (nI p), .int 256, .int tv]) flX5_28 (by exact bU_s _ _ _) rfl dX5_advance_68 ?_
    refine p_put (fs := [.ref 35, .int tl, .int (nI e), .int tn, .int (nI p), .int 256, .int tv]) (fs' := [.ref 35, .int tl, .int (nI e), .int (nI p), .int (nI p), .int 256, .int tv]) flX5_22 (by exact bU_s _ _ _) (Nat.le_of_ble_eq_true rfl) (bNf_i _) rfl dX5_advance_71 ?_
    refine bV_h (f2 := bU f 34 (.inr (5, [.ref 35, .int tl, .int (nI e), .int (nI p), .int (nI p), .int 256, .int tv]))) (bU_u _ _ _ _) ?_
    refine r_goto (tgt := 133) (by decide) dX5_advance_74 ?_
    refine r_return rfl dX5_advance_133 ?_
    have e9 : bU f 34 (.inr (5, [.ref 35, .int tl, .int (nI e), .int (nI p), .int (nI p), .int 256, .int tv])) = bU f 34 (.inr (5, [.ref 35, .int tl, .int (nI e), .int (nI (tkN bs e p)), .int (nI p), .int (tkK bs e p), .int (tkV bs e p tv)])) := by simp [tkN, tkK, tkV, c56]
    rw [e9]
    exact hQ
set_option maxRecDepth 4000 in
theorem kX5_advance {O : bO} {d : Nat} {f : bF} {n s : Nat} {tl : Int32} {tk : Int32} {tv : Int32} {tp : Int32} {e : Nat} {q : Nat} {bs : Nat → Int32} (h0 : f 34 = some (.inr (5, [.ref 35, .int tl, .int (nI e), .int (nI q), .int tp, .int tk, .int tv]))) (h1 : f 35 = some (.inl (0, 300, .inl bs))) (e0 : e ≤ 300) (e1 : q ≤ 300) (hd : 7 ≤ d) : bMt O mX5_advance d [.ref 34] (f, n, s) (.inl none) (bU f 34 (.inr (5, [.ref 35, .int tl, .int (nI e), .int (nI (tkN bs e (tkP bs e q))), .int (nI (tkP bs e q)), .int (tkK bs e (tkP bs e q)), .int (tkV bs e (tkP bs e q) tv)])), n, s) := by
  refine bMt_of (bCall_of (by decide) rfl (Nat.le_of_ble_eq_true rfl) ?_)
  show bV O _ d 0 [(0, .ref 34)] [] (f, n, s) _
  refine r_aload_n (n := 0) (i := 0) 0 rfl rfl dX5_advance_0 ?_
  refine r_aload_n (n := 0) (i := 0) 0 rfl rfl dX5_advance_1 ?_
  refine p_get (fs := [.ref 35, .int tl, .int (nI e), .int (nI q), .int tp, .int tk, .int tv]) flX5_22 h0 rfl dX5_advance_2 ?_
  refine p_put (fs := [.ref 35, .int tl, .int (nI e), .int (nI q), .int tp, .int tk, .int tv]) (fs' := [.ref 35, .int tl, .int (nI e), .int (nI q), .int (nI q), .int tk, .int tv]) flX5_28 h0 (Nat.le_of_ble_eq_true rfl) (bNf_i _) rfl dX5_advance_5 ?_
  exact lp_ad h1 e0 (by omega) 300 q (by omega) e1 (st_ad2 h1 e0 (by have := skp_ge bs e 300 q; omega) ⟨rfl, rfl⟩ (by omega))
set_option maxRecDepth 4000 in
theorem kX5_begin {O : bO} {d : Nat} {f : bF} {n s : Nat} {tl : Int32} {te : Int32} {tn : Int32} {tk : Int32} {tv : Int32} {tp : Int32} {e : Nat} {bs : Nat → Int32} (h0 : f 34 = some (.inr (5, [.ref 35, .int tl, .int te, .int tn, .int tp, .int tk, .int tv]))) (h1 : f 35 = some (.inl (0, 300, .inl bs))) (e0 : e ≤ 300) (hd : 8 ≤ d) : bMt O mX5_begin d [.ref 34, .int (nI e)] (f, n, s) (.inl none) (bU f 34 (.inr (5, [.ref 35, .int tl, .int (nI e), .int (nI (tkN bs e (tkP bs e 0))), .int (nI (tkP bs e 0)), .int (tkK bs e (tkP bs e 0)), .int (tkV bs e (tkP bs e 0) tv)])), n, s) := by
  refine bMt_of (bCall_of (by decide) rfl (Nat.le_of_ble_eq_true rfl) ?_)
  show bV O _ d 0 [(0, .ref 34), (1, .int (nI e))] [] (f, n, s) _
  refine r_aload_n (n := 0) (i := 0) 0 rfl rfl dX5_begin_0 ?_
  refine r_iload_n (n := 1) (i := 1) 1 rfl rfl dX5_begin_1 ?_
  refine p_put (fs := [.ref 35, .int tl, .int te, .int tn, .int tp, .int tk, .int tv]) (fs' := [.ref 35, .int tl, .int (nI e), .int tn, .int tp, .int tk, .int tv]) flX5_19 h0 (Nat.le_of_ble_eq_true rfl) (bNf_i _) rfl dX5_begin_2 ?_
  refine r_aload_n (n := 0) (i := 0) 0 rfl rfl dX5_begin_5 ?_
  refine r_iconst (v := 0) (by decide) dX5_begin_6 ?_
  refine p_put (fs := [.ref 35, .int tl, .int (nI e), .int tn, .int tp, .int tk, .int tv]) (fs' := [.ref 35, .int tl, .int (nI e), .int 0, .int tp, .int tk, .int tv]) flX5_22 (by exact bU_s _ _ _) (Nat.le_of_ble_eq_true rfl) (bNf_i _) rfl dX5_begin_7 ?_
  refine bV_h (f2 := bU f 34 (.inr (5, [.ref 35, .int tl, .int (nI e), .int 0, .int tp, .int tk, .int tv]))) (bU_u _ _ _ _) ?_
  refine r_aload_n (n := 0) (i := 0) 0 rfl rfl dX5_begin_10 ?_
  refine p_callV (As := []) (rest := []) (kX5_advance (O := O) (d := 7) (f := bU f 34 (.inr (5, [.ref 35, .int tl, .int (nI e), .int 0, .int tp, .int tk, .int tv]))) (n := n) (s := s) (tl := tl) (tk := tk) (tv := tv) (tp := tp) (e := e) (q := 0) (bs := bs) (by exact bU_s _ _ _) (by exact ((bU_n (by decide)).trans (h1))) (by first | assumption | omega | decide) (by first | assumption | omega | decide) (Nat.le_refl _)).call rfl lkX5_25 imX5_advance seX5_advance rfl (by exact bU_s _ _ _) rfl rfl (by omega) (Nat.le_of_ble_eq_true rfl) dX5_begin_11 (fun v9 G9 h9 => ?_) (fun q9 G9 h9 => (by cases h9.1))
  obtain ⟨h8, rfl⟩ := h9; cases h8
  refine bV_h (f2 := bU f 34 (.inr (5, [.ref 35, .int tl, .int (nI e), .int (nI (tkN bs e (tkP bs e 0))), .int (nI (tkP bs e 0)), .int (tkK bs e (tkP bs e 0)), .int (tkV bs e (tkP bs e 0) tv)]))) (bU_u _ _ _ _) ?_
  show bV O _ d 14 [(0, .ref 34), (1, .int (nI e))] [] (bU f 34 (.inr (5, [.ref 35, .int tl, .int (nI e), .int (nI (tkN bs e (tkP bs e 0))), .int (nI (tkP bs e 0)), .int (tkK bs e (tkP bs e 0)), .int (tkV bs e (tkP bs e 0) tv)])), n, s) _
  refine r_return rfl dX5_begin_14 ?_
  refine ⟨?_, ?_⟩ <;> first | rfl | (simp []; done)
