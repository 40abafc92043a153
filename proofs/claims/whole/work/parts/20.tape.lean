/-! ===== ModelShelf$Tape (printed by wip/gen/tape.py) ===== -/
def jLetter (x : Int32) : Bool := !(decide (x < 97)) && !(decide (122 < x))
def jDigit (x : Int32) : Bool := !(decide (x < 48)) && !(decide (57 < x))
def jSign (x : Int32) : Bool := decide (x = 40) || decide (x = 41) || decide (x = 60) || decide (x = 62) || decide (x = 61) || decide (x = 43) || decide (x = 45) || decide (x = 42) || decide (x = 44)
def jByte (bs : Nat → Int32) (e a : Int32) : Int32 := if a < 0 then -1 else if e ≤ a then -1 else if nI 300 ≤ a then -1 else bs a.toNatClampNeg
/-- a number's byte, by its shift -/
def jSh (v k : Int32) : Int32 := (v.toUInt32 >>> (k.toUInt32 &&& Int32.toUInt32 31)).toInt32 &&& 255
set_option maxRecDepth 4000 in
theorem kX5_isLetter {O : bO} {d : Nat} {f : bF} {n s : Nat} {x : Int32}   (hd : 0 ≤ d) : bMt O mX5_isLetter d [.int x] (f, n, s) (.inl (some (.int (bI (jLetter x))))) (f, n, s) := by
  refine bMt_of (bCall_of (by decide) rfl (Nat.le_of_ble_eq_true rfl) ?_)
  show bV O _ d 0 [(0, .int x)] [] (f, n, s) _
  refine r_iload_n (n := 0) (i := 0) 0 rfl rfl dX5_isLetter_0 ?_
  refine r_bipush (v := 97) (by decide) dX5_isLetter_1 ?_
  refine r_icmp_lt (tgt := 16) (by decide) dX5_isLetter_3 (fun c3 => ?_) (fun c3 => ?_)
  · refine r_iconst (v := 0) (by decide) dX5_isLetter_16 ?_
    refine r_zreturn rfl (by first | decide +kernel | exact narZ _ | assumption) dX5_isLetter_17 ?_
    refine ⟨?_, ?_⟩ <;> first | rfl | (simp [jLetter, bI, c3]; done)
  · refine r_iload_n (n := 0) (i := 0) 0 rfl rfl dX5_isLetter_6 ?_
    refine r_bipush (v := 122) (by decide) dX5_isLetter_7 ?_
    refine r_icmp_gt (tgt := 16) (by decide) dX5_isLetter_9 (fun c9 => ?_) (fun c9 => ?_)
    · refine r_iconst (v := 0) (by decide) dX5_isLetter_16 ?_
      refine r_zreturn rfl (by first | decide +kernel | exact narZ _ | assumption) dX5_isLetter_17 ?_
      refine ⟨?_, ?_⟩ <;> first | rfl | (simp [jLetter, bI, c3, c9]; done)
    · refine r_iconst (v := 1) (by decide) dX5_isLetter_12 ?_
      refine r_goto (tgt := 17) (by decide) dX5_isLetter_13 ?_
      refine r_zreturn rfl (by first | decide +kernel | exact narZ _ | assumption) dX5_isLetter_17 ?_
      refine ⟨?_, ?_⟩ <;> first | rfl | (simp [jLetter, bI, c3, c9]; done)
set_option maxRecDepth 4000 in
theorem kX5_isDigit {O : bO} {d : Nat} {f : bF} {n s : Nat} {x : Int32}   (hd : 0 ≤ d) : bMt O mX5_isDigit d [.int x] (f, n, s) (.inl (some (.int (bI (jDigit x))))) (f, n, s) := by
  refine bMt_of (bCall_of (by decide) rfl (Nat.le_of_ble_eq_true rfl) ?_)
  show bV O _ d 0 [(0, .int x)] [] (f, n, s) _
  refine r_iload_n (n := 0) (i := 0) 0 rfl rfl dX5_isDigit_0 ?_
  refine r_bipush (v := 48) (by decide) dX5_isDigit_1 ?_
  refine r_icmp_lt (tgt := 16) (by decide) dX5_isDigit_3 (fun c3 => ?_) (fun c3 => ?_)
  · refine r_iconst (v := 0) (by decide) dX5_isDigit_16 ?_
    refine r_zreturn rfl (by first | decide +kernel | exact narZ _ | assumption) dX5_isDigit_17 ?_
    refine ⟨?_, ?_⟩ <;> first | rfl | (simp [jDigit, bI, c3]; done)
  · refine r_iload_n (n := 0) (i := 0) 0 rfl rfl dX5_isDigit_6 ?_
    refine r_bipush (v := 57) (by decide) dX5_isDigit_7 ?_
    refine r_icmp_gt (tgt := 16) (by decide) dX5_isDigit_9 (fun c9 => ?_) (fun c9 => ?_)
    · refine r_iconst (v := 0) (by decide) dX5_isDigit_16 ?_
      refine r_zreturn rfl (by first | decide +kernel | exact narZ _ | assumption) dX5_isDigit_17 ?_
      refine ⟨?_, ?_⟩ <;> first | rfl | (simp [jDigit, bI, c3, c9]; done)
    · refine r_iconst (v := 1) (by decide) dX5_isDigit_12 ?_
      refine r_goto (tgt := 17) (by decide) dX5_isDigit_13 ?_
      refine r_zreturn rfl (by first | decide +kernel | exact narZ _ | assumption) dX5_isDigit_17 ?_
      refine ⟨?_, ?_⟩ <;> first | rfl | (simp [jDigit, bI, c3, c9]; done)
set_option maxRecDepth 4000 in
theorem kX5_isSign {O : bO} {d : Nat} {f : bF} {n s : Nat} {x : Int32}   (hd : 0 ≤ d) : bMt O mX5_isSign d [.int x] (f, n, s) (.inl (some (.int (bI (jSign x))))) (f, n, s) := by
  refine bMt_of (bCall_of (by decide) rfl (Nat.le_of_ble_eq_true rfl) ?_)
  show bV O _ d 0 [(0, .int x)] [] (f, n, s) _
  refine r_iload_n (n := 0) (i := 0) 0 rfl rfl dX5_isSign_0 ?_
  refine r_bipush (v := 40) (by decide) dX5_isSign_1 ?_
  refine r_icmp_eq (tgt := 54) (by decide) dX5_isSign_3 (fun c3 => ?_) (fun c3 => ?_)
  · refine r_iconst (v := 1) (by decide) dX5_isSign_54 ?_
    refine r_goto (tgt := 59) (by decide) dX5_isSign_55 ?_
    refine r_zreturn rfl (by first | decide +kernel | exact narZ _ | assumption) dX5_isSign_59 ?_
    refine ⟨?_, ?_⟩ <;> first | rfl | (simp [jSign, bI, c3]; done)
  · refine r_iload_n (n := 0) (i := 0) 0 rfl rfl dX5_isSign_6 ?_
    refine r_bipush (v := 41) (by decide) dX5_isSign_7 ?_
    refine r_icmp_eq (tgt := 54) (by decide) dX5_isSign_9 (fun c9 => ?_) (fun c9 => ?_)
    · refine r_iconst (v := 1) (by decide) dX5_isSign_54 ?_
      refine r_goto (tgt := 59) (by decide) dX5_isSign_55 ?_
      refine r_zreturn rfl (by first | decide +kernel | exact narZ _ | assumption) dX5_isSign_59 ?_
      refine ⟨?_, ?_⟩ <;> first | rfl | (simp [jSign, bI, c3, c9]; done)
    · refine r_iload_n (n := 0) (i := 0) 0 rfl rfl dX5_isSign_12 ?_
      refine r_bipush (v := 60) (by decide) dX5_isSign_13 ?_
      refine r_icmp_eq (tgt := 54) (by decide) dX5_isSign_15 (fun c15 => ?_) (fun c15 => ?_)
      · refine r_iconst (v := 1) (by decide) dX5_isSign_54 ?_
        refine r_goto (tgt := 59) (by decide) dX5_isSign_55 ?_
        refine r_zreturn rfl (by first | decide +kernel | exact narZ _ | assumption) dX5_isSign_59 ?_
        refine ⟨?_, ?_⟩ <;> first | rfl | (simp [jSign, bI, c3, c9, c15]; done)
      · refine r_iload_n (n := 0) (i := 0) 0 rfl rfl dX5_isSign_18 ?_
        refine r_bipush (v := 62) (by decide) dX5_isSign_19 ?_
        refine r_icmp_eq (tgt := 54) (by decide) dX5_isSign_21 (fun c21 => ?_) (fun c21 => ?_)
        · refine r_iconst (v := 1) (by decide) dX5_isSign_54 ?_
          refine r_goto (tgt := 59) (by decide) dX5_isSign_55 ?_
          refine r_zreturn rfl (by first | decide +kernel | exact narZ _ | assumption) dX5_isSign_59 ?_
          refine ⟨?_, ?_⟩ <;> first | rfl | (simp [jSign, bI, c3, c9, c15, c21]; done)
        · refine r_iload_n (n := 0) (i := 0) 0 rfl rfl dX5_isSign_24 ?_
          refine r_bipush (v := 61) (by decide) dX5_isSign_25 ?_
          refine r_icmp_eq (tgt := 54) (by decide) dX5_isSign_27 (fun c27 => ?_) (fun c27 => ?_)
          · refine r_iconst (v := 1) (by decide) dX5_isSign_54 ?_
            refine r_goto (tgt := 59) (by decide) dX5_isSign_55 ?_
            refine r_zreturn rfl (by first | decide +kernel | exact narZ _ | assumption) dX5_isSign_59 ?_
            refine ⟨?_, ?_⟩ <;> first | rfl | (simp [jSign, bI, c3, c9, c15, c21, c27]; done)
          · refine r_iload_n (n := 0) (i := 0) 0 rfl rfl dX5_isSign_30 ?_
            refine r_bipush (v := 43) (by decide) dX5_isSign_31 ?_
            refine r_icmp_eq (tgt := 54) (by decide) dX5_isSign_33 (fun c33 => ?_) (fun c33 => ?_)
            · refine r_iconst (v := 1) (by decide) dX5_isSign_54 ?_
              refine r_goto (tgt := 59) (by decide) dX5_isSign_55 ?_
              refine r_zreturn rfl (by first | decide +kernel | exact narZ _ | assumption) dX5_isSign_59 ?_
              refine ⟨?_, ?_⟩ <;> first | rfl | (simp [jSign, bI, c3, c9, c15, c21, c27, c33]; done)
            · refine r_iload_n (n := 0) (i := 0) 0 rfl rfl dX5_isSign_36 ?_
              refine r_bipush (v := 45) (by decide) dX5_isSign_37 ?_
              refine r_icmp_eq (tgt := 54) (by decide) dX5_isSign_39 (fun c39 => ?_) (fun c39 => ?_)
              · refine r_iconst (v := 1) (by decide) dX5_isSign_54 ?_
                refine r_goto (tgt := 59) (by decide) dX5_isSign_55 ?_
                refine r_zreturn rfl (by first | decide +kernel | exact narZ _ | assumption) dX5_isSign_59 ?_
                refine ⟨?_, ?_⟩ <;> first | rfl | (simp [jSign, bI, c3, c9, c15, c21, c27, c33, c39]; done)
              · refine r_iload_n (n := 0) (i := 0) 0 rfl rfl dX5_isSign_42 ?_
                refine r_bipush (v := 42) (by decide) dX5_isSign_43 ?_
                refine r_icmp_eq (tgt := 54) (by decide) dX5_isSign_45 (fun c45 => ?_) (fun c45 => ?_)
                · refine r_iconst (v := 1) (by decide) dX5_isSign_54 ?_
                  refine r_goto (tgt := 59) (by decide) dX5_isSign_55 ?_
                  refine r_zreturn rfl (by first | decide +kernel | exact narZ _ | assumption) dX5_isSign_59 ?_
                  refine ⟨?_, ?_⟩ <;> first | rfl | (simp [jSign, bI, c3, c9, c15, c21, c27, c33, c39, c45]; done)
                · refine r_iload_n (n := 0) (i := 0) 0 rfl rfl dX5_isSign_48 ?_
                  refine r_bipush (v := 44) (by decide) dX5_isSign_49 ?_
                  refine r_icmp_ne (tgt := 58) (by decide) dX5_isSign_51 (fun c51 => ?_) (fun c51 => ?_)
                  · refine r_iconst (v := 0) (by decide) dX5_isSign_58 ?_
                    refine r_zreturn rfl (by first | decide +kernel | exact narZ _ | assumption) dX5_isSign_59 ?_
                    refine ⟨?_, ?_⟩ <;> first | rfl | (simp [jSign, bI, c3, c9, c15, c21, c27, c33, c39, c45, c51]; done)
                  · refine r_iconst (v := 1) (by decide) dX5_isSign_54 ?_
                    refine r_goto (tgt := 59) (by decide) dX5_isSign_55 ?_
                    refine r_zreturn rfl (by first | decide +kernel | exact narZ _ | assumption) dX5_isSign_59 ?_
                    refine ⟨?_, ?_⟩ <;> first | rfl | (simp [jSign, bI, c3, c9, c15, c21, c27, c33, c39, c45, c51]; done)
set_option maxRecDepth 4000 in
theorem kX5_byteAt {O : bO} {d : Nat} {f : bF} {n s : Nat} {tl : Int32} {te : Int32} {tn : Int32} {tp : Int32} {tk : Int32} {tv : Int32} {bs : Nat → Int32} {a : Int32} (h0 : f 34 = some (.inr (5, [.ref 35, .int tl, .int te, .int tn, .int tp, .int tk, .int tv]))) (h1 : f 35 = some (.inl (0, 300, .inl bs)))  (hd : 0 ≤ d) : bMt O mX5_byteAt d [.ref 34, .int a] (f, n, s) (.inl (some (.int (jByte bs te a)))) (f, n, s) := by
  refine bMt_of (bCall_of (by decide) rfl (Nat.le_of_ble_eq_true rfl) ?_)
  show bV O _ d 0 [(0, .ref 34), (1, .int a)] [] (f, n, s) _
  refine r_iload_n (n := 1) (i := 1) 1 rfl rfl dX5_byteAt_0 ?_
  refine r_if_lt (tgt := 30) (by decide) dX5_byteAt_1 (fun c1 => ?_) (fun c1 => ?_)
  · refine r_iconst (v := (-1)) (by decide) dX5_byteAt_30 ?_
    refine r_ireturn rfl dX5_byteAt_31 ?_
    refine ⟨?_, ?_⟩ <;> first | rfl | (simp [jByte, c1]; done)
  · refine r_iload_n (n := 1) (i := 1) 1 rfl rfl dX5_byteAt_4 ?_
    refine r_aload_n (n := 0) (i := 0) 0 rfl rfl dX5_byteAt_5 ?_
    refine p_get (fs := [.ref 35, .int tl, .int te, .int tn, .int tp, .int tk, .int tv]) flX5_19 h0 rfl dX5_byteAt_6 ?_
    refine r_icmp_ge (tgt := 30) (by decide) dX5_byteAt_9 (fun c9 => ?_) (fun c9 => ?_)
    · refine r_iconst (v := (-1)) (by decide) dX5_byteAt_30 ?_
      refine r_ireturn rfl dX5_byteAt_31 ?_
      refine ⟨?_, ?_⟩ <;> first | rfl | (simp [jByte, c1, c9]; done)
    · refine r_iload_n (n := 1) (i := 1) 1 rfl rfl dX5_byteAt_12 ?_
      refine r_aload_n (n := 0) (i := 0) 0 rfl rfl dX5_byteAt_13 ?_
      refine p_get (fs := [.ref 35, .int tl, .int te, .int tn, .int tp, .int tk, .int tv]) flX5_9 h0 rfl dX5_byteAt_14 ?_
      refine p_alen2 (kd := 0) (n := 300) (a := (300, .inl bs)) rfl h1 rfl dX5_byteAt_17 ?_
      refine r_icmp_ge (tgt := 30) (by decide) dX5_byteAt_18 (fun c18 => ?_) (fun c18 => ?_)
      · refine r_iconst (v := (-1)) (by decide) dX5_byteAt_30 ?_
        refine r_ireturn rfl dX5_byteAt_31 ?_
        refine ⟨?_, ?_⟩ <;> first | rfl | (simp [jByte, c1, c9, c18]; done)
      · refine r_aload_n (n := 0) (i := 0) 0 rfl rfl dX5_byteAt_21 ?_
        refine p_get (fs := [.ref 35, .int tl, .int te, .int tn, .int tp, .int tk, .int tv]) flX5_9 h0 rfl dX5_byteAt_22 ?_
        refine r_iload_n (n := 1) (i := 1) 1 rfl rfl dX5_byteAt_25 ?_
        refine p_iald h1 (by first | assumption | exact vpn_lit (by decide) (by decide) | (refine vpn ?_ ?_ (by decide) <;> first | assumption | (simp only [Int32.not_lt, Int32.not_le] at *; first | assumption | omega))) dX5_byteAt_26 ?_
        refine r_goto (tgt := 31) (by decide) dX5_byteAt_27 ?_
        refine r_ireturn rfl dX5_byteAt_31 ?_
        refine ⟨?_, ?_⟩ <;> first | rfl | (simp [jByte, c1, c9, c18]; done)
set_option maxRecDepth 4000 in
theorem kX5_append {O : bO} {d : Nat} {f : bF} {n s : Nat} {te : Int32} {tn : Int32} {tp : Int32} {tk : Int32} {tv : Int32} {t : Nat} {bs : Nat → Int32} {v : Int32} (h0 : f 34 = some (.inr (5, [.ref 35, .int (nI t), .int te, .int tn, .int tp, .int tk, .int tv]))) (h1 : f 35 = some (.inl (0, 300, .inl bs))) (e0 : t + 4 ≤ 300) (hd : 0 ≤ d) : bMt O mX5_append d [.ref 34, .int v] (f, n, s) (.inl none) (bU (bU f 35 (.inl (0, 300, .inl (upd (upd (upd (upd bs t (jSh v 24)) (t + 1) (jSh v 16)) (t + 2) (jSh v 8)) (t + 3) (jSh v 0))))) 34 (.inr (5, [.ref 35, .int (nI (t + 4)), .int te, .int tn, .int tp, .int tk, .int tv])), n, s) := by
  refine bMt_of (bCall_of (by decide) rfl (Nat.le_of_ble_eq_true rfl) ?_)
  show bV O _ d 0 [(0, .ref 34), (1, .int v)] [] (f, n, s) _
  refine r_bipush (v := 24) (by decide) dX5_append_0 ?_
  refine r_istore_n (n := 2) (i := 2) (L' := [(2, .int 24), (0, .ref 34), (1, .int v)]) rfl dX5_append_2 (by decide) rfl ?_
  refine r_iload_n (n := 2) (i := 2) 0 rfl rfl dX5_append_3 ?_
  refine r_if_lt (tgt := 58) (by decide) dX5_append_4 (fun h9 => absurd h9 (show ¬ ((24 : Int32) < 0) by decide)) (fun _ => ?_)
  refine r_aload_n (n := 0) (i := 0) 1 rfl rfl dX5_append_7 ?_
  refine p_get (fs := [.ref 35, .int (nI t), .int te, .int tn, .int tp, .int tk, .int tv]) flX5_15 h0 rfl dX5_append_8 ?_
  refine r_if_lt (tgt := 52) (by decide) dX5_append_11 (fun h9 => absurd h9 (nI_pos (by omega))) (fun _ => ?_)
  refine r_aload_n (n := 0) (i := 0) 1 rfl rfl dX5_append_14 ?_
  refine p_get (fs := [.ref 35, .int (nI t), .int te, .int tn, .int tp, .int tk, .int tv]) flX5_15 h0 rfl dX5_append_15 ?_
  refine r_aload_n (n := 0) (i := 0) 1 rfl rfl dX5_append_18 ?_
  refine p_get (fs := [.ref 35, .int (nI t), .int te, .int tn, .int tp, .int tk, .int tv]) flX5_9 h0 rfl dX5_append_19 ?_
  refine p_alen2 (kd := 0) (n := 300) (a := (300, .inl bs)) rfl h1 rfl dX5_append_22 ?_
  refine r_icmp_ge (tgt := 52) (by decide) dX5_append_23 (fun h9 => absurd h9 (fun h7 => absurd ((nI_leI (a := 300) (b := t) (by omega) (by omega)).mp h7) (by omega))) (fun _ => ?_)
  refine r_aload_n (n := 0) (i := 0) 1 rfl rfl dX5_append_26 ?_
  refine p_get (fs := [.ref 35, .int (nI t), .int te, .int tn, .int tp, .int tk, .int tv]) flX5_9 h0 rfl dX5_append_27 ?_
  refine r_aload_n (n := 0) (i := 0) 1 rfl rfl dX5_append_30 ?_
  refine p_get (fs := [.ref 35, .int (nI t), .int te, .int tn, .int tp, .int tk, .int tv]) flX5_15 h0 rfl dX5_append_31 ?_
  refine r_iload_n (n := 1) (i := 1) 2 rfl rfl dX5_append_34 ?_
  refine r_iload_n (n := 2) (i := 2) 0 rfl rfl dX5_append_35 ?_
  refine r_iushr dX5_append_36 ?_
  refine r_sipush (v := 255) (by decide) dX5_append_37 ?_
  refine r_iand dX5_append_40 ?_
  refine p_iastN (t := t) h1 (by omega) (by omega) dX5_append_41 ?_
  refine r_aload_n (n := 0) (i := 0) 1 rfl rfl dX5_append_42 ?_
  refine r_dup rfl dX5_append_43 ?_
  refine p_get (fs := [.ref 35, .int (nI t), .int te, .int tn, .int tp, .int tk, .int tv]) flX5_15 (by exact ((bU_n (by decide)).trans (h0))) rfl dX5_append_44 ?_
  refine r_iconst (v := 1) (by decide) dX5_append_47 ?_
  refine r_iaddE (v := nI (t + 1)) (nI_add t 1) dX5_append_48 ?_
  refine p_put (fs := [.ref 35, .int (nI t), .int te, .int tn, .int tp, .int tk, .int tv]) (fs' := [.ref 35, .int (nI (t + 1)), .int te, .int tn, .int tp, .int tk, .int tv]) flX5_15 (by exact ((bU_n (by decide)).trans (h0))) (Nat.le_of_ble_eq_true rfl) (bNf_i _) rfl dX5_append_49 ?_
  refine r_iinc (i := 2) (v := 16) (L' := [(2, .int 16), (0, .ref 34), (1, .int v)]) 0 rfl (by decide) dX5_append_52 (by decide) rfl ?_
  refine r_goto (tgt := 3) (by decide) dX5_append_55 ?_
  refine r_iload_n (n := 2) (i := 2) 0 rfl rfl dX5_append_3 ?_
  refine r_if_lt (tgt := 58) (by decide) dX5_append_4 (fun h9 => absurd h9 (show ¬ ((16 : Int32) < 0) by decide)) (fun _ => ?_)
  refine r_aload_n (n := 0) (i := 0) 1 rfl rfl dX5_append_7 ?_
  refine p_get (fs := [.ref 35, .int (nI (t + 1)), .int te, .int tn, .int tp, .int tk, .int tv]) flX5_15 (by exact bU_s _ _ _) rfl dX5_append_8 ?_
  refine r_if_lt (tgt := 52) (by decide) dX5_append_11 (fun h9 => absurd h9 (nI_pos (by omega))) (fun _ => ?_)
  refine r_aload_n (n := 0) (i := 0) 1 rfl rfl dX5_append_14 ?_
  refine p_get (fs := [.ref 35, .int (nI (t + 1)), .int te, .int tn, .int tp, .int tk, .int tv]) flX5_15 (by exact bU_s _ _ _) rfl dX5_append_15 ?_
  refine r_aload_n (n := 0) (i := 0) 1 rfl rfl dX5_append_18 ?_
  refine p_get (fs := [.ref 35, .int (nI (t + 1)), .int te, .int tn, .int tp, .int tk, .int tv]) flX5_9 (by exact bU_s _ _ _) rfl dX5_append_19 ?_
  refine p_alen2 (kd := 0) (n := 300) (a := (300, .inl (upd bs t (((v.toUInt32 >>> ((24 : Int32).toUInt32 &&& Int32.toUInt32 31)).toInt32) &&& 255)))) rfl (by exact ((bU_n (by decide)).trans (bU_s _ _ _))) rfl dX5_append_22 ?_
  refine r_icmp_ge (tgt := 52) (by decide) dX5_append_23 (fun h9 => absurd h9 (fun h7 => absurd ((nI_leI (a := 300) (b := (t + 1)) (by omega) (by omega)).mp h7) (by omega))) (fun _ => ?_)
  refine r_aload_n (n := 0) (i := 0) 1 rfl rfl dX5_append_26 ?_
  refine p_get (fs := [.ref 35, .int (nI (t + 1)), .int te, .int tn, .int tp, .int tk, .int tv]) flX5_9 (by exact bU_s _ _ _) rfl dX5_append_27 ?_
  refine r_aload_n (n := 0) (i := 0) 1 rfl rfl dX5_append_30 ?_
  refine p_get (fs := [.ref 35, .int (nI (t + 1)), .int te, .int tn, .int tp, .int tk, .int tv]) flX5_15 (by exact bU_s _ _ _) rfl dX5_append_31 ?_
  refine r_iload_n (n := 1) (i := 1) 2 rfl rfl dX5_append_34 ?_
  refine r_iload_n (n := 2) (i := 2) 0 rfl rfl dX5_append_35 ?_
  refine r_iushr dX5_append_36 ?_
  refine r_sipush (v := 255) (by decide) dX5_append_37 ?_
  refine r_iand dX5_append_40 ?_
  refine p_iastN (t := t + 1) (by exact ((bU_n (by decide)).trans (bU_s _ _ _))) (by omega) (by omega) dX5_append_41 ?_
  refine bV_h (f2 := bU (bU f 35 (.inl (0, 300, .inl (upd (upd bs t (((v.toUInt32 >>> ((24 : Int32).toUInt32 &&& Int32.toUInt32 31)).toInt32) &&& 255)) (t + 1) (((v.toUInt32 >>> ((16 : Int32).toUInt32 &&& Int32.toUInt32 31)).toInt32) &&& 255))))) 34 (.inr (5, [.ref 35, .int (nI (t + 1)), .int te, .int tn, .int tp, .int tk, .int tv]))) (((bU_c (by decide)).trans (congrArg (fun z => bU z 34 (.inr (5, [.ref 35, .int (nI (t + 1)), .int te, .int tn, .int tp, .int tk, .int tv]))) (bU_u _ _ _ _)))) ?_
  refine r_aload_n (n := 0) (i := 0) 1 rfl rfl dX5_append_42 ?_
  refine r_dup rfl dX5_append_43 ?_
  refine p_get (fs := [.ref 35, .int (nI (t + 1)), .int te, .int tn, .int tp, .int tk, .int tv]) flX5_15 (by exact bU_s _ _ _) rfl dX5_append_44 ?_
  refine r_iconst (v := 1) (by decide) dX5_append_47 ?_
  refine r_iaddE (v := nI (t + 2)) (nI_add (t + 1) 1) dX5_append_48 ?_
  refine p_put (fs := [.ref 35, .int (nI (t + 1)), .int te, .int tn, .int tp, .int tk, .int tv]) (fs' := [.ref 35, .int (nI (t + 2)), .int te, .int tn, .int tp, .int tk, .int tv]) flX5_15 (by exact bU_s _ _ _) (Nat.le_of_ble_eq_true rfl) (bNf_i _) rfl dX5_append_49 ?_
  refine bV_h (f2 := bU (bU f 35 (.inl (0, 300, .inl (upd (upd bs t (((v.toUInt32 >>> ((24 : Int32).toUInt32 &&& Int32.toUInt32 31)).toInt32) &&& 255)) (t + 1) (((v.toUInt32 >>> ((16 : Int32).toUInt32 &&& Int32.toUInt32 31)).toInt32) &&& 255))))) 34 (.inr (5, [.ref 35, .int (nI (t + 2)), .int te, .int tn, .int tp, .int tk, .int tv]))) (bU_u _ _ _ _) ?_
  refine r_iinc (i := 2) (v := 8) (L' := [(2, .int 8), (0, .ref 34), (1, .int v)]) 0 rfl (by decide) dX5_append_52 (by decide) rfl ?_
  refine r_goto (tgt := 3) (by decide) dX5_append_55 ?_
  refine r_iload_n (n := 2) (i := 2) 0 rfl rfl dX5_append_3 ?_
  refine r_if_lt (tgt := 58) (by decide) dX5_append_4 (fun h9 => absurd h9 (show ¬ ((8 : Int32) < 0) by decide)) (fun _ => ?_)
  refine r_aload_n (n := 0) (i := 0) 1 rfl rfl dX5_append_7 ?_
  refine p_get (fs := [.ref 35, .int (nI (t + 2)), .int te, .int tn, .int tp, .int tk, .int tv]) flX5_15 (by exact bU_s _ _ _) rfl dX5_append_8 ?_
  refine r_if_lt (tgt := 52) (by decide) dX5_append_11 (fun h9 => absurd h9 (nI_pos (by omega))) (fun _ => ?_)
  refine r_aload_n (n := 0) (i := 0) 1 rfl rfl dX5_append_14 ?_
  refine p_get (fs := [.ref 35, .int (nI (t + 2)), .int te, .int tn, .int tp, .int tk, .int tv]) flX5_15 (by exact bU_s _ _ _) rfl dX5_append_15 ?_
  refine r_aload_n (n := 0) (i := 0) 1 rfl rfl dX5_append_18 ?_
  refine p_get (fs := [.ref 35, .int (nI (t + 2)), .int te, .int tn, .int tp, .int tk, .int tv]) flX5_9 (by exact bU_s _ _ _) rfl dX5_append_19 ?_
  refine p_alen2 (kd := 0) (n := 300) (a := (300, .inl (upd (upd bs t (((v.toUInt32 >>> ((24 : Int32).toUInt32 &&& Int32.toUInt32 31)).toInt32) &&& 255)) (t + 1) (((v.toUInt32 >>> ((16 : Int32).toUInt32 &&& Int32.toUInt32 31)).toInt32) &&& 255)))) rfl (by exact ((bU_n (by decide)).trans (bU_s _ _ _))) rfl dX5_append_22 ?_
  refine r_icmp_ge (tgt := 52) (by decide) dX5_append_23 (fun h9 => absurd h9 (fun h7 => absurd ((nI_leI (a := 300) (b := (t + 2)) (by omega) (by omega)).mp h7) (by omega))) (fun _ => ?_)
  refine r_aload_n (n := 0) (i := 0) 1 rfl rfl dX5_append_26 ?_
  refine p_get (fs := [.ref 35, .int (nI (t + 2)), .int te, .int tn, .int tp, .int tk, .int tv]) flX5_9 (by exact bU_s _ _ _) rfl dX5_append_27 ?_
  refine r_aload_n (n := 0) (i := 0) 1 rfl rfl dX5_append_30 ?_
  refine p_get (fs := [.ref 35, .int (nI (t + 2)), .int te, .int tn, .int tp, .int tk, .int tv]) flX5_15 (by exact bU_s _ _ _) rfl dX5_append_31 ?_
  refine r_iload_n (n := 1) (i := 1) 2 rfl rfl dX5_append_34 ?_
  refine r_iload_n (n := 2) (i := 2) 0 rfl rfl dX5_append_35 ?_
  refine r_iushr dX5_append_36 ?_
  refine r_sipush (v := 255) (by decide) dX5_append_37 ?_
  refine r_iand dX5_append_40 ?_
  refine p_iastN (t := t + 2) (by exact ((bU_n (by decide)).trans (bU_s _ _ _))) (by omega) (by omega) dX5_append_41 ?_
  refine bV_h (f2 := bU (bU f 35 (.inl (0, 300, .inl (upd (upd (upd bs t (((v.toUInt32 >>> ((24 : Int32).toUInt32 &&& Int32.toUInt32 31)).toInt32) &&& 255)) (t + 1) (((v.toUInt32 >>> ((16 : Int32).toUInt32 &&& Int32.toUInt32 31)).toInt32) &&& 255)) (t + 2) (((v.toUInt32 >>> ((8 : Int32).toUInt32 &&& Int32.toUInt32 31)).toInt32) &&& 255))))) 34 (.inr (5, [.ref 35, .int (nI (t + 2)), .int te, .int tn, .int tp, .int tk, .int tv]))) (((bU_c (by decide)).trans (congrArg (fun z => bU z 34 (.inr (5, [.ref 35, .int (nI (t + 2)), .int te, .int tn, .int tp, .int tk, .int tv]))) (bU_u _ _ _ _)))) ?_
  refine r_aload_n (n := 0) (i := 0) 1 rfl rfl dX5_append_42 ?_
  refine r_dup rfl dX5_append_43 ?_
  refine p_get (fs := [.ref 35, .int (nI (t + 2)), .int te, .int tn, .int tp, .int tk, .int tv]) flX5_15 (by exact bU_s _ _ _) rfl dX5_append_44 ?_
  refine r_iconst (v := 1) (by decide) dX5_append_47 ?_
  refine r_iaddE (v := nI (t + 3)) (nI_add (t + 2) 1) dX5_append_48 ?_
  refine p_put (fs := [.ref 35, .int (nI (t + 2)), .int te, .int tn, .int tp, .int tk, .int tv]) (fs' := [.ref 35, .int (nI (t + 3)), .int te, .int tn, .int tp, .int tk, .int tv]) flX5_15 (by exact bU_s _ _ _) (Nat.le_of_ble_eq_true rfl) (bNf_i _) rfl dX5_append_49 ?_
  refine bV_h (f2 := bU (bU f 35 (.inl (0, 300, .inl (upd (upd (upd bs t (((v.toUInt32 >>> ((24 : Int32).toUInt32 &&& Int32.toUInt32 31)).toInt32) &&& 255)) (t + 1) (((v.toUInt32 >>> ((16 : Int32).toUInt32 &&& Int32.toUInt32 31)).toInt32) &&& 255)) (t + 2) (((v.toUInt32 >>> ((8 : Int32).toUInt32 &&& Int32.toUInt32 31)).toInt32) &&& 255))))) 34 (.inr (5, [.ref 35, .int (nI (t + 3)), .int te, .int tn, .int tp, .int tk, .int tv]))) (bU_u _ _ _ _) ?_
  refine r_iinc (i := 2) (v := 0) (L' := [(2, .int 0), (0, .ref 34), (1, .int v)]) 0 rfl (by decide) dX5_append_52 (by decide) rfl ?_
  refine r_goto (tgt := 3) (by decide) dX5_append_55 ?_
  refine r_iload_n (n := 2) (i := 2) 0 rfl rfl dX5_append_3 ?_
  refine r_if_lt (tgt := 58) (by decide) dX5_append_4 (fun h9 => absurd h9 (show ¬ ((0 : Int32) < 0) by decide)) (fun _ => ?_)
  refine r_aload_n (n := 0) (i := 0) 1 rfl rfl dX5_append_7 ?_
  refine p_get (fs := [.ref 35, .int (nI (t + 3)), .int te, .int tn, .int tp, .int tk, .int tv]) flX5_15 (by exact bU_s _ _ _) rfl dX5_append_8 ?_
  refine r_if_lt (tgt := 52) (by decide) dX5_append_11 (fun h9 => absurd h9 (nI_pos (by omega))) (fun _ => ?_)
  refine r_aload_n (n := 0) (i := 0) 1 rfl rfl dX5_append_14 ?_
  refine p_get (fs := [.ref 35, .int (nI (t + 3)), .int te, .int tn, .int tp, .int tk, .int tv]) flX5_15 (by exact bU_s _ _ _) rfl dX5_append_15 ?_
  refine r_aload_n (n := 0) (i := 0) 1 rfl rfl dX5_append_18 ?_
  refine p_get (fs := [.ref 35, .int (nI (t + 3)), .int te, .int tn, .int tp, .int tk, .int tv]) flX5_9 (by exact bU_s _ _ _) rfl dX5_append_19 ?_
  refine p_alen2 (kd := 0) (n := 300) (a := (300, .inl (upd (upd (upd bs t (((v.toUInt32 >>> ((24 : Int32).toUInt32 &&& Int32.toUInt32 31)).toInt32) &&& 255)) (t + 1) (((v.toUInt32 >>> ((16 : Int32).toUInt32 &&& Int32.toUInt32 31)).toInt32) &&& 255)) (t + 2) (((v.toUInt32 >>> ((8 : Int32).toUInt32 &&& Int32.toUInt32 31)).toInt32) &&& 255)))) rfl (by exact ((bU_n (by decide)).trans (bU_s _ _ _))) rfl dX5_append_22 ?_
  refine r_icmp_ge (tgt := 52) (by decide) dX5_append_23 (fun h9 => absurd h9 (fun h7 => absurd ((nI_leI (a := 300) (b := (t + 3)) (by omega) (by omega)).mp h7) (by omega))) (fun _ => ?_)
  refine r_aload_n (n := 0) (i := 0) 1 rfl rfl dX5_append_26 ?_
  refine p_get (fs := [.ref 35, .int (nI (t + 3)), .int te, .int tn, .int tp, .int tk, .int tv]) flX5_9 (by exact bU_s _ _ _) rfl dX5_append_27 ?_
  refine r_aload_n (n := 0) (i := 0) 1 rfl rfl dX5_append_30 ?_
  refine p_get (fs := [.ref 35, .int (nI (t + 3)), .int te, .int tn, .int tp, .int tk, .int tv]) flX5_15 (by exact bU_s _ _ _) rfl dX5_append_31 ?_
  refine r_iload_n (n := 1) (i := 1) 2 rfl rfl dX5_append_34 ?_
  refine r_iload_n (n := 2) (i := 2) 0 rfl rfl dX5_append_35 ?_
  refine r_iushr dX5_append_36 ?_
  refine r_sipush (v := 255) (by decide) dX5_append_37 ?_
  refine r_iand dX5_append_40 ?_
  refine p_iastN (t := t + 3) (by exact ((bU_n (by decide)).trans (bU_s _ _ _))) (by omega) (by omega) dX5_append_41 ?_
  refine bV_h (f2 := bU (bU f 35 (.inl (0, 300, .inl (upd (upd (upd (upd bs t (((v.toUInt32 >>> ((24 : Int32).toUInt32 &&& Int32.toUInt32 31)).toInt32) &&& 255)) (t + 1) (((v.toUInt32 >>> ((16 : Int32).toUInt32 &&& Int32.toUInt32 31)).toInt32) &&& 255)) (t + 2) (((v.toUInt32 >>> ((8 : Int32).toUInt32 &&& Int32.toUInt32 31)).toInt32) &&& 255)) (t + 3) (((v.toUInt32 >>> ((0 : Int32).toUInt32 &&& Int32.toUInt32 31)).toInt32) &&& 255))))) 34 (.inr (5, [.ref 35, .int (nI (t + 3)), .int te, .int tn, .int tp, .int tk, .int tv]))) (((bU_c (by decide)).trans (congrArg (fun z => bU z 34 (.inr (5, [.ref 35, .int (nI (t + 3)), .int te, .int tn, .int tp, .int tk, .int tv]))) (bU_u _ _ _ _)))) ?_
  refine r_aload_n (n := 0) (i := 0) 1 rfl rfl dX5_append_42 ?_
  refine r_dup rfl dX5_append_43 ?_
  refine p_get (fs := [.ref 35, .int (nI (t + 3)), .int te, .int tn, .int tp, .int tk, .int tv]) flX5_15 (by exact bU_s _ _ _) rfl dX5_append_44 ?_
  refine r_iconst (v := 1) (by decide) dX5_append_47 ?_
  refine r_iaddE (v := nI (t + 4)) (nI_add (t + 3) 1) dX5_append_48 ?_
  refine p_put (fs := [.ref 35, .int (nI (t + 3)), .int te, .int tn, .int tp, .int tk, .int tv]) (fs' := [.ref 35, .int (nI (t + 4)), .int te, .int tn, .int tp, .int tk, .int tv]) flX5_15 (by exact bU_s _ _ _) (Nat.le_of_ble_eq_true rfl) (bNf_i _) rfl dX5_append_49 ?_
  refine bV_h (f2 := bU (bU f 35 (.inl (0, 300, .inl (upd (upd (upd (upd bs t (((v.toUInt32 >>> ((24 : Int32).toUInt32 &&& Int32.toUInt32 31)).toInt32) &&& 255)) (t + 1) (((v.toUInt32 >>> ((16 : Int32).toUInt32 &&& Int32.toUInt32 31)).toInt32) &&& 255)) (t + 2) (((v.toUInt32 >>> ((8 : Int32).toUInt32 &&& Int32.toUInt32 31)).toInt32) &&& 255)) (t + 3) (((v.toUInt32 >>> ((0 : Int32).toUInt32 &&& Int32.toUInt32 31)).toInt32) &&& 255))))) 34 (.inr (5, [.ref 35, .int (nI (t + 4)), .int te, .int tn, .int tp, .int tk, .int tv]))) (bU_u _ _ _ _) ?_
  refine r_iinc (i := 2) (v := (-8)) (L' := [(2, .int (-8)), (0, .ref 34), (1, .int v)]) 0 rfl (by decide) dX5_append_52 (by decide) rfl ?_
  refine r_goto (tgt := 3) (by decide) dX5_append_55 ?_
  refine r_iload_n (n := 2) (i := 2) 0 rfl rfl dX5_append_3 ?_
  refine r_if_lt (tgt := 58) (by decide) dX5_append_4 (fun _ => ?_) (fun h9 => absurd (show ((-8) : Int32) < 0 by decide) h9)
  refine r_return rfl dX5_append_58 ?_
  refine ⟨?_, ?_⟩ <;> first | rfl | (simp [jSh]; done)
