/-! ===== ModelShelf$Tape (printed by wip/gen/tape.py) ===== -/
def jLetter (x : Int32) : Bool := !(decide (x < 97)) && !(decide (122 < x))
def jDigit (x : Int32) : Bool := !(decide (x < 48)) && !(decide (57 < x))
def jSign (x : Int32) : Bool := decide (x = 40) || decide (x = 41) || decide (x = 60) || decide (x = 62) || decide (x = 61) || decide (x = 43) || decide (x = 45) || decide (x = 42) || decide (x = 44)
def jByte (bs : Nat → Int32) (e a : Int32) : Int32 := if a < 0 then -1 else if e ≤ a then -1 else if nI 300 ≤ a then -1 else bs a.toNatClampNeg
set_option maxRecDepth 4000 in
theorem kX5_isLetter {O : bO} {d : Nat} {f : bF} {n s : Nat} {x : Int32}   (hd : 0 ≤ d) : bMt O mX5_isLetter d [.int x] (f, n, s) (.inl (some (.int (bI (jLetter x))))) (f, n, s) := by
  refine bMt_of (bCall_of (by decide) rfl (by decide) ?_)
  show bV O _ d 0 [(0, .int x)] [] (f, n, s) _
  refine r_iload_n (n := 0) (i := 0) 0 rfl rfl dX5_isLetter_0 ?_
  refine r_bipush (v := 97) (by decide) dX5_isLetter_1 ?_
  refine r_icmp_lt (tgt := 16) (by decide) dX5_isLetter_3 (fun c3 => ?_) (fun c3 => ?_)
  · refine r_iconst (v := 0) (by decide) dX5_isLetter_16 ?_
    refine r_zreturn rfl (by first | decide +kernel | exact narZ _ | assumption) dX5_isLetter_17 ?_
    refine ⟨?_, ?_⟩ <;> first | rfl | (simp [jLetter, bI, c3]; done)
  · refine r_iload_n (n := 0) (i := 0) 0 rfl rfl dX5_isLetter_6 ?_
    refine r_bipush (v := 122) (by decide) dX5_isLetter_7 ?_
    refine r_icmp_gt (tgt := 16) (by decide) dX5_isLetter_9 (fun c9 => ?_) (fun c9 => ?_)
    · refine r_iconst (v := 0) (by decide) dX5_isLetter_16 ?_
      refine r_zreturn rfl (by first | decide +kernel | exact narZ _ | assumption) dX5_isLetter_17 ?_
      refine ⟨?_, ?_⟩ <;> first | rfl | (simp [jLetter, bI, c3, c9]; done)
    · refine r_iconst (v := 1) (by decide) dX5_isLetter_12 ?_
      refine r_goto (tgt := 17) (by decide) dX5_isLetter_13 ?_
      refine r_zreturn rfl (by first | decide +kernel | exact narZ _ | assumption) dX5_isLetter_17 ?_
      refine ⟨?_, ?_⟩ <;> first | rfl | (simp [jLetter, bI, c3, c9]; done)
set_option maxRecDepth 4000 in
theorem kX5_isDigit {O : bO} {d : Nat} {f : bF} {n s : Nat} {x : Int32}   (hd : 0 ≤ d) : bMt O mX5_isDigit d [.int x] (f, n, s) (.inl (some (.int (bI (jDigit x))))) (f, n, s) := by
  refine bMt_of (bCall_of (by decide) rfl (by decide) ?_)
  show bV O _ d 0 [(0, .int x)] [] (f, n, s) _
  refine r_iload_n (n := 0) (i := 0) 0 rfl rfl dX5_isDigit_0 ?_
  refine r_bipush (v := 48) (by decide) dX5_isDigit_1 ?_
  refine r_icmp_lt (tgt := 16) (by decide) dX5_isDigit_3 (fun c3 => ?_) (fun c3 => ?_)
  · refine r_iconst (v := 0) (by decide) dX5_isDigit_16 ?_
    refine r_zreturn rfl (by first | decide +kernel | exact narZ _ | assumption) dX5_isDigit_17 ?_
    refine ⟨?_, ?_⟩ <;> first | rfl | (simp [jDigit, bI, c3]; done)
  · refine r_iload_n (n := 0) (i := 0) 0 rfl rfl dX5_isDigit_6 ?_
    refine r_bipush (v := 57) (by decide) dX5_isDigit_7 ?_
    refine r_icmp_gt (tgt := 16) (by decide) dX5_isDigit_9 (fun c9 => ?_) (fun c9 => ?_)
    · refine r_iconst (v := 0) (by decide) dX5_isDigit_16 ?_
      refine r_zreturn rfl (by first | decide +kernel | exact narZ _ | assumption) dX5_isDigit_17 ?_
      refine ⟨?_, ?_⟩ <;> first | rfl | (simp [jDigit, bI, c3, c9]; done)
    · refine r_iconst (v := 1) (by decide) dX5_isDigit_12 ?_
      refine r_goto (tgt := 17) (by decide) dX5_isDigit_13 ?_
      refine r_zreturn rfl (by first | decide +kernel | exact narZ _ | assumption) dX5_isDigit_17 ?_
      refine ⟨?_, ?_⟩ <;> first | rfl | (simp [jDigit, bI, c3, c9]; done)
set_option maxRecDepth 4000 in
theorem kX5_isSign {O : bO} {d : Nat} {f : bF} {n s : Nat} {x : Int32}   (hd : 0 ≤ d) : bMt O mX5_isSign d [.int x] (f, n, s) (.inl (some (.int (bI (jSign x))))) (f, n, s) := by
  refine bMt_of (bCall_of (by decide) rfl (by decide) ?_)
  show bV O _ d 0 [(0, .int x)] [] (f, n, s) _
  refine r_iload_n (n := 0) (i := 0) 0 rfl rfl dX5_isSign_0 ?_
  refine r_bipush (v := 40) (by decide) dX5_isSign_1 ?_
  refine r_icmp_eq (tgt := 54) (by decide) dX5_isSign_3 (fun c3 => ?_) (fun c3 => ?_)
  · refine r_iconst (v := 1) (by decide) dX5_isSign_54 ?_
    refine r_goto (tgt := 59) (by decide) dX5_isSign_55 ?_
    refine r_zreturn rfl (by first | decide +kernel | exact narZ _ | assumption) dX5_isSign_59 ?_
    refine ⟨?_, ?_⟩ <;> first | rfl | (simp [jSign, bI, c3]; done)
  · refine r_iload_n (n := 0) (i := 0) 0 rfl rfl dX5_isSign_6 ?_
    refine r_bipush (v := 41) (by decide) dX5_isSign_7 ?_
    refine r_icmp_eq (tgt := 54) (by decide) dX5_isSign_9 (fun c9 => ?_) (fun c9 => ?_)
    · refine r_iconst (v := 1) (by decide) dX5_isSign_54 ?_
      refine r_goto (tgt := 59) (by decide) dX5_isSign_55 ?_
      refine r_zreturn rfl (by first | decide +kernel | exact narZ _ | assumption) dX5_isSign_59 ?_
      refine ⟨?_, ?_⟩ <;> first | rfl | (simp [jSign, bI, c3, c9]; done)
    · refine r_iload_n (n := 0) (i := 0) 0 rfl rfl dX5_isSign_12 ?_
      refine r_bipush (v := 60) (by decide) dX5_isSign_13 ?_
      refine r_icmp_eq (tgt := 54) (by decide) dX5_isSign_15 (fun c15 => ?_) (fun c15 => ?_)
      · refine r_iconst (v := 1) (by decide) dX5_isSign_54 ?_
        refine r_goto (tgt := 59) (by decide) dX5_isSign_55 ?_
        refine r_zreturn rfl (by first | decide +kernel | exact narZ _ | assumption) dX5_isSign_59 ?_
        refine ⟨?_, ?_⟩ <;> first | rfl | (simp [jSign, bI, c3, c9, c15]; done)
      · refine r_iload_n (n := 0) (i := 0) 0 rfl rfl dX5_isSign_18 ?_
        refine r_bipush (v := 62) (by decide) dX5_isSign_19 ?_
        refine r_icmp_eq (tgt := 54) (by decide) dX5_isSign_21 (fun c21 => ?_) (fun c21 => ?_)
        · refine r_iconst (v := 1) (by decide) dX5_isSign_54 ?_
          refine r_goto (tgt := 59) (by decide) dX5_isSign_55 ?_
          refine r_zreturn rfl (by first | decide +kernel | exact narZ _ | assumption) dX5_isSign_59 ?_
          refine ⟨?_, ?_⟩ <;> first | rfl | (simp [jSign, bI, c3, c9, c15, c21]; done)
        · refine r_iload_n (n := 0) (i := 0) 0 rfl rfl dX5_isSign_24 ?_
          refine r_bipush (v := 61) (by decide) dX5_isSign_25 ?_
          refine r_icmp_eq (tgt := 54) (by decide) dX5_isSign_27 (fun c27 => ?_) (fun c27 => ?_)
          · refine r_iconst (v := 1) (by decide) dX5_isSign_54 ?_
            refine r_goto (tgt := 59) (by decide) dX5_isSign_55 ?_
            refine r_zreturn rfl (by first | decide +kernel | exact narZ _ | assumption) dX5_isSign_59 ?_
            refine ⟨?_, ?_⟩ <;> first | rfl | (simp [jSign, bI, c3, c9, c15, c21, c27]; done)
          · refine r_iload_n (n := 0) (i := 0) 0 rfl rfl dX5_isSign_30 ?_
            refine r_bipush (v := 43) (by decide) dX5_isSign_31 ?_
            refine r_icmp_eq (tgt := 54) (by decide) dX5_isSign_33 (fun c33 => ?_) (fun c33 => ?_)
            · refine r_iconst (v := 1) (by decide) dX5_isSign_54 ?_
              refine r_goto (tgt := 59) (by decide) dX5_isSign_55 ?_
              refine r_zreturn rfl (by first | decide +kernel | exact narZ _ | assumption) dX5_isSign_59 ?_
              refine ⟨?_, ?_⟩ <;> first | rfl | (simp [jSign, bI, c3, c9, c15, c21, c27, c33]; done)
            · refine r_iload_n (n := 0) (i := 0) 0 rfl rfl dX5_isSign_36 ?_
              refine r_bipush (v := 45) (by decide) dX5_isSign_37 ?_
              refine r_icmp_eq (tgt := 54) (by decide) dX5_isSign_39 (fun c39 => ?_) (fun c39 => ?_)
              · refine r_iconst (v := 1) (by decide) dX5_isSign_54 ?_
                refine r_goto (tgt := 59) (by decide) dX5_isSign_55 ?_
                refine r_zreturn rfl (by first | decide +kernel | exact narZ _ | assumption) dX5_isSign_59 ?_
                refine ⟨?_, ?_⟩ <;> first | rfl | (simp [jSign, bI, c3, c9, c15, c21, c27, c33, c39]; done)
              · refine r_iload_n (n := 0) (i := 0) 0 rfl rfl dX5_isSign_42 ?_
                refine r_bipush (v := 42) (by decide) dX5_isSign_43 ?_
                refine r_icmp_eq (tgt := 54) (by decide) dX5_isSign_45 (fun c45 => ?_) (fun c45 => ?_)
                · refine r_iconst (v := 1) (by decide) dX5_isSign_54 ?_
                  refine r_goto (tgt := 59) (by decide) dX5_isSign_55 ?_
                  refine r_zreturn rfl (by first | decide +kernel | exact narZ _ | assumption) dX5_isSign_59 ?_
                  refine ⟨?_, ?_⟩ <;> first | rfl | (simp [jSign, bI, c3, c9, c15, c21, c27, c33, c39, c45]; done)
                · refine r_iload_n (n := 0) (i := 0) 0 rfl rfl dX5_isSign_48 ?_
                  refine r_bipush (v := 44) (by decide) dX5_isSign_49 ?_
                  refine r_icmp_ne (tgt := 58) (by decide) dX5_isSign_51 (fun c51 => ?_) (fun c51 => ?_)
                  · refine r_iconst (v := 0) (by decide) dX5_isSign_58 ?_
                    refine r_zreturn rfl (by first | decide +kernel | exact narZ _ | assumption) dX5_isSign_59 ?_
                    refine ⟨?_, ?_⟩ <;> first | rfl | (simp [jSign, bI, c3, c9, c15, c21, c27, c33, c39, c45, c51]; done)
                  · refine r_iconst (v := 1) (by decide) dX5_isSign_54 ?_
                    refine r_goto (tgt := 59) (by decide) dX5_isSign_55 ?_
                    refine r_zreturn rfl (by first | decide +kernel | exact narZ _ | assumption) dX5_isSign_59 ?_
                    refine ⟨?_, ?_⟩ <;> first | rfl | (simp [jSign, bI, c3, c9, c15, c21, c27, c33, c39, c45, c51]; done)
set_option maxRecDepth 4000 in
theorem kX5_byteAt {O : bO} {d : Nat} {f : bF} {n s : Nat} {tl : Int32} {te : Int32} {tn : Int32} {tp : Int32} {tk : Int32} {tv : Int32} {bs : Nat → Int32} {a : Int32} (h0 : f 34 = some (.inr (5, [.ref 35, .int tl, .int te, .int tn, .int tp, .int tk, .int tv]))) (h1 : f 35 = some (.inl (0, 300, .inl bs)))  (hd : 0 ≤ d) : bMt O mX5_byteAt d [.ref 34, .int a] (f, n, s) (.inl (some (.int (jByte bs te a)))) (f, n, s) := by
  refine bMt_of (bCall_of (by decide) rfl (by decide) ?_)
  show bV O _ d 0 [(0, .ref 34), (1, .int a)] [] (f, n, s) _
  refine r_iload_n (n := 1) (i := 1) 1 rfl rfl dX5_byteAt_0 ?_
  refine r_if_lt (tgt := 30) (by decide) dX5_byteAt_1 (fun c1 => ?_) (fun c1 => ?_)
  · refine r_iconst (v := (-1)) (by decide) dX5_byteAt_30 ?_
    refine r_ireturn rfl dX5_byteAt_31 ?_
    refine ⟨?_, ?_⟩ <;> first | rfl | (simp [jByte, c1]; done)
  · refine r_iload_n (n := 1) (i := 1) 1 rfl rfl dX5_byteAt_4 ?_
    refine r_aload_n (n := 0) (i := 0) 0 rfl rfl dX5_byteAt_5 ?_
    refine r_get flX5_19 h0 rfl dX5_byteAt_6 ?_
    refine r_icmp_ge (tgt := 30) (by decide) dX5_byteAt_9 (fun c9 => ?_) (fun c9 => ?_)
    · refine r_iconst (v := (-1)) (by decide) dX5_byteAt_30 ?_
      refine r_ireturn rfl dX5_byteAt_31 ?_
      refine ⟨?_, ?_⟩ <;> first | rfl | (simp [jByte, c1, c9]; done)
    · refine r_iload_n (n := 1) (i := 1) 1 rfl rfl dX5_byteAt_12 ?_
      refine r_aload_n (n := 0) (i := 0) 0 rfl rfl dX5_byteAt_13 ?_
      refine r_get flX5_9 h0 rfl dX5_byteAt_14 ?_
      refine r_alen2 (kd := 0) (n := 300) rfl h1 rfl dX5_byteAt_17 ?_
      refine r_icmp_ge (tgt := 30) (by decide) dX5_byteAt_18 (fun c18 => ?_) (fun c18 => ?_)
      · refine r_iconst (v := (-1)) (by decide) dX5_byteAt_30 ?_
        refine r_ireturn rfl dX5_byteAt_31 ?_
        refine ⟨?_, ?_⟩ <;> first | rfl | (simp [jByte, c1, c9, c18]; done)
      · refine r_aload_n (n := 0) (i := 0) 0 rfl rfl dX5_byteAt_21 ?_
        refine r_get flX5_9 h0 rfl dX5_byteAt_22 ?_
        refine r_iload_n (n := 1) (i := 1) 1 rfl rfl dX5_byteAt_25 ?_
        refine r_iald h1 (by first | assumption | exact vpn_lit (by decide) (by decide) | (refine vpn ?_ ?_ (by decide) <;> first | assumption | (simp only [Int32.not_lt, Int32.not_le] at *; first | assumption | omega))) dX5_byteAt_26 ?_
        refine r_goto (tgt := 31) (by decide) dX5_byteAt_27 ?_
        refine r_ireturn rfl dX5_byteAt_31 ?_
        refine ⟨?_, ?_⟩ <;> first | rfl | (simp [jByte, c1, c9, c18]; done)
