/-! ===== the reference's reader: words, ones, terms, sums, tells (printed by wip/gen/mread2.py) ===== -/
section
variable {bs : Nat → Int32} {e : Nat} {T : Nat → Nat → pS → pR} {b i : Nat} {st : pS}
theorem pPl_258 (h : st.1.2.2.1 = 258) : pPlain bs e T b i st = pB (mPart st) fun s1 => pB (pWr 258 st.1.2.2.2 s1) (mNext bs e) := by
  unfold pPlain
  rw [if_pos h, pNum_m]
theorem pPl_259 (h : st.1.2.2.1 = 259) : pPlain bs e T b i st = pB (mPart st) fun s1 => pB (pWr 259 st.1.2.2.2 s1) fun s2 => mNext bs e (pBits s2) := by
  unfold pPlain
  rw [if_neg (by rw [h]; decide), if_pos h, pInp_m]
theorem pPl_40 (h : st.1.2.2.1 = 40) : pPlain bs e T b i st = pB (pOpen bs e b st) fun s1 => pB (T (b + 1) i s1) fun s2 => pTake bs e 41 s2 := by
  unfold pPlain
  rw [if_neg (by rw [h]; decide), if_neg (by rw [h]; decide), if_pos h]
theorem pPl_264 (h : st.1.2.2.1 = 264) : pPlain bs e T b i st = pB (mPart st) fun s1 => pB (mNext bs e s1) fun s2 => pB (pOpen bs e b s2) fun s3 => pB (T (b + 1) i s3) fun s4 => pB (pTake bs e 44 s4) fun s5 => pB (T (b + 1) i s5) fun s6 => pB (pTake bs e 41 s6) (pWr 264 0) := by
  unfold pPlain
  rw [if_neg (by rw [h]; decide), if_neg (by rw [h]; decide), if_neg (by rw [h]; decide), if_pos h, pPart_m]
  simp only [pB_a, pPair]
theorem pPl_265 (h : st.1.2.2.1 = 265) : pPlain bs e T b i st = pB (mPart st) fun s1 => pB (mNext bs e s1) fun s2 => pB (pOpen bs e b s2) fun s3 => pB (T (b + 1) i s3) fun s4 => pB (pTake bs e 44 s4) fun s5 => pB (T (b + 1) i s5) fun s6 => pB (pTake bs e 41 s6) (pWr 265 0) := by
  unfold pPlain
  rw [if_neg (by rw [h]; decide), if_neg (by rw [h]; decide), if_neg (by rw [h]; decide), if_neg (by rw [h]; decide), if_pos h, pPart_m]
  simp only [pB_a, pPair]
theorem pPl_260 (h : st.1.2.2.1 = 260) : pPlain bs e T b i st = .inl (2, st.1.1) := by
  unfold pPlain
  rw [if_neg (by rw [h]; decide), if_neg (by rw [h]; decide), if_neg (by rw [h]; decide), if_neg (by rw [h]; decide), if_neg (by rw [h]; decide), if_pos h]
theorem pPl_o (h1 : ¬ st.1.2.2.1 = 258) (h2 : ¬ st.1.2.2.1 = 259) (h3 : ¬ st.1.2.2.1 = 40) (h4 : ¬ st.1.2.2.1 = 264) (h5 : ¬ st.1.2.2.1 = 265) (h6 : ¬ st.1.2.2.1 = 260) : pPlain bs e T b i st = .inl (1, st.1.1) := by
  unfold pPlain
  rw [if_neg h1, if_neg h2, if_neg h3, if_neg h4, if_neg h5, if_neg h6]
theorem pPl_w (h : st.1.2.2.1 = 261 ∨ st.1.2.2.1 = 262 ∨ st.1.2.2.1 = 263) : pPlain bs e T b i st = .inl (1, st.1.1) := by
  rcases h with h | h | h <;> exact pPl_o (by rw [h]; decide) (by rw [h]; decide) (by rw [h]; decide) (by rw [h]; decide) (by rw [h]; decide) (by rw [h]; decide)
theorem w262 : (262 : Int32) = nI (261 + 1) := by decide
theorem w263 : (263 : Int32) = nI (261 + 2) := by decide
end
/-- the contract of the reference's readTell -/
def RM (O : bO) (dT lev : Nat) (f : bF) (n s : Nat) (u : Nat → Int32) (q e : Nat) (T : Nat → Nat → pS → pR) : Prop := ∀ (b i k a : Nat) (st : pS) (at_ so mk nu di : Int32) (wo : Int64) (sg vl : Nat → Int32), b ≤ 8 → i ≤ 8 → (8 - b) + (8 - i) < lev → msR e st at_ so mk nu di wo sg vl → okS k a st →
  bCall O mX11_readTell dT [.ref 50] (hMd f u q e st at_ so mk nu di wo b i sg vl, n, s) (rM f n s u q e b i (T b i st))
set_option maxRecDepth 4000 in
theorem c_readWordM {O : bO} {d : Nat} {f : bF} {n s : Nat} {u : Nat → Int32} {q e : Nat} {tg bs : Nat → Int32} {kd sp : Int32} (hq : 5000 ≤ q) (h53 : f 53 = some (.inr (10, [.null, .null, .null, .null, .null, .int 0, .int kd, .int sp]))) (h54 : f 54 = some (.inl (1, 300, .inl tg))) (e0 : e ≤ 300) (hb9 : ∀ z, z < 300 → tg z &&& 255 = bs z) {st : pS} {at_ so mk nu di : Int32} {wo : Int64} {sg vl : Nat → Int32} {b i k a : Nat} (hm : msR e st at_ so mk nu di wo sg vl) (ho : okS k a st) (hso : so = 2) {T : Nat → Nat → pS → pR} {dT lev : Nat} (HT : RM O dT lev f n s u q e T) (hT : okT T) (hb : b ≤ 8) (hi : i ≤ 8) (hl : (8 - b) + (8 - i) ≤ lev) (h20 : 20 ≤ dT) (hd : dT + 1 ≤ d) : bCall O mX11_readWord d [.ref 50] (hMd f u q e st at_ so mk nu di wo b i sg vl, n, s) (rM f n s u q e b i (pPlain bs e T b i st)) := by
  refine bCall_of (by decide) rfl (Nat.le_of_ble_eq_true rfl) ?_
  obtain ⟨o1, o2, o3, o4, o5⟩ := id ho
  have hk7 := (tkR_num hm.2.1).2.2.2.mp hso
  show bV O _ d 0 [(0, .ref 50)] [] (bU (bU (bU (bU f 50 (.inr (11, [.int (u 0), .int (u 1), .int (u 2), .int (u 3), .int (u 4), .ref 51, .ref q, .ref 53, .ref 54, .int (u 5), .int (nI e), .int at_, .int so, .int (nI st.1.1), .int mk, .int nu, .int di, .int (nI b), .int (nI i), .long wo, .ref 55, .ref 56, .int (u 6), .int (u 7), .ref 57, .int (u 8), .ref 58, .ref 59, .ref 60, .ref 61, .ref 62, .ref 63, .int (u 9), .ref 64, .int (u 10)]))) q (.inr (9, [.int (nI st.2.1), .int (nI st.2.2.1.length), .int st.2.2.2, .ref (q + 1), .ref (q + 2)]))) (q + 1) (.inl (0, 122, .inl sg))) (q + 2) (.inl (0, 122, .inl vl)), n, s) _
  refine r_aload_n (n := 0) (i := 0) 0 rfl rfl dX11_readWord_0 ?_
  refine r_ldcS (i := 0) (tx := "if") (by decide) (by decide) dX11_readWord_1 ?_
  refine p_callV (As := [.ref 1]) (rest := []) (kX11_isWord (O := O) (d := 6) (f := bU (bU (bU (bU f 50 (.inr (11, [.int (u 0), .int (u 1), .int (u 2), .int (u 3), .int (u 4), .ref 51, .ref q, .ref 53, .ref 54, .int (u 5), .int (nI e), .int at_, .int so, .int (nI st.1.1), .int mk, .int nu, .int di, .int (nI b), .int (nI i), .long wo, .ref 55, .ref 56, .int (u 6), .int (u 7), .ref 57, .int (u 8), .ref 58, .ref 59, .ref 60, .ref 61, .ref 62, .ref 63, .int (u 9), .ref 64, .int (u 10)]))) q (.inr (9, [.int (nI st.2.1), .int (nI st.2.2.1.length), .int st.2.2.2, .ref (q + 1), .ref (q + 2)]))) (q + 1) (.inl (0, 122, .inl sg))) (q + 2) (.inl (0, 122, .inl vl))) (n := n) (s := s) (q := q) (e := e) (at_ := at_) (so := so) (pl := nI st.1.1) (mk := mk) (nu := nu) (di := di) (br := nI b) (iff := nI i) (wo := wo) (k := st.1.2.2.1) (v := st.1.2.2.2) (i := 0) (by exact ((bU_n (by omega)).trans (((bU_n (by omega)).trans (((bU_n (by omega)).trans (bU_s _ _ _))))))) hm.2.1 (by decide) (Nat.le_refl _)).call rfl lkX11_133 imX11_isWord seX11_isWord rfl (by exact ((bU_n (by omega)).trans (((bU_n (by omega)).trans (((bU_n (by omega)).trans (bU_s _ _ _))))))) rfl rfl (by omega) (Nat.le_of_ble_eq_true rfl) dX11_readWord_3 (fun v9 G9 h9 => ?_) (fun q9 G9 h9 => (by cases h9.1))
  obtain ⟨h8, rfl⟩ := h9; cases h8
  show bV O _ d 6 [(0, .ref 50)] [.int (bI (decide (st.1.2.2.1 = nI (261 + 0))))] (bU (bU (bU (bU f 50 (.inr (11, [.int (u 0), .int (u 1), .int (u 2), .int (u 3), .int (u 4), .ref 51, .ref q, .ref 53, .ref 54, .int (u 5), .int (nI e), .int at_, .int so, .int (nI st.1.1), .int mk, .int nu, .int di, .int (nI b), .int (nI i), .long wo, .ref 55, .ref 56, .int (u 6), .int (u 7), .ref 57, .int (u 8), .ref 58, .ref 59, .ref 60, .ref 61, .ref 62, .ref 63, .int (u 9), .ref 64, .int (u 10)]))) q (.inr (9, [.int (nI st.2.1), .int (nI st.2.2.1.length), .int st.2.2.2, .ref (q + 1), .ref (q + 2)]))) (q + 1) (.inl (0, 122, .inl sg))) (q + 2) (.inl (0, 122, .inl vl)), n, s) _
  refine r_if_ne (tgt := 27) (by decide) dX11_readWord_6 (fun c6 => ?_) (fun c6 => ?_)
  · have c6 := bI_1.mp c6
    first | (have q6 : st.1.2.2.1 = 261 := (by have h7 := of_decide_eq_true c6; rwa [show nI (261 + 0) = 261 by decide] at h7)) | (have q6 : ¬ st.1.2.2.1 = 261 := (by have h7 := of_decide_eq_false c6; rwa [show nI (261 + 0) = 261 by decide] at h7))
    refine r_aload_n (n := 0) (i := 0) 0 rfl rfl dX11_readWord_27 ?_
    refine r_iconst (v := 1) (by decide) dX11_readWord_28 ?_
    refine p_callV (As := [.int 1]) (rest := []) (kX11_stop (O := O) (d := 0) (f := bU (bU (bU (bU f 50 (.inr (11, [.int (u 0), .int (u 1), .int (u 2), .int (u 3), .int (u 4), .ref 51, .ref q, .ref 53, .ref 54, .int (u 5), .int (nI e), .int at_, .int so, .int (nI st.1.1), .int mk, .int nu, .int di, .int (nI b), .int (nI i), .long wo, .ref 55, .ref 56, .int (u 6), .int (u 7), .ref 57, .int (u 8), .ref 58, .ref 59, .ref 60, .ref 61, .ref 62, .ref 63, .int (u 9), .ref 64, .int (u 10)]))) q (.inr (9, [.int (nI st.2.1), .int (nI st.2.2.1.length), .int st.2.2.2, .ref (q + 1), .ref (q + 2)]))) (q + 1) (.inl (0, 122, .inl sg))) (q + 2) (.inl (0, 122, .inl vl))) (n := n) (s := s) (q := q) (e := e) (at_ := at_) (so := so) (pl := nI st.1.1) (mk := mk) (nu := nu) (di := di) (br := nI b) (iff := nI i) (wo := wo) (x := 1) (kd := kd) (sp := sp) (by exact ((bU_n (by omega)).trans (((bU_n (by omega)).trans (((bU_n (by omega)).trans (bU_s _ _ _))))))) (by exact ((bU_n (by omega)).trans (((bU_n (by omega)).trans (((bU_n (by omega)).trans (((bU_n (by decide)).trans (h53)))))))))  (Nat.le_refl _)).call rfl lkX11_137 imX11_stop seX11_stop rfl (by exact ((bU_n (by omega)).trans (((bU_n (by omega)).trans (((bU_n (by omega)).trans (bU_s _ _ _))))))) rfl rfl (by omega) (Nat.le_of_ble_eq_true rfl) dX11_readWord_29 (fun v9 G9 h9 => ?_) (fun q9 G9 h9 => (by cases h9.1))
    obtain ⟨h8, rfl⟩ := h9; cases h8
    show bV O _ d 32 [(0, .ref 50)] [.ref 53] (bU (bU (bU (bU (bU f 50 (.inr (11, [.int (u 0), .int (u 1), .int (u 2), .int (u 3), .int (u 4), .ref 51, .ref q, .ref 53, .ref 54, .int (u 5), .int (nI e), .int at_, .int so, .int (nI st.1.1), .int mk, .int nu, .int di, .int (nI b), .int (nI i), .long wo, .ref 55, .ref 56, .int (u 6), .int (u 7), .ref 57, .int (u 8), .ref 58, .ref 59, .ref 60, .ref 61, .ref 62, .ref 63, .int (u 9), .ref 64, .int (u 10)]))) q (.inr (9, [.int (nI st.2.1), .int (nI st.2.2.1.length), .int st.2.2.2, .ref (q + 1), .ref (q + 2)]))) (q + 1) (.inl (0, 122, .inl sg))) (q + 2) (.inl (0, 122, .inl vl))) 53 (.inr (10, [.null, .null, .null, .null, .null, .int 0, .int 1, .int (nI st.1.1)])), n, s) _
    refine p_athrow (by decide) (by exact bU_s _ _ _) rfl (fun x hx => by cases hx) dX11_readWord_32 ?_
    rw [show pPlain bs e T b i st = .inl (1, st.1.1) by exact pPl_w (Or.inl q6)]
    exact ⟨rfl, _, _, _, _, _, _, _, _, _, _, _, _, _, _, rfl⟩
  · have c6 := bI_0.mp c6
    first | (have q6 : st.1.2.2.1 = 261 := (by have h7 := of_decide_eq_true c6; rwa [show nI (261 + 0) = 261 by decide] at h7)) | (have q6 : ¬ st.1.2.2.1 = 261 := (by have h7 := of_decide_eq_false c6; rwa [show nI (261 + 0) = 261 by decide] at h7))
    refine r_aload_n (n := 0) (i := 0) 0 rfl rfl dX11_readWord_9 ?_
    refine r_ldcS (i := 1) (tx := "then") (by decide) (by decide) dX11_readWord_10 ?_
    refine p_callV (As := [.ref 2]) (rest := []) (kX11_isWord (O := O) (d := 6) (f := bU (bU (bU (bU f 50 (.inr (11, [.int (u 0), .int (u 1), .int (u 2), .int (u 3), .int (u 4), .ref 51, .ref q, .ref 53, .ref 54, .int (u 5), .int (nI e), .int at_, .int so, .int (nI st.1.1), .int mk, .int nu, .int di, .int (nI b), .int (nI i), .long wo, .ref 55, .ref 56, .int (u 6), .int (u 7), .ref 57, .int (u 8), .ref 58, .ref 59, .ref 60, .ref 61, .ref 62, .ref 63, .int (u 9), .ref 64, .int (u 10)]))) q (.inr (9, [.int (nI st.2.1), .int (nI st.2.2.1.length), .int st.2.2.2, .ref (q + 1), .ref (q + 2)]))) (q + 1) (.inl (0, 122, .inl sg))) (q + 2) (.inl (0, 122, .inl vl))) (n := n) (s := s) (q := q) (e := e) (at_ := at_) (so := so) (pl := nI st.1.1) (mk := mk) (nu := nu) (di := di) (br := nI b) (iff := nI i) (wo := wo) (k := st.1.2.2.1) (v := st.1.2.2.2) (i := 1) (by exact ((bU_n (by omega)).trans (((bU_n (by omega)).trans (((bU_n (by omega)).trans (bU_s _ _ _))))))) hm.2.1 (by decide) (Nat.le_refl _)).call rfl lkX11_133 imX11_isWord seX11_isWord rfl (by exact ((bU_n (by omega)).trans (((bU_n (by omega)).trans (((bU_n (by omega)).trans (bU_s _ _ _))))))) rfl rfl (by omega) (Nat.le_of_ble_eq_true rfl) dX11_readWord_12 (fun v9 G9 h9 => ?_) (fun q9 G9 h9 => (by cases h9.1))
    obtain ⟨h8, rfl⟩ := h9; cases h8
    show bV O _ d 15 [(0, .ref 50)] [.int (bI (decide (st.1.2.2.1 = nI (261 + 1))))] (bU (bU (bU (bU f 50 (.inr (11, [.int (u 0), .int (u 1), .int (u 2), .int (u 3), .int (u 4), .ref 51, .ref q, .ref 53, .ref 54, .int (u 5), .int (nI e), .int at_, .int so, .int (nI st.1.1), .int mk, .int nu, .int di, .int (nI b), .int (nI i), .long wo, .ref 55, .ref 56, .int (u 6), .int (u 7), .ref 57, .int (u 8), .ref 58, .ref 59, .ref 60, .ref 61, .ref 62, .ref 63, .int (u 9), .ref 64, .int (u 10)]))) q (.inr (9, [.int (nI st.2.1), .int (nI st.2.2.1.length), .int st.2.2.2, .ref (q + 1), .ref (q + 2)]))) (q + 1) (.inl (0, 122, .inl sg))) (q + 2) (.inl (0, 122, .inl vl)), n, s) _
    refine r_if_ne (tgt := 27) (by decide) dX11_readWord_15 (fun c15 => ?_) (fun c15 => ?_)
    · have c15 := bI_1.mp c15
      first | (have q15 : st.1.2.2.1 = 262 := (by have h7 := of_decide_eq_true c15; rwa [show nI (261 + 1) = 262 by decide] at h7)) | (have q15 : ¬ st.1.2.2.1 = 262 := (by have h7 := of_decide_eq_false c15; rwa [show nI (261 + 1) = 262 by decide] at h7))
      refine r_aload_n (n := 0) (i := 0) 0 rfl rfl dX11_readWord_27 ?_
      refine r_iconst (v := 1) (by decide) dX11_readWord_28 ?_
      refine p_callV (As := [.int 1]) (rest := []) (kX11_stop (O := O) (d := 0) (f := bU (bU (bU (bU f 50 (.inr (11, [.int (u 0), .int (u 1), .int (u 2), .int (u 3), .int (u 4), .ref 51, .ref q, .ref 53, .ref 54, .int (u 5), .int (nI e), .int at_, .int so, .int (nI st.1.1), .int mk, .int nu, .int di, .int (nI b), .int (nI i), .long wo, .ref 55, .ref 56, .int (u 6), .int (u 7), .ref 57, .int (u 8), .ref 58, .ref 59, .ref 60, .ref 61, .ref 62, .ref 63, .int (u 9), .ref 64, .int (u 10)]))) q (.inr (9, [.int (nI st.2.1), .int (nI st.2.2.1.length), .int st.2.2.2, .ref (q + 1), .ref (q + 2)]))) (q + 1) (.inl (0, 122, .inl sg))) (q + 2) (.inl (0, 122, .inl vl))) (n := n) (s := s) (q := q) (e := e) (at_ := at_) (so := so) (pl := nI st.1.1) (mk := mk) (nu := nu) (di := di) (br := nI b) (iff := nI i) (wo := wo) (x := 1) (kd := kd) (sp := sp) (by exact ((bU_n (by omega)).trans (((bU_n (by omega)).trans (((bU_n (by omega)).trans (bU_s _ _ _))))))) (by exact ((bU_n (by omega)).trans (((bU_n (by omega)).trans (((bU_n (by omega)).trans (((bU_n (by decide)).trans (h53)))))))))  (Nat.le_refl _)).call rfl lkX11_137 imX11_stop seX11_stop rfl (by exact ((bU_n (by omega)).trans (((bU_n (by omega)).trans (((bU_n (by omega)).trans (bU_s _ _ _))))))) rfl rfl (by omega) (Nat.le_of_ble_eq_true rfl) dX11_readWord_29 (fun v9 G9 h9 => ?_) (fun q9 G9 h9 => (by cases h9.1))
      obtain ⟨h8, rfl⟩ := h9; cases h8
      show bV O _ d 32 [(0, .ref 50)] [.ref 53] (bU (bU (bU (bU (bU f 50 (.inr (11, [.int (u 0), .int (u 1), .int (u 2), .int (u 3), .int (u 4), .ref 51, .ref q, .ref 53, .ref 54, .int (u 5), .int (nI e), .int at_, .int so, .int (nI st.1.1), .int mk, .int nu, .int di, .int (nI b), .int (nI i), .long wo, .ref 55, .ref 56, .int (u 6), .int (u 7), .ref 57, .int (u 8), .ref 58, .ref 59, .ref 60, .ref 61, .ref 62, .ref 63, .int (u 9), .ref 64, .int (u 10)]))) q (.inr (9, [.int (nI st.2.1), .int (nI st.2.2.1.length), .int st.2.2.2, .ref (q + 1), .ref (q + 2)]))) (q + 1) (.inl (0, 122, .inl sg))) (q + 2) (.inl (0, 122, .inl vl))) 53 (.inr (10, [.null, .null, .null, .null, .null, .int 0, .int 1, .int (nI st.1.1)])), n, s) _
      refine p_athrow (by decide) (by exact bU_s _ _ _) rfl (fun x hx => by cases hx) dX11_readWord_32 ?_
      rw [show pPlain bs e T b i st = .inl (1, st.1.1) by exact pPl_w (Or.inr (Or.inl q15))]
      exact ⟨rfl, _, _, _, _, _, _, _, _, _, _, _, _, _, _, rfl⟩
    · have c15 := bI_0.mp c15
      first | (have q15 : st.1.2.2.1 = 262 := (by have h7 := of_decide_eq_true c15; rwa [show nI (261 + 1) = 262 by decide] at h7)) | (have q15 : ¬ st.1.2.2.1 = 262 := (by have h7 := of_decide_eq_false c15; rwa [show nI (261 + 1) = 262 by decide] at h7))
      refine r_aload_n (n := 0) (i := 0) 0 rfl rfl dX11_readWord_18 ?_
      refine r_ldcS (i := 2) (tx := "else") (by decide) (by decide) dX11_readWord_19 ?_
      refine p_callV (As := [.ref 3]) (rest := []) (kX11_isWord (O := O) (d := 6) (f := bU (bU (bU (bU f 50 (.inr (11, [.int (u 0), .int (u 1), .int (u 2), .int (u 3), .int (u 4), .ref 51, .ref q, .ref 53, .ref 54, .int (u 5), .int (nI e), .int at_, .int so, .int (nI st.1.1), .int mk, .int nu, .int di, .int (nI b), .int (nI i), .long wo, .ref 55, .ref 56, .int (u 6), .int (u 7), .ref 57, .int (u 8), .ref 58, .ref 59, .ref 60, .ref 61, .ref 62, .ref 63, .int (u 9), .ref 64, .int (u 10)]))) q (.inr (9, [.int (nI st.2.1), .int (nI st.2.2.1.length), .int st.2.2.2, .ref (q + 1), .ref (q + 2)]))) (q + 1) (.inl (0, 122, .inl sg))) (q + 2) (.inl (0, 122, .inl vl))) (n := n) (s := s) (q := q) (e := e) (at_ := at_) (so := so) (pl := nI st.1.1) (mk := mk) (nu := nu) (di := di) (br := nI b) (iff := nI i) (wo := wo) (k := st.1.2.2.1) (v := st.1.2.2.2) (i := 2) (by exact ((bU_n (by omega)).trans (((bU_n (by omega)).trans (((bU_n (by omega)).trans (bU_s _ _ _))))))) hm.2.1 (by decide) (Nat.le_refl _)).call rfl lkX11_133 imX11_isWord seX11_isWord rfl (by exact ((bU_n (by omega)).trans (((bU_n (by omega)).trans (((bU_n (by omega)).trans (bU_s _ _ _))))))) rfl rfl (by omega) (Nat.le_of_ble_eq_true rfl) dX11_readWord_21 (fun v9 G9 h9 => ?_) (fun q9 G9 h9 => (by cases h9.1))
      obtain ⟨h8, rfl⟩ := h9; cases h8
      show bV O _ d 24 [(0, .ref 50)] [.int (bI (decide (st.1.2.2.1 = nI (261 + 2))))] (bU (bU (bU (bU f 50 (.inr (11, [.int (u 0), .int (u 1), .int (u 2), .int (u 3), .int (u 4), .ref 51, .ref q, .ref 53, .ref 54, .int (u 5), .int (nI e), .int at_, .int so, .int (nI st.1.1), .int mk, .int nu, .int di, .int (nI b), .int (nI i), .long wo, .ref 55, .ref 56, .int (u 6), .int (u 7), .ref 57, .int (u 8), .ref 58, .ref 59, .ref 60, .ref 61, .ref 62, .ref 63, .int (u 9), .ref 64, .int (u 10)]))) q (.inr (9, [.int (nI st.2.1), .int (nI st.2.2.1.length), .int st.2.2.2, .ref (q + 1), .ref (q + 2)]))) (q + 1) (.inl (0, 122, .inl sg))) (q + 2) (.inl (0, 122, .inl vl)), n, s) _
      refine r_if_eq (tgt := 33) (by decide) dX11_readWord_24 (fun c24 => ?_) (fun c24 => ?_)
      · have c24 := bI_0.mp c24
        first | (have q24 : st.1.2.2.1 = 263 := (by have h7 := of_decide_eq_true c24; rwa [show nI (261 + 2) = 263 by decide] at h7)) | (have q24 : ¬ st.1.2.2.1 = 263 := (by have h7 := of_decide_eq_false c24; rwa [show nI (261 + 2) = 263 by decide] at h7))
        refine r_aload_n (n := 0) (i := 0) 0 rfl rfl dX11_readWord_33 ?_
        refine r_ldcS (i := 3) (tx := "least") (by decide) (by decide) dX11_readWord_34 ?_
        refine p_callV (As := [.ref 4]) (rest := []) (kX11_isWord (O := O) (d := 6) (f := bU (bU (bU (bU f 50 (.inr (11, [.int (u 0), .int (u 1), .int (u 2), .int (u 3), .int (u 4), .ref 51, .ref q, .ref 53, .ref 54, .int (u 5), .int (nI e), .int at_, .int so, .int (nI st.1.1), .int mk, .int nu, .int di, .int (nI b), .int (nI i), .long wo, .ref 55, .ref 56, .int (u 6), .int (u 7), .ref 57, .int (u 8), .ref 58, .ref 59, .ref 60, .ref 61, .ref 62, .ref 63, .int (u 9), .ref 64, .int (u 10)]))) q (.inr (9, [.int (nI st.2.1), .int (nI st.2.2.1.length), .int st.2.2.2, .ref (q + 1), .ref (q + 2)]))) (q + 1) (.inl (0, 122, .inl sg))) (q + 2) (.inl (0, 122, .inl vl))) (n := n) (s := s) (q := q) (e := e) (at_ := at_) (so := so) (pl := nI st.1.1) (mk := mk) (nu := nu) (di := di) (br := nI b) (iff := nI i) (wo := wo) (k := st.1.2.2.1) (v := st.1.2.2.2) (i := 3) (by exact ((bU_n (by omega)).trans (((bU_n (by omega)).trans (((bU_n (by omega)).trans (bU_s _ _ _))))))) hm.2.1 (by decide) (Nat.le_refl _)).call rfl lkX11_133 imX11_isWord seX11_isWord rfl (by exact ((bU_n (by omega)).trans (((bU_n (by omega)).trans (((bU_n (by omega)).trans (bU_s _ _ _))))))) rfl rfl (by omega) (Nat.le_of_ble_eq_true rfl) dX11_readWord_36 (fun v9 G9 h9 => ?_) (fun q9 G9 h9 => (by cases h9.1))
        obtain ⟨h8, rfl⟩ := h9; cases h8
        show bV O _ d 39 [(0, .ref 50)] [.int (bI (decide (st.1.2.2.1 = nI (261 + 3))))] (bU (bU (bU (bU f 50 (.inr (11, [.int (u 0), .int (u 1), .int (u 2), .int (u 3), .int (u 4), .ref 51, .ref q, .ref 53, .ref 54, .int (u 5), .int (nI e), .int at_, .int so, .int (nI st.1.1), .int mk, .int nu, .int di, .int (nI b), .int (nI i), .long wo, .ref 55, .ref 56, .int (u 6), .int (u 7), .ref 57, .int (u 8), .ref 58, .ref 59, .ref 60, .ref 61, .ref 62, .ref 63, .int (u 9), .ref 64, .int (u 10)]))) q (.inr (9, [.int (nI st.2.1), .int (nI st.2.2.1.length), .int st.2.2.2, .ref (q + 1), .ref (q + 2)]))) (q + 1) (.inl (0, 122, .inl sg))) (q + 2) (.inl (0, 122, .inl vl)), n, s) _
        refine r_if_ne (tgt := 51) (by decide) dX11_readWord_39 (fun c39 => ?_) (fun c39 => ?_)
        · have c39 := bI_1.mp c39
          first | (have q39 : st.1.2.2.1 = 264 := (by have h7 := of_decide_eq_true c39; rwa [show nI (261 + 3) = 264 by decide] at h7)) | (have q39 : ¬ st.1.2.2.1 = 264 := (by have h7 := of_decide_eq_false c39; rwa [show nI (261 + 3) = 264 by decide] at h7))
          refine r_aload_n (n := 0) (i := 0) 0 rfl rfl dX11_readWord_51 ?_
          refine r_ldcS (i := 3) (tx := "least") (by decide) (by decide) dX11_readWord_52 ?_
          refine p_callV (As := [.ref 4]) (rest := []) (kX11_isWord (O := O) (d := 6) (f := bU (bU (bU (bU f 50 (.inr (11, [.int (u 0), .int (u 1), .int (u 2), .int (u 3), .int (u 4), .ref 51, .ref q, .ref 53, .ref 54, .int (u 5), .int (nI e), .int at_, .int so, .int (nI st.1.1), .int mk, .int nu, .int di, .int (nI b), .int (nI i), .long wo, .ref 55, .ref 56, .int (u 6), .int (u 7), .ref 57, .int (u 8), .ref 58, .ref 59, .ref 60, .ref 61, .ref 62, .ref 63, .int (u 9), .ref 64, .int (u 10)]))) q (.inr (9, [.int (nI st.2.1), .int (nI st.2.2.1.length), .int st.2.2.2, .ref (q + 1), .ref (q + 2)]))) (q + 1) (.inl (0, 122, .inl sg))) (q + 2) (.inl (0, 122, .inl vl))) (n := n) (s := s) (q := q) (e := e) (at_ := at_) (so := so) (pl := nI st.1.1) (mk := mk) (nu := nu) (di := di) (br := nI b) (iff := nI i) (wo := wo) (k := st.1.2.2.1) (v := st.1.2.2.2) (i := 3) (by exact ((bU_n (by omega)).trans (((bU_n (by omega)).trans (((bU_n (by omega)).trans (bU_s _ _ _))))))) hm.2.1 (by decide) (Nat.le_refl _)).call rfl lkX11_133 imX11_isWord seX11_isWord rfl (by exact ((bU_n (by omega)).trans (((bU_n (by omega)).trans (((bU_n (by omega)).trans (bU_s _ _ _))))))) rfl rfl (by omega) (Nat.le_of_ble_eq_true rfl) dX11_readWord_54 (fun v9 G9 h9 => ?_) (fun q9 G9 h9 => (by cases h9.1))
          obtain ⟨h8, rfl⟩ := h9; cases h8
          show bV O _ d 57 [(0, .ref 50)] [.int (bI (decide (st.1.2.2.1 = nI (261 + 3))))] (bU (bU (bU (bU f 50 (.inr (11, [.int (u 0), .int (u 1), .int (u 2), .int (u 3), .int (u 4), .ref 51, .ref q, .ref 53, .ref 54, .int (u 5), .int (nI e), .int at_, .int so, .int (nI st.1.1), .int mk, .int nu, .int di, .int (nI b), .int (nI i), .long wo, .ref 55, .ref 56, .int (u 6), .int (u 7), .ref 57, .int (u 8), .ref 58, .ref 59, .ref 60, .ref 61, .ref 62, .ref 63, .int (u 9), .ref 64, .int (u 10)]))) q (.inr (9, [.int (nI st.2.1), .int (nI st.2.2.1.length), .int st.2.2.2, .ref (q + 1), .ref (q + 2)]))) (q + 1) (.inl (0, 122, .inl sg))) (q + 2) (.inl (0, 122, .inl vl)), n, s) _
          refine r_if_eq (tgt := 65) (by decide) dX11_readWord_57 (fun h9 => absurd h9 (bI_1.mpr c39)) (fun _ => ?_)
          refine r_bipush (v := 9) (by decide) dX11_readWord_60 ?_
          refine r_goto (tgt := 67) (by decide) dX11_readWord_62 ?_
          refine r_istore_n (n := 1) (i := 1) (L' := [(1, .int 9), (0, .ref 50)]) rfl dX11_readWord_67 (by decide) rfl ?_
          refine r_aload_n (n := 0) (i := 0) 1 rfl rfl dX11_readWord_68 ?_
          refine p_callV (As := []) (rest := []) (c_part (d := 1) hq h53 h54 e0 hb9 hm ho (Nat.le_refl _)) rfl lkX11_160 imX11_part seX11_part rfl (by exact ((bU_n (by omega)).trans (((bU_n (by omega)).trans (((bU_n (by omega)).trans (bU_s _ _ _))))))) rfl rfl (by omega) (Nat.le_of_ble_eq_true rfl) dX11_readWord_69 (fun v9 G9 h9 => ?_) (fun q9 G9 h9 => ⟨(fun x9 hx9 => by cases hx9), ?_⟩)
          · rcases hR1 : mPart st with ⟨ft1, pl1⟩ | st1
            · rw [hR1] at h9; cases h9.1
            · rw [hR1] at h9; obtain ⟨h8, at1, so1, mk1, nu1, di1, wo1, sg1, vl1, hm1, rfl⟩ := h9; cases h8
              have ho1 : okS (k + 1) (a + 1) st1 := mPart_ok ho hR1
              obtain ⟨p11, p21, p31, p41, p51⟩ := id ho1
              have t1 := mPart_t hR1
              show bV O _ d 72 [(1, .int 9), (0, .ref 50)] [] (bU (bU (bU (bU f 50 (.inr (11, [.int (u 0), .int (u 1), .int (u 2), .int (u 3), .int (u 4), .ref 51, .ref q, .ref 53, .ref 54, .int (u 5), .int (nI e), .int at1, .int so1, .int (nI st1.1.1), .int mk1, .int nu1, .int di1, .int (nI b), .int (nI i), .long wo1, .ref 55, .ref 56, .int (u 6), .int (u 7), .ref 57, .int (u 8), .ref 58, .ref 59, .ref 60, .ref 61, .ref 62, .ref 63, .int (u 9), .ref 64, .int (u 10)]))) q (.inr (9, [.int (nI st1.2.1), .int (nI st1.2.2.1.length), .int st1.2.2.2, .ref (q + 1), .ref (q + 2)]))) (q + 1) (.inl (0, 122, .inl sg1))) (q + 2) (.inl (0, 122, .inl vl1)), n, s) _
              refine r_aload_n (n := 0) (i := 0) 1 rfl rfl dX11_readWord_72 ?_
              refine p_callV (As := []) (rest := []) (c_nextM (d := 1) hq h53 h54 e0 hb9 hm1 ho1 (by simp only [t1, q6, q15, q24, q39] <;> decide) (Nat.le_refl _)) rfl lkX11_140 imX11_next seX11_next rfl (by exact ((bU_n (by omega)).trans (((bU_n (by omega)).trans (((bU_n (by omega)).trans (bU_s _ _ _))))))) rfl rfl (by omega) (Nat.le_of_ble_eq_true rfl) dX11_readWord_73 (fun v9 G9 h9 => ?_) (fun q9 G9 h9 => ⟨(fun x9 hx9 => by cases hx9), ?_⟩)
              · rcases hR2 : mNext bs e st1 with ⟨ft2, pl2⟩ | st2
                · rw [hR2] at h9; cases h9.1
                · rw [hR2] at h9; obtain ⟨h8, at2, so2, mk2, nu2, di2, wo2, sg2, vl2, hm2, rfl⟩ := h9; cases h8
                  have ho2 : okS (k + 1) (a + 1) st2 := mNext_ok e0 ho1 hR2
                  obtain ⟨p12, p22, p32, p42, p52⟩ := id ho2
                  show bV O _ d 76 [(1, .int 9), (0, .ref 50)] [] (bU (bU (bU (bU f 50 (.inr (11, [.int (u 0), .int (u 1), .int (u 2), .int (u 3), .int (u 4), .ref 51, .ref q, .ref 53, .ref 54, .int (u 5), .int (nI e), .int at2, .int so2, .int (nI st2.1.1), .int mk2, .int nu2, .int di2, .int (nI b), .int (nI i), .long wo2, .ref 55, .ref 56, .int (u 6), .int (u 7), .ref 57, .int (u 8), .ref 58, .ref 59, .ref 60, .ref 61, .ref 62, .ref 63, .int (u 9), .ref 64, .int (u 10)]))) q (.inr (9, [.int (nI st2.2.1), .int (nI st2.2.2.1.length), .int st2.2.2.2, .ref (q + 1), .ref (q + 2)]))) (q + 1) (.inl (0, 122, .inl sg2))) (q + 2) (.inl (0, 122, .inl vl2)), n, s) _
                  refine r_aload_n (n := 0) (i := 0) 1 rfl rfl dX11_readWord_76 ?_
                  refine p_callV (As := []) (rest := []) (c_opens (d := 2) hq h53 h54 e0 hb9 hm2 ho2 (b := b) (by omega) (Nat.le_refl _)) rfl lkX11_184 imX11_opens seX11_opens rfl (by exact ((bU_n (by omega)).trans (((bU_n (by omega)).trans (((bU_n (by omega)).trans (bU_s _ _ _))))))) rfl rfl (by omega) (Nat.le_of_ble_eq_true rfl) dX11_readWord_77 (fun v9 G9 h9 => ?_) (fun q9 G9 h9 => ⟨(fun x9 hx9 => by cases hx9), ?_⟩)
                  · rcases hR3 : pOpen bs e b st2 with ⟨ft3, pl3⟩ | st3
                    · rw [hR3] at h9; cases h9.1
                    · rw [hR3] at h9; obtain ⟨h8, at3, so3, mk3, nu3, di3, wo3, sg3, vl3, hm3, rfl⟩ := h9; cases h8
                      have ho3 : okS (k + 1) (a + 1) st3 := pOpen_ok e0 ho2 hR3
                      obtain ⟨p13, p23, p33, p43, p53⟩ := id ho3
                      have hb8 := pOpen_b hR3
                      show bV O _ d 80 [(1, .int 9), (0, .ref 50)] [] (bU (bU (bU (bU f 50 (.inr (11, [.int (u 0), .int (u 1), .int (u 2), .int (u 3), .int (u 4), .ref 51, .ref q, .ref 53, .ref 54, .int (u 5), .int (nI e), .int at3, .int so3, .int (nI st3.1.1), .int mk3, .int nu3, .int di3, .int (nI (b + 1)), .int (nI i), .long wo3, .ref 55, .ref 56, .int (u 6), .int (u 7), .ref 57, .int (u 8), .ref 58, .ref 59, .ref 60, .ref 61, .ref 62, .ref 63, .int (u 9), .ref 64, .int (u 10)]))) q (.inr (9, [.int (nI st3.2.1), .int (nI st3.2.2.1.length), .int st3.2.2.2, .ref (q + 1), .ref (q + 2)]))) (q + 1) (.inl (0, 122, .inl sg3))) (q + 2) (.inl (0, 122, .inl vl3)), n, s) _
                      refine r_aload_n (n := 0) (i := 0) 1 rfl rfl dX11_readWord_80 ?_
                      refine p_callV (As := []) (rest := []) (HT (b + 1) i _ _ st3 _ _ _ _ _ _ _ _ (by omega) (by omega) (by omega) hm3 ho3) rfl lkX11_173 imX11_readTell seX11_readTell rfl (by exact ((bU_n (by omega)).trans (((bU_n (by omega)).trans (((bU_n (by omega)).trans (bU_s _ _ _))))))) rfl rfl (by omega) (Nat.le_of_ble_eq_true rfl) dX11_readWord_81 (fun v9 G9 h9 => ?_) (fun q9 G9 h9 => ⟨(fun x9 hx9 => by cases hx9), ?_⟩)
                      · rcases hR4 : T (b + 1) i st3 with ⟨ft4, pl4⟩ | st4
                        · rw [hR4] at h9; cases h9.1
                        · rw [hR4] at h9; obtain ⟨h8, at4, so4, mk4, nu4, di4, wo4, sg4, vl4, hm4, rfl⟩ := h9; cases h8
                          have ho4 : okS (k + 1) (a + 1) st4 := hT _ _ _ _ _ _ ho3 hR4
                          obtain ⟨p14, p24, p34, p44, p54⟩ := id ho4
                          show bV O _ d 84 [(1, .int 9), (0, .ref 50)] [] (bU (bU (bU (bU f 50 (.inr (11, [.int (u 0), .int (u 1), .int (u 2), .int (u 3), .int (u 4), .ref 51, .ref q, .ref 53, .ref 54, .int (u 5), .int (nI e), .int at4, .int so4, .int (nI st4.1.1), .int mk4, .int nu4, .int di4, .int (nI (b + 1)), .int (nI i), .long wo4, .ref 55, .ref 56, .int (u 6), .int (u 7), .ref 57, .int (u 8), .ref 58, .ref 59, .ref 60, .ref 61, .ref 62, .ref 63, .int (u 9), .ref 64, .int (u 10)]))) q (.inr (9, [.int (nI st4.2.1), .int (nI st4.2.2.1.length), .int st4.2.2.2, .ref (q + 1), .ref (q + 2)]))) (q + 1) (.inl (0, 122, .inl sg4))) (q + 2) (.inl (0, 122, .inl vl4)), n, s) _
                          refine r_aload_n (n := 0) (i := 0) 1 rfl rfl dX11_readWord_84 ?_
                          refine r_bipush (v := 44) (by decide) dX11_readWord_85 ?_
                          refine p_callV (As := [.int 44]) (rest := []) (c_need (d := 2) hq h53 h54 e0 hb9 hm4 ho4 (y9 := 44) (by decide) (Nat.le_refl _)) rfl lkX11_187 imX11_need seX11_need rfl (by exact ((bU_n (by omega)).trans (((bU_n (by omega)).trans (((bU_n (by omega)).trans (bU_s _ _ _))))))) rfl rfl (by omega) (Nat.le_of_ble_eq_true rfl) dX11_readWord_87 (fun v9 G9 h9 => ?_) (fun q9 G9 h9 => ⟨(fun x9 hx9 => by cases hx9), ?_⟩)
                          · rcases hR5 : pTake bs e 44 st4 with ⟨ft5, pl5⟩ | st5
                            · rw [hR5] at h9; cases h9.1
                            · rw [hR5] at h9; obtain ⟨h8, at5, so5, mk5, nu5, di5, wo5, sg5, vl5, hm5, rfl⟩ := h9; cases h8
                              have ho5 : okS (k + 1) (a + 1) st5 := pTake_ok e0 ho4 hR5
                              obtain ⟨p15, p25, p35, p45, p55⟩ := id ho5
                              show bV O _ d 90 [(1, .int 9), (0, .ref 50)] [] (bU (bU (bU (bU f 50 (.inr (11, [.int (u 0), .int (u 1), .int (u 2), .int (u 3), .int (u 4), .ref 51, .ref q, .ref 53, .ref 54, .int (u 5), .int (nI e), .int at5, .int so5, .int (nI st5.1.1), .int mk5, .int nu5, .int di5, .int (nI (b + 1)), .int (nI i), .long wo5, .ref 55, .ref 56, .int (u 6), .int (u 7), .ref 57, .int (u 8), .ref 58, .ref 59, .ref 60, .ref 61, .ref 62, .ref 63, .int (u 9), .ref 64, .int (u 10)]))) q (.inr (9, [.int (nI st5.2.1), .int (nI st5.2.2.1.length), .int st5.2.2.2, .ref (q + 1), .ref (q + 2)]))) (q + 1) (.inl (0, 122, .inl sg5))) (q + 2) (.inl (0, 122, .inl vl5)), n, s) _
                              refine r_aload_n (n := 0) (i := 0) 1 rfl rfl dX11_readWord_90 ?_
                              refine p_callV (As := []) (rest := []) (HT (b + 1) i _ _ st5 _ _ _ _ _ _ _ _ (by omega) (by omega) (by omega) hm5 ho5) rfl lkX11_173 imX11_readTell seX11_readTell rfl (by exact ((bU_n (by omega)).trans (((bU_n (by omega)).trans (((bU_n (by omega)).trans (bU_s _ _ _))))))) rfl rfl (by omega) (Nat.le_of_ble_eq_true rfl) dX11_readWord_91 (fun v9 G9 h9 => ?_) (fun q9 G9 h9 => ⟨(fun x9 hx9 => by cases hx9), ?_⟩)
                              · rcases hR6 : T (b + 1) i st5 with ⟨ft6, pl6⟩ | st6
                                · rw [hR6] at h9; cases h9.1
                                · rw [hR6] at h9; obtain ⟨h8, at6, so6, mk6, nu6, di6, wo6, sg6, vl6, hm6, rfl⟩ := h9; cases h8
                                  have ho6 : okS (k + 1) (a + 1) st6 := hT _ _ _ _ _ _ ho5 hR6
                                  obtain ⟨p16, p26, p36, p46, p56⟩ := id ho6
                                  show bV O _ d 94 [(1, .int 9), (0, .ref 50)] [] (bU (bU (bU (bU f 50 (.inr (11, [.int (u 0), .int (u 1), .int (u 2), .int (u 3), .int (u 4), .ref 51, .ref q, .ref 53, .ref 54, .int (u 5), .int (nI e), .int at6, .int so6, .int (nI st6.1.1), .int mk6, .int nu6, .int di6, .int (nI (b + 1)), .int (nI i), .long wo6, .ref 55, .ref 56, .int (u 6), .int (u 7), .ref 57, .int (u 8), .ref 58, .ref 59, .ref 60, .ref 61, .ref 62, .ref 63, .int (u 9), .ref 64, .int (u 10)]))) q (.inr (9, [.int (nI st6.2.1), .int (nI st6.2.2.1.length), .int st6.2.2.2, .ref (q + 1), .ref (q + 2)]))) (q + 1) (.inl (0, 122, .inl sg6))) (q + 2) (.inl (0, 122, .inl vl6)), n, s) _
                                  refine r_aload_n (n := 0) (i := 0) 1 rfl rfl dX11_readWord_94 ?_
                                  refine r_bipush (v := 41) (by decide) dX11_readWord_95 ?_
                                  refine p_callV (As := [.int 41]) (rest := []) (c_need (d := 2) hq h53 h54 e0 hb9 hm6 ho6 (y9 := 41) (by decide) (Nat.le_refl _)) rfl lkX11_187 imX11_need seX11_need rfl (by exact ((bU_n (by omega)).trans (((bU_n (by omega)).trans (((bU_n (by omega)).trans (bU_s _ _ _))))))) rfl rfl (by omega) (Nat.le_of_ble_eq_true rfl) dX11_readWord_97 (fun v9 G9 h9 => ?_) (fun q9 G9 h9 => ⟨(fun x9 hx9 => by cases hx9), ?_⟩)
                                  · rcases hR7 : pTake bs e 41 st6 with ⟨ft7, pl7⟩ | st7
                                    · rw [hR7] at h9; cases h9.1
                                    · rw [hR7] at h9; obtain ⟨h8, at7, so7, mk7, nu7, di7, wo7, sg7, vl7, hm7, rfl⟩ := h9; cases h8
                                      have ho7 : okS (k + 1) (a + 1) st7 := pTake_ok e0 ho6 hR7
                                      obtain ⟨p17, p27, p37, p47, p57⟩ := id ho7
                                      show bV O _ d 100 [(1, .int 9), (0, .ref 50)] [] (bU (bU (bU (bU f 50 (.inr (11, [.int (u 0), .int (u 1), .int (u 2), .int (u 3), .int (u 4), .ref 51, .ref q, .ref 53, .ref 54, .int (u 5), .int (nI e), .int at7, .int so7, .int (nI st7.1.1), .int mk7, .int nu7, .int di7, .int (nI (b + 1)), .int (nI i), .long wo7, .ref 55, .ref 56, .int (u 6), .int (u 7), .ref 57, .int (u 8), .ref 58, .ref 59, .ref 60, .ref 61, .ref 62, .ref 63, .int (u 9), .ref 64, .int (u 10)]))) q (.inr (9, [.int (nI st7.2.1), .int (nI st7.2.2.1.length), .int st7.2.2.2, .ref (q + 1), .ref (q + 2)]))) (q + 1) (.inl (0, 122, .inl sg7))) (q + 2) (.inl (0, 122, .inl vl7)), n, s) _
                                      refine r_aload_n (n := 0) (i := 0) 1 rfl rfl dX11_readWord_100 ?_
                                      refine r_dup rfl dX11_readWord_101 ?_
                                      refine p_get (fs := [.int (u 0), .int (u 1), .int (u 2), .int (u 3), .int (u 4), .ref 51, .ref q, .ref 53, .ref 54, .int (u 5), .int (nI e), .int at7, .int so7, .int (nI st7.1.1), .int mk7, .int nu7, .int di7, .int (nI (b + 1)), .int (nI i), .long wo7, .ref 55, .ref 56, .int (u 6), .int (u 7), .ref 57, .int (u 8), .ref 58, .ref 59, .ref 60, .ref 61, .ref 62, .ref 63, .int (u 9), .ref 64, .int (u 10)]) flX11_149 (by exact ((bU_n (by omega)).trans (((bU_n (by omega)).trans (((bU_n (by omega)).trans (bU_s _ _ _))))))) rfl dX11_readWord_102 ?_
                                      refine r_iconst (v := 1) (by decide) dX11_readWord_105 ?_
                                      refine r_isubE (v := nI ((b + 1) - 1)) (pk_sub (a := b + 1) (b := 1) (by omega)) dX11_readWord_106 ?_
                                      refine p_put (fs := [.int (u 0), .int (u 1), .int (u 2), .int (u 3), .int (u 4), .ref 51, .ref q, .ref 53, .ref 54, .int (u 5), .int (nI e), .int at7, .int so7, .int (nI st7.1.1), .int mk7, .int nu7, .int di7, .int (nI (b + 1)), .int (nI i), .long wo7, .ref 55, .ref 56, .int (u 6), .int (u 7), .ref 57, .int (u 8), .ref 58, .ref 59, .ref 60, .ref 61, .ref 62, .ref 63, .int (u 9), .ref 64, .int (u 10)]) (fs' := [.int (u 0), .int (u 1), .int (u 2), .int (u 3), .int (u 4), .ref 51, .ref q, .ref 53, .ref 54, .int (u 5), .int (nI e), .int at7, .int so7, .int (nI st7.1.1), .int mk7, .int nu7, .int di7, .int (nI ((b + 1) - 1)), .int (nI i), .long wo7, .ref 55, .ref 56, .int (u 6), .int (u 7), .ref 57, .int (u 8), .ref 58, .ref 59, .ref 60, .ref 61, .ref 62, .ref 63, .int (u 9), .ref 64, .int (u 10)]) flX11_149 (by exact ((bU_n (by omega)).trans (((bU_n (by omega)).trans (((bU_n (by omega)).trans (bU_s _ _ _))))))) (Nat.le_of_ble_eq_true rfl) (bNf_i _) rfl dX11_readWord_107 ?_
                                      refine bV_h (f2 := bU (bU (bU (bU f 50 (.inr (11, [.int (u 0), .int (u 1), .int (u 2), .int (u 3), .int (u 4), .ref 51, .ref q, .ref 53, .ref 54, .int (u 5), .int (nI e), .int at7, .int so7, .int (nI st7.1.1), .int mk7, .int nu7, .int di7, .int (nI ((b + 1) - 1)), .int (nI i), .long wo7, .ref 55, .ref 56, .int (u 6), .int (u 7), .ref 57, .int (u 8), .ref 58, .ref 59, .ref 60, .ref 61, .ref 62, .ref 63, .int (u 9), .ref 64, .int (u 10)]))) q (.inr (9, [.int (nI st7.2.1), .int (nI st7.2.2.1.length), .int st7.2.2.2, .ref (q + 1), .ref (q + 2)]))) (q + 1) (.inl (0, 122, .inl sg7))) (q + 2) (.inl (0, 122, .inl vl7))) (((bU_c (by omega)).trans (congrArg (fun z => bU z (q + 2) (.inl (0, 122, .inl vl7))) (((bU_c (by omega)).trans (congrArg (fun z => bU z (q + 1) (.inl (0, 122, .inl sg7))) (((bU_c (by omega)).trans (congrArg (fun z => bU z q (.inr (9, [.int (nI st7.2.1), .int (nI st7.2.2.1.length), .int st7.2.2.2, .ref (q + 1), .ref (q + 2)]))) (bU_u _ _ _ _)))))))))) ?_
                                      show bV O _ d 110 [(1, .int 9), (0, .ref 50)] [] (bU (bU (bU (bU f 50 (.inr (11, [.int (u 0), .int (u 1), .int (u 2), .int (u 3), .int (u 4), .ref 51, .ref q, .ref 53, .ref 54, .int (u 5), .int (nI e), .int at7, .int so7, .int (nI st7.1.1), .int mk7, .int nu7, .int di7, .int (nI b), .int (nI i), .long wo7, .ref 55, .ref 56, .int (u 6), .int (u 7), .ref 57, .int (u 8), .ref 58, .ref 59, .ref 60, .ref 61, .ref 62, .ref 63, .int (u 9), .ref 64, .int (u 10)]))) q (.inr (9, [.int (nI st7.2.1), .int (nI st7.2.2.1.length), .int st7.2.2.2, .ref (q + 1), .ref (q + 2)]))) (q + 1) (.inl (0, 122, .inl sg7))) (q + 2) (.inl (0, 122, .inl vl7)), n, s) _
                                      refine r_aload_n (n := 0) (i := 0) 1 rfl rfl dX11_readWord_110 ?_
                                      refine p_get (fs := [.int (u 0), .int (u 1), .int (u 2), .int (u 3), .int (u 4), .ref 51, .ref q, .ref 53, .ref 54, .int (u 5), .int (nI e), .int at7, .int so7, .int (nI st7.1.1), .int mk7, .int nu7, .int di7, .int (nI b), .int (nI i), .long wo7, .ref 55, .ref 56, .int (u 6), .int (u 7), .ref 57, .int (u 8), .ref 58, .ref 59, .ref 60, .ref 61, .ref 62, .ref 63, .int (u 9), .ref 64, .int (u 10)]) flX11_22 (by exact ((bU_n (by omega)).trans (((bU_n (by omega)).trans (((bU_n (by omega)).trans (bU_s _ _ _))))))) rfl dX11_readWord_111 ?_
                                      refine r_iload_n (n := 1) (i := 1) 0 rfl rfl dX11_readWord_114 ?_
                                      refine r_iconst (v := 0) (by decide) dX11_readWord_115 ?_
                                      refine p_callV (As := [.int 9, .int 0]) (rest := []) (c_put (d := 0) hq hm7 ho7 264 0 (by decide) rfl (Nat.le_refl _)) rfl lkX11_163 imX9_put seX9_put rfl (by exact ((bU_n (by omega)).trans (((bU_n (by omega)).trans (bU_s _ _ _))))) rfl rfl (by omega) (Nat.le_of_ble_eq_true rfl) dX11_readWord_116 (fun v9 G9 h9 => ?_) (fun q9 G9 h9 => ⟨(fun x9 hx9 => by cases hx9), ?_⟩)
                                      · rcases hR8 : pWr 264 0 st7 with ⟨ft8, pl8⟩ | st8
                                        · rw [hR8] at h9; cases h9.1
                                        · rw [hR8] at h9; obtain ⟨h8, at8, so8, mk8, nu8, di8, wo8, sg8, vl8, hm8, rfl⟩ := h9; cases h8
                                          have ho8 : okS (k) (a + 1) st8 := pWr_ok (k := k) ho7 hR8
                                          obtain ⟨p18, p28, p38, p48, p58⟩ := id ho8
                                          have t8 := pWr_t hR8
                                          show bV O _ d 119 [(1, .int 9), (0, .ref 50)] [] (bU (bU (bU (bU f 50 (.inr (11, [.int (u 0), .int (u 1), .int (u 2), .int (u 3), .int (u 4), .ref 51, .ref q, .ref 53, .ref 54, .int (u 5), .int (nI e), .int at8, .int so8, .int (nI st8.1.1), .int mk8, .int nu8, .int di8, .int (nI b), .int (nI i), .long wo8, .ref 55, .ref 56, .int (u 6), .int (u 7), .ref 57, .int (u 8), .ref 58, .ref 59, .ref 60, .ref 61, .ref 62, .ref 63, .int (u 9), .ref 64, .int (u 10)]))) q (.inr (9, [.int (nI st8.2.1), .int (nI st8.2.2.1.length), .int st8.2.2.2, .ref (q + 1), .ref (q + 2)]))) (q + 1) (.inl (0, 122, .inl sg8))) (q + 2) (.inl (0, 122, .inl vl8)), n, s) _
                                          refine r_return rfl dX11_readWord_119 ?_
                                          rw [show pPlain bs e T b i st = .inr st8 by rw [pPl_264 q39]; simp only [pB_l, pB_r, hR1, hR2, hR3, hR4, hR5, hR6, hR7, hR8]]
                                          exact ⟨rfl, _, _, _, _, _, _, _, _, hm8, rfl⟩
                                      · rcases hR8 : pWr 264 0 st7 with ⟨ft8, pl8⟩ | st8
                                        · rw [hR8] at h9
                                          rw [show pPlain bs e T b i st = .inl (ft8, pl8) by rw [pPl_264 q39]; simp only [pB_l, pB_r, hR1, hR2, hR3, hR4, hR5, hR6, hR7, hR8]]
                                          exact h9
                                        · rw [hR8] at h9; cases h9.1
                                  · rcases hR7 : pTake bs e 41 st6 with ⟨ft7, pl7⟩ | st7
                                    · rw [hR7] at h9
                                      rw [show pPlain bs e T b i st = .inl (ft7, pl7) by rw [pPl_264 q39]; simp only [pB_l, pB_r, hR1, hR2, hR3, hR4, hR5, hR6, hR7]]
                                      exact h9
                                    · rw [hR7] at h9; cases h9.1
                              · rcases hR6 : T (b + 1) i st5 with ⟨ft6, pl6⟩ | st6
                                · rw [hR6] at h9
                                  rw [show pPlain bs e T b i st = .inl (ft6, pl6) by rw [pPl_264 q39]; simp only [pB_l, pB_r, hR1, hR2, hR3, hR4, hR5, hR6]]
                                  exact h9
                                · rw [hR6] at h9; cases h9.1
                          · rcases hR5 : pTake bs e 44 st4 with ⟨ft5, pl5⟩ | st5
                            · rw [hR5] at h9
                              rw [show pPlain bs e T b i st = .inl (ft5, pl5) by rw [pPl_264 q39]; simp only [pB_l, pB_r, hR1, hR2, hR3, hR4, hR5]]
                              exact h9
                            · rw [hR5] at h9; cases h9.1
                      · rcases hR4 : T (b + 1) i st3 with ⟨ft4, pl4⟩ | st4
                        · rw [hR4] at h9
                          rw [show pPlain bs e T b i st = .inl (ft4, pl4) by rw [pPl_264 q39]; simp only [pB_l, pB_r, hR1, hR2, hR3, hR4]]
                          exact h9
                        · rw [hR4] at h9; cases h9.1
                  · rcases hR3 : pOpen bs e b st2 with ⟨ft3, pl3⟩ | st3
                    · rw [hR3] at h9
                      rw [show pPlain bs e T b i st = .inl (ft3, pl3) by rw [pPl_264 q39]; simp only [pB_l, pB_r, hR1, hR2, hR3]]
                      exact h9
                    · rw [hR3] at h9; cases h9.1
              · rcases hR2 : mNext bs e st1 with ⟨ft2, pl2⟩ | st2
                · rw [hR2] at h9
                  rw [show pPlain bs e T b i st = .inl (ft2, pl2) by rw [pPl_264 q39]; simp only [pB_l, pB_r, hR1, hR2]]
                  exact h9
                · rw [hR2] at h9; cases h9.1
          · rcases hR1 : mPart st with ⟨ft1, pl1⟩ | st1
            · rw [hR1] at h9
              rw [show pPlain bs e T b i st = .inl (ft1, pl1) by rw [pPl_264 q39]; simp only [pB_l, pB_r, hR1]]
              exact h9
            · rw [hR1] at h9; cases h9.1
        · have c39 := bI_0.mp c39
          first | (have q39 : st.1.2.2.1 = 264 := (by have h7 := of_decide_eq_true c39; rwa [show nI (261 + 3) = 264 by decide] at h7)) | (have q39 : ¬ st.1.2.2.1 = 264 := (by have h7 := of_decide_eq_false c39; rwa [show nI (261 + 3) = 264 by decide] at h7))
          refine r_aload_n (n := 0) (i := 0) 0 rfl rfl dX11_readWord_42 ?_
          refine r_ldcS (i := 4) (tx := "most") (by decide) (by decide) dX11_readWord_43 ?_
          refine p_callV (As := [.ref 5]) (rest := []) (kX11_isWord (O := O) (d := 6) (f := bU (bU (bU (bU f 50 (.inr (11, [.int (u 0), .int (u 1), .int (u 2), .int (u 3), .int (u 4), .ref 51, .ref q, .ref 53, .ref 54, .int (u 5), .int (nI e), .int at_, .int so, .int (nI st.1.1), .int mk, .int nu, .int di, .int (nI b), .int (nI i), .long wo, .ref 55, .ref 56, .int (u 6), .int (u 7), .ref 57, .int (u 8), .ref 58, .ref 59, .ref 60, .ref 61, .ref 62, .ref 63, .int (u 9), .ref 64, .int (u 10)]))) q (.inr (9, [.int (nI st.2.1), .int (nI st.2.2.1.length), .int st.2.2.2, .ref (q + 1), .ref (q + 2)]))) (q + 1) (.inl (0, 122, .inl sg))) (q + 2) (.inl (0, 122, .inl vl))) (n := n) (s := s) (q := q) (e := e) (at_ := at_) (so := so) (pl := nI st.1.1) (mk := mk) (nu := nu) (di := di) (br := nI b) (iff := nI i) (wo := wo) (k := st.1.2.2.1) (v := st.1.2.2.2) (i := 4) (by exact ((bU_n (by omega)).trans (((bU_n (by omega)).trans (((bU_n (by omega)).trans (bU_s _ _ _))))))) hm.2.1 (by decide) (Nat.le_refl _)).call rfl lkX11_133 imX11_isWord seX11_isWord rfl (by exact ((bU_n (by omega)).trans (((bU_n (by omega)).trans (((bU_n (by omega)).trans (bU_s _ _ _))))))) rfl rfl (by omega) (Nat.le_of_ble_eq_true rfl) dX11_readWord_45 (fun v9 G9 h9 => ?_) (fun q9 G9 h9 => (by cases h9.1))
          obtain ⟨h8, rfl⟩ := h9; cases h8
          show bV O _ d 48 [(0, .ref 50)] [.int (bI (decide (st.1.2.2.1 = nI (261 + 4))))] (bU (bU (bU (bU f 50 (.inr (11, [.int (u 0), .int (u 1), .int (u 2), .int (u 3), .int (u 4), .ref 51, .ref q, .ref 53, .ref 54, .int (u 5), .int (nI e), .int at_, .int so, .int (nI st.1.1), .int mk, .int nu, .int di, .int (nI b), .int (nI i), .long wo, .ref 55, .ref 56, .int (u 6), .int (u 7), .ref 57, .int (u 8), .ref 58, .ref 59, .ref 60, .ref 61, .ref 62, .ref 63, .int (u 9), .ref 64, .int (u 10)]))) q (.inr (9, [.int (nI st.2.1), .int (nI st.2.2.1.length), .int st.2.2.2, .ref (q + 1), .ref (q + 2)]))) (q + 1) (.inl (0, 122, .inl sg))) (q + 2) (.inl (0, 122, .inl vl)), n, s) _
          refine r_if_eq (tgt := 120) (by decide) dX11_readWord_48 (fun c48 => ?_) (fun c48 => ?_)
          · have c48 := bI_0.mp c48
            first | (have q48 : st.1.2.2.1 = 265 := (by have h7 := of_decide_eq_true c48; rwa [show nI (261 + 4) = 265 by decide] at h7)) | (have q48 : ¬ st.1.2.2.1 = 265 := (by have h7 := of_decide_eq_false c48; rwa [show nI (261 + 4) = 265 by decide] at h7))
            have hk2 : st.1.2.2.1 = 259 ∨ st.1.2.2.1 = 260 := by rcases hk7 with h | h | h | h | h | h | h; exact Or.inl h; exact Or.inr h; exact absurd h q6; exact absurd h q15; exact absurd h q24; exact absurd h q39; exact absurd h q48
            refine r_aload_n (n := 0) (i := 0) 0 rfl rfl dX11_readWord_120 ?_
            refine p_get (fs := [.int (u 0), .int (u 1), .int (u 2), .int (u 3), .int (u 4), .ref 51, .ref q, .ref 53, .ref 54, .int (u 5), .int (nI e), .int at_, .int so, .int (nI st.1.1), .int mk, .int nu, .int di, .int (nI b), .int (nI i), .long wo, .ref 55, .ref 56, .int (u 6), .int (u 7), .ref 57, .int (u 8), .ref 58, .ref 59, .ref 60, .ref 61, .ref 62, .ref 63, .int (u 9), .ref 64, .int (u 10)]) flX11_116 (by exact ((bU_n (by omega)).trans (((bU_n (by omega)).trans (((bU_n (by omega)).trans (bU_s _ _ _))))))) rfl dX11_readWord_121 ?_
            refine r_ldcS (i := 5) (tx := "x") (by decide) (by decide) dX11_readWord_124 ?_
            refine p_callS (As := [.ref 6]) (rest := [.long wo]) (kX11_wordOf (O := O) (d := 5) (f := bU (bU (bU (bU f 50 (.inr (11, [.int (u 0), .int (u 1), .int (u 2), .int (u 3), .int (u 4), .ref 51, .ref q, .ref 53, .ref 54, .int (u 5), .int (nI e), .int at_, .int so, .int (nI st.1.1), .int mk, .int nu, .int di, .int (nI b), .int (nI i), .long wo, .ref 55, .ref 56, .int (u 6), .int (u 7), .ref 57, .int (u 8), .ref 58, .ref 59, .ref 60, .ref 61, .ref 62, .ref 63, .int (u 9), .ref 64, .int (u 10)]))) q (.inr (9, [.int (nI st.2.1), .int (nI st.2.2.1.length), .int st.2.2.2, .ref (q + 1), .ref (q + 2)]))) (q + 1) (.inl (0, 122, .inl sg))) (q + 2) (.inl (0, 122, .inl vl))) (n := n) (s := s) (i := 5)  (by decide) (Nat.le_refl _)).call rfl lkX11_129 smX11_wordOf rfl rfl (by omega) (Nat.le_of_ble_eq_true rfl) dX11_readWord_126 (fun v9 G9 h9 => ?_) (fun q9 G9 h9 => (by cases h9.1))
            obtain ⟨h8, rfl⟩ := h9; cases h8
            show bV O _ d 129 [(0, .ref 50)] [.long (hW 5), .long wo] (bU (bU (bU (bU f 50 (.inr (11, [.int (u 0), .int (u 1), .int (u 2), .int (u 3), .int (u 4), .ref 51, .ref q, .ref 53, .ref 54, .int (u 5), .int (nI e), .int at_, .int so, .int (nI st.1.1), .int mk, .int nu, .int di, .int (nI b), .int (nI i), .long wo, .ref 55, .ref 56, .int (u 6), .int (u 7), .ref 57, .int (u 8), .ref 58, .ref 59, .ref 60, .ref 61, .ref 62, .ref 63, .int (u 9), .ref 64, .int (u 10)]))) q (.inr (9, [.int (nI st.2.1), .int (nI st.2.2.1.length), .int st.2.2.2, .ref (q + 1), .ref (q + 2)]))) (q + 1) (.inl (0, 122, .inl sg))) (q + 2) (.inl (0, 122, .inl vl)), n, s) _
            refine r_lcmp dX11_readWord_129 ?_
            refine r_if_ne (tgt := 145) (by decide) dX11_readWord_130 (fun c130 => ?_) (fun c130 => ?_)
            · have c130 : ¬ wo = (hW 5) := fun h7 => c130 ((lg_cmp_eq _ _).mpr h7)
              try (have h260 : st.1.2.2.1 = 260 := hk2.elim (fun h => absurd ((tkR_x hm.2.1 hso hk2).1.mpr h).1 c130) id)
              refine r_aload_n (n := 0) (i := 0) 0 rfl rfl dX11_readWord_145 ?_
              refine r_iconst (v := 2) (by decide) dX11_readWord_146 ?_
              refine p_callV (As := [.int 2]) (rest := []) (kX11_stop (O := O) (d := 0) (f := bU (bU (bU (bU f 50 (.inr (11, [.int (u 0), .int (u 1), .int (u 2), .int (u 3), .int (u 4), .ref 51, .ref q, .ref 53, .ref 54, .int (u 5), .int (nI e), .int at_, .int so, .int (nI st.1.1), .int mk, .int nu, .int di, .int (nI b), .int (nI i), .long wo, .ref 55, .ref 56, .int (u 6), .int (u 7), .ref 57, .int (u 8), .ref 58, .ref 59, .ref 60, .ref 61, .ref 62, .ref 63, .int (u 9), .ref 64, .int (u 10)]))) q (.inr (9, [.int (nI st.2.1), .int (nI st.2.2.1.length), .int st.2.2.2, .ref (q + 1), .ref (q + 2)]))) (q + 1) (.inl (0, 122, .inl sg))) (q + 2) (.inl (0, 122, .inl vl))) (n := n) (s := s) (q := q) (e := e) (at_ := at_) (so := so) (pl := nI st.1.1) (mk := mk) (nu := nu) (di := di) (br := nI b) (iff := nI i) (wo := wo) (x := 2) (kd := kd) (sp := sp) (by exact ((bU_n (by omega)).trans (((bU_n (by omega)).trans (((bU_n (by omega)).trans (bU_s _ _ _))))))) (by exact ((bU_n (by omega)).trans (((bU_n (by omega)).trans (((bU_n (by omega)).trans (((bU_n (by decide)).trans (h53)))))))))  (Nat.le_refl _)).call rfl lkX11_137 imX11_stop seX11_stop rfl (by exact ((bU_n (by omega)).trans (((bU_n (by omega)).trans (((bU_n (by omega)).trans (bU_s _ _ _))))))) rfl rfl (by omega) (Nat.le_of_ble_eq_true rfl) dX11_readWord_147 (fun v9 G9 h9 => ?_) (fun q9 G9 h9 => (by cases h9.1))
              obtain ⟨h8, rfl⟩ := h9; cases h8
              show bV O _ d 150 [(0, .ref 50)] [.ref 53] (bU (bU (bU (bU (bU f 50 (.inr (11, [.int (u 0), .int (u 1), .int (u 2), .int (u 3), .int (u 4), .ref 51, .ref q, .ref 53, .ref 54, .int (u 5), .int (nI e), .int at_, .int so, .int (nI st.1.1), .int mk, .int nu, .int di, .int (nI b), .int (nI i), .long wo, .ref 55, .ref 56, .int (u 6), .int (u 7), .ref 57, .int (u 8), .ref 58, .ref 59, .ref 60, .ref 61, .ref 62, .ref 63, .int (u 9), .ref 64, .int (u 10)]))) q (.inr (9, [.int (nI st.2.1), .int (nI st.2.2.1.length), .int st.2.2.2, .ref (q + 1), .ref (q + 2)]))) (q + 1) (.inl (0, 122, .inl sg))) (q + 2) (.inl (0, 122, .inl vl))) 53 (.inr (10, [.null, .null, .null, .null, .null, .int 0, .int 2, .int (nI st.1.1)])), n, s) _
              refine p_athrow (by decide) (by exact bU_s _ _ _) rfl (fun x hx => by cases hx) dX11_readWord_150 ?_
              rw [show pPlain bs e T b i st = .inl (2, st.1.1) by exact pPl_260 h260]
              exact ⟨rfl, _, _, _, _, _, _, _, _, _, _, _, _, _, _, rfl⟩
            · have c130 := (lg_cmp_eq _ _).mp c130
              try (have h260 : st.1.2.2.1 = 260 := hk2.elim (fun h => absurd ((tkR_x hm.2.1 hso hk2).1.mpr h).1 c130) id)
              refine r_aload_n (n := 0) (i := 0) 0 rfl rfl dX11_readWord_133 ?_
              refine p_get (fs := [.int (u 0), .int (u 1), .int (u 2), .int (u 3), .int (u 4), .ref 51, .ref q, .ref 53, .ref 54, .int (u 5), .int (nI e), .int at_, .int so, .int (nI st.1.1), .int mk, .int nu, .int di, .int (nI b), .int (nI i), .long wo, .ref 55, .ref 56, .int (u 6), .int (u 7), .ref 57, .int (u 8), .ref 58, .ref 59, .ref 60, .ref 61, .ref 62, .ref 63, .int (u 9), .ref 64, .int (u 10)]) flX11_120 (by exact ((bU_n (by omega)).trans (((bU_n (by omega)).trans (((bU_n (by omega)).trans (bU_s _ _ _))))))) rfl dX11_readWord_134 ?_
              refine r_iconst (v := 0) (by decide) dX11_readWord_137 ?_
              refine r_iconst (v := 5) (by decide) dX11_readWord_138 ?_
              refine p_callS (As := [.int di, .int 0, .int 5]) (rest := []) (kX11_in (O := O) (d := 0) (f := bU (bU (bU (bU f 50 (.inr (11, [.int (u 0), .int (u 1), .int (u 2), .int (u 3), .int (u 4), .ref 51, .ref q, .ref 53, .ref 54, .int (u 5), .int (nI e), .int at_, .int so, .int (nI st.1.1), .int mk, .int nu, .int di, .int (nI b), .int (nI i), .long wo, .ref 55, .ref 56, .int (u 6), .int (u 7), .ref 57, .int (u 8), .ref 58, .ref 59, .ref 60, .ref 61, .ref 62, .ref 63, .int (u 9), .ref 64, .int (u 10)]))) q (.inr (9, [.int (nI st.2.1), .int (nI st.2.2.1.length), .int st.2.2.2, .ref (q + 1), .ref (q + 2)]))) (q + 1) (.inl (0, 122, .inl sg))) (q + 2) (.inl (0, 122, .inl vl))) (n := n) (s := s) (v := di) (lo := 0) (hi := 5)   (Nat.le_refl _)).call rfl lkX11_200 smX11_in rfl rfl (by omega) (Nat.le_of_ble_eq_true rfl) dX11_readWord_139 (fun v9 G9 h9 => ?_) (fun q9 G9 h9 => (by cases h9.1))
              obtain ⟨h8, rfl⟩ := h9; cases h8
              show bV O _ d 142 [(0, .ref 50)] [.int (bI (jIn di 0 5))] (bU (bU (bU (bU f 50 (.inr (11, [.int (u 0), .int (u 1), .int (u 2), .int (u 3), .int (u 4), .ref 51, .ref q, .ref 53, .ref 54, .int (u 5), .int (nI e), .int at_, .int so, .int (nI st.1.1), .int mk, .int nu, .int di, .int (nI b), .int (nI i), .long wo, .ref 55, .ref 56, .int (u 6), .int (u 7), .ref 57, .int (u 8), .ref 58, .ref 59, .ref 60, .ref 61, .ref 62, .ref 63, .int (u 9), .ref 64, .int (u 10)]))) q (.inr (9, [.int (nI st.2.1), .int (nI st.2.2.1.length), .int st.2.2.2, .ref (q + 1), .ref (q + 2)]))) (q + 1) (.inl (0, 122, .inl sg))) (q + 2) (.inl (0, 122, .inl vl)), n, s) _
              refine r_if_ne (tgt := 151) (by decide) dX11_readWord_142 (fun c142 => ?_) (fun c142 => ?_)
              · have c142 := bI_1.mp c142
                first | (have h259 : st.1.2.2.1 = 259 := (tkR_x hm.2.1 hso hk2).1.mp ⟨c130, c142⟩) | (have h260 : st.1.2.2.1 = 260 := hk2.elim (fun h => absurd ((tkR_x hm.2.1 hso hk2).1.mpr h).2 (by rw [c142]; decide)) id)
                refine r_aload_n (n := 0) (i := 0) 0 rfl rfl dX11_readWord_151 ?_
                refine p_callV (As := []) (rest := []) (c_part (d := 1) hq h53 h54 e0 hb9 hm ho (Nat.le_refl _)) rfl lkX11_160 imX11_part seX11_part rfl (by exact ((bU_n (by omega)).trans (((bU_n (by omega)).trans (((bU_n (by omega)).trans (bU_s _ _ _))))))) rfl rfl (by omega) (Nat.le_of_ble_eq_true rfl) dX11_readWord_152 (fun v9 G9 h9 => ?_) (fun q9 G9 h9 => ⟨(fun x9 hx9 => by cases hx9), ?_⟩)
                · rcases hR1 : mPart st with ⟨ft1, pl1⟩ | st1
                  · rw [hR1] at h9; cases h9.1
                  · rw [hR1] at h9; obtain ⟨h8, at1, so1, mk1, nu1, di1, wo1, sg1, vl1, hm1, rfl⟩ := h9; cases h8
                    have ho1 : okS (k + 1) (a + 1) st1 := mPart_ok ho hR1
                    obtain ⟨p11, p21, p31, p41, p51⟩ := id ho1
                    have t1 := mPart_t hR1
                    show bV O _ d 155 [(0, .ref 50)] [] (bU (bU (bU (bU f 50 (.inr (11, [.int (u 0), .int (u 1), .int (u 2), .int (u 3), .int (u 4), .ref 51, .ref q, .ref 53, .ref 54, .int (u 5), .int (nI e), .int at1, .int so1, .int (nI st1.1.1), .int mk1, .int nu1, .int di1, .int (nI b), .int (nI i), .long wo1, .ref 55, .ref 56, .int (u 6), .int (u 7), .ref 57, .int (u 8), .ref 58, .ref 59, .ref 60, .ref 61, .ref 62, .ref 63, .int (u 9), .ref 64, .int (u 10)]))) q (.inr (9, [.int (nI st1.2.1), .int (nI st1.2.2.1.length), .int st1.2.2.2, .ref (q + 1), .ref (q + 2)]))) (q + 1) (.inl (0, 122, .inl sg1))) (q + 2) (.inl (0, 122, .inl vl1)), n, s) _
                    refine r_aload_n (n := 0) (i := 0) 0 rfl rfl dX11_readWord_155 ?_
                    refine p_get (fs := [.int (u 0), .int (u 1), .int (u 2), .int (u 3), .int (u 4), .ref 51, .ref q, .ref 53, .ref 54, .int (u 5), .int (nI e), .int at1, .int so1, .int (nI st1.1.1), .int mk1, .int nu1, .int di1, .int (nI b), .int (nI i), .long wo1, .ref 55, .ref 56, .int (u 6), .int (u 7), .ref 57, .int (u 8), .ref 58, .ref 59, .ref 60, .ref 61, .ref 62, .ref 63, .int (u 9), .ref 64, .int (u 10)]) flX11_22 (by exact ((bU_n (by omega)).trans (((bU_n (by omega)).trans (((bU_n (by omega)).trans (bU_s _ _ _))))))) rfl dX11_readWord_156 ?_
                    refine r_iconst (v := 1) (by decide) dX11_readWord_159 ?_
                    refine r_aload_n (n := 0) (i := 0) 0 rfl rfl dX11_readWord_160 ?_
                    refine p_get (fs := [.int (u 0), .int (u 1), .int (u 2), .int (u 3), .int (u 4), .ref 51, .ref q, .ref 53, .ref 54, .int (u 5), .int (nI e), .int at1, .int so1, .int (nI st1.1.1), .int mk1, .int nu1, .int di1, .int (nI b), .int (nI i), .long wo1, .ref 55, .ref 56, .int (u 6), .int (u 7), .ref 57, .int (u 8), .ref 58, .ref 59, .ref 60, .ref 61, .ref 62, .ref 63, .int (u 9), .ref 64, .int (u 10)]) flX11_120 (by exact ((bU_n (by omega)).trans (((bU_n (by omega)).trans (((bU_n (by omega)).trans (bU_s _ _ _))))))) rfl dX11_readWord_161 ?_
                    refine p_callV (As := [.int 1, .int di1]) (rest := []) (c_put (d := 0) hq hm1 ho1 259 st.1.2.2.2 (by decide) (((tkR_x hm1.2.1 ((tkR_num hm1.2.1).2.2.2.mpr (Or.inl (by rw [t1]; exact h259))) (Or.inl (by rw [t1]; exact h259))).2 (by rw [t1]; exact h259)).trans (by rw [t1])) (Nat.le_refl _)) rfl lkX11_163 imX9_put seX9_put rfl (by exact ((bU_n (by omega)).trans (((bU_n (by omega)).trans (bU_s _ _ _))))) rfl rfl (by omega) (Nat.le_of_ble_eq_true rfl) dX11_readWord_164 (fun v9 G9 h9 => ?_) (fun q9 G9 h9 => ⟨(fun x9 hx9 => by cases hx9), ?_⟩)
                    · rcases hR2 : pWr 259 st.1.2.2.2 st1 with ⟨ft2, pl2⟩ | st2
                      · rw [hR2] at h9; cases h9.1
                      · rw [hR2] at h9; obtain ⟨h8, at2, so2, mk2, nu2, di2, wo2, sg2, vl2, hm2, rfl⟩ := h9; cases h8
                        have ho2 : okS (k) (a + 1) st2 := pWr_ok (k := k) ho1 hR2
                        obtain ⟨p12, p22, p32, p42, p52⟩ := id ho2
                        have t2 := pWr_t hR2
                        show bV O _ d 167 [(0, .ref 50)] [] (bU (bU (bU (bU f 50 (.inr (11, [.int (u 0), .int (u 1), .int (u 2), .int (u 3), .int (u 4), .ref 51, .ref q, .ref 53, .ref 54, .int (u 5), .int (nI e), .int at2, .int so2, .int (nI st2.1.1), .int mk2, .int nu2, .int di2, .int (nI b), .int (nI i), .long wo2, .ref 55, .ref 56, .int (u 6), .int (u 7), .ref 57, .int (u 8), .ref 58, .ref 59, .ref 60, .ref 61, .ref 62, .ref 63, .int (u 9), .ref 64, .int (u 10)]))) q (.inr (9, [.int (nI st2.2.1), .int (nI st2.2.2.1.length), .int st2.2.2.2, .ref (q + 1), .ref (q + 2)]))) (q + 1) (.inl (0, 122, .inl sg2))) (q + 2) (.inl (0, 122, .inl vl2)), n, s) _
                        refine r_aload_n (n := 0) (i := 0) 0 rfl rfl dX11_readWord_167 ?_
                        refine p_get (fs := [.int (u 0), .int (u 1), .int (u 2), .int (u 3), .int (u 4), .ref 51, .ref q, .ref 53, .ref 54, .int (u 5), .int (nI e), .int at2, .int so2, .int (nI st2.1.1), .int mk2, .int nu2, .int di2, .int (nI b), .int (nI i), .long wo2, .ref 55, .ref 56, .int (u 6), .int (u 7), .ref 57, .int (u 8), .ref 58, .ref 59, .ref 60, .ref 61, .ref 62, .ref 63, .int (u 9), .ref 64, .int (u 10)]) flX11_22 (by exact ((bU_n (by omega)).trans (((bU_n (by omega)).trans (((bU_n (by omega)).trans (bU_s _ _ _))))))) rfl dX11_readWord_168 ?_
                        refine r_dup rfl dX11_readWord_171 ?_
                        refine p_get (fs := [.int (nI st2.2.1), .int (nI st2.2.2.1.length), .int st2.2.2.2, .ref (q + 1), .ref (q + 2)]) flX11_204 (by exact ((bU_n (by omega)).trans (((bU_n (by omega)).trans (bU_s _ _ _))))) rfl dX11_readWord_172 ?_
                        refine r_iconst (v := 1) (by decide) dX11_readWord_175 ?_
                        refine r_aload_n (n := 0) (i := 0) 0 rfl rfl dX11_readWord_176 ?_
                        refine p_get (fs := [.int (u 0), .int (u 1), .int (u 2), .int (u 3), .int (u 4), .ref 51, .ref q, .ref 53, .ref 54, .int (u 5), .int (nI e), .int at2, .int so2, .int (nI st2.1.1), .int mk2, .int nu2, .int di2, .int (nI b), .int (nI i), .long wo2, .ref 55, .ref 56, .int (u 6), .int (u 7), .ref 57, .int (u 8), .ref 58, .ref 59, .ref 60, .ref 61, .ref 62, .ref 63, .int (u 9), .ref 64, .int (u 10)]) flX11_120 (by exact ((bU_n (by omega)).trans (((bU_n (by omega)).trans (((bU_n (by omega)).trans (bU_s _ _ _))))))) rfl dX11_readWord_177 ?_
                        refine r_ishl dX11_readWord_180 ?_
                        refine r_ior dX11_readWord_181 ?_
                        refine p_put (fs := [.int (nI st2.2.1), .int (nI st2.2.2.1.length), .int st2.2.2.2, .ref (q + 1), .ref (q + 2)]) (fs' := [.int (nI st2.2.1), .int (nI st2.2.2.1.length), .int (st2.2.2.2 ||| (1 <<< (di2 &&& 31))), .ref (q + 1), .ref (q + 2)]) flX11_204 (by exact ((bU_n (by omega)).trans (((bU_n (by omega)).trans (bU_s _ _ _))))) (Nat.le_of_ble_eq_true rfl) (bNf_i _) rfl dX11_readWord_182 ?_
                        refine bV_h (f2 := bU (bU (bU (bU f 50 (.inr (11, [.int (u 0), .int (u 1), .int (u 2), .int (u 3), .int (u 4), .ref 51, .ref q, .ref 53, .ref 54, .int (u 5), .int (nI e), .int at2, .int so2, .int (nI st2.1.1), .int mk2, .int nu2, .int di2, .int (nI b), .int (nI i), .long wo2, .ref 55, .ref 56, .int (u 6), .int (u 7), .ref 57, .int (u 8), .ref 58, .ref 59, .ref 60, .ref 61, .ref 62, .ref 63, .int (u 9), .ref 64, .int (u 10)]))) q (.inr (9, [.int (nI st2.2.1), .int (nI st2.2.2.1.length), .int (st2.2.2.2 ||| (1 <<< (di2 &&& 31))), .ref (q + 1), .ref (q + 2)]))) (q + 1) (.inl (0, 122, .inl sg2))) (q + 2) (.inl (0, 122, .inl vl2))) (((bU_c (by omega)).trans (congrArg (fun z => bU z (q + 2) (.inl (0, 122, .inl vl2))) (((bU_c (by omega)).trans (congrArg (fun z => bU z (q + 1) (.inl (0, 122, .inl sg2))) (bU_u _ _ _ _))))))) ?_
                        have hdi : di2 = st2.1.2.2.2 := (tkR_x hm2.2.1 ((tkR_num hm2.2.1).2.2.2.mpr (Or.inl (by rw [t2, t1]; exact h259))) (Or.inl (by rw [t2, t1]; exact h259))).2 (by rw [t2, t1]; exact h259)
                        subst hdi
                        show bV O _ d 185 [(0, .ref 50)] [] (bU (bU (bU (bU f 50 (.inr (11, [.int (u 0), .int (u 1), .int (u 2), .int (u 3), .int (u 4), .ref 51, .ref q, .ref 53, .ref 54, .int (u 5), .int (nI e), .int at2, .int so2, .int (nI (pBits st2).1.1), .int mk2, .int nu2, .int st2.1.2.2.2, .int (nI b), .int (nI i), .long wo2, .ref 55, .ref 56, .int (u 6), .int (u 7), .ref 57, .int (u 8), .ref 58, .ref 59, .ref 60, .ref 61, .ref 62, .ref 63, .int (u 9), .ref 64, .int (u 10)]))) q (.inr (9, [.int (nI (pBits st2).2.1), .int (nI (pBits st2).2.2.1.length), .int ((pBits st2).2.2.2), .ref (q + 1), .ref (q + 2)]))) (q + 1) (.inl (0, 122, .inl sg2))) (q + 2) (.inl (0, 122, .inl vl2)), n, s) _
                        refine r_aload_n (n := 0) (i := 0) 0 rfl rfl dX11_readWord_185 ?_
                        refine p_callV (As := []) (rest := []) (c_nextM (d := 1) (st := pBits st2) hq h53 h54 e0 hb9 (show msR e (pBits st2) _ _ _ _ _ _ _ _ from hm2) (show okS (k) (a + 1) (pBits st2) from ho2) (show st2.1.2.2.1 ≠ 257 by rw [t2, t1, h259]; decide) (Nat.le_refl _)) rfl lkX11_140 imX11_next seX11_next rfl (by exact ((bU_n (by omega)).trans (((bU_n (by omega)).trans (((bU_n (by omega)).trans (bU_s _ _ _))))))) rfl rfl (by omega) (Nat.le_of_ble_eq_true rfl) dX11_readWord_186 (fun v9 G9 h9 => ?_) (fun q9 G9 h9 => ⟨(fun x9 hx9 => by cases hx9), ?_⟩)
                        · rcases hR3 : mNext bs e (pBits st2) with ⟨ft3, pl3⟩ | st3
                          · rw [hR3] at h9; cases h9.1
                          · rw [hR3] at h9; obtain ⟨h8, at3, so3, mk3, nu3, di3, wo3, sg3, vl3, hm3, rfl⟩ := h9; cases h8
                            have ho3 : okS (k) (a + 1) st3 := mNext_ok e0 (show okS (k) (a + 1) (pBits st2) from ho2) hR3
                            obtain ⟨p13, p23, p33, p43, p53⟩ := id ho3
                            show bV O _ d 189 [(0, .ref 50)] [] (bU (bU (bU (bU f 50 (.inr (11, [.int (u 0), .int (u 1), .int (u 2), .int (u 3), .int (u 4), .ref 51, .ref q, .ref 53, .ref 54, .int (u 5), .int (nI e), .int at3, .int so3, .int (nI st3.1.1), .int mk3, .int nu3, .int di3, .int (nI b), .int (nI i), .long wo3, .ref 55, .ref 56, .int (u 6), .int (u 7), .ref 57, .int (u 8), .ref 58, .ref 59, .ref 60, .ref 61, .ref 62, .ref 63, .int (u 9), .ref 64, .int (u 10)]))) q (.inr (9, [.int (nI st3.2.1), .int (nI st3.2.2.1.length), .int st3.2.2.2, .ref (q + 1), .ref (q + 2)]))) (q + 1) (.inl (0, 122, .inl sg3))) (q + 2) (.inl (0, 122, .inl vl3)), n, s) _
                            refine r_return rfl dX11_readWord_189 ?_
                            rw [show pPlain bs e T b i st = .inr st3 by rw [pPl_259 h259]; simp only [pB_l, pB_r, hR1, hR2, hR3]]
                            exact ⟨rfl, _, _, _, _, _, _, _, _, hm3, rfl⟩
                        · rcases hR3 : mNext bs e (pBits st2) with ⟨ft3, pl3⟩ | st3
                          · rw [hR3] at h9
                            rw [show pPlain bs e T b i st = .inl (ft3, pl3) by rw [pPl_259 h259]; simp only [pB_l, pB_r, hR1, hR2, hR3]]
                            exact h9
                          · rw [hR3] at h9; cases h9.1
                    · rcases hR2 : pWr 259 st.1.2.2.2 st1 with ⟨ft2, pl2⟩ | st2
                      · rw [hR2] at h9
                        rw [show pPlain bs e T b i st = .inl (ft2, pl2) by rw [pPl_259 h259]; simp only [pB_l, pB_r, hR1, hR2]]
                        exact h9
                      · rw [hR2] at h9; cases h9.1
                · rcases hR1 : mPart st with ⟨ft1, pl1⟩ | st1
                  · rw [hR1] at h9
                    rw [show pPlain bs e T b i st = .inl (ft1, pl1) by rw [pPl_259 h259]; simp only [pB_l, pB_r, hR1]]
                    exact h9
                  · rw [hR1] at h9; cases h9.1
              · have c142 := bI_0.mp c142
                first | (have h259 : st.1.2.2.1 = 259 := (tkR_x hm.2.1 hso hk2).1.mp ⟨c130, c142⟩) | (have h260 : st.1.2.2.1 = 260 := hk2.elim (fun h => absurd ((tkR_x hm.2.1 hso hk2).1.mpr h).2 (by rw [c142]; decide)) id)
                refine r_aload_n (n := 0) (i := 0) 0 rfl rfl dX11_readWord_145 ?_
                refine r_iconst (v := 2) (by decide) dX11_readWord_146 ?_
                refine p_callV (As := [.int 2]) (rest := []) (kX11_stop (O := O) (d := 0) (f := bU (bU (bU (bU f 50 (.inr (11, [.int (u 0), .int (u 1), .int (u 2), .int (u 3), .int (u 4), .ref 51, .ref q, .ref 53, .ref 54, .int (u 5), .int (nI e), .int at_, .int so, .int (nI st.1.1), .int mk, .int nu, .int di, .int (nI b), .int (nI i), .long wo, .ref 55, .ref 56, .int (u 6), .int (u 7), .ref 57, .int (u 8), .ref 58, .ref 59, .ref 60, .ref 61, .ref 62, .ref 63, .int (u 9), .ref 64, .int (u 10)]))) q (.inr (9, [.int (nI st.2.1), .int (nI st.2.2.1.length), .int st.2.2.2, .ref (q + 1), .ref (q + 2)]))) (q + 1) (.inl (0, 122, .inl sg))) (q + 2) (.inl (0, 122, .inl vl))) (n := n) (s := s) (q := q) (e := e) (at_ := at_) (so := so) (pl := nI st.1.1) (mk := mk) (nu := nu) (di := di) (br := nI b) (iff := nI i) (wo := wo) (x := 2) (kd := kd) (sp := sp) (by exact ((bU_n (by omega)).trans (((bU_n (by omega)).trans (((bU_n (by omega)).trans (bU_s _ _ _))))))) (by exact ((bU_n (by omega)).trans (((bU_n (by omega)).trans (((bU_n (by omega)).trans (((bU_n (by decide)).trans (h53)))))))))  (Nat.le_refl _)).call rfl lkX11_137 imX11_stop seX11_stop rfl (by exact ((bU_n (by omega)).trans (((bU_n (by omega)).trans (((bU_n (by omega)).trans (bU_s _ _ _))))))) rfl rfl (by omega) (Nat.le_of_ble_eq_true rfl) dX11_readWord_147 (fun v9 G9 h9 => ?_) (fun q9 G9 h9 => (by cases h9.1))
                obtain ⟨h8, rfl⟩ := h9; cases h8
                show bV O _ d 150 [(0, .ref 50)] [.ref 53] (bU (bU (bU (bU (bU f 50 (.inr (11, [.int (u 0), .int (u 1), .int (u 2), .int (u 3), .int (u 4), .ref 51, .ref q, .ref 53, .ref 54, .int (u 5), .int (nI e), .int at_, .int so, .int (nI st.1.1), .int mk, .int nu, .int di, .int (nI b), .int (nI i), .long wo, .ref 55, .ref 56, .int (u 6), .int (u 7), .ref 57, .int (u 8), .ref 58, .ref 59, .ref 60, .ref 61, .ref 62, .ref 63, .int (u 9), .ref 64, .int (u 10)]))) q (.inr (9, [.int (nI st.2.1), .int (nI st.2.2.1.length), .int st.2.2.2, .ref (q + 1), .ref (q + 2)]))) (q + 1) (.inl (0, 122, .inl sg))) (q + 2) (.inl (0, 122, .inl vl))) 53 (.inr (10, [.null, .null, .null, .null, .null, .int 0, .int 2, .int (nI st.1.1)])), n, s) _
                refine p_athrow (by decide) (by exact bU_s _ _ _) rfl (fun x hx => by cases hx) dX11_readWord_150 ?_
                rw [show pPlain bs e T b i st = .inl (2, st.1.1) by exact pPl_260 h260]
                exact ⟨rfl, _, _, _, _, _, _, _, _, _, _, _, _, _, _, rfl⟩
          · have c48 := bI_1.mp c48
            first | (have q48 : st.1.2.2.1 = 265 := (by have h7 := of_decide_eq_true c48; rwa [show nI (261 + 4) = 265 by decide] at h7)) | (have q48 : ¬ st.1.2.2.1 = 265 := (by have h7 := of_decide_eq_false c48; rwa [show nI (261 + 4) = 265 by decide] at h7))
            refine r_aload_n (n := 0) (i := 0) 0 rfl rfl dX11_readWord_51 ?_
            refine r_ldcS (i := 3) (tx := "least") (by decide) (by decide) dX11_readWord_52 ?_
            refine p_callV (As := [.ref 4]) (rest := []) (kX11_isWord (O := O) (d := 6) (f := bU (bU (bU (bU f 50 (.inr (11, [.int (u 0), .int (u 1), .int (u 2), .int (u 3), .int (u 4), .ref 51, .ref q, .ref 53, .ref 54, .int (u 5), .int (nI e), .int at_, .int so, .int (nI st.1.1), .int mk, .int nu, .int di, .int (nI b), .int (nI i), .long wo, .ref 55, .ref 56, .int (u 6), .int (u 7), .ref 57, .int (u 8), .ref 58, .ref 59, .ref 60, .ref 61, .ref 62, .ref 63, .int (u 9), .ref 64, .int (u 10)]))) q (.inr (9, [.int (nI st.2.1), .int (nI st.2.2.1.length), .int st.2.2.2, .ref (q + 1), .ref (q + 2)]))) (q + 1) (.inl (0, 122, .inl sg))) (q + 2) (.inl (0, 122, .inl vl))) (n := n) (s := s) (q := q) (e := e) (at_ := at_) (so := so) (pl := nI st.1.1) (mk := mk) (nu := nu) (di := di) (br := nI b) (iff := nI i) (wo := wo) (k := st.1.2.2.1) (v := st.1.2.2.2) (i := 3) (by exact ((bU_n (by omega)).trans (((bU_n (by omega)).trans (((bU_n (by omega)).trans (bU_s _ _ _))))))) hm.2.1 (by decide) (Nat.le_refl _)).call rfl lkX11_133 imX11_isWord seX11_isWord rfl (by exact ((bU_n (by omega)).trans (((bU_n (by omega)).trans (((bU_n (by omega)).trans (bU_s _ _ _))))))) rfl rfl (by omega) (Nat.le_of_ble_eq_true rfl) dX11_readWord_54 (fun v9 G9 h9 => ?_) (fun q9 G9 h9 => (by cases h9.1))
            obtain ⟨h8, rfl⟩ := h9; cases h8
            show bV O _ d 57 [(0, .ref 50)] [.int (bI (decide (st.1.2.2.1 = nI (261 + 3))))] (bU (bU (bU (bU f 50 (.inr (11, [.int (u 0), .int (u 1), .int (u 2), .int (u 3), .int (u 4), .ref 51, .ref q, .ref 53, .ref 54, .int (u 5), .int (nI e), .int at_, .int so, .int (nI st.1.1), .int mk, .int nu, .int di, .int (nI b), .int (nI i), .long wo, .ref 55, .ref 56, .int (u 6), .int (u 7), .ref 57, .int (u 8), .ref 58, .ref 59, .ref 60, .ref 61, .ref 62, .ref 63, .int (u 9), .ref 64, .int (u 10)]))) q (.inr (9, [.int (nI st.2.1), .int (nI st.2.2.1.length), .int st.2.2.2, .ref (q + 1), .ref (q + 2)]))) (q + 1) (.inl (0, 122, .inl sg))) (q + 2) (.inl (0, 122, .inl vl)), n, s) _
            refine r_if_eq (tgt := 65) (by decide) dX11_readWord_57 (fun _ => ?_) (fun h9 => absurd (bI_0.mpr c39) h9)
            refine r_bipush (v := 10) (by decide) dX11_readWord_65 ?_
            refine r_istore_n (n := 1) (i := 1) (L' := [(1, .int 10), (0, .ref 50)]) rfl dX11_readWord_67 (by decide) rfl ?_
            refine r_aload_n (n := 0) (i := 0) 1 rfl rfl dX11_readWord_68 ?_
            refine p_callV (As := []) (rest := []) (c_part (d := 1) hq h53 h54 e0 hb9 hm ho (Nat.le_refl _)) rfl lkX11_160 imX11_part seX11_part rfl (by exact ((bU_n (by omega)).trans (((bU_n (by omega)).trans (((bU_n (by omega)).trans (bU_s _ _ _))))))) rfl rfl (by omega) (Nat.le_of_ble_eq_true rfl) dX11_readWord_69 (fun v9 G9 h9 => ?_) (fun q9 G9 h9 => ⟨(fun x9 hx9 => by cases hx9), ?_⟩)
            · rcases hR1 : mPart st with ⟨ft1, pl1⟩ | st1
              · rw [hR1] at h9; cases h9.1
              · rw [hR1] at h9; obtain ⟨h8, at1, so1, mk1, nu1, di1, wo1, sg1, vl1, hm1, rfl⟩ := h9; cases h8
                have ho1 : okS (k + 1) (a + 1) st1 := mPart_ok ho hR1
                obtain ⟨p11, p21, p31, p41, p51⟩ := id ho1
                have t1 := mPart_t hR1
                show bV O _ d 72 [(1, .int 10), (0, .ref 50)] [] (bU (bU (bU (bU f 50 (.inr (11, [.int (u 0), .int (u 1), .int (u 2), .int (u 3), .int (u 4), .ref 51, .ref q, .ref 53, .ref 54, .int (u 5), .int (nI e), .int at1, .int so1, .int (nI st1.1.1), .int mk1, .int nu1, .int di1, .int (nI b), .int (nI i), .long wo1, .ref 55, .ref 56, .int (u 6), .int (u 7), .ref 57, .int (u 8), .ref 58, .ref 59, .ref 60, .ref 61, .ref 62, .ref 63, .int (u 9), .ref 64, .int (u 10)]))) q (.inr (9, [.int (nI st1.2.1), .int (nI st1.2.2.1.length), .int st1.2.2.2, .ref (q + 1), .ref (q + 2)]))) (q + 1) (.inl (0, 122, .inl sg1))) (q + 2) (.inl (0, 122, .inl vl1)), n, s) _
                refine r_aload_n (n := 0) (i := 0) 1 rfl rfl dX11_readWord_72 ?_
                refine p_callV (As := []) (rest := []) (c_nextM (d := 1) hq h53 h54 e0 hb9 hm1 ho1 (by simp only [t1, q6, q15, q24, q39, q48] <;> decide) (Nat.le_refl _)) rfl lkX11_140 imX11_next seX11_next rfl (by exact ((bU_n (by omega)).trans (((bU_n (by omega)).trans (((bU_n (by omega)).trans (bU_s _ _ _))))))) rfl rfl (by omega) (Nat.le_of_ble_eq_true rfl) dX11_readWord_73 (fun v9 G9 h9 => ?_) (fun q9 G9 h9 => ⟨(fun x9 hx9 => by cases hx9), ?_⟩)
                · rcases hR2 : mNext bs e st1 with ⟨ft2, pl2⟩ | st2
                  · rw [hR2] at h9; cases h9.1
                  · rw [hR2] at h9; obtain ⟨h8, at2, so2, mk2, nu2, di2, wo2, sg2, vl2, hm2, rfl⟩ := h9; cases h8
                    have ho2 : okS (k + 1) (a + 1) st2 := mNext_ok e0 ho1 hR2
                    obtain ⟨p12, p22, p32, p42, p52⟩ := id ho2
                    show bV O _ d 76 [(1, .int 10), (0, .ref 50)] [] (bU (bU (bU (bU f 50 (.inr (11, [.int (u 0), .int (u 1), .int (u 2), .int (u 3), .int (u 4), .ref 51, .ref q, .ref 53, .ref 54, .int (u 5), .int (nI e), .int at2, .int so2, .int (nI st2.1.1), .int mk2, .int nu2, .int di2, .int (nI b), .int (nI i), .long wo2, .ref 55, .ref 56, .int (u 6), .int (u 7), .ref 57, .int (u 8), .ref 58, .ref 59, .ref 60, .ref 61, .ref 62, .ref 63, .int (u 9), .ref 64, .int (u 10)]))) q (.inr (9, [.int (nI st2.2.1), .int (nI st2.2.2.1.length), .int st2.2.2.2, .ref (q + 1), .ref (q + 2)]))) (q + 1) (.inl (0, 122, .inl sg2))) (q + 2) (.inl (0, 122, .inl vl2)), n, s) _
                    refine r_aload_n (n := 0) (i := 0) 1 rfl rfl dX11_readWord_76 ?_
                    refine p_callV (As := []) (rest := []) (c_opens (d := 2) hq h53 h54 e0 hb9 hm2 ho2 (b := b) (by omega) (Nat.le_refl _)) rfl lkX11_184 imX11_opens seX11_opens rfl (by exact ((bU_n (by omega)).trans (((bU_n (by omega)).trans (((bU_n (by omega)).trans (bU_s _ _ _))))))) rfl rfl (by omega) (Nat.le_of_ble_eq_true rfl) dX11_readWord_77 (fun v9 G9 h9 => ?_) (fun q9 G9 h9 => ⟨(fun x9 hx9 => by cases hx9), ?_⟩)
                    · rcases hR3 : pOpen bs e b st2 with ⟨ft3, pl3⟩ | st3
                      · rw [hR3] at h9; cases h9.1
                      · rw [hR3] at h9; obtain ⟨h8, at3, so3, mk3, nu3, di3, wo3, sg3, vl3, hm3, rfl⟩ := h9; cases h8
                        have ho3 : okS (k + 1) (a + 1) st3 := pOpen_ok e0 ho2 hR3
                        obtain ⟨p13, p23, p33, p43, p53⟩ := id ho3
                        have hb8 := pOpen_b hR3
                        show bV O _ d 80 [(1, .int 10), (0, .ref 50)] [] (bU (bU (bU (bU f 50 (.inr (11, [.int (u 0), .int (u 1), .int (u 2), .int (u 3), .int (u 4), .ref 51, .ref q, .ref 53, .ref 54, .int (u 5), .int (nI e), .int at3, .int so3, .int (nI st3.1.1), .int mk3, .int nu3, .int di3, .int (nI (b + 1)), .int (nI i), .long wo3, .ref 55, .ref 56, .int (u 6), .int (u 7), .ref 57, .int (u 8), .ref 58, .ref 59, .ref 60, .ref 61, .ref 62, .ref 63, .int (u 9), .ref 64, .int (u 10)]))) q (.inr (9, [.int (nI st3.2.1), .int (nI st3.2.2.1.length), .int st3.2.2.2, .ref (q + 1), .ref (q + 2)]))) (q + 1) (.inl (0, 122, .inl sg3))) (q + 2) (.inl (0, 122, .inl vl3)), n, s) _
                        refine r_aload_n (n := 0) (i := 0) 1 rfl rfl dX11_readWord_80 ?_
                        refine p_callV (As := []) (rest := []) (HT (b + 1) i _ _ st3 _ _ _ _ _ _ _ _ (by omega) (by omega) (by omega) hm3 ho3) rfl lkX11_173 imX11_readTell seX11_readTell rfl (by exact ((bU_n (by omega)).trans (((bU_n (by omega)).trans (((bU_n (by omega)).trans (bU_s _ _ _))))))) rfl rfl (by omega) (Nat.le_of_ble_eq_true rfl) dX11_readWord_81 (fun v9 G9 h9 => ?_) (fun q9 G9 h9 => ⟨(fun x9 hx9 => by cases hx9), ?_⟩)
                        · rcases hR4 : T (b + 1) i st3 with ⟨ft4, pl4⟩ | st4
                          · rw [hR4] at h9; cases h9.1
                          · rw [hR4] at h9; obtain ⟨h8, at4, so4, mk4, nu4, di4, wo4, sg4, vl4, hm4, rfl⟩ := h9; cases h8
                            have ho4 : okS (k + 1) (a + 1) st4 := hT _ _ _ _ _ _ ho3 hR4
                            obtain ⟨p14, p24, p34, p44, p54⟩ := id ho4
                            show bV O _ d 84 [(1, .int 10), (0, .ref 50)] [] (bU (bU (bU (bU f 50 (.inr (11, [.int (u 0), .int (u 1), .int (u 2), .int (u 3), .int (u 4), .ref 51, .ref q, .ref 53, .ref 54, .int (u 5), .int (nI e), .int at4, .int so4, .int (nI st4.1.1), .int mk4, .int nu4, .int di4, .int (nI (b + 1)), .int (nI i), .long wo4, .ref 55, .ref 56, .int (u 6), .int (u 7), .ref 57, .int (u 8), .ref 58, .ref 59, .ref 60, .ref 61, .ref 62, .ref 63, .int (u 9), .ref 64, .int (u 10)]))) q (.inr (9, [.int (nI st4.2.1), .int (nI st4.2.2.1.length), .int st4.2.2.2, .ref (q + 1), .ref (q + 2)]))) (q + 1) (.inl (0, 122, .inl sg4))) (q + 2) (.inl (0, 122, .inl vl4)), n, s) _
                            refine r_aload_n (n := 0) (i := 0) 1 rfl rfl dX11_readWord_84 ?_
                            refine r_bipush (v := 44) (by decide) dX11_readWord_85 ?_
                            refine p_callV (As := [.int 44]) (rest := []) (c_need (d := 2) hq h53 h54 e0 hb9 hm4 ho4 (y9 := 44) (by decide) (Nat.le_refl _)) rfl lkX11_187 imX11_need seX11_need rfl (by exact ((bU_n (by omega)).trans (((bU_n (by omega)).trans (((bU_n (by omega)).trans (bU_s _ _ _))))))) rfl rfl (by omega) (Nat.le_of_ble_eq_true rfl) dX11_readWord_87 (fun v9 G9 h9 => ?_) (fun q9 G9 h9 => ⟨(fun x9 hx9 => by cases hx9), ?_⟩)
                            · rcases hR5 : pTake bs e 44 st4 with ⟨ft5, pl5⟩ | st5
                              · rw [hR5] at h9; cases h9.1
                              · rw [hR5] at h9; obtain ⟨h8, at5, so5, mk5, nu5, di5, wo5, sg5, vl5, hm5, rfl⟩ := h9; cases h8
                                have ho5 : okS (k + 1) (a + 1) st5 := pTake_ok e0 ho4 hR5
                                obtain ⟨p15, p25, p35, p45, p55⟩ := id ho5
                                show bV O _ d 90 [(1, .int 10), (0, .ref 50)] [] (bU (bU (bU (bU f 50 (.inr (11, [.int (u 0), .int (u 1), .int (u 2), .int (u 3), .int (u 4), .ref 51, .ref q, .ref 53, .ref 54, .int (u 5), .int (nI e), .int at5, .int so5, .int (nI st5.1.1), .int mk5, .int nu5, .int di5, .int (nI (b + 1)), .int (nI i), .long wo5, .ref 55, .ref 56, .int (u 6), .int (u 7), .ref 57, .int (u 8), .ref 58, .ref 59, .ref 60, .ref 61, .ref 62, .ref 63, .int (u 9), .ref 64, .int (u 10)]))) q (.inr (9, [.int (nI st5.2.1), .int (nI st5.2.2.1.length), .int st5.2.2.2, .ref (q + 1), .ref (q + 2)]))) (q + 1) (.inl (0, 122, .inl sg5))) (q + 2) (.inl (0, 122, .inl vl5)), n, s) _
                                refine r_aload_n (n := 0) (i := 0) 1 rfl rfl dX11_readWord_90 ?_
                                refine p_callV (As := []) (rest := []) (HT (b + 1) i _ _ st5 _ _ _ _ _ _ _ _ (by omega) (by omega) (by omega) hm5 ho5) rfl lkX11_173 imX11_readTell seX11_readTell rfl (by exact ((bU_n (by omega)).trans (((bU_n (by omega)).trans (((bU_n (by omega)).trans (bU_s _ _ _))))))) rfl rfl (by omega) (Nat.le_of_ble_eq_true rfl) dX11_readWord_91 (fun v9 G9 h9 => ?_) (fun q9 G9 h9 => ⟨(fun x9 hx9 => by cases hx9), ?_⟩)
                                · rcases hR6 : T (b + 1) i st5 with ⟨ft6, pl6⟩ | st6
                                  · rw [hR6] at h9; cases h9.1
                                  · rw [hR6] at h9; obtain ⟨h8, at6, so6, mk6, nu6, di6, wo6, sg6, vl6, hm6, rfl⟩ := h9; cases h8
                                    have ho6 : okS (k + 1) (a + 1) st6 := hT _ _ _ _ _ _ ho5 hR6
                                    obtain ⟨p16, p26, p36, p46, p56⟩ := id ho6
                                    show bV O _ d 94 [(1, .int 10), (0, .ref 50)] [] (bU (bU (bU (bU f 50 (.inr (11, [.int (u 0), .int (u 1), .int (u 2), .int (u 3), .int (u 4), .ref 51, .ref q, .ref 53, .ref 54, .int (u 5), .int (nI e), .int at6, .int so6, .int (nI st6.1.1), .int mk6, .int nu6, .int di6, .int (nI (b + 1)), .int (nI i), .long wo6, .ref 55, .ref 56, .int (u 6), .int (u 7), .ref 57, .int (u 8), .ref 58, .ref 59, .ref 60, .ref 61, .ref 62, .ref 63, .int (u 9), .ref 64, .int (u 10)]))) q (.inr (9, [.int (nI st6.2.1), .int (nI st6.2.2.1.length), .int st6.2.2.2, .ref (q + 1), .ref (q + 2)]))) (q + 1) (.inl (0, 122, .inl sg6))) (q + 2) (.inl (0, 122, .inl vl6)), n, s) _
                                    refine r_aload_n (n := 0) (i := 0) 1 rfl rfl dX11_readWord_94 ?_
                                    refine r_bipush (v := 41) (by decide) dX11_readWord_95 ?_
                                    refine p_callV (As := [.int 41]) (rest := []) (c_need (d := 2) hq h53 h54 e0 hb9 hm6 ho6 (y9 := 41) (by decide) (Nat.le_refl _)) rfl lkX11_187 imX11_need seX11_need rfl (by exact ((bU_n (by omega)).trans (((bU_n (by omega)).trans (((bU_n (by omega)).trans (bU_s _ _ _))))))) rfl rfl (by omega) (Nat.le_of_ble_eq_true rfl) dX11_readWord_97 (fun v9 G9 h9 => ?_) (fun q9 G9 h9 => ⟨(fun x9 hx9 => by cases hx9), ?_⟩)
                                    · rcases hR7 : pTake bs e 41 st6 with ⟨ft7, pl7⟩ | st7
                                      · rw [hR7] at h9; cases h9.1
                                      · rw [hR7] at h9; obtain ⟨h8, at7, so7, mk7, nu7, di7, wo7, sg7, vl7, hm7, rfl⟩ := h9; cases h8
                                        have ho7 : okS (k + 1) (a + 1) st7 := pTake_ok e0 ho6 hR7
                                        obtain ⟨p17, p27, p37, p47, p57⟩ := id ho7
                                        show bV O _ d 100 [(1, .int 10), (0, .ref 50)] [] (bU (bU (bU (bU f 50 (.inr (11, [.int (u 0), .int (u 1), .int (u 2), .int (u 3), .int (u 4), .ref 51, .ref q, .ref 53, .ref 54, .int (u 5), .int (nI e), .int at7, .int so7, .int (nI st7.1.1), .int mk7, .int nu7, .int di7, .int (nI (b + 1)), .int (nI i), .long wo7, .ref 55, .ref 56, .int (u 6), .int (u 7), .ref 57, .int (u 8), .ref 58, .ref 59, .ref 60, .ref 61, .ref 62, .ref 63, .int (u 9), .ref 64, .int (u 10)]))) q (.inr (9, [.int (nI st7.2.1), .int (nI st7.2.2.1.length), .int st7.2.2.2, .ref (q + 1), .ref (q + 2)]))) (q + 1) (.inl (0, 122, .inl sg7))) (q + 2) (.inl (0, 122, .inl vl7)), n, s) _
                                        refine r_aload_n (n := 0) (i := 0) 1 rfl rfl dX11_readWord_100 ?_
                                        refine r_dup rfl dX11_readWord_101 ?_
                                        refine p_get (fs := [.int (u 0), .int (u 1), .int (u 2), .int (u 3), .int (u 4), .ref 51, .ref q, .ref 53, .ref 54, .int (u 5), .int (nI e), .int at7, .int so7, .int (nI st7.1.1), .int mk7, .int nu7, .int di7, .int (nI (b + 1)), .int (nI i), .long wo7, .ref 55, .ref 56, .int (u 6), .int (u 7), .ref 57, .int (u 8), .ref 58, .ref 59, .ref 60, .ref 61, .ref 62, .ref 63, .int (u 9), .ref 64, .int (u 10)]) flX11_149 (by exact ((bU_n (by omega)).trans (((bU_n (by omega)).trans (((bU_n (by omega)).trans (bU_s _ _ _))))))) rfl dX11_readWord_102 ?_
                                        refine r_iconst (v := 1) (by decide) dX11_readWord_105 ?_
                                        refine r_isubE (v := nI ((b + 1) - 1)) (pk_sub (a := b + 1) (b := 1) (by omega)) dX11_readWord_106 ?_
                                        refine p_put (fs := [.int (u 0), .int (u 1), .int (u 2), .int (u 3), .int (u 4), .ref 51, .ref q, .ref 53, .ref 54, .int (u 5), .int (nI e), .int at7, .int so7, .int (nI st7.1.1), .int mk7, .int nu7, .int di7, .int (nI (b + 1)), .int (nI i), .long wo7, .ref 55, .ref 56, .int (u 6), .int (u 7), .ref 57, .int (u 8), .ref 58, .ref 59, .ref 60, .ref 61, .ref 62, .ref 63, .int (u 9), .ref 64, .int (u 10)]) (fs' := [.int (u 0), .int (u 1), .int (u 2), .int (u 3), .int (u 4), .ref 51, .ref q, .ref 53, .ref 54, .int (u 5), .int (nI e), .int at7, .int so7, .int (nI st7.1.1), .int mk7, .int nu7, .int di7, .int (nI ((b + 1) - 1)), .int (nI i), .long wo7, .ref 55, .ref 56, .int (u 6), .int (u 7), .ref 57, .int (u 8), .ref 58, .ref 59, .ref 60, .ref 61, .ref 62, .ref 63, .int (u 9), .ref 64, .int (u 10)]) flX11_149 (by exact ((bU_n (by omega)).trans (((bU_n (by omega)).trans (((bU_n (by omega)).trans (bU_s _ _ _))))))) (Nat.le_of_ble_eq_true rfl) (bNf_i _) rfl dX11_readWord_107 ?_
                                        refine bV_h (f2 := bU (bU (bU (bU f 50 (.inr (11, [.int (u 0), .int (u 1), .int (u 2), .int (u 3), .int (u 4), .ref 51, .ref q, .ref 53, .ref 54, .int (u 5), .int (nI e), .int at7, .int so7, .int (nI st7.1.1), .int mk7, .int nu7, .int di7, .int (nI ((b + 1) - 1)), .int (nI i), .long wo7, .ref 55, .ref 56, .int (u 6), .int (u 7), .ref 57, .int (u 8), .ref 58, .ref 59, .ref 60, .ref 61, .ref 62, .ref 63, .int (u 9), .ref 64, .int (u 10)]))) q (.inr (9, [.int (nI st7.2.1), .int (nI st7.2.2.1.length), .int st7.2.2.2, .ref (q + 1), .ref (q + 2)]))) (q + 1) (.inl (0, 122, .inl sg7))) (q + 2) (.inl (0, 122, .inl vl7))) (((bU_c (by omega)).trans (congrArg (fun z => bU z (q + 2) (.inl (0, 122, .inl vl7))) (((bU_c (by omega)).trans (congrArg (fun z => bU z (q + 1) (.inl (0, 122, .inl sg7))) (((bU_c (by omega)).trans (congrArg (fun z => bU z q (.inr (9, [.int (nI st7.2.1), .int (nI st7.2.2.1.length), .int st7.2.2.2, .ref (q + 1), .ref (q + 2)]))) (bU_u _ _ _ _)))))))))) ?_
                                        show bV O _ d 110 [(1, .int 10), (0, .ref 50)] [] (bU (bU (bU (bU f 50 (.inr (11, [.int (u 0), .int (u 1), .int (u 2), .int (u 3), .int (u 4), .ref 51, .ref q, .ref 53, .ref 54, .int (u 5), .int (nI e), .int at7, .int so7, .int (nI st7.1.1), .int mk7, .int nu7, .int di7, .int (nI b), .int (nI i), .long wo7, .ref 55, .ref 56, .int (u 6), .int (u 7), .ref 57, .int (u 8), .ref 58, .ref 59, .ref 60, .ref 61, .ref 62, .ref 63, .int (u 9), .ref 64, .int (u 10)]))) q (.inr (9, [.int (nI st7.2.1), .int (nI st7.2.2.1.length), .int st7.2.2.2, .ref (q + 1), .ref (q + 2)]))) (q + 1) (.inl (0, 122, .inl sg7))) (q + 2) (.inl (0, 122, .inl vl7)), n, s) _
                                        refine r_aload_n (n := 0) (i := 0) 1 rfl rfl dX11_readWord_110 ?_
                                        refine p_get (fs := [.int (u 0), .int (u 1), .int (u 2), .int (u 3), .int (u 4), .ref 51, .ref q, .ref 53, .ref 54, .int (u 5), .int (nI e), .int at7, .int so7, .int (nI st7.1.1), .int mk7, .int nu7, .int di7, .int (nI b), .int (nI i), .long wo7, .ref 55, .ref 56, .int (u 6), .int (u 7), .ref 57, .int (u 8), .ref 58, .ref 59, .ref 60, .ref 61, .ref 62, .ref 63, .int (u 9), .ref 64, .int (u 10)]) flX11_22 (by exact ((bU_n (by omega)).trans (((bU_n (by omega)).trans (((bU_n (by omega)).trans (bU_s _ _ _))))))) rfl dX11_readWord_111 ?_
                                        refine r_iload_n (n := 1) (i := 1) 0 rfl rfl dX11_readWord_114 ?_
                                        refine r_iconst (v := 0) (by decide) dX11_readWord_115 ?_
                                        refine p_callV (As := [.int 10, .int 0]) (rest := []) (c_put (d := 0) hq hm7 ho7 265 0 (by decide) rfl (Nat.le_refl _)) rfl lkX11_163 imX9_put seX9_put rfl (by exact ((bU_n (by omega)).trans (((bU_n (by omega)).trans (bU_s _ _ _))))) rfl rfl (by omega) (Nat.le_of_ble_eq_true rfl) dX11_readWord_116 (fun v9 G9 h9 => ?_) (fun q9 G9 h9 => ⟨(fun x9 hx9 => by cases hx9), ?_⟩)
                                        · rcases hR8 : pWr 265 0 st7 with ⟨ft8, pl8⟩ | st8
                                          · rw [hR8] at h9; cases h9.1
                                          · rw [hR8] at h9; obtain ⟨h8, at8, so8, mk8, nu8, di8, wo8, sg8, vl8, hm8, rfl⟩ := h9; cases h8
                                            have ho8 : okS (k) (a + 1) st8 := pWr_ok (k := k) ho7 hR8
                                            obtain ⟨p18, p28, p38, p48, p58⟩ := id ho8
                                            have t8 := pWr_t hR8
                                            show bV O _ d 119 [(1, .int 10), (0, .ref 50)] [] (bU (bU (bU (bU f 50 (.inr (11, [.int (u 0), .int (u 1), .int (u 2), .int (u 3), .int (u 4), .ref 51, .ref q, .ref 53, .ref 54, .int (u 5), .int (nI e), .int at8, .int so8, .int (nI st8.1.1), .int mk8, .int nu8, .int di8, .int (nI b), .int (nI i), .long wo8, .ref 55, .ref 56, .int (u 6), .int (u 7), .ref 57, .int (u 8), .ref 58, .ref 59, .ref 60, .ref 61, .ref 62, .ref 63, .int (u 9), .ref 64, .int (u 10)]))) q (.inr (9, [.int (nI st8.2.1), .int (nI st8.2.2.1.length), .int st8.2.2.2, .ref (q + 1), .ref (q + 2)]))) (q + 1) (.inl (0, 122, .inl sg8))) (q + 2) (.inl (0, 122, .inl vl8)), n, s) _
                                            refine r_return rfl dX11_readWord_119 ?_
                                            rw [show pPlain bs e T b i st = .inr st8 by rw [pPl_265 q48]; simp only [pB_l, pB_r, hR1, hR2, hR3, hR4, hR5, hR6, hR7, hR8]]
                                            exact ⟨rfl, _, _, _, _, _, _, _, _, hm8, rfl⟩
                                        · rcases hR8 : pWr 265 0 st7 with ⟨ft8, pl8⟩ | st8
                                          · rw [hR8] at h9
                                            rw [show pPlain bs e T b i st = .inl (ft8, pl8) by rw [pPl_265 q48]; simp only [pB_l, pB_r, hR1, hR2, hR3, hR4, hR5, hR6, hR7, hR8]]
                                            exact h9
                                          · rw [hR8] at h9; cases h9.1
                                    · rcases hR7 : pTake bs e 41 st6 with ⟨ft7, pl7⟩ | st7
                                      · rw [hR7] at h9
                                        rw [show pPlain bs e T b i st = .inl (ft7, pl7) by rw [pPl_265 q48]; simp only [pB_l, pB_r, hR1, hR2, hR3, hR4, hR5, hR6, hR7]]
                                        exact h9
                                      · rw [hR7] at h9; cases h9.1
                                · rcases hR6 : T (b + 1) i st5 with ⟨ft6, pl6⟩ | st6
                                  · rw [hR6] at h9
                                    rw [show pPlain bs e T b i st = .inl (ft6, pl6) by rw [pPl_265 q48]; simp only [pB_l, pB_r, hR1, hR2, hR3, hR4, hR5, hR6]]
                                    exact h9
                                  · rw [hR6] at h9; cases h9.1
                            · rcases hR5 : pTake bs e 44 st4 with ⟨ft5, pl5⟩ | st5
                              · rw [hR5] at h9
                                rw [show pPlain bs e T b i st = .inl (ft5, pl5) by rw [pPl_265 q48]; simp only [pB_l, pB_r, hR1, hR2, hR3, hR4, hR5]]
                                exact h9
                              · rw [hR5] at h9; cases h9.1
                        · rcases hR4 : T (b + 1) i st3 with ⟨ft4, pl4⟩ | st4
                          · rw [hR4] at h9
                            rw [show pPlain bs e T b i st = .inl (ft4, pl4) by rw [pPl_265 q48]; simp only [pB_l, pB_r, hR1, hR2, hR3, hR4]]
                            exact h9
                          · rw [hR4] at h9; cases h9.1
                    · rcases hR3 : pOpen bs e b st2 with ⟨ft3, pl3⟩ | st3
                      · rw [hR3] at h9
                        rw [show pPlain bs e T b i st = .inl (ft3, pl3) by rw [pPl_265 q48]; simp only [pB_l, pB_r, hR1, hR2, hR3]]
                        exact h9
                      · rw [hR3] at h9; cases h9.1
                · rcases hR2 : mNext bs e st1 with ⟨ft2, pl2⟩ | st2
                  · rw [hR2] at h9
                    rw [show pPlain bs e T b i st = .inl (ft2, pl2) by rw [pPl_265 q48]; simp only [pB_l, pB_r, hR1, hR2]]
                    exact h9
                  · rw [hR2] at h9; cases h9.1
            · rcases hR1 : mPart st with ⟨ft1, pl1⟩ | st1
              · rw [hR1] at h9
                rw [show pPlain bs e T b i st = .inl (ft1, pl1) by rw [pPl_265 q48]; simp only [pB_l, pB_r, hR1]]
                exact h9
              · rw [hR1] at h9; cases h9.1
      · have c24 := bI_1.mp c24
        first | (have q24 : st.1.2.2.1 = 263 := (by have h7 := of_decide_eq_true c24; rwa [show nI (261 + 2) = 263 by decide] at h7)) | (have q24 : ¬ st.1.2.2.1 = 263 := (by have h7 := of_decide_eq_false c24; rwa [show nI (261 + 2) = 263 by decide] at h7))
        refine r_aload_n (n := 0) (i := 0) 0 rfl rfl dX11_readWord_27 ?_
        refine r_iconst (v := 1) (by decide) dX11_readWord_28 ?_
        refine p_callV (As := [.int 1]) (rest := []) (kX11_stop (O := O) (d := 0) (f := bU (bU (bU (bU f 50 (.inr (11, [.int (u 0), .int (u 1), .int (u 2), .int (u 3), .int (u 4), .ref 51, .ref q, .ref 53, .ref 54, .int (u 5), .int (nI e), .int at_, .int so, .int (nI st.1.1), .int mk, .int nu, .int di, .int (nI b), .int (nI i), .long wo, .ref 55, .ref 56, .int (u 6), .int (u 7), .ref 57, .int (u 8), .ref 58, .ref 59, .ref 60, .ref 61, .ref 62, .ref 63, .int (u 9), .ref 64, .int (u 10)]))) q (.inr (9, [.int (nI st.2.1), .int (nI st.2.2.1.length), .int st.2.2.2, .ref (q + 1), .ref (q + 2)]))) (q + 1) (.inl (0, 122, .inl sg))) (q + 2) (.inl (0, 122, .inl vl))) (n := n) (s := s) (q := q) (e := e) (at_ := at_) (so := so) (pl := nI st.1.1) (mk := mk) (nu := nu) (di := di) (br := nI b) (iff := nI i) (wo := wo) (x := 1) (kd := kd) (sp := sp) (by exact ((bU_n (by omega)).trans (((bU_n (by omega)).trans (((bU_n (by omega)).trans (bU_s _ _ _))))))) (by exact ((bU_n (by omega)).trans (((bU_n (by omega)).trans (((bU_n (by omega)).trans (((bU_n (by decide)).trans (h53)))))))))  (Nat.le_refl _)).call rfl lkX11_137 imX11_stop seX11_stop rfl (by exact ((bU_n (by omega)).trans (((bU_n (by omega)).trans (((bU_n (by omega)).trans (bU_s _ _ _))))))) rfl rfl (by omega) (Nat.le_of_ble_eq_true rfl) dX11_readWord_29 (fun v9 G9 h9 => ?_) (fun q9 G9 h9 => (by cases h9.1))
        obtain ⟨h8, rfl⟩ := h9; cases h8
        show bV O _ d 32 [(0, .ref 50)] [.ref 53] (bU (bU (bU (bU (bU f 50 (.inr (11, [.int (u 0), .int (u 1), .int (u 2), .int (u 3), .int (u 4), .ref 51, .ref q, .ref 53, .ref 54, .int (u 5), .int (nI e), .int at_, .int so, .int (nI st.1.1), .int mk, .int nu, .int di, .int (nI b), .int (nI i), .long wo, .ref 55, .ref 56, .int (u 6), .int (u 7), .ref 57, .int (u 8), .ref 58, .ref 59, .ref 60, .ref 61, .ref 62, .ref 63, .int (u 9), .ref 64, .int (u 10)]))) q (.inr (9, [.int (nI st.2.1), .int (nI st.2.2.1.length), .int st.2.2.2, .ref (q + 1), .ref (q + 2)]))) (q + 1) (.inl (0, 122, .inl sg))) (q + 2) (.inl (0, 122, .inl vl))) 53 (.inr (10, [.null, .null, .null, .null, .null, .int 0, .int 1, .int (nI st.1.1)])), n, s) _
        refine p_athrow (by decide) (by exact bU_s _ _ _) rfl (fun x hx => by cases hx) dX11_readWord_32 ?_
        rw [show pPlain bs e T b i st = .inl (1, st.1.1) by exact pPl_w (Or.inr (Or.inr q24))]
        exact ⟨rfl, _, _, _, _, _, _, _, _, _, _, _, _, _, _, rfl⟩
theorem lp_negM {O : bO} {d : Nat} {f : bF} {n s : Nat} {u : Nat → Int32} {q e : Nat} {tg bs : Nat → Int32} {kd sp : Int32} (hq : 5000 ≤ q) (h53 : f 53 = some (.inr (10, [.null, .null, .null, .null, .null, .int 0, .int kd, .int sp]))) (h54 : f 54 = some (.inl (1, 300, .inl tg))) (e0 : e ≤ 300) (hb9 : ∀ z, z < 300 → tg z &&& 255 = bs z) {b i c : Nat} (hd : 2 ≤ d) (hc6 : c ≤ 61) : ∀ (j x k a : Nat) (st : pS) (at_ so mk nu di : Int32) (wo : Int64) (sg vl : Nat → Int32), x + j = c → msR e st at_ so mk nu di wo sg vl → okS (k + j) a st → bV O mX11_readOne d 112 [(2, .int (nI x)), (1, .int (nI c)), (0, .ref 50)] [] (hMd f u q e st at_ so mk nu di wo b i sg vl, n, s) (rM f n s u q e b i (.inr (pNeg j st))) := by
  intro j
  induction j with
  | zero =>
    intro x k a st at_ so mk nu di wo sg vl hx hm ho
    obtain ⟨o1, o2, o3, o4, o5⟩ := id ho
    show bV O _ d 112 [(2, .int (nI x)), (1, .int (nI c)), (0, .ref 50)] [] (bU (bU (bU (bU f 50 (.inr (11, [.int (u 0), .int (u 1), .int (u 2), .int (u 3), .int (u 4), .ref 51, .ref q, .ref 53, .ref 54, .int (u 5), .int (nI e), .int at_, .int so, .int (nI st.1.1), .int mk, .int nu, .int di, .int (nI b), .int (nI i), .long wo, .ref 55, .ref 56, .int (u 6), .int (u 7), .ref 57, .int (u 8), .ref 58, .ref 59, .ref 60, .ref 61, .ref 62, .ref 63, .int (u 9), .ref 64, .int (u 10)]))) q (.inr (9, [.int (nI st.2.1), .int (nI st.2.2.1.length), .int st.2.2.2, .ref (q + 1), .ref (q + 2)]))) (q + 1) (.inl (0, 122, .inl sg))) (q + 2) (.inl (0, 122, .inl vl)), n, s) _
    refine r_iload_n (n := 2) (i := 2) 0 rfl rfl dX11_readOne_112 ?_
    refine r_iload_n (n := 1) (i := 1) 1 rfl rfl dX11_readOne_113 ?_
    refine r_icmp_ge (tgt := 133) (by decide) dX11_readOne_114 (fun _ => ?_) (fun h9 => absurd ((nI_leI (a := c) (b := x) (by omega) (by omega)).mpr (by omega)) h9)
    refine r_return rfl dX11_readOne_133 ?_
    exact ⟨rfl, _, _, _, _, _, _, _, _, hm, rfl⟩
  | succ j ih =>
    intro x k a st at_ so mk nu di wo sg vl hx hm ho
    obtain ⟨o1, o2, o3, o4, o5⟩ := id ho
    show bV O _ d 112 [(2, .int (nI x)), (1, .int (nI c)), (0, .ref 50)] [] (bU (bU (bU (bU f 50 (.inr (11, [.int (u 0), .int (u 1), .int (u 2), .int (u 3), .int (u 4), .ref 51, .ref q, .ref 53, .ref 54, .int (u 5), .int (nI e), .int at_, .int so, .int (nI st.1.1), .int mk, .int nu, .int di, .int (nI b), .int (nI i), .long wo, .ref 55, .ref 56, .int (u 6), .int (u 7), .ref 57, .int (u 8), .ref 58, .ref 59, .ref 60, .ref 61, .ref 62, .ref 63, .int (u 9), .ref 64, .int (u 10)]))) q (.inr (9, [.int (nI st.2.1), .int (nI st.2.2.1.length), .int st.2.2.2, .ref (q + 1), .ref (q + 2)]))) (q + 1) (.inl (0, 122, .inl sg))) (q + 2) (.inl (0, 122, .inl vl)), n, s) _
    refine r_iload_n (n := 2) (i := 2) 0 rfl rfl dX11_readOne_112 ?_
    refine r_iload_n (n := 1) (i := 1) 1 rfl rfl dX11_readOne_113 ?_
    refine r_icmp_ge (tgt := 133) (by decide) dX11_readOne_114 (fun h9 => absurd h9 (fun h7 => absurd ((nI_leI (a := c) (b := x) (by omega) (by omega)).mp h7) (by omega))) (fun _ => ?_)
    refine r_aload_n (n := 0) (i := 0) 2 rfl rfl dX11_readOne_117 ?_
    refine p_get (fs := [.int (u 0), .int (u 1), .int (u 2), .int (u 3), .int (u 4), .ref 51, .ref q, .ref 53, .ref 54, .int (u 5), .int (nI e), .int at_, .int so, .int (nI st.1.1), .int mk, .int nu, .int di, .int (nI b), .int (nI i), .long wo, .ref 55, .ref 56, .int (u 6), .int (u 7), .ref 57, .int (u 8), .ref 58, .ref 59, .ref 60, .ref 61, .ref 62, .ref 63, .int (u 9), .ref 64, .int (u 10)]) flX11_22 (by exact ((bU_n (by omega)).trans (((bU_n (by omega)).trans (((bU_n (by omega)).trans (bU_s _ _ _))))))) rfl dX11_readOne_118 ?_
    refine r_bipush (v := 8) (by decide) dX11_readOne_121 ?_
    refine r_iconst (v := 0) (by decide) dX11_readOne_123 ?_
    refine p_callV (As := [.int 8, .int 0]) (rest := []) (c_put (d := 0) hq hm ho 266 0 (by decide) rfl (Nat.le_refl _)) rfl lkX11_163 imX9_put seX9_put rfl (by exact ((bU_n (by omega)).trans (((bU_n (by omega)).trans (bU_s _ _ _))))) rfl rfl (by omega) (Nat.le_of_ble_eq_true rfl) dX11_readOne_124 (fun v9 G9 h9 => ?_) (fun q9 G9 h9 => ⟨(fun x9 hx9 => by cases hx9), ?_⟩)
    · rcases hR1 : pWr 266 0 st with ⟨ft1, pl1⟩ | st1
      · rw [hR1] at h9; cases h9.1
      · rw [hR1] at h9; obtain ⟨h8, at1, so1, mk1, nu1, di1, wo1, sg1, vl1, hm1, rfl⟩ := h9; cases h8
        have ho1 : okS (k + j) (a) st1 := pWr_ok (k := k + j) (show okS (k + j + 1) a st from ho) hR1
        obtain ⟨p11, p21, p31, p41, p51⟩ := id ho1
        have t1 := pWr_t hR1
        show bV O _ d 127 [(2, .int (nI x)), (1, .int (nI c)), (0, .ref 50)] [] (bU (bU (bU (bU f 50 (.inr (11, [.int (u 0), .int (u 1), .int (u 2), .int (u 3), .int (u 4), .ref 51, .ref q, .ref 53, .ref 54, .int (u 5), .int (nI e), .int at1, .int so1, .int (nI st1.1.1), .int mk1, .int nu1, .int di1, .int (nI b), .int (nI i), .long wo1, .ref 55, .ref 56, .int (u 6), .int (u 7), .ref 57, .int (u 8), .ref 58, .ref 59, .ref 60, .ref 61, .ref 62, .ref 63, .int (u 9), .ref 64, .int (u 10)]))) q (.inr (9, [.int (nI st1.2.1), .int (nI st1.2.2.1.length), .int st1.2.2.2, .ref (q + 1), .ref (q + 2)]))) (q + 1) (.inl (0, 122, .inl sg1))) (q + 2) (.inl (0, 122, .inl vl1)), n, s) _
        refine r_iinc (i := 2) (v := nI (x + 1)) (L' := [(2, .int (nI (x + 1))), (1, .int (nI c)), (0, .ref 50)]) 0 rfl (nI_inc1 x) dX11_readOne_127 (by decide) rfl ?_
        refine r_goto (tgt := 112) (by decide) dX11_readOne_130 ?_
        have h9 := ih (x + 1) k a st1 at1 so1 mk1 nu1 di1 wo1 sg1 vl1 (by omega) hm1 ho1; rw [show pNeg j st1 = pNeg (j + 1) st by cases hR1; rfl] at h9; exact h9
    · rcases hR1 : pWr 266 0 st with ⟨ft1, pl1⟩ | st1
      · rw [hR1] at h9
        cases hR1
      · rw [hR1] at h9; cases h9.1
theorem st_oneM {O : bO} {d : Nat} {f : bF} {n s : Nat} {u : Nat → Int32} {q e : Nat} {tg bs : Nat → Int32} {kd sp : Int32} (hq : 5000 ≤ q) (h53 : f 53 = some (.inr (10, [.null, .null, .null, .null, .null, .int 0, .int kd, .int sp]))) (h54 : f 54 = some (.inl (1, 300, .inl tg))) (e0 : e ≤ 300) (hb9 : ∀ z, z < 300 → tg z &&& 255 = bs z) {st : pS} {at_ so mk nu di : Int32} {wo : Int64} {sg vl : Nat → Int32} {b i k a c : Nat} (hm : msR e st at_ so mk nu di wo sg vl) (ho : okS (k + c) a st) (hc6 : c ≤ 61) {T : Nat → Nat → pS → pR} {dT lev : Nat} (HT : RM O dT lev f n s u q e T) (hT : okT T) (hb : b ≤ 8) (hi : i ≤ 8) (hl : (8 - b) + (8 - i) ≤ lev) (h20 : 20 ≤ dT) (hd : dT + 2 ≤ d) : bV O mX11_readOne d 25 [(1, .int (nI c)), (0, .ref 50)] [] (hMd f u q e st at_ so mk nu di wo b i sg vl, n, s) (rM f n s u q e b i (pB (pPlain bs e T b i st) (fun s2 => .inr (pNeg c s2)))) := by
  obtain ⟨o1, o2, o3, o4, o5⟩ := id ho
  show bV O _ d 25 [(1, .int (nI c)), (0, .ref 50)] [] (bU (bU (bU (bU f 50 (.inr (11, [.int (u 0), .int (u 1), .int (u 2), .int (u 3), .int (u 4), .ref 51, .ref q, .ref 53, .ref 54, .int (u 5), .int (nI e), .int at_, .int so, .int (nI st.1.1), .int mk, .int nu, .int di, .int (nI b), .int (nI i), .long wo, .ref 55, .ref 56, .int (u 6), .int (u 7), .ref 57, .int (u 8), .ref 58, .ref 59, .ref 60, .ref 61, .ref 62, .ref 63, .int (u 9), .ref 64, .int (u 10)]))) q (.inr (9, [.int (nI st.2.1), .int (nI st.2.2.1.length), .int st.2.2.2, .ref (q + 1), .ref (q + 2)]))) (q + 1) (.inl (0, 122, .inl sg))) (q + 2) (.inl (0, 122, .inl vl)), n, s) _
  refine r_aload_n (n := 0) (i := 0) 1 rfl rfl dX11_readOne_25 ?_
  refine p_get (fs := [.int (u 0), .int (u 1), .int (u 2), .int (u 3), .int (u 4), .ref 51, .ref q, .ref 53, .ref 54, .int (u 5), .int (nI e), .int at_, .int so, .int (nI st.1.1), .int mk, .int nu, .int di, .int (nI b), .int (nI i), .long wo, .ref 55, .ref 56, .int (u 6), .int (u 7), .ref 57, .int (u 8), .ref 58, .ref 59, .ref 60, .ref 61, .ref 62, .ref 63, .int (u 9), .ref 64, .int (u 10)]) flX11_106 (by exact ((bU_n (by omega)).trans (((bU_n (by omega)).trans (((bU_n (by omega)).trans (bU_s _ _ _))))))) rfl dX11_readOne_26 ?_
  refine r_iconst (v := 3) (by decide) dX11_readOne_29 ?_
  refine r_icmp_ne (tgt := 56) (by decide) dX11_readOne_30 (fun c30 => ?_) (fun c30 => ?_)
  · have n2 := (tkR_num hm.2.1).2.2.2
    first | (have k258 : st.1.2.2.1 = 258 := (tkR_num hm.2.1).1.mp c30) | (have nk258 : ¬ st.1.2.2.1 = 258 := fun h => c30 ((tkR_num hm.2.1).1.mpr h))
    refine r_aload_n (n := 0) (i := 0) 1 rfl rfl dX11_readOne_56 ?_
    refine r_bipush (v := 40) (by decide) dX11_readOne_57 ?_
    refine p_callV (As := [.int 40]) (rest := []) (kX11_is (O := O) (d := 0) (f := bU (bU (bU (bU f 50 (.inr (11, [.int (u 0), .int (u 1), .int (u 2), .int (u 3), .int (u 4), .ref 51, .ref q, .ref 53, .ref 54, .int (u 5), .int (nI e), .int at_, .int so, .int (nI st.1.1), .int mk, .int nu, .int di, .int (nI b), .int (nI i), .long wo, .ref 55, .ref 56, .int (u 6), .int (u 7), .ref 57, .int (u 8), .ref 58, .ref 59, .ref 60, .ref 61, .ref 62, .ref 63, .int (u 9), .ref 64, .int (u 10)]))) q (.inr (9, [.int (nI st.2.1), .int (nI st.2.2.1.length), .int st.2.2.2, .ref (q + 1), .ref (q + 2)]))) (q + 1) (.inl (0, 122, .inl sg))) (q + 2) (.inl (0, 122, .inl vl))) (n := n) (s := s) (q := q) (e := e) (at_ := at_) (so := so) (pl := nI st.1.1) (mk := mk) (nu := nu) (di := di) (br := nI b) (iff := nI i) (wo := wo) (k := st.1.2.2.1) (v := st.1.2.2.2) (x := 40) (by exact ((bU_n (by omega)).trans (((bU_n (by omega)).trans (((bU_n (by omega)).trans (bU_s _ _ _))))))) hm.2.1 (by decide) (Nat.le_refl _)).call rfl lkX11_143 imX11_is seX11_is rfl (by exact ((bU_n (by omega)).trans (((bU_n (by omega)).trans (((bU_n (by omega)).trans (bU_s _ _ _))))))) rfl rfl (by omega) (Nat.le_of_ble_eq_true rfl) dX11_readOne_59 (fun v9 G9 h9 => ?_) (fun q9 G9 h9 => (by cases h9.1))
    obtain ⟨h8, rfl⟩ := h9; cases h8
    show bV O _ d 62 [(1, .int (nI c)), (0, .ref 50)] [.int (bI (decide (st.1.2.2.1 = 40)))] (bU (bU (bU (bU f 50 (.inr (11, [.int (u 0), .int (u 1), .int (u 2), .int (u 3), .int (u 4), .ref 51, .ref q, .ref 53, .ref 54, .int (u 5), .int (nI e), .int at_, .int so, .int (nI st.1.1), .int mk, .int nu, .int di, .int (nI b), .int (nI i), .long wo, .ref 55, .ref 56, .int (u 6), .int (u 7), .ref 57, .int (u 8), .ref 58, .ref 59, .ref 60, .ref 61, .ref 62, .ref 63, .int (u 9), .ref 64, .int (u 10)]))) q (.inr (9, [.int (nI st.2.1), .int (nI st.2.2.1.length), .int st.2.2.2, .ref (q + 1), .ref (q + 2)]))) (q + 1) (.inl (0, 122, .inl sg))) (q + 2) (.inl (0, 122, .inl vl)), n, s) _
    refine r_if_eq (tgt := 92) (by decide) dX11_readOne_62 (fun c62 => ?_) (fun c62 => ?_)
    · have c62 := bI_0.mp c62
      first | (have q62 : st.1.2.2.1 = 40 := of_decide_eq_true c62) | (have q62 : ¬ st.1.2.2.1 = 40 := of_decide_eq_false c62)
      refine r_aload_n (n := 0) (i := 0) 1 rfl rfl dX11_readOne_92 ?_
      refine p_get (fs := [.int (u 0), .int (u 1), .int (u 2), .int (u 3), .int (u 4), .ref 51, .ref q, .ref 53, .ref 54, .int (u 5), .int (nI e), .int at_, .int so, .int (nI st.1.1), .int mk, .int nu, .int di, .int (nI b), .int (nI i), .long wo, .ref 55, .ref 56, .int (u 6), .int (u 7), .ref 57, .int (u 8), .ref 58, .ref 59, .ref 60, .ref 61, .ref 62, .ref 63, .int (u 9), .ref 64, .int (u 10)]) flX11_106 (by exact ((bU_n (by omega)).trans (((bU_n (by omega)).trans (((bU_n (by omega)).trans (bU_s _ _ _))))))) rfl dX11_readOne_93 ?_
      refine r_iconst (v := 2) (by decide) dX11_readOne_96 ?_
      refine r_icmp_eq (tgt := 106) (by decide) dX11_readOne_97 (fun c97 => ?_) (fun c97 => ?_)
      · refine r_aload_n (n := 0) (i := 0) 1 rfl rfl dX11_readOne_106 ?_
        refine p_callV (As := []) (rest := []) (c_readWordM (d := dT + 1) hq h53 h54 e0 hb9 hm ho c97 HT hT (b := b) (i := i) (by omega) (by omega) (by omega) h20 (Nat.le_refl _)) rfl lkX11_191 imX11_readWord seX11_readWord rfl (by exact ((bU_n (by omega)).trans (((bU_n (by omega)).trans (((bU_n (by omega)).trans (bU_s _ _ _))))))) rfl rfl (by omega) (Nat.le_of_ble_eq_true rfl) dX11_readOne_107 (fun v9 G9 h9 => ?_) (fun q9 G9 h9 => ⟨(fun x9 hx9 => by cases hx9), ?_⟩)
        · rcases hR1 : pPlain bs e T b i st with ⟨ft1, pl1⟩ | st1
          · rw [hR1] at h9; cases h9.1
          · rw [hR1] at h9; obtain ⟨h8, at1, so1, mk1, nu1, di1, wo1, sg1, vl1, hm1, rfl⟩ := h9; cases h8
            have ho1 : okS (k + c) (a) st1 := pPlain_ok e0 hT ho hR1
            obtain ⟨p11, p21, p31, p41, p51⟩ := id ho1
            show bV O _ d 110 [(1, .int (nI c)), (0, .ref 50)] [] (bU (bU (bU (bU f 50 (.inr (11, [.int (u 0), .int (u 1), .int (u 2), .int (u 3), .int (u 4), .ref 51, .ref q, .ref 53, .ref 54, .int (u 5), .int (nI e), .int at1, .int so1, .int (nI st1.1.1), .int mk1, .int nu1, .int di1, .int (nI b), .int (nI i), .long wo1, .ref 55, .ref 56, .int (u 6), .int (u 7), .ref 57, .int (u 8), .ref 58, .ref 59, .ref 60, .ref 61, .ref 62, .ref 63, .int (u 9), .ref 64, .int (u 10)]))) q (.inr (9, [.int (nI st1.2.1), .int (nI st1.2.2.1.length), .int st1.2.2.2, .ref (q + 1), .ref (q + 2)]))) (q + 1) (.inl (0, 122, .inl sg1))) (q + 2) (.inl (0, 122, .inl vl1)), n, s) _
            refine r_iconst (v := 0) (by decide) dX11_readOne_110 ?_
            refine r_istore_n (n := 2) (i := 2) (L' := [(2, .int 0), (1, .int (nI c)), (0, .ref 50)]) rfl dX11_readOne_111 (by decide) rfl ?_
            exact lp_negM hq h53 h54 e0 hb9 (by omega) (by omega) c 0 k a st1 _ _ _ _ _ _ _ _ (by omega) hm1 (ho1.le (by omega))
        · rcases hR1 : pPlain bs e T b i st with ⟨ft1, pl1⟩ | st1
          · rw [hR1] at h9
            exact h9
          · rw [hR1] at h9; cases h9.1
      · refine r_aload_n (n := 0) (i := 0) 1 rfl rfl dX11_readOne_100 ?_
        refine r_iconst (v := 1) (by decide) dX11_readOne_101 ?_
        refine p_callV (As := [.int 1]) (rest := []) (kX11_stop (O := O) (d := 0) (f := bU (bU (bU (bU f 50 (.inr (11, [.int (u 0), .int (u 1), .int (u 2), .int (u 3), .int (u 4), .ref 51, .ref q, .ref 53, .ref 54, .int (u 5), .int (nI e), .int at_, .int so, .int (nI st.1.1), .int mk, .int nu, .int di, .int (nI b), .int (nI i), .long wo, .ref 55, .ref 56, .int (u 6), .int (u 7), .ref 57, .int (u 8), .ref 58, .ref 59, .ref 60, .ref 61, .ref 62, .ref 63, .int (u 9), .ref 64, .int (u 10)]))) q (.inr (9, [.int (nI st.2.1), .int (nI st.2.2.1.length), .int st.2.2.2, .ref (q + 1), .ref (q + 2)]))) (q + 1) (.inl (0, 122, .inl sg))) (q + 2) (.inl (0, 122, .inl vl))) (n := n) (s := s) (q := q) (e := e) (at_ := at_) (so := so) (pl := nI st.1.1) (mk := mk) (nu := nu) (di := di) (br := nI b) (iff := nI i) (wo := wo) (x := 1) (kd := kd) (sp := sp) (by exact ((bU_n (by omega)).trans (((bU_n (by omega)).trans (((bU_n (by omega)).trans (bU_s _ _ _))))))) (by exact ((bU_n (by omega)).trans (((bU_n (by omega)).trans (((bU_n (by omega)).trans (((bU_n (by decide)).trans (h53)))))))))  (Nat.le_refl _)).call rfl lkX11_137 imX11_stop seX11_stop rfl (by exact ((bU_n (by omega)).trans (((bU_n (by omega)).trans (((bU_n (by omega)).trans (bU_s _ _ _))))))) rfl rfl (by omega) (Nat.le_of_ble_eq_true rfl) dX11_readOne_102 (fun v9 G9 h9 => ?_) (fun q9 G9 h9 => (by cases h9.1))
        obtain ⟨h8, rfl⟩ := h9; cases h8
        show bV O _ d 105 [(1, .int (nI c)), (0, .ref 50)] [.ref 53] (bU (bU (bU (bU (bU f 50 (.inr (11, [.int (u 0), .int (u 1), .int (u 2), .int (u 3), .int (u 4), .ref 51, .ref q, .ref 53, .ref 54, .int (u 5), .int (nI e), .int at_, .int so, .int (nI st.1.1), .int mk, .int nu, .int di, .int (nI b), .int (nI i), .long wo, .ref 55, .ref 56, .int (u 6), .int (u 7), .ref 57, .int (u 8), .ref 58, .ref 59, .ref 60, .ref 61, .ref 62, .ref 63, .int (u 9), .ref 64, .int (u 10)]))) q (.inr (9, [.int (nI st.2.1), .int (nI st.2.2.1.length), .int st.2.2.2, .ref (q + 1), .ref (q + 2)]))) (q + 1) (.inl (0, 122, .inl sg))) (q + 2) (.inl (0, 122, .inl vl))) 53 (.inr (10, [.null, .null, .null, .null, .null, .int 0, .int 1, .int (nI st.1.1)])), n, s) _
        refine p_athrow (by decide) (by exact bU_s _ _ _) rfl (fun x hx => by cases hx) dX11_readOne_105 ?_
        rw [show (pB (pPlain bs e T b i st) (fun s2 => .inr (pNeg c s2))) = .inl (1, st.1.1) by rw [pPl_o nk258 (fun h => c97 (n2.mpr (Or.inl h))) q62 (fun h => c97 (n2.mpr (Or.inr (Or.inr (Or.inr (Or.inr (Or.inr (Or.inl h)))))))) (fun h => c97 (n2.mpr (Or.inr (Or.inr (Or.inr (Or.inr (Or.inr (Or.inr h)))))))) (fun h => c97 (n2.mpr (Or.inr (Or.inl h))))]; rfl]
        exact ⟨rfl, _, _, _, _, _, _, _, _, _, _, _, _, _, _, rfl⟩
    · have c62 := bI_1.mp c62
      first | (have q62 : st.1.2.2.1 = 40 := of_decide_eq_true c62) | (have q62 : ¬ st.1.2.2.1 = 40 := of_decide_eq_false c62)
      refine r_aload_n (n := 0) (i := 0) 1 rfl rfl dX11_readOne_65 ?_
      refine p_callV (As := []) (rest := []) (c_opens (d := 2) hq h53 h54 e0 hb9 hm ho (b := b) (by omega) (Nat.le_refl _)) rfl lkX11_184 imX11_opens seX11_opens rfl (by exact ((bU_n (by omega)).trans (((bU_n (by omega)).trans (((bU_n (by omega)).trans (bU_s _ _ _))))))) rfl rfl (by omega) (Nat.le_of_ble_eq_true rfl) dX11_readOne_66 (fun v9 G9 h9 => ?_) (fun q9 G9 h9 => ⟨(fun x9 hx9 => by cases hx9), ?_⟩)
      · rcases hR1 : pOpen bs e b st with ⟨ft1, pl1⟩ | st1
        · rw [hR1] at h9; cases h9.1
        · rw [hR1] at h9; obtain ⟨h8, at1, so1, mk1, nu1, di1, wo1, sg1, vl1, hm1, rfl⟩ := h9; cases h8
          have ho1 : okS (k + c) (a) st1 := pOpen_ok e0 ho hR1
          obtain ⟨p11, p21, p31, p41, p51⟩ := id ho1
          have hb8 := pOpen_b hR1
          show bV O _ d 69 [(1, .int (nI c)), (0, .ref 50)] [] (bU (bU (bU (bU f 50 (.inr (11, [.int (u 0), .int (u 1), .int (u 2), .int (u 3), .int (u 4), .ref 51, .ref q, .ref 53, .ref 54, .int (u 5), .int (nI e), .int at1, .int so1, .int (nI st1.1.1), .int mk1, .int nu1, .int di1, .int (nI (b + 1)), .int (nI i), .long wo1, .ref 55, .ref 56, .int (u 6), .int (u 7), .ref 57, .int (u 8), .ref 58, .ref 59, .ref 60, .ref 61, .ref 62, .ref 63, .int (u 9), .ref 64, .int (u 10)]))) q (.inr (9, [.int (nI st1.2.1), .int (nI st1.2.2.1.length), .int st1.2.2.2, .ref (q + 1), .ref (q + 2)]))) (q + 1) (.inl (0, 122, .inl sg1))) (q + 2) (.inl (0, 122, .inl vl1)), n, s) _
          refine r_aload_n (n := 0) (i := 0) 1 rfl rfl dX11_readOne_69 ?_
          refine p_callV (As := []) (rest := []) (HT (b + 1) i _ _ st1 _ _ _ _ _ _ _ _ (by omega) (by omega) (by omega) hm1 ho1) rfl lkX11_173 imX11_readTell seX11_readTell rfl (by exact ((bU_n (by omega)).trans (((bU_n (by omega)).trans (((bU_n (by omega)).trans (bU_s _ _ _))))))) rfl rfl (by omega) (Nat.le_of_ble_eq_true rfl) dX11_readOne_70 (fun v9 G9 h9 => ?_) (fun q9 G9 h9 => ⟨(fun x9 hx9 => by cases hx9), ?_⟩)
          · rcases hR2 : T (b + 1) i st1 with ⟨ft2, pl2⟩ | st2
            · rw [hR2] at h9; cases h9.1
            · rw [hR2] at h9; obtain ⟨h8, at2, so2, mk2, nu2, di2, wo2, sg2, vl2, hm2, rfl⟩ := h9; cases h8
              have ho2 : okS (k + c) (a) st2 := hT _ _ _ _ _ _ ho1 hR2
              obtain ⟨p12, p22, p32, p42, p52⟩ := id ho2
              show bV O _ d 73 [(1, .int (nI c)), (0, .ref 50)] [] (bU (bU (bU (bU f 50 (.inr (11, [.int (u 0), .int (u 1), .int (u 2), .int (u 3), .int (u 4), .ref 51, .ref q, .ref 53, .ref 54, .int (u 5), .int (nI e), .int at2, .int so2, .int (nI st2.1.1), .int mk2, .int nu2, .int di2, .int (nI (b + 1)), .int (nI i), .long wo2, .ref 55, .ref 56, .int (u 6), .int (u 7), .ref 57, .int (u 8), .ref 58, .ref 59, .ref 60, .ref 61, .ref 62, .ref 63, .int (u 9), .ref 64, .int (u 10)]))) q (.inr (9, [.int (nI st2.2.1), .int (nI st2.2.2.1.length), .int st2.2.2.2, .ref (q + 1), .ref (q + 2)]))) (q + 1) (.inl (0, 122, .inl sg2))) (q + 2) (.inl (0, 122, .inl vl2)), n, s) _
              refine r_aload_n (n := 0) (i := 0) 1 rfl rfl dX11_readOne_73 ?_
              refine r_bipush (v := 41) (by decide) dX11_readOne_74 ?_
              refine p_callV (As := [.int 41]) (rest := []) (c_need (d := 2) hq h53 h54 e0 hb9 hm2 ho2 (y9 := 41) (by decide) (Nat.le_refl _)) rfl lkX11_187 imX11_need seX11_need rfl (by exact ((bU_n (by omega)).trans (((bU_n (by omega)).trans (((bU_n (by omega)).trans (bU_s _ _ _))))))) rfl rfl (by omega) (Nat.le_of_ble_eq_true rfl) dX11_readOne_76 (fun v9 G9 h9 => ?_) (fun q9 G9 h9 => ⟨(fun x9 hx9 => by cases hx9), ?_⟩)
              · rcases hR3 : pTake bs e 41 st2 with ⟨ft3, pl3⟩ | st3
                · rw [hR3] at h9; cases h9.1
                · rw [hR3] at h9; obtain ⟨h8, at3, so3, mk3, nu3, di3, wo3, sg3, vl3, hm3, rfl⟩ := h9; cases h8
                  have ho3 : okS (k + c) (a) st3 := pTake_ok e0 ho2 hR3
                  obtain ⟨p13, p23, p33, p43, p53⟩ := id ho3
                  show bV O _ d 79 [(1, .int (nI c)), (0, .ref 50)] [] (bU (bU (bU (bU f 50 (.inr (11, [.int (u 0), .int (u 1), .int (u 2), .int (u 3), .int (u 4), .ref 51, .ref q, .ref 53, .ref 54, .int (u 5), .int (nI e), .int at3, .int so3, .int (nI st3.1.1), .int mk3, .int nu3, .int di3, .int (nI (b + 1)), .int (nI i), .long wo3, .ref 55, .ref 56, .int (u 6), .int (u 7), .ref 57, .int (u 8), .ref 58, .ref 59, .ref 60, .ref 61, .ref 62, .ref 63, .int (u 9), .ref 64, .int (u 10)]))) q (.inr (9, [.int (nI st3.2.1), .int (nI st3.2.2.1.length), .int st3.2.2.2, .ref (q + 1), .ref (q + 2)]))) (q + 1) (.inl (0, 122, .inl sg3))) (q + 2) (.inl (0, 122, .inl vl3)), n, s) _
                  refine r_aload_n (n := 0) (i := 0) 1 rfl rfl dX11_readOne_79 ?_
                  refine r_dup rfl dX11_readOne_80 ?_
                  refine p_get (fs := [.int (u 0), .int (u 1), .int (u 2), .int (u 3), .int (u 4), .ref 51, .ref q, .ref 53, .ref 54, .int (u 5), .int (nI e), .int at3, .int so3, .int (nI st3.1.1), .int mk3, .int nu3, .int di3, .int (nI (b + 1)), .int (nI i), .long wo3, .ref 55, .ref 56, .int (u 6), .int (u 7), .ref 57, .int (u 8), .ref 58, .ref 59, .ref 60, .ref 61, .ref 62, .ref 63, .int (u 9), .ref 64, .int (u 10)]) flX11_149 (by exact ((bU_n (by omega)).trans (((bU_n (by omega)).trans (((bU_n (by omega)).trans (bU_s _ _ _))))))) rfl dX11_readOne_81 ?_
                  refine r_iconst (v := 1) (by decide) dX11_readOne_84 ?_
                  refine r_isubE (v := nI ((b + 1) - 1)) (pk_sub (a := b + 1) (b := 1) (by omega)) dX11_readOne_85 ?_
                  refine p_put (fs := [.int (u 0), .int (u 1), .int (u 2), .int (u 3), .int (u 4), .ref 51, .ref q, .ref 53, .ref 54, .int (u 5), .int (nI e), .int at3, .int so3, .int (nI st3.1.1), .int mk3, .int nu3, .int di3, .int (nI (b + 1)), .int (nI i), .long wo3, .ref 55, .ref 56, .int (u 6), .int (u 7), .ref 57, .int (u 8), .ref 58, .ref 59, .ref 60, .ref 61, .ref 62, .ref 63, .int (u 9), .ref 64, .int (u 10)]) (fs' := [.int (u 0), .int (u 1), .int (u 2), .int (u 3), .int (u 4), .ref 51, .ref q, .ref 53, .ref 54, .int (u 5), .int (nI e), .int at3, .int so3, .int (nI st3.1.1), .int mk3, .int nu3, .int di3, .int (nI ((b + 1) - 1)), .int (nI i), .long wo3, .ref 55, .ref 56, .int (u 6), .int (u 7), .ref 57, .int (u 8), .ref 58, .ref 59, .ref 60, .ref 61, .ref 62, .ref 63, .int (u 9), .ref 64, .int (u 10)]) flX11_149 (by exact ((bU_n (by omega)).trans (((bU_n (by omega)).trans (((bU_n (by omega)).trans (bU_s _ _ _))))))) (Nat.le_of_ble_eq_true rfl) (bNf_i _) rfl dX11_readOne_86 ?_
                  refine bV_h (f2 := bU (bU (bU (bU f 50 (.inr (11, [.int (u 0), .int (u 1), .int (u 2), .int (u 3), .int (u 4), .ref 51, .ref q, .ref 53, .ref 54, .int (u 5), .int (nI e), .int at3, .int so3, .int (nI st3.1.1), .int mk3, .int nu3, .int di3, .int (nI ((b + 1) - 1)), .int (nI i), .long wo3, .ref 55, .ref 56, .int (u 6), .int (u 7), .ref 57, .int (u 8), .ref 58, .ref 59, .ref 60, .ref 61, .ref 62, .ref 63, .int (u 9), .ref 64, .int (u 10)]))) q (.inr (9, [.int (nI st3.2.1), .int (nI st3.2.2.1.length), .int st3.2.2.2, .ref (q + 1), .ref (q + 2)]))) (q + 1) (.inl (0, 122, .inl sg3))) (q + 2) (.inl (0, 122, .inl vl3))) (((bU_c (by omega)).trans (congrArg (fun z => bU z (q + 2) (.inl (0, 122, .inl vl3))) (((bU_c (by omega)).trans (congrArg (fun z => bU z (q + 1) (.inl (0, 122, .inl sg3))) (((bU_c (by omega)).trans (congrArg (fun z => bU z q (.inr (9, [.int (nI st3.2.1), .int (nI st3.2.2.1.length), .int st3.2.2.2, .ref (q + 1), .ref (q + 2)]))) (bU_u _ _ _ _)))))))))) ?_
                  show bV O _ d 89 [(1, .int (nI c)), (0, .ref 50)] [] (bU (bU (bU (bU f 50 (.inr (11, [.int (u 0), .int (u 1), .int (u 2), .int (u 3), .int (u 4), .ref 51, .ref q, .ref 53, .ref 54, .int (u 5), .int (nI e), .int at3, .int so3, .int (nI st3.1.1), .int mk3, .int nu3, .int di3, .int (nI b), .int (nI i), .long wo3, .ref 55, .ref 56, .int (u 6), .int (u 7), .ref 57, .int (u 8), .ref 58, .ref 59, .ref 60, .ref 61, .ref 62, .ref 63, .int (u 9), .ref 64, .int (u 10)]))) q (.inr (9, [.int (nI st3.2.1), .int (nI st3.2.2.1.length), .int st3.2.2.2, .ref (q + 1), .ref (q + 2)]))) (q + 1) (.inl (0, 122, .inl sg3))) (q + 2) (.inl (0, 122, .inl vl3)), n, s) _
                  refine r_goto (tgt := 110) (by decide) dX11_readOne_89 ?_
                  refine r_iconst (v := 0) (by decide) dX11_readOne_110 ?_
                  refine r_istore_n (n := 2) (i := 2) (L' := [(2, .int 0), (1, .int (nI c)), (0, .ref 50)]) rfl dX11_readOne_111 (by decide) rfl ?_
                  rw [show (pB (pPlain bs e T b i st) (fun s2 => .inr (pNeg c s2))) = .inr (pNeg c st3) by rw [pPl_40 q62]; simp only [pB_l, pB_r, hR1, hR2, hR3]]; exact lp_negM hq h53 h54 e0 hb9 (by omega) (by omega) c 0 k a st3 _ _ _ _ _ _ _ _ (by omega) hm3 (ho3.le (by omega))
              · rcases hR3 : pTake bs e 41 st2 with ⟨ft3, pl3⟩ | st3
                · rw [hR3] at h9
                  rw [show (pB (pPlain bs e T b i st) (fun s2 => .inr (pNeg c s2))) = .inl (ft3, pl3) by rw [pPl_40 q62]; simp only [pB_l, pB_r, hR1, hR2, hR3]]
                  exact h9
                · rw [hR3] at h9; cases h9.1
          · rcases hR2 : T (b + 1) i st1 with ⟨ft2, pl2⟩ | st2
            · rw [hR2] at h9
              rw [show (pB (pPlain bs e T b i st) (fun s2 => .inr (pNeg c s2))) = .inl (ft2, pl2) by rw [pPl_40 q62]; simp only [pB_l, pB_r, hR1, hR2]]
              exact h9
            · rw [hR2] at h9; cases h9.1
      · rcases hR1 : pOpen bs e b st with ⟨ft1, pl1⟩ | st1
        · rw [hR1] at h9
          rw [show (pB (pPlain bs e T b i st) (fun s2 => .inr (pNeg c s2))) = .inl (ft1, pl1) by rw [pPl_40 q62]; simp only [pB_l, pB_r, hR1]]
          exact h9
        · rw [hR1] at h9; cases h9.1
  · have n2 := (tkR_num hm.2.1).2.2.2
    first | (have k258 : st.1.2.2.1 = 258 := (tkR_num hm.2.1).1.mp c30) | (have nk258 : ¬ st.1.2.2.1 = 258 := fun h => c30 ((tkR_num hm.2.1).1.mpr h))
    refine r_aload_n (n := 0) (i := 0) 1 rfl rfl dX11_readOne_33 ?_
    refine p_callV (As := []) (rest := []) (c_part (d := 1) hq h53 h54 e0 hb9 hm ho (Nat.le_refl _)) rfl lkX11_160 imX11_part seX11_part rfl (by exact ((bU_n (by omega)).trans (((bU_n (by omega)).trans (((bU_n (by omega)).trans (bU_s _ _ _))))))) rfl rfl (by omega) (Nat.le_of_ble_eq_true rfl) dX11_readOne_34 (fun v9 G9 h9 => ?_) (fun q9 G9 h9 => ⟨(fun x9 hx9 => by cases hx9), ?_⟩)
    · rcases hR1 : mPart st with ⟨ft1, pl1⟩ | st1
      · rw [hR1] at h9; cases h9.1
      · rw [hR1] at h9; obtain ⟨h8, at1, so1, mk1, nu1, di1, wo1, sg1, vl1, hm1, rfl⟩ := h9; cases h8
        have ho1 : okS (k + c + 1) (a + 1) st1 := mPart_ok ho hR1
        obtain ⟨p11, p21, p31, p41, p51⟩ := id ho1
        have t1 := mPart_t hR1
        show bV O _ d 37 [(1, .int (nI c)), (0, .ref 50)] [] (bU (bU (bU (bU f 50 (.inr (11, [.int (u 0), .int (u 1), .int (u 2), .int (u 3), .int (u 4), .ref 51, .ref q, .ref 53, .ref 54, .int (u 5), .int (nI e), .int at1, .int so1, .int (nI st1.1.1), .int mk1, .int nu1, .int di1, .int (nI b), .int (nI i), .long wo1, .ref 55, .ref 56, .int (u 6), .int (u 7), .ref 57, .int (u 8), .ref 58, .ref 59, .ref 60, .ref 61, .ref 62, .ref 63, .int (u 9), .ref 64, .int (u 10)]))) q (.inr (9, [.int (nI st1.2.1), .int (nI st1.2.2.1.length), .int st1.2.2.2, .ref (q + 1), .ref (q + 2)]))) (q + 1) (.inl (0, 122, .inl sg1))) (q + 2) (.inl (0, 122, .inl vl1)), n, s) _
        refine r_aload_n (n := 0) (i := 0) 1 rfl rfl dX11_readOne_37 ?_
        refine p_get (fs := [.int (u 0), .int (u 1), .int (u 2), .int (u 3), .int (u 4), .ref 51, .ref q, .ref 53, .ref 54, .int (u 5), .int (nI e), .int at1, .int so1, .int (nI st1.1.1), .int mk1, .int nu1, .int di1, .int (nI b), .int (nI i), .long wo1, .ref 55, .ref 56, .int (u 6), .int (u 7), .ref 57, .int (u 8), .ref 58, .ref 59, .ref 60, .ref 61, .ref 62, .ref 63, .int (u 9), .ref 64, .int (u 10)]) flX11_22 (by exact ((bU_n (by omega)).trans (((bU_n (by omega)).trans (((bU_n (by omega)).trans (bU_s _ _ _))))))) rfl dX11_readOne_38 ?_
        refine r_iconst (v := 0) (by decide) dX11_readOne_41 ?_
        refine r_aload_n (n := 0) (i := 0) 1 rfl rfl dX11_readOne_42 ?_
        refine p_get (fs := [.int (u 0), .int (u 1), .int (u 2), .int (u 3), .int (u 4), .ref 51, .ref q, .ref 53, .ref 54, .int (u 5), .int (nI e), .int at1, .int so1, .int (nI st1.1.1), .int mk1, .int nu1, .int di1, .int (nI b), .int (nI i), .long wo1, .ref 55, .ref 56, .int (u 6), .int (u 7), .ref 57, .int (u 8), .ref 58, .ref 59, .ref 60, .ref 61, .ref 62, .ref 63, .int (u 9), .ref 64, .int (u 10)]) flX11_126 (by exact ((bU_n (by omega)).trans (((bU_n (by omega)).trans (((bU_n (by omega)).trans (bU_s _ _ _))))))) rfl dX11_readOne_43 ?_
        refine p_callV (As := [.int 0, .int nu1]) (rest := []) (c_put (d := 0) hq hm1 ho1 258 st.1.2.2.2 (by decide) (((tkR_num hm1.2.1).2.2.1 (by rw [t1]; exact k258)).trans (by rw [t1])) (Nat.le_refl _)) rfl lkX11_163 imX9_put seX9_put rfl (by exact ((bU_n (by omega)).trans (((bU_n (by omega)).trans (bU_s _ _ _))))) rfl rfl (by omega) (Nat.le_of_ble_eq_true rfl) dX11_readOne_46 (fun v9 G9 h9 => ?_) (fun q9 G9 h9 => ⟨(fun x9 hx9 => by cases hx9), ?_⟩)
        · rcases hR2 : pWr 258 st.1.2.2.2 st1 with ⟨ft2, pl2⟩ | st2
          · rw [hR2] at h9; cases h9.1
          · rw [hR2] at h9; obtain ⟨h8, at2, so2, mk2, nu2, di2, wo2, sg2, vl2, hm2, rfl⟩ := h9; cases h8
            have ho2 : okS (k + c) (a + 1) st2 := pWr_ok (k := k + c) ho1 hR2
            obtain ⟨p12, p22, p32, p42, p52⟩ := id ho2
            have t2 := pWr_t hR2
            show bV O _ d 49 [(1, .int (nI c)), (0, .ref 50)] [] (bU (bU (bU (bU f 50 (.inr (11, [.int (u 0), .int (u 1), .int (u 2), .int (u 3), .int (u 4), .ref 51, .ref q, .ref 53, .ref 54, .int (u 5), .int (nI e), .int at2, .int so2, .int (nI st2.1.1), .int mk2, .int nu2, .int di2, .int (nI b), .int (nI i), .long wo2, .ref 55, .ref 56, .int (u 6), .int (u 7), .ref 57, .int (u 8), .ref 58, .ref 59, .ref 60, .ref 61, .ref 62, .ref 63, .int (u 9), .ref 64, .int (u 10)]))) q (.inr (9, [.int (nI st2.2.1), .int (nI st2.2.2.1.length), .int st2.2.2.2, .ref (q + 1), .ref (q + 2)]))) (q + 1) (.inl (0, 122, .inl sg2))) (q + 2) (.inl (0, 122, .inl vl2)), n, s) _
            refine r_aload_n (n := 0) (i := 0) 1 rfl rfl dX11_readOne_49 ?_
            refine p_callV (As := []) (rest := []) (c_nextM (d := 1) hq h53 h54 e0 hb9 hm2 ho2 (by rw [t2, t1, k258]; decide) (Nat.le_refl _)) rfl lkX11_140 imX11_next seX11_next rfl (by exact ((bU_n (by omega)).trans (((bU_n (by omega)).trans (((bU_n (by omega)).trans (bU_s _ _ _))))))) rfl rfl (by omega) (Nat.le_of_ble_eq_true rfl) dX11_readOne_50 (fun v9 G9 h9 => ?_) (fun q9 G9 h9 => ⟨(fun x9 hx9 => by cases hx9), ?_⟩)
            · rcases hR3 : mNext bs e st2 with ⟨ft3, pl3⟩ | st3
              · rw [hR3] at h9; cases h9.1
              · rw [hR3] at h9; obtain ⟨h8, at3, so3, mk3, nu3, di3, wo3, sg3, vl3, hm3, rfl⟩ := h9; cases h8
                have ho3 : okS (k + c) (a + 1) st3 := mNext_ok e0 ho2 hR3
                obtain ⟨p13, p23, p33, p43, p53⟩ := id ho3
                show bV O _ d 53 [(1, .int (nI c)), (0, .ref 50)] [] (bU (bU (bU (bU f 50 (.inr (11, [.int (u 0), .int (u 1), .int (u 2), .int (u 3), .int (u 4), .ref 51, .ref q, .ref 53, .ref 54, .int (u 5), .int (nI e), .int at3, .int so3, .int (nI st3.1.1), .int mk3, .int nu3, .int di3, .int (nI b), .int (nI i), .long wo3, .ref 55, .ref 56, .int (u 6), .int (u 7), .ref 57, .int (u 8), .ref 58, .ref 59, .ref 60, .ref 61, .ref 62, .ref 63, .int (u 9), .ref 64, .int (u 10)]))) q (.inr (9, [.int (nI st3.2.1), .int (nI st3.2.2.1.length), .int st3.2.2.2, .ref (q + 1), .ref (q + 2)]))) (q + 1) (.inl (0, 122, .inl sg3))) (q + 2) (.inl (0, 122, .inl vl3)), n, s) _
                refine r_goto (tgt := 110) (by decide) dX11_readOne_53 ?_
                refine r_iconst (v := 0) (by decide) dX11_readOne_110 ?_
                refine r_istore_n (n := 2) (i := 2) (L' := [(2, .int 0), (1, .int (nI c)), (0, .ref 50)]) rfl dX11_readOne_111 (by decide) rfl ?_
                rw [show (pB (pPlain bs e T b i st) (fun s2 => .inr (pNeg c s2))) = .inr (pNeg c st3) by rw [pPl_258 k258]; simp only [pB_l, pB_r, hR1, hR2, hR3]]; exact lp_negM hq h53 h54 e0 hb9 (by omega) (by omega) c 0 k a st3 _ _ _ _ _ _ _ _ (by omega) hm3 (ho3.le (by omega))
            · rcases hR3 : mNext bs e st2 with ⟨ft3, pl3⟩ | st3
              · rw [hR3] at h9
                rw [show (pB (pPlain bs e T b i st) (fun s2 => .inr (pNeg c s2))) = .inl (ft3, pl3) by rw [pPl_258 k258]; simp only [pB_l, pB_r, hR1, hR2, hR3]]
                exact h9
              · rw [hR3] at h9; cases h9.1
        · rcases hR2 : pWr 258 st.1.2.2.2 st1 with ⟨ft2, pl2⟩ | st2
          · rw [hR2] at h9
            rw [show (pB (pPlain bs e T b i st) (fun s2 => .inr (pNeg c s2))) = .inl (ft2, pl2) by rw [pPl_258 k258]; simp only [pB_l, pB_r, hR1, hR2]]
            exact h9
          · rw [hR2] at h9; cases h9.1
    · rcases hR1 : mPart st with ⟨ft1, pl1⟩ | st1
      · rw [hR1] at h9
        rw [show (pB (pPlain bs e T b i st) (fun s2 => .inr (pNeg c s2))) = .inl (ft1, pl1) by rw [pPl_258 k258]; simp only [pB_l, pB_r, hR1]]
        exact h9
      · rw [hR1] at h9; cases h9.1
theorem lp_minM {O : bO} {d : Nat} {f : bF} {n s : Nat} {u : Nat → Int32} {q e : Nat} {tg bs : Nat → Int32} {kd sp : Int32} (hq : 5000 ≤ q) (h53 : f 53 = some (.inr (10, [.null, .null, .null, .null, .null, .int 0, .int kd, .int sp]))) (h54 : f 54 = some (.inl (1, 300, .inl tg))) (e0 : e ≤ 300) (hb9 : ∀ z, z < 300 → tg z &&& 255 = bs z) {b i : Nat} {T : Nat → Nat → pS → pR} {dT lev : Nat} (HT : RM O dT lev f n s u q e T) (hT : okT T) (hb : b ≤ 8) (hi : i ≤ 8) (hl : (8 - b) + (8 - i) ≤ lev) (h20 : 20 ≤ dT) (hd : dT + 2 ≤ d) : ∀ (m c k a : Nat) (st : pS) (at_ so mk nu di : Int32) (wo : Int64) (sg vl : Nat → Int32), c + m = 61 → c ≤ a → msR e st at_ so mk nu di wo sg vl → okS (k + c) a st → bV O mX11_readOne d 2 [(1, .int (nI c)), (0, .ref 50)] [] (hMd f u q e st at_ so mk nu di wo b i sg vl, n, s) (rM f n s u q e b i (pOneC bs e T b i m c st)) := by
  intro m
  induction m with
  | zero =>
    intro c k a st at_ so mk nu di wo sg vl h1 h2 hm ho
    obtain ⟨o1, o2, o3, o4, o5⟩ := id ho
    exact absurd o5 (by omega)
  | succ m ih =>
    intro c k a st at_ so mk nu di wo sg vl h1 h2 hm ho
    obtain ⟨o1, o2, o3, o4, o5⟩ := id ho
    show bV O _ d 2 [(1, .int (nI c)), (0, .ref 50)] [] (bU (bU (bU (bU f 50 (.inr (11, [.int (u 0), .int (u 1), .int (u 2), .int (u 3), .int (u 4), .ref 51, .ref q, .ref 53, .ref 54, .int (u 5), .int (nI e), .int at_, .int so, .int (nI st.1.1), .int mk, .int nu, .int di, .int (nI b), .int (nI i), .long wo, .ref 55, .ref 56, .int (u 6), .int (u 7), .ref 57, .int (u 8), .ref 58, .ref 59, .ref 60, .ref 61, .ref 62, .ref 63, .int (u 9), .ref 64, .int (u 10)]))) q (.inr (9, [.int (nI st.2.1), .int (nI st.2.2.1.length), .int st.2.2.2, .ref (q + 1), .ref (q + 2)]))) (q + 1) (.inl (0, 122, .inl sg))) (q + 2) (.inl (0, 122, .inl vl)), n, s) _
    refine r_aload_n (n := 0) (i := 0) 1 rfl rfl dX11_readOne_2 ?_
    refine r_bipush (v := 45) (by decide) dX11_readOne_3 ?_
    refine p_callV (As := [.int 45]) (rest := []) (kX11_is (O := O) (d := 0) (f := bU (bU (bU (bU f 50 (.inr (11, [.int (u 0), .int (u 1), .int (u 2), .int (u 3), .int (u 4), .ref 51, .ref q, .ref 53, .ref 54, .int (u 5), .int (nI e), .int at_, .int so, .int (nI st.1.1), .int mk, .int nu, .int di, .int (nI b), .int (nI i), .long wo, .ref 55, .ref 56, .int (u 6), .int (u 7), .ref 57, .int (u 8), .ref 58, .ref 59, .ref 60, .ref 61, .ref 62, .ref 63, .int (u 9), .ref 64, .int (u 10)]))) q (.inr (9, [.int (nI st.2.1), .int (nI st.2.2.1.length), .int st.2.2.2, .ref (q + 1), .ref (q + 2)]))) (q + 1) (.inl (0, 122, .inl sg))) (q + 2) (.inl (0, 122, .inl vl))) (n := n) (s := s) (q := q) (e := e) (at_ := at_) (so := so) (pl := nI st.1.1) (mk := mk) (nu := nu) (di := di) (br := nI b) (iff := nI i) (wo := wo) (k := st.1.2.2.1) (v := st.1.2.2.2) (x := 45) (by exact ((bU_n (by omega)).trans (((bU_n (by omega)).trans (((bU_n (by omega)).trans (bU_s _ _ _))))))) hm.2.1 (by decide) (Nat.le_refl _)).call rfl lkX11_143 imX11_is seX11_is rfl (by exact ((bU_n (by omega)).trans (((bU_n (by omega)).trans (((bU_n (by omega)).trans (bU_s _ _ _))))))) rfl rfl (by omega) (Nat.le_of_ble_eq_true rfl) dX11_readOne_5 (fun v9 G9 h9 => ?_) (fun q9 G9 h9 => (by cases h9.1))
    obtain ⟨h8, rfl⟩ := h9; cases h8
    show bV O _ d 8 [(1, .int (nI c)), (0, .ref 50)] [.int (bI (decide (st.1.2.2.1 = 45)))] (bU (bU (bU (bU f 50 (.inr (11, [.int (u 0), .int (u 1), .int (u 2), .int (u 3), .int (u 4), .ref 51, .ref q, .ref 53, .ref 54, .int (u 5), .int (nI e), .int at_, .int so, .int (nI st.1.1), .int mk, .int nu, .int di, .int (nI b), .int (nI i), .long wo, .ref 55, .ref 56, .int (u 6), .int (u 7), .ref 57, .int (u 8), .ref 58, .ref 59, .ref 60, .ref 61, .ref 62, .ref 63, .int (u 9), .ref 64, .int (u 10)]))) q (.inr (9, [.int (nI st.2.1), .int (nI st.2.2.1.length), .int st.2.2.2, .ref (q + 1), .ref (q + 2)]))) (q + 1) (.inl (0, 122, .inl sg))) (q + 2) (.inl (0, 122, .inl vl)), n, s) _
    refine r_if_eq (tgt := 25) (by decide) dX11_readOne_8 (fun c8 => ?_) (fun c8 => ?_)
    · have c8 := bI_0.mp c8
      first | (have q8 : st.1.2.2.1 = 45 := of_decide_eq_true c8) | (have q8 : ¬ st.1.2.2.1 = 45 := of_decide_eq_false c8)
      rw [show pOneC bs e T b i (m + 1) c st = pB (pPlain bs e T b i st) (fun s2 => .inr (pNeg c s2)) by simp only [pOneC, pMin, q8, if_false, reduceIte]]; exact st_oneM hq h53 h54 e0 hb9 hm ho (by omega) HT hT hb hi hl h20 hd
    · have c8 := bI_1.mp c8
      first | (have q8 : st.1.2.2.1 = 45 := of_decide_eq_true c8) | (have q8 : ¬ st.1.2.2.1 = 45 := of_decide_eq_false c8)
      refine r_aload_n (n := 0) (i := 0) 1 rfl rfl dX11_readOne_11 ?_
      refine p_callV (As := []) (rest := []) (c_part (d := 1) hq h53 h54 e0 hb9 hm ho (Nat.le_refl _)) rfl lkX11_160 imX11_part seX11_part rfl (by exact ((bU_n (by omega)).trans (((bU_n (by omega)).trans (((bU_n (by omega)).trans (bU_s _ _ _))))))) rfl rfl (by omega) (Nat.le_of_ble_eq_true rfl) dX11_readOne_12 (fun v9 G9 h9 => ?_) (fun q9 G9 h9 => ⟨(fun x9 hx9 => by cases hx9), ?_⟩)
      · rcases hR1 : mPart st with ⟨ft1, pl1⟩ | st1
        · rw [hR1] at h9; cases h9.1
        · rw [hR1] at h9; obtain ⟨h8, at1, so1, mk1, nu1, di1, wo1, sg1, vl1, hm1, rfl⟩ := h9; cases h8
          have ho1 : okS (k + (c + 1)) (a + 1) st1 := (show okS (k + (c + 1)) (a + 1) _ from mPart_ok ho hR1)
          obtain ⟨p11, p21, p31, p41, p51⟩ := id ho1
          have t1 := mPart_t hR1
          show bV O _ d 15 [(1, .int (nI c)), (0, .ref 50)] [] (bU (bU (bU (bU f 50 (.inr (11, [.int (u 0), .int (u 1), .int (u 2), .int (u 3), .int (u 4), .ref 51, .ref q, .ref 53, .ref 54, .int (u 5), .int (nI e), .int at1, .int so1, .int (nI st1.1.1), .int mk1, .int nu1, .int di1, .int (nI b), .int (nI i), .long wo1, .ref 55, .ref 56, .int (u 6), .int (u 7), .ref 57, .int (u 8), .ref 58, .ref 59, .ref 60, .ref 61, .ref 62, .ref 63, .int (u 9), .ref 64, .int (u 10)]))) q (.inr (9, [.int (nI st1.2.1), .int (nI st1.2.2.1.length), .int st1.2.2.2, .ref (q + 1), .ref (q + 2)]))) (q + 1) (.inl (0, 122, .inl sg1))) (q + 2) (.inl (0, 122, .inl vl1)), n, s) _
          refine r_iinc (i := 1) (v := nI (c + 1)) (L' := [(1, .int (nI (c + 1))), (0, .ref 50)]) 0 rfl (nI_inc1 c) dX11_readOne_15 (by decide) rfl ?_
          refine r_aload_n (n := 0) (i := 0) 1 rfl rfl dX11_readOne_18 ?_
          refine p_callV (As := []) (rest := []) (c_nextM (d := 1) hq h53 h54 e0 hb9 hm1 ho1 (by simp only [t1, q8] <;> decide) (Nat.le_refl _)) rfl lkX11_140 imX11_next seX11_next rfl (by exact ((bU_n (by omega)).trans (((bU_n (by omega)).trans (((bU_n (by omega)).trans (bU_s _ _ _))))))) rfl rfl (by omega) (Nat.le_of_ble_eq_true rfl) dX11_readOne_19 (fun v9 G9 h9 => ?_) (fun q9 G9 h9 => ⟨(fun x9 hx9 => by cases hx9), ?_⟩)
          · rcases hR2 : mNext bs e st1 with ⟨ft2, pl2⟩ | st2
            · rw [hR2] at h9; cases h9.1
            · rw [hR2] at h9; obtain ⟨h8, at2, so2, mk2, nu2, di2, wo2, sg2, vl2, hm2, rfl⟩ := h9; cases h8
              have ho2 : okS (k + (c + 1)) (a + 1) st2 := mNext_ok e0 ho1 hR2
              obtain ⟨p12, p22, p32, p42, p52⟩ := id ho2
              show bV O _ d 22 [(1, .int (nI (c + 1))), (0, .ref 50)] [] (bU (bU (bU (bU f 50 (.inr (11, [.int (u 0), .int (u 1), .int (u 2), .int (u 3), .int (u 4), .ref 51, .ref q, .ref 53, .ref 54, .int (u 5), .int (nI e), .int at2, .int so2, .int (nI st2.1.1), .int mk2, .int nu2, .int di2, .int (nI b), .int (nI i), .long wo2, .ref 55, .ref 56, .int (u 6), .int (u 7), .ref 57, .int (u 8), .ref 58, .ref 59, .ref 60, .ref 61, .ref 62, .ref 63, .int (u 9), .ref 64, .int (u 10)]))) q (.inr (9, [.int (nI st2.2.1), .int (nI st2.2.2.1.length), .int st2.2.2.2, .ref (q + 1), .ref (q + 2)]))) (q + 1) (.inl (0, 122, .inl sg2))) (q + 2) (.inl (0, 122, .inl vl2)), n, s) _
              refine r_goto (tgt := 2) (by decide) dX11_readOne_22 ?_
              rw [show pOneC bs e T b i (m + 1) c st = pOneC bs e T b i m (c + 1) st2 by simp only [pOneC, pMin, q8, pPart_m, pB_l, pB_r, hR1, hR2, if_true, reduceIte]]; exact ih (c + 1) k (a + 1) st2 at2 so2 mk2 nu2 di2 wo2 sg2 vl2 (by omega) (by omega) hm2 ho2
          · rcases hR2 : mNext bs e st1 with ⟨ft2, pl2⟩ | st2
            · rw [hR2] at h9
              rw [show pOneC bs e T b i (m + 1) c st = .inl (ft2, pl2) by simp only [pOneC, pMin, q8, pPart_m, pB_l, pB_r, hR1, hR2, if_true, reduceIte]]
              exact h9
            · rw [hR2] at h9; cases h9.1
      · rcases hR1 : mPart st with ⟨ft1, pl1⟩ | st1
        · rw [hR1] at h9
          rw [show pOneC bs e T b i (m + 1) c st = .inl (ft1, pl1) by simp only [pOneC, pMin, q8, pPart_m, pB_l, pB_r, hR1, if_true, reduceIte]]
          exact h9
        · rw [hR1] at h9; cases h9.1
set_option maxRecDepth 4000 in
theorem c_readOneM {O : bO} {d : Nat} {f : bF} {n s : Nat} {u : Nat → Int32} {q e : Nat} {tg bs : Nat → Int32} {kd sp : Int32} (hq : 5000 ≤ q) (h53 : f 53 = some (.inr (10, [.null, .null, .null, .null, .null, .int 0, .int kd, .int sp]))) (h54 : f 54 = some (.inl (1, 300, .inl tg))) (e0 : e ≤ 300) (hb9 : ∀ z, z < 300 → tg z &&& 255 = bs z) {st : pS} {at_ so mk nu di : Int32} {wo : Int64} {sg vl : Nat → Int32} {b i k a : Nat} (hm : msR e st at_ so mk nu di wo sg vl) (ho : okS k a st) {T : Nat → Nat → pS → pR} {dT lev : Nat} (HT : RM O dT lev f n s u q e T) (hT : okT T) (hb : b ≤ 8) (hi : i ≤ 8) (hl : (8 - b) + (8 - i) ≤ lev) (h20 : 20 ≤ dT) (hd : dT + 2 ≤ d) : bCall O mX11_readOne d [.ref 50] (hMd f u q e st at_ so mk nu di wo b i sg vl, n, s) (rM f n s u q e b i (pOne bs e T b i st)) := by
  refine bCall_of (by decide) rfl (Nat.le_of_ble_eq_true rfl) ?_
  obtain ⟨o1, o2, o3, o4, o5⟩ := id ho
  show bV O _ d 0 [(0, .ref 50)] [] (bU (bU (bU (bU f 50 (.inr (11, [.int (u 0), .int (u 1), .int (u 2), .int (u 3), .int (u 4), .ref 51, .ref q, .ref 53, .ref 54, .int (u 5), .int (nI e), .int at_, .int so, .int (nI st.1.1), .int mk, .int nu, .int di, .int (nI b), .int (nI i), .long wo, .ref 55, .ref 56, .int (u 6), .int (u 7), .ref 57, .int (u 8), .ref 58, .ref 59, .ref 60, .ref 61, .ref 62, .ref 63, .int (u 9), .ref 64, .int (u 10)]))) q (.inr (9, [.int (nI st.2.1), .int (nI st.2.2.1.length), .int st.2.2.2, .ref (q + 1), .ref (q + 2)]))) (q + 1) (.inl (0, 122, .inl sg))) (q + 2) (.inl (0, 122, .inl vl)), n, s) _
  refine r_iconst (v := 0) (by decide) dX11_readOne_0 ?_
  refine r_istore_n (n := 1) (i := 1) (L' := [(1, .int 0), (0, .ref 50)]) rfl dX11_readOne_1 (by decide) rfl ?_
  exact lp_minM hq h53 h54 e0 hb9 HT hT hb hi hl h20 hd 61 0 k a st at_ so mk nu di wo sg vl rfl (by omega) hm ho
theorem lp_termM {O : bO} {d : Nat} {f : bF} {n s : Nat} {u : Nat → Int32} {q e : Nat} {tg bs : Nat → Int32} {kd sp : Int32} (hq : 5000 ≤ q) (h53 : f 53 = some (.inr (10, [.null, .null, .null, .null, .null, .int 0, .int kd, .int sp]))) (h54 : f 54 = some (.inl (1, 300, .inl tg))) (e0 : e ≤ 300) (hb9 : ∀ z, z < 300 → tg z &&& 255 = bs z) {b i : Nat} {T : Nat → Nat → pS → pR} {dT lev : Nat} (HT : RM O dT lev f n s u q e T) (hT : okT T) (hb : b ≤ 8) (hi : i ≤ 8) (hl : (8 - b) + (8 - i) ≤ lev) (h20 : 20 ≤ dT) (hd : dT + 3 ≤ d) : ∀ (m c k a : Nat) (st : pS) (at_ so mk nu di : Int32) (wo : Int64) (sg vl : Nat → Int32), c + m = 61 → c ≤ a → msR e st at_ so mk nu di wo sg vl → okS k a st → bV O mX11_readTerm d 4 [(0, .ref 50)] [] (hMd f u q e st at_ so mk nu di wo b i sg vl, n, s) (rM f n s u q e b i (pTermL bs e T b i m st)) := by
  intro m
  induction m with
  | zero =>
    intro c k a st at_ so mk nu di wo sg vl h1 h2 hm ho
    obtain ⟨o1, o2, o3, o4, o5⟩ := id ho
    exact absurd o5 (by omega)
  | succ m ih =>
    intro c k a st at_ so mk nu di wo sg vl h1 h2 hm ho
    obtain ⟨o1, o2, o3, o4, o5⟩ := id ho
    show bV O _ d 4 [(0, .ref 50)] [] (bU (bU (bU (bU f 50 (.inr (11, [.int (u 0), .int (u 1), .int (u 2), .int (u 3), .int (u 4), .ref 51, .ref q, .ref 53, .ref 54, .int (u 5), .int (nI e), .int at_, .int so, .int (nI st.1.1), .int mk, .int nu, .int di, .int (nI b), .int (nI i), .long wo, .ref 55, .ref 56, .int (u 6), .int (u 7), .ref 57, .int (u 8), .ref 58, .ref 59, .ref 60, .ref 61, .ref 62, .ref 63, .int (u 9), .ref 64, .int (u 10)]))) q (.inr (9, [.int (nI st.2.1), .int (nI st.2.2.1.length), .int st.2.2.2, .ref (q + 1), .ref (q + 2)]))) (q + 1) (.inl (0, 122, .inl sg))) (q + 2) (.inl (0, 122, .inl vl)), n, s) _
    refine r_aload_n (n := 0) (i := 0) 0 rfl rfl dX11_readTerm_4 ?_
    refine r_bipush (v := 42) (by decide) dX11_readTerm_5 ?_
    refine p_callV (As := [.int 42]) (rest := []) (kX11_is (O := O) (d := 0) (f := bU (bU (bU (bU f 50 (.inr (11, [.int (u 0), .int (u 1), .int (u 2), .int (u 3), .int (u 4), .ref 51, .ref q, .ref 53, .ref 54, .int (u 5), .int (nI e), .int at_, .int so, .int (nI st.1.1), .int mk, .int nu, .int di, .int (nI b), .int (nI i), .long wo, .ref 55, .ref 56, .int (u 6), .int (u 7), .ref 57, .int (u 8), .ref 58, .ref 59, .ref 60, .ref 61, .ref 62, .ref 63, .int (u 9), .ref 64, .int (u 10)]))) q (.inr (9, [.int (nI st.2.1), .int (nI st.2.2.1.length), .int st.2.2.2, .ref (q + 1), .ref (q + 2)]))) (q + 1) (.inl (0, 122, .inl sg))) (q + 2) (.inl (0, 122, .inl vl))) (n := n) (s := s) (q := q) (e := e) (at_ := at_) (so := so) (pl := nI st.1.1) (mk := mk) (nu := nu) (di := di) (br := nI b) (iff := nI i) (wo := wo) (k := st.1.2.2.1) (v := st.1.2.2.2) (x := 42) (by exact ((bU_n (by omega)).trans (((bU_n (by omega)).trans (((bU_n (by omega)).trans (bU_s _ _ _))))))) hm.2.1 (by decide) (Nat.le_refl _)).call rfl lkX11_143 imX11_is seX11_is rfl (by exact ((bU_n (by omega)).trans (((bU_n (by omega)).trans (((bU_n (by omega)).trans (bU_s _ _ _))))))) rfl rfl (by omega) (Nat.le_of_ble_eq_true rfl) dX11_readTerm_7 (fun v9 G9 h9 => ?_) (fun q9 G9 h9 => (by cases h9.1))
    obtain ⟨h8, rfl⟩ := h9; cases h8
    show bV O _ d 10 [(0, .ref 50)] [.int (bI (decide (st.1.2.2.1 = 42)))] (bU (bU (bU (bU f 50 (.inr (11, [.int (u 0), .int (u 1), .int (u 2), .int (u 3), .int (u 4), .ref 51, .ref q, .ref 53, .ref 54, .int (u 5), .int (nI e), .int at_, .int so, .int (nI st.1.1), .int mk, .int nu, .int di, .int (nI b), .int (nI i), .long wo, .ref 55, .ref 56, .int (u 6), .int (u 7), .ref 57, .int (u 8), .ref 58, .ref 59, .ref 60, .ref 61, .ref 62, .ref 63, .int (u 9), .ref 64, .int (u 10)]))) q (.inr (9, [.int (nI st.2.1), .int (nI st.2.2.1.length), .int st.2.2.2, .ref (q + 1), .ref (q + 2)]))) (q + 1) (.inl (0, 122, .inl sg))) (q + 2) (.inl (0, 122, .inl vl)), n, s) _
    refine r_if_eq (tgt := 37) (by decide) dX11_readTerm_10 (fun c10 => ?_) (fun c10 => ?_)
    · have c10 := bI_0.mp c10
      first | (have q10 : st.1.2.2.1 = 42 := of_decide_eq_true c10) | (have q10 : ¬ st.1.2.2.1 = 42 := of_decide_eq_false c10)
      refine r_return rfl dX11_readTerm_37 ?_
      rw [show pTermL bs e T b i (m + 1) st = .inr st by rw [pTermL_s, if_neg q10]; try simp only [pPart_m, pB_a, pB_l, pB_r]]
      exact ⟨rfl, _, _, _, _, _, _, _, _, hm, rfl⟩
    · have c10 := bI_1.mp c10
      first | (have q10 : st.1.2.2.1 = 42 := of_decide_eq_true c10) | (have q10 : ¬ st.1.2.2.1 = 42 := of_decide_eq_false c10)
      refine r_aload_n (n := 0) (i := 0) 0 rfl rfl dX11_readTerm_13 ?_
      refine p_callV (As := []) (rest := []) (c_part (d := 1) hq h53 h54 e0 hb9 hm ho (Nat.le_refl _)) rfl lkX11_160 imX11_part seX11_part rfl (by exact ((bU_n (by omega)).trans (((bU_n (by omega)).trans (((bU_n (by omega)).trans (bU_s _ _ _))))))) rfl rfl (by omega) (Nat.le_of_ble_eq_true rfl) dX11_readTerm_14 (fun v9 G9 h9 => ?_) (fun q9 G9 h9 => ⟨(fun x9 hx9 => by cases hx9), ?_⟩)
      · rcases hR1 : mPart st with ⟨ft1, pl1⟩ | st1
        · rw [hR1] at h9; cases h9.1
        · rw [hR1] at h9; obtain ⟨h8, at1, so1, mk1, nu1, di1, wo1, sg1, vl1, hm1, rfl⟩ := h9; cases h8
          have ho1 : okS (k + 1) (a + 1) st1 := mPart_ok ho hR1
          obtain ⟨p11, p21, p31, p41, p51⟩ := id ho1
          have t1 := mPart_t hR1
          show bV O _ d 17 [(0, .ref 50)] [] (bU (bU (bU (bU f 50 (.inr (11, [.int (u 0), .int (u 1), .int (u 2), .int (u 3), .int (u 4), .ref 51, .ref q, .ref 53, .ref 54, .int (u 5), .int (nI e), .int at1, .int so1, .int (nI st1.1.1), .int mk1, .int nu1, .int di1, .int (nI b), .int (nI i), .long wo1, .ref 55, .ref 56, .int (u 6), .int (u 7), .ref 57, .int (u 8), .ref 58, .ref 59, .ref 60, .ref 61, .ref 62, .ref 63, .int (u 9), .ref 64, .int (u 10)]))) q (.inr (9, [.int (nI st1.2.1), .int (nI st1.2.2.1.length), .int st1.2.2.2, .ref (q + 1), .ref (q + 2)]))) (q + 1) (.inl (0, 122, .inl sg1))) (q + 2) (.inl (0, 122, .inl vl1)), n, s) _
          refine r_aload_n (n := 0) (i := 0) 0 rfl rfl dX11_readTerm_17 ?_
          refine p_callV (As := []) (rest := []) (c_nextM (d := 1) hq h53 h54 e0 hb9 hm1 ho1 (by simp only [t1, q10] <;> decide) (Nat.le_refl _)) rfl lkX11_140 imX11_next seX11_next rfl (by exact ((bU_n (by omega)).trans (((bU_n (by omega)).trans (((bU_n (by omega)).trans (bU_s _ _ _))))))) rfl rfl (by omega) (Nat.le_of_ble_eq_true rfl) dX11_readTerm_18 (fun v9 G9 h9 => ?_) (fun q9 G9 h9 => ⟨(fun x9 hx9 => by cases hx9), ?_⟩)
          · rcases hR2 : mNext bs e st1 with ⟨ft2, pl2⟩ | st2
            · rw [hR2] at h9; cases h9.1
            · rw [hR2] at h9; obtain ⟨h8, at2, so2, mk2, nu2, di2, wo2, sg2, vl2, hm2, rfl⟩ := h9; cases h8
              have ho2 : okS (k + 1) (a + 1) st2 := mNext_ok e0 ho1 hR2
              obtain ⟨p12, p22, p32, p42, p52⟩ := id ho2
              show bV O _ d 21 [(0, .ref 50)] [] (bU (bU (bU (bU f 50 (.inr (11, [.int (u 0), .int (u 1), .int (u 2), .int (u 3), .int (u 4), .ref 51, .ref q, .ref 53, .ref 54, .int (u 5), .int (nI e), .int at2, .int so2, .int (nI st2.1.1), .int mk2, .int nu2, .int di2, .int (nI b), .int (nI i), .long wo2, .ref 55, .ref 56, .int (u 6), .int (u 7), .ref 57, .int (u 8), .ref 58, .ref 59, .ref 60, .ref 61, .ref 62, .ref 63, .int (u 9), .ref 64, .int (u 10)]))) q (.inr (9, [.int (nI st2.2.1), .int (nI st2.2.2.1.length), .int st2.2.2.2, .ref (q + 1), .ref (q + 2)]))) (q + 1) (.inl (0, 122, .inl sg2))) (q + 2) (.inl (0, 122, .inl vl2)), n, s) _
              refine r_aload_n (n := 0) (i := 0) 0 rfl rfl dX11_readTerm_21 ?_
              refine p_callV (As := []) (rest := []) (c_readOneM (d := dT + 2) hq h53 h54 e0 hb9 hm2 ho2  HT hT (b := b) (i := i) (by omega) (by omega) (by omega) h20 (Nat.le_refl _)) rfl lkX11_181 imX11_readOne seX11_readOne rfl (by exact ((bU_n (by omega)).trans (((bU_n (by omega)).trans (((bU_n (by omega)).trans (bU_s _ _ _))))))) rfl rfl (by omega) (Nat.le_of_ble_eq_true rfl) dX11_readTerm_22 (fun v9 G9 h9 => ?_) (fun q9 G9 h9 => ⟨(fun x9 hx9 => by cases hx9), ?_⟩)
              · rcases hR3 : pOne bs e T b i st2 with ⟨ft3, pl3⟩ | st3
                · rw [hR3] at h9; cases h9.1
                · rw [hR3] at h9; obtain ⟨h8, at3, so3, mk3, nu3, di3, wo3, sg3, vl3, hm3, rfl⟩ := h9; cases h8
                  have ho3 : okS (k + 1) (a + 1) st3 := pOne_ok e0 hT ho2 hR3
                  obtain ⟨p13, p23, p33, p43, p53⟩ := id ho3
                  show bV O _ d 25 [(0, .ref 50)] [] (bU (bU (bU (bU f 50 (.inr (11, [.int (u 0), .int (u 1), .int (u 2), .int (u 3), .int (u 4), .ref 51, .ref q, .ref 53, .ref 54, .int (u 5), .int (nI e), .int at3, .int so3, .int (nI st3.1.1), .int mk3, .int nu3, .int di3, .int (nI b), .int (nI i), .long wo3, .ref 55, .ref 56, .int (u 6), .int (u 7), .ref 57, .int (u 8), .ref 58, .ref 59, .ref 60, .ref 61, .ref 62, .ref 63, .int (u 9), .ref 64, .int (u 10)]))) q (.inr (9, [.int (nI st3.2.1), .int (nI st3.2.2.1.length), .int st3.2.2.2, .ref (q + 1), .ref (q + 2)]))) (q + 1) (.inl (0, 122, .inl sg3))) (q + 2) (.inl (0, 122, .inl vl3)), n, s) _
                  refine r_aload_n (n := 0) (i := 0) 0 rfl rfl dX11_readTerm_25 ?_
                  refine p_get (fs := [.int (u 0), .int (u 1), .int (u 2), .int (u 3), .int (u 4), .ref 51, .ref q, .ref 53, .ref 54, .int (u 5), .int (nI e), .int at3, .int so3, .int (nI st3.1.1), .int mk3, .int nu3, .int di3, .int (nI b), .int (nI i), .long wo3, .ref 55, .ref 56, .int (u 6), .int (u 7), .ref 57, .int (u 8), .ref 58, .ref 59, .ref 60, .ref 61, .ref 62, .ref 63, .int (u 9), .ref 64, .int (u 10)]) flX11_22 (by exact ((bU_n (by omega)).trans (((bU_n (by omega)).trans (((bU_n (by omega)).trans (bU_s _ _ _))))))) rfl dX11_readTerm_26 ?_
                  refine r_iconst (v := 4) (by decide) dX11_readTerm_29 ?_
                  refine r_iconst (v := 0) (by decide) dX11_readTerm_30 ?_
                  refine p_callV (As := [.int 4, .int 0]) (rest := []) (c_put (d := 0) hq hm3 ho3 42 0 (by decide) rfl (Nat.le_refl _)) rfl lkX11_163 imX9_put seX9_put rfl (by exact ((bU_n (by omega)).trans (((bU_n (by omega)).trans (bU_s _ _ _))))) rfl rfl (by omega) (Nat.le_of_ble_eq_true rfl) dX11_readTerm_31 (fun v9 G9 h9 => ?_) (fun q9 G9 h9 => ⟨(fun x9 hx9 => by cases hx9), ?_⟩)
                  · rcases hR4 : pWr 42 0 st3 with ⟨ft4, pl4⟩ | st4
                    · rw [hR4] at h9; cases h9.1
                    · rw [hR4] at h9; obtain ⟨h8, at4, so4, mk4, nu4, di4, wo4, sg4, vl4, hm4, rfl⟩ := h9; cases h8
                      have ho4 : okS (k) (a + 1) st4 := pWr_ok (k := k) ho3 hR4
                      obtain ⟨p14, p24, p34, p44, p54⟩ := id ho4
                      have t4 := pWr_t hR4
                      show bV O _ d 34 [(0, .ref 50)] [] (bU (bU (bU (bU f 50 (.inr (11, [.int (u 0), .int (u 1), .int (u 2), .int (u 3), .int (u 4), .ref 51, .ref q, .ref 53, .ref 54, .int (u 5), .int (nI e), .int at4, .int so4, .int (nI st4.1.1), .int mk4, .int nu4, .int di4, .int (nI b), .int (nI i), .long wo4, .ref 55, .ref 56, .int (u 6), .int (u 7), .ref 57, .int (u 8), .ref 58, .ref 59, .ref 60, .ref 61, .ref 62, .ref 63, .int (u 9), .ref 64, .int (u 10)]))) q (.inr (9, [.int (nI st4.2.1), .int (nI st4.2.2.1.length), .int st4.2.2.2, .ref (q + 1), .ref (q + 2)]))) (q + 1) (.inl (0, 122, .inl sg4))) (q + 2) (.inl (0, 122, .inl vl4)), n, s) _
                      refine r_goto (tgt := 4) (by decide) dX11_readTerm_34 ?_
                      rw [show pTermL bs e T b i (m + 1) st = pTermL bs e T b i m st4 by rw [pTermL_s, if_pos q10]; try simp only [pPart_m, pB_a, pB_l, pB_r, hR1, hR2, hR3, hR4]]; exact ih (c + 1) k (a + 1) st4 at4 so4 mk4 nu4 di4 wo4 sg4 vl4 (by omega) (by omega) hm4 ho4
                  · rcases hR4 : pWr 42 0 st3 with ⟨ft4, pl4⟩ | st4
                    · rw [hR4] at h9
                      rw [show pTermL bs e T b i (m + 1) st = .inl (ft4, pl4) by rw [pTermL_s, if_pos q10]; try simp only [pPart_m, pB_a, pB_l, pB_r, hR1, hR2, hR3, hR4]]
                      exact h9
                    · rw [hR4] at h9; cases h9.1
              · rcases hR3 : pOne bs e T b i st2 with ⟨ft3, pl3⟩ | st3
                · rw [hR3] at h9
                  rw [show pTermL bs e T b i (m + 1) st = .inl (ft3, pl3) by rw [pTermL_s, if_pos q10]; try simp only [pPart_m, pB_a, pB_l, pB_r, hR1, hR2, hR3]]
                  exact h9
                · rw [hR3] at h9; cases h9.1
          · rcases hR2 : mNext bs e st1 with ⟨ft2, pl2⟩ | st2
            · rw [hR2] at h9
              rw [show pTermL bs e T b i (m + 1) st = .inl (ft2, pl2) by rw [pTermL_s, if_pos q10]; try simp only [pPart_m, pB_a, pB_l, pB_r, hR1, hR2]]
              exact h9
            · rw [hR2] at h9; cases h9.1
      · rcases hR1 : mPart st with ⟨ft1, pl1⟩ | st1
        · rw [hR1] at h9
          rw [show pTermL bs e T b i (m + 1) st = .inl (ft1, pl1) by rw [pTermL_s, if_pos q10]; try simp only [pPart_m, pB_a, pB_l, pB_r, hR1]]
          exact h9
        · rw [hR1] at h9; cases h9.1
set_option maxRecDepth 4000 in
theorem c_readTermM {O : bO} {d : Nat} {f : bF} {n s : Nat} {u : Nat → Int32} {q e : Nat} {tg bs : Nat → Int32} {kd sp : Int32} (hq : 5000 ≤ q) (h53 : f 53 = some (.inr (10, [.null, .null, .null, .null, .null, .int 0, .int kd, .int sp]))) (h54 : f 54 = some (.inl (1, 300, .inl tg))) (e0 : e ≤ 300) (hb9 : ∀ z, z < 300 → tg z &&& 255 = bs z) {st : pS} {at_ so mk nu di : Int32} {wo : Int64} {sg vl : Nat → Int32} {b i k a : Nat} (hm : msR e st at_ so mk nu di wo sg vl) (ho : okS k a st) {T : Nat → Nat → pS → pR} {dT lev : Nat} (HT : RM O dT lev f n s u q e T) (hT : okT T) (hb : b ≤ 8) (hi : i ≤ 8) (hl : (8 - b) + (8 - i) ≤ lev) (h20 : 20 ≤ dT) (hd : dT + 3 ≤ d) : bCall O mX11_readTerm d [.ref 50] (hMd f u q e st at_ so mk nu di wo b i sg vl, n, s) (rM f n s u q e b i (pTerm bs e T b i st)) := by
  refine bCall_of (by decide) rfl (Nat.le_of_ble_eq_true rfl) ?_
  obtain ⟨o1, o2, o3, o4, o5⟩ := id ho
  show bV O _ d 0 [(0, .ref 50)] [] (bU (bU (bU (bU f 50 (.inr (11, [.int (u 0), .int (u 1), .int (u 2), .int (u 3), .int (u 4), .ref 51, .ref q, .ref 53, .ref 54, .int (u 5), .int (nI e), .int at_, .int so, .int (nI st.1.1), .int mk, .int nu, .int di, .int (nI b), .int (nI i), .long wo, .ref 55, .ref 56, .int (u 6), .int (u 7), .ref 57, .int (u 8), .ref 58, .ref 59, .ref 60, .ref 61, .ref 62, .ref 63, .int (u 9), .ref 64, .int (u 10)]))) q (.inr (9, [.int (nI st.2.1), .int (nI st.2.2.1.length), .int st.2.2.2, .ref (q + 1), .ref (q + 2)]))) (q + 1) (.inl (0, 122, .inl sg))) (q + 2) (.inl (0, 122, .inl vl)), n, s) _
  refine r_aload_n (n := 0) (i := 0) 0 rfl rfl dX11_readTerm_0 ?_
  refine p_callV (As := []) (rest := []) (c_readOneM (d := dT + 2) hq h53 h54 e0 hb9 hm ho  HT hT (b := b) (i := i) (by omega) (by omega) (by omega) h20 (Nat.le_refl _)) rfl lkX11_181 imX11_readOne seX11_readOne rfl (by exact ((bU_n (by omega)).trans (((bU_n (by omega)).trans (((bU_n (by omega)).trans (bU_s _ _ _))))))) rfl rfl (by omega) (Nat.le_of_ble_eq_true rfl) dX11_readTerm_1 (fun v9 G9 h9 => ?_) (fun q9 G9 h9 => ⟨(fun x9 hx9 => by cases hx9), ?_⟩)
  · rcases hR1 : pOne bs e T b i st with ⟨ft1, pl1⟩ | st1
    · rw [hR1] at h9; cases h9.1
    · rw [hR1] at h9; obtain ⟨h8, at1, so1, mk1, nu1, di1, wo1, sg1, vl1, hm1, rfl⟩ := h9; cases h8
      have ho1 : okS (k) (a) st1 := pOne_ok e0 hT ho hR1
      obtain ⟨p11, p21, p31, p41, p51⟩ := id ho1
      show bV O _ d 4 [(0, .ref 50)] [] (bU (bU (bU (bU f 50 (.inr (11, [.int (u 0), .int (u 1), .int (u 2), .int (u 3), .int (u 4), .ref 51, .ref q, .ref 53, .ref 54, .int (u 5), .int (nI e), .int at1, .int so1, .int (nI st1.1.1), .int mk1, .int nu1, .int di1, .int (nI b), .int (nI i), .long wo1, .ref 55, .ref 56, .int (u 6), .int (u 7), .ref 57, .int (u 8), .ref 58, .ref 59, .ref 60, .ref 61, .ref 62, .ref 63, .int (u 9), .ref 64, .int (u 10)]))) q (.inr (9, [.int (nI st1.2.1), .int (nI st1.2.2.1.length), .int st1.2.2.2, .ref (q + 1), .ref (q + 2)]))) (q + 1) (.inl (0, 122, .inl sg1))) (q + 2) (.inl (0, 122, .inl vl1)), n, s) _
      rw [show pTerm bs e T b i st = pTermL bs e T b i 61 st1 by simp only [pTerm, hR1, pB_r]]; exact lp_termM hq h53 h54 e0 hb9 HT hT hb hi hl h20 hd 61 0 k a st1 at1 so1 mk1 nu1 di1 wo1 sg1 vl1 rfl (by omega) hm1 ho1
  · rcases hR1 : pOne bs e T b i st with ⟨ft1, pl1⟩ | st1
    · rw [hR1] at h9
      rw [show pTerm bs e T b i st = .inl (ft1, pl1) by simp only [pTerm, pB_l, pB_r, hR1]]
      exact h9
    · rw [hR1] at h9; cases h9.1
theorem lp_sumM {O : bO} {d : Nat} {f : bF} {n s : Nat} {u : Nat → Int32} {q e : Nat} {tg bs : Nat → Int32} {kd sp : Int32} (hq : 5000 ≤ q) (h53 : f 53 = some (.inr (10, [.null, .null, .null, .null, .null, .int 0, .int kd, .int sp]))) (h54 : f 54 = some (.inl (1, 300, .inl tg))) (e0 : e ≤ 300) (hb9 : ∀ z, z < 300 → tg z &&& 255 = bs z) {b i : Nat} {T : Nat → Nat → pS → pR} {dT lev : Nat} (HT : RM O dT lev f n s u q e T) (hT : okT T) (hb : b ≤ 8) (hi : i ≤ 8) (hl : (8 - b) + (8 - i) ≤ lev) (h20 : 20 ≤ dT) (hd : dT + 4 ≤ d) : ∀ (m c k a : Nat) (st : pS) (at_ so mk nu di : Int32) (wo : Int64) (sg vl : Nat → Int32), c + m = 61 → c ≤ a → msR e st at_ so mk nu di wo sg vl → okS k a st → bV O mX11_readSum d 4 [(0, .ref 50)] [] (hMd f u q e st at_ so mk nu di wo b i sg vl, n, s) (rM f n s u q e b i (pSumL bs e T b i m st)) := by
  intro m
  induction m with
  | zero =>
    intro c k a st at_ so mk nu di wo sg vl h1 h2 hm ho
    obtain ⟨o1, o2, o3, o4, o5⟩ := id ho
    exact absurd o5 (by omega)
  | succ m ih =>
    intro c k a st at_ so mk nu di wo sg vl h1 h2 hm ho
    obtain ⟨o1, o2, o3, o4, o5⟩ := id ho
    show bV O _ d 4 [(0, .ref 50)] [] (bU (bU (bU (bU f 50 (.inr (11, [.int (u 0), .int (u 1), .int (u 2), .int (u 3), .int (u 4), .ref 51, .ref q, .ref 53, .ref 54, .int (u 5), .int (nI e), .int at_, .int so, .int (nI st.1.1), .int mk, .int nu, .int di, .int (nI b), .int (nI i), .long wo, .ref 55, .ref 56, .int (u 6), .int (u 7), .ref 57, .int (u 8), .ref 58, .ref 59, .ref 60, .ref 61, .ref 62, .ref 63, .int (u 9), .ref 64, .int (u 10)]))) q (.inr (9, [.int (nI st.2.1), .int (nI st.2.2.1.length), .int st.2.2.2, .ref (q + 1), .ref (q + 2)]))) (q + 1) (.inl (0, 122, .inl sg))) (q + 2) (.inl (0, 122, .inl vl)), n, s) _
    refine r_aload_n (n := 0) (i := 0) 0 rfl rfl dX11_readSum_4 ?_
    refine r_bipush (v := 43) (by decide) dX11_readSum_5 ?_
    refine p_callV (As := [.int 43]) (rest := []) (kX11_is (O := O) (d := 0) (f := bU (bU (bU (bU f 50 (.inr (11, [.int (u 0), .int (u 1), .int (u 2), .int (u 3), .int (u 4), .ref 51, .ref q, .ref 53, .ref 54, .int (u 5), .int (nI e), .int at_, .int so, .int (nI st.1.1), .int mk, .int nu, .int di, .int (nI b), .int (nI i), .long wo, .ref 55, .ref 56, .int (u 6), .int (u 7), .ref 57, .int (u 8), .ref 58, .ref 59, .ref 60, .ref 61, .ref 62, .ref 63, .int (u 9), .ref 64, .int (u 10)]))) q (.inr (9, [.int (nI st.2.1), .int (nI st.2.2.1.length), .int st.2.2.2, .ref (q + 1), .ref (q + 2)]))) (q + 1) (.inl (0, 122, .inl sg))) (q + 2) (.inl (0, 122, .inl vl))) (n := n) (s := s) (q := q) (e := e) (at_ := at_) (so := so) (pl := nI st.1.1) (mk := mk) (nu := nu) (di := di) (br := nI b) (iff := nI i) (wo := wo) (k := st.1.2.2.1) (v := st.1.2.2.2) (x := 43) (by exact ((bU_n (by omega)).trans (((bU_n (by omega)).trans (((bU_n (by omega)).trans (bU_s _ _ _))))))) hm.2.1 (by decide) (Nat.le_refl _)).call rfl lkX11_143 imX11_is seX11_is rfl (by exact ((bU_n (by omega)).trans (((bU_n (by omega)).trans (((bU_n (by omega)).trans (bU_s _ _ _))))))) rfl rfl (by omega) (Nat.le_of_ble_eq_true rfl) dX11_readSum_7 (fun v9 G9 h9 => ?_) (fun q9 G9 h9 => (by cases h9.1))
    obtain ⟨h8, rfl⟩ := h9; cases h8
    show bV O _ d 10 [(0, .ref 50)] [.int (bI (decide (st.1.2.2.1 = 43)))] (bU (bU (bU (bU f 50 (.inr (11, [.int (u 0), .int (u 1), .int (u 2), .int (u 3), .int (u 4), .ref 51, .ref q, .ref 53, .ref 54, .int (u 5), .int (nI e), .int at_, .int so, .int (nI st.1.1), .int mk, .int nu, .int di, .int (nI b), .int (nI i), .long wo, .ref 55, .ref 56, .int (u 6), .int (u 7), .ref 57, .int (u 8), .ref 58, .ref 59, .ref 60, .ref 61, .ref 62, .ref 63, .int (u 9), .ref 64, .int (u 10)]))) q (.inr (9, [.int (nI st.2.1), .int (nI st.2.2.1.length), .int st.2.2.2, .ref (q + 1), .ref (q + 2)]))) (q + 1) (.inl (0, 122, .inl sg))) (q + 2) (.inl (0, 122, .inl vl)), n, s) _
    refine r_if_ne (tgt := 22) (by decide) dX11_readSum_10 (fun c10 => ?_) (fun c10 => ?_)
    · have c10 := bI_1.mp c10
      first | (have q10 : st.1.2.2.1 = 43 := of_decide_eq_true c10) | (have q10 : ¬ st.1.2.2.1 = 43 := of_decide_eq_false c10)
      refine r_aload_n (n := 0) (i := 0) 0 rfl rfl dX11_readSum_22 ?_
      refine r_bipush (v := 43) (by decide) dX11_readSum_23 ?_
      refine p_callV (As := [.int 43]) (rest := []) (kX11_is (O := O) (d := 0) (f := bU (bU (bU (bU f 50 (.inr (11, [.int (u 0), .int (u 1), .int (u 2), .int (u 3), .int (u 4), .ref 51, .ref q, .ref 53, .ref 54, .int (u 5), .int (nI e), .int at_, .int so, .int (nI st.1.1), .int mk, .int nu, .int di, .int (nI b), .int (nI i), .long wo, .ref 55, .ref 56, .int (u 6), .int (u 7), .ref 57, .int (u 8), .ref 58, .ref 59, .ref 60, .ref 61, .ref 62, .ref 63, .int (u 9), .ref 64, .int (u 10)]))) q (.inr (9, [.int (nI st.2.1), .int (nI st.2.2.1.length), .int st.2.2.2, .ref (q + 1), .ref (q + 2)]))) (q + 1) (.inl (0, 122, .inl sg))) (q + 2) (.inl (0, 122, .inl vl))) (n := n) (s := s) (q := q) (e := e) (at_ := at_) (so := so) (pl := nI st.1.1) (mk := mk) (nu := nu) (di := di) (br := nI b) (iff := nI i) (wo := wo) (k := st.1.2.2.1) (v := st.1.2.2.2) (x := 43) (by exact ((bU_n (by omega)).trans (((bU_n (by omega)).trans (((bU_n (by omega)).trans (bU_s _ _ _))))))) hm.2.1 (by decide) (Nat.le_refl _)).call rfl lkX11_143 imX11_is seX11_is rfl (by exact ((bU_n (by omega)).trans (((bU_n (by omega)).trans (((bU_n (by omega)).trans (bU_s _ _ _))))))) rfl rfl (by omega) (Nat.le_of_ble_eq_true rfl) dX11_readSum_25 (fun v9 G9 h9 => ?_) (fun q9 G9 h9 => (by cases h9.1))
      obtain ⟨h8, rfl⟩ := h9; cases h8
      show bV O _ d 28 [(0, .ref 50)] [.int (bI (decide (st.1.2.2.1 = 43)))] (bU (bU (bU (bU f 50 (.inr (11, [.int (u 0), .int (u 1), .int (u 2), .int (u 3), .int (u 4), .ref 51, .ref q, .ref 53, .ref 54, .int (u 5), .int (nI e), .int at_, .int so, .int (nI st.1.1), .int mk, .int nu, .int di, .int (nI b), .int (nI i), .long wo, .ref 55, .ref 56, .int (u 6), .int (u 7), .ref 57, .int (u 8), .ref 58, .ref 59, .ref 60, .ref 61, .ref 62, .ref 63, .int (u 9), .ref 64, .int (u 10)]))) q (.inr (9, [.int (nI st.2.1), .int (nI st.2.2.1.length), .int st.2.2.2, .ref (q + 1), .ref (q + 2)]))) (q + 1) (.inl (0, 122, .inl sg))) (q + 2) (.inl (0, 122, .inl vl)), n, s) _
      refine r_if_eq (tgt := 35) (by decide) dX11_readSum_28 (fun h9 => absurd h9 (bI_1.mpr c10)) (fun _ => ?_)
      refine r_iconst (v := 2) (by decide) dX11_readSum_31 ?_
      refine r_goto (tgt := 36) (by decide) dX11_readSum_32 ?_
      refine r_istore_n (n := 1) (i := 1) (L' := [(1, .int 2), (0, .ref 50)]) rfl dX11_readSum_36 (by decide) rfl ?_
      refine r_aload_n (n := 0) (i := 0) 1 rfl rfl dX11_readSum_37 ?_
      refine p_callV (As := []) (rest := []) (c_part (d := 1) hq h53 h54 e0 hb9 hm ho (Nat.le_refl _)) rfl lkX11_160 imX11_part seX11_part rfl (by exact ((bU_n (by omega)).trans (((bU_n (by omega)).trans (((bU_n (by omega)).trans (bU_s _ _ _))))))) rfl rfl (by omega) (Nat.le_of_ble_eq_true rfl) dX11_readSum_38 (fun v9 G9 h9 => ?_) (fun q9 G9 h9 => ⟨(fun x9 hx9 => by cases hx9), ?_⟩)
      · rcases hR1 : mPart st with ⟨ft1, pl1⟩ | st1
        · rw [hR1] at h9; cases h9.1
        · rw [hR1] at h9; obtain ⟨h8, at1, so1, mk1, nu1, di1, wo1, sg1, vl1, hm1, rfl⟩ := h9; cases h8
          have ho1 : okS (k + 1) (a + 1) st1 := mPart_ok ho hR1
          obtain ⟨p11, p21, p31, p41, p51⟩ := id ho1
          have t1 := mPart_t hR1
          show bV O _ d 41 [(1, .int 2), (0, .ref 50)] [] (bU (bU (bU (bU f 50 (.inr (11, [.int (u 0), .int (u 1), .int (u 2), .int (u 3), .int (u 4), .ref 51, .ref q, .ref 53, .ref 54, .int (u 5), .int (nI e), .int at1, .int so1, .int (nI st1.1.1), .int mk1, .int nu1, .int di1, .int (nI b), .int (nI i), .long wo1, .ref 55, .ref 56, .int (u 6), .int (u 7), .ref 57, .int (u 8), .ref 58, .ref 59, .ref 60, .ref 61, .ref 62, .ref 63, .int (u 9), .ref 64, .int (u 10)]))) q (.inr (9, [.int (nI st1.2.1), .int (nI st1.2.2.1.length), .int st1.2.2.2, .ref (q + 1), .ref (q + 2)]))) (q + 1) (.inl (0, 122, .inl sg1))) (q + 2) (.inl (0, 122, .inl vl1)), n, s) _
          refine r_aload_n (n := 0) (i := 0) 1 rfl rfl dX11_readSum_41 ?_
          refine p_callV (As := []) (rest := []) (c_nextM (d := 1) hq h53 h54 e0 hb9 hm1 ho1 (by simp only [t1, q10] <;> decide) (Nat.le_refl _)) rfl lkX11_140 imX11_next seX11_next rfl (by exact ((bU_n (by omega)).trans (((bU_n (by omega)).trans (((bU_n (by omega)).trans (bU_s _ _ _))))))) rfl rfl (by omega) (Nat.le_of_ble_eq_true rfl) dX11_readSum_42 (fun v9 G9 h9 => ?_) (fun q9 G9 h9 => ⟨(fun x9 hx9 => by cases hx9), ?_⟩)
          · rcases hR2 : mNext bs e st1 with ⟨ft2, pl2⟩ | st2
            · rw [hR2] at h9; cases h9.1
            · rw [hR2] at h9; obtain ⟨h8, at2, so2, mk2, nu2, di2, wo2, sg2, vl2, hm2, rfl⟩ := h9; cases h8
              have ho2 : okS (k + 1) (a + 1) st2 := mNext_ok e0 ho1 hR2
              obtain ⟨p12, p22, p32, p42, p52⟩ := id ho2
              show bV O _ d 45 [(1, .int 2), (0, .ref 50)] [] (bU (bU (bU (bU f 50 (.inr (11, [.int (u 0), .int (u 1), .int (u 2), .int (u 3), .int (u 4), .ref 51, .ref q, .ref 53, .ref 54, .int (u 5), .int (nI e), .int at2, .int so2, .int (nI st2.1.1), .int mk2, .int nu2, .int di2, .int (nI b), .int (nI i), .long wo2, .ref 55, .ref 56, .int (u 6), .int (u 7), .ref 57, .int (u 8), .ref 58, .ref 59, .ref 60, .ref 61, .ref 62, .ref 63, .int (u 9), .ref 64, .int (u 10)]))) q (.inr (9, [.int (nI st2.2.1), .int (nI st2.2.2.1.length), .int st2.2.2.2, .ref (q + 1), .ref (q + 2)]))) (q + 1) (.inl (0, 122, .inl sg2))) (q + 2) (.inl (0, 122, .inl vl2)), n, s) _
              refine r_aload_n (n := 0) (i := 0) 1 rfl rfl dX11_readSum_45 ?_
              refine p_callV (As := []) (rest := []) (c_readTermM (d := dT + 3) hq h53 h54 e0 hb9 hm2 ho2  HT hT (b := b) (i := i) (by omega) (by omega) (by omega) h20 (Nat.le_refl _)) rfl lkX11_178 imX11_readTerm seX11_readTerm rfl (by exact ((bU_n (by omega)).trans (((bU_n (by omega)).trans (((bU_n (by omega)).trans (bU_s _ _ _))))))) rfl rfl (by omega) (Nat.le_of_ble_eq_true rfl) dX11_readSum_46 (fun v9 G9 h9 => ?_) (fun q9 G9 h9 => ⟨(fun x9 hx9 => by cases hx9), ?_⟩)
              · rcases hR3 : pTerm bs e T b i st2 with ⟨ft3, pl3⟩ | st3
                · rw [hR3] at h9; cases h9.1
                · rw [hR3] at h9; obtain ⟨h8, at3, so3, mk3, nu3, di3, wo3, sg3, vl3, hm3, rfl⟩ := h9; cases h8
                  have ho3 : okS (k + 1) (a + 1) st3 := pTerm_ok e0 hT ho2 hR3
                  obtain ⟨p13, p23, p33, p43, p53⟩ := id ho3
                  show bV O _ d 49 [(1, .int 2), (0, .ref 50)] [] (bU (bU (bU (bU f 50 (.inr (11, [.int (u 0), .int (u 1), .int (u 2), .int (u 3), .int (u 4), .ref 51, .ref q, .ref 53, .ref 54, .int (u 5), .int (nI e), .int at3, .int so3, .int (nI st3.1.1), .int mk3, .int nu3, .int di3, .int (nI b), .int (nI i), .long wo3, .ref 55, .ref 56, .int (u 6), .int (u 7), .ref 57, .int (u 8), .ref 58, .ref 59, .ref 60, .ref 61, .ref 62, .ref 63, .int (u 9), .ref 64, .int (u 10)]))) q (.inr (9, [.int (nI st3.2.1), .int (nI st3.2.2.1.length), .int st3.2.2.2, .ref (q + 1), .ref (q + 2)]))) (q + 1) (.inl (0, 122, .inl sg3))) (q + 2) (.inl (0, 122, .inl vl3)), n, s) _
                  refine r_aload_n (n := 0) (i := 0) 1 rfl rfl dX11_readSum_49 ?_
                  refine p_get (fs := [.int (u 0), .int (u 1), .int (u 2), .int (u 3), .int (u 4), .ref 51, .ref q, .ref 53, .ref 54, .int (u 5), .int (nI e), .int at3, .int so3, .int (nI st3.1.1), .int mk3, .int nu3, .int di3, .int (nI b), .int (nI i), .long wo3, .ref 55, .ref 56, .int (u 6), .int (u 7), .ref 57, .int (u 8), .ref 58, .ref 59, .ref 60, .ref 61, .ref 62, .ref 63, .int (u 9), .ref 64, .int (u 10)]) flX11_22 (by exact ((bU_n (by omega)).trans (((bU_n (by omega)).trans (((bU_n (by omega)).trans (bU_s _ _ _))))))) rfl dX11_readSum_50 ?_
                  refine r_iload_n (n := 1) (i := 1) 0 rfl rfl dX11_readSum_53 ?_
                  refine r_iconst (v := 0) (by decide) dX11_readSum_54 ?_
                  refine p_callV (As := [.int 2, .int 0]) (rest := []) (c_put (d := 0) hq hm3 ho3 st.1.2.2.1 0 (by rw [q10]; decide) rfl (Nat.le_refl _)) rfl lkX11_163 imX9_put seX9_put rfl (by exact ((bU_n (by omega)).trans (((bU_n (by omega)).trans (bU_s _ _ _))))) rfl rfl (by omega) (Nat.le_of_ble_eq_true rfl) dX11_readSum_55 (fun v9 G9 h9 => ?_) (fun q9 G9 h9 => ⟨(fun x9 hx9 => by cases hx9), ?_⟩)
                  · rcases hR4 : pWr st.1.2.2.1 0 st3 with ⟨ft4, pl4⟩ | st4
                    · rw [hR4] at h9; cases h9.1
                    · rw [hR4] at h9; obtain ⟨h8, at4, so4, mk4, nu4, di4, wo4, sg4, vl4, hm4, rfl⟩ := h9; cases h8
                      have ho4 : okS (k) (a + 1) st4 := pWr_ok (k := k) ho3 hR4
                      obtain ⟨p14, p24, p34, p44, p54⟩ := id ho4
                      have t4 := pWr_t hR4
                      show bV O _ d 58 [(1, .int 2), (0, .ref 50)] [] (bU (bU (bU (bU f 50 (.inr (11, [.int (u 0), .int (u 1), .int (u 2), .int (u 3), .int (u 4), .ref 51, .ref q, .ref 53, .ref 54, .int (u 5), .int (nI e), .int at4, .int so4, .int (nI st4.1.1), .int mk4, .int nu4, .int di4, .int (nI b), .int (nI i), .long wo4, .ref 55, .ref 56, .int (u 6), .int (u 7), .ref 57, .int (u 8), .ref 58, .ref 59, .ref 60, .ref 61, .ref 62, .ref 63, .int (u 9), .ref 64, .int (u 10)]))) q (.inr (9, [.int (nI st4.2.1), .int (nI st4.2.2.1.length), .int st4.2.2.2, .ref (q + 1), .ref (q + 2)]))) (q + 1) (.inl (0, 122, .inl sg4))) (q + 2) (.inl (0, 122, .inl vl4)), n, s) _
                      refine r_goto (tgt := 4) (by decide) dX11_readSum_58 ?_
                      rw [show pSumL bs e T b i (m + 1) st = pSumL bs e T b i m st4 by rw [pSumL_s, if_pos (Or.inl q10)]; try simp only [pPart_m, pB_a, pB_l, pB_r, hR1, hR2, hR3, hR4]]; refine bV_loc [1] rfl ?_; exact ih (c + 1) k (a + 1) st4 at4 so4 mk4 nu4 di4 wo4 sg4 vl4 (by omega) (by omega) hm4 ho4
                  · rcases hR4 : pWr st.1.2.2.1 0 st3 with ⟨ft4, pl4⟩ | st4
                    · rw [hR4] at h9
                      rw [show pSumL bs e T b i (m + 1) st = .inl (ft4, pl4) by rw [pSumL_s, if_pos (Or.inl q10)]; try simp only [pPart_m, pB_a, pB_l, pB_r, hR1, hR2, hR3, hR4]]
                      exact h9
                    · rw [hR4] at h9; cases h9.1
              · rcases hR3 : pTerm bs e T b i st2 with ⟨ft3, pl3⟩ | st3
                · rw [hR3] at h9
                  rw [show pSumL bs e T b i (m + 1) st = .inl (ft3, pl3) by rw [pSumL_s, if_pos (Or.inl q10)]; try simp only [pPart_m, pB_a, pB_l, pB_r, hR1, hR2, hR3]]
                  exact h9
                · rw [hR3] at h9; cases h9.1
          · rcases hR2 : mNext bs e st1 with ⟨ft2, pl2⟩ | st2
            · rw [hR2] at h9
              rw [show pSumL bs e T b i (m + 1) st = .inl (ft2, pl2) by rw [pSumL_s, if_pos (Or.inl q10)]; try simp only [pPart_m, pB_a, pB_l, pB_r, hR1, hR2]]
              exact h9
            · rw [hR2] at h9; cases h9.1
      · rcases hR1 : mPart st with ⟨ft1, pl1⟩ | st1
        · rw [hR1] at h9
          rw [show pSumL bs e T b i (m + 1) st = .inl (ft1, pl1) by rw [pSumL_s, if_pos (Or.inl q10)]; try simp only [pPart_m, pB_a, pB_l, pB_r, hR1]]
          exact h9
        · rw [hR1] at h9; cases h9.1
    · have c10 := bI_0.mp c10
      first | (have q10 : st.1.2.2.1 = 43 := of_decide_eq_true c10) | (have q10 : ¬ st.1.2.2.1 = 43 := of_decide_eq_false c10)
      refine r_aload_n (n := 0) (i := 0) 0 rfl rfl dX11_readSum_13 ?_
      refine r_bipush (v := 45) (by decide) dX11_readSum_14 ?_
      refine p_callV (As := [.int 45]) (rest := []) (kX11_is (O := O) (d := 0) (f := bU (bU (bU (bU f 50 (.inr (11, [.int (u 0), .int (u 1), .int (u 2), .int (u 3), .int (u 4), .ref 51, .ref q, .ref 53, .ref 54, .int (u 5), .int (nI e), .int at_, .int so, .int (nI st.1.1), .int mk, .int nu, .int di, .int (nI b), .int (nI i), .long wo, .ref 55, .ref 56, .int (u 6), .int (u 7), .ref 57, .int (u 8), .ref 58, .ref 59, .ref 60, .ref 61, .ref 62, .ref 63, .int (u 9), .ref 64, .int (u 10)]))) q (.inr (9, [.int (nI st.2.1), .int (nI st.2.2.1.length), .int st.2.2.2, .ref (q + 1), .ref (q + 2)]))) (q + 1) (.inl (0, 122, .inl sg))) (q + 2) (.inl (0, 122, .inl vl))) (n := n) (s := s) (q := q) (e := e) (at_ := at_) (so := so) (pl := nI st.1.1) (mk := mk) (nu := nu) (di := di) (br := nI b) (iff := nI i) (wo := wo) (k := st.1.2.2.1) (v := st.1.2.2.2) (x := 45) (by exact ((bU_n (by omega)).trans (((bU_n (by omega)).trans (((bU_n (by omega)).trans (bU_s _ _ _))))))) hm.2.1 (by decide) (Nat.le_refl _)).call rfl lkX11_143 imX11_is seX11_is rfl (by exact ((bU_n (by omega)).trans (((bU_n (by omega)).trans (((bU_n (by omega)).trans (bU_s _ _ _))))))) rfl rfl (by omega) (Nat.le_of_ble_eq_true rfl) dX11_readSum_16 (fun v9 G9 h9 => ?_) (fun q9 G9 h9 => (by cases h9.1))
      obtain ⟨h8, rfl⟩ := h9; cases h8
      show bV O _ d 19 [(0, .ref 50)] [.int (bI (decide (st.1.2.2.1 = 45)))] (bU (bU (bU (bU f 50 (.inr (11, [.int (u 0), .int (u 1), .int (u 2), .int (u 3), .int (u 4), .ref 51, .ref q, .ref 53, .ref 54, .int (u 5), .int (nI e), .int at_, .int so, .int (nI st.1.1), .int mk, .int nu, .int di, .int (nI b), .int (nI i), .long wo, .ref 55, .ref 56, .int (u 6), .int (u 7), .ref 57, .int (u 8), .ref 58, .ref 59, .ref 60, .ref 61, .ref 62, .ref 63, .int (u 9), .ref 64, .int (u 10)]))) q (.inr (9, [.int (nI st.2.1), .int (nI st.2.2.1.length), .int st.2.2.2, .ref (q + 1), .ref (q + 2)]))) (q + 1) (.inl (0, 122, .inl sg))) (q + 2) (.inl (0, 122, .inl vl)), n, s) _
      refine r_if_eq (tgt := 61) (by decide) dX11_readSum_19 (fun c19 => ?_) (fun c19 => ?_)
      · have c19 := bI_0.mp c19
        first | (have q19 : st.1.2.2.1 = 45 := of_decide_eq_true c19) | (have q19 : ¬ st.1.2.2.1 = 45 := of_decide_eq_false c19)
        refine r_return rfl dX11_readSum_61 ?_
        rw [show pSumL bs e T b i (m + 1) st = .inr st by rw [pSumL_s, if_neg (fun h => h.elim q10 q19)]; try simp only [pPart_m, pB_a, pB_l, pB_r]]
        exact ⟨rfl, _, _, _, _, _, _, _, _, hm, rfl⟩
      · have c19 := bI_1.mp c19
        first | (have q19 : st.1.2.2.1 = 45 := of_decide_eq_true c19) | (have q19 : ¬ st.1.2.2.1 = 45 := of_decide_eq_false c19)
        refine r_aload_n (n := 0) (i := 0) 0 rfl rfl dX11_readSum_22 ?_
        refine r_bipush (v := 43) (by decide) dX11_readSum_23 ?_
        refine p_callV (As := [.int 43]) (rest := []) (kX11_is (O := O) (d := 0) (f := bU (bU (bU (bU f 50 (.inr (11, [.int (u 0), .int (u 1), .int (u 2), .int (u 3), .int (u 4), .ref 51, .ref q, .ref 53, .ref 54, .int (u 5), .int (nI e), .int at_, .int so, .int (nI st.1.1), .int mk, .int nu, .int di, .int (nI b), .int (nI i), .long wo, .ref 55, .ref 56, .int (u 6), .int (u 7), .ref 57, .int (u 8), .ref 58, .ref 59, .ref 60, .ref 61, .ref 62, .ref 63, .int (u 9), .ref 64, .int (u 10)]))) q (.inr (9, [.int (nI st.2.1), .int (nI st.2.2.1.length), .int st.2.2.2, .ref (q + 1), .ref (q + 2)]))) (q + 1) (.inl (0, 122, .inl sg))) (q + 2) (.inl (0, 122, .inl vl))) (n := n) (s := s) (q := q) (e := e) (at_ := at_) (so := so) (pl := nI st.1.1) (mk := mk) (nu := nu) (di := di) (br := nI b) (iff := nI i) (wo := wo) (k := st.1.2.2.1) (v := st.1.2.2.2) (x := 43) (by exact ((bU_n (by omega)).trans (((bU_n (by omega)).trans (((bU_n (by omega)).trans (bU_s _ _ _))))))) hm.2.1 (by decide) (Nat.le_refl _)).call rfl lkX11_143 imX11_is seX11_is rfl (by exact ((bU_n (by omega)).trans (((bU_n (by omega)).trans (((bU_n (by omega)).trans (bU_s _ _ _))))))) rfl rfl (by omega) (Nat.le_of_ble_eq_true rfl) dX11_readSum_25 (fun v9 G9 h9 => ?_) (fun q9 G9 h9 => (by cases h9.1))
        obtain ⟨h8, rfl⟩ := h9; cases h8
        show bV O _ d 28 [(0, .ref 50)] [.int (bI (decide (st.1.2.2.1 = 43)))] (bU (bU (bU (bU f 50 (.inr (11, [.int (u 0), .int (u 1), .int (u 2), .int (u 3), .int (u 4), .ref 51, .ref q, .ref 53, .ref 54, .int (u 5), .int (nI e), .int at_, .int so, .int (nI st.1.1), .int mk, .int nu, .int di, .int (nI b), .int (nI i), .long wo, .ref 55, .ref 56, .int (u 6), .int (u 7), .ref 57, .int (u 8), .ref 58, .ref 59, .ref 60, .ref 61, .ref 62, .ref 63, .int (u 9), .ref 64, .int (u 10)]))) q (.inr (9, [.int (nI st.2.1), .int (nI st.2.2.1.length), .int st.2.2.2, .ref (q + 1), .ref (q + 2)]))) (q + 1) (.inl (0, 122, .inl sg))) (q + 2) (.inl (0, 122, .inl vl)), n, s) _
        refine r_if_eq (tgt := 35) (by decide) dX11_readSum_28 (fun _ => ?_) (fun h9 => absurd (bI_0.mpr c10) h9)
        refine r_iconst (v := 3) (by decide) dX11_readSum_35 ?_
        refine r_istore_n (n := 1) (i := 1) (L' := [(1, .int 3), (0, .ref 50)]) rfl dX11_readSum_36 (by decide) rfl ?_
        refine r_aload_n (n := 0) (i := 0) 1 rfl rfl dX11_readSum_37 ?_
        refine p_callV (As := []) (rest := []) (c_part (d := 1) hq h53 h54 e0 hb9 hm ho (Nat.le_refl _)) rfl lkX11_160 imX11_part seX11_part rfl (by exact ((bU_n (by omega)).trans (((bU_n (by omega)).trans (((bU_n (by omega)).trans (bU_s _ _ _))))))) rfl rfl (by omega) (Nat.le_of_ble_eq_true rfl) dX11_readSum_38 (fun v9 G9 h9 => ?_) (fun q9 G9 h9 => ⟨(fun x9 hx9 => by cases hx9), ?_⟩)
        · rcases hR1 : mPart st with ⟨ft1, pl1⟩ | st1
          · rw [hR1] at h9; cases h9.1
          · rw [hR1] at h9; obtain ⟨h8, at1, so1, mk1, nu1, di1, wo1, sg1, vl1, hm1, rfl⟩ := h9; cases h8
            have ho1 : okS (k + 1) (a + 1) st1 := mPart_ok ho hR1
            obtain ⟨p11, p21, p31, p41, p51⟩ := id ho1
            have t1 := mPart_t hR1
            show bV O _ d 41 [(1, .int 3), (0, .ref 50)] [] (bU (bU (bU (bU f 50 (.inr (11, [.int (u 0), .int (u 1), .int (u 2), .int (u 3), .int (u 4), .ref 51, .ref q, .ref 53, .ref 54, .int (u 5), .int (nI e), .int at1, .int so1, .int (nI st1.1.1), .int mk1, .int nu1, .int di1, .int (nI b), .int (nI i), .long wo1, .ref 55, .ref 56, .int (u 6), .int (u 7), .ref 57, .int (u 8), .ref 58, .ref 59, .ref 60, .ref 61, .ref 62, .ref 63, .int (u 9), .ref 64, .int (u 10)]))) q (.inr (9, [.int (nI st1.2.1), .int (nI st1.2.2.1.length), .int st1.2.2.2, .ref (q + 1), .ref (q + 2)]))) (q + 1) (.inl (0, 122, .inl sg1))) (q + 2) (.inl (0, 122, .inl vl1)), n, s) _
            refine r_aload_n (n := 0) (i := 0) 1 rfl rfl dX11_readSum_41 ?_
            refine p_callV (As := []) (rest := []) (c_nextM (d := 1) hq h53 h54 e0 hb9 hm1 ho1 (by simp only [t1, q10, q19] <;> decide) (Nat.le_refl _)) rfl lkX11_140 imX11_next seX11_next rfl (by exact ((bU_n (by omega)).trans (((bU_n (by omega)).trans (((bU_n (by omega)).trans (bU_s _ _ _))))))) rfl rfl (by omega) (Nat.le_of_ble_eq_true rfl) dX11_readSum_42 (fun v9 G9 h9 => ?_) (fun q9 G9 h9 => ⟨(fun x9 hx9 => by cases hx9), ?_⟩)
            · rcases hR2 : mNext bs e st1 with ⟨ft2, pl2⟩ | st2
              · rw [hR2] at h9; cases h9.1
              · rw [hR2] at h9; obtain ⟨h8, at2, so2, mk2, nu2, di2, wo2, sg2, vl2, hm2, rfl⟩ := h9; cases h8
                have ho2 : okS (k + 1) (a + 1) st2 := mNext_ok e0 ho1 hR2
                obtain ⟨p12, p22, p32, p42, p52⟩ := id ho2
                show bV O _ d 45 [(1, .int 3), (0, .ref 50)] [] (bU (bU (bU (bU f 50 (.inr (11, [.int (u 0), .int (u 1), .int (u 2), .int (u 3), .int (u 4), .ref 51, .ref q, .ref 53, .ref 54, .int (u 5), .int (nI e), .int at2, .int so2, .int (nI st2.1.1), .int mk2, .int nu2, .int di2, .int (nI b), .int (nI i), .long wo2, .ref 55, .ref 56, .int (u 6), .int (u 7), .ref 57, .int (u 8), .ref 58, .ref 59, .ref 60, .ref 61, .ref 62, .ref 63, .int (u 9), .ref 64, .int (u 10)]))) q (.inr (9, [.int (nI st2.2.1), .int (nI st2.2.2.1.length), .int st2.2.2.2, .ref (q + 1), .ref (q + 2)]))) (q + 1) (.inl (0, 122, .inl sg2))) (q + 2) (.inl (0, 122, .inl vl2)), n, s) _
                refine r_aload_n (n := 0) (i := 0) 1 rfl rfl dX11_readSum_45 ?_
                refine p_callV (As := []) (rest := []) (c_readTermM (d := dT + 3) hq h53 h54 e0 hb9 hm2 ho2  HT hT (b := b) (i := i) (by omega) (by omega) (by omega) h20 (Nat.le_refl _)) rfl lkX11_178 imX11_readTerm seX11_readTerm rfl (by exact ((bU_n (by omega)).trans (((bU_n (by omega)).trans (((bU_n (by omega)).trans (bU_s _ _ _))))))) rfl rfl (by omega) (Nat.le_of_ble_eq_true rfl) dX11_readSum_46 (fun v9 G9 h9 => ?_) (fun q9 G9 h9 => ⟨(fun x9 hx9 => by cases hx9), ?_⟩)
                · rcases hR3 : pTerm bs e T b i st2 with ⟨ft3, pl3⟩ | st3
                  · rw [hR3] at h9; cases h9.1
                  · rw [hR3] at h9; obtain ⟨h8, at3, so3, mk3, nu3, di3, wo3, sg3, vl3, hm3, rfl⟩ := h9; cases h8
                    have ho3 : okS (k + 1) (a + 1) st3 := pTerm_ok e0 hT ho2 hR3
                    obtain ⟨p13, p23, p33, p43, p53⟩ := id ho3
                    show bV O _ d 49 [(1, .int 3), (0, .ref 50)] [] (bU (bU (bU (bU f 50 (.inr (11, [.int (u 0), .int (u 1), .int (u 2), .int (u 3), .int (u 4), .ref 51, .ref q, .ref 53, .ref 54, .int (u 5), .int (nI e), .int at3, .int so3, .int (nI st3.1.1), .int mk3, .int nu3, .int di3, .int (nI b), .int (nI i), .long wo3, .ref 55, .ref 56, .int (u 6), .int (u 7), .ref 57, .int (u 8), .ref 58, .ref 59, .ref 60, .ref 61, .ref 62, .ref 63, .int (u 9), .ref 64, .int (u 10)]))) q (.inr (9, [.int (nI st3.2.1), .int (nI st3.2.2.1.length), .int st3.2.2.2, .ref (q + 1), .ref (q + 2)]))) (q + 1) (.inl (0, 122, .inl sg3))) (q + 2) (.inl (0, 122, .inl vl3)), n, s) _
                    refine r_aload_n (n := 0) (i := 0) 1 rfl rfl dX11_readSum_49 ?_
                    refine p_get (fs := [.int (u 0), .int (u 1), .int (u 2), .int (u 3), .int (u 4), .ref 51, .ref q, .ref 53, .ref 54, .int (u 5), .int (nI e), .int at3, .int so3, .int (nI st3.1.1), .int mk3, .int nu3, .int di3, .int (nI b), .int (nI i), .long wo3, .ref 55, .ref 56, .int (u 6), .int (u 7), .ref 57, .int (u 8), .ref 58, .ref 59, .ref 60, .ref 61, .ref 62, .ref 63, .int (u 9), .ref 64, .int (u 10)]) flX11_22 (by exact ((bU_n (by omega)).trans (((bU_n (by omega)).trans (((bU_n (by omega)).trans (bU_s _ _ _))))))) rfl dX11_readSum_50 ?_
                    refine r_iload_n (n := 1) (i := 1) 0 rfl rfl dX11_readSum_53 ?_
                    refine r_iconst (v := 0) (by decide) dX11_readSum_54 ?_
                    refine p_callV (As := [.int 3, .int 0]) (rest := []) (c_put (d := 0) hq hm3 ho3 st.1.2.2.1 0 (by rw [q19]; decide) rfl (Nat.le_refl _)) rfl lkX11_163 imX9_put seX9_put rfl (by exact ((bU_n (by omega)).trans (((bU_n (by omega)).trans (bU_s _ _ _))))) rfl rfl (by omega) (Nat.le_of_ble_eq_true rfl) dX11_readSum_55 (fun v9 G9 h9 => ?_) (fun q9 G9 h9 => ⟨(fun x9 hx9 => by cases hx9), ?_⟩)
                    · rcases hR4 : pWr st.1.2.2.1 0 st3 with ⟨ft4, pl4⟩ | st4
                      · rw [hR4] at h9; cases h9.1
                      · rw [hR4] at h9; obtain ⟨h8, at4, so4, mk4, nu4, di4, wo4, sg4, vl4, hm4, rfl⟩ := h9; cases h8
                        have ho4 : okS (k) (a + 1) st4 := pWr_ok (k := k) ho3 hR4
                        obtain ⟨p14, p24, p34, p44, p54⟩ := id ho4
                        have t4 := pWr_t hR4
                        show bV O _ d 58 [(1, .int 3), (0, .ref 50)] [] (bU (bU (bU (bU f 50 (.inr (11, [.int (u 0), .int (u 1), .int (u 2), .int (u 3), .int (u 4), .ref 51, .ref q, .ref 53, .ref 54, .int (u 5), .int (nI e), .int at4, .int so4, .int (nI st4.1.1), .int mk4, .int nu4, .int di4, .int (nI b), .int (nI i), .long wo4, .ref 55, .ref 56, .int (u 6), .int (u 7), .ref 57, .int (u 8), .ref 58, .ref 59, .ref 60, .ref 61, .ref 62, .ref 63, .int (u 9), .ref 64, .int (u 10)]))) q (.inr (9, [.int (nI st4.2.1), .int (nI st4.2.2.1.length), .int st4.2.2.2, .ref (q + 1), .ref (q + 2)]))) (q + 1) (.inl (0, 122, .inl sg4))) (q + 2) (.inl (0, 122, .inl vl4)), n, s) _
                        refine r_goto (tgt := 4) (by decide) dX11_readSum_58 ?_
                        rw [show pSumL bs e T b i (m + 1) st = pSumL bs e T b i m st4 by rw [pSumL_s, if_pos (Or.inr q19)]; try simp only [pPart_m, pB_a, pB_l, pB_r, hR1, hR2, hR3, hR4]]; refine bV_loc [1] rfl ?_; exact ih (c + 1) k (a + 1) st4 at4 so4 mk4 nu4 di4 wo4 sg4 vl4 (by omega) (by omega) hm4 ho4
                    · rcases hR4 : pWr st.1.2.2.1 0 st3 with ⟨ft4, pl4⟩ | st4
                      · rw [hR4] at h9
                        rw [show pSumL bs e T b i (m + 1) st = .inl (ft4, pl4) by rw [pSumL_s, if_pos (Or.inr q19)]; try simp only [pPart_m, pB_a, pB_l, pB_r, hR1, hR2, hR3, hR4]]
                        exact h9
                      · rw [hR4] at h9; cases h9.1
                · rcases hR3 : pTerm bs e T b i st2 with ⟨ft3, pl3⟩ | st3
                  · rw [hR3] at h9
                    rw [show pSumL bs e T b i (m + 1) st = .inl (ft3, pl3) by rw [pSumL_s, if_pos (Or.inr q19)]; try simp only [pPart_m, pB_a, pB_l, pB_r, hR1, hR2, hR3]]
                    exact h9
                  · rw [hR3] at h9; cases h9.1
            · rcases hR2 : mNext bs e st1 with ⟨ft2, pl2⟩ | st2
              · rw [hR2] at h9
                rw [show pSumL bs e T b i (m + 1) st = .inl (ft2, pl2) by rw [pSumL_s, if_pos (Or.inr q19)]; try simp only [pPart_m, pB_a, pB_l, pB_r, hR1, hR2]]
                exact h9
              · rw [hR2] at h9; cases h9.1
        · rcases hR1 : mPart st with ⟨ft1, pl1⟩ | st1
          · rw [hR1] at h9
            rw [show pSumL bs e T b i (m + 1) st = .inl (ft1, pl1) by rw [pSumL_s, if_pos (Or.inr q19)]; try simp only [pPart_m, pB_a, pB_l, pB_r, hR1]]
            exact h9
          · rw [hR1] at h9; cases h9.1
set_option maxRecDepth 4000 in
theorem c_readSumM {O : bO} {d : Nat} {f : bF} {n s : Nat} {u : Nat → Int32} {q e : Nat} {tg bs : Nat → Int32} {kd sp : Int32} (hq : 5000 ≤ q) (h53 : f 53 = some (.inr (10, [.null, .null, .null, .null, .null, .int 0, .int kd, .int sp]))) (h54 : f 54 = some (.inl (1, 300, .inl tg))) (e0 : e ≤ 300) (hb9 : ∀ z, z < 300 → tg z &&& 255 = bs z) {st : pS} {at_ so mk nu di : Int32} {wo : Int64} {sg vl : Nat → Int32} {b i k a : Nat} (hm : msR e st at_ so mk nu di wo sg vl) (ho : okS k a st) {T : Nat → Nat → pS → pR} {dT lev : Nat} (HT : RM O dT lev f n s u q e T) (hT : okT T) (hb : b ≤ 8) (hi : i ≤ 8) (hl : (8 - b) + (8 - i) ≤ lev) (h20 : 20 ≤ dT) (hd : dT + 4 ≤ d) : bCall O mX11_readSum d [.ref 50] (hMd f u q e st at_ so mk nu di wo b i sg vl, n, s) (rM f n s u q e b i (pSum bs e T b i st)) := by
  refine bCall_of (by decide) rfl (Nat.le_of_ble_eq_true rfl) ?_
  obtain ⟨o1, o2, o3, o4, o5⟩ := id ho
  show bV O _ d 0 [(0, .ref 50)] [] (bU (bU (bU (bU f 50 (.inr (11, [.int (u 0), .int (u 1), .int (u 2), .int (u 3), .int (u 4), .ref 51, .ref q, .ref 53, .ref 54, .int (u 5), .int (nI e), .int at_, .int so, .int (nI st.1.1), .int mk, .int nu, .int di, .int (nI b), .int (nI i), .long wo, .ref 55, .ref 56, .int (u 6), .int (u 7), .ref 57, .int (u 8), .ref 58, .ref 59, .ref 60, .ref 61, .ref 62, .ref 63, .int (u 9), .ref 64, .int (u 10)]))) q (.inr (9, [.int (nI st.2.1), .int (nI st.2.2.1.length), .int st.2.2.2, .ref (q + 1), .ref (q + 2)]))) (q + 1) (.inl (0, 122, .inl sg))) (q + 2) (.inl (0, 122, .inl vl)), n, s) _
  refine r_aload_n (n := 0) (i := 0) 0 rfl rfl dX11_readSum_0 ?_
  refine p_callV (As := []) (rest := []) (c_readTermM (d := dT + 3) hq h53 h54 e0 hb9 hm ho  HT hT (b := b) (i := i) (by omega) (by omega) (by omega) h20 (Nat.le_refl _)) rfl lkX11_178 imX11_readTerm seX11_readTerm rfl (by exact ((bU_n (by omega)).trans (((bU_n (by omega)).trans (((bU_n (by omega)).trans (bU_s _ _ _))))))) rfl rfl (by omega) (Nat.le_of_ble_eq_true rfl) dX11_readSum_1 (fun v9 G9 h9 => ?_) (fun q9 G9 h9 => ⟨(fun x9 hx9 => by cases hx9), ?_⟩)
  · rcases hR1 : pTerm bs e T b i st with ⟨ft1, pl1⟩ | st1
    · rw [hR1] at h9; cases h9.1
    · rw [hR1] at h9; obtain ⟨h8, at1, so1, mk1, nu1, di1, wo1, sg1, vl1, hm1, rfl⟩ := h9; cases h8
      have ho1 : okS (k) (a) st1 := pTerm_ok e0 hT ho hR1
      obtain ⟨p11, p21, p31, p41, p51⟩ := id ho1
      show bV O _ d 4 [(0, .ref 50)] [] (bU (bU (bU (bU f 50 (.inr (11, [.int (u 0), .int (u 1), .int (u 2), .int (u 3), .int (u 4), .ref 51, .ref q, .ref 53, .ref 54, .int (u 5), .int (nI e), .int at1, .int so1, .int (nI st1.1.1), .int mk1, .int nu1, .int di1, .int (nI b), .int (nI i), .long wo1, .ref 55, .ref 56, .int (u 6), .int (u 7), .ref 57, .int (u 8), .ref 58, .ref 59, .ref 60, .ref 61, .ref 62, .ref 63, .int (u 9), .ref 64, .int (u 10)]))) q (.inr (9, [.int (nI st1.2.1), .int (nI st1.2.2.1.length), .int st1.2.2.2, .ref (q + 1), .ref (q + 2)]))) (q + 1) (.inl (0, 122, .inl sg1))) (q + 2) (.inl (0, 122, .inl vl1)), n, s) _
      rw [show pSum bs e T b i st = pSumL bs e T b i 61 st1 by simp only [pSum, hR1, pB_r]]; exact lp_sumM hq h53 h54 e0 hb9 HT hT hb hi hl h20 hd 61 0 k a st1 at1 so1 mk1 nu1 di1 wo1 sg1 vl1 rfl (by omega) hm1 ho1
  · rcases hR1 : pTerm bs e T b i st with ⟨ft1, pl1⟩ | st1
    · rw [hR1] at h9
      rw [show pSum bs e T b i st = .inl (ft1, pl1) by simp only [pSum, pB_l, pB_r, hR1]]
      exact h9
    · rw [hR1] at h9; cases h9.1
set_option maxRecDepth 4000 in
theorem c_readTellM {O : bO} {d : Nat} {f : bF} {n s : Nat} {u : Nat → Int32} {q e : Nat} {tg bs : Nat → Int32} {kd sp : Int32} (hq : 5000 ≤ q) (h53 : f 53 = some (.inr (10, [.null, .null, .null, .null, .null, .int 0, .int kd, .int sp]))) (h54 : f 54 = some (.inl (1, 300, .inl tg))) (e0 : e ≤ 300) (hb9 : ∀ z, z < 300 → tg z &&& 255 = bs z) {st : pS} {at_ so mk nu di : Int32} {wo : Int64} {sg vl : Nat → Int32} {b i k a : Nat} (hm : msR e st at_ so mk nu di wo sg vl) (ho : okS k a st) {T : Nat → Nat → pS → pR} {dT lev : Nat} (HT : RM O dT lev f n s u q e T) (hT : okT T) (hb : b ≤ 8) (hi : i ≤ 8) (hl : (8 - b) + (8 - i) ≤ lev) (h20 : 20 ≤ dT) (hd : dT + 5 ≤ d) : bCall O mX11_readTell d [.ref 50] (hMd f u q e st at_ so mk nu di wo b i sg vl, n, s) (rM f n s u q e b i (pTell bs e T b i st)) := by
  refine bCall_of (by decide) rfl (Nat.le_of_ble_eq_true rfl) ?_
  obtain ⟨o1, o2, o3, o4, o5⟩ := id ho
  show bV O _ d 0 [(0, .ref 50)] [] (bU (bU (bU (bU f 50 (.inr (11, [.int (u 0), .int (u 1), .int (u 2), .int (u 3), .int (u 4), .ref 51, .ref q, .ref 53, .ref 54, .int (u 5), .int (nI e), .int at_, .int so, .int (nI st.1.1), .int mk, .int nu, .int di, .int (nI b), .int (nI i), .long wo, .ref 55, .ref 56, .int (u 6), .int (u 7), .ref 57, .int (u 8), .ref 58, .ref 59, .ref 60, .ref 61, .ref 62, .ref 63, .int (u 9), .ref 64, .int (u 10)]))) q (.inr (9, [.int (nI st.2.1), .int (nI st.2.2.1.length), .int st.2.2.2, .ref (q + 1), .ref (q + 2)]))) (q + 1) (.inl (0, 122, .inl sg))) (q + 2) (.inl (0, 122, .inl vl)), n, s) _
  refine r_aload_n (n := 0) (i := 0) 0 rfl rfl dX11_readTell_0 ?_
  refine r_ldcS (i := 0) (tx := "if") (by decide) (by decide) dX11_readTell_1 ?_
  refine p_callV (As := [.ref 1]) (rest := []) (kX11_isWord (O := O) (d := 6) (f := bU (bU (bU (bU f 50 (.inr (11, [.int (u 0), .int (u 1), .int (u 2), .int (u 3), .int (u 4), .ref 51, .ref q, .ref 53, .ref 54, .int (u 5), .int (nI e), .int at_, .int so, .int (nI st.1.1), .int mk, .int nu, .int di, .int (nI b), .int (nI i), .long wo, .ref 55, .ref 56, .int (u 6), .int (u 7), .ref 57, .int (u 8), .ref 58, .ref 59, .ref 60, .ref 61, .ref 62, .ref 63, .int (u 9), .ref 64, .int (u 10)]))) q (.inr (9, [.int (nI st.2.1), .int (nI st.2.2.1.length), .int st.2.2.2, .ref (q + 1), .ref (q + 2)]))) (q + 1) (.inl (0, 122, .inl sg))) (q + 2) (.inl (0, 122, .inl vl))) (n := n) (s := s) (q := q) (e := e) (at_ := at_) (so := so) (pl := nI st.1.1) (mk := mk) (nu := nu) (di := di) (br := nI b) (iff := nI i) (wo := wo) (k := st.1.2.2.1) (v := st.1.2.2.2) (i := 0) (by exact ((bU_n (by omega)).trans (((bU_n (by omega)).trans (((bU_n (by omega)).trans (bU_s _ _ _))))))) hm.2.1 (by decide) (Nat.le_refl _)).call rfl lkX11_133 imX11_isWord seX11_isWord rfl (by exact ((bU_n (by omega)).trans (((bU_n (by omega)).trans (((bU_n (by omega)).trans (bU_s _ _ _))))))) rfl rfl (by omega) (Nat.le_of_ble_eq_true rfl) dX11_readTell_3 (fun v9 G9 h9 => ?_) (fun q9 G9 h9 => (by cases h9.1))
  obtain ⟨h8, rfl⟩ := h9; cases h8
  show bV O _ d 6 [(0, .ref 50)] [.int (bI (decide (st.1.2.2.1 = nI (261 + 0))))] (bU (bU (bU (bU f 50 (.inr (11, [.int (u 0), .int (u 1), .int (u 2), .int (u 3), .int (u 4), .ref 51, .ref q, .ref 53, .ref 54, .int (u 5), .int (nI e), .int at_, .int so, .int (nI st.1.1), .int mk, .int nu, .int di, .int (nI b), .int (nI i), .long wo, .ref 55, .ref 56, .int (u 6), .int (u 7), .ref 57, .int (u 8), .ref 58, .ref 59, .ref 60, .ref 61, .ref 62, .ref 63, .int (u 9), .ref 64, .int (u 10)]))) q (.inr (9, [.int (nI st.2.1), .int (nI st.2.2.1.length), .int st.2.2.2, .ref (q + 1), .ref (q + 2)]))) (q + 1) (.inl (0, 122, .inl sg))) (q + 2) (.inl (0, 122, .inl vl)), n, s) _
  refine r_if_ne (tgt := 14) (by decide) dX11_readTell_6 (fun c6 => ?_) (fun c6 => ?_)
  · have c6 := bI_1.mp c6
    first | (have q6 : st.1.2.2.1 = 261 := (by have h7 := of_decide_eq_true c6; rwa [show nI (261 + 0) = 261 by decide] at h7)) | (have q6 : ¬ st.1.2.2.1 = 261 := (by have h7 := of_decide_eq_false c6; rwa [show nI (261 + 0) = 261 by decide] at h7))
    refine r_aload_n (n := 0) (i := 0) 0 rfl rfl dX11_readTell_14 ?_
    refine p_get (fs := [.int (u 0), .int (u 1), .int (u 2), .int (u 3), .int (u 4), .ref 51, .ref q, .ref 53, .ref 54, .int (u 5), .int (nI e), .int at_, .int so, .int (nI st.1.1), .int mk, .int nu, .int di, .int (nI b), .int (nI i), .long wo, .ref 55, .ref 56, .int (u 6), .int (u 7), .ref 57, .int (u 8), .ref 58, .ref 59, .ref 60, .ref 61, .ref 62, .ref 63, .int (u 9), .ref 64, .int (u 10)]) flX11_157 (by exact ((bU_n (by omega)).trans (((bU_n (by omega)).trans (((bU_n (by omega)).trans (bU_s _ _ _))))))) rfl dX11_readTell_15 ?_
    refine r_bipush (v := 8) (by decide) dX11_readTell_18 ?_
    refine r_icmp_ne (tgt := 29) (by decide) dX11_readTell_20 (fun c20 => ?_) (fun c20 => ?_)
    · have c20 : ¬ i = 8 := fun h7 => c20 ((nI_eq (a := i) (b := 8) (by omega) (by omega)).mpr h7)
      refine r_aload_n (n := 0) (i := 0) 0 rfl rfl dX11_readTell_29 ?_
      refine p_callV (As := []) (rest := []) (c_part (d := 1) hq h53 h54 e0 hb9 hm ho (Nat.le_refl _)) rfl lkX11_160 imX11_part seX11_part rfl (by exact ((bU_n (by omega)).trans (((bU_n (by omega)).trans (((bU_n (by omega)).trans (bU_s _ _ _))))))) rfl rfl (by omega) (Nat.le_of_ble_eq_true rfl) dX11_readTell_30 (fun v9 G9 h9 => ?_) (fun q9 G9 h9 => ⟨(fun x9 hx9 => by cases hx9), ?_⟩)
      · rcases hR1 : mPart st with ⟨ft1, pl1⟩ | st1
        · rw [hR1] at h9; cases h9.1
        · rw [hR1] at h9; obtain ⟨h8, at1, so1, mk1, nu1, di1, wo1, sg1, vl1, hm1, rfl⟩ := h9; cases h8
          have ho1 : okS (k + 1) (a + 1) st1 := mPart_ok ho hR1
          obtain ⟨p11, p21, p31, p41, p51⟩ := id ho1
          have t1 := mPart_t hR1
          show bV O _ d 33 [(0, .ref 50)] [] (bU (bU (bU (bU f 50 (.inr (11, [.int (u 0), .int (u 1), .int (u 2), .int (u 3), .int (u 4), .ref 51, .ref q, .ref 53, .ref 54, .int (u 5), .int (nI e), .int at1, .int so1, .int (nI st1.1.1), .int mk1, .int nu1, .int di1, .int (nI b), .int (nI i), .long wo1, .ref 55, .ref 56, .int (u 6), .int (u 7), .ref 57, .int (u 8), .ref 58, .ref 59, .ref 60, .ref 61, .ref 62, .ref 63, .int (u 9), .ref 64, .int (u 10)]))) q (.inr (9, [.int (nI st1.2.1), .int (nI st1.2.2.1.length), .int st1.2.2.2, .ref (q + 1), .ref (q + 2)]))) (q + 1) (.inl (0, 122, .inl sg1))) (q + 2) (.inl (0, 122, .inl vl1)), n, s) _
          refine r_aload_n (n := 0) (i := 0) 0 rfl rfl dX11_readTell_33 ?_
          refine r_dup rfl dX11_readTell_34 ?_
          refine p_get (fs := [.int (u 0), .int (u 1), .int (u 2), .int (u 3), .int (u 4), .ref 51, .ref q, .ref 53, .ref 54, .int (u 5), .int (nI e), .int at1, .int so1, .int (nI st1.1.1), .int mk1, .int nu1, .int di1, .int (nI b), .int (nI i), .long wo1, .ref 55, .ref 56, .int (u 6), .int (u 7), .ref 57, .int (u 8), .ref 58, .ref 59, .ref 60, .ref 61, .ref 62, .ref 63, .int (u 9), .ref 64, .int (u 10)]) flX11_157 (by exact ((bU_n (by omega)).trans (((bU_n (by omega)).trans (((bU_n (by omega)).trans (bU_s _ _ _))))))) rfl dX11_readTell_35 ?_
          refine r_iconst (v := 1) (by decide) dX11_readTell_38 ?_
          refine r_iaddE (v := nI (i + 1)) (nI_add i 1) dX11_readTell_39 ?_
          refine p_put (fs := [.int (u 0), .int (u 1), .int (u 2), .int (u 3), .int (u 4), .ref 51, .ref q, .ref 53, .ref 54, .int (u 5), .int (nI e), .int at1, .int so1, .int (nI st1.1.1), .int mk1, .int nu1, .int di1, .int (nI b), .int (nI i), .long wo1, .ref 55, .ref 56, .int (u 6), .int (u 7), .ref 57, .int (u 8), .ref 58, .ref 59, .ref 60, .ref 61, .ref 62, .ref 63, .int (u 9), .ref 64, .int (u 10)]) (fs' := [.int (u 0), .int (u 1), .int (u 2), .int (u 3), .int (u 4), .ref 51, .ref q, .ref 53, .ref 54, .int (u 5), .int (nI e), .int at1, .int so1, .int (nI st1.1.1), .int mk1, .int nu1, .int di1, .int (nI b), .int (nI (i + 1)), .long wo1, .ref 55, .ref 56, .int (u 6), .int (u 7), .ref 57, .int (u 8), .ref 58, .ref 59, .ref 60, .ref 61, .ref 62, .ref 63, .int (u 9), .ref 64, .int (u 10)]) flX11_157 (by exact ((bU_n (by omega)).trans (((bU_n (by omega)).trans (((bU_n (by omega)).trans (bU_s _ _ _))))))) (Nat.le_of_ble_eq_true rfl) (bNf_i _) rfl dX11_readTell_40 ?_
          refine bV_h (f2 := bU (bU (bU (bU f 50 (.inr (11, [.int (u 0), .int (u 1), .int (u 2), .int (u 3), .int (u 4), .ref 51, .ref q, .ref 53, .ref 54, .int (u 5), .int (nI e), .int at1, .int so1, .int (nI st1.1.1), .int mk1, .int nu1, .int di1, .int (nI b), .int (nI (i + 1)), .long wo1, .ref 55, .ref 56, .int (u 6), .int (u 7), .ref 57, .int (u 8), .ref 58, .ref 59, .ref 60, .ref 61, .ref 62, .ref 63, .int (u 9), .ref 64, .int (u 10)]))) q (.inr (9, [.int (nI st1.2.1), .int (nI st1.2.2.1.length), .int st1.2.2.2, .ref (q + 1), .ref (q + 2)]))) (q + 1) (.inl (0, 122, .inl sg1))) (q + 2) (.inl (0, 122, .inl vl1))) (((bU_c (by omega)).trans (congrArg (fun z => bU z (q + 2) (.inl (0, 122, .inl vl1))) (((bU_c (by omega)).trans (congrArg (fun z => bU z (q + 1) (.inl (0, 122, .inl sg1))) (((bU_c (by omega)).trans (congrArg (fun z => bU z q (.inr (9, [.int (nI st1.2.1), .int (nI st1.2.2.1.length), .int st1.2.2.2, .ref (q + 1), .ref (q + 2)]))) (bU_u _ _ _ _)))))))))) ?_
          refine r_aload_n (n := 0) (i := 0) 0 rfl rfl dX11_readTell_43 ?_
          refine p_callV (As := []) (rest := []) (c_nextM (d := 1) hq h53 h54 e0 hb9 hm1 ho1 (by simp only [t1, q6] <;> decide) (Nat.le_refl _)) rfl lkX11_140 imX11_next seX11_next rfl (by exact ((bU_n (by omega)).trans (((bU_n (by omega)).trans (((bU_n (by omega)).trans (bU_s _ _ _))))))) rfl rfl (by omega) (Nat.le_of_ble_eq_true rfl) dX11_readTell_44 (fun v9 G9 h9 => ?_) (fun q9 G9 h9 => ⟨(fun x9 hx9 => by cases hx9), ?_⟩)
          · rcases hR2 : mNext bs e st1 with ⟨ft2, pl2⟩ | st2
            · rw [hR2] at h9; cases h9.1
            · rw [hR2] at h9; obtain ⟨h8, at2, so2, mk2, nu2, di2, wo2, sg2, vl2, hm2, rfl⟩ := h9; cases h8
              have ho2 : okS (k + 1) (a + 1) st2 := mNext_ok e0 ho1 hR2
              obtain ⟨p12, p22, p32, p42, p52⟩ := id ho2
              show bV O _ d 47 [(0, .ref 50)] [] (bU (bU (bU (bU f 50 (.inr (11, [.int (u 0), .int (u 1), .int (u 2), .int (u 3), .int (u 4), .ref 51, .ref q, .ref 53, .ref 54, .int (u 5), .int (nI e), .int at2, .int so2, .int (nI st2.1.1), .int mk2, .int nu2, .int di2, .int (nI b), .int (nI (i + 1)), .long wo2, .ref 55, .ref 56, .int (u 6), .int (u 7), .ref 57, .int (u 8), .ref 58, .ref 59, .ref 60, .ref 61, .ref 62, .ref 63, .int (u 9), .ref 64, .int (u 10)]))) q (.inr (9, [.int (nI st2.2.1), .int (nI st2.2.2.1.length), .int st2.2.2.2, .ref (q + 1), .ref (q + 2)]))) (q + 1) (.inl (0, 122, .inl sg2))) (q + 2) (.inl (0, 122, .inl vl2)), n, s) _
              refine r_aload_n (n := 0) (i := 0) 0 rfl rfl dX11_readTell_47 ?_
              refine p_callV (As := []) (rest := []) (c_readSumM (d := dT + 4) hq h53 h54 e0 hb9 hm2 ho2  HT hT (b := b) (i := i + 1) (by omega) (by omega) (by omega) h20 (Nat.le_refl _)) rfl lkX11_154 imX11_readSum seX11_readSum rfl (by exact ((bU_n (by omega)).trans (((bU_n (by omega)).trans (((bU_n (by omega)).trans (bU_s _ _ _))))))) rfl rfl (by omega) (Nat.le_of_ble_eq_true rfl) dX11_readTell_48 (fun v9 G9 h9 => ?_) (fun q9 G9 h9 => ⟨(fun x9 hx9 => by cases hx9), ?_⟩)
              · rcases hR3 : pSum bs e T b (i + 1) st2 with ⟨ft3, pl3⟩ | st3
                · rw [hR3] at h9; cases h9.1
                · rw [hR3] at h9; obtain ⟨h8, at3, so3, mk3, nu3, di3, wo3, sg3, vl3, hm3, rfl⟩ := h9; cases h8
                  have ho3 : okS (k + 1) (a + 1) st3 := pSum_ok e0 hT ho2 hR3
                  obtain ⟨p13, p23, p33, p43, p53⟩ := id ho3
                  show bV O _ d 51 [(0, .ref 50)] [] (bU (bU (bU (bU f 50 (.inr (11, [.int (u 0), .int (u 1), .int (u 2), .int (u 3), .int (u 4), .ref 51, .ref q, .ref 53, .ref 54, .int (u 5), .int (nI e), .int at3, .int so3, .int (nI st3.1.1), .int mk3, .int nu3, .int di3, .int (nI b), .int (nI (i + 1)), .long wo3, .ref 55, .ref 56, .int (u 6), .int (u 7), .ref 57, .int (u 8), .ref 58, .ref 59, .ref 60, .ref 61, .ref 62, .ref 63, .int (u 9), .ref 64, .int (u 10)]))) q (.inr (9, [.int (nI st3.2.1), .int (nI st3.2.2.1.length), .int st3.2.2.2, .ref (q + 1), .ref (q + 2)]))) (q + 1) (.inl (0, 122, .inl sg3))) (q + 2) (.inl (0, 122, .inl vl3)), n, s) _
                  refine r_aload_n (n := 0) (i := 0) 0 rfl rfl dX11_readTell_51 ?_
                  refine r_bipush (v := 60) (by decide) dX11_readTell_52 ?_
                  refine p_callV (As := [.int 60]) (rest := []) (kX11_is (O := O) (d := 0) (f := bU (bU (bU (bU f 50 (.inr (11, [.int (u 0), .int (u 1), .int (u 2), .int (u 3), .int (u 4), .ref 51, .ref q, .ref 53, .ref 54, .int (u 5), .int (nI e), .int at3, .int so3, .int (nI st3.1.1), .int mk3, .int nu3, .int di3, .int (nI b), .int (nI (i + 1)), .long wo3, .ref 55, .ref 56, .int (u 6), .int (u 7), .ref 57, .int (u 8), .ref 58, .ref 59, .ref 60, .ref 61, .ref 62, .ref 63, .int (u 9), .ref 64, .int (u 10)]))) q (.inr (9, [.int (nI st3.2.1), .int (nI st3.2.2.1.length), .int st3.2.2.2, .ref (q + 1), .ref (q + 2)]))) (q + 1) (.inl (0, 122, .inl sg3))) (q + 2) (.inl (0, 122, .inl vl3))) (n := n) (s := s) (q := q) (e := e) (at_ := at3) (so := so3) (pl := nI st3.1.1) (mk := mk3) (nu := nu3) (di := di3) (br := nI b) (iff := nI (i + 1)) (wo := wo3) (k := st3.1.2.2.1) (v := st3.1.2.2.2) (x := 60) (by exact ((bU_n (by omega)).trans (((bU_n (by omega)).trans (((bU_n (by omega)).trans (bU_s _ _ _))))))) hm3.2.1 (by decide) (Nat.le_refl _)).call rfl lkX11_143 imX11_is seX11_is rfl (by exact ((bU_n (by omega)).trans (((bU_n (by omega)).trans (((bU_n (by omega)).trans (bU_s _ _ _))))))) rfl rfl (by omega) (Nat.le_of_ble_eq_true rfl) dX11_readTell_54 (fun v9 G9 h9 => ?_) (fun q9 G9 h9 => (by cases h9.1))
                  obtain ⟨h8, rfl⟩ := h9; cases h8
                  show bV O _ d 57 [(0, .ref 50)] [.int (bI (decide (st3.1.2.2.1 = 60)))] (bU (bU (bU (bU f 50 (.inr (11, [.int (u 0), .int (u 1), .int (u 2), .int (u 3), .int (u 4), .ref 51, .ref q, .ref 53, .ref 54, .int (u 5), .int (nI e), .int at3, .int so3, .int (nI st3.1.1), .int mk3, .int nu3, .int di3, .int (nI b), .int (nI (i + 1)), .long wo3, .ref 55, .ref 56, .int (u 6), .int (u 7), .ref 57, .int (u 8), .ref 58, .ref 59, .ref 60, .ref 61, .ref 62, .ref 63, .int (u 9), .ref 64, .int (u 10)]))) q (.inr (9, [.int (nI st3.2.1), .int (nI st3.2.2.1.length), .int st3.2.2.2, .ref (q + 1), .ref (q + 2)]))) (q + 1) (.inl (0, 122, .inl sg3))) (q + 2) (.inl (0, 122, .inl vl3)), n, s) _
                  refine r_if_eq (tgt := 64) (by decide) dX11_readTell_57 (fun c57 => ?_) (fun c57 => ?_)
                  · have c57 := bI_0.mp c57
                    first | (have q57 : st3.1.2.2.1 = 60 := of_decide_eq_true c57) | (have q57 : ¬ st3.1.2.2.1 = 60 := of_decide_eq_false c57)
                    refine r_aload_n (n := 0) (i := 0) 0 rfl rfl dX11_readTell_64 ?_
                    refine r_bipush (v := 62) (by decide) dX11_readTell_65 ?_
                    refine p_callV (As := [.int 62]) (rest := []) (kX11_is (O := O) (d := 0) (f := bU (bU (bU (bU f 50 (.inr (11, [.int (u 0), .int (u 1), .int (u 2), .int (u 3), .int (u 4), .ref 51, .ref q, .ref 53, .ref 54, .int (u 5), .int (nI e), .int at3, .int so3, .int (nI st3.1.1), .int mk3, .int nu3, .int di3, .int (nI b), .int (nI (i + 1)), .long wo3, .ref 55, .ref 56, .int (u 6), .int (u 7), .ref 57, .int (u 8), .ref 58, .ref 59, .ref 60, .ref 61, .ref 62, .ref 63, .int (u 9), .ref 64, .int (u 10)]))) q (.inr (9, [.int (nI st3.2.1), .int (nI st3.2.2.1.length), .int st3.2.2.2, .ref (q + 1), .ref (q + 2)]))) (q + 1) (.inl (0, 122, .inl sg3))) (q + 2) (.inl (0, 122, .inl vl3))) (n := n) (s := s) (q := q) (e := e) (at_ := at3) (so := so3) (pl := nI st3.1.1) (mk := mk3) (nu := nu3) (di := di3) (br := nI b) (iff := nI (i + 1)) (wo := wo3) (k := st3.1.2.2.1) (v := st3.1.2.2.2) (x := 62) (by exact ((bU_n (by omega)).trans (((bU_n (by omega)).trans (((bU_n (by omega)).trans (bU_s _ _ _))))))) hm3.2.1 (by decide) (Nat.le_refl _)).call rfl lkX11_143 imX11_is seX11_is rfl (by exact ((bU_n (by omega)).trans (((bU_n (by omega)).trans (((bU_n (by omega)).trans (bU_s _ _ _))))))) rfl rfl (by omega) (Nat.le_of_ble_eq_true rfl) dX11_readTell_67 (fun v9 G9 h9 => ?_) (fun q9 G9 h9 => (by cases h9.1))
                    obtain ⟨h8, rfl⟩ := h9; cases h8
                    show bV O _ d 70 [(0, .ref 50)] [.int (bI (decide (st3.1.2.2.1 = 62)))] (bU (bU (bU (bU f 50 (.inr (11, [.int (u 0), .int (u 1), .int (u 2), .int (u 3), .int (u 4), .ref 51, .ref q, .ref 53, .ref 54, .int (u 5), .int (nI e), .int at3, .int so3, .int (nI st3.1.1), .int mk3, .int nu3, .int di3, .int (nI b), .int (nI (i + 1)), .long wo3, .ref 55, .ref 56, .int (u 6), .int (u 7), .ref 57, .int (u 8), .ref 58, .ref 59, .ref 60, .ref 61, .ref 62, .ref 63, .int (u 9), .ref 64, .int (u 10)]))) q (.inr (9, [.int (nI st3.2.1), .int (nI st3.2.2.1.length), .int st3.2.2.2, .ref (q + 1), .ref (q + 2)]))) (q + 1) (.inl (0, 122, .inl sg3))) (q + 2) (.inl (0, 122, .inl vl3)), n, s) _
                    refine r_if_eq (tgt := 78) (by decide) dX11_readTell_70 (fun c70 => ?_) (fun c70 => ?_)
                    · have c70 := bI_0.mp c70
                      first | (have q70 : st3.1.2.2.1 = 62 := of_decide_eq_true c70) | (have q70 : ¬ st3.1.2.2.1 = 62 := of_decide_eq_false c70)
                      refine r_aload_n (n := 0) (i := 0) 0 rfl rfl dX11_readTell_78 ?_
                      refine r_bipush (v := 61) (by decide) dX11_readTell_79 ?_
                      refine p_callV (As := [.int 61]) (rest := []) (kX11_is (O := O) (d := 0) (f := bU (bU (bU (bU f 50 (.inr (11, [.int (u 0), .int (u 1), .int (u 2), .int (u 3), .int (u 4), .ref 51, .ref q, .ref 53, .ref 54, .int (u 5), .int (nI e), .int at3, .int so3, .int (nI st3.1.1), .int mk3, .int nu3, .int di3, .int (nI b), .int (nI (i + 1)), .long wo3, .ref 55, .ref 56, .int (u 6), .int (u 7), .ref 57, .int (u 8), .ref 58, .ref 59, .ref 60, .ref 61, .ref 62, .ref 63, .int (u 9), .ref 64, .int (u 10)]))) q (.inr (9, [.int (nI st3.2.1), .int (nI st3.2.2.1.length), .int st3.2.2.2, .ref (q + 1), .ref (q + 2)]))) (q + 1) (.inl (0, 122, .inl sg3))) (q + 2) (.inl (0, 122, .inl vl3))) (n := n) (s := s) (q := q) (e := e) (at_ := at3) (so := so3) (pl := nI st3.1.1) (mk := mk3) (nu := nu3) (di := di3) (br := nI b) (iff := nI (i + 1)) (wo := wo3) (k := st3.1.2.2.1) (v := st3.1.2.2.2) (x := 61) (by exact ((bU_n (by omega)).trans (((bU_n (by omega)).trans (((bU_n (by omega)).trans (bU_s _ _ _))))))) hm3.2.1 (by decide) (Nat.le_refl _)).call rfl lkX11_143 imX11_is seX11_is rfl (by exact ((bU_n (by omega)).trans (((bU_n (by omega)).trans (((bU_n (by omega)).trans (bU_s _ _ _))))))) rfl rfl (by omega) (Nat.le_of_ble_eq_true rfl) dX11_readTell_81 (fun v9 G9 h9 => ?_) (fun q9 G9 h9 => (by cases h9.1))
                      obtain ⟨h8, rfl⟩ := h9; cases h8
                      show bV O _ d 84 [(0, .ref 50)] [.int (bI (decide (st3.1.2.2.1 = 61)))] (bU (bU (bU (bU f 50 (.inr (11, [.int (u 0), .int (u 1), .int (u 2), .int (u 3), .int (u 4), .ref 51, .ref q, .ref 53, .ref 54, .int (u 5), .int (nI e), .int at3, .int so3, .int (nI st3.1.1), .int mk3, .int nu3, .int di3, .int (nI b), .int (nI (i + 1)), .long wo3, .ref 55, .ref 56, .int (u 6), .int (u 7), .ref 57, .int (u 8), .ref 58, .ref 59, .ref 60, .ref 61, .ref 62, .ref 63, .int (u 9), .ref 64, .int (u 10)]))) q (.inr (9, [.int (nI st3.2.1), .int (nI st3.2.2.1.length), .int st3.2.2.2, .ref (q + 1), .ref (q + 2)]))) (q + 1) (.inl (0, 122, .inl sg3))) (q + 2) (.inl (0, 122, .inl vl3)), n, s) _
                      refine r_if_eq (tgt := 92) (by decide) dX11_readTell_84 (fun c84 => ?_) (fun c84 => ?_)
                      · have c84 := bI_0.mp c84
                        first | (have q84 : st3.1.2.2.1 = 61 := of_decide_eq_true c84) | (have q84 : ¬ st3.1.2.2.1 = 61 := of_decide_eq_false c84)
                        refine r_iconst (v := (-1)) (by decide) dX11_readTell_92 ?_
                        refine r_istore_n (n := 1) (i := 1) (L' := [(1, .int (-1)), (0, .ref 50)]) rfl dX11_readTell_93 (by decide) rfl ?_
                        refine r_iload_n (n := 1) (i := 1) 0 rfl rfl dX11_readTell_94 ?_
                        refine r_iconst (v := (-1)) (by decide) dX11_readTell_95 ?_
                        refine r_icmp_ne (tgt := 105) (by decide) dX11_readTell_96 (fun h9 => absurd h9 (show ¬ (¬ ((-1) : Int32) = (-1)) by decide)) (fun _ => ?_)
                        refine r_aload_n (n := 0) (i := 0) 1 rfl rfl dX11_readTell_99 ?_
                        refine r_iconst (v := 1) (by decide) dX11_readTell_100 ?_
                        refine p_callV (As := [.int 1]) (rest := []) (kX11_stop (O := O) (d := 0) (f := bU (bU (bU (bU f 50 (.inr (11, [.int (u 0), .int (u 1), .int (u 2), .int (u 3), .int (u 4), .ref 51, .ref q, .ref 53, .ref 54, .int (u 5), .int (nI e), .int at3, .int so3, .int (nI st3.1.1), .int mk3, .int nu3, .int di3, .int (nI b), .int (nI (i + 1)), .long wo3, .ref 55, .ref 56, .int (u 6), .int (u 7), .ref 57, .int (u 8), .ref 58, .ref 59, .ref 60, .ref 61, .ref 62, .ref 63, .int (u 9), .ref 64, .int (u 10)]))) q (.inr (9, [.int (nI st3.2.1), .int (nI st3.2.2.1.length), .int st3.2.2.2, .ref (q + 1), .ref (q + 2)]))) (q + 1) (.inl (0, 122, .inl sg3))) (q + 2) (.inl (0, 122, .inl vl3))) (n := n) (s := s) (q := q) (e := e) (at_ := at3) (so := so3) (pl := nI st3.1.1) (mk := mk3) (nu := nu3) (di := di3) (br := nI b) (iff := nI (i + 1)) (wo := wo3) (x := 1) (kd := kd) (sp := sp) (by exact ((bU_n (by omega)).trans (((bU_n (by omega)).trans (((bU_n (by omega)).trans (bU_s _ _ _))))))) (by exact ((bU_n (by omega)).trans (((bU_n (by omega)).trans (((bU_n (by omega)).trans (((bU_n (by decide)).trans (h53)))))))))  (Nat.le_refl _)).call rfl lkX11_137 imX11_stop seX11_stop rfl (by exact ((bU_n (by omega)).trans (((bU_n (by omega)).trans (((bU_n (by omega)).trans (bU_s _ _ _))))))) rfl rfl (by omega) (Nat.le_of_ble_eq_true rfl) dX11_readTell_101 (fun v9 G9 h9 => ?_) (fun q9 G9 h9 => (by cases h9.1))
                        obtain ⟨h8, rfl⟩ := h9; cases h8
                        show bV O _ d 104 [(1, .int (-1)), (0, .ref 50)] [.ref 53] (bU (bU (bU (bU (bU f 50 (.inr (11, [.int (u 0), .int (u 1), .int (u 2), .int (u 3), .int (u 4), .ref 51, .ref q, .ref 53, .ref 54, .int (u 5), .int (nI e), .int at3, .int so3, .int (nI st3.1.1), .int mk3, .int nu3, .int di3, .int (nI b), .int (nI (i + 1)), .long wo3, .ref 55, .ref 56, .int (u 6), .int (u 7), .ref 57, .int (u 8), .ref 58, .ref 59, .ref 60, .ref 61, .ref 62, .ref 63, .int (u 9), .ref 64, .int (u 10)]))) q (.inr (9, [.int (nI st3.2.1), .int (nI st3.2.2.1.length), .int st3.2.2.2, .ref (q + 1), .ref (q + 2)]))) (q + 1) (.inl (0, 122, .inl sg3))) (q + 2) (.inl (0, 122, .inl vl3))) 53 (.inr (10, [.null, .null, .null, .null, .null, .int 0, .int 1, .int (nI st3.1.1)])), n, s) _
                        refine p_athrow (by decide) (by exact bU_s _ _ _) rfl (fun x hx => by cases hx) dX11_readTell_104 ?_
                        rw [show pTell bs e T b i st = .inl (1, st3.1.1) by unfold pTell pIf; rw [if_pos q6, if_pos (show i < 8 by omega), w262, w263]; simp only [pPart_m, pTest, pB_a, pB_l, pB_r, hR1, hR2, hR3]; rw [if_neg (fun h => h.elim q57 (fun h => h.elim q70 q84))]; rfl]
                        exact ⟨rfl, _, _, _, _, _, _, _, _, _, _, _, _, _, _, rfl⟩
                      · have c84 := bI_1.mp c84
                        first | (have q84 : st3.1.2.2.1 = 61 := of_decide_eq_true c84) | (have q84 : ¬ st3.1.2.2.1 = 61 := of_decide_eq_false c84)
                        refine r_bipush (v := 7) (by decide) dX11_readTell_87 ?_
                        refine r_goto (tgt := 93) (by decide) dX11_readTell_89 ?_
                        refine r_istore_n (n := 1) (i := 1) (L' := [(1, .int 7), (0, .ref 50)]) rfl dX11_readTell_93 (by decide) rfl ?_
                        refine r_iload_n (n := 1) (i := 1) 0 rfl rfl dX11_readTell_94 ?_
                        refine r_iconst (v := (-1)) (by decide) dX11_readTell_95 ?_
                        refine r_icmp_ne (tgt := 105) (by decide) dX11_readTell_96 (fun _ => ?_) (fun h9 => absurd h9 (show ¬ (7 : Int32) = (-1) by decide))
                        refine r_aload_n (n := 0) (i := 0) 1 rfl rfl dX11_readTell_105 ?_
                        refine p_callV (As := []) (rest := []) (c_part (d := 1) hq h53 h54 e0 hb9 hm3 ho3 (Nat.le_refl _)) rfl lkX11_160 imX11_part seX11_part rfl (by exact ((bU_n (by omega)).trans (((bU_n (by omega)).trans (((bU_n (by omega)).trans (bU_s _ _ _))))))) rfl rfl (by omega) (Nat.le_of_ble_eq_true rfl) dX11_readTell_106 (fun v9 G9 h9 => ?_) (fun q9 G9 h9 => ⟨(fun x9 hx9 => by cases hx9), ?_⟩)
                        · rcases hR4 : mPart st3 with ⟨ft4, pl4⟩ | st4
                          · rw [hR4] at h9; cases h9.1
                          · rw [hR4] at h9; obtain ⟨h8, at4, so4, mk4, nu4, di4, wo4, sg4, vl4, hm4, rfl⟩ := h9; cases h8
                            have ho4 : okS (k + 1 + 1) (a + 1 + 1) st4 := mPart_ok ho3 hR4
                            obtain ⟨p14, p24, p34, p44, p54⟩ := id ho4
                            have t4 := mPart_t hR4
                            show bV O _ d 109 [(1, .int 7), (0, .ref 50)] [] (bU (bU (bU (bU f 50 (.inr (11, [.int (u 0), .int (u 1), .int (u 2), .int (u 3), .int (u 4), .ref 51, .ref q, .ref 53, .ref 54, .int (u 5), .int (nI e), .int at4, .int so4, .int (nI st4.1.1), .int mk4, .int nu4, .int di4, .int (nI b), .int (nI (i + 1)), .long wo4, .ref 55, .ref 56, .int (u 6), .int (u 7), .ref 57, .int (u 8), .ref 58, .ref 59, .ref 60, .ref 61, .ref 62, .ref 63, .int (u 9), .ref 64, .int (u 10)]))) q (.inr (9, [.int (nI st4.2.1), .int (nI st4.2.2.1.length), .int st4.2.2.2, .ref (q + 1), .ref (q + 2)]))) (q + 1) (.inl (0, 122, .inl sg4))) (q + 2) (.inl (0, 122, .inl vl4)), n, s) _
                            refine r_aload_n (n := 0) (i := 0) 1 rfl rfl dX11_readTell_109 ?_
                            refine p_callV (As := []) (rest := []) (c_nextM (d := 1) hq h53 h54 e0 hb9 hm4 ho4 (by simp only [t1, t4, q6, q57, q70, q84] <;> decide) (Nat.le_refl _)) rfl lkX11_140 imX11_next seX11_next rfl (by exact ((bU_n (by omega)).trans (((bU_n (by omega)).trans (((bU_n (by omega)).trans (bU_s _ _ _))))))) rfl rfl (by omega) (Nat.le_of_ble_eq_true rfl) dX11_readTell_110 (fun v9 G9 h9 => ?_) (fun q9 G9 h9 => ⟨(fun x9 hx9 => by cases hx9), ?_⟩)
                            · rcases hR5 : mNext bs e st4 with ⟨ft5, pl5⟩ | st5
                              · rw [hR5] at h9; cases h9.1
                              · rw [hR5] at h9; obtain ⟨h8, at5, so5, mk5, nu5, di5, wo5, sg5, vl5, hm5, rfl⟩ := h9; cases h8
                                have ho5 : okS (k + 1 + 1) (a + 1 + 1) st5 := mNext_ok e0 ho4 hR5
                                obtain ⟨p15, p25, p35, p45, p55⟩ := id ho5
                                show bV O _ d 113 [(1, .int 7), (0, .ref 50)] [] (bU (bU (bU (bU f 50 (.inr (11, [.int (u 0), .int (u 1), .int (u 2), .int (u 3), .int (u 4), .ref 51, .ref q, .ref 53, .ref 54, .int (u 5), .int (nI e), .int at5, .int so5, .int (nI st5.1.1), .int mk5, .int nu5, .int di5, .int (nI b), .int (nI (i + 1)), .long wo5, .ref 55, .ref 56, .int (u 6), .int (u 7), .ref 57, .int (u 8), .ref 58, .ref 59, .ref 60, .ref 61, .ref 62, .ref 63, .int (u 9), .ref 64, .int (u 10)]))) q (.inr (9, [.int (nI st5.2.1), .int (nI st5.2.2.1.length), .int st5.2.2.2, .ref (q + 1), .ref (q + 2)]))) (q + 1) (.inl (0, 122, .inl sg5))) (q + 2) (.inl (0, 122, .inl vl5)), n, s) _
                                refine r_aload_n (n := 0) (i := 0) 1 rfl rfl dX11_readTell_113 ?_
                                refine p_callV (As := []) (rest := []) (c_readSumM (d := dT + 4) hq h53 h54 e0 hb9 hm5 ho5  HT hT (b := b) (i := i + 1) (by omega) (by omega) (by omega) h20 (Nat.le_refl _)) rfl lkX11_154 imX11_readSum seX11_readSum rfl (by exact ((bU_n (by omega)).trans (((bU_n (by omega)).trans (((bU_n (by omega)).trans (bU_s _ _ _))))))) rfl rfl (by omega) (Nat.le_of_ble_eq_true rfl) dX11_readTell_114 (fun v9 G9 h9 => ?_) (fun q9 G9 h9 => ⟨(fun x9 hx9 => by cases hx9), ?_⟩)
                                · rcases hR6 : pSum bs e T b (i + 1) st5 with ⟨ft6, pl6⟩ | st6
                                  · rw [hR6] at h9; cases h9.1
                                  · rw [hR6] at h9; obtain ⟨h8, at6, so6, mk6, nu6, di6, wo6, sg6, vl6, hm6, rfl⟩ := h9; cases h8
                                    have ho6 : okS (k + 1 + 1) (a + 1 + 1) st6 := pSum_ok e0 hT ho5 hR6
                                    obtain ⟨p16, p26, p36, p46, p56⟩ := id ho6
                                    show bV O _ d 117 [(1, .int 7), (0, .ref 50)] [] (bU (bU (bU (bU f 50 (.inr (11, [.int (u 0), .int (u 1), .int (u 2), .int (u 3), .int (u 4), .ref 51, .ref q, .ref 53, .ref 54, .int (u 5), .int (nI e), .int at6, .int so6, .int (nI st6.1.1), .int mk6, .int nu6, .int di6, .int (nI b), .int (nI (i + 1)), .long wo6, .ref 55, .ref 56, .int (u 6), .int (u 7), .ref 57, .int (u 8), .ref 58, .ref 59, .ref 60, .ref 61, .ref 62, .ref 63, .int (u 9), .ref 64, .int (u 10)]))) q (.inr (9, [.int (nI st6.2.1), .int (nI st6.2.2.1.length), .int st6.2.2.2, .ref (q + 1), .ref (q + 2)]))) (q + 1) (.inl (0, 122, .inl sg6))) (q + 2) (.inl (0, 122, .inl vl6)), n, s) _
                                    refine r_aload_n (n := 0) (i := 0) 1 rfl rfl dX11_readTell_117 ?_
                                    refine p_get (fs := [.int (u 0), .int (u 1), .int (u 2), .int (u 3), .int (u 4), .ref 51, .ref q, .ref 53, .ref 54, .int (u 5), .int (nI e), .int at6, .int so6, .int (nI st6.1.1), .int mk6, .int nu6, .int di6, .int (nI b), .int (nI (i + 1)), .long wo6, .ref 55, .ref 56, .int (u 6), .int (u 7), .ref 57, .int (u 8), .ref 58, .ref 59, .ref 60, .ref 61, .ref 62, .ref 63, .int (u 9), .ref 64, .int (u 10)]) flX11_22 (by exact ((bU_n (by omega)).trans (((bU_n (by omega)).trans (((bU_n (by omega)).trans (bU_s _ _ _))))))) rfl dX11_readTell_118 ?_
                                    refine r_iload_n (n := 1) (i := 1) 0 rfl rfl dX11_readTell_121 ?_
                                    refine r_iconst (v := 0) (by decide) dX11_readTell_122 ?_
                                    refine p_callV (As := [.int 7, .int 0]) (rest := []) (c_put (d := 0) hq hm6 ho6 st3.1.2.2.1 0 (by rw [q84]; decide) rfl (Nat.le_refl _)) rfl lkX11_163 imX9_put seX9_put rfl (by exact ((bU_n (by omega)).trans (((bU_n (by omega)).trans (bU_s _ _ _))))) rfl rfl (by omega) (Nat.le_of_ble_eq_true rfl) dX11_readTell_123 (fun v9 G9 h9 => ?_) (fun q9 G9 h9 => ⟨(fun x9 hx9 => by cases hx9), ?_⟩)
                                    · rcases hR7 : pWr st3.1.2.2.1 0 st6 with ⟨ft7, pl7⟩ | st7
                                      · rw [hR7] at h9; cases h9.1
                                      · rw [hR7] at h9; obtain ⟨h8, at7, so7, mk7, nu7, di7, wo7, sg7, vl7, hm7, rfl⟩ := h9; cases h8
                                        have ho7 : okS (k + 1) (a + 1 + 1) st7 := pWr_ok (k := k + 1) ho6 hR7
                                        obtain ⟨p17, p27, p37, p47, p57⟩ := id ho7
                                        have t7 := pWr_t hR7
                                        show bV O _ d 126 [(1, .int 7), (0, .ref 50)] [] (bU (bU (bU (bU f 50 (.inr (11, [.int (u 0), .int (u 1), .int (u 2), .int (u 3), .int (u 4), .ref 51, .ref q, .ref 53, .ref 54, .int (u 5), .int (nI e), .int at7, .int so7, .int (nI st7.1.1), .int mk7, .int nu7, .int di7, .int (nI b), .int (nI (i + 1)), .long wo7, .ref 55, .ref 56, .int (u 6), .int (u 7), .ref 57, .int (u 8), .ref 58, .ref 59, .ref 60, .ref 61, .ref 62, .ref 63, .int (u 9), .ref 64, .int (u 10)]))) q (.inr (9, [.int (nI st7.2.1), .int (nI st7.2.2.1.length), .int st7.2.2.2, .ref (q + 1), .ref (q + 2)]))) (q + 1) (.inl (0, 122, .inl sg7))) (q + 2) (.inl (0, 122, .inl vl7)), n, s) _
                                        refine r_aload_n (n := 0) (i := 0) 1 rfl rfl dX11_readTell_126 ?_
                                        refine r_ldcS (i := 1) (tx := "then") (by decide) (by decide) dX11_readTell_127 ?_
                                        refine p_callV (As := [.ref 2]) (rest := []) (c_needWord (d := 7) hq h53 h54 e0 hb9 hm7 ho7 (j9 := 1) (by decide) (Nat.le_refl _)) rfl lkX11_169 imX11_needWord seX11_needWord rfl (by exact ((bU_n (by omega)).trans (((bU_n (by omega)).trans (((bU_n (by omega)).trans (bU_s _ _ _))))))) rfl rfl (by omega) (Nat.le_of_ble_eq_true rfl) dX11_readTell_129 (fun v9 G9 h9 => ?_) (fun q9 G9 h9 => ⟨(fun x9 hx9 => by cases hx9), ?_⟩)
                                        · rcases hR8 : pTake bs e (nI (261 + 1)) st7 with ⟨ft8, pl8⟩ | st8
                                          · rw [hR8] at h9; cases h9.1
                                          · rw [hR8] at h9; obtain ⟨h8, at8, so8, mk8, nu8, di8, wo8, sg8, vl8, hm8, rfl⟩ := h9; cases h8
                                            have ho8 : okS (k + 1) (a + 1 + 1) st8 := pTake_ok e0 ho7 hR8
                                            obtain ⟨p18, p28, p38, p48, p58⟩ := id ho8
                                            show bV O _ d 132 [(1, .int 7), (0, .ref 50)] [] (bU (bU (bU (bU f 50 (.inr (11, [.int (u 0), .int (u 1), .int (u 2), .int (u 3), .int (u 4), .ref 51, .ref q, .ref 53, .ref 54, .int (u 5), .int (nI e), .int at8, .int so8, .int (nI st8.1.1), .int mk8, .int nu8, .int di8, .int (nI b), .int (nI (i + 1)), .long wo8, .ref 55, .ref 56, .int (u 6), .int (u 7), .ref 57, .int (u 8), .ref 58, .ref 59, .ref 60, .ref 61, .ref 62, .ref 63, .int (u 9), .ref 64, .int (u 10)]))) q (.inr (9, [.int (nI st8.2.1), .int (nI st8.2.2.1.length), .int st8.2.2.2, .ref (q + 1), .ref (q + 2)]))) (q + 1) (.inl (0, 122, .inl sg8))) (q + 2) (.inl (0, 122, .inl vl8)), n, s) _
                                            refine r_aload_n (n := 0) (i := 0) 1 rfl rfl dX11_readTell_132 ?_
                                            refine p_callV (As := []) (rest := []) (HT b (i + 1) _ _ st8 _ _ _ _ _ _ _ _ (by omega) (by omega) (by omega) hm8 ho8) rfl lkX11_173 imX11_readTell seX11_readTell rfl (by exact ((bU_n (by omega)).trans (((bU_n (by omega)).trans (((bU_n (by omega)).trans (bU_s _ _ _))))))) rfl rfl (by omega) (Nat.le_of_ble_eq_true rfl) dX11_readTell_133 (fun v9 G9 h9 => ?_) (fun q9 G9 h9 => ⟨(fun x9 hx9 => by cases hx9), ?_⟩)
                                            · rcases hR9 : T b (i + 1) st8 with ⟨ft9, pl9⟩ | st9
                                              · rw [hR9] at h9; cases h9.1
                                              · rw [hR9] at h9; obtain ⟨h8, at9, so9, mk9, nu9, di9, wo9, sg9, vl9, hm9, rfl⟩ := h9; cases h8
                                                have ho9 : okS (k + 1) (a + 1 + 1) st9 := hT _ _ _ _ _ _ ho8 hR9
                                                obtain ⟨p19, p29, p39, p49, p59⟩ := id ho9
                                                show bV O _ d 136 [(1, .int 7), (0, .ref 50)] [] (bU (bU (bU (bU f 50 (.inr (11, [.int (u 0), .int (u 1), .int (u 2), .int (u 3), .int (u 4), .ref 51, .ref q, .ref 53, .ref 54, .int (u 5), .int (nI e), .int at9, .int so9, .int (nI st9.1.1), .int mk9, .int nu9, .int di9, .int (nI b), .int (nI (i + 1)), .long wo9, .ref 55, .ref 56, .int (u 6), .int (u 7), .ref 57, .int (u 8), .ref 58, .ref 59, .ref 60, .ref 61, .ref 62, .ref 63, .int (u 9), .ref 64, .int (u 10)]))) q (.inr (9, [.int (nI st9.2.1), .int (nI st9.2.2.1.length), .int st9.2.2.2, .ref (q + 1), .ref (q + 2)]))) (q + 1) (.inl (0, 122, .inl sg9))) (q + 2) (.inl (0, 122, .inl vl9)), n, s) _
                                                refine r_aload_n (n := 0) (i := 0) 1 rfl rfl dX11_readTell_136 ?_
                                                refine r_ldcS (i := 2) (tx := "else") (by decide) (by decide) dX11_readTell_137 ?_
                                                refine p_callV (As := [.ref 3]) (rest := []) (c_needWord (d := 7) hq h53 h54 e0 hb9 hm9 ho9 (j9 := 2) (by decide) (Nat.le_refl _)) rfl lkX11_169 imX11_needWord seX11_needWord rfl (by exact ((bU_n (by omega)).trans (((bU_n (by omega)).trans (((bU_n (by omega)).trans (bU_s _ _ _))))))) rfl rfl (by omega) (Nat.le_of_ble_eq_true rfl) dX11_readTell_139 (fun v9 G9 h9 => ?_) (fun q9 G9 h9 => ⟨(fun x9 hx9 => by cases hx9), ?_⟩)
                                                · rcases hR10 : pTake bs e (nI (261 + 2)) st9 with ⟨ft10, pl10⟩ | st10
                                                  · rw [hR10] at h9; cases h9.1
                                                  · rw [hR10] at h9; obtain ⟨h8, at10, so10, mk10, nu10, di10, wo10, sg10, vl10, hm10, rfl⟩ := h9; cases h8
                                                    have ho10 : okS (k + 1) (a + 1 + 1) st10 := pTake_ok e0 ho9 hR10
                                                    obtain ⟨p110, p210, p310, p410, p510⟩ := id ho10
                                                    show bV O _ d 142 [(1, .int 7), (0, .ref 50)] [] (bU (bU (bU (bU f 50 (.inr (11, [.int (u 0), .int (u 1), .int (u 2), .int (u 3), .int (u 4), .ref 51, .ref q, .ref 53, .ref 54, .int (u 5), .int (nI e), .int at10, .int so10, .int (nI st10.1.1), .int mk10, .int nu10, .int di10, .int (nI b), .int (nI (i + 1)), .long wo10, .ref 55, .ref 56, .int (u 6), .int (u 7), .ref 57, .int (u 8), .ref 58, .ref 59, .ref 60, .ref 61, .ref 62, .ref 63, .int (u 9), .ref 64, .int (u 10)]))) q (.inr (9, [.int (nI st10.2.1), .int (nI st10.2.2.1.length), .int st10.2.2.2, .ref (q + 1), .ref (q + 2)]))) (q + 1) (.inl (0, 122, .inl sg10))) (q + 2) (.inl (0, 122, .inl vl10)), n, s) _
                                                    refine r_aload_n (n := 0) (i := 0) 1 rfl rfl dX11_readTell_142 ?_
                                                    refine p_callV (As := []) (rest := []) (HT b (i + 1) _ _ st10 _ _ _ _ _ _ _ _ (by omega) (by omega) (by omega) hm10 ho10) rfl lkX11_173 imX11_readTell seX11_readTell rfl (by exact ((bU_n (by omega)).trans (((bU_n (by omega)).trans (((bU_n (by omega)).trans (bU_s _ _ _))))))) rfl rfl (by omega) (Nat.le_of_ble_eq_true rfl) dX11_readTell_143 (fun v9 G9 h9 => ?_) (fun q9 G9 h9 => ⟨(fun x9 hx9 => by cases hx9), ?_⟩)
                                                    · rcases hR11 : T b (i + 1) st10 with ⟨ft11, pl11⟩ | st11
                                                      · rw [hR11] at h9; cases h9.1
                                                      · rw [hR11] at h9; obtain ⟨h8, at11, so11, mk11, nu11, di11, wo11, sg11, vl11, hm11, rfl⟩ := h9; cases h8
                                                        have ho11 : okS (k + 1) (a + 1 + 1) st11 := hT _ _ _ _ _ _ ho10 hR11
                                                        obtain ⟨p111, p211, p311, p411, p511⟩ := id ho11
                                                        show bV O _ d 146 [(1, .int 7), (0, .ref 50)] [] (bU (bU (bU (bU f 50 (.inr (11, [.int (u 0), .int (u 1), .int (u 2), .int (u 3), .int (u 4), .ref 51, .ref q, .ref 53, .ref 54, .int (u 5), .int (nI e), .int at11, .int so11, .int (nI st11.1.1), .int mk11, .int nu11, .int di11, .int (nI b), .int (nI (i + 1)), .long wo11, .ref 55, .ref 56, .int (u 6), .int (u 7), .ref 57, .int (u 8), .ref 58, .ref 59, .ref 60, .ref 61, .ref 62, .ref 63, .int (u 9), .ref 64, .int (u 10)]))) q (.inr (9, [.int (nI st11.2.1), .int (nI st11.2.2.1.length), .int st11.2.2.2, .ref (q + 1), .ref (q + 2)]))) (q + 1) (.inl (0, 122, .inl sg11))) (q + 2) (.inl (0, 122, .inl vl11)), n, s) _
                                                        refine r_aload_n (n := 0) (i := 0) 1 rfl rfl dX11_readTell_146 ?_
                                                        refine r_dup rfl dX11_readTell_147 ?_
                                                        refine p_get (fs := [.int (u 0), .int (u 1), .int (u 2), .int (u 3), .int (u 4), .ref 51, .ref q, .ref 53, .ref 54, .int (u 5), .int (nI e), .int at11, .int so11, .int (nI st11.1.1), .int mk11, .int nu11, .int di11, .int (nI b), .int (nI (i + 1)), .long wo11, .ref 55, .ref 56, .int (u 6), .int (u 7), .ref 57, .int (u 8), .ref 58, .ref 59, .ref 60, .ref 61, .ref 62, .ref 63, .int (u 9), .ref 64, .int (u 10)]) flX11_157 (by exact ((bU_n (by omega)).trans (((bU_n (by omega)).trans (((bU_n (by omega)).trans (bU_s _ _ _))))))) rfl dX11_readTell_148 ?_
                                                        refine r_iconst (v := 1) (by decide) dX11_readTell_151 ?_
                                                        refine r_isubE (v := nI ((i + 1) - 1)) (pk_sub (a := i + 1) (b := 1) (by omega)) dX11_readTell_152 ?_
                                                        refine p_put (fs := [.int (u 0), .int (u 1), .int (u 2), .int (u 3), .int (u 4), .ref 51, .ref q, .ref 53, .ref 54, .int (u 5), .int (nI e), .int at11, .int so11, .int (nI st11.1.1), .int mk11, .int nu11, .int di11, .int (nI b), .int (nI (i + 1)), .long wo11, .ref 55, .ref 56, .int (u 6), .int (u 7), .ref 57, .int (u 8), .ref 58, .ref 59, .ref 60, .ref 61, .ref 62, .ref 63, .int (u 9), .ref 64, .int (u 10)]) (fs' := [.int (u 0), .int (u 1), .int (u 2), .int (u 3), .int (u 4), .ref 51, .ref q, .ref 53, .ref 54, .int (u 5), .int (nI e), .int at11, .int so11, .int (nI st11.1.1), .int mk11, .int nu11, .int di11, .int (nI b), .int (nI ((i + 1) - 1)), .long wo11, .ref 55, .ref 56, .int (u 6), .int (u 7), .ref 57, .int (u 8), .ref 58, .ref 59, .ref 60, .ref 61, .ref 62, .ref 63, .int (u 9), .ref 64, .int (u 10)]) flX11_157 (by exact ((bU_n (by omega)).trans (((bU_n (by omega)).trans (((bU_n (by omega)).trans (bU_s _ _ _))))))) (Nat.le_of_ble_eq_true rfl) (bNf_i _) rfl dX11_readTell_153 ?_
                                                        refine bV_h (f2 := bU (bU (bU (bU f 50 (.inr (11, [.int (u 0), .int (u 1), .int (u 2), .int (u 3), .int (u 4), .ref 51, .ref q, .ref 53, .ref 54, .int (u 5), .int (nI e), .int at11, .int so11, .int (nI st11.1.1), .int mk11, .int nu11, .int di11, .int (nI b), .int (nI ((i + 1) - 1)), .long wo11, .ref 55, .ref 56, .int (u 6), .int (u 7), .ref 57, .int (u 8), .ref 58, .ref 59, .ref 60, .ref 61, .ref 62, .ref 63, .int (u 9), .ref 64, .int (u 10)]))) q (.inr (9, [.int (nI st11.2.1), .int (nI st11.2.2.1.length), .int st11.2.2.2, .ref (q + 1), .ref (q + 2)]))) (q + 1) (.inl (0, 122, .inl sg11))) (q + 2) (.inl (0, 122, .inl vl11))) (((bU_c (by omega)).trans (congrArg (fun z => bU z (q + 2) (.inl (0, 122, .inl vl11))) (((bU_c (by omega)).trans (congrArg (fun z => bU z (q + 1) (.inl (0, 122, .inl sg11))) (((bU_c (by omega)).trans (congrArg (fun z => bU z q (.inr (9, [.int (nI st11.2.1), .int (nI st11.2.2.1.length), .int st11.2.2.2, .ref (q + 1), .ref (q + 2)]))) (bU_u _ _ _ _)))))))))) ?_
                                                        show bV O _ d 156 [(1, .int 7), (0, .ref 50)] [] (bU (bU (bU (bU f 50 (.inr (11, [.int (u 0), .int (u 1), .int (u 2), .int (u 3), .int (u 4), .ref 51, .ref q, .ref 53, .ref 54, .int (u 5), .int (nI e), .int at11, .int so11, .int (nI st11.1.1), .int mk11, .int nu11, .int di11, .int (nI b), .int (nI i), .long wo11, .ref 55, .ref 56, .int (u 6), .int (u 7), .ref 57, .int (u 8), .ref 58, .ref 59, .ref 60, .ref 61, .ref 62, .ref 63, .int (u 9), .ref 64, .int (u 10)]))) q (.inr (9, [.int (nI st11.2.1), .int (nI st11.2.2.1.length), .int st11.2.2.2, .ref (q + 1), .ref (q + 2)]))) (q + 1) (.inl (0, 122, .inl sg11))) (q + 2) (.inl (0, 122, .inl vl11)), n, s) _
                                                        refine r_aload_n (n := 0) (i := 0) 1 rfl rfl dX11_readTell_156 ?_
                                                        refine p_get (fs := [.int (u 0), .int (u 1), .int (u 2), .int (u 3), .int (u 4), .ref 51, .ref q, .ref 53, .ref 54, .int (u 5), .int (nI e), .int at11, .int so11, .int (nI st11.1.1), .int mk11, .int nu11, .int di11, .int (nI b), .int (nI i), .long wo11, .ref 55, .ref 56, .int (u 6), .int (u 7), .ref 57, .int (u 8), .ref 58, .ref 59, .ref 60, .ref 61, .ref 62, .ref 63, .int (u 9), .ref 64, .int (u 10)]) flX11_22 (by exact ((bU_n (by omega)).trans (((bU_n (by omega)).trans (((bU_n (by omega)).trans (bU_s _ _ _))))))) rfl dX11_readTell_157 ?_
                                                        refine r_bipush (v := 11) (by decide) dX11_readTell_160 ?_
                                                        refine r_iconst (v := 0) (by decide) dX11_readTell_162 ?_
                                                        refine p_callV (As := [.int 11, .int 0]) (rest := []) (c_put (d := 0) hq hm11 ho11 261 0 (by decide) rfl (Nat.le_refl _)) rfl lkX11_163 imX9_put seX9_put rfl (by exact ((bU_n (by omega)).trans (((bU_n (by omega)).trans (bU_s _ _ _))))) rfl rfl (by omega) (Nat.le_of_ble_eq_true rfl) dX11_readTell_163 (fun v9 G9 h9 => ?_) (fun q9 G9 h9 => ⟨(fun x9 hx9 => by cases hx9), ?_⟩)
                                                        · rcases hR12 : pWr 261 0 st11 with ⟨ft12, pl12⟩ | st12
                                                          · rw [hR12] at h9; cases h9.1
                                                          · rw [hR12] at h9; obtain ⟨h8, at12, so12, mk12, nu12, di12, wo12, sg12, vl12, hm12, rfl⟩ := h9; cases h8
                                                            have ho12 : okS (k) (a + 1 + 1) st12 := pWr_ok (k := k) ho11 hR12
                                                            obtain ⟨p112, p212, p312, p412, p512⟩ := id ho12
                                                            have t12 := pWr_t hR12
                                                            show bV O _ d 166 [(1, .int 7), (0, .ref 50)] [] (bU (bU (bU (bU f 50 (.inr (11, [.int (u 0), .int (u 1), .int (u 2), .int (u 3), .int (u 4), .ref 51, .ref q, .ref 53, .ref 54, .int (u 5), .int (nI e), .int at12, .int so12, .int (nI st12.1.1), .int mk12, .int nu12, .int di12, .int (nI b), .int (nI i), .long wo12, .ref 55, .ref 56, .int (u 6), .int (u 7), .ref 57, .int (u 8), .ref 58, .ref 59, .ref 60, .ref 61, .ref 62, .ref 63, .int (u 9), .ref 64, .int (u 10)]))) q (.inr (9, [.int (nI st12.2.1), .int (nI st12.2.2.1.length), .int st12.2.2.2, .ref (q + 1), .ref (q + 2)]))) (q + 1) (.inl (0, 122, .inl sg12))) (q + 2) (.inl (0, 122, .inl vl12)), n, s) _
                                                            refine r_return rfl dX11_readTell_166 ?_
                                                            rw [show pTell bs e T b i st = .inr st12 by unfold pTell pIf; rw [if_pos q6, if_pos (show i < 8 by omega), w262, w263]; simp only [pPart_m, pTest, pB_a, pB_l, pB_r, hR1, hR2, hR3]; rw [if_pos (Or.inr (Or.inr q84))]; simp only [pPart_m, pB_a, pB_l, pB_r, hR4, hR5, hR6, hR7, hR8, hR9, hR10, hR11, hR12]]
                                                            exact ⟨rfl, _, _, _, _, _, _, _, _, hm12, rfl⟩
                                                        · rcases hR12 : pWr 261 0 st11 with ⟨ft12, pl12⟩ | st12
                                                          · rw [hR12] at h9
                                                            rw [show pTell bs e T b i st = .inl (ft12, pl12) by unfold pTell pIf; rw [if_pos q6, if_pos (show i < 8 by omega), w262, w263]; simp only [pPart_m, pTest, pB_a, pB_l, pB_r, hR1, hR2, hR3]; rw [if_pos (Or.inr (Or.inr q84))]; simp only [pPart_m, pB_a, pB_l, pB_r, hR4, hR5, hR6, hR7, hR8, hR9, hR10, hR11, hR12]]
                                                            exact h9
                                                          · rw [hR12] at h9; cases h9.1
                                                    · rcases hR11 : T b (i + 1) st10 with ⟨ft11, pl11⟩ | st11
                                                      · rw [hR11] at h9
                                                        rw [show pTell bs e T b i st = .inl (ft11, pl11) by unfold pTell pIf; rw [if_pos q6, if_pos (show i < 8 by omega), w262, w263]; simp only [pPart_m, pTest, pB_a, pB_l, pB_r, hR1, hR2, hR3]; rw [if_pos (Or.inr (Or.inr q84))]; simp only [pPart_m, pB_a, pB_l, pB_r, hR4, hR5, hR6, hR7, hR8, hR9, hR10, hR11]]
                                                        exact h9
                                                      · rw [hR11] at h9; cases h9.1
                                                · rcases hR10 : pTake bs e (nI (261 + 2)) st9 with ⟨ft10, pl10⟩ | st10
                                                  · rw [hR10] at h9
                                                    rw [show pTell bs e T b i st = .inl (ft10, pl10) by unfold pTell pIf; rw [if_pos q6, if_pos (show i < 8 by omega), w262, w263]; simp only [pPart_m, pTest, pB_a, pB_l, pB_r, hR1, hR2, hR3]; rw [if_pos (Or.inr (Or.inr q84))]; simp only [pPart_m, pB_a, pB_l, pB_r, hR4, hR5, hR6, hR7, hR8, hR9, hR10]]
                                                    exact h9
                                                  · rw [hR10] at h9; cases h9.1
                                            · rcases hR9 : T b (i + 1) st8 with ⟨ft9, pl9⟩ | st9
                                              · rw [hR9] at h9
                                                rw [show pTell bs e T b i st = .inl (ft9, pl9) by unfold pTell pIf; rw [if_pos q6, if_pos (show i < 8 by omega), w262, w263]; simp only [pPart_m, pTest, pB_a, pB_l, pB_r, hR1, hR2, hR3]; rw [if_pos (Or.inr (Or.inr q84))]; simp only [pPart_m, pB_a, pB_l, pB_r, hR4, hR5, hR6, hR7, hR8, hR9]]
                                                exact h9
                                              · rw [hR9] at h9; cases h9.1
                                        · rcases hR8 : pTake bs e (nI (261 + 1)) st7 with ⟨ft8, pl8⟩ | st8
                                          · rw [hR8] at h9
                                            rw [show pTell bs e T b i st = .inl (ft8, pl8) by unfold pTell pIf; rw [if_pos q6, if_pos (show i < 8 by omega), w262, w263]; simp only [pPart_m, pTest, pB_a, pB_l, pB_r, hR1, hR2, hR3]; rw [if_pos (Or.inr (Or.inr q84))]; simp only [pPart_m, pB_a, pB_l, pB_r, hR4, hR5, hR6, hR7, hR8]]
                                            exact h9
                                          · rw [hR8] at h9; cases h9.1
                                    · rcases hR7 : pWr st3.1.2.2.1 0 st6 with ⟨ft7, pl7⟩ | st7
                                      · rw [hR7] at h9
                                        rw [show pTell bs e T b i st = .inl (ft7, pl7) by unfold pTell pIf; rw [if_pos q6, if_pos (show i < 8 by omega), w262, w263]; simp only [pPart_m, pTest, pB_a, pB_l, pB_r, hR1, hR2, hR3]; rw [if_pos (Or.inr (Or.inr q84))]; simp only [pPart_m, pB_a, pB_l, pB_r, hR4, hR5, hR6, hR7]]
                                        exact h9
                                      · rw [hR7] at h9; cases h9.1
                                · rcases hR6 : pSum bs e T b (i + 1) st5 with ⟨ft6, pl6⟩ | st6
                                  · rw [hR6] at h9
                                    rw [show pTell bs e T b i st = .inl (ft6, pl6) by unfold pTell pIf; rw [if_pos q6, if_pos (show i < 8 by omega), w262, w263]; simp only [pPart_m, pTest, pB_a, pB_l, pB_r, hR1, hR2, hR3]; rw [if_pos (Or.inr (Or.inr q84))]; simp only [pPart_m, pB_a, pB_l, pB_r, hR4, hR5, hR6]]
                                    exact h9
                                  · rw [hR6] at h9; cases h9.1
                            · rcases hR5 : mNext bs e st4 with ⟨ft5, pl5⟩ | st5
                              · rw [hR5] at h9
                                rw [show pTell bs e T b i st = .inl (ft5, pl5) by unfold pTell pIf; rw [if_pos q6, if_pos (show i < 8 by omega), w262, w263]; simp only [pPart_m, pTest, pB_a, pB_l, pB_r, hR1, hR2, hR3]; rw [if_pos (Or.inr (Or.inr q84))]; simp only [pPart_m, pB_a, pB_l, pB_r, hR4, hR5]]
                                exact h9
                              · rw [hR5] at h9; cases h9.1
                        · rcases hR4 : mPart st3 with ⟨ft4, pl4⟩ | st4
                          · rw [hR4] at h9
                            rw [show pTell bs e T b i st = .inl (ft4, pl4) by unfold pTell pIf; rw [if_pos q6, if_pos (show i < 8 by omega), w262, w263]; simp only [pPart_m, pTest, pB_a, pB_l, pB_r, hR1, hR2, hR3]; rw [if_pos (Or.inr (Or.inr q84))]; simp only [pPart_m, pB_a, pB_l, pB_r, hR4]]
                            exact h9
                          · rw [hR4] at h9; cases h9.1
                    · have c70 := bI_1.mp c70
                      first | (have q70 : st3.1.2.2.1 = 62 := of_decide_eq_true c70) | (have q70 : ¬ st3.1.2.2.1 = 62 := of_decide_eq_false c70)
                      refine r_bipush (v := 6) (by decide) dX11_readTell_73 ?_
                      refine r_goto (tgt := 93) (by decide) dX11_readTell_75 ?_
                      refine r_istore_n (n := 1) (i := 1) (L' := [(1, .int 6), (0, .ref 50)]) rfl dX11_readTell_93 (by decide) rfl ?_
                      refine r_iload_n (n := 1) (i := 1) 0 rfl rfl dX11_readTell_94 ?_
                      refine r_iconst (v := (-1)) (by decide) dX11_readTell_95 ?_
                      refine r_icmp_ne (tgt := 105) (by decide) dX11_readTell_96 (fun _ => ?_) (fun h9 => absurd h9 (show ¬ (6 : Int32) = (-1) by decide))
                      refine r_aload_n (n := 0) (i := 0) 1 rfl rfl dX11_readTell_105 ?_
                      refine p_callV (As := []) (rest := []) (c_part (d := 1) hq h53 h54 e0 hb9 hm3 ho3 (Nat.le_refl _)) rfl lkX11_160 imX11_part seX11_part rfl (by exact ((bU_n (by omega)).trans (((bU_n (by omega)).trans (((bU_n (by omega)).trans (bU_s _ _ _))))))) rfl rfl (by omega) (Nat.le_of_ble_eq_true rfl) dX11_readTell_106 (fun v9 G9 h9 => ?_) (fun q9 G9 h9 => ⟨(fun x9 hx9 => by cases hx9), ?_⟩)
                      · rcases hR4 : mPart st3 with ⟨ft4, pl4⟩ | st4
                        · rw [hR4] at h9; cases h9.1
                        · rw [hR4] at h9; obtain ⟨h8, at4, so4, mk4, nu4, di4, wo4, sg4, vl4, hm4, rfl⟩ := h9; cases h8
                          have ho4 : okS (k + 1 + 1) (a + 1 + 1) st4 := mPart_ok ho3 hR4
                          obtain ⟨p14, p24, p34, p44, p54⟩ := id ho4
                          have t4 := mPart_t hR4
                          show bV O _ d 109 [(1, .int 6), (0, .ref 50)] [] (bU (bU (bU (bU f 50 (.inr (11, [.int (u 0), .int (u 1), .int (u 2), .int (u 3), .int (u 4), .ref 51, .ref q, .ref 53, .ref 54, .int (u 5), .int (nI e), .int at4, .int so4, .int (nI st4.1.1), .int mk4, .int nu4, .int di4, .int (nI b), .int (nI (i + 1)), .long wo4, .ref 55, .ref 56, .int (u 6), .int (u 7), .ref 57, .int (u 8), .ref 58, .ref 59, .ref 60, .ref 61, .ref 62, .ref 63, .int (u 9), .ref 64, .int (u 10)]))) q (.inr (9, [.int (nI st4.2.1), .int (nI st4.2.2.1.length), .int st4.2.2.2, .ref (q + 1), .ref (q + 2)]))) (q + 1) (.inl (0, 122, .inl sg4))) (q + 2) (.inl (0, 122, .inl vl4)), n, s) _
                          refine r_aload_n (n := 0) (i := 0) 1 rfl rfl dX11_readTell_109 ?_
                          refine p_callV (As := []) (rest := []) (c_nextM (d := 1) hq h53 h54 e0 hb9 hm4 ho4 (by simp only [t1, t4, q6, q57, q70] <;> decide) (Nat.le_refl _)) rfl lkX11_140 imX11_next seX11_next rfl (by exact ((bU_n (by omega)).trans (((bU_n (by omega)).trans (((bU_n (by omega)).trans (bU_s _ _ _))))))) rfl rfl (by omega) (Nat.le_of_ble_eq_true rfl) dX11_readTell_110 (fun v9 G9 h9 => ?_) (fun q9 G9 h9 => ⟨(fun x9 hx9 => by cases hx9), ?_⟩)
                          · rcases hR5 : mNext bs e st4 with ⟨ft5, pl5⟩ | st5
                            · rw [hR5] at h9; cases h9.1
                            · rw [hR5] at h9; obtain ⟨h8, at5, so5, mk5, nu5, di5, wo5, sg5, vl5, hm5, rfl⟩ := h9; cases h8
                              have ho5 : okS (k + 1 + 1) (a + 1 + 1) st5 := mNext_ok e0 ho4 hR5
                              obtain ⟨p15, p25, p35, p45, p55⟩ := id ho5
                              show bV O _ d 113 [(1, .int 6), (0, .ref 50)] [] (bU (bU (bU (bU f 50 (.inr (11, [.int (u 0), .int (u 1), .int (u 2), .int (u 3), .int (u 4), .ref 51, .ref q, .ref 53, .ref 54, .int (u 5), .int (nI e), .int at5, .int so5, .int (nI st5.1.1), .int mk5, .int nu5, .int di5, .int (nI b), .int (nI (i + 1)), .long wo5, .ref 55, .ref 56, .int (u 6), .int (u 7), .ref 57, .int (u 8), .ref 58, .ref 59, .ref 60, .ref 61, .ref 62, .ref 63, .int (u 9), .ref 64, .int (u 10)]))) q (.inr (9, [.int (nI st5.2.1), .int (nI st5.2.2.1.length), .int st5.2.2.2, .ref (q + 1), .ref (q + 2)]))) (q + 1) (.inl (0, 122, .inl sg5))) (q + 2) (.inl (0, 122, .inl vl5)), n, s) _
                              refine r_aload_n (n := 0) (i := 0) 1 rfl rfl dX11_readTell_113 ?_
                              refine p_callV (As := []) (rest := []) (c_readSumM (d := dT + 4) hq h53 h54 e0 hb9 hm5 ho5  HT hT (b := b) (i := i + 1) (by omega) (by omega) (by omega) h20 (Nat.le_refl _)) rfl lkX11_154 imX11_readSum seX11_readSum rfl (by exact ((bU_n (by omega)).trans (((bU_n (by omega)).trans (((bU_n (by omega)).trans (bU_s _ _ _))))))) rfl rfl (by omega) (Nat.le_of_ble_eq_true rfl) dX11_readTell_114 (fun v9 G9 h9 => ?_) (fun q9 G9 h9 => ⟨(fun x9 hx9 => by cases hx9), ?_⟩)
                              · rcases hR6 : pSum bs e T b (i + 1) st5 with ⟨ft6, pl6⟩ | st6
                                · rw [hR6] at h9; cases h9.1
                                · rw [hR6] at h9; obtain ⟨h8, at6, so6, mk6, nu6, di6, wo6, sg6, vl6, hm6, rfl⟩ := h9; cases h8
                                  have ho6 : okS (k + 1 + 1) (a + 1 + 1) st6 := pSum_ok e0 hT ho5 hR6
                                  obtain ⟨p16, p26, p36, p46, p56⟩ := id ho6
                                  show bV O _ d 117 [(1, .int 6), (0, .ref 50)] [] (bU (bU (bU (bU f 50 (.inr (11, [.int (u 0), .int (u 1), .int (u 2), .int (u 3), .int (u 4), .ref 51, .ref q, .ref 53, .ref 54, .int (u 5), .int (nI e), .int at6, .int so6, .int (nI st6.1.1), .int mk6, .int nu6, .int di6, .int (nI b), .int (nI (i + 1)), .long wo6, .ref 55, .ref 56, .int (u 6), .int (u 7), .ref 57, .int (u 8), .ref 58, .ref 59, .ref 60, .ref 61, .ref 62, .ref 63, .int (u 9), .ref 64, .int (u 10)]))) q (.inr (9, [.int (nI st6.2.1), .int (nI st6.2.2.1.length), .int st6.2.2.2, .ref (q + 1), .ref (q + 2)]))) (q + 1) (.inl (0, 122, .inl sg6))) (q + 2) (.inl (0, 122, .inl vl6)), n, s) _
                                  refine r_aload_n (n := 0) (i := 0) 1 rfl rfl dX11_readTell_117 ?_
                                  refine p_get (fs := [.int (u 0), .int (u 1), .int (u 2), .int (u 3), .int (u 4), .ref 51, .ref q, .ref 53, .ref 54, .int (u 5), .int (nI e), .int at6, .int so6, .int (nI st6.1.1), .int mk6, .int nu6, .int di6, .int (nI b), .int (nI (i + 1)), .long wo6, .ref 55, .ref 56, .int (u 6), .int (u 7), .ref 57, .int (u 8), .ref 58, .ref 59, .ref 60, .ref 61, .ref 62, .ref 63, .int (u 9), .ref 64, .int (u 10)]) flX11_22 (by exact ((bU_n (by omega)).trans (((bU_n (by omega)).trans (((bU_n (by omega)).trans (bU_s _ _ _))))))) rfl dX11_readTell_118 ?_
                                  refine r_iload_n (n := 1) (i := 1) 0 rfl rfl dX11_readTell_121 ?_
                                  refine r_iconst (v := 0) (by decide) dX11_readTell_122 ?_
                                  refine p_callV (As := [.int 6, .int 0]) (rest := []) (c_put (d := 0) hq hm6 ho6 st3.1.2.2.1 0 (by rw [q70]; decide) rfl (Nat.le_refl _)) rfl lkX11_163 imX9_put seX9_put rfl (by exact ((bU_n (by omega)).trans (((bU_n (by omega)).trans (bU_s _ _ _))))) rfl rfl (by omega) (Nat.le_of_ble_eq_true rfl) dX11_readTell_123 (fun v9 G9 h9 => ?_) (fun q9 G9 h9 => ⟨(fun x9 hx9 => by cases hx9), ?_⟩)
                                  · rcases hR7 : pWr st3.1.2.2.1 0 st6 with ⟨ft7, pl7⟩ | st7
                                    · rw [hR7] at h9; cases h9.1
                                    · rw [hR7] at h9; obtain ⟨h8, at7, so7, mk7, nu7, di7, wo7, sg7, vl7, hm7, rfl⟩ := h9; cases h8
                                      have ho7 : okS (k + 1) (a + 1 + 1) st7 := pWr_ok (k := k + 1) ho6 hR7
                                      obtain ⟨p17, p27, p37, p47, p57⟩ := id ho7
                                      have t7 := pWr_t hR7
                                      show bV O _ d 126 [(1, .int 6), (0, .ref 50)] [] (bU (bU (bU (bU f 50 (.inr (11, [.int (u 0), .int (u 1), .int (u 2), .int (u 3), .int (u 4), .ref 51, .ref q, .ref 53, .ref 54, .int (u 5), .int (nI e), .int at7, .int so7, .int (nI st7.1.1), .int mk7, .int nu7, .int di7, .int (nI b), .int (nI (i + 1)), .long wo7, .ref 55, .ref 56, .int (u 6), .int (u 7), .ref 57, .int (u 8), .ref 58, .ref 59, .ref 60, .ref 61, .ref 62, .ref 63, .int (u 9), .ref 64, .int (u 10)]))) q (.inr (9, [.int (nI st7.2.1), .int (nI st7.2.2.1.length), .int st7.2.2.2, .ref (q + 1), .ref (q + 2)]))) (q + 1) (.inl (0, 122, .inl sg7))) (q + 2) (.inl (0, 122, .inl vl7)), n, s) _
                                      refine r_aload_n (n := 0) (i := 0) 1 rfl rfl dX11_readTell_126 ?_
                                      refine r_ldcS (i := 1) (tx := "then") (by decide) (by decide) dX11_readTell_127 ?_
                                      refine p_callV (As := [.ref 2]) (rest := []) (c_needWord (d := 7) hq h53 h54 e0 hb9 hm7 ho7 (j9 := 1) (by decide) (Nat.le_refl _)) rfl lkX11_169 imX11_needWord seX11_needWord rfl (by exact ((bU_n (by omega)).trans (((bU_n (by omega)).trans (((bU_n (by omega)).trans (bU_s _ _ _))))))) rfl rfl (by omega) (Nat.le_of_ble_eq_true rfl) dX11_readTell_129 (fun v9 G9 h9 => ?_) (fun q9 G9 h9 => ⟨(fun x9 hx9 => by cases hx9), ?_⟩)
                                      · rcases hR8 : pTake bs e (nI (261 + 1)) st7 with ⟨ft8, pl8⟩ | st8
                                        · rw [hR8] at h9; cases h9.1
                                        · rw [hR8] at h9; obtain ⟨h8, at8, so8, mk8, nu8, di8, wo8, sg8, vl8, hm8, rfl⟩ := h9; cases h8
                                          have ho8 : okS (k + 1) (a + 1 + 1) st8 := pTake_ok e0 ho7 hR8
                                          obtain ⟨p18, p28, p38, p48, p58⟩ := id ho8
                                          show bV O _ d 132 [(1, .int 6), (0, .ref 50)] [] (bU (bU (bU (bU f 50 (.inr (11, [.int (u 0), .int (u 1), .int (u 2), .int (u 3), .int (u 4), .ref 51, .ref q, .ref 53, .ref 54, .int (u 5), .int (nI e), .int at8, .int so8, .int (nI st8.1.1), .int mk8, .int nu8, .int di8, .int (nI b), .int (nI (i + 1)), .long wo8, .ref 55, .ref 56, .int (u 6), .int (u 7), .ref 57, .int (u 8), .ref 58, .ref 59, .ref 60, .ref 61, .ref 62, .ref 63, .int (u 9), .ref 64, .int (u 10)]))) q (.inr (9, [.int (nI st8.2.1), .int (nI st8.2.2.1.length), .int st8.2.2.2, .ref (q + 1), .ref (q + 2)]))) (q + 1) (.inl (0, 122, .inl sg8))) (q + 2) (.inl (0, 122, .inl vl8)), n, s) _
                                          refine r_aload_n (n := 0) (i := 0) 1 rfl rfl dX11_readTell_132 ?_
                                          refine p_callV (As := []) (rest := []) (HT b (i + 1) _ _ st8 _ _ _ _ _ _ _ _ (by omega) (by omega) (by omega) hm8 ho8) rfl lkX11_173 imX11_readTell seX11_readTell rfl (by exact ((bU_n (by omega)).trans (((bU_n (by omega)).trans (((bU_n (by omega)).trans (bU_s _ _ _))))))) rfl rfl (by omega) (Nat.le_of_ble_eq_true rfl) dX11_readTell_133 (fun v9 G9 h9 => ?_) (fun q9 G9 h9 => ⟨(fun x9 hx9 => by cases hx9), ?_⟩)
                                          · rcases hR9 : T b (i + 1) st8 with ⟨ft9, pl9⟩ | st9
                                            · rw [hR9] at h9; cases h9.1
                                            · rw [hR9] at h9; obtain ⟨h8, at9, so9, mk9, nu9, di9, wo9, sg9, vl9, hm9, rfl⟩ := h9; cases h8
                                              have ho9 : okS (k + 1) (a + 1 + 1) st9 := hT _ _ _ _ _ _ ho8 hR9
                                              obtain ⟨p19, p29, p39, p49, p59⟩ := id ho9
                                              show bV O _ d 136 [(1, .int 6), (0, .ref 50)] [] (bU (bU (bU (bU f 50 (.inr (11, [.int (u 0), .int (u 1), .int (u 2), .int (u 3), .int (u 4), .ref 51, .ref q, .ref 53, .ref 54, .int (u 5), .int (nI e), .int at9, .int so9, .int (nI st9.1.1), .int mk9, .int nu9, .int di9, .int (nI b), .int (nI (i + 1)), .long wo9, .ref 55, .ref 56, .int (u 6), .int (u 7), .ref 57, .int (u 8), .ref 58, .ref 59, .ref 60, .ref 61, .ref 62, .ref 63, .int (u 9), .ref 64, .int (u 10)]))) q (.inr (9, [.int (nI st9.2.1), .int (nI st9.2.2.1.length), .int st9.2.2.2, .ref (q + 1), .ref (q + 2)]))) (q + 1) (.inl (0, 122, .inl sg9))) (q + 2) (.inl (0, 122, .inl vl9)), n, s) _
                                              refine r_aload_n (n := 0) (i := 0) 1 rfl rfl dX11_readTell_136 ?_
                                              refine r_ldcS (i := 2) (tx := "else") (by decide) (by decide) dX11_readTell_137 ?_
                                              refine p_callV (As := [.ref 3]) (rest := []) (c_needWord (d := 7) hq h53 h54 e0 hb9 hm9 ho9 (j9 := 2) (by decide) (Nat.le_refl _)) rfl lkX11_169 imX11_needWord seX11_needWord rfl (by exact ((bU_n (by omega)).trans (((bU_n (by omega)).trans (((bU_n (by omega)).trans (bU_s _ _ _))))))) rfl rfl (by omega) (Nat.le_of_ble_eq_true rfl) dX11_readTell_139 (fun v9 G9 h9 => ?_) (fun q9 G9 h9 => ⟨(fun x9 hx9 => by cases hx9), ?_⟩)
                                              · rcases hR10 : pTake bs e (nI (261 + 2)) st9 with ⟨ft10, pl10⟩ | st10
                                                · rw [hR10] at h9; cases h9.1
                                                · rw [hR10] at h9; obtain ⟨h8, at10, so10, mk10, nu10, di10, wo10, sg10, vl10, hm10, rfl⟩ := h9; cases h8
                                                  have ho10 : okS (k + 1) (a + 1 + 1) st10 := pTake_ok e0 ho9 hR10
                                                  obtain ⟨p110, p210, p310, p410, p510⟩ := id ho10
                                                  show bV O _ d 142 [(1, .int 6), (0, .ref 50)] [] (bU (bU (bU (bU f 50 (.inr (11, [.int (u 0), .int (u 1), .int (u 2), .int (u 3), .int (u 4), .ref 51, .ref q, .ref 53, .ref 54, .int (u 5), .int (nI e), .int at10, .int so10, .int (nI st10.1.1), .int mk10, .int nu10, .int di10, .int (nI b), .int (nI (i + 1)), .long wo10, .ref 55, .ref 56, .int (u 6), .int (u 7), .ref 57, .int (u 8), .ref 58, .ref 59, .ref 60, .ref 61, .ref 62, .ref 63, .int (u 9), .ref 64, .int (u 10)]))) q (.inr (9, [.int (nI st10.2.1), .int (nI st10.2.2.1.length), .int st10.2.2.2, .ref (q + 1), .ref (q + 2)]))) (q + 1) (.inl (0, 122, .inl sg10))) (q + 2) (.inl (0, 122, .inl vl10)), n, s) _
                                                  refine r_aload_n (n := 0) (i := 0) 1 rfl rfl dX11_readTell_142 ?_
                                                  refine p_callV (As := []) (rest := []) (HT b (i + 1) _ _ st10 _ _ _ _ _ _ _ _ (by omega) (by omega) (by omega) hm10 ho10) rfl lkX11_173 imX11_readTell seX11_readTell rfl (by exact ((bU_n (by omega)).trans (((bU_n (by omega)).trans (((bU_n (by omega)).trans (bU_s _ _ _))))))) rfl rfl (by omega) (Nat.le_of_ble_eq_true rfl) dX11_readTell_143 (fun v9 G9 h9 => ?_) (fun q9 G9 h9 => ⟨(fun x9 hx9 => by cases hx9), ?_⟩)
                                                  · rcases hR11 : T b (i + 1) st10 with ⟨ft11, pl11⟩ | st11
                                                    · rw [hR11] at h9; cases h9.1
                                                    · rw [hR11] at h9; obtain ⟨h8, at11, so11, mk11, nu11, di11, wo11, sg11, vl11, hm11, rfl⟩ := h9; cases h8
                                                      have ho11 : okS (k + 1) (a + 1 + 1) st11 := hT _ _ _ _ _ _ ho10 hR11
                                                      obtain ⟨p111, p211, p311, p411, p511⟩ := id ho11
                                                      show bV O _ d 146 [(1, .int 6), (0, .ref 50)] [] (bU (bU (bU (bU f 50 (.inr (11, [.int (u 0), .int (u 1), .int (u 2), .int (u 3), .int (u 4), .ref 51, .ref q, .ref 53, .ref 54, .int (u 5), .int (nI e), .int at11, .int so11, .int (nI st11.1.1), .int mk11, .int nu11, .int di11, .int (nI b), .int (nI (i + 1)), .long wo11, .ref 55, .ref 56, .int (u 6), .int (u 7), .ref 57, .int (u 8), .ref 58, .ref 59, .ref 60, .ref 61, .ref 62, .ref 63, .int (u 9), .ref 64, .int (u 10)]))) q (.inr (9, [.int (nI st11.2.1), .int (nI st11.2.2.1.length), .int st11.2.2.2, .ref (q + 1), .ref (q + 2)]))) (q + 1) (.inl (0, 122, .inl sg11))) (q + 2) (.inl (0, 122, .inl vl11)), n, s) _
                                                      refine r_aload_n (n := 0) (i := 0) 1 rfl rfl dX11_readTell_146 ?_
                                                      refine r_dup rfl dX11_readTell_147 ?_
                                                      refine p_get (fs := [.int (u 0), .int (u 1), .int (u 2), .int (u 3), .int (u 4), .ref 51, .ref q, .ref 53, .ref 54, .int (u 5), .int (nI e), .int at11, .int so11, .int (nI st11.1.1), .int mk11, .int nu11, .int di11, .int (nI b), .int (nI (i + 1)), .long wo11, .ref 55, .ref 56, .int (u 6), .int (u 7), .ref 57, .int (u 8), .ref 58, .ref 59, .ref 60, .ref 61, .ref 62, .ref 63, .int (u 9), .ref 64, .int (u 10)]) flX11_157 (by exact ((bU_n (by omega)).trans (((bU_n (by omega)).trans (((bU_n (by omega)).trans (bU_s _ _ _))))))) rfl dX11_readTell_148 ?_
                                                      refine r_iconst (v := 1) (by decide) dX11_readTell_151 ?_
                                                      refine r_isubE (v := nI ((i + 1) - 1)) (pk_sub (a := i + 1) (b := 1) (by omega)) dX11_readTell_152 ?_
                                                      refine p_put (fs := [.int (u 0), .int (u 1), .int (u 2), .int (u 3), .int (u 4), .ref 51, .ref q, .ref 53, .ref 54, .int (u 5), .int (nI e), .int at11, .int so11, .int (nI st11.1.1), .int mk11, .int nu11, .int di11, .int (nI b), .int (nI (i + 1)), .long wo11, .ref 55, .ref 56, .int (u 6), .int (u 7), .ref 57, .int (u 8), .ref 58, .ref 59, .ref 60, .ref 61, .ref 62, .ref 63, .int (u 9), .ref 64, .int (u 10)]) (fs' := [.int (u 0), .int (u 1), .int (u 2), .int (u 3), .int (u 4), .ref 51, .ref q, .ref 53, .ref 54, .int (u 5), .int (nI e), .int at11, .int so11, .int (nI st11.1.1), .int mk11, .int nu11, .int di11, .int (nI b), .int (nI ((i + 1) - 1)), .long wo11, .ref 55, .ref 56, .int (u 6), .int (u 7), .ref 57, .int (u 8), .ref 58, .ref 59, .ref 60, .ref 61, .ref 62, .ref 63, .int (u 9), .ref 64, .int (u 10)]) flX11_157 (by exact ((bU_n (by omega)).trans (((bU_n (by omega)).trans (((bU_n (by omega)).trans (bU_s _ _ _))))))) (Nat.le_of_ble_eq_true rfl) (bNf_i _) rfl dX11_readTell_153 ?_
                                                      refine bV_h (f2 := bU (bU (bU (bU f 50 (.inr (11, [.int (u 0), .int (u 1), .int (u 2), .int (u 3), .int (u 4), .ref 51, .ref q, .ref 53, .ref 54, .int (u 5), .int (nI e), .int at11, .int so11, .int (nI st11.1.1), .int mk11, .int nu11, .int di11, .int (nI b), .int (nI ((i + 1) - 1)), .long wo11, .ref 55, .ref 56, .int (u 6), .int (u 7), .ref 57, .int (u 8), .ref 58, .ref 59, .ref 60, .ref 61, .ref 62, .ref 63, .int (u 9), .ref 64, .int (u 10)]))) q (.inr (9, [.int (nI st11.2.1), .int (nI st11.2.2.1.length), .int st11.2.2.2, .ref (q + 1), .ref (q + 2)]))) (q + 1) (.inl (0, 122, .inl sg11))) (q + 2) (.inl (0, 122, .inl vl11))) (((bU_c (by omega)).trans (congrArg (fun z => bU z (q + 2) (.inl (0, 122, .inl vl11))) (((bU_c (by omega)).trans (congrArg (fun z => bU z (q + 1) (.inl (0, 122, .inl sg11))) (((bU_c (by omega)).trans (congrArg (fun z => bU z q (.inr (9, [.int (nI st11.2.1), .int (nI st11.2.2.1.length), .int st11.2.2.2, .ref (q + 1), .ref (q + 2)]))) (bU_u _ _ _ _)))))))))) ?_
                                                      show bV O _ d 156 [(1, .int 6), (0, .ref 50)] [] (bU (bU (bU (bU f 50 (.inr (11, [.int (u 0), .int (u 1), .int (u 2), .int (u 3), .int (u 4), .ref 51, .ref q, .ref 53, .ref 54, .int (u 5), .int (nI e), .int at11, .int so11, .int (nI st11.1.1), .int mk11, .int nu11, .int di11, .int (nI b), .int (nI i), .long wo11, .ref 55, .ref 56, .int (u 6), .int (u 7), .ref 57, .int (u 8), .ref 58, .ref 59, .ref 60, .ref 61, .ref 62, .ref 63, .int (u 9), .ref 64, .int (u 10)]))) q (.inr (9, [.int (nI st11.2.1), .int (nI st11.2.2.1.length), .int st11.2.2.2, .ref (q + 1), .ref (q + 2)]))) (q + 1) (.inl (0, 122, .inl sg11))) (q + 2) (.inl (0, 122, .inl vl11)), n, s) _
                                                      refine r_aload_n (n := 0) (i := 0) 1 rfl rfl dX11_readTell_156 ?_
                                                      refine p_get (fs := [.int (u 0), .int (u 1), .int (u 2), .int (u 3), .int (u 4), .ref 51, .ref q, .ref 53, .ref 54, .int (u 5), .int (nI e), .int at11, .int so11, .int (nI st11.1.1), .int mk11, .int nu11, .int di11, .int (nI b), .int (nI i), .long wo11, .ref 55, .ref 56, .int (u 6), .int (u 7), .ref 57, .int (u 8), .ref 58, .ref 59, .ref 60, .ref 61, .ref 62, .ref 63, .int (u 9), .ref 64, .int (u 10)]) flX11_22 (by exact ((bU_n (by omega)).trans (((bU_n (by omega)).trans (((bU_n (by omega)).trans (bU_s _ _ _))))))) rfl dX11_readTell_157 ?_
                                                      refine r_bipush (v := 11) (by decide) dX11_readTell_160 ?_
                                                      refine r_iconst (v := 0) (by decide) dX11_readTell_162 ?_
                                                      refine p_callV (As := [.int 11, .int 0]) (rest := []) (c_put (d := 0) hq hm11 ho11 261 0 (by decide) rfl (Nat.le_refl _)) rfl lkX11_163 imX9_put seX9_put rfl (by exact ((bU_n (by omega)).trans (((bU_n (by omega)).trans (bU_s _ _ _))))) rfl rfl (by omega) (Nat.le_of_ble_eq_true rfl) dX11_readTell_163 (fun v9 G9 h9 => ?_) (fun q9 G9 h9 => ⟨(fun x9 hx9 => by cases hx9), ?_⟩)
                                                      · rcases hR12 : pWr 261 0 st11 with ⟨ft12, pl12⟩ | st12
                                                        · rw [hR12] at h9; cases h9.1
                                                        · rw [hR12] at h9; obtain ⟨h8, at12, so12, mk12, nu12, di12, wo12, sg12, vl12, hm12, rfl⟩ := h9; cases h8
                                                          have ho12 : okS (k) (a + 1 + 1) st12 := pWr_ok (k := k) ho11 hR12
                                                          obtain ⟨p112, p212, p312, p412, p512⟩ := id ho12
                                                          have t12 := pWr_t hR12
                                                          show bV O _ d 166 [(1, .int 6), (0, .ref 50)] [] (bU (bU (bU (bU f 50 (.inr (11, [.int (u 0), .int (u 1), .int (u 2), .int (u 3), .int (u 4), .ref 51, .ref q, .ref 53, .ref 54, .int (u 5), .int (nI e), .int at12, .int so12, .int (nI st12.1.1), .int mk12, .int nu12, .int di12, .int (nI b), .int (nI i), .long wo12, .ref 55, .ref 56, .int (u 6), .int (u 7), .ref 57, .int (u 8), .ref 58, .ref 59, .ref 60, .ref 61, .ref 62, .ref 63, .int (u 9), .ref 64, .int (u 10)]))) q (.inr (9, [.int (nI st12.2.1), .int (nI st12.2.2.1.length), .int st12.2.2.2, .ref (q + 1), .ref (q + 2)]))) (q + 1) (.inl (0, 122, .inl sg12))) (q + 2) (.inl (0, 122, .inl vl12)), n, s) _
                                                          refine r_return rfl dX11_readTell_166 ?_
                                                          rw [show pTell bs e T b i st = .inr st12 by unfold pTell pIf; rw [if_pos q6, if_pos (show i < 8 by omega), w262, w263]; simp only [pPart_m, pTest, pB_a, pB_l, pB_r, hR1, hR2, hR3]; rw [if_pos (Or.inr (Or.inl q70))]; simp only [pPart_m, pB_a, pB_l, pB_r, hR4, hR5, hR6, hR7, hR8, hR9, hR10, hR11, hR12]]
                                                          exact ⟨rfl, _, _, _, _, _, _, _, _, hm12, rfl⟩
                                                      · rcases hR12 : pWr 261 0 st11 with ⟨ft12, pl12⟩ | st12
                                                        · rw [hR12] at h9
                                                          rw [show pTell bs e T b i st = .inl (ft12, pl12) by unfold pTell pIf; rw [if_pos q6, if_pos (show i < 8 by omega), w262, w263]; simp only [pPart_m, pTest, pB_a, pB_l, pB_r, hR1, hR2, hR3]; rw [if_pos (Or.inr (Or.inl q70))]; simp only [pPart_m, pB_a, pB_l, pB_r, hR4, hR5, hR6, hR7, hR8, hR9, hR10, hR11, hR12]]
                                                          exact h9
                                                        · rw [hR12] at h9; cases h9.1
                                                  · rcases hR11 : T b (i + 1) st10 with ⟨ft11, pl11⟩ | st11
                                                    · rw [hR11] at h9
                                                      rw [show pTell bs e T b i st = .inl (ft11, pl11) by unfold pTell pIf; rw [if_pos q6, if_pos (show i < 8 by omega), w262, w263]; simp only [pPart_m, pTest, pB_a, pB_l, pB_r, hR1, hR2, hR3]; rw [if_pos (Or.inr (Or.inl q70))]; simp only [pPart_m, pB_a, pB_l, pB_r, hR4, hR5, hR6, hR7, hR8, hR9, hR10, hR11]]
                                                      exact h9
                                                    · rw [hR11] at h9; cases h9.1
                                              · rcases hR10 : pTake bs e (nI (261 + 2)) st9 with ⟨ft10, pl10⟩ | st10
                                                · rw [hR10] at h9
                                                  rw [show pTell bs e T b i st = .inl (ft10, pl10) by unfold pTell pIf; rw [if_pos q6, if_pos (show i < 8 by omega), w262, w263]; simp only [pPart_m, pTest, pB_a, pB_l, pB_r, hR1, hR2, hR3]; rw [if_pos (Or.inr (Or.inl q70))]; simp only [pPart_m, pB_a, pB_l, pB_r, hR4, hR5, hR6, hR7, hR8, hR9, hR10]]
                                                  exact h9
                                                · rw [hR10] at h9; cases h9.1
                                          · rcases hR9 : T b (i + 1) st8 with ⟨ft9, pl9⟩ | st9
                                            · rw [hR9] at h9
                                              rw [show pTell bs e T b i st = .inl (ft9, pl9) by unfold pTell pIf; rw [if_pos q6, if_pos (show i < 8 by omega), w262, w263]; simp only [pPart_m, pTest, pB_a, pB_l, pB_r, hR1, hR2, hR3]; rw [if_pos (Or.inr (Or.inl q70))]; simp only [pPart_m, pB_a, pB_l, pB_r, hR4, hR5, hR6, hR7, hR8, hR9]]
                                              exact h9
                                            · rw [hR9] at h9; cases h9.1
                                      · rcases hR8 : pTake bs e (nI (261 + 1)) st7 with ⟨ft8, pl8⟩ | st8
                                        · rw [hR8] at h9
                                          rw [show pTell bs e T b i st = .inl (ft8, pl8) by unfold pTell pIf; rw [if_pos q6, if_pos (show i < 8 by omega), w262, w263]; simp only [pPart_m, pTest, pB_a, pB_l, pB_r, hR1, hR2, hR3]; rw [if_pos (Or.inr (Or.inl q70))]; simp only [pPart_m, pB_a, pB_l, pB_r, hR4, hR5, hR6, hR7, hR8]]
                                          exact h9
                                        · rw [hR8] at h9; cases h9.1
                                  · rcases hR7 : pWr st3.1.2.2.1 0 st6 with ⟨ft7, pl7⟩ | st7
                                    · rw [hR7] at h9
                                      rw [show pTell bs e T b i st = .inl (ft7, pl7) by unfold pTell pIf; rw [if_pos q6, if_pos (show i < 8 by omega), w262, w263]; simp only [pPart_m, pTest, pB_a, pB_l, pB_r, hR1, hR2, hR3]; rw [if_pos (Or.inr (Or.inl q70))]; simp only [pPart_m, pB_a, pB_l, pB_r, hR4, hR5, hR6, hR7]]
                                      exact h9
                                    · rw [hR7] at h9; cases h9.1
                              · rcases hR6 : pSum bs e T b (i + 1) st5 with ⟨ft6, pl6⟩ | st6
                                · rw [hR6] at h9
                                  rw [show pTell bs e T b i st = .inl (ft6, pl6) by unfold pTell pIf; rw [if_pos q6, if_pos (show i < 8 by omega), w262, w263]; simp only [pPart_m, pTest, pB_a, pB_l, pB_r, hR1, hR2, hR3]; rw [if_pos (Or.inr (Or.inl q70))]; simp only [pPart_m, pB_a, pB_l, pB_r, hR4, hR5, hR6]]
                                  exact h9
                                · rw [hR6] at h9; cases h9.1
                          · rcases hR5 : mNext bs e st4 with ⟨ft5, pl5⟩ | st5
                            · rw [hR5] at h9
                              rw [show pTell bs e T b i st = .inl (ft5, pl5) by unfold pTell pIf; rw [if_pos q6, if_pos (show i < 8 by omega), w262, w263]; simp only [pPart_m, pTest, pB_a, pB_l, pB_r, hR1, hR2, hR3]; rw [if_pos (Or.inr (Or.inl q70))]; simp only [pPart_m, pB_a, pB_l, pB_r, hR4, hR5]]
                              exact h9
                            · rw [hR5] at h9; cases h9.1
                      · rcases hR4 : mPart st3 with ⟨ft4, pl4⟩ | st4
                        · rw [hR4] at h9
                          rw [show pTell bs e T b i st = .inl (ft4, pl4) by unfold pTell pIf; rw [if_pos q6, if_pos (show i < 8 by omega), w262, w263]; simp only [pPart_m, pTest, pB_a, pB_l, pB_r, hR1, hR2, hR3]; rw [if_pos (Or.inr (Or.inl q70))]; simp only [pPart_m, pB_a, pB_l, pB_r, hR4]]
                          exact h9
                        · rw [hR4] at h9; cases h9.1
                  · have c57 := bI_1.mp c57
                    first | (have q57 : st3.1.2.2.1 = 60 := of_decide_eq_true c57) | (have q57 : ¬ st3.1.2.2.1 = 60 := of_decide_eq_false c57)
                    refine r_iconst (v := 5) (by decide) dX11_readTell_60 ?_
                    refine r_goto (tgt := 93) (by decide) dX11_readTell_61 ?_
                    refine r_istore_n (n := 1) (i := 1) (L' := [(1, .int 5), (0, .ref 50)]) rfl dX11_readTell_93 (by decide) rfl ?_
                    refine r_iload_n (n := 1) (i := 1) 0 rfl rfl dX11_readTell_94 ?_
                    refine r_iconst (v := (-1)) (by decide) dX11_readTell_95 ?_
                    refine r_icmp_ne (tgt := 105) (by decide) dX11_readTell_96 (fun _ => ?_) (fun h9 => absurd h9 (show ¬ (5 : Int32) = (-1) by decide))
                    refine r_aload_n (n := 0) (i := 0) 1 rfl rfl dX11_readTell_105 ?_
                    refine p_callV (As := []) (rest := []) (c_part (d := 1) hq h53 h54 e0 hb9 hm3 ho3 (Nat.le_refl _)) rfl lkX11_160 imX11_part seX11_part rfl (by exact ((bU_n (by omega)).trans (((bU_n (by omega)).trans (((bU_n (by omega)).trans (bU_s _ _ _))))))) rfl rfl (by omega) (Nat.le_of_ble_eq_true rfl) dX11_readTell_106 (fun v9 G9 h9 => ?_) (fun q9 G9 h9 => ⟨(fun x9 hx9 => by cases hx9), ?_⟩)
                    · rcases hR4 : mPart st3 with ⟨ft4, pl4⟩ | st4
                      · rw [hR4] at h9; cases h9.1
                      · rw [hR4] at h9; obtain ⟨h8, at4, so4, mk4, nu4, di4, wo4, sg4, vl4, hm4, rfl⟩ := h9; cases h8
                        have ho4 : okS (k + 1 + 1) (a + 1 + 1) st4 := mPart_ok ho3 hR4
                        obtain ⟨p14, p24, p34, p44, p54⟩ := id ho4
                        have t4 := mPart_t hR4
                        show bV O _ d 109 [(1, .int 5), (0, .ref 50)] [] (bU (bU (bU (bU f 50 (.inr (11, [.int (u 0), .int (u 1), .int (u 2), .int (u 3), .int (u 4), .ref 51, .ref q, .ref 53, .ref 54, .int (u 5), .int (nI e), .int at4, .int so4, .int (nI st4.1.1), .int mk4, .int nu4, .int di4, .int (nI b), .int (nI (i + 1)), .long wo4, .ref 55, .ref 56, .int (u 6), .int (u 7), .ref 57, .int (u 8), .ref 58, .ref 59, .ref 60, .ref 61, .ref 62, .ref 63, .int (u 9), .ref 64, .int (u 10)]))) q (.inr (9, [.int (nI st4.2.1), .int (nI st4.2.2.1.length), .int st4.2.2.2, .ref (q + 1), .ref (q + 2)]))) (q + 1) (.inl (0, 122, .inl sg4))) (q + 2) (.inl (0, 122, .inl vl4)), n, s) _
                        refine r_aload_n (n := 0) (i := 0) 1 rfl rfl dX11_readTell_109 ?_
                        refine p_callV (As := []) (rest := []) (c_nextM (d := 1) hq h53 h54 e0 hb9 hm4 ho4 (by simp only [t1, t4, q6, q57] <;> decide) (Nat.le_refl _)) rfl lkX11_140 imX11_next seX11_next rfl (by exact ((bU_n (by omega)).trans (((bU_n (by omega)).trans (((bU_n (by omega)).trans (bU_s _ _ _))))))) rfl rfl (by omega) (Nat.le_of_ble_eq_true rfl) dX11_readTell_110 (fun v9 G9 h9 => ?_) (fun q9 G9 h9 => ⟨(fun x9 hx9 => by cases hx9), ?_⟩)
                        · rcases hR5 : mNext bs e st4 with ⟨ft5, pl5⟩ | st5
                          · rw [hR5] at h9; cases h9.1
                          · rw [hR5] at h9; obtain ⟨h8, at5, so5, mk5, nu5, di5, wo5, sg5, vl5, hm5, rfl⟩ := h9; cases h8
                            have ho5 : okS (k + 1 + 1) (a + 1 + 1) st5 := mNext_ok e0 ho4 hR5
                            obtain ⟨p15, p25, p35, p45, p55⟩ := id ho5
                            show bV O _ d 113 [(1, .int 5), (0, .ref 50)] [] (bU (bU (bU (bU f 50 (.inr (11, [.int (u 0), .int (u 1), .int (u 2), .int (u 3), .int (u 4), .ref 51, .ref q, .ref 53, .ref 54, .int (u 5), .int (nI e), .int at5, .int so5, .int (nI st5.1.1), .int mk5, .int nu5, .int di5, .int (nI b), .int (nI (i + 1)), .long wo5, .ref 55, .ref 56, .int (u 6), .int (u 7), .ref 57, .int (u 8), .ref 58, .ref 59, .ref 60, .ref 61, .ref 62, .ref 63, .int (u 9), .ref 64, .int (u 10)]))) q (.inr (9, [.int (nI st5.2.1), .int (nI st5.2.2.1.length), .int st5.2.2.2, .ref (q + 1), .ref (q + 2)]))) (q + 1) (.inl (0, 122, .inl sg5))) (q + 2) (.inl (0, 122, .inl vl5)), n, s) _
                            refine r_aload_n (n := 0) (i := 0) 1 rfl rfl dX11_readTell_113 ?_
                            refine p_callV (As := []) (rest := []) (c_readSumM (d := dT + 4) hq h53 h54 e0 hb9 hm5 ho5  HT hT (b := b) (i := i + 1) (by omega) (by omega) (by omega) h20 (Nat.le_refl _)) rfl lkX11_154 imX11_readSum seX11_readSum rfl (by exact ((bU_n (by omega)).trans (((bU_n (by omega)).trans (((bU_n (by omega)).trans (bU_s _ _ _))))))) rfl rfl (by omega) (Nat.le_of_ble_eq_true rfl) dX11_readTell_114 (fun v9 G9 h9 => ?_) (fun q9 G9 h9 => ⟨(fun x9 hx9 => by cases hx9), ?_⟩)
                            · rcases hR6 : pSum bs e T b (i + 1) st5 with ⟨ft6, pl6⟩ | st6
                              · rw [hR6] at h9; cases h9.1
                              · rw [hR6] at h9; obtain ⟨h8, at6, so6, mk6, nu6, di6, wo6, sg6, vl6, hm6, rfl⟩ := h9; cases h8
                                have ho6 : okS (k + 1 + 1) (a + 1 + 1) st6 := pSum_ok e0 hT ho5 hR6
                                obtain ⟨p16, p26, p36, p46, p56⟩ := id ho6
                                show bV O _ d 117 [(1, .int 5), (0, .ref 50)] [] (bU (bU (bU (bU f 50 (.inr (11, [.int (u 0), .int (u 1), .int (u 2), .int (u 3), .int (u 4), .ref 51, .ref q, .ref 53, .ref 54, .int (u 5), .int (nI e), .int at6, .int so6, .int (nI st6.1.1), .int mk6, .int nu6, .int di6, .int (nI b), .int (nI (i + 1)), .long wo6, .ref 55, .ref 56, .int (u 6), .int (u 7), .ref 57, .int (u 8), .ref 58, .ref 59, .ref 60, .ref 61, .ref 62, .ref 63, .int (u 9), .ref 64, .int (u 10)]))) q (.inr (9, [.int (nI st6.2.1), .int (nI st6.2.2.1.length), .int st6.2.2.2, .ref (q + 1), .ref (q + 2)]))) (q + 1) (.inl (0, 122, .inl sg6))) (q + 2) (.inl (0, 122, .inl vl6)), n, s) _
                                refine r_aload_n (n := 0) (i := 0) 1 rfl rfl dX11_readTell_117 ?_
                                refine p_get (fs := [.int (u 0), .int (u 1), .int (u 2), .int (u 3), .int (u 4), .ref 51, .ref q, .ref 53, .ref 54, .int (u 5), .int (nI e), .int at6, .int so6, .int (nI st6.1.1), .int mk6, .int nu6, .int di6, .int (nI b), .int (nI (i + 1)), .long wo6, .ref 55, .ref 56, .int (u 6), .int (u 7), .ref 57, .int (u 8), .ref 58, .ref 59, .ref 60, .ref 61, .ref 62, .ref 63, .int (u 9), .ref 64, .int (u 10)]) flX11_22 (by exact ((bU_n (by omega)).trans (((bU_n (by omega)).trans (((bU_n (by omega)).trans (bU_s _ _ _))))))) rfl dX11_readTell_118 ?_
                                refine r_iload_n (n := 1) (i := 1) 0 rfl rfl dX11_readTell_121 ?_
                                refine r_iconst (v := 0) (by decide) dX11_readTell_122 ?_
                                refine p_callV (As := [.int 5, .int 0]) (rest := []) (c_put (d := 0) hq hm6 ho6 st3.1.2.2.1 0 (by rw [q57]; decide) rfl (Nat.le_refl _)) rfl lkX11_163 imX9_put seX9_put rfl (by exact ((bU_n (by omega)).trans (((bU_n (by omega)).trans (bU_s _ _ _))))) rfl rfl (by omega) (Nat.le_of_ble_eq_true rfl) dX11_readTell_123 (fun v9 G9 h9 => ?_) (fun q9 G9 h9 => ⟨(fun x9 hx9 => by cases hx9), ?_⟩)
                                · rcases hR7 : pWr st3.1.2.2.1 0 st6 with ⟨ft7, pl7⟩ | st7
                                  · rw [hR7] at h9; cases h9.1
                                  · rw [hR7] at h9; obtain ⟨h8, at7, so7, mk7, nu7, di7, wo7, sg7, vl7, hm7, rfl⟩ := h9; cases h8
                                    have ho7 : okS (k + 1) (a + 1 + 1) st7 := pWr_ok (k := k + 1) ho6 hR7
                                    obtain ⟨p17, p27, p37, p47, p57⟩ := id ho7
                                    have t7 := pWr_t hR7
                                    show bV O _ d 126 [(1, .int 5), (0, .ref 50)] [] (bU (bU (bU (bU f 50 (.inr (11, [.int (u 0), .int (u 1), .int (u 2), .int (u 3), .int (u 4), .ref 51, .ref q, .ref 53, .ref 54, .int (u 5), .int (nI e), .int at7, .int so7, .int (nI st7.1.1), .int mk7, .int nu7, .int di7, .int (nI b), .int (nI (i + 1)), .long wo7, .ref 55, .ref 56, .int (u 6), .int (u 7), .ref 57, .int (u 8), .ref 58, .ref 59, .ref 60, .ref 61, .ref 62, .ref 63, .int (u 9), .ref 64, .int (u 10)]))) q (.inr (9, [.int (nI st7.2.1), .int (nI st7.2.2.1.length), .int st7.2.2.2, .ref (q + 1), .ref (q + 2)]))) (q + 1) (.inl (0, 122, .inl sg7))) (q + 2) (.inl (0, 122, .inl vl7)), n, s) _
                                    refine r_aload_n (n := 0) (i := 0) 1 rfl rfl dX11_readTell_126 ?_
                                    refine r_ldcS (i := 1) (tx := "then") (by decide) (by decide) dX11_readTell_127 ?_
                                    refine p_callV (As := [.ref 2]) (rest := []) (c_needWord (d := 7) hq h53 h54 e0 hb9 hm7 ho7 (j9 := 1) (by decide) (Nat.le_refl _)) rfl lkX11_169 imX11_needWord seX11_needWord rfl (by exact ((bU_n (by omega)).trans (((bU_n (by omega)).trans (((bU_n (by omega)).trans (bU_s _ _ _))))))) rfl rfl (by omega) (Nat.le_of_ble_eq_true rfl) dX11_readTell_129 (fun v9 G9 h9 => ?_) (fun q9 G9 h9 => ⟨(fun x9 hx9 => by cases hx9), ?_⟩)
                                    · rcases hR8 : pTake bs e (nI (261 + 1)) st7 with ⟨ft8, pl8⟩ | st8
                                      · rw [hR8] at h9; cases h9.1
                                      · rw [hR8] at h9; obtain ⟨h8, at8, so8, mk8, nu8, di8, wo8, sg8, vl8, hm8, rfl⟩ := h9; cases h8
                                        have ho8 : okS (k + 1) (a + 1 + 1) st8 := pTake_ok e0 ho7 hR8
                                        obtain ⟨p18, p28, p38, p48, p58⟩ := id ho8
                                        show bV O _ d 132 [(1, .int 5), (0, .ref 50)] [] (bU (bU (bU (bU f 50 (.inr (11, [.int (u 0), .int (u 1), .int (u 2), .int (u 3), .int (u 4), .ref 51, .ref q, .ref 53, .ref 54, .int (u 5), .int (nI e), .int at8, .int so8, .int (nI st8.1.1), .int mk8, .int nu8, .int di8, .int (nI b), .int (nI (i + 1)), .long wo8, .ref 55, .ref 56, .int (u 6), .int (u 7), .ref 57, .int (u 8), .ref 58, .ref 59, .ref 60, .ref 61, .ref 62, .ref 63, .int (u 9), .ref 64, .int (u 10)]))) q (.inr (9, [.int (nI st8.2.1), .int (nI st8.2.2.1.length), .int st8.2.2.2, .ref (q + 1), .ref (q + 2)]))) (q + 1) (.inl (0, 122, .inl sg8))) (q + 2) (.inl (0, 122, .inl vl8)), n, s) _
                                        refine r_aload_n (n := 0) (i := 0) 1 rfl rfl dX11_readTell_132 ?_
                                        refine p_callV (As := []) (rest := []) (HT b (i + 1) _ _ st8 _ _ _ _ _ _ _ _ (by omega) (by omega) (by omega) hm8 ho8) rfl lkX11_173 imX11_readTell seX11_readTell rfl (by exact ((bU_n (by omega)).trans (((bU_n (by omega)).trans (((bU_n (by omega)).trans (bU_s _ _ _))))))) rfl rfl (by omega) (Nat.le_of_ble_eq_true rfl) dX11_readTell_133 (fun v9 G9 h9 => ?_) (fun q9 G9 h9 => ⟨(fun x9 hx9 => by cases hx9), ?_⟩)
                                        · rcases hR9 : T b (i + 1) st8 with ⟨ft9, pl9⟩ | st9
                                          · rw [hR9] at h9; cases h9.1
                                          · rw [hR9] at h9; obtain ⟨h8, at9, so9, mk9, nu9, di9, wo9, sg9, vl9, hm9, rfl⟩ := h9; cases h8
                                            have ho9 : okS (k + 1) (a + 1 + 1) st9 := hT _ _ _ _ _ _ ho8 hR9
                                            obtain ⟨p19, p29, p39, p49, p59⟩ := id ho9
                                            show bV O _ d 136 [(1, .int 5), (0, .ref 50)] [] (bU (bU (bU (bU f 50 (.inr (11, [.int (u 0), .int (u 1), .int (u 2), .int (u 3), .int (u 4), .ref 51, .ref q, .ref 53, .ref 54, .int (u 5), .int (nI e), .int at9, .int so9, .int (nI st9.1.1), .int mk9, .int nu9, .int di9, .int (nI b), .int (nI (i + 1)), .long wo9, .ref 55, .ref 56, .int (u 6), .int (u 7), .ref 57, .int (u 8), .ref 58, .ref 59, .ref 60, .ref 61, .ref 62, .ref 63, .int (u 9), .ref 64, .int (u 10)]))) q (.inr (9, [.int (nI st9.2.1), .int (nI st9.2.2.1.length), .int st9.2.2.2, .ref (q + 1), .ref (q + 2)]))) (q + 1) (.inl (0, 122, .inl sg9))) (q + 2) (.inl (0, 122, .inl vl9)), n, s) _
                                            refine r_aload_n (n := 0) (i := 0) 1 rfl rfl dX11_readTell_136 ?_
                                            refine r_ldcS (i := 2) (tx := "else") (by decide) (by decide) dX11_readTell_137 ?_
                                            refine p_callV (As := [.ref 3]) (rest := []) (c_needWord (d := 7) hq h53 h54 e0 hb9 hm9 ho9 (j9 := 2) (by decide) (Nat.le_refl _)) rfl lkX11_169 imX11_needWord seX11_needWord rfl (by exact ((bU_n (by omega)).trans (((bU_n (by omega)).trans (((bU_n (by omega)).trans (bU_s _ _ _))))))) rfl rfl (by omega) (Nat.le_of_ble_eq_true rfl) dX11_readTell_139 (fun v9 G9 h9 => ?_) (fun q9 G9 h9 => ⟨(fun x9 hx9 => by cases hx9), ?_⟩)
                                            · rcases hR10 : pTake bs e (nI (261 + 2)) st9 with ⟨ft10, pl10⟩ | st10
                                              · rw [hR10] at h9; cases h9.1
                                              · rw [hR10] at h9; obtain ⟨h8, at10, so10, mk10, nu10, di10, wo10, sg10, vl10, hm10, rfl⟩ := h9; cases h8
                                                have ho10 : okS (k + 1) (a + 1 + 1) st10 := pTake_ok e0 ho9 hR10
                                                obtain ⟨p110, p210, p310, p410, p510⟩ := id ho10
                                                show bV O _ d 142 [(1, .int 5), (0, .ref 50)] [] (bU (bU (bU (bU f 50 (.inr (11, [.int (u 0), .int (u 1), .int (u 2), .int (u 3), .int (u 4), .ref 51, .ref q, .ref 53, .ref 54, .int (u 5), .int (nI e), .int at10, .int so10, .int (nI st10.1.1), .int mk10, .int nu10, .int di10, .int (nI b), .int (nI (i + 1)), .long wo10, .ref 55, .ref 56, .int (u 6), .int (u 7), .ref 57, .int (u 8), .ref 58, .ref 59, .ref 60, .ref 61, .ref 62, .ref 63, .int (u 9), .ref 64, .int (u 10)]))) q (.inr (9, [.int (nI st10.2.1), .int (nI st10.2.2.1.length), .int st10.2.2.2, .ref (q + 1), .ref (q + 2)]))) (q + 1) (.inl (0, 122, .inl sg10))) (q + 2) (.inl (0, 122, .inl vl10)), n, s) _
                                                refine r_aload_n (n := 0) (i := 0) 1 rfl rfl dX11_readTell_142 ?_
                                                refine p_callV (As := []) (rest := []) (HT b (i + 1) _ _ st10 _ _ _ _ _ _ _ _ (by omega) (by omega) (by omega) hm10 ho10) rfl lkX11_173 imX11_readTell seX11_readTell rfl (by exact ((bU_n (by omega)).trans (((bU_n (by omega)).trans (((bU_n (by omega)).trans (bU_s _ _ _))))))) rfl rfl (by omega) (Nat.le_of_ble_eq_true rfl) dX11_readTell_143 (fun v9 G9 h9 => ?_) (fun q9 G9 h9 => ⟨(fun x9 hx9 => by cases hx9), ?_⟩)
                                                · rcases hR11 : T b (i + 1) st10 with ⟨ft11, pl11⟩ | st11
                                                  · rw [hR11] at h9; cases h9.1
                                                  · rw [hR11] at h9; obtain ⟨h8, at11, so11, mk11, nu11, di11, wo11, sg11, vl11, hm11, rfl⟩ := h9; cases h8
                                                    have ho11 : okS (k + 1) (a + 1 + 1) st11 := hT _ _ _ _ _ _ ho10 hR11
                                                    obtain ⟨p111, p211, p311, p411, p511⟩ := id ho11
                                                    show bV O _ d 146 [(1, .int 5), (0, .ref 50)] [] (bU (bU (bU (bU f 50 (.inr (11, [.int (u 0), .int (u 1), .int (u 2), .int (u 3), .int (u 4), .ref 51, .ref q, .ref 53, .ref 54, .int (u 5), .int (nI e), .int at11, .int so11, .int (nI st11.1.1), .int mk11, .int nu11, .int di11, .int (nI b), .int (nI (i + 1)), .long wo11, .ref 55, .ref 56, .int (u 6), .int (u 7), .ref 57, .int (u 8), .ref 58, .ref 59, .ref 60, .ref 61, .ref 62, .ref 63, .int (u 9), .ref 64, .int (u 10)]))) q (.inr (9, [.int (nI st11.2.1), .int (nI st11.2.2.1.length), .int st11.2.2.2, .ref (q + 1), .ref (q + 2)]))) (q + 1) (.inl (0, 122, .inl sg11))) (q + 2) (.inl (0, 122, .inl vl11)), n, s) _
                                                    refine r_aload_n (n := 0) (i := 0) 1 rfl rfl dX11_readTell_146 ?_
                                                    refine r_dup rfl dX11_readTell_147 ?_
                                                    refine p_get (fs := [.int (u 0), .int (u 1), .int (u 2), .int (u 3), .int (u 4), .ref 51, .ref q, .ref 53, .ref 54, .int (u 5), .int (nI e), .int at11, .int so11, .int (nI st11.1.1), .int mk11, .int nu11, .int di11, .int (nI b), .int (nI (i + 1)), .long wo11, .ref 55, .ref 56, .int (u 6), .int (u 7), .ref 57, .int (u 8), .ref 58, .ref 59, .ref 60, .ref 61, .ref 62, .ref 63, .int (u 9), .ref 64, .int (u 10)]) flX11_157 (by exact ((bU_n (by omega)).trans (((bU_n (by omega)).trans (((bU_n (by omega)).trans (bU_s _ _ _))))))) rfl dX11_readTell_148 ?_
                                                    refine r_iconst (v := 1) (by decide) dX11_readTell_151 ?_
                                                    refine r_isubE (v := nI ((i + 1) - 1)) (pk_sub (a := i + 1) (b := 1) (by omega)) dX11_readTell_152 ?_
                                                    refine p_put (fs := [.int (u 0), .int (u 1), .int (u 2), .int (u 3), .int (u 4), .ref 51, .ref q, .ref 53, .ref 54, .int (u 5), .int (nI e), .int at11, .int so11, .int (nI st11.1.1), .int mk11, .int nu11, .int di11, .int (nI b), .int (nI (i + 1)), .long wo11, .ref 55, .ref 56, .int (u 6), .int (u 7), .ref 57, .int (u 8), .ref 58, .ref 59, .ref 60, .ref 61, .ref 62, .ref 63, .int (u 9), .ref 64, .int (u 10)]) (fs' := [.int (u 0), .int (u 1), .int (u 2), .int (u 3), .int (u 4), .ref 51, .ref q, .ref 53, .ref 54, .int (u 5), .int (nI e), .int at11, .int so11, .int (nI st11.1.1), .int mk11, .int nu11, .int di11, .int (nI b), .int (nI ((i + 1) - 1)), .long wo11, .ref 55, .ref 56, .int (u 6), .int (u 7), .ref 57, .int (u 8), .ref 58, .ref 59, .ref 60, .ref 61, .ref 62, .ref 63, .int (u 9), .ref 64, .int (u 10)]) flX11_157 (by exact ((bU_n (by omega)).trans (((bU_n (by omega)).trans (((bU_n (by omega)).trans (bU_s _ _ _))))))) (Nat.le_of_ble_eq_true rfl) (bNf_i _) rfl dX11_readTell_153 ?_
                                                    refine bV_h (f2 := bU (bU (bU (bU f 50 (.inr (11, [.int (u 0), .int (u 1), .int (u 2), .int (u 3), .int (u 4), .ref 51, .ref q, .ref 53, .ref 54, .int (u 5), .int (nI e), .int at11, .int so11, .int (nI st11.1.1), .int mk11, .int nu11, .int di11, .int (nI b), .int (nI ((i + 1) - 1)), .long wo11, .ref 55, .ref 56, .int (u 6), .int (u 7), .ref 57, .int (u 8), .ref 58, .ref 59, .ref 60, .ref 61, .ref 62, .ref 63, .int (u 9), .ref 64, .int (u 10)]))) q (.inr (9, [.int (nI st11.2.1), .int (nI st11.2.2.1.length), .int st11.2.2.2, .ref (q + 1), .ref (q + 2)]))) (q + 1) (.inl (0, 122, .inl sg11))) (q + 2) (.inl (0, 122, .inl vl11))) (((bU_c (by omega)).trans (congrArg (fun z => bU z (q + 2) (.inl (0, 122, .inl vl11))) (((bU_c (by omega)).trans (congrArg (fun z => bU z (q + 1) (.inl (0, 122, .inl sg11))) (((bU_c (by omega)).trans (congrArg (fun z => bU z q (.inr (9, [.int (nI st11.2.1), .int (nI st11.2.2.1.length), .int st11.2.2.2, .ref (q + 1), .ref (q + 2)]))) (bU_u _ _ _ _)))))))))) ?_
                                                    show bV O _ d 156 [(1, .int 5), (0, .ref 50)] [] (bU (bU (bU (bU f 50 (.inr (11, [.int (u 0), .int (u 1), .int (u 2), .int (u 3), .int (u 4), .ref 51, .ref q, .ref 53, .ref 54, .int (u 5), .int (nI e), .int at11, .int so11, .int (nI st11.1.1), .int mk11, .int nu11, .int di11, .int (nI b), .int (nI i), .long wo11, .ref 55, .ref 56, .int (u 6), .int (u 7), .ref 57, .int (u 8), .ref 58, .ref 59, .ref 60, .ref 61, .ref 62, .ref 63, .int (u 9), .ref 64, .int (u 10)]))) q (.inr (9, [.int (nI st11.2.1), .int (nI st11.2.2.1.length), .int st11.2.2.2, .ref (q + 1), .ref (q + 2)]))) (q + 1) (.inl (0, 122, .inl sg11))) (q + 2) (.inl (0, 122, .inl vl11)), n, s) _
                                                    refine r_aload_n (n := 0) (i := 0) 1 rfl rfl dX11_readTell_156 ?_
                                                    refine p_get (fs := [.int (u 0), .int (u 1), .int (u 2), .int (u 3), .int (u 4), .ref 51, .ref q, .ref 53, .ref 54, .int (u 5), .int (nI e), .int at11, .int so11, .int (nI st11.1.1), .int mk11, .int nu11, .int di11, .int (nI b), .int (nI i), .long wo11, .ref 55, .ref 56, .int (u 6), .int (u 7), .ref 57, .int (u 8), .ref 58, .ref 59, .ref 60, .ref 61, .ref 62, .ref 63, .int (u 9), .ref 64, .int (u 10)]) flX11_22 (by exact ((bU_n (by omega)).trans (((bU_n (by omega)).trans (((bU_n (by omega)).trans (bU_s _ _ _))))))) rfl dX11_readTell_157 ?_
                                                    refine r_bipush (v := 11) (by decide) dX11_readTell_160 ?_
                                                    refine r_iconst (v := 0) (by decide) dX11_readTell_162 ?_
                                                    refine p_callV (As := [.int 11, .int 0]) (rest := []) (c_put (d := 0) hq hm11 ho11 261 0 (by decide) rfl (Nat.le_refl _)) rfl lkX11_163 imX9_put seX9_put rfl (by exact ((bU_n (by omega)).trans (((bU_n (by omega)).trans (bU_s _ _ _))))) rfl rfl (by omega) (Nat.le_of_ble_eq_true rfl) dX11_readTell_163 (fun v9 G9 h9 => ?_) (fun q9 G9 h9 => ⟨(fun x9 hx9 => by cases hx9), ?_⟩)
                                                    · rcases hR12 : pWr 261 0 st11 with ⟨ft12, pl12⟩ | st12
                                                      · rw [hR12] at h9; cases h9.1
                                                      · rw [hR12] at h9; obtain ⟨h8, at12, so12, mk12, nu12, di12, wo12, sg12, vl12, hm12, rfl⟩ := h9; cases h8
                                                        have ho12 : okS (k) (a + 1 + 1) st12 := pWr_ok (k := k) ho11 hR12
                                                        obtain ⟨p112, p212, p312, p412, p512⟩ := id ho12
                                                        have t12 := pWr_t hR12
                                                        show bV O _ d 166 [(1, .int 5), (0, .ref 50)] [] (bU (bU (bU (bU f 50 (.inr (11, [.int (u 0), .int (u 1), .int (u 2), .int (u 3), .int (u 4), .ref 51, .ref q, .ref 53, .ref 54, .int (u 5), .int (nI e), .int at12, .int so12, .int (nI st12.1.1), .int mk12, .int nu12, .int di12, .int (nI b), .int (nI i), .long wo12, .ref 55, .ref 56, .int (u 6), .int (u 7), .ref 57, .int (u 8), .ref 58, .ref 59, .ref 60, .ref 61, .ref 62, .ref 63, .int (u 9), .ref 64, .int (u 10)]))) q (.inr (9, [.int (nI st12.2.1), .int (nI st12.2.2.1.length), .int st12.2.2.2, .ref (q + 1), .ref (q + 2)]))) (q + 1) (.inl (0, 122, .inl sg12))) (q + 2) (.inl (0, 122, .inl vl12)), n, s) _
                                                        refine r_return rfl dX11_readTell_166 ?_
                                                        rw [show pTell bs e T b i st = .inr st12 by unfold pTell pIf; rw [if_pos q6, if_pos (show i < 8 by omega), w262, w263]; simp only [pPart_m, pTest, pB_a, pB_l, pB_r, hR1, hR2, hR3]; rw [if_pos (Or.inl q57)]; simp only [pPart_m, pB_a, pB_l, pB_r, hR4, hR5, hR6, hR7, hR8, hR9, hR10, hR11, hR12]]
                                                        exact ⟨rfl, _, _, _, _, _, _, _, _, hm12, rfl⟩
                                                    · rcases hR12 : pWr 261 0 st11 with ⟨ft12, pl12⟩ | st12
                                                      · rw [hR12] at h9
                                                        rw [show pTell bs e T b i st = .inl (ft12, pl12) by unfold pTell pIf; rw [if_pos q6, if_pos (show i < 8 by omega), w262, w263]; simp only [pPart_m, pTest, pB_a, pB_l, pB_r, hR1, hR2, hR3]; rw [if_pos (Or.inl q57)]; simp only [pPart_m, pB_a, pB_l, pB_r, hR4, hR5, hR6, hR7, hR8, hR9, hR10, hR11, hR12]]
                                                        exact h9
                                                      · rw [hR12] at h9; cases h9.1
                                                · rcases hR11 : T b (i + 1) st10 with ⟨ft11, pl11⟩ | st11
                                                  · rw [hR11] at h9
                                                    rw [show pTell bs e T b i st = .inl (ft11, pl11) by unfold pTell pIf; rw [if_pos q6, if_pos (show i < 8 by omega), w262, w263]; simp only [pPart_m, pTest, pB_a, pB_l, pB_r, hR1, hR2, hR3]; rw [if_pos (Or.inl q57)]; simp only [pPart_m, pB_a, pB_l, pB_r, hR4, hR5, hR6, hR7, hR8, hR9, hR10, hR11]]
                                                    exact h9
                                                  · rw [hR11] at h9; cases h9.1
                                            · rcases hR10 : pTake bs e (nI (261 + 2)) st9 with ⟨ft10, pl10⟩ | st10
                                              · rw [hR10] at h9
                                                rw [show pTell bs e T b i st = .inl (ft10, pl10) by unfold pTell pIf; rw [if_pos q6, if_pos (show i < 8 by omega), w262, w263]; simp only [pPart_m, pTest, pB_a, pB_l, pB_r, hR1, hR2, hR3]; rw [if_pos (Or.inl q57)]; simp only [pPart_m, pB_a, pB_l, pB_r, hR4, hR5, hR6, hR7, hR8, hR9, hR10]]
                                                exact h9
                                              · rw [hR10] at h9; cases h9.1
                                        · rcases hR9 : T b (i + 1) st8 with ⟨ft9, pl9⟩ | st9
                                          · rw [hR9] at h9
                                            rw [show pTell bs e T b i st = .inl (ft9, pl9) by unfold pTell pIf; rw [if_pos q6, if_pos (show i < 8 by omega), w262, w263]; simp only [pPart_m, pTest, pB_a, pB_l, pB_r, hR1, hR2, hR3]; rw [if_pos (Or.inl q57)]; simp only [pPart_m, pB_a, pB_l, pB_r, hR4, hR5, hR6, hR7, hR8, hR9]]
                                            exact h9
                                          · rw [hR9] at h9; cases h9.1
                                    · rcases hR8 : pTake bs e (nI (261 + 1)) st7 with ⟨ft8, pl8⟩ | st8
                                      · rw [hR8] at h9
                                        rw [show pTell bs e T b i st = .inl (ft8, pl8) by unfold pTell pIf; rw [if_pos q6, if_pos (show i < 8 by omega), w262, w263]; simp only [pPart_m, pTest, pB_a, pB_l, pB_r, hR1, hR2, hR3]; rw [if_pos (Or.inl q57)]; simp only [pPart_m, pB_a, pB_l, pB_r, hR4, hR5, hR6, hR7, hR8]]
                                        exact h9
                                      · rw [hR8] at h9; cases h9.1
                                · rcases hR7 : pWr st3.1.2.2.1 0 st6 with ⟨ft7, pl7⟩ | st7
                                  · rw [hR7] at h9
                                    rw [show pTell bs e T b i st = .inl (ft7, pl7) by unfold pTell pIf; rw [if_pos q6, if_pos (show i < 8 by omega), w262, w263]; simp only [pPart_m, pTest, pB_a, pB_l, pB_r, hR1, hR2, hR3]; rw [if_pos (Or.inl q57)]; simp only [pPart_m, pB_a, pB_l, pB_r, hR4, hR5, hR6, hR7]]
                                    exact h9
                                  · rw [hR7] at h9; cases h9.1
                            · rcases hR6 : pSum bs e T b (i + 1) st5 with ⟨ft6, pl6⟩ | st6
                              · rw [hR6] at h9
                                rw [show pTell bs e T b i st = .inl (ft6, pl6) by unfold pTell pIf; rw [if_pos q6, if_pos (show i < 8 by omega), w262, w263]; simp only [pPart_m, pTest, pB_a, pB_l, pB_r, hR1, hR2, hR3]; rw [if_pos (Or.inl q57)]; simp only [pPart_m, pB_a, pB_l, pB_r, hR4, hR5, hR6]]
                                exact h9
                              · rw [hR6] at h9; cases h9.1
                        · rcases hR5 : mNext bs e st4 with ⟨ft5, pl5⟩ | st5
                          · rw [hR5] at h9
                            rw [show pTell bs e T b i st = .inl (ft5, pl5) by unfold pTell pIf; rw [if_pos q6, if_pos (show i < 8 by omega), w262, w263]; simp only [pPart_m, pTest, pB_a, pB_l, pB_r, hR1, hR2, hR3]; rw [if_pos (Or.inl q57)]; simp only [pPart_m, pB_a, pB_l, pB_r, hR4, hR5]]
                            exact h9
                          · rw [hR5] at h9; cases h9.1
                    · rcases hR4 : mPart st3 with ⟨ft4, pl4⟩ | st4
                      · rw [hR4] at h9
                        rw [show pTell bs e T b i st = .inl (ft4, pl4) by unfold pTell pIf; rw [if_pos q6, if_pos (show i < 8 by omega), w262, w263]; simp only [pPart_m, pTest, pB_a, pB_l, pB_r, hR1, hR2, hR3]; rw [if_pos (Or.inl q57)]; simp only [pPart_m, pB_a, pB_l, pB_r, hR4]]
                        exact h9
                      · rw [hR4] at h9; cases h9.1
              · rcases hR3 : pSum bs e T b (i + 1) st2 with ⟨ft3, pl3⟩ | st3
                · rw [hR3] at h9
                  rw [show pTell bs e T b i st = .inl (ft3, pl3) by unfold pTell pIf; rw [if_pos q6, if_pos (show i < 8 by omega), w262, w263]; simp only [pPart_m, pTest, pB_a, pB_l, pB_r, hR1, hR2, hR3]]
                  exact h9
                · rw [hR3] at h9; cases h9.1
          · rcases hR2 : mNext bs e st1 with ⟨ft2, pl2⟩ | st2
            · rw [hR2] at h9
              rw [show pTell bs e T b i st = .inl (ft2, pl2) by unfold pTell pIf; rw [if_pos q6, if_pos (show i < 8 by omega), w262, w263]; simp only [pPart_m, pTest, pB_a, pB_l, pB_r, hR1, hR2]]
              exact h9
            · rw [hR2] at h9; cases h9.1
      · rcases hR1 : mPart st with ⟨ft1, pl1⟩ | st1
        · rw [hR1] at h9
          rw [show pTell bs e T b i st = .inl (ft1, pl1) by unfold pTell pIf; rw [if_pos q6, if_pos (show i < 8 by omega), w262, w263]; simp only [pPart_m, pTest, pB_a, pB_l, pB_r, hR1]]
          exact h9
        · rw [hR1] at h9; cases h9.1
    · have c20 : i = 8 := (nI_eq (a := i) (b := 8) (by omega) (by omega)).mp c20
      refine r_aload_n (n := 0) (i := 0) 0 rfl rfl dX11_readTell_23 ?_
      refine r_iconst (v := 3) (by decide) dX11_readTell_24 ?_
      refine p_callV (As := [.int 3]) (rest := []) (kX11_stop (O := O) (d := 0) (f := bU (bU (bU (bU f 50 (.inr (11, [.int (u 0), .int (u 1), .int (u 2), .int (u 3), .int (u 4), .ref 51, .ref q, .ref 53, .ref 54, .int (u 5), .int (nI e), .int at_, .int so, .int (nI st.1.1), .int mk, .int nu, .int di, .int (nI b), .int (nI i), .long wo, .ref 55, .ref 56, .int (u 6), .int (u 7), .ref 57, .int (u 8), .ref 58, .ref 59, .ref 60, .ref 61, .ref 62, .ref 63, .int (u 9), .ref 64, .int (u 10)]))) q (.inr (9, [.int (nI st.2.1), .int (nI st.2.2.1.length), .int st.2.2.2, .ref (q + 1), .ref (q + 2)]))) (q + 1) (.inl (0, 122, .inl sg))) (q + 2) (.inl (0, 122, .inl vl))) (n := n) (s := s) (q := q) (e := e) (at_ := at_) (so := so) (pl := nI st.1.1) (mk := mk) (nu := nu) (di := di) (br := nI b) (iff := nI i) (wo := wo) (x := 3) (kd := kd) (sp := sp) (by exact ((bU_n (by omega)).trans (((bU_n (by omega)).trans (((bU_n (by omega)).trans (bU_s _ _ _))))))) (by exact ((bU_n (by omega)).trans (((bU_n (by omega)).trans (((bU_n (by omega)).trans (((bU_n (by decide)).trans (h53)))))))))  (Nat.le_refl _)).call rfl lkX11_137 imX11_stop seX11_stop rfl (by exact ((bU_n (by omega)).trans (((bU_n (by omega)).trans (((bU_n (by omega)).trans (bU_s _ _ _))))))) rfl rfl (by omega) (Nat.le_of_ble_eq_true rfl) dX11_readTell_25 (fun v9 G9 h9 => ?_) (fun q9 G9 h9 => (by cases h9.1))
      obtain ⟨h8, rfl⟩ := h9; cases h8
      show bV O _ d 28 [(0, .ref 50)] [.ref 53] (bU (bU (bU (bU (bU f 50 (.inr (11, [.int (u 0), .int (u 1), .int (u 2), .int (u 3), .int (u 4), .ref 51, .ref q, .ref 53, .ref 54, .int (u 5), .int (nI e), .int at_, .int so, .int (nI st.1.1), .int mk, .int nu, .int di, .int (nI b), .int (nI i), .long wo, .ref 55, .ref 56, .int (u 6), .int (u 7), .ref 57, .int (u 8), .ref 58, .ref 59, .ref 60, .ref 61, .ref 62, .ref 63, .int (u 9), .ref 64, .int (u 10)]))) q (.inr (9, [.int (nI st.2.1), .int (nI st.2.2.1.length), .int st.2.2.2, .ref (q + 1), .ref (q + 2)]))) (q + 1) (.inl (0, 122, .inl sg))) (q + 2) (.inl (0, 122, .inl vl))) 53 (.inr (10, [.null, .null, .null, .null, .null, .int 0, .int 3, .int (nI st.1.1)])), n, s) _
      refine p_athrow (by decide) (by exact bU_s _ _ _) rfl (fun x hx => by cases hx) dX11_readTell_28 ?_
      rw [show pTell bs e T b i st = .inl (3, st.1.1) by unfold pTell pIf; rw [if_pos q6, if_neg (by omega)]]
      exact ⟨rfl, _, _, _, _, _, _, _, _, _, _, _, _, _, _, rfl⟩
  · have c6 := bI_0.mp c6
    first | (have q6 : st.1.2.2.1 = 261 := (by have h7 := of_decide_eq_true c6; rwa [show nI (261 + 0) = 261 by decide] at h7)) | (have q6 : ¬ st.1.2.2.1 = 261 := (by have h7 := of_decide_eq_false c6; rwa [show nI (261 + 0) = 261 by decide] at h7))
    refine r_aload_n (n := 0) (i := 0) 0 rfl rfl dX11_readTell_9 ?_
    refine p_callV (As := []) (rest := []) (c_readSumM (d := dT + 4) hq h53 h54 e0 hb9 hm ho  HT hT (b := b) (i := i) (by omega) (by omega) (by omega) h20 (Nat.le_refl _)) rfl lkX11_154 imX11_readSum seX11_readSum rfl (by exact ((bU_n (by omega)).trans (((bU_n (by omega)).trans (((bU_n (by omega)).trans (bU_s _ _ _))))))) rfl rfl (by omega) (Nat.le_of_ble_eq_true rfl) dX11_readTell_10 (fun v9 G9 h9 => ?_) (fun q9 G9 h9 => ⟨(fun x9 hx9 => by cases hx9), ?_⟩)
    · rcases hR1 : pSum bs e T b i st with ⟨ft1, pl1⟩ | st1
      · rw [hR1] at h9; cases h9.1
      · rw [hR1] at h9; obtain ⟨h8, at1, so1, mk1, nu1, di1, wo1, sg1, vl1, hm1, rfl⟩ := h9; cases h8
        have ho1 : okS (k) (a) st1 := pSum_ok e0 hT ho hR1
        obtain ⟨p11, p21, p31, p41, p51⟩ := id ho1
        show bV O _ d 13 [(0, .ref 50)] [] (bU (bU (bU (bU f 50 (.inr (11, [.int (u 0), .int (u 1), .int (u 2), .int (u 3), .int (u 4), .ref 51, .ref q, .ref 53, .ref 54, .int (u 5), .int (nI e), .int at1, .int so1, .int (nI st1.1.1), .int mk1, .int nu1, .int di1, .int (nI b), .int (nI i), .long wo1, .ref 55, .ref 56, .int (u 6), .int (u 7), .ref 57, .int (u 8), .ref 58, .ref 59, .ref 60, .ref 61, .ref 62, .ref 63, .int (u 9), .ref 64, .int (u 10)]))) q (.inr (9, [.int (nI st1.2.1), .int (nI st1.2.2.1.length), .int st1.2.2.2, .ref (q + 1), .ref (q + 2)]))) (q + 1) (.inl (0, 122, .inl sg1))) (q + 2) (.inl (0, 122, .inl vl1)), n, s) _
        refine r_return rfl dX11_readTell_13 ?_
        rw [show pTell bs e T b i st = .inr st1 by unfold pTell; rw [if_neg q6]; exact hR1]
        exact ⟨rfl, _, _, _, _, _, _, _, _, hm1, rfl⟩
    · rcases hR1 : pSum bs e T b i st with ⟨ft1, pl1⟩ | st1
      · rw [hR1] at h9
        rw [show pTell bs e T b i st = .inl (ft1, pl1) by unfold pTell; rw [if_neg q6]; exact hR1]
        exact h9
      · rw [hR1] at h9; cases h9.1
theorem c_RM {O : bO} {d : Nat} {f : bF} {n s : Nat} {u : Nat → Int32} {q e : Nat} {tg bs : Nat → Int32} {kd sp : Int32} (hq : 5000 ≤ q) (h53 : f 53 = some (.inr (10, [.null, .null, .null, .null, .null, .int 0, .int kd, .int sp]))) (h54 : f 54 = some (.inl (1, 300, .inl tg))) (e0 : e ≤ 300) (hb9 : ∀ z, z < 300 → tg z &&& 255 = bs z) : ∀ D : Nat, RM O (20 + 5 * D) D f n s u q e (tellS bs e D) := by
  intro D
  induction D with
  | zero => intro b i k a st at_ so mk nu di wo sg vl h1 h2 h3; exact absurd h3 (by omega)
  | succ D ih =>
    intro b i k a st at_ so mk nu di wo sg vl h1 h2 h3 hm ho
    exact c_readTellM hq h53 h54 e0 hb9 hm ho ih (tellS_ok e0 D) h1 h2 (by omega) (by omega) (by omega)
