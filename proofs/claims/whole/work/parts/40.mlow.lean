/-! ===== the reference: its small parts (printed by wip/gen/mlow.py) ===== -/
def jIn (v lo hi : Int32) : Bool := !decide (v < lo) && !decide (hi < v)
/-- a letter of a String constant -/
def chS (i j : Nat) : Int32 := ((((bByt.getD i []).getD j 0 &&& 255)).toUInt32 % 65536).toInt32
def wF (i : Nat) : Nat → Nat → Int64 → Int64
  | 0, _, v => v
  | m + 1, j, v => wF i m (j + 1) (32 * v + (chS i j - 97 + 1).toInt64)
/-- a word as one number -/
def hW (i : Nat) : Int64 := wF i (bLen.getD i 0) 0 0
set_option maxRecDepth 4000 in
theorem kX11_in {O : bO} {d : Nat} {f : bF} {n s : Nat} {v : Int32} {lo : Int32} {hi : Int32}   (hd : 0 ≤ d) : bMt O mX11_in d [.int v, .int lo, .int hi] (f, n, s) (.inl (some (.int (bI (jIn v lo hi))))) (f, n, s) := by
  refine bMt_of (bCall_of (by decide) rfl (Nat.le_of_ble_eq_true rfl) ?_)
  show bV O _ d 0 [(0, .int v), (1, .int lo), (2, .int hi)] [] (f, n, s) _
  refine r_iload_n (n := 0) (i := 0) 0 rfl rfl dX11_in_0 ?_
  refine r_iload_n (n := 1) (i := 1) 1 rfl rfl dX11_in_1 ?_
  refine r_icmp_lt (tgt := 14) (by decide) dX11_in_2 (fun c2 => ?_) (fun c2 => ?_)
  · refine r_iconst (v := 0) (by decide) dX11_in_14 ?_
    refine r_zreturn rfl (by first | decide +kernel | exact narZ _ | assumption) dX11_in_15 ?_
    refine ⟨?_, rfl⟩
    first | rfl | simp [jIn, bI, c2]
  · refine r_iload_n (n := 0) (i := 0) 0 rfl rfl dX11_in_5 ?_
    refine r_iload_n (n := 2) (i := 2) 2 rfl rfl dX11_in_6 ?_
    refine r_icmp_gt (tgt := 14) (by decide) dX11_in_7 (fun c7 => ?_) (fun c7 => ?_)
    · refine r_iconst (v := 0) (by decide) dX11_in_14 ?_
      refine r_zreturn rfl (by first | decide +kernel | exact narZ _ | assumption) dX11_in_15 ?_
      refine ⟨?_, rfl⟩
      first | rfl | simp [jIn, bI, c2, c7]
    · refine r_iconst (v := 1) (by decide) dX11_in_10 ?_
      refine r_goto (tgt := 15) (by decide) dX11_in_11 ?_
      refine r_zreturn rfl (by first | decide +kernel | exact narZ _ | assumption) dX11_in_15 ?_
      refine ⟨?_, rfl⟩
      first | rfl | simp [jIn, bI, c2, c7]
set_option maxRecDepth 4000 in
theorem kX11_isLetter {O : bO} {d : Nat} {f : bF} {n s : Nat} {x : Int32}   (hd : 0 ≤ d) : bMt O mX11_isLetter d [.int x] (f, n, s) (.inl (some (.int (bI (jLetter x))))) (f, n, s) := by
  refine bMt_of (bCall_of (by decide) rfl (Nat.le_of_ble_eq_true rfl) ?_)
  show bV O _ d 0 [(0, .int x)] [] (f, n, s) _
  refine r_iload_n (n := 0) (i := 0) 0 rfl rfl dX11_isLetter_0 ?_
  refine r_bipush (v := 97) (by decide) dX11_isLetter_1 ?_
  refine r_icmp_lt (tgt := 16) (by decide) dX11_isLetter_3 (fun c3 => ?_) (fun c3 => ?_)
  · refine r_iconst (v := 0) (by decide) dX11_isLetter_16 ?_
    refine r_zreturn rfl (by first | decide +kernel | exact narZ _ | assumption) dX11_isLetter_17 ?_
    refine ⟨?_, rfl⟩
    first | rfl | simp [jLetter, bI, c3]
  · refine r_iload_n (n := 0) (i := 0) 0 rfl rfl dX11_isLetter_6 ?_
    refine r_bipush (v := 122) (by decide) dX11_isLetter_7 ?_
    refine r_icmp_gt (tgt := 16) (by decide) dX11_isLetter_9 (fun c9 => ?_) (fun c9 => ?_)
    · refine r_iconst (v := 0) (by decide) dX11_isLetter_16 ?_
      refine r_zreturn rfl (by first | decide +kernel | exact narZ _ | assumption) dX11_isLetter_17 ?_
      refine ⟨?_, rfl⟩
      first | rfl | simp [jLetter, bI, c3, c9]
    · refine r_iconst (v := 1) (by decide) dX11_isLetter_12 ?_
      refine r_goto (tgt := 17) (by decide) dX11_isLetter_13 ?_
      refine r_zreturn rfl (by first | decide +kernel | exact narZ _ | assumption) dX11_isLetter_17 ?_
      refine ⟨?_, rfl⟩
      first | rfl | simp [jLetter, bI, c3, c9]
set_option maxRecDepth 4000 in
theorem kX11_isDigit {O : bO} {d : Nat} {f : bF} {n s : Nat} {x : Int32}   (hd : 0 ≤ d) : bMt O mX11_isDigit d [.int x] (f, n, s) (.inl (some (.int (bI (jDigit x))))) (f, n, s) := by
  refine bMt_of (bCall_of (by decide) rfl (Nat.le_of_ble_eq_true rfl) ?_)
  show bV O _ d 0 [(0, .int x)] [] (f, n, s) _
  refine r_iload_n (n := 0) (i := 0) 0 rfl rfl dX11_isDigit_0 ?_
  refine r_bipush (v := 48) (by decide) dX11_isDigit_1 ?_
  refine r_icmp_lt (tgt := 16) (by decide) dX11_isDigit_3 (fun c3 => ?_) (fun c3 => ?_)
  · refine r_iconst (v := 0) (by decide) dX11_isDigit_16 ?_
    refine r_zreturn rfl (by first | decide +kernel | exact narZ _ | assumption) dX11_isDigit_17 ?_
    refine ⟨?_, rfl⟩
    first | rfl | simp [jDigit, bI, c3]
  · refine r_iload_n (n := 0) (i := 0) 0 rfl rfl dX11_isDigit_6 ?_
    refine r_bipush (v := 57) (by decide) dX11_isDigit_7 ?_
    refine r_icmp_gt (tgt := 16) (by decide) dX11_isDigit_9 (fun c9 => ?_) (fun c9 => ?_)
    · refine r_iconst (v := 0) (by decide) dX11_isDigit_16 ?_
      refine r_zreturn rfl (by first | decide +kernel | exact narZ _ | assumption) dX11_isDigit_17 ?_
      refine ⟨?_, rfl⟩
      first | rfl | simp [jDigit, bI, c3, c9]
    · refine r_iconst (v := 1) (by decide) dX11_isDigit_12 ?_
      refine r_goto (tgt := 17) (by decide) dX11_isDigit_13 ?_
      refine r_zreturn rfl (by first | decide +kernel | exact narZ _ | assumption) dX11_isDigit_17 ?_
      refine ⟨?_, rfl⟩
      first | rfl | simp [jDigit, bI, c3, c9]
theorem lp_wordOf {O : bO} {d : Nat} {f : bF} {n s : Nat} {i : Nat} (e0 : i < 7) (hd : 5 ≤ d) : ∀ (m j : Nat) (v : Int64), j + m = bLen.getD i 0 → bV O mX11_wordOf d 4 [(3, .int (nI j)), (1, .long v), (0, .ref (i + 1))] [] (f, n, s) (fun r G' => r = .inl (some (.long (wF i m j v))) ∧ G' = (f, n, s)) := by
  have hb : bLen.getD i 0 < 30 := by rcases (show i = 0 ∨ i = 1 ∨ i = 2 ∨ i = 3 ∨ i = 4 ∨ i = 5 ∨ i = 6 by omega) with rfl | rfl | rfl | rfl | rfl | rfl | rfl <;> decide
  intro m
  induction m with
  | zero =>
    intro j v hj
    show bV O _ d 4 [(3, .int (nI j)), (1, .long v), (0, .ref (i + 1))] [] (f, n, s) _
    refine r_iload_n (n := 3) (i := 3) 0 rfl rfl dX11_wordOf_4 ?_
    refine r_aload_n (n := 0) (i := 0) 2 rfl rfl dX11_wordOf_5 ?_
    refine p_callVS (i := i) (As := []) (rest := [.int (nI j)]) (kJ0_length_8abf5 (O := O) (d := 1) (f := f) (n := n) (s := s) (i := i)  (by first | assumption | omega | decide) (Nat.le_refl _)).call rfl lkX11_87 imJ0_length_8abf5 seJ0_length_8abf5 rfl e0 rfl (by omega) (Nat.le_of_ble_eq_true rfl) dX11_wordOf_6 (fun v9 G9 h9 => ?_) (fun q9 G9 h9 => (by cases h9.1))
    obtain ⟨h8, rfl⟩ := h9; cases h8
    show bV O _ d 9 [(3, .int (nI j)), (1, .long v), (0, .ref (i + 1))] [.int (nI (bLen.getD i 0)), .int (nI j)] (f, n, s) _
    refine r_icmp_ge (tgt := 36) (by decide) dX11_wordOf_9 (fun _ => ?_) (fun h9 => absurd ((nI_leI (a := (bLen.getD i 0)) (b := j) (by omega) (by omega)).mpr (by omega)) h9)
    refine r_lload_n (n := 1) (i := 1) 1 rfl rfl dX11_wordOf_36 ?_
    refine r_lreturn rfl dX11_wordOf_37 ?_
    exact ⟨rfl, rfl⟩
  | succ m ih =>
    intro j v hj
    show bV O _ d 4 [(3, .int (nI j)), (1, .long v), (0, .ref (i + 1))] [] (f, n, s) _
    refine r_iload_n (n := 3) (i := 3) 0 rfl rfl dX11_wordOf_4 ?_
    refine r_aload_n (n := 0) (i := 0) 2 rfl rfl dX11_wordOf_5 ?_
    refine p_callVS (i := i) (As := []) (rest := [.int (nI j)]) (kJ0_length_8abf5 (O := O) (d := 1) (f := f) (n := n) (s := s) (i := i)  (by first | assumption | omega | decide) (Nat.le_refl _)).call rfl lkX11_87 imJ0_length_8abf5 seJ0_length_8abf5 rfl e0 rfl (by omega) (Nat.le_of_ble_eq_true rfl) dX11_wordOf_6 (fun v9 G9 h9 => ?_) (fun q9 G9 h9 => (by cases h9.1))
    obtain ⟨h8, rfl⟩ := h9; cases h8
    show bV O _ d 9 [(3, .int (nI j)), (1, .long v), (0, .ref (i + 1))] [.int (nI (bLen.getD i 0)), .int (nI j)] (f, n, s) _
    refine r_icmp_ge (tgt := 36) (by decide) dX11_wordOf_9 (fun h9 => absurd h9 (fun h7 => absurd ((nI_leI (a := (bLen.getD i 0)) (b := j) (by omega) (by omega)).mp h7) (by omega))) (fun _ => ?_)
    refine r_ldc2 ckX11_93 dX11_wordOf_12 ?_
    refine r_lload_n (n := 1) (i := 1) 1 rfl rfl dX11_wordOf_15 ?_
    refine r_lmul dX11_wordOf_16 ?_
    refine r_aload_n (n := 0) (i := 0) 2 rfl rfl dX11_wordOf_17 ?_
    refine r_iload_n (n := 3) (i := 3) 0 rfl rfl dX11_wordOf_18 ?_
    refine p_callVS (i := i) (As := [.int (nI j)]) (rest := [.long (32 * v)]) (kJ0_charAt_5068e (O := O) (d := 3) (f := f) (n := n) (s := s) (i := i) (j := nI j)  (by first | assumption | omega | decide) (vp_in_nI (by omega) (by omega)) (Nat.le_refl _)).call rfl lkX11_95 imJ0_charAt_5068e seJ0_charAt_5068e rfl e0 rfl (by omega) (Nat.le_of_ble_eq_true rfl) dX11_wordOf_19 (fun v9 G9 h9 => ?_) (fun q9 G9 h9 => (by cases h9.1))
    obtain ⟨h8, rfl⟩ := h9; cases h8
    show bV O _ d 22 [(3, .int (nI j)), (1, .long v), (0, .ref (i + 1))] [.int (((((bByt.getD i []).getD (nI j).toNatClampNeg 0 &&& 255)).toUInt32 % 65536).toInt32), .long (32 * v)] (f, n, s) _
    refine r_bipush (v := 97) (by decide) dX11_wordOf_22 ?_
    refine r_isub dX11_wordOf_24 ?_
    refine r_iconst (v := 1) (by decide) dX11_wordOf_25 ?_
    refine r_iadd dX11_wordOf_26 ?_
    refine r_i2l dX11_wordOf_27 ?_
    refine r_ladd dX11_wordOf_28 ?_
    refine r_lstore_n (n := 1) (i := 1) (L' := [(1, .long ((32 * v) + ((((((((bByt.getD i []).getD (nI j).toNatClampNeg 0 &&& 255)).toUInt32 % 65536).toInt32) - 97) + 1).toInt64))), (3, .int (nI j)), (0, .ref (i + 1))]) rfl dX11_wordOf_29 (by decide) rfl ?_
    refine r_iinc (i := 3) (v := nI (j + 1)) (L' := [(3, .int (nI (j + 1))), (1, .long ((32 * v) + ((((((((bByt.getD i []).getD (nI j).toNatClampNeg 0 &&& 255)).toUInt32 % 65536).toInt32) - 97) + 1).toInt64))), (0, .ref (i + 1))]) 1 rfl (nI_inc1 j) dX11_wordOf_30 (by decide) rfl ?_
    refine r_goto (tgt := 4) (by decide) dX11_wordOf_33 ?_
    rw [show (nI j).toNatClampNeg = j from nI_clamp (by omega)]; refine bV_loc [0, 1, 2] rfl ?_; exact ih (j + 1) _ (by omega)
set_option maxRecDepth 4000 in
theorem kX11_wordOf {O : bO} {d : Nat} {f : bF} {n s : Nat} {i : Nat}  (e0 : i < 7) (hd : 5 ≤ d) : bMt O mX11_wordOf d [.ref (i + 1)] (f, n, s) (.inl (some (.long (hW i)))) (f, n, s) := by
  refine bMt_of (bCall_of (by decide) rfl (Nat.le_of_ble_eq_true rfl) ?_)
  show bV O _ d 0 [(0, .ref (i + 1))] [] (f, n, s) _
  refine r_lconst (v := 0) (by decide) dX11_wordOf_0 ?_
  refine r_lstore_n (n := 1) (i := 1) (L' := [(1, .long 0), (0, .ref (i + 1))]) rfl dX11_wordOf_1 (by decide) rfl ?_
  refine r_iconst (v := 0) (by decide) dX11_wordOf_2 ?_
  refine r_istore_n (n := 3) (i := 3) (L' := [(3, .int 0), (1, .long 0), (0, .ref (i + 1))]) rfl dX11_wordOf_3 (by decide) rfl ?_
  exact lp_wordOf e0 (by omega) (bLen.getD i 0) 0 0 (by omega)
/-- what a word without a digit is -/
def kwd (wo : Int64) : Int32 := if wo = hW 0 then 261 else if wo = hW 1 then 262 else if wo = hW 2 then 263 else if wo = hW 3 then 264 else if wo = hW 4 then 265 else 260
/-- the reference's token, against a kind and a number -/
def tkR (k v so mk nu di : Int32) (wo : Int64) : Prop :=
  (so = 0 ∧ k = 257) ∨ (so = 1 ∧ k = 256) ∨ (so = 4 ∧ mk = k ∧ jSign k = true) ∨ (so = 3 ∧ k = 258 ∧ nu = v) ∨ (so = 2 ∧ di = -1 ∧ k = kwd wo) ∨ (so = 2 ∧ jIn di 0 5 = true ∧ wo = hW 5 ∧ k = 259 ∧ di = v) ∨ (so = 2 ∧ ¬ di = -1 ∧ ¬ (wo = hW 5 ∧ jIn di 0 5 = true) ∧ k = 260)
theorem hW_0 : hW 0 = 294 := by decide +kernel
theorem hW_1 : hW 1 = 663726 := by decide +kernel
theorem hW_2 : hW 2 = 176741 := by decide +kernel
theorem hW_3 : hW 3 = 12748404 := by decide +kernel
theorem hW_4 : hW 4 = 441972 := by decide +kernel
theorem hW_5 : hW 5 = 24 := by decide +kernel
theorem sgn_lt {k : Int32} (h : jSign k = true) : k = 40 ∨ k = 41 ∨ k = 60 ∨ k = 62 ∨ k = 61 ∨ k = 43 ∨ k = 45 ∨ k = 42 ∨ k = 44 := by
  simpa [jSign, or_assoc] using h
theorem kwd_or (wo : Int64) : kwd wo = 261 ∨ kwd wo = 262 ∨ kwd wo = 263 ∨ kwd wo = 264 ∨ kwd wo = 265 ∨ kwd wo = 260 := by
  unfold kwd
  repeat' split
  all_goals simp
theorem tkR_is {k v so mk nu di : Int32} {wo : Int64} (h : tkR k v so mk nu di wo) {x : Int32} (hx : jSign x = true) : (decide (so = 4) && decide (mk = x)) = decide (k = x) := by
  have hne : ∀ y : Int32, (y = 257 ∨ y = 256 ∨ y = 258 ∨ y = 259 ∨ y = 260 ∨ y = 261 ∨ y = 262 ∨ y = 263 ∨ y = 264 ∨ y = 265) → ¬ y = x := by
    intro y hy e
    subst e
    rcases hy with h | h | h | h | h | h | h | h | h | h <;> subst h <;> exact absurd hx (by decide)
  rcases h with ⟨h1, h2⟩ | ⟨h1, h2⟩ | ⟨h1, h2, h3⟩ | ⟨h1, h2, h3⟩ | ⟨h1, h2, h3⟩ | ⟨h1, h2, h3, h4, h5⟩ | ⟨h1, h2, h3, h4⟩
  · subst h1; rw [decide_eq_false (hne k (by simp [h2]))]; rfl
  · subst h1; rw [decide_eq_false (hne k (by simp [h2]))]; rfl
  · subst h1; subst h2; rfl
  · subst h1; rw [decide_eq_false (hne k (by simp [h2]))]; rfl
  · subst h1; rw [decide_eq_false (hne k (by have := kwd_or wo; rw [← h3] at this; rcases this with h | h | h | h | h | h <;> simp [h]))]; rfl
  · subst h1; rw [decide_eq_false (hne k (by simp [h4]))]; rfl
  · subst h1; rw [decide_eq_false (hne k (by simp [h4]))]; rfl
theorem kwd_eq {wo : Int64} {i : Nat} (hi : i < 5) : (kwd wo = nI (261 + i)) ↔ wo = hW i := by
  have a0 := hW_0
  have a1 := hW_1
  have a2 := hW_2
  have a3 := hW_3
  have a4 := hW_4
  rcases (show i = 0 ∨ i = 1 ∨ i = 2 ∨ i = 3 ∨ i = 4 by omega) with rfl | rfl | rfl | rfl | rfl <;> unfold kwd <;> rw [a0, a1, a2, a3, a4] <;> (repeat' split) <;> simp_all <;> decide
theorem sgn_256 {x : Int32} (h : x = 257 ∨ x = 256 ∨ x = 258 ∨ x = 259 ∨ x = 260 ∨ x = 261 ∨ x = 262 ∨ x = 263 ∨ x = 264 ∨ x = 265) : jSign x = false := by
  rcases h with h | h | h | h | h | h | h | h | h | h <;> subst h <;> decide
theorem tkR_wd {k v so mk nu di : Int32} {wo : Int64} (h : tkR k v so mk nu di wo) {i : Nat} (hi : i < 5) : (decide (so = 2) && decide (di = -1) && decide (wo = hW i)) = decide (k = nI (261 + i)) := by
  have hs : jSign (nI (261 + i)) = false := by rcases (show i = 0 ∨ i = 1 ∨ i = 2 ∨ i = 3 ∨ i = 4 by omega) with rfl | rfl | rfl | rfl | rfl <;> decide
  have hn : ∀ y : Int32, (y = 257 ∨ y = 256 ∨ y = 258 ∨ y = 259 ∨ y = 260) → ¬ y = nI (261 + i) := by
    intro y hy
    rcases (show i = 0 ∨ i = 1 ∨ i = 2 ∨ i = 3 ∨ i = 4 by omega) with rfl | rfl | rfl | rfl | rfl <;> rcases hy with h | h | h | h | h <;> subst h <;> decide
  rcases h with ⟨h1, h2⟩ | ⟨h1, h2⟩ | ⟨h1, h2, h3⟩ | ⟨h1, h2, h3⟩ | ⟨h1, h2, h3⟩ | ⟨h1, h2, h3, h4, h5⟩ | ⟨h1, h2, h3, h4⟩
  · subst h1; rw [decide_eq_false (hn k (by simp [h2]))]; rfl
  · subst h1; rw [decide_eq_false (hn k (by simp [h2]))]; rfl
  · subst h1; rw [decide_eq_false (p := k = nI (261 + i)) (fun e => by rw [e, hs] at h3; cases h3)]; rfl
  · subst h1; rw [decide_eq_false (hn k (by simp [h2]))]; rfl
  · subst h1; subst h2; subst h3; rw [show decide (kwd wo = nI (261 + i)) = decide (wo = hW i) from decide_eq_decide.mpr (kwd_eq hi)]; rfl
  · subst h1; rw [decide_eq_false (hn k (by simp [h4])), decide_eq_false (p := di = -1) (fun e => by subst e; exact absurd h2 (by decide))]; rfl
  · subst h1; rw [decide_eq_false (hn k (by simp [h4])), decide_eq_false h2]; rfl
theorem tkR_num {k v so mk nu di : Int32} {wo : Int64} (h : tkR k v so mk nu di wo) : (so = 3 ↔ k = 258) ∧ (so = 1 ↔ k = 256) ∧ (k = 258 → nu = v) ∧ (so = 2 ↔ (k = 259 ∨ k = 260 ∨ k = 261 ∨ k = 262 ∨ k = 263 ∨ k = 264 ∨ k = 265)) := by
  rcases h with ⟨h1, h2⟩ | ⟨h1, h2⟩ | ⟨h1, h2, h3⟩ | ⟨h1, h2, h3⟩ | ⟨h1, h2, h3⟩ | ⟨h1, h2, h3, h4, h5⟩ | ⟨h1, h2, h3, h4⟩
  · subst h1; subst h2; simp <;> decide
  · subst h1; subst h2; simp <;> decide
  · subst h1
    have := sgn_lt h3
    rcases this with h | h | h | h | h | h | h | h | h <;> subst h <;> simp <;> decide
  · subst h1; subst h2; simp [h3] <;> decide
  · subst h1
    have := kwd_or wo
    rw [← h3] at this
    rcases this with h | h | h | h | h | h <;> subst h <;> simp <;> decide
  · subst h1; subst h4; simp <;> decide
  · subst h1; subst h4; simp <;> decide
/-- what is left of a word, once the five are none of it -/
theorem tkR_x {k v so mk nu di : Int32} {wo : Int64} (h : tkR k v so mk nu di wo) (h2 : so = 2) (hk : k = 259 ∨ k = 260) : ((wo = hW 5 ∧ jIn di 0 5 = true) ↔ k = 259) ∧ (k = 259 → di = v) := by
  rcases h with ⟨h1, h3⟩ | ⟨h1, h3⟩ | ⟨h1, h4, h3⟩ | ⟨h1, h3, h4⟩ | ⟨h1, h4, h3⟩ | ⟨h1, h4, h5, h3, h6⟩ | ⟨h1, h4, h5, h3⟩
  · rw [h1] at h2; exact absurd h2 (by decide)
  · rw [h1] at h2; exact absurd h2 (by decide)
  · rw [h1] at h2; exact absurd h2 (by decide)
  · rw [h1] at h2; exact absurd h2 (by decide)
  · rcases hk with e | e
    · have := kwd_or wo
      rw [← h3, e] at this
      exact absurd this (by decide)
    · refine ⟨⟨fun h9 => ?_, fun h9 => by rw [e] at h9; exact absurd h9 (by decide)⟩, fun h9 => by rw [e] at h9; exact absurd h9 (by decide)⟩
      rw [h4] at h9
      exact absurd h9.2 (by decide)
  · exact ⟨⟨fun _ => h3, fun _ => ⟨h5, h4⟩⟩, fun _ => h6⟩
  · exact ⟨⟨fun h9 => absurd h9 h5, fun h9 => by rw [h3] at h9; exact absurd h9 (by decide)⟩, fun h9 => by rw [h3] at h9; exact absurd h9 (by decide)⟩
set_option maxRecDepth 4000 in
theorem kX11_byteAt {O : bO} {d : Nat} {f : bF} {n s : Nat} {u : Nat → Int32} {q : Nat} {e : Nat} {at_ : Int32} {so : Int32} {pl : Int32} {mk : Int32} {nu : Int32} {di : Int32} {br : Int32} {iff : Int32} {wo : Int64} {tg : Nat → Int32} {bs : Nat → Int32} {k : Nat} (h0 : f 50 = some (.inr (11, [.int (u 0), .int (u 1), .int (u 2), .int (u 3), .int (u 4), .ref 51, .ref q, .ref 53, .ref 54, .int (u 5), .int (nI e), .int at_, .int so, .int pl, .int mk, .int nu, .int di, .int br, .int iff, .long wo, .ref 55, .ref 56, .int (u 6), .int (u 7), .ref 57, .int (u 8), .ref 58, .ref 59, .ref 60, .ref 61, .ref 62, .ref 63, .int (u 9), .ref 64, .int (u 10)]))) (h1 : f 54 = some (.inl (1, 300, .inl tg))) (e0 : e ≤ 300) (e1 : ∀ z, z < 300 → tg z &&& 255 = bs z) (e2 : k ≤ 1000) (hd : 0 ≤ d) : bMt O mX11_byteAt d [.ref 50, .int (nI k)] (f, n, s) (.inl (some (.int (tb bs e k)))) (f, n, s) := by
  refine bMt_of (bCall_of (by decide) rfl (Nat.le_of_ble_eq_true rfl) ?_)
  show bV O _ d 0 [(0, .ref 50), (1, .int (nI k))] [] (f, n, s) _
  refine r_iload_n (n := 1) (i := 1) 1 rfl rfl dX11_byteAt_0 ?_
  refine r_aload_n (n := 0) (i := 0) 0 rfl rfl dX11_byteAt_1 ?_
  refine p_get (fs := [.int (u 0), .int (u 1), .int (u 2), .int (u 3), .int (u 4), .ref 51, .ref q, .ref 53, .ref 54, .int (u 5), .int (nI e), .int at_, .int so, .int pl, .int mk, .int nu, .int di, .int br, .int iff, .long wo, .ref 55, .ref 56, .int (u 6), .int (u 7), .ref 57, .int (u 8), .ref 58, .ref 59, .ref 60, .ref 61, .ref 62, .ref 63, .int (u 9), .ref 64, .int (u 10)]) flX11_84 h0 rfl dX11_byteAt_2 ?_
  refine r_icmp_ge (tgt := 21) (by decide) dX11_byteAt_5 (fun c5 => ?_) (fun c5 => ?_)
  · have c5 : e ≤ k := (nI_leI (a := e) (b := k) (by omega) (by omega)).mp c5
    refine r_iconst (v := (-1)) (by decide) dX11_byteAt_21 ?_
    refine r_ireturn rfl dX11_byteAt_22 ?_
    refine ⟨?_, rfl⟩
    rw [tb_out c5]
  · have c5 : ¬ e ≤ k := fun h7 => c5 ((nI_leI (a := e) (b := k) (by omega) (by omega)).mpr h7)
    refine r_aload_n (n := 0) (i := 0) 0 rfl rfl dX11_byteAt_8 ?_
    refine p_get (fs := [.int (u 0), .int (u 1), .int (u 2), .int (u 3), .int (u 4), .ref 51, .ref q, .ref 53, .ref 54, .int (u 5), .int (nI e), .int at_, .int so, .int pl, .int mk, .int nu, .int di, .int br, .int iff, .long wo, .ref 55, .ref 56, .int (u 6), .int (u 7), .ref 57, .int (u 8), .ref 58, .ref 59, .ref 60, .ref 61, .ref 62, .ref 63, .int (u 9), .ref 64, .int (u 10)]) flX11_33 h0 rfl dX11_byteAt_9 ?_
    refine r_iload_n (n := 1) (i := 1) 1 rfl rfl dX11_byteAt_12 ?_
    refine p_baldN (t := k) h1 (by omega) (by omega) dX11_byteAt_13 ?_
    refine r_sipush (v := 255) (by decide) dX11_byteAt_14 ?_
    refine r_iand dX11_byteAt_17 ?_
    refine r_goto (tgt := 22) (by decide) dX11_byteAt_18 ?_
    refine r_ireturn rfl dX11_byteAt_22 ?_
    refine ⟨?_, rfl⟩
    rw [tb_in (by omega), e1 k (by omega)]
set_option maxRecDepth 4000 in
theorem kX11_is {O : bO} {d : Nat} {f : bF} {n s : Nat} {u : Nat → Int32} {q : Nat} {e : Nat} {at_ : Int32} {so : Int32} {pl : Int32} {mk : Int32} {nu : Int32} {di : Int32} {br : Int32} {iff : Int32} {wo : Int64} {k : Int32} {v : Int32} {x : Int32} (h0 : f 50 = some (.inr (11, [.int (u 0), .int (u 1), .int (u 2), .int (u 3), .int (u 4), .ref 51, .ref q, .ref 53, .ref 54, .int (u 5), .int (nI e), .int at_, .int so, .int pl, .int mk, .int nu, .int di, .int br, .int iff, .long wo, .ref 55, .ref 56, .int (u 6), .int (u 7), .ref 57, .int (u 8), .ref 58, .ref 59, .ref 60, .ref 61, .ref 62, .ref 63, .int (u 9), .ref 64, .int (u 10)]))) (e0 : tkR k v so mk nu di wo) (e1 : jSign x = true) (hd : 0 ≤ d) : bMt O mX11_is d [.ref 50, .int x] (f, n, s) (.inl (some (.int (bI (decide (k = x)))))) (f, n, s) := by
  refine bMt_of (bCall_of (by decide) rfl (Nat.le_of_ble_eq_true rfl) ?_)
  show bV O _ d 0 [(0, .ref 50), (1, .int x)] [] (f, n, s) _
  refine r_aload_n (n := 0) (i := 0) 0 rfl rfl dX11_is_0 ?_
  refine p_get (fs := [.int (u 0), .int (u 1), .int (u 2), .int (u 3), .int (u 4), .ref 51, .ref q, .ref 53, .ref 54, .int (u 5), .int (nI e), .int at_, .int so, .int pl, .int mk, .int nu, .int di, .int br, .int iff, .long wo, .ref 55, .ref 56, .int (u 6), .int (u 7), .ref 57, .int (u 8), .ref 58, .ref 59, .ref 60, .ref 61, .ref 62, .ref 63, .int (u 9), .ref 64, .int (u 10)]) flX11_106 h0 rfl dX11_is_1 ?_
  refine r_iconst (v := 4) (by decide) dX11_is_4 ?_
  refine r_icmp_ne (tgt := 20) (by decide) dX11_is_5 (fun c5 => ?_) (fun c5 => ?_)
  · refine r_iconst (v := 0) (by decide) dX11_is_20 ?_
    refine r_zreturn rfl (by first | decide +kernel | exact narZ _ | assumption) dX11_is_21 ?_
    refine ⟨?_, rfl⟩
    rw [← tkR_is e0 e1]
    simp [bI, c5]
  · refine r_aload_n (n := 0) (i := 0) 0 rfl rfl dX11_is_8 ?_
    refine p_get (fs := [.int (u 0), .int (u 1), .int (u 2), .int (u 3), .int (u 4), .ref 51, .ref q, .ref 53, .ref 54, .int (u 5), .int (nI e), .int at_, .int so, .int pl, .int mk, .int nu, .int di, .int br, .int iff, .long wo, .ref 55, .ref 56, .int (u 6), .int (u 7), .ref 57, .int (u 8), .ref 58, .ref 59, .ref 60, .ref 61, .ref 62, .ref 63, .int (u 9), .ref 64, .int (u 10)]) flX11_109 h0 rfl dX11_is_9 ?_
    refine r_iload_n (n := 1) (i := 1) 1 rfl rfl dX11_is_12 ?_
    refine r_icmp_ne (tgt := 20) (by decide) dX11_is_13 (fun c13 => ?_) (fun c13 => ?_)
    · refine r_iconst (v := 0) (by decide) dX11_is_20 ?_
      refine r_zreturn rfl (by first | decide +kernel | exact narZ _ | assumption) dX11_is_21 ?_
      refine ⟨?_, rfl⟩
      rw [← tkR_is e0 e1]
      simp [bI, c5, c13]
    · refine r_iconst (v := 1) (by decide) dX11_is_16 ?_
      refine r_goto (tgt := 21) (by decide) dX11_is_17 ?_
      refine r_zreturn rfl (by first | decide +kernel | exact narZ _ | assumption) dX11_is_21 ?_
      refine ⟨?_, rfl⟩
      rw [← tkR_is e0 e1]
      simp [bI, c5, c13]
set_option maxRecDepth 4000 in
theorem kX11_isWord {O : bO} {d : Nat} {f : bF} {n s : Nat} {u : Nat → Int32} {q : Nat} {e : Nat} {at_ : Int32} {so : Int32} {pl : Int32} {mk : Int32} {nu : Int32} {di : Int32} {br : Int32} {iff : Int32} {wo : Int64} {k : Int32} {v : Int32} {i : Nat} (h0 : f 50 = some (.inr (11, [.int (u 0), .int (u 1), .int (u 2), .int (u 3), .int (u 4), .ref 51, .ref q, .ref 53, .ref 54, .int (u 5), .int (nI e), .int at_, .int so, .int pl, .int mk, .int nu, .int di, .int br, .int iff, .long wo, .ref 55, .ref 56, .int (u 6), .int (u 7), .ref 57, .int (u 8), .ref 58, .ref 59, .ref 60, .ref 61, .ref 62, .ref 63, .int (u 9), .ref 64, .int (u 10)]))) (e0 : tkR k v so mk nu di wo) (e1 : i < 5) (hd : 6 ≤ d) : bMt O mX11_isWord d [.ref 50, .ref (i + 1)] (f, n, s) (.inl (some (.int (bI (decide (k = nI (261 + i))))))) (f, n, s) := by
  refine bMt_of (bCall_of (by decide) rfl (Nat.le_of_ble_eq_true rfl) ?_)
  show bV O _ d 0 [(0, .ref 50), (1, .ref (i + 1))] [] (f, n, s) _
  refine r_aload_n (n := 0) (i := 0) 0 rfl rfl dX11_isWord_0 ?_
  refine p_get (fs := [.int (u 0), .int (u 1), .int (u 2), .int (u 3), .int (u 4), .ref 51, .ref q, .ref 53, .ref 54, .int (u 5), .int (nI e), .int at_, .int so, .int pl, .int mk, .int nu, .int di, .int br, .int iff, .long wo, .ref 55, .ref 56, .int (u 6), .int (u 7), .ref 57, .int (u 8), .ref 58, .ref 59, .ref 60, .ref 61, .ref 62, .ref 63, .int (u 9), .ref 64, .int (u 10)]) flX11_106 h0 rfl dX11_isWord_1 ?_
  refine r_iconst (v := 2) (by decide) dX11_isWord_4 ?_
  refine r_icmp_ne (tgt := 32) (by decide) dX11_isWord_5 (fun c5 => ?_) (fun c5 => ?_)
  · refine r_iconst (v := 0) (by decide) dX11_isWord_32 ?_
    refine r_zreturn rfl (by first | decide +kernel | exact narZ _ | assumption) dX11_isWord_33 ?_
    refine ⟨?_, rfl⟩
    rw [← tkR_wd e0 e1]
    simp [bI, c5]
  · refine r_aload_n (n := 0) (i := 0) 0 rfl rfl dX11_isWord_8 ?_
    refine p_get (fs := [.int (u 0), .int (u 1), .int (u 2), .int (u 3), .int (u 4), .ref 51, .ref q, .ref 53, .ref 54, .int (u 5), .int (nI e), .int at_, .int so, .int pl, .int mk, .int nu, .int di, .int br, .int iff, .long wo, .ref 55, .ref 56, .int (u 6), .int (u 7), .ref 57, .int (u 8), .ref 58, .ref 59, .ref 60, .ref 61, .ref 62, .ref 63, .int (u 9), .ref 64, .int (u 10)]) flX11_120 h0 rfl dX11_isWord_9 ?_
    refine r_iconst (v := (-1)) (by decide) dX11_isWord_12 ?_
    refine r_icmp_ne (tgt := 32) (by decide) dX11_isWord_13 (fun c13 => ?_) (fun c13 => ?_)
    · refine r_iconst (v := 0) (by decide) dX11_isWord_32 ?_
      refine r_zreturn rfl (by first | decide +kernel | exact narZ _ | assumption) dX11_isWord_33 ?_
      refine ⟨?_, rfl⟩
      rw [← tkR_wd e0 e1]
      simp [bI, c5, c13]
    · refine r_aload_n (n := 0) (i := 0) 0 rfl rfl dX11_isWord_16 ?_
      refine p_get (fs := [.int (u 0), .int (u 1), .int (u 2), .int (u 3), .int (u 4), .ref 51, .ref q, .ref 53, .ref 54, .int (u 5), .int (nI e), .int at_, .int so, .int pl, .int mk, .int nu, .int di, .int br, .int iff, .long wo, .ref 55, .ref 56, .int (u 6), .int (u 7), .ref 57, .int (u 8), .ref 58, .ref 59, .ref 60, .ref 61, .ref 62, .ref 63, .int (u 9), .ref 64, .int (u 10)]) flX11_116 h0 rfl dX11_isWord_17 ?_
      refine r_aload_n (n := 1) (i := 1) 1 rfl rfl dX11_isWord_20 ?_
      refine p_callS (As := [.ref (i + 1)]) (rest := [.long wo]) (kX11_wordOf (O := O) (d := 5) (f := f) (n := n) (s := s) (i := i)  (by omega) (Nat.le_refl _)).call rfl lkX11_129 smX11_wordOf rfl rfl (by omega) (Nat.le_of_ble_eq_true rfl) dX11_isWord_21 (fun v9 G9 h9 => ?_) (fun q9 G9 h9 => (by cases h9.1))
      obtain ⟨h8, rfl⟩ := h9; cases h8
      show bV O _ d 24 [(0, .ref 50), (1, .ref (i + 1))] [.long (hW i), .long wo] (f, n, s) _
      refine r_lcmp dX11_isWord_24 ?_
      refine r_if_ne (tgt := 32) (by decide) dX11_isWord_25 (fun c25 => ?_) (fun c25 => ?_)
      · have c25 : ¬ wo = (hW i) := fun h7 => c25 ((lg_cmp_eq _ _).mpr h7)
        refine r_iconst (v := 0) (by decide) dX11_isWord_32 ?_
        refine r_zreturn rfl (by first | decide +kernel | exact narZ _ | assumption) dX11_isWord_33 ?_
        refine ⟨?_, rfl⟩
        rw [← tkR_wd e0 e1]
        simp [bI, c5, c13, c25]
      · have c25 := (lg_cmp_eq _ _).mp c25
        refine r_iconst (v := 1) (by decide) dX11_isWord_28 ?_
        refine r_goto (tgt := 33) (by decide) dX11_isWord_29 ?_
        refine r_zreturn rfl (by first | decide +kernel | exact narZ _ | assumption) dX11_isWord_33 ?_
        refine ⟨?_, rfl⟩
        rw [← tkR_wd e0 e1]
        simp [bI, c5, c13, c25]
set_option maxRecDepth 4000 in
theorem kX11_stop {O : bO} {d : Nat} {f : bF} {n s : Nat} {u : Nat → Int32} {q : Nat} {e : Nat} {at_ : Int32} {so : Int32} {pl : Int32} {mk : Int32} {nu : Int32} {di : Int32} {br : Int32} {iff : Int32} {wo : Int64} {x : Int32} {kd : Int32} {sp : Int32} (h0 : f 50 = some (.inr (11, [.int (u 0), .int (u 1), .int (u 2), .int (u 3), .int (u 4), .ref 51, .ref q, .ref 53, .ref 54, .int (u 5), .int (nI e), .int at_, .int so, .int pl, .int mk, .int nu, .int di, .int br, .int iff, .long wo, .ref 55, .ref 56, .int (u 6), .int (u 7), .ref 57, .int (u 8), .ref 58, .ref 59, .ref 60, .ref 61, .ref 62, .ref 63, .int (u 9), .ref 64, .int (u 10)]))) (h1 : f 53 = some (.inr (10, [.null, .null, .null, .null, .null, .int 0, .int kd, .int sp])))  (hd : 0 ≤ d) : bMt O mX11_stop d [.ref 50, .int x] (f, n, s) (.inl (some (.ref 53))) (bU f 53 (.inr (10, [.null, .null, .null, .null, .null, .int 0, .int x, .int pl])), n, s) := by
  refine bMt_of (bCall_of (by decide) rfl (Nat.le_of_ble_eq_true rfl) ?_)
  show bV O _ d 0 [(0, .ref 50), (1, .int x)] [] (f, n, s) _
  refine r_aload_n (n := 0) (i := 0) 0 rfl rfl dX11_stop_0 ?_
  refine p_get (fs := [.int (u 0), .int (u 1), .int (u 2), .int (u 3), .int (u 4), .ref 51, .ref q, .ref 53, .ref 54, .int (u 5), .int (nI e), .int at_, .int so, .int pl, .int mk, .int nu, .int di, .int br, .int iff, .long wo, .ref 55, .ref 56, .int (u 6), .int (u 7), .ref 57, .int (u 8), .ref 58, .ref 59, .ref 60, .ref 61, .ref 62, .ref 63, .int (u 9), .ref 64, .int (u 10)]) flX11_29 h0 rfl dX11_stop_1 ?_
  refine r_iload_n (n := 1) (i := 1) 1 rfl rfl dX11_stop_4 ?_
  refine p_put (fs := [.null, .null, .null, .null, .null, .int 0, .int kd, .int sp]) (fs' := [.null, .null, .null, .null, .null, .int 0, .int x, .int sp]) flX11_77 h1 (Nat.le_of_ble_eq_true rfl) (bNf_i _) rfl dX11_stop_5 ?_
  refine r_aload_n (n := 0) (i := 0) 0 rfl rfl dX11_stop_8 ?_
  refine p_get (fs := [.int (u 0), .int (u 1), .int (u 2), .int (u 3), .int (u 4), .ref 51, .ref q, .ref 53, .ref 54, .int (u 5), .int (nI e), .int at_, .int so, .int pl, .int mk, .int nu, .int di, .int br, .int iff, .long wo, .ref 55, .ref 56, .int (u 6), .int (u 7), .ref 57, .int (u 8), .ref 58, .ref 59, .ref 60, .ref 61, .ref 62, .ref 63, .int (u 9), .ref 64, .int (u 10)]) flX11_29 (by exact ((bU_n (by decide)).trans (h0))) rfl dX11_stop_9 ?_
  refine r_aload_n (n := 0) (i := 0) 0 rfl rfl dX11_stop_12 ?_
  refine p_get (fs := [.int (u 0), .int (u 1), .int (u 2), .int (u 3), .int (u 4), .ref 51, .ref q, .ref 53, .ref 54, .int (u 5), .int (nI e), .int at_, .int so, .int pl, .int mk, .int nu, .int di, .int br, .int iff, .long wo, .ref 55, .ref 56, .int (u 6), .int (u 7), .ref 57, .int (u 8), .ref 58, .ref 59, .ref 60, .ref 61, .ref 62, .ref 63, .int (u 9), .ref 64, .int (u 10)]) flX11_80 (by exact ((bU_n (by decide)).trans (h0))) rfl dX11_stop_13 ?_
  refine p_put (fs := [.null, .null, .null, .null, .null, .int 0, .int x, .int sp]) (fs' := [.null, .null, .null, .null, .null, .int 0, .int x, .int pl]) flX11_83 (by exact bU_s _ _ _) (Nat.le_of_ble_eq_true rfl) (bNf_i _) rfl dX11_stop_16 ?_
  refine bV_h (f2 := bU f 53 (.inr (10, [.null, .null, .null, .null, .null, .int 0, .int x, .int pl]))) (bU_u _ _ _ _) ?_
  refine r_aload_n (n := 0) (i := 0) 0 rfl rfl dX11_stop_19 ?_
  refine p_get (fs := [.int (u 0), .int (u 1), .int (u 2), .int (u 3), .int (u 4), .ref 51, .ref q, .ref 53, .ref 54, .int (u 5), .int (nI e), .int at_, .int so, .int pl, .int mk, .int nu, .int di, .int br, .int iff, .long wo, .ref 55, .ref 56, .int (u 6), .int (u 7), .ref 57, .int (u 8), .ref 58, .ref 59, .ref 60, .ref 61, .ref 62, .ref 63, .int (u 9), .ref 64, .int (u 10)]) flX11_29 (by exact ((bU_n (by decide)).trans (h0))) rfl dX11_stop_20 ?_
  refine r_areturn rfl (by first | exact Or.inl ⟨_, rfl⟩ | exact Or.inr ⟨_, rfl⟩) dX11_stop_23 ?_
  refine ⟨?_, ?_⟩ <;> first | rfl | (simp []; done)
set_option maxRecDepth 4000 in
theorem kX9_put {O : bO} {d : Nat} {f : bF} {n s : Nat} {q : Nat} {pt : Int32} {it : Nat} {ak : Int32} {sg : Nat → Int32} {vl : Nat → Int32} {x : Int32} {v : Int32} (h0 : f q = some (.inr (9, [.int pt, .int (nI it), .int ak, .ref (q + 1), .ref (q + 2)]))) (h1 : f (q + 1) = some (.inl (0, 122, .inl sg))) (h2 : f (q + 2) = some (.inl (0, 122, .inl vl))) (e0 : it < 122) (hd : 0 ≤ d) : bMt O mX9_put d [.ref q, .int x, .int v] (f, n, s) (.inl none) (bU (bU (bU f (q + 1) (.inl (0, 122, .inl (upd sg it x)))) (q + 2) (.inl (0, 122, .inl (upd vl it v)))) q (.inr (9, [.int pt, .int (nI (it + 1)), .int ak, .ref (q + 1), .ref (q + 2)])), n, s) := by
  refine bMt_of (bCall_of (by decide) rfl (Nat.le_of_ble_eq_true rfl) ?_)
  show bV O _ d 0 [(0, .ref q), (1, .int x), (2, .int v)] [] (f, n, s) _
  refine r_aload_n (n := 0) (i := 0) 0 rfl rfl dX9_put_0 ?_
  refine p_get (fs := [.int pt, .int (nI it), .int ak, .ref (q + 1), .ref (q + 2)]) flX9_9 h0 rfl dX9_put_1 ?_
  refine r_aload_n (n := 0) (i := 0) 0 rfl rfl dX9_put_4 ?_
  refine p_get (fs := [.int pt, .int (nI it), .int ak, .ref (q + 1), .ref (q + 2)]) flX9_18 h0 rfl dX9_put_5 ?_
  refine r_iload_n (n := 1) (i := 1) 1 rfl rfl dX9_put_8 ?_
  refine p_iastN (t := it) h1 (by omega) (by omega) dX9_put_9 ?_
  refine r_aload_n (n := 0) (i := 0) 0 rfl rfl dX9_put_10 ?_
  refine p_get (fs := [.int pt, .int (nI it), .int ak, .ref (q + 1), .ref (q + 2)]) flX9_15 (by exact ((bU_n (by omega)).trans (h0))) rfl dX9_put_11 ?_
  refine r_aload_n (n := 0) (i := 0) 0 rfl rfl dX9_put_14 ?_
  refine p_get (fs := [.int pt, .int (nI it), .int ak, .ref (q + 1), .ref (q + 2)]) flX9_18 (by exact ((bU_n (by omega)).trans (h0))) rfl dX9_put_15 ?_
  refine r_iload_n (n := 2) (i := 2) 2 rfl rfl dX9_put_18 ?_
  refine p_iastN (t := it) (by exact ((bU_n (by omega)).trans (h2))) (by omega) (by omega) dX9_put_19 ?_
  refine r_aload_n (n := 0) (i := 0) 0 rfl rfl dX9_put_20 ?_
  refine r_dup rfl dX9_put_21 ?_
  refine p_get (fs := [.int pt, .int (nI it), .int ak, .ref (q + 1), .ref (q + 2)]) flX9_18 (by exact ((bU_n (by omega)).trans (((bU_n (by omega)).trans (h0))))) rfl dX9_put_22 ?_
  refine r_iconst (v := 1) (by decide) dX9_put_25 ?_
  refine r_iaddE (v := nI (it + 1)) (nI_add it 1) dX9_put_26 ?_
  refine p_put (fs := [.int pt, .int (nI it), .int ak, .ref (q + 1), .ref (q + 2)]) (fs' := [.int pt, .int (nI (it + 1)), .int ak, .ref (q + 1), .ref (q + 2)]) flX9_18 (by exact ((bU_n (by omega)).trans (((bU_n (by omega)).trans (h0))))) (Nat.le_of_ble_eq_true rfl) (bNf_i _) rfl dX9_put_27 ?_
  refine r_return rfl dX9_put_30 ?_
  refine ⟨?_, ?_⟩ <;> first | rfl | (simp []; done)
