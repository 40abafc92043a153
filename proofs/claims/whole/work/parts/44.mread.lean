/-! ===== the reference's reader (printed by wip/gen/mread.py) ===== -/
/-- a part's sign in the reference -/
def sgM (k : Int32) : Int32 := if k = 258 then 0 else if k = 259 then 1 else if k = 43 then 2 else if k = 45 then 3 else if k = 42 then 4 else if k = 60 then 5 else if k = 62 then 6 else if k = 61 then 7 else if k = 266 then 8 else if k = 264 then 9 else if k = 265 then 10 else if k = 261 then 11 else -1
def codM (sg vl : Nat → Int32) (c : List (Int32 × Int32)) : Prop := ∀ (j : Nat) (x : Int32 × Int32), c[j]? = some x → sg j = sgM x.1 ∧ vl j = x.2
theorem codM_add {ks vs : Nat → Int32} {c : List (Int32 × Int32)} {k v : Int32} (h : codM ks vs c) : codM (upd ks c.length (sgM k)) (upd vs c.length v) (c ++ [(k, v)]) := by
  intro j x hj
  by_cases hl : j < c.length
  · rw [List.getElem?_append_left hl] at hj
    rw [pk_un (by omega), pk_un (by omega)]
    exact h j x hj
  · rw [List.getElem?_append_right (by omega)] at hj
    have hz : j - c.length < 1 := (List.getElem?_eq_some_iff.mp hj).1
    have e1 : j = c.length := by omega
    subst e1
    rw [Nat.sub_self] at hj
    cases hj
    exact ⟨pk_us, pk_us⟩
def mPart (st : pS) : pR := if st.2.1 < 60 then .inr (st.1, st.2.1 + 1, st.2.2.1, st.2.2.2) else .inl (3, st.1.1)
def mNext (bs : Nat → Int32) (e : Nat) (st : pS) : pR := .inr (adv bs e st.1, st.2.1, st.2.2.1, st.2.2.2)
theorem mPart_ok {k a : Nat} {st s1 : pS} (h : okS k a st) (hr : mPart st = .inr s1) : okS (k + 1) (a + 1) s1 := by
  unfold mPart at hr
  split at hr
  · cases hr
    exact ⟨h.1, h.2.1, by show st.2.1 + 1 ≤ 60; omega, by show st.2.2.1.length + (k + 1) ≤ st.2.1 + 1; have := h.2.2.2.1; omega, by show a + 1 ≤ st.2.1 + 1; have := h.2.2.2.2; omega⟩
  · cases hr
theorem mNext_ok {bs : Nat → Int32} {e : Nat} {k a : Nat} {st s1 : pS} (he : e ≤ 300) (h : okS k a st) (hr : mNext bs e st = .inr s1) : okS k a s1 := by
  cases hr
  exact ⟨(h.adv he).1, (h.adv he).2, h.2.2⟩
theorem mPart_t {st s1 : pS} (hr : mPart st = .inr s1) : s1.1 = st.1 := by
  unfold mPart at hr
  split at hr
  · cases hr; rfl
  · cases hr
theorem pWr_t {k v : Int32} {st s1 : pS} (hr : pWr k v st = .inr s1) : s1.1 = st.1 := by cases hr; rfl
theorem pPart_m (bs : Nat → Int32) (e : Nat) (st : pS) : pPart bs e st = pB (mPart st) (mNext bs e) := by
  unfold pPart mPart
  split <;> rfl
theorem pTake_m (bs : Nat → Int32) (e : Nat) (k : Int32) (st : pS) : pTake bs e k st = if st.1.2.2.1 = k then mNext bs e st else .inl (1, st.1.1) := rfl
theorem pNum_m (bs : Nat → Int32) (e : Nat) (k v : Int32) (st : pS) : pB (pPart bs e st) (pWr k v) = pB (mPart st) fun s1 => pB (pWr k v s1) (mNext bs e) := by
  rw [pPart_m]
  unfold mPart
  split <;> rfl
theorem pInp_m (bs : Nat → Int32) (e : Nat) (st : pS) : pB (pPart bs e (pBits st)) (pWr 259 st.1.2.2.2) = pB (mPart st) fun s1 => pB (pWr 259 st.1.2.2.2 s1) fun s2 => mNext bs e (pBits s2) := by
  rw [pPart_m]
  unfold mPart
  rw [show (pBits st).2.1 = st.2.1 from rfl]
  split <;> rfl
theorem pB_a (r : pR) (g h : pS → pR) : pB (pB r g) h = pB r fun s => pB (g s) h := by cases r <;> rfl
abbrev hMd (f : bF) (u : Nat → Int32) (q e : Nat) (st : pS) (at_ so mk nu di : Int32) (wo : Int64) (b i : Nat) (sg vl : Nat → Int32) : bF := bU (bU (bU (bU f 50 (.inr (11, [.int (u 0), .int (u 1), .int (u 2), .int (u 3), .int (u 4), .ref 51, .ref q, .ref 53, .ref 54, .int (u 5), .int (nI e), .int at_, .int so, .int (nI st.1.1), .int mk, .int nu, .int di, .int (nI b), .int (nI i), .long wo, .ref 55, .ref 56, .int (u 6), .int (u 7), .ref 57, .int (u 8), .ref 58, .ref 59, .ref 60, .ref 61, .ref 62, .ref 63, .int (u 9), .ref 64, .int (u 10)]))) q (.inr (9, [.int (nI st.2.1), .int (nI st.2.2.1.length), .int st.2.2.2, .ref (q + 1), .ref (q + 2)]))) (q + 1) (.inl (0, 122, .inl sg))) (q + 2) (.inl (0, 122, .inl vl))
/-- the reference's heap holds the reader's state -/
def msR (e : Nat) (st : pS) (at_ so mk nu di : Int32) (wo : Int64) (sg vl : Nat → Int32) : Prop := (st.1.2.2.1 ≠ 257 → at_ = nI st.1.2.1) ∧ tkR st.1.2.2.1 st.1.2.2.2 so mk nu di wo ∧ codM sg vl st.2.2.1
def rM (f : bF) (n s : Nat) (u : Nat → Int32) (q e b i : Nat) (res : pR) (r : bR) (G : bG) : Prop := match res with
  | .inr st => r = .inl none ∧ ∃ (at_ so mk nu di : Int32) (wo : Int64) (sg vl : Nat → Int32), msR e st at_ so mk nu di wo sg vl ∧ G = (hMd f u q e st at_ so mk nu di wo b i sg vl, n, s)
  | .inl x => r = .inr 53 ∧ ∃ (at_ so pl mk nu di br iff : Int32) (wo : Int64) (pt it ak : Int32) (sg vl : Nat → Int32), G = (bU (bU (bU (bU (bU f 50 (.inr (11, [.int (u 0), .int (u 1), .int (u 2), .int (u 3), .int (u 4), .ref 51, .ref q, .ref 53, .ref 54, .int (u 5), .int (nI e), .int at_, .int so, .int pl, .int mk, .int nu, .int di, .int br, .int iff, .long wo, .ref 55, .ref 56, .int (u 6), .int (u 7), .ref 57, .int (u 8), .ref 58, .ref 59, .ref 60, .ref 61, .ref 62, .ref 63, .int (u 9), .ref 64, .int (u 10)]))) q (.inr (9, [.int pt, .int it, .int ak, .ref (q + 1), .ref (q + 2)]))) (q + 1) (.inl (0, 122, .inl sg))) (q + 2) (.inl (0, 122, .inl vl))) 53 (.inr (10, [.null, .null, .null, .null, .null, .int 0, .int x.1, .int (nI x.2)])), n, s)
set_option maxRecDepth 4000 in
theorem c_part {O : bO} {d : Nat} {f : bF} {n s : Nat} {u : Nat → Int32} {q e : Nat} {tg bs : Nat → Int32} {kd sp : Int32} (hq : 5000 ≤ q) (h53 : f 53 = some (.inr (10, [.null, .null, .null, .null, .null, .int 0, .int kd, .int sp]))) (h54 : f 54 = some (.inl (1, 300, .inl tg))) (e0 : e ≤ 300) (hb9 : ∀ z, z < 300 → tg z &&& 255 = bs z) {st : pS} {at_ so mk nu di : Int32} {wo : Int64} {sg vl : Nat → Int32} {b i k a : Nat} (hm : msR e st at_ so mk nu di wo sg vl) (ho : okS k a st)  (hd : 1 ≤ d) : bCall O mX11_part d [.ref 50] (hMd f u q e st at_ so mk nu di wo b i sg vl, n, s) (rM f n s u q e b i (mPart st)) := by
  refine bCall_of (by decide) rfl (Nat.le_of_ble_eq_true rfl) ?_
  obtain ⟨o1, o2, o3, o4, o5⟩ := id ho
  show bV O _ d 0 [(0, .ref 50)] [] (bU (bU (bU (bU f 50 (.inr (11, [.int (u 0), .int (u 1), .int (u 2), .int (u 3), .int (u 4), .ref 51, .ref q, .ref 53, .ref 54, .int (u 5), .int (nI e), .int at_, .int so, .int (nI st.1.1), .int mk, .int nu, .int di, .int (nI b), .int (nI i), .long wo, .ref 55, .ref 56, .int (u 6), .int (u 7), .ref 57, .int (u 8), .ref 58, .ref 59, .ref 60, .ref 61, .ref 62, .ref 63, .int (u 9), .ref 64, .int (u 10)]))) q (.inr (9, [.int (nI st.2.1), .int (nI st.2.2.1.length), .int st.2.2.2, .ref (q + 1), .ref (q + 2)]))) (q + 1) (.inl (0, 122, .inl sg))) (q + 2) (.inl (0, 122, .inl vl)), n, s) _
  refine r_aload_n (n := 0) (i := 0) 0 rfl rfl dX11_part_0 ?_
  refine p_get (fs := [.int (u 0), .int (u 1), .int (u 2), .int (u 3), .int (u 4), .ref 51, .ref q, .ref 53, .ref 54, .int (u 5), .int (nI e), .int at_, .int so, .int (nI st.1.1), .int mk, .int nu, .int di, .int (nI b), .int (nI i), .long wo, .ref 55, .ref 56, .int (u 6), .int (u 7), .ref 57, .int (u 8), .ref 58, .ref 59, .ref 60, .ref 61, .ref 62, .ref 63, .int (u 9), .ref 64, .int (u 10)]) flX11_22 (by exact ((bU_n (by omega)).trans (((bU_n (by omega)).trans (((bU_n (by omega)).trans (bU_s _ _ _))))))) rfl dX11_part_1 ?_
  refine p_get (fs := [.int (nI st.2.1), .int (nI st.2.2.1.length), .int st.2.2.2, .ref (q + 1), .ref (q + 2)]) flX11_146 (by exact ((bU_n (by omega)).trans (((bU_n (by omega)).trans (bU_s _ _ _))))) rfl dX11_part_4 ?_
  refine r_bipush (v := 60) (by decide) dX11_part_7 ?_
  refine r_icmp_ne (tgt := 18) (by decide) dX11_part_9 (fun c9 => ?_) (fun c9 => ?_)
  · have c9 : ¬ st.2.1 = 60 := fun h7 => c9 ((nI_eq (a := st.2.1) (b := 60) (by omega) (by omega)).mpr h7)
    refine r_aload_n (n := 0) (i := 0) 0 rfl rfl dX11_part_18 ?_
    refine p_get (fs := [.int (u 0), .int (u 1), .int (u 2), .int (u 3), .int (u 4), .ref 51, .ref q, .ref 53, .ref 54, .int (u 5), .int (nI e), .int at_, .int so, .int (nI st.1.1), .int mk, .int nu, .int di, .int (nI b), .int (nI i), .long wo, .ref 55, .ref 56, .int (u 6), .int (u 7), .ref 57, .int (u 8), .ref 58, .ref 59, .ref 60, .ref 61, .ref 62, .ref 63, .int (u 9), .ref 64, .int (u 10)]) flX11_22 (by exact ((bU_n (by omega)).trans (((bU_n (by omega)).trans (((bU_n (by omega)).trans (bU_s _ _ _))))))) rfl dX11_part_19 ?_
    refine r_dup rfl dX11_part_22 ?_
    refine p_get (fs := [.int (nI st.2.1), .int (nI st.2.2.1.length), .int st.2.2.2, .ref (q + 1), .ref (q + 2)]) flX11_146 (by exact ((bU_n (by omega)).trans (((bU_n (by omega)).trans (bU_s _ _ _))))) rfl dX11_part_23 ?_
    refine r_iconst (v := 1) (by decide) dX11_part_26 ?_
    refine r_iaddE (v := nI (st.2.1 + 1)) (nI_add st.2.1 1) dX11_part_27 ?_
    refine p_put (fs := [.int (nI st.2.1), .int (nI st.2.2.1.length), .int st.2.2.2, .ref (q + 1), .ref (q + 2)]) (fs' := [.int (nI (st.2.1 + 1)), .int (nI st.2.2.1.length), .int st.2.2.2, .ref (q + 1), .ref (q + 2)]) flX11_146 (by exact ((bU_n (by omega)).trans (((bU_n (by omega)).trans (bU_s _ _ _))))) (Nat.le_of_ble_eq_true rfl) (bNf_i _) rfl dX11_part_28 ?_
    refine bV_h (f2 := bU (bU (bU (bU f 50 (.inr (11, [.int (u 0), .int (u 1), .int (u 2), .int (u 3), .int (u 4), .ref 51, .ref q, .ref 53, .ref 54, .int (u 5), .int (nI e), .int at_, .int so, .int (nI st.1.1), .int mk, .int nu, .int di, .int (nI b), .int (nI i), .long wo, .ref 55, .ref 56, .int (u 6), .int (u 7), .ref 57, .int (u 8), .ref 58, .ref 59, .ref 60, .ref 61, .ref 62, .ref 63, .int (u 9), .ref 64, .int (u 10)]))) q (.inr (9, [.int (nI (st.2.1 + 1)), .int (nI st.2.2.1.length), .int st.2.2.2, .ref (q + 1), .ref (q + 2)]))) (q + 1) (.inl (0, 122, .inl sg))) (q + 2) (.inl (0, 122, .inl vl))) (((bU_c (by omega)).trans (congrArg (fun z => bU z (q + 2) (.inl (0, 122, .inl vl))) (((bU_c (by omega)).trans (congrArg (fun z => bU z (q + 1) (.inl (0, 122, .inl sg))) (bU_u _ _ _ _))))))) ?_
    refine r_return rfl dX11_part_31 ?_
    rw [show mPart st = .inr (st.1, st.2.1 + 1, st.2.2.1, st.2.2.2) by unfold mPart; first | rw [if_pos (show st.2.1 < 60 by omega)] | rw [if_neg (show ¬ st.2.1 < 60 by omega)]]
    exact ⟨rfl, _, _, _, _, _, _, _, _, hm, rfl⟩
  · have c9 : st.2.1 = 60 := (nI_eq (a := st.2.1) (b := 60) (by omega) (by omega)).mp c9
    refine r_aload_n (n := 0) (i := 0) 0 rfl rfl dX11_part_12 ?_
    refine r_iconst (v := 3) (by decide) dX11_part_13 ?_
    refine p_callV (As := [.int 3]) (rest := []) (kX11_stop (O := O) (d := 0) (f := bU (bU (bU (bU f 50 (.inr (11, [.int (u 0), .int (u 1), .int (u 2), .int (u 3), .int (u 4), .ref 51, .ref q, .ref 53, .ref 54, .int (u 5), .int (nI e), .int at_, .int so, .int (nI st.1.1), .int mk, .int nu, .int di, .int (nI b), .int (nI i), .long wo, .ref 55, .ref 56, .int (u 6), .int (u 7), .ref 57, .int (u 8), .ref 58, .ref 59, .ref 60, .ref 61, .ref 62, .ref 63, .int (u 9), .ref 64, .int (u 10)]))) q (.inr (9, [.int (nI st.2.1), .int (nI st.2.2.1.length), .int st.2.2.2, .ref (q + 1), .ref (q + 2)]))) (q + 1) (.inl (0, 122, .inl sg))) (q + 2) (.inl (0, 122, .inl vl))) (n := n) (s := s) (q := q) (e := e) (at_ := at_) (so := so) (pl := nI st.1.1) (mk := mk) (nu := nu) (di := di) (br := nI b) (iff := nI i) (wo := wo) (x := 3) (kd := kd) (sp := sp) (by exact ((bU_n (by omega)).trans (((bU_n (by omega)).trans (((bU_n (by omega)).trans (bU_s _ _ _))))))) (by exact ((bU_n (by omega)).trans (((bU_n (by omega)).trans (((bU_n (by omega)).trans (((bU_n (by decide)).trans (h53)))))))))  (Nat.le_refl _)).call rfl lkX11_137 imX11_stop seX11_stop rfl (by exact ((bU_n (by omega)).trans (((bU_n (by omega)).trans (((bU_n (by omega)).trans (bU_s _ _ _))))))) rfl rfl (by omega) (Nat.le_of_ble_eq_true rfl) dX11_part_14 (fun v9 G9 h9 => ?_) (fun q9 G9 h9 => (by cases h9.1))
    obtain ⟨h8, rfl⟩ := h9; cases h8
    show bV O _ d 17 [(0, .ref 50)] [.ref 53] (bU (bU (bU (bU (bU f 50 (.inr (11, [.int (u 0), .int (u 1), .int (u 2), .int (u 3), .int (u 4), .ref 51, .ref q, .ref 53, .ref 54, .int (u 5), .int (nI e), .int at_, .int so, .int (nI st.1.1), .int mk, .int nu, .int di, .int (nI b), .int (nI i), .long wo, .ref 55, .ref 56, .int (u 6), .int (u 7), .ref 57, .int (u 8), .ref 58, .ref 59, .ref 60, .ref 61, .ref 62, .ref 63, .int (u 9), .ref 64, .int (u 10)]))) q (.inr (9, [.int (nI st.2.1), .int (nI st.2.2.1.length), .int st.2.2.2, .ref (q + 1), .ref (q + 2)]))) (q + 1) (.inl (0, 122, .inl sg))) (q + 2) (.inl (0, 122, .inl vl))) 53 (.inr (10, [.null, .null, .null, .null, .null, .int 0, .int 3, .int (nI st.1.1)])), n, s) _
    refine p_athrow (by decide) (by exact bU_s _ _ _) rfl (fun x hx => by cases hx) dX11_part_17 ?_
    rw [show mPart st = .inl (3, st.1.1) by unfold mPart; first | rw [if_pos (show st.2.1 < 60 by omega)] | rw [if_neg (show ¬ st.2.1 < 60 by omega)]]
    exact ⟨rfl, _, _, _, _, _, _, _, _, _, _, _, _, _, _, rfl⟩
theorem c_nextM {O : bO} {d : Nat} {f : bF} {n s : Nat} {u : Nat → Int32} {q e : Nat} {tg bs : Nat → Int32} {kd sp : Int32} (hq : 5000 ≤ q) (h53 : f 53 = some (.inr (10, [.null, .null, .null, .null, .null, .int 0, .int kd, .int sp]))) (h54 : f 54 = some (.inl (1, 300, .inl tg))) (e0 : e ≤ 300) (hb9 : ∀ z, z < 300 → tg z &&& 255 = bs z) {st : pS} {at_ so mk nu di : Int32} {wo : Int64} {sg vl : Nat → Int32} {b i k a : Nat} (hm : msR e st at_ so mk nu di wo sg vl) (ho : okS k a st) (hk : st.1.2.2.1 ≠ 257) (hd : 1 ≤ d) : bCall O mX11_next d [.ref 50] (hMd f u q e st at_ so mk nu di wo b i sg vl, n, s) (rM f n s u q e b i (mNext bs e st)) := by
  obtain ⟨o1, o2, o3, o4, o5⟩ := id ho
  have ha : at_ = nI st.1.2.1 := hm.1 hk
  subst ha
  refine (c_next (f := hMd f u q e st (nI st.1.2.1) so mk nu di wo b i sg vl) (tg := tg) (bs := bs) (e := e) (u := u) (q := q) (a := st.1.2.1) (br := nI b) (iff := nI i) (by exact ((bU_n (by omega)).trans ((bU_n (by omega)).trans ((bU_n (by omega)).trans ((bU_n (by decide)).trans h54))))) e0 hb9 (by exact ((bU_n (by omega)).trans ((bU_n (by omega)).trans ((bU_n (by omega)).trans (bU_s _ _ _))))) o2 hd).mono ?_
  intro r G ⟨h1, at1, so1, mk1, nu1, di1, wo1, h2, h3, h4⟩
  refine ⟨h1, at1, so1, mk1, nu1, di1, wo1, sg, vl, ⟨h2, h3 _, hm.2.2⟩, ?_⟩
  rw [h4]
  refine congrArg (fun z => (z, n, s)) ?_
  rw [bU_c (show q + 2 ≠ 50 by omega), bU_c (show q + 1 ≠ 50 by omega), bU_c (show q ≠ 50 by omega), bU_u]
  rfl
theorem c_put {O : bO} {d : Nat} {f : bF} {n s : Nat} {u : Nat → Int32} {q e : Nat} (hq : 5000 ≤ q) {st : pS} {at_ so mk nu di : Int32} {wo : Int64} {sg vl : Nat → Int32} {b i k a : Nat} (hm : msR e st at_ so mk nu di wo sg vl) (ho : okS k a st) {x v1 : Int32} (k9 v9 : Int32) (hx : x = sgM k9) (hv : v1 = v9) (hd : 0 ≤ d) : bCall O mX9_put d [.ref q, .int x, .int v1] (hMd f u q e st at_ so mk nu di wo b i sg vl, n, s) (rM f n s u q e b i (pWr k9 v9 st)) := by
  obtain ⟨o1, o2, o3, o4, o5⟩ := id ho
  subst hx
  subst hv
  refine (kX9_put (O := O) (d := d) (f := hMd f u q e st at_ so mk nu di wo b i sg vl) (n := n) (s := s) (q := q) (pt := nI st.2.1) (it := st.2.2.1.length) (ak := st.2.2.2) (sg := sg) (vl := vl) (by exact ((bU_n (by omega)).trans ((bU_n (by omega)).trans (bU_s _ _ _)))) (by exact ((bU_n (by omega)).trans (bU_s _ _ _))) (by exact (bU_s _ _ _)) (by omega) hd).call.mono ?_
  intro r G ⟨h1, h4⟩
  refine ⟨h1, at_, so, mk, nu, di, wo, _, _, ⟨hm.1, hm.2.1, codM_add hm.2.2⟩, ?_⟩
  rw [h4]
  refine congrArg (fun z => (z, n, s)) ?_
  show _ = bU (bU (bU (bU f 50 _) q (.inr (9, [.int (nI st.2.1), .int (nI (st.2.2.1 ++ [(k9, v1)]).length), .int st.2.2.2, .ref (q + 1), .ref (q + 2)]))) (q + 1) _) (q + 2) _
  rw [show (st.2.2.1 ++ [(k9, v1)]).length = st.2.2.1.length + 1 by simp]
  rw [bU_c (show q + 2 ≠ q + 1 by omega), bU_u, bU_u, bU_c (show q + 2 ≠ q by omega), bU_c (show q + 1 ≠ q by omega), bU_u]
set_option maxRecDepth 4000 in
theorem c_need {O : bO} {d : Nat} {f : bF} {n s : Nat} {u : Nat → Int32} {q e : Nat} {tg bs : Nat → Int32} {kd sp : Int32} (hq : 5000 ≤ q) (h53 : f 53 = some (.inr (10, [.null, .null, .null, .null, .null, .int 0, .int kd, .int sp]))) (h54 : f 54 = some (.inl (1, 300, .inl tg))) (e0 : e ≤ 300) (hb9 : ∀ z, z < 300 → tg z &&& 255 = bs z) {st : pS} {at_ so mk nu di : Int32} {wo : Int64} {sg vl : Nat → Int32} {b i k a : Nat} (hm : msR e st at_ so mk nu di wo sg vl) (ho : okS k a st) {y9 : Int32} (hs9 : jSign y9 = true) (hd : 2 ≤ d) : bCall O mX11_need d [.ref 50, .int y9] (hMd f u q e st at_ so mk nu di wo b i sg vl, n, s) (rM f n s u q e b i (pTake bs e y9 st)) := by
  refine bCall_of (by decide) rfl (Nat.le_of_ble_eq_true rfl) ?_
  obtain ⟨o1, o2, o3, o4, o5⟩ := id ho
  show bV O _ d 0 [(0, .ref 50), (1, .int y9)] [] (bU (bU (bU (bU f 50 (.inr (11, [.int (u 0), .int (u 1), .int (u 2), .int (u 3), .int (u 4), .ref 51, .ref q, .ref 53, .ref 54, .int (u 5), .int (nI e), .int at_, .int so, .int (nI st.1.1), .int mk, .int nu, .int di, .int (nI b), .int (nI i), .long wo, .ref 55, .ref 56, .int (u 6), .int (u 7), .ref 57, .int (u 8), .ref 58, .ref 59, .ref 60, .ref 61, .ref 62, .ref 63, .int (u 9), .ref 64, .int (u 10)]))) q (.inr (9, [.int (nI st.2.1), .int (nI st.2.2.1.length), .int st.2.2.2, .ref (q + 1), .ref (q + 2)]))) (q + 1) (.inl (0, 122, .inl sg))) (q + 2) (.inl (0, 122, .inl vl)), n, s) _
  refine r_aload_n (n := 0) (i := 0) 0 rfl rfl dX11_need_0 ?_
  refine r_iload_n (n := 1) (i := 1) 1 rfl rfl dX11_need_1 ?_
  refine p_callV (As := [.int y9]) (rest := []) (kX11_is (O := O) (d := 0) (f := bU (bU (bU (bU f 50 (.inr (11, [.int (u 0), .int (u 1), .int (u 2), .int (u 3), .int (u 4), .ref 51, .ref q, .ref 53, .ref 54, .int (u 5), .int (nI e), .int at_, .int so, .int (nI st.1.1), .int mk, .int nu, .int di, .int (nI b), .int (nI i), .long wo, .ref 55, .ref 56, .int (u 6), .int (u 7), .ref 57, .int (u 8), .ref 58, .ref 59, .ref 60, .ref 61, .ref 62, .ref 63, .int (u 9), .ref 64, .int (u 10)]))) q (.inr (9, [.int (nI st.2.1), .int (nI st.2.2.1.length), .int st.2.2.2, .ref (q + 1), .ref (q + 2)]))) (q + 1) (.inl (0, 122, .inl sg))) (q + 2) (.inl (0, 122, .inl vl))) (n := n) (s := s) (q := q) (e := e) (at_ := at_) (so := so) (pl := nI st.1.1) (mk := mk) (nu := nu) (di := di) (br := nI b) (iff := nI i) (wo := wo) (k := st.1.2.2.1) (v := st.1.2.2.2) (x := y9) (by exact ((bU_n (by omega)).trans (((bU_n (by omega)).trans (((bU_n (by omega)).trans (bU_s _ _ _))))))) hm.2.1 hs9 (Nat.le_refl _)).call rfl lkX11_143 imX11_is seX11_is rfl (by exact ((bU_n (by omega)).trans (((bU_n (by omega)).trans (((bU_n (by omega)).trans (bU_s _ _ _))))))) rfl rfl (by omega) (Nat.le_of_ble_eq_true rfl) dX11_need_2 (fun v9 G9 h9 => ?_) (fun q9 G9 h9 => (by cases h9.1))
  obtain ⟨h8, rfl⟩ := h9; cases h8
  show bV O _ d 5 [(0, .ref 50), (1, .int y9)] [.int (bI (decide (st.1.2.2.1 = y9)))] (bU (bU (bU (bU f 50 (.inr (11, [.int (u 0), .int (u 1), .int (u 2), .int (u 3), .int (u 4), .ref 51, .ref q, .ref 53, .ref 54, .int (u 5), .int (nI e), .int at_, .int so, .int (nI st.1.1), .int mk, .int nu, .int di, .int (nI b), .int (nI i), .long wo, .ref 55, .ref 56, .int (u 6), .int (u 7), .ref 57, .int (u 8), .ref 58, .ref 59, .ref 60, .ref 61, .ref 62, .ref 63, .int (u 9), .ref 64, .int (u 10)]))) q (.inr (9, [.int (nI st.2.1), .int (nI st.2.2.1.length), .int st.2.2.2, .ref (q + 1), .ref (q + 2)]))) (q + 1) (.inl (0, 122, .inl sg))) (q + 2) (.inl (0, 122, .inl vl)), n, s) _
  refine r_if_ne (tgt := 14) (by decide) dX11_need_5 (fun c5 => ?_) (fun c5 => ?_)
  · have c5 := bI_1.mp c5
    first | (have q5 : st.1.2.2.1 = y9 := of_decide_eq_true c5) | (have q5 : ¬ st.1.2.2.1 = y9 := of_decide_eq_false c5)
    refine r_aload_n (n := 0) (i := 0) 0 rfl rfl dX11_need_14 ?_
    refine p_callV (As := []) (rest := []) (c_nextM (d := 1) hq h53 h54 e0 hb9 hm ho (fun h7 => by rw [q5] at h7; rw [h7] at hs9; exact absurd hs9 (by decide)) (Nat.le_refl _)) rfl lkX11_140 imX11_next seX11_next rfl (by exact ((bU_n (by omega)).trans (((bU_n (by omega)).trans (((bU_n (by omega)).trans (bU_s _ _ _))))))) rfl rfl (by omega) (Nat.le_of_ble_eq_true rfl) dX11_need_15 (fun v9 G9 h9 => ?_) (fun q9 G9 h9 => ⟨(fun x9 hx9 => by cases hx9), ?_⟩)
    · rcases hR1 : mNext bs e st with ⟨ft1, pl1⟩ | st1
      · rw [hR1] at h9; cases h9.1
      · rw [hR1] at h9; obtain ⟨h8, at1, so1, mk1, nu1, di1, wo1, sg1, vl1, hm1, rfl⟩ := h9; cases h8
        have ho1 : okS (k) (a) st1 := mNext_ok e0 ho hR1
        obtain ⟨p11, p21, p31, p41, p51⟩ := id ho1
        show bV O _ d 18 [(0, .ref 50), (1, .int y9)] [] (bU (bU (bU (bU f 50 (.inr (11, [.int (u 0), .int (u 1), .int (u 2), .int (u 3), .int (u 4), .ref 51, .ref q, .ref 53, .ref 54, .int (u 5), .int (nI e), .int at1, .int so1, .int (nI st1.1.1), .int mk1, .int nu1, .int di1, .int (nI b), .int (nI i), .long wo1, .ref 55, .ref 56, .int (u 6), .int (u 7), .ref 57, .int (u 8), .ref 58, .ref 59, .ref 60, .ref 61, .ref 62, .ref 63, .int (u 9), .ref 64, .int (u 10)]))) q (.inr (9, [.int (nI st1.2.1), .int (nI st1.2.2.1.length), .int st1.2.2.2, .ref (q + 1), .ref (q + 2)]))) (q + 1) (.inl (0, 122, .inl sg1))) (q + 2) (.inl (0, 122, .inl vl1)), n, s) _
        refine r_return rfl dX11_need_18 ?_
        rw [show pTake bs e y9 st = .inr st1 by rw [pTake_m, if_pos q5]; exact hR1]
        exact ⟨rfl, _, _, _, _, _, _, _, _, hm1, rfl⟩
    · rcases hR1 : mNext bs e st with ⟨ft1, pl1⟩ | st1
      · rw [hR1] at h9
        rw [show pTake bs e y9 st = .inl (ft1, pl1) by rw [pTake_m, if_pos q5]; exact hR1]
        exact h9
      · rw [hR1] at h9; cases h9.1
  · have c5 := bI_0.mp c5
    first | (have q5 : st.1.2.2.1 = y9 := of_decide_eq_true c5) | (have q5 : ¬ st.1.2.2.1 = y9 := of_decide_eq_false c5)
    refine r_aload_n (n := 0) (i := 0) 0 rfl rfl dX11_need_8 ?_
    refine r_iconst (v := 1) (by decide) dX11_need_9 ?_
    refine p_callV (As := [.int 1]) (rest := []) (kX11_stop (O := O) (d := 0) (f := bU (bU (bU (bU f 50 (.inr (11, [.int (u 0), .int (u 1), .int (u 2), .int (u 3), .int (u 4), .ref 51, .ref q, .ref 53, .ref 54, .int (u 5), .int (nI e), .int at_, .int so, .int (nI st.1.1), .int mk, .int nu, .int di, .int (nI b), .int (nI i), .long wo, .ref 55, .ref 56, .int (u 6), .int (u 7), .ref 57, .int (u 8), .ref 58, .ref 59, .ref 60, .ref 61, .ref 62, .ref 63, .int (u 9), .ref 64, .int (u 10)]))) q (.inr (9, [.int (nI st.2.1), .int (nI st.2.2.1.length), .int st.2.2.2, .ref (q + 1), .ref (q + 2)]))) (q + 1) (.inl (0, 122, .inl sg))) (q + 2) (.inl (0, 122, .inl vl))) (n := n) (s := s) (q := q) (e := e) (at_ := at_) (so := so) (pl := nI st.1.1) (mk := mk) (nu := nu) (di := di) (br := nI b) (iff := nI i) (wo := wo) (x := 1) (kd := kd) (sp := sp) (by exact ((bU_n (by omega)).trans (((bU_n (by omega)).trans (((bU_n (by omega)).trans (bU_s _ _ _))))))) (by exact ((bU_n (by omega)).trans (((bU_n (by omega)).trans (((bU_n (by omega)).trans (((bU_n (by decide)).trans (h53)))))))))  (Nat.le_refl _)).call rfl lkX11_137 imX11_stop seX11_stop rfl (by exact ((bU_n (by omega)).trans (((bU_n (by omega)).trans (((bU_n (by omega)).trans (bU_s _ _ _))))))) rfl rfl (by omega) (Nat.le_of_ble_eq_true rfl) dX11_need_10 (fun v9 G9 h9 => ?_) (fun q9 G9 h9 => (by cases h9.1))
    obtain ⟨h8, rfl⟩ := h9; cases h8
    show bV O _ d 13 [(0, .ref 50), (1, .int y9)] [.ref 53] (bU (bU (bU (bU (bU f 50 (.inr (11, [.int (u 0), .int (u 1), .int (u 2), .int (u 3), .int (u 4), .ref 51, .ref q, .ref 53, .ref 54, .int (u 5), .int (nI e), .int at_, .int so, .int (nI st.1.1), .int mk, .int nu, .int di, .int (nI b), .int (nI i), .long wo, .ref 55, .ref 56, .int (u 6), .int (u 7), .ref 57, .int (u 8), .ref 58, .ref 59, .ref 60, .ref 61, .ref 62, .ref 63, .int (u 9), .ref 64, .int (u 10)]))) q (.inr (9, [.int (nI st.2.1), .int (nI st.2.2.1.length), .int st.2.2.2, .ref (q + 1), .ref (q + 2)]))) (q + 1) (.inl (0, 122, .inl sg))) (q + 2) (.inl (0, 122, .inl vl))) 53 (.inr (10, [.null, .null, .null, .null, .null, .int 0, .int 1, .int (nI st.1.1)])), n, s) _
    refine p_athrow (by decide) (by exact bU_s _ _ _) rfl (fun x hx => by cases hx) dX11_need_13 ?_
    rw [show pTake bs e y9 st = .inl (1, st.1.1) by rw [pTake_m, if_neg q5]]
    exact ⟨rfl, _, _, _, _, _, _, _, _, _, _, _, _, _, _, rfl⟩
theorem jw_ne {j : Nat} (h : j < 5) : nI (261 + j) ≠ 257 := by
  rcases (show j = 0 ∨ j = 1 ∨ j = 2 ∨ j = 3 ∨ j = 4 by omega) with rfl | rfl | rfl | rfl | rfl <;> decide
set_option maxRecDepth 4000 in
theorem c_needWord {O : bO} {d : Nat} {f : bF} {n s : Nat} {u : Nat → Int32} {q e : Nat} {tg bs : Nat → Int32} {kd sp : Int32} (hq : 5000 ≤ q) (h53 : f 53 = some (.inr (10, [.null, .null, .null, .null, .null, .int 0, .int kd, .int sp]))) (h54 : f 54 = some (.inl (1, 300, .inl tg))) (e0 : e ≤ 300) (hb9 : ∀ z, z < 300 → tg z &&& 255 = bs z) {st : pS} {at_ so mk nu di : Int32} {wo : Int64} {sg vl : Nat → Int32} {b i k a : Nat} (hm : msR e st at_ so mk nu di wo sg vl) (ho : okS k a st) {j9 : Nat} (hj9 : j9 < 5) (hd : 7 ≤ d) : bCall O mX11_needWord d [.ref 50, .ref (j9 + 1)] (hMd f u q e st at_ so mk nu di wo b i sg vl, n, s) (rM f n s u q e b i (pTake bs e (nI (261 + j9)) st)) := by
  refine bCall_of (by decide) rfl (Nat.le_of_ble_eq_true rfl) ?_
  obtain ⟨o1, o2, o3, o4, o5⟩ := id ho
  show bV O _ d 0 [(0, .ref 50), (1, .ref (j9 + 1))] [] (bU (bU (bU (bU f 50 (.inr (11, [.int (u 0), .int (u 1), .int (u 2), .int (u 3), .int (u 4), .ref 51, .ref q, .ref 53, .ref 54, .int (u 5), .int (nI e), .int at_, .int so, .int (nI st.1.1), .int mk, .int nu, .int di, .int (nI b), .int (nI i), .long wo, .ref 55, .ref 56, .int (u 6), .int (u 7), .ref 57, .int (u 8), .ref 58, .ref 59, .ref 60, .ref 61, .ref 62, .ref 63, .int (u 9), .ref 64, .int (u 10)]))) q (.inr (9, [.int (nI st.2.1), .int (nI st.2.2.1.length), .int st.2.2.2, .ref (q + 1), .ref (q + 2)]))) (q + 1) (.inl (0, 122, .inl sg))) (q + 2) (.inl (0, 122, .inl vl)), n, s) _
  refine r_aload_n (n := 0) (i := 0) 0 rfl rfl dX11_needWord_0 ?_
  refine r_aload_n (n := 1) (i := 1) 1 rfl rfl dX11_needWord_1 ?_
  refine p_callV (As := [.ref (j9 + 1)]) (rest := []) (kX11_isWord (O := O) (d := 6) (f := bU (bU (bU (bU f 50 (.inr (11, [.int (u 0), .int (u 1), .int (u 2), .int (u 3), .int (u 4), .ref 51, .ref q, .ref 53, .ref 54, .int (u 5), .int (nI e), .int at_, .int so, .int (nI st.1.1), .int mk, .int nu, .int di, .int (nI b), .int (nI i), .long wo, .ref 55, .ref 56, .int (u 6), .int (u 7), .ref 57, .int (u 8), .ref 58, .ref 59, .ref 60, .ref 61, .ref 62, .ref 63, .int (u 9), .ref 64, .int (u 10)]))) q (.inr (9, [.int (nI st.2.1), .int (nI st.2.2.1.length), .int st.2.2.2, .ref (q + 1), .ref (q + 2)]))) (q + 1) (.inl (0, 122, .inl sg))) (q + 2) (.inl (0, 122, .inl vl))) (n := n) (s := s) (q := q) (e := e) (at_ := at_) (so := so) (pl := nI st.1.1) (mk := mk) (nu := nu) (di := di) (br := nI b) (iff := nI i) (wo := wo) (k := st.1.2.2.1) (v := st.1.2.2.2) (i := j9) (by exact ((bU_n (by omega)).trans (((bU_n (by omega)).trans (((bU_n (by omega)).trans (bU_s _ _ _))))))) hm.2.1 hj9 (Nat.le_refl _)).call rfl lkX11_133 imX11_isWord seX11_isWord rfl (by exact ((bU_n (by omega)).trans (((bU_n (by omega)).trans (((bU_n (by omega)).trans (bU_s _ _ _))))))) rfl rfl (by omega) (Nat.le_of_ble_eq_true rfl) dX11_needWord_2 (fun v9 G9 h9 => ?_) (fun q9 G9 h9 => (by cases h9.1))
  obtain ⟨h8, rfl⟩ := h9; cases h8
  show bV O _ d 5 [(0, .ref 50), (1, .ref (j9 + 1))] [.int (bI (decide (st.1.2.2.1 = nI (261 + j9))))] (bU (bU (bU (bU f 50 (.inr (11, [.int (u 0), .int (u 1), .int (u 2), .int (u 3), .int (u 4), .ref 51, .ref q, .ref 53, .ref 54, .int (u 5), .int (nI e), .int at_, .int so, .int (nI st.1.1), .int mk, .int nu, .int di, .int (nI b), .int (nI i), .long wo, .ref 55, .ref 56, .int (u 6), .int (u 7), .ref 57, .int (u 8), .ref 58, .ref 59, .ref 60, .ref 61, .ref 62, .ref 63, .int (u 9), .ref 64, .int (u 10)]))) q (.inr (9, [.int (nI st.2.1), .int (nI st.2.2.1.length), .int st.2.2.2, .ref (q + 1), .ref (q + 2)]))) (q + 1) (.inl (0, 122, .inl sg))) (q + 2) (.inl (0, 122, .inl vl)), n, s) _
  refine r_if_ne (tgt := 14) (by decide) dX11_needWord_5 (fun c5 => ?_) (fun c5 => ?_)
  · have c5 := bI_1.mp c5
    first | (have q5 : st.1.2.2.1 = nI (261 + j9) := of_decide_eq_true c5) | (have q5 : ¬ st.1.2.2.1 = nI (261 + j9) := of_decide_eq_false c5)
    refine r_aload_n (n := 0) (i := 0) 0 rfl rfl dX11_needWord_14 ?_
    refine p_callV (As := []) (rest := []) (c_nextM (d := 1) hq h53 h54 e0 hb9 hm ho (by rw [q5]; exact jw_ne hj9) (Nat.le_refl _)) rfl lkX11_140 imX11_next seX11_next rfl (by exact ((bU_n (by omega)).trans (((bU_n (by omega)).trans (((bU_n (by omega)).trans (bU_s _ _ _))))))) rfl rfl (by omega) (Nat.le_of_ble_eq_true rfl) dX11_needWord_15 (fun v9 G9 h9 => ?_) (fun q9 G9 h9 => ⟨(fun x9 hx9 => by cases hx9), ?_⟩)
    · rcases hR1 : mNext bs e st with ⟨ft1, pl1⟩ | st1
      · rw [hR1] at h9; cases h9.1
      · rw [hR1] at h9; obtain ⟨h8, at1, so1, mk1, nu1, di1, wo1, sg1, vl1, hm1, rfl⟩ := h9; cases h8
        have ho1 : okS (k) (a) st1 := mNext_ok e0 ho hR1
        obtain ⟨p11, p21, p31, p41, p51⟩ := id ho1
        show bV O _ d 18 [(0, .ref 50), (1, .ref (j9 + 1))] [] (bU (bU (bU (bU f 50 (.inr (11, [.int (u 0), .int (u 1), .int (u 2), .int (u 3), .int (u 4), .ref 51, .ref q, .ref 53, .ref 54, .int (u 5), .int (nI e), .int at1, .int so1, .int (nI st1.1.1), .int mk1, .int nu1, .int di1, .int (nI b), .int (nI i), .long wo1, .ref 55, .ref 56, .int (u 6), .int (u 7), .ref 57, .int (u 8), .ref 58, .ref 59, .ref 60, .ref 61, .ref 62, .ref 63, .int (u 9), .ref 64, .int (u 10)]))) q (.inr (9, [.int (nI st1.2.1), .int (nI st1.2.2.1.length), .int st1.2.2.2, .ref (q + 1), .ref (q + 2)]))) (q + 1) (.inl (0, 122, .inl sg1))) (q + 2) (.inl (0, 122, .inl vl1)), n, s) _
        refine r_return rfl dX11_needWord_18 ?_
        rw [show pTake bs e (nI (261 + j9)) st = .inr st1 by rw [pTake_m, if_pos q5]; exact hR1]
        exact ⟨rfl, _, _, _, _, _, _, _, _, hm1, rfl⟩
    · rcases hR1 : mNext bs e st with ⟨ft1, pl1⟩ | st1
      · rw [hR1] at h9
        rw [show pTake bs e (nI (261 + j9)) st = .inl (ft1, pl1) by rw [pTake_m, if_pos q5]; exact hR1]
        exact h9
      · rw [hR1] at h9; cases h9.1
  · have c5 := bI_0.mp c5
    first | (have q5 : st.1.2.2.1 = nI (261 + j9) := of_decide_eq_true c5) | (have q5 : ¬ st.1.2.2.1 = nI (261 + j9) := of_decide_eq_false c5)
    refine r_aload_n (n := 0) (i := 0) 0 rfl rfl dX11_needWord_8 ?_
    refine r_iconst (v := 1) (by decide) dX11_needWord_9 ?_
    refine p_callV (As := [.int 1]) (rest := []) (kX11_stop (O := O) (d := 0) (f := bU (bU (bU (bU f 50 (.inr (11, [.int (u 0), .int (u 1), .int (u 2), .int (u 3), .int (u 4), .ref 51, .ref q, .ref 53, .ref 54, .int (u 5), .int (nI e), .int at_, .int so, .int (nI st.1.1), .int mk, .int nu, .int di, .int (nI b), .int (nI i), .long wo, .ref 55, .ref 56, .int (u 6), .int (u 7), .ref 57, .int (u 8), .ref 58, .ref 59, .ref 60, .ref 61, .ref 62, .ref 63, .int (u 9), .ref 64, .int (u 10)]))) q (.inr (9, [.int (nI st.2.1), .int (nI st.2.2.1.length), .int st.2.2.2, .ref (q + 1), .ref (q + 2)]))) (q + 1) (.inl (0, 122, .inl sg))) (q + 2) (.inl (0, 122, .inl vl))) (n := n) (s := s) (q := q) (e := e) (at_ := at_) (so := so) (pl := nI st.1.1) (mk := mk) (nu := nu) (di := di) (br := nI b) (iff := nI i) (wo := wo) (x := 1) (kd := kd) (sp := sp) (by exact ((bU_n (by omega)).trans (((bU_n (by omega)).trans (((bU_n (by omega)).trans (bU_s _ _ _))))))) (by exact ((bU_n (by omega)).trans (((bU_n (by omega)).trans (((bU_n (by omega)).trans (((bU_n (by decide)).trans (h53)))))))))  (Nat.le_refl _)).call rfl lkX11_137 imX11_stop seX11_stop rfl (by exact ((bU_n (by omega)).trans (((bU_n (by omega)).trans (((bU_n (by omega)).trans (bU_s _ _ _))))))) rfl rfl (by omega) (Nat.le_of_ble_eq_true rfl) dX11_needWord_10 (fun v9 G9 h9 => ?_) (fun q9 G9 h9 => (by cases h9.1))
    obtain ⟨h8, rfl⟩ := h9; cases h8
    show bV O _ d 13 [(0, .ref 50), (1, .ref (j9 + 1))] [.ref 53] (bU (bU (bU (bU (bU f 50 (.inr (11, [.int (u 0), .int (u 1), .int (u 2), .int (u 3), .int (u 4), .ref 51, .ref q, .ref 53, .ref 54, .int (u 5), .int (nI e), .int at_, .int so, .int (nI st.1.1), .int mk, .int nu, .int di, .int (nI b), .int (nI i), .long wo, .ref 55, .ref 56, .int (u 6), .int (u 7), .ref 57, .int (u 8), .ref 58, .ref 59, .ref 60, .ref 61, .ref 62, .ref 63, .int (u 9), .ref 64, .int (u 10)]))) q (.inr (9, [.int (nI st.2.1), .int (nI st.2.2.1.length), .int st.2.2.2, .ref (q + 1), .ref (q + 2)]))) (q + 1) (.inl (0, 122, .inl sg))) (q + 2) (.inl (0, 122, .inl vl))) 53 (.inr (10, [.null, .null, .null, .null, .null, .int 0, .int 1, .int (nI st.1.1)])), n, s) _
    refine p_athrow (by decide) (by exact bU_s _ _ _) rfl (fun x hx => by cases hx) dX11_needWord_13 ?_
    rw [show pTake bs e (nI (261 + j9)) st = .inl (1, st.1.1) by rw [pTake_m, if_neg q5]]
    exact ⟨rfl, _, _, _, _, _, _, _, _, _, _, _, _, _, _, rfl⟩
set_option maxRecDepth 4000 in
theorem c_opens {O : bO} {d : Nat} {f : bF} {n s : Nat} {u : Nat → Int32} {q e : Nat} {tg bs : Nat → Int32} {kd sp : Int32} (hq : 5000 ≤ q) (h53 : f 53 = some (.inr (10, [.null, .null, .null, .null, .null, .int 0, .int kd, .int sp]))) (h54 : f 54 = some (.inl (1, 300, .inl tg))) (e0 : e ≤ 300) (hb9 : ∀ z, z < 300 → tg z &&& 255 = bs z) {st : pS} {at_ so mk nu di : Int32} {wo : Int64} {sg vl : Nat → Int32} {b i k a : Nat} (hm : msR e st at_ so mk nu di wo sg vl) (ho : okS k a st) (hb : b ≤ 8) (hd : 2 ≤ d) : bCall O mX11_opens d [.ref 50] (hMd f u q e st at_ so mk nu di wo b i sg vl, n, s) (rM f n s u q e (b + 1) i (pOpen bs e b st)) := by
  refine bCall_of (by decide) rfl (Nat.le_of_ble_eq_true rfl) ?_
  obtain ⟨o1, o2, o3, o4, o5⟩ := id ho
  show bV O _ d 0 [(0, .ref 50)] [] (bU (bU (bU (bU f 50 (.inr (11, [.int (u 0), .int (u 1), .int (u 2), .int (u 3), .int (u 4), .ref 51, .ref q, .ref 53, .ref 54, .int (u 5), .int (nI e), .int at_, .int so, .int (nI st.1.1), .int mk, .int nu, .int di, .int (nI b), .int (nI i), .long wo, .ref 55, .ref 56, .int (u 6), .int (u 7), .ref 57, .int (u 8), .ref 58, .ref 59, .ref 60, .ref 61, .ref 62, .ref 63, .int (u 9), .ref 64, .int (u 10)]))) q (.inr (9, [.int (nI st.2.1), .int (nI st.2.2.1.length), .int st.2.2.2, .ref (q + 1), .ref (q + 2)]))) (q + 1) (.inl (0, 122, .inl sg))) (q + 2) (.inl (0, 122, .inl vl)), n, s) _
  refine r_aload_n (n := 0) (i := 0) 0 rfl rfl dX11_opens_0 ?_
  refine r_bipush (v := 40) (by decide) dX11_opens_1 ?_
  refine p_callV (As := [.int 40]) (rest := []) (kX11_is (O := O) (d := 0) (f := bU (bU (bU (bU f 50 (.inr (11, [.int (u 0), .int (u 1), .int (u 2), .int (u 3), .int (u 4), .ref 51, .ref q, .ref 53, .ref 54, .int (u 5), .int (nI e), .int at_, .int so, .int (nI st.1.1), .int mk, .int nu, .int di, .int (nI b), .int (nI i), .long wo, .ref 55, .ref 56, .int (u 6), .int (u 7), .ref 57, .int (u 8), .ref 58, .ref 59, .ref 60, .ref 61, .ref 62, .ref 63, .int (u 9), .ref 64, .int (u 10)]))) q (.inr (9, [.int (nI st.2.1), .int (nI st.2.2.1.length), .int st.2.2.2, .ref (q + 1), .ref (q + 2)]))) (q + 1) (.inl (0, 122, .inl sg))) (q + 2) (.inl (0, 122, .inl vl))) (n := n) (s := s) (q := q) (e := e) (at_ := at_) (so := so) (pl := nI st.1.1) (mk := mk) (nu := nu) (di := di) (br := nI b) (iff := nI i) (wo := wo) (k := st.1.2.2.1) (v := st.1.2.2.2) (x := 40) (by exact ((bU_n (by omega)).trans (((bU_n (by omega)).trans (((bU_n (by omega)).trans (bU_s _ _ _))))))) hm.2.1 (by decide) (Nat.le_refl _)).call rfl lkX11_143 imX11_is seX11_is rfl (by exact ((bU_n (by omega)).trans (((bU_n (by omega)).trans (((bU_n (by omega)).trans (bU_s _ _ _))))))) rfl rfl (by omega) (Nat.le_of_ble_eq_true rfl) dX11_opens_3 (fun v9 G9 h9 => ?_) (fun q9 G9 h9 => (by cases h9.1))
  obtain ⟨h8, rfl⟩ := h9; cases h8
  show bV O _ d 6 [(0, .ref 50)] [.int (bI (decide (st.1.2.2.1 = 40)))] (bU (bU (bU (bU f 50 (.inr (11, [.int (u 0), .int (u 1), .int (u 2), .int (u 3), .int (u 4), .ref 51, .ref q, .ref 53, .ref 54, .int (u 5), .int (nI e), .int at_, .int so, .int (nI st.1.1), .int mk, .int nu, .int di, .int (nI b), .int (nI i), .long wo, .ref 55, .ref 56, .int (u 6), .int (u 7), .ref 57, .int (u 8), .ref 58, .ref 59, .ref 60, .ref 61, .ref 62, .ref 63, .int (u 9), .ref 64, .int (u 10)]))) q (.inr (9, [.int (nI st.2.1), .int (nI st.2.2.1.length), .int st.2.2.2, .ref (q + 1), .ref (q + 2)]))) (q + 1) (.inl (0, 122, .inl sg))) (q + 2) (.inl (0, 122, .inl vl)), n, s) _
  refine r_if_ne (tgt := 15) (by decide) dX11_opens_6 (fun c6 => ?_) (fun c6 => ?_)
  · have c6 := bI_1.mp c6
    first | (have q6 : st.1.2.2.1 = 40 := of_decide_eq_true c6) | (have q6 : ¬ st.1.2.2.1 = 40 := of_decide_eq_false c6)
    refine r_aload_n (n := 0) (i := 0) 0 rfl rfl dX11_opens_15 ?_
    refine p_get (fs := [.int (u 0), .int (u 1), .int (u 2), .int (u 3), .int (u 4), .ref 51, .ref q, .ref 53, .ref 54, .int (u 5), .int (nI e), .int at_, .int so, .int (nI st.1.1), .int mk, .int nu, .int di, .int (nI b), .int (nI i), .long wo, .ref 55, .ref 56, .int (u 6), .int (u 7), .ref 57, .int (u 8), .ref 58, .ref 59, .ref 60, .ref 61, .ref 62, .ref 63, .int (u 9), .ref 64, .int (u 10)]) flX11_149 (by exact ((bU_n (by omega)).trans (((bU_n (by omega)).trans (((bU_n (by omega)).trans (bU_s _ _ _))))))) rfl dX11_opens_16 ?_
    refine r_bipush (v := 8) (by decide) dX11_opens_19 ?_
    refine r_icmp_ne (tgt := 30) (by decide) dX11_opens_21 (fun c21 => ?_) (fun c21 => ?_)
    · have c21 : ¬ b = 8 := fun h7 => c21 ((nI_eq (a := b) (b := 8) (by omega) (by omega)).mpr h7)
      refine r_aload_n (n := 0) (i := 0) 0 rfl rfl dX11_opens_30 ?_
      refine r_dup rfl dX11_opens_31 ?_
      refine p_get (fs := [.int (u 0), .int (u 1), .int (u 2), .int (u 3), .int (u 4), .ref 51, .ref q, .ref 53, .ref 54, .int (u 5), .int (nI e), .int at_, .int so, .int (nI st.1.1), .int mk, .int nu, .int di, .int (nI b), .int (nI i), .long wo, .ref 55, .ref 56, .int (u 6), .int (u 7), .ref 57, .int (u 8), .ref 58, .ref 59, .ref 60, .ref 61, .ref 62, .ref 63, .int (u 9), .ref 64, .int (u 10)]) flX11_149 (by exact ((bU_n (by omega)).trans (((bU_n (by omega)).trans (((bU_n (by omega)).trans (bU_s _ _ _))))))) rfl dX11_opens_32 ?_
      refine r_iconst (v := 1) (by decide) dX11_opens_35 ?_
      refine r_iaddE (v := nI (b + 1)) (nI_add b 1) dX11_opens_36 ?_
      refine p_put (fs := [.int (u 0), .int (u 1), .int (u 2), .int (u 3), .int (u 4), .ref 51, .ref q, .ref 53, .ref 54, .int (u 5), .int (nI e), .int at_, .int so, .int (nI st.1.1), .int mk, .int nu, .int di, .int (nI b), .int (nI i), .long wo, .ref 55, .ref 56, .int (u 6), .int (u 7), .ref 57, .int (u 8), .ref 58, .ref 59, .ref 60, .ref 61, .ref 62, .ref 63, .int (u 9), .ref 64, .int (u 10)]) (fs' := [.int (u 0), .int (u 1), .int (u 2), .int (u 3), .int (u 4), .ref 51, .ref q, .ref 53, .ref 54, .int (u 5), .int (nI e), .int at_, .int so, .int (nI st.1.1), .int mk, .int nu, .int di, .int (nI (b + 1)), .int (nI i), .long wo, .ref 55, .ref 56, .int (u 6), .int (u 7), .ref 57, .int (u 8), .ref 58, .ref 59, .ref 60, .ref 61, .ref 62, .ref 63, .int (u 9), .ref 64, .int (u 10)]) flX11_149 (by exact ((bU_n (by omega)).trans (((bU_n (by omega)).trans (((bU_n (by omega)).trans (bU_s _ _ _))))))) (Nat.le_of_ble_eq_true rfl) (bNf_i _) rfl dX11_opens_37 ?_
      refine bV_h (f2 := bU (bU (bU (bU f 50 (.inr (11, [.int (u 0), .int (u 1), .int (u 2), .int (u 3), .int (u 4), .ref 51, .ref q, .ref 53, .ref 54, .int (u 5), .int (nI e), .int at_, .int so, .int (nI st.1.1), .int mk, .int nu, .int di, .int (nI (b + 1)), .int (nI i), .long wo, .ref 55, .ref 56, .int (u 6), .int (u 7), .ref 57, .int (u 8), .ref 58, .ref 59, .ref 60, .ref 61, .ref 62, .ref 63, .int (u 9), .ref 64, .int (u 10)]))) q (.inr (9, [.int (nI st.2.1), .int (nI st.2.2.1.length), .int st.2.2.2, .ref (q + 1), .ref (q + 2)]))) (q + 1) (.inl (0, 122, .inl sg))) (q + 2) (.inl (0, 122, .inl vl))) (((bU_c (by omega)).trans (congrArg (fun z => bU z (q + 2) (.inl (0, 122, .inl vl))) (((bU_c (by omega)).trans (congrArg (fun z => bU z (q + 1) (.inl (0, 122, .inl sg))) (((bU_c (by omega)).trans (congrArg (fun z => bU z q (.inr (9, [.int (nI st.2.1), .int (nI st.2.2.1.length), .int st.2.2.2, .ref (q + 1), .ref (q + 2)]))) (bU_u _ _ _ _)))))))))) ?_
      refine r_aload_n (n := 0) (i := 0) 0 rfl rfl dX11_opens_40 ?_
      refine p_callV (As := []) (rest := []) (c_nextM (d := 1) hq h53 h54 e0 hb9 hm ho (by rw [q6]; decide) (Nat.le_refl _)) rfl lkX11_140 imX11_next seX11_next rfl (by exact ((bU_n (by omega)).trans (((bU_n (by omega)).trans (((bU_n (by omega)).trans (bU_s _ _ _))))))) rfl rfl (by omega) (Nat.le_of_ble_eq_true rfl) dX11_opens_41 (fun v9 G9 h9 => ?_) (fun q9 G9 h9 => ⟨(fun x9 hx9 => by cases hx9), ?_⟩)
      · rcases hR1 : mNext bs e st with ⟨ft1, pl1⟩ | st1
        · rw [hR1] at h9; cases h9.1
        · rw [hR1] at h9; obtain ⟨h8, at1, so1, mk1, nu1, di1, wo1, sg1, vl1, hm1, rfl⟩ := h9; cases h8
          have ho1 : okS (k) (a) st1 := mNext_ok e0 ho hR1
          obtain ⟨p11, p21, p31, p41, p51⟩ := id ho1
          show bV O _ d 44 [(0, .ref 50)] [] (bU (bU (bU (bU f 50 (.inr (11, [.int (u 0), .int (u 1), .int (u 2), .int (u 3), .int (u 4), .ref 51, .ref q, .ref 53, .ref 54, .int (u 5), .int (nI e), .int at1, .int so1, .int (nI st1.1.1), .int mk1, .int nu1, .int di1, .int (nI (b + 1)), .int (nI i), .long wo1, .ref 55, .ref 56, .int (u 6), .int (u 7), .ref 57, .int (u 8), .ref 58, .ref 59, .ref 60, .ref 61, .ref 62, .ref 63, .int (u 9), .ref 64, .int (u 10)]))) q (.inr (9, [.int (nI st1.2.1), .int (nI st1.2.2.1.length), .int st1.2.2.2, .ref (q + 1), .ref (q + 2)]))) (q + 1) (.inl (0, 122, .inl sg1))) (q + 2) (.inl (0, 122, .inl vl1)), n, s) _
          refine r_return rfl dX11_opens_44 ?_
          rw [show pOpen bs e b st = .inr st1 by unfold pOpen; rw [if_pos q6, if_pos (by omega), pTake_m, if_pos q6]; exact hR1]
          exact ⟨rfl, _, _, _, _, _, _, _, _, hm1, rfl⟩
      · rcases hR1 : mNext bs e st with ⟨ft1, pl1⟩ | st1
        · rw [hR1] at h9
          rw [show pOpen bs e b st = .inl (ft1, pl1) by unfold pOpen; rw [if_pos q6, if_pos (by omega), pTake_m, if_pos q6]; exact hR1]
          exact h9
        · rw [hR1] at h9; cases h9.1
    · have c21 : b = 8 := (nI_eq (a := b) (b := 8) (by omega) (by omega)).mp c21
      refine r_aload_n (n := 0) (i := 0) 0 rfl rfl dX11_opens_24 ?_
      refine r_iconst (v := 3) (by decide) dX11_opens_25 ?_
      refine p_callV (As := [.int 3]) (rest := []) (kX11_stop (O := O) (d := 0) (f := bU (bU (bU (bU f 50 (.inr (11, [.int (u 0), .int (u 1), .int (u 2), .int (u 3), .int (u 4), .ref 51, .ref q, .ref 53, .ref 54, .int (u 5), .int (nI e), .int at_, .int so, .int (nI st.1.1), .int mk, .int nu, .int di, .int (nI b), .int (nI i), .long wo, .ref 55, .ref 56, .int (u 6), .int (u 7), .ref 57, .int (u 8), .ref 58, .ref 59, .ref 60, .ref 61, .ref 62, .ref 63, .int (u 9), .ref 64, .int (u 10)]))) q (.inr (9, [.int (nI st.2.1), .int (nI st.2.2.1.length), .int st.2.2.2, .ref (q + 1), .ref (q + 2)]))) (q + 1) (.inl (0, 122, .inl sg))) (q + 2) (.inl (0, 122, .inl vl))) (n := n) (s := s) (q := q) (e := e) (at_ := at_) (so := so) (pl := nI st.1.1) (mk := mk) (nu := nu) (di := di) (br := nI b) (iff := nI i) (wo := wo) (x := 3) (kd := kd) (sp := sp) (by exact ((bU_n (by omega)).trans (((bU_n (by omega)).trans (((bU_n (by omega)).trans (bU_s _ _ _))))))) (by exact ((bU_n (by omega)).trans (((bU_n (by omega)).trans (((bU_n (by omega)).trans (((bU_n (by decide)).trans (h53)))))))))  (Nat.le_refl _)).call rfl lkX11_137 imX11_stop seX11_stop rfl (by exact ((bU_n (by omega)).trans (((bU_n (by omega)).trans (((bU_n (by omega)).trans (bU_s _ _ _))))))) rfl rfl (by omega) (Nat.le_of_ble_eq_true rfl) dX11_opens_26 (fun v9 G9 h9 => ?_) (fun q9 G9 h9 => (by cases h9.1))
      obtain ⟨h8, rfl⟩ := h9; cases h8
      show bV O _ d 29 [(0, .ref 50)] [.ref 53] (bU (bU (bU (bU (bU f 50 (.inr (11, [.int (u 0), .int (u 1), .int (u 2), .int (u 3), .int (u 4), .ref 51, .ref q, .ref 53, .ref 54, .int (u 5), .int (nI e), .int at_, .int so, .int (nI st.1.1), .int mk, .int nu, .int di, .int (nI b), .int (nI i), .long wo, .ref 55, .ref 56, .int (u 6), .int (u 7), .ref 57, .int (u 8), .ref 58, .ref 59, .ref 60, .ref 61, .ref 62, .ref 63, .int (u 9), .ref 64, .int (u 10)]))) q (.inr (9, [.int (nI st.2.1), .int (nI st.2.2.1.length), .int st.2.2.2, .ref (q + 1), .ref (q + 2)]))) (q + 1) (.inl (0, 122, .inl sg))) (q + 2) (.inl (0, 122, .inl vl))) 53 (.inr (10, [.null, .null, .null, .null, .null, .int 0, .int 3, .int (nI st.1.1)])), n, s) _
      refine p_athrow (by decide) (by exact bU_s _ _ _) rfl (fun x hx => by cases hx) dX11_opens_29 ?_
      rw [show pOpen bs e b st = .inl (3, st.1.1) by unfold pOpen; rw [if_pos q6, if_neg (by omega)]]
      exact ⟨rfl, _, _, _, _, _, _, _, _, _, _, _, _, _, _, rfl⟩
  · have c6 := bI_0.mp c6
    first | (have q6 : st.1.2.2.1 = 40 := of_decide_eq_true c6) | (have q6 : ¬ st.1.2.2.1 = 40 := of_decide_eq_false c6)
    refine r_aload_n (n := 0) (i := 0) 0 rfl rfl dX11_opens_9 ?_
    refine r_iconst (v := 1) (by decide) dX11_opens_10 ?_
    refine p_callV (As := [.int 1]) (rest := []) (kX11_stop (O := O) (d := 0) (f := bU (bU (bU (bU f 50 (.inr (11, [.int (u 0), .int (u 1), .int (u 2), .int (u 3), .int (u 4), .ref 51, .ref q, .ref 53, .ref 54, .int (u 5), .int (nI e), .int at_, .int so, .int (nI st.1.1), .int mk, .int nu, .int di, .int (nI b), .int (nI i), .long wo, .ref 55, .ref 56, .int (u 6), .int (u 7), .ref 57, .int (u 8), .ref 58, .ref 59, .ref 60, .ref 61, .ref 62, .ref 63, .int (u 9), .ref 64, .int (u 10)]))) q (.inr (9, [.int (nI st.2.1), .int (nI st.2.2.1.length), .int st.2.2.2, .ref (q + 1), .ref (q + 2)]))) (q + 1) (.inl (0, 122, .inl sg))) (q + 2) (.inl (0, 122, .inl vl))) (n := n) (s := s) (q := q) (e := e) (at_ := at_) (so := so) (pl := nI st.1.1) (mk := mk) (nu := nu) (di := di) (br := nI b) (iff := nI i) (wo := wo) (x := 1) (kd := kd) (sp := sp) (by exact ((bU_n (by omega)).trans (((bU_n (by omega)).trans (((bU_n (by omega)).trans (bU_s _ _ _))))))) (by exact ((bU_n (by omega)).trans (((bU_n (by omega)).trans (((bU_n (by omega)).trans (((bU_n (by decide)).trans (h53)))))))))  (Nat.le_refl _)).call rfl lkX11_137 imX11_stop seX11_stop rfl (by exact ((bU_n (by omega)).trans (((bU_n (by omega)).trans (((bU_n (by omega)).trans (bU_s _ _ _))))))) rfl rfl (by omega) (Nat.le_of_ble_eq_true rfl) dX11_opens_11 (fun v9 G9 h9 => ?_) (fun q9 G9 h9 => (by cases h9.1))
    obtain ⟨h8, rfl⟩ := h9; cases h8
    show bV O _ d 14 [(0, .ref 50)] [.ref 53] (bU (bU (bU (bU (bU f 50 (.inr (11, [.int (u 0), .int (u 1), .int (u 2), .int (u 3), .int (u 4), .ref 51, .ref q, .ref 53, .ref 54, .int (u 5), .int (nI e), .int at_, .int so, .int (nI st.1.1), .int mk, .int nu, .int di, .int (nI b), .int (nI i), .long wo, .ref 55, .ref 56, .int (u 6), .int (u 7), .ref 57, .int (u 8), .ref 58, .ref 59, .ref 60, .ref 61, .ref 62, .ref 63, .int (u 9), .ref 64, .int (u 10)]))) q (.inr (9, [.int (nI st.2.1), .int (nI st.2.2.1.length), .int st.2.2.2, .ref (q + 1), .ref (q + 2)]))) (q + 1) (.inl (0, 122, .inl sg))) (q + 2) (.inl (0, 122, .inl vl))) 53 (.inr (10, [.null, .null, .null, .null, .null, .int 0, .int 1, .int (nI st.1.1)])), n, s) _
    refine p_athrow (by decide) (by exact bU_s _ _ _) rfl (fun x hx => by cases hx) dX11_opens_14 ?_
    rw [show pOpen bs e b st = .inl (1, st.1.1) by unfold pOpen; rw [if_neg q6, pTake_m, if_neg q6]]
    exact ⟨rfl, _, _, _, _, _, _, _, _, _, _, _, _, _, _, rfl⟩
