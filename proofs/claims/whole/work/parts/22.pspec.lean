/-! ===== what both parsers do: tokens, parts, code ===== -/
/-- a token: its place, what is behind it, its kind, its number -/
abbrev pT : Type := Nat × Nat × Int32 × Int32
/-- the token, the parts met, the code written, the inputs' bits -/
abbrev pS : Type := pT × Nat × List (Int32 × Int32) × Int32
/-- a fault and its place, or a state -/
abbrev pR : Type := (Int32 × Nat) ⊕ pS
def pB (r : pR) (g : pS → pR) : pR := match r with
  | .inl x => .inl x
  | .inr s => g s
theorem pB_l (x : Int32 × Nat) (g : pS → pR) : pB (.inl x) g = .inl x := rfl
theorem pB_r (s : pS) (g : pS → pR) : pB (.inr s) g = g s := rfl
theorem pB_inr {r : pR} {g : pS → pR} {s : pS} (h : pB r g = .inr s) : ∃ s1, r = .inr s1 ∧ g s1 = .inr s := by
  cases r with
  | inl x => cases h
  | inr s1 => exact ⟨s1, rfl, h⟩
def adv (bs : Nat → Int32) (e : Nat) (t : pT) : pT := (tkP bs e t.2.1, tkN bs e (tkP bs e t.2.1), tkK bs e (tkP bs e t.2.1), tkV bs e (tkP bs e t.2.1) t.2.2.2)
/-- places within the tape, k parts met but not written, at least a parts met -/
def okS (k a : Nat) (st : pS) : Prop := st.1.1 ≤ 300 ∧ st.1.2.1 ≤ 300 ∧ st.2.1 ≤ 60 ∧ st.2.2.1.length + k ≤ st.2.1 ∧ a ≤ st.2.1
def pPart (bs : Nat → Int32) (e : Nat) (st : pS) : pR := if st.2.1 < 60 then .inr (adv bs e st.1, st.2.1 + 1, st.2.2.1, st.2.2.2) else .inl (3, st.1.1)
def pTake (bs : Nat → Int32) (e : Nat) (k : Int32) (st : pS) : pR := if st.1.2.2.1 = k then .inr (adv bs e st.1, st.2.1, st.2.2.1, st.2.2.2) else .inl (1, st.1.1)
def pOpen (bs : Nat → Int32) (e b : Nat) (st : pS) : pR := if st.1.2.2.1 = 40 then (if b < 8 then pTake bs e 40 st else .inl (3, st.1.1)) else pTake bs e 40 st
def pWr (k v : Int32) (st : pS) : pR := .inr (st.1, st.2.1, st.2.2.1 ++ [(k, v)], st.2.2.2)
def pPair (bs : Nat → Int32) (e : Nat) (T : Nat → Nat → pS → pR) (b i : Nat) (st : pS) : pR := pB (pOpen bs e b st) fun s1 => pB (T (b + 1) i s1) fun s2 => pB (pTake bs e 44 s2) fun s3 => pB (T (b + 1) i s3) fun s4 => pTake bs e 41 s4
def pBits (st : pS) : pS := (st.1, st.2.1, st.2.2.1, st.2.2.2 ||| (1 : Int32) <<< (st.1.2.2.2 &&& 31))
def pPlain (bs : Nat → Int32) (e : Nat) (T : Nat → Nat → pS → pR) (b i : Nat) (st : pS) : pR :=
  if st.1.2.2.1 = 258 then pB (pPart bs e st) (pWr 258 st.1.2.2.2)
  else if st.1.2.2.1 = 259 then pB (pPart bs e (pBits st)) (pWr 259 st.1.2.2.2)
  else if st.1.2.2.1 = 40 then pB (pOpen bs e b st) fun s1 => pB (T (b + 1) i s1) fun s2 => pTake bs e 41 s2
  else if st.1.2.2.1 = 264 then pB (pPart bs e st) fun s1 => pB (pPair bs e T b i s1) (pWr 264 0)
  else if st.1.2.2.1 = 265 then pB (pPart bs e st) fun s1 => pB (pPair bs e T b i s1) (pWr 265 0)
  else if st.1.2.2.1 = 260 then .inl (2, st.1.1) else .inl (1, st.1.1)
/-- the minus signs ahead: how many -/
def pMin (bs : Nat → Int32) (e : Nat) : Nat → Nat → pS → (Int32 × Nat) ⊕ (Nat × pS)
  | 0, c, st => .inr (c, st)
  | k + 1, c, st => if st.1.2.2.1 = 45 then (match pPart bs e st with
    | .inl x => .inl x
    | .inr s1 => pMin bs e k (c + 1) s1) else .inr (c, st)
def pNeg : Nat → pS → pS
  | 0, st => st
  | c + 1, st => pNeg c (st.1, st.2.1, st.2.2.1 ++ [(266, 0)], st.2.2.2)
def pOne (bs : Nat → Int32) (e : Nat) (T : Nat → Nat → pS → pR) (b i : Nat) (st : pS) : pR := match pMin bs e 61 0 st with
  | .inl x => .inl x
  | .inr (c, s1) => pB (pPlain bs e T b i s1) fun s2 => .inr (pNeg c s2)
def pTermL (bs : Nat → Int32) (e : Nat) (T : Nat → Nat → pS → pR) (b i : Nat) : Nat → pS → pR
  | 0, st => .inr st
  | k + 1, st => if st.1.2.2.1 = 42 then pB (pPart bs e st) fun s1 => pB (pOne bs e T b i s1) fun s2 => pB (pWr 42 0 s2) (pTermL bs e T b i k) else .inr st
def pTerm (bs : Nat → Int32) (e : Nat) (T : Nat → Nat → pS → pR) (b i : Nat) (st : pS) : pR := pB (pOne bs e T b i st) (pTermL bs e T b i 61)
def pSumL (bs : Nat → Int32) (e : Nat) (T : Nat → Nat → pS → pR) (b i : Nat) : Nat → pS → pR
  | 0, st => .inr st
  | k + 1, st => if st.1.2.2.1 = 43 ∨ st.1.2.2.1 = 45 then pB (pPart bs e st) fun s1 => pB (pTerm bs e T b i s1) fun s2 => pB (pWr st.1.2.2.1 0 s2) (pSumL bs e T b i k) else .inr st
def pSum (bs : Nat → Int32) (e : Nat) (T : Nat → Nat → pS → pR) (b i : Nat) (st : pS) : pR := pB (pTerm bs e T b i st) (pSumL bs e T b i 61)
def pTest (bs : Nat → Int32) (e : Nat) (T : Nat → Nat → pS → pR) (b i : Nat) (st : pS) : pR := pB (pSum bs e T b i st) fun s1 =>
  if s1.1.2.2.1 = 60 ∨ s1.1.2.2.1 = 62 ∨ s1.1.2.2.1 = 61 then pB (pPart bs e s1) fun s2 => pB (pSum bs e T b i s2) (pWr s1.1.2.2.1 0) else .inl (1, s1.1.1)
def pIf (bs : Nat → Int32) (e : Nat) (T : Nat → Nat → pS → pR) (b i : Nat) (st : pS) : pR :=
  if i < 8 then pB (pPart bs e st) fun s1 => pB (pTest bs e T b (i + 1) s1) fun s2 => pB (pTake bs e 262 s2) fun s3 => pB (T b (i + 1) s3) fun s4 => pB (pTake bs e 263 s4) fun s5 => pB (T b (i + 1) s5) (pWr 261 0) else .inl (3, st.1.1)
def pTell (bs : Nat → Int32) (e : Nat) (T : Nat → Nat → pS → pR) (b i : Nat) (st : pS) : pR := if st.1.2.2.1 = 261 then pIf bs e T b i st else pSum bs e T b i st
/-- a TELL, D levels deep at most -/
def tellS (bs : Nat → Int32) (e : Nat) : Nat → Nat → Nat → pS → pR
  | 0 => fun _ _ st => .inl (1, st.1.1)
  | D + 1 => pTell bs e (tellS bs e D)
/-- a MODEL of the tape's first e bytes -/
def modelS (bs : Nat → Int32) (e : Nat) : pR := pB (tellS bs e 17 0 0 ((tkP bs e 0, tkN bs e (tkP bs e 0), tkK bs e (tkP bs e 0), tkV bs e (tkP bs e 0) 0), 0, [], 0)) fun s => if s.1.2.2.1 = 256 then .inr s else .inl (1, s.1.1)
section
variable {bs : Nat → Int32} {e : Nat}
theorem tkP_le {q : Nat} (he : e ≤ 300) (hq : q ≤ 300) : tkP bs e q ≤ 300 := by
  have := skp_ge bs e 300 q
  unfold tkP
  omega
theorem tkN_le {p : Nat} (he : e ≤ 300) (hp : p ≤ 300) : tkN bs e p ≤ 300 := by
  unfold tkN
  split
  · exact hp
  · have hlt : p < e := Nat.lt_of_not_le (fun h => by rename_i h9; exact h9 (tb_out h))
    split
    · unfold wN
      have h1 := lets_ge bs e 300 p
      split
      · have : lets bs e 300 p < e := Nat.lt_of_not_le (fun h => by rename_i h9; rw [jD_out h] at h9; cases h9)
        omega
      · omega
    · split
      · have h1 := digs_ge bs e 300 p
        omega
      · omega
theorem okS.adv {k a : Nat} {st : pS} (he : e ≤ 300) (h : okS k a st) : (adv bs e st.1).1 ≤ 300 ∧ (adv bs e st.1).2.1 ≤ 300 := ⟨tkP_le he h.2.1, tkN_le he (tkP_le he h.2.1)⟩
theorem okS.le {k a a' : Nat} {st : pS} (h : okS k a st) (ha : a' ≤ a) : okS k a' st := ⟨h.1, h.2.1, h.2.2.1, h.2.2.2.1, Nat.le_trans ha h.2.2.2.2⟩
theorem pPart_ok {k a : Nat} {st s1 : pS} (he : e ≤ 300) (h : okS k a st) (hr : pPart bs e st = .inr s1) : okS (k + 1) (a + 1) s1 := by
  unfold pPart at hr
  split at hr
  · cases hr
    exact ⟨(h.adv he).1, (h.adv he).2, by show st.2.1 + 1 ≤ 60; omega, by show st.2.2.1.length + (k + 1) ≤ st.2.1 + 1; have := h.2.2.2.1; omega, by show a + 1 ≤ st.2.1 + 1; have := h.2.2.2.2; omega⟩
  · cases hr
theorem pTake_ok {k a : Nat} {c : Int32} {st s1 : pS} (he : e ≤ 300) (h : okS k a st) (hr : pTake bs e c st = .inr s1) : okS k a s1 := by
  unfold pTake at hr
  split at hr
  · cases hr
    exact ⟨(h.adv he).1, (h.adv he).2, h.2.2.1, h.2.2.2⟩
  · cases hr
theorem pOpen_ok {k a b : Nat} {st s1 : pS} (he : e ≤ 300) (h : okS k a st) (hr : pOpen bs e b st = .inr s1) : okS k a s1 := by
  unfold pOpen at hr
  split at hr
  · split at hr
    · exact pTake_ok he h hr
    · cases hr
  · exact pTake_ok he h hr
theorem pWr_ok {k a a' : Nat} {c v : Int32} {st s1 : pS} (h : okS (k + 1) a st) (hr : pWr c v st = .inr s1) (ha : a' ≤ a := by omega) : okS k a' s1 := by
  cases hr
  refine ⟨h.1, h.2.1, h.2.2.1, ?_, Nat.le_trans ha h.2.2.2.2⟩
  have := h.2.2.2.1
  show (st.2.2.1 ++ [(c, v)]).length + k ≤ st.2.1
  simp only [List.length_append, List.length_cons, List.length_nil]
  omega
def okT (T : Nat → Nat → pS → pR) : Prop := ∀ (b i k a : Nat) (st s1 : pS), okS k a st → T b i st = .inr s1 → okS k a s1
variable {T : Nat → Nat → pS → pR}
theorem pPair_ok {k a b i : Nat} {st s1 : pS} (he : e ≤ 300) (hT : okT T) (h : okS k a st) (hr : pPair bs e T b i st = .inr s1) : okS k a s1 := by
  unfold pPair at hr
  obtain ⟨a1, r1, hr⟩ := pB_inr hr
  obtain ⟨a2, r2, hr⟩ := pB_inr hr
  obtain ⟨a3, r3, hr⟩ := pB_inr hr
  obtain ⟨a4, r4, hr⟩ := pB_inr hr
  exact pTake_ok he (hT _ _ _ _ _ _ (pTake_ok he (hT _ _ _ _ _ _ (pOpen_ok he h r1) r2) r3) r4) hr
theorem pPlain_ok {k a b i : Nat} {st s1 : pS} (he : e ≤ 300) (hT : okT T) (h : okS k a st) (hr : pPlain bs e T b i st = .inr s1) : okS k a s1 := by
  unfold pPlain at hr
  split at hr
  · obtain ⟨a1, r1, hr⟩ := pB_inr hr
    exact pWr_ok (pPart_ok he h r1) hr
  · split at hr
    · obtain ⟨a1, r1, hr⟩ := pB_inr hr
      exact pWr_ok (pPart_ok he (show okS k a (pBits st) from h) r1) hr
    · split at hr
      · obtain ⟨a1, r1, hr⟩ := pB_inr hr
        obtain ⟨a2, r2, hr⟩ := pB_inr hr
        exact pTake_ok he (hT _ _ _ _ _ _ (pOpen_ok he h r1) r2) hr
      · split at hr
        · obtain ⟨a1, r1, hr⟩ := pB_inr hr
          obtain ⟨a2, r2, hr⟩ := pB_inr hr
          exact pWr_ok (pPair_ok he hT (pPart_ok he h r1) r2) hr
        · split at hr
          · obtain ⟨a1, r1, hr⟩ := pB_inr hr
            obtain ⟨a2, r2, hr⟩ := pB_inr hr
            exact pWr_ok (pPair_ok he hT (pPart_ok he h r1) r2) hr
          · split at hr <;> cases hr
theorem pMin_ok (he : e ≤ 300) : ∀ (m c k a : Nat) (st s1 : pS) (c1 : Nat), okS k a st → pMin bs e m c st = .inr (c1, s1) → ∃ j, c1 = c + j ∧ okS (k + j) (a + j) s1 := by
  intro m
  induction m with
  | zero =>
    intro c k a st s1 c1 h hr
    cases hr
    exact ⟨0, rfl, h⟩
  | succ m ih =>
    intro c k a st s1 c1 h hr
    unfold pMin at hr
    split at hr
    · cases hp : pPart bs e st with
      | inl x => rw [hp] at hr; cases hr
      | inr s2 =>
        rw [hp] at hr
        obtain ⟨j, e1, e2⟩ := ih (c + 1) (k + 1) (a + 1) s2 s1 c1 (pPart_ok he h hp) hr
        exact ⟨j + 1, by omega, by rw [show k + (j + 1) = k + 1 + j by omega, show a + (j + 1) = a + 1 + j by omega]; exact e2⟩
    · cases hr
      exact ⟨0, rfl, h⟩
theorem pNeg_ok : ∀ (c k a : Nat) (st : pS), okS (k + c) a st → okS k a (pNeg c st) := by
  intro c
  induction c with
  | zero => intro k a st h; exact h
  | succ c ih =>
    intro k a st h
    refine ih k a _ ?_
    exact pWr_ok (c := 266) (v := 0) (k := k + c) h rfl
theorem pOne_ok {k a b i : Nat} {st s1 : pS} (he : e ≤ 300) (hT : okT T) (h : okS k a st) (hr : pOne bs e T b i st = .inr s1) : okS k a s1 := by
  unfold pOne at hr
  cases hm : pMin bs e 61 0 st with
  | inl x => rw [hm] at hr; cases hr
  | inr x =>
    obtain ⟨c, a1⟩ := x
    rw [hm] at hr
    obtain ⟨a2, r2, hr⟩ := pB_inr hr
    cases hr
    obtain ⟨j, e1, e2⟩ := pMin_ok he 61 0 k a st a1 c h hm
    refine pNeg_ok c k a a2 ?_
    rw [e1, Nat.zero_add]
    exact (pPlain_ok he hT e2 r2).le (by omega)
theorem pTermL_ok {b i : Nat} (he : e ≤ 300) (hT : okT T) : ∀ (m k a : Nat) (st s1 : pS), okS k a st → pTermL bs e T b i m st = .inr s1 → okS k a s1 := by
  intro m
  induction m with
  | zero => intro k a st s1 h hr; cases hr; exact h
  | succ m ih =>
    intro k a st s1 h hr
    unfold pTermL at hr
    split at hr
    · obtain ⟨a1, r1, hr⟩ := pB_inr hr
      obtain ⟨a2, r2, hr⟩ := pB_inr hr
      obtain ⟨a3, r3, hr⟩ := pB_inr hr
      exact ih k a a3 s1 (pWr_ok (pOne_ok he hT (pPart_ok he h r1) r2) r3) hr
    · cases hr; exact h
theorem pTerm_ok {k a b i : Nat} {st s1 : pS} (he : e ≤ 300) (hT : okT T) (h : okS k a st) (hr : pTerm bs e T b i st = .inr s1) : okS k a s1 := by
  obtain ⟨a1, r1, hr⟩ := pB_inr hr
  exact pTermL_ok he hT _ _ _ _ _ (pOne_ok he hT h r1) hr
theorem pSumL_ok {b i : Nat} (he : e ≤ 300) (hT : okT T) : ∀ (m k a : Nat) (st s1 : pS), okS k a st → pSumL bs e T b i m st = .inr s1 → okS k a s1 := by
  intro m
  induction m with
  | zero => intro k a st s1 h hr; cases hr; exact h
  | succ m ih =>
    intro k a st s1 h hr
    unfold pSumL at hr
    split at hr
    · obtain ⟨a1, r1, hr⟩ := pB_inr hr
      obtain ⟨a2, r2, hr⟩ := pB_inr hr
      obtain ⟨a3, r3, hr⟩ := pB_inr hr
      exact ih k a a3 s1 (pWr_ok (pTerm_ok he hT (pPart_ok he h r1) r2) r3) hr
    · cases hr; exact h
theorem pSum_ok {k a b i : Nat} {st s1 : pS} (he : e ≤ 300) (hT : okT T) (h : okS k a st) (hr : pSum bs e T b i st = .inr s1) : okS k a s1 := by
  obtain ⟨a1, r1, hr⟩ := pB_inr hr
  exact pSumL_ok he hT _ _ _ _ _ (pTerm_ok he hT h r1) hr
theorem pTest_ok {k a b i : Nat} {st s1 : pS} (he : e ≤ 300) (hT : okT T) (h : okS k a st) (hr : pTest bs e T b i st = .inr s1) : okS k a s1 := by
  obtain ⟨a1, r1, hr⟩ := pB_inr hr
  have o1 := pSum_ok he hT h r1
  split at hr
  · obtain ⟨a2, r2, hr⟩ := pB_inr hr
    obtain ⟨a3, r3, hr⟩ := pB_inr hr
    exact pWr_ok (pSum_ok he hT (pPart_ok he o1 r2) r3) hr
  · cases hr
theorem pIf_ok {k a b i : Nat} {st s1 : pS} (he : e ≤ 300) (hT : okT T) (h : okS k a st) (hr : pIf bs e T b i st = .inr s1) : okS k a s1 := by
  unfold pIf at hr
  split at hr
  · obtain ⟨a1, r1, hr⟩ := pB_inr hr
    obtain ⟨a2, r2, hr⟩ := pB_inr hr
    obtain ⟨a3, r3, hr⟩ := pB_inr hr
    obtain ⟨a4, r4, hr⟩ := pB_inr hr
    obtain ⟨a5, r5, hr⟩ := pB_inr hr
    obtain ⟨a6, r6, hr⟩ := pB_inr hr
    exact pWr_ok (hT _ _ _ _ _ _ (pTake_ok he (hT _ _ _ _ _ _ (pTake_ok he (pTest_ok he hT (pPart_ok he h r1) r2) r3) r4) r5) r6) hr
  · cases hr
theorem pTell_ok (he : e ≤ 300) (hT : okT T) : okT (pTell bs e T) := by
  intro b i k a st s1 h hr
  unfold pTell at hr
  split at hr
  · exact pIf_ok he hT h hr
  · exact pSum_ok he hT h hr
theorem tellS_ok (he : e ≤ 300) : ∀ D : Nat, okT (tellS bs e D) := by
  intro D
  induction D with
  | zero => intro b i k a st s1 h hr; cases hr
  | succ D ih => exact pTell_ok he ih
end
/-! the class's heap around its reader -/
abbrev tpC (tl : Int32) (e : Nat) (t : pT) : bE := .inr (5, [.ref 35, .int tl, .int (nI e), .int (nI t.2.1), .int (nI t.1), .int t.2.2.1, .int t.2.2.2])
abbrev rdC (st : pS) (ft : Int32) : bE := .inr (3, [.ref 34, .ref 36, .ref 37, .int (nI st.2.2.1.length), .int (nI st.2.1), .int st.2.2.2, .int ft])
abbrev hRd (f : bF) (tl : Int32) (e : Nat) (st : pS) (ks vs : Nat → Int32) (ft : Int32) : bF := bU (bU (bU (bU f 34 (tpC tl e st.1)) 33 (rdC st ft)) 36 (.inl (0, 60, .inl ks))) 37 (.inl (0, 60, .inl vs))
def cod (ks vs : Nat → Int32) (c : List (Int32 × Int32)) : Prop := ∀ (j : Nat) (x : Int32 × Int32), c[j]? = some x → ks j = x.1 ∧ vs j = x.2
theorem cod_add {ks vs : Nat → Int32} {c : List (Int32 × Int32)} {k v : Int32} (h : cod ks vs c) : cod (upd ks c.length k) (upd vs c.length v) (c ++ [(k, v)]) := by
  intro j x hj
  by_cases hl : j < c.length
  · rw [List.getElem?_append_left hl] at hj
    rw [pk_un (by omega), pk_un (by omega)]
    exact h j x hj
  · rw [List.getElem?_append_right (by omega)] at hj
    have hz : j - c.length < 1 := (List.getElem?_eq_some_iff.mp hj).1
    have e1 : j = c.length := by omega
    subst e1
    rw [Nat.sub_self] at hj
    cases hj
    exact ⟨pk_us, pk_us⟩
def rP (f : bF) (n s : Nat) (tl : Int32) (e : Nat) (res : pR) (r : bR) (G : bG) : Prop := match res with
  | .inr st => r = .inl (some (.int 1)) ∧ ∃ ks vs : Nat → Int32, cod ks vs st.2.2.1 ∧ G = (hRd f tl e st ks vs 0, n, s)
  | .inl x => r = .inl (some (.int 0)) ∧ ∃ (st : pS) (ks vs : Nat → Int32), st.1.1 = x.2 ∧ G = (hRd f tl e st ks vs x.1, n, s)
theorem rP_nx {f : bF} {n s : Nat} {tl : Int32} {e : Nat} {res : pR} {q : Nat} {G : bG} : ¬ rP f n s tl e res (.inr q) G := by
  cases res <;> exact fun h => by cases h.1
theorem pOpen_b {bs : Nat → Int32} {e b : Nat} {st s1 : pS} (h : pOpen bs e b st = .inr s1) : b < 8 := by
  unfold pOpen at h
  split at h
  · split at h
    · assumption
    · cases h
  · rename_i h9
    unfold pTake at h
    rw [if_neg h9] at h
    cases h
/-- the contract of the reader's readTell, at a depth of frames and at a level of brackets and ifs -/
def RT (O : bO) (dT lev : Nat) (f : bF) (n s : Nat) (tl : Int32) (e : Nat) (T : Nat → Nat → pS → pR) : Prop := ∀ (b i k a : Nat) (st : pS) (ks vs : Nat → Int32), b ≤ 8 → i ≤ 8 → (8 - b) + (8 - i) < lev → cod ks vs st.2.2.1 → okS k a st →
  bCall O mX3_readTell dT [.ref 33, .int (nI b), .int (nI i)] (hRd f tl e st ks vs 0, n, s) (rP f n s tl e (T b i st))
theorem toInt_ne {x : Int32} {k : Int32} (h : ¬ x = k) : x.toInt ≠ k.toInt := fun h2 => h (Int32.toInt_inj.mp h2)
theorem lko (x : Int32) (q40 : ¬ x = 40) (q258 : ¬ x = 258) (q259 : ¬ x = 259) (q260 : ¬ x = 260) (q264 : ¬ x = 264) (q265 : ¬ x = 265) : Op.lookupswitch.offset [((40 : Int), (121 : Int)), (258, 58), (259, 83), (260, 186), (264, 155), (265, 155)] 192 x.toInt = 192 := by
  have h1 : x.toInt ≠ 40 := toInt_ne (k := 40) q40
  have h2 : x.toInt ≠ 258 := toInt_ne (k := 258) q258
  have h3 : x.toInt ≠ 259 := toInt_ne (k := 259) q259
  have h4 : x.toInt ≠ 260 := toInt_ne (k := 260) q260
  have h5 : x.toInt ≠ 264 := toInt_ne (k := 264) q264
  have h6 : x.toInt ≠ 265 := toInt_ne (k := 265) q265
  simp [Op.lookupswitch.offset, h1, h2, h3, h4, h5, h6, Ne.symm h1, Ne.symm h2, Ne.symm h3, Ne.symm h4, Ne.symm h5, Ne.symm h6]
