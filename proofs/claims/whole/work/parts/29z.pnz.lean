/-! ===== the parser's faults are never 0; what it keeps (pure) ===== -/
def nzT (T : Nat → Nat → pS → pR) : Prop := ∀ (b i : Nat) (st : pS) (x : Int32 × Nat), T b i st = .inl x → x.1 ≠ 0
def nzR (r : pR) : Prop := ∀ x : Int32 × Nat, r = .inl x → x.1 ≠ 0
theorem nz_r {s : pS} : nzR (.inr s) := fun x h => by cases h
theorem nz_l {k : Int32} {p : Nat} (h : k ≠ 0) : nzR (.inl (k, p)) := fun x e => by cases e; exact h
theorem nz_B {r : pR} {g : pS → pR} (h : nzR r) (hg : ∀ s, nzR (g s)) : nzR (pB r g) := by
  cases r with
  | inl x => exact h
  | inr s => exact hg s
section
variable {bs : Nat → Int32} {e : Nat} {T : Nat → Nat → pS → pR}
theorem nz_part {st : pS} : nzR (pPart bs e st) := by
  unfold pPart
  split
  · exact nz_r
  · exact nz_l (by decide)
theorem nz_take {k : Int32} {st : pS} : nzR (pTake bs e k st) := by
  unfold pTake
  split
  · exact nz_r
  · exact nz_l (by decide)
theorem nz_open {b : Nat} {st : pS} : nzR (pOpen bs e b st) := by
  unfold pOpen
  split
  · split
    · exact nz_take
    · exact nz_l (by decide)
  · exact nz_take
theorem nz_wr {k v : Int32} {st : pS} : nzR (pWr k v st) := nz_r
theorem nz_pair (hT : nzT T) {b i : Nat} {st : pS} : nzR (pPair bs e T b i st) := nz_B nz_open fun _ => nz_B (hT _ _ _) fun _ => nz_B nz_take fun _ => nz_B (hT _ _ _) fun _ => nz_take
theorem nz_plain (hT : nzT T) {b i : Nat} {st : pS} : nzR (pPlain bs e T b i st) := by
  unfold pPlain
  repeat' split
  · exact nz_B nz_part fun _ => nz_wr
  · exact nz_B nz_part fun _ => nz_wr
  · exact nz_B nz_open fun _ => nz_B (hT _ _ _) fun _ => nz_take
  · exact nz_B nz_part fun _ => nz_B (nz_pair hT) fun _ => nz_wr
  · exact nz_B nz_part fun _ => nz_B (nz_pair hT) fun _ => nz_wr
  · exact nz_l (by decide)
  · exact nz_l (by decide)
theorem nz_min : ∀ (k c : Nat) (st : pS) (x : Int32 × Nat), pMin bs e k c st = .inl x → x.1 ≠ 0 := by
  intro k
  induction k with
  | zero => intro c st x h; cases h
  | succ k ih =>
    intro c st x h
    rw [pMin] at h
    split at h
    · rcases hp : pPart bs e st with y | s1
      · rw [hp] at h
        cases h
        exact nz_part _ hp
      · rw [hp] at h
        exact ih _ _ _ h
    · cases h
theorem nz_one (hT : nzT T) {b i : Nat} {st : pS} : nzR (pOne bs e T b i st) := by
  unfold pOne
  split
  · rename_i x h
    intro y hy
    cases hy
    exact nz_min _ _ _ _ h
  · exact nz_B (nz_plain hT) fun _ => nz_r
theorem nz_termL (hT : nzT T) {b i : Nat} : ∀ (k : Nat) (st : pS), nzR (pTermL bs e T b i k st) := by
  intro k
  induction k with
  | zero => intro st; exact nz_r
  | succ k ih =>
    intro st
    rw [pTermL_s]
    split
    · exact nz_B nz_part fun _ => nz_B (nz_one hT) fun _ => nz_B nz_wr ih
    · exact nz_r
theorem nz_term (hT : nzT T) {b i : Nat} {st : pS} : nzR (pTerm bs e T b i st) := nz_B (nz_one hT) (nz_termL hT 61)
theorem nz_sumL (hT : nzT T) {b i : Nat} : ∀ (k : Nat) (st : pS), nzR (pSumL bs e T b i k st) := by
  intro k
  induction k with
  | zero => intro st; exact nz_r
  | succ k ih =>
    intro st
    rw [pSumL_s]
    split
    · exact nz_B nz_part fun _ => nz_B (nz_term hT) fun _ => nz_B nz_wr ih
    · exact nz_r
theorem nz_sum (hT : nzT T) {b i : Nat} {st : pS} : nzR (pSum bs e T b i st) := nz_B (nz_term hT) (nz_sumL hT 61)
theorem nz_test (hT : nzT T) {b i : Nat} {st : pS} : nzR (pTest bs e T b i st) := by
  refine nz_B (nz_sum hT) fun s => ?_
  split
  · exact nz_B nz_part fun _ => nz_B (nz_sum hT) fun _ => nz_wr
  · exact nz_l (by decide)
theorem nz_if (hT : nzT T) {b i : Nat} {st : pS} : nzR (pIf bs e T b i st) := by
  unfold pIf
  split
  · exact nz_B nz_part fun _ => nz_B (nz_test hT) fun _ => nz_B nz_take fun _ => nz_B (hT _ _ _) fun _ => nz_B nz_take fun _ => nz_B (hT _ _ _) fun _ => nz_wr
  · exact nz_l (by decide)
theorem nz_tell : ∀ D : Nat, nzT (tellS bs e D) := by
  intro D
  induction D with
  | zero => intro b i st x h; cases h; exact (by decide : (1 : Int32) ≠ 0)
  | succ D ih =>
    intro b i st x h
    unfold tellS pTell at h
    split at h
    · exact nz_if ih _ h
    · exact nz_sum ih _ h
theorem modelT_nz {tv : Int32} {x : Int32 × Nat} (h : modelT bs e tv = .inl x) : x.1 ≠ 0 := nz_B (r := tellS bs e 17 0 0 (st0 bs e tv)) (nz_tell 17 _ _ _) (fun s => by split <;> first | exact nz_r | exact nz_l (by decide)) x h
theorem modelT_tell {tv : Int32} {s : pS} (h : modelT bs e tv = .inr s) : tellS bs e 17 0 0 (st0 bs e tv) = .inr s := by
  obtain ⟨s1, h1, h2⟩ := pB_inr h
  split at h2
  · cases h2
    exact h1
  · cases h2
theorem modelT_ok {tv : Int32} {s : pS} (he : e ≤ 300) (h : modelT bs e tv = .inr s) : okS 0 0 s := tellS_ok he 17 _ _ _ _ _ _ (st0_ok he) (modelT_tell h)
end
theorem cod_cp {ks vs : Nat → Int32} {c : List (Int32 × Int32)} (h : cod ks vs c) : cod (cpA 60 c.length ks) (cpA 60 c.length vs) c := by
  intro j x hj
  have hl : j < c.length := (List.getElem?_eq_some_iff.mp hj).1
  rw [cpA_at hl, cpA_at hl]
  exact h j x hj
