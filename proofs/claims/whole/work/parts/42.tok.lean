/-! ===== a token as the reference reads it, and as the class does (pure) ===== -/
def wH (d : Nat → Int) : Nat → Int
  | 0 => 0
  | n + 1 => 32 * wH d n + d n
theorem wH_b {d : Nat → Int} : ∀ n : Nat, (∀ k, k < n → 1 ≤ d k ∧ d k ≤ 26) → 0 ≤ wH d n ∧ wH d n < 32 ^ n := by
  intro n
  induction n with
  | zero => intro _; exact ⟨Int.le_refl _, by show (0:Int) < 32 ^ 0; decide⟩
  | succ n ih =>
    intro h
    have h1 := ih (fun k hk => h k (by omega))
    have h2 := h n (by omega)
    have h3 : (32 : Int) ^ (n + 1) = 32 * 32 ^ n := by rw [Int.pow_succ, Int.mul_comm]
    rw [h3]
    show 0 ≤ 32 * wH d n + d n ∧ 32 * wH d n + d n < 32 * 32 ^ n
    omega
theorem wH_inj {d c : Nat → Int} : ∀ n m : Nat, (∀ k, k < n → 1 ≤ d k ∧ d k ≤ 26) → (∀ k, k < m → 1 ≤ c k ∧ c k ≤ 26) → wH d n = wH c m → n = m ∧ ∀ k, k < n → d k = c k := by
  intro n
  induction n with
  | zero =>
    intro m hd hc h
    cases m with
    | zero => exact ⟨rfl, fun k hk => absurd hk (Nat.not_lt_zero _)⟩
    | succ m =>
      have h1 := (wH_b m (fun k hk => hc k (by omega))).1
      have h2 := hc m (by omega)
      have h3 : (0 : Int) = 32 * wH c m + c m := h
      omega
  | succ n ih =>
    intro m hd hc h
    cases m with
    | zero =>
      have h1 := (wH_b n (fun k hk => hd k (by omega))).1
      have h2 := hd n (by omega)
      have h3 : 32 * wH d n + d n = 0 := h
      omega
    | succ m =>
      have h2 := hd n (by omega)
      have h4 := hc m (by omega)
      have h3 : 32 * wH d n + d n = 32 * wH c m + c m := h
      obtain ⟨e1, e2⟩ := ih m (fun k hk => hd k (by omega)) (fun k hk => hc k (by omega)) (by omega)
      subst e1
      refine ⟨rfl, fun k hk => ?_⟩
      by_cases hkn : k = n
      · subst hkn
        omega
      · exact e2 k (by omega)
theorem wH_congr {d c : Nat → Int} : ∀ n : Nat, (∀ k, k < n → d k = c k) → wH d n = wH c n := by
  intro n
  induction n with
  | zero => intro _; rfl
  | succ n ih =>
    intro h
    show 32 * wH d n + d n = 32 * wH c n + c n
    rw [ih (fun k hk => h k (by omega)), h n (by omega)]
theorem bm64 {x : Int} (h1 : -9223372036854775808 ≤ x) (h2 : x < 9223372036854775808) : x.bmod (2 ^ 64) = x := by
  rw [Int.bmod_def]
  split <;> omega
theorem bm32 {x : Int} (h1 : -2147483648 ≤ x) (h2 : x < 2147483648) : x.bmod (2 ^ 32) = x := by
  rw [Int.bmod_def]
  split <;> omega
theorem jLetter_b {x : Int32} (h : jLetter x = true) : 97 ≤ x.toInt ∧ x.toInt ≤ 122 := by
  simp only [jLetter, Bool.and_eq_true, Bool.not_eq_true', decide_eq_false_iff_not, Int32.lt_iff_toInt_lt] at h
  have h1 : (97 : Int32).toInt = 97 := by decide
  have h2 : (122 : Int32).toInt = 122 := by decide
  omega
theorem jDigit_b {x : Int32} (h : jDigit x = true) : 48 ≤ x.toInt ∧ x.toInt ≤ 57 := by
  simp only [jDigit, Bool.and_eq_true, Bool.not_eq_true', decide_eq_false_iff_not, Int32.lt_iff_toInt_lt] at h
  have h1 : (48 : Int32).toInt = 48 := by decide
  have h2 : (57 : Int32).toInt = 57 := by decide
  omega
theorem sub97 {x : Int32} (h : 97 ≤ x.toInt ∧ x.toInt ≤ 122) : (x - 97 + 1).toInt = x.toInt - 96 := by
  have h1 : (97 : Int32).toInt = 97 := by decide
  have h2 : (1 : Int32).toInt = 1 := by decide
  rw [Int32.toInt_add, Int32.toInt_sub, h1, h2, bm32 (x := x.toInt - 97) (by omega) (by omega), bm32 (by omega) (by omega)]
  omega
theorem sub48 {x : Int32} (h : 48 ≤ x.toInt ∧ x.toInt ≤ 57) : (x - 48).toInt = x.toInt - 48 := by
  have h1 : (48 : Int32).toInt = 48 := by decide
  rw [Int32.toInt_sub, h1, bm32 (by omega) (by omega)]
theorem hstep {w : Int64} {x : Int32} (hw : 0 ≤ w.toInt ∧ w.toInt < 34359738368) (h : 97 ≤ x.toInt ∧ x.toInt ≤ 122) : (32 * w + (x - 97 + 1).toInt64).toInt = 32 * w.toInt + (x.toInt - 96) := by
  have h1 : (32 : Int64).toInt = 32 := by decide
  rw [Int64.toInt_add, Int64.toInt_mul, h1, bm64 (x := 32 * w.toInt) (by omega) (by omega), Int32.toInt_toInt64, sub97 h, bm64 (by omega) (by omega)]
section
variable {bs : Nat → Int32} {e : Nat}
theorem lets_in : ∀ (m q k : Nat), q ≤ k → k < lets bs e m q → jLetter (tb bs e k) = true := by
  intro m
  induction m with
  | zero => intro q k h1 h2; exact absurd h2 (by show ¬ k < q; omega)
  | succ m ih =>
    intro q k h1 h2
    rw [lets] at h2
    split at h2
    · rename_i h3
      by_cases hk : k = q
      · subst hk; exact h3
      · exact ih (q + 1) k (by omega) h2
    · omega
theorem wAcc_eq {p : Nat} : ∀ (m c : Nat) (w : Int64), e ≤ p + c + m → (∀ k, k < c → jLetter (tb bs e (p + k)) = true) → c + (lets bs e m (p + c) - (p + c)) ≤ 8 → w.toInt = wH (fun k => (tb bs e (p + k)).toInt - 96) c → (wAcc bs e m (p + c) c w).toInt = wH (fun k => (tb bs e (p + k)).toInt - 96) (c + (lets bs e m (p + c) - (p + c))) := by
  intro m
  induction m with
  | zero =>
    intro c w h1 h2 h3 h4
    show w.toInt = wH _ (c + (p + c - (p + c)))
    rw [Nat.sub_self, Nat.add_zero]
    exact h4
  | succ m ih =>
    intro c w h1 h2 h3 h4
    by_cases hl : jLetter (tb bs e (p + c)) = true
    · have el : lets bs e (m + 1) (p + c) = lets bs e m (p + c + 1) := by rw [lets, if_pos hl]
      rw [el] at h3
      have hg := lets_ge bs e m (p + c + 1)
      have ew : wAcc bs e (m + 1) (p + c) c w = wAcc bs e m (p + c + 1) (c + 1) (32 * w + (tb bs e (p + c) - 97 + 1).toInt64) := by rw [wAcc, if_pos hl, if_pos (show c < 8 by omega)]
      rw [el, ew]
      have hb := wH_b (d := fun k => (tb bs e (p + k)).toInt - 96) c (fun k hk => by have := jLetter_b (h2 k hk); show 1 ≤ _ - 96 ∧ _ - 96 ≤ 26; omega)
      have hpw : (32 : Int) ^ c ≤ 32 ^ 7 := by
        rcases (show c = 0 ∨ c = 1 ∨ c = 2 ∨ c = 3 ∨ c = 4 ∨ c = 5 ∨ c = 6 ∨ c = 7 by omega) with h | h | h | h | h | h | h | h <;> subst h <;> decide
      have h7 : (32 : Int) ^ 7 = 34359738368 := by decide
      have h9 := ih (c + 1) (32 * w + (tb bs e (p + c) - 97 + 1).toInt64) (by omega) (fun k hk => by
        by_cases hkc : k = c
        · subst hkc; exact hl
        · exact h2 k (by omega)) (by rw [show p + (c + 1) = p + c + 1 by omega]; omega) (by
        rw [hstep (by rw [h4]; omega) (jLetter_b hl), h4]
        rfl)
      rw [show p + (c + 1) = p + c + 1 by omega] at h9
      rw [h9]
      congr 1
      omega
    · have el : lets bs e (m + 1) (p + c) = p + c := by rw [lets, if_neg hl]
      have ew : wAcc bs e (m + 1) (p + c) c w = w := by rw [wAcc, if_neg hl]
      rw [el, ew, Nat.sub_self, Nat.add_zero]
      exact h4
theorem spl_iff {p i : Nat} : ∀ (m j : Nat), spl bs e p i m j = true ↔ ∀ k, j ≤ k → k < j + m → tb bs e (p + k) = chS i k := by
  intro m
  induction m with
  | zero => intro j; exact ⟨fun _ k h1 h2 => absurd h2 (by omega), fun _ => rfl⟩
  | succ m ih =>
    intro j
    rw [spl, Bool.and_eq_true, decide_eq_true_eq, ih (j + 1)]
    constructor
    · intro ⟨h1, h2⟩ k h3 h4
      by_cases hk : k = j
      · subst hk; exact h1
      · exact h2 k (by omega) (by omega)
    · intro h
      exact ⟨h j (Nat.le_refl _) (by omega), fun k h1 h2 => h k (by omega) (by omega)⟩
theorem splS_iff {p i l : Nat} : splS bs e p i l = true ↔ bLen.getD i 0 = l ∧ ∀ k, k < l → tb bs e (p + k) = chS i k := by
  rw [splS, Bool.and_eq_true, decide_eq_true_eq, spl_iff]
  constructor
  · intro ⟨h1, h2⟩
    exact ⟨h1, fun k hk => h2 k (by omega) (by omega)⟩
  · intro ⟨h1, h2⟩
    exact ⟨h1, fun k _ hk => h2 k (by omega)⟩
theorem hW_eq {i : Nat} (hi : i < 6) : (hW i).toInt = wH (fun k => (chS i k).toInt - 96) (bLen.getD i 0) ∧ ∀ k, k < bLen.getD i 0 → 1 ≤ (chS i k).toInt - 96 ∧ (chS i k).toInt - 96 ≤ 26 := by
  rcases (show i = 0 ∨ i = 1 ∨ i = 2 ∨ i = 3 ∨ i = 4 ∨ i = 5 by omega) with rfl | rfl | rfl | rfl | rfl | rfl <;> exact ⟨by decide +kernel, by decide +kernel⟩
/-- a word of at most eight letters is the word i just where the numbers are the same -/
theorem word_iff {p i : Nat} (hi : i < 6) (hp : e ≤ p + 300) (h8 : lets bs e 300 p - p ≤ 8) : wAcc bs e 300 p 0 0 = hW i ↔ splS bs e p i (lets bs e 300 p - p) = true := by
  have hw := wAcc_eq (bs := bs) (e := e) (p := p) 300 0 0 (by omega) (fun k hk => absurd hk (Nat.not_lt_zero _)) (by rw [Nat.add_zero, Nat.zero_add]; exact h8) (by show (0 : Int64).toInt = 0; decide)
  simp only [Nat.add_zero, Nat.zero_add] at hw
  have hh := hW_eq hi
  have hd : ∀ k, k < lets bs e 300 p - p → 1 ≤ (tb bs e (p + k)).toInt - 96 ∧ (tb bs e (p + k)).toInt - 96 ≤ 26 := fun k hk => by
    have := jLetter_b (lets_in (bs := bs) (e := e) 300 p (p + k) (by omega) (by omega))
    omega
  rw [splS_iff]
  constructor
  · intro h
    rw [h, hh.1] at hw
    obtain ⟨e1, e2⟩ := wH_inj _ _ hh.2 hd hw
    refine ⟨e1, fun k hk => ?_⟩
    have := e2 k (by omega)
    exact Int32.toInt_inj.mp (by omega)
  · intro ⟨h1, h2⟩
    apply Int64.toInt_inj.mp
    rw [hw, hh.1, h1]
    exact wH_congr _ (fun k hk => by rw [h2 k hk])
theorem tok_end {p : Nat} (h : tb bs e p = -1) : tkK bs e p ≠ 257 → nI p = nI (tkN bs e p) := fun _ => by rw [tkN, if_pos h]
theorem tok_endR {p : Nat} {nu di mk : Int32} {wo : Int64} (h : tb bs e p = -1) (old : Int32) : tkR (tkK bs e p) (tkV bs e p old) 1 mk nu di wo := Or.inr (Or.inl ⟨rfl, by rw [tkK, if_pos h]⟩)
theorem tok_letter {p : Nat} (h : ¬ tb bs e p = -1) (h2 : jLetter (tb bs e p) = true) : tkK bs e p ≠ 257 → nI (wN bs e (lets bs e 300 p)) = nI (tkN bs e p) := fun _ => by rw [tkN, if_neg h, if_pos h2]
theorem tok_digit {p : Nat} (h : ¬ tb bs e p = -1) (h2 : jLetter (tb bs e p) = false) (h3 : jDigit (tb bs e p) = true) : tkK bs e p ≠ 257 → nI (digs bs e 300 p) = nI (tkN bs e p) := fun _ => by rw [tkN, if_neg h, if_neg (Bool.eq_false_iff.mp h2), if_pos h3]
theorem tok_sign {p : Nat} (h : ¬ tb bs e p = -1) (h2 : jLetter (tb bs e p) = false) (h3 : jDigit (tb bs e p) = false) (_h4 : jSign (tb bs e p) = true) : tkK bs e p ≠ 257 → nI (p + 1) = nI (tkN bs e p) := fun _ => by rw [tkN, if_neg h, if_neg (Bool.eq_false_iff.mp h2), if_neg (Bool.eq_false_iff.mp h3)]
theorem tok_signR {p : Nat} {nu di : Int32} {wo : Int64} (h : ¬ tb bs e p = -1) (h2 : jLetter (tb bs e p) = false) (h3 : jDigit (tb bs e p) = false) (h4 : jSign (tb bs e p) = true) (old : Int32) : tkR (tkK bs e p) (tkV bs e p old) 4 (tb bs e p) nu di wo := by
  rw [tkK, if_neg h, if_neg (Bool.eq_false_iff.mp h2), if_neg (Bool.eq_false_iff.mp h3), if_pos h4]
  exact Or.inr (Or.inr (Or.inl ⟨rfl, rfl, h4⟩))
theorem tok_bad {p : Nat} {x : Int32} (h : ¬ tb bs e p = -1) (h2 : jLetter (tb bs e p) = false) (h3 : jDigit (tb bs e p) = false) (h4 : jSign (tb bs e p) = false) : tkK bs e p ≠ 257 → x = nI (tkN bs e p) := fun h9 => absurd (by rw [tkK, if_neg h, if_neg (Bool.eq_false_iff.mp h2), if_neg (Bool.eq_false_iff.mp h3), if_neg (Bool.eq_false_iff.mp h4)]) h9
theorem tok_badR {p : Nat} {nu di mk : Int32} {wo : Int64} (h : ¬ tb bs e p = -1) (h2 : jLetter (tb bs e p) = false) (h3 : jDigit (tb bs e p) = false) (h4 : jSign (tb bs e p) = false) (old : Int32) : tkR (tkK bs e p) (tkV bs e p old) 0 mk nu di wo := by
  rw [tkK, if_neg h, if_neg (Bool.eq_false_iff.mp h2), if_neg (Bool.eq_false_iff.mp h3), if_neg (Bool.eq_false_iff.mp h4)]
  exact Or.inl ⟨rfl, rfl⟩
theorem ndA_eq : ∀ (m q c : Nat) (v : Int32), c + (digs bs e m q - q) ≤ 4 → ndA bs e m q c v = nacc bs e m q v := by
  intro m
  induction m with
  | zero => intro q c v _; rfl
  | succ m ih =>
    intro q c v h
    rw [ndA, nacc]
    rw [digs] at h
    by_cases hj : jDigit (tb bs e q) = true
    · rw [if_pos hj] at *
      have hg := digs_ge bs e m (q + 1)
      rw [if_pos hj, if_pos (show c < 4 by omega), ih (q + 1) (c + 1) _ (by omega), Int32.mul_comm 10 v]
    · rw [if_neg hj, if_neg hj]
theorem tok_digitR {p : Nat} {di mk : Int32} {wo : Int64} (h : ¬ tb bs e p = -1) (h2 : jLetter (tb bs e p) = false) (h3 : jDigit (tb bs e p) = true) (old : Int32) : tkR (tkK bs e p) (tkV bs e p old) (if 0 + (digs bs e 300 p - p) < 5 then 3 else 0) mk (ndA bs e 300 p 0 0) di wo := by
  rw [tkK, if_neg h, if_neg (Bool.eq_false_iff.mp h2), if_pos h3, tkV, if_neg h, if_neg (Bool.eq_false_iff.mp h2), if_pos h3]
  by_cases h5 : digs bs e 300 p - p ≤ 4
  · rw [if_pos h5, if_pos (by omega)]
    exact Or.inr (Or.inr (Or.inr (Or.inl ⟨rfl, rfl, ndA_eq _ _ _ _ (by omega)⟩)))
  · rw [if_neg h5, if_neg (by omega)]
    exact Or.inl ⟨rfl, rfl⟩
theorem kow_kwd {p : Nat} (hp : e ≤ p + 300) (h8 : lets bs e 300 p - p ≤ 8) : kow bs e p (lets bs e 300 p - p) = kwd (wAcc bs e 300 p 0 0) := by
  have a := fun i hi => word_iff (bs := bs) (e := e) (p := p) (i := i) hi hp h8
  unfold kow kwd
  simp only [a 0 (by decide), a 1 (by decide), a 2 (by decide), a 3 (by decide), a 4 (by decide)]
theorem x_iff {p : Nat} (hp : e ≤ p + 300) (h8 : lets bs e 300 p - p ≤ 8) : wAcc bs e 300 p 0 0 = hW 5 ↔ lets bs e 300 p - p = 1 ∧ tb bs e p = 120 := by
  rw [word_iff (by decide) hp h8, splS_iff]
  have h1 : bLen.getD 5 0 = 1 := by decide
  have h2 : chS 5 0 = 120 := by decide +kernel
  rw [h1]
  constructor
  · intro ⟨h3, h4⟩
    exact ⟨h3.symm, by have := h4 0 (by omega); rwa [h2] at this⟩
  · intro ⟨h3, h4⟩
    refine ⟨h3.symm, fun k hk => ?_⟩
    have : k = 0 := by omega
    subst this
    rw [h2]
    exact h4
theorem di_in {x : Int32} (h : jDigit x = true) : (jIn (x - 48) 0 5 = true ↔ ¬ 6 ≤ x - 48) ∧ ¬ x - 48 = -1 := by
  have hb := jDigit_b h
  have hs := sub48 hb
  have h0 : (0 : Int32).toInt = 0 := by decide
  have h5 : (5 : Int32).toInt = 5 := by decide
  have h6 : (6 : Int32).toInt = 6 := by decide
  have h1 : (-1 : Int32).toInt = -1 := by decide
  refine ⟨?_, fun h9 => by rw [h9, h1] at hs; omega⟩
  simp only [jIn, Bool.and_eq_true, Bool.not_eq_true', decide_eq_false_iff_not, Int32.lt_iff_toInt_lt, Int32.le_iff_toInt_le, hs, h0, h5, h6]
  omega
theorem tok_letterR {p : Nat} {nu mk : Int32} (hp : e ≤ p + 300) (h : ¬ tb bs e p = -1) (h2 : jLetter (tb bs e p) = true) (old : Int32) : tkR (tkK bs e p) (tkV bs e p old) (if 0 + (lets bs e 300 p - p) < 9 then 2 else 0) mk nu (if jDigit (tb bs e (lets bs e 300 p)) = true then tb bs e (lets bs e 300 p) - 48 else -1) (wAcc bs e 300 p 0 0) := by
  rw [tkK, if_neg h, if_pos h2, tkV, if_neg h, if_pos h2, wK, wV]
  by_cases h8 : lets bs e 300 p - p ≤ 8
  · rw [if_pos h8, if_pos h8, if_pos (show 0 + (lets bs e 300 p - p) < 9 by omega)]
    have hx := x_iff hp h8
    by_cases hd : jDigit (tb bs e (lets bs e 300 p)) = true
    · rw [if_pos hd, if_pos hd, if_pos hd]
      obtain ⟨di1, di2⟩ := di_in hd
      by_cases c1 : lets bs e 300 p - p = 1
      · rw [if_pos c1]
        by_cases c2 : tb bs e p = 120
        · rw [if_pos c2]
          by_cases c3 : 6 ≤ tb bs e (lets bs e 300 p) - 48
          · rw [if_pos c3]
            exact Or.inr (Or.inr (Or.inr (Or.inr (Or.inr (Or.inr ⟨rfl, di2, fun h9 => (di1.mp h9.2) c3, rfl⟩)))))
          · rw [if_neg c3]
            exact Or.inr (Or.inr (Or.inr (Or.inr (Or.inr (Or.inl ⟨rfl, di1.mpr c3, hx.mpr ⟨c1, c2⟩, rfl, rfl⟩)))))
        · rw [if_neg c2]
          exact Or.inr (Or.inr (Or.inr (Or.inr (Or.inr (Or.inr ⟨rfl, di2, fun h9 => c2 (hx.mp h9.1).2, rfl⟩)))))
      · rw [if_neg c1]
        exact Or.inr (Or.inr (Or.inr (Or.inr (Or.inr (Or.inr ⟨rfl, di2, fun h9 => c1 (hx.mp h9.1).1, rfl⟩)))))
    · rw [if_neg hd, if_neg hd, if_neg hd]
      exact Or.inr (Or.inr (Or.inr (Or.inr (Or.inl ⟨rfl, rfl, kow_kwd hp h8⟩))))
  · rw [if_neg h8, if_neg h8, if_neg (show ¬ 0 + (lets bs e 300 p - p) < 9 by omega)]
    exact Or.inl ⟨rfl, rfl⟩
end
