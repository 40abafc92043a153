/-! ===== the same state in the reference's heap; what always holds of it (printed by wip/gen/mspec.py) ===== -/
def nA (i : Nat) : Nat := 5000 + 3 * i
def eA (i : Nat) : Nat := 6000 + 6 * i
theorem nA_b {i : Nat} (h : i ≤ 20) : 5000 ≤ nA i ∧ nA i + 3 ≤ 5063 := by unfold nA; omega
theorem eA_b {i : Nat} (h : i < 4) : 6000 ≤ eA i ∧ eA i + 6 ≤ 6024 := by unfold eA; omega
theorem nA_ne {i j : Nat} (h : i ≠ j) : nA i + 3 ≤ nA j ∨ nA j + 3 ≤ nA i := by unfold nA; omega
theorem tab_in {A : Nat → Nat} {n : Nat} {x : Int32} (h : inB x n = true) : va_rf (tabF A n (cl x)) = .ref (A (cl x)) := by
  unfold tabF
  rw [if_pos (inB_lt h)]
  rfl
def NS (f : bF) (mc dc ac dfn td tl : Nat) (hs : Bool) (tr ft pl : Int32) : Prop := ∃ (th_ sz_ at_ so_ pl_ mk_ nu_ di_ br_ iff_ : Int32) (wo_ : Int64), f 50 = some (.inr (11, [.int th_, .int tr, .int (if tr = 4 then pl else -1), .int ft, .int (nI mc), .ref 51, .ref (nA mc), .ref 53, .ref 54, .int (nI tl), .int sz_, .int at_, .int so_, .int pl_, .int mk_, .int nu_, .int di_, .int br_, .int iff_, .long wo_, .ref 55, .ref 56, .int (nI dc), .int (nI td), .ref 57, .int (nI ac), .ref 58, .ref 59, .ref 60, .ref 61, .ref 62, .ref 63, .int (bI hs), .ref 64, .int (nI dfn)]))
def NT (f : bF) (bs : Nat → Int32) : Prop := ∃ (tg : Nat → Int32) (kd sp : Int32), f 53 = some (.inr (10, [.null, .null, .null, .null, .null, .int 0, .int kd, .int sp])) ∧ f 54 = some (.inl (1, 300, .inl tg)) ∧ ∀ z, z < 300 → tg z &&& 255 = bs z
def NM1 (f : bF) (q : Nat) (r : MR) : Prop := ∃ sg vl : Nat → Int32, f q = some (.inr (9, [.int (nI r.1.length), .int (nI r.1.length), .int r.2, .ref (q + 1), .ref (q + 2)])) ∧ f (q + 1) = some (.inl (0, 122, .inl sg)) ∧ f (q + 2) = some (.inl (0, 122, .inl vl)) ∧ codM sg vl r.1
def NSp (f : bF) (q : Nat) : Prop := ∃ (pt it ak : Int32) (sg vl : Nat → Int32), f q = some (.inr (9, [.int pt, .int it, .int ak, .ref (q + 1), .ref (q + 2)])) ∧ f (q + 1) = some (.inl (0, 122, .inl sg)) ∧ f (q + 2) = some (.inl (0, 122, .inl vl))
def NM (f : bF) (mc : Nat) (md : Nat → MR) : Prop := f 51 = some (.inl (6, 20, .inr (.inr (.inr (.inr (tabF nA mc)))))) ∧ (∀ i, i < mc → NM1 f (nA i) (md i)) ∧ NSp f (nA mc) ∧ ∀ i, mc < i → i ≤ 20 → ∀ j, j < 3 → f (nA i + j) = none
def NI (f : bF) (ip : Nat → Int32) : Prop := ∃ g : Nat → Int32, f 55 = some (.inl (0, 6, .inl g)) ∧ ∀ k, k < 6 → g k = ip k
def NP (f : bF) : Prop := ∃ g : Nat → Int32, f 56 = some (.inl (0, 122, .inl g))
def ND1 (f : bF) (q : Nat) (r : DR) : Prop := ∃ lo hi fm dy tl : Nat → Int32, f q = some (.inr (8, [.int (d_ch r), .int (d_rv r), .int (d_sh r), .int (d_rf r), .int (nI (d_fc r)), .int (d_kp r), .ref (q + 1), .ref (q + 2), .ref (q + 3), .ref (q + 4), .ref (q + 5)])) ∧ f (q + 1) = some (.inl (0, 6, .inl lo)) ∧ f (q + 2) = some (.inl (0, 6, .inl hi)) ∧ f (q + 3) = some (.inl (0, 20, .inl fm)) ∧ f (q + 4) = some (.inl (0, 2001, .inl dy)) ∧ f (q + 5) = some (.inl (0, 24, .inl tl)) ∧ (∀ k, k < 6 → lo k = d_lo r k) ∧ (∀ k, k < 6 → hi k = d_hi r k) ∧ (∀ k, k < 20 → fm k = d_fm r k) ∧ (∀ k, k ≤ 2000 → dy k = d_dy r k) ∧ ∀ k, k < 24 → tl k = d_tl r k
def ND (f : bF) (dc : Nat) (dr : Nat → DR) : Prop := f 57 = some (.inl (7, 4, .inr (.inr (.inr (.inr (tabF eA dc)))))) ∧ (∀ i, i < dc → ND1 f (eA i) (dr i)) ∧ ∀ i, dc ≤ i → i < 4 → ∀ j, j < 6 → f (eA i + j) = none
def NA1 (kp aq bc br tu : Nat → Int32) (i : Nat) (r : AR) : Prop := kp (6 * i) = a_do r ∧ kp (6 * i + 1) = a_ke r ∧ kp (6 * i + 2) = a_da r ∧ kp (6 * i + 3) = a_gv r ∧ kp (6 * i + 4) = a_ch r ∧ kp (6 * i + 5) = a_rv r ∧ (∀ k, k < 6 → aq (6 * i + k) = a_in r k) ∧ bc i = a_ct r ∧ br i = a_rt r ∧ tu i = a_tr r
def NA (f : bF) (ac : Nat) (an : Nat → AR) : Prop := ∃ kp aq bc br tu : Nat → Int32, f 58 = some (.inl (0, 1200, .inl kp)) ∧ f 59 = some (.inl (0, 1200, .inl aq)) ∧ f 60 = some (.inl (0, 200, .inl bc)) ∧ f 61 = some (.inl (0, 200, .inl br)) ∧ f 62 = some (.inl (0, 200, .inl tu)) ∧ ∀ i, i < ac → NA1 kp aq bc br tu i (an i)
def NC (f : bF) (sd : Nat → Int32) : Prop := ∃ g : Nat → Int32, f 63 = some (.inl (0, 5, .inl g)) ∧ g 0 = sd 0 ∧ g 1 = sd 1 ∧ g 2 = sd 2 ∧ g 3 = sd 3 ∧ g 4 = bI (sSure (sd 1) (sd 2))
def NF (f : bF) (df : Nat → Int32) (dfn : Nat) : Prop := ∃ g : Nat → Int32, f 64 = some (.inl (0, 200, .inl g)) ∧ ∀ k, k < dfn → g k = df k
def MP (f : bF) (σ : SS) : Prop := NS f σ.2.2.1 σ.2.2.2.2.2.1 σ.2.2.2.2.2.2.2.1 σ.2.2.2.2.2.2.2.2.2.2.2.2.1 σ.2.2.2.2.2.2.2.2.2.2.2.2.2.1 σ.2.1 σ.2.2.2.2.2.2.2.2.2.1 σ.2.2.2.2.2.2.2.2.2.2.2.2.2.2.1 σ.2.2.2.2.2.2.2.2.2.2.2.2.2.2.2.1 σ.2.2.2.2.2.2.2.2.2.2.2.2.2.2.2.2 ∧ NT f σ.1 ∧ NM f σ.2.2.1 σ.2.2.2.1 ∧ NI f σ.2.2.2.2.1 ∧ NP f ∧ ND f σ.2.2.2.2.2.1 σ.2.2.2.2.2.2.1 ∧ NA f σ.2.2.2.2.2.2.2.1 σ.2.2.2.2.2.2.2.2.1 ∧ NC f σ.2.2.2.2.2.2.2.2.2.2.1 ∧ NF f σ.2.2.2.2.2.2.2.2.2.2.2.1 σ.2.2.2.2.2.2.2.2.2.2.2.2.1
/-- what a call of the reference comes to -/
def pM (f : bF) (n s c l : Nat) (res : Int32 × SS) (r : bR) (G : bG) : Prop := r = .inl (some (.int res.1)) ∧ MP G.1 res.2 ∧ (∀ q, (q < 50 ∨ (1000 ≤ q ∧ q < 5000)) → G.1 q = f q) ∧ G.2.1 ≤ n + c ∧ G.2.2 ≤ s + l
theorem pM_nx {f : bF} {n s c l : Nat} {res : Int32 × SS} {q : Nat} {G : bG} : ¬ pM f n s c l res (.inr q) G := fun h => by cases h.1
section
variable {f f' : bF}
theorem NT.fr {bs : Nat → Int32} (h : NT f bs) (e : ∀ q, 53 ≤ q → q ≤ 54 → f' q = f q) : NT f' bs := by
  obtain ⟨tg, kd, sp, h1, h2, h3⟩ := h
  exact ⟨tg, kd, sp, (e _ (by omega) (by omega)).trans h1, (e _ (by omega) (by omega)).trans h2, h3⟩
theorem NM1.fr {q : Nat} {r : MR} (h : NM1 f q r) (e : ∀ j, j < 3 → f' (q + j) = f (q + j)) : NM1 f' q r := by
  obtain ⟨sg, vl, h1, h2, h3, h4⟩ := h
  exact ⟨sg, vl, (e 0 (by omega)).trans h1, (e 1 (by omega)).trans h2, (e 2 (by omega)).trans h3, h4⟩
theorem NSp.fr {q : Nat} (h : NSp f q) (e : ∀ j, j < 3 → f' (q + j) = f (q + j)) : NSp f' q := by
  obtain ⟨pt, it, ak, sg, vl, h1, h2, h3⟩ := h
  exact ⟨pt, it, ak, sg, vl, (e 0 (by omega)).trans h1, (e 1 (by omega)).trans h2, (e 2 (by omega)).trans h3⟩
theorem NM.fr {mc : Nat} {md : Nat → MR} (h : NM f mc md) (hb : mc ≤ 20) (e : ∀ q, (q = 51 ∨ (5000 ≤ q ∧ q < 5063)) → f' q = f q) : NM f' mc md :=
  ⟨(e _ (Or.inl rfl)).trans h.1, fun i hi => (h.2.1 i hi).fr (fun j hj => e _ (by unfold nA; omega)), h.2.2.1.fr (fun j hj => e _ (by unfold nA; omega)), fun i h1 h2 j hj => (e _ (by unfold nA; omega)).trans (h.2.2.2 i h1 h2 j hj)⟩
theorem NI.fr {ip : Nat → Int32} (h : NI f ip) (e : f' 55 = f 55) : NI f' ip := by
  obtain ⟨g, h1, h2⟩ := h
  exact ⟨g, e.trans h1, h2⟩
theorem NP.fr (h : NP f) (e : f' 56 = f 56) : NP f' := by
  obtain ⟨g, h1⟩ := h
  exact ⟨g, e.trans h1⟩
theorem ND1.fr {q : Nat} {r : DR} (h : ND1 f q r) (e : ∀ j, j < 6 → f' (q + j) = f (q + j)) : ND1 f' q r := by
  obtain ⟨lo, hi, fm, dy, tl, h1, h2, h3, h4, h5, h6, h7⟩ := h
  exact ⟨lo, hi, fm, dy, tl, (e 0 (by omega)).trans h1, (e 1 (by omega)).trans h2, (e 2 (by omega)).trans h3, (e 3 (by omega)).trans h4, (e 4 (by omega)).trans h5, (e 5 (by omega)).trans h6, h7⟩
theorem ND.fr {n : Nat} {g : Nat → DR} (h : ND f n g) (hb : n ≤ 4) (e : ∀ q, (q = 57 ∨ (6000 ≤ q ∧ q < 6024)) → f' q = f q) : ND f' n g :=
  ⟨(e _ (Or.inl rfl)).trans h.1, fun i hi => (h.2.1 i hi).fr (fun j hj => e _ (by unfold eA; omega)), fun i hi h2 j hj => (e _ (by unfold eA; omega)).trans (h.2.2 i hi h2 j hj)⟩
theorem ND.put {n i : Nat} {g : Nat → DR} {r : DR} (h : ND f n g) (hb : n ≤ 4) (hi : i < n) (h1 : ND1 f' (eA i) r) (e : ∀ q, (q = 57 ∨ (6000 ≤ q ∧ q < 6024 ∧ (q < eA i ∨ eA i + 6 ≤ q))) → f' q = f q) : ND f' n (up1 g i r) := by
  refine ⟨(e _ (Or.inl rfl)).trans h.1, fun k hk => ?_, fun k hk h2 j hj => (e _ (by unfold eA; omega)).trans (h.2.2 k hk h2 j hj)⟩
  by_cases hki : k = i
  · subst hki
    rw [up1_s]
    exact h1
  · rw [up1_n hki]
    exact (h.2.1 k hk).fr (fun j hj => e _ (by unfold eA; omega))
theorem ND.add {n : Nat} {g : Nat → DR} {r : DR} (h : ND f n g) (hb : n < 4) (ht : f' 57 = some (.inl (7, 4, .inr (.inr (.inr (.inr (tabF eA (n + 1)))))))) (h1 : ND1 f' (eA n) r) (e : ∀ q, 6000 ≤ q → q < 6024 → (q < eA n ∨ eA n + 6 ≤ q) → f' q = f q) : ND f' (n + 1) (up1 g n r) := by
  refine ⟨ht, fun k hk => ?_, fun k hk h2 j hj => (e _ (by unfold eA; omega) (by unfold eA; omega) (by unfold eA; omega)).trans (h.2.2 k (by omega) h2 j hj)⟩
  by_cases hki : k = n
  · subst hki
    rw [up1_s]
    exact h1
  · rw [up1_n hki]
    exact (h.2.1 k (by omega)).fr (fun j hj => e _ (by unfold eA; omega) (by unfold eA; omega) (by unfold eA; omega))
theorem NA.fr {ac : Nat} {an : Nat → AR} (h : NA f ac an) (e : ∀ q, 58 ≤ q → q ≤ 62 → f' q = f q) : NA f' ac an := by
  obtain ⟨kp, aq, bc, br, tu, h1, h2, h3, h4, h5, h6⟩ := h
  exact ⟨kp, aq, bc, br, tu, (e _ (by omega) (by omega)).trans h1, (e _ (by omega) (by omega)).trans h2, (e _ (by omega) (by omega)).trans h3, (e _ (by omega) (by omega)).trans h4, (e _ (by omega) (by omega)).trans h5, h6⟩
theorem NC.fr {sd : Nat → Int32} (h : NC f sd) (e : f' 63 = f 63) : NC f' sd := by
  obtain ⟨g, h1, h2⟩ := h
  exact ⟨g, e.trans h1, h2⟩
theorem NF.fr {df : Nat → Int32} {dfn : Nat} (h : NF f df dfn) (e : f' 64 = f 64) : NF f' df dfn := by
  obtain ⟨g, h1, h2⟩ := h
  exact ⟨g, e.trans h1, h2⟩
end
theorem pM_mk {f f' : bF} {n s c l n' s' : Nat} {v : Int32} {bs : Nat → Int32} {tl : Nat} {mc : Nat} {md : Nat → MR} {ip : Nat → Int32} {dc : Nat} {dr : Nat → DR} {ac : Nat} {an : Nat → AR} {hs : Bool} {sd : Nat → Int32} {df : Nat → Int32} {dfn : Nat} {td : Nat} {tr : Int32} {ft : Int32} {pl : Int32} (h1 : NS f' mc dc ac dfn td tl hs tr ft pl) (h2 : NT f' bs) (h3 : NM f' mc md) (h4 : NI f' ip) (h5 : NP f') (h6 : ND f' dc dr) (h7 : NA f' ac an) (h8 : NC f' sd) (h9 : NF f' df dfn) (e : ∀ q, (q < 50 ∨ (1000 ≤ q ∧ q < 5000)) → f' q = f q) (hn : n' ≤ n + c) (hs' : s' ≤ s + l) : pM f n s c l (v, (bs, tl, mc, md, ip, dc, dr, ac, an, hs, sd, df, dfn, td, tr, ft, pl)) (.inl (some (.int v))) (f', n', s') := ⟨rfl, ⟨h1, h2, h3, h4, h5, h6, h7, h8, h9⟩, e, hn, hs'⟩
/-- how many of the first n -/
def cnt (p : Nat → Bool) : Nat → Nat
  | 0 => 0
  | n + 1 => cnt p n + if p n = true then 1 else 0
theorem cnt_le (p : Nat → Bool) : ∀ n : Nat, cnt p n ≤ n := by
  intro n
  induction n with
  | zero => exact Nat.le_refl _
  | succ n ih =>
    show cnt p n + (if p n = true then 1 else 0) ≤ n + 1
    split <;> omega
theorem cnt_congr {p q : Nat → Bool} : ∀ n : Nat, (∀ i, i < n → p i = q i) → cnt p n = cnt q n := by
  intro n
  induction n with
  | zero => intro _; rfl
  | succ n ih =>
    intro h
    show cnt p n + (if p n = true then 1 else 0) = cnt q n + (if q n = true then 1 else 0)
    rw [ih (fun i hi => h i (by omega)), h n (by omega)]
/-- a door's champions, day by day -/
def DYP (r : DR) (td : Nat) : Prop := d_cn r ≤ td + 1 ∧ (d_cn r = td + 1 → d_cd r (d_cn r - 1) = nI td) ∧ (∀ j, j < d_cn r → d_cd r j ≤ nI td) ∧ (d_cn r = 0 → d_ch r = -2) ∧ (0 < d_cn r → d_ct r (d_cn r - 1) = d_ch r) ∧ ∀ y, y ≤ td → chF (d_cd r) (d_ct r) (nI y) (d_cn r) 0 (-2) = d_dy r y
def DPl (r : DR) (mc : Nat) : Prop := d_fc r ≤ 20 ∧ (∀ j, j < d_fc r → inB (d_fm r j) mc = true) ∧ (d_ch r = -2 ∨ inB (d_ch r) mc = true) ∧ (d_rv r = -2 ∨ (inB (d_rv r) mc = true ∧ ¬ d_rv r = d_ch r ∧ ¬ d_ch r = -2))
def in9 (x : Int32) : Prop := -1000 ≤ x.toInt ∧ x.toInt ≤ 1000
def DCt (r : DR) (i ac : Nat) (an : Nat → AR) : Prop := d_kp r = nI (cnt (fun j => decide (a_do (an j) = nI i)) ac) ∧ (∀ k b, k < 6 → b < 4 → d_sn r (k * 4 + b) = nI (cnt (fun j => decide (a_do (an j) = nI i) && decide (jBn (a_in (an j) k) = b)) ac)) ∧ ∀ j, j < 24 → 0 ≤ (d_tl r j).toInt ∧ (d_tl r j).toInt ≤ 1000
def AJ (r : AR) : Prop := a_gn r = (if a_gv r = a_ch r then a_ct r else a_rt r) ∧ ∀ k, k < 6 → in9 (a_in r k)
def JJ (σ : SS) : Prop := σ.2.2.1 ≤ 20 ∧ σ.2.2.2.2.2.1 ≤ 4 ∧ σ.2.2.2.2.2.2.2.1 ≤ 200 ∧ σ.2.1 ≤ 300 ∧ σ.2.2.2.2.2.2.2.2.2.2.2.2.2.1 ≤ 2000 ∧ σ.2.2.2.2.2.2.2.2.2.2.2.2.1 ≤ 200 ∧ (∀ i, i < σ.2.2.1 → EX (σ.2.2.2.1 i).1 ∧ (σ.2.2.2.1 i).1.length ≤ 60) ∧ (∀ k, k < 6 → in9 (σ.2.2.2.2.1 k)) ∧ (∀ i, i < σ.2.2.2.2.2.1 → DYP (σ.2.2.2.2.2.2.1 i) σ.2.2.2.2.2.2.2.2.2.2.2.2.2.1 ∧ DPl (σ.2.2.2.2.2.2.1 i) σ.2.2.1 ∧ DCt (σ.2.2.2.2.2.2.1 i) i σ.2.2.2.2.2.2.2.1 σ.2.2.2.2.2.2.2.2.1) ∧ ∀ i, i < σ.2.2.2.2.2.2.2.1 → AJ (σ.2.2.2.2.2.2.2.2.1 i)
