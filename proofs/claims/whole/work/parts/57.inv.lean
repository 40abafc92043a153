/-! ===== what always holds is kept by every call (printed by wip/gen/inv.py) ===== -/
def JK (σ : SS) : Prop := JJ σ ∧ ∀ j, j < σ.2.2.2.2.2.2.2.1 → ∃ i, i < σ.2.2.2.2.2.1 ∧ a_do (σ.2.2.2.2.2.2.2.2.1 j) = nI i
theorem inB_mono {x : Int32} {n m : Nat} (h : inB x n = true) (hm : n ≤ m) : inB x m = true := by
  have := inB_lt h
  simp only [inB, decide_eq_false (inB_nn h), decide_eq_true (show cl x < m by omega)]
  rfl
theorem DPl_mono {r : DR} {n m : Nat} (h : DPl r n) (hm : n ≤ m) : DPl r m := ⟨h.1, fun j hj => inB_mono (h.2.1 j hj) hm, h.2.2.1.imp id (fun h => inB_mono h hm), h.2.2.2.imp id (fun h => ⟨inB_mono h.1 hm, h.2⟩)⟩
theorem up1_all {α : Type} {g : Nat → α} {n i : Nat} {v : α} {R : Nat → α → Prop} (h : ∀ k, k < n → R k (g k)) (hv : R i v) : ∀ k, k < n → R k (up1 g i v k) := by
  intro k hk
  by_cases e : k = i
  · subst e
    rw [up1_s]
    exact hv
  · rw [up1_n e]
    exact h k hk
theorem chF_last {cd ct : Nat → Int32} {y : Int32} : ∀ (m i : Nat) (x : Int32), ¬ cd (i + m) ≤ y → chF cd ct y (m + 1) i x = chF cd ct y m i x := by
  intro m
  induction m with
  | zero =>
    intro i x h
    show (if cd i ≤ y then ct i else x) = x
    rw [if_neg (show ¬ cd i ≤ y from h)]
  | succ m ih =>
    intro i x h
    show (if cd i ≤ y then chF cd ct y (m + 1) (i + 1) (ct i) else x) = (if cd i ≤ y then chF cd ct y m (i + 1) (ct i) else x)
    rw [ih (i + 1) (ct i) (by rw [show i + 1 + m = i + (m + 1) by omega]; exact h)]
theorem chF_all {cd ct : Nat → Int32} {y : Int32} : ∀ (m i : Nat) (x : Int32), (∀ j, j < m → cd (i + j) ≤ y) → chF cd ct y m i x = if m = 0 then x else ct (i + m - 1) := by
  intro m
  induction m with
  | zero => intro i x _; rfl
  | succ m ih =>
    intro i x h
    show (if cd i ≤ y then chF cd ct y m (i + 1) (ct i) else x) = _
    rw [if_pos (show cd i ≤ y from h 0 (by omega)), ih (i + 1) (ct i) (fun j hj => by rw [show i + 1 + j = i + (j + 1) by omega]; exact h (j + 1) (by omega)), if_neg (show ¬ m + 1 = 0 by omega)]
    by_cases e : m = 0
    · subst e
      rw [if_pos rfl]
      rfl
    · rw [if_neg e]
      congr 1
      omega
theorem chF_congr {cd ct cd' ct' : Nat → Int32} {y : Int32} : ∀ (m i : Nat) (x : Int32), (∀ j, j < m → cd (i + j) = cd' (i + j) ∧ ct (i + j) = ct' (i + j)) → chF cd ct y m i x = chF cd' ct' y m i x := by
  intro m
  induction m with
  | zero => intro i x _; rfl
  | succ m ih =>
    intro i x h
    show (if cd i ≤ y then chF cd ct y m (i + 1) (ct i) else x) = (if cd' i ≤ y then chF cd' ct' y m (i + 1) (ct' i) else x)
    have h0 := h 0 (by omega)
    rw [Nat.add_zero] at h0
    rw [h0.1, h0.2, ih (i + 1) (ct' i) (fun j hj => by rw [show i + 1 + j = i + (j + 1) by omega]; exact h (j + 1) (by omega))]
theorem le_nlt {x y : Int32} (h : x ≤ y) : ¬ y < x := Int32.not_lt.mpr h
theorem dAt_c {cd : Nat → Int32} {cn td : Nat} : (dAt cd cn (nI td) + 1 = cn ∧ cd (dAt cd cn (nI td)) = nI td) ∨ (dAt cd cn (nI td) = cn ∧ ¬ (0 < cn ∧ cd (cn - 1) = nI td)) := by
  unfold dAt
  by_cases h : 0 < cn ∧ cd (cn - 1) = nI td
  · rw [if_pos h]
    exact Or.inl ⟨by omega, h.2⟩
  · rw [if_neg h]
    exact Or.inr ⟨rfl, h⟩
/-- a champion more, on the day of today -/
theorem DYP_change {r : DR} {td : Nat} {m rv sh : Int32} {fm : Nat → Int32} {fc : Nat} (h : DYP r td) (ht : td ≤ 2000) : DYP (d_lo r, d_hi r, fm, upd (d_cd r) (dAt (d_cd r) (d_cn r) (nI td)) (nI td), upd (d_ct r) (dAt (d_cd r) (d_cn r) (nI td)) m, d_sn r, d_tl r, m, rv, sh, fc, dAt (d_cd r) (d_cn r) (nI td) + 1, d_kp r, d_rf r, upd (d_dy r) td m) td := by
  obtain ⟨h1, h2, h3, h4, h5, h6⟩ := h
  have hc := dAt_c (cd := d_cd r) (cn := d_cn r) (td := td)
  generalize dAt (d_cd r) (d_cn r) (nI td) = a at *
  have ha : a ≤ td ∧ (∀ j, j < a → d_cd r j ≤ nI td) := by
    rcases hc with ⟨c1, c2⟩ | ⟨c1, c2⟩
    · exact ⟨by omega, fun j hj => h3 j (by omega)⟩
    · refine ⟨?_, fun j hj => h3 j (by omega)⟩
      by_cases e : d_cn r = td + 1
      · exact absurd ⟨by omega, h2 e⟩ c2
      · omega
  have hn : ∀ j, j < a + 1 → ¬ nI td < upd (d_cd r) a (nI td) j := by
    intro j hj
    by_cases e : j = a
    · subst e
      rw [pk_us]
      exact fun h9 => Int32.lt_irrefl h9
    · rw [pk_un e]
      exact le_nlt (ha.2 j (by omega))
  refine ⟨by show a + 1 ≤ td + 1; omega, fun _ => ?_, fun j hj => ?_, fun e => absurd e (by show a + 1 ≠ 0; omega), fun _ => ?_, fun y hy => ?_⟩
  · show upd (d_cd r) a (nI td) (a + 1 - 1) = nI td
    rw [Nat.add_sub_cancel, pk_us]
  · exact Int32.not_lt.mp (hn j hj)
  · show upd (d_ct r) a m (a + 1 - 1) = m
    rw [Nat.add_sub_cancel, pk_us]
  · show chF (upd (d_cd r) a (nI td)) (upd (d_ct r) a m) (nI y) (a + 1) 0 (-2) = upd (d_dy r) td m y
    by_cases e : y = td
    · subst e
      rw [chF_all (a + 1) 0 (-2) (fun j hj => by rw [Nat.zero_add]; exact Int32.not_lt.mp (hn j hj)), if_neg (by omega), Nat.zero_add, Nat.add_sub_cancel, pk_us, pk_us]
    · have hlt : nI y < nI td := (nI_ltI (by omega) (by omega)).mpr (by omega)
      rw [pk_un e, ← h6 y hy, chF_last a 0 (-2) (by rw [Nat.zero_add, pk_us]; exact Int32.not_le.mpr hlt)]
      rw [chF_congr a 0 (-2) (cd' := d_cd r) (ct' := d_ct r) (fun j hj => by rw [Nat.zero_add]; exact ⟨pk_un (by omega), pk_un (by omega)⟩)]
      rcases hc with ⟨c1, c2⟩ | ⟨c1, c2⟩
      · rw [← c1, chF_last a 0 (-2) (by rw [Nat.zero_add, c2]; exact Int32.not_le.mpr hlt)]
      · rw [c1]
theorem DYP_pass {r : DR} {td k : Nat} (h : DYP r td) (hk : 1 ≤ k) (ht : td + k ≤ 2000) : DYP (d_lo r, d_hi r, d_fm r, d_cd r, d_ct r, d_sn r, d_tl r, d_ch r, d_rv r, d_sh r, d_fc r, d_cn r, d_kp r, d_rf r, fun q => if td < q ∧ q ≤ td + k then d_ch r else d_dy r q) (td + k) := by
  obtain ⟨h1, h2, h3, h4, h5, h6⟩ := h
  refine ⟨by show d_cn r ≤ _; omega, fun e => absurd (show d_cn r = td + k + 1 from e) (by omega), fun j hj => ?_, h4, h5, fun y hy => ?_⟩
  · exact Int32.le_trans (h3 j hj) ((nI_leI (by omega) (by omega)).mpr (by omega))
  · show chF (d_cd r) (d_ct r) (nI y) (d_cn r) 0 (-2) = (if td < y ∧ y ≤ td + k then d_ch r else d_dy r y)
    by_cases c : td < y
    · rw [if_pos ⟨c, hy⟩, chF_all (d_cn r) 0 (-2) (fun j hj => by rw [Nat.zero_add]; exact Int32.le_trans (h3 j hj) ((nI_leI (by omega) (by omega)).mpr (by omega)))]
      by_cases e : d_cn r = 0
      · rw [if_pos e, h4 e]
      · rw [if_neg e, Nat.zero_add, h5 (by omega)]
    · rw [if_neg (fun h9 => c h9.1)]
      exact h6 y (by omega)
theorem DYP_new {td : Nat} : DYP d_new td := ⟨Nat.zero_le _, fun e => absurd (show 0 = td + 1 from e) (by omega), fun j hj => absurd (show j < 0 from hj) (by omega), fun _ => rfl, fun h => absurd (show 0 < 0 from h) (by omega), fun _ _ => rfl⟩
theorem DPl_new {mc : Nat} : DPl d_new mc := ⟨Nat.zero_le _, fun j hj => absurd (show j < 0 from hj) (by omega), Or.inl rfl, Or.inl rfl⟩
theorem rem_ok {ch : Int32} {fm : Nat → Int32} {fc mc : Nat} (h1 : fc ≤ 20) (h2 : ∀ j, j < fc → inB (fm j) mc = true) (h3 : ch = -2 ∨ inB ch mc = true) : (dRem ch fm fc).2 ≤ 20 ∧ ∀ j, j < (dRem ch fm fc).2 → inB ((dRem ch fm fc).1 j) mc = true := by
  unfold dRem
  by_cases c : ch = -2
  · rw [if_pos c]
    exact ⟨h1, h2⟩
  · have hv := h3.resolve_left c
    rw [if_neg c]
    by_cases c2 : fc < 20
    · rw [if_pos c2]
      refine ⟨by show fc + 1 ≤ 20; omega, fun j hj => ?_⟩
      have hj : j < fc + 1 := hj
      show inB (upd fm fc ch j) mc = true
      by_cases e : j = fc
      · subst e
        rw [pk_us]
        exact hv
      · rw [pk_un e]
        exact h2 j (by omega)
    · rw [if_neg c2]
      refine ⟨Nat.le_refl _, fun j hj => ?_⟩
      have hj : j < 20 := hj
      show inB (upd (va_cpy fm fm 1 0 19) 19 ch j) mc = true
      by_cases e : j = 19
      · subst e
        rw [pk_us]
        exact hv
      · rw [pk_un e]
        unfold va_cpy
        rw [if_pos (by omega)]
        exact h2 _ (by omega)
theorem cuL_v {ip : Nat → Int32} : ∀ (m j : Nat) (g : Nat → Int32) (k b : Nat), b < 4 → cuL ip m j g (k * 4 + b) = g (k * 4 + b) + (if j ≤ k ∧ k < j + m ∧ jBn (ip k) = b then 1 else 0) := by
  intro m
  induction m with
  | zero =>
    intro j g k b hb
    rw [if_neg (by omega), Int32.add_zero]
    rfl
  | succ m ih =>
    intro j g k b hb
    show cuL ip m (j + 1) (cu ip g j) (k * 4 + b) = _
    rw [ih (j + 1) (cu ip g j) k b hb]
    have hj := jBn_lt (ip j)
    unfold cu
    by_cases e : k = j
    · subst e
      rw [if_neg (by omega), Int32.add_zero]
      by_cases c : jBn (ip k) = b
      · rw [if_pos (by omega), c, pk_us]
      · rw [if_neg (by omega), pk_un (by omega), Int32.add_zero]
    · rw [pk_un (by omega)]
      by_cases c : j + 1 ≤ k ∧ k < j + 1 + m ∧ jBn (ip k) = b
      · rw [if_pos c, if_pos (by omega)]
      · rw [if_neg c, if_neg (by omega)]
theorem nI_addB (n : Nat) (p : Prop) [Decidable p] : nI n + (if p then 1 else 0) = nI (n + if p then 1 else 0) := by
  by_cases h : p
  · rw [if_pos h, if_pos h]
    exact nI_1 n
  · rw [if_neg h, if_neg h, Int32.add_zero, Nat.add_zero]
theorem dfL_le {x : Int32} {c : cL} {an : Nat → AR} : ∀ (j i : Nat) (g : (Nat → Int32) × Nat), (dfL x c an j i g).2 ≤ g.2 + j := by
  intro j
  induction j with
  | zero => intro i g; exact Nat.le_refl _
  | succ j ih =>
    intro i g
    have h := ih (i + 1) (df1 x c (an i) i g)
    have h2 : (df1 x c (an i) i g).2 ≤ g.2 + 1 := by
      unfold df1
      repeat' split
      all_goals first | exact Nat.le_succ _ | exact Nat.le_refl _
    show (dfL x c an j (i + 1) (df1 x c (an i) i g)).2 ≤ _
    omega
theorem JJ_JX {bs : Nat → Int32} {tl : Nat} {mc : Nat} {md : Nat → MR} {ip : Nat → Int32} {dc : Nat} {dr : Nat → DR} {ac : Nat} {an : Nat → AR} {hs : Bool} {sd : Nat → Int32} {df : Nat → Int32} {dfn : Nat} {td : Nat} {tr : Int32} {ft : Int32} {pl : Int32} (h : JJ (bs, tl, mc, md, ip, dc, dr, ac, an, hs, sd, df, dfn, td, tr, ft, pl)) : JX (bs, tl, mc, md, ip, dc, dr, ac, an, hs, sd, df, dfn, td, tr, ft, pl) := by
  obtain ⟨j1, j2, j3, j4, j5, j6, j7, j8, j9, j10⟩ := id h
  refine ⟨j1, j2, j3, j4, j5, j6, fun i hi => (j7 i hi).1.wx (j7 i hi).2, fun i hi => ?_⟩
  obtain ⟨y, p, c⟩ := j9 i hi
  refine ⟨p.1, by have := y.1; simp only [] at *; omega, ?_, fun k hk _ _ => ?_⟩
  · have hc := dAt_c (cd := d_cd (dr i)) (cn := d_cn (dr i)) (td := td)
    have y1 := y.1
    have y2 := y.2.1
    simp only [] at *
    rcases hc with ⟨c1, c2⟩ | ⟨c1, c2⟩
    · omega
    · by_cases e : d_cn (dr i) = td + 1
      · exact absurd ⟨by omega, y2 e⟩ c2
      · omega
  · rename_i a1 a2
    obtain ⟨⟨x1, x2, z1, z2, z3, z4⟩, -⟩ := drift_eq c j3 hk
    have h1 : ¬ dT4 (d_tl (dr i)) k = 0 := fun e => by
      rw [← x1, e] at a2
      exact absurd a2 (by decide)
    have h2 : ¬ d_kp (dr i) = 0 := fun e => by
      rw [← x2, e] at a1
      exact absurd (by decide) a1
    have := (drift_1 c j3 hk h1 h2).1
    rw [x1, x2] at this
    exact this
theorem DYP_o {r : DR} {td : Nat} {lo hi fm sn tl : Nat → Int32} {rv sh : Int32} {fc : Nat} {kp rf : Int32} (h : DYP r td) : DYP (lo, hi, fm, d_cd r, d_ct r, sn, tl, d_ch r, rv, sh, fc, d_cn r, kp, rf, d_dy r) td := by
  obtain ⟨h1, h2, h3, h4, h5, h6⟩ := h
  exact ⟨h1, h2, h3, h4, h5, h6⟩
theorem DPl_o {r : DR} {mc : Nat} {lo hi cd ct sn tl : Nat → Int32} {sh : Int32} {cn : Nat} {kp rf : Int32} {dy : Nat → Int32} (h : DPl r mc) : DPl (lo, hi, d_fm r, cd, ct, sn, tl, d_ch r, d_rv r, sh, d_fc r, cn, kp, rf, dy) mc := by
  obtain ⟨h1, h2, h3, h4⟩ := h
  exact ⟨h1, h2, h3, h4⟩
theorem DPl_mk {mc : Nat} {lo hi fm cd ct sn tl : Nat → Int32} {ch rv sh : Int32} {fc cn : Nat} {kp rf : Int32} {dy : Nat → Int32} (h1 : fc ≤ 20) (h2 : ∀ j, j < fc → inB (fm j) mc = true) (h3 : ch = -2 ∨ inB ch mc = true) (h4 : rv = -2 ∨ (inB rv mc = true ∧ ¬ rv = ch ∧ ¬ ch = -2)) : DPl (lo, hi, fm, cd, ct, sn, tl, ch, rv, sh, fc, cn, kp, rf, dy) mc := ⟨h1, h2, h3, h4⟩
theorem DCt_o {r : DR} {i ac : Nat} {an : Nat → AR} {lo hi fm cd ct : Nat → Int32} {ch rv sh : Int32} {fc cn : Nat} {rf : Int32} {dy : Nat → Int32} (h : DCt r i ac an) : DCt (lo, hi, fm, cd, ct, d_sn r, d_tl r, ch, rv, sh, fc, cn, d_kp r, rf, dy) i ac an := by
  obtain ⟨h1, h2, h3⟩ := h
  exact ⟨h1, h2, h3⟩
theorem DCt_tl {r : DR} {i ac : Nat} {an : Nat → AR} {lo hi fm cd ct tl : Nat → Int32} {ch rv sh : Int32} {fc cn : Nat} {rf : Int32} {dy : Nat → Int32} (h : DCt r i ac an) (ht : ∀ j, j < 24 → 0 ≤ (tl j).toInt ∧ (tl j).toInt ≤ 1000) : DCt (lo, hi, fm, cd, ct, d_sn r, tl, ch, rv, sh, fc, cn, d_kp r, rf, dy) i ac an := by
  obtain ⟨h1, h2, h3⟩ := h
  exact ⟨h1, h2, ht⟩
theorem AJ_o {r : AR} {a b c d v : Int32} (h : AJ r) : AJ (a, b, c, a_gv r, a_ch r, d, a_gn r, a_ct r, a_rt r, v, a_in r) := by
  obtain ⟨h1, h2⟩ := h
  exact ⟨h1, h2⟩
theorem JK_mk {bs : Nat → Int32} {tl : Nat} {mc : Nat} {md : Nat → MR} {ip : Nat → Int32} {dc : Nat} {dr : Nat → DR} {ac : Nat} {an : Nat → AR} {hs : Bool} {sd : Nat → Int32} {df : Nat → Int32} {dfn : Nat} {td : Nat} {tr : Int32} {ft : Int32} {pl : Int32} (j1 : mc ≤ 20) (j2 : dc ≤ 4) (j3 : ac ≤ 200) (j4 : tl ≤ 300) (j5 : td ≤ 2000) (j6 : dfn ≤ 200) (j7 : ∀ i, i < mc → EX (md i).1 ∧ (md i).1.length ≤ 60) (j8 : ∀ k, k < 6 → in9 (ip k)) (j9 : ∀ i, i < dc → DYP (dr i) td ∧ DPl (dr i) mc ∧ DCt (dr i) i ac an) (j10 : ∀ i, i < ac → AJ (an i)) (j11 : ∀ j, j < ac → ∃ i, i < dc ∧ a_do (an j) = nI i) : JK (bs, tl, mc, md, ip, dc, dr, ac, an, hs, sd, df, dfn, td, tr, ft, pl) := ⟨⟨j1, j2, j3, j4, j5, j6, j7, j8, j9, j10⟩, j11⟩
