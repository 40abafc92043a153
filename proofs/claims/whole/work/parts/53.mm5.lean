/-! ===== the reference's pass (printed by wip/gen/mm5.py) ===== -/
/-- j days on for all the doors, a day more for the first i -/
def drP (dr : Nat → DR) (td j i : Nat) : Nat → DR := fun k => (d_lo (dr k), d_hi (dr k), d_fm (dr k), d_cd (dr k), d_ct (dr k), d_sn (dr k), d_tl (dr k), d_ch (dr k), d_rv (dr k), d_sh (dr k), d_fc (dr k), d_cn (dr k), d_kp (dr k), d_rf (dr k), fun q => if td < q ∧ (q ≤ td + j ∨ (q = td + j + 1 ∧ k < i)) then d_ch (dr k) else d_dy (dr k) q)
theorem drP_ne {dr : Nat → DR} {td j i k : Nat} (h : k ≠ i) : drP dr td j (i + 1) k = drP dr td j i k := by
  unfold drP
  have : ∀ q : Nat, (td < q ∧ (q ≤ td + j ∨ (q = td + j + 1 ∧ k < i + 1))) = (td < q ∧ (q ≤ td + j ∨ (q = td + j + 1 ∧ k < i))) := fun q => by
    apply propext
    constructor <;> intro h9 <;> omega
  simp only [this]
theorem ND_step {f f' : bF} {dc td j i : Nat} {dr : Nat → DR} (h : ND f dc (drP dr td j i)) (hb : dc ≤ 4) (hi : i < dc) (h1 : ND1 f' (eA i) (drP dr td j (i + 1) i)) (e : ∀ q, (q = 57 ∨ (6000 ≤ q ∧ q < 6024 ∧ (q < eA i ∨ eA i + 6 ≤ q))) → f' q = f q) : ND f' dc (drP dr td j (i + 1)) := by
  refine ⟨(e _ (Or.inl rfl)).trans h.1, fun k hk => ?_, fun k hk h2 m hm => (e _ (by unfold eA; omega)).trans (h.2.2 k hk h2 m hm)⟩
  by_cases hki : k = i
  · subst hki
    exact h1
  · rw [drP_ne hki]
    exact (h.2.1 k hk).fr (fun m hm => e _ (by unfold eA; omega))
theorem ND1_d0 {f : bF} {q : Nat} {r : DR} {g : Nat → Int32} (h : ND1 f q r) (e2 : ∀ k, k ≤ 2000 → d_dy r k = g k) : ND1 f q (d_lo r, d_hi r, d_fm r, d_cd r, d_ct r, d_sn r, d_tl r, d_ch r, d_rv r, d_sh r, d_fc r, d_cn r, d_kp r, d_rf r, g) := by
  obtain ⟨lo, hi, fm, dy, tl, h1, h2, h3, h4, h5, h6, g1, g2, g3, g4, g5⟩ := h
  exact ⟨lo, hi, fm, dy, tl, h1, h2, h3, h4, h5, h6, g1, g2, g3, fun k hk => (g4 k hk).trans (e2 k hk), g5⟩
theorem ND1_d1 {f : bF} {q : Nat} {r : DR} {g g' : Nat → Int32} (h : ND1 f q (d_lo r, d_hi r, d_fm r, d_cd r, d_ct r, d_sn r, d_tl r, d_ch r, d_rv r, d_sh r, d_fc r, d_cn r, d_kp r, d_rf r, g)) (e2 : ∀ k, k ≤ 2000 → g k = g' k) : ND1 f q (d_lo r, d_hi r, d_fm r, d_cd r, d_ct r, d_sn r, d_tl r, d_ch r, d_rv r, d_sh r, d_fc r, d_cn r, d_kp r, d_rf r, g') := by
  obtain ⟨lo, hi, fm, dy, tl, h1, h2, h3, h4, h5, h6, g1, g2, g3, g4, g5⟩ := h
  exact ⟨lo, hi, fm, dy, tl, h1, h2, h3, h4, h5, h6, g1, g2, g3, fun k hk => (g4 k hk).trans (e2 k hk), g5⟩
theorem ND_next {f : bF} {dc td j : Nat} {dr : Nat → DR} (h : ND f dc (drP dr td j dc)) : ND f dc (drP dr td (j + 1) 0) := by
  refine ⟨h.1, fun k hk => ND1_d1 (r := dr k) (h.2.1 k hk) (fun q _ => ?_), h.2.2⟩
  show (if td < q ∧ (q ≤ td + j ∨ (q = td + j + 1 ∧ k < dc)) then d_ch (dr k) else d_dy (dr k) q) = (if td < q ∧ (q ≤ td + (j + 1) ∨ (q = td + (j + 1) + 1 ∧ k < 0)) then d_ch (dr k) else d_dy (dr k) q)
  by_cases c : td < q ∧ (q ≤ td + j ∨ (q = td + j + 1 ∧ k < dc))
  · rw [if_pos c, if_pos (by omega)]
  · rw [if_neg c, if_neg (by omega)]
theorem ND_pass0 {f : bF} {dc td : Nat} {dr : Nat → DR} (h : ND f dc dr) : ND f dc (drP dr td 0 0) := by
  refine ⟨h.1, fun k hk => ND1_d0 (r := dr k) (h.2.1 k hk) (fun q _ => ?_), h.2.2⟩
  show d_dy (dr k) q = (if td < q ∧ (q ≤ td + 0 ∨ (q = td + 0 + 1 ∧ k < 0)) then d_ch (dr k) else d_dy (dr k) q)
  rw [if_neg (by omega)]
theorem ND_passK {f : bF} {dc td j : Nat} {dr : Nat → DR} (h : ND f dc (drP dr td j 0)) : ND f dc (fun i => (d_lo (dr i), d_hi (dr i), d_fm (dr i), d_cd (dr i), d_ct (dr i), d_sn (dr i), d_tl (dr i), d_ch (dr i), d_rv (dr i), d_sh (dr i), d_fc (dr i), d_cn (dr i), d_kp (dr i), d_rf (dr i), fun q => if td < q ∧ q ≤ td + j then d_ch (dr i) else d_dy (dr i) q)) := by
  refine ⟨h.1, fun k hk => ND1_d1 (r := dr k) (h.2.1 k hk) (fun q _ => ?_), h.2.2⟩
  show (if td < q ∧ (q ≤ td + j ∨ (q = td + j + 1 ∧ k < 0)) then d_ch (dr k) else d_dy (dr k) q) = (if td < q ∧ q ≤ td + j then d_ch (dr k) else d_dy (dr k) q)
  by_cases c : td < q ∧ q ≤ td + j
  · rw [if_pos c, if_pos (by omega)]
  · rw [if_neg c, if_neg (by omega)]
theorem lp_passI {O : bO} {d : Nat} {f0 : bF} {n s : Nat} {Q : bR → bG → Prop} {th_ : Int32} {tr_ : Int32} {wh_ : Int32} {fl_ : Int32} {nm_ : Int32} {q_ : Nat} {tp_ : Int32} {sz_ : Int32} {at_ : Int32} {so_ : Int32} {pl_ : Int32} {mk_ : Int32} {nu_ : Int32} {di_ : Int32} {br_ : Int32} {iff_ : Int32} {wo_ : Int64} {na_ : Int32} {hs_ : Int32} {nf_ : Int32} {dc td j K : Nat} {dr : Nat → DR} (hdc : dc ≤ 4) (hK : td + K ≤ 2000) (hj : j < K) (hd : 0 ≤ d) (hQ : ∀ f : bF, f 50 = some (.inr (11, [.int th_, .int tr_, .int wh_, .int fl_, .int nm_, .ref 51, .ref q_, .ref 53, .ref 54, .int tp_, .int sz_, .int at_, .int so_, .int pl_, .int mk_, .int nu_, .int di_, .int br_, .int iff_, .long wo_, .ref 55, .ref 56, .int (nI dc), .int (nI (td + j + 1)), .ref 57, .int na_, .ref 58, .ref 59, .ref 60, .ref 61, .ref 62, .ref 63, .int hs_, .ref 64, .int nf_])) → ND f dc (drP dr td j dc) → (∀ q, ¬ (q = 50 ∨ (6000 ≤ q ∧ q < 6024)) → f q = f0 q) → bV O mX11_pass d 90 [(3, .int (nI dc)), (2, .int (nI j)), (0, .ref 50), (1, .int (nI K))] [] (f, n, s) Q) : ∀ (m i : Nat) (f : bF), i + m = dc → f 50 = some (.inr (11, [.int th_, .int tr_, .int wh_, .int fl_, .int nm_, .ref 51, .ref q_, .ref 53, .ref 54, .int tp_, .int sz_, .int at_, .int so_, .int pl_, .int mk_, .int nu_, .int di_, .int br_, .int iff_, .long wo_, .ref 55, .ref 56, .int (nI dc), .int (nI (td + j + 1)), .ref 57, .int na_, .ref 58, .ref 59, .ref 60, .ref 61, .ref 62, .ref 63, .int hs_, .ref 64, .int nf_])) → ND f dc (drP dr td j i) → (∀ q, ¬ (q = 50 ∨ (6000 ≤ q ∧ q < 6024)) → f q = f0 q) → bV O mX11_pass d 53 [(3, .int (nI i)), (2, .int (nI j)), (0, .ref 50), (1, .int (nI K))] [] (f, n, s) Q := by
  intro m
  induction m with
  | zero =>
    intro i f i1 h0 hD he
    have i1 : i = dc := by omega
    subst i1
    show bV O _ d 53 [(3, .int (nI i)), (2, .int (nI j)), (0, .ref 50), (1, .int (nI K))] [] (f, n, s) _
    refine r_iload_n (n := 3) (i := 3) 0 rfl rfl dX11_pass_53 ?_
    refine r_aload_n (n := 0) (i := 0) 2 rfl rfl dX11_pass_54 ?_
    refine p_get (fs := [.int th_, .int tr_, .int wh_, .int fl_, .int nm_, .ref 51, .ref q_, .ref 53, .ref 54, .int tp_, .int sz_, .int at_, .int so_, .int pl_, .int mk_, .int nu_, .int di_, .int br_, .int iff_, .long wo_, .ref 55, .ref 56, .int (nI i), .int (nI (td + j + 1)), .ref 57, .int na_, .ref 58, .ref 59, .ref 60, .ref 61, .ref 62, .ref 63, .int hs_, .ref 64, .int nf_]) flX11_267 h0 rfl dX11_pass_55 ?_
    refine r_icmp_ge (tgt := 90) (by decide) dX11_pass_58 (fun _ => ?_) (fun h9 => absurd ((nI_leI (a := i) (b := i) (by omega) (by omega)).mpr (by omega)) h9)
    exact hQ f h0 hD he
  | succ m ih =>
    intro i f i1 h0 hD he
    obtain ⟨lo9, hi9, fm9, dy9, tl9, d0, d1, d2, d3, d4, d5, e1, e2, e3, e4, e5⟩ := hD.2.1 i (by omega)
    have bE := eA_b (i := i) (by omega)
    show bV O _ d 53 [(3, .int (nI i)), (2, .int (nI j)), (0, .ref 50), (1, .int (nI K))] [] (f, n, s) _
    refine r_iload_n (n := 3) (i := 3) 0 rfl rfl dX11_pass_53 ?_
    refine r_aload_n (n := 0) (i := 0) 2 rfl rfl dX11_pass_54 ?_
    refine p_get (fs := [.int th_, .int tr_, .int wh_, .int fl_, .int nm_, .ref 51, .ref q_, .ref 53, .ref 54, .int tp_, .int sz_, .int at_, .int so_, .int pl_, .int mk_, .int nu_, .int di_, .int br_, .int iff_, .long wo_, .ref 55, .ref 56, .int (nI dc), .int (nI (td + j + 1)), .ref 57, .int na_, .ref 58, .ref 59, .ref 60, .ref 61, .ref 62, .ref 63, .int hs_, .ref 64, .int nf_]) flX11_267 h0 rfl dX11_pass_55 ?_
    refine r_icmp_ge (tgt := 90) (by decide) dX11_pass_58 (fun h9 => absurd h9 (fun h7 => absurd ((nI_leI (a := dc) (b := i) (by omega) (by omega)).mp h7) (by omega))) (fun _ => ?_)
    refine r_aload_n (n := 0) (i := 0) 2 rfl rfl dX11_pass_61 ?_
    refine p_get (fs := [.int th_, .int tr_, .int wh_, .int fl_, .int nm_, .ref 51, .ref q_, .ref 53, .ref 54, .int tp_, .int sz_, .int at_, .int so_, .int pl_, .int mk_, .int nu_, .int di_, .int br_, .int iff_, .long wo_, .ref 55, .ref 56, .int (nI dc), .int (nI (td + j + 1)), .ref 57, .int na_, .ref 58, .ref 59, .ref 60, .ref 61, .ref 62, .ref 63, .int hs_, .ref 64, .int nf_]) flX11_46 h0 rfl dX11_pass_62 ?_
    refine r_iload_n (n := 3) (i := 3) 0 rfl rfl dX11_pass_65 ?_
    refine p_aald (kd := 7) rfl hD.1 (vp_in_nI (by omega) (by omega)) dX11_pass_66 ?_
    rw [tab_in (inB_nI (by omega) (by omega)), cl_nI (by omega)]
    show bV O _ d 67 [(3, .int (nI i)), (2, .int (nI j)), (0, .ref 50), (1, .int (nI K))] [.ref (eA i)] (f, n, s) _
    refine p_get (fs := [.int (d_ch (dr i)), .int (d_rv (dr i)), .int (d_sh (dr i)), .int (d_rf (dr i)), .int (nI (d_fc (dr i))), .int (d_kp (dr i)), .ref ((eA i) + 1), .ref ((eA i) + 2), .ref ((eA i) + 3), .ref ((eA i) + 4), .ref ((eA i) + 5)]) flX11_289 d0 rfl dX11_pass_67 ?_
    refine r_aload_n (n := 0) (i := 0) 2 rfl rfl dX11_pass_70 ?_
    refine p_get (fs := [.int th_, .int tr_, .int wh_, .int fl_, .int nm_, .ref 51, .ref q_, .ref 53, .ref 54, .int tp_, .int sz_, .int at_, .int so_, .int pl_, .int mk_, .int nu_, .int di_, .int br_, .int iff_, .long wo_, .ref 55, .ref 56, .int (nI dc), .int (nI (td + j + 1)), .ref 57, .int na_, .ref 58, .ref 59, .ref 60, .ref 61, .ref 62, .ref 63, .int hs_, .ref 64, .int nf_]) flX11_292 h0 rfl dX11_pass_71 ?_
    refine r_aload_n (n := 0) (i := 0) 2 rfl rfl dX11_pass_74 ?_
    refine p_get (fs := [.int th_, .int tr_, .int wh_, .int fl_, .int nm_, .ref 51, .ref q_, .ref 53, .ref 54, .int tp_, .int sz_, .int at_, .int so_, .int pl_, .int mk_, .int nu_, .int di_, .int br_, .int iff_, .long wo_, .ref 55, .ref 56, .int (nI dc), .int (nI (td + j + 1)), .ref 57, .int na_, .ref 58, .ref 59, .ref 60, .ref 61, .ref 62, .ref 63, .int hs_, .ref 64, .int nf_]) flX11_46 h0 rfl dX11_pass_75 ?_
    refine r_iload_n (n := 3) (i := 3) 0 rfl rfl dX11_pass_78 ?_
    refine p_aald (kd := 7) rfl hD.1 (vp_in_nI (by omega) (by omega)) dX11_pass_79 ?_
    rw [tab_in (inB_nI (by omega) (by omega)), cl_nI (by omega)]
    show bV O _ d 80 [(3, .int (nI i)), (2, .int (nI j)), (0, .ref 50), (1, .int (nI K))] [.ref (eA i), .int (nI (td + j + 1)), .ref ((eA i) + 4)] (f, n, s) _
    refine p_get (fs := [.int (d_ch (dr i)), .int (d_rv (dr i)), .int (d_sh (dr i)), .int (d_rf (dr i)), .int (nI (d_fc (dr i))), .int (d_kp (dr i)), .ref ((eA i) + 1), .ref ((eA i) + 2), .ref ((eA i) + 3), .ref ((eA i) + 4), .ref ((eA i) + 5)]) flX11_286 d0 rfl dX11_pass_80 ?_
    refine p_iastN (t := td + j + 1) d4 (by omega) (by omega) dX11_pass_83 ?_
    refine r_iinc (i := 3) (v := nI (i + 1)) (L' := [(3, .int (nI (i + 1))), (2, .int (nI j)), (0, .ref 50), (1, .int (nI K))]) 0 rfl (nI_inc1 i) dX11_pass_84 (by decide) rfl ?_
    refine r_goto (tgt := 53) (by decide) dX11_pass_87 ?_
    refine ih (i + 1) _ (by omega) (((bU_n (by omega)).trans (h0))) ?_ (fun q hq => (bU_n (by omega)).trans (he q hq))
    refine ND_step hD hdc (by omega) ⟨_, _, _, _, _, ((bU_n (by omega)).trans (d0)), ((bU_n (by omega)).trans (d1)), ((bU_n (by omega)).trans (d2)), ((bU_n (by omega)).trans (d3)), bU_s _ _ _, ((bU_n (by omega)).trans (d5)), e1, e2, e3, fun k hk => ?_, e5⟩ (fun q _ => (bU_n (by omega)).trans rfl)
    show upd dy9 (td + j + 1) (d_ch (dr i)) k = (if td < k ∧ (k ≤ td + j ∨ (k = td + j + 1 ∧ i < i + 1)) then d_ch (dr i) else d_dy (dr i) k)
    by_cases c : k = td + j + 1
    · subst c; rw [pk_us, if_pos (by omega)]
    · rw [pk_un c, e4 k hk]
      show (if td < k ∧ (k ≤ td + j ∨ (k = td + j + 1 ∧ i < i)) then d_ch (dr i) else d_dy (dr i) k) = _
      by_cases c2 : td < k ∧ k ≤ td + j
      · rw [if_pos (by omega), if_pos (by omega)]
      · rw [if_neg (by omega), if_neg (by omega)]
theorem lp_passO {O : bO} {d : Nat} {f0 : bF} {n s : Nat} {Q : bR → bG → Prop} {th_ : Int32} {tr_ : Int32} {wh_ : Int32} {fl_ : Int32} {nm_ : Int32} {q_ : Nat} {tp_ : Int32} {sz_ : Int32} {at_ : Int32} {so_ : Int32} {pl_ : Int32} {mk_ : Int32} {nu_ : Int32} {di_ : Int32} {br_ : Int32} {iff_ : Int32} {wo_ : Int64} {na_ : Int32} {hs_ : Int32} {nf_ : Int32} {dc td K : Nat} {dr : Nat → DR} (hdc : dc ≤ 4) (hK : td + K ≤ 2000) (hd : 0 ≤ d) (hQ : ∀ f : bF, f 50 = some (.inr (11, [.int th_, .int tr_, .int wh_, .int fl_, .int nm_, .ref 51, .ref q_, .ref 53, .ref 54, .int tp_, .int sz_, .int at_, .int so_, .int pl_, .int mk_, .int nu_, .int di_, .int br_, .int iff_, .long wo_, .ref 55, .ref 56, .int (nI dc), .int (nI (td + K)), .ref 57, .int na_, .ref 58, .ref 59, .ref 60, .ref 61, .ref 62, .ref 63, .int hs_, .ref 64, .int nf_])) → ND f dc (drP dr td K 0) → (∀ q, ¬ (q = 50 ∨ (6000 ≤ q ∧ q < 6024)) → f q = f0 q) → bV O mX11_pass d 96 [(2, .int (nI K)), (0, .ref 50), (1, .int (nI K))] [] (f, n, s) Q) : ∀ (m j : Nat) (f : bF), j + m = K → f 50 = some (.inr (11, [.int th_, .int tr_, .int wh_, .int fl_, .int nm_, .ref 51, .ref q_, .ref 53, .ref 54, .int tp_, .int sz_, .int at_, .int so_, .int pl_, .int mk_, .int nu_, .int di_, .int br_, .int iff_, .long wo_, .ref 55, .ref 56, .int (nI dc), .int (nI (td + j)), .ref 57, .int na_, .ref 58, .ref 59, .ref 60, .ref 61, .ref 62, .ref 63, .int hs_, .ref 64, .int nf_])) → ND f dc (drP dr td j 0) → (∀ q, ¬ (q = 50 ∨ (6000 ≤ q ∧ q < 6024)) → f q = f0 q) → bV O mX11_pass d 36 [(2, .int (nI j)), (0, .ref 50), (1, .int (nI K))] [] (f, n, s) Q := by
  intro m
  induction m with
  | zero =>
    intro j f i1 h0 hD he
    have i1 : j = K := by omega
    subst i1
    show bV O _ d 36 [(2, .int (nI j)), (0, .ref 50), (1, .int (nI j))] [] (f, n, s) _
    refine r_iload_n (n := 2) (i := 2) 0 rfl rfl dX11_pass_36 ?_
    refine r_iload_n (n := 1) (i := 1) 2 rfl rfl dX11_pass_37 ?_
    refine r_icmp_ge (tgt := 96) (by decide) dX11_pass_38 (fun _ => ?_) (fun h9 => absurd ((nI_leI (a := j) (b := j) (by omega) (by omega)).mpr (by omega)) h9)
    exact hQ f h0 hD he
  | succ m ih =>
    intro j f i1 h0 hD he
    show bV O _ d 36 [(2, .int (nI j)), (0, .ref 50), (1, .int (nI K))] [] (f, n, s) _
    refine r_iload_n (n := 2) (i := 2) 0 rfl rfl dX11_pass_36 ?_
    refine r_iload_n (n := 1) (i := 1) 2 rfl rfl dX11_pass_37 ?_
    refine r_icmp_ge (tgt := 96) (by decide) dX11_pass_38 (fun h9 => absurd h9 (fun h7 => absurd ((nI_leI (a := K) (b := j) (by omega) (by omega)).mp h7) (by omega))) (fun _ => ?_)
    refine r_aload_n (n := 0) (i := 0) 1 rfl rfl dX11_pass_41 ?_
    refine r_dup rfl dX11_pass_42 ?_
    refine p_get (fs := [.int th_, .int tr_, .int wh_, .int fl_, .int nm_, .ref 51, .ref q_, .ref 53, .ref 54, .int tp_, .int sz_, .int at_, .int so_, .int pl_, .int mk_, .int nu_, .int di_, .int br_, .int iff_, .long wo_, .ref 55, .ref 56, .int (nI dc), .int (nI (td + j)), .ref 57, .int na_, .ref 58, .ref 59, .ref 60, .ref 61, .ref 62, .ref 63, .int hs_, .ref 64, .int nf_]) flX11_292 h0 rfl dX11_pass_43 ?_
    refine r_iconst (v := 1) (by decide) dX11_pass_46 ?_
    refine r_iaddE (v := nI (td + j + 1)) (nI_add (td + j) 1) dX11_pass_47 ?_
    refine p_put (fs := [.int th_, .int tr_, .int wh_, .int fl_, .int nm_, .ref 51, .ref q_, .ref 53, .ref 54, .int tp_, .int sz_, .int at_, .int so_, .int pl_, .int mk_, .int nu_, .int di_, .int br_, .int iff_, .long wo_, .ref 55, .ref 56, .int (nI dc), .int (nI (td + j)), .ref 57, .int na_, .ref 58, .ref 59, .ref 60, .ref 61, .ref 62, .ref 63, .int hs_, .ref 64, .int nf_]) (fs' := [.int th_, .int tr_, .int wh_, .int fl_, .int nm_, .ref 51, .ref q_, .ref 53, .ref 54, .int tp_, .int sz_, .int at_, .int so_, .int pl_, .int mk_, .int nu_, .int di_, .int br_, .int iff_, .long wo_, .ref 55, .ref 56, .int (nI dc), .int (nI (td + j + 1)), .ref 57, .int na_, .ref 58, .ref 59, .ref 60, .ref 61, .ref 62, .ref 63, .int hs_, .ref 64, .int nf_]) flX11_292 h0 (Nat.le_of_ble_eq_true rfl) (bNf_i _) rfl dX11_pass_48 ?_
    refine r_iconst (v := 0) (by decide) dX11_pass_51 ?_
    refine r_istore_n (n := 3) (i := 3) (L' := [(3, .int 0), (2, .int (nI j)), (0, .ref 50), (1, .int (nI K))]) rfl dX11_pass_52 (by decide) rfl ?_
    refine bV_loc [0, 1, 2, 3] rfl ?_
    refine lp_passI (f0 := f0) hdc hK (by omega) hd ?_ dc 0 _ (by omega) (bU_s _ _ _) (hD.fr hdc (fun q _ => (bU_n (by omega)).trans rfl)) (fun q hq => (bU_n (by omega)).trans (he q hq))
    intro f2 k0 kD ke
    refine r_iinc (i := 2) (v := nI (j + 1)) (L' := [(2, .int (nI (j + 1))), (3, .int (nI dc)), (0, .ref 50), (1, .int (nI K))]) 1 rfl (nI_inc1 j) dX11_pass_90 (by decide) rfl ?_
    refine r_goto (tgt := 36) (by decide) dX11_pass_93 ?_
    refine bV_loc [0, 2, 3] rfl ?_
    exact ih (j + 1) f2 (by omega) k0 (ND_next kD) ke
theorem pass_n {td : Nat} {k : Int32} (h1 : td ≤ 2000) (h : jIn k 1 400 = true) : ∃ K : Nat, 1 ≤ K ∧ K ≤ 400 ∧ k = nI K := by
  have h2 := jIn_t h
  have e1 : (1 : Int32).toInt = 1 := by decide
  have e2 : (400 : Int32).toInt = 400 := by decide
  refine ⟨k.toInt.toNat, by omega, by omega, ?_⟩
  apply Int32.toInt_inj.mp
  rw [nI_toInt (by omega)]
  omega
set_option maxRecDepth 4000 in
theorem m_pass {O : bO} {d : Nat} {f : bF} {n s : Nat} {bs : Nat → Int32} {tl : Nat} {mc : Nat} {md : Nat → MR} {ip : Nat → Int32} {dc : Nat} {dr : Nat → DR} {ac : Nat} {an : Nat → AR} {hs : Bool} {sd : Nat → Int32} {df : Nat → Int32} {dfn : Nat} {td : Nat} {tr : Int32} {ft : Int32} {pl : Int32} {k : Int32} (hX : MP f (bs, tl, mc, md, ip, dc, dr, ac, an, hs, sd, df, dfn, td, tr, ft, pl)) (jX : JJ (bs, tl, mc, md, ip, dc, dr, ac, an, hs, sd, df, dfn, td, tr, ft, pl))  (hd : 1 ≤ d) : bCall O mX11_pass d [.ref 50, .int k] (f, n, s) (pM f n s 0 0 (s_pass (bs, tl, mc, md, ip, dc, dr, ac, an, hs, sd, df, dfn, td, tr, ft, pl) k)) := by
  refine bCall_of (by decide) rfl (Nat.le_of_ble_eq_true rfl) ?_
  obtain ⟨hNS, hT, hM, hI, hP, hD, hA, hC, hF⟩ := id hX
  simp only [] at hNS hT hM hI hP hD hA hC hF
  obtain ⟨j1, j2, j3, j4, j5, j6, j7, j8, j9, j10⟩ := id jX
  simp only [] at j1 j2 j3 j4 j5 j6 j7 j8 j9 j10
  obtain ⟨th_, sz_, at_, so_, pl_, mk_, nu_, di_, br_, iff_, wo_, hO⟩ := id hNS
  obtain ⟨tg9, kd9, sp9, h53, h54, hTb⟩ := id hT
  obtain ⟨ig9, h55, hIp⟩ := id hI
  obtain ⟨pg9, h56⟩ := id hP
  obtain ⟨kp9, aq9, bc9, br9, tu9, h58, h59, h60, h61, h62, hAp⟩ := id hA
  obtain ⟨sg9, h63, hC0, hC1, hC2, hC3, hC4⟩ := id hC
  obtain ⟨dg9, h64, hFp⟩ := id hF
  have bN := nA_b (i := mc) j1
  show bV O _ d 0 [(0, .ref 50), (1, .int k)] [] (f, n, s) _
  refine r_aload_n (n := 0) (i := 0) 0 rfl rfl dX11_pass_0 ?_
  refine r_iconst (v := 0) (by decide) dX11_pass_1 ?_
  refine p_put (fs := [.int th_, .int tr, .int (if tr = 4 then pl else -1), .int ft, .int (nI mc), .ref 51, .ref (nA mc), .ref 53, .ref 54, .int (nI tl), .int sz_, .int at_, .int so_, .int pl_, .int mk_, .int nu_, .int di_, .int br_, .int iff_, .long wo_, .ref 55, .ref 56, .int (nI dc), .int (nI td), .ref 57, .int (nI ac), .ref 58, .ref 59, .ref 60, .ref 61, .ref 62, .ref 63, .int (bI hs), .ref 64, .int (nI dfn)]) (fs' := [.int 0, .int tr, .int (if tr = 4 then pl else -1), .int ft, .int (nI mc), .ref 51, .ref (nA mc), .ref 53, .ref 54, .int (nI tl), .int sz_, .int at_, .int so_, .int pl_, .int mk_, .int nu_, .int di_, .int br_, .int iff_, .long wo_, .ref 55, .ref 56, .int (nI dc), .int (nI td), .ref 57, .int (nI ac), .ref 58, .ref 59, .ref 60, .ref 61, .ref 62, .ref 63, .int (bI hs), .ref 64, .int (nI dfn)]) flX11_71 hO (Nat.le_of_ble_eq_true rfl) (bNf_i _) rfl dX11_pass_2 ?_
  refine r_iload_n (n := 1) (i := 1) 1 rfl rfl dX11_pass_5 ?_
  refine r_iconst (v := 1) (by decide) dX11_pass_6 ?_
  refine r_sipush (v := 400) (by decide) dX11_pass_7 ?_
  refine p_callS (As := [.int k, .int 1, .int 400]) (rest := []) (kX11_in (O := O) (d := 0) (f := bU f 50 (.inr (11, [.int 0, .int tr, .int (if tr = 4 then pl else -1), .int ft, .int (nI mc), .ref 51, .ref (nA mc), .ref 53, .ref 54, .int (nI tl), .int sz_, .int at_, .int so_, .int pl_, .int mk_, .int nu_, .int di_, .int br_, .int iff_, .long wo_, .ref 55, .ref 56, .int (nI dc), .int (nI td), .ref 57, .int (nI ac), .ref 58, .ref 59, .ref 60, .ref 61, .ref 62, .ref 63, .int (bI hs), .ref 64, .int (nI dfn)]))) (n := n) (s := s) (v := k) (lo := 1) (hi := 400)   (Nat.le_refl _)).call rfl lkX11_200 smX11_in rfl rfl (by omega) (Nat.le_of_ble_eq_true rfl) dX11_pass_10 (fun v9 G9 h9 => ?_) (fun q9 G9 h9 => (by cases h9.1))
  obtain ⟨h8, rfl⟩ := h9; cases h8
  show bV O _ d 13 [(0, .ref 50), (1, .int k)] [.int (bI (jIn k 1 400))] (bU f 50 (.inr (11, [.int 0, .int tr, .int (if tr = 4 then pl else -1), .int ft, .int (nI mc), .ref 51, .ref (nA mc), .ref 53, .ref 54, .int (nI tl), .int sz_, .int at_, .int so_, .int pl_, .int mk_, .int nu_, .int di_, .int br_, .int iff_, .long wo_, .ref 55, .ref 56, .int (nI dc), .int (nI td), .ref 57, .int (nI ac), .ref 58, .ref 59, .ref 60, .ref 61, .ref 62, .ref 63, .int (bI hs), .ref 64, .int (nI dfn)])), n, s) _
  refine r_if_eq (tgt := 28) (by decide) dX11_pass_13 (fun c13 => ?_) (fun c13 => ?_)
  · have c13 := bI_0.mp c13
    refine r_aload_n (n := 0) (i := 0) 0 rfl rfl dX11_pass_28 ?_
    refine r_iconst (v := 2) (by decide) dX11_pass_29 ?_
    refine p_callV (As := [.int 2]) (rest := []) (kX11_refused (O := O) (d := 0) (f := bU f 50 (.inr (11, [.int 0, .int tr, .int (if tr = 4 then pl else -1), .int ft, .int (nI mc), .ref 51, .ref (nA mc), .ref 53, .ref 54, .int (nI tl), .int sz_, .int at_, .int so_, .int pl_, .int mk_, .int nu_, .int di_, .int br_, .int iff_, .long wo_, .ref 55, .ref 56, .int (nI dc), .int (nI td), .ref 57, .int (nI ac), .ref 58, .ref 59, .ref 60, .ref 61, .ref 62, .ref 63, .int (bI hs), .ref 64, .int (nI dfn)]))) (n := n) (s := s) (th_ := 0) (tr_ := tr) (wh_ := (if tr = 4 then pl else -1)) (fl_ := ft) (nm_ := nI mc) (q_ := nA mc) (tp_ := nI tl) (sz_ := sz_) (at_ := at_) (so_ := so_) (pl_ := pl_) (mk_ := mk_) (nu_ := nu_) (di_ := di_) (br_ := br_) (iff_ := iff_) (wo_ := wo_) (nd_ := nI dc) (td_ := nI td) (na_ := nI ac) (hs_ := bI hs) (nf_ := nI dfn) (y := 2) (by exact bU_s _ _ _)  (Nat.le_refl _)).call rfl lkX11_210 imX11_refused seX11_refused rfl (by exact bU_s _ _ _) rfl rfl (by omega) (Nat.le_of_ble_eq_true rfl) dX11_pass_30 (fun v9 G9 h9 => ?_) (fun q9 G9 h9 => (by cases h9.1))
    obtain ⟨h8, rfl⟩ := h9; cases h8
    refine bV_h (f2 := bU f 50 (.inr (11, [.int 0, .int 2, .int (-1), .int ft, .int (nI mc), .ref 51, .ref (nA mc), .ref 53, .ref 54, .int (nI tl), .int sz_, .int at_, .int so_, .int pl_, .int mk_, .int nu_, .int di_, .int br_, .int iff_, .long wo_, .ref 55, .ref 56, .int (nI dc), .int (nI td), .ref 57, .int (nI ac), .ref 58, .ref 59, .ref 60, .ref 61, .ref 62, .ref 63, .int (bI hs), .ref 64, .int (nI dfn)]))) (bU_u _ _ _ _) ?_
    show bV O _ d 33 [(0, .ref 50), (1, .int k)] [.int (-1)] (bU f 50 (.inr (11, [.int 0, .int 2, .int (-1), .int ft, .int (nI mc), .ref 51, .ref (nA mc), .ref 53, .ref 54, .int (nI tl), .int sz_, .int at_, .int so_, .int pl_, .int mk_, .int nu_, .int di_, .int br_, .int iff_, .long wo_, .ref 55, .ref 56, .int (nI dc), .int (nI td), .ref 57, .int (nI ac), .ref 58, .ref 59, .ref 60, .ref 61, .ref 62, .ref 63, .int (bI hs), .ref 64, .int (nI dfn)])), n, s) _
    refine r_ireturn rfl dX11_pass_33 ?_
    all_goals rcases jIn_f c13 with a13 | b13
    all_goals try have a13 : k < 1 := Int32.lt_iff_toInt_lt.mpr a13
    all_goals try have b13 : 400 < k := Int32.lt_iff_toInt_lt.mpr b13
    all_goals by_cases z13 : k < 1
    all_goals (unfold s_pass; try simp only [])
    all_goals try (first | simp only [if_pos c13] | simp only [if_neg c13] | simp only [if_neg (Bool.eq_false_iff.mp c13)])
    all_goals try (first | simp only [if_pos a13] | simp only [if_neg a13] | simp only [if_neg (Bool.eq_false_iff.mp a13)])
    all_goals try (first | simp only [if_pos z13] | simp only [if_neg z13] | simp only [if_neg (Bool.eq_false_iff.mp z13)])
    all_goals try (first | simp only [if_pos b13] | simp only [if_neg b13] | simp only [if_neg (Bool.eq_false_iff.mp b13)])
    all_goals exact pM_mk (NS_mk (by exact bU_s _ _ _) (by first | rfl | exact (if_neg (by decide)).symm | exact (if_pos rfl).symm)) (hT.fr (fun q _ _ => (bU_n (by omega)).trans (rfl))) (hM.fr j1 (fun q _ => (bU_n (by omega)).trans (rfl))) (hI.fr ((bU_n (by decide)).trans (rfl))) (hP.fr ((bU_n (by decide)).trans (rfl))) (hD.fr j2 (fun q _ => (bU_n (by omega)).trans (rfl))) (hA.fr (fun q _ _ => (bU_n (by omega)).trans (rfl))) (hC.fr ((bU_n (by decide)).trans (rfl))) (hF.fr ((bU_n (by decide)).trans (rfl))) (fun q _ => (bU_n (by omega)).trans (rfl)) (by omega) (by omega)
  · have c13 := bI_1.mp c13
    obtain ⟨K, hK1, hK4, rfl⟩ := pass_n j5 c13
    refine r_aload_n (n := 0) (i := 0) 0 rfl rfl dX11_pass_16 ?_
    refine p_get (fs := [.int 0, .int tr, .int (if tr = 4 then pl else -1), .int ft, .int (nI mc), .ref 51, .ref (nA mc), .ref 53, .ref 54, .int (nI tl), .int sz_, .int at_, .int so_, .int pl_, .int mk_, .int nu_, .int di_, .int br_, .int iff_, .long wo_, .ref 55, .ref 56, .int (nI dc), .int (nI td), .ref 57, .int (nI ac), .ref 58, .ref 59, .ref 60, .ref 61, .ref 62, .ref 63, .int (bI hs), .ref 64, .int (nI dfn)]) flX11_292 (by exact bU_s _ _ _) rfl dX11_pass_17 ?_
    refine r_iload_n (n := 1) (i := 1) 1 rfl rfl dX11_pass_20 ?_
    refine r_iaddE (v := nI (td + K)) (nI_add td K) dX11_pass_21 ?_
    refine r_sipush (v := 2000) (by decide) dX11_pass_22 ?_
    refine r_icmp_le (tgt := 34) (by decide) dX11_pass_25 (fun c25 => ?_) (fun c25 => ?_)
    · have c25 : (td + K) ≤ 2000 := (nI_leI (a := (td + K)) (b := 2000) (by omega) (by omega)).mp c25
      have a13 : ¬ nI K < 1 := (by rw [show (1 : Int32) = nI 1 by decide, nI_ltI (by omega) (by omega)]; omega)
      have b13 : ¬ 400 < nI K := (by rw [show (400 : Int32) = nI 400 by decide, nI_ltI (by omega) (by omega)]; omega)
      first | (have d25 : nI K ≤ nI (2000 - td) := (nI_leI (by omega) (by omega)).mpr (by omega)) | (have d25 : ¬ nI K ≤ nI (2000 - td) := fun h7 => by have := (nI_leI (by omega) (by omega)).mp h7; omega)
      refine r_iconst (v := 0) (by decide) dX11_pass_34 ?_
      refine r_istore_n (n := 2) (i := 2) (L' := [(2, .int 0), (0, .ref 50), (1, .int (nI K))]) rfl dX11_pass_35 (by decide) rfl ?_
      refine bV_loc [0, 1, 2] rfl ?_
      refine lp_passO (f0 := f) (dr := dr) (td := td) (K := K) j2 (by omega) (by omega) ?_ K 0 _ (by omega) (bU_s _ _ _) (ND_pass0 (hD.fr j2 (fun q _ => (bU_n (by omega)).trans rfl))) (fun q hq => bU_n (by omega))
      intro f2 k0 kD ke
      refine r_aload_n (n := 0) (i := 0) 1 rfl rfl dX11_pass_96 ?_
      refine r_aload_n (n := 0) (i := 0) 1 rfl rfl dX11_pass_97 ?_
      refine p_get (fs := [.int 0, .int tr, .int (if tr = 4 then pl else -1), .int ft, .int (nI mc), .ref 51, .ref (nA mc), .ref 53, .ref 54, .int (nI tl), .int sz_, .int at_, .int so_, .int pl_, .int mk_, .int nu_, .int di_, .int br_, .int iff_, .long wo_, .ref 55, .ref 56, .int (nI dc), .int (nI (td + K)), .ref 57, .int (nI ac), .ref 58, .ref 59, .ref 60, .ref 61, .ref 62, .ref 63, .int (bI hs), .ref 64, .int (nI dfn)]) flX11_292 k0 rfl dX11_pass_98 ?_
      refine p_callV (As := [.int (nI (td + K))]) (rest := []) (kX11_done (O := O) (d := 0) (f := f2) (n := n) (s := s) (th_ := 0) (tr_ := tr) (wh_ := (if tr = 4 then pl else -1)) (fl_ := ft) (nm_ := nI mc) (q_ := nA mc) (tp_ := nI tl) (sz_ := sz_) (at_ := at_) (so_ := so_) (pl_ := pl_) (mk_ := mk_) (nu_ := nu_) (di_ := di_) (br_ := br_) (iff_ := iff_) (wo_ := wo_) (nd_ := nI dc) (td_ := nI (td + K)) (na_ := nI ac) (hs_ := bI hs) (nf_ := nI dfn) (y := nI (td + K)) k0  (Nat.le_refl _)).call rfl lkX11_222 imX11_done seX11_done rfl k0 rfl rfl (by omega) (Nat.le_of_ble_eq_true rfl) dX11_pass_101 (fun v9 G9 h9 => ?_) (fun q9 G9 h9 => (by cases h9.1))
      obtain ⟨h8, rfl⟩ := h9; cases h8
      show bV O _ d 104 [(2, .int (nI K)), (0, .ref 50), (1, .int (nI K))] [.int (nI (td + K))] (bU f2 50 (.inr (11, [.int 0, .int 0, .int (-1), .int ft, .int (nI mc), .ref 51, .ref (nA mc), .ref 53, .ref 54, .int (nI tl), .int sz_, .int at_, .int so_, .int pl_, .int mk_, .int nu_, .int di_, .int br_, .int iff_, .long wo_, .ref 55, .ref 56, .int (nI dc), .int (nI (td + K)), .ref 57, .int (nI ac), .ref 58, .ref 59, .ref 60, .ref 61, .ref 62, .ref 63, .int (bI hs), .ref 64, .int (nI dfn)])), n, s) _
      refine r_ireturn rfl dX11_pass_104 ?_
      unfold s_pass; try simp only []
      rw [if_neg a13, if_neg b13, if_pos d25, cl_nI (show K < 2 ^ 31 by omega)]
      exact pM_mk (NS_mk (bU_s _ _ _) (by first | rfl | exact (if_neg (by decide)).symm | exact (if_pos rfl).symm)) (hT.fr (fun q _ _ => ((bU_n (by omega)).trans (ke _ (by omega))))) (hM.fr j1 (fun q _ => ((bU_n (by omega)).trans (ke _ (by omega))))) (hI.fr ((bU_n (by omega)).trans (ke _ (by omega)))) (hP.fr ((bU_n (by omega)).trans (ke _ (by omega)))) ((ND_passK kD).fr j2 (fun q _ => bU_n (by omega))) (hA.fr (fun q _ _ => ((bU_n (by omega)).trans (ke _ (by omega))))) (hC.fr ((bU_n (by omega)).trans (ke _ (by omega)))) (hF.fr ((bU_n (by omega)).trans (ke _ (by omega)))) (fun q _ => ((bU_n (by omega)).trans (ke _ (by omega)))) (by omega) (by omega)
      
    · have c25 : ¬ (td + K) ≤ 2000 := fun h7 => c25 ((nI_leI (a := (td + K)) (b := 2000) (by omega) (by omega)).mpr h7)
      have a13 : ¬ nI K < 1 := (by rw [show (1 : Int32) = nI 1 by decide, nI_ltI (by omega) (by omega)]; omega)
      have b13 : ¬ 400 < nI K := (by rw [show (400 : Int32) = nI 400 by decide, nI_ltI (by omega) (by omega)]; omega)
      first | (have d25 : nI K ≤ nI (2000 - td) := (nI_leI (by omega) (by omega)).mpr (by omega)) | (have d25 : ¬ nI K ≤ nI (2000 - td) := fun h7 => by have := (nI_leI (by omega) (by omega)).mp h7; omega)
      refine r_aload_n (n := 0) (i := 0) 0 rfl rfl dX11_pass_28 ?_
      refine r_iconst (v := 2) (by decide) dX11_pass_29 ?_
      refine p_callV (As := [.int 2]) (rest := []) (kX11_refused (O := O) (d := 0) (f := bU f 50 (.inr (11, [.int 0, .int tr, .int (if tr = 4 then pl else -1), .int ft, .int (nI mc), .ref 51, .ref (nA mc), .ref 53, .ref 54, .int (nI tl), .int sz_, .int at_, .int so_, .int pl_, .int mk_, .int nu_, .int di_, .int br_, .int iff_, .long wo_, .ref 55, .ref 56, .int (nI dc), .int (nI td), .ref 57, .int (nI ac), .ref 58, .ref 59, .ref 60, .ref 61, .ref 62, .ref 63, .int (bI hs), .ref 64, .int (nI dfn)]))) (n := n) (s := s) (th_ := 0) (tr_ := tr) (wh_ := (if tr = 4 then pl else -1)) (fl_ := ft) (nm_ := nI mc) (q_ := nA mc) (tp_ := nI tl) (sz_ := sz_) (at_ := at_) (so_ := so_) (pl_ := pl_) (mk_ := mk_) (nu_ := nu_) (di_ := di_) (br_ := br_) (iff_ := iff_) (wo_ := wo_) (nd_ := nI dc) (td_ := nI td) (na_ := nI ac) (hs_ := bI hs) (nf_ := nI dfn) (y := 2) (by exact bU_s _ _ _)  (Nat.le_refl _)).call rfl lkX11_210 imX11_refused seX11_refused rfl (by exact bU_s _ _ _) rfl rfl (by omega) (Nat.le_of_ble_eq_true rfl) dX11_pass_30 (fun v9 G9 h9 => ?_) (fun q9 G9 h9 => (by cases h9.1))
      obtain ⟨h8, rfl⟩ := h9; cases h8
      refine bV_h (f2 := bU f 50 (.inr (11, [.int 0, .int 2, .int (-1), .int ft, .int (nI mc), .ref 51, .ref (nA mc), .ref 53, .ref 54, .int (nI tl), .int sz_, .int at_, .int so_, .int pl_, .int mk_, .int nu_, .int di_, .int br_, .int iff_, .long wo_, .ref 55, .ref 56, .int (nI dc), .int (nI td), .ref 57, .int (nI ac), .ref 58, .ref 59, .ref 60, .ref 61, .ref 62, .ref 63, .int (bI hs), .ref 64, .int (nI dfn)]))) (bU_u _ _ _ _) ?_
      show bV O _ d 33 [(0, .ref 50), (1, .int (nI K))] [.int (-1)] (bU f 50 (.inr (11, [.int 0, .int 2, .int (-1), .int ft, .int (nI mc), .ref 51, .ref (nA mc), .ref 53, .ref 54, .int (nI tl), .int sz_, .int at_, .int so_, .int pl_, .int mk_, .int nu_, .int di_, .int br_, .int iff_, .long wo_, .ref 55, .ref 56, .int (nI dc), .int (nI td), .ref 57, .int (nI ac), .ref 58, .ref 59, .ref 60, .ref 61, .ref 62, .ref 63, .int (bI hs), .ref 64, .int (nI dfn)])), n, s) _
      refine r_ireturn rfl dX11_pass_33 ?_
      all_goals have a13 : ¬ nI K < 1 := (by rw [show (1 : Int32) = nI 1 by decide, nI_ltI (by omega) (by omega)]; omega)
      all_goals have b13 : ¬ 400 < nI K := (by rw [show (400 : Int32) = nI 400 by decide, nI_ltI (by omega) (by omega)]; omega)
      all_goals (unfold s_pass; try simp only [])
      all_goals try (first | simp only [if_pos c13] | simp only [if_neg c13] | simp only [if_neg (Bool.eq_false_iff.mp c13)])
      all_goals try (first | simp only [if_pos c25] | simp only [if_neg c25] | simp only [if_neg (Bool.eq_false_iff.mp c25)])
      all_goals try (first | simp only [if_pos a13] | simp only [if_neg a13] | simp only [if_neg (Bool.eq_false_iff.mp a13)])
      all_goals try (first | simp only [if_pos b13] | simp only [if_neg b13] | simp only [if_neg (Bool.eq_false_iff.mp b13)])
      all_goals try (first | simp only [if_pos d25] | simp only [if_neg d25] | simp only [if_neg (Bool.eq_false_iff.mp d25)])
      all_goals exact pM_mk (NS_mk (by exact bU_s _ _ _) (by first | rfl | exact (if_neg (by decide)).symm | exact (if_pos rfl).symm)) (hT.fr (fun q _ _ => (bU_n (by omega)).trans (rfl))) (hM.fr j1 (fun q _ => (bU_n (by omega)).trans (rfl))) (hI.fr ((bU_n (by decide)).trans (rfl))) (hP.fr ((bU_n (by decide)).trans (rfl))) (hD.fr j2 (fun q _ => (bU_n (by omega)).trans (rfl))) (hA.fr (fun q _ _ => (bU_n (by omega)).trans (rfl))) (hC.fr ((bU_n (by decide)).trans (rfl))) (hF.fr ((bU_n (by decide)).trans (rfl))) (fun q _ => (bU_n (by omega)).trans (rfl)) (by omega) (by omega)
