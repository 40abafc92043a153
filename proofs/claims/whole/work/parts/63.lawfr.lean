/-! ===== the law: a frame over the other side's heap, its own call of differing, small numbers (printed by wip/gen/law.py) ===== -/
theorem XR_fr {f f' : bF} {σ : SS} (h : XR f σ) (j : JJ σ) (e : ∀ q, ((32 ≤ q ∧ q < 46) ∨ (1000 ≤ q ∧ q < 5000)) → f' q = f q) : XR f' σ := by
  obtain ⟨h1, h2, h3, h4, h5, h6, h7, ⟨tk, h8⟩, h9⟩ := h
  obtain ⟨j1, j2, j3, -⟩ := j
  exact ⟨(e 32 (by omega)).trans h1, h2.fr (fun q a b => e q (by omega)), h3.fr (fun q a b => e q (by omega)), h4.fr j1 (fun q a => e q (by omega)), h5.fr j2 (fun q a => e q (by omega)), h6.fr j3 (fun q a => e q (by omega)), (e 43 (by omega)).trans h7, ⟨tk, (e 44 (by omega)).trans h8⟩, (e 45 (by omega)).trans h9⟩
theorem MP_fr {f f' : bF} {σ : SS} (h : MP f σ) (j : JJ σ) (e : ∀ q, ((50 ≤ q ∧ q < 1000) ∨ 5000 ≤ q) → f' q = f q) : MP f' σ := by
  obtain ⟨⟨a1, a2, a3, a4, a5, a6, a7, a8, a9, a10, a11, h1⟩, h2, h3, h4, h5, h6, h7, h8, h9⟩ := h
  obtain ⟨j1, j2, j3, -⟩ := j
  exact ⟨⟨a1, a2, a3, a4, a5, a6, a7, a8, a9, a10, a11, (e 50 (by omega)).trans h1⟩, h2.fr (fun q a b => e q (by omega)), h3.fr j1 (fun q a => e q (by omega)), h4.fr (e 55 (by omega)), h5.fr (e 56 (by omega)), h6.fr j2 (fun q a => e q (by omega)), h7.fr (fun q a b => e q (by omega)), h8.fr (e 63 (by omega)), h9.fr (e 64 (by omega))⟩
theorem MP_50 {f : bF} {σ : SS} (h : MP f σ) : ∃ fs : List Value, f 50 = some (.inr (11, fs)) := by
  obtain ⟨⟨a1, a2, a3, a4, a5, a6, a7, a8, a9, a10, a11, h1⟩, -⟩ := h
  exact ⟨_, h1⟩
def qG (f : bF) (n s : Nat) (df : Nat → Int32) (dfn : Nat) (x : Int32) (g : Nat → Int64) (r : bR) (G : bG) : Prop := (inB x dfn = true ∧ r = .inl (some (.int 0)) ∧ G = (bU f 46 (.inl (2, 1, .inr (.inl (vp_updL g 0 (df (cl x)).toInt64)))), n, s)) ∨ (inB x dfn = false ∧ r = .inl (some (.int 1)) ∧ G = (f, n + 1, s + 6))
theorem qG_nx {f : bF} {n s : Nat} {df : Nat → Int32} {dfn : Nat} {x : Int32} {g : Nat → Int64} {q : Nat} {G : bG} : ¬ qG f n s df dfn x g (.inr q) G := by
  intro h
  rcases h with ⟨-, h, -⟩ | ⟨-, h, -⟩ <;> cases h
theorem k_LdiffG {O : bO} {d : Nat} {f : bF} {n s : Nat} {bs : Nat → Int32} {tl : Nat} {mc : Nat} {md : Nat → MR} {ip : Nat → Int32} {dc : Nat} {dr : Nat → DR} {ac : Nat} {an : Nat → AR} {hs : Bool} {sd : Nat → Int32} {df : Nat → Int32} {dfn : Nat} {td : Nat} {tr : Int32} {ft : Int32} {pl : Int32} {x : Int32} {g : Nat → Int64} (hX : XR f (bs, tl, mc, md, ip, dc, dr, ac, an, hs, sd, df, dfn, td, tr, ft, pl)) (jX : JX (bs, tl, mc, md, ip, dc, dr, ac, an, hs, sd, df, dfn, td, tr, ft, pl)) (h46 : f 46 = some (.inl (2, 1, .inr (.inl g)))) (hd : 7 ≤ d) : bCall O mL_differing d [.ref 32, .int x, .ref 46] (f, n, s) (qG f n s df dfn x g) := by
  refine bCall_ofH (by decide) rfl (Nat.le_of_ble_eq_true rfl) ?_
  show bV O _ d 0 [(0, .ref 32), (1, .int x), (2, .ref 46)] [] (f, n, s) _
  refine r_aload_n (n := 2) (i := 2) 2 rfl rfl dL_differing_0 ?_
  refine r_iconst (v := 0) (by decide) dL_differing_1 ?_
  refine r_aload_n (n := 0) (i := 0) 0 rfl rfl dL_differing_2 ?_
  refine r_iload_n (n := 1) (i := 1) 1 rfl rfl dL_differing_3 ?_
  refine r_callVO (G := (f, n, s)) (As := [.int x]) (rest := [.int 0, .ref 46]) (x_differing (d := 6) hX jX (Nat.le_refl _)) rfl lkL_7 imX7_differing seX7_differing rfl hX.1 rfl rfl (by omega) (Nat.le_of_ble_eq_true rfl) dL_differing_4 rfl rfl (by decide) clL_13 dL_differing_12 rfl (by decide) (fun v9 G9 h9 => ?_) (fun q9 G9 h9 => ?_)
  · rcases h9 with ⟨h7, h8, rfl⟩ | ⟨h7, h8, -⟩
    · cases h8
      show bV O _ d 7 [(0, .ref 32), (1, .int x), (2, .ref 46)] [.int (df (cl x)), .int 0, .ref 46] (f, n, s) _
      refine r_i2l dL_differing_7 ?_
      refine p_lastN (t := 0) h46 (by omega) (by omega) dL_differing_8 ?_
      refine r_goto (tgt := 15) (by decide) dL_differing_9 ?_
      refine r_iconst (v := 0) (by decide) dL_differing_15 ?_
      refine r_ireturn rfl dL_differing_16 ?_
      exact Or.inl ⟨h7, rfl, rfl⟩
    · cases h8
  · rcases h9 with ⟨h7, h8, -⟩ | ⟨h7, h8, rfl⟩
    · cases h8
    · cases h8
      refine ⟨rfl, ?_⟩
      show bV O _ d 13 [(0, .ref 32), (1, .int x), (2, .ref 46)] [] (f, n + 1, s + 6) _
      refine r_iconst (v := 1) (by decide) dL_differing_13 ?_
      refine r_ireturn rfl dL_differing_14 ?_
      exact Or.inr ⟨h7, rfl, rfl⟩
abbrev mL_law : bM := (yL_law, cL_law, 7, (some .boolean), [])
theorem lw_ad {t k : Nat} {v : Int32} (h : v = nI k) : nI t + v = nI (t + k) := by rw [h, nI_add]
theorem r_sldN {O : bO} {y : bM} {d pc : Nat} {L : List (Nat × Value)} {st : List Value} {G : bG} {Q : bR → bG → Prop} {t : Nat} (ht : t < oN O) (hN : oN O ≤ 3072) (hd : decode (mB y) pc = .ok (.iaload, 1)) (kk : bV O y d (pc + 1) L (.int (oX O t) :: st) G Q) : bV O y d pc L (.int (nI t) :: .ref 0 :: st) G Q :=
  r_sld (vp_in_nI ht (by omega)) hd (by rw [nI_clamp (by omega)]; exact kk)
theorem lw_cmp {t L : Nat} (ht : t < 100000) (hL : L < 100000) (h : ¬ nI L - 6 < nI t) : t + 6 ≤ L := by
  have h6 : (6 : Int32).toInt = 6 := by decide
  have h1 : (nI L - 6).toInt = (L : Int) - 6 := by
    rw [Int32.toInt_sub, nI_toInt (by omega), h6]
    exact bm32 (by omega) (by omega)
  rw [Int32.lt_iff_toInt_lt, h1, nI_toInt (by omega)] at h
  omega
theorem lw_and (v : Int32) : ∃ k : Nat, k < 32 ∧ v &&& 31 = nI k := by
  have h31 : (31 : Int32).toBitVec.toNat = 31 := by decide
  have hlt : (v &&& 31).toBitVec.toNat < 32 := by
    rw [Int32.toBitVec_and, BitVec.toNat_and, h31]
    exact Nat.lt_of_le_of_lt Nat.and_le_right (by omega)
  refine ⟨(v &&& 31).toBitVec.toNat, hlt, ?_⟩
  apply Int32.toBitVec_inj.mp
  show (v &&& 31).toBitVec = BitVec.ofNat 32 (v &&& 31).toBitVec.toNat
  rw [BitVec.ofNat_toNat, BitVec.setWidth_eq]
theorem lg_cmp_self (v : Int64) : lg_cmp v v = 0 := by
  unfold lg_cmp
  rw [if_neg (show ¬ v > v from Int64.lt_irrefl), if_pos rfl]
/-- what is to be shown behind a call of the run -/
def lw_go (O : bO) (Q : bR → bG → Prop) (n s t : Nat) : Prop :=
  ∀ (f' : bF) (n' s' : Nat) (σ' : SS), XR f' σ' → MP f' σ' → JK σ' → (∃ g : Nat → Int64, f' 46 = some (.inl (2, 1, .inr (.inl g)))) → n' ≤ n + 14 → s' ≤ s + 6166 → bV O mL_law 160 1291 [(4, .int (nI t)), (3, .ref 46), (2, .ref 50), (1, .ref 32), (0, .ref 0)] [] (f', n', s') Q
