/-! ===== the law: its loop, its start (printed by wip/gen/law.py) ===== -/
def lw_Q0 (r : bR) (G : bG) : Prop := r = .inl (some (.int 1)) ∧ G.2.1 ≤ 110780 ∧ G.2.2 ≤ 8763766
set_option maxHeartbeats 4000000 in
set_option maxRecDepth 100000 in
theorem lw_loop {O : bO} (hN : oN O ≤ 3072) : ∀ (k i : Nat) (f : bF) (n s : Nat) (σ : SS), 6 * i ≤ oN O → oN O < 6 * i + k → XR f σ → MP f σ → JK σ → (∃ g : Nat → Int64, f 46 = some (.inl (2, 1, .inr (.inl g)))) → n ≤ 100 + 14 * i → s ≤ 10000 + 6166 * i → bV O mL_law 160 23 [(4, .int (nI (6 * i))), (3, .ref 46), (2, .ref 50), (1, .ref 32), (0, .ref 0)] [] (f, n, s) lw_Q0 := by
  intro k
  induction k with
  | zero =>
    intro i f n s σ h1 h2
    exact absurd h2 (by omega)
  | succ k ih =>
    intro i f n s σ h1 h2 hX hM hJ h46 hn hs
    refine r_iload (i := 4) 0 rfl dL_law_23 ?_
    refine r_aload_n (n := 0) (i := 0) 4 rfl rfl dL_law_25 ?_
    refine r_slen dL_law_26 ?_
    refine r_bipush (v := 6) (by decide) dL_law_27 ?_
    refine r_isub dL_law_29 ?_
    refine r_icmp_gt (tgt := 1297) (by decide) dL_law_30 (fun c => ?_) (fun c => ?_)
    · refine r_iconst (v := 1) (by decide) dL_law_1297 ?_
      refine r_zreturn (ty := .boolean) rfl (by decide +kernel) dL_law_1298 ?_
      refine ⟨rfl, ?_, ?_⟩
      · show n ≤ 110780
        omega
      · show s ≤ 8763766
        omega
    · have ht : 6 * i + 6 ≤ oN O := lw_cmp (by omega) (by omega) c
      have kk : lw_go O lw_Q0 n s (6 * i) := by
        intro f' n' s' σ' a1 a2 a3 a4 a5 a6
        have hi6 : nI (6 * i) + Int32.ofInt 6 = nI (6 * (i + 1)) := by
          rw [show Int32.ofInt 6 = nI 6 by decide +kernel, nI_add, Nat.mul_succ]
        refine r_iinc (i := 4) (v := nI (6 * (i + 1))) (L' := [(4, .int (nI (6 * (i + 1)))), (3, .ref 46), (2, .ref 50), (1, .ref 32), (0, .ref 0)]) 0 rfl hi6 dL_law_1291 (by decide) rfl ?_
        refine r_goto (tgt := 23) (by decide) dL_law_1294 ?_
        have hn' : n' ≤ 100 + 14 * (i + 1) := by omega
        have hs' : s' ≤ 10000 + 6166 * (i + 1) := by
          rw [Nat.mul_succ]
          omega
        exact ih (i + 1) f' n' s' σ' (by omega) (by omega) a1 a2 a3 a4 hn' hs'
      refine r_aload_n (n := 0) (i := 0) 4 rfl rfl dL_law_33 ?_
      refine r_iload (i := 4) 0 rfl dL_law_34 ?_
      refine r_sldN (t := 6 * i) (by omega) hN dL_law_36 ?_
      refine r_bipush (v := 31) (by decide) dL_law_37 ?_
      refine r_iand dL_law_39 ?_
      obtain ⟨c9, h9, e9⟩ := lw_and (oX O (6 * i))
      rw [e9]
      match c9, h9 with
      | 0, _ => exact r_tableIn (tgt := 184) (off := 144) dL_law_40 (by decide +kernel) (by decide +kernel) (by decide +kernel) (by decide) (lw_c0 hX hM hJ h46 hN ht kk)
      | 1, _ => exact r_tableIn (tgt := 257) (off := 217) dL_law_40 (by decide +kernel) (by decide +kernel) (by decide +kernel) (by decide) (lw_c1 hX hM hJ h46 hN ht kk)
      | 2, _ => exact r_tableIn (tgt := 282) (off := 242) dL_law_40 (by decide +kernel) (by decide +kernel) (by decide +kernel) (by decide) (lw_c2 hX hM hJ h46 hN ht kk)
      | 3, _ => exact r_tableIn (tgt := 295) (off := 255) dL_law_40 (by decide +kernel) (by decide +kernel) (by decide +kernel) (by decide) (lw_c3 hX hM hJ h46 hN ht kk)
      | 4, _ => exact r_tableIn (tgt := 308) (off := 268) dL_law_40 (by decide +kernel) (by decide +kernel) (by decide +kernel) (by decide) (lw_c4 hX hM hJ h46 hN ht kk)
      | 5, _ => exact r_tableIn (tgt := 333) (off := 293) dL_law_40 (by decide +kernel) (by decide +kernel) (by decide +kernel) (by decide) (lw_c5 hX hM hJ h46 hN ht kk)
      | 6, _ => exact r_tableIn (tgt := 358) (off := 318) dL_law_40 (by decide +kernel) (by decide +kernel) (by decide +kernel) (by decide) (lw_c6 hX hM hJ h46 hN ht kk)
      | 7, _ => exact r_tableIn (tgt := 395) (off := 355) dL_law_40 (by decide +kernel) (by decide +kernel) (by decide +kernel) (by decide) (lw_c7 hX hM hJ h46 hN ht kk)
      | 8, _ => exact r_tableIn (tgt := 420) (off := 380) dL_law_40 (by decide +kernel) (by decide +kernel) (by decide +kernel) (by decide) (lw_c8 hX hM hJ h46 hN ht kk)
      | 9, _ => exact r_tableIn (tgt := 433) (off := 393) dL_law_40 (by decide +kernel) (by decide +kernel) (by decide +kernel) (by decide) (lw_c9 hX hM hJ h46 hN ht kk)
      | 10, _ => exact r_tableIn (tgt := 494) (off := 454) dL_law_40 (by decide +kernel) (by decide +kernel) (by decide +kernel) (by decide) (lw_c10 hX hM hJ h46 hN ht kk)
      | 11, _ => exact r_tableIn (tgt := 531) (off := 491) dL_law_40 (by decide +kernel) (by decide +kernel) (by decide +kernel) (by decide) (lw_c11 hX hM hJ h46 hN ht kk)
      | 12, _ => exact r_tableIn (tgt := 580) (off := 540) dL_law_40 (by decide +kernel) (by decide +kernel) (by decide +kernel) (by decide) (lw_c12 hX hM hJ h46 hN ht kk)
      | 13, _ => exact r_tableIn (tgt := 605) (off := 565) dL_law_40 (by decide +kernel) (by decide +kernel) (by decide +kernel) (by decide) (lw_c13 hX hM hJ h46 hN ht kk)
      | 14, _ => exact r_tableIn (tgt := 630) (off := 590) dL_law_40 (by decide +kernel) (by decide +kernel) (by decide +kernel) (by decide) (lw_c14 hX hM hJ h46 hN ht kk)
      | 15, _ => exact r_tableIn (tgt := 667) (off := 627) dL_law_40 (by decide +kernel) (by decide +kernel) (by decide +kernel) (by decide) (lw_c15 hX hM hJ h46 hN ht kk)
      | 16, _ => exact r_tableIn (tgt := 704) (off := 664) dL_law_40 (by decide +kernel) (by decide +kernel) (by decide +kernel) (by decide) (lw_c16 hX hM hJ h46 hN ht kk)
      | 17, _ => exact r_tableIn (tgt := 729) (off := 689) dL_law_40 (by decide +kernel) (by decide +kernel) (by decide +kernel) (by decide) (lw_c17 hX hM hJ h46 hN ht kk)
      | 18, _ => exact r_tableIn (tgt := 766) (off := 726) dL_law_40 (by decide +kernel) (by decide +kernel) (by decide +kernel) (by decide) (lw_c18 hX hM hJ h46 hN ht kk)
      | 19, _ => exact r_tableIn (tgt := 803) (off := 763) dL_law_40 (by decide +kernel) (by decide +kernel) (by decide +kernel) (by decide) (lw_c19 hX hM hJ h46 hN ht kk)
      | 20, _ => exact r_tableIn (tgt := 840) (off := 800) dL_law_40 (by decide +kernel) (by decide +kernel) (by decide +kernel) (by decide) (lw_c20 hX hM hJ h46 hN ht kk)
      | 21, _ => exact r_tableIn (tgt := 877) (off := 837) dL_law_40 (by decide +kernel) (by decide +kernel) (by decide +kernel) (by decide) (lw_c21 hX hM hJ h46 hN ht kk)
      | 22, _ => exact r_tableIn (tgt := 914) (off := 874) dL_law_40 (by decide +kernel) (by decide +kernel) (by decide +kernel) (by decide) (lw_c22 hX hM hJ h46 hN ht kk)
      | 23, _ => exact r_tableIn (tgt := 939) (off := 899) dL_law_40 (by decide +kernel) (by decide +kernel) (by decide +kernel) (by decide) (lw_c23 hX hM hJ h46 hN ht kk)
      | 24, _ => exact r_tableIn (tgt := 964) (off := 924) dL_law_40 (by decide +kernel) (by decide +kernel) (by decide +kernel) (by decide) (lw_c24 hX hM hJ h46 hN ht kk)
      | 25, _ => exact r_tableIn (tgt := 1025) (off := 985) dL_law_40 (by decide +kernel) (by decide +kernel) (by decide +kernel) (by decide) (lw_c25 hX hM hJ h46 hN ht kk)
      | 26, _ => exact r_tableIn (tgt := 1062) (off := 1022) dL_law_40 (by decide +kernel) (by decide +kernel) (by decide +kernel) (by decide) (lw_c26 hX hM hJ h46 hN ht kk)
      | 27, _ => exact r_tableIn (tgt := 1111) (off := 1071) dL_law_40 (by decide +kernel) (by decide +kernel) (by decide +kernel) (by decide) (lw_c27 hX hM hJ h46 hN ht kk)
      | 28, _ => exact r_tableIn (tgt := 1160) (off := 1120) dL_law_40 (by decide +kernel) (by decide +kernel) (by decide +kernel) (by decide) (lw_c28 hX hM hJ h46 hN ht kk)
      | 29, _ => exact r_tableIn (tgt := 1197) (off := 1157) dL_law_40 (by decide +kernel) (by decide +kernel) (by decide +kernel) (by decide) (lw_c29 hX hM hJ h46 hN ht kk)
      | 30, _ => exact r_tableIn (tgt := 1253) (off := 1213) dL_law_40 (by decide +kernel) (by decide +kernel) (by decide +kernel) (by decide) (lw_c30 hX hM hJ h46 hN ht kk)
      | 31, _ => exact r_tableIn (tgt := 1278) (off := 1238) dL_law_40 (by decide +kernel) (by decide +kernel) (by decide +kernel) (by decide) (lw_c31 hX hM hJ h46 hN ht kk)
      | c9 + 32, h9 => exact absurd h9 (by omega)
set_option maxHeartbeats 4000000 in
theorem lw_s3 {O : bO} (hN : oN O ≤ 3072) {f : bF} {n s : Nat} (hX : XR f Z0) (hM : MP f Z0) (h46 : f 46 = none) (hn : n ≤ 90) (hs : s ≤ 9000) : bV O mL_law 160 16 [(2, .ref 50), (1, .ref 32), (0, .ref 0)] [] (f, n, s) lw_Q0 := by
  refine r_iconst (v := 1) (by decide) dL_law_16 ?_
  refine p_newa (at9 := .long) (ty := .long) (kd := 2) (n := 1) (a0 := (1, .inr (.inl (fun _ => 0)))) 46 rfl rfl ac_long (fun _ => rfl) (fun _ _ _ => ⟨rfl, trivial⟩) (by decide) (by decide) (by decide) h46 (by decide) dL_law_17 ?_
  refine r_astore_n (n := 3) (i := 3) rfl (L' := [(3, .ref 46), (2, .ref 50), (1, .ref 32), (0, .ref 0)]) dL_law_19 (by decide) rfl ?_
  refine r_iconst (v := nI (6 * 0)) (by decide +kernel) dL_law_20 ?_
  refine r_istore (i := 4) (L' := [(4, .int (nI (6 * 0))), (3, .ref 46), (2, .ref 50), (1, .ref 32), (0, .ref 0)]) dL_law_21 (by decide) rfl ?_
  exact lw_loop hN (oN O + 1) 0 _ _ _ Z0 (by omega) (by omega) (XR_fr hX JK_0.1 (fun q hq => bU_n (by omega))) (MP_fr hM JK_0.1 (fun q hq => bU_n (by omega))) JK_0 ⟨_, bU_s _ _ _⟩ (by show n + 1 ≤ _; omega) (by show s + 1 ≤ _; omega)
set_option maxHeartbeats 4000000 in
theorem lw_s2 {O : bO} (hN : oN O ≤ 3072) {f : bF} {n s : Nat} (hX : XR f Z0) (hf : ∀ r, 46 ≤ r → f r = none) (hn : n ≤ 40) (hs : s ≤ 2000) : bV O mL_law 160 8 [(1, .ref 32), (0, .ref 0)] [] (f, n, s) lw_Q0 := by
  refine p_new 50 [.int 0, .int 0, .int 0, .int 0, .int 0, .null, .null, .null, .null, .int 0, .int 0, .int 0, .int 0, .int 0, .int 0, .int 0, .int 0, .int 0, .int 0, .long 0, .null, .null, .int 0, .int 0, .null, .int 0, .null, .null, .null, .null, .null, .null, .int 0, .null, .int 0] kc_11 clL_16 ins_ModelShelfModel ini_ModelShelfModel (hf 50 (by decide)) (by decide) (fun j hj => match j, hj with | 0, _ => rfl | 1, _ => rfl | 2, _ => rfl | 3, _ => rfl | 4, _ => rfl | 5, _ => rfl | 6, _ => rfl | 7, _ => rfl | 8, _ => rfl | 9, _ => rfl | 10, _ => rfl | 11, _ => rfl | 12, _ => rfl | 13, _ => rfl | 14, _ => rfl | 15, _ => rfl | 16, _ => rfl | 17, _ => rfl | 18, _ => rfl | 19, _ => rfl | 20, _ => rfl | 21, _ => rfl | 22, _ => rfl | 23, _ => rfl | 24, _ => rfl | 25, _ => rfl | 26, _ => rfl | 27, _ => rfl | 28, _ => rfl | 29, _ => rfl | 30, _ => rfl | 31, _ => rfl | 32, _ => rfl | 33, _ => rfl | 34, _ => rfl | j + 35, h => absurd h (by omega)) (by simp [bok, bvl]) dL_law_8 ?_
  refine r_dup rfl dL_law_11 ?_
  refine p_callI (As := []) (rest := [.ref 50]) (kX11_init (O := O) (d := 5) (f := bU f 50 (.inr (11, [.int 0, .int 0, .int 0, .int 0, .int 0, .null, .null, .null, .null, .int 0, .int 0, .int 0, .int 0, .int 0, .int 0, .int 0, .int 0, .int 0, .int 0, .long 0, .null, .null, .int 0, .int 0, .null, .int 0, .null, .null, .null, .null, .null, .null, .int 0, .null, .int 0]))) (n := n + 1) (s := s + 35) (bU_s _ _ _) ((bU_n (by decide)).trans (hf 51 (by decide))) ((bU_n (by decide)).trans (hf 53 (by decide))) ((bU_n (by decide)).trans (hf 54 (by decide))) ((bU_n (by decide)).trans (hf 55 (by decide))) ((bU_n (by decide)).trans (hf 56 (by decide))) ((bU_n (by decide)).trans (hf 57 (by decide))) ((bU_n (by decide)).trans (hf 58 (by decide))) ((bU_n (by decide)).trans (hf 59 (by decide))) ((bU_n (by decide)).trans (hf 60 (by decide))) ((bU_n (by decide)).trans (hf 61 (by decide))) ((bU_n (by decide)).trans (hf 62 (by decide))) ((bU_n (by decide)).trans (hf 63 (by decide))) ((bU_n (by decide)).trans (hf 64 (by decide))) ((bU_n (by decide)).trans (hf 5000 (by decide))) ((bU_n (by decide)).trans (hf 5001 (by decide))) ((bU_n (by decide)).trans (hf 5002 (by decide))) (Nat.le_refl _)).call rfl lkL_18 imX11_init rfl rfl rfl rfl (by decide) (Nat.le_of_ble_eq_true rfl) dL_law_12 (fun v9 G9 h9 => ?_) (fun q9 G9 h9 => (by cases h9.1))
  obtain ⟨e0, rfl⟩ := h9
  cases e0
  refine r_astore_n (n := 2) (i := 2) rfl (L' := [(2, .ref 50), (1, .ref 32), (0, .ref 0)]) dL_law_15 (by decide) rfl ?_
  refine lw_s3 hN (XR_fr hX JK_0.1 (fun q hq => (bU_n (by omega)).trans ((bU_n (by omega)).trans ((bU_n (by omega)).trans ((bU_n (by omega)).trans ((bU_n (by omega)).trans ((bU_n (by omega)).trans ((bU_n (by omega)).trans ((bU_n (by omega)).trans ((bU_n (by omega)).trans ((bU_n (by omega)).trans ((bU_n (by omega)).trans ((bU_n (by omega)).trans ((bU_n (by omega)).trans ((bU_n (by omega)).trans ((bU_n (by omega)).trans ((bU_n (by omega)).trans ((bU_n (by omega)).trans ((bU_n (by omega)).trans (rfl)))))))))))))))))))) (MP_0 (fun r hr => (bU_n (by omega)).trans (hf r (by omega)))) ((bU_n (by omega)).trans ((bU_n (by omega)).trans ((bU_n (by omega)).trans ((bU_n (by omega)).trans ((bU_n (by omega)).trans ((bU_n (by omega)).trans ((bU_n (by omega)).trans ((bU_n (by omega)).trans ((bU_n (by omega)).trans ((bU_n (by omega)).trans ((bU_n (by omega)).trans ((bU_n (by omega)).trans ((bU_n (by omega)).trans ((bU_n (by omega)).trans ((bU_n (by omega)).trans ((bU_n (by omega)).trans ((bU_n (by omega)).trans ((bU_n (by omega)).trans (hf 46 (by decide)))))))))))))))))))) (by omega) (by omega)
set_option maxHeartbeats 4000000 in
theorem lw_s1 {O : bO} (hN : oN O ≤ 3072) : bV O mL_law 160 0 [(0, .ref 0)] [] (fun _ => none, 0, 0) lw_Q0 := by
  refine p_new 32 [.null, .null, .null, .null, .null, .null, .null, .null, .int 0, .int 0, .int 0, .int 0, .int 0, .int 0, .int 0, .int 0] kc_7 clL_8 ins_ModelShelf ini_ModelShelf rfl (by decide) (fun j hj => match j, hj with | 0, _ => rfl | 1, _ => rfl | 2, _ => rfl | 3, _ => rfl | 4, _ => rfl | 5, _ => rfl | 6, _ => rfl | 7, _ => rfl | 8, _ => rfl | 9, _ => rfl | 10, _ => rfl | 11, _ => rfl | 12, _ => rfl | 13, _ => rfl | 14, _ => rfl | 15, _ => rfl | j + 16, h => absurd h (by omega)) (by simp [bok, bvl]) dL_law_0 ?_
  refine r_dup rfl dL_law_3 ?_
  refine p_callI (As := []) (rest := [.ref 32]) (kX7_init (O := O) (d := 3) (f := bU (fun _ => none) 32 (.inr (7, [.null, .null, .null, .null, .null, .null, .null, .null, .int 0, .int 0, .int 0, .int 0, .int 0, .int 0, .int 0, .int 0]))) (n := 0 + 1) (s := 0 + 16) (bU_s _ _ _) ((bU_n (by decide)).trans rfl) ((bU_n (by decide)).trans rfl) ((bU_n (by decide)).trans rfl) ((bU_n (by decide)).trans rfl) ((bU_n (by decide)).trans rfl) ((bU_n (by decide)).trans rfl) ((bU_n (by decide)).trans rfl) ((bU_n (by decide)).trans rfl) ((bU_n (by decide)).trans rfl) ((bU_n (by decide)).trans rfl) ((bU_n (by decide)).trans rfl) ((bU_n (by decide)).trans rfl) ((bU_n (by decide)).trans rfl) (Nat.le_refl _)).call rfl lkL_15 imX7_init rfl rfl rfl rfl (by decide) (Nat.le_of_ble_eq_true rfl) dL_law_4 (fun v9 G9 h9 => ?_) (fun q9 G9 h9 => (by cases h9.1))
  obtain ⟨e0, rfl⟩ := h9
  cases e0
  refine r_astore_n (n := 1) (i := 1) rfl (L' := [(1, .ref 32), (0, .ref 0)]) dL_law_7 (by decide) rfl ?_
  exact lw_s2 hN (XR_0 (fun r h1 h2 => (bU_n (by omega)).trans rfl)) (fun r hr => (bU_n (by omega)).trans ((bU_n (by omega)).trans ((bU_n (by omega)).trans ((bU_n (by omega)).trans ((bU_n (by omega)).trans ((bU_n (by omega)).trans ((bU_n (by omega)).trans ((bU_n (by omega)).trans ((bU_n (by omega)).trans ((bU_n (by omega)).trans ((bU_n (by omega)).trans ((bU_n (by omega)).trans ((bU_n (by omega)).trans ((bU_n (by omega)).trans ((bU_n (by omega)).trans (rfl)))))))))))))))) (by decide) (by decide)
