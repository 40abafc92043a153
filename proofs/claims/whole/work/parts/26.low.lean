/-! ===== the class: what its small parts do (printed by wip/gen/low.py) ===== -/
theorem wcl1 : Cond.methodLink RJ7 316 ⟨"[I", "clone", "()Ljava/lang/Object;"⟩ ∈ bW := (bW_at 418 (by decide +kernel) rfl)
theorem wcl2 : Cond.sameMethod "[I" "java/lang/Object" "clone" "()Ljava/lang/Object;" ∈ bW := (bW_at 419 (by decide +kernel) rfl)
theorem wcl3 : Cond.native ⟨"java/lang/Object", "clone", "()Ljava/lang/Object;"⟩ ∈ bW := (bW_at 420 (by decide +kernel) rfl)
theorem wcl4 : Cond.instanceMethod ⟨"java/lang/Object", "clone", "()Ljava/lang/Object;"⟩ ∈ bW := (bW_at 421 (by decide +kernel) rfl)
theorem wcl5 : Cond.selects "[I" ⟨"[I", "clone", "()Ljava/lang/Object;"⟩ ⟨"java/lang/Object", "clone", "()Ljava/lang/Object;"⟩ ∈ bW := (bW_at 422 (by decide +kernel) rfl)
theorem wcl6 : Cond.castable "[I" "java/lang/Cloneable" ∈ lw_tbl := List.mem_of_getElem? (i := 423) (by decide +kernel)
theorem wacJ7 : Cond.methodLink RJ7 150 arraycopyName ∈ bW := (bW_at 428 (by decide +kernel) rfl)
theorem wacX1 : Cond.methodLink RX1 52 arraycopyName ∈ bW := (bW_at 591 (by decide +kernel) rfl)
theorem wac2 : Cond.native arraycopyName ∈ bW := (bW_at 430 (by decide +kernel) rfl)
theorem wac3 : Cond.static arraycopyName ∈ bW := (bW_at 429 (by decide +kernel) rfl)
theorem wac4 : Cond.initialized "java/lang/System" ∈ bW := (bW_at 72 (by decide +kernel) rfl)
/-- what Arrays.copyOf makes -/
def cpA (n0 m : Nat) (g : Nat → Int32) : Nat → Int32 := if m = n0 then g else va_cpy g (fun _ => 0) 0 0 m
theorem cpA_at {n0 m k : Nat} {g : Nat → Int32} (h : k < m) : cpA n0 m g k = g k := by
  unfold cpA
  split
  · rfl
  · simp [va_cpy, h]
theorem jmn_c {m n : Nat} (h : m < n) (h2 : n < 2 ^ 31) : jmn (nI n) (nI m) = nI m := by
  unfold jmn
  rw [if_pos (nI_lt h h2)]
set_option maxRecDepth 4000 in
theorem kJ7_copyOf_59c91 {O : bO} {d : Nat} {f : bF} {n s : Nat} {g : Nat → Int32} {n0 : Nat} {m : Nat} {r0 : Nat} {r : Nat} (h0 : f r0 = some (.inl (0, n0, .inl g))) (e0 : m ≤ n0) (e1 : n0 ≤ 1000) (e2 : r0 ≠ r) (e3 : f r = none) (e4 : 32 ≤ r) (hd : 1 ≤ d) : bMt O mJ7_copyOf_59c91 d [.ref r0, .int (nI m)] (f, n, s) (.inl (some (.ref r))) (bU f r (.inl (0, m, .inl (cpA n0 m g))), n + 1, s + m) := by
  refine bMt_of (bCall_of (by decide) rfl (Nat.le_of_ble_eq_true rfl) ?_)
  show bV O _ d 0 [(0, .ref r0), (1, .int (nI m))] [] (f, n, s) _
  refine r_iload_n (n := 1) (i := 1) 1 rfl rfl dJ7_copyOf_59c91_0 ?_
  refine r_aload_n (n := 0) (i := 0) 0 rfl rfl dJ7_copyOf_59c91_1 ?_
  refine p_alen2 (kd := 0) (n := n0) (a := (n0, .inl g)) rfl h0 rfl dJ7_copyOf_59c91_2 ?_
  refine r_icmp_ne (tgt := 14) (by decide) dJ7_copyOf_59c91_3 (fun c3 => ?_) (fun c3 => ?_)
  · have c3 : ¬ m = n0 := fun h7 => c3 ((nI_eq (a := m) (b := n0) (by omega) (by omega)).mpr h7)
    refine r_iload_n (n := 1) (i := 1) 1 rfl rfl dJ7_copyOf_59c91_14 ?_
    refine p_newa (at9 := .int) (ty := .int) (kd := 0) (n := m) (a0 := (m, .inl (fun _ => 0))) r rfl rfl ac_int (fun _ => rfl) (fun _ _ _ => ⟨rfl, trivial⟩) (nI_pos (by omega)) (nI_clamp (by omega)) (by show m * 4 ≤ _; omega) e3 (by omega) dJ7_copyOf_59c91_15 ?_
    refine r_astore_n (n := 2) (i := 2) (L' := [(2, .ref r), (0, .ref r0), (1, .int (nI m))]) rfl dJ7_copyOf_59c91_17 (by decide) rfl ?_
    refine r_aload_n (n := 0) (i := 0) 1 rfl rfl dJ7_copyOf_59c91_18 ?_
    refine r_iconst (v := 0) (by decide) dJ7_copyOf_59c91_19 ?_
    refine r_aload_n (n := 2) (i := 2) 0 rfl rfl dJ7_copyOf_59c91_20 ?_
    refine r_iconst (v := 0) (by decide) dJ7_copyOf_59c91_21 ?_
    refine r_aload_n (n := 0) (i := 0) 1 rfl rfl dJ7_copyOf_59c91_22 ?_
    refine p_alen2 (kd := 0) (n := n0) (a := (n0, .inl g)) rfl (by exact ((bU_n (by omega)).trans (h0))) rfl dJ7_copyOf_59c91_23 ?_
    refine r_iload_n (n := 1) (i := 1) 2 rfl rfl dJ7_copyOf_59c91_24 ?_
    refine r_mmin (by omega) lkJ7_304 (Nat.le_of_ble_eq_true rfl) dJ7_copyOf_59c91_25 ?_
    rw [jmn_c (by omega) (by omega)]
    refine p_copyi (by omega) wacJ7 wac2 wac3 wac4 (by exact ((bU_n (by omega)).trans (h0))) (by exact bU_s _ _ _) (by decide) (by decide) (nI_pos (by omega)) (by rw [nI_clamp (by omega)]; show 0 + m ≤ _; omega) (by rw [nI_clamp (by omega)]; show 0 + m ≤ _; omega) (Nat.le_of_ble_eq_true rfl) dJ7_copyOf_59c91_28 ?_
    refine bV_h (f2 := bU f r (.inl (0, m, .inl (va_cpy g (fun _ => 0) 0 0 (nI m).toNatClampNeg)))) (bU_u _ _ _ _) ?_
    refine r_aload_n (n := 2) (i := 2) 0 rfl rfl dJ7_copyOf_59c91_31 ?_
    refine r_areturn rfl (by first | exact Or.inl ⟨_, rfl⟩ | exact Or.inr ⟨_, rfl⟩) dJ7_copyOf_59c91_32 ?_
    rw [nI_clamp (by omega), show cpA n0 m g = va_cpy g (fun _ => 0) 0 0 m by rw [cpA, if_neg c3]]
    exact ⟨rfl, rfl⟩
  · have c3 : m = n0 := (nI_eq (a := m) (b := n0) (by omega) (by omega)).mp c3
    refine r_aload_n (n := 0) (i := 0) 0 rfl rfl dJ7_copyOf_59c91_6 ?_
    refine p_clone r (by omega) wcl1 wcl2 wcl3 wcl4 wcl5 wcl6 h0 e3 (by omega) (Nat.le_of_ble_eq_true rfl) dJ7_copyOf_59c91_7 ?_
    refine p_castI clJ7_317 (by exact bU_s _ _ _) dJ7_copyOf_59c91_10 ?_
    refine r_areturn rfl (by first | exact Or.inl ⟨_, rfl⟩ | exact Or.inr ⟨_, rfl⟩) dJ7_copyOf_59c91_13 ?_
    subst c3
    rw [show cpA m m g = g by simp [cpA]]
    exact ⟨rfl, rfl⟩
def fl6 (g : Nat → Int32) (v : Int32) : Nat → Int32 := upd (upd (upd (upd (upd (upd g 0 v) 1 v) 2 v) 3 v) 4 v) 5 v
theorem fl6_at {g : Nat → Int32} {v : Int32} {k : Nat} (h : k < 6) : fl6 g v k = v := by
  rcases (show k = 0 ∨ k = 1 ∨ k = 2 ∨ k = 3 ∨ k = 4 ∨ k = 5 by omega) with rfl | rfl | rfl | rfl | rfl | rfl <;> simp [fl6, upd]
set_option maxRecDepth 4000 in
theorem kJ7_fill_53178 {O : bO} {d : Nat} {f : bF} {n s : Nat} {g : Nat → Int32} {r : Nat} {v : Int32} (h0 : f r = some (.inl (0, 6, .inl g)))  (hd : 0 ≤ d) : bMt O mJ7_fill_53178 d [.ref r, .int v] (f, n, s) (.inl none) (bU f r (.inl (0, 6, .inl (fl6 g v))), n, s) := by
  refine bMt_of (bCall_of (by decide) rfl (Nat.le_of_ble_eq_true rfl) ?_)
  show bV O _ d 0 [(0, .ref r), (1, .int v)] [] (f, n, s) _
  refine r_iconst (v := 0) (by decide) dJ7_fill_53178_0 ?_
  refine r_istore_n (n := 2) (i := 2) (L' := [(2, .int 0), (0, .ref r), (1, .int v)]) rfl dJ7_fill_53178_1 (by decide) rfl ?_
  refine r_aload_n (n := 0) (i := 0) 1 rfl rfl dJ7_fill_53178_2 ?_
  refine p_alen2 (kd := 0) (n := 6) (a := (6, .inl g)) rfl h0 rfl dJ7_fill_53178_3 ?_
  refine r_istore_n (n := 3) (i := 3) (L' := [(3, .int (nI 6)), (2, .int 0), (0, .ref r), (1, .int v)]) rfl dJ7_fill_53178_4 (by decide) rfl ?_
  refine r_iload_n (n := 2) (i := 2) 1 rfl rfl dJ7_fill_53178_5 ?_
  refine r_iload_n (n := 3) (i := 3) 0 rfl rfl dJ7_fill_53178_6 ?_
  refine r_icmp_ge (tgt := 20) (by decide) dJ7_fill_53178_7 (fun h9 => absurd h9 (show ¬ ((nI 6) ≤ 0) by decide)) (fun _ => ?_)
  refine r_aload_n (n := 0) (i := 0) 2 rfl rfl dJ7_fill_53178_10 ?_
  refine r_iload_n (n := 2) (i := 2) 1 rfl rfl dJ7_fill_53178_11 ?_
  refine r_iload_n (n := 1) (i := 1) 3 rfl rfl dJ7_fill_53178_12 ?_
  refine p_iastN (t := 0) h0 (by omega) (by omega) dJ7_fill_53178_13 ?_
  refine r_iinc (i := 2) (v := 1) (L' := [(2, .int 1), (3, .int (nI 6)), (0, .ref r), (1, .int v)]) 1 rfl (by decide) dJ7_fill_53178_14 (by decide) rfl ?_
  refine r_goto (tgt := 5) (by decide) dJ7_fill_53178_17 ?_
  refine r_iload_n (n := 2) (i := 2) 0 rfl rfl dJ7_fill_53178_5 ?_
  refine r_iload_n (n := 3) (i := 3) 1 rfl rfl dJ7_fill_53178_6 ?_
  refine r_icmp_ge (tgt := 20) (by decide) dJ7_fill_53178_7 (fun h9 => absurd h9 (show ¬ ((nI 6) ≤ 1) by decide)) (fun _ => ?_)
  refine r_aload_n (n := 0) (i := 0) 2 rfl rfl dJ7_fill_53178_10 ?_
  refine r_iload_n (n := 2) (i := 2) 0 rfl rfl dJ7_fill_53178_11 ?_
  refine r_iload_n (n := 1) (i := 1) 3 rfl rfl dJ7_fill_53178_12 ?_
  refine p_iastN (t := 1) (by exact bU_s _ _ _) (by omega) (by omega) dJ7_fill_53178_13 ?_
  refine bV_h (f2 := bU f r (.inl (0, 6, .inl (upd (upd g 0 v) 1 v)))) (bU_u _ _ _ _) ?_
  refine r_iinc (i := 2) (v := 2) (L' := [(2, .int 2), (3, .int (nI 6)), (0, .ref r), (1, .int v)]) 0 rfl (by decide) dJ7_fill_53178_14 (by decide) rfl ?_
  refine r_goto (tgt := 5) (by decide) dJ7_fill_53178_17 ?_
  refine r_iload_n (n := 2) (i := 2) 0 rfl rfl dJ7_fill_53178_5 ?_
  refine r_iload_n (n := 3) (i := 3) 1 rfl rfl dJ7_fill_53178_6 ?_
  refine r_icmp_ge (tgt := 20) (by decide) dJ7_fill_53178_7 (fun h9 => absurd h9 (show ¬ ((nI 6) ≤ 2) by decide)) (fun _ => ?_)
  refine r_aload_n (n := 0) (i := 0) 2 rfl rfl dJ7_fill_53178_10 ?_
  refine r_iload_n (n := 2) (i := 2) 0 rfl rfl dJ7_fill_53178_11 ?_
  refine r_iload_n (n := 1) (i := 1) 3 rfl rfl dJ7_fill_53178_12 ?_
  refine p_iastN (t := 2) (by exact bU_s _ _ _) (by omega) (by omega) dJ7_fill_53178_13 ?_
  refine bV_h (f2 := bU f r (.inl (0, 6, .inl (upd (upd (upd g 0 v) 1 v) 2 v)))) (bU_u _ _ _ _) ?_
  refine r_iinc (i := 2) (v := 3) (L' := [(2, .int 3), (3, .int (nI 6)), (0, .ref r), (1, .int v)]) 0 rfl (by decide) dJ7_fill_53178_14 (by decide) rfl ?_
  refine r_goto (tgt := 5) (by decide) dJ7_fill_53178_17 ?_
  refine r_iload_n (n := 2) (i := 2) 0 rfl rfl dJ7_fill_53178_5 ?_
  refine r_iload_n (n := 3) (i := 3) 1 rfl rfl dJ7_fill_53178_6 ?_
  refine r_icmp_ge (tgt := 20) (by decide) dJ7_fill_53178_7 (fun h9 => absurd h9 (show ¬ ((nI 6) ≤ 3) by decide)) (fun _ => ?_)
  refine r_aload_n (n := 0) (i := 0) 2 rfl rfl dJ7_fill_53178_10 ?_
  refine r_iload_n (n := 2) (i := 2) 0 rfl rfl dJ7_fill_53178_11 ?_
  refine r_iload_n (n := 1) (i := 1) 3 rfl rfl dJ7_fill_53178_12 ?_
  refine p_iastN (t := 3) (by exact bU_s _ _ _) (by omega) (by omega) dJ7_fill_53178_13 ?_
  refine bV_h (f2 := bU f r (.inl (0, 6, .inl (upd (upd (upd (upd g 0 v) 1 v) 2 v) 3 v)))) (bU_u _ _ _ _) ?_
  refine r_iinc (i := 2) (v := 4) (L' := [(2, .int 4), (3, .int (nI 6)), (0, .ref r), (1, .int v)]) 0 rfl (by decide) dJ7_fill_53178_14 (by decide) rfl ?_
  refine r_goto (tgt := 5) (by decide) dJ7_fill_53178_17 ?_
  refine r_iload_n (n := 2) (i := 2) 0 rfl rfl dJ7_fill_53178_5 ?_
  refine r_iload_n (n := 3) (i := 3) 1 rfl rfl dJ7_fill_53178_6 ?_
  refine r_icmp_ge (tgt := 20) (by decide) dJ7_fill_53178_7 (fun h9 => absurd h9 (show ¬ ((nI 6) ≤ 4) by decide)) (fun _ => ?_)
  refine r_aload_n (n := 0) (i := 0) 2 rfl rfl dJ7_fill_53178_10 ?_
  refine r_iload_n (n := 2) (i := 2) 0 rfl rfl dJ7_fill_53178_11 ?_
  refine r_iload_n (n := 1) (i := 1) 3 rfl rfl dJ7_fill_53178_12 ?_
  refine p_iastN (t := 4) (by exact bU_s _ _ _) (by omega) (by omega) dJ7_fill_53178_13 ?_
  refine bV_h (f2 := bU f r (.inl (0, 6, .inl (upd (upd (upd (upd (upd g 0 v) 1 v) 2 v) 3 v) 4 v)))) (bU_u _ _ _ _) ?_
  refine r_iinc (i := 2) (v := 5) (L' := [(2, .int 5), (3, .int (nI 6)), (0, .ref r), (1, .int v)]) 0 rfl (by decide) dJ7_fill_53178_14 (by decide) rfl ?_
  refine r_goto (tgt := 5) (by decide) dJ7_fill_53178_17 ?_
  refine r_iload_n (n := 2) (i := 2) 0 rfl rfl dJ7_fill_53178_5 ?_
  refine r_iload_n (n := 3) (i := 3) 1 rfl rfl dJ7_fill_53178_6 ?_
  refine r_icmp_ge (tgt := 20) (by decide) dJ7_fill_53178_7 (fun h9 => absurd h9 (show ¬ ((nI 6) ≤ 5) by decide)) (fun _ => ?_)
  refine r_aload_n (n := 0) (i := 0) 2 rfl rfl dJ7_fill_53178_10 ?_
  refine r_iload_n (n := 2) (i := 2) 0 rfl rfl dJ7_fill_53178_11 ?_
  refine r_iload_n (n := 1) (i := 1) 3 rfl rfl dJ7_fill_53178_12 ?_
  refine p_iastN (t := 5) (by exact bU_s _ _ _) (by omega) (by omega) dJ7_fill_53178_13 ?_
  refine bV_h (f2 := bU f r (.inl (0, 6, .inl (upd (upd (upd (upd (upd (upd g 0 v) 1 v) 2 v) 3 v) 4 v) 5 v)))) (bU_u _ _ _ _) ?_
  refine r_iinc (i := 2) (v := 6) (L' := [(2, .int 6), (3, .int (nI 6)), (0, .ref r), (1, .int v)]) 0 rfl (by decide) dJ7_fill_53178_14 (by decide) rfl ?_
  refine r_goto (tgt := 5) (by decide) dJ7_fill_53178_17 ?_
  refine r_iload_n (n := 2) (i := 2) 0 rfl rfl dJ7_fill_53178_5 ?_
  refine r_iload_n (n := 3) (i := 3) 1 rfl rfl dJ7_fill_53178_6 ?_
  refine r_icmp_ge (tgt := 20) (by decide) dJ7_fill_53178_7 (fun _ => ?_) (fun h9 => absurd (show (nI 6) ≤ 6 by decide) h9)
  refine r_return rfl dJ7_fill_53178_20 ?_
  refine ⟨?_, ?_⟩ <;> first | rfl | (simp []; done)
set_option maxRecDepth 4000 in
theorem kX2_init {O : bO} {d : Nat} {f : bF} {n s : Nat} {m : Nat} {pm : Int32} {b : Int32} {ft : Int32} {ks : Nat → Int32} {vs : Nat → Int32} {q : Nat} (h0 : f q = some (.inr (2, [.null, .null, .int 0]))) (h1 : f 33 = some (.inr (3, [.ref 34, .ref 36, .ref 37, .int (nI m), .int pm, .int b, .int ft]))) (h2 : f 36 = some (.inl (0, 60, .inl ks))) (h3 : f 37 = some (.inl (0, 60, .inl vs))) (e0 : m ≤ 60) (e1 : 1000 ≤ q) (e2 : f (q + 1) = none) (e3 : f (q + 2) = none) (hd : 2 ≤ d) : bMt O mX2_init d [.ref q, .ref 33] (f, n, s) (.inl none) (bU (bU (bU f (q + 1) (.inl (0, m, .inl (cpA 60 m ks)))) (q + 2) (.inl (0, m, .inl (cpA 60 m vs)))) q (.inr (2, [.ref (q + 1), .ref (q + 2), .int b])), n + 1 + 1, s + m + m) := by
  refine bMt_of (bCall_of (by decide) rfl (Nat.le_of_ble_eq_true rfl) ?_)
  show bV O _ d 0 [(0, .ref q), (1, .ref 33)] [] (f, n, s) _
  refine r_aload_n (n := 0) (i := 0) 0 rfl rfl dX2_init_0 ?_
  refine r_objInit (by omega) loX2_1 imObj cdObj (Nat.le_of_ble_eq_true rfl) dX2_init_1 ?_
  refine r_aload_n (n := 1) (i := 1) 1 rfl rfl dX2_init_4 ?_
  refine p_get (fs := [.ref 34, .ref 36, .ref 37, .int (nI m), .int pm, .int b, .int ft]) flX2_7 h1 rfl dX2_init_5 ?_
  refine r_if_lt (tgt := 18) (by decide) dX2_init_8 (fun h9 => absurd h9 (fun h7 => absurd ((nI_ltI (a := m) (b := 0) (by omega) (by omega)).mp h7) (by omega))) (fun _ => ?_)
  refine r_aload_n (n := 1) (i := 1) 1 rfl rfl dX2_init_11 ?_
  refine p_get (fs := [.ref 34, .ref 36, .ref 37, .int (nI m), .int pm, .int b, .int ft]) flX2_7 h1 rfl dX2_init_12 ?_
  refine r_goto (tgt := 19) (by decide) dX2_init_15 ?_
  refine r_istore_n (n := 2) (i := 2) (L' := [(2, .int (nI m)), (0, .ref q), (1, .ref 33)]) rfl dX2_init_19 (by decide) rfl ?_
  refine r_aload_n (n := 0) (i := 0) 1 rfl rfl dX2_init_20 ?_
  refine r_aload_n (n := 1) (i := 1) 2 rfl rfl dX2_init_21 ?_
  refine p_get (fs := [.ref 34, .ref 36, .ref 37, .int (nI m), .int pm, .int b, .int ft]) flX2_13 h1 rfl dX2_init_22 ?_
  refine r_iload_n (n := 2) (i := 2) 0 rfl rfl dX2_init_25 ?_
  refine p_callS (As := [.ref 36, .int (nI m)]) (rest := [.ref q]) (kJ7_copyOf_59c91 (O := O) (d := 1) (f := f) (n := n) (s := s) (g := ks) (n0 := 60) (m := m) (r0 := 36) (r := q + 1) h2 (by first | assumption | omega | decide) (by omega) (by omega) (by exact e2) (by omega) (Nat.le_refl _)).call rfl lkX2_17 smJ7_copyOf_59c91 rfl rfl (by omega) (Nat.le_of_ble_eq_true rfl) dX2_init_26 (fun v9 G9 h9 => ?_) (fun q9 G9 h9 => (by cases h9.1))
  obtain ⟨h8, rfl⟩ := h9; cases h8
  show bV O _ d 29 [(2, .int (nI m)), (0, .ref q), (1, .ref 33)] [.ref (q + 1), .ref q] (bU f (q + 1) (.inl (0, m, .inl (cpA 60 m ks))), n + 1, s + m) _
  refine p_putF (fs := [.null, .null, .int 0]) (fs' := [.ref (q + 1), .null, .int 0]) fdX2_23 rfl (by exact ((bU_n (by omega)).trans (h0))) (Nat.le_of_ble_eq_true rfl) (bNf_a _ _) rfl dX2_init_29 ?_
  refine r_aload_n (n := 0) (i := 0) 1 rfl rfl dX2_init_32 ?_
  refine r_aload_n (n := 1) (i := 1) 2 rfl rfl dX2_init_33 ?_
  refine p_get (fs := [.ref 34, .ref 36, .ref 37, .int (nI m), .int pm, .int b, .int ft]) flX2_26 (by exact ((bU_n (by omega)).trans (((bU_n (by omega)).trans (h1))))) rfl dX2_init_34 ?_
  refine r_iload_n (n := 2) (i := 2) 0 rfl rfl dX2_init_37 ?_
  refine p_callS (As := [.ref 37, .int (nI m)]) (rest := [.ref q]) (kJ7_copyOf_59c91 (O := O) (d := 1) (f := bU (bU f (q + 1) (.inl (0, m, .inl (cpA 60 m ks)))) q (.inr (2, [.ref (q + 1), .null, .int 0]))) (n := n + 1) (s := s + m) (g := vs) (n0 := 60) (m := m) (r0 := 37) (r := q + 2) (by exact ((bU_n (by omega)).trans (((bU_n (by omega)).trans (h3))))) (by first | assumption | omega | decide) (by first | assumption | omega | decide) (by omega) (by exact (bU_n (by omega)).trans ((bU_n (by omega)).trans e3)) (by omega) (Nat.le_refl _)).call rfl lkX2_17 smJ7_copyOf_59c91 rfl rfl (by omega) (Nat.le_of_ble_eq_true rfl) dX2_init_38 (fun v9 G9 h9 => ?_) (fun q9 G9 h9 => (by cases h9.1))
  obtain ⟨h8, rfl⟩ := h9; cases h8
  show bV O _ d 41 [(2, .int (nI m)), (0, .ref q), (1, .ref 33)] [.ref (q + 2), .ref q] (bU (bU (bU f (q + 1) (.inl (0, m, .inl (cpA 60 m ks)))) q (.inr (2, [.ref (q + 1), .null, .int 0]))) (q + 2) (.inl (0, m, .inl (cpA 60 m vs))), (n + 1) + 1, (s + m) + m) _
  refine p_putF (fs := [.ref (q + 1), .null, .int 0]) (fs' := [.ref (q + 1), .ref (q + 2), .int 0]) fdX2_29 rfl (by exact ((bU_n (by omega)).trans (bU_s _ _ _))) (Nat.le_of_ble_eq_true rfl) (bNf_a _ _) rfl dX2_init_41 ?_
  refine bV_h (f2 := bU (bU (bU f (q + 1) (.inl (0, m, .inl (cpA 60 m ks)))) q (.inr (2, [.ref (q + 1), .ref (q + 2), .int 0]))) (q + 2) (.inl (0, m, .inl (cpA 60 m vs)))) (((bU_c (by omega)).trans (congrArg (fun z => bU z (q + 2) (.inl (0, m, .inl (cpA 60 m vs)))) (bU_u _ _ _ _)))) ?_
  refine r_aload_n (n := 0) (i := 0) 1 rfl rfl dX2_init_44 ?_
  refine r_aload_n (n := 1) (i := 1) 2 rfl rfl dX2_init_45 ?_
  refine p_get (fs := [.ref 34, .ref 36, .ref 37, .int (nI m), .int pm, .int b, .int ft]) flX2_30 (by exact ((bU_n (by omega)).trans (((bU_n (by omega)).trans (((bU_n (by omega)).trans (h1))))))) rfl dX2_init_46 ?_
  refine p_putF (fs := [.ref (q + 1), .ref (q + 2), .int 0]) (fs' := [.ref (q + 1), .ref (q + 2), .int b]) fdX2_33 rfl (by exact ((bU_n (by omega)).trans (bU_s _ _ _))) (Nat.le_of_ble_eq_true rfl) (bNf_i _) rfl dX2_init_49 ?_
  refine bV_h (f2 := bU (bU (bU f (q + 1) (.inl (0, m, .inl (cpA 60 m ks)))) q (.inr (2, [.ref (q + 1), .ref (q + 2), .int b]))) (q + 2) (.inl (0, m, .inl (cpA 60 m vs)))) (((bU_c (by omega)).trans (congrArg (fun z => bU z (q + 2) (.inl (0, m, .inl (cpA 60 m vs)))) (bU_u _ _ _ _)))) ?_
  refine r_return rfl dX2_init_52 ?_
  refine ⟨rfl, ?_⟩
  simp only [Prod.mk.injEq, and_true]
  funext z; simp only [bU]; repeat (first | rfl | omega | split)
set_option maxRecDepth 4000 in
theorem kX0_init {O : bO} {d : Nat} {f : bF} {n s : Nat} {q : Nat} {do_ : Int32} {ke : Int32} {da : Int32} {r : Nat} {ip : Nat → Int32} (h0 : f q = some (.inr (0, [.int 0, .int 0, .int 0, .null, .int 0, .int 0, .int 0, .int 0, .int 0, .int 0, .int 0]))) (h1 : f r = some (.inl (0, 6, .inl ip))) (e0 : 1000 ≤ q) (e1 : f (q + 1) = none) (e2 : r ≠ q) (e3 : r ≠ q + 1) (hd : 2 ≤ d) : bMt O mX0_init d [.ref q, .int do_, .int ke, .int da, .ref r] (f, n, s) (.inl none) (bU (bU f (q + 1) (.inl (0, 6, .inl (cpA 6 6 ip)))) q (.inr (0, [.int do_, .int ke, .int da, .ref (q + 1), .int (-2), .int (-2), .int (-2), .int (-2147483648), .int (-2147483648), .int (-2147483648), .int (-2147483648)])), n + 1, s + 6) := by
  refine bMt_of (bCall_of (by decide) rfl (Nat.le_of_ble_eq_true rfl) ?_)
  show bV O _ d 0 [(0, .ref q), (1, .int do_), (2, .int ke), (3, .int da), (4, .ref r)] [] (f, n, s) _
  refine r_aload_n (n := 0) (i := 0) 0 rfl rfl dX0_init_0 ?_
  refine r_objInit (by omega) loX0_3 imObj cdObj (Nat.le_of_ble_eq_true rfl) dX0_init_1 ?_
  refine r_aload_n (n := 0) (i := 0) 0 rfl rfl dX0_init_4 ?_
  refine r_bipush (v := (-2)) (by decide) dX0_init_5 ?_
  refine p_put (fs := [.int 0, .int 0, .int 0, .null, .int 0, .int 0, .int 0, .int 0, .int 0, .int 0, .int 0]) (fs' := [.int 0, .int 0, .int 0, .null, .int (-2), .int 0, .int 0, .int 0, .int 0, .int 0, .int 0]) flX0_9 h0 (Nat.le_of_ble_eq_true rfl) (bNf_i _) rfl dX0_init_7 ?_
  refine r_aload_n (n := 0) (i := 0) 0 rfl rfl dX0_init_10 ?_
  refine r_bipush (v := (-2)) (by decide) dX0_init_11 ?_
  refine p_put (fs := [.int 0, .int 0, .int 0, .null, .int (-2), .int 0, .int 0, .int 0, .int 0, .int 0, .int 0]) (fs' := [.int 0, .int 0, .int 0, .null, .int (-2), .int (-2), .int 0, .int 0, .int 0, .int 0, .int 0]) flX0_15 (by exact bU_s _ _ _) (Nat.le_of_ble_eq_true rfl) (bNf_i _) rfl dX0_init_13 ?_
  refine bV_h (f2 := bU f q (.inr (0, [.int 0, .int 0, .int 0, .null, .int (-2), .int (-2), .int 0, .int 0, .int 0, .int 0, .int 0]))) (bU_u _ _ _ _) ?_
  refine r_aload_n (n := 0) (i := 0) 0 rfl rfl dX0_init_16 ?_
  refine r_bipush (v := (-2)) (by decide) dX0_init_17 ?_
  refine p_put (fs := [.int 0, .int 0, .int 0, .null, .int (-2), .int (-2), .int 0, .int 0, .int 0, .int 0, .int 0]) (fs' := [.int 0, .int 0, .int 0, .null, .int (-2), .int (-2), .int (-2), .int 0, .int 0, .int 0, .int 0]) flX0_18 (by exact bU_s _ _ _) (Nat.le_of_ble_eq_true rfl) (bNf_i _) rfl dX0_init_19 ?_
  refine bV_h (f2 := bU f q (.inr (0, [.int 0, .int 0, .int 0, .null, .int (-2), .int (-2), .int (-2), .int 0, .int 0, .int 0, .int 0]))) (bU_u _ _ _ _) ?_
  refine r_aload_n (n := 0) (i := 0) 0 rfl rfl dX0_init_22 ?_
  refine r_ldc ckX0_21 dX0_init_23 ?_
  refine p_put (fs := [.int 0, .int 0, .int 0, .null, .int (-2), .int (-2), .int (-2), .int 0, .int 0, .int 0, .int 0]) (fs' := [.int 0, .int 0, .int 0, .null, .int (-2), .int (-2), .int (-2), .int (-2147483648), .int 0, .int 0, .int 0]) flX0_22 (by exact bU_s _ _ _) (Nat.le_of_ble_eq_true rfl) (bNf_i _) rfl dX0_init_25 ?_
  refine bV_h (f2 := bU f q (.inr (0, [.int 0, .int 0, .int 0, .null, .int (-2), .int (-2), .int (-2), .int (-2147483648), .int 0, .int 0, .int 0]))) (bU_u _ _ _ _) ?_
  refine r_aload_n (n := 0) (i := 0) 0 rfl rfl dX0_init_28 ?_
  refine r_ldc ckX0_21 dX0_init_29 ?_
  refine p_put (fs := [.int 0, .int 0, .int 0, .null, .int (-2), .int (-2), .int (-2), .int (-2147483648), .int 0, .int 0, .int 0]) (fs' := [.int 0, .int 0, .int 0, .null, .int (-2), .int (-2), .int (-2), .int (-2147483648), .int (-2147483648), .int 0, .int 0]) flX0_25 (by exact bU_s _ _ _) (Nat.le_of_ble_eq_true rfl) (bNf_i _) rfl dX0_init_31 ?_
  refine bV_h (f2 := bU f q (.inr (0, [.int 0, .int 0, .int 0, .null, .int (-2), .int (-2), .int (-2), .int (-2147483648), .int (-2147483648), .int 0, .int 0]))) (bU_u _ _ _ _) ?_
  refine r_aload_n (n := 0) (i := 0) 0 rfl rfl dX0_init_34 ?_
  refine r_ldc ckX0_21 dX0_init_35 ?_
  refine p_put (fs := [.int 0, .int 0, .int 0, .null, .int (-2), .int (-2), .int (-2), .int (-2147483648), .int (-2147483648), .int 0, .int 0]) (fs' := [.int 0, .int 0, .int 0, .null, .int (-2), .int (-2), .int (-2), .int (-2147483648), .int (-2147483648), .int (-2147483648), .int 0]) flX0_28 (by exact bU_s _ _ _) (Nat.le_of_ble_eq_true rfl) (bNf_i _) rfl dX0_init_37 ?_
  refine bV_h (f2 := bU f q (.inr (0, [.int 0, .int 0, .int 0, .null, .int (-2), .int (-2), .int (-2), .int (-2147483648), .int (-2147483648), .int (-2147483648), .int 0]))) (bU_u _ _ _ _) ?_
  refine r_aload_n (n := 0) (i := 0) 0 rfl rfl dX0_init_40 ?_
  refine r_ldc ckX0_21 dX0_init_41 ?_
  refine p_put (fs := [.int 0, .int 0, .int 0, .null, .int (-2), .int (-2), .int (-2), .int (-2147483648), .int (-2147483648), .int (-2147483648), .int 0]) (fs' := [.int 0, .int 0, .int 0, .null, .int (-2), .int (-2), .int (-2), .int (-2147483648), .int (-2147483648), .int (-2147483648), .int (-2147483648)]) flX0_31 (by exact bU_s _ _ _) (Nat.le_of_ble_eq_true rfl) (bNf_i _) rfl dX0_init_43 ?_
  refine bV_h (f2 := bU f q (.inr (0, [.int 0, .int 0, .int 0, .null, .int (-2), .int (-2), .int (-2), .int (-2147483648), .int (-2147483648), .int (-2147483648), .int (-2147483648)]))) (bU_u _ _ _ _) ?_
  refine r_aload_n (n := 0) (i := 0) 0 rfl rfl dX0_init_46 ?_
  refine r_iload_n (n := 1) (i := 1) 1 rfl rfl dX0_init_47 ?_
  refine p_putF (fs := [.int 0, .int 0, .int 0, .null, .int (-2), .int (-2), .int (-2), .int (-2147483648), .int (-2147483648), .int (-2147483648), .int (-2147483648)]) (fs' := [.int do_, .int 0, .int 0, .null, .int (-2), .int (-2), .int (-2), .int (-2147483648), .int (-2147483648), .int (-2147483648), .int (-2147483648)]) fdX0_34 rfl (by exact bU_s _ _ _) (Nat.le_of_ble_eq_true rfl) (bNf_i _) rfl dX0_init_48 ?_
  refine bV_h (f2 := bU f q (.inr (0, [.int do_, .int 0, .int 0, .null, .int (-2), .int (-2), .int (-2), .int (-2147483648), .int (-2147483648), .int (-2147483648), .int (-2147483648)]))) (bU_u _ _ _ _) ?_
  refine r_aload_n (n := 0) (i := 0) 0 rfl rfl dX0_init_51 ?_
  refine r_iload_n (n := 2) (i := 2) 2 rfl rfl dX0_init_52 ?_
  refine p_putF (fs := [.int do_, .int 0, .int 0, .null, .int (-2), .int (-2), .int (-2), .int (-2147483648), .int (-2147483648), .int (-2147483648), .int (-2147483648)]) (fs' := [.int do_, .int ke, .int 0, .null, .int (-2), .int (-2), .int (-2), .int (-2147483648), .int (-2147483648), .int (-2147483648), .int (-2147483648)]) fdX0_37 rfl (by exact bU_s _ _ _) (Nat.le_of_ble_eq_true rfl) (bNf_i _) rfl dX0_init_53 ?_
  refine bV_h (f2 := bU f q (.inr (0, [.int do_, .int ke, .int 0, .null, .int (-2), .int (-2), .int (-2), .int (-2147483648), .int (-2147483648), .int (-2147483648), .int (-2147483648)]))) (bU_u _ _ _ _) ?_
  refine r_aload_n (n := 0) (i := 0) 0 rfl rfl dX0_init_56 ?_
  refine r_iload_n (n := 3) (i := 3) 3 rfl rfl dX0_init_57 ?_
  refine p_putF (fs := [.int do_, .int ke, .int 0, .null, .int (-2), .int (-2), .int (-2), .int (-2147483648), .int (-2147483648), .int (-2147483648), .int (-2147483648)]) (fs' := [.int do_, .int ke, .int da, .null, .int (-2), .int (-2), .int (-2), .int (-2147483648), .int (-2147483648), .int (-2147483648), .int (-2147483648)]) fdX0_40 rfl (by exact bU_s _ _ _) (Nat.le_of_ble_eq_true rfl) (bNf_i _) rfl dX0_init_58 ?_
  refine bV_h (f2 := bU f q (.inr (0, [.int do_, .int ke, .int da, .null, .int (-2), .int (-2), .int (-2), .int (-2147483648), .int (-2147483648), .int (-2147483648), .int (-2147483648)]))) (bU_u _ _ _ _) ?_
  refine r_aload_n (n := 0) (i := 0) 0 rfl rfl dX0_init_61 ?_
  refine r_aload (i := 4) 4 rfl dX0_init_62 ?_
  refine r_bipush (v := 6) (by decide) dX0_init_64 ?_
  refine p_callS (As := [.ref r, .int 6]) (rest := [.ref q]) (kJ7_copyOf_59c91 (O := O) (d := 1) (f := bU f q (.inr (0, [.int do_, .int ke, .int da, .null, .int (-2), .int (-2), .int (-2), .int (-2147483648), .int (-2147483648), .int (-2147483648), .int (-2147483648)]))) (n := n) (s := s) (g := ip) (n0 := 6) (m := 6) (r0 := r) (r := q + 1) (by exact ((bU_n (by omega)).trans (h1))) (by first | assumption | omega | decide) (by first | assumption | omega | decide) (by first | assumption | omega | decide) (by exact (bU_n (by omega)).trans e1) (by first | assumption | omega | decide) (Nat.le_refl _)).call rfl lkX0_43 smJ7_copyOf_59c91 rfl rfl (by omega) (Nat.le_of_ble_eq_true rfl) dX0_init_66 (fun v9 G9 h9 => ?_) (fun q9 G9 h9 => (by cases h9.1))
  obtain ⟨h8, rfl⟩ := h9; cases h8
  show bV O _ d 69 [(0, .ref q), (1, .int do_), (2, .int ke), (3, .int da), (4, .ref r)] [.ref (q + 1), .ref q] (bU (bU f q (.inr (0, [.int do_, .int ke, .int da, .null, .int (-2), .int (-2), .int (-2), .int (-2147483648), .int (-2147483648), .int (-2147483648), .int (-2147483648)]))) (q + 1) (.inl (0, 6, .inl (cpA 6 6 ip))), n + 1, s + 6) _
  refine p_putF (fs := [.int do_, .int ke, .int da, .null, .int (-2), .int (-2), .int (-2), .int (-2147483648), .int (-2147483648), .int (-2147483648), .int (-2147483648)]) (fs' := [.int do_, .int ke, .int da, .ref (q + 1), .int (-2), .int (-2), .int (-2), .int (-2147483648), .int (-2147483648), .int (-2147483648), .int (-2147483648)]) fdX0_49 rfl (by exact ((bU_n (by omega)).trans (bU_s _ _ _))) (Nat.le_of_ble_eq_true rfl) (bNf_a _ _) rfl dX0_init_69 ?_
  refine bV_h (f2 := bU (bU f q (.inr (0, [.int do_, .int ke, .int da, .ref (q + 1), .int (-2), .int (-2), .int (-2), .int (-2147483648), .int (-2147483648), .int (-2147483648), .int (-2147483648)]))) (q + 1) (.inl (0, 6, .inl (cpA 6 6 ip)))) (((bU_c (by omega)).trans (congrArg (fun z => bU z (q + 1) (.inl (0, 6, .inl (cpA 6 6 ip)))) (bU_u _ _ _ _)))) ?_
  refine r_return rfl dX0_init_72 ?_
  refine ⟨rfl, ?_⟩
  simp only [Prod.mk.injEq, and_true]
  funext z; simp only [bU]; repeat (first | rfl | omega | split)
set_option maxRecDepth 4000 in
theorem kX0_byChampion {O : bO} {d : Nat} {f : bF} {n s : Nat} {q : Nat} {qi : Nat} {do_ : Int32} {ke : Int32} {da : Int32} {gv : Int32} {ch : Int32} {rv : Int32} {gn : Int32} {ct : Int32} {rt : Int32} {tr : Int32} {m : Int32} {t : Int32} (h0 : f q = some (.inr (0, [.int do_, .int ke, .int da, .ref qi, .int gv, .int ch, .int rv, .int gn, .int ct, .int rt, .int tr])))  (hd : 0 ≤ d) : bMt O mX0_byChampion d [.ref q, .int m, .int t] (f, n, s) (.inl none) (bU f q (.inr (0, [.int do_, .int ke, .int da, .ref qi, .int m, .int m, .int rv, .int t, .int t, .int rt, .int tr])), n, s) := by
  refine bMt_of (bCall_of (by decide) rfl (Nat.le_of_ble_eq_true rfl) ?_)
  show bV O _ d 0 [(0, .ref q), (1, .int m), (2, .int t)] [] (f, n, s) _
  refine r_aload_n (n := 0) (i := 0) 0 rfl rfl dX0_byChampion_0 ?_
  refine r_iload_n (n := 1) (i := 1) 1 rfl rfl dX0_byChampion_1 ?_
  refine p_put (fs := [.int do_, .int ke, .int da, .ref qi, .int gv, .int ch, .int rv, .int gn, .int ct, .int rt, .int tr]) (fs' := [.int do_, .int ke, .int da, .ref qi, .int gv, .int m, .int rv, .int gn, .int ct, .int rt, .int tr]) flX0_15 h0 (Nat.le_of_ble_eq_true rfl) (bNf_i _) rfl dX0_byChampion_2 ?_
  refine r_aload_n (n := 0) (i := 0) 0 rfl rfl dX0_byChampion_5 ?_
  refine r_iload_n (n := 2) (i := 2) 2 rfl rfl dX0_byChampion_6 ?_
  refine p_put (fs := [.int do_, .int ke, .int da, .ref qi, .int gv, .int m, .int rv, .int gn, .int ct, .int rt, .int tr]) (fs' := [.int do_, .int ke, .int da, .ref qi, .int gv, .int m, .int rv, .int gn, .int t, .int rt, .int tr]) flX0_25 (by exact bU_s _ _ _) (Nat.le_of_ble_eq_true rfl) (bNf_i _) rfl dX0_byChampion_7 ?_
  refine bV_h (f2 := bU f q (.inr (0, [.int do_, .int ke, .int da, .ref qi, .int gv, .int m, .int rv, .int gn, .int t, .int rt, .int tr]))) (bU_u _ _ _ _) ?_
  refine r_aload_n (n := 0) (i := 0) 0 rfl rfl dX0_byChampion_10 ?_
  refine r_iload_n (n := 1) (i := 1) 1 rfl rfl dX0_byChampion_11 ?_
  refine p_put (fs := [.int do_, .int ke, .int da, .ref qi, .int gv, .int m, .int rv, .int gn, .int t, .int rt, .int tr]) (fs' := [.int do_, .int ke, .int da, .ref qi, .int m, .int m, .int rv, .int gn, .int t, .int rt, .int tr]) flX0_9 (by exact bU_s _ _ _) (Nat.le_of_ble_eq_true rfl) (bNf_i _) rfl dX0_byChampion_12 ?_
  refine bV_h (f2 := bU f q (.inr (0, [.int do_, .int ke, .int da, .ref qi, .int m, .int m, .int rv, .int gn, .int t, .int rt, .int tr]))) (bU_u _ _ _ _) ?_
  refine r_aload_n (n := 0) (i := 0) 0 rfl rfl dX0_byChampion_15 ?_
  refine r_iload_n (n := 2) (i := 2) 2 rfl rfl dX0_byChampion_16 ?_
  refine p_put (fs := [.int do_, .int ke, .int da, .ref qi, .int m, .int m, .int rv, .int gn, .int t, .int rt, .int tr]) (fs' := [.int do_, .int ke, .int da, .ref qi, .int m, .int m, .int rv, .int t, .int t, .int rt, .int tr]) flX0_22 (by exact bU_s _ _ _) (Nat.le_of_ble_eq_true rfl) (bNf_i _) rfl dX0_byChampion_17 ?_
  refine bV_h (f2 := bU f q (.inr (0, [.int do_, .int ke, .int da, .ref qi, .int m, .int m, .int rv, .int t, .int t, .int rt, .int tr]))) (bU_u _ _ _ _) ?_
  refine r_return rfl dX0_byChampion_20 ?_
  refine ⟨?_, ?_⟩ <;> first | rfl | (simp []; done)
set_option maxRecDepth 4000 in
theorem kX0_byRival {O : bO} {d : Nat} {f : bF} {n s : Nat} {q : Nat} {qi : Nat} {do_ : Int32} {ke : Int32} {da : Int32} {gv : Int32} {ch : Int32} {rv : Int32} {gn : Int32} {ct : Int32} {rt : Int32} {tr : Int32} {m : Int32} {t : Int32} {z : Int32} (h0 : f q = some (.inr (0, [.int do_, .int ke, .int da, .ref qi, .int gv, .int ch, .int rv, .int gn, .int ct, .int rt, .int tr])))  (hd : 0 ≤ d) : bMt O mX0_byRival d [.ref q, .int m, .int t, .int z] (f, n, s) (.inl none) (bU f q (.inr (0, [.int do_, .int ke, .int da, .ref qi, .int (if z = 0 then gv else m), .int ch, .int m, .int (if z = 0 then gn else t), .int ct, .int t, .int tr])), n, s) := by
  refine bMt_of (bCall_of (by decide) rfl (Nat.le_of_ble_eq_true rfl) ?_)
  show bV O _ d 0 [(0, .ref q), (1, .int m), (2, .int t), (3, .int z)] [] (f, n, s) _
  refine r_aload_n (n := 0) (i := 0) 0 rfl rfl dX0_byRival_0 ?_
  refine r_iload_n (n := 1) (i := 1) 1 rfl rfl dX0_byRival_1 ?_
  refine p_put (fs := [.int do_, .int ke, .int da, .ref qi, .int gv, .int ch, .int rv, .int gn, .int ct, .int rt, .int tr]) (fs' := [.int do_, .int ke, .int da, .ref qi, .int gv, .int ch, .int m, .int gn, .int ct, .int rt, .int tr]) flX0_18 h0 (Nat.le_of_ble_eq_true rfl) (bNf_i _) rfl dX0_byRival_2 ?_
  refine r_aload_n (n := 0) (i := 0) 0 rfl rfl dX0_byRival_5 ?_
  refine r_iload_n (n := 2) (i := 2) 2 rfl rfl dX0_byRival_6 ?_
  refine p_put (fs := [.int do_, .int ke, .int da, .ref qi, .int gv, .int ch, .int m, .int gn, .int ct, .int rt, .int tr]) (fs' := [.int do_, .int ke, .int da, .ref qi, .int gv, .int ch, .int m, .int gn, .int ct, .int t, .int tr]) flX0_28 (by exact bU_s _ _ _) (Nat.le_of_ble_eq_true rfl) (bNf_i _) rfl dX0_byRival_7 ?_
  refine bV_h (f2 := bU f q (.inr (0, [.int do_, .int ke, .int da, .ref qi, .int gv, .int ch, .int m, .int gn, .int ct, .int t, .int tr]))) (bU_u _ _ _ _) ?_
  refine r_iload_n (n := 3) (i := 3) 3 rfl rfl dX0_byRival_10 ?_
  refine r_if_eq (tgt := 24) (by decide) dX0_byRival_11 (fun c11 => ?_) (fun c11 => ?_)
  · refine r_return rfl dX0_byRival_24 ?_
    refine ⟨?_, ?_⟩ <;> first | rfl | (simp [c11]; done)
  · refine r_aload_n (n := 0) (i := 0) 0 rfl rfl dX0_byRival_14 ?_
    refine r_iload_n (n := 1) (i := 1) 1 rfl rfl dX0_byRival_15 ?_
    refine p_put (fs := [.int do_, .int ke, .int da, .ref qi, .int gv, .int ch, .int m, .int gn, .int ct, .int t, .int tr]) (fs' := [.int do_, .int ke, .int da, .ref qi, .int m, .int ch, .int m, .int gn, .int ct, .int t, .int tr]) flX0_9 (by exact bU_s _ _ _) (Nat.le_of_ble_eq_true rfl) (bNf_i _) rfl dX0_byRival_16 ?_
    refine bV_h (f2 := bU f q (.inr (0, [.int do_, .int ke, .int da, .ref qi, .int m, .int ch, .int m, .int gn, .int ct, .int t, .int tr]))) (bU_u _ _ _ _) ?_
    refine r_aload_n (n := 0) (i := 0) 0 rfl rfl dX0_byRival_19 ?_
    refine r_iload_n (n := 2) (i := 2) 2 rfl rfl dX0_byRival_20 ?_
    refine p_put (fs := [.int do_, .int ke, .int da, .ref qi, .int m, .int ch, .int m, .int gn, .int ct, .int t, .int tr]) (fs' := [.int do_, .int ke, .int da, .ref qi, .int m, .int ch, .int m, .int t, .int ct, .int t, .int tr]) flX0_22 (by exact bU_s _ _ _) (Nat.le_of_ble_eq_true rfl) (bNf_i _) rfl dX0_byRival_21 ?_
    refine bV_h (f2 := bU f q (.inr (0, [.int do_, .int ke, .int da, .ref qi, .int m, .int ch, .int m, .int t, .int ct, .int t, .int tr]))) (bU_u _ _ _ _) ?_
    refine r_return rfl dX0_byRival_24 ?_
    refine ⟨?_, ?_⟩ <;> first | rfl | (simp [c11]; done)
set_option maxRecDepth 4000 in
theorem kX4_begin {O : bO} {d : Nat} {f : bF} {n s : Nat} {q : Nat} {bg : Int32} {tk : Int32} {al : Int32} {wi : Int32} {lo : Int32} {wt : Int32} (h0 : f q = some (.inr (4, [.int bg, .int tk, .int al, .int wi, .int lo, .int wt])))  (hd : 0 ≤ d) : bMt O mX4_begin d [.ref q] (f, n, s) (.inl none) (bU f q (.inr (4, [.int 1, .int 0, .int 0, .int 0, .int 0, .int 0])), n, s) := by
  refine bMt_of (bCall_of (by decide) rfl (Nat.le_of_ble_eq_true rfl) ?_)
  show bV O _ d 0 [(0, .ref q)] [] (f, n, s) _
  refine r_aload_n (n := 0) (i := 0) 0 rfl rfl dX4_begin_0 ?_
  refine r_iconst (v := 1) (by decide) dX4_begin_1 ?_
  refine p_put (fs := [.int bg, .int tk, .int al, .int wi, .int lo, .int wt]) (fs' := [.int 1, .int tk, .int al, .int wi, .int lo, .int wt]) flX4_9 h0 (Nat.le_of_ble_eq_true rfl) bNf_z1 rfl dX4_begin_2 ?_
  refine r_aload_n (n := 0) (i := 0) 0 rfl rfl dX4_begin_5 ?_
  refine r_iconst (v := 0) (by decide) dX4_begin_6 ?_
  refine p_put (fs := [.int 1, .int tk, .int al, .int wi, .int lo, .int wt]) (fs' := [.int 1, .int 0, .int al, .int wi, .int lo, .int wt]) flX4_15 (by exact bU_s _ _ _) (Nat.le_of_ble_eq_true rfl) (bNf_i _) rfl dX4_begin_7 ?_
  refine bV_h (f2 := bU f q (.inr (4, [.int 1, .int 0, .int al, .int wi, .int lo, .int wt]))) (bU_u _ _ _ _) ?_
  refine r_aload_n (n := 0) (i := 0) 0 rfl rfl dX4_begin_10 ?_
  refine r_iconst (v := 0) (by decide) dX4_begin_11 ?_
  refine p_put (fs := [.int 1, .int 0, .int al, .int wi, .int lo, .int wt]) (fs' := [.int 1, .int 0, .int 0, .int wi, .int lo, .int wt]) flX4_19 (by exact bU_s _ _ _) (Nat.le_of_ble_eq_true rfl) (bNf_i _) rfl dX4_begin_12 ?_
  refine bV_h (f2 := bU f q (.inr (4, [.int 1, .int 0, .int 0, .int wi, .int lo, .int wt]))) (bU_u _ _ _ _) ?_
  refine r_aload_n (n := 0) (i := 0) 0 rfl rfl dX4_begin_15 ?_
  refine r_iconst (v := 0) (by decide) dX4_begin_16 ?_
  refine p_put (fs := [.int 1, .int 0, .int 0, .int wi, .int lo, .int wt]) (fs' := [.int 1, .int 0, .int 0, .int 0, .int lo, .int wt]) flX4_22 (by exact bU_s _ _ _) (Nat.le_of_ble_eq_true rfl) (bNf_i _) rfl dX4_begin_17 ?_
  refine bV_h (f2 := bU f q (.inr (4, [.int 1, .int 0, .int 0, .int 0, .int lo, .int wt]))) (bU_u _ _ _ _) ?_
  refine r_aload_n (n := 0) (i := 0) 0 rfl rfl dX4_begin_20 ?_
  refine r_iconst (v := 0) (by decide) dX4_begin_21 ?_
  refine p_put (fs := [.int 1, .int 0, .int 0, .int 0, .int lo, .int wt]) (fs' := [.int 1, .int 0, .int 0, .int 0, .int 0, .int wt]) flX4_25 (by exact bU_s _ _ _) (Nat.le_of_ble_eq_true rfl) (bNf_i _) rfl dX4_begin_22 ?_
  refine bV_h (f2 := bU f q (.inr (4, [.int 1, .int 0, .int 0, .int 0, .int 0, .int wt]))) (bU_u _ _ _ _) ?_
  refine r_aload_n (n := 0) (i := 0) 0 rfl rfl dX4_begin_25 ?_
  refine r_iconst (v := 0) (by decide) dX4_begin_26 ?_
  refine p_put (fs := [.int 1, .int 0, .int 0, .int 0, .int 0, .int wt]) (fs' := [.int 1, .int 0, .int 0, .int 0, .int 0, .int 0]) flX4_28 (by exact bU_s _ _ _) (Nat.le_of_ble_eq_true rfl) (bNf_i _) rfl dX4_begin_27 ?_
  refine bV_h (f2 := bU f q (.inr (4, [.int 1, .int 0, .int 0, .int 0, .int 0, .int 0]))) (bU_u _ _ _ _) ?_
  refine r_return rfl dX4_begin_30 ?_
  refine ⟨?_, ?_⟩ <;> first | rfl | (simp []; done)
def sFar (t c : Int32) : Int64 := lab (t.toInt64 - c.toInt64)
def sAl (ct rt al : Int32) : Int32 := if ct = rt then al + 1 else al
def sWt (tr wt : Int32) : Int32 := if tr = -2147483648 then wt else wt + 1
def sWi (tr ct rt wi : Int32) : Int32 := if tr = -2147483648 then wi else if sFar tr ct ≤ sFar tr rt then wi else wi + 1
def sLo (tr ct rt lo : Int32) : Int32 := if tr = -2147483648 then lo else if sFar tr ct ≤ sFar tr rt then (if sFar tr rt ≤ sFar tr ct then lo else lo + 1) else lo
def sSure (wi lo : Int32) : Bool := if wi - lo ≤ 0 then false else if (wi - lo) * (wi - lo) ≤ 4 * (wi + lo) then false else true
set_option maxRecDepth 4000 in
theorem kX4_take {O : bO} {d : Nat} {f : bF} {n s : Nat} {q : Nat} {bg : Int32} {tk : Int32} {al : Int32} {wi : Int32} {lo : Int32} {wt : Int32} {qi : Nat} {do_ : Int32} {ke : Int32} {da : Int32} {gv : Int32} {ch : Int32} {rv : Int32} {gn : Int32} {ct : Int32} {rt : Int32} {tr : Int32} {qa : Nat} (h0 : f q = some (.inr (4, [.int bg, .int tk, .int al, .int wi, .int lo, .int wt]))) (h1 : f qa = some (.inr (0, [.int do_, .int ke, .int da, .ref qi, .int gv, .int ch, .int rv, .int gn, .int ct, .int rt, .int tr]))) (e0 : q ≠ qa) (hd : 1 ≤ d) : bMt O mX4_take d [.ref q, .ref qa] (f, n, s) (.inl none) (bU f q (.inr (4, [.int bg, .int (tk + 1), .int (sAl ct rt al), .int (sWi tr ct rt wi), .int (sLo tr ct rt lo), .int (sWt tr wt)])), n, s) := by
  refine bMt_of (bCall_of (by decide) rfl (Nat.le_of_ble_eq_true rfl) ?_)
  show bV O _ d 0 [(0, .ref q), (1, .ref qa)] [] (f, n, s) _
  refine r_aload_n (n := 0) (i := 0) 0 rfl rfl dX4_take_0 ?_
  refine r_dup rfl dX4_take_1 ?_
  refine p_get (fs := [.int bg, .int tk, .int al, .int wi, .int lo, .int wt]) flX4_15 h0 rfl dX4_take_2 ?_
  refine r_iconst (v := 1) (by decide) dX4_take_5 ?_
  refine r_iadd dX4_take_6 ?_
  refine p_put (fs := [.int bg, .int tk, .int al, .int wi, .int lo, .int wt]) (fs' := [.int bg, .int (tk + 1), .int al, .int wi, .int lo, .int wt]) flX4_15 h0 (Nat.le_of_ble_eq_true rfl) (bNf_i _) rfl dX4_take_7 ?_
  refine r_aload_n (n := 1) (i := 1) 1 rfl rfl dX4_take_10 ?_
  refine p_get (fs := [.int do_, .int ke, .int da, .ref qi, .int gv, .int ch, .int rv, .int gn, .int ct, .int rt, .int tr]) flX4_31 (by exact ((bU_n (Ne.symm e0)).trans (h1))) rfl dX4_take_11 ?_
  refine r_aload_n (n := 1) (i := 1) 1 rfl rfl dX4_take_14 ?_
  refine p_get (fs := [.int do_, .int ke, .int da, .ref qi, .int gv, .int ch, .int rv, .int gn, .int ct, .int rt, .int tr]) flX4_36 (by exact ((bU_n (Ne.symm e0)).trans (h1))) rfl dX4_take_15 ?_
  refine r_icmp_ne (tgt := 31) (by decide) dX4_take_18 (fun c18 => ?_) (fun c18 => ?_)
  · refine r_aload_n (n := 1) (i := 1) 1 rfl rfl dX4_take_31 ?_
    refine p_get (fs := [.int do_, .int ke, .int da, .ref qi, .int gv, .int ch, .int rv, .int gn, .int ct, .int rt, .int tr]) flX4_39 (by exact ((bU_n (Ne.symm e0)).trans (h1))) rfl dX4_take_32 ?_
    refine r_ldc ckX4_42 dX4_take_35 ?_
    refine r_icmp_eq (tgt := 118) (by decide) dX4_take_37 (fun c37 => ?_) (fun c37 => ?_)
    · refine r_return rfl dX4_take_118 ?_
      refine ⟨rfl, ?_⟩
      simp only [sAl, sWt, sWi, sLo]
      try (first | simp only [if_pos c18] | simp only [if_neg c18])
      try (first | simp only [if_pos c37] | simp only [if_neg c37])
    · refine r_aload_n (n := 0) (i := 0) 0 rfl rfl dX4_take_40 ?_
      refine r_dup rfl dX4_take_41 ?_
      refine p_get (fs := [.int bg, .int (tk + 1), .int al, .int wi, .int lo, .int wt]) flX4_28 (by exact bU_s _ _ _) rfl dX4_take_42 ?_
      refine r_iconst (v := 1) (by decide) dX4_take_45 ?_
      refine r_iadd dX4_take_46 ?_
      refine p_put (fs := [.int bg, .int (tk + 1), .int al, .int wi, .int lo, .int wt]) (fs' := [.int bg, .int (tk + 1), .int al, .int wi, .int lo, .int (wt + 1)]) flX4_28 (by exact bU_s _ _ _) (Nat.le_of_ble_eq_true rfl) (bNf_i _) rfl dX4_take_47 ?_
      refine bV_h (f2 := bU f q (.inr (4, [.int bg, .int (tk + 1), .int al, .int wi, .int lo, .int (wt + 1)]))) (bU_u _ _ _ _) ?_
      refine r_aload_n (n := 1) (i := 1) 1 rfl rfl dX4_take_50 ?_
      refine p_get (fs := [.int do_, .int ke, .int da, .ref qi, .int gv, .int ch, .int rv, .int gn, .int ct, .int rt, .int tr]) flX4_39 (by exact ((bU_n (Ne.symm e0)).trans (h1))) rfl dX4_take_51 ?_
      refine r_i2l dX4_take_54 ?_
      refine r_aload_n (n := 1) (i := 1) 1 rfl rfl dX4_take_55 ?_
      refine p_get (fs := [.int do_, .int ke, .int da, .ref qi, .int gv, .int ch, .int rv, .int gn, .int ct, .int rt, .int tr]) flX4_31 (by exact ((bU_n (Ne.symm e0)).trans (h1))) rfl dX4_take_56 ?_
      refine r_i2l dX4_take_59 ?_
      refine r_lsub dX4_take_60 ?_
      refine r_mabsL (by omega) lkX4_43 (Nat.le_of_ble_eq_true rfl) dX4_take_61 ?_
      refine r_lstore_n (n := 2) (i := 2) (L' := [(2, .long (lab (tr.toInt64 - ct.toInt64))), (0, .ref q), (1, .ref qa)]) rfl dX4_take_64 (by decide) rfl ?_
      refine r_aload_n (n := 1) (i := 1) 2 rfl rfl dX4_take_65 ?_
      refine p_get (fs := [.int do_, .int ke, .int da, .ref qi, .int gv, .int ch, .int rv, .int gn, .int ct, .int rt, .int tr]) flX4_39 (by exact ((bU_n (Ne.symm e0)).trans (h1))) rfl dX4_take_66 ?_
      refine r_i2l dX4_take_69 ?_
      refine r_aload_n (n := 1) (i := 1) 2 rfl rfl dX4_take_70 ?_
      refine p_get (fs := [.int do_, .int ke, .int da, .ref qi, .int gv, .int ch, .int rv, .int gn, .int ct, .int rt, .int tr]) flX4_36 (by exact ((bU_n (Ne.symm e0)).trans (h1))) rfl dX4_take_71 ?_
      refine r_i2l dX4_take_74 ?_
      refine r_lsub dX4_take_75 ?_
      refine r_mabsL (by omega) lkX4_43 (Nat.le_of_ble_eq_true rfl) dX4_take_76 ?_
      refine r_lstore (i := 4) (L' := [(4, .long (lab (tr.toInt64 - rt.toInt64))), (2, .long (lab (tr.toInt64 - ct.toInt64))), (0, .ref q), (1, .ref qa)]) dX4_take_79 (by decide) rfl ?_
      refine r_lload (i := 4) 0 rfl dX4_take_81 ?_
      refine r_lload_n (n := 2) (i := 2) 1 rfl rfl dX4_take_83 ?_
      refine r_lcmp dX4_take_84 ?_
      refine r_if_ge (tgt := 101) (by decide) dX4_take_85 (fun c85 => ?_) (fun c85 => ?_)
      · have c85 := (lg_cmp_ge _ _).mp c85
        first | have c85 : sFar tr ct ≤ sFar tr rt := c85 | have c85 : ¬ sFar tr ct ≤ sFar tr rt := c85
        refine r_lload_n (n := 2) (i := 2) 1 rfl rfl dX4_take_101 ?_
        refine r_lload (i := 4) 0 rfl dX4_take_102 ?_
        refine r_lcmp dX4_take_104 ?_
        refine r_if_ge (tgt := 118) (by decide) dX4_take_105 (fun c105 => ?_) (fun c105 => ?_)
        · have c105 := (lg_cmp_ge _ _).mp c105
          first | have c105 : sFar tr rt ≤ sFar tr ct := c105 | have c105 : ¬ sFar tr rt ≤ sFar tr ct := c105
          refine r_return rfl dX4_take_118 ?_
          refine ⟨rfl, ?_⟩
          simp only [sAl, sWt, sWi, sLo]
          try (first | simp only [if_pos c18] | simp only [if_neg c18])
          try (first | simp only [if_pos c37] | simp only [if_neg c37])
          try (first | simp only [if_pos c85] | simp only [if_neg c85])
          try (first | simp only [if_pos c105] | simp only [if_neg c105])
        · have c105 : ¬ (lab (tr.toInt64 - rt.toInt64)) ≤ (lab (tr.toInt64 - ct.toInt64)) := fun h7 => c105 ((lg_cmp_ge _ _).mpr h7)
          first | have c105 : sFar tr rt ≤ sFar tr ct := c105 | have c105 : ¬ sFar tr rt ≤ sFar tr ct := c105
          refine r_aload_n (n := 0) (i := 0) 2 rfl rfl dX4_take_108 ?_
          refine r_dup rfl dX4_take_109 ?_
          refine p_get (fs := [.int bg, .int (tk + 1), .int al, .int wi, .int lo, .int (wt + 1)]) flX4_25 (by exact bU_s _ _ _) rfl dX4_take_110 ?_
          refine r_iconst (v := 1) (by decide) dX4_take_113 ?_
          refine r_iadd dX4_take_114 ?_
          refine p_put (fs := [.int bg, .int (tk + 1), .int al, .int wi, .int lo, .int (wt + 1)]) (fs' := [.int bg, .int (tk + 1), .int al, .int wi, .int (lo + 1), .int (wt + 1)]) flX4_25 (by exact bU_s _ _ _) (Nat.le_of_ble_eq_true rfl) (bNf_i _) rfl dX4_take_115 ?_
          refine bV_h (f2 := bU f q (.inr (4, [.int bg, .int (tk + 1), .int al, .int wi, .int (lo + 1), .int (wt + 1)]))) (bU_u _ _ _ _) ?_
          refine r_return rfl dX4_take_118 ?_
          refine ⟨rfl, ?_⟩
          simp only [sAl, sWt, sWi, sLo]
          try (first | simp only [if_pos c18] | simp only [if_neg c18])
          try (first | simp only [if_pos c37] | simp only [if_neg c37])
          try (first | simp only [if_pos c85] | simp only [if_neg c85])
          try (first | simp only [if_pos c105] | simp only [if_neg c105])
      · have c85 : ¬ (lab (tr.toInt64 - ct.toInt64)) ≤ (lab (tr.toInt64 - rt.toInt64)) := fun h7 => c85 ((lg_cmp_ge _ _).mpr h7)
        first | have c85 : sFar tr ct ≤ sFar tr rt := c85 | have c85 : ¬ sFar tr ct ≤ sFar tr rt := c85
        refine r_aload_n (n := 0) (i := 0) 2 rfl rfl dX4_take_88 ?_
        refine r_dup rfl dX4_take_89 ?_
        refine p_get (fs := [.int bg, .int (tk + 1), .int al, .int wi, .int lo, .int (wt + 1)]) flX4_22 (by exact bU_s _ _ _) rfl dX4_take_90 ?_
        refine r_iconst (v := 1) (by decide) dX4_take_93 ?_
        refine r_iadd dX4_take_94 ?_
        refine p_put (fs := [.int bg, .int (tk + 1), .int al, .int wi, .int lo, .int (wt + 1)]) (fs' := [.int bg, .int (tk + 1), .int al, .int (wi + 1), .int lo, .int (wt + 1)]) flX4_22 (by exact bU_s _ _ _) (Nat.le_of_ble_eq_true rfl) (bNf_i _) rfl dX4_take_95 ?_
        refine bV_h (f2 := bU f q (.inr (4, [.int bg, .int (tk + 1), .int al, .int (wi + 1), .int lo, .int (wt + 1)]))) (bU_u _ _ _ _) ?_
        refine r_goto (tgt := 118) (by decide) dX4_take_98 ?_
        refine r_return rfl dX4_take_118 ?_
        refine ⟨rfl, ?_⟩
        simp only [sAl, sWt, sWi, sLo]
        try (first | simp only [if_pos c18] | simp only [if_neg c18])
        try (first | simp only [if_pos c37] | simp only [if_neg c37])
        try (first | simp only [if_pos c85] | simp only [if_neg c85])
  · refine r_aload_n (n := 0) (i := 0) 0 rfl rfl dX4_take_21 ?_
    refine r_dup rfl dX4_take_22 ?_
    refine p_get (fs := [.int bg, .int (tk + 1), .int al, .int wi, .int lo, .int wt]) flX4_19 (by exact bU_s _ _ _) rfl dX4_take_23 ?_
    refine r_iconst (v := 1) (by decide) dX4_take_26 ?_
    refine r_iadd dX4_take_27 ?_
    refine p_put (fs := [.int bg, .int (tk + 1), .int al, .int wi, .int lo, .int wt]) (fs' := [.int bg, .int (tk + 1), .int (al + 1), .int wi, .int lo, .int wt]) flX4_19 (by exact bU_s _ _ _) (Nat.le_of_ble_eq_true rfl) (bNf_i _) rfl dX4_take_28 ?_
    refine bV_h (f2 := bU f q (.inr (4, [.int bg, .int (tk + 1), .int (al + 1), .int wi, .int lo, .int wt]))) (bU_u _ _ _ _) ?_
    refine r_aload_n (n := 1) (i := 1) 1 rfl rfl dX4_take_31 ?_
    refine p_get (fs := [.int do_, .int ke, .int da, .ref qi, .int gv, .int ch, .int rv, .int gn, .int ct, .int rt, .int tr]) flX4_39 (by exact ((bU_n (Ne.symm e0)).trans (h1))) rfl dX4_take_32 ?_
    refine r_ldc ckX4_42 dX4_take_35 ?_
    refine r_icmp_eq (tgt := 118) (by decide) dX4_take_37 (fun c37 => ?_) (fun c37 => ?_)
    · refine r_return rfl dX4_take_118 ?_
      refine ⟨rfl, ?_⟩
      simp only [sAl, sWt, sWi, sLo]
      try (first | simp only [if_pos c18] | simp only [if_neg c18])
      try (first | simp only [if_pos c37] | simp only [if_neg c37])
    · refine r_aload_n (n := 0) (i := 0) 0 rfl rfl dX4_take_40 ?_
      refine r_dup rfl dX4_take_41 ?_
      refine p_get (fs := [.int bg, .int (tk + 1), .int (al + 1), .int wi, .int lo, .int wt]) flX4_28 (by exact bU_s _ _ _) rfl dX4_take_42 ?_
      refine r_iconst (v := 1) (by decide) dX4_take_45 ?_
      refine r_iadd dX4_take_46 ?_
      refine p_put (fs := [.int bg, .int (tk + 1), .int (al + 1), .int wi, .int lo, .int wt]) (fs' := [.int bg, .int (tk + 1), .int (al + 1), .int wi, .int lo, .int (wt + 1)]) flX4_28 (by exact bU_s _ _ _) (Nat.le_of_ble_eq_true rfl) (bNf_i _) rfl dX4_take_47 ?_
      refine bV_h (f2 := bU f q (.inr (4, [.int bg, .int (tk + 1), .int (al + 1), .int wi, .int lo, .int (wt + 1)]))) (bU_u _ _ _ _) ?_
      refine r_aload_n (n := 1) (i := 1) 1 rfl rfl dX4_take_50 ?_
      refine p_get (fs := [.int do_, .int ke, .int da, .ref qi, .int gv, .int ch, .int rv, .int gn, .int ct, .int rt, .int tr]) flX4_39 (by exact ((bU_n (Ne.symm e0)).trans (h1))) rfl dX4_take_51 ?_
      refine r_i2l dX4_take_54 ?_
      refine r_aload_n (n := 1) (i := 1) 1 rfl rfl dX4_take_55 ?_
      refine p_get (fs := [.int do_, .int ke, .int da, .ref qi, .int gv, .int ch, .int rv, .int gn, .int ct, .int rt, .int tr]) flX4_31 (by exact ((bU_n (Ne.symm e0)).trans (h1))) rfl dX4_take_56 ?_
      refine r_i2l dX4_take_59 ?_
      refine r_lsub dX4_take_60 ?_
      refine r_mabsL (by omega) lkX4_43 (Nat.le_of_ble_eq_true rfl) dX4_take_61 ?_
      refine r_lstore_n (n := 2) (i := 2) (L' := [(2, .long (lab (tr.toInt64 - ct.toInt64))), (0, .ref q), (1, .ref qa)]) rfl dX4_take_64 (by decide) rfl ?_
      refine r_aload_n (n := 1) (i := 1) 2 rfl rfl dX4_take_65 ?_
      refine p_get (fs := [.int do_, .int ke, .int da, .ref qi, .int gv, .int ch, .int rv, .int gn, .int ct, .int rt, .int tr]) flX4_39 (by exact ((bU_n (Ne.symm e0)).trans (h1))) rfl dX4_take_66 ?_
      refine r_i2l dX4_take_69 ?_
      refine r_aload_n (n := 1) (i := 1) 2 rfl rfl dX4_take_70 ?_
      refine p_get (fs := [.int do_, .int ke, .int da, .ref qi, .int gv, .int ch, .int rv, .int gn, .int ct, .int rt, .int tr]) flX4_36 (by exact ((bU_n (Ne.symm e0)).trans (h1))) rfl dX4_take_71 ?_
      refine r_i2l dX4_take_74 ?_
      refine r_lsub dX4_take_75 ?_
      refine r_mabsL (by omega) lkX4_43 (Nat.le_of_ble_eq_true rfl) dX4_take_76 ?_
      refine r_lstore (i := 4) (L' := [(4, .long (lab (tr.toInt64 - rt.toInt64))), (2, .long (lab (tr.toInt64 - ct.toInt64))), (0, .ref q), (1, .ref qa)]) dX4_take_79 (by decide) rfl ?_
      refine r_lload (i := 4) 0 rfl dX4_take_81 ?_
      refine r_lload_n (n := 2) (i := 2) 1 rfl rfl dX4_take_83 ?_
      refine r_lcmp dX4_take_84 ?_
      refine r_if_ge (tgt := 101) (by decide) dX4_take_85 (fun c85 => ?_) (fun c85 => ?_)
      · have c85 := (lg_cmp_ge _ _).mp c85
        first | have c85 : sFar tr ct ≤ sFar tr rt := c85 | have c85 : ¬ sFar tr ct ≤ sFar tr rt := c85
        refine r_lload_n (n := 2) (i := 2) 1 rfl rfl dX4_take_101 ?_
        refine r_lload (i := 4) 0 rfl dX4_take_102 ?_
        refine r_lcmp dX4_take_104 ?_
        refine r_if_ge (tgt := 118) (by decide) dX4_take_105 (fun c105 => ?_) (fun c105 => ?_)
        · have c105 := (lg_cmp_ge _ _).mp c105
          first | have c105 : sFar tr rt ≤ sFar tr ct := c105 | have c105 : ¬ sFar tr rt ≤ sFar tr ct := c105
          refine r_return rfl dX4_take_118 ?_
          refine ⟨rfl, ?_⟩
          simp only [sAl, sWt, sWi, sLo]
          try (first | simp only [if_pos c18] | simp only [if_neg c18])
          try (first | simp only [if_pos c37] | simp only [if_neg c37])
          try (first | simp only [if_pos c85] | simp only [if_neg c85])
          try (first | simp only [if_pos c105] | simp only [if_neg c105])
        · have c105 : ¬ (lab (tr.toInt64 - rt.toInt64)) ≤ (lab (tr.toInt64 - ct.toInt64)) := fun h7 => c105 ((lg_cmp_ge _ _).mpr h7)
          first | have c105 : sFar tr rt ≤ sFar tr ct := c105 | have c105 : ¬ sFar tr rt ≤ sFar tr ct := c105
          refine r_aload_n (n := 0) (i := 0) 2 rfl rfl dX4_take_108 ?_
          refine r_dup rfl dX4_take_109 ?_
          refine p_get (fs := [.int bg, .int (tk + 1), .int (al + 1), .int wi, .int lo, .int (wt + 1)]) flX4_25 (by exact bU_s _ _ _) rfl dX4_take_110 ?_
          refine r_iconst (v := 1) (by decide) dX4_take_113 ?_
          refine r_iadd dX4_take_114 ?_
          refine p_put (fs := [.int bg, .int (tk + 1), .int (al + 1), .int wi, .int lo, .int (wt + 1)]) (fs' := [.int bg, .int (tk + 1), .int (al + 1), .int wi, .int (lo + 1), .int (wt + 1)]) flX4_25 (by exact bU_s _ _ _) (Nat.le_of_ble_eq_true rfl) (bNf_i _) rfl dX4_take_115 ?_
          refine bV_h (f2 := bU f q (.inr (4, [.int bg, .int (tk + 1), .int (al + 1), .int wi, .int (lo + 1), .int (wt + 1)]))) (bU_u _ _ _ _) ?_
          refine r_return rfl dX4_take_118 ?_
          refine ⟨rfl, ?_⟩
          simp only [sAl, sWt, sWi, sLo]
          try (first | simp only [if_pos c18] | simp only [if_neg c18])
          try (first | simp only [if_pos c37] | simp only [if_neg c37])
          try (first | simp only [if_pos c85] | simp only [if_neg c85])
          try (first | simp only [if_pos c105] | simp only [if_neg c105])
      · have c85 : ¬ (lab (tr.toInt64 - ct.toInt64)) ≤ (lab (tr.toInt64 - rt.toInt64)) := fun h7 => c85 ((lg_cmp_ge _ _).mpr h7)
        first | have c85 : sFar tr ct ≤ sFar tr rt := c85 | have c85 : ¬ sFar tr ct ≤ sFar tr rt := c85
        refine r_aload_n (n := 0) (i := 0) 2 rfl rfl dX4_take_88 ?_
        refine r_dup rfl dX4_take_89 ?_
        refine p_get (fs := [.int bg, .int (tk + 1), .int (al + 1), .int wi, .int lo, .int (wt + 1)]) flX4_22 (by exact bU_s _ _ _) rfl dX4_take_90 ?_
        refine r_iconst (v := 1) (by decide) dX4_take_93 ?_
        refine r_iadd dX4_take_94 ?_
        refine p_put (fs := [.int bg, .int (tk + 1), .int (al + 1), .int wi, .int lo, .int (wt + 1)]) (fs' := [.int bg, .int (tk + 1), .int (al + 1), .int (wi + 1), .int lo, .int (wt + 1)]) flX4_22 (by exact bU_s _ _ _) (Nat.le_of_ble_eq_true rfl) (bNf_i _) rfl dX4_take_95 ?_
        refine bV_h (f2 := bU f q (.inr (4, [.int bg, .int (tk + 1), .int (al + 1), .int (wi + 1), .int lo, .int (wt + 1)]))) (bU_u _ _ _ _) ?_
        refine r_goto (tgt := 118) (by decide) dX4_take_98 ?_
        refine r_return rfl dX4_take_118 ?_
        refine ⟨rfl, ?_⟩
        simp only [sAl, sWt, sWi, sLo]
        try (first | simp only [if_pos c18] | simp only [if_neg c18])
        try (first | simp only [if_pos c37] | simp only [if_neg c37])
        try (first | simp only [if_pos c85] | simp only [if_neg c85])
set_option maxRecDepth 4000 in
theorem kX4_isSure {O : bO} {d : Nat} {f : bF} {n s : Nat} {q : Nat} {bg : Int32} {tk : Int32} {al : Int32} {wi : Int32} {lo : Int32} {wt : Int32} (h0 : f q = some (.inr (4, [.int bg, .int tk, .int al, .int wi, .int lo, .int wt])))  (hd : 0 ≤ d) : bMt O mX4_isSure d [.ref q] (f, n, s) (.inl (some (.int (bI (sSure wi lo))))) (f, n, s) := by
  refine bMt_of (bCall_of (by decide) rfl (Nat.le_of_ble_eq_true rfl) ?_)
  show bV O _ d 0 [(0, .ref q)] [] (f, n, s) _
  refine r_aload_n (n := 0) (i := 0) 0 rfl rfl dX4_isSure_0 ?_
  refine p_get (fs := [.int bg, .int tk, .int al, .int wi, .int lo, .int wt]) flX4_22 h0 rfl dX4_isSure_1 ?_
  refine r_aload_n (n := 0) (i := 0) 0 rfl rfl dX4_isSure_4 ?_
  refine p_get (fs := [.int bg, .int tk, .int al, .int wi, .int lo, .int wt]) flX4_25 h0 rfl dX4_isSure_5 ?_
  refine r_isub dX4_isSure_8 ?_
  refine r_istore_n (n := 1) (i := 1) (L' := [(1, .int (wi - lo)), (0, .ref q)]) rfl dX4_isSure_9 (by decide) rfl ?_
  refine r_iload_n (n := 1) (i := 1) 0 rfl rfl dX4_isSure_10 ?_
  refine r_if_le (tgt := 35) (by decide) dX4_isSure_11 (fun c11 => ?_) (fun c11 => ?_)
  · refine r_iconst (v := 0) (by decide) dX4_isSure_35 ?_
    refine r_zreturn rfl (by first | decide +kernel | exact narZ _ | assumption) dX4_isSure_36 ?_
    refine ⟨?_, rfl⟩
    simp [sSure, bI, c11]
  · refine r_iload_n (n := 1) (i := 1) 0 rfl rfl dX4_isSure_14 ?_
    refine r_iload_n (n := 1) (i := 1) 0 rfl rfl dX4_isSure_15 ?_
    refine r_imul dX4_isSure_16 ?_
    refine r_iconst (v := 4) (by decide) dX4_isSure_17 ?_
    refine r_aload_n (n := 0) (i := 0) 1 rfl rfl dX4_isSure_18 ?_
    refine p_get (fs := [.int bg, .int tk, .int al, .int wi, .int lo, .int wt]) flX4_22 h0 rfl dX4_isSure_19 ?_
    refine r_aload_n (n := 0) (i := 0) 1 rfl rfl dX4_isSure_22 ?_
    refine p_get (fs := [.int bg, .int tk, .int al, .int wi, .int lo, .int wt]) flX4_25 h0 rfl dX4_isSure_23 ?_
    refine r_iadd dX4_isSure_26 ?_
    refine r_imul dX4_isSure_27 ?_
    refine r_icmp_le (tgt := 35) (by decide) dX4_isSure_28 (fun c28 => ?_) (fun c28 => ?_)
    · refine r_iconst (v := 0) (by decide) dX4_isSure_35 ?_
      refine r_zreturn rfl (by first | decide +kernel | exact narZ _ | assumption) dX4_isSure_36 ?_
      refine ⟨?_, rfl⟩
      simp [sSure, bI, c11, c28]
    · refine r_iconst (v := 1) (by decide) dX4_isSure_31 ?_
      refine r_goto (tgt := 36) (by decide) dX4_isSure_32 ?_
      refine r_zreturn rfl (by first | decide +kernel | exact narZ _ | assumption) dX4_isSure_36 ?_
      refine ⟨?_, rfl⟩
      simp [sSure, bI, c11, c28]
set_option maxRecDepth 4000 in
theorem kX1_init {O : bO} {d : Nat} {f : bF} {n s : Nat} {q : Nat} (h0 : f q = some (.inr (1, [.null, .null, .null, .null, .null, .null, .null, .int 0, .int 0, .int 0, .int 0, .int 0, .int 0, .int 0]))) (e0 : 1000 ≤ q) (e1 : f (q + 1) = none) (e2 : f (q + 2) = none) (e3 : f (q + 3) = none) (e4 : f (q + 4) = none) (e5 : f (q + 5) = none) (e6 : f (q + 6) = none) (e7 : f (q + 7) = none) (hd : 1 ≤ d) : bMt O mX1_init d [.ref q] (f, n, s) (.inl none) (bU (bU (bU (bU (bU (bU (bU (bU f (q + 1) (.inl (0, 6, .inl (fl6 (fun _ => 0) (-1000))))) (q + 2) (.inl (0, 6, .inl (fl6 (fun _ => 0) 1000)))) (q + 3) (.inl (0, 20, .inl (fun _ => 0)))) (q + 4) (.inl (0, 2001, .inl (fun _ => 0)))) (q + 5) (.inl (0, 2001, .inl (fun _ => 0)))) (q + 6) (.inl (0, 24, .inl (fun _ => 0)))) (q + 7) (.inl (0, 24, .inl (fun _ => 0)))) q (.inr (1, [.ref (q + 1), .ref (q + 2), .ref (q + 3), .ref (q + 4), .ref (q + 5), .ref (q + 6), .ref (q + 7), .int (-2), .int (-2), .int 0, .int 0, .int 0, .int 0, .int 0])), n + 7, s + 4082) := by
  refine bMt_of (bCall_of (by decide) rfl (Nat.le_of_ble_eq_true rfl) ?_)
  show bV O _ d 0 [(0, .ref q)] [] (f, n, s) _
  refine r_aload_n (n := 0) (i := 0) 0 rfl rfl dX1_init_0 ?_
  refine r_objInit (by omega) loX1_3 imObj cdObj (Nat.le_of_ble_eq_true rfl) dX1_init_1 ?_
  refine r_aload_n (n := 0) (i := 0) 0 rfl rfl dX1_init_4 ?_
  refine r_bipush (v := 6) (by decide) dX1_init_5 ?_
  refine p_newa (at9 := .int) (ty := .int) (kd := 0) (n := 6) (a0 := (6, .inl (fun _ => 0))) (q + 1) rfl rfl ac_int (fun _ => rfl) (fun _ _ _ => ⟨rfl, trivial⟩) (by decide) (by decide) (by decide) e1 (by omega) dX1_init_7 ?_
  refine p_putF (fs := [.null, .null, .null, .null, .null, .null, .null, .int 0, .int 0, .int 0, .int 0, .int 0, .int 0, .int 0]) (fs' := [.ref (q + 1), .null, .null, .null, .null, .null, .null, .int 0, .int 0, .int 0, .int 0, .int 0, .int 0, .int 0]) fdX1_9 rfl (by exact ((bU_n (by omega)).trans (h0))) (Nat.le_of_ble_eq_true rfl) (bNf_a _ _) rfl dX1_init_9 ?_
  refine r_aload_n (n := 0) (i := 0) 0 rfl rfl dX1_init_12 ?_
  refine r_bipush (v := 6) (by decide) dX1_init_13 ?_
  refine p_newa (at9 := .int) (ty := .int) (kd := 0) (n := 6) (a0 := (6, .inl (fun _ => 0))) (q + 2) rfl rfl ac_int (fun _ => rfl) (fun _ _ _ => ⟨rfl, trivial⟩) (by decide) (by decide) (by decide) (by exact ((bU_n (by omega)).trans (((bU_n (by omega)).trans (e2))))) (by omega) dX1_init_15 ?_
  refine p_putF (fs := [.ref (q + 1), .null, .null, .null, .null, .null, .null, .int 0, .int 0, .int 0, .int 0, .int 0, .int 0, .int 0]) (fs' := [.ref (q + 1), .ref (q + 2), .null, .null, .null, .null, .null, .int 0, .int 0, .int 0, .int 0, .int 0, .int 0, .int 0]) fdX1_15 rfl (by exact ((bU_n (by omega)).trans (bU_s _ _ _))) (Nat.le_of_ble_eq_true rfl) (bNf_a _ _) rfl dX1_init_17 ?_
  refine bV_h (f2 := bU (bU (bU f (q + 1) (.inl (0, 6, .inl (fun _ => 0)))) q (.inr (1, [.ref (q + 1), .ref (q + 2), .null, .null, .null, .null, .null, .int 0, .int 0, .int 0, .int 0, .int 0, .int 0, .int 0]))) (q + 2) (.inl (0, 6, .inl (fun _ => 0)))) (((bU_c (by omega)).trans (congrArg (fun z => bU z (q + 2) (.inl (0, 6, .inl (fun _ => 0)))) (bU_u _ _ _ _)))) ?_
  refine r_aload_n (n := 0) (i := 0) 0 rfl rfl dX1_init_20 ?_
  refine r_bipush (v := 20) (by decide) dX1_init_21 ?_
  refine p_newa (at9 := .int) (ty := .int) (kd := 0) (n := 20) (a0 := (20, .inl (fun _ => 0))) (q + 3) rfl rfl ac_int (fun _ => rfl) (fun _ _ _ => ⟨rfl, trivial⟩) (by decide) (by decide) (by decide) (by exact ((bU_n (by omega)).trans (((bU_n (by omega)).trans (((bU_n (by omega)).trans (e3))))))) (by omega) dX1_init_23 ?_
  refine p_putF (fs := [.ref (q + 1), .ref (q + 2), .null, .null, .null, .null, .null, .int 0, .int 0, .int 0, .int 0, .int 0, .int 0, .int 0]) (fs' := [.ref (q + 1), .ref (q + 2), .ref (q + 3), .null, .null, .null, .null, .int 0, .int 0, .int 0, .int 0, .int 0, .int 0, .int 0]) fdX1_18 rfl (by exact ((bU_n (by omega)).trans (((bU_n (by omega)).trans (bU_s _ _ _))))) (Nat.le_of_ble_eq_true rfl) (bNf_a _ _) rfl dX1_init_25 ?_
  refine bV_h (f2 := bU (bU (bU (bU f (q + 1) (.inl (0, 6, .inl (fun _ => 0)))) q (.inr (1, [.ref (q + 1), .ref (q + 2), .ref (q + 3), .null, .null, .null, .null, .int 0, .int 0, .int 0, .int 0, .int 0, .int 0, .int 0]))) (q + 2) (.inl (0, 6, .inl (fun _ => 0)))) (q + 3) (.inl (0, 20, .inl (fun _ => 0)))) (((bU_c (by omega)).trans (congrArg (fun z => bU z (q + 3) (.inl (0, 20, .inl (fun _ => 0)))) (((bU_c (by omega)).trans (congrArg (fun z => bU z (q + 2) (.inl (0, 6, .inl (fun _ => 0)))) (bU_u _ _ _ _))))))) ?_
  refine r_aload_n (n := 0) (i := 0) 0 rfl rfl dX1_init_28 ?_
  refine r_sipush (v := 2001) (by decide) dX1_init_29 ?_
  refine p_newa (at9 := .int) (ty := .int) (kd := 0) (n := 2001) (a0 := (2001, .inl (fun _ => 0))) (q + 4) rfl rfl ac_int (fun _ => rfl) (fun _ _ _ => ⟨rfl, trivial⟩) (by decide) (by decide) (by decide) (by exact ((bU_n (by omega)).trans (((bU_n (by omega)).trans (((bU_n (by omega)).trans (((bU_n (by omega)).trans (e4))))))))) (by omega) dX1_init_32 ?_
  refine p_putF (fs := [.ref (q + 1), .ref (q + 2), .ref (q + 3), .null, .null, .null, .null, .int 0, .int 0, .int 0, .int 0, .int 0, .int 0, .int 0]) (fs' := [.ref (q + 1), .ref (q + 2), .ref (q + 3), .ref (q + 4), .null, .null, .null, .int 0, .int 0, .int 0, .int 0, .int 0, .int 0, .int 0]) fdX1_21 rfl (by exact ((bU_n (by omega)).trans (((bU_n (by omega)).trans (((bU_n (by omega)).trans (bU_s _ _ _))))))) (Nat.le_of_ble_eq_true rfl) (bNf_a _ _) rfl dX1_init_34 ?_
  refine bV_h (f2 := bU (bU (bU (bU (bU f (q + 1) (.inl (0, 6, .inl (fun _ => 0)))) q (.inr (1, [.ref (q + 1), .ref (q + 2), .ref (q + 3), .ref (q + 4), .null, .null, .null, .int 0, .int 0, .int 0, .int 0, .int 0, .int 0, .int 0]))) (q + 2) (.inl (0, 6, .inl (fun _ => 0)))) (q + 3) (.inl (0, 20, .inl (fun _ => 0)))) (q + 4) (.inl (0, 2001, .inl (fun _ => 0)))) (((bU_c (by omega)).trans (congrArg (fun z => bU z (q + 4) (.inl (0, 2001, .inl (fun _ => 0)))) (((bU_c (by omega)).trans (congrArg (fun z => bU z (q + 3) (.inl (0, 20, .inl (fun _ => 0)))) (((bU_c (by omega)).trans (congrArg (fun z => bU z (q + 2) (.inl (0, 6, .inl (fun _ => 0)))) (bU_u _ _ _ _)))))))))) ?_
  refine r_aload_n (n := 0) (i := 0) 0 rfl rfl dX1_init_37 ?_
  refine r_sipush (v := 2001) (by decide) dX1_init_38 ?_
  refine p_newa (at9 := .int) (ty := .int) (kd := 0) (n := 2001) (a0 := (2001, .inl (fun _ => 0))) (q + 5) rfl rfl ac_int (fun _ => rfl) (fun _ _ _ => ⟨rfl, trivial⟩) (by decide) (by decide) (by decide) (by exact ((bU_n (by omega)).trans (((bU_n (by omega)).trans (((bU_n (by omega)).trans (((bU_n (by omega)).trans (((bU_n (by omega)).trans (e5))))))))))) (by omega) dX1_init_41 ?_
  refine p_putF (fs := [.ref (q + 1), .ref (q + 2), .ref (q + 3), .ref (q + 4), .null, .null, .null, .int 0, .int 0, .int 0, .int 0, .int 0, .int 0, .int 0]) (fs' := [.ref (q + 1), .ref (q + 2), .ref (q + 3), .ref (q + 4), .ref (q + 5), .null, .null, .int 0, .int 0, .int 0, .int 0, .int 0, .int 0, .int 0]) fdX1_24 rfl (by exact ((bU_n (by omega)).trans (((bU_n (by omega)).trans (((bU_n (by omega)).trans (((bU_n (by omega)).trans (bU_s _ _ _))))))))) (Nat.le_of_ble_eq_true rfl) (bNf_a _ _) rfl dX1_init_43 ?_
  refine bV_h (f2 := bU (bU (bU (bU (bU (bU f (q + 1) (.inl (0, 6, .inl (fun _ => 0)))) q (.inr (1, [.ref (q + 1), .ref (q + 2), .ref (q + 3), .ref (q + 4), .ref (q + 5), .null, .null, .int 0, .int 0, .int 0, .int 0, .int 0, .int 0, .int 0]))) (q + 2) (.inl (0, 6, .inl (fun _ => 0)))) (q + 3) (.inl (0, 20, .inl (fun _ => 0)))) (q + 4) (.inl (0, 2001, .inl (fun _ => 0)))) (q + 5) (.inl (0, 2001, .inl (fun _ => 0)))) (((bU_c (by omega)).trans (congrArg (fun z => bU z (q + 5) (.inl (0, 2001, .inl (fun _ => 0)))) (((bU_c (by omega)).trans (congrArg (fun z => bU z (q + 4) (.inl (0, 2001, .inl (fun _ => 0)))) (((bU_c (by omega)).trans (congrArg (fun z => bU z (q + 3) (.inl (0, 20, .inl (fun _ => 0)))) (((bU_c (by omega)).trans (congrArg (fun z => bU z (q + 2) (.inl (0, 6, .inl (fun _ => 0)))) (bU_u _ _ _ _))))))))))))) ?_
  refine r_aload_n (n := 0) (i := 0) 0 rfl rfl dX1_init_46 ?_
  refine r_bipush (v := 24) (by decide) dX1_init_47 ?_
  refine p_newa (at9 := .int) (ty := .int) (kd := 0) (n := 24) (a0 := (24, .inl (fun _ => 0))) (q + 6) rfl rfl ac_int (fun _ => rfl) (fun _ _ _ => ⟨rfl, trivial⟩) (by decide) (by decide) (by decide) (by exact ((bU_n (by omega)).trans (((bU_n (by omega)).trans (((bU_n (by omega)).trans (((bU_n (by omega)).trans (((bU_n (by omega)).trans (((bU_n (by omega)).trans (e6))))))))))))) (by omega) dX1_init_49 ?_
  refine p_putF (fs := [.ref (q + 1), .ref (q + 2), .ref (q + 3), .ref (q + 4), .ref (q + 5), .null, .null, .int 0, .int 0, .int 0, .int 0, .int 0, .int 0, .int 0]) (fs' := [.ref (q + 1), .ref (q + 2), .ref (q + 3), .ref (q + 4), .ref (q + 5), .ref (q + 6), .null, .int 0, .int 0, .int 0, .int 0, .int 0, .int 0, .int 0]) fdX1_27 rfl (by exact ((bU_n (by omega)).trans (((bU_n (by omega)).trans (((bU_n (by omega)).trans (((bU_n (by omega)).trans (((bU_n (by omega)).trans (bU_s _ _ _))))))))))) (Nat.le_of_ble_eq_true rfl) (bNf_a _ _) rfl dX1_init_51 ?_
  refine bV_h (f2 := bU (bU (bU (bU (bU (bU (bU f (q + 1) (.inl (0, 6, .inl (fun _ => 0)))) q (.inr (1, [.ref (q + 1), .ref (q + 2), .ref (q + 3), .ref (q + 4), .ref (q + 5), .ref (q + 6), .null, .int 0, .int 0, .int 0, .int 0, .int 0, .int 0, .int 0]))) (q + 2) (.inl (0, 6, .inl (fun _ => 0)))) (q + 3) (.inl (0, 20, .inl (fun _ => 0)))) (q + 4) (.inl (0, 2001, .inl (fun _ => 0)))) (q + 5) (.inl (0, 2001, .inl (fun _ => 0)))) (q + 6) (.inl (0, 24, .inl (fun _ => 0)))) (((bU_c (by omega)).trans (congrArg (fun z => bU z (q + 6) (.inl (0, 24, .inl (fun _ => 0)))) (((bU_c (by omega)).trans (congrArg (fun z => bU z (q + 5) (.inl (0, 2001, .inl (fun _ => 0)))) (((bU_c (by omega)).trans (congrArg (fun z => bU z (q + 4) (.inl (0, 2001, .inl (fun _ => 0)))) (((bU_c (by omega)).trans (congrArg (fun z => bU z (q + 3) (.inl (0, 20, .inl (fun _ => 0)))) (((bU_c (by omega)).trans (congrArg (fun z => bU z (q + 2) (.inl (0, 6, .inl (fun _ => 0)))) (bU_u _ _ _ _)))))))))))))))) ?_
  refine r_aload_n (n := 0) (i := 0) 0 rfl rfl dX1_init_54 ?_
  refine r_bipush (v := 24) (by decide) dX1_init_55 ?_
  refine p_newa (at9 := .int) (ty := .int) (kd := 0) (n := 24) (a0 := (24, .inl (fun _ => 0))) (q + 7) rfl rfl ac_int (fun _ => rfl) (fun _ _ _ => ⟨rfl, trivial⟩) (by decide) (by decide) (by decide) (by exact ((bU_n (by omega)).trans (((bU_n (by omega)).trans (((bU_n (by omega)).trans (((bU_n (by omega)).trans (((bU_n (by omega)).trans (((bU_n (by omega)).trans (((bU_n (by omega)).trans (e7))))))))))))))) (by omega) dX1_init_57 ?_
  refine p_putF (fs := [.ref (q + 1), .ref (q + 2), .ref (q + 3), .ref (q + 4), .ref (q + 5), .ref (q + 6), .null, .int 0, .int 0, .int 0, .int 0, .int 0, .int 0, .int 0]) (fs' := [.ref (q + 1), .ref (q + 2), .ref (q + 3), .ref (q + 4), .ref (q + 5), .ref (q + 6), .ref (q + 7), .int 0, .int 0, .int 0, .int 0, .int 0, .int 0, .int 0]) fdX1_30 rfl (by exact ((bU_n (by omega)).trans (((bU_n (by omega)).trans (((bU_n (by omega)).trans (((bU_n (by omega)).trans (((bU_n (by omega)).trans (((bU_n (by omega)).trans (bU_s _ _ _))))))))))))) (Nat.le_of_ble_eq_true rfl) (bNf_a _ _) rfl dX1_init_59 ?_
  refine bV_h (f2 := bU (bU (bU (bU (bU (bU (bU (bU f (q + 1) (.inl (0, 6, .inl (fun _ => 0)))) q (.inr (1, [.ref (q + 1), .ref (q + 2), .ref (q + 3), .ref (q + 4), .ref (q + 5), .ref (q + 6), .ref (q + 7), .int 0, .int 0, .int 0, .int 0, .int 0, .int 0, .int 0]))) (q + 2) (.inl (0, 6, .inl (fun _ => 0)))) (q + 3) (.inl (0, 20, .inl (fun _ => 0)))) (q + 4) (.inl (0, 2001, .inl (fun _ => 0)))) (q + 5) (.inl (0, 2001, .inl (fun _ => 0)))) (q + 6) (.inl (0, 24, .inl (fun _ => 0)))) (q + 7) (.inl (0, 24, .inl (fun _ => 0)))) (((bU_c (by omega)).trans (congrArg (fun z => bU z (q + 7) (.inl (0, 24, .inl (fun _ => 0)))) (((bU_c (by omega)).trans (congrArg (fun z => bU z (q + 6) (.inl (0, 24, .inl (fun _ => 0)))) (((bU_c (by omega)).trans (congrArg (fun z => bU z (q + 5) (.inl (0, 2001, .inl (fun _ => 0)))) (((bU_c (by omega)).trans (congrArg (fun z => bU z (q + 4) (.inl (0, 2001, .inl (fun _ => 0)))) (((bU_c (by omega)).trans (congrArg (fun z => bU z (q + 3) (.inl (0, 20, .inl (fun _ => 0)))) (((bU_c (by omega)).trans (congrArg (fun z => bU z (q + 2) (.inl (0, 6, .inl (fun _ => 0)))) (bU_u _ _ _ _))))))))))))))))))) ?_
  refine r_aload_n (n := 0) (i := 0) 0 rfl rfl dX1_init_62 ?_
  refine r_bipush (v := (-2)) (by decide) dX1_init_63 ?_
  refine p_put (fs := [.ref (q + 1), .ref (q + 2), .ref (q + 3), .ref (q + 4), .ref (q + 5), .ref (q + 6), .ref (q + 7), .int 0, .int 0, .int 0, .int 0, .int 0, .int 0, .int 0]) (fs' := [.ref (q + 1), .ref (q + 2), .ref (q + 3), .ref (q + 4), .ref (q + 5), .ref (q + 6), .ref (q + 7), .int (-2), .int 0, .int 0, .int 0, .int 0, .int 0, .int 0]) flX1_33 (by exact ((bU_n (by omega)).trans (((bU_n (by omega)).trans (((bU_n (by omega)).trans (((bU_n (by omega)).trans (((bU_n (by omega)).trans (((bU_n (by omega)).trans (bU_s _ _ _))))))))))))) (Nat.le_of_ble_eq_true rfl) (bNf_i _) rfl dX1_init_65 ?_
  refine bV_h (f2 := bU (bU (bU (bU (bU (bU (bU (bU f (q + 1) (.inl (0, 6, .inl (fun _ => 0)))) q (.inr (1, [.ref (q + 1), .ref (q + 2), .ref (q + 3), .ref (q + 4), .ref (q + 5), .ref (q + 6), .ref (q + 7), .int (-2), .int 0, .int 0, .int 0, .int 0, .int 0, .int 0]))) (q + 2) (.inl (0, 6, .inl (fun _ => 0)))) (q + 3) (.inl (0, 20, .inl (fun _ => 0)))) (q + 4) (.inl (0, 2001, .inl (fun _ => 0)))) (q + 5) (.inl (0, 2001, .inl (fun _ => 0)))) (q + 6) (.inl (0, 24, .inl (fun _ => 0)))) (q + 7) (.inl (0, 24, .inl (fun _ => 0)))) (((bU_c (by omega)).trans (congrArg (fun z => bU z (q + 7) (.inl (0, 24, .inl (fun _ => 0)))) (((bU_c (by omega)).trans (congrArg (fun z => bU z (q + 6) (.inl (0, 24, .inl (fun _ => 0)))) (((bU_c (by omega)).trans (congrArg (fun z => bU z (q + 5) (.inl (0, 2001, .inl (fun _ => 0)))) (((bU_c (by omega)).trans (congrArg (fun z => bU z (q + 4) (.inl (0, 2001, .inl (fun _ => 0)))) (((bU_c (by omega)).trans (congrArg (fun z => bU z (q + 3) (.inl (0, 20, .inl (fun _ => 0)))) (((bU_c (by omega)).trans (congrArg (fun z => bU z (q + 2) (.inl (0, 6, .inl (fun _ => 0)))) (bU_u _ _ _ _))))))))))))))))))) ?_
  refine r_aload_n (n := 0) (i := 0) 0 rfl rfl dX1_init_68 ?_
  refine r_bipush (v := (-2)) (by decide) dX1_init_69 ?_
  refine p_put (fs := [.ref (q + 1), .ref (q + 2), .ref (q + 3), .ref (q + 4), .ref (q + 5), .ref (q + 6), .ref (q + 7), .int (-2), .int 0, .int 0, .int 0, .int 0, .int 0, .int 0]) (fs' := [.ref (q + 1), .ref (q + 2), .ref (q + 3), .ref (q + 4), .ref (q + 5), .ref (q + 6), .ref (q + 7), .int (-2), .int (-2), .int 0, .int 0, .int 0, .int 0, .int 0]) flX1_37 (by exact ((bU_n (by omega)).trans (((bU_n (by omega)).trans (((bU_n (by omega)).trans (((bU_n (by omega)).trans (((bU_n (by omega)).trans (((bU_n (by omega)).trans (bU_s _ _ _))))))))))))) (Nat.le_of_ble_eq_true rfl) (bNf_i _) rfl dX1_init_71 ?_
  refine bV_h (f2 := bU (bU (bU (bU (bU (bU (bU (bU f (q + 1) (.inl (0, 6, .inl (fun _ => 0)))) q (.inr (1, [.ref (q + 1), .ref (q + 2), .ref (q + 3), .ref (q + 4), .ref (q + 5), .ref (q + 6), .ref (q + 7), .int (-2), .int (-2), .int 0, .int 0, .int 0, .int 0, .int 0]))) (q + 2) (.inl (0, 6, .inl (fun _ => 0)))) (q + 3) (.inl (0, 20, .inl (fun _ => 0)))) (q + 4) (.inl (0, 2001, .inl (fun _ => 0)))) (q + 5) (.inl (0, 2001, .inl (fun _ => 0)))) (q + 6) (.inl (0, 24, .inl (fun _ => 0)))) (q + 7) (.inl (0, 24, .inl (fun _ => 0)))) (((bU_c (by omega)).trans (congrArg (fun z => bU z (q + 7) (.inl (0, 24, .inl (fun _ => 0)))) (((bU_c (by omega)).trans (congrArg (fun z => bU z (q + 6) (.inl (0, 24, .inl (fun _ => 0)))) (((bU_c (by omega)).trans (congrArg (fun z => bU z (q + 5) (.inl (0, 2001, .inl (fun _ => 0)))) (((bU_c (by omega)).trans (congrArg (fun z => bU z (q + 4) (.inl (0, 2001, .inl (fun _ => 0)))) (((bU_c (by omega)).trans (congrArg (fun z => bU z (q + 3) (.inl (0, 20, .inl (fun _ => 0)))) (((bU_c (by omega)).trans (congrArg (fun z => bU z (q + 2) (.inl (0, 6, .inl (fun _ => 0)))) (bU_u _ _ _ _))))))))))))))))))) ?_
  refine r_aload_n (n := 0) (i := 0) 0 rfl rfl dX1_init_74 ?_
  refine p_get (fs := [.ref (q + 1), .ref (q + 2), .ref (q + 3), .ref (q + 4), .ref (q + 5), .ref (q + 6), .ref (q + 7), .int (-2), .int (-2), .int 0, .int 0, .int 0, .int 0, .int 0]) flX1_9 (by exact ((bU_n (by omega)).trans (((bU_n (by omega)).trans (((bU_n (by omega)).trans (((bU_n (by omega)).trans (((bU_n (by omega)).trans (((bU_n (by omega)).trans (bU_s _ _ _))))))))))))) rfl dX1_init_75 ?_
  refine r_sipush (v := (-1000)) (by decide) dX1_init_78 ?_
  refine p_callS (As := [.ref (q + 1), .int (-1000)]) (rest := []) (kJ7_fill_53178 (O := O) (d := 0) (f := bU (bU (bU (bU (bU (bU (bU (bU f (q + 1) (.inl (0, 6, .inl (fun _ => 0)))) q (.inr (1, [.ref (q + 1), .ref (q + 2), .ref (q + 3), .ref (q + 4), .ref (q + 5), .ref (q + 6), .ref (q + 7), .int (-2), .int (-2), .int 0, .int 0, .int 0, .int 0, .int 0]))) (q + 2) (.inl (0, 6, .inl (fun _ => 0)))) (q + 3) (.inl (0, 20, .inl (fun _ => 0)))) (q + 4) (.inl (0, 2001, .inl (fun _ => 0)))) (q + 5) (.inl (0, 2001, .inl (fun _ => 0)))) (q + 6) (.inl (0, 24, .inl (fun _ => 0)))) (q + 7) (.inl (0, 24, .inl (fun _ => 0)))) (n := n + 1 + 1 + 1 + 1 + 1 + 1 + 1) (s := s + 6 + 6 + 20 + 2001 + 2001 + 24 + 24) (g := fun _ => 0) (r := q + 1) (v := (-1000)) (by exact ((bU_n (by omega)).trans (((bU_n (by omega)).trans (((bU_n (by omega)).trans (((bU_n (by omega)).trans (((bU_n (by omega)).trans (((bU_n (by omega)).trans (((bU_n (by omega)).trans (bU_s _ _ _)))))))))))))))  (Nat.le_refl _)).call rfl lkX1_40 smJ7_fill_53178 rfl rfl (by omega) (Nat.le_of_ble_eq_true rfl) dX1_init_81 (fun v9 G9 h9 => ?_) (fun q9 G9 h9 => (by cases h9.1))
  obtain ⟨h8, rfl⟩ := h9; cases h8
  refine bV_h (f2 := bU (bU (bU (bU (bU (bU (bU (bU f (q + 1) (.inl (0, 6, .inl (fl6 (fun _ => 0) (-1000))))) q (.inr (1, [.ref (q + 1), .ref (q + 2), .ref (q + 3), .ref (q + 4), .ref (q + 5), .ref (q + 6), .ref (q + 7), .int (-2), .int (-2), .int 0, .int 0, .int 0, .int 0, .int 0]))) (q + 2) (.inl (0, 6, .inl (fun _ => 0)))) (q + 3) (.inl (0, 20, .inl (fun _ => 0)))) (q + 4) (.inl (0, 2001, .inl (fun _ => 0)))) (q + 5) (.inl (0, 2001, .inl (fun _ => 0)))) (q + 6) (.inl (0, 24, .inl (fun _ => 0)))) (q + 7) (.inl (0, 24, .inl (fun _ => 0)))) (((bU_c (by omega)).trans (congrArg (fun z => bU z (q + 7) (.inl (0, 24, .inl (fun _ => 0)))) (((bU_c (by omega)).trans (congrArg (fun z => bU z (q + 6) (.inl (0, 24, .inl (fun _ => 0)))) (((bU_c (by omega)).trans (congrArg (fun z => bU z (q + 5) (.inl (0, 2001, .inl (fun _ => 0)))) (((bU_c (by omega)).trans (congrArg (fun z => bU z (q + 4) (.inl (0, 2001, .inl (fun _ => 0)))) (((bU_c (by omega)).trans (congrArg (fun z => bU z (q + 3) (.inl (0, 20, .inl (fun _ => 0)))) (((bU_c (by omega)).trans (congrArg (fun z => bU z (q + 2) (.inl (0, 6, .inl (fun _ => 0)))) (((bU_c (by omega)).trans (congrArg (fun z => bU z q (.inr (1, [.ref (q + 1), .ref (q + 2), .ref (q + 3), .ref (q + 4), .ref (q + 5), .ref (q + 6), .ref (q + 7), .int (-2), .int (-2), .int 0, .int 0, .int 0, .int 0, .int 0]))) (bU_u _ _ _ _)))))))))))))))))))))) ?_
  show bV O _ d 84 [(0, .ref q)] [] (bU (bU (bU (bU (bU (bU (bU (bU f (q + 1) (.inl (0, 6, .inl (fl6 (fun _ => 0) (-1000))))) q (.inr (1, [.ref (q + 1), .ref (q + 2), .ref (q + 3), .ref (q + 4), .ref (q + 5), .ref (q + 6), .ref (q + 7), .int (-2), .int (-2), .int 0, .int 0, .int 0, .int 0, .int 0]))) (q + 2) (.inl (0, 6, .inl (fun _ => 0)))) (q + 3) (.inl (0, 20, .inl (fun _ => 0)))) (q + 4) (.inl (0, 2001, .inl (fun _ => 0)))) (q + 5) (.inl (0, 2001, .inl (fun _ => 0)))) (q + 6) (.inl (0, 24, .inl (fun _ => 0)))) (q + 7) (.inl (0, 24, .inl (fun _ => 0))), n + 1 + 1 + 1 + 1 + 1 + 1 + 1, s + 6 + 6 + 20 + 2001 + 2001 + 24 + 24) _
  refine r_aload_n (n := 0) (i := 0) 0 rfl rfl dX1_init_84 ?_
  refine p_get (fs := [.ref (q + 1), .ref (q + 2), .ref (q + 3), .ref (q + 4), .ref (q + 5), .ref (q + 6), .ref (q + 7), .int (-2), .int (-2), .int 0, .int 0, .int 0, .int 0, .int 0]) flX1_15 (by exact ((bU_n (by omega)).trans (((bU_n (by omega)).trans (((bU_n (by omega)).trans (((bU_n (by omega)).trans (((bU_n (by omega)).trans (((bU_n (by omega)).trans (bU_s _ _ _))))))))))))) rfl dX1_init_85 ?_
  refine r_sipush (v := 1000) (by decide) dX1_init_88 ?_
  refine p_callS (As := [.ref (q + 2), .int 1000]) (rest := []) (kJ7_fill_53178 (O := O) (d := 0) (f := bU (bU (bU (bU (bU (bU (bU (bU f (q + 1) (.inl (0, 6, .inl (fl6 (fun _ => 0) (-1000))))) q (.inr (1, [.ref (q + 1), .ref (q + 2), .ref (q + 3), .ref (q + 4), .ref (q + 5), .ref (q + 6), .ref (q + 7), .int (-2), .int (-2), .int 0, .int 0, .int 0, .int 0, .int 0]))) (q + 2) (.inl (0, 6, .inl (fun _ => 0)))) (q + 3) (.inl (0, 20, .inl (fun _ => 0)))) (q + 4) (.inl (0, 2001, .inl (fun _ => 0)))) (q + 5) (.inl (0, 2001, .inl (fun _ => 0)))) (q + 6) (.inl (0, 24, .inl (fun _ => 0)))) (q + 7) (.inl (0, 24, .inl (fun _ => 0)))) (n := n + 1 + 1 + 1 + 1 + 1 + 1 + 1) (s := s + 6 + 6 + 20 + 2001 + 2001 + 24 + 24) (g := fun _ => 0) (r := q + 2) (v := 1000) (by exact ((bU_n (by omega)).trans (((bU_n (by omega)).trans (((bU_n (by omega)).trans (((bU_n (by omega)).trans (((bU_n (by omega)).trans (bU_s _ _ _)))))))))))  (Nat.le_refl _)).call rfl lkX1_40 smJ7_fill_53178 rfl rfl (by omega) (Nat.le_of_ble_eq_true rfl) dX1_init_91 (fun v9 G9 h9 => ?_) (fun q9 G9 h9 => (by cases h9.1))
  obtain ⟨h8, rfl⟩ := h9; cases h8
  refine bV_h (f2 := bU (bU (bU (bU (bU (bU (bU (bU f (q + 1) (.inl (0, 6, .inl (fl6 (fun _ => 0) (-1000))))) q (.inr (1, [.ref (q + 1), .ref (q + 2), .ref (q + 3), .ref (q + 4), .ref (q + 5), .ref (q + 6), .ref (q + 7), .int (-2), .int (-2), .int 0, .int 0, .int 0, .int 0, .int 0]))) (q + 2) (.inl (0, 6, .inl (fl6 (fun _ => 0) 1000)))) (q + 3) (.inl (0, 20, .inl (fun _ => 0)))) (q + 4) (.inl (0, 2001, .inl (fun _ => 0)))) (q + 5) (.inl (0, 2001, .inl (fun _ => 0)))) (q + 6) (.inl (0, 24, .inl (fun _ => 0)))) (q + 7) (.inl (0, 24, .inl (fun _ => 0)))) (((bU_c (by omega)).trans (congrArg (fun z => bU z (q + 7) (.inl (0, 24, .inl (fun _ => 0)))) (((bU_c (by omega)).trans (congrArg (fun z => bU z (q + 6) (.inl (0, 24, .inl (fun _ => 0)))) (((bU_c (by omega)).trans (congrArg (fun z => bU z (q + 5) (.inl (0, 2001, .inl (fun _ => 0)))) (((bU_c (by omega)).trans (congrArg (fun z => bU z (q + 4) (.inl (0, 2001, .inl (fun _ => 0)))) (((bU_c (by omega)).trans (congrArg (fun z => bU z (q + 3) (.inl (0, 20, .inl (fun _ => 0)))) (bU_u _ _ _ _)))))))))))))))) ?_
  show bV O _ d 94 [(0, .ref q)] [] (bU (bU (bU (bU (bU (bU (bU (bU f (q + 1) (.inl (0, 6, .inl (fl6 (fun _ => 0) (-1000))))) q (.inr (1, [.ref (q + 1), .ref (q + 2), .ref (q + 3), .ref (q + 4), .ref (q + 5), .ref (q + 6), .ref (q + 7), .int (-2), .int (-2), .int 0, .int 0, .int 0, .int 0, .int 0]))) (q + 2) (.inl (0, 6, .inl (fl6 (fun _ => 0) 1000)))) (q + 3) (.inl (0, 20, .inl (fun _ => 0)))) (q + 4) (.inl (0, 2001, .inl (fun _ => 0)))) (q + 5) (.inl (0, 2001, .inl (fun _ => 0)))) (q + 6) (.inl (0, 24, .inl (fun _ => 0)))) (q + 7) (.inl (0, 24, .inl (fun _ => 0))), n + 1 + 1 + 1 + 1 + 1 + 1 + 1, s + 6 + 6 + 20 + 2001 + 2001 + 24 + 24) _
  refine r_return rfl dX1_init_94 ?_
  refine ⟨rfl, ?_⟩
  simp only [Prod.mk.injEq, and_true]
  funext z; simp only [bU]; repeat (first | rfl | omega | split)
set_option maxRecDepth 4000 in
theorem kX1_dropRival {O : bO} {d : Nat} {f : bF} {n s : Nat} {q : Nat} {ch : Int32} {rv : Int32} {sh : Int32} {fc : Nat} {cn : Nat} {kp : Int32} {rf : Int32} (h0 : f q = some (.inr (1, [.ref (q + 1), .ref (q + 2), .ref (q + 3), .ref (q + 4), .ref (q + 5), .ref (q + 6), .ref (q + 7), .int ch, .int rv, .int sh, .int (nI fc), .int (nI cn), .int kp, .int rf])))  (hd : 0 ≤ d) : bMt O mX1_dropRival d [.ref q] (f, n, s) (.inl none) (bU f q (.inr (1, [.ref (q + 1), .ref (q + 2), .ref (q + 3), .ref (q + 4), .ref (q + 5), .ref (q + 6), .ref (q + 7), .int ch, .int (-2), .int 0, .int (nI fc), .int (nI cn), .int kp, .int rf])), n, s) := by
  refine bMt_of (bCall_of (by decide) rfl (Nat.le_of_ble_eq_true rfl) ?_)
  show bV O _ d 0 [(0, .ref q)] [] (f, n, s) _
  refine r_aload_n (n := 0) (i := 0) 0 rfl rfl dX1_dropRival_0 ?_
  refine r_bipush (v := (-2)) (by decide) dX1_dropRival_1 ?_
  refine p_put (fs := [.ref (q + 1), .ref (q + 2), .ref (q + 3), .ref (q + 4), .ref (q + 5), .ref (q + 6), .ref (q + 7), .int ch, .int rv, .int sh, .int (nI fc), .int (nI cn), .int kp, .int rf]) (fs' := [.ref (q + 1), .ref (q + 2), .ref (q + 3), .ref (q + 4), .ref (q + 5), .ref (q + 6), .ref (q + 7), .int ch, .int (-2), .int sh, .int (nI fc), .int (nI cn), .int kp, .int rf]) flX1_37 h0 (Nat.le_of_ble_eq_true rfl) (bNf_i _) rfl dX1_dropRival_3 ?_
  refine r_aload_n (n := 0) (i := 0) 0 rfl rfl dX1_dropRival_6 ?_
  refine r_iconst (v := 0) (by decide) dX1_dropRival_7 ?_
  refine p_put (fs := [.ref (q + 1), .ref (q + 2), .ref (q + 3), .ref (q + 4), .ref (q + 5), .ref (q + 6), .ref (q + 7), .int ch, .int (-2), .int sh, .int (nI fc), .int (nI cn), .int kp, .int rf]) (fs' := [.ref (q + 1), .ref (q + 2), .ref (q + 3), .ref (q + 4), .ref (q + 5), .ref (q + 6), .ref (q + 7), .int ch, .int (-2), .int 0, .int (nI fc), .int (nI cn), .int kp, .int rf]) flX1_46 (by exact bU_s _ _ _) (Nat.le_of_ble_eq_true rfl) (bNf_i _) rfl dX1_dropRival_8 ?_
  refine bV_h (f2 := bU f q (.inr (1, [.ref (q + 1), .ref (q + 2), .ref (q + 3), .ref (q + 4), .ref (q + 5), .ref (q + 6), .ref (q + 7), .int ch, .int (-2), .int 0, .int (nI fc), .int (nI cn), .int kp, .int rf]))) (bU_u _ _ _ _) ?_
  refine r_return rfl dX1_dropRival_11 ?_
  refine ⟨?_, ?_⟩ <;> first | rfl | (simp []; done)
/-- the former champions, one more; the oldest goes where there are twenty -/
def dRem (ch : Int32) (fm : Nat → Int32) (fc : Nat) : (Nat → Int32) × Nat := if ch = -2 then (fm, fc) else if fc < 20 then (upd fm fc ch, fc + 1) else (upd (va_cpy fm fm 1 0 19) 19 ch, 20)
set_option maxRecDepth 4000 in
theorem kX1_rememberFormer {O : bO} {d : Nat} {f : bF} {n s : Nat} {q : Nat} {ch : Int32} {rv : Int32} {sh : Int32} {fc : Nat} {cn : Nat} {kp : Int32} {rf : Int32} {fm : Nat → Int32} (h0 : f q = some (.inr (1, [.ref (q + 1), .ref (q + 2), .ref (q + 3), .ref (q + 4), .ref (q + 5), .ref (q + 6), .ref (q + 7), .int ch, .int rv, .int sh, .int (nI fc), .int (nI cn), .int kp, .int rf]))) (h1 : f (q + 3) = some (.inl (0, 20, .inl fm))) (e0 : fc ≤ 20) (hd : 1 ≤ d) : bMt O mX1_rememberFormer d [.ref q] (f, n, s) (.inl none) (bU (bU f (q + 3) (.inl (0, 20, .inl ((dRem ch fm fc).1)))) q (.inr (1, [.ref (q + 1), .ref (q + 2), .ref (q + 3), .ref (q + 4), .ref (q + 5), .ref (q + 6), .ref (q + 7), .int ch, .int rv, .int sh, .int (nI (dRem ch fm fc).2), .int (nI cn), .int kp, .int rf])), n, s) := by
  refine bMt_of (bCall_of (by decide) rfl (Nat.le_of_ble_eq_true rfl) ?_)
  show bV O _ d 0 [(0, .ref q)] [] (f, n, s) _
  refine r_aload_n (n := 0) (i := 0) 0 rfl rfl dX1_rememberFormer_0 ?_
  refine p_get (fs := [.ref (q + 1), .ref (q + 2), .ref (q + 3), .ref (q + 4), .ref (q + 5), .ref (q + 6), .ref (q + 7), .int ch, .int rv, .int sh, .int (nI fc), .int (nI cn), .int kp, .int rf]) flX1_33 h0 rfl dX1_rememberFormer_1 ?_
  refine r_bipush (v := (-2)) (by decide) dX1_rememberFormer_4 ?_
  refine r_icmp_ne (tgt := 10) (by decide) dX1_rememberFormer_6 (fun c6 => ?_) (fun c6 => ?_)
  · refine r_aload_n (n := 0) (i := 0) 0 rfl rfl dX1_rememberFormer_10 ?_
    refine p_get (fs := [.ref (q + 1), .ref (q + 2), .ref (q + 3), .ref (q + 4), .ref (q + 5), .ref (q + 6), .ref (q + 7), .int ch, .int rv, .int sh, .int (nI fc), .int (nI cn), .int kp, .int rf]) flX1_49 h0 rfl dX1_rememberFormer_11 ?_
    refine r_bipush (v := 20) (by decide) dX1_rememberFormer_14 ?_
    refine r_icmp_lt (tgt := 40) (by decide) dX1_rememberFormer_16 (fun c16 => ?_) (fun c16 => ?_)
    · have c16 : fc < 20 := (nI_ltI (a := fc) (b := 20) (by omega) (by omega)).mp c16
      refine r_aload_n (n := 0) (i := 0) 0 rfl rfl dX1_rememberFormer_40 ?_
      refine p_get (fs := [.ref (q + 1), .ref (q + 2), .ref (q + 3), .ref (q + 4), .ref (q + 5), .ref (q + 6), .ref (q + 7), .int ch, .int rv, .int sh, .int (nI fc), .int (nI cn), .int kp, .int rf]) flX1_49 h0 rfl dX1_rememberFormer_41 ?_
      refine r_if_lt (tgt := 82) (by decide) dX1_rememberFormer_44 (fun h9 => absurd h9 (nI_pos (by omega))) (fun _ => ?_)
      refine r_aload_n (n := 0) (i := 0) 0 rfl rfl dX1_rememberFormer_47 ?_
      refine p_get (fs := [.ref (q + 1), .ref (q + 2), .ref (q + 3), .ref (q + 4), .ref (q + 5), .ref (q + 6), .ref (q + 7), .int ch, .int rv, .int sh, .int (nI fc), .int (nI cn), .int kp, .int rf]) flX1_49 h0 rfl dX1_rememberFormer_48 ?_
      refine r_aload_n (n := 0) (i := 0) 0 rfl rfl dX1_rememberFormer_51 ?_
      refine p_get (fs := [.ref (q + 1), .ref (q + 2), .ref (q + 3), .ref (q + 4), .ref (q + 5), .ref (q + 6), .ref (q + 7), .int ch, .int rv, .int sh, .int (nI fc), .int (nI cn), .int kp, .int rf]) flX1_18 h0 rfl dX1_rememberFormer_52 ?_
      refine p_alen2 (kd := 0) (n := 20) (a := (20, .inl fm)) rfl h1 rfl dX1_rememberFormer_55 ?_
      refine r_icmp_ge (tgt := 82) (by decide) dX1_rememberFormer_56 (fun h9 => absurd h9 (fun h7 => absurd ((nI_leI (a := 20) (b := fc) (by omega) (by omega)).mp h7) (by omega))) (fun _ => ?_)
      refine r_aload_n (n := 0) (i := 0) 0 rfl rfl dX1_rememberFormer_59 ?_
      refine p_get (fs := [.ref (q + 1), .ref (q + 2), .ref (q + 3), .ref (q + 4), .ref (q + 5), .ref (q + 6), .ref (q + 7), .int ch, .int rv, .int sh, .int (nI fc), .int (nI cn), .int kp, .int rf]) flX1_18 h0 rfl dX1_rememberFormer_60 ?_
      refine r_aload_n (n := 0) (i := 0) 0 rfl rfl dX1_rememberFormer_63 ?_
      refine p_get (fs := [.ref (q + 1), .ref (q + 2), .ref (q + 3), .ref (q + 4), .ref (q + 5), .ref (q + 6), .ref (q + 7), .int ch, .int rv, .int sh, .int (nI fc), .int (nI cn), .int kp, .int rf]) flX1_49 h0 rfl dX1_rememberFormer_64 ?_
      refine r_aload_n (n := 0) (i := 0) 0 rfl rfl dX1_rememberFormer_67 ?_
      refine p_get (fs := [.ref (q + 1), .ref (q + 2), .ref (q + 3), .ref (q + 4), .ref (q + 5), .ref (q + 6), .ref (q + 7), .int ch, .int rv, .int sh, .int (nI fc), .int (nI cn), .int kp, .int rf]) flX1_33 h0 rfl dX1_rememberFormer_68 ?_
      refine p_iastN (t := fc) h1 (by omega) (by omega) dX1_rememberFormer_71 ?_
      refine r_aload_n (n := 0) (i := 0) 0 rfl rfl dX1_rememberFormer_72 ?_
      refine r_dup rfl dX1_rememberFormer_73 ?_
      refine p_get (fs := [.ref (q + 1), .ref (q + 2), .ref (q + 3), .ref (q + 4), .ref (q + 5), .ref (q + 6), .ref (q + 7), .int ch, .int rv, .int sh, .int (nI fc), .int (nI cn), .int kp, .int rf]) flX1_49 (by exact ((bU_n (by omega)).trans (h0))) rfl dX1_rememberFormer_74 ?_
      refine r_iconst (v := 1) (by decide) dX1_rememberFormer_77 ?_
      refine r_iaddE (v := nI (fc + 1)) (nI_add fc 1) dX1_rememberFormer_78 ?_
      refine p_put (fs := [.ref (q + 1), .ref (q + 2), .ref (q + 3), .ref (q + 4), .ref (q + 5), .ref (q + 6), .ref (q + 7), .int ch, .int rv, .int sh, .int (nI fc), .int (nI cn), .int kp, .int rf]) (fs' := [.ref (q + 1), .ref (q + 2), .ref (q + 3), .ref (q + 4), .ref (q + 5), .ref (q + 6), .ref (q + 7), .int ch, .int rv, .int sh, .int (nI (fc + 1)), .int (nI cn), .int kp, .int rf]) flX1_49 (by exact ((bU_n (by omega)).trans (h0))) (Nat.le_of_ble_eq_true rfl) (bNf_i _) rfl dX1_rememberFormer_79 ?_
      refine r_return rfl dX1_rememberFormer_82 ?_
      refine ⟨rfl, ?_⟩
      first | rw [show dRem ch fm fc = (upd fm fc ch, fc + 1) by rw [dRem, if_neg c6, if_pos c16]] | rw [show dRem ch fm fc = (upd (va_cpy fm fm 1 0 19) 19 ch, 20) by rw [dRem, if_neg c6, if_neg c16]]
      try rfl
    · have c16 : ¬ fc < 20 := fun h7 => c16 ((nI_ltI (a := fc) (b := 20) (by omega) (by omega)).mpr h7)
      refine r_aload_n (n := 0) (i := 0) 0 rfl rfl dX1_rememberFormer_19 ?_
      refine p_get (fs := [.ref (q + 1), .ref (q + 2), .ref (q + 3), .ref (q + 4), .ref (q + 5), .ref (q + 6), .ref (q + 7), .int ch, .int rv, .int sh, .int (nI fc), .int (nI cn), .int kp, .int rf]) flX1_18 h0 rfl dX1_rememberFormer_20 ?_
      refine r_iconst (v := 1) (by decide) dX1_rememberFormer_23 ?_
      refine r_aload_n (n := 0) (i := 0) 0 rfl rfl dX1_rememberFormer_24 ?_
      refine p_get (fs := [.ref (q + 1), .ref (q + 2), .ref (q + 3), .ref (q + 4), .ref (q + 5), .ref (q + 6), .ref (q + 7), .int ch, .int rv, .int sh, .int (nI fc), .int (nI cn), .int kp, .int rf]) flX1_18 h0 rfl dX1_rememberFormer_25 ?_
      refine r_iconst (v := 0) (by decide) dX1_rememberFormer_28 ?_
      refine r_bipush (v := 19) (by decide) dX1_rememberFormer_29 ?_
      refine p_copyi (by omega) wacX1 wac2 wac3 wac4 h1 h1 (by decide) (by decide) (by decide) (by decide) (by decide) (Nat.le_of_ble_eq_true rfl) dX1_rememberFormer_31 ?_
      refine r_aload_n (n := 0) (i := 0) 0 rfl rfl dX1_rememberFormer_34 ?_
      refine r_bipush (v := 19) (by decide) dX1_rememberFormer_35 ?_
      refine p_put (fs := [.ref (q + 1), .ref (q + 2), .ref (q + 3), .ref (q + 4), .ref (q + 5), .ref (q + 6), .ref (q + 7), .int ch, .int rv, .int sh, .int (nI fc), .int (nI cn), .int kp, .int rf]) (fs' := [.ref (q + 1), .ref (q + 2), .ref (q + 3), .ref (q + 4), .ref (q + 5), .ref (q + 6), .ref (q + 7), .int ch, .int rv, .int sh, .int 19, .int (nI cn), .int kp, .int rf]) flX1_49 (by exact ((bU_n (by omega)).trans (h0))) (Nat.le_of_ble_eq_true rfl) (bNf_i _) rfl dX1_rememberFormer_37 ?_
      refine r_aload_n (n := 0) (i := 0) 0 rfl rfl dX1_rememberFormer_40 ?_
      refine p_get (fs := [.ref (q + 1), .ref (q + 2), .ref (q + 3), .ref (q + 4), .ref (q + 5), .ref (q + 6), .ref (q + 7), .int ch, .int rv, .int sh, .int 19, .int (nI cn), .int kp, .int rf]) flX1_49 (by exact bU_s _ _ _) rfl dX1_rememberFormer_41 ?_
      refine r_if_lt (tgt := 82) (by decide) dX1_rememberFormer_44 (fun h9 => absurd h9 (show ¬ ((19 : Int32) < 0) by decide)) (fun _ => ?_)
      refine r_aload_n (n := 0) (i := 0) 0 rfl rfl dX1_rememberFormer_47 ?_
      refine p_get (fs := [.ref (q + 1), .ref (q + 2), .ref (q + 3), .ref (q + 4), .ref (q + 5), .ref (q + 6), .ref (q + 7), .int ch, .int rv, .int sh, .int 19, .int (nI cn), .int kp, .int rf]) flX1_49 (by exact bU_s _ _ _) rfl dX1_rememberFormer_48 ?_
      refine r_aload_n (n := 0) (i := 0) 0 rfl rfl dX1_rememberFormer_51 ?_
      refine p_get (fs := [.ref (q + 1), .ref (q + 2), .ref (q + 3), .ref (q + 4), .ref (q + 5), .ref (q + 6), .ref (q + 7), .int ch, .int rv, .int sh, .int 19, .int (nI cn), .int kp, .int rf]) flX1_18 (by exact bU_s _ _ _) rfl dX1_rememberFormer_52 ?_
      refine p_alen2 (kd := 0) (n := 20) (a := (20, .inl (va_cpy fm fm 1 0 19))) rfl (by exact ((bU_n (by omega)).trans (bU_s _ _ _))) rfl dX1_rememberFormer_55 ?_
      refine r_icmp_ge (tgt := 82) (by decide) dX1_rememberFormer_56 (fun h9 => absurd h9 (show ¬ ((nI 20) ≤ 19) by decide)) (fun _ => ?_)
      refine r_aload_n (n := 0) (i := 0) 0 rfl rfl dX1_rememberFormer_59 ?_
      refine p_get (fs := [.ref (q + 1), .ref (q + 2), .ref (q + 3), .ref (q + 4), .ref (q + 5), .ref (q + 6), .ref (q + 7), .int ch, .int rv, .int sh, .int 19, .int (nI cn), .int kp, .int rf]) flX1_18 (by exact bU_s _ _ _) rfl dX1_rememberFormer_60 ?_
      refine r_aload_n (n := 0) (i := 0) 0 rfl rfl dX1_rememberFormer_63 ?_
      refine p_get (fs := [.ref (q + 1), .ref (q + 2), .ref (q + 3), .ref (q + 4), .ref (q + 5), .ref (q + 6), .ref (q + 7), .int ch, .int rv, .int sh, .int 19, .int (nI cn), .int kp, .int rf]) flX1_49 (by exact bU_s _ _ _) rfl dX1_rememberFormer_64 ?_
      refine r_aload_n (n := 0) (i := 0) 0 rfl rfl dX1_rememberFormer_67 ?_
      refine p_get (fs := [.ref (q + 1), .ref (q + 2), .ref (q + 3), .ref (q + 4), .ref (q + 5), .ref (q + 6), .ref (q + 7), .int ch, .int rv, .int sh, .int 19, .int (nI cn), .int kp, .int rf]) flX1_33 (by exact bU_s _ _ _) rfl dX1_rememberFormer_68 ?_
      refine p_iastN (t := 19) (by exact ((bU_n (by omega)).trans (bU_s _ _ _))) (by omega) (by omega) dX1_rememberFormer_71 ?_
      refine bV_h (f2 := bU (bU f (q + 3) (.inl (0, 20, .inl (upd (va_cpy fm fm 1 0 19) 19 ch)))) q (.inr (1, [.ref (q + 1), .ref (q + 2), .ref (q + 3), .ref (q + 4), .ref (q + 5), .ref (q + 6), .ref (q + 7), .int ch, .int rv, .int sh, .int 19, .int (nI cn), .int kp, .int rf]))) (((bU_c (by omega)).trans (congrArg (fun z => bU z q (.inr (1, [.ref (q + 1), .ref (q + 2), .ref (q + 3), .ref (q + 4), .ref (q + 5), .ref (q + 6), .ref (q + 7), .int ch, .int rv, .int sh, .int 19, .int (nI cn), .int kp, .int rf]))) (bU_u _ _ _ _)))) ?_
      refine r_aload_n (n := 0) (i := 0) 0 rfl rfl dX1_rememberFormer_72 ?_
      refine r_dup rfl dX1_rememberFormer_73 ?_
      refine p_get (fs := [.ref (q + 1), .ref (q + 2), .ref (q + 3), .ref (q + 4), .ref (q + 5), .ref (q + 6), .ref (q + 7), .int ch, .int rv, .int sh, .int 19, .int (nI cn), .int kp, .int rf]) flX1_49 (by exact bU_s _ _ _) rfl dX1_rememberFormer_74 ?_
      refine r_iconst (v := 1) (by decide) dX1_rememberFormer_77 ?_
      refine r_iaddE (v := 20) (by decide) dX1_rememberFormer_78 ?_
      refine p_put (fs := [.ref (q + 1), .ref (q + 2), .ref (q + 3), .ref (q + 4), .ref (q + 5), .ref (q + 6), .ref (q + 7), .int ch, .int rv, .int sh, .int 19, .int (nI cn), .int kp, .int rf]) (fs' := [.ref (q + 1), .ref (q + 2), .ref (q + 3), .ref (q + 4), .ref (q + 5), .ref (q + 6), .ref (q + 7), .int ch, .int rv, .int sh, .int 20, .int (nI cn), .int kp, .int rf]) flX1_49 (by exact bU_s _ _ _) (Nat.le_of_ble_eq_true rfl) (bNf_i _) rfl dX1_rememberFormer_79 ?_
      refine bV_h (f2 := bU (bU f (q + 3) (.inl (0, 20, .inl (upd (va_cpy fm fm 1 0 19) 19 ch)))) q (.inr (1, [.ref (q + 1), .ref (q + 2), .ref (q + 3), .ref (q + 4), .ref (q + 5), .ref (q + 6), .ref (q + 7), .int ch, .int rv, .int sh, .int 20, .int (nI cn), .int kp, .int rf]))) (bU_u _ _ _ _) ?_
      refine r_return rfl dX1_rememberFormer_82 ?_
      refine ⟨rfl, ?_⟩
      first | rw [show dRem ch fm fc = (upd fm fc ch, fc + 1) by rw [dRem, if_neg c6, if_pos c16]] | rw [show dRem ch fm fc = (upd (va_cpy fm fm 1 0 19) 19 ch, 20) by rw [dRem, if_neg c6, if_neg c16]]
      try rfl
  · refine r_return rfl dX1_rememberFormer_9 ?_
    refine ⟨rfl, ?_⟩
    rw [show dRem ch fm fc = (fm, fc) by simp [dRem, c6], bU_i h1, bU_i h0]
set_option maxRecDepth 4000 in
theorem kX1_takeFormer {O : bO} {d : Nat} {f : bF} {n s : Nat} {q : Nat} {ch : Int32} {rv : Int32} {sh : Int32} {fc : Nat} {cn : Nat} {kp : Int32} {rf : Int32} {fm : Nat → Int32} (h0 : f q = some (.inr (1, [.ref (q + 1), .ref (q + 2), .ref (q + 3), .ref (q + 4), .ref (q + 5), .ref (q + 6), .ref (q + 7), .int ch, .int rv, .int sh, .int (nI fc), .int (nI cn), .int kp, .int rf]))) (h1 : f (q + 3) = some (.inl (0, 20, .inl fm))) (e0 : fc ≤ 20) (hd : 0 ≤ d) : bMt O mX1_takeFormer d [.ref q] (f, n, s) (.inl (some (.int (if fc = 0 then -2 else fm (fc - 1))))) (bU f q (.inr (1, [.ref (q + 1), .ref (q + 2), .ref (q + 3), .ref (q + 4), .ref (q + 5), .ref (q + 6), .ref (q + 7), .int ch, .int rv, .int sh, .int (nI (fc - 1)), .int (nI cn), .int kp, .int rf])), n, s) := by
  refine bMt_of (bCall_of (by decide) rfl (Nat.le_of_ble_eq_true rfl) ?_)
  show bV O _ d 0 [(0, .ref q)] [] (f, n, s) _
  refine r_aload_n (n := 0) (i := 0) 0 rfl rfl dX1_takeFormer_0 ?_
  refine p_get (fs := [.ref (q + 1), .ref (q + 2), .ref (q + 3), .ref (q + 4), .ref (q + 5), .ref (q + 6), .ref (q + 7), .int ch, .int rv, .int sh, .int (nI fc), .int (nI cn), .int kp, .int rf]) flX1_49 h0 rfl dX1_takeFormer_1 ?_
  refine r_iconst (v := 1) (by decide) dX1_takeFormer_4 ?_
  refine r_icmp_lt (tgt := 20) (by decide) dX1_takeFormer_5 (fun c5 => ?_) (fun c5 => ?_)
  · have c5 : fc < 1 := (nI_ltI (a := fc) (b := 1) (by omega) (by omega)).mp c5
    refine r_bipush (v := (-2)) (by decide) dX1_takeFormer_20 ?_
    refine r_ireturn rfl dX1_takeFormer_22 ?_
    have h9 : fc = 0 := by omega
    subst h9
    exact ⟨rfl, by rw [bU_i h0]⟩
  · have c5 : ¬ fc < 1 := fun h7 => c5 ((nI_ltI (a := fc) (b := 1) (by omega) (by omega)).mpr h7)
    refine r_aload_n (n := 0) (i := 0) 0 rfl rfl dX1_takeFormer_8 ?_
    refine p_get (fs := [.ref (q + 1), .ref (q + 2), .ref (q + 3), .ref (q + 4), .ref (q + 5), .ref (q + 6), .ref (q + 7), .int ch, .int rv, .int sh, .int (nI fc), .int (nI cn), .int kp, .int rf]) flX1_49 h0 rfl dX1_takeFormer_9 ?_
    refine r_aload_n (n := 0) (i := 0) 0 rfl rfl dX1_takeFormer_12 ?_
    refine p_get (fs := [.ref (q + 1), .ref (q + 2), .ref (q + 3), .ref (q + 4), .ref (q + 5), .ref (q + 6), .ref (q + 7), .int ch, .int rv, .int sh, .int (nI fc), .int (nI cn), .int kp, .int rf]) flX1_18 h0 rfl dX1_takeFormer_13 ?_
    refine p_alen2 (kd := 0) (n := 20) (a := (20, .inl fm)) rfl h1 rfl dX1_takeFormer_16 ?_
    refine r_icmp_le (tgt := 23) (by decide) dX1_takeFormer_17 (fun _ => ?_) (fun h9 => absurd ((nI_leI (a := fc) (b := 20) (by omega) (by omega)).mpr (by omega)) h9)
    refine r_aload_n (n := 0) (i := 0) 0 rfl rfl dX1_takeFormer_23 ?_
    refine r_dup rfl dX1_takeFormer_24 ?_
    refine p_get (fs := [.ref (q + 1), .ref (q + 2), .ref (q + 3), .ref (q + 4), .ref (q + 5), .ref (q + 6), .ref (q + 7), .int ch, .int rv, .int sh, .int (nI fc), .int (nI cn), .int kp, .int rf]) flX1_49 h0 rfl dX1_takeFormer_25 ?_
    refine r_iconst (v := 1) (by decide) dX1_takeFormer_28 ?_
    refine r_isubE (v := nI (fc - 1)) (pk_sub (a := fc) (b := 1) (by omega)) dX1_takeFormer_29 ?_
    refine p_put (fs := [.ref (q + 1), .ref (q + 2), .ref (q + 3), .ref (q + 4), .ref (q + 5), .ref (q + 6), .ref (q + 7), .int ch, .int rv, .int sh, .int (nI fc), .int (nI cn), .int kp, .int rf]) (fs' := [.ref (q + 1), .ref (q + 2), .ref (q + 3), .ref (q + 4), .ref (q + 5), .ref (q + 6), .ref (q + 7), .int ch, .int rv, .int sh, .int (nI (fc - 1)), .int (nI cn), .int kp, .int rf]) flX1_49 h0 (Nat.le_of_ble_eq_true rfl) (bNf_i _) rfl dX1_takeFormer_30 ?_
    refine r_aload_n (n := 0) (i := 0) 0 rfl rfl dX1_takeFormer_33 ?_
    refine p_get (fs := [.ref (q + 1), .ref (q + 2), .ref (q + 3), .ref (q + 4), .ref (q + 5), .ref (q + 6), .ref (q + 7), .int ch, .int rv, .int sh, .int (nI (fc - 1)), .int (nI cn), .int kp, .int rf]) flX1_18 (by exact bU_s _ _ _) rfl dX1_takeFormer_34 ?_
    refine r_aload_n (n := 0) (i := 0) 0 rfl rfl dX1_takeFormer_37 ?_
    refine p_get (fs := [.ref (q + 1), .ref (q + 2), .ref (q + 3), .ref (q + 4), .ref (q + 5), .ref (q + 6), .ref (q + 7), .int ch, .int rv, .int sh, .int (nI (fc - 1)), .int (nI cn), .int kp, .int rf]) flX1_49 (by exact bU_s _ _ _) rfl dX1_takeFormer_38 ?_
    refine p_ialdN (t := fc - 1) (by exact ((bU_n (by omega)).trans (h1))) (by omega) (by omega) dX1_takeFormer_41 ?_
    refine r_ireturn rfl dX1_takeFormer_42 ?_
    rw [if_neg (by omega)]
    exact ⟨rfl, rfl⟩
/-- where a change of the champion is written -/
def dAt (cd : Nat → Int32) (cn : Nat) (day : Int32) : Nat := if 0 < cn ∧ cd (cn - 1) = day then cn - 1 else cn
theorem dAt_l {cd : Nat → Int32} {cn : Nat} {da : Int32} (h : ¬ cn = 0) (h2 : cd (cn - 1) = da) : dAt cd cn da = cn - 1 := if_pos ⟨by omega, h2⟩
theorem dAt_n {cd : Nat → Int32} {cn : Nat} {da : Int32} (h2 : ¬ cd (cn - 1) = da) : dAt cd cn da = cn := if_neg (fun h => h2 h.2)
theorem dAt_0 {cd : Nat → Int32} {da : Int32} : dAt cd 0 da = 0 := if_neg (fun h => by omega)
set_option maxRecDepth 4000 in
theorem kX1_changeChampionA {O : bO} {d : Nat} {f : bF} {n s : Nat} {q : Nat} {ch : Int32} {rv : Int32} {sh : Int32} {fc : Nat} {cn : Nat} {kp : Int32} {rf : Int32} {cd : Nat → Int32} {ct : Nat → Int32} {m : Int32} {da : Int32} (h0 : f q = some (.inr (1, [.ref (q + 1), .ref (q + 2), .ref (q + 3), .ref (q + 4), .ref (q + 5), .ref (q + 6), .ref (q + 7), .int ch, .int rv, .int sh, .int (nI fc), .int (nI cn), .int kp, .int rf]))) (h1 : f (q + 4) = some (.inl (0, 2001, .inl cd))) (h2 : f (q + 5) = some (.inl (0, 2001, .inl ct))) (e0 : cn ≤ 2001) (e1 : dAt cd cn da < 2001) (e2 : ¬ cn = 0) (hd : 0 ≤ d) : bMt O mX1_changeChampion d [.ref q, .int m, .int da] (f, n, s) (.inl none) (bU (bU (bU f (q + 4) (.inl (0, 2001, .inl (upd cd (dAt cd cn da) da)))) (q + 5) (.inl (0, 2001, .inl (upd ct (dAt cd cn da) m)))) q (.inr (1, [.ref (q + 1), .ref (q + 2), .ref (q + 3), .ref (q + 4), .ref (q + 5), .ref (q + 6), .ref (q + 7), .int m, .int rv, .int sh, .int (nI fc), .int (nI (dAt cd cn da + 1)), .int kp, .int rf])), n, s) := by
  refine bMt_of (bCall_of (by decide) rfl (Nat.le_of_ble_eq_true rfl) ?_)
  show bV O _ d 0 [(0, .ref q), (1, .int m), (2, .int da)] [] (f, n, s) _
  refine r_aload_n (n := 0) (i := 0) 0 rfl rfl dX1_changeChampion_0 ?_
  refine r_iload_n (n := 1) (i := 1) 1 rfl rfl dX1_changeChampion_1 ?_
  refine p_put (fs := [.ref (q + 1), .ref (q + 2), .ref (q + 3), .ref (q + 4), .ref (q + 5), .ref (q + 6), .ref (q + 7), .int ch, .int rv, .int sh, .int (nI fc), .int (nI cn), .int kp, .int rf]) (fs' := [.ref (q + 1), .ref (q + 2), .ref (q + 3), .ref (q + 4), .ref (q + 5), .ref (q + 6), .ref (q + 7), .int m, .int rv, .int sh, .int (nI fc), .int (nI cn), .int kp, .int rf]) flX1_33 h0 (Nat.le_of_ble_eq_true rfl) (bNf_i _) rfl dX1_changeChampion_2 ?_
  refine r_aload_n (n := 0) (i := 0) 0 rfl rfl dX1_changeChampion_5 ?_
  refine p_get (fs := [.ref (q + 1), .ref (q + 2), .ref (q + 3), .ref (q + 4), .ref (q + 5), .ref (q + 6), .ref (q + 7), .int m, .int rv, .int sh, .int (nI fc), .int (nI cn), .int kp, .int rf]) flX1_58 (by exact bU_s _ _ _) rfl dX1_changeChampion_6 ?_
  refine r_iconst (v := 1) (by decide) dX1_changeChampion_9 ?_
  refine r_isubE (v := nI (cn - 1)) (pk_sub (a := cn) (b := 1) (by omega)) dX1_changeChampion_10 ?_
  refine r_istore_n (n := 3) (i := 3) (L' := [(3, .int (nI (cn - 1))), (0, .ref q), (1, .int m), (2, .int da)]) rfl dX1_changeChampion_11 (by decide) rfl ?_
  refine r_iload_n (n := 3) (i := 3) 0 rfl rfl dX1_changeChampion_12 ?_
  refine r_if_lt (tgt := 39) (by decide) dX1_changeChampion_13 (fun h9 => absurd h9 (nI_pos (by omega))) (fun _ => ?_)
  refine r_iload_n (n := 3) (i := 3) 0 rfl rfl dX1_changeChampion_16 ?_
  refine r_aload_n (n := 0) (i := 0) 1 rfl rfl dX1_changeChampion_17 ?_
  refine p_get (fs := [.ref (q + 1), .ref (q + 2), .ref (q + 3), .ref (q + 4), .ref (q + 5), .ref (q + 6), .ref (q + 7), .int m, .int rv, .int sh, .int (nI fc), .int (nI cn), .int kp, .int rf]) flX1_21 (by exact bU_s _ _ _) rfl dX1_changeChampion_18 ?_
  refine p_alen2 (kd := 0) (n := 2001) (a := (2001, .inl cd)) rfl (by exact ((bU_n (by omega)).trans (h1))) rfl dX1_changeChampion_21 ?_
  refine r_icmp_ge (tgt := 39) (by decide) dX1_changeChampion_22 (fun h9 => absurd h9 (fun h7 => absurd ((nI_leI (a := 2001) (b := (cn - 1)) (by omega) (by omega)).mp h7) (by omega))) (fun _ => ?_)
  refine r_aload_n (n := 0) (i := 0) 1 rfl rfl dX1_changeChampion_25 ?_
  refine p_get (fs := [.ref (q + 1), .ref (q + 2), .ref (q + 3), .ref (q + 4), .ref (q + 5), .ref (q + 6), .ref (q + 7), .int m, .int rv, .int sh, .int (nI fc), .int (nI cn), .int kp, .int rf]) flX1_21 (by exact bU_s _ _ _) rfl dX1_changeChampion_26 ?_
  refine r_iload_n (n := 3) (i := 3) 0 rfl rfl dX1_changeChampion_29 ?_
  refine p_ialdN (t := cn - 1) (by exact ((bU_n (by omega)).trans (h1))) (by omega) (by omega) dX1_changeChampion_30 ?_
  refine r_iload_n (n := 2) (i := 2) 3 rfl rfl dX1_changeChampion_31 ?_
  refine r_icmp_ne (tgt := 39) (by decide) dX1_changeChampion_32 (fun c32 => ?_) (fun c32 => ?_)
  · have h9 := e1; first | rw [dAt_n c32] at h9 ⊢ | rw [dAt_l e2 c32] at h9 ⊢
    refine r_aload_n (n := 0) (i := 0) 1 rfl rfl dX1_changeChampion_39 ?_
    refine p_get (fs := [.ref (q + 1), .ref (q + 2), .ref (q + 3), .ref (q + 4), .ref (q + 5), .ref (q + 6), .ref (q + 7), .int m, .int rv, .int sh, .int (nI fc), .int (nI cn), .int kp, .int rf]) flX1_58 (by exact bU_s _ _ _) rfl dX1_changeChampion_40 ?_
    refine r_istore (i := 4) (L' := [(4, .int (nI cn)), (3, .int (nI (cn - 1))), (0, .ref q), (1, .int m), (2, .int da)]) dX1_changeChampion_43 (by decide) rfl ?_
    refine r_iload (i := 4) 0 rfl dX1_changeChampion_45 ?_
    refine r_if_lt (tgt := 94) (by decide) dX1_changeChampion_47 (fun h9 => absurd h9 (nI_pos (by omega))) (fun _ => ?_)
    refine r_iload (i := 4) 0 rfl dX1_changeChampion_50 ?_
    refine r_aload_n (n := 0) (i := 0) 2 rfl rfl dX1_changeChampion_52 ?_
    refine p_get (fs := [.ref (q + 1), .ref (q + 2), .ref (q + 3), .ref (q + 4), .ref (q + 5), .ref (q + 6), .ref (q + 7), .int m, .int rv, .int sh, .int (nI fc), .int (nI cn), .int kp, .int rf]) flX1_21 (by exact bU_s _ _ _) rfl dX1_changeChampion_53 ?_
    refine p_alen2 (kd := 0) (n := 2001) (a := (2001, .inl cd)) rfl (by exact ((bU_n (by omega)).trans (h1))) rfl dX1_changeChampion_56 ?_
    refine r_icmp_ge (tgt := 94) (by decide) dX1_changeChampion_57 (fun h9 => absurd h9 (fun h7 => absurd ((nI_leI (a := 2001) (b := cn) (by omega) (by omega)).mp h7) (by omega))) (fun _ => ?_)
    refine r_iload (i := 4) 0 rfl dX1_changeChampion_60 ?_
    refine r_aload_n (n := 0) (i := 0) 2 rfl rfl dX1_changeChampion_62 ?_
    refine p_get (fs := [.ref (q + 1), .ref (q + 2), .ref (q + 3), .ref (q + 4), .ref (q + 5), .ref (q + 6), .ref (q + 7), .int m, .int rv, .int sh, .int (nI fc), .int (nI cn), .int kp, .int rf]) flX1_24 (by exact bU_s _ _ _) rfl dX1_changeChampion_63 ?_
    refine p_alen2 (kd := 0) (n := 2001) (a := (2001, .inl ct)) rfl (by exact ((bU_n (by omega)).trans (h2))) rfl dX1_changeChampion_66 ?_
    refine r_icmp_ge (tgt := 94) (by decide) dX1_changeChampion_67 (fun h9 => absurd h9 (fun h7 => absurd ((nI_leI (a := 2001) (b := cn) (by omega) (by omega)).mp h7) (by omega))) (fun _ => ?_)
    refine r_aload_n (n := 0) (i := 0) 2 rfl rfl dX1_changeChampion_70 ?_
    refine p_get (fs := [.ref (q + 1), .ref (q + 2), .ref (q + 3), .ref (q + 4), .ref (q + 5), .ref (q + 6), .ref (q + 7), .int m, .int rv, .int sh, .int (nI fc), .int (nI cn), .int kp, .int rf]) flX1_21 (by exact bU_s _ _ _) rfl dX1_changeChampion_71 ?_
    refine r_iload (i := 4) 0 rfl dX1_changeChampion_74 ?_
    refine r_iload_n (n := 2) (i := 2) 4 rfl rfl dX1_changeChampion_76 ?_
    refine p_iastN (t := cn) (by exact ((bU_n (by omega)).trans (h1))) (by omega) (by omega) dX1_changeChampion_77 ?_
    refine r_aload_n (n := 0) (i := 0) 2 rfl rfl dX1_changeChampion_78 ?_
    refine p_get (fs := [.ref (q + 1), .ref (q + 2), .ref (q + 3), .ref (q + 4), .ref (q + 5), .ref (q + 6), .ref (q + 7), .int m, .int rv, .int sh, .int (nI fc), .int (nI cn), .int kp, .int rf]) flX1_24 (by exact ((bU_n (by omega)).trans (bU_s _ _ _))) rfl dX1_changeChampion_79 ?_
    refine r_iload (i := 4) 0 rfl dX1_changeChampion_82 ?_
    refine r_iload_n (n := 1) (i := 1) 3 rfl rfl dX1_changeChampion_84 ?_
    refine p_iastN (t := cn) (by exact ((bU_n (by omega)).trans (((bU_n (by omega)).trans (h2))))) (by omega) (by omega) dX1_changeChampion_85 ?_
    refine r_aload_n (n := 0) (i := 0) 2 rfl rfl dX1_changeChampion_86 ?_
    refine r_iload (i := 4) 0 rfl dX1_changeChampion_87 ?_
    refine r_iconst (v := 1) (by decide) dX1_changeChampion_89 ?_
    refine r_iaddE (v := nI (cn + 1)) (nI_add cn 1) dX1_changeChampion_90 ?_
    refine p_put (fs := [.ref (q + 1), .ref (q + 2), .ref (q + 3), .ref (q + 4), .ref (q + 5), .ref (q + 6), .ref (q + 7), .int m, .int rv, .int sh, .int (nI fc), .int (nI cn), .int kp, .int rf]) (fs' := [.ref (q + 1), .ref (q + 2), .ref (q + 3), .ref (q + 4), .ref (q + 5), .ref (q + 6), .ref (q + 7), .int m, .int rv, .int sh, .int (nI fc), .int (nI (cn + 1)), .int kp, .int rf]) flX1_58 (by exact ((bU_n (by omega)).trans (((bU_n (by omega)).trans (bU_s _ _ _))))) (Nat.le_of_ble_eq_true rfl) (bNf_i _) rfl dX1_changeChampion_91 ?_
    refine bV_h (f2 := bU (bU (bU f q (.inr (1, [.ref (q + 1), .ref (q + 2), .ref (q + 3), .ref (q + 4), .ref (q + 5), .ref (q + 6), .ref (q + 7), .int m, .int rv, .int sh, .int (nI fc), .int (nI (cn + 1)), .int kp, .int rf]))) (q + 4) (.inl (0, 2001, .inl (upd cd cn da)))) (q + 5) (.inl (0, 2001, .inl (upd ct cn m)))) (((bU_c (by omega)).trans (congrArg (fun z => bU z (q + 5) (.inl (0, 2001, .inl (upd ct cn m)))) (((bU_c (by omega)).trans (congrArg (fun z => bU z (q + 4) (.inl (0, 2001, .inl (upd cd cn da)))) (bU_u _ _ _ _))))))) ?_
    refine r_return rfl dX1_changeChampion_94 ?_
    refine ⟨rfl, ?_⟩
    simp only [Prod.mk.injEq, and_true]
    funext z; simp only [bU]; repeat (first | rfl | omega | split)
  · have h9 := e1; first | rw [dAt_n c32] at h9 ⊢ | rw [dAt_l e2 c32] at h9 ⊢
    refine r_iload_n (n := 3) (i := 3) 0 rfl rfl dX1_changeChampion_35 ?_
    refine r_goto (tgt := 43) (by decide) dX1_changeChampion_36 ?_
    refine r_istore (i := 4) (L' := [(4, .int (nI (cn - 1))), (3, .int (nI (cn - 1))), (0, .ref q), (1, .int m), (2, .int da)]) dX1_changeChampion_43 (by decide) rfl ?_
    refine r_iload (i := 4) 0 rfl dX1_changeChampion_45 ?_
    refine r_if_lt (tgt := 94) (by decide) dX1_changeChampion_47 (fun h9 => absurd h9 (nI_pos (by omega))) (fun _ => ?_)
    refine r_iload (i := 4) 0 rfl dX1_changeChampion_50 ?_
    refine r_aload_n (n := 0) (i := 0) 2 rfl rfl dX1_changeChampion_52 ?_
    refine p_get (fs := [.ref (q + 1), .ref (q + 2), .ref (q + 3), .ref (q + 4), .ref (q + 5), .ref (q + 6), .ref (q + 7), .int m, .int rv, .int sh, .int (nI fc), .int (nI cn), .int kp, .int rf]) flX1_21 (by exact bU_s _ _ _) rfl dX1_changeChampion_53 ?_
    refine p_alen2 (kd := 0) (n := 2001) (a := (2001, .inl cd)) rfl (by exact ((bU_n (by omega)).trans (h1))) rfl dX1_changeChampion_56 ?_
    refine r_icmp_ge (tgt := 94) (by decide) dX1_changeChampion_57 (fun h9 => absurd h9 (fun h7 => absurd ((nI_leI (a := 2001) (b := (cn - 1)) (by omega) (by omega)).mp h7) (by omega))) (fun _ => ?_)
    refine r_iload (i := 4) 0 rfl dX1_changeChampion_60 ?_
    refine r_aload_n (n := 0) (i := 0) 2 rfl rfl dX1_changeChampion_62 ?_
    refine p_get (fs := [.ref (q + 1), .ref (q + 2), .ref (q + 3), .ref (q + 4), .ref (q + 5), .ref (q + 6), .ref (q + 7), .int m, .int rv, .int sh, .int (nI fc), .int (nI cn), .int kp, .int rf]) flX1_24 (by exact bU_s _ _ _) rfl dX1_changeChampion_63 ?_
    refine p_alen2 (kd := 0) (n := 2001) (a := (2001, .inl ct)) rfl (by exact ((bU_n (by omega)).trans (h2))) rfl dX1_changeChampion_66 ?_
    refine r_icmp_ge (tgt := 94) (by decide) dX1_changeChampion_67 (fun h9 => absurd h9 (fun h7 => absurd ((nI_leI (a := 2001) (b := (cn - 1)) (by omega) (by omega)).mp h7) (by omega))) (fun _ => ?_)
    refine r_aload_n (n := 0) (i := 0) 2 rfl rfl dX1_changeChampion_70 ?_
    refine p_get (fs := [.ref (q + 1), .ref (q + 2), .ref (q + 3), .ref (q + 4), .ref (q + 5), .ref (q + 6), .ref (q + 7), .int m, .int rv, .int sh, .int (nI fc), .int (nI cn), .int kp, .int rf]) flX1_21 (by exact bU_s _ _ _) rfl dX1_changeChampion_71 ?_
    refine r_iload (i := 4) 0 rfl dX1_changeChampion_74 ?_
    refine r_iload_n (n := 2) (i := 2) 4 rfl rfl dX1_changeChampion_76 ?_
    refine p_iastN (t := cn - 1) (by exact ((bU_n (by omega)).trans (h1))) (by omega) (by omega) dX1_changeChampion_77 ?_
    refine r_aload_n (n := 0) (i := 0) 2 rfl rfl dX1_changeChampion_78 ?_
    refine p_get (fs := [.ref (q + 1), .ref (q + 2), .ref (q + 3), .ref (q + 4), .ref (q + 5), .ref (q + 6), .ref (q + 7), .int m, .int rv, .int sh, .int (nI fc), .int (nI cn), .int kp, .int rf]) flX1_24 (by exact ((bU_n (by omega)).trans (bU_s _ _ _))) rfl dX1_changeChampion_79 ?_
    refine r_iload (i := 4) 0 rfl dX1_changeChampion_82 ?_
    refine r_iload_n (n := 1) (i := 1) 3 rfl rfl dX1_changeChampion_84 ?_
    refine p_iastN (t := cn - 1) (by exact ((bU_n (by omega)).trans (((bU_n (by omega)).trans (h2))))) (by omega) (by omega) dX1_changeChampion_85 ?_
    refine r_aload_n (n := 0) (i := 0) 2 rfl rfl dX1_changeChampion_86 ?_
    refine r_iload (i := 4) 0 rfl dX1_changeChampion_87 ?_
    refine r_iconst (v := 1) (by decide) dX1_changeChampion_89 ?_
    refine r_iaddE (v := nI (cn - 1 + 1)) (nI_add (cn - 1) 1) dX1_changeChampion_90 ?_
    refine p_put (fs := [.ref (q + 1), .ref (q + 2), .ref (q + 3), .ref (q + 4), .ref (q + 5), .ref (q + 6), .ref (q + 7), .int m, .int rv, .int sh, .int (nI fc), .int (nI cn), .int kp, .int rf]) (fs' := [.ref (q + 1), .ref (q + 2), .ref (q + 3), .ref (q + 4), .ref (q + 5), .ref (q + 6), .ref (q + 7), .int m, .int rv, .int sh, .int (nI fc), .int (nI (cn - 1 + 1)), .int kp, .int rf]) flX1_58 (by exact ((bU_n (by omega)).trans (((bU_n (by omega)).trans (bU_s _ _ _))))) (Nat.le_of_ble_eq_true rfl) (bNf_i _) rfl dX1_changeChampion_91 ?_
    refine bV_h (f2 := bU (bU (bU f q (.inr (1, [.ref (q + 1), .ref (q + 2), .ref (q + 3), .ref (q + 4), .ref (q + 5), .ref (q + 6), .ref (q + 7), .int m, .int rv, .int sh, .int (nI fc), .int (nI (cn - 1 + 1)), .int kp, .int rf]))) (q + 4) (.inl (0, 2001, .inl (upd cd (cn - 1) da)))) (q + 5) (.inl (0, 2001, .inl (upd ct (cn - 1) m)))) (((bU_c (by omega)).trans (congrArg (fun z => bU z (q + 5) (.inl (0, 2001, .inl (upd ct (cn - 1) m)))) (((bU_c (by omega)).trans (congrArg (fun z => bU z (q + 4) (.inl (0, 2001, .inl (upd cd (cn - 1) da)))) (bU_u _ _ _ _))))))) ?_
    refine r_return rfl dX1_changeChampion_94 ?_
    refine ⟨rfl, ?_⟩
    simp only [Prod.mk.injEq, and_true]
    funext z; simp only [bU]; repeat (first | rfl | omega | split)
set_option maxRecDepth 4000 in
theorem kX1_changeChampionB {O : bO} {d : Nat} {f : bF} {n s : Nat} {q : Nat} {ch : Int32} {rv : Int32} {sh : Int32} {fc : Nat} {kp : Int32} {rf : Int32} {cd : Nat → Int32} {ct : Nat → Int32} {m : Int32} {da : Int32} (h0 : f q = some (.inr (1, [.ref (q + 1), .ref (q + 2), .ref (q + 3), .ref (q + 4), .ref (q + 5), .ref (q + 6), .ref (q + 7), .int ch, .int rv, .int sh, .int (nI fc), .int 0, .int kp, .int rf]))) (h1 : f (q + 4) = some (.inl (0, 2001, .inl cd))) (h2 : f (q + 5) = some (.inl (0, 2001, .inl ct)))  (hd : 0 ≤ d) : bMt O mX1_changeChampion d [.ref q, .int m, .int da] (f, n, s) (.inl none) (bU (bU (bU f (q + 4) (.inl (0, 2001, .inl (upd cd 0 da)))) (q + 5) (.inl (0, 2001, .inl (upd ct 0 m)))) q (.inr (1, [.ref (q + 1), .ref (q + 2), .ref (q + 3), .ref (q + 4), .ref (q + 5), .ref (q + 6), .ref (q + 7), .int m, .int rv, .int sh, .int (nI fc), .int 1, .int kp, .int rf])), n, s) := by
  refine bMt_of (bCall_of (by decide) rfl (Nat.le_of_ble_eq_true rfl) ?_)
  show bV O _ d 0 [(0, .ref q), (1, .int m), (2, .int da)] [] (f, n, s) _
  refine r_aload_n (n := 0) (i := 0) 0 rfl rfl dX1_changeChampion_0 ?_
  refine r_iload_n (n := 1) (i := 1) 1 rfl rfl dX1_changeChampion_1 ?_
  refine p_put (fs := [.ref (q + 1), .ref (q + 2), .ref (q + 3), .ref (q + 4), .ref (q + 5), .ref (q + 6), .ref (q + 7), .int ch, .int rv, .int sh, .int (nI fc), .int 0, .int kp, .int rf]) (fs' := [.ref (q + 1), .ref (q + 2), .ref (q + 3), .ref (q + 4), .ref (q + 5), .ref (q + 6), .ref (q + 7), .int m, .int rv, .int sh, .int (nI fc), .int 0, .int kp, .int rf]) flX1_33 h0 (Nat.le_of_ble_eq_true rfl) (bNf_i _) rfl dX1_changeChampion_2 ?_
  refine r_aload_n (n := 0) (i := 0) 0 rfl rfl dX1_changeChampion_5 ?_
  refine p_get (fs := [.ref (q + 1), .ref (q + 2), .ref (q + 3), .ref (q + 4), .ref (q + 5), .ref (q + 6), .ref (q + 7), .int m, .int rv, .int sh, .int (nI fc), .int 0, .int kp, .int rf]) flX1_58 (by exact bU_s _ _ _) rfl dX1_changeChampion_6 ?_
  refine r_iconst (v := 1) (by decide) dX1_changeChampion_9 ?_
  refine r_isubE (v := (-1)) (by decide) dX1_changeChampion_10 ?_
  refine r_istore_n (n := 3) (i := 3) (L' := [(3, .int (-1)), (0, .ref q), (1, .int m), (2, .int da)]) rfl dX1_changeChampion_11 (by decide) rfl ?_
  refine r_iload_n (n := 3) (i := 3) 0 rfl rfl dX1_changeChampion_12 ?_
  refine r_if_lt (tgt := 39) (by decide) dX1_changeChampion_13 (fun _ => ?_) (fun h9 => absurd (show ((-1) : Int32) < 0 by decide) h9)
  refine r_aload_n (n := 0) (i := 0) 1 rfl rfl dX1_changeChampion_39 ?_
  refine p_get (fs := [.ref (q + 1), .ref (q + 2), .ref (q + 3), .ref (q + 4), .ref (q + 5), .ref (q + 6), .ref (q + 7), .int m, .int rv, .int sh, .int (nI fc), .int 0, .int kp, .int rf]) flX1_58 (by exact bU_s _ _ _) rfl dX1_changeChampion_40 ?_
  refine r_istore (i := 4) (L' := [(4, .int 0), (3, .int (-1)), (0, .ref q), (1, .int m), (2, .int da)]) dX1_changeChampion_43 (by decide) rfl ?_
  refine r_iload (i := 4) 0 rfl dX1_changeChampion_45 ?_
  refine r_if_lt (tgt := 94) (by decide) dX1_changeChampion_47 (fun h9 => absurd h9 (show ¬ ((0 : Int32) < 0) by decide)) (fun _ => ?_)
  refine r_iload (i := 4) 0 rfl dX1_changeChampion_50 ?_
  refine r_aload_n (n := 0) (i := 0) 2 rfl rfl dX1_changeChampion_52 ?_
  refine p_get (fs := [.ref (q + 1), .ref (q + 2), .ref (q + 3), .ref (q + 4), .ref (q + 5), .ref (q + 6), .ref (q + 7), .int m, .int rv, .int sh, .int (nI fc), .int 0, .int kp, .int rf]) flX1_21 (by exact bU_s _ _ _) rfl dX1_changeChampion_53 ?_
  refine p_alen2 (kd := 0) (n := 2001) (a := (2001, .inl cd)) rfl (by exact ((bU_n (by omega)).trans (h1))) rfl dX1_changeChampion_56 ?_
  refine r_icmp_ge (tgt := 94) (by decide) dX1_changeChampion_57 (fun h9 => absurd h9 (show ¬ ((nI 2001) ≤ 0) by decide)) (fun _ => ?_)
  refine r_iload (i := 4) 0 rfl dX1_changeChampion_60 ?_
  refine r_aload_n (n := 0) (i := 0) 2 rfl rfl dX1_changeChampion_62 ?_
  refine p_get (fs := [.ref (q + 1), .ref (q + 2), .ref (q + 3), .ref (q + 4), .ref (q + 5), .ref (q + 6), .ref (q + 7), .int m, .int rv, .int sh, .int (nI fc), .int 0, .int kp, .int rf]) flX1_24 (by exact bU_s _ _ _) rfl dX1_changeChampion_63 ?_
  refine p_alen2 (kd := 0) (n := 2001) (a := (2001, .inl ct)) rfl (by exact ((bU_n (by omega)).trans (h2))) rfl dX1_changeChampion_66 ?_
  refine r_icmp_ge (tgt := 94) (by decide) dX1_changeChampion_67 (fun h9 => absurd h9 (show ¬ ((nI 2001) ≤ 0) by decide)) (fun _ => ?_)
  refine r_aload_n (n := 0) (i := 0) 2 rfl rfl dX1_changeChampion_70 ?_
  refine p_get (fs := [.ref (q + 1), .ref (q + 2), .ref (q + 3), .ref (q + 4), .ref (q + 5), .ref (q + 6), .ref (q + 7), .int m, .int rv, .int sh, .int (nI fc), .int 0, .int kp, .int rf]) flX1_21 (by exact bU_s _ _ _) rfl dX1_changeChampion_71 ?_
  refine r_iload (i := 4) 0 rfl dX1_changeChampion_74 ?_
  refine r_iload_n (n := 2) (i := 2) 4 rfl rfl dX1_changeChampion_76 ?_
  refine p_iastN (t := 0) (by exact ((bU_n (by omega)).trans (h1))) (by omega) (by omega) dX1_changeChampion_77 ?_
  refine r_aload_n (n := 0) (i := 0) 2 rfl rfl dX1_changeChampion_78 ?_
  refine p_get (fs := [.ref (q + 1), .ref (q + 2), .ref (q + 3), .ref (q + 4), .ref (q + 5), .ref (q + 6), .ref (q + 7), .int m, .int rv, .int sh, .int (nI fc), .int 0, .int kp, .int rf]) flX1_24 (by exact ((bU_n (by omega)).trans (bU_s _ _ _))) rfl dX1_changeChampion_79 ?_
  refine r_iload (i := 4) 0 rfl dX1_changeChampion_82 ?_
  refine r_iload_n (n := 1) (i := 1) 3 rfl rfl dX1_changeChampion_84 ?_
  refine p_iastN (t := 0) (by exact ((bU_n (by omega)).trans (((bU_n (by omega)).trans (h2))))) (by omega) (by omega) dX1_changeChampion_85 ?_
  refine r_aload_n (n := 0) (i := 0) 2 rfl rfl dX1_changeChampion_86 ?_
  refine r_iload (i := 4) 0 rfl dX1_changeChampion_87 ?_
  refine r_iconst (v := 1) (by decide) dX1_changeChampion_89 ?_
  refine r_iaddE (v := 1) (by decide) dX1_changeChampion_90 ?_
  refine p_put (fs := [.ref (q + 1), .ref (q + 2), .ref (q + 3), .ref (q + 4), .ref (q + 5), .ref (q + 6), .ref (q + 7), .int m, .int rv, .int sh, .int (nI fc), .int 0, .int kp, .int rf]) (fs' := [.ref (q + 1), .ref (q + 2), .ref (q + 3), .ref (q + 4), .ref (q + 5), .ref (q + 6), .ref (q + 7), .int m, .int rv, .int sh, .int (nI fc), .int 1, .int kp, .int rf]) flX1_58 (by exact ((bU_n (by omega)).trans (((bU_n (by omega)).trans (bU_s _ _ _))))) (Nat.le_of_ble_eq_true rfl) (bNf_i _) rfl dX1_changeChampion_91 ?_
  refine bV_h (f2 := bU (bU (bU f q (.inr (1, [.ref (q + 1), .ref (q + 2), .ref (q + 3), .ref (q + 4), .ref (q + 5), .ref (q + 6), .ref (q + 7), .int m, .int rv, .int sh, .int (nI fc), .int 1, .int kp, .int rf]))) (q + 4) (.inl (0, 2001, .inl (upd cd 0 da)))) (q + 5) (.inl (0, 2001, .inl (upd ct 0 m)))) (((bU_c (by omega)).trans (congrArg (fun z => bU z (q + 5) (.inl (0, 2001, .inl (upd ct 0 m)))) (((bU_c (by omega)).trans (congrArg (fun z => bU z (q + 4) (.inl (0, 2001, .inl (upd cd 0 da)))) (bU_u _ _ _ _))))))) ?_
  refine r_return rfl dX1_changeChampion_94 ?_
  refine ⟨rfl, ?_⟩
  simp only [Prod.mk.injEq, and_true]
  funext z; simp only [bU]; repeat (first | rfl | omega | split)
theorem kX1_changeChampion {O : bO} {d : Nat} {f : bF} {n s : Nat} {q : Nat} {ch : Int32} {rv : Int32} {sh : Int32} {fc : Nat} {cn : Nat} {kp : Int32} {rf : Int32} {cd : Nat → Int32} {ct : Nat → Int32} {m : Int32} {da : Int32} (h0 : f q = some (.inr (1, [.ref (q + 1), .ref (q + 2), .ref (q + 3), .ref (q + 4), .ref (q + 5), .ref (q + 6), .ref (q + 7), .int ch, .int rv, .int sh, .int (nI fc), .int (nI cn), .int kp, .int rf]))) (h1 : f (q + 4) = some (.inl (0, 2001, .inl cd))) (h2 : f (q + 5) = some (.inl (0, 2001, .inl ct))) (e0 : cn ≤ 2001) (e1 : dAt cd cn da < 2001) (hd : 0 ≤ d) : bMt O mX1_changeChampion d [.ref q, .int m, .int da] (f, n, s) (.inl none) (bU (bU (bU f (q + 4) (.inl (0, 2001, .inl (upd cd (dAt cd cn da) da)))) (q + 5) (.inl (0, 2001, .inl (upd ct (dAt cd cn da) m)))) q (.inr (1, [.ref (q + 1), .ref (q + 2), .ref (q + 3), .ref (q + 4), .ref (q + 5), .ref (q + 6), .ref (q + 7), .int m, .int rv, .int sh, .int (nI fc), .int (nI (dAt cd cn da + 1)), .int kp, .int rf])), n, s) := by
  by_cases h : cn = 0
  · subst h
    rw [dAt_0]
    exact kX1_changeChampionB h0 h1 h2 hd
  · exact kX1_changeChampionA h0 h1 h2 e0 e1 h hd
def jBn (v : Int32) : Nat := if -500 ≤ v then (if 0 ≤ v then (if 500 ≤ v then 3 else 2) else 1) else 0
theorem jBn_lt (v : Int32) : jBn v < 4 := by
  unfold jBn
  repeat (first | omega | split)
theorem jBin_in {k b : Nat} (h1 : k < 6) (h2 : b < 4) : jBin (nI k) (nI b) = true := by
  show (!decide (nI k < 0) && !decide (nI 6 ≤ nI k) && !decide (nI b < 0) && !decide (nI 4 ≤ nI b)) = true
  rw [decide_eq_false (nI_pos (by omega)), decide_eq_false (nI_pos (by omega)), decide_eq_false (nI_ge (b := 6) h1 (by omega)), decide_eq_false (nI_ge (b := 4) h2 (by omega))]
  rfl
set_option maxRecDepth 4000 in
theorem kX1_binOf {O : bO} {d : Nat} {f : bF} {n s : Nat} {v : Int32}   (hd : 0 ≤ d) : bMt O mX1_binOf d [.int v] (f, n, s) (.inl (some (.int (nI (jBn v))))) (f, n, s) := by
  refine bMt_of (bCall_of (by decide) rfl (Nat.le_of_ble_eq_true rfl) ?_)
  show bV O _ d 0 [(0, .int v)] [] (f, n, s) _
  refine r_iload_n (n := 0) (i := 0) 0 rfl rfl dX1_binOf_0 ?_
  refine r_sipush (v := (-500)) (by decide) dX1_binOf_1 ?_
  refine r_icmp_ge (tgt := 9) (by decide) dX1_binOf_4 (fun c4 => ?_) (fun c4 => ?_)
  · refine r_iload_n (n := 0) (i := 0) 0 rfl rfl dX1_binOf_9 ?_
    refine r_if_ge (tgt := 15) (by decide) dX1_binOf_10 (fun c10 => ?_) (fun c10 => ?_)
    · refine r_iload_n (n := 0) (i := 0) 0 rfl rfl dX1_binOf_15 ?_
      refine r_sipush (v := 500) (by decide) dX1_binOf_16 ?_
      refine r_icmp_ge (tgt := 26) (by decide) dX1_binOf_19 (fun c19 => ?_) (fun c19 => ?_)
      · refine r_iconst (v := 3) (by decide) dX1_binOf_26 ?_
        refine r_ireturn rfl dX1_binOf_27 ?_
        refine ⟨?_, rfl⟩
        unfold jBn
        try (first | simp only [if_pos c4] | simp only [if_neg c4])
        try (first | simp only [if_pos c10] | simp only [if_neg c10])
        try (first | simp only [if_pos c19] | simp only [if_neg c19])
        rfl
      · refine r_iconst (v := 2) (by decide) dX1_binOf_22 ?_
        refine r_goto (tgt := 27) (by decide) dX1_binOf_23 ?_
        refine r_ireturn rfl dX1_binOf_27 ?_
        refine ⟨?_, rfl⟩
        unfold jBn
        try (first | simp only [if_pos c4] | simp only [if_neg c4])
        try (first | simp only [if_pos c10] | simp only [if_neg c10])
        try (first | simp only [if_pos c19] | simp only [if_neg c19])
        rfl
    · refine r_iconst (v := 1) (by decide) dX1_binOf_13 ?_
      refine r_ireturn rfl dX1_binOf_14 ?_
      refine ⟨?_, rfl⟩
      unfold jBn
      try (first | simp only [if_pos c4] | simp only [if_neg c4])
      try (first | simp only [if_pos c10] | simp only [if_neg c10])
      rfl
  · refine r_iconst (v := 0) (by decide) dX1_binOf_7 ?_
    refine r_ireturn rfl dX1_binOf_8 ?_
    refine ⟨?_, rfl⟩
    unfold jBn
    try (first | simp only [if_pos c4] | simp only [if_neg c4])
    rfl
set_option maxRecDepth 4000 in
theorem kX1_seenIn {O : bO} {d : Nat} {f : bF} {n s : Nat} {q : Nat} {ch : Int32} {rv : Int32} {sh : Int32} {fc : Nat} {cn : Nat} {kp : Int32} {rf : Int32} {g : Nat → Int32} {k : Nat} {b : Nat} (h0 : f q = some (.inr (1, [.ref (q + 1), .ref (q + 2), .ref (q + 3), .ref (q + 4), .ref (q + 5), .ref (q + 6), .ref (q + 7), .int ch, .int rv, .int sh, .int (nI fc), .int (nI cn), .int kp, .int rf]))) (h1 : f (q + 6) = some (.inl (0, 24, .inl g))) (e0 : k < 6) (e1 : b < 4) (hd : 1 ≤ d) : bMt O mX1_seenIn d [.ref q, .int (nI k), .int (nI b)] (f, n, s) (.inl (some (.int (g (k * 4 + b))))) (f, n, s) := by
  refine bMt_of (bCall_of (by decide) rfl (Nat.le_of_ble_eq_true rfl) ?_)
  show bV O _ d 0 [(0, .ref q), (1, .int (nI k)), (2, .int (nI b))] [] (f, n, s) _
  refine r_iload_n (n := 1) (i := 1) 1 rfl rfl dX1_seenIn_0 ?_
  refine r_iload_n (n := 2) (i := 2) 2 rfl rfl dX1_seenIn_1 ?_
  refine p_callSN (As := [.int (nI k), .int (nI b)]) (rest := []) (kX7_isBin (O := O) (d := 0) (f := f) (n := n) (s := s) (k := nI k) (b := nI b)   (Nat.le_refl _)).call rfl lkNX1_87 smX7_isBin rfl rfl (by omega) (Nat.le_of_ble_eq_true rfl) dX1_seenIn_2 (fun v9 G9 h9 => ?_) (fun q9 G9 h9 => (by cases h9.1))
  obtain ⟨h8, rfl⟩ := h9; cases h8
  show bV O _ d 5 [(0, .ref q), (1, .int (nI k)), (2, .int (nI b))] [.int (bI (jBin (nI k) (nI b)))] (f, n, s) _
  refine r_if_eq (tgt := 21) (by decide) dX1_seenIn_5 (fun h9 => absurd h9 (fun h7 => absurd (bI_0.mp h7) (by rw [jBin_in e0 e1]; decide))) (fun _ => ?_)
  refine r_aload_n (n := 0) (i := 0) 0 rfl rfl dX1_seenIn_8 ?_
  refine p_get (fs := [.ref (q + 1), .ref (q + 2), .ref (q + 3), .ref (q + 4), .ref (q + 5), .ref (q + 6), .ref (q + 7), .int ch, .int rv, .int sh, .int (nI fc), .int (nI cn), .int kp, .int rf]) flX1_27 h0 rfl dX1_seenIn_9 ?_
  refine r_iload_n (n := 1) (i := 1) 1 rfl rfl dX1_seenIn_12 ?_
  refine r_iconst (v := 4) (by decide) dX1_seenIn_13 ?_
  refine r_imulE (v := nI (k * 4)) (pk_mul k 4) dX1_seenIn_14 ?_
  refine r_iload_n (n := 2) (i := 2) 2 rfl rfl dX1_seenIn_15 ?_
  refine r_iaddE (v := nI (k * 4 + b)) (nI_add (k * 4) b) dX1_seenIn_16 ?_
  refine p_ialdN (t := k * 4 + b) h1 (by omega) (by omega) dX1_seenIn_17 ?_
  refine r_goto (tgt := 22) (by decide) dX1_seenIn_18 ?_
  refine r_ireturn rfl dX1_seenIn_22 ?_
  refine ⟨?_, ?_⟩ <;> first | rfl | (simp []; done)
set_option maxRecDepth 4000 in
theorem kX1_toldIn {O : bO} {d : Nat} {f : bF} {n s : Nat} {q : Nat} {ch : Int32} {rv : Int32} {sh : Int32} {fc : Nat} {cn : Nat} {kp : Int32} {rf : Int32} {g : Nat → Int32} {k : Nat} {b : Nat} (h0 : f q = some (.inr (1, [.ref (q + 1), .ref (q + 2), .ref (q + 3), .ref (q + 4), .ref (q + 5), .ref (q + 6), .ref (q + 7), .int ch, .int rv, .int sh, .int (nI fc), .int (nI cn), .int kp, .int rf]))) (h1 : f (q + 7) = some (.inl (0, 24, .inl g))) (e0 : k < 6) (e1 : b < 4) (hd : 1 ≤ d) : bMt O mX1_toldIn d [.ref q, .int (nI k), .int (nI b)] (f, n, s) (.inl (some (.int (g (k * 4 + b))))) (f, n, s) := by
  refine bMt_of (bCall_of (by decide) rfl (Nat.le_of_ble_eq_true rfl) ?_)
  show bV O _ d 0 [(0, .ref q), (1, .int (nI k)), (2, .int (nI b))] [] (f, n, s) _
  refine r_iload_n (n := 1) (i := 1) 1 rfl rfl dX1_toldIn_0 ?_
  refine r_iload_n (n := 2) (i := 2) 2 rfl rfl dX1_toldIn_1 ?_
  refine p_callSN (As := [.int (nI k), .int (nI b)]) (rest := []) (kX7_isBin (O := O) (d := 0) (f := f) (n := n) (s := s) (k := nI k) (b := nI b)   (Nat.le_refl _)).call rfl lkNX1_87 smX7_isBin rfl rfl (by omega) (Nat.le_of_ble_eq_true rfl) dX1_toldIn_2 (fun v9 G9 h9 => ?_) (fun q9 G9 h9 => (by cases h9.1))
  obtain ⟨h8, rfl⟩ := h9; cases h8
  show bV O _ d 5 [(0, .ref q), (1, .int (nI k)), (2, .int (nI b))] [.int (bI (jBin (nI k) (nI b)))] (f, n, s) _
  refine r_if_eq (tgt := 21) (by decide) dX1_toldIn_5 (fun h9 => absurd h9 (fun h7 => absurd (bI_0.mp h7) (by rw [jBin_in e0 e1]; decide))) (fun _ => ?_)
  refine r_aload_n (n := 0) (i := 0) 0 rfl rfl dX1_toldIn_8 ?_
  refine p_get (fs := [.ref (q + 1), .ref (q + 2), .ref (q + 3), .ref (q + 4), .ref (q + 5), .ref (q + 6), .ref (q + 7), .int ch, .int rv, .int sh, .int (nI fc), .int (nI cn), .int kp, .int rf]) flX1_30 h0 rfl dX1_toldIn_9 ?_
  refine r_iload_n (n := 1) (i := 1) 1 rfl rfl dX1_toldIn_12 ?_
  refine r_iconst (v := 4) (by decide) dX1_toldIn_13 ?_
  refine r_imulE (v := nI (k * 4)) (pk_mul k 4) dX1_toldIn_14 ?_
  refine r_iload_n (n := 2) (i := 2) 2 rfl rfl dX1_toldIn_15 ?_
  refine r_iaddE (v := nI (k * 4 + b)) (nI_add (k * 4) b) dX1_toldIn_16 ?_
  refine p_ialdN (t := k * 4 + b) h1 (by omega) (by omega) dX1_toldIn_17 ?_
  refine r_goto (tgt := 22) (by decide) dX1_toldIn_18 ?_
  refine r_ireturn rfl dX1_toldIn_22 ?_
  refine ⟨?_, ?_⟩ <;> first | rfl | (simp []; done)
def jAll (g : Nat → Int32) (k : Nat) : Int64 := 0 + (g (k * 4 + 0)).toInt64 + (g (k * 4 + 1)).toInt64 + (g (k * 4 + 2)).toInt64 + (g (k * 4 + 3)).toInt64
def jFar (sn tl : Nat → Int32) (a b : Int64) (k j : Nat) : Int64 := lab ((sn (k * 4 + j)).toInt64 * b - (tl (k * 4 + j)).toInt64 * a)
def jMost (sn tl : Nat → Int32) (a b : Int64) (k : Nat) : Int64 := lmx (lmx (lmx (lmx 0 (jFar sn tl a b k 0)) (jFar sn tl a b k 1)) (jFar sn tl a b k 2)) (jFar sn tl a b k 3)
def jDrift (sn tl : Nat → Int32) (k : Nat) : Int32 := if jAll sn k ≤ 0 then 0 else if 0 < jAll tl k then (jMost sn tl (jAll sn k) (jAll tl k) k * 1000 / (jAll sn k * jAll tl k)).toInt32 else 0
set_option maxRecDepth 4000 in
theorem kX1_driftOf {O : bO} {d : Nat} {f : bF} {n s : Nat} {q : Nat} {ch : Int32} {rv : Int32} {sh : Int32} {fc : Nat} {cn : Nat} {kp : Int32} {rf : Int32} {sn : Nat → Int32} {tl : Nat → Int32} {k : Nat} (h0 : f q = some (.inr (1, [.ref (q + 1), .ref (q + 2), .ref (q + 3), .ref (q + 4), .ref (q + 5), .ref (q + 6), .ref (q + 7), .int ch, .int rv, .int sh, .int (nI fc), .int (nI cn), .int kp, .int rf]))) (h1 : f (q + 6) = some (.inl (0, 24, .inl sn))) (h2 : f (q + 7) = some (.inl (0, 24, .inl tl))) (e0 : k < 6) (e1 : ¬ jAll sn k ≤ 0 → 0 < jAll tl k → ¬ jAll sn k * jAll tl k = 0) (hd : 2 ≤ d) : bMt O mX1_driftOf d [.ref q, .int (nI k)] (f, n, s) (.inl (some (.int (jDrift sn tl k)))) (f, n, s) := by
  refine bMt_of (bCall_of (by decide) rfl (Nat.le_of_ble_eq_true rfl) ?_)
  show bV O _ d 0 [(0, .ref q), (1, .int (nI k))] [] (f, n, s) _
  refine r_lconst (v := 0) (by decide) dX1_driftOf_0 ?_
  refine r_lstore_n (n := 2) (i := 2) (L' := [(2, .long 0), (0, .ref q), (1, .int (nI k))]) rfl dX1_driftOf_1 (by decide) rfl ?_
  refine r_lconst (v := 0) (by decide) dX1_driftOf_2 ?_
  refine r_lstore (i := 4) (L' := [(4, .long 0), (2, .long 0), (0, .ref q), (1, .int (nI k))]) dX1_driftOf_3 (by decide) rfl ?_
  refine r_iconst (v := 0) (by decide) dX1_driftOf_5 ?_
  refine r_istore (i := 6) (L' := [(6, .int 0), (4, .long 0), (2, .long 0), (0, .ref q), (1, .int (nI k))]) dX1_driftOf_6 (by decide) rfl ?_
  refine r_iload (i := 6) 0 rfl dX1_driftOf_8 ?_
  refine r_iconst (v := 4) (by decide) dX1_driftOf_10 ?_
  refine r_icmp_ge (tgt := 44) (by decide) dX1_driftOf_11 (fun h9 => absurd h9 (show ¬ ((4 : Int32) ≤ 0) by decide)) (fun _ => ?_)
  refine r_lload_n (n := 2) (i := 2) 2 rfl rfl dX1_driftOf_14 ?_
  refine r_aload_n (n := 0) (i := 0) 3 rfl rfl dX1_driftOf_15 ?_
  refine r_iload_n (n := 1) (i := 1) 4 rfl rfl dX1_driftOf_16 ?_
  refine r_iload (i := 6) 0 rfl dX1_driftOf_17 ?_
  refine p_callV (As := [.int (nI k), .int 0]) (rest := [.long 0]) (kX1_seenIn (O := O) (d := 1) (f := f) (n := n) (s := s) (q := q) (ch := ch) (rv := rv) (sh := sh) (fc := fc) (cn := cn) (kp := kp) (rf := rf) (g := sn) (k := k) (b := 0) h0 h1 (by first | assumption | omega | decide) (by first | assumption | omega | decide) (Nat.le_refl _)).call rfl lkX1_68 imX1_seenIn seX1_seenIn rfl h0 rfl rfl (by omega) (Nat.le_of_ble_eq_true rfl) dX1_driftOf_19 (fun v9 G9 h9 => ?_) (fun q9 G9 h9 => (by cases h9.1))
  obtain ⟨h8, rfl⟩ := h9; cases h8
  show bV O _ d 22 [(6, .int 0), (4, .long 0), (2, .long 0), (0, .ref q), (1, .int (nI k))] [.int (sn (k * 4 + 0)), .long 0] (f, n, s) _
  refine r_i2l dX1_driftOf_22 ?_
  refine r_ladd dX1_driftOf_23 ?_
  refine r_lstore_n (n := 2) (i := 2) (L' := [(2, .long (0 + ((sn (k * 4 + 0)).toInt64))), (6, .int 0), (4, .long 0), (0, .ref q), (1, .int (nI k))]) rfl dX1_driftOf_24 (by decide) rfl ?_
  refine r_lload (i := 4) 2 rfl dX1_driftOf_25 ?_
  refine r_aload_n (n := 0) (i := 0) 3 rfl rfl dX1_driftOf_27 ?_
  refine r_iload_n (n := 1) (i := 1) 4 rfl rfl dX1_driftOf_28 ?_
  refine r_iload (i := 6) 1 rfl dX1_driftOf_29 ?_
  refine p_callV (As := [.int (nI k), .int 0]) (rest := [.long 0]) (kX1_toldIn (O := O) (d := 1) (f := f) (n := n) (s := s) (q := q) (ch := ch) (rv := rv) (sh := sh) (fc := fc) (cn := cn) (kp := kp) (rf := rf) (g := tl) (k := k) (b := 0) h0 h2 (by first | assumption | omega | decide) (by first | assumption | omega | decide) (Nat.le_refl _)).call rfl lkX1_72 imX1_toldIn seX1_toldIn rfl h0 rfl rfl (by omega) (Nat.le_of_ble_eq_true rfl) dX1_driftOf_31 (fun v9 G9 h9 => ?_) (fun q9 G9 h9 => (by cases h9.1))
  obtain ⟨h8, rfl⟩ := h9; cases h8
  show bV O _ d 34 [(2, .long (0 + ((sn (k * 4 + 0)).toInt64))), (6, .int 0), (4, .long 0), (0, .ref q), (1, .int (nI k))] [.int (tl (k * 4 + 0)), .long 0] (f, n, s) _
  refine r_i2l dX1_driftOf_34 ?_
  refine r_ladd dX1_driftOf_35 ?_
  refine r_lstore (i := 4) (L' := [(4, .long (0 + ((tl (k * 4 + 0)).toInt64))), (2, .long (0 + ((sn (k * 4 + 0)).toInt64))), (6, .int 0), (0, .ref q), (1, .int (nI k))]) dX1_driftOf_36 (by decide) rfl ?_
  refine r_iinc (i := 6) (v := 1) (L' := [(6, .int 1), (4, .long (0 + ((tl (k * 4 + 0)).toInt64))), (2, .long (0 + ((sn (k * 4 + 0)).toInt64))), (0, .ref q), (1, .int (nI k))]) 2 rfl (by decide) dX1_driftOf_38 (by decide) rfl ?_
  refine r_goto (tgt := 8) (by decide) dX1_driftOf_41 ?_
  refine r_iload (i := 6) 0 rfl dX1_driftOf_8 ?_
  refine r_iconst (v := 4) (by decide) dX1_driftOf_10 ?_
  refine r_icmp_ge (tgt := 44) (by decide) dX1_driftOf_11 (fun h9 => absurd h9 (show ¬ ((4 : Int32) ≤ 1) by decide)) (fun _ => ?_)
  refine r_lload_n (n := 2) (i := 2) 2 rfl rfl dX1_driftOf_14 ?_
  refine r_aload_n (n := 0) (i := 0) 3 rfl rfl dX1_driftOf_15 ?_
  refine r_iload_n (n := 1) (i := 1) 4 rfl rfl dX1_driftOf_16 ?_
  refine r_iload (i := 6) 0 rfl dX1_driftOf_17 ?_
  refine p_callV (As := [.int (nI k), .int 1]) (rest := [.long (0 + ((sn (k * 4 + 0)).toInt64))]) (kX1_seenIn (O := O) (d := 1) (f := f) (n := n) (s := s) (q := q) (ch := ch) (rv := rv) (sh := sh) (fc := fc) (cn := cn) (kp := kp) (rf := rf) (g := sn) (k := k) (b := 1) h0 h1 (by first | assumption | omega | decide) (by first | assumption | omega | decide) (Nat.le_refl _)).call rfl lkX1_68 imX1_seenIn seX1_seenIn rfl h0 rfl rfl (by omega) (Nat.le_of_ble_eq_true rfl) dX1_driftOf_19 (fun v9 G9 h9 => ?_) (fun q9 G9 h9 => (by cases h9.1))
  obtain ⟨h8, rfl⟩ := h9; cases h8
  show bV O _ d 22 [(6, .int 1), (4, .long (0 + ((tl (k * 4 + 0)).toInt64))), (2, .long (0 + ((sn (k * 4 + 0)).toInt64))), (0, .ref q), (1, .int (nI k))] [.int (sn (k * 4 + 1)), .long (0 + ((sn (k * 4 + 0)).toInt64))] (f, n, s) _
  refine r_i2l dX1_driftOf_22 ?_
  refine r_ladd dX1_driftOf_23 ?_
  refine r_lstore_n (n := 2) (i := 2) (L' := [(2, .long ((0 + ((sn (k * 4 + 0)).toInt64)) + ((sn (k * 4 + 1)).toInt64))), (6, .int 1), (4, .long (0 + ((tl (k * 4 + 0)).toInt64))), (0, .ref q), (1, .int (nI k))]) rfl dX1_driftOf_24 (by decide) rfl ?_
  refine r_lload (i := 4) 2 rfl dX1_driftOf_25 ?_
  refine r_aload_n (n := 0) (i := 0) 3 rfl rfl dX1_driftOf_27 ?_
  refine r_iload_n (n := 1) (i := 1) 4 rfl rfl dX1_driftOf_28 ?_
  refine r_iload (i := 6) 1 rfl dX1_driftOf_29 ?_
  refine p_callV (As := [.int (nI k), .int 1]) (rest := [.long (0 + ((tl (k * 4 + 0)).toInt64))]) (kX1_toldIn (O := O) (d := 1) (f := f) (n := n) (s := s) (q := q) (ch := ch) (rv := rv) (sh := sh) (fc := fc) (cn := cn) (kp := kp) (rf := rf) (g := tl) (k := k) (b := 1) h0 h2 (by first | assumption | omega | decide) (by first | assumption | omega | decide) (Nat.le_refl _)).call rfl lkX1_72 imX1_toldIn seX1_toldIn rfl h0 rfl rfl (by omega) (Nat.le_of_ble_eq_true rfl) dX1_driftOf_31 (fun v9 G9 h9 => ?_) (fun q9 G9 h9 => (by cases h9.1))
  obtain ⟨h8, rfl⟩ := h9; cases h8
  show bV O _ d 34 [(2, .long ((0 + ((sn (k * 4 + 0)).toInt64)) + ((sn (k * 4 + 1)).toInt64))), (6, .int 1), (4, .long (0 + ((tl (k * 4 + 0)).toInt64))), (0, .ref q), (1, .int (nI k))] [.int (tl (k * 4 + 1)), .long (0 + ((tl (k * 4 + 0)).toInt64))] (f, n, s) _
  refine r_i2l dX1_driftOf_34 ?_
  refine r_ladd dX1_driftOf_35 ?_
  refine r_lstore (i := 4) (L' := [(4, .long ((0 + ((tl (k * 4 + 0)).toInt64)) + ((tl (k * 4 + 1)).toInt64))), (2, .long ((0 + ((sn (k * 4 + 0)).toInt64)) + ((sn (k * 4 + 1)).toInt64))), (6, .int 1), (0, .ref q), (1, .int (nI k))]) dX1_driftOf_36 (by decide) rfl ?_
  refine r_iinc (i := 6) (v := 2) (L' := [(6, .int 2), (4, .long ((0 + ((tl (k * 4 + 0)).toInt64)) + ((tl (k * 4 + 1)).toInt64))), (2, .long ((0 + ((sn (k * 4 + 0)).toInt64)) + ((sn (k * 4 + 1)).toInt64))), (0, .ref q), (1, .int (nI k))]) 2 rfl (by decide) dX1_driftOf_38 (by decide) rfl ?_
  refine r_goto (tgt := 8) (by decide) dX1_driftOf_41 ?_
  refine r_iload (i := 6) 0 rfl dX1_driftOf_8 ?_
  refine r_iconst (v := 4) (by decide) dX1_driftOf_10 ?_
  refine r_icmp_ge (tgt := 44) (by decide) dX1_driftOf_11 (fun h9 => absurd h9 (show ¬ ((4 : Int32) ≤ 2) by decide)) (fun _ => ?_)
  refine r_lload_n (n := 2) (i := 2) 2 rfl rfl dX1_driftOf_14 ?_
  refine r_aload_n (n := 0) (i := 0) 3 rfl rfl dX1_driftOf_15 ?_
  refine r_iload_n (n := 1) (i := 1) 4 rfl rfl dX1_driftOf_16 ?_
  refine r_iload (i := 6) 0 rfl dX1_driftOf_17 ?_
  refine p_callV (As := [.int (nI k), .int 2]) (rest := [.long ((0 + ((sn (k * 4 + 0)).toInt64)) + ((sn (k * 4 + 1)).toInt64))]) (kX1_seenIn (O := O) (d := 1) (f := f) (n := n) (s := s) (q := q) (ch := ch) (rv := rv) (sh := sh) (fc := fc) (cn := cn) (kp := kp) (rf := rf) (g := sn) (k := k) (b := 2) h0 h1 (by first | assumption | omega | decide) (by first | assumption | omega | decide) (Nat.le_refl _)).call rfl lkX1_68 imX1_seenIn seX1_seenIn rfl h0 rfl rfl (by omega) (Nat.le_of_ble_eq_true rfl) dX1_driftOf_19 (fun v9 G9 h9 => ?_) (fun q9 G9 h9 => (by cases h9.1))
  obtain ⟨h8, rfl⟩ := h9; cases h8
  show bV O _ d 22 [(6, .int 2), (4, .long ((0 + ((tl (k * 4 + 0)).toInt64)) + ((tl (k * 4 + 1)).toInt64))), (2, .long ((0 + ((sn (k * 4 + 0)).toInt64)) + ((sn (k * 4 + 1)).toInt64))), (0, .ref q), (1, .int (nI k))] [.int (sn (k * 4 + 2)), .long ((0 + ((sn (k * 4 + 0)).toInt64)) + ((sn (k * 4 + 1)).toInt64))] (f, n, s) _
  refine r_i2l dX1_driftOf_22 ?_
  refine r_ladd dX1_driftOf_23 ?_
  refine r_lstore_n (n := 2) (i := 2) (L' := [(2, .long (((0 + ((sn (k * 4 + 0)).toInt64)) + ((sn (k * 4 + 1)).toInt64)) + ((sn (k * 4 + 2)).toInt64))), (6, .int 2), (4, .long ((0 + ((tl (k * 4 + 0)).toInt64)) + ((tl (k * 4 + 1)).toInt64))), (0, .ref q), (1, .int (nI k))]) rfl dX1_driftOf_24 (by decide) rfl ?_
  refine r_lload (i := 4) 2 rfl dX1_driftOf_25 ?_
  refine r_aload_n (n := 0) (i := 0) 3 rfl rfl dX1_driftOf_27 ?_
  refine r_iload_n (n := 1) (i := 1) 4 rfl rfl dX1_driftOf_28 ?_
  refine r_iload (i := 6) 1 rfl dX1_driftOf_29 ?_
  refine p_callV (As := [.int (nI k), .int 2]) (rest := [.long ((0 + ((tl (k * 4 + 0)).toInt64)) + ((tl (k * 4 + 1)).toInt64))]) (kX1_toldIn (O := O) (d := 1) (f := f) (n := n) (s := s) (q := q) (ch := ch) (rv := rv) (sh := sh) (fc := fc) (cn := cn) (kp := kp) (rf := rf) (g := tl) (k := k) (b := 2) h0 h2 (by first | assumption | omega | decide) (by first | assumption | omega | decide) (Nat.le_refl _)).call rfl lkX1_72 imX1_toldIn seX1_toldIn rfl h0 rfl rfl (by omega) (Nat.le_of_ble_eq_true rfl) dX1_driftOf_31 (fun v9 G9 h9 => ?_) (fun q9 G9 h9 => (by cases h9.1))
  obtain ⟨h8, rfl⟩ := h9; cases h8
  show bV O _ d 34 [(2, .long (((0 + ((sn (k * 4 + 0)).toInt64)) + ((sn (k * 4 + 1)).toInt64)) + ((sn (k * 4 + 2)).toInt64))), (6, .int 2), (4, .long ((0 + ((tl (k * 4 + 0)).toInt64)) + ((tl (k * 4 + 1)).toInt64))), (0, .ref q), (1, .int (nI k))] [.int (tl (k * 4 + 2)), .long ((0 + ((tl (k * 4 + 0)).toInt64)) + ((tl (k * 4 + 1)).toInt64))] (f, n, s) _
  refine r_i2l dX1_driftOf_34 ?_
  refine r_ladd dX1_driftOf_35 ?_
  refine r_lstore (i := 4) (L' := [(4, .long (((0 + ((tl (k * 4 + 0)).toInt64)) + ((tl (k * 4 + 1)).toInt64)) + ((tl (k * 4 + 2)).toInt64))), (2, .long (((0 + ((sn (k * 4 + 0)).toInt64)) + ((sn (k * 4 + 1)).toInt64)) + ((sn (k * 4 + 2)).toInt64))), (6, .int 2), (0, .ref q), (1, .int (nI k))]) dX1_driftOf_36 (by decide) rfl ?_
  refine r_iinc (i := 6) (v := 3) (L' := [(6, .int 3), (4, .long (((0 + ((tl (k * 4 + 0)).toInt64)) + ((tl (k * 4 + 1)).toInt64)) + ((tl (k * 4 + 2)).toInt64))), (2, .long (((0 + ((sn (k * 4 + 0)).toInt64)) + ((sn (k * 4 + 1)).toInt64)) + ((sn (k * 4 + 2)).toInt64))), (0, .ref q), (1, .int (nI k))]) 2 rfl (by decide) dX1_driftOf_38 (by decide) rfl ?_
  refine r_goto (tgt := 8) (by decide) dX1_driftOf_41 ?_
  refine r_iload (i := 6) 0 rfl dX1_driftOf_8 ?_
  refine r_iconst (v := 4) (by decide) dX1_driftOf_10 ?_
  refine r_icmp_ge (tgt := 44) (by decide) dX1_driftOf_11 (fun h9 => absurd h9 (show ¬ ((4 : Int32) ≤ 3) by decide)) (fun _ => ?_)
  refine r_lload_n (n := 2) (i := 2) 2 rfl rfl dX1_driftOf_14 ?_
  refine r_aload_n (n := 0) (i := 0) 3 rfl rfl dX1_driftOf_15 ?_
  refine r_iload_n (n := 1) (i := 1) 4 rfl rfl dX1_driftOf_16 ?_
  refine r_iload (i := 6) 0 rfl dX1_driftOf_17 ?_
  refine p_callV (As := [.int (nI k), .int 3]) (rest := [.long (((0 + ((sn (k * 4 + 0)).toInt64)) + ((sn (k * 4 + 1)).toInt64)) + ((sn (k * 4 + 2)).toInt64))]) (kX1_seenIn (O := O) (d := 1) (f := f) (n := n) (s := s) (q := q) (ch := ch) (rv := rv) (sh := sh) (fc := fc) (cn := cn) (kp := kp) (rf := rf) (g := sn) (k := k) (b := 3) h0 h1 (by first | assumption | omega | decide) (by first | assumption | omega | decide) (Nat.le_refl _)).call rfl lkX1_68 imX1_seenIn seX1_seenIn rfl h0 rfl rfl (by omega) (Nat.le_of_ble_eq_true rfl) dX1_driftOf_19 (fun v9 G9 h9 => ?_) (fun q9 G9 h9 => (by cases h9.1))
  obtain ⟨h8, rfl⟩ := h9; cases h8
  show bV O _ d 22 [(6, .int 3), (4, .long (((0 + ((tl (k * 4 + 0)).toInt64)) + ((tl (k * 4 + 1)).toInt64)) + ((tl (k * 4 + 2)).toInt64))), (2, .long (((0 + ((sn (k * 4 + 0)).toInt64)) + ((sn (k * 4 + 1)).toInt64)) + ((sn (k * 4 + 2)).toInt64))), (0, .ref q), (1, .int (nI k))] [.int (sn (k * 4 + 3)), .long (((0 + ((sn (k * 4 + 0)).toInt64)) + ((sn (k * 4 + 1)).toInt64)) + ((sn (k * 4 + 2)).toInt64))] (f, n, s) _
  refine r_i2l dX1_driftOf_22 ?_
  refine r_ladd dX1_driftOf_23 ?_
  refine r_lstore_n (n := 2) (i := 2) (L' := [(2, .long ((((0 + ((sn (k * 4 + 0)).toInt64)) + ((sn (k * 4 + 1)).toInt64)) + ((sn (k * 4 + 2)).toInt64)) + ((sn (k * 4 + 3)).toInt64))), (6, .int 3), (4, .long (((0 + ((tl (k * 4 + 0)).toInt64)) + ((tl (k * 4 + 1)).toInt64)) + ((tl (k * 4 + 2)).toInt64))), (0, .ref q), (1, .int (nI k))]) rfl dX1_driftOf_24 (by decide) rfl ?_
  refine r_lload (i := 4) 2 rfl dX1_driftOf_25 ?_
  refine r_aload_n (n := 0) (i := 0) 3 rfl rfl dX1_driftOf_27 ?_
  refine r_iload_n (n := 1) (i := 1) 4 rfl rfl dX1_driftOf_28 ?_
  refine r_iload (i := 6) 1 rfl dX1_driftOf_29 ?_
  refine p_callV (As := [.int (nI k), .int 3]) (rest := [.long (((0 + ((tl (k * 4 + 0)).toInt64)) + ((tl (k * 4 + 1)).toInt64)) + ((tl (k * 4 + 2)).toInt64))]) (kX1_toldIn (O := O) (d := 1) (f := f) (n := n) (s := s) (q := q) (ch := ch) (rv := rv) (sh := sh) (fc := fc) (cn := cn) (kp := kp) (rf := rf) (g := tl) (k := k) (b := 3) h0 h2 (by first | assumption | omega | decide) (by first | assumption | omega | decide) (Nat.le_refl _)).call rfl lkX1_72 imX1_toldIn seX1_toldIn rfl h0 rfl rfl (by omega) (Nat.le_of_ble_eq_true rfl) dX1_driftOf_31 (fun v9 G9 h9 => ?_) (fun q9 G9 h9 => (by cases h9.1))
  obtain ⟨h8, rfl⟩ := h9; cases h8
  show bV O _ d 34 [(2, .long ((((0 + ((sn (k * 4 + 0)).toInt64)) + ((sn (k * 4 + 1)).toInt64)) + ((sn (k * 4 + 2)).toInt64)) + ((sn (k * 4 + 3)).toInt64))), (6, .int 3), (4, .long (((0 + ((tl (k * 4 + 0)).toInt64)) + ((tl (k * 4 + 1)).toInt64)) + ((tl (k * 4 + 2)).toInt64))), (0, .ref q), (1, .int (nI k))] [.int (tl (k * 4 + 3)), .long (((0 + ((tl (k * 4 + 0)).toInt64)) + ((tl (k * 4 + 1)).toInt64)) + ((tl (k * 4 + 2)).toInt64))] (f, n, s) _
  refine r_i2l dX1_driftOf_34 ?_
  refine r_ladd dX1_driftOf_35 ?_
  refine r_lstore (i := 4) (L' := [(4, .long ((((0 + ((tl (k * 4 + 0)).toInt64)) + ((tl (k * 4 + 1)).toInt64)) + ((tl (k * 4 + 2)).toInt64)) + ((tl (k * 4 + 3)).toInt64))), (2, .long ((((0 + ((sn (k * 4 + 0)).toInt64)) + ((sn (k * 4 + 1)).toInt64)) + ((sn (k * 4 + 2)).toInt64)) + ((sn (k * 4 + 3)).toInt64))), (6, .int 3), (0, .ref q), (1, .int (nI k))]) dX1_driftOf_36 (by decide) rfl ?_
  refine r_iinc (i := 6) (v := 4) (L' := [(6, .int 4), (4, .long ((((0 + ((tl (k * 4 + 0)).toInt64)) + ((tl (k * 4 + 1)).toInt64)) + ((tl (k * 4 + 2)).toInt64)) + ((tl (k * 4 + 3)).toInt64))), (2, .long ((((0 + ((sn (k * 4 + 0)).toInt64)) + ((sn (k * 4 + 1)).toInt64)) + ((sn (k * 4 + 2)).toInt64)) + ((sn (k * 4 + 3)).toInt64))), (0, .ref q), (1, .int (nI k))]) 2 rfl (by decide) dX1_driftOf_38 (by decide) rfl ?_
  refine r_goto (tgt := 8) (by decide) dX1_driftOf_41 ?_
  refine r_iload (i := 6) 0 rfl dX1_driftOf_8 ?_
  refine r_iconst (v := 4) (by decide) dX1_driftOf_10 ?_
  refine r_icmp_ge (tgt := 44) (by decide) dX1_driftOf_11 (fun _ => ?_) (fun h9 => absurd (show (4 : Int32) ≤ 4 by decide) h9)
  refine r_lload_n (n := 2) (i := 2) 2 rfl rfl dX1_driftOf_44 ?_
  refine r_lconst (v := 0) (by decide) dX1_driftOf_45 ?_
  refine r_lcmp dX1_driftOf_46 ?_
  refine r_if_le (tgt := 57) (by decide) dX1_driftOf_47 (fun c47 => ?_) (fun c47 => ?_)
  · have c47 := (lg_cmp_le _ _).mp c47
    first | have c47 : jAll sn k ≤ 0 := c47 | have c47 : ¬ jAll sn k ≤ 0 := c47
    refine r_iconst (v := 0) (by decide) dX1_driftOf_57 ?_
    refine r_ireturn rfl dX1_driftOf_58 ?_
    refine ⟨?_, rfl⟩
    unfold jDrift
    rw [if_pos c47]
  · have c47 : ¬ ((((0 + ((sn (k * 4 + 0)).toInt64)) + ((sn (k * 4 + 1)).toInt64)) + ((sn (k * 4 + 2)).toInt64)) + ((sn (k * 4 + 3)).toInt64)) ≤ 0 := fun h7 => c47 ((lg_cmp_le _ _).mpr h7)
    first | have c47 : jAll sn k ≤ 0 := c47 | have c47 : ¬ jAll sn k ≤ 0 := c47
    refine r_lload (i := 4) 1 rfl dX1_driftOf_50 ?_
    refine r_lconst (v := 0) (by decide) dX1_driftOf_52 ?_
    refine r_lcmp dX1_driftOf_53 ?_
    refine r_if_gt (tgt := 59) (by decide) dX1_driftOf_54 (fun c54 => ?_) (fun c54 => ?_)
    · have c54 := (lg_cmp_gt _ _).mp c54
      first | have c54 : 0 < jAll tl k := c54 | have c54 : ¬ 0 < jAll tl k := c54
      refine r_lconst (v := 0) (by decide) dX1_driftOf_59 ?_
      refine r_lstore (i := 6) (L' := [(6, .long 0), (4, .long ((((0 + ((tl (k * 4 + 0)).toInt64)) + ((tl (k * 4 + 1)).toInt64)) + ((tl (k * 4 + 2)).toInt64)) + ((tl (k * 4 + 3)).toInt64))), (2, .long ((((0 + ((sn (k * 4 + 0)).toInt64)) + ((sn (k * 4 + 1)).toInt64)) + ((sn (k * 4 + 2)).toInt64)) + ((sn (k * 4 + 3)).toInt64))), (0, .ref q), (1, .int (nI k))]) dX1_driftOf_60 (by decide) rfl ?_
      refine r_iconst (v := 0) (by decide) dX1_driftOf_62 ?_
      refine r_istore (i := 8) (L' := [(8, .int 0), (6, .long 0), (4, .long ((((0 + ((tl (k * 4 + 0)).toInt64)) + ((tl (k * 4 + 1)).toInt64)) + ((tl (k * 4 + 2)).toInt64)) + ((tl (k * 4 + 3)).toInt64))), (2, .long ((((0 + ((sn (k * 4 + 0)).toInt64)) + ((sn (k * 4 + 1)).toInt64)) + ((sn (k * 4 + 2)).toInt64)) + ((sn (k * 4 + 3)).toInt64))), (0, .ref q), (1, .int (nI k))]) dX1_driftOf_63 (by decide) rfl ?_
      refine r_iload (i := 8) 0 rfl dX1_driftOf_65 ?_
      refine r_iconst (v := 4) (by decide) dX1_driftOf_67 ?_
      refine r_icmp_ge (tgt := 109) (by decide) dX1_driftOf_68 (fun h9 => absurd h9 (show ¬ ((4 : Int32) ≤ 0) by decide)) (fun _ => ?_)
      refine r_lload (i := 6) 1 rfl dX1_driftOf_71 ?_
      refine r_aload_n (n := 0) (i := 0) 4 rfl rfl dX1_driftOf_73 ?_
      refine r_iload_n (n := 1) (i := 1) 5 rfl rfl dX1_driftOf_74 ?_
      refine r_iload (i := 8) 0 rfl dX1_driftOf_75 ?_
      refine p_callV (As := [.int (nI k), .int 0]) (rest := [.long 0]) (kX1_seenIn (O := O) (d := 1) (f := f) (n := n) (s := s) (q := q) (ch := ch) (rv := rv) (sh := sh) (fc := fc) (cn := cn) (kp := kp) (rf := rf) (g := sn) (k := k) (b := 0) h0 h1 (by first | assumption | omega | decide) (by first | assumption | omega | decide) (Nat.le_refl _)).call rfl lkX1_68 imX1_seenIn seX1_seenIn rfl h0 rfl rfl (by omega) (Nat.le_of_ble_eq_true rfl) dX1_driftOf_77 (fun v9 G9 h9 => ?_) (fun q9 G9 h9 => (by cases h9.1))
      obtain ⟨h8, rfl⟩ := h9; cases h8
      show bV O _ d 80 [(8, .int 0), (6, .long 0), (4, .long ((((0 + ((tl (k * 4 + 0)).toInt64)) + ((tl (k * 4 + 1)).toInt64)) + ((tl (k * 4 + 2)).toInt64)) + ((tl (k * 4 + 3)).toInt64))), (2, .long ((((0 + ((sn (k * 4 + 0)).toInt64)) + ((sn (k * 4 + 1)).toInt64)) + ((sn (k * 4 + 2)).toInt64)) + ((sn (k * 4 + 3)).toInt64))), (0, .ref q), (1, .int (nI k))] [.int (sn (k * 4 + 0)), .long 0] (f, n, s) _
      refine r_i2l dX1_driftOf_80 ?_
      refine r_lload (i := 4) 2 rfl dX1_driftOf_81 ?_
      refine r_lmul dX1_driftOf_83 ?_
      refine r_aload_n (n := 0) (i := 0) 4 rfl rfl dX1_driftOf_84 ?_
      refine r_iload_n (n := 1) (i := 1) 5 rfl rfl dX1_driftOf_85 ?_
      refine r_iload (i := 8) 0 rfl dX1_driftOf_86 ?_
      refine p_callV (As := [.int (nI k), .int 0]) (rest := [.long (((sn (k * 4 + 0)).toInt64) * ((((0 + ((tl (k * 4 + 0)).toInt64)) + ((tl (k * 4 + 1)).toInt64)) + ((tl (k * 4 + 2)).toInt64)) + ((tl (k * 4 + 3)).toInt64))), .long 0]) (kX1_toldIn (O := O) (d := 1) (f := f) (n := n) (s := s) (q := q) (ch := ch) (rv := rv) (sh := sh) (fc := fc) (cn := cn) (kp := kp) (rf := rf) (g := tl) (k := k) (b := 0) h0 h2 (by first | assumption | omega | decide) (by first | assumption | omega | decide) (Nat.le_refl _)).call rfl lkX1_72 imX1_toldIn seX1_toldIn rfl h0 rfl rfl (by omega) (Nat.le_of_ble_eq_true rfl) dX1_driftOf_88 (fun v9 G9 h9 => ?_) (fun q9 G9 h9 => (by cases h9.1))
      obtain ⟨h8, rfl⟩ := h9; cases h8
      show bV O _ d 91 [(8, .int 0), (6, .long 0), (4, .long ((((0 + ((tl (k * 4 + 0)).toInt64)) + ((tl (k * 4 + 1)).toInt64)) + ((tl (k * 4 + 2)).toInt64)) + ((tl (k * 4 + 3)).toInt64))), (2, .long ((((0 + ((sn (k * 4 + 0)).toInt64)) + ((sn (k * 4 + 1)).toInt64)) + ((sn (k * 4 + 2)).toInt64)) + ((sn (k * 4 + 3)).toInt64))), (0, .ref q), (1, .int (nI k))] [.int (tl (k * 4 + 0)), .long (((sn (k * 4 + 0)).toInt64) * ((((0 + ((tl (k * 4 + 0)).toInt64)) + ((tl (k * 4 + 1)).toInt64)) + ((tl (k * 4 + 2)).toInt64)) + ((tl (k * 4 + 3)).toInt64))), .long 0] (f, n, s) _
      refine r_i2l dX1_driftOf_91 ?_
      refine r_lload_n (n := 2) (i := 2) 3 rfl rfl dX1_driftOf_92 ?_
      refine r_lmul dX1_driftOf_93 ?_
      refine r_lsub dX1_driftOf_94 ?_
      refine r_mabsL (by omega) lkX1_75 (Nat.le_of_ble_eq_true rfl) dX1_driftOf_95 ?_
      refine r_mmaxL (by omega) lkX1_81 (Nat.le_of_ble_eq_true rfl) dX1_driftOf_98 ?_
      refine r_lstore (i := 6) (L' := [(6, .long (lmx 0 (lab ((((sn (k * 4 + 0)).toInt64) * ((((0 + ((tl (k * 4 + 0)).toInt64)) + ((tl (k * 4 + 1)).toInt64)) + ((tl (k * 4 + 2)).toInt64)) + ((tl (k * 4 + 3)).toInt64))) - (((tl (k * 4 + 0)).toInt64) * ((((0 + ((sn (k * 4 + 0)).toInt64)) + ((sn (k * 4 + 1)).toInt64)) + ((sn (k * 4 + 2)).toInt64)) + ((sn (k * 4 + 3)).toInt64))))))), (8, .int 0), (4, .long ((((0 + ((tl (k * 4 + 0)).toInt64)) + ((tl (k * 4 + 1)).toInt64)) + ((tl (k * 4 + 2)).toInt64)) + ((tl (k * 4 + 3)).toInt64))), (2, .long ((((0 + ((sn (k * 4 + 0)).toInt64)) + ((sn (k * 4 + 1)).toInt64)) + ((sn (k * 4 + 2)).toInt64)) + ((sn (k * 4 + 3)).toInt64))), (0, .ref q), (1, .int (nI k))]) dX1_driftOf_101 (by decide) rfl ?_
      refine r_iinc (i := 8) (v := 1) (L' := [(8, .int 1), (6, .long (lmx 0 (lab ((((sn (k * 4 + 0)).toInt64) * ((((0 + ((tl (k * 4 + 0)).toInt64)) + ((tl (k * 4 + 1)).toInt64)) + ((tl (k * 4 + 2)).toInt64)) + ((tl (k * 4 + 3)).toInt64))) - (((tl (k * 4 + 0)).toInt64) * ((((0 + ((sn (k * 4 + 0)).toInt64)) + ((sn (k * 4 + 1)).toInt64)) + ((sn (k * 4 + 2)).toInt64)) + ((sn (k * 4 + 3)).toInt64))))))), (4, .long ((((0 + ((tl (k * 4 + 0)).toInt64)) + ((tl (k * 4 + 1)).toInt64)) + ((tl (k * 4 + 2)).toInt64)) + ((tl (k * 4 + 3)).toInt64))), (2, .long ((((0 + ((sn (k * 4 + 0)).toInt64)) + ((sn (k * 4 + 1)).toInt64)) + ((sn (k * 4 + 2)).toInt64)) + ((sn (k * 4 + 3)).toInt64))), (0, .ref q), (1, .int (nI k))]) 1 rfl (by decide) dX1_driftOf_103 (by decide) rfl ?_
      refine r_goto (tgt := 65) (by decide) dX1_driftOf_106 ?_
      refine r_iload (i := 8) 0 rfl dX1_driftOf_65 ?_
      refine r_iconst (v := 4) (by decide) dX1_driftOf_67 ?_
      refine r_icmp_ge (tgt := 109) (by decide) dX1_driftOf_68 (fun h9 => absurd h9 (show ¬ ((4 : Int32) ≤ 1) by decide)) (fun _ => ?_)
      refine r_lload (i := 6) 1 rfl dX1_driftOf_71 ?_
      refine r_aload_n (n := 0) (i := 0) 4 rfl rfl dX1_driftOf_73 ?_
      refine r_iload_n (n := 1) (i := 1) 5 rfl rfl dX1_driftOf_74 ?_
      refine r_iload (i := 8) 0 rfl dX1_driftOf_75 ?_
      refine p_callV (As := [.int (nI k), .int 1]) (rest := [.long (lmx 0 (lab ((((sn (k * 4 + 0)).toInt64) * ((((0 + ((tl (k * 4 + 0)).toInt64)) + ((tl (k * 4 + 1)).toInt64)) + ((tl (k * 4 + 2)).toInt64)) + ((tl (k * 4 + 3)).toInt64))) - (((tl (k * 4 + 0)).toInt64) * ((((0 + ((sn (k * 4 + 0)).toInt64)) + ((sn (k * 4 + 1)).toInt64)) + ((sn (k * 4 + 2)).toInt64)) + ((sn (k * 4 + 3)).toInt64))))))]) (kX1_seenIn (O := O) (d := 1) (f := f) (n := n) (s := s) (q := q) (ch := ch) (rv := rv) (sh := sh) (fc := fc) (cn := cn) (kp := kp) (rf := rf) (g := sn) (k := k) (b := 1) h0 h1 (by first | assumption | omega | decide) (by first | assumption | omega | decide) (Nat.le_refl _)).call rfl lkX1_68 imX1_seenIn seX1_seenIn rfl h0 rfl rfl (by omega) (Nat.le_of_ble_eq_true rfl) dX1_driftOf_77 (fun v9 G9 h9 => ?_) (fun q9 G9 h9 => (by cases h9.1))
      obtain ⟨h8, rfl⟩ := h9; cases h8
      show bV O _ d 80 [(8, .int 1), (6, .long (lmx 0 (lab ((((sn (k * 4 + 0)).toInt64) * ((((0 + ((tl (k * 4 + 0)).toInt64)) + ((tl (k * 4 + 1)).toInt64)) + ((tl (k * 4 + 2)).toInt64)) + ((tl (k * 4 + 3)).toInt64))) - (((tl (k * 4 + 0)).toInt64) * ((((0 + ((sn (k * 4 + 0)).toInt64)) + ((sn (k * 4 + 1)).toInt64)) + ((sn (k * 4 + 2)).toInt64)) + ((sn (k * 4 + 3)).toInt64))))))), (4, .long ((((0 + ((tl (k * 4 + 0)).toInt64)) + ((tl (k * 4 + 1)).toInt64)) + ((tl (k * 4 + 2)).toInt64)) + ((tl (k * 4 + 3)).toInt64))), (2, .long ((((0 + ((sn (k * 4 + 0)).toInt64)) + ((sn (k * 4 + 1)).toInt64)) + ((sn (k * 4 + 2)).toInt64)) + ((sn (k * 4 + 3)).toInt64))), (0, .ref q), (1, .int (nI k))] [.int (sn (k * 4 + 1)), .long (lmx 0 (lab ((((sn (k * 4 + 0)).toInt64) * ((((0 + ((tl (k * 4 + 0)).toInt64)) + ((tl (k * 4 + 1)).toInt64)) + ((tl (k * 4 + 2)).toInt64)) + ((tl (k * 4 + 3)).toInt64))) - (((tl (k * 4 + 0)).toInt64) * ((((0 + ((sn (k * 4 + 0)).toInt64)) + ((sn (k * 4 + 1)).toInt64)) + ((sn (k * 4 + 2)).toInt64)) + ((sn (k * 4 + 3)).toInt64))))))] (f, n, s) _
      refine r_i2l dX1_driftOf_80 ?_
      refine r_lload (i := 4) 2 rfl dX1_driftOf_81 ?_
      refine r_lmul dX1_driftOf_83 ?_
      refine r_aload_n (n := 0) (i := 0) 4 rfl rfl dX1_driftOf_84 ?_
      refine r_iload_n (n := 1) (i := 1) 5 rfl rfl dX1_driftOf_85 ?_
      refine r_iload (i := 8) 0 rfl dX1_driftOf_86 ?_
      refine p_callV (As := [.int (nI k), .int 1]) (rest := [.long (((sn (k * 4 + 1)).toInt64) * ((((0 + ((tl (k * 4 + 0)).toInt64)) + ((tl (k * 4 + 1)).toInt64)) + ((tl (k * 4 + 2)).toInt64)) + ((tl (k * 4 + 3)).toInt64))), .long (lmx 0 (lab ((((sn (k * 4 + 0)).toInt64) * ((((0 + ((tl (k * 4 + 0)).toInt64)) + ((tl (k * 4 + 1)).toInt64)) + ((tl (k * 4 + 2)).toInt64)) + ((tl (k * 4 + 3)).toInt64))) - (((tl (k * 4 + 0)).toInt64) * ((((0 + ((sn (k * 4 + 0)).toInt64)) + ((sn (k * 4 + 1)).toInt64)) + ((sn (k * 4 + 2)).toInt64)) + ((sn (k * 4 + 3)).toInt64))))))]) (kX1_toldIn (O := O) (d := 1) (f := f) (n := n) (s := s) (q := q) (ch := ch) (rv := rv) (sh := sh) (fc := fc) (cn := cn) (kp := kp) (rf := rf) (g := tl) (k := k) (b := 1) h0 h2 (by first | assumption | omega | decide) (by first | assumption | omega | decide) (Nat.le_refl _)).call rfl lkX1_72 imX1_toldIn seX1_toldIn rfl h0 rfl rfl (by omega) (Nat.le_of_ble_eq_true rfl) dX1_driftOf_88 (fun v9 G9 h9 => ?_) (fun q9 G9 h9 => (by cases h9.1))
      obtain ⟨h8, rfl⟩ := h9; cases h8
      show bV O _ d 91 [(8, .int 1), (6, .long (lmx 0 (lab ((((sn (k * 4 + 0)).toInt64) * ((((0 + ((tl (k * 4 + 0)).toInt64)) + ((tl (k * 4 + 1)).toInt64)) + ((tl (k * 4 + 2)).toInt64)) + ((tl (k * 4 + 3)).toInt64))) - (((tl (k * 4 + 0)).toInt64) * ((((0 + ((sn (k * 4 + 0)).toInt64)) + ((sn (k * 4 + 1)).toInt64)) + ((sn (k * 4 + 2)).toInt64)) + ((sn (k * 4 + 3)).toInt64))))))), (4, .long ((((0 + ((tl (k * 4 + 0)).toInt64)) + ((tl (k * 4 + 1)).toInt64)) + ((tl (k * 4 + 2)).toInt64)) + ((tl (k * 4 + 3)).toInt64))), (2, .long ((((0 + ((sn (k * 4 + 0)).toInt64)) + ((sn (k * 4 + 1)).toInt64)) + ((sn (k * 4 + 2)).toInt64)) + ((sn (k * 4 + 3)).toInt64))), (0, .ref q), (1, .int (nI k))] [.int (tl (k * 4 + 1)), .long (((sn (k * 4 + 1)).toInt64) * ((((0 + ((tl (k * 4 + 0)).toInt64)) + ((tl (k * 4 + 1)).toInt64)) + ((tl (k * 4 + 2)).toInt64)) + ((tl (k * 4 + 3)).toInt64))), .long (lmx 0 (lab ((((sn (k * 4 + 0)).toInt64) * ((((0 + ((tl (k * 4 + 0)).toInt64)) + ((tl (k * 4 + 1)).toInt64)) + ((tl (k * 4 + 2)).toInt64)) + ((tl (k * 4 + 3)).toInt64))) - (((tl (k * 4 + 0)).toInt64) * ((((0 + ((sn (k * 4 + 0)).toInt64)) + ((sn (k * 4 + 1)).toInt64)) + ((sn (k * 4 + 2)).toInt64)) + ((sn (k * 4 + 3)).toInt64))))))] (f, n, s) _
      refine r_i2l dX1_driftOf_91 ?_
      refine r_lload_n (n := 2) (i := 2) 3 rfl rfl dX1_driftOf_92 ?_
      refine r_lmul dX1_driftOf_93 ?_
      refine r_lsub dX1_driftOf_94 ?_
      refine r_mabsL (by omega) lkX1_75 (Nat.le_of_ble_eq_true rfl) dX1_driftOf_95 ?_
      refine r_mmaxL (by omega) lkX1_81 (Nat.le_of_ble_eq_true rfl) dX1_driftOf_98 ?_
      refine r_lstore (i := 6) (L' := [(6, .long (lmx (lmx 0 (lab ((((sn (k * 4 + 0)).toInt64) * ((((0 + ((tl (k * 4 + 0)).toInt64)) + ((tl (k * 4 + 1)).toInt64)) + ((tl (k * 4 + 2)).toInt64)) + ((tl (k * 4 + 3)).toInt64))) - (((tl (k * 4 + 0)).toInt64) * ((((0 + ((sn (k * 4 + 0)).toInt64)) + ((sn (k * 4 + 1)).toInt64)) + ((sn (k * 4 + 2)).toInt64)) + ((sn (k * 4 + 3)).toInt64)))))) (lab ((((sn (k * 4 + 1)).toInt64) * ((((0 + ((tl (k * 4 + 0)).toInt64)) + ((tl (k * 4 + 1)).toInt64)) + ((tl (k * 4 + 2)).toInt64)) + ((tl (k * 4 + 3)).toInt64))) - (((tl (k * 4 + 1)).toInt64) * ((((0 + ((sn (k * 4 + 0)).toInt64)) + ((sn (k * 4 + 1)).toInt64)) + ((sn (k * 4 + 2)).toInt64)) + ((sn (k * 4 + 3)).toInt64))))))), (8, .int 1), (4, .long ((((0 + ((tl (k * 4 + 0)).toInt64)) + ((tl (k * 4 + 1)).toInt64)) + ((tl (k * 4 + 2)).toInt64)) + ((tl (k * 4 + 3)).toInt64))), (2, .long ((((0 + ((sn (k * 4 + 0)).toInt64)) + ((sn (k * 4 + 1)).toInt64)) + ((sn (k * 4 + 2)).toInt64)) + ((sn (k * 4 + 3)).toInt64))), (0, .ref q), (1, .int (nI k))]) dX1_driftOf_101 (by decide) rfl ?_
      refine r_iinc (i := 8) (v := 2) (L' := [(8, .int 2), (6, .long (lmx (lmx 0 (lab ((((sn (k * 4 + 0)).toInt64) * ((((0 + ((tl (k * 4 + 0)).toInt64)) + ((tl (k * 4 + 1)).toInt64)) + ((tl (k * 4 + 2)).toInt64)) + ((tl (k * 4 + 3)).toInt64))) - (((tl (k * 4 + 0)).toInt64) * ((((0 + ((sn (k * 4 + 0)).toInt64)) + ((sn (k * 4 + 1)).toInt64)) + ((sn (k * 4 + 2)).toInt64)) + ((sn (k * 4 + 3)).toInt64)))))) (lab ((((sn (k * 4 + 1)).toInt64) * ((((0 + ((tl (k * 4 + 0)).toInt64)) + ((tl (k * 4 + 1)).toInt64)) + ((tl (k * 4 + 2)).toInt64)) + ((tl (k * 4 + 3)).toInt64))) - (((tl (k * 4 + 1)).toInt64) * ((((0 + ((sn (k * 4 + 0)).toInt64)) + ((sn (k * 4 + 1)).toInt64)) + ((sn (k * 4 + 2)).toInt64)) + ((sn (k * 4 + 3)).toInt64))))))), (4, .long ((((0 + ((tl (k * 4 + 0)).toInt64)) + ((tl (k * 4 + 1)).toInt64)) + ((tl (k * 4 + 2)).toInt64)) + ((tl (k * 4 + 3)).toInt64))), (2, .long ((((0 + ((sn (k * 4 + 0)).toInt64)) + ((sn (k * 4 + 1)).toInt64)) + ((sn (k * 4 + 2)).toInt64)) + ((sn (k * 4 + 3)).toInt64))), (0, .ref q), (1, .int (nI k))]) 1 rfl (by decide) dX1_driftOf_103 (by decide) rfl ?_
      refine r_goto (tgt := 65) (by decide) dX1_driftOf_106 ?_
      refine r_iload (i := 8) 0 rfl dX1_driftOf_65 ?_
      refine r_iconst (v := 4) (by decide) dX1_driftOf_67 ?_
      refine r_icmp_ge (tgt := 109) (by decide) dX1_driftOf_68 (fun h9 => absurd h9 (show ¬ ((4 : Int32) ≤ 2) by decide)) (fun _ => ?_)
      refine r_lload (i := 6) 1 rfl dX1_driftOf_71 ?_
      refine r_aload_n (n := 0) (i := 0) 4 rfl rfl dX1_driftOf_73 ?_
      refine r_iload_n (n := 1) (i := 1) 5 rfl rfl dX1_driftOf_74 ?_
      refine r_iload (i := 8) 0 rfl dX1_driftOf_75 ?_
      refine p_callV (As := [.int (nI k), .int 2]) (rest := [.long (lmx (lmx 0 (lab ((((sn (k * 4 + 0)).toInt64) * ((((0 + ((tl (k * 4 + 0)).toInt64)) + ((tl (k * 4 + 1)).toInt64)) + ((tl (k * 4 + 2)).toInt64)) + ((tl (k * 4 + 3)).toInt64))) - (((tl (k * 4 + 0)).toInt64) * ((((0 + ((sn (k * 4 + 0)).toInt64)) + ((sn (k * 4 + 1)).toInt64)) + ((sn (k * 4 + 2)).toInt64)) + ((sn (k * 4 + 3)).toInt64)))))) (lab ((((sn (k * 4 + 1)).toInt64) * ((((0 + ((tl (k * 4 + 0)).toInt64)) + ((tl (k * 4 + 1)).toInt64)) + ((tl (k * 4 + 2)).toInt64)) + ((tl (k * 4 + 3)).toInt64))) - (((tl (k * 4 + 1)).toInt64) * ((((0 + ((sn (k * 4 + 0)).toInt64)) + ((sn (k * 4 + 1)).toInt64)) + ((sn (k * 4 + 2)).toInt64)) + ((sn (k * 4 + 3)).toInt64))))))]) (kX1_seenIn (O := O) (d := 1) (f := f) (n := n) (s := s) (q := q) (ch := ch) (rv := rv) (sh := sh) (fc := fc) (cn := cn) (kp := kp) (rf := rf) (g := sn) (k := k) (b := 2) h0 h1 (by first | assumption | omega | decide) (by first | assumption | omega | decide) (Nat.le_refl _)).call rfl lkX1_68 imX1_seenIn seX1_seenIn rfl h0 rfl rfl (by omega) (Nat.le_of_ble_eq_true rfl) dX1_driftOf_77 (fun v9 G9 h9 => ?_) (fun q9 G9 h9 => (by cases h9.1))
      obtain ⟨h8, rfl⟩ := h9; cases h8
      show bV O _ d 80 [(8, .int 2), (6, .long (lmx (lmx 0 (lab ((((sn (k * 4 + 0)).toInt64) * ((((0 + ((tl (k * 4 + 0)).toInt64)) + ((tl (k * 4 + 1)).toInt64)) + ((tl (k * 4 + 2)).toInt64)) + ((tl (k * 4 + 3)).toInt64))) - (((tl (k * 4 + 0)).toInt64) * ((((0 + ((sn (k * 4 + 0)).toInt64)) + ((sn (k * 4 + 1)).toInt64)) + ((sn (k * 4 + 2)).toInt64)) + ((sn (k * 4 + 3)).toInt64)))))) (lab ((((sn (k * 4 + 1)).toInt64) * ((((0 + ((tl (k * 4 + 0)).toInt64)) + ((tl (k * 4 + 1)).toInt64)) + ((tl (k * 4 + 2)).toInt64)) + ((tl (k * 4 + 3)).toInt64))) - (((tl (k * 4 + 1)).toInt64) * ((((0 + ((sn (k * 4 + 0)).toInt64)) + ((sn (k * 4 + 1)).toInt64)) + ((sn (k * 4 + 2)).toInt64)) + ((sn (k * 4 + 3)).toInt64))))))), (4, .long ((((0 + ((tl (k * 4 + 0)).toInt64)) + ((tl (k * 4 + 1)).toInt64)) + ((tl (k * 4 + 2)).toInt64)) + ((tl (k * 4 + 3)).toInt64))), (2, .long ((((0 + ((sn (k * 4 + 0)).toInt64)) + ((sn (k * 4 + 1)).toInt64)) + ((sn (k * 4 + 2)).toInt64)) + ((sn (k * 4 + 3)).toInt64))), (0, .ref q), (1, .int (nI k))] [.int (sn (k * 4 + 2)), .long (lmx (lmx 0 (lab ((((sn (k * 4 + 0)).toInt64) * ((((0 + ((tl (k * 4 + 0)).toInt64)) + ((tl (k * 4 + 1)).toInt64)) + ((tl (k * 4 + 2)).toInt64)) + ((tl (k * 4 + 3)).toInt64))) - (((tl (k * 4 + 0)).toInt64) * ((((0 + ((sn (k * 4 + 0)).toInt64)) + ((sn (k * 4 + 1)).toInt64)) + ((sn (k * 4 + 2)).toInt64)) + ((sn (k * 4 + 3)).toInt64)))))) (lab ((((sn (k * 4 + 1)).toInt64) * ((((0 + ((tl (k * 4 + 0)).toInt64)) + ((tl (k * 4 + 1)).toInt64)) + ((tl (k * 4 + 2)).toInt64)) + ((tl (k * 4 + 3)).toInt64))) - (((tl (k * 4 + 1)).toInt64) * ((((0 + ((sn (k * 4 + 0)).toInt64)) + ((sn (k * 4 + 1)).toInt64)) + ((sn (k * 4 + 2)).toInt64)) + ((sn (k * 4 + 3)).toInt64))))))] (f, n, s) _
      refine r_i2l dX1_driftOf_80 ?_
      refine r_lload (i := 4) 2 rfl dX1_driftOf_81 ?_
      refine r_lmul dX1_driftOf_83 ?_
      refine r_aload_n (n := 0) (i := 0) 4 rfl rfl dX1_driftOf_84 ?_
      refine r_iload_n (n := 1) (i := 1) 5 rfl rfl dX1_driftOf_85 ?_
      refine r_iload (i := 8) 0 rfl dX1_driftOf_86 ?_
      refine p_callV (As := [.int (nI k), .int 2]) (rest := [.long (((sn (k * 4 + 2)).toInt64) * ((((0 + ((tl (k * 4 + 0)).toInt64)) + ((tl (k * 4 + 1)).toInt64)) + ((tl (k * 4 + 2)).toInt64)) + ((tl (k * 4 + 3)).toInt64))), .long (lmx (lmx 0 (lab ((((sn (k * 4 + 0)).toInt64) * ((((0 + ((tl (k * 4 + 0)).toInt64)) + ((tl (k * 4 + 1)).toInt64)) + ((tl (k * 4 + 2)).toInt64)) + ((tl (k * 4 + 3)).toInt64))) - (((tl (k * 4 + 0)).toInt64) * ((((0 + ((sn (k * 4 + 0)).toInt64)) + ((sn (k * 4 + 1)).toInt64)) + ((sn (k * 4 + 2)).toInt64)) + ((sn (k * 4 + 3)).toInt64)))))) (lab ((((sn (k * 4 + 1)).toInt64) * ((((0 + ((tl (k * 4 + 0)).toInt64)) + ((tl (k * 4 + 1)).toInt64)) + ((tl (k * 4 + 2)).toInt64)) + ((tl (k * 4 + 3)).toInt64))) - (((tl (k * 4 + 1)).toInt64) * ((((0 + ((sn (k * 4 + 0)).toInt64)) + ((sn (k * 4 + 1)).toInt64)) + ((sn (k * 4 + 2)).toInt64)) + ((sn (k * 4 + 3)).toInt64))))))]) (kX1_toldIn (O := O) (d := 1) (f := f) (n := n) (s := s) (q := q) (ch := ch) (rv := rv) (sh := sh) (fc := fc) (cn := cn) (kp := kp) (rf := rf) (g := tl) (k := k) (b := 2) h0 h2 (by first | assumption | omega | decide) (by first | assumption | omega | decide) (Nat.le_refl _)).call rfl lkX1_72 imX1_toldIn seX1_toldIn rfl h0 rfl rfl (by omega) (Nat.le_of_ble_eq_true rfl) dX1_driftOf_88 (fun v9 G9 h9 => ?_) (fun q9 G9 h9 => (by cases h9.1))
      obtain ⟨h8, rfl⟩ := h9; cases h8
      show bV O _ d 91 [(8, .int 2), (6, .long (lmx (lmx 0 (lab ((((sn (k * 4 + 0)).toInt64) * ((((0 + ((tl (k * 4 + 0)).toInt64)) + ((tl (k * 4 + 1)).toInt64)) + ((tl (k * 4 + 2)).toInt64)) + ((tl (k * 4 + 3)).toInt64))) - (((tl (k * 4 + 0)).toInt64) * ((((0 + ((sn (k * 4 + 0)).toInt64)) + ((sn (k * 4 + 1)).toInt64)) + ((sn (k * 4 + 2)).toInt64)) + ((sn (k * 4 + 3)).toInt64)))))) (lab ((((sn (k * 4 + 1)).toInt64) * ((((0 + ((tl (k * 4 + 0)).toInt64)) + ((tl (k * 4 + 1)).toInt64)) + ((tl (k * 4 + 2)).toInt64)) + ((tl (k * 4 + 3)).toInt64))) - (((tl (k * 4 + 1)).toInt64) * ((((0 + ((sn (k * 4 + 0)).toInt64)) + ((sn (k * 4 + 1)).toInt64)) + ((sn (k * 4 + 2)).toInt64)) + ((sn (k * 4 + 3)).toInt64))))))), (4, .long ((((0 + ((tl (k * 4 + 0)).toInt64)) + ((tl (k * 4 + 1)).toInt64)) + ((tl (k * 4 + 2)).toInt64)) + ((tl (k * 4 + 3)).toInt64))), (2, .long ((((0 + ((sn (k * 4 + 0)).toInt64)) + ((sn (k * 4 + 1)).toInt64)) + ((sn (k * 4 + 2)).toInt64)) + ((sn (k * 4 + 3)).toInt64))), (0, .ref q), (1, .int (nI k))] [.int (tl (k * 4 + 2)), .long (((sn (k * 4 + 2)).toInt64) * ((((0 + ((tl (k * 4 + 0)).toInt64)) + ((tl (k * 4 + 1)).toInt64)) + ((tl (k * 4 + 2)).toInt64)) + ((tl (k * 4 + 3)).toInt64))), .long (lmx (lmx 0 (lab ((((sn (k * 4 + 0)).toInt64) * ((((0 + ((tl (k * 4 + 0)).toInt64)) + ((tl (k * 4 + 1)).toInt64)) + ((tl (k * 4 + 2)).toInt64)) + ((tl (k * 4 + 3)).toInt64))) - (((tl (k * 4 + 0)).toInt64) * ((((0 + ((sn (k * 4 + 0)).toInt64)) + ((sn (k * 4 + 1)).toInt64)) + ((sn (k * 4 + 2)).toInt64)) + ((sn (k * 4 + 3)).toInt64)))))) (lab ((((sn (k * 4 + 1)).toInt64) * ((((0 + ((tl (k * 4 + 0)).toInt64)) + ((tl (k * 4 + 1)).toInt64)) + ((tl (k * 4 + 2)).toInt64)) + ((tl (k * 4 + 3)).toInt64))) - (((tl (k * 4 + 1)).toInt64) * ((((0 + ((sn (k * 4 + 0)).toInt64)) + ((sn (k * 4 + 1)).toInt64)) + ((sn (k * 4 + 2)).toInt64)) + ((sn (k * 4 + 3)).toInt64))))))] (f, n, s) _
      refine r_i2l dX1_driftOf_91 ?_
      refine r_lload_n (n := 2) (i := 2) 3 rfl rfl dX1_driftOf_92 ?_
      refine r_lmul dX1_driftOf_93 ?_
      refine r_lsub dX1_driftOf_94 ?_
      refine r_mabsL (by omega) lkX1_75 (Nat.le_of_ble_eq_true rfl) dX1_driftOf_95 ?_
      refine r_mmaxL (by omega) lkX1_81 (Nat.le_of_ble_eq_true rfl) dX1_driftOf_98 ?_
      refine r_lstore (i := 6) (L' := [(6, .long (lmx (lmx (lmx 0 (lab ((((sn (k * 4 + 0)).toInt64) * ((((0 + ((tl (k * 4 + 0)).toInt64)) + ((tl (k * 4 + 1)).toInt64)) + ((tl (k * 4 + 2)).toInt64)) + ((tl (k * 4 + 3)).toInt64))) - (((tl (k * 4 + 0)).toInt64) * ((((0 + ((sn (k * 4 + 0)).toInt64)) + ((sn (k * 4 + 1)).toInt64)) + ((sn (k * 4 + 2)).toInt64)) + ((sn (k * 4 + 3)).toInt64)))))) (lab ((((sn (k * 4 + 1)).toInt64) * ((((0 + ((tl (k * 4 + 0)).toInt64)) + ((tl (k * 4 + 1)).toInt64)) + ((tl (k * 4 + 2)).toInt64)) + ((tl (k * 4 + 3)).toInt64))) - (((tl (k * 4 + 1)).toInt64) * ((((0 + ((sn (k * 4 + 0)).toInt64)) + ((sn (k * 4 + 1)).toInt64)) + ((sn (k * 4 + 2)).toInt64)) + ((sn (k * 4 + 3)).toInt64)))))) (lab ((((sn (k * 4 + 2)).toInt64) * ((((0 + ((tl (k * 4 + 0)).toInt64)) + ((tl (k * 4 + 1)).toInt64)) + ((tl (k * 4 + 2)).toInt64)) + ((tl (k * 4 + 3)).toInt64))) - (((tl (k * 4 + 2)).toInt64) * ((((0 + ((sn (k * 4 + 0)).toInt64)) + ((sn (k * 4 + 1)).toInt64)) + ((sn (k * 4 + 2)).toInt64)) + ((sn (k * 4 + 3)).toInt64))))))), (8, .int 2), (4, .long ((((0 + ((tl (k * 4 + 0)).toInt64)) + ((tl (k * 4 + 1)).toInt64)) + ((tl (k * 4 + 2)).toInt64)) + ((tl (k * 4 + 3)).toInt64))), (2, .long ((((0 + ((sn (k * 4 + 0)).toInt64)) + ((sn (k * 4 + 1)).toInt64)) + ((sn (k * 4 + 2)).toInt64)) + ((sn (k * 4 + 3)).toInt64))), (0, .ref q), (1, .int (nI k))]) dX1_driftOf_101 (by decide) rfl ?_
      refine r_iinc (i := 8) (v := 3) (L' := [(8, .int 3), (6, .long (lmx (lmx (lmx 0 (lab ((((sn (k * 4 + 0)).toInt64) * ((((0 + ((tl (k * 4 + 0)).toInt64)) + ((tl (k * 4 + 1)).toInt64)) + ((tl (k * 4 + 2)).toInt64)) + ((tl (k * 4 + 3)).toInt64))) - (((tl (k * 4 + 0)).toInt64) * ((((0 + ((sn (k * 4 + 0)).toInt64)) + ((sn (k * 4 + 1)).toInt64)) + ((sn (k * 4 + 2)).toInt64)) + ((sn (k * 4 + 3)).toInt64)))))) (lab ((((sn (k * 4 + 1)).toInt64) * ((((0 + ((tl (k * 4 + 0)).toInt64)) + ((tl (k * 4 + 1)).toInt64)) + ((tl (k * 4 + 2)).toInt64)) + ((tl (k * 4 + 3)).toInt64))) - (((tl (k * 4 + 1)).toInt64) * ((((0 + ((sn (k * 4 + 0)).toInt64)) + ((sn (k * 4 + 1)).toInt64)) + ((sn (k * 4 + 2)).toInt64)) + ((sn (k * 4 + 3)).toInt64)))))) (lab ((((sn (k * 4 + 2)).toInt64) * ((((0 + ((tl (k * 4 + 0)).toInt64)) + ((tl (k * 4 + 1)).toInt64)) + ((tl (k * 4 + 2)).toInt64)) + ((tl (k * 4 + 3)).toInt64))) - (((tl (k * 4 + 2)).toInt64) * ((((0 + ((sn (k * 4 + 0)).toInt64)) + ((sn (k * 4 + 1)).toInt64)) + ((sn (k * 4 + 2)).toInt64)) + ((sn (k * 4 + 3)).toInt64))))))), (4, .long ((((0 + ((tl (k * 4 + 0)).toInt64)) + ((tl (k * 4 + 1)).toInt64)) + ((tl (k * 4 + 2)).toInt64)) + ((tl (k * 4 + 3)).toInt64))), (2, .long ((((0 + ((sn (k * 4 + 0)).toInt64)) + ((sn (k * 4 + 1)).toInt64)) + ((sn (k * 4 + 2)).toInt64)) + ((sn (k * 4 + 3)).toInt64))), (0, .ref q), (1, .int (nI k))]) 1 rfl (by decide) dX1_driftOf_103 (by decide) rfl ?_
      refine r_goto (tgt := 65) (by decide) dX1_driftOf_106 ?_
      refine r_iload (i := 8) 0 rfl dX1_driftOf_65 ?_
      refine r_iconst (v := 4) (by decide) dX1_driftOf_67 ?_
      refine r_icmp_ge (tgt := 109) (by decide) dX1_driftOf_68 (fun h9 => absurd h9 (show ¬ ((4 : Int32) ≤ 3) by decide)) (fun _ => ?_)
      refine r_lload (i := 6) 1 rfl dX1_driftOf_71 ?_
      refine r_aload_n (n := 0) (i := 0) 4 rfl rfl dX1_driftOf_73 ?_
      refine r_iload_n (n := 1) (i := 1) 5 rfl rfl dX1_driftOf_74 ?_
      refine r_iload (i := 8) 0 rfl dX1_driftOf_75 ?_
      refine p_callV (As := [.int (nI k), .int 3]) (rest := [.long (lmx (lmx (lmx 0 (lab ((((sn (k * 4 + 0)).toInt64) * ((((0 + ((tl (k * 4 + 0)).toInt64)) + ((tl (k * 4 + 1)).toInt64)) + ((tl (k * 4 + 2)).toInt64)) + ((tl (k * 4 + 3)).toInt64))) - (((tl (k * 4 + 0)).toInt64) * ((((0 + ((sn (k * 4 + 0)).toInt64)) + ((sn (k * 4 + 1)).toInt64)) + ((sn (k * 4 + 2)).toInt64)) + ((sn (k * 4 + 3)).toInt64)))))) (lab ((((sn (k * 4 + 1)).toInt64) * ((((0 + ((tl (k * 4 + 0)).toInt64)) + ((tl (k * 4 + 1)).toInt64)) + ((tl (k * 4 + 2)).toInt64)) + ((tl (k * 4 + 3)).toInt64))) - (((tl (k * 4 + 1)).toInt64) * ((((0 + ((sn (k * 4 + 0)).toInt64)) + ((sn (k * 4 + 1)).toInt64)) + ((sn (k * 4 + 2)).toInt64)) + ((sn (k * 4 + 3)).toInt64)))))) (lab ((((sn (k * 4 + 2)).toInt64) * ((((0 + ((tl (k * 4 + 0)).toInt64)) + ((tl (k * 4 + 1)).toInt64)) + ((tl (k * 4 + 2)).toInt64)) + ((tl (k * 4 + 3)).toInt64))) - (((tl (k * 4 + 2)).toInt64) * ((((0 + ((sn (k * 4 + 0)).toInt64)) + ((sn (k * 4 + 1)).toInt64)) + ((sn (k * 4 + 2)).toInt64)) + ((sn (k * 4 + 3)).toInt64))))))]) (kX1_seenIn (O := O) (d := 1) (f := f) (n := n) (s := s) (q := q) (ch := ch) (rv := rv) (sh := sh) (fc := fc) (cn := cn) (kp := kp) (rf := rf) (g := sn) (k := k) (b := 3) h0 h1 (by first | assumption | omega | decide) (by first | assumption | omega | decide) (Nat.le_refl _)).call rfl lkX1_68 imX1_seenIn seX1_seenIn rfl h0 rfl rfl (by omega) (Nat.le_of_ble_eq_true rfl) dX1_driftOf_77 (fun v9 G9 h9 => ?_) (fun q9 G9 h9 => (by cases h9.1))
      obtain ⟨h8, rfl⟩ := h9; cases h8
      show bV O _ d 80 [(8, .int 3), (6, .long (lmx (lmx (lmx 0 (lab ((((sn (k * 4 + 0)).toInt64) * ((((0 + ((tl (k * 4 + 0)).toInt64)) + ((tl (k * 4 + 1)).toInt64)) + ((tl (k * 4 + 2)).toInt64)) + ((tl (k * 4 + 3)).toInt64))) - (((tl (k * 4 + 0)).toInt64) * ((((0 + ((sn (k * 4 + 0)).toInt64)) + ((sn (k * 4 + 1)).toInt64)) + ((sn (k * 4 + 2)).toInt64)) + ((sn (k * 4 + 3)).toInt64)))))) (lab ((((sn (k * 4 + 1)).toInt64) * ((((0 + ((tl (k * 4 + 0)).toInt64)) + ((tl (k * 4 + 1)).toInt64)) + ((tl (k * 4 + 2)).toInt64)) + ((tl (k * 4 + 3)).toInt64))) - (((tl (k * 4 + 1)).toInt64) * ((((0 + ((sn (k * 4 + 0)).toInt64)) + ((sn (k * 4 + 1)).toInt64)) + ((sn (k * 4 + 2)).toInt64)) + ((sn (k * 4 + 3)).toInt64)))))) (lab ((((sn (k * 4 + 2)).toInt64) * ((((0 + ((tl (k * 4 + 0)).toInt64)) + ((tl (k * 4 + 1)).toInt64)) + ((tl (k * 4 + 2)).toInt64)) + ((tl (k * 4 + 3)).toInt64))) - (((tl (k * 4 + 2)).toInt64) * ((((0 + ((sn (k * 4 + 0)).toInt64)) + ((sn (k * 4 + 1)).toInt64)) + ((sn (k * 4 + 2)).toInt64)) + ((sn (k * 4 + 3)).toInt64))))))), (4, .long ((((0 + ((tl (k * 4 + 0)).toInt64)) + ((tl (k * 4 + 1)).toInt64)) + ((tl (k * 4 + 2)).toInt64)) + ((tl (k * 4 + 3)).toInt64))), (2, .long ((((0 + ((sn (k * 4 + 0)).toInt64)) + ((sn (k * 4 + 1)).toInt64)) + ((sn (k * 4 + 2)).toInt64)) + ((sn (k * 4 + 3)).toInt64))), (0, .ref q), (1, .int (nI k))] [.int (sn (k * 4 + 3)), .long (lmx (lmx (lmx 0 (lab ((((sn (k * 4 + 0)).toInt64) * ((((0 + ((tl (k * 4 + 0)).toInt64)) + ((tl (k * 4 + 1)).toInt64)) + ((tl (k * 4 + 2)).toInt64)) + ((tl (k * 4 + 3)).toInt64))) - (((tl (k * 4 + 0)).toInt64) * ((((0 + ((sn (k * 4 + 0)).toInt64)) + ((sn (k * 4 + 1)).toInt64)) + ((sn (k * 4 + 2)).toInt64)) + ((sn (k * 4 + 3)).toInt64)))))) (lab ((((sn (k * 4 + 1)).toInt64) * ((((0 + ((tl (k * 4 + 0)).toInt64)) + ((tl (k * 4 + 1)).toInt64)) + ((tl (k * 4 + 2)).toInt64)) + ((tl (k * 4 + 3)).toInt64))) - (((tl (k * 4 + 1)).toInt64) * ((((0 + ((sn (k * 4 + 0)).toInt64)) + ((sn (k * 4 + 1)).toInt64)) + ((sn (k * 4 + 2)).toInt64)) + ((sn (k * 4 + 3)).toInt64)))))) (lab ((((sn (k * 4 + 2)).toInt64) * ((((0 + ((tl (k * 4 + 0)).toInt64)) + ((tl (k * 4 + 1)).toInt64)) + ((tl (k * 4 + 2)).toInt64)) + ((tl (k * 4 + 3)).toInt64))) - (((tl (k * 4 + 2)).toInt64) * ((((0 + ((sn (k * 4 + 0)).toInt64)) + ((sn (k * 4 + 1)).toInt64)) + ((sn (k * 4 + 2)).toInt64)) + ((sn (k * 4 + 3)).toInt64))))))] (f, n, s) _
      refine r_i2l dX1_driftOf_80 ?_
      refine r_lload (i := 4) 2 rfl dX1_driftOf_81 ?_
      refine r_lmul dX1_driftOf_83 ?_
      refine r_aload_n (n := 0) (i := 0) 4 rfl rfl dX1_driftOf_84 ?_
      refine r_iload_n (n := 1) (i := 1) 5 rfl rfl dX1_driftOf_85 ?_
      refine r_iload (i := 8) 0 rfl dX1_driftOf_86 ?_
      refine p_callV (As := [.int (nI k), .int 3]) (rest := [.long (((sn (k * 4 + 3)).toInt64) * ((((0 + ((tl (k * 4 + 0)).toInt64)) + ((tl (k * 4 + 1)).toInt64)) + ((tl (k * 4 + 2)).toInt64)) + ((tl (k * 4 + 3)).toInt64))), .long (lmx (lmx (lmx 0 (lab ((((sn (k * 4 + 0)).toInt64) * ((((0 + ((tl (k * 4 + 0)).toInt64)) + ((tl (k * 4 + 1)).toInt64)) + ((tl (k * 4 + 2)).toInt64)) + ((tl (k * 4 + 3)).toInt64))) - (((tl (k * 4 + 0)).toInt64) * ((((0 + ((sn (k * 4 + 0)).toInt64)) + ((sn (k * 4 + 1)).toInt64)) + ((sn (k * 4 + 2)).toInt64)) + ((sn (k * 4 + 3)).toInt64)))))) (lab ((((sn (k * 4 + 1)).toInt64) * ((((0 + ((tl (k * 4 + 0)).toInt64)) + ((tl (k * 4 + 1)).toInt64)) + ((tl (k * 4 + 2)).toInt64)) + ((tl (k * 4 + 3)).toInt64))) - (((tl (k * 4 + 1)).toInt64) * ((((0 + ((sn (k * 4 + 0)).toInt64)) + ((sn (k * 4 + 1)).toInt64)) + ((sn (k * 4 + 2)).toInt64)) + ((sn (k * 4 + 3)).toInt64)))))) (lab ((((sn (k * 4 + 2)).toInt64) * ((((0 + ((tl (k * 4 + 0)).toInt64)) + ((tl (k * 4 + 1)).toInt64)) + ((tl (k * 4 + 2)).toInt64)) + ((tl (k * 4 + 3)).toInt64))) - (((tl (k * 4 + 2)).toInt64) * ((((0 + ((sn (k * 4 + 0)).toInt64)) + ((sn (k * 4 + 1)).toInt64)) + ((sn (k * 4 + 2)).toInt64)) + ((sn (k * 4 + 3)).toInt64))))))]) (kX1_toldIn (O := O) (d := 1) (f := f) (n := n) (s := s) (q := q) (ch := ch) (rv := rv) (sh := sh) (fc := fc) (cn := cn) (kp := kp) (rf := rf) (g := tl) (k := k) (b := 3) h0 h2 (by first | assumption | omega | decide) (by first | assumption | omega | decide) (Nat.le_refl _)).call rfl lkX1_72 imX1_toldIn seX1_toldIn rfl h0 rfl rfl (by omega) (Nat.le_of_ble_eq_true rfl) dX1_driftOf_88 (fun v9 G9 h9 => ?_) (fun q9 G9 h9 => (by cases h9.1))
      obtain ⟨h8, rfl⟩ := h9; cases h8
      show bV O _ d 91 [(8, .int 3), (6, .long (lmx (lmx (lmx 0 (lab ((((sn (k * 4 + 0)).toInt64) * ((((0 + ((tl (k * 4 + 0)).toInt64)) + ((tl (k * 4 + 1)).toInt64)) + ((tl (k * 4 + 2)).toInt64)) + ((tl (k * 4 + 3)).toInt64))) - (((tl (k * 4 + 0)).toInt64) * ((((0 + ((sn (k * 4 + 0)).toInt64)) + ((sn (k * 4 + 1)).toInt64)) + ((sn (k * 4 + 2)).toInt64)) + ((sn (k * 4 + 3)).toInt64)))))) (lab ((((sn (k * 4 + 1)).toInt64) * ((((0 + ((tl (k * 4 + 0)).toInt64)) + ((tl (k * 4 + 1)).toInt64)) + ((tl (k * 4 + 2)).toInt64)) + ((tl (k * 4 + 3)).toInt64))) - (((tl (k * 4 + 1)).toInt64) * ((((0 + ((sn (k * 4 + 0)).toInt64)) + ((sn (k * 4 + 1)).toInt64)) + ((sn (k * 4 + 2)).toInt64)) + ((sn (k * 4 + 3)).toInt64)))))) (lab ((((sn (k * 4 + 2)).toInt64) * ((((0 + ((tl (k * 4 + 0)).toInt64)) + ((tl (k * 4 + 1)).toInt64)) + ((tl (k * 4 + 2)).toInt64)) + ((tl (k * 4 + 3)).toInt64))) - (((tl (k * 4 + 2)).toInt64) * ((((0 + ((sn (k * 4 + 0)).toInt64)) + ((sn (k * 4 + 1)).toInt64)) + ((sn (k * 4 + 2)).toInt64)) + ((sn (k * 4 + 3)).toInt64))))))), (4, .long ((((0 + ((tl (k * 4 + 0)).toInt64)) + ((tl (k * 4 + 1)).toInt64)) + ((tl (k * 4 + 2)).toInt64)) + ((tl (k * 4 + 3)).toInt64))), (2, .long ((((0 + ((sn (k * 4 + 0)).toInt64)) + ((sn (k * 4 + 1)).toInt64)) + ((sn (k * 4 + 2)).toInt64)) + ((sn (k * 4 + 3)).toInt64))), (0, .ref q), (1, .int (nI k))] [.int (tl (k * 4 + 3)), .long (((sn (k * 4 + 3)).toInt64) * ((((0 + ((tl (k * 4 + 0)).toInt64)) + ((tl (k * 4 + 1)).toInt64)) + ((tl (k * 4 + 2)).toInt64)) + ((tl (k * 4 + 3)).toInt64))), .long (lmx (lmx (lmx 0 (lab ((((sn (k * 4 + 0)).toInt64) * ((((0 + ((tl (k * 4 + 0)).toInt64)) + ((tl (k * 4 + 1)).toInt64)) + ((tl (k * 4 + 2)).toInt64)) + ((tl (k * 4 + 3)).toInt64))) - (((tl (k * 4 + 0)).toInt64) * ((((0 + ((sn (k * 4 + 0)).toInt64)) + ((sn (k * 4 + 1)).toInt64)) + ((sn (k * 4 + 2)).toInt64)) + ((sn (k * 4 + 3)).toInt64)))))) (lab ((((sn (k * 4 + 1)).toInt64) * ((((0 + ((tl (k * 4 + 0)).toInt64)) + ((tl (k * 4 + 1)).toInt64)) + ((tl (k * 4 + 2)).toInt64)) + ((tl (k * 4 + 3)).toInt64))) - (((tl (k * 4 + 1)).toInt64) * ((((0 + ((sn (k * 4 + 0)).toInt64)) + ((sn (k * 4 + 1)).toInt64)) + ((sn (k * 4 + 2)).toInt64)) + ((sn (k * 4 + 3)).toInt64)))))) (lab ((((sn (k * 4 + 2)).toInt64) * ((((0 + ((tl (k * 4 + 0)).toInt64)) + ((tl (k * 4 + 1)).toInt64)) + ((tl (k * 4 + 2)).toInt64)) + ((tl (k * 4 + 3)).toInt64))) - (((tl (k * 4 + 2)).toInt64) * ((((0 + ((sn (k * 4 + 0)).toInt64)) + ((sn (k * 4 + 1)).toInt64)) + ((sn (k * 4 + 2)).toInt64)) + ((sn (k * 4 + 3)).toInt64))))))] (f, n, s) _
      refine r_i2l dX1_driftOf_91 ?_
      refine r_lload_n (n := 2) (i := 2) 3 rfl rfl dX1_driftOf_92 ?_
      refine r_lmul dX1_driftOf_93 ?_
      refine r_lsub dX1_driftOf_94 ?_
      refine r_mabsL (by omega) lkX1_75 (Nat.le_of_ble_eq_true rfl) dX1_driftOf_95 ?_
      refine r_mmaxL (by omega) lkX1_81 (Nat.le_of_ble_eq_true rfl) dX1_driftOf_98 ?_
      refine r_lstore (i := 6) (L' := [(6, .long (lmx (lmx (lmx (lmx 0 (lab ((((sn (k * 4 + 0)).toInt64) * ((((0 + ((tl (k * 4 + 0)).toInt64)) + ((tl (k * 4 + 1)).toInt64)) + ((tl (k * 4 + 2)).toInt64)) + ((tl (k * 4 + 3)).toInt64))) - (((tl (k * 4 + 0)).toInt64) * ((((0 + ((sn (k * 4 + 0)).toInt64)) + ((sn (k * 4 + 1)).toInt64)) + ((sn (k * 4 + 2)).toInt64)) + ((sn (k * 4 + 3)).toInt64)))))) (lab ((((sn (k * 4 + 1)).toInt64) * ((((0 + ((tl (k * 4 + 0)).toInt64)) + ((tl (k * 4 + 1)).toInt64)) + ((tl (k * 4 + 2)).toInt64)) + ((tl (k * 4 + 3)).toInt64))) - (((tl (k * 4 + 1)).toInt64) * ((((0 + ((sn (k * 4 + 0)).toInt64)) + ((sn (k * 4 + 1)).toInt64)) + ((sn (k * 4 + 2)).toInt64)) + ((sn (k * 4 + 3)).toInt64)))))) (lab ((((sn (k * 4 + 2)).toInt64) * ((((0 + ((tl (k * 4 + 0)).toInt64)) + ((tl (k * 4 + 1)).toInt64)) + ((tl (k * 4 + 2)).toInt64)) + ((tl (k * 4 + 3)).toInt64))) - (((tl (k * 4 + 2)).toInt64) * ((((0 + ((sn (k * 4 + 0)).toInt64)) + ((sn (k * 4 + 1)).toInt64)) + ((sn (k * 4 + 2)).toInt64)) + ((sn (k * 4 + 3)).toInt64)))))) (lab ((((sn (k * 4 + 3)).toInt64) * ((((0 + ((tl (k * 4 + 0)).toInt64)) + ((tl (k * 4 + 1)).toInt64)) + ((tl (k * 4 + 2)).toInt64)) + ((tl (k * 4 + 3)).toInt64))) - (((tl (k * 4 + 3)).toInt64) * ((((0 + ((sn (k * 4 + 0)).toInt64)) + ((sn (k * 4 + 1)).toInt64)) + ((sn (k * 4 + 2)).toInt64)) + ((sn (k * 4 + 3)).toInt64))))))), (8, .int 3), (4, .long ((((0 + ((tl (k * 4 + 0)).toInt64)) + ((tl (k * 4 + 1)).toInt64)) + ((tl (k * 4 + 2)).toInt64)) + ((tl (k * 4 + 3)).toInt64))), (2, .long ((((0 + ((sn (k * 4 + 0)).toInt64)) + ((sn (k * 4 + 1)).toInt64)) + ((sn (k * 4 + 2)).toInt64)) + ((sn (k * 4 + 3)).toInt64))), (0, .ref q), (1, .int (nI k))]) dX1_driftOf_101 (by decide) rfl ?_
      refine r_iinc (i := 8) (v := 4) (L' := [(8, .int 4), (6, .long (lmx (lmx (lmx (lmx 0 (lab ((((sn (k * 4 + 0)).toInt64) * ((((0 + ((tl (k * 4 + 0)).toInt64)) + ((tl (k * 4 + 1)).toInt64)) + ((tl (k * 4 + 2)).toInt64)) + ((tl (k * 4 + 3)).toInt64))) - (((tl (k * 4 + 0)).toInt64) * ((((0 + ((sn (k * 4 + 0)).toInt64)) + ((sn (k * 4 + 1)).toInt64)) + ((sn (k * 4 + 2)).toInt64)) + ((sn (k * 4 + 3)).toInt64)))))) (lab ((((sn (k * 4 + 1)).toInt64) * ((((0 + ((tl (k * 4 + 0)).toInt64)) + ((tl (k * 4 + 1)).toInt64)) + ((tl (k * 4 + 2)).toInt64)) + ((tl (k * 4 + 3)).toInt64))) - (((tl (k * 4 + 1)).toInt64) * ((((0 + ((sn (k * 4 + 0)).toInt64)) + ((sn (k * 4 + 1)).toInt64)) + ((sn (k * 4 + 2)).toInt64)) + ((sn (k * 4 + 3)).toInt64)))))) (lab ((((sn (k * 4 + 2)).toInt64) * ((((0 + ((tl (k * 4 + 0)).toInt64)) + ((tl (k * 4 + 1)).toInt64)) + ((tl (k * 4 + 2)).toInt64)) + ((tl (k * 4 + 3)).toInt64))) - (((tl (k * 4 + 2)).toInt64) * ((((0 + ((sn (k * 4 + 0)).toInt64)) + ((sn (k * 4 + 1)).toInt64)) + ((sn (k * 4 + 2)).toInt64)) + ((sn (k * 4 + 3)).toInt64)))))) (lab ((((sn (k * 4 + 3)).toInt64) * ((((0 + ((tl (k * 4 + 0)).toInt64)) + ((tl (k * 4 + 1)).toInt64)) + ((tl (k * 4 + 2)).toInt64)) + ((tl (k * 4 + 3)).toInt64))) - (((tl (k * 4 + 3)).toInt64) * ((((0 + ((sn (k * 4 + 0)).toInt64)) + ((sn (k * 4 + 1)).toInt64)) + ((sn (k * 4 + 2)).toInt64)) + ((sn (k * 4 + 3)).toInt64))))))), (4, .long ((((0 + ((tl (k * 4 + 0)).toInt64)) + ((tl (k * 4 + 1)).toInt64)) + ((tl (k * 4 + 2)).toInt64)) + ((tl (k * 4 + 3)).toInt64))), (2, .long ((((0 + ((sn (k * 4 + 0)).toInt64)) + ((sn (k * 4 + 1)).toInt64)) + ((sn (k * 4 + 2)).toInt64)) + ((sn (k * 4 + 3)).toInt64))), (0, .ref q), (1, .int (nI k))]) 1 rfl (by decide) dX1_driftOf_103 (by decide) rfl ?_
      refine r_goto (tgt := 65) (by decide) dX1_driftOf_106 ?_
      refine r_iload (i := 8) 0 rfl dX1_driftOf_65 ?_
      refine r_iconst (v := 4) (by decide) dX1_driftOf_67 ?_
      refine r_icmp_ge (tgt := 109) (by decide) dX1_driftOf_68 (fun _ => ?_) (fun h9 => absurd (show (4 : Int32) ≤ 4 by decide) h9)
      refine r_lload (i := 6) 1 rfl dX1_driftOf_109 ?_
      refine r_ldc2 ckX1_85 dX1_driftOf_111 ?_
      refine r_lmul dX1_driftOf_114 ?_
      refine r_lload_n (n := 2) (i := 2) 3 rfl rfl dX1_driftOf_115 ?_
      refine r_lload (i := 4) 2 rfl dX1_driftOf_116 ?_
      refine r_lmul dX1_driftOf_118 ?_
      refine r_ldiv (e1 c47 c54) dX1_driftOf_119 ?_
      refine r_l2i dX1_driftOf_120 ?_
      refine r_ireturn rfl dX1_driftOf_121 ?_
      refine ⟨?_, rfl⟩
      unfold jDrift
      rw [if_neg c47]
      first | (rw [if_pos c54]; rfl) | rw [if_neg c54]
    · have c54 : ¬ 0 < ((((0 + ((tl (k * 4 + 0)).toInt64)) + ((tl (k * 4 + 1)).toInt64)) + ((tl (k * 4 + 2)).toInt64)) + ((tl (k * 4 + 3)).toInt64)) := fun h7 => c54 ((lg_cmp_gt _ _).mpr h7)
      first | have c54 : 0 < jAll tl k := c54 | have c54 : ¬ 0 < jAll tl k := c54
      refine r_iconst (v := 0) (by decide) dX1_driftOf_57 ?_
      refine r_ireturn rfl dX1_driftOf_58 ?_
      refine ⟨?_, rfl⟩
      unfold jDrift
      rw [if_neg c47]
      first | (rw [if_pos c54]; rfl) | rw [if_neg c54]
def jLets (ip lo hi : Nat → Int32) : Bool := (!decide (ip 0 < lo 0) && decide (ip 0 ≤ hi 0)) && (!decide (ip 1 < lo 1) && decide (ip 1 ≤ hi 1)) && (!decide (ip 2 < lo 2) && decide (ip 2 ≤ hi 2)) && (!decide (ip 3 < lo 3) && decide (ip 3 ≤ hi 3)) && (!decide (ip 4 < lo 4) && decide (ip 4 ≤ hi 4)) && (!decide (ip 5 < lo 5) && decide (ip 5 ≤ hi 5))
set_option maxRecDepth 4000 in
theorem kX1_letsIn {O : bO} {d : Nat} {f : bF} {n s : Nat} {q : Nat} {ch : Int32} {rv : Int32} {sh : Int32} {fc : Nat} {cn : Nat} {kp : Int32} {rf : Int32} {lo : Nat → Int32} {hi : Nat → Int32} {ip : Nat → Int32} {r : Nat} (h0 : f q = some (.inr (1, [.ref (q + 1), .ref (q + 2), .ref (q + 3), .ref (q + 4), .ref (q + 5), .ref (q + 6), .ref (q + 7), .int ch, .int rv, .int sh, .int (nI fc), .int (nI cn), .int kp, .int rf]))) (h1 : f (q + 1) = some (.inl (0, 6, .inl lo))) (h2 : f (q + 2) = some (.inl (0, 6, .inl hi))) (h3 : f r = some (.inl (0, 6, .inl ip)))  (hd : 0 ≤ d) : bMt O mX1_letsIn d [.ref q, .ref r] (f, n, s) (.inl (some (.int (bI (jLets ip lo hi))))) (f, n, s) := by
  refine bMt_of (bCall_of (by decide) rfl (Nat.le_of_ble_eq_true rfl) ?_)
  show bV O _ d 0 [(0, .ref q), (1, .ref r)] [] (f, n, s) _
  refine r_iconst (v := 0) (by decide) dX1_letsIn_0 ?_
  refine r_istore_n (n := 2) (i := 2) (L' := [(2, .int 0), (0, .ref q), (1, .ref r)]) rfl dX1_letsIn_1 (by decide) rfl ?_
  refine r_iload_n (n := 2) (i := 2) 0 rfl rfl dX1_letsIn_2 ?_
  refine r_aload_n (n := 1) (i := 1) 2 rfl rfl dX1_letsIn_3 ?_
  refine p_alen2 (kd := 0) (n := 6) (a := (6, .inl ip)) rfl h3 rfl dX1_letsIn_4 ?_
  refine r_icmp_ge (tgt := 58) (by decide) dX1_letsIn_5 (fun h9 => absurd h9 (show ¬ ((nI 6) ≤ 0) by decide)) (fun _ => ?_)
  refine r_iload_n (n := 2) (i := 2) 0 rfl rfl dX1_letsIn_8 ?_
  refine r_aload_n (n := 0) (i := 0) 1 rfl rfl dX1_letsIn_9 ?_
  refine p_get (fs := [.ref (q + 1), .ref (q + 2), .ref (q + 3), .ref (q + 4), .ref (q + 5), .ref (q + 6), .ref (q + 7), .int ch, .int rv, .int sh, .int (nI fc), .int (nI cn), .int kp, .int rf]) flX1_9 h0 rfl dX1_letsIn_10 ?_
  refine p_alen2 (kd := 0) (n := 6) (a := (6, .inl lo)) rfl h1 rfl dX1_letsIn_13 ?_
  refine r_icmp_ge (tgt := 58) (by decide) dX1_letsIn_14 (fun h9 => absurd h9 (show ¬ ((nI 6) ≤ 0) by decide)) (fun _ => ?_)
  refine r_iload_n (n := 2) (i := 2) 0 rfl rfl dX1_letsIn_17 ?_
  refine r_aload_n (n := 0) (i := 0) 1 rfl rfl dX1_letsIn_18 ?_
  refine p_get (fs := [.ref (q + 1), .ref (q + 2), .ref (q + 3), .ref (q + 4), .ref (q + 5), .ref (q + 6), .ref (q + 7), .int ch, .int rv, .int sh, .int (nI fc), .int (nI cn), .int kp, .int rf]) flX1_15 h0 rfl dX1_letsIn_19 ?_
  refine p_alen2 (kd := 0) (n := 6) (a := (6, .inl hi)) rfl h2 rfl dX1_letsIn_22 ?_
  refine r_icmp_ge (tgt := 58) (by decide) dX1_letsIn_23 (fun h9 => absurd h9 (show ¬ ((nI 6) ≤ 0) by decide)) (fun _ => ?_)
  refine r_aload_n (n := 1) (i := 1) 2 rfl rfl dX1_letsIn_26 ?_
  refine r_iload_n (n := 2) (i := 2) 0 rfl rfl dX1_letsIn_27 ?_
  refine p_ialdN (t := 0) h3 (by omega) (by omega) dX1_letsIn_28 ?_
  refine r_aload_n (n := 0) (i := 0) 1 rfl rfl dX1_letsIn_29 ?_
  refine p_get (fs := [.ref (q + 1), .ref (q + 2), .ref (q + 3), .ref (q + 4), .ref (q + 5), .ref (q + 6), .ref (q + 7), .int ch, .int rv, .int sh, .int (nI fc), .int (nI cn), .int kp, .int rf]) flX1_9 h0 rfl dX1_letsIn_30 ?_
  refine r_iload_n (n := 2) (i := 2) 0 rfl rfl dX1_letsIn_33 ?_
  refine p_ialdN (t := 0) h1 (by omega) (by omega) dX1_letsIn_34 ?_
  refine r_icmp_lt (tgt := 50) (by decide) dX1_letsIn_35 (fun c35 => ?_) (fun c35 => ?_)
  · refine r_iconst (v := 0) (by decide) dX1_letsIn_50 ?_
    refine r_zreturn rfl (by first | decide +kernel | exact narZ _ | assumption) dX1_letsIn_51 ?_
    refine ⟨?_, rfl⟩
    simp [jLets, bI, c35]
  · refine r_aload_n (n := 1) (i := 1) 2 rfl rfl dX1_letsIn_38 ?_
    refine r_iload_n (n := 2) (i := 2) 0 rfl rfl dX1_letsIn_39 ?_
    refine p_ialdN (t := 0) h3 (by omega) (by omega) dX1_letsIn_40 ?_
    refine r_aload_n (n := 0) (i := 0) 1 rfl rfl dX1_letsIn_41 ?_
    refine p_get (fs := [.ref (q + 1), .ref (q + 2), .ref (q + 3), .ref (q + 4), .ref (q + 5), .ref (q + 6), .ref (q + 7), .int ch, .int rv, .int sh, .int (nI fc), .int (nI cn), .int kp, .int rf]) flX1_15 h0 rfl dX1_letsIn_42 ?_
    refine r_iload_n (n := 2) (i := 2) 0 rfl rfl dX1_letsIn_45 ?_
    refine p_ialdN (t := 0) h2 (by omega) (by omega) dX1_letsIn_46 ?_
    refine r_icmp_le (tgt := 52) (by decide) dX1_letsIn_47 (fun c47 => ?_) (fun c47 => ?_)
    · refine r_iinc (i := 2) (v := 1) (L' := [(2, .int 1), (0, .ref q), (1, .ref r)]) 0 rfl (by decide) dX1_letsIn_52 (by decide) rfl ?_
      refine r_goto (tgt := 2) (by decide) dX1_letsIn_55 ?_
      refine r_iload_n (n := 2) (i := 2) 0 rfl rfl dX1_letsIn_2 ?_
      refine r_aload_n (n := 1) (i := 1) 2 rfl rfl dX1_letsIn_3 ?_
      refine p_alen2 (kd := 0) (n := 6) (a := (6, .inl ip)) rfl h3 rfl dX1_letsIn_4 ?_
      refine r_icmp_ge (tgt := 58) (by decide) dX1_letsIn_5 (fun h9 => absurd h9 (show ¬ ((nI 6) ≤ 1) by decide)) (fun _ => ?_)
      refine r_iload_n (n := 2) (i := 2) 0 rfl rfl dX1_letsIn_8 ?_
      refine r_aload_n (n := 0) (i := 0) 1 rfl rfl dX1_letsIn_9 ?_
      refine p_get (fs := [.ref (q + 1), .ref (q + 2), .ref (q + 3), .ref (q + 4), .ref (q + 5), .ref (q + 6), .ref (q + 7), .int ch, .int rv, .int sh, .int (nI fc), .int (nI cn), .int kp, .int rf]) flX1_9 h0 rfl dX1_letsIn_10 ?_
      refine p_alen2 (kd := 0) (n := 6) (a := (6, .inl lo)) rfl h1 rfl dX1_letsIn_13 ?_
      refine r_icmp_ge (tgt := 58) (by decide) dX1_letsIn_14 (fun h9 => absurd h9 (show ¬ ((nI 6) ≤ 1) by decide)) (fun _ => ?_)
      refine r_iload_n (n := 2) (i := 2) 0 rfl rfl dX1_letsIn_17 ?_
      refine r_aload_n (n := 0) (i := 0) 1 rfl rfl dX1_letsIn_18 ?_
      refine p_get (fs := [.ref (q + 1), .ref (q + 2), .ref (q + 3), .ref (q + 4), .ref (q + 5), .ref (q + 6), .ref (q + 7), .int ch, .int rv, .int sh, .int (nI fc), .int (nI cn), .int kp, .int rf]) flX1_15 h0 rfl dX1_letsIn_19 ?_
      refine p_alen2 (kd := 0) (n := 6) (a := (6, .inl hi)) rfl h2 rfl dX1_letsIn_22 ?_
      refine r_icmp_ge (tgt := 58) (by decide) dX1_letsIn_23 (fun h9 => absurd h9 (show ¬ ((nI 6) ≤ 1) by decide)) (fun _ => ?_)
      refine r_aload_n (n := 1) (i := 1) 2 rfl rfl dX1_letsIn_26 ?_
      refine r_iload_n (n := 2) (i := 2) 0 rfl rfl dX1_letsIn_27 ?_
      refine p_ialdN (t := 1) h3 (by omega) (by omega) dX1_letsIn_28 ?_
      refine r_aload_n (n := 0) (i := 0) 1 rfl rfl dX1_letsIn_29 ?_
      refine p_get (fs := [.ref (q + 1), .ref (q + 2), .ref (q + 3), .ref (q + 4), .ref (q + 5), .ref (q + 6), .ref (q + 7), .int ch, .int rv, .int sh, .int (nI fc), .int (nI cn), .int kp, .int rf]) flX1_9 h0 rfl dX1_letsIn_30 ?_
      refine r_iload_n (n := 2) (i := 2) 0 rfl rfl dX1_letsIn_33 ?_
      refine p_ialdN (t := 1) h1 (by omega) (by omega) dX1_letsIn_34 ?_
      refine r_icmp_lt (tgt := 50) (by decide) dX1_letsIn_35 (fun c35_1 => ?_) (fun c35_1 => ?_)
      · refine r_iconst (v := 0) (by decide) dX1_letsIn_50 ?_
        refine r_zreturn rfl (by first | decide +kernel | exact narZ _ | assumption) dX1_letsIn_51 ?_
        refine ⟨?_, rfl⟩
        simp [jLets, bI, c35, c47, c35_1]
      · refine r_aload_n (n := 1) (i := 1) 2 rfl rfl dX1_letsIn_38 ?_
        refine r_iload_n (n := 2) (i := 2) 0 rfl rfl dX1_letsIn_39 ?_
        refine p_ialdN (t := 1) h3 (by omega) (by omega) dX1_letsIn_40 ?_
        refine r_aload_n (n := 0) (i := 0) 1 rfl rfl dX1_letsIn_41 ?_
        refine p_get (fs := [.ref (q + 1), .ref (q + 2), .ref (q + 3), .ref (q + 4), .ref (q + 5), .ref (q + 6), .ref (q + 7), .int ch, .int rv, .int sh, .int (nI fc), .int (nI cn), .int kp, .int rf]) flX1_15 h0 rfl dX1_letsIn_42 ?_
        refine r_iload_n (n := 2) (i := 2) 0 rfl rfl dX1_letsIn_45 ?_
        refine p_ialdN (t := 1) h2 (by omega) (by omega) dX1_letsIn_46 ?_
        refine r_icmp_le (tgt := 52) (by decide) dX1_letsIn_47 (fun c47_1 => ?_) (fun c47_1 => ?_)
        · refine r_iinc (i := 2) (v := 2) (L' := [(2, .int 2), (0, .ref q), (1, .ref r)]) 0 rfl (by decide) dX1_letsIn_52 (by decide) rfl ?_
          refine r_goto (tgt := 2) (by decide) dX1_letsIn_55 ?_
          refine r_iload_n (n := 2) (i := 2) 0 rfl rfl dX1_letsIn_2 ?_
          refine r_aload_n (n := 1) (i := 1) 2 rfl rfl dX1_letsIn_3 ?_
          refine p_alen2 (kd := 0) (n := 6) (a := (6, .inl ip)) rfl h3 rfl dX1_letsIn_4 ?_
          refine r_icmp_ge (tgt := 58) (by decide) dX1_letsIn_5 (fun h9 => absurd h9 (show ¬ ((nI 6) ≤ 2) by decide)) (fun _ => ?_)
          refine r_iload_n (n := 2) (i := 2) 0 rfl rfl dX1_letsIn_8 ?_
          refine r_aload_n (n := 0) (i := 0) 1 rfl rfl dX1_letsIn_9 ?_
          refine p_get (fs := [.ref (q + 1), .ref (q + 2), .ref (q + 3), .ref (q + 4), .ref (q + 5), .ref (q + 6), .ref (q + 7), .int ch, .int rv, .int sh, .int (nI fc), .int (nI cn), .int kp, .int rf]) flX1_9 h0 rfl dX1_letsIn_10 ?_
          refine p_alen2 (kd := 0) (n := 6) (a := (6, .inl lo)) rfl h1 rfl dX1_letsIn_13 ?_
          refine r_icmp_ge (tgt := 58) (by decide) dX1_letsIn_14 (fun h9 => absurd h9 (show ¬ ((nI 6) ≤ 2) by decide)) (fun _ => ?_)
          refine r_iload_n (n := 2) (i := 2) 0 rfl rfl dX1_letsIn_17 ?_
          refine r_aload_n (n := 0) (i := 0) 1 rfl rfl dX1_letsIn_18 ?_
          refine p_get (fs := [.ref (q + 1), .ref (q + 2), .ref (q + 3), .ref (q + 4), .ref (q + 5), .ref (q + 6), .ref (q + 7), .int ch, .int rv, .int sh, .int (nI fc), .int (nI cn), .int kp, .int rf]) flX1_15 h0 rfl dX1_letsIn_19 ?_
          refine p_alen2 (kd := 0) (n := 6) (a := (6, .inl hi)) rfl h2 rfl dX1_letsIn_22 ?_
          refine r_icmp_ge (tgt := 58) (by decide) dX1_letsIn_23 (fun h9 => absurd h9 (show ¬ ((nI 6) ≤ 2) by decide)) (fun _ => ?_)
          refine r_aload_n (n := 1) (i := 1) 2 rfl rfl dX1_letsIn_26 ?_
          refine r_iload_n (n := 2) (i := 2) 0 rfl rfl dX1_letsIn_27 ?_
          refine p_ialdN (t := 2) h3 (by omega) (by omega) dX1_letsIn_28 ?_
          refine r_aload_n (n := 0) (i := 0) 1 rfl rfl dX1_letsIn_29 ?_
          refine p_get (fs := [.ref (q + 1), .ref (q + 2), .ref (q + 3), .ref (q + 4), .ref (q + 5), .ref (q + 6), .ref (q + 7), .int ch, .int rv, .int sh, .int (nI fc), .int (nI cn), .int kp, .int rf]) flX1_9 h0 rfl dX1_letsIn_30 ?_
          refine r_iload_n (n := 2) (i := 2) 0 rfl rfl dX1_letsIn_33 ?_
          refine p_ialdN (t := 2) h1 (by omega) (by omega) dX1_letsIn_34 ?_
          refine r_icmp_lt (tgt := 50) (by decide) dX1_letsIn_35 (fun c35_2 => ?_) (fun c35_2 => ?_)
          · refine r_iconst (v := 0) (by decide) dX1_letsIn_50 ?_
            refine r_zreturn rfl (by first | decide +kernel | exact narZ _ | assumption) dX1_letsIn_51 ?_
            refine ⟨?_, rfl⟩
            simp [jLets, bI, c35, c47, c35_1, c47_1, c35_2]
          · refine r_aload_n (n := 1) (i := 1) 2 rfl rfl dX1_letsIn_38 ?_
            refine r_iload_n (n := 2) (i := 2) 0 rfl rfl dX1_letsIn_39 ?_
            refine p_ialdN (t := 2) h3 (by omega) (by omega) dX1_letsIn_40 ?_
            refine r_aload_n (n := 0) (i := 0) 1 rfl rfl dX1_letsIn_41 ?_
            refine p_get (fs := [.ref (q + 1), .ref (q + 2), .ref (q + 3), .ref (q + 4), .ref (q + 5), .ref (q + 6), .ref (q + 7), .int ch, .int rv, .int sh, .int (nI fc), .int (nI cn), .int kp, .int rf]) flX1_15 h0 rfl dX1_letsIn_42 ?_
            refine r_iload_n (n := 2) (i := 2) 0 rfl rfl dX1_letsIn_45 ?_
            refine p_ialdN (t := 2) h2 (by omega) (by omega) dX1_letsIn_46 ?_
            refine r_icmp_le (tgt := 52) (by decide) dX1_letsIn_47 (fun c47_2 => ?_) (fun c47_2 => ?_)
            · refine r_iinc (i := 2) (v := 3) (L' := [(2, .int 3), (0, .ref q), (1, .ref r)]) 0 rfl (by decide) dX1_letsIn_52 (by decide) rfl ?_
              refine r_goto (tgt := 2) (by decide) dX1_letsIn_55 ?_
              refine r_iload_n (n := 2) (i := 2) 0 rfl rfl dX1_letsIn_2 ?_
              refine r_aload_n (n := 1) (i := 1) 2 rfl rfl dX1_letsIn_3 ?_
              refine p_alen2 (kd := 0) (n := 6) (a := (6, .inl ip)) rfl h3 rfl dX1_letsIn_4 ?_
              refine r_icmp_ge (tgt := 58) (by decide) dX1_letsIn_5 (fun h9 => absurd h9 (show ¬ ((nI 6) ≤ 3) by decide)) (fun _ => ?_)
              refine r_iload_n (n := 2) (i := 2) 0 rfl rfl dX1_letsIn_8 ?_
              refine r_aload_n (n := 0) (i := 0) 1 rfl rfl dX1_letsIn_9 ?_
              refine p_get (fs := [.ref (q + 1), .ref (q + 2), .ref (q + 3), .ref (q + 4), .ref (q + 5), .ref (q + 6), .ref (q + 7), .int ch, .int rv, .int sh, .int (nI fc), .int (nI cn), .int kp, .int rf]) flX1_9 h0 rfl dX1_letsIn_10 ?_
              refine p_alen2 (kd := 0) (n := 6) (a := (6, .inl lo)) rfl h1 rfl dX1_letsIn_13 ?_
              refine r_icmp_ge (tgt := 58) (by decide) dX1_letsIn_14 (fun h9 => absurd h9 (show ¬ ((nI 6) ≤ 3) by decide)) (fun _ => ?_)
              refine r_iload_n (n := 2) (i := 2) 0 rfl rfl dX1_letsIn_17 ?_
              refine r_aload_n (n := 0) (i := 0) 1 rfl rfl dX1_letsIn_18 ?_
              refine p_get (fs := [.ref (q + 1), .ref (q + 2), .ref (q + 3), .ref (q + 4), .ref (q + 5), .ref (q + 6), .ref (q + 7), .int ch, .int rv, .int sh, .int (nI fc), .int (nI cn), .int kp, .int rf]) flX1_15 h0 rfl dX1_letsIn_19 ?_
              refine p_alen2 (kd := 0) (n := 6) (a := (6, .inl hi)) rfl h2 rfl dX1_letsIn_22 ?_
              refine r_icmp_ge (tgt := 58) (by decide) dX1_letsIn_23 (fun h9 => absurd h9 (show ¬ ((nI 6) ≤ 3) by decide)) (fun _ => ?_)
              refine r_aload_n (n := 1) (i := 1) 2 rfl rfl dX1_letsIn_26 ?_
              refine r_iload_n (n := 2) (i := 2) 0 rfl rfl dX1_letsIn_27 ?_
              refine p_ialdN (t := 3) h3 (by omega) (by omega) dX1_letsIn_28 ?_
              refine r_aload_n (n := 0) (i := 0) 1 rfl rfl dX1_letsIn_29 ?_
              refine p_get (fs := [.ref (q + 1), .ref (q + 2), .ref (q + 3), .ref (q + 4), .ref (q + 5), .ref (q + 6), .ref (q + 7), .int ch, .int rv, .int sh, .int (nI fc), .int (nI cn), .int kp, .int rf]) flX1_9 h0 rfl dX1_letsIn_30 ?_
              refine r_iload_n (n := 2) (i := 2) 0 rfl rfl dX1_letsIn_33 ?_
              refine p_ialdN (t := 3) h1 (by omega) (by omega) dX1_letsIn_34 ?_
              refine r_icmp_lt (tgt := 50) (by decide) dX1_letsIn_35 (fun c35_3 => ?_) (fun c35_3 => ?_)
              · refine r_iconst (v := 0) (by decide) dX1_letsIn_50 ?_
                refine r_zreturn rfl (by first | decide +kernel | exact narZ _ | assumption) dX1_letsIn_51 ?_
                refine ⟨?_, rfl⟩
                simp [jLets, bI, c35, c47, c35_1, c47_1, c35_2, c47_2, c35_3]
              · refine r_aload_n (n := 1) (i := 1) 2 rfl rfl dX1_letsIn_38 ?_
                refine r_iload_n (n := 2) (i := 2) 0 rfl rfl dX1_letsIn_39 ?_
                refine p_ialdN (t := 3) h3 (by omega) (by omega) dX1_letsIn_40 ?_
                refine r_aload_n (n := 0) (i := 0) 1 rfl rfl dX1_letsIn_41 ?_
                refine p_get (fs := [.ref (q + 1), .ref (q + 2), .ref (q + 3), .ref (q + 4), .ref (q + 5), .ref (q + 6), .ref (q + 7), .int ch, .int rv, .int sh, .int (nI fc), .int (nI cn), .int kp, .int rf]) flX1_15 h0 rfl dX1_letsIn_42 ?_
                refine r_iload_n (n := 2) (i := 2) 0 rfl rfl dX1_letsIn_45 ?_
                refine p_ialdN (t := 3) h2 (by omega) (by omega) dX1_letsIn_46 ?_
                refine r_icmp_le (tgt := 52) (by decide) dX1_letsIn_47 (fun c47_3 => ?_) (fun c47_3 => ?_)
                · refine r_iinc (i := 2) (v := 4) (L' := [(2, .int 4), (0, .ref q), (1, .ref r)]) 0 rfl (by decide) dX1_letsIn_52 (by decide) rfl ?_
                  refine r_goto (tgt := 2) (by decide) dX1_letsIn_55 ?_
                  refine r_iload_n (n := 2) (i := 2) 0 rfl rfl dX1_letsIn_2 ?_
                  refine r_aload_n (n := 1) (i := 1) 2 rfl rfl dX1_letsIn_3 ?_
                  refine p_alen2 (kd := 0) (n := 6) (a := (6, .inl ip)) rfl h3 rfl dX1_letsIn_4 ?_
                  refine r_icmp_ge (tgt := 58) (by decide) dX1_letsIn_5 (fun h9 => absurd h9 (show ¬ ((nI 6) ≤ 4) by decide)) (fun _ => ?_)
                  refine r_iload_n (n := 2) (i := 2) 0 rfl rfl dX1_letsIn_8 ?_
                  refine r_aload_n (n := 0) (i := 0) 1 rfl rfl dX1_letsIn_9 ?_
                  refine p_get (fs := [.ref (q + 1), .ref (q + 2), .ref (q + 3), .ref (q + 4), .ref (q + 5), .ref (q + 6), .ref (q + 7), .int ch, .int rv, .int sh, .int (nI fc), .int (nI cn), .int kp, .int rf]) flX1_9 h0 rfl dX1_letsIn_10 ?_
                  refine p_alen2 (kd := 0) (n := 6) (a := (6, .inl lo)) rfl h1 rfl dX1_letsIn_13 ?_
                  refine r_icmp_ge (tgt := 58) (by decide) dX1_letsIn_14 (fun h9 => absurd h9 (show ¬ ((nI 6) ≤ 4) by decide)) (fun _ => ?_)
                  refine r_iload_n (n := 2) (i := 2) 0 rfl rfl dX1_letsIn_17 ?_
                  refine r_aload_n (n := 0) (i := 0) 1 rfl rfl dX1_letsIn_18 ?_
                  refine p_get (fs := [.ref (q + 1), .ref (q + 2), .ref (q + 3), .ref (q + 4), .ref (q + 5), .ref (q + 6), .ref (q + 7), .int ch, .int rv, .int sh, .int (nI fc), .int (nI cn), .int kp, .int rf]) flX1_15 h0 rfl dX1_letsIn_19 ?_
                  refine p_alen2 (kd := 0) (n := 6) (a := (6, .inl hi)) rfl h2 rfl dX1_letsIn_22 ?_
                  refine r_icmp_ge (tgt := 58) (by decide) dX1_letsIn_23 (fun h9 => absurd h9 (show ¬ ((nI 6) ≤ 4) by decide)) (fun _ => ?_)
                  refine r_aload_n (n := 1) (i := 1) 2 rfl rfl dX1_letsIn_26 ?_
                  refine r_iload_n (n := 2) (i := 2) 0 rfl rfl dX1_letsIn_27 ?_
                  refine p_ialdN (t := 4) h3 (by omega) (by omega) dX1_letsIn_28 ?_
                  refine r_aload_n (n := 0) (i := 0) 1 rfl rfl dX1_letsIn_29 ?_
                  refine p_get (fs := [.ref (q + 1), .ref (q + 2), .ref (q + 3), .ref (q + 4), .ref (q + 5), .ref (q + 6), .ref (q + 7), .int ch, .int rv, .int sh, .int (nI fc), .int (nI cn), .int kp, .int rf]) flX1_9 h0 rfl dX1_letsIn_30 ?_
                  refine r_iload_n (n := 2) (i := 2) 0 rfl rfl dX1_letsIn_33 ?_
                  refine p_ialdN (t := 4) h1 (by omega) (by omega) dX1_letsIn_34 ?_
                  refine r_icmp_lt (tgt := 50) (by decide) dX1_letsIn_35 (fun c35_4 => ?_) (fun c35_4 => ?_)
                  · refine r_iconst (v := 0) (by decide) dX1_letsIn_50 ?_
                    refine r_zreturn rfl (by first | decide +kernel | exact narZ _ | assumption) dX1_letsIn_51 ?_
                    refine ⟨?_, rfl⟩
                    simp [jLets, bI, c35, c47, c35_1, c47_1, c35_2, c47_2, c35_3, c47_3, c35_4]
                  · refine r_aload_n (n := 1) (i := 1) 2 rfl rfl dX1_letsIn_38 ?_
                    refine r_iload_n (n := 2) (i := 2) 0 rfl rfl dX1_letsIn_39 ?_
                    refine p_ialdN (t := 4) h3 (by omega) (by omega) dX1_letsIn_40 ?_
                    refine r_aload_n (n := 0) (i := 0) 1 rfl rfl dX1_letsIn_41 ?_
                    refine p_get (fs := [.ref (q + 1), .ref (q + 2), .ref (q + 3), .ref (q + 4), .ref (q + 5), .ref (q + 6), .ref (q + 7), .int ch, .int rv, .int sh, .int (nI fc), .int (nI cn), .int kp, .int rf]) flX1_15 h0 rfl dX1_letsIn_42 ?_
                    refine r_iload_n (n := 2) (i := 2) 0 rfl rfl dX1_letsIn_45 ?_
                    refine p_ialdN (t := 4) h2 (by omega) (by omega) dX1_letsIn_46 ?_
                    refine r_icmp_le (tgt := 52) (by decide) dX1_letsIn_47 (fun c47_4 => ?_) (fun c47_4 => ?_)
                    · refine r_iinc (i := 2) (v := 5) (L' := [(2, .int 5), (0, .ref q), (1, .ref r)]) 0 rfl (by decide) dX1_letsIn_52 (by decide) rfl ?_
                      refine r_goto (tgt := 2) (by decide) dX1_letsIn_55 ?_
                      refine r_iload_n (n := 2) (i := 2) 0 rfl rfl dX1_letsIn_2 ?_
                      refine r_aload_n (n := 1) (i := 1) 2 rfl rfl dX1_letsIn_3 ?_
                      refine p_alen2 (kd := 0) (n := 6) (a := (6, .inl ip)) rfl h3 rfl dX1_letsIn_4 ?_
                      refine r_icmp_ge (tgt := 58) (by decide) dX1_letsIn_5 (fun h9 => absurd h9 (show ¬ ((nI 6) ≤ 5) by decide)) (fun _ => ?_)
                      refine r_iload_n (n := 2) (i := 2) 0 rfl rfl dX1_letsIn_8 ?_
                      refine r_aload_n (n := 0) (i := 0) 1 rfl rfl dX1_letsIn_9 ?_
                      refine p_get (fs := [.ref (q + 1), .ref (q + 2), .ref (q + 3), .ref (q + 4), .ref (q + 5), .ref (q + 6), .ref (q + 7), .int ch, .int rv, .int sh, .int (nI fc), .int (nI cn), .int kp, .int rf]) flX1_9 h0 rfl dX1_letsIn_10 ?_
                      refine p_alen2 (kd := 0) (n := 6) (a := (6, .inl lo)) rfl h1 rfl dX1_letsIn_13 ?_
                      refine r_icmp_ge (tgt := 58) (by decide) dX1_letsIn_14 (fun h9 => absurd h9 (show ¬ ((nI 6) ≤ 5) by decide)) (fun _ => ?_)
                      refine r_iload_n (n := 2) (i := 2) 0 rfl rfl dX1_letsIn_17 ?_
                      refine r_aload_n (n := 0) (i := 0) 1 rfl rfl dX1_letsIn_18 ?_
                      refine p_get (fs := [.ref (q + 1), .ref (q + 2), .ref (q + 3), .ref (q + 4), .ref (q + 5), .ref (q + 6), .ref (q + 7), .int ch, .int rv, .int sh, .int (nI fc), .int (nI cn), .int kp, .int rf]) flX1_15 h0 rfl dX1_letsIn_19 ?_
                      refine p_alen2 (kd := 0) (n := 6) (a := (6, .inl hi)) rfl h2 rfl dX1_letsIn_22 ?_
                      refine r_icmp_ge (tgt := 58) (by decide) dX1_letsIn_23 (fun h9 => absurd h9 (show ¬ ((nI 6) ≤ 5) by decide)) (fun _ => ?_)
                      refine r_aload_n (n := 1) (i := 1) 2 rfl rfl dX1_letsIn_26 ?_
                      refine r_iload_n (n := 2) (i := 2) 0 rfl rfl dX1_letsIn_27 ?_
                      refine p_ialdN (t := 5) h3 (by omega) (by omega) dX1_letsIn_28 ?_
                      refine r_aload_n (n := 0) (i := 0) 1 rfl rfl dX1_letsIn_29 ?_
                      refine p_get (fs := [.ref (q + 1), .ref (q + 2), .ref (q + 3), .ref (q + 4), .ref (q + 5), .ref (q + 6), .ref (q + 7), .int ch, .int rv, .int sh, .int (nI fc), .int (nI cn), .int kp, .int rf]) flX1_9 h0 rfl dX1_letsIn_30 ?_
                      refine r_iload_n (n := 2) (i := 2) 0 rfl rfl dX1_letsIn_33 ?_
                      refine p_ialdN (t := 5) h1 (by omega) (by omega) dX1_letsIn_34 ?_
                      refine r_icmp_lt (tgt := 50) (by decide) dX1_letsIn_35 (fun c35_5 => ?_) (fun c35_5 => ?_)
                      · refine r_iconst (v := 0) (by decide) dX1_letsIn_50 ?_
                        refine r_zreturn rfl (by first | decide +kernel | exact narZ _ | assumption) dX1_letsIn_51 ?_
                        refine ⟨?_, rfl⟩
                        simp [jLets, bI, c35, c47, c35_1, c47_1, c35_2, c47_2, c35_3, c47_3, c35_4, c47_4, c35_5]
                      · refine r_aload_n (n := 1) (i := 1) 2 rfl rfl dX1_letsIn_38 ?_
                        refine r_iload_n (n := 2) (i := 2) 0 rfl rfl dX1_letsIn_39 ?_
                        refine p_ialdN (t := 5) h3 (by omega) (by omega) dX1_letsIn_40 ?_
                        refine r_aload_n (n := 0) (i := 0) 1 rfl rfl dX1_letsIn_41 ?_
                        refine p_get (fs := [.ref (q + 1), .ref (q + 2), .ref (q + 3), .ref (q + 4), .ref (q + 5), .ref (q + 6), .ref (q + 7), .int ch, .int rv, .int sh, .int (nI fc), .int (nI cn), .int kp, .int rf]) flX1_15 h0 rfl dX1_letsIn_42 ?_
                        refine r_iload_n (n := 2) (i := 2) 0 rfl rfl dX1_letsIn_45 ?_
                        refine p_ialdN (t := 5) h2 (by omega) (by omega) dX1_letsIn_46 ?_
                        refine r_icmp_le (tgt := 52) (by decide) dX1_letsIn_47 (fun c47_5 => ?_) (fun c47_5 => ?_)
                        · refine r_iinc (i := 2) (v := 6) (L' := [(2, .int 6), (0, .ref q), (1, .ref r)]) 0 rfl (by decide) dX1_letsIn_52 (by decide) rfl ?_
                          refine r_goto (tgt := 2) (by decide) dX1_letsIn_55 ?_
                          refine r_iload_n (n := 2) (i := 2) 0 rfl rfl dX1_letsIn_2 ?_
                          refine r_aload_n (n := 1) (i := 1) 2 rfl rfl dX1_letsIn_3 ?_
                          refine p_alen2 (kd := 0) (n := 6) (a := (6, .inl ip)) rfl h3 rfl dX1_letsIn_4 ?_
                          refine r_icmp_ge (tgt := 58) (by decide) dX1_letsIn_5 (fun _ => ?_) (fun h9 => absurd (show (nI 6) ≤ 6 by decide) h9)
                          refine r_iconst (v := 1) (by decide) dX1_letsIn_58 ?_
                          refine r_zreturn rfl (by first | decide +kernel | exact narZ _ | assumption) dX1_letsIn_59 ?_
                          refine ⟨?_, rfl⟩
                          simp [jLets, bI, c35, c47, c35_1, c47_1, c35_2, c47_2, c35_3, c47_3, c35_4, c47_4, c35_5, c47_5]
                        · refine r_iconst (v := 0) (by decide) dX1_letsIn_50 ?_
                          refine r_zreturn rfl (by first | decide +kernel | exact narZ _ | assumption) dX1_letsIn_51 ?_
                          refine ⟨?_, rfl⟩
                          simp [jLets, bI, c35, c47, c35_1, c47_1, c35_2, c47_2, c35_3, c47_3, c35_4, c47_4, c35_5, c47_5]
                    · refine r_iconst (v := 0) (by decide) dX1_letsIn_50 ?_
                      refine r_zreturn rfl (by first | decide +kernel | exact narZ _ | assumption) dX1_letsIn_51 ?_
                      refine ⟨?_, rfl⟩
                      simp [jLets, bI, c35, c47, c35_1, c47_1, c35_2, c47_2, c35_3, c47_3, c35_4, c47_4]
                · refine r_iconst (v := 0) (by decide) dX1_letsIn_50 ?_
                  refine r_zreturn rfl (by first | decide +kernel | exact narZ _ | assumption) dX1_letsIn_51 ?_
                  refine ⟨?_, rfl⟩
                  simp [jLets, bI, c35, c47, c35_1, c47_1, c35_2, c47_2, c35_3, c47_3]
            · refine r_iconst (v := 0) (by decide) dX1_letsIn_50 ?_
              refine r_zreturn rfl (by first | decide +kernel | exact narZ _ | assumption) dX1_letsIn_51 ?_
              refine ⟨?_, rfl⟩
              simp [jLets, bI, c35, c47, c35_1, c47_1, c35_2, c47_2]
        · refine r_iconst (v := 0) (by decide) dX1_letsIn_50 ?_
          refine r_zreturn rfl (by first | decide +kernel | exact narZ _ | assumption) dX1_letsIn_51 ?_
          refine ⟨?_, rfl⟩
          simp [jLets, bI, c35, c47, c35_1, c47_1]
    · refine r_iconst (v := 0) (by decide) dX1_letsIn_50 ?_
      refine r_zreturn rfl (by first | decide +kernel | exact narZ _ | assumption) dX1_letsIn_51 ?_
      refine ⟨?_, rfl⟩
      simp [jLets, bI, c35, c47]
