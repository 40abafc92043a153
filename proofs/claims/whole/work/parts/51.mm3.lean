/-! ===== the reference's feed, side, ask (printed by wip/gen/mm3.py) ===== -/
theorem sh_eq (v : Int32) {n : Nat} (hn : n ≤ 24) : (v >>> (nI n &&& 31)) &&& 255 = jSh v (nI n) := by
  unfold jSh
  apply b_ext
  intro i hi
  rw [b_and, b_and, b_255]
  by_cases h : i < 8
  · rw [b_sshr n (by omega) v hi, if_pos (by omega), b_ushr n (by omega) v i]
  · rw [decide_eq_false h, Bool.and_false, Bool.and_false]
theorem sh_k : ∀ k : Nat, k < 20 → 24 - 8 * (nI k - nI k / 4 * 4) = nI (24 - 8 * (k % 4)) := by decide +kernel
theorem by_eq (v : Int32) {k : Nat} (hk : k < 20) : vp_nar .byte ((v >>> ((24 - 8 * (nI k - nI k / 4 * 4)) &&& 31)).toInt8.toInt32) &&& 255 = jSh v (nI (24 - 8 * (k % 4))) := by
  rw [vp_nar_byte, bp_b, bp_b, sh_k k hk]
  exact sh_eq v (by omega)
def arg5 (a b c d e : Int32) (q : Nat) : Int32 := if q = 0 then a else if q = 1 then b else if q = 2 then c else if q = 3 then d else e
/-- the tape with k bytes more -/
def fdB (bs : Nat → Int32) (t : Nat) (a b c d e : Int32) (k : Nat) : Nat → Int32 := fun z => if t ≤ z ∧ z < t + k then jSh (arg5 a b c d e ((z - t) / 4)) (nI (24 - 8 * ((z - t) % 4))) else bs z
theorem fd4_v {bs : Nat → Int32} {t z : Nat} {v : Int32} : fd4 bs t v z = if t ≤ z ∧ z < t + 4 then jSh v (nI (24 - 8 * (z - t))) else bs z := by
  unfold fd4
  by_cases h : t ≤ z ∧ z < t + 4
  · rw [if_pos h]
    rcases (show z = t ∨ z = t + 1 ∨ z = t + 2 ∨ z = t + 3 by omega) with e | e | e | e <;> subst e
    · rw [pk_un (by omega), pk_un (by omega), pk_un (by omega), pk_us, Nat.sub_self]; rfl
    · rw [pk_un (by omega), pk_un (by omega), pk_us, Nat.add_sub_cancel_left]; rfl
    · rw [pk_un (by omega), pk_us, Nat.add_sub_cancel_left]; rfl
    · rw [pk_us, Nat.add_sub_cancel_left]; rfl
  · rw [if_neg h, pk_un (by omega), pk_un (by omega), pk_un (by omega), pk_un (by omega)]
theorem fd_eq {bs : Nat → Int32} {t : Nat} {a b c d e : Int32} (z : Nat) : fdB bs t a b c d e 20 z = fd4 (fd4 (fd4 (fd4 (fd4 bs t a) (t + 4) b) (t + 8) c) (t + 12) d) (t + 16) e z := by
  rw [fd4_v, fd4_v, fd4_v, fd4_v, fd4_v]
  unfold fdB
  by_cases h : t ≤ z ∧ z < t + 20
  · rw [if_pos h]
    rcases (show (z - t) / 4 = 0 ∨ (z - t) / 4 = 1 ∨ (z - t) / 4 = 2 ∨ (z - t) / 4 = 3 ∨ (z - t) / 4 = 4 by omega) with q | q | q | q | q <;> rw [q] <;> unfold arg5
    · rw [if_pos rfl, if_neg (by omega), if_neg (by omega), if_neg (by omega), if_neg (by omega), if_pos (by omega), show (z - t) % 4 = z - t by omega]
    · rw [if_neg (by decide), if_pos rfl, if_neg (by omega), if_neg (by omega), if_neg (by omega), if_pos (by omega), show (z - t) % 4 = z - (t + 4) by omega]
    · rw [if_neg (by decide), if_neg (by decide), if_pos rfl, if_neg (by omega), if_neg (by omega), if_pos (by omega), show (z - t) % 4 = z - (t + 8) by omega]
    · rw [if_neg (by decide), if_neg (by decide), if_neg (by decide), if_pos rfl, if_neg (by omega), if_pos (by omega), show (z - t) % 4 = z - (t + 12) by omega]
    · rw [if_neg (by decide), if_neg (by decide), if_neg (by decide), if_neg (by decide), if_pos (by omega), show (z - t) % 4 = z - (t + 16) by omega]
  · rw [if_neg h, if_neg (by omega), if_neg (by omega), if_neg (by omega), if_neg (by omega), if_neg (by omega)]
theorem fd_step {bs tg : Nat → Int32} {t k : Nat} {a b c d e v w : Int32} (h : ∀ z, z < 300 → tg z &&& 255 = fdB bs t a b c d e k z) (hv : arg5 a b c d e (k / 4) = v) (hw : w &&& 255 = jSh v (nI (24 - 8 * (k % 4)))) : ∀ z, z < 300 → upd tg (t + k) w z &&& 255 = fdB bs t a b c d e (k + 1) z := by
  intro z hz
  by_cases e1 : z = t + k
  · subst e1
    rw [pk_us, hw]
    unfold fdB
    rw [if_pos (by omega), Nat.add_sub_cancel_left, hv]
  · rw [pk_un e1, h z hz]
    unfold fdB
    by_cases c1 : t ≤ z ∧ z < t + k
    · rw [if_pos c1, if_pos (by omega)]
    · rw [if_neg c1, if_neg (by omega)]
theorem lp_feedM {O : bO} {d : Nat} {f : bF} {n s : Nat} {Q : bR → bG → Prop} {th_ : Int32} {tr_ : Int32} {wh_ : Int32} {fl_ : Int32} {nm_ : Int32} {q_ : Nat} {sz_ : Int32} {at_ : Int32} {so_ : Int32} {pl_ : Int32} {mk_ : Int32} {nu_ : Int32} {di_ : Int32} {br_ : Int32} {iff_ : Int32} {wo_ : Int64} {nd_ : Int32} {td_ : Int32} {na_ : Int32} {hs_ : Int32} {nf_ : Int32} {t : Nat} {a b c d9 e : Int32} {bs : Nat → Int32} (ht : t + 20 ≤ 300) (hd : 0 ≤ d) (hQ : ∀ tg : Nat → Int32, (∀ z, z < 300 → tg z &&& 255 = fdB bs t a b c d9 e 20 z) → Q (.inl (some (.int (nI (t + 20))))) (bU (bU f 50 (.inr (11, [.int th_, .int tr_, .int wh_, .int fl_, .int nm_, .ref 51, .ref q_, .ref 53, .ref 54, .int (nI (t + 20)), .int sz_, .int at_, .int so_, .int pl_, .int mk_, .int nu_, .int di_, .int br_, .int iff_, .long wo_, .ref 55, .ref 56, .int nd_, .int td_, .ref 57, .int na_, .ref 58, .ref 59, .ref 60, .ref 61, .ref 62, .ref 63, .int hs_, .ref 64, .int nf_]))) 54 (.inl (1, 300, .inl tg)), n, s)) : ∀ (j k : Nat) (tg : Nat → Int32), k + j = 20 → (∀ z, z < 300 → tg z &&& 255 = fdB bs t a b c d9 e k z) → bV O mX11_feed d 23 [(6, .int (nI k)), (0, .ref 50), (1, .int a), (2, .int b), (3, .int c), (4, .int d9), (5, .int e)] [] (bU (bU f 50 (.inr (11, [.int th_, .int tr_, .int wh_, .int fl_, .int nm_, .ref 51, .ref q_, .ref 53, .ref 54, .int (nI (t + k)), .int sz_, .int at_, .int so_, .int pl_, .int mk_, .int nu_, .int di_, .int br_, .int iff_, .long wo_, .ref 55, .ref 56, .int nd_, .int td_, .ref 57, .int na_, .ref 58, .ref 59, .ref 60, .ref 61, .ref 62, .ref 63, .int hs_, .ref 64, .int nf_]))) 54 (.inl (1, 300, .inl tg)), n, s) Q := by
  intro j
  induction j with
  | zero =>
    intro k tg h1 h2
    have h1 : k = 20 := by omega
    subst h1
    show bV O _ d 23 [(6, .int (nI 20)), (0, .ref 50), (1, .int a), (2, .int b), (3, .int c), (4, .int d9), (5, .int e)] [] (bU (bU f 50 (.inr (11, [.int th_, .int tr_, .int wh_, .int fl_, .int nm_, .ref 51, .ref q_, .ref 53, .ref 54, .int (nI (t + 20)), .int sz_, .int at_, .int so_, .int pl_, .int mk_, .int nu_, .int di_, .int br_, .int iff_, .long wo_, .ref 55, .ref 56, .int nd_, .int td_, .ref 57, .int na_, .ref 58, .ref 59, .ref 60, .ref 61, .ref 62, .ref 63, .int hs_, .ref 64, .int nf_]))) 54 (.inl (1, 300, .inl tg)), n, s) _
    refine r_iload (i := 6) 0 rfl dX11_feed_23 ?_
    refine r_bipush (v := 20) (by decide) dX11_feed_25 ?_
    refine r_icmp_ge (tgt := 117) (by decide) dX11_feed_27 (fun _ => ?_) (fun h9 => absurd (show (20 : Int32) ≤ (nI 20) by decide) h9)
    refine r_aload_n (n := 0) (i := 0) 1 rfl rfl dX11_feed_117 ?_
    refine p_get (fs := [.int th_, .int tr_, .int wh_, .int fl_, .int nm_, .ref 51, .ref q_, .ref 53, .ref 54, .int (nI (t + 20)), .int sz_, .int at_, .int so_, .int pl_, .int mk_, .int nu_, .int di_, .int br_, .int iff_, .long wo_, .ref 55, .ref 56, .int nd_, .int td_, .ref 57, .int na_, .ref 58, .ref 59, .ref 60, .ref 61, .ref 62, .ref 63, .int hs_, .ref 64, .int nf_]) flX11_207 (by exact ((bU_n (by decide)).trans (bU_s _ _ _))) rfl dX11_feed_118 ?_
    refine r_ireturn rfl dX11_feed_121 ?_
    exact hQ tg h2
  | succ j ih =>
    intro k tg h1 h2
    show bV O _ d 23 [(6, .int (nI k)), (0, .ref 50), (1, .int a), (2, .int b), (3, .int c), (4, .int d9), (5, .int e)] [] (bU (bU f 50 (.inr (11, [.int th_, .int tr_, .int wh_, .int fl_, .int nm_, .ref 51, .ref q_, .ref 53, .ref 54, .int (nI (t + k)), .int sz_, .int at_, .int so_, .int pl_, .int mk_, .int nu_, .int di_, .int br_, .int iff_, .long wo_, .ref 55, .ref 56, .int nd_, .int td_, .ref 57, .int na_, .ref 58, .ref 59, .ref 60, .ref 61, .ref 62, .ref 63, .int hs_, .ref 64, .int nf_]))) 54 (.inl (1, 300, .inl tg)), n, s) _
    refine r_iload (i := 6) 0 rfl dX11_feed_23 ?_
    refine r_bipush (v := 20) (by decide) dX11_feed_25 ?_
    refine r_icmp_ge (tgt := 117) (by decide) dX11_feed_27 (fun h9 => absurd h9 (fun h7 => absurd ((nI_leI (a := 20) (b := k) (by omega) (by omega)).mp h7) (by omega))) (fun _ => ?_)
    refine r_iload (i := 6) 0 rfl dX11_feed_30 ?_
    refine r_iconst (v := 4) (by decide) dX11_feed_32 ?_
    refine r_icmp_ge (tgt := 40) (by decide) dX11_feed_33 (fun c33 => ?_) (fun c33 => ?_)
    · have c33 : 4 ≤ k := (nI_leI (a := 4) (b := k) (by omega) (by omega)).mp c33
      refine r_iload (i := 6) 0 rfl dX11_feed_40 ?_
      refine r_bipush (v := 8) (by decide) dX11_feed_42 ?_
      refine r_icmp_ge (tgt := 51) (by decide) dX11_feed_44 (fun c44 => ?_) (fun c44 => ?_)
      · have c44 : 8 ≤ k := (nI_leI (a := 8) (b := k) (by omega) (by omega)).mp c44
        refine r_iload (i := 6) 0 rfl dX11_feed_51 ?_
        refine r_bipush (v := 12) (by decide) dX11_feed_53 ?_
        refine r_icmp_ge (tgt := 62) (by decide) dX11_feed_55 (fun c55 => ?_) (fun c55 => ?_)
        · have c55 : 12 ≤ k := (nI_leI (a := 12) (b := k) (by omega) (by omega)).mp c55
          refine r_iload (i := 6) 0 rfl dX11_feed_62 ?_
          refine r_bipush (v := 16) (by decide) dX11_feed_64 ?_
          refine r_icmp_ge (tgt := 74) (by decide) dX11_feed_66 (fun c66 => ?_) (fun c66 => ?_)
          · have c66 : 16 ≤ k := (nI_leI (a := 16) (b := k) (by omega) (by omega)).mp c66
            refine r_iload (i := 5) 6 rfl dX11_feed_74 ?_
            refine r_istore (i := 7) (L' := [(7, .int e), (6, .int (nI k)), (0, .ref 50), (1, .int a), (2, .int b), (3, .int c), (4, .int d9), (5, .int e)]) dX11_feed_76 (by decide) rfl ?_
            refine r_aload_n (n := 0) (i := 0) 2 rfl rfl dX11_feed_78 ?_
            refine p_get (fs := [.int th_, .int tr_, .int wh_, .int fl_, .int nm_, .ref 51, .ref q_, .ref 53, .ref 54, .int (nI (t + k)), .int sz_, .int at_, .int so_, .int pl_, .int mk_, .int nu_, .int di_, .int br_, .int iff_, .long wo_, .ref 55, .ref 56, .int nd_, .int td_, .ref 57, .int na_, .ref 58, .ref 59, .ref 60, .ref 61, .ref 62, .ref 63, .int hs_, .ref 64, .int nf_]) flX11_33 (by exact ((bU_n (by decide)).trans (bU_s _ _ _))) rfl dX11_feed_79 ?_
            refine r_aload_n (n := 0) (i := 0) 2 rfl rfl dX11_feed_82 ?_
            refine p_get (fs := [.int th_, .int tr_, .int wh_, .int fl_, .int nm_, .ref 51, .ref q_, .ref 53, .ref 54, .int (nI (t + k)), .int sz_, .int at_, .int so_, .int pl_, .int mk_, .int nu_, .int di_, .int br_, .int iff_, .long wo_, .ref 55, .ref 56, .int nd_, .int td_, .ref 57, .int na_, .ref 58, .ref 59, .ref 60, .ref 61, .ref 62, .ref 63, .int hs_, .ref 64, .int nf_]) flX11_207 (by exact ((bU_n (by decide)).trans (bU_s _ _ _))) rfl dX11_feed_83 ?_
            refine r_iload (i := 7) 0 rfl dX11_feed_86 ?_
            refine r_bipush (v := 24) (by decide) dX11_feed_88 ?_
            refine r_bipush (v := 8) (by decide) dX11_feed_90 ?_
            refine r_iload (i := 6) 1 rfl dX11_feed_92 ?_
            refine r_iconst (v := 4) (by decide) dX11_feed_94 ?_
            refine r_irem (by decide) dX11_feed_95 ?_
            refine r_imul dX11_feed_96 ?_
            refine r_isub dX11_feed_97 ?_
            refine r_ishr dX11_feed_98 ?_
            refine r_i2b dX11_feed_99 ?_
            refine p_bastN (t := t + k) (by exact bU_s _ _ _) (by omega) (by omega) dX11_feed_100 ?_
            refine bV_h (f2 := bU (bU f 50 (.inr (11, [.int th_, .int tr_, .int wh_, .int fl_, .int nm_, .ref 51, .ref q_, .ref 53, .ref 54, .int (nI (t + k)), .int sz_, .int at_, .int so_, .int pl_, .int mk_, .int nu_, .int di_, .int br_, .int iff_, .long wo_, .ref 55, .ref 56, .int nd_, .int td_, .ref 57, .int na_, .ref 58, .ref 59, .ref 60, .ref 61, .ref 62, .ref 63, .int hs_, .ref 64, .int nf_]))) 54 (.inl (1, 300, .inl (upd tg (t + k) (vp_nar .byte ((e >>> ((24 - (8 * ((nI k) - (nI k) / 4 * 4))) &&& 31)).toInt8.toInt32)))))) (bU_u _ _ _ _) ?_
            refine r_aload_n (n := 0) (i := 0) 2 rfl rfl dX11_feed_101 ?_
            refine r_dup rfl dX11_feed_102 ?_
            refine p_get (fs := [.int th_, .int tr_, .int wh_, .int fl_, .int nm_, .ref 51, .ref q_, .ref 53, .ref 54, .int (nI (t + k)), .int sz_, .int at_, .int so_, .int pl_, .int mk_, .int nu_, .int di_, .int br_, .int iff_, .long wo_, .ref 55, .ref 56, .int nd_, .int td_, .ref 57, .int na_, .ref 58, .ref 59, .ref 60, .ref 61, .ref 62, .ref 63, .int hs_, .ref 64, .int nf_]) flX11_207 (by exact ((bU_n (by decide)).trans (bU_s _ _ _))) rfl dX11_feed_103 ?_
            refine r_iconst (v := 1) (by decide) dX11_feed_106 ?_
            refine r_iaddE (v := nI (t + k + 1)) (nI_add (t + k) 1) dX11_feed_107 ?_
            refine p_put (fs := [.int th_, .int tr_, .int wh_, .int fl_, .int nm_, .ref 51, .ref q_, .ref 53, .ref 54, .int (nI (t + k)), .int sz_, .int at_, .int so_, .int pl_, .int mk_, .int nu_, .int di_, .int br_, .int iff_, .long wo_, .ref 55, .ref 56, .int nd_, .int td_, .ref 57, .int na_, .ref 58, .ref 59, .ref 60, .ref 61, .ref 62, .ref 63, .int hs_, .ref 64, .int nf_]) (fs' := [.int th_, .int tr_, .int wh_, .int fl_, .int nm_, .ref 51, .ref q_, .ref 53, .ref 54, .int (nI (t + k + 1)), .int sz_, .int at_, .int so_, .int pl_, .int mk_, .int nu_, .int di_, .int br_, .int iff_, .long wo_, .ref 55, .ref 56, .int nd_, .int td_, .ref 57, .int na_, .ref 58, .ref 59, .ref 60, .ref 61, .ref 62, .ref 63, .int hs_, .ref 64, .int nf_]) flX11_207 (by exact ((bU_n (by decide)).trans (bU_s _ _ _))) (Nat.le_of_ble_eq_true rfl) (bNf_i _) rfl dX11_feed_108 ?_
            refine bV_h (f2 := bU (bU f 50 (.inr (11, [.int th_, .int tr_, .int wh_, .int fl_, .int nm_, .ref 51, .ref q_, .ref 53, .ref 54, .int (nI (t + k + 1)), .int sz_, .int at_, .int so_, .int pl_, .int mk_, .int nu_, .int di_, .int br_, .int iff_, .long wo_, .ref 55, .ref 56, .int nd_, .int td_, .ref 57, .int na_, .ref 58, .ref 59, .ref 60, .ref 61, .ref 62, .ref 63, .int hs_, .ref 64, .int nf_]))) 54 (.inl (1, 300, .inl (upd tg (t + k) (vp_nar .byte ((e >>> ((24 - (8 * ((nI k) - (nI k) / 4 * 4))) &&& 31)).toInt8.toInt32)))))) (((bU_c (by decide)).trans (congrArg (fun z => bU z 54 (.inl (1, 300, .inl (upd tg (t + k) (vp_nar .byte ((e >>> ((24 - (8 * ((nI k) - (nI k) / 4 * 4))) &&& 31)).toInt8.toInt32)))))) (bU_u _ _ _ _)))) ?_
            refine r_iinc (i := 6) (v := nI (k + 1)) (L' := [(6, .int (nI (k + 1))), (7, .int e), (0, .ref 50), (1, .int a), (2, .int b), (3, .int c), (4, .int d9), (5, .int e)]) 1 rfl (nI_inc1 k) dX11_feed_111 (by decide) rfl ?_
            refine r_goto (tgt := 23) (by decide) dX11_feed_114 ?_
            refine bV_loc [0, 2, 3, 4, 5, 6, 7] rfl ?_; exact ih (k + 1) _ (by omega) (fd_step h2 (v := e) (by unfold arg5; first | rw [if_pos (by omega)] | rw [if_neg (by omega), if_pos (by omega)] | rw [if_neg (by omega), if_neg (by omega), if_pos (by omega)] | rw [if_neg (by omega), if_neg (by omega), if_neg (by omega), if_pos (by omega)] | rw [if_neg (by omega), if_neg (by omega), if_neg (by omega), if_neg (by omega)]) (by_eq e (by omega)))
          · have c66 : ¬ 16 ≤ k := fun h7 => c66 ((nI_leI (a := 16) (b := k) (by omega) (by omega)).mpr h7)
            refine r_iload (i := 4) 5 rfl dX11_feed_69 ?_
            refine r_goto (tgt := 76) (by decide) dX11_feed_71 ?_
            refine r_istore (i := 7) (L' := [(7, .int d9), (6, .int (nI k)), (0, .ref 50), (1, .int a), (2, .int b), (3, .int c), (4, .int d9), (5, .int e)]) dX11_feed_76 (by decide) rfl ?_
            refine r_aload_n (n := 0) (i := 0) 2 rfl rfl dX11_feed_78 ?_
            refine p_get (fs := [.int th_, .int tr_, .int wh_, .int fl_, .int nm_, .ref 51, .ref q_, .ref 53, .ref 54, .int (nI (t + k)), .int sz_, .int at_, .int so_, .int pl_, .int mk_, .int nu_, .int di_, .int br_, .int iff_, .long wo_, .ref 55, .ref 56, .int nd_, .int td_, .ref 57, .int na_, .ref 58, .ref 59, .ref 60, .ref 61, .ref 62, .ref 63, .int hs_, .ref 64, .int nf_]) flX11_33 (by exact ((bU_n (by decide)).trans (bU_s _ _ _))) rfl dX11_feed_79 ?_
            refine r_aload_n (n := 0) (i := 0) 2 rfl rfl dX11_feed_82 ?_
            refine p_get (fs := [.int th_, .int tr_, .int wh_, .int fl_, .int nm_, .ref 51, .ref q_, .ref 53, .ref 54, .int (nI (t + k)), .int sz_, .int at_, .int so_, .int pl_, .int mk_, .int nu_, .int di_, .int br_, .int iff_, .long wo_, .ref 55, .ref 56, .int nd_, .int td_, .ref 57, .int na_, .ref 58, .ref 59, .ref 60, .ref 61, .ref 62, .ref 63, .int hs_, .ref 64, .int nf_]) flX11_207 (by exact ((bU_n (by decide)).trans (bU_s _ _ _))) rfl dX11_feed_83 ?_
            refine r_iload (i := 7) 0 rfl dX11_feed_86 ?_
            refine r_bipush (v := 24) (by decide) dX11_feed_88 ?_
            refine r_bipush (v := 8) (by decide) dX11_feed_90 ?_
            refine r_iload (i := 6) 1 rfl dX11_feed_92 ?_
            refine r_iconst (v := 4) (by decide) dX11_feed_94 ?_
            refine r_irem (by decide) dX11_feed_95 ?_
            refine r_imul dX11_feed_96 ?_
            refine r_isub dX11_feed_97 ?_
            refine r_ishr dX11_feed_98 ?_
            refine r_i2b dX11_feed_99 ?_
            refine p_bastN (t := t + k) (by exact bU_s _ _ _) (by omega) (by omega) dX11_feed_100 ?_
            refine bV_h (f2 := bU (bU f 50 (.inr (11, [.int th_, .int tr_, .int wh_, .int fl_, .int nm_, .ref 51, .ref q_, .ref 53, .ref 54, .int (nI (t + k)), .int sz_, .int at_, .int so_, .int pl_, .int mk_, .int nu_, .int di_, .int br_, .int iff_, .long wo_, .ref 55, .ref 56, .int nd_, .int td_, .ref 57, .int na_, .ref 58, .ref 59, .ref 60, .ref 61, .ref 62, .ref 63, .int hs_, .ref 64, .int nf_]))) 54 (.inl (1, 300, .inl (upd tg (t + k) (vp_nar .byte ((d9 >>> ((24 - (8 * ((nI k) - (nI k) / 4 * 4))) &&& 31)).toInt8.toInt32)))))) (bU_u _ _ _ _) ?_
            refine r_aload_n (n := 0) (i := 0) 2 rfl rfl dX11_feed_101 ?_
            refine r_dup rfl dX11_feed_102 ?_
            refine p_get (fs := [.int th_, .int tr_, .int wh_, .int fl_, .int nm_, .ref 51, .ref q_, .ref 53, .ref 54, .int (nI (t + k)), .int sz_, .int at_, .int so_, .int pl_, .int mk_, .int nu_, .int di_, .int br_, .int iff_, .long wo_, .ref 55, .ref 56, .int nd_, .int td_, .ref 57, .int na_, .ref 58, .ref 59, .ref 60, .ref 61, .ref 62, .ref 63, .int hs_, .ref 64, .int nf_]) flX11_207 (by exact ((bU_n (by decide)).trans (bU_s _ _ _))) rfl dX11_feed_103 ?_
            refine r_iconst (v := 1) (by decide) dX11_feed_106 ?_
            refine r_iaddE (v := nI (t + k + 1)) (nI_add (t + k) 1) dX11_feed_107 ?_
            refine p_put (fs := [.int th_, .int tr_, .int wh_, .int fl_, .int nm_, .ref 51, .ref q_, .ref 53, .ref 54, .int (nI (t + k)), .int sz_, .int at_, .int so_, .int pl_, .int mk_, .int nu_, .int di_, .int br_, .int iff_, .long wo_, .ref 55, .ref 56, .int nd_, .int td_, .ref 57, .int na_, .ref 58, .ref 59, .ref 60, .ref 61, .ref 62, .ref 63, .int hs_, .ref 64, .int nf_]) (fs' := [.int th_, .int tr_, .int wh_, .int fl_, .int nm_, .ref 51, .ref q_, .ref 53, .ref 54, .int (nI (t + k + 1)), .int sz_, .int at_, .int so_, .int pl_, .int mk_, .int nu_, .int di_, .int br_, .int iff_, .long wo_, .ref 55, .ref 56, .int nd_, .int td_, .ref 57, .int na_, .ref 58, .ref 59, .ref 60, .ref 61, .ref 62, .ref 63, .int hs_, .ref 64, .int nf_]) flX11_207 (by exact ((bU_n (by decide)).trans (bU_s _ _ _))) (Nat.le_of_ble_eq_true rfl) (bNf_i _) rfl dX11_feed_108 ?_
            refine bV_h (f2 := bU (bU f 50 (.inr (11, [.int th_, .int tr_, .int wh_, .int fl_, .int nm_, .ref 51, .ref q_, .ref 53, .ref 54, .int (nI (t + k + 1)), .int sz_, .int at_, .int so_, .int pl_, .int mk_, .int nu_, .int di_, .int br_, .int iff_, .long wo_, .ref 55, .ref 56, .int nd_, .int td_, .ref 57, .int na_, .ref 58, .ref 59, .ref 60, .ref 61, .ref 62, .ref 63, .int hs_, .ref 64, .int nf_]))) 54 (.inl (1, 300, .inl (upd tg (t + k) (vp_nar .byte ((d9 >>> ((24 - (8 * ((nI k) - (nI k) / 4 * 4))) &&& 31)).toInt8.toInt32)))))) (((bU_c (by decide)).trans (congrArg (fun z => bU z 54 (.inl (1, 300, .inl (upd tg (t + k) (vp_nar .byte ((d9 >>> ((24 - (8 * ((nI k) - (nI k) / 4 * 4))) &&& 31)).toInt8.toInt32)))))) (bU_u _ _ _ _)))) ?_
            refine r_iinc (i := 6) (v := nI (k + 1)) (L' := [(6, .int (nI (k + 1))), (7, .int d9), (0, .ref 50), (1, .int a), (2, .int b), (3, .int c), (4, .int d9), (5, .int e)]) 1 rfl (nI_inc1 k) dX11_feed_111 (by decide) rfl ?_
            refine r_goto (tgt := 23) (by decide) dX11_feed_114 ?_
            refine bV_loc [0, 2, 3, 4, 5, 6, 7] rfl ?_; exact ih (k + 1) _ (by omega) (fd_step h2 (v := d9) (by unfold arg5; first | rw [if_pos (by omega)] | rw [if_neg (by omega), if_pos (by omega)] | rw [if_neg (by omega), if_neg (by omega), if_pos (by omega)] | rw [if_neg (by omega), if_neg (by omega), if_neg (by omega), if_pos (by omega)] | rw [if_neg (by omega), if_neg (by omega), if_neg (by omega), if_neg (by omega)]) (by_eq d9 (by omega)))
        · have c55 : ¬ 12 ≤ k := fun h7 => c55 ((nI_leI (a := 12) (b := k) (by omega) (by omega)).mpr h7)
          refine r_iload_n (n := 3) (i := 3) 4 rfl rfl dX11_feed_58 ?_
          refine r_goto (tgt := 76) (by decide) dX11_feed_59 ?_
          refine r_istore (i := 7) (L' := [(7, .int c), (6, .int (nI k)), (0, .ref 50), (1, .int a), (2, .int b), (3, .int c), (4, .int d9), (5, .int e)]) dX11_feed_76 (by decide) rfl ?_
          refine r_aload_n (n := 0) (i := 0) 2 rfl rfl dX11_feed_78 ?_
          refine p_get (fs := [.int th_, .int tr_, .int wh_, .int fl_, .int nm_, .ref 51, .ref q_, .ref 53, .ref 54, .int (nI (t + k)), .int sz_, .int at_, .int so_, .int pl_, .int mk_, .int nu_, .int di_, .int br_, .int iff_, .long wo_, .ref 55, .ref 56, .int nd_, .int td_, .ref 57, .int na_, .ref 58, .ref 59, .ref 60, .ref 61, .ref 62, .ref 63, .int hs_, .ref 64, .int nf_]) flX11_33 (by exact ((bU_n (by decide)).trans (bU_s _ _ _))) rfl dX11_feed_79 ?_
          refine r_aload_n (n := 0) (i := 0) 2 rfl rfl dX11_feed_82 ?_
          refine p_get (fs := [.int th_, .int tr_, .int wh_, .int fl_, .int nm_, .ref 51, .ref q_, .ref 53, .ref 54, .int (nI (t + k)), .int sz_, .int at_, .int so_, .int pl_, .int mk_, .int nu_, .int di_, .int br_, .int iff_, .long wo_, .ref 55, .ref 56, .int nd_, .int td_, .ref 57, .int na_, .ref 58, .ref 59, .ref 60, .ref 61, .ref 62, .ref 63, .int hs_, .ref 64, .int nf_]) flX11_207 (by exact ((bU_n (by decide)).trans (bU_s _ _ _))) rfl dX11_feed_83 ?_
          refine r_iload (i := 7) 0 rfl dX11_feed_86 ?_
          refine r_bipush (v := 24) (by decide) dX11_feed_88 ?_
          refine r_bipush (v := 8) (by decide) dX11_feed_90 ?_
          refine r_iload (i := 6) 1 rfl dX11_feed_92 ?_
          refine r_iconst (v := 4) (by decide) dX11_feed_94 ?_
          refine r_irem (by decide) dX11_feed_95 ?_
          refine r_imul dX11_feed_96 ?_
          refine r_isub dX11_feed_97 ?_
          refine r_ishr dX11_feed_98 ?_
          refine r_i2b dX11_feed_99 ?_
          refine p_bastN (t := t + k) (by exact bU_s _ _ _) (by omega) (by omega) dX11_feed_100 ?_
          refine bV_h (f2 := bU (bU f 50 (.inr (11, [.int th_, .int tr_, .int wh_, .int fl_, .int nm_, .ref 51, .ref q_, .ref 53, .ref 54, .int (nI (t + k)), .int sz_, .int at_, .int so_, .int pl_, .int mk_, .int nu_, .int di_, .int br_, .int iff_, .long wo_, .ref 55, .ref 56, .int nd_, .int td_, .ref 57, .int na_, .ref 58, .ref 59, .ref 60, .ref 61, .ref 62, .ref 63, .int hs_, .ref 64, .int nf_]))) 54 (.inl (1, 300, .inl (upd tg (t + k) (vp_nar .byte ((c >>> ((24 - (8 * ((nI k) - (nI k) / 4 * 4))) &&& 31)).toInt8.toInt32)))))) (bU_u _ _ _ _) ?_
          refine r_aload_n (n := 0) (i := 0) 2 rfl rfl dX11_feed_101 ?_
          refine r_dup rfl dX11_feed_102 ?_
          refine p_get (fs := [.int th_, .int tr_, .int wh_, .int fl_, .int nm_, .ref 51, .ref q_, .ref 53, .ref 54, .int (nI (t + k)), .int sz_, .int at_, .int so_, .int pl_, .int mk_, .int nu_, .int di_, .int br_, .int iff_, .long wo_, .ref 55, .ref 56, .int nd_, .int td_, .ref 57, .int na_, .ref 58, .ref 59, .ref 60, .ref 61, .ref 62, .ref 63, .int hs_, .ref 64, .int nf_]) flX11_207 (by exact ((bU_n (by decide)).trans (bU_s _ _ _))) rfl dX11_feed_103 ?_
          refine r_iconst (v := 1) (by decide) dX11_feed_106 ?_
          refine r_iaddE (v := nI (t + k + 1)) (nI_add (t + k) 1) dX11_feed_107 ?_
          refine p_put (fs := [.int th_, .int tr_, .int wh_, .int fl_, .int nm_, .ref 51, .ref q_, .ref 53, .ref 54, .int (nI (t + k)), .int sz_, .int at_, .int so_, .int pl_, .int mk_, .int nu_, .int di_, .int br_, .int iff_, .long wo_, .ref 55, .ref 56, .int nd_, .int td_, .ref 57, .int na_, .ref 58, .ref 59, .ref 60, .ref 61, .ref 62, .ref 63, .int hs_, .ref 64, .int nf_]) (fs' := [.int th_, .int tr_, .int wh_, .int fl_, .int nm_, .ref 51, .ref q_, .ref 53, .ref 54, .int (nI (t + k + 1)), .int sz_, .int at_, .int so_, .int pl_, .int mk_, .int nu_, .int di_, .int br_, .int iff_, .long wo_, .ref 55, .ref 56, .int nd_, .int td_, .ref 57, .int na_, .ref 58, .ref 59, .ref 60, .ref 61, .ref 62, .ref 63, .int hs_, .ref 64, .int nf_]) flX11_207 (by exact ((bU_n (by decide)).trans (bU_s _ _ _))) (Nat.le_of_ble_eq_true rfl) (bNf_i _) rfl dX11_feed_108 ?_
          refine bV_h (f2 := bU (bU f 50 (.inr (11, [.int th_, .int tr_, .int wh_, .int fl_, .int nm_, .ref 51, .ref q_, .ref 53, .ref 54, .int (nI (t + k + 1)), .int sz_, .int at_, .int so_, .int pl_, .int mk_, .int nu_, .int di_, .int br_, .int iff_, .long wo_, .ref 55, .ref 56, .int nd_, .int td_, .ref 57, .int na_, .ref 58, .ref 59, .ref 60, .ref 61, .ref 62, .ref 63, .int hs_, .ref 64, .int nf_]))) 54 (.inl (1, 300, .inl (upd tg (t + k) (vp_nar .byte ((c >>> ((24 - (8 * ((nI k) - (nI k) / 4 * 4))) &&& 31)).toInt8.toInt32)))))) (((bU_c (by decide)).trans (congrArg (fun z => bU z 54 (.inl (1, 300, .inl (upd tg (t + k) (vp_nar .byte ((c >>> ((24 - (8 * ((nI k) - (nI k) / 4 * 4))) &&& 31)).toInt8.toInt32)))))) (bU_u _ _ _ _)))) ?_
          refine r_iinc (i := 6) (v := nI (k + 1)) (L' := [(6, .int (nI (k + 1))), (7, .int c), (0, .ref 50), (1, .int a), (2, .int b), (3, .int c), (4, .int d9), (5, .int e)]) 1 rfl (nI_inc1 k) dX11_feed_111 (by decide) rfl ?_
          refine r_goto (tgt := 23) (by decide) dX11_feed_114 ?_
          refine bV_loc [0, 2, 3, 4, 5, 6, 7] rfl ?_; exact ih (k + 1) _ (by omega) (fd_step h2 (v := c) (by unfold arg5; first | rw [if_pos (by omega)] | rw [if_neg (by omega), if_pos (by omega)] | rw [if_neg (by omega), if_neg (by omega), if_pos (by omega)] | rw [if_neg (by omega), if_neg (by omega), if_neg (by omega), if_pos (by omega)] | rw [if_neg (by omega), if_neg (by omega), if_neg (by omega), if_neg (by omega)]) (by_eq c (by omega)))
      · have c44 : ¬ 8 ≤ k := fun h7 => c44 ((nI_leI (a := 8) (b := k) (by omega) (by omega)).mpr h7)
        refine r_iload_n (n := 2) (i := 2) 3 rfl rfl dX11_feed_47 ?_
        refine r_goto (tgt := 76) (by decide) dX11_feed_48 ?_
        refine r_istore (i := 7) (L' := [(7, .int b), (6, .int (nI k)), (0, .ref 50), (1, .int a), (2, .int b), (3, .int c), (4, .int d9), (5, .int e)]) dX11_feed_76 (by decide) rfl ?_
        refine r_aload_n (n := 0) (i := 0) 2 rfl rfl dX11_feed_78 ?_
        refine p_get (fs := [.int th_, .int tr_, .int wh_, .int fl_, .int nm_, .ref 51, .ref q_, .ref 53, .ref 54, .int (nI (t + k)), .int sz_, .int at_, .int so_, .int pl_, .int mk_, .int nu_, .int di_, .int br_, .int iff_, .long wo_, .ref 55, .ref 56, .int nd_, .int td_, .ref 57, .int na_, .ref 58, .ref 59, .ref 60, .ref 61, .ref 62, .ref 63, .int hs_, .ref 64, .int nf_]) flX11_33 (by exact ((bU_n (by decide)).trans (bU_s _ _ _))) rfl dX11_feed_79 ?_
        refine r_aload_n (n := 0) (i := 0) 2 rfl rfl dX11_feed_82 ?_
        refine p_get (fs := [.int th_, .int tr_, .int wh_, .int fl_, .int nm_, .ref 51, .ref q_, .ref 53, .ref 54, .int (nI (t + k)), .int sz_, .int at_, .int so_, .int pl_, .int mk_, .int nu_, .int di_, .int br_, .int iff_, .long wo_, .ref 55, .ref 56, .int nd_, .int td_, .ref 57, .int na_, .ref 58, .ref 59, .ref 60, .ref 61, .ref 62, .ref 63, .int hs_, .ref 64, .int nf_]) flX11_207 (by exact ((bU_n (by decide)).trans (bU_s _ _ _))) rfl dX11_feed_83 ?_
        refine r_iload (i := 7) 0 rfl dX11_feed_86 ?_
        refine r_bipush (v := 24) (by decide) dX11_feed_88 ?_
        refine r_bipush (v := 8) (by decide) dX11_feed_90 ?_
        refine r_iload (i := 6) 1 rfl dX11_feed_92 ?_
        refine r_iconst (v := 4) (by decide) dX11_feed_94 ?_
        refine r_irem (by decide) dX11_feed_95 ?_
        refine r_imul dX11_feed_96 ?_
        refine r_isub dX11_feed_97 ?_
        refine r_ishr dX11_feed_98 ?_
        refine r_i2b dX11_feed_99 ?_
        refine p_bastN (t := t + k) (by exact bU_s _ _ _) (by omega) (by omega) dX11_feed_100 ?_
        refine bV_h (f2 := bU (bU f 50 (.inr (11, [.int th_, .int tr_, .int wh_, .int fl_, .int nm_, .ref 51, .ref q_, .ref 53, .ref 54, .int (nI (t + k)), .int sz_, .int at_, .int so_, .int pl_, .int mk_, .int nu_, .int di_, .int br_, .int iff_, .long wo_, .ref 55, .ref 56, .int nd_, .int td_, .ref 57, .int na_, .ref 58, .ref 59, .ref 60, .ref 61, .ref 62, .ref 63, .int hs_, .ref 64, .int nf_]))) 54 (.inl (1, 300, .inl (upd tg (t + k) (vp_nar .byte ((b >>> ((24 - (8 * ((nI k) - (nI k) / 4 * 4))) &&& 31)).toInt8.toInt32)))))) (bU_u _ _ _ _) ?_
        refine r_aload_n (n := 0) (i := 0) 2 rfl rfl dX11_feed_101 ?_
        refine r_dup rfl dX11_feed_102 ?_
        refine p_get (fs := [.int th_, .int tr_, .int wh_, .int fl_, .int nm_, .ref 51, .ref q_, .ref 53, .ref 54, .int (nI (t + k)), .int sz_, .int at_, .int so_, .int pl_, .int mk_, .int nu_, .int di_, .int br_, .int iff_, .long wo_, .ref 55, .ref 56, .int nd_, .int td_, .ref 57, .int na_, .ref 58, .ref 59, .ref 60, .ref 61, .ref 62, .ref 63, .int hs_, .ref 64, .int nf_]) flX11_207 (by exact ((bU_n (by decide)).trans (bU_s _ _ _))) rfl dX11_feed_103 ?_
        refine r_iconst (v := 1) (by decide) dX11_feed_106 ?_
        refine r_iaddE (v := nI (t + k + 1)) (nI_add (t + k) 1) dX11_feed_107 ?_
        refine p_put (fs := [.int th_, .int tr_, .int wh_, .int fl_, .int nm_, .ref 51, .ref q_, .ref 53, .ref 54, .int (nI (t + k)), .int sz_, .int at_, .int so_, .int pl_, .int mk_, .int nu_, .int di_, .int br_, .int iff_, .long wo_, .ref 55, .ref 56, .int nd_, .int td_, .ref 57, .int na_, .ref 58, .ref 59, .ref 60, .ref 61, .ref 62, .ref 63, .int hs_, .ref 64, .int nf_]) (fs' := [.int th_, .int tr_, .int wh_, .int fl_, .int nm_, .ref 51, .ref q_, .ref 53, .ref 54, .int (nI (t + k + 1)), .int sz_, .int at_, .int so_, .int pl_, .int mk_, .int nu_, .int di_, .int br_, .int iff_, .long wo_, .ref 55, .ref 56, .int nd_, .int td_, .ref 57, .int na_, .ref 58, .ref 59, .ref 60, .ref 61, .ref 62, .ref 63, .int hs_, .ref 64, .int nf_]) flX11_207 (by exact ((bU_n (by decide)).trans (bU_s _ _ _))) (Nat.le_of_ble_eq_true rfl) (bNf_i _) rfl dX11_feed_108 ?_
        refine bV_h (f2 := bU (bU f 50 (.inr (11, [.int th_, .int tr_, .int wh_, .int fl_, .int nm_, .ref 51, .ref q_, .ref 53, .ref 54, .int (nI (t + k + 1)), .int sz_, .int at_, .int so_, .int pl_, .int mk_, .int nu_, .int di_, .int br_, .int iff_, .long wo_, .ref 55, .ref 56, .int nd_, .int td_, .ref 57, .int na_, .ref 58, .ref 59, .ref 60, .ref 61, .ref 62, .ref 63, .int hs_, .ref 64, .int nf_]))) 54 (.inl (1, 300, .inl (upd tg (t + k) (vp_nar .byte ((b >>> ((24 - (8 * ((nI k) - (nI k) / 4 * 4))) &&& 31)).toInt8.toInt32)))))) (((bU_c (by decide)).trans (congrArg (fun z => bU z 54 (.inl (1, 300, .inl (upd tg (t + k) (vp_nar .byte ((b >>> ((24 - (8 * ((nI k) - (nI k) / 4 * 4))) &&& 31)).toInt8.toInt32)))))) (bU_u _ _ _ _)))) ?_
        refine r_iinc (i := 6) (v := nI (k + 1)) (L' := [(6, .int (nI (k + 1))), (7, .int b), (0, .ref 50), (1, .int a), (2, .int b), (3, .int c), (4, .int d9), (5, .int e)]) 1 rfl (nI_inc1 k) dX11_feed_111 (by decide) rfl ?_
        refine r_goto (tgt := 23) (by decide) dX11_feed_114 ?_
        refine bV_loc [0, 2, 3, 4, 5, 6, 7] rfl ?_; exact ih (k + 1) _ (by omega) (fd_step h2 (v := b) (by unfold arg5; first | rw [if_pos (by omega)] | rw [if_neg (by omega), if_pos (by omega)] | rw [if_neg (by omega), if_neg (by omega), if_pos (by omega)] | rw [if_neg (by omega), if_neg (by omega), if_neg (by omega), if_pos (by omega)] | rw [if_neg (by omega), if_neg (by omega), if_neg (by omega), if_neg (by omega)]) (by_eq b (by omega)))
    · have c33 : ¬ 4 ≤ k := fun h7 => c33 ((nI_leI (a := 4) (b := k) (by omega) (by omega)).mpr h7)
      refine r_iload_n (n := 1) (i := 1) 2 rfl rfl dX11_feed_36 ?_
      refine r_goto (tgt := 76) (by decide) dX11_feed_37 ?_
      refine r_istore (i := 7) (L' := [(7, .int a), (6, .int (nI k)), (0, .ref 50), (1, .int a), (2, .int b), (3, .int c), (4, .int d9), (5, .int e)]) dX11_feed_76 (by decide) rfl ?_
      refine r_aload_n (n := 0) (i := 0) 2 rfl rfl dX11_feed_78 ?_
      refine p_get (fs := [.int th_, .int tr_, .int wh_, .int fl_, .int nm_, .ref 51, .ref q_, .ref 53, .ref 54, .int (nI (t + k)), .int sz_, .int at_, .int so_, .int pl_, .int mk_, .int nu_, .int di_, .int br_, .int iff_, .long wo_, .ref 55, .ref 56, .int nd_, .int td_, .ref 57, .int na_, .ref 58, .ref 59, .ref 60, .ref 61, .ref 62, .ref 63, .int hs_, .ref 64, .int nf_]) flX11_33 (by exact ((bU_n (by decide)).trans (bU_s _ _ _))) rfl dX11_feed_79 ?_
      refine r_aload_n (n := 0) (i := 0) 2 rfl rfl dX11_feed_82 ?_
      refine p_get (fs := [.int th_, .int tr_, .int wh_, .int fl_, .int nm_, .ref 51, .ref q_, .ref 53, .ref 54, .int (nI (t + k)), .int sz_, .int at_, .int so_, .int pl_, .int mk_, .int nu_, .int di_, .int br_, .int iff_, .long wo_, .ref 55, .ref 56, .int nd_, .int td_, .ref 57, .int na_, .ref 58, .ref 59, .ref 60, .ref 61, .ref 62, .ref 63, .int hs_, .ref 64, .int nf_]) flX11_207 (by exact ((bU_n (by decide)).trans (bU_s _ _ _))) rfl dX11_feed_83 ?_
      refine r_iload (i := 7) 0 rfl dX11_feed_86 ?_
      refine r_bipush (v := 24) (by decide) dX11_feed_88 ?_
      refine r_bipush (v := 8) (by decide) dX11_feed_90 ?_
      refine r_iload (i := 6) 1 rfl dX11_feed_92 ?_
      refine r_iconst (v := 4) (by decide) dX11_feed_94 ?_
      refine r_irem (by decide) dX11_feed_95 ?_
      refine r_imul dX11_feed_96 ?_
      refine r_isub dX11_feed_97 ?_
      refine r_ishr dX11_feed_98 ?_
      refine r_i2b dX11_feed_99 ?_
      refine p_bastN (t := t + k) (by exact bU_s _ _ _) (by omega) (by omega) dX11_feed_100 ?_
      refine bV_h (f2 := bU (bU f 50 (.inr (11, [.int th_, .int tr_, .int wh_, .int fl_, .int nm_, .ref 51, .ref q_, .ref 53, .ref 54, .int (nI (t + k)), .int sz_, .int at_, .int so_, .int pl_, .int mk_, .int nu_, .int di_, .int br_, .int iff_, .long wo_, .ref 55, .ref 56, .int nd_, .int td_, .ref 57, .int na_, .ref 58, .ref 59, .ref 60, .ref 61, .ref 62, .ref 63, .int hs_, .ref 64, .int nf_]))) 54 (.inl (1, 300, .inl (upd tg (t + k) (vp_nar .byte ((a >>> ((24 - (8 * ((nI k) - (nI k) / 4 * 4))) &&& 31)).toInt8.toInt32)))))) (bU_u _ _ _ _) ?_
      refine r_aload_n (n := 0) (i := 0) 2 rfl rfl dX11_feed_101 ?_
      refine r_dup rfl dX11_feed_102 ?_
      refine p_get (fs := [.int th_, .int tr_, .int wh_, .int fl_, .int nm_, .ref 51, .ref q_, .ref 53, .ref 54, .int (nI (t + k)), .int sz_, .int at_, .int so_, .int pl_, .int mk_, .int nu_, .int di_, .int br_, .int iff_, .long wo_, .ref 55, .ref 56, .int nd_, .int td_, .ref 57, .int na_, .ref 58, .ref 59, .ref 60, .ref 61, .ref 62, .ref 63, .int hs_, .ref 64, .int nf_]) flX11_207 (by exact ((bU_n (by decide)).trans (bU_s _ _ _))) rfl dX11_feed_103 ?_
      refine r_iconst (v := 1) (by decide) dX11_feed_106 ?_
      refine r_iaddE (v := nI (t + k + 1)) (nI_add (t + k) 1) dX11_feed_107 ?_
      refine p_put (fs := [.int th_, .int tr_, .int wh_, .int fl_, .int nm_, .ref 51, .ref q_, .ref 53, .ref 54, .int (nI (t + k)), .int sz_, .int at_, .int so_, .int pl_, .int mk_, .int nu_, .int di_, .int br_, .int iff_, .long wo_, .ref 55, .ref 56, .int nd_, .int td_, .ref 57, .int na_, .ref 58, .ref 59, .ref 60, .ref 61, .ref 62, .ref 63, .int hs_, .ref 64, .int nf_]) (fs' := [.int th_, .int tr_, .int wh_, .int fl_, .int nm_, .ref 51, .ref q_, .ref 53, .ref 54, .int (nI (t + k + 1)), .int sz_, .int at_, .int so_, .int pl_, .int mk_, .int nu_, .int di_, .int br_, .int iff_, .long wo_, .ref 55, .ref 56, .int nd_, .int td_, .ref 57, .int na_, .ref 58, .ref 59, .ref 60, .ref 61, .ref 62, .ref 63, .int hs_, .ref 64, .int nf_]) flX11_207 (by exact ((bU_n (by decide)).trans (bU_s _ _ _))) (Nat.le_of_ble_eq_true rfl) (bNf_i _) rfl dX11_feed_108 ?_
      refine bV_h (f2 := bU (bU f 50 (.inr (11, [.int th_, .int tr_, .int wh_, .int fl_, .int nm_, .ref 51, .ref q_, .ref 53, .ref 54, .int (nI (t + k + 1)), .int sz_, .int at_, .int so_, .int pl_, .int mk_, .int nu_, .int di_, .int br_, .int iff_, .long wo_, .ref 55, .ref 56, .int nd_, .int td_, .ref 57, .int na_, .ref 58, .ref 59, .ref 60, .ref 61, .ref 62, .ref 63, .int hs_, .ref 64, .int nf_]))) 54 (.inl (1, 300, .inl (upd tg (t + k) (vp_nar .byte ((a >>> ((24 - (8 * ((nI k) - (nI k) / 4 * 4))) &&& 31)).toInt8.toInt32)))))) (((bU_c (by decide)).trans (congrArg (fun z => bU z 54 (.inl (1, 300, .inl (upd tg (t + k) (vp_nar .byte ((a >>> ((24 - (8 * ((nI k) - (nI k) / 4 * 4))) &&& 31)).toInt8.toInt32)))))) (bU_u _ _ _ _)))) ?_
      refine r_iinc (i := 6) (v := nI (k + 1)) (L' := [(6, .int (nI (k + 1))), (7, .int a), (0, .ref 50), (1, .int a), (2, .int b), (3, .int c), (4, .int d9), (5, .int e)]) 1 rfl (nI_inc1 k) dX11_feed_111 (by decide) rfl ?_
      refine r_goto (tgt := 23) (by decide) dX11_feed_114 ?_
      refine bV_loc [0, 2, 3, 4, 5, 6, 7] rfl ?_; exact ih (k + 1) _ (by omega) (fd_step h2 (v := a) (by unfold arg5; first | rw [if_pos (by omega)] | rw [if_neg (by omega), if_pos (by omega)] | rw [if_neg (by omega), if_neg (by omega), if_pos (by omega)] | rw [if_neg (by omega), if_neg (by omega), if_neg (by omega), if_pos (by omega)] | rw [if_neg (by omega), if_neg (by omega), if_neg (by omega), if_neg (by omega)]) (by_eq a (by omega)))
set_option maxRecDepth 4000 in
theorem m_feed {O : bO} {d : Nat} {f : bF} {n s : Nat} {bs : Nat → Int32} {tl : Nat} {mc : Nat} {md : Nat → MR} {ip : Nat → Int32} {dc : Nat} {dr : Nat → DR} {ac : Nat} {an : Nat → AR} {hs : Bool} {sd : Nat → Int32} {df : Nat → Int32} {dfn : Nat} {td : Nat} {tr : Int32} {ft : Int32} {pl : Int32} {a : Int32} {b : Int32} {c : Int32} {d9 : Int32} {e : Int32} (hX : MP f (bs, tl, mc, md, ip, dc, dr, ac, an, hs, sd, df, dfn, td, tr, ft, pl)) (jX : JJ (bs, tl, mc, md, ip, dc, dr, ac, an, hs, sd, df, dfn, td, tr, ft, pl))  (hd : 0 ≤ d) : bCall O mX11_feed d [.ref 50, .int a, .int b, .int c, .int d9, .int e] (f, n, s) (pM f n s 0 0 (s_feed (bs, tl, mc, md, ip, dc, dr, ac, an, hs, sd, df, dfn, td, tr, ft, pl) a b c d9 e)) := by
  refine bCall_of (by decide) rfl (Nat.le_of_ble_eq_true rfl) ?_
  obtain ⟨hNS, hT, hM, hI, hP, hD, hA, hC, hF⟩ := id hX
  simp only [] at hNS hT hM hI hP hD hA hC hF
  obtain ⟨j1, j2, j3, j4, j5, j6, j7, j8, j9, j10⟩ := id jX
  simp only [] at j1 j2 j3 j4 j5 j6 j7 j8 j9 j10
  obtain ⟨th_, sz_, at_, so_, pl_, mk_, nu_, di_, br_, iff_, wo_, hO⟩ := id hNS
  obtain ⟨tg9, kd9, sp9, h53, h54, hTb⟩ := id hT
  obtain ⟨ig9, h55, hIp⟩ := id hI
  obtain ⟨pg9, h56⟩ := id hP
  obtain ⟨kp9, aq9, bc9, br9, tu9, h58, h59, h60, h61, h62, hAp⟩ := id hA
  obtain ⟨sg9, h63, hC0, hC1, hC2, hC3, hC4⟩ := id hC
  obtain ⟨dg9, h64, hFp⟩ := id hF
  have bN := nA_b (i := mc) j1
  show bV O _ d 0 [(0, .ref 50), (1, .int a), (2, .int b), (3, .int c), (4, .int d9), (5, .int e)] [] (f, n, s) _
  refine r_aload_n (n := 0) (i := 0) 0 rfl rfl dX11_feed_0 ?_
  refine r_iconst (v := 0) (by decide) dX11_feed_1 ?_
  refine p_put (fs := [.int th_, .int tr, .int (if tr = 4 then pl else -1), .int ft, .int (nI mc), .ref 51, .ref (nA mc), .ref 53, .ref 54, .int (nI tl), .int sz_, .int at_, .int so_, .int pl_, .int mk_, .int nu_, .int di_, .int br_, .int iff_, .long wo_, .ref 55, .ref 56, .int (nI dc), .int (nI td), .ref 57, .int (nI ac), .ref 58, .ref 59, .ref 60, .ref 61, .ref 62, .ref 63, .int (bI hs), .ref 64, .int (nI dfn)]) (fs' := [.int 0, .int tr, .int (if tr = 4 then pl else -1), .int ft, .int (nI mc), .ref 51, .ref (nA mc), .ref 53, .ref 54, .int (nI tl), .int sz_, .int at_, .int so_, .int pl_, .int mk_, .int nu_, .int di_, .int br_, .int iff_, .long wo_, .ref 55, .ref 56, .int (nI dc), .int (nI td), .ref 57, .int (nI ac), .ref 58, .ref 59, .ref 60, .ref 61, .ref 62, .ref 63, .int (bI hs), .ref 64, .int (nI dfn)]) flX11_71 hO (Nat.le_of_ble_eq_true rfl) (bNf_i _) rfl dX11_feed_2 ?_
  refine r_aload_n (n := 0) (i := 0) 0 rfl rfl dX11_feed_5 ?_
  refine p_get (fs := [.int 0, .int tr, .int (if tr = 4 then pl else -1), .int ft, .int (nI mc), .ref 51, .ref (nA mc), .ref 53, .ref 54, .int (nI tl), .int sz_, .int at_, .int so_, .int pl_, .int mk_, .int nu_, .int di_, .int br_, .int iff_, .long wo_, .ref 55, .ref 56, .int (nI dc), .int (nI td), .ref 57, .int (nI ac), .ref 58, .ref 59, .ref 60, .ref 61, .ref 62, .ref 63, .int (bI hs), .ref 64, .int (nI dfn)]) flX11_207 (by exact bU_s _ _ _) rfl dX11_feed_6 ?_
  refine r_bipush (v := 20) (by decide) dX11_feed_9 ?_
  refine r_iaddE (v := nI (tl + 20)) (nI_add tl 20) dX11_feed_11 ?_
  refine r_sipush (v := 300) (by decide) dX11_feed_12 ?_
  refine r_icmp_le (tgt := 20) (by decide) dX11_feed_15 (fun c15 => ?_) (fun c15 => ?_)
  · have c15 : (tl + 20) ≤ 300 := (nI_leI (a := (tl + 20)) (b := 300) (by omega) (by omega)).mp c15
    refine r_iconst (v := 0) (by decide) dX11_feed_20 ?_
    refine r_istore (i := 6) (L' := [(6, .int 0), (0, .ref 50), (1, .int a), (2, .int b), (3, .int c), (4, .int d9), (5, .int e)]) dX11_feed_21 (by decide) rfl ?_
    refine bV_h (f2 := bU (bU f 50 (.inr (11, [.int 0, .int tr, .int (if tr = 4 then pl else -1), .int ft, .int (nI mc), .ref 51, .ref (nA mc), .ref 53, .ref 54, .int (nI tl), .int sz_, .int at_, .int so_, .int pl_, .int mk_, .int nu_, .int di_, .int br_, .int iff_, .long wo_, .ref 55, .ref 56, .int (nI dc), .int (nI td), .ref 57, .int (nI ac), .ref 58, .ref 59, .ref 60, .ref 61, .ref 62, .ref 63, .int (bI hs), .ref 64, .int (nI dfn)]))) 54 (.inl (1, 300, .inl tg9))) (bU_i (by exact ((bU_n (by decide)).trans (h54)))).symm ?_
    refine bV_loc [0, 1, 2, 3, 4, 5, 6] rfl ?_
    refine lp_feedM (t := tl) (bs := bs) c15 (by omega) (fun tg8 ht8 => ?_) 20 0 tg9 rfl (fun z hz => (hTb z hz).trans (by unfold fdB; rw [if_neg (by omega)]))
    unfold s_feed; try simp only []
    rw [if_pos c15]
    exact pM_mk (NS_mk (by exact ((bU_n (by decide)).trans (bU_s _ _ _))) (by first | rfl | exact (if_neg (by decide)).symm | exact (if_pos rfl).symm)) (⟨_, _, _, (by exact ((bU_n (by decide)).trans (((bU_n (by decide)).trans (h53))))), (by exact bU_s _ _ _), fun z hz => (ht8 z hz).trans (fd_eq z)⟩) (hM.fr j1 (fun q _ => (bU_n (by omega)).trans ((bU_n (by omega)).trans (rfl)))) (hI.fr ((bU_n (by decide)).trans ((bU_n (by decide)).trans (rfl)))) (hP.fr ((bU_n (by decide)).trans ((bU_n (by decide)).trans (rfl)))) (hD.fr j2 (fun q _ => (bU_n (by omega)).trans ((bU_n (by omega)).trans (rfl)))) (hA.fr (fun q _ _ => (bU_n (by omega)).trans ((bU_n (by omega)).trans (rfl)))) (hC.fr ((bU_n (by decide)).trans ((bU_n (by decide)).trans (rfl)))) (hF.fr ((bU_n (by decide)).trans ((bU_n (by decide)).trans (rfl)))) (fun q _ => (bU_n (by omega)).trans ((bU_n (by omega)).trans (rfl))) (by omega) (by omega)
  · have c15 : ¬ (tl + 20) ≤ 300 := fun h7 => c15 ((nI_leI (a := (tl + 20)) (b := 300) (by omega) (by omega)).mpr h7)
    refine r_iconst (v := (-1)) (by decide) dX11_feed_18 ?_
    refine r_ireturn rfl dX11_feed_19 ?_
    all_goals (unfold s_feed; try simp only [])
    all_goals try (first | simp only [if_pos c15] | simp only [if_neg c15] | simp only [if_neg (Bool.eq_false_iff.mp c15)])
    all_goals exact pM_mk (NS_mk (by exact bU_s _ _ _) (by first | rfl | exact (if_neg (by decide)).symm | exact (if_pos rfl).symm)) (hT.fr (fun q _ _ => (bU_n (by omega)).trans (rfl))) (hM.fr j1 (fun q _ => (bU_n (by omega)).trans (rfl))) (hI.fr ((bU_n (by decide)).trans (rfl))) (hP.fr ((bU_n (by decide)).trans (rfl))) (hD.fr j2 (fun q _ => (bU_n (by omega)).trans (rfl))) (hA.fr (fun q _ _ => (bU_n (by omega)).trans (rfl))) (hC.fr ((bU_n (by decide)).trans (rfl))) (hF.fr ((bU_n (by decide)).trans (rfl))) (fun q _ => (bU_n (by omega)).trans (rfl)) (by omega) (by omega)
theorem far_sym (t c : Int32) : lab (c.toInt64 - t.toInt64) = sFar t c := by
  unfold sFar lab
  have h1 := b32 t
  have h2 := b32 c
  have e1 : (c.toInt64 - t.toInt64).toInt = c.toInt - t.toInt := by rw [Int64.toInt_sub, t64, t64, bm64 (by omega) (by omega)]
  have e2 : (t.toInt64 - c.toInt64).toInt = t.toInt - c.toInt := by rw [Int64.toInt_sub, t64, t64, bm64 (by omega) (by omega)]
  have z : (0 : Int64).toInt = 0 := by decide
  apply Int64.toInt_inj.mp
  by_cases a : c.toInt < t.toInt
  · rw [if_neg (by rw [Int64.lt_iff_toInt_lt, z, e1]; omega), if_pos (by rw [Int64.lt_iff_toInt_lt, z, e2]; omega), Int64.toInt_neg, e1, e2, bm64 (by omega) (by omega)]
    omega
  · rw [if_neg (c := 0 < t.toInt64 - c.toInt64) (by rw [Int64.lt_iff_toInt_lt, z, e2]; omega), Int64.toInt_neg, e2, bm64 (by omega) (by omega)]
    by_cases b : t.toInt < c.toInt
    · rw [if_pos (by rw [Int64.lt_iff_toInt_lt, z, e1]; omega), e1]
      omega
    · rw [if_neg (by rw [Int64.lt_iff_toInt_lt, z, e1]; omega), Int64.toInt_neg, e1, bm64 (by omega) (by omega)]
      omega
theorem u5_01 {g : Nat → Int32} {v : Int32} : upd g 1 v 0 = g 0 := pk_un (by decide)
theorem u5_02 {g : Nat → Int32} {v : Int32} : upd g 2 v 0 = g 0 := pk_un (by decide)
theorem u5_03 {g : Nat → Int32} {v : Int32} : upd g 3 v 0 = g 0 := pk_un (by decide)
theorem u5_04 {g : Nat → Int32} {v : Int32} : upd g 4 v 0 = g 0 := pk_un (by decide)
theorem u5_10 {g : Nat → Int32} {v : Int32} : upd g 0 v 1 = g 1 := pk_un (by decide)
theorem u5_12 {g : Nat → Int32} {v : Int32} : upd g 2 v 1 = g 1 := pk_un (by decide)
theorem u5_13 {g : Nat → Int32} {v : Int32} : upd g 3 v 1 = g 1 := pk_un (by decide)
theorem u5_14 {g : Nat → Int32} {v : Int32} : upd g 4 v 1 = g 1 := pk_un (by decide)
theorem u5_20 {g : Nat → Int32} {v : Int32} : upd g 0 v 2 = g 2 := pk_un (by decide)
theorem u5_21 {g : Nat → Int32} {v : Int32} : upd g 1 v 2 = g 2 := pk_un (by decide)
theorem u5_23 {g : Nat → Int32} {v : Int32} : upd g 3 v 2 = g 2 := pk_un (by decide)
theorem u5_24 {g : Nat → Int32} {v : Int32} : upd g 4 v 2 = g 2 := pk_un (by decide)
theorem u5_30 {g : Nat → Int32} {v : Int32} : upd g 0 v 3 = g 3 := pk_un (by decide)
theorem u5_31 {g : Nat → Int32} {v : Int32} : upd g 1 v 3 = g 3 := pk_un (by decide)
theorem u5_32 {g : Nat → Int32} {v : Int32} : upd g 2 v 3 = g 3 := pk_un (by decide)
theorem u5_34 {g : Nat → Int32} {v : Int32} : upd g 4 v 3 = g 3 := pk_un (by decide)
theorem u5_40 {g : Nat → Int32} {v : Int32} : upd g 0 v 4 = g 4 := pk_un (by decide)
theorem u5_41 {g : Nat → Int32} {v : Int32} : upd g 1 v 4 = g 4 := pk_un (by decide)
theorem u5_42 {g : Nat → Int32} {v : Int32} : upd g 2 v 4 = g 4 := pk_un (by decide)
theorem u5_43 {g : Nat → Int32} {v : Int32} : upd g 3 v 4 = g 4 := pk_un (by decide)
theorem lp_sideM {O : bO} {d : Nat} {f : bF} {n s : Nat} {Q : bR → bG → Prop} {th_ : Int32} {tr_ : Int32} {wh_ : Int32} {fl_ : Int32} {nm_ : Int32} {tp_ : Int32} {sz_ : Int32} {at_ : Int32} {so_ : Int32} {pl_ : Int32} {mk_ : Int32} {nu_ : Int32} {di_ : Int32} {br_ : Int32} {iff_ : Int32} {wo_ : Int64} {nd_ : Int32} {td_ : Int32} {hs_ : Int32} {nf_ : Int32} {q_ : Nat} {ch_ : Int32} {rv_ : Int32} {sh_ : Int32} {rf_ : Int32} {bk_ : Int32} {kp_ : Int32} {q m9 : Nat} {x : Int32} {kp aq bc br tu : Nat → Int32} {an : Nat → AR} (h0 : f 50 = some (.inr (11, [.int th_, .int tr_, .int wh_, .int fl_, .int nm_, .ref 51, .ref q_, .ref 53, .ref 54, .int tp_, .int sz_, .int at_, .int so_, .int pl_, .int mk_, .int nu_, .int di_, .int br_, .int iff_, .long wo_, .ref 55, .ref 56, .int nd_, .int td_, .ref 57, .int (nI m9), .ref 58, .ref 59, .ref 60, .ref 61, .ref 62, .ref 63, .int hs_, .ref 64, .int nf_]))) (h1 : f q = some (.inr (8, [.int ch_, .int rv_, .int sh_, .int rf_, .int bk_, .int kp_, .ref (q + 1), .ref (q + 2), .ref (q + 3), .ref (q + 4), .ref (q + 5)]))) (h2 : f 58 = some (.inl (0, 1200, .inl kp))) (h3 : f 60 = some (.inl (0, 200, .inl bc))) (h4 : f 61 = some (.inl (0, 200, .inl br))) (h5 : f 62 = some (.inl (0, 200, .inl tu))) (hq : 6000 ≤ q) (hA : ∀ i, i < m9 → NA1 kp aq bc br tu i (an i)) (e0 : m9 ≤ 200) (hd : 1 ≤ d) : ∀ (j i : Nat) (b : SB) (g : Nat → Int32), i + j = m9 → g 0 = b.2.1 → g 1 = b.2.2.1 → g 2 = b.2.2.2.1 → g 3 = b.2.2.2.2 → (∀ g : Nat → Int32, g 0 = (sbL x ch_ rv_ an j i b).2.1 → g 1 = (sbL x ch_ rv_ an j i b).2.2.1 → g 2 = (sbL x ch_ rv_ an j i b).2.2.2.1 → g 3 = (sbL x ch_ rv_ an j i b).2.2.2.2 → bV O mX11_side d 298 [(4, .int (nI m9)), (3, .int ((sbL x ch_ rv_ an j i b).1)), (2, .ref q), (0, .ref 50), (1, .int x)] [] (bU f 63 (.inl (0, 5, .inl g)), n, s) Q) → bV O mX11_side d 80 [(4, .int (nI i)), (3, .int b.1), (2, .ref q), (0, .ref 50), (1, .int x)] [] (bU f 63 (.inl (0, 5, .inl g)), n, s) Q := by
  intro j
  induction j with
  | zero =>
    intro i b g i1 g0 g1 g2 g3 hQ
    show bV O _ d 80 [(4, .int (nI i)), (3, .int b.1), (2, .ref q), (0, .ref 50), (1, .int x)] [] (bU f 63 (.inl (0, 5, .inl g)), n, s) _
    refine r_iload (i := 4) 0 rfl dX11_side_80 ?_
    refine r_aload_n (n := 0) (i := 0) 3 rfl rfl dX11_side_82 ?_
    refine p_get (fs := [.int th_, .int tr_, .int wh_, .int fl_, .int nm_, .ref 51, .ref q_, .ref 53, .ref 54, .int tp_, .int sz_, .int at_, .int so_, .int pl_, .int mk_, .int nu_, .int di_, .int br_, .int iff_, .long wo_, .ref 55, .ref 56, .int nd_, .int td_, .ref 57, .int (nI m9), .ref 58, .ref 59, .ref 60, .ref 61, .ref 62, .ref 63, .int hs_, .ref 64, .int nf_]) flX11_313 (by exact ((bU_n (by decide)).trans (h0))) rfl dX11_side_83 ?_
    refine r_icmp_ge (tgt := 298) (by decide) dX11_side_86 (fun _ => ?_) (fun h9 => absurd ((nI_leI (a := m9) (b := i) (by omega) (by omega)).mpr (by omega)) h9)
    have e9 : i = m9 := by omega
    subst e9
    exact hQ g g0 g1 g2 g3
  | succ j ih =>
    intro i b g i1 g0 g1 g2 g3 hQ
    obtain ⟨a0, a1, a2, a3, a4, a5, a6, a7, a8, a9⟩ := hA i (by omega)
    show bV O _ d 80 [(4, .int (nI i)), (3, .int b.1), (2, .ref q), (0, .ref 50), (1, .int x)] [] (bU f 63 (.inl (0, 5, .inl g)), n, s) _
    refine r_iload (i := 4) 0 rfl dX11_side_80 ?_
    refine r_aload_n (n := 0) (i := 0) 3 rfl rfl dX11_side_82 ?_
    refine p_get (fs := [.int th_, .int tr_, .int wh_, .int fl_, .int nm_, .ref 51, .ref q_, .ref 53, .ref 54, .int tp_, .int sz_, .int at_, .int so_, .int pl_, .int mk_, .int nu_, .int di_, .int br_, .int iff_, .long wo_, .ref 55, .ref 56, .int nd_, .int td_, .ref 57, .int (nI m9), .ref 58, .ref 59, .ref 60, .ref 61, .ref 62, .ref 63, .int hs_, .ref 64, .int nf_]) flX11_313 (by exact ((bU_n (by decide)).trans (h0))) rfl dX11_side_83 ?_
    refine r_icmp_ge (tgt := 298) (by decide) dX11_side_86 (fun h9 => absurd h9 (fun h7 => absurd ((nI_leI (a := m9) (b := i) (by omega) (by omega)).mp h7) (by omega))) (fun _ => ?_)
    refine r_aload_n (n := 0) (i := 0) 3 rfl rfl dX11_side_89 ?_
    refine p_get (fs := [.int th_, .int tr_, .int wh_, .int fl_, .int nm_, .ref 51, .ref q_, .ref 53, .ref 54, .int tp_, .int sz_, .int at_, .int so_, .int pl_, .int mk_, .int nu_, .int di_, .int br_, .int iff_, .long wo_, .ref 55, .ref 56, .int nd_, .int td_, .ref 57, .int (nI m9), .ref 58, .ref 59, .ref 60, .ref 61, .ref 62, .ref 63, .int hs_, .ref 64, .int nf_]) flX11_50 (by exact ((bU_n (by decide)).trans (h0))) rfl dX11_side_90 ?_
    refine r_bipush (v := 6) (by decide) dX11_side_93 ?_
    refine r_iload (i := 4) 0 rfl dX11_side_95 ?_
    refine r_imulE (v := nI (6 * i)) (pk_mul 6 i) dX11_side_97 ?_
    refine p_ialdN (t := 6 * i) (by exact ((bU_n (by decide)).trans (h2))) (by omega) (by omega) dX11_side_98 ?_
    refine r_iload_n (n := 1) (i := 1) 4 rfl rfl dX11_side_99 ?_
    refine r_icmp_ne (tgt := 292) (by decide) dX11_side_100 (fun c100 => ?_) (fun c100 => ?_)
    · refine r_iinc (i := 4) (v := nI (i + 1)) (L' := [(4, .int (nI (i + 1))), (3, .int b.1), (2, .ref q), (0, .ref 50), (1, .int x)]) 0 rfl (nI_inc1 i) dX11_side_292 (by decide) rfl ?_
      refine r_goto (tgt := 80) (by decide) dX11_side_295 ?_
      refine bV_loc [0, 1, 2, 3, 4] rfl ?_; refine ih (i + 1) b g (by omega) g0 g1 g2 g3 ?_; rw [show (sbL x ch_ rv_ an (j + 1) i b) = (sbL x ch_ rv_ an j (i + 1) b) by rw [sbL, sb1, ← a0, if_neg c100]] at hQ; exact hQ
    · refine r_aload_n (n := 0) (i := 0) 3 rfl rfl dX11_side_103 ?_
      refine p_get (fs := [.int th_, .int tr_, .int wh_, .int fl_, .int nm_, .ref 51, .ref q_, .ref 53, .ref 54, .int tp_, .int sz_, .int at_, .int so_, .int pl_, .int mk_, .int nu_, .int di_, .int br_, .int iff_, .long wo_, .ref 55, .ref 56, .int nd_, .int td_, .ref 57, .int (nI m9), .ref 58, .ref 59, .ref 60, .ref 61, .ref 62, .ref 63, .int hs_, .ref 64, .int nf_]) flX11_50 (by exact ((bU_n (by decide)).trans (h0))) rfl dX11_side_104 ?_
      refine r_bipush (v := 6) (by decide) dX11_side_107 ?_
      refine r_iload (i := 4) 0 rfl dX11_side_109 ?_
      refine r_imulE (v := nI (6 * i)) (pk_mul 6 i) dX11_side_111 ?_
      refine r_iconst (v := 4) (by decide) dX11_side_112 ?_
      refine r_iaddE (v := nI (6 * i + 4)) (nI_add (6 * i) 4) dX11_side_113 ?_
      refine p_ialdN (t := 6 * i + 4) (by exact ((bU_n (by decide)).trans (h2))) (by omega) (by omega) dX11_side_114 ?_
      refine r_aload_n (n := 2) (i := 2) 2 rfl rfl dX11_side_115 ?_
      refine p_get (fs := [.int ch_, .int rv_, .int sh_, .int rf_, .int bk_, .int kp_, .ref (q + 1), .ref (q + 2), .ref (q + 3), .ref (q + 4), .ref (q + 5)]) flX11_286 (by exact ((bU_n (by omega)).trans (h1))) rfl dX11_side_116 ?_
      refine r_icmp_ne (tgt := 292) (by decide) dX11_side_119 (fun c119 => ?_) (fun c119 => ?_)
      · refine r_iinc (i := 4) (v := nI (i + 1)) (L' := [(4, .int (nI (i + 1))), (3, .int b.1), (2, .ref q), (0, .ref 50), (1, .int x)]) 0 rfl (nI_inc1 i) dX11_side_292 (by decide) rfl ?_
        refine r_goto (tgt := 80) (by decide) dX11_side_295 ?_
        refine bV_loc [0, 1, 2, 3, 4] rfl ?_; refine ih (i + 1) b g (by omega) g0 g1 g2 g3 ?_; rw [show (sbL x ch_ rv_ an (j + 1) i b) = (sbL x ch_ rv_ an j (i + 1) b) by rw [sbL, sb1, ← a0, if_pos c100, ← a4, if_neg c119]] at hQ; exact hQ
      · refine r_aload_n (n := 0) (i := 0) 3 rfl rfl dX11_side_122 ?_
        refine p_get (fs := [.int th_, .int tr_, .int wh_, .int fl_, .int nm_, .ref 51, .ref q_, .ref 53, .ref 54, .int tp_, .int sz_, .int at_, .int so_, .int pl_, .int mk_, .int nu_, .int di_, .int br_, .int iff_, .long wo_, .ref 55, .ref 56, .int nd_, .int td_, .ref 57, .int (nI m9), .ref 58, .ref 59, .ref 60, .ref 61, .ref 62, .ref 63, .int hs_, .ref 64, .int nf_]) flX11_50 (by exact ((bU_n (by decide)).trans (h0))) rfl dX11_side_123 ?_
        refine r_bipush (v := 6) (by decide) dX11_side_126 ?_
        refine r_iload (i := 4) 0 rfl dX11_side_128 ?_
        refine r_imulE (v := nI (6 * i)) (pk_mul 6 i) dX11_side_130 ?_
        refine r_iconst (v := 5) (by decide) dX11_side_131 ?_
        refine r_iaddE (v := nI (6 * i + 5)) (nI_add (6 * i) 5) dX11_side_132 ?_
        refine p_ialdN (t := 6 * i + 5) (by exact ((bU_n (by decide)).trans (h2))) (by omega) (by omega) dX11_side_133 ?_
        refine r_aload_n (n := 2) (i := 2) 2 rfl rfl dX11_side_134 ?_
        refine p_get (fs := [.int ch_, .int rv_, .int sh_, .int rf_, .int bk_, .int kp_, .ref (q + 1), .ref (q + 2), .ref (q + 3), .ref (q + 4), .ref (q + 5)]) flX11_280 (by exact ((bU_n (by omega)).trans (h1))) rfl dX11_side_135 ?_
        refine r_icmp_eq (tgt := 144) (by decide) dX11_side_138 (fun c138 => ?_) (fun c138 => ?_)
        · refine r_iinc (i := 3) (v := b.1 + 1) (L' := [(3, .int (b.1 + 1)), (4, .int (nI i)), (2, .ref q), (0, .ref 50), (1, .int x)]) 1 rfl rfl dX11_side_144 (by decide) rfl ?_
          refine r_aload_n (n := 0) (i := 0) 3 rfl rfl dX11_side_147 ?_
          refine p_get (fs := [.int th_, .int tr_, .int wh_, .int fl_, .int nm_, .ref 51, .ref q_, .ref 53, .ref 54, .int tp_, .int sz_, .int at_, .int so_, .int pl_, .int mk_, .int nu_, .int di_, .int br_, .int iff_, .long wo_, .ref 55, .ref 56, .int nd_, .int td_, .ref 57, .int (nI m9), .ref 58, .ref 59, .ref 60, .ref 61, .ref 62, .ref 63, .int hs_, .ref 64, .int nf_]) flX11_65 (by exact ((bU_n (by decide)).trans (h0))) rfl dX11_side_148 ?_
          refine r_iconst (v := 0) (by decide) dX11_side_151 ?_
          refine r_dup2 rfl rfl dX11_side_152 ?_
          refine p_ialdN (t := 0) (by exact bU_s _ _ _) (by omega) (by omega) dX11_side_153 ?_
          refine r_aload_n (n := 0) (i := 0) 3 rfl rfl dX11_side_154 ?_
          refine p_get (fs := [.int th_, .int tr_, .int wh_, .int fl_, .int nm_, .ref 51, .ref q_, .ref 53, .ref 54, .int tp_, .int sz_, .int at_, .int so_, .int pl_, .int mk_, .int nu_, .int di_, .int br_, .int iff_, .long wo_, .ref 55, .ref 56, .int nd_, .int td_, .ref 57, .int (nI m9), .ref 58, .ref 59, .ref 60, .ref 61, .ref 62, .ref 63, .int hs_, .ref 64, .int nf_]) flX11_56 (by exact ((bU_n (by decide)).trans (h0))) rfl dX11_side_155 ?_
          refine r_iload (i := 4) 1 rfl dX11_side_158 ?_
          refine p_ialdN (t := i) (by exact ((bU_n (by decide)).trans (h3))) (by omega) (by omega) dX11_side_160 ?_
          refine r_aload_n (n := 0) (i := 0) 3 rfl rfl dX11_side_161 ?_
          refine p_get (fs := [.int th_, .int tr_, .int wh_, .int fl_, .int nm_, .ref 51, .ref q_, .ref 53, .ref 54, .int tp_, .int sz_, .int at_, .int so_, .int pl_, .int mk_, .int nu_, .int di_, .int br_, .int iff_, .long wo_, .ref 55, .ref 56, .int nd_, .int td_, .ref 57, .int (nI m9), .ref 58, .ref 59, .ref 60, .ref 61, .ref 62, .ref 63, .int hs_, .ref 64, .int nf_]) flX11_59 (by exact ((bU_n (by decide)).trans (h0))) rfl dX11_side_162 ?_
          refine r_iload (i := 4) 1 rfl dX11_side_165 ?_
          refine p_ialdN (t := i) (by exact ((bU_n (by decide)).trans (h4))) (by omega) (by omega) dX11_side_167 ?_
          refine r_icmp_ne (tgt := 175) (by decide) dX11_side_168 (fun c168 => ?_) (fun c168 => ?_)
          · refine r_iconst (v := 0) (by decide) dX11_side_175 ?_
            refine r_iadd dX11_side_176 ?_
            refine p_iastN (t := 0) (by exact bU_s _ _ _) (by omega) (by omega) dX11_side_177 ?_
            refine bV_h (f2 := bU f 63 (.inl (0, 5, .inl (upd g 0 ((g 0) + 0))))) (bU_u _ _ _ _) ?_
            refine r_aload_n (n := 0) (i := 0) 3 rfl rfl dX11_side_178 ?_
            refine p_get (fs := [.int th_, .int tr_, .int wh_, .int fl_, .int nm_, .ref 51, .ref q_, .ref 53, .ref 54, .int tp_, .int sz_, .int at_, .int so_, .int pl_, .int mk_, .int nu_, .int di_, .int br_, .int iff_, .long wo_, .ref 55, .ref 56, .int nd_, .int td_, .ref 57, .int (nI m9), .ref 58, .ref 59, .ref 60, .ref 61, .ref 62, .ref 63, .int hs_, .ref 64, .int nf_]) flX11_62 (by exact ((bU_n (by decide)).trans (h0))) rfl dX11_side_179 ?_
            refine r_iload (i := 4) 1 rfl dX11_side_182 ?_
            refine p_ialdN (t := i) (by exact ((bU_n (by decide)).trans (h5))) (by omega) (by omega) dX11_side_184 ?_
            refine r_ldcw ckX11_266 dX11_side_185 ?_
            refine r_icmp_ne (tgt := 194) (by decide) dX11_side_188 (fun c188 => ?_) (fun c188 => ?_)
            · refine r_aload_n (n := 0) (i := 0) 3 rfl rfl dX11_side_194 ?_
              refine p_get (fs := [.int th_, .int tr_, .int wh_, .int fl_, .int nm_, .ref 51, .ref q_, .ref 53, .ref 54, .int tp_, .int sz_, .int at_, .int so_, .int pl_, .int mk_, .int nu_, .int di_, .int br_, .int iff_, .long wo_, .ref 55, .ref 56, .int nd_, .int td_, .ref 57, .int (nI m9), .ref 58, .ref 59, .ref 60, .ref 61, .ref 62, .ref 63, .int hs_, .ref 64, .int nf_]) flX11_65 (by exact ((bU_n (by decide)).trans (h0))) rfl dX11_side_195 ?_
              refine r_iconst (v := 3) (by decide) dX11_side_198 ?_
              refine r_dup2 rfl rfl dX11_side_199 ?_
              refine p_ialdN (t := 3) (by exact bU_s _ _ _) (by omega) (by omega) dX11_side_200 ?_
              refine r_iconst (v := 1) (by decide) dX11_side_201 ?_
              refine r_iadd dX11_side_202 ?_
              refine p_iastN (t := 3) (by exact bU_s _ _ _) (by omega) (by omega) dX11_side_203 ?_
              refine bV_h (f2 := bU f 63 (.inl (0, 5, .inl (upd (upd g 0 ((g 0) + 0)) 3 (((upd g 0 ((g 0) + 0)) 3) + 1))))) (bU_u _ _ _ _) ?_
              refine r_aload_n (n := 0) (i := 0) 3 rfl rfl dX11_side_204 ?_
              refine p_get (fs := [.int th_, .int tr_, .int wh_, .int fl_, .int nm_, .ref 51, .ref q_, .ref 53, .ref 54, .int tp_, .int sz_, .int at_, .int so_, .int pl_, .int mk_, .int nu_, .int di_, .int br_, .int iff_, .long wo_, .ref 55, .ref 56, .int nd_, .int td_, .ref 57, .int (nI m9), .ref 58, .ref 59, .ref 60, .ref 61, .ref 62, .ref 63, .int hs_, .ref 64, .int nf_]) flX11_56 (by exact ((bU_n (by decide)).trans (h0))) rfl dX11_side_205 ?_
              refine r_iload (i := 4) 1 rfl dX11_side_208 ?_
              refine p_ialdN (t := i) (by exact ((bU_n (by decide)).trans (h3))) (by omega) (by omega) dX11_side_210 ?_
              refine r_i2l dX11_side_211 ?_
              refine r_aload_n (n := 0) (i := 0) 3 rfl rfl dX11_side_212 ?_
              refine p_get (fs := [.int th_, .int tr_, .int wh_, .int fl_, .int nm_, .ref 51, .ref q_, .ref 53, .ref 54, .int tp_, .int sz_, .int at_, .int so_, .int pl_, .int mk_, .int nu_, .int di_, .int br_, .int iff_, .long wo_, .ref 55, .ref 56, .int nd_, .int td_, .ref 57, .int (nI m9), .ref 58, .ref 59, .ref 60, .ref 61, .ref 62, .ref 63, .int hs_, .ref 64, .int nf_]) flX11_62 (by exact ((bU_n (by decide)).trans (h0))) rfl dX11_side_213 ?_
              refine r_iload (i := 4) 1 rfl dX11_side_216 ?_
              refine p_ialdN (t := i) (by exact ((bU_n (by decide)).trans (h5))) (by omega) (by omega) dX11_side_218 ?_
              refine r_i2l dX11_side_219 ?_
              refine r_lsub dX11_side_220 ?_
              refine r_mabsL (by omega) lkX11_328 (Nat.le_of_ble_eq_true rfl) dX11_side_221 ?_
              refine r_lstore (i := 5) (L' := [(5, .long (lab (((bc i).toInt64) - ((tu i).toInt64)))), (3, .int (b.1 + 1)), (4, .int (nI i)), (2, .ref q), (0, .ref 50), (1, .int x)]) dX11_side_224 (by decide) rfl ?_
              refine r_aload_n (n := 0) (i := 0) 4 rfl rfl dX11_side_226 ?_
              refine p_get (fs := [.int th_, .int tr_, .int wh_, .int fl_, .int nm_, .ref 51, .ref q_, .ref 53, .ref 54, .int tp_, .int sz_, .int at_, .int so_, .int pl_, .int mk_, .int nu_, .int di_, .int br_, .int iff_, .long wo_, .ref 55, .ref 56, .int nd_, .int td_, .ref 57, .int (nI m9), .ref 58, .ref 59, .ref 60, .ref 61, .ref 62, .ref 63, .int hs_, .ref 64, .int nf_]) flX11_59 (by exact ((bU_n (by decide)).trans (h0))) rfl dX11_side_227 ?_
              refine r_iload (i := 4) 2 rfl dX11_side_230 ?_
              refine p_ialdN (t := i) (by exact ((bU_n (by decide)).trans (h4))) (by omega) (by omega) dX11_side_232 ?_
              refine r_i2l dX11_side_233 ?_
              refine r_aload_n (n := 0) (i := 0) 4 rfl rfl dX11_side_234 ?_
              refine p_get (fs := [.int th_, .int tr_, .int wh_, .int fl_, .int nm_, .ref 51, .ref q_, .ref 53, .ref 54, .int tp_, .int sz_, .int at_, .int so_, .int pl_, .int mk_, .int nu_, .int di_, .int br_, .int iff_, .long wo_, .ref 55, .ref 56, .int nd_, .int td_, .ref 57, .int (nI m9), .ref 58, .ref 59, .ref 60, .ref 61, .ref 62, .ref 63, .int hs_, .ref 64, .int nf_]) flX11_62 (by exact ((bU_n (by decide)).trans (h0))) rfl dX11_side_235 ?_
              refine r_iload (i := 4) 2 rfl dX11_side_238 ?_
              refine p_ialdN (t := i) (by exact ((bU_n (by decide)).trans (h5))) (by omega) (by omega) dX11_side_240 ?_
              refine r_i2l dX11_side_241 ?_
              refine r_lsub dX11_side_242 ?_
              refine r_mabsL (by omega) lkX11_328 (Nat.le_of_ble_eq_true rfl) dX11_side_243 ?_
              refine r_lstore (i := 7) (L' := [(7, .long (lab (((br i).toInt64) - ((tu i).toInt64)))), (5, .long (lab (((bc i).toInt64) - ((tu i).toInt64)))), (3, .int (b.1 + 1)), (4, .int (nI i)), (2, .ref q), (0, .ref 50), (1, .int x)]) dX11_side_246 (by decide) rfl ?_
              refine r_aload_n (n := 0) (i := 0) 5 rfl rfl dX11_side_248 ?_
              refine p_get (fs := [.int th_, .int tr_, .int wh_, .int fl_, .int nm_, .ref 51, .ref q_, .ref 53, .ref 54, .int tp_, .int sz_, .int at_, .int so_, .int pl_, .int mk_, .int nu_, .int di_, .int br_, .int iff_, .long wo_, .ref 55, .ref 56, .int nd_, .int td_, .ref 57, .int (nI m9), .ref 58, .ref 59, .ref 60, .ref 61, .ref 62, .ref 63, .int hs_, .ref 64, .int nf_]) flX11_65 (by exact ((bU_n (by decide)).trans (h0))) rfl dX11_side_249 ?_
              refine r_iconst (v := 1) (by decide) dX11_side_252 ?_
              refine r_dup2 rfl rfl dX11_side_253 ?_
              refine p_ialdN (t := 1) (by exact bU_s _ _ _) (by omega) (by omega) dX11_side_254 ?_
              refine r_lload (i := 7) 0 rfl dX11_side_255 ?_
              refine r_lload (i := 5) 1 rfl dX11_side_257 ?_
              refine r_lcmp dX11_side_259 ?_
              refine r_if_ge (tgt := 267) (by decide) dX11_side_260 (fun c260 => ?_) (fun c260 => ?_)
              · have c260 := (lg_cmp_ge _ _).mp c260
                refine r_iconst (v := 0) (by decide) dX11_side_267 ?_
                refine r_iadd dX11_side_268 ?_
                refine p_iastN (t := 1) (by exact bU_s _ _ _) (by omega) (by omega) dX11_side_269 ?_
                refine bV_h (f2 := bU f 63 (.inl (0, 5, .inl (upd (upd (upd g 0 ((g 0) + 0)) 3 (((upd g 0 ((g 0) + 0)) 3) + 1)) 1 (((upd (upd g 0 ((g 0) + 0)) 3 (((upd g 0 ((g 0) + 0)) 3) + 1)) 1) + 0))))) (bU_u _ _ _ _) ?_
                refine r_aload_n (n := 0) (i := 0) 5 rfl rfl dX11_side_270 ?_
                refine p_get (fs := [.int th_, .int tr_, .int wh_, .int fl_, .int nm_, .ref 51, .ref q_, .ref 53, .ref 54, .int tp_, .int sz_, .int at_, .int so_, .int pl_, .int mk_, .int nu_, .int di_, .int br_, .int iff_, .long wo_, .ref 55, .ref 56, .int nd_, .int td_, .ref 57, .int (nI m9), .ref 58, .ref 59, .ref 60, .ref 61, .ref 62, .ref 63, .int hs_, .ref 64, .int nf_]) flX11_65 (by exact ((bU_n (by decide)).trans (h0))) rfl dX11_side_271 ?_
                refine r_iconst (v := 2) (by decide) dX11_side_274 ?_
                refine r_dup2 rfl rfl dX11_side_275 ?_
                refine p_ialdN (t := 2) (by exact bU_s _ _ _) (by omega) (by omega) dX11_side_276 ?_
                refine r_lload (i := 5) 1 rfl dX11_side_277 ?_
                refine r_lload (i := 7) 0 rfl dX11_side_279 ?_
                refine r_lcmp dX11_side_281 ?_
                refine r_if_ge (tgt := 289) (by decide) dX11_side_282 (fun c282 => ?_) (fun c282 => ?_)
                · have c282 := (lg_cmp_ge _ _).mp c282
                  refine r_iconst (v := 0) (by decide) dX11_side_289 ?_
                  refine r_iadd dX11_side_290 ?_
                  refine p_iastN (t := 2) (by exact bU_s _ _ _) (by omega) (by omega) dX11_side_291 ?_
                  refine bV_h (f2 := bU f 63 (.inl (0, 5, .inl (upd (upd (upd (upd g 0 ((g 0) + 0)) 3 (((upd g 0 ((g 0) + 0)) 3) + 1)) 1 (((upd (upd g 0 ((g 0) + 0)) 3 (((upd g 0 ((g 0) + 0)) 3) + 1)) 1) + 0)) 2 (((upd (upd (upd g 0 ((g 0) + 0)) 3 (((upd g 0 ((g 0) + 0)) 3) + 1)) 1 (((upd (upd g 0 ((g 0) + 0)) 3 (((upd g 0 ((g 0) + 0)) 3) + 1)) 1) + 0)) 2) + 0))))) (bU_u _ _ _ _) ?_
                  refine r_iinc (i := 4) (v := nI (i + 1)) (L' := [(4, .int (nI (i + 1))), (7, .long (lab (((br i).toInt64) - ((tu i).toInt64)))), (5, .long (lab (((bc i).toInt64) - ((tu i).toInt64)))), (3, .int (b.1 + 1)), (2, .ref q), (0, .ref 50), (1, .int x)]) 3 rfl (nI_inc1 i) dX11_side_292 (by decide) rfl ?_
                  refine r_goto (tgt := 80) (by decide) dX11_side_295 ?_
                  refine bV_loc [0, 3, 4, 5, 6] rfl ?_
                  refine ih (i + 1) (b.1 + 1, sAl (a_ct (an i)) (a_rt (an i)) b.2.1, sWi (a_tr (an i)) (a_ct (an i)) (a_rt (an i)) b.2.2.1, sLo (a_tr (an i)) (a_ct (an i)) (a_rt (an i)) b.2.2.2.1, sWt (a_tr (an i)) b.2.2.2.2) _ (by omega) (by show (upd (upd (upd (upd g 0 ((g 0) + 0)) 3 (((upd g 0 ((g 0) + 0)) 3) + 1)) 1 (((upd (upd g 0 ((g 0) + 0)) 3 (((upd g 0 ((g 0) + 0)) 3) + 1)) 1) + 0)) 2 (((upd (upd (upd g 0 ((g 0) + 0)) 3 (((upd g 0 ((g 0) + 0)) 3) + 1)) 1 (((upd (upd g 0 ((g 0) + 0)) 3 (((upd g 0 ((g 0) + 0)) 3) + 1)) 1) + 0)) 2) + 0)) 0 = sAl (a_ct (an i)) (a_rt (an i)) b.2.1; simp only [pk_us, u5_01, u5_02, u5_03, u5_04, u5_10, u5_12, u5_13, u5_14, u5_20, u5_21, u5_23, u5_24, u5_30, u5_31, u5_32, u5_34, u5_40, u5_41, u5_42, u5_43]; unfold sAl; rw [← a7, ← a8, g0]; first | rw [if_pos c168] | rw [if_neg c168, Int32.add_zero]) (by show (upd (upd (upd (upd g 0 ((g 0) + 0)) 3 (((upd g 0 ((g 0) + 0)) 3) + 1)) 1 (((upd (upd g 0 ((g 0) + 0)) 3 (((upd g 0 ((g 0) + 0)) 3) + 1)) 1) + 0)) 2 (((upd (upd (upd g 0 ((g 0) + 0)) 3 (((upd g 0 ((g 0) + 0)) 3) + 1)) 1 (((upd (upd g 0 ((g 0) + 0)) 3 (((upd g 0 ((g 0) + 0)) 3) + 1)) 1) + 0)) 2) + 0)) 1 = sWi (a_tr (an i)) (a_ct (an i)) (a_rt (an i)) b.2.2.1; simp only [pk_us, u5_01, u5_02, u5_03, u5_04, u5_10, u5_12, u5_13, u5_14, u5_20, u5_21, u5_23, u5_24, u5_30, u5_31, u5_32, u5_34, u5_40, u5_41, u5_42, u5_43]; unfold sWi; rw [← a7, ← a8, ← a9, if_neg c188, g1]; rw [far_sym, far_sym] at c260; rw [far_sym, far_sym] at c282; first | rw [if_pos c260, Int32.add_zero] | rw [if_neg c260]) (by show (upd (upd (upd (upd g 0 ((g 0) + 0)) 3 (((upd g 0 ((g 0) + 0)) 3) + 1)) 1 (((upd (upd g 0 ((g 0) + 0)) 3 (((upd g 0 ((g 0) + 0)) 3) + 1)) 1) + 0)) 2 (((upd (upd (upd g 0 ((g 0) + 0)) 3 (((upd g 0 ((g 0) + 0)) 3) + 1)) 1 (((upd (upd g 0 ((g 0) + 0)) 3 (((upd g 0 ((g 0) + 0)) 3) + 1)) 1) + 0)) 2) + 0)) 2 = sLo (a_tr (an i)) (a_ct (an i)) (a_rt (an i)) b.2.2.2.1; simp only [pk_us, u5_01, u5_02, u5_03, u5_04, u5_10, u5_12, u5_13, u5_14, u5_20, u5_21, u5_23, u5_24, u5_30, u5_31, u5_32, u5_34, u5_40, u5_41, u5_42, u5_43]; unfold sLo; rw [← a7, ← a8, ← a9, if_neg c188, g2]; rw [far_sym, far_sym] at c260; rw [far_sym, far_sym] at c282; first | rw [if_pos c260, if_pos c282, Int32.add_zero] | rw [if_pos c260, if_neg c282] | rw [if_neg c260, Int32.add_zero] | exact absurd (Int64.le_iff_toInt_le.mpr (by rw [Int64.le_iff_toInt_le] at c260; omega)) c282) (by show (upd (upd (upd (upd g 0 ((g 0) + 0)) 3 (((upd g 0 ((g 0) + 0)) 3) + 1)) 1 (((upd (upd g 0 ((g 0) + 0)) 3 (((upd g 0 ((g 0) + 0)) 3) + 1)) 1) + 0)) 2 (((upd (upd (upd g 0 ((g 0) + 0)) 3 (((upd g 0 ((g 0) + 0)) 3) + 1)) 1 (((upd (upd g 0 ((g 0) + 0)) 3 (((upd g 0 ((g 0) + 0)) 3) + 1)) 1) + 0)) 2) + 0)) 3 = sWt (a_tr (an i)) b.2.2.2.2; simp only [pk_us, u5_01, u5_02, u5_03, u5_04, u5_10, u5_12, u5_13, u5_14, u5_20, u5_21, u5_23, u5_24, u5_30, u5_31, u5_32, u5_34, u5_40, u5_41, u5_42, u5_43]; unfold sWt; rw [← a9, if_neg c188, g3]) ?_
                  rw [show (sbL x ch_ rv_ an (j + 1) i b) = (sbL x ch_ rv_ an j (i + 1) (b.1 + 1, sAl (a_ct (an i)) (a_rt (an i)) b.2.1, sWi (a_tr (an i)) (a_ct (an i)) (a_rt (an i)) b.2.2.1, sLo (a_tr (an i)) (a_ct (an i)) (a_rt (an i)) b.2.2.2.1, sWt (a_tr (an i)) b.2.2.2.2)) by rw [sbL, sb1, ← a0, if_pos c100, ← a4, if_pos c119, ← a5, if_pos c138]] at hQ
                  exact hQ
                · have c282 : ¬ (lab (((br i).toInt64) - ((tu i).toInt64))) ≤ (lab (((bc i).toInt64) - ((tu i).toInt64))) := fun h7 => c282 ((lg_cmp_ge _ _).mpr h7)
                  refine r_iconst (v := 1) (by decide) dX11_side_285 ?_
                  refine r_goto (tgt := 290) (by decide) dX11_side_286 ?_
                  refine r_iadd dX11_side_290 ?_
                  refine p_iastN (t := 2) (by exact bU_s _ _ _) (by omega) (by omega) dX11_side_291 ?_
                  refine bV_h (f2 := bU f 63 (.inl (0, 5, .inl (upd (upd (upd (upd g 0 ((g 0) + 0)) 3 (((upd g 0 ((g 0) + 0)) 3) + 1)) 1 (((upd (upd g 0 ((g 0) + 0)) 3 (((upd g 0 ((g 0) + 0)) 3) + 1)) 1) + 0)) 2 (((upd (upd (upd g 0 ((g 0) + 0)) 3 (((upd g 0 ((g 0) + 0)) 3) + 1)) 1 (((upd (upd g 0 ((g 0) + 0)) 3 (((upd g 0 ((g 0) + 0)) 3) + 1)) 1) + 0)) 2) + 1))))) (bU_u _ _ _ _) ?_
                  refine r_iinc (i := 4) (v := nI (i + 1)) (L' := [(4, .int (nI (i + 1))), (7, .long (lab (((br i).toInt64) - ((tu i).toInt64)))), (5, .long (lab (((bc i).toInt64) - ((tu i).toInt64)))), (3, .int (b.1 + 1)), (2, .ref q), (0, .ref 50), (1, .int x)]) 3 rfl (nI_inc1 i) dX11_side_292 (by decide) rfl ?_
                  refine r_goto (tgt := 80) (by decide) dX11_side_295 ?_
                  refine bV_loc [0, 3, 4, 5, 6] rfl ?_
                  refine ih (i + 1) (b.1 + 1, sAl (a_ct (an i)) (a_rt (an i)) b.2.1, sWi (a_tr (an i)) (a_ct (an i)) (a_rt (an i)) b.2.2.1, sLo (a_tr (an i)) (a_ct (an i)) (a_rt (an i)) b.2.2.2.1, sWt (a_tr (an i)) b.2.2.2.2) _ (by omega) (by show (upd (upd (upd (upd g 0 ((g 0) + 0)) 3 (((upd g 0 ((g 0) + 0)) 3) + 1)) 1 (((upd (upd g 0 ((g 0) + 0)) 3 (((upd g 0 ((g 0) + 0)) 3) + 1)) 1) + 0)) 2 (((upd (upd (upd g 0 ((g 0) + 0)) 3 (((upd g 0 ((g 0) + 0)) 3) + 1)) 1 (((upd (upd g 0 ((g 0) + 0)) 3 (((upd g 0 ((g 0) + 0)) 3) + 1)) 1) + 0)) 2) + 1)) 0 = sAl (a_ct (an i)) (a_rt (an i)) b.2.1; simp only [pk_us, u5_01, u5_02, u5_03, u5_04, u5_10, u5_12, u5_13, u5_14, u5_20, u5_21, u5_23, u5_24, u5_30, u5_31, u5_32, u5_34, u5_40, u5_41, u5_42, u5_43]; unfold sAl; rw [← a7, ← a8, g0]; first | rw [if_pos c168] | rw [if_neg c168, Int32.add_zero]) (by show (upd (upd (upd (upd g 0 ((g 0) + 0)) 3 (((upd g 0 ((g 0) + 0)) 3) + 1)) 1 (((upd (upd g 0 ((g 0) + 0)) 3 (((upd g 0 ((g 0) + 0)) 3) + 1)) 1) + 0)) 2 (((upd (upd (upd g 0 ((g 0) + 0)) 3 (((upd g 0 ((g 0) + 0)) 3) + 1)) 1 (((upd (upd g 0 ((g 0) + 0)) 3 (((upd g 0 ((g 0) + 0)) 3) + 1)) 1) + 0)) 2) + 1)) 1 = sWi (a_tr (an i)) (a_ct (an i)) (a_rt (an i)) b.2.2.1; simp only [pk_us, u5_01, u5_02, u5_03, u5_04, u5_10, u5_12, u5_13, u5_14, u5_20, u5_21, u5_23, u5_24, u5_30, u5_31, u5_32, u5_34, u5_40, u5_41, u5_42, u5_43]; unfold sWi; rw [← a7, ← a8, ← a9, if_neg c188, g1]; rw [far_sym, far_sym] at c260; rw [far_sym, far_sym] at c282; first | rw [if_pos c260, Int32.add_zero] | rw [if_neg c260]) (by show (upd (upd (upd (upd g 0 ((g 0) + 0)) 3 (((upd g 0 ((g 0) + 0)) 3) + 1)) 1 (((upd (upd g 0 ((g 0) + 0)) 3 (((upd g 0 ((g 0) + 0)) 3) + 1)) 1) + 0)) 2 (((upd (upd (upd g 0 ((g 0) + 0)) 3 (((upd g 0 ((g 0) + 0)) 3) + 1)) 1 (((upd (upd g 0 ((g 0) + 0)) 3 (((upd g 0 ((g 0) + 0)) 3) + 1)) 1) + 0)) 2) + 1)) 2 = sLo (a_tr (an i)) (a_ct (an i)) (a_rt (an i)) b.2.2.2.1; simp only [pk_us, u5_01, u5_02, u5_03, u5_04, u5_10, u5_12, u5_13, u5_14, u5_20, u5_21, u5_23, u5_24, u5_30, u5_31, u5_32, u5_34, u5_40, u5_41, u5_42, u5_43]; unfold sLo; rw [← a7, ← a8, ← a9, if_neg c188, g2]; rw [far_sym, far_sym] at c260; rw [far_sym, far_sym] at c282; first | rw [if_pos c260, if_pos c282, Int32.add_zero] | rw [if_pos c260, if_neg c282] | rw [if_neg c260, Int32.add_zero] | exact absurd (Int64.le_iff_toInt_le.mpr (by rw [Int64.le_iff_toInt_le] at c260; omega)) c282) (by show (upd (upd (upd (upd g 0 ((g 0) + 0)) 3 (((upd g 0 ((g 0) + 0)) 3) + 1)) 1 (((upd (upd g 0 ((g 0) + 0)) 3 (((upd g 0 ((g 0) + 0)) 3) + 1)) 1) + 0)) 2 (((upd (upd (upd g 0 ((g 0) + 0)) 3 (((upd g 0 ((g 0) + 0)) 3) + 1)) 1 (((upd (upd g 0 ((g 0) + 0)) 3 (((upd g 0 ((g 0) + 0)) 3) + 1)) 1) + 0)) 2) + 1)) 3 = sWt (a_tr (an i)) b.2.2.2.2; simp only [pk_us, u5_01, u5_02, u5_03, u5_04, u5_10, u5_12, u5_13, u5_14, u5_20, u5_21, u5_23, u5_24, u5_30, u5_31, u5_32, u5_34, u5_40, u5_41, u5_42, u5_43]; unfold sWt; rw [← a9, if_neg c188, g3]) ?_
                  rw [show (sbL x ch_ rv_ an (j + 1) i b) = (sbL x ch_ rv_ an j (i + 1) (b.1 + 1, sAl (a_ct (an i)) (a_rt (an i)) b.2.1, sWi (a_tr (an i)) (a_ct (an i)) (a_rt (an i)) b.2.2.1, sLo (a_tr (an i)) (a_ct (an i)) (a_rt (an i)) b.2.2.2.1, sWt (a_tr (an i)) b.2.2.2.2)) by rw [sbL, sb1, ← a0, if_pos c100, ← a4, if_pos c119, ← a5, if_pos c138]] at hQ
                  exact hQ
              · have c260 : ¬ (lab (((bc i).toInt64) - ((tu i).toInt64))) ≤ (lab (((br i).toInt64) - ((tu i).toInt64))) := fun h7 => c260 ((lg_cmp_ge _ _).mpr h7)
                refine r_iconst (v := 1) (by decide) dX11_side_263 ?_
                refine r_goto (tgt := 268) (by decide) dX11_side_264 ?_
                refine r_iadd dX11_side_268 ?_
                refine p_iastN (t := 1) (by exact bU_s _ _ _) (by omega) (by omega) dX11_side_269 ?_
                refine bV_h (f2 := bU f 63 (.inl (0, 5, .inl (upd (upd (upd g 0 ((g 0) + 0)) 3 (((upd g 0 ((g 0) + 0)) 3) + 1)) 1 (((upd (upd g 0 ((g 0) + 0)) 3 (((upd g 0 ((g 0) + 0)) 3) + 1)) 1) + 1))))) (bU_u _ _ _ _) ?_
                refine r_aload_n (n := 0) (i := 0) 5 rfl rfl dX11_side_270 ?_
                refine p_get (fs := [.int th_, .int tr_, .int wh_, .int fl_, .int nm_, .ref 51, .ref q_, .ref 53, .ref 54, .int tp_, .int sz_, .int at_, .int so_, .int pl_, .int mk_, .int nu_, .int di_, .int br_, .int iff_, .long wo_, .ref 55, .ref 56, .int nd_, .int td_, .ref 57, .int (nI m9), .ref 58, .ref 59, .ref 60, .ref 61, .ref 62, .ref 63, .int hs_, .ref 64, .int nf_]) flX11_65 (by exact ((bU_n (by decide)).trans (h0))) rfl dX11_side_271 ?_
                refine r_iconst (v := 2) (by decide) dX11_side_274 ?_
                refine r_dup2 rfl rfl dX11_side_275 ?_
                refine p_ialdN (t := 2) (by exact bU_s _ _ _) (by omega) (by omega) dX11_side_276 ?_
                refine r_lload (i := 5) 1 rfl dX11_side_277 ?_
                refine r_lload (i := 7) 0 rfl dX11_side_279 ?_
                refine r_lcmp dX11_side_281 ?_
                refine r_if_ge (tgt := 289) (by decide) dX11_side_282 (fun c282 => ?_) (fun c282 => ?_)
                · have c282 := (lg_cmp_ge _ _).mp c282
                  refine r_iconst (v := 0) (by decide) dX11_side_289 ?_
                  refine r_iadd dX11_side_290 ?_
                  refine p_iastN (t := 2) (by exact bU_s _ _ _) (by omega) (by omega) dX11_side_291 ?_
                  refine bV_h (f2 := bU f 63 (.inl (0, 5, .inl (upd (upd (upd (upd g 0 ((g 0) + 0)) 3 (((upd g 0 ((g 0) + 0)) 3) + 1)) 1 (((upd (upd g 0 ((g 0) + 0)) 3 (((upd g 0 ((g 0) + 0)) 3) + 1)) 1) + 1)) 2 (((upd (upd (upd g 0 ((g 0) + 0)) 3 (((upd g 0 ((g 0) + 0)) 3) + 1)) 1 (((upd (upd g 0 ((g 0) + 0)) 3 (((upd g 0 ((g 0) + 0)) 3) + 1)) 1) + 1)) 2) + 0))))) (bU_u _ _ _ _) ?_
                  refine r_iinc (i := 4) (v := nI (i + 1)) (L' := [(4, .int (nI (i + 1))), (7, .long (lab (((br i).toInt64) - ((tu i).toInt64)))), (5, .long (lab (((bc i).toInt64) - ((tu i).toInt64)))), (3, .int (b.1 + 1)), (2, .ref q), (0, .ref 50), (1, .int x)]) 3 rfl (nI_inc1 i) dX11_side_292 (by decide) rfl ?_
                  refine r_goto (tgt := 80) (by decide) dX11_side_295 ?_
                  refine bV_loc [0, 3, 4, 5, 6] rfl ?_
                  refine ih (i + 1) (b.1 + 1, sAl (a_ct (an i)) (a_rt (an i)) b.2.1, sWi (a_tr (an i)) (a_ct (an i)) (a_rt (an i)) b.2.2.1, sLo (a_tr (an i)) (a_ct (an i)) (a_rt (an i)) b.2.2.2.1, sWt (a_tr (an i)) b.2.2.2.2) _ (by omega) (by show (upd (upd (upd (upd g 0 ((g 0) + 0)) 3 (((upd g 0 ((g 0) + 0)) 3) + 1)) 1 (((upd (upd g 0 ((g 0) + 0)) 3 (((upd g 0 ((g 0) + 0)) 3) + 1)) 1) + 1)) 2 (((upd (upd (upd g 0 ((g 0) + 0)) 3 (((upd g 0 ((g 0) + 0)) 3) + 1)) 1 (((upd (upd g 0 ((g 0) + 0)) 3 (((upd g 0 ((g 0) + 0)) 3) + 1)) 1) + 1)) 2) + 0)) 0 = sAl (a_ct (an i)) (a_rt (an i)) b.2.1; simp only [pk_us, u5_01, u5_02, u5_03, u5_04, u5_10, u5_12, u5_13, u5_14, u5_20, u5_21, u5_23, u5_24, u5_30, u5_31, u5_32, u5_34, u5_40, u5_41, u5_42, u5_43]; unfold sAl; rw [← a7, ← a8, g0]; first | rw [if_pos c168] | rw [if_neg c168, Int32.add_zero]) (by show (upd (upd (upd (upd g 0 ((g 0) + 0)) 3 (((upd g 0 ((g 0) + 0)) 3) + 1)) 1 (((upd (upd g 0 ((g 0) + 0)) 3 (((upd g 0 ((g 0) + 0)) 3) + 1)) 1) + 1)) 2 (((upd (upd (upd g 0 ((g 0) + 0)) 3 (((upd g 0 ((g 0) + 0)) 3) + 1)) 1 (((upd (upd g 0 ((g 0) + 0)) 3 (((upd g 0 ((g 0) + 0)) 3) + 1)) 1) + 1)) 2) + 0)) 1 = sWi (a_tr (an i)) (a_ct (an i)) (a_rt (an i)) b.2.2.1; simp only [pk_us, u5_01, u5_02, u5_03, u5_04, u5_10, u5_12, u5_13, u5_14, u5_20, u5_21, u5_23, u5_24, u5_30, u5_31, u5_32, u5_34, u5_40, u5_41, u5_42, u5_43]; unfold sWi; rw [← a7, ← a8, ← a9, if_neg c188, g1]; rw [far_sym, far_sym] at c260; rw [far_sym, far_sym] at c282; first | rw [if_pos c260, Int32.add_zero] | rw [if_neg c260]) (by show (upd (upd (upd (upd g 0 ((g 0) + 0)) 3 (((upd g 0 ((g 0) + 0)) 3) + 1)) 1 (((upd (upd g 0 ((g 0) + 0)) 3 (((upd g 0 ((g 0) + 0)) 3) + 1)) 1) + 1)) 2 (((upd (upd (upd g 0 ((g 0) + 0)) 3 (((upd g 0 ((g 0) + 0)) 3) + 1)) 1 (((upd (upd g 0 ((g 0) + 0)) 3 (((upd g 0 ((g 0) + 0)) 3) + 1)) 1) + 1)) 2) + 0)) 2 = sLo (a_tr (an i)) (a_ct (an i)) (a_rt (an i)) b.2.2.2.1; simp only [pk_us, u5_01, u5_02, u5_03, u5_04, u5_10, u5_12, u5_13, u5_14, u5_20, u5_21, u5_23, u5_24, u5_30, u5_31, u5_32, u5_34, u5_40, u5_41, u5_42, u5_43]; unfold sLo; rw [← a7, ← a8, ← a9, if_neg c188, g2]; rw [far_sym, far_sym] at c260; rw [far_sym, far_sym] at c282; first | rw [if_pos c260, if_pos c282, Int32.add_zero] | rw [if_pos c260, if_neg c282] | rw [if_neg c260, Int32.add_zero] | exact absurd (Int64.le_iff_toInt_le.mpr (by rw [Int64.le_iff_toInt_le] at c260; omega)) c282) (by show (upd (upd (upd (upd g 0 ((g 0) + 0)) 3 (((upd g 0 ((g 0) + 0)) 3) + 1)) 1 (((upd (upd g 0 ((g 0) + 0)) 3 (((upd g 0 ((g 0) + 0)) 3) + 1)) 1) + 1)) 2 (((upd (upd (upd g 0 ((g 0) + 0)) 3 (((upd g 0 ((g 0) + 0)) 3) + 1)) 1 (((upd (upd g 0 ((g 0) + 0)) 3 (((upd g 0 ((g 0) + 0)) 3) + 1)) 1) + 1)) 2) + 0)) 3 = sWt (a_tr (an i)) b.2.2.2.2; simp only [pk_us, u5_01, u5_02, u5_03, u5_04, u5_10, u5_12, u5_13, u5_14, u5_20, u5_21, u5_23, u5_24, u5_30, u5_31, u5_32, u5_34, u5_40, u5_41, u5_42, u5_43]; unfold sWt; rw [← a9, if_neg c188, g3]) ?_
                  rw [show (sbL x ch_ rv_ an (j + 1) i b) = (sbL x ch_ rv_ an j (i + 1) (b.1 + 1, sAl (a_ct (an i)) (a_rt (an i)) b.2.1, sWi (a_tr (an i)) (a_ct (an i)) (a_rt (an i)) b.2.2.1, sLo (a_tr (an i)) (a_ct (an i)) (a_rt (an i)) b.2.2.2.1, sWt (a_tr (an i)) b.2.2.2.2)) by rw [sbL, sb1, ← a0, if_pos c100, ← a4, if_pos c119, ← a5, if_pos c138]] at hQ
                  exact hQ
                · have c282 : ¬ (lab (((br i).toInt64) - ((tu i).toInt64))) ≤ (lab (((bc i).toInt64) - ((tu i).toInt64))) := fun h7 => c282 ((lg_cmp_ge _ _).mpr h7)
                  refine r_iconst (v := 1) (by decide) dX11_side_285 ?_
                  refine r_goto (tgt := 290) (by decide) dX11_side_286 ?_
                  refine r_iadd dX11_side_290 ?_
                  refine p_iastN (t := 2) (by exact bU_s _ _ _) (by omega) (by omega) dX11_side_291 ?_
                  refine bV_h (f2 := bU f 63 (.inl (0, 5, .inl (upd (upd (upd (upd g 0 ((g 0) + 0)) 3 (((upd g 0 ((g 0) + 0)) 3) + 1)) 1 (((upd (upd g 0 ((g 0) + 0)) 3 (((upd g 0 ((g 0) + 0)) 3) + 1)) 1) + 1)) 2 (((upd (upd (upd g 0 ((g 0) + 0)) 3 (((upd g 0 ((g 0) + 0)) 3) + 1)) 1 (((upd (upd g 0 ((g 0) + 0)) 3 (((upd g 0 ((g 0) + 0)) 3) + 1)) 1) + 1)) 2) + 1))))) (bU_u _ _ _ _) ?_
                  refine r_iinc (i := 4) (v := nI (i + 1)) (L' := [(4, .int (nI (i + 1))), (7, .long (lab (((br i).toInt64) - ((tu i).toInt64)))), (5, .long (lab (((bc i).toInt64) - ((tu i).toInt64)))), (3, .int (b.1 + 1)), (2, .ref q), (0, .ref 50), (1, .int x)]) 3 rfl (nI_inc1 i) dX11_side_292 (by decide) rfl ?_
                  refine r_goto (tgt := 80) (by decide) dX11_side_295 ?_
                  refine bV_loc [0, 3, 4, 5, 6] rfl ?_
                  refine ih (i + 1) (b.1 + 1, sAl (a_ct (an i)) (a_rt (an i)) b.2.1, sWi (a_tr (an i)) (a_ct (an i)) (a_rt (an i)) b.2.2.1, sLo (a_tr (an i)) (a_ct (an i)) (a_rt (an i)) b.2.2.2.1, sWt (a_tr (an i)) b.2.2.2.2) _ (by omega) (by show (upd (upd (upd (upd g 0 ((g 0) + 0)) 3 (((upd g 0 ((g 0) + 0)) 3) + 1)) 1 (((upd (upd g 0 ((g 0) + 0)) 3 (((upd g 0 ((g 0) + 0)) 3) + 1)) 1) + 1)) 2 (((upd (upd (upd g 0 ((g 0) + 0)) 3 (((upd g 0 ((g 0) + 0)) 3) + 1)) 1 (((upd (upd g 0 ((g 0) + 0)) 3 (((upd g 0 ((g 0) + 0)) 3) + 1)) 1) + 1)) 2) + 1)) 0 = sAl (a_ct (an i)) (a_rt (an i)) b.2.1; simp only [pk_us, u5_01, u5_02, u5_03, u5_04, u5_10, u5_12, u5_13, u5_14, u5_20, u5_21, u5_23, u5_24, u5_30, u5_31, u5_32, u5_34, u5_40, u5_41, u5_42, u5_43]; unfold sAl; rw [← a7, ← a8, g0]; first | rw [if_pos c168] | rw [if_neg c168, Int32.add_zero]) (by show (upd (upd (upd (upd g 0 ((g 0) + 0)) 3 (((upd g 0 ((g 0) + 0)) 3) + 1)) 1 (((upd (upd g 0 ((g 0) + 0)) 3 (((upd g 0 ((g 0) + 0)) 3) + 1)) 1) + 1)) 2 (((upd (upd (upd g 0 ((g 0) + 0)) 3 (((upd g 0 ((g 0) + 0)) 3) + 1)) 1 (((upd (upd g 0 ((g 0) + 0)) 3 (((upd g 0 ((g 0) + 0)) 3) + 1)) 1) + 1)) 2) + 1)) 1 = sWi (a_tr (an i)) (a_ct (an i)) (a_rt (an i)) b.2.2.1; simp only [pk_us, u5_01, u5_02, u5_03, u5_04, u5_10, u5_12, u5_13, u5_14, u5_20, u5_21, u5_23, u5_24, u5_30, u5_31, u5_32, u5_34, u5_40, u5_41, u5_42, u5_43]; unfold sWi; rw [← a7, ← a8, ← a9, if_neg c188, g1]; rw [far_sym, far_sym] at c260; rw [far_sym, far_sym] at c282; first | rw [if_pos c260, Int32.add_zero] | rw [if_neg c260]) (by show (upd (upd (upd (upd g 0 ((g 0) + 0)) 3 (((upd g 0 ((g 0) + 0)) 3) + 1)) 1 (((upd (upd g 0 ((g 0) + 0)) 3 (((upd g 0 ((g 0) + 0)) 3) + 1)) 1) + 1)) 2 (((upd (upd (upd g 0 ((g 0) + 0)) 3 (((upd g 0 ((g 0) + 0)) 3) + 1)) 1 (((upd (upd g 0 ((g 0) + 0)) 3 (((upd g 0 ((g 0) + 0)) 3) + 1)) 1) + 1)) 2) + 1)) 2 = sLo (a_tr (an i)) (a_ct (an i)) (a_rt (an i)) b.2.2.2.1; simp only [pk_us, u5_01, u5_02, u5_03, u5_04, u5_10, u5_12, u5_13, u5_14, u5_20, u5_21, u5_23, u5_24, u5_30, u5_31, u5_32, u5_34, u5_40, u5_41, u5_42, u5_43]; unfold sLo; rw [← a7, ← a8, ← a9, if_neg c188, g2]; rw [far_sym, far_sym] at c260; rw [far_sym, far_sym] at c282; first | rw [if_pos c260, if_pos c282, Int32.add_zero] | rw [if_pos c260, if_neg c282] | rw [if_neg c260, Int32.add_zero] | exact absurd (Int64.le_iff_toInt_le.mpr (by rw [Int64.le_iff_toInt_le] at c260; omega)) c282) (by show (upd (upd (upd (upd g 0 ((g 0) + 0)) 3 (((upd g 0 ((g 0) + 0)) 3) + 1)) 1 (((upd (upd g 0 ((g 0) + 0)) 3 (((upd g 0 ((g 0) + 0)) 3) + 1)) 1) + 1)) 2 (((upd (upd (upd g 0 ((g 0) + 0)) 3 (((upd g 0 ((g 0) + 0)) 3) + 1)) 1 (((upd (upd g 0 ((g 0) + 0)) 3 (((upd g 0 ((g 0) + 0)) 3) + 1)) 1) + 1)) 2) + 1)) 3 = sWt (a_tr (an i)) b.2.2.2.2; simp only [pk_us, u5_01, u5_02, u5_03, u5_04, u5_10, u5_12, u5_13, u5_14, u5_20, u5_21, u5_23, u5_24, u5_30, u5_31, u5_32, u5_34, u5_40, u5_41, u5_42, u5_43]; unfold sWt; rw [← a9, if_neg c188, g3]) ?_
                  rw [show (sbL x ch_ rv_ an (j + 1) i b) = (sbL x ch_ rv_ an j (i + 1) (b.1 + 1, sAl (a_ct (an i)) (a_rt (an i)) b.2.1, sWi (a_tr (an i)) (a_ct (an i)) (a_rt (an i)) b.2.2.1, sLo (a_tr (an i)) (a_ct (an i)) (a_rt (an i)) b.2.2.2.1, sWt (a_tr (an i)) b.2.2.2.2)) by rw [sbL, sb1, ← a0, if_pos c100, ← a4, if_pos c119, ← a5, if_pos c138]] at hQ
                  exact hQ
            · refine r_goto (tgt := 292) (by decide) dX11_side_191 ?_
              refine r_iinc (i := 4) (v := nI (i + 1)) (L' := [(4, .int (nI (i + 1))), (3, .int (b.1 + 1)), (2, .ref q), (0, .ref 50), (1, .int x)]) 1 rfl (nI_inc1 i) dX11_side_292 (by decide) rfl ?_
              refine r_goto (tgt := 80) (by decide) dX11_side_295 ?_
              refine bV_loc [0, 1, 2, 3, 4] rfl ?_
              refine ih (i + 1) (b.1 + 1, sAl (a_ct (an i)) (a_rt (an i)) b.2.1, sWi (a_tr (an i)) (a_ct (an i)) (a_rt (an i)) b.2.2.1, sLo (a_tr (an i)) (a_ct (an i)) (a_rt (an i)) b.2.2.2.1, sWt (a_tr (an i)) b.2.2.2.2) _ (by omega) (by show (upd g 0 ((g 0) + 0)) 0 = sAl (a_ct (an i)) (a_rt (an i)) b.2.1; simp only [pk_us, u5_01, u5_02, u5_03, u5_04, u5_10, u5_12, u5_13, u5_14, u5_20, u5_21, u5_23, u5_24, u5_30, u5_31, u5_32, u5_34, u5_40, u5_41, u5_42, u5_43]; unfold sAl; rw [← a7, ← a8, g0]; first | rw [if_pos c168] | rw [if_neg c168, Int32.add_zero]) (by show (upd g 0 ((g 0) + 0)) 1 = sWi (a_tr (an i)) (a_ct (an i)) (a_rt (an i)) b.2.2.1; simp only [pk_us, u5_01, u5_02, u5_03, u5_04, u5_10, u5_12, u5_13, u5_14, u5_20, u5_21, u5_23, u5_24, u5_30, u5_31, u5_32, u5_34, u5_40, u5_41, u5_42, u5_43]; unfold sWi; rw [← a9, if_pos c188, g1]) (by show (upd g 0 ((g 0) + 0)) 2 = sLo (a_tr (an i)) (a_ct (an i)) (a_rt (an i)) b.2.2.2.1; simp only [pk_us, u5_01, u5_02, u5_03, u5_04, u5_10, u5_12, u5_13, u5_14, u5_20, u5_21, u5_23, u5_24, u5_30, u5_31, u5_32, u5_34, u5_40, u5_41, u5_42, u5_43]; unfold sLo; rw [← a9, if_pos c188, g2]) (by show (upd g 0 ((g 0) + 0)) 3 = sWt (a_tr (an i)) b.2.2.2.2; simp only [pk_us, u5_01, u5_02, u5_03, u5_04, u5_10, u5_12, u5_13, u5_14, u5_20, u5_21, u5_23, u5_24, u5_30, u5_31, u5_32, u5_34, u5_40, u5_41, u5_42, u5_43]; unfold sWt; rw [← a9, if_pos c188, g3]) ?_
              rw [show (sbL x ch_ rv_ an (j + 1) i b) = (sbL x ch_ rv_ an j (i + 1) (b.1 + 1, sAl (a_ct (an i)) (a_rt (an i)) b.2.1, sWi (a_tr (an i)) (a_ct (an i)) (a_rt (an i)) b.2.2.1, sLo (a_tr (an i)) (a_ct (an i)) (a_rt (an i)) b.2.2.2.1, sWt (a_tr (an i)) b.2.2.2.2)) by rw [sbL, sb1, ← a0, if_pos c100, ← a4, if_pos c119, ← a5, if_pos c138]] at hQ
              exact hQ
          · refine r_iconst (v := 1) (by decide) dX11_side_171 ?_
            refine r_goto (tgt := 176) (by decide) dX11_side_172 ?_
            refine r_iadd dX11_side_176 ?_
            refine p_iastN (t := 0) (by exact bU_s _ _ _) (by omega) (by omega) dX11_side_177 ?_
            refine bV_h (f2 := bU f 63 (.inl (0, 5, .inl (upd g 0 ((g 0) + 1))))) (bU_u _ _ _ _) ?_
            refine r_aload_n (n := 0) (i := 0) 3 rfl rfl dX11_side_178 ?_
            refine p_get (fs := [.int th_, .int tr_, .int wh_, .int fl_, .int nm_, .ref 51, .ref q_, .ref 53, .ref 54, .int tp_, .int sz_, .int at_, .int so_, .int pl_, .int mk_, .int nu_, .int di_, .int br_, .int iff_, .long wo_, .ref 55, .ref 56, .int nd_, .int td_, .ref 57, .int (nI m9), .ref 58, .ref 59, .ref 60, .ref 61, .ref 62, .ref 63, .int hs_, .ref 64, .int nf_]) flX11_62 (by exact ((bU_n (by decide)).trans (h0))) rfl dX11_side_179 ?_
            refine r_iload (i := 4) 1 rfl dX11_side_182 ?_
            refine p_ialdN (t := i) (by exact ((bU_n (by decide)).trans (h5))) (by omega) (by omega) dX11_side_184 ?_
            refine r_ldcw ckX11_266 dX11_side_185 ?_
            refine r_icmp_ne (tgt := 194) (by decide) dX11_side_188 (fun c188 => ?_) (fun c188 => ?_)
            · refine r_aload_n (n := 0) (i := 0) 3 rfl rfl dX11_side_194 ?_
              refine p_get (fs := [.int th_, .int tr_, .int wh_, .int fl_, .int nm_, .ref 51, .ref q_, .ref 53, .ref 54, .int tp_, .int sz_, .int at_, .int so_, .int pl_, .int mk_, .int nu_, .int di_, .int br_, .int iff_, .long wo_, .ref 55, .ref 56, .int nd_, .int td_, .ref 57, .int (nI m9), .ref 58, .ref 59, .ref 60, .ref 61, .ref 62, .ref 63, .int hs_, .ref 64, .int nf_]) flX11_65 (by exact ((bU_n (by decide)).trans (h0))) rfl dX11_side_195 ?_
              refine r_iconst (v := 3) (by decide) dX11_side_198 ?_
              refine r_dup2 rfl rfl dX11_side_199 ?_
              refine p_ialdN (t := 3) (by exact bU_s _ _ _) (by omega) (by omega) dX11_side_200 ?_
              refine r_iconst (v := 1) (by decide) dX11_side_201 ?_
              refine r_iadd dX11_side_202 ?_
              refine p_iastN (t := 3) (by exact bU_s _ _ _) (by omega) (by omega) dX11_side_203 ?_
              refine bV_h (f2 := bU f 63 (.inl (0, 5, .inl (upd (upd g 0 ((g 0) + 1)) 3 (((upd g 0 ((g 0) + 1)) 3) + 1))))) (bU_u _ _ _ _) ?_
              refine r_aload_n (n := 0) (i := 0) 3 rfl rfl dX11_side_204 ?_
              refine p_get (fs := [.int th_, .int tr_, .int wh_, .int fl_, .int nm_, .ref 51, .ref q_, .ref 53, .ref 54, .int tp_, .int sz_, .int at_, .int so_, .int pl_, .int mk_, .int nu_, .int di_, .int br_, .int iff_, .long wo_, .ref 55, .ref 56, .int nd_, .int td_, .ref 57, .int (nI m9), .ref 58, .ref 59, .ref 60, .ref 61, .ref 62, .ref 63, .int hs_, .ref 64, .int nf_]) flX11_56 (by exact ((bU_n (by decide)).trans (h0))) rfl dX11_side_205 ?_
              refine r_iload (i := 4) 1 rfl dX11_side_208 ?_
              refine p_ialdN (t := i) (by exact ((bU_n (by decide)).trans (h3))) (by omega) (by omega) dX11_side_210 ?_
              refine r_i2l dX11_side_211 ?_
              refine r_aload_n (n := 0) (i := 0) 3 rfl rfl dX11_side_212 ?_
              refine p_get (fs := [.int th_, .int tr_, .int wh_, .int fl_, .int nm_, .ref 51, .ref q_, .ref 53, .ref 54, .int tp_, .int sz_, .int at_, .int so_, .int pl_, .int mk_, .int nu_, .int di_, .int br_, .int iff_, .long wo_, .ref 55, .ref 56, .int nd_, .int td_, .ref 57, .int (nI m9), .ref 58, .ref 59, .ref 60, .ref 61, .ref 62, .ref 63, .int hs_, .ref 64, .int nf_]) flX11_62 (by exact ((bU_n (by decide)).trans (h0))) rfl dX11_side_213 ?_
              refine r_iload (i := 4) 1 rfl dX11_side_216 ?_
              refine p_ialdN (t := i) (by exact ((bU_n (by decide)).trans (h5))) (by omega) (by omega) dX11_side_218 ?_
              refine r_i2l dX11_side_219 ?_
              refine r_lsub dX11_side_220 ?_
              refine r_mabsL (by omega) lkX11_328 (Nat.le_of_ble_eq_true rfl) dX11_side_221 ?_
              refine r_lstore (i := 5) (L' := [(5, .long (lab (((bc i).toInt64) - ((tu i).toInt64)))), (3, .int (b.1 + 1)), (4, .int (nI i)), (2, .ref q), (0, .ref 50), (1, .int x)]) dX11_side_224 (by decide) rfl ?_
              refine r_aload_n (n := 0) (i := 0) 4 rfl rfl dX11_side_226 ?_
              refine p_get (fs := [.int th_, .int tr_, .int wh_, .int fl_, .int nm_, .ref 51, .ref q_, .ref 53, .ref 54, .int tp_, .int sz_, .int at_, .int so_, .int pl_, .int mk_, .int nu_, .int di_, .int br_, .int iff_, .long wo_, .ref 55, .ref 56, .int nd_, .int td_, .ref 57, .int (nI m9), .ref 58, .ref 59, .ref 60, .ref 61, .ref 62, .ref 63, .int hs_, .ref 64, .int nf_]) flX11_59 (by exact ((bU_n (by decide)).trans (h0))) rfl dX11_side_227 ?_
              refine r_iload (i := 4) 2 rfl dX11_side_230 ?_
              refine p_ialdN (t := i) (by exact ((bU_n (by decide)).trans (h4))) (by omega) (by omega) dX11_side_232 ?_
              refine r_i2l dX11_side_233 ?_
              refine r_aload_n (n := 0) (i := 0) 4 rfl rfl dX11_side_234 ?_
              refine p_get (fs := [.int th_, .int tr_, .int wh_, .int fl_, .int nm_, .ref 51, .ref q_, .ref 53, .ref 54, .int tp_, .int sz_, .int at_, .int so_, .int pl_, .int mk_, .int nu_, .int di_, .int br_, .int iff_, .long wo_, .ref 55, .ref 56, .int nd_, .int td_, .ref 57, .int (nI m9), .ref 58, .ref 59, .ref 60, .ref 61, .ref 62, .ref 63, .int hs_, .ref 64, .int nf_]) flX11_62 (by exact ((bU_n (by decide)).trans (h0))) rfl dX11_side_235 ?_
              refine r_iload (i := 4) 2 rfl dX11_side_238 ?_
              refine p_ialdN (t := i) (by exact ((bU_n (by decide)).trans (h5))) (by omega) (by omega) dX11_side_240 ?_
              refine r_i2l dX11_side_241 ?_
              refine r_lsub dX11_side_242 ?_
              refine r_mabsL (by omega) lkX11_328 (Nat.le_of_ble_eq_true rfl) dX11_side_243 ?_
              refine r_lstore (i := 7) (L' := [(7, .long (lab (((br i).toInt64) - ((tu i).toInt64)))), (5, .long (lab (((bc i).toInt64) - ((tu i).toInt64)))), (3, .int (b.1 + 1)), (4, .int (nI i)), (2, .ref q), (0, .ref 50), (1, .int x)]) dX11_side_246 (by decide) rfl ?_
              refine r_aload_n (n := 0) (i := 0) 5 rfl rfl dX11_side_248 ?_
              refine p_get (fs := [.int th_, .int tr_, .int wh_, .int fl_, .int nm_, .ref 51, .ref q_, .ref 53, .ref 54, .int tp_, .int sz_, .int at_, .int so_, .int pl_, .int mk_, .int nu_, .int di_, .int br_, .int iff_, .long wo_, .ref 55, .ref 56, .int nd_, .int td_, .ref 57, .int (nI m9), .ref 58, .ref 59, .ref 60, .ref 61, .ref 62, .ref 63, .int hs_, .ref 64, .int nf_]) flX11_65 (by exact ((bU_n (by decide)).trans (h0))) rfl dX11_side_249 ?_
              refine r_iconst (v := 1) (by decide) dX11_side_252 ?_
              refine r_dup2 rfl rfl dX11_side_253 ?_
              refine p_ialdN (t := 1) (by exact bU_s _ _ _) (by omega) (by omega) dX11_side_254 ?_
              refine r_lload (i := 7) 0 rfl dX11_side_255 ?_
              refine r_lload (i := 5) 1 rfl dX11_side_257 ?_
              refine r_lcmp dX11_side_259 ?_
              refine r_if_ge (tgt := 267) (by decide) dX11_side_260 (fun c260 => ?_) (fun c260 => ?_)
              · have c260 := (lg_cmp_ge _ _).mp c260
                refine r_iconst (v := 0) (by decide) dX11_side_267 ?_
                refine r_iadd dX11_side_268 ?_
                refine p_iastN (t := 1) (by exact bU_s _ _ _) (by omega) (by omega) dX11_side_269 ?_
                refine bV_h (f2 := bU f 63 (.inl (0, 5, .inl (upd (upd (upd g 0 ((g 0) + 1)) 3 (((upd g 0 ((g 0) + 1)) 3) + 1)) 1 (((upd (upd g 0 ((g 0) + 1)) 3 (((upd g 0 ((g 0) + 1)) 3) + 1)) 1) + 0))))) (bU_u _ _ _ _) ?_
                refine r_aload_n (n := 0) (i := 0) 5 rfl rfl dX11_side_270 ?_
                refine p_get (fs := [.int th_, .int tr_, .int wh_, .int fl_, .int nm_, .ref 51, .ref q_, .ref 53, .ref 54, .int tp_, .int sz_, .int at_, .int so_, .int pl_, .int mk_, .int nu_, .int di_, .int br_, .int iff_, .long wo_, .ref 55, .ref 56, .int nd_, .int td_, .ref 57, .int (nI m9), .ref 58, .ref 59, .ref 60, .ref 61, .ref 62, .ref 63, .int hs_, .ref 64, .int nf_]) flX11_65 (by exact ((bU_n (by decide)).trans (h0))) rfl dX11_side_271 ?_
                refine r_iconst (v := 2) (by decide) dX11_side_274 ?_
                refine r_dup2 rfl rfl dX11_side_275 ?_
                refine p_ialdN (t := 2) (by exact bU_s _ _ _) (by omega) (by omega) dX11_side_276 ?_
                refine r_lload (i := 5) 1 rfl dX11_side_277 ?_
                refine r_lload (i := 7) 0 rfl dX11_side_279 ?_
                refine r_lcmp dX11_side_281 ?_
                refine r_if_ge (tgt := 289) (by decide) dX11_side_282 (fun c282 => ?_) (fun c282 => ?_)
                · have c282 := (lg_cmp_ge _ _).mp c282
                  refine r_iconst (v := 0) (by decide) dX11_side_289 ?_
                  refine r_iadd dX11_side_290 ?_
                  refine p_iastN (t := 2) (by exact bU_s _ _ _) (by omega) (by omega) dX11_side_291 ?_
                  refine bV_h (f2 := bU f 63 (.inl (0, 5, .inl (upd (upd (upd (upd g 0 ((g 0) + 1)) 3 (((upd g 0 ((g 0) + 1)) 3) + 1)) 1 (((upd (upd g 0 ((g 0) + 1)) 3 (((upd g 0 ((g 0) + 1)) 3) + 1)) 1) + 0)) 2 (((upd (upd (upd g 0 ((g 0) + 1)) 3 (((upd g 0 ((g 0) + 1)) 3) + 1)) 1 (((upd (upd g 0 ((g 0) + 1)) 3 (((upd g 0 ((g 0) + 1)) 3) + 1)) 1) + 0)) 2) + 0))))) (bU_u _ _ _ _) ?_
                  refine r_iinc (i := 4) (v := nI (i + 1)) (L' := [(4, .int (nI (i + 1))), (7, .long (lab (((br i).toInt64) - ((tu i).toInt64)))), (5, .long (lab (((bc i).toInt64) - ((tu i).toInt64)))), (3, .int (b.1 + 1)), (2, .ref q), (0, .ref 50), (1, .int x)]) 3 rfl (nI_inc1 i) dX11_side_292 (by decide) rfl ?_
                  refine r_goto (tgt := 80) (by decide) dX11_side_295 ?_
                  refine bV_loc [0, 3, 4, 5, 6] rfl ?_
                  refine ih (i + 1) (b.1 + 1, sAl (a_ct (an i)) (a_rt (an i)) b.2.1, sWi (a_tr (an i)) (a_ct (an i)) (a_rt (an i)) b.2.2.1, sLo (a_tr (an i)) (a_ct (an i)) (a_rt (an i)) b.2.2.2.1, sWt (a_tr (an i)) b.2.2.2.2) _ (by omega) (by show (upd (upd (upd (upd g 0 ((g 0) + 1)) 3 (((upd g 0 ((g 0) + 1)) 3) + 1)) 1 (((upd (upd g 0 ((g 0) + 1)) 3 (((upd g 0 ((g 0) + 1)) 3) + 1)) 1) + 0)) 2 (((upd (upd (upd g 0 ((g 0) + 1)) 3 (((upd g 0 ((g 0) + 1)) 3) + 1)) 1 (((upd (upd g 0 ((g 0) + 1)) 3 (((upd g 0 ((g 0) + 1)) 3) + 1)) 1) + 0)) 2) + 0)) 0 = sAl (a_ct (an i)) (a_rt (an i)) b.2.1; simp only [pk_us, u5_01, u5_02, u5_03, u5_04, u5_10, u5_12, u5_13, u5_14, u5_20, u5_21, u5_23, u5_24, u5_30, u5_31, u5_32, u5_34, u5_40, u5_41, u5_42, u5_43]; unfold sAl; rw [← a7, ← a8, g0]; first | rw [if_pos c168] | rw [if_neg c168, Int32.add_zero]) (by show (upd (upd (upd (upd g 0 ((g 0) + 1)) 3 (((upd g 0 ((g 0) + 1)) 3) + 1)) 1 (((upd (upd g 0 ((g 0) + 1)) 3 (((upd g 0 ((g 0) + 1)) 3) + 1)) 1) + 0)) 2 (((upd (upd (upd g 0 ((g 0) + 1)) 3 (((upd g 0 ((g 0) + 1)) 3) + 1)) 1 (((upd (upd g 0 ((g 0) + 1)) 3 (((upd g 0 ((g 0) + 1)) 3) + 1)) 1) + 0)) 2) + 0)) 1 = sWi (a_tr (an i)) (a_ct (an i)) (a_rt (an i)) b.2.2.1; simp only [pk_us, u5_01, u5_02, u5_03, u5_04, u5_10, u5_12, u5_13, u5_14, u5_20, u5_21, u5_23, u5_24, u5_30, u5_31, u5_32, u5_34, u5_40, u5_41, u5_42, u5_43]; unfold sWi; rw [← a7, ← a8, ← a9, if_neg c188, g1]; rw [far_sym, far_sym] at c260; rw [far_sym, far_sym] at c282; first | rw [if_pos c260, Int32.add_zero] | rw [if_neg c260]) (by show (upd (upd (upd (upd g 0 ((g 0) + 1)) 3 (((upd g 0 ((g 0) + 1)) 3) + 1)) 1 (((upd (upd g 0 ((g 0) + 1)) 3 (((upd g 0 ((g 0) + 1)) 3) + 1)) 1) + 0)) 2 (((upd (upd (upd g 0 ((g 0) + 1)) 3 (((upd g 0 ((g 0) + 1)) 3) + 1)) 1 (((upd (upd g 0 ((g 0) + 1)) 3 (((upd g 0 ((g 0) + 1)) 3) + 1)) 1) + 0)) 2) + 0)) 2 = sLo (a_tr (an i)) (a_ct (an i)) (a_rt (an i)) b.2.2.2.1; simp only [pk_us, u5_01, u5_02, u5_03, u5_04, u5_10, u5_12, u5_13, u5_14, u5_20, u5_21, u5_23, u5_24, u5_30, u5_31, u5_32, u5_34, u5_40, u5_41, u5_42, u5_43]; unfold sLo; rw [← a7, ← a8, ← a9, if_neg c188, g2]; rw [far_sym, far_sym] at c260; rw [far_sym, far_sym] at c282; first | rw [if_pos c260, if_pos c282, Int32.add_zero] | rw [if_pos c260, if_neg c282] | rw [if_neg c260, Int32.add_zero] | exact absurd (Int64.le_iff_toInt_le.mpr (by rw [Int64.le_iff_toInt_le] at c260; omega)) c282) (by show (upd (upd (upd (upd g 0 ((g 0) + 1)) 3 (((upd g 0 ((g 0) + 1)) 3) + 1)) 1 (((upd (upd g 0 ((g 0) + 1)) 3 (((upd g 0 ((g 0) + 1)) 3) + 1)) 1) + 0)) 2 (((upd (upd (upd g 0 ((g 0) + 1)) 3 (((upd g 0 ((g 0) + 1)) 3) + 1)) 1 (((upd (upd g 0 ((g 0) + 1)) 3 (((upd g 0 ((g 0) + 1)) 3) + 1)) 1) + 0)) 2) + 0)) 3 = sWt (a_tr (an i)) b.2.2.2.2; simp only [pk_us, u5_01, u5_02, u5_03, u5_04, u5_10, u5_12, u5_13, u5_14, u5_20, u5_21, u5_23, u5_24, u5_30, u5_31, u5_32, u5_34, u5_40, u5_41, u5_42, u5_43]; unfold sWt; rw [← a9, if_neg c188, g3]) ?_
                  rw [show (sbL x ch_ rv_ an (j + 1) i b) = (sbL x ch_ rv_ an j (i + 1) (b.1 + 1, sAl (a_ct (an i)) (a_rt (an i)) b.2.1, sWi (a_tr (an i)) (a_ct (an i)) (a_rt (an i)) b.2.2.1, sLo (a_tr (an i)) (a_ct (an i)) (a_rt (an i)) b.2.2.2.1, sWt (a_tr (an i)) b.2.2.2.2)) by rw [sbL, sb1, ← a0, if_pos c100, ← a4, if_pos c119, ← a5, if_pos c138]] at hQ
                  exact hQ
                · have c282 : ¬ (lab (((br i).toInt64) - ((tu i).toInt64))) ≤ (lab (((bc i).toInt64) - ((tu i).toInt64))) := fun h7 => c282 ((lg_cmp_ge _ _).mpr h7)
                  refine r_iconst (v := 1) (by decide) dX11_side_285 ?_
                  refine r_goto (tgt := 290) (by decide) dX11_side_286 ?_
                  refine r_iadd dX11_side_290 ?_
                  refine p_iastN (t := 2) (by exact bU_s _ _ _) (by omega) (by omega) dX11_side_291 ?_
                  refine bV_h (f2 := bU f 63 (.inl (0, 5, .inl (upd (upd (upd (upd g 0 ((g 0) + 1)) 3 (((upd g 0 ((g 0) + 1)) 3) + 1)) 1 (((upd (upd g 0 ((g 0) + 1)) 3 (((upd g 0 ((g 0) + 1)) 3) + 1)) 1) + 0)) 2 (((upd (upd (upd g 0 ((g 0) + 1)) 3 (((upd g 0 ((g 0) + 1)) 3) + 1)) 1 (((upd (upd g 0 ((g 0) + 1)) 3 (((upd g 0 ((g 0) + 1)) 3) + 1)) 1) + 0)) 2) + 1))))) (bU_u _ _ _ _) ?_
                  refine r_iinc (i := 4) (v := nI (i + 1)) (L' := [(4, .int (nI (i + 1))), (7, .long (lab (((br i).toInt64) - ((tu i).toInt64)))), (5, .long (lab (((bc i).toInt64) - ((tu i).toInt64)))), (3, .int (b.1 + 1)), (2, .ref q), (0, .ref 50), (1, .int x)]) 3 rfl (nI_inc1 i) dX11_side_292 (by decide) rfl ?_
                  refine r_goto (tgt := 80) (by decide) dX11_side_295 ?_
                  refine bV_loc [0, 3, 4, 5, 6] rfl ?_
                  refine ih (i + 1) (b.1 + 1, sAl (a_ct (an i)) (a_rt (an i)) b.2.1, sWi (a_tr (an i)) (a_ct (an i)) (a_rt (an i)) b.2.2.1, sLo (a_tr (an i)) (a_ct (an i)) (a_rt (an i)) b.2.2.2.1, sWt (a_tr (an i)) b.2.2.2.2) _ (by omega) (by show (upd (upd (upd (upd g 0 ((g 0) + 1)) 3 (((upd g 0 ((g 0) + 1)) 3) + 1)) 1 (((upd (upd g 0 ((g 0) + 1)) 3 (((upd g 0 ((g 0) + 1)) 3) + 1)) 1) + 0)) 2 (((upd (upd (upd g 0 ((g 0) + 1)) 3 (((upd g 0 ((g 0) + 1)) 3) + 1)) 1 (((upd (upd g 0 ((g 0) + 1)) 3 (((upd g 0 ((g 0) + 1)) 3) + 1)) 1) + 0)) 2) + 1)) 0 = sAl (a_ct (an i)) (a_rt (an i)) b.2.1; simp only [pk_us, u5_01, u5_02, u5_03, u5_04, u5_10, u5_12, u5_13, u5_14, u5_20, u5_21, u5_23, u5_24, u5_30, u5_31, u5_32, u5_34, u5_40, u5_41, u5_42, u5_43]; unfold sAl; rw [← a7, ← a8, g0]; first | rw [if_pos c168] | rw [if_neg c168, Int32.add_zero]) (by show (upd (upd (upd (upd g 0 ((g 0) + 1)) 3 (((upd g 0 ((g 0) + 1)) 3) + 1)) 1 (((upd (upd g 0 ((g 0) + 1)) 3 (((upd g 0 ((g 0) + 1)) 3) + 1)) 1) + 0)) 2 (((upd (upd (upd g 0 ((g 0) + 1)) 3 (((upd g 0 ((g 0) + 1)) 3) + 1)) 1 (((upd (upd g 0 ((g 0) + 1)) 3 (((upd g 0 ((g 0) + 1)) 3) + 1)) 1) + 0)) 2) + 1)) 1 = sWi (a_tr (an i)) (a_ct (an i)) (a_rt (an i)) b.2.2.1; simp only [pk_us, u5_01, u5_02, u5_03, u5_04, u5_10, u5_12, u5_13, u5_14, u5_20, u5_21, u5_23, u5_24, u5_30, u5_31, u5_32, u5_34, u5_40, u5_41, u5_42, u5_43]; unfold sWi; rw [← a7, ← a8, ← a9, if_neg c188, g1]; rw [far_sym, far_sym] at c260; rw [far_sym, far_sym] at c282; first | rw [if_pos c260, Int32.add_zero] | rw [if_neg c260]) (by show (upd (upd (upd (upd g 0 ((g 0) + 1)) 3 (((upd g 0 ((g 0) + 1)) 3) + 1)) 1 (((upd (upd g 0 ((g 0) + 1)) 3 (((upd g 0 ((g 0) + 1)) 3) + 1)) 1) + 0)) 2 (((upd (upd (upd g 0 ((g 0) + 1)) 3 (((upd g 0 ((g 0) + 1)) 3) + 1)) 1 (((upd (upd g 0 ((g 0) + 1)) 3 (((upd g 0 ((g 0) + 1)) 3) + 1)) 1) + 0)) 2) + 1)) 2 = sLo (a_tr (an i)) (a_ct (an i)) (a_rt (an i)) b.2.2.2.1; simp only [pk_us, u5_01, u5_02, u5_03, u5_04, u5_10, u5_12, u5_13, u5_14, u5_20, u5_21, u5_23, u5_24, u5_30, u5_31, u5_32, u5_34, u5_40, u5_41, u5_42, u5_43]; unfold sLo; rw [← a7, ← a8, ← a9, if_neg c188, g2]; rw [far_sym, far_sym] at c260; rw [far_sym, far_sym] at c282; first | rw [if_pos c260, if_pos c282, Int32.add_zero] | rw [if_pos c260, if_neg c282] | rw [if_neg c260, Int32.add_zero] | exact absurd (Int64.le_iff_toInt_le.mpr (by rw [Int64.le_iff_toInt_le] at c260; omega)) c282) (by show (upd (upd (upd (upd g 0 ((g 0) + 1)) 3 (((upd g 0 ((g 0) + 1)) 3) + 1)) 1 (((upd (upd g 0 ((g 0) + 1)) 3 (((upd g 0 ((g 0) + 1)) 3) + 1)) 1) + 0)) 2 (((upd (upd (upd g 0 ((g 0) + 1)) 3 (((upd g 0 ((g 0) + 1)) 3) + 1)) 1 (((upd (upd g 0 ((g 0) + 1)) 3 (((upd g 0 ((g 0) + 1)) 3) + 1)) 1) + 0)) 2) + 1)) 3 = sWt (a_tr (an i)) b.2.2.2.2; simp only [pk_us, u5_01, u5_02, u5_03, u5_04, u5_10, u5_12, u5_13, u5_14, u5_20, u5_21, u5_23, u5_24, u5_30, u5_31, u5_32, u5_34, u5_40, u5_41, u5_42, u5_43]; unfold sWt; rw [← a9, if_neg c188, g3]) ?_
                  rw [show (sbL x ch_ rv_ an (j + 1) i b) = (sbL x ch_ rv_ an j (i + 1) (b.1 + 1, sAl (a_ct (an i)) (a_rt (an i)) b.2.1, sWi (a_tr (an i)) (a_ct (an i)) (a_rt (an i)) b.2.2.1, sLo (a_tr (an i)) (a_ct (an i)) (a_rt (an i)) b.2.2.2.1, sWt (a_tr (an i)) b.2.2.2.2)) by rw [sbL, sb1, ← a0, if_pos c100, ← a4, if_pos c119, ← a5, if_pos c138]] at hQ
                  exact hQ
              · have c260 : ¬ (lab (((bc i).toInt64) - ((tu i).toInt64))) ≤ (lab (((br i).toInt64) - ((tu i).toInt64))) := fun h7 => c260 ((lg_cmp_ge _ _).mpr h7)
                refine r_iconst (v := 1) (by decide) dX11_side_263 ?_
                refine r_goto (tgt := 268) (by decide) dX11_side_264 ?_
                refine r_iadd dX11_side_268 ?_
                refine p_iastN (t := 1) (by exact bU_s _ _ _) (by omega) (by omega) dX11_side_269 ?_
                refine bV_h (f2 := bU f 63 (.inl (0, 5, .inl (upd (upd (upd g 0 ((g 0) + 1)) 3 (((upd g 0 ((g 0) + 1)) 3) + 1)) 1 (((upd (upd g 0 ((g 0) + 1)) 3 (((upd g 0 ((g 0) + 1)) 3) + 1)) 1) + 1))))) (bU_u _ _ _ _) ?_
                refine r_aload_n (n := 0) (i := 0) 5 rfl rfl dX11_side_270 ?_
                refine p_get (fs := [.int th_, .int tr_, .int wh_, .int fl_, .int nm_, .ref 51, .ref q_, .ref 53, .ref 54, .int tp_, .int sz_, .int at_, .int so_, .int pl_, .int mk_, .int nu_, .int di_, .int br_, .int iff_, .long wo_, .ref 55, .ref 56, .int nd_, .int td_, .ref 57, .int (nI m9), .ref 58, .ref 59, .ref 60, .ref 61, .ref 62, .ref 63, .int hs_, .ref 64, .int nf_]) flX11_65 (by exact ((bU_n (by decide)).trans (h0))) rfl dX11_side_271 ?_
                refine r_iconst (v := 2) (by decide) dX11_side_274 ?_
                refine r_dup2 rfl rfl dX11_side_275 ?_
                refine p_ialdN (t := 2) (by exact bU_s _ _ _) (by omega) (by omega) dX11_side_276 ?_
                refine r_lload (i := 5) 1 rfl dX11_side_277 ?_
                refine r_lload (i := 7) 0 rfl dX11_side_279 ?_
                refine r_lcmp dX11_side_281 ?_
                refine r_if_ge (tgt := 289) (by decide) dX11_side_282 (fun c282 => ?_) (fun c282 => ?_)
                · have c282 := (lg_cmp_ge _ _).mp c282
                  refine r_iconst (v := 0) (by decide) dX11_side_289 ?_
                  refine r_iadd dX11_side_290 ?_
                  refine p_iastN (t := 2) (by exact bU_s _ _ _) (by omega) (by omega) dX11_side_291 ?_
                  refine bV_h (f2 := bU f 63 (.inl (0, 5, .inl (upd (upd (upd (upd g 0 ((g 0) + 1)) 3 (((upd g 0 ((g 0) + 1)) 3) + 1)) 1 (((upd (upd g 0 ((g 0) + 1)) 3 (((upd g 0 ((g 0) + 1)) 3) + 1)) 1) + 1)) 2 (((upd (upd (upd g 0 ((g 0) + 1)) 3 (((upd g 0 ((g 0) + 1)) 3) + 1)) 1 (((upd (upd g 0 ((g 0) + 1)) 3 (((upd g 0 ((g 0) + 1)) 3) + 1)) 1) + 1)) 2) + 0))))) (bU_u _ _ _ _) ?_
                  refine r_iinc (i := 4) (v := nI (i + 1)) (L' := [(4, .int (nI (i + 1))), (7, .long (lab (((br i).toInt64) - ((tu i).toInt64)))), (5, .long (lab (((bc i).toInt64) - ((tu i).toInt64)))), (3, .int (b.1 + 1)), (2, .ref q), (0, .ref 50), (1, .int x)]) 3 rfl (nI_inc1 i) dX11_side_292 (by decide) rfl ?_
                  refine r_goto (tgt := 80) (by decide) dX11_side_295 ?_
                  refine bV_loc [0, 3, 4, 5, 6] rfl ?_
                  refine ih (i + 1) (b.1 + 1, sAl (a_ct (an i)) (a_rt (an i)) b.2.1, sWi (a_tr (an i)) (a_ct (an i)) (a_rt (an i)) b.2.2.1, sLo (a_tr (an i)) (a_ct (an i)) (a_rt (an i)) b.2.2.2.1, sWt (a_tr (an i)) b.2.2.2.2) _ (by omega) (by show (upd (upd (upd (upd g 0 ((g 0) + 1)) 3 (((upd g 0 ((g 0) + 1)) 3) + 1)) 1 (((upd (upd g 0 ((g 0) + 1)) 3 (((upd g 0 ((g 0) + 1)) 3) + 1)) 1) + 1)) 2 (((upd (upd (upd g 0 ((g 0) + 1)) 3 (((upd g 0 ((g 0) + 1)) 3) + 1)) 1 (((upd (upd g 0 ((g 0) + 1)) 3 (((upd g 0 ((g 0) + 1)) 3) + 1)) 1) + 1)) 2) + 0)) 0 = sAl (a_ct (an i)) (a_rt (an i)) b.2.1; simp only [pk_us, u5_01, u5_02, u5_03, u5_04, u5_10, u5_12, u5_13, u5_14, u5_20, u5_21, u5_23, u5_24, u5_30, u5_31, u5_32, u5_34, u5_40, u5_41, u5_42, u5_43]; unfold sAl; rw [← a7, ← a8, g0]; first | rw [if_pos c168] | rw [if_neg c168, Int32.add_zero]) (by show (upd (upd (upd (upd g 0 ((g 0) + 1)) 3 (((upd g 0 ((g 0) + 1)) 3) + 1)) 1 (((upd (upd g 0 ((g 0) + 1)) 3 (((upd g 0 ((g 0) + 1)) 3) + 1)) 1) + 1)) 2 (((upd (upd (upd g 0 ((g 0) + 1)) 3 (((upd g 0 ((g 0) + 1)) 3) + 1)) 1 (((upd (upd g 0 ((g 0) + 1)) 3 (((upd g 0 ((g 0) + 1)) 3) + 1)) 1) + 1)) 2) + 0)) 1 = sWi (a_tr (an i)) (a_ct (an i)) (a_rt (an i)) b.2.2.1; simp only [pk_us, u5_01, u5_02, u5_03, u5_04, u5_10, u5_12, u5_13, u5_14, u5_20, u5_21, u5_23, u5_24, u5_30, u5_31, u5_32, u5_34, u5_40, u5_41, u5_42, u5_43]; unfold sWi; rw [← a7, ← a8, ← a9, if_neg c188, g1]; rw [far_sym, far_sym] at c260; rw [far_sym, far_sym] at c282; first | rw [if_pos c260, Int32.add_zero] | rw [if_neg c260]) (by show (upd (upd (upd (upd g 0 ((g 0) + 1)) 3 (((upd g 0 ((g 0) + 1)) 3) + 1)) 1 (((upd (upd g 0 ((g 0) + 1)) 3 (((upd g 0 ((g 0) + 1)) 3) + 1)) 1) + 1)) 2 (((upd (upd (upd g 0 ((g 0) + 1)) 3 (((upd g 0 ((g 0) + 1)) 3) + 1)) 1 (((upd (upd g 0 ((g 0) + 1)) 3 (((upd g 0 ((g 0) + 1)) 3) + 1)) 1) + 1)) 2) + 0)) 2 = sLo (a_tr (an i)) (a_ct (an i)) (a_rt (an i)) b.2.2.2.1; simp only [pk_us, u5_01, u5_02, u5_03, u5_04, u5_10, u5_12, u5_13, u5_14, u5_20, u5_21, u5_23, u5_24, u5_30, u5_31, u5_32, u5_34, u5_40, u5_41, u5_42, u5_43]; unfold sLo; rw [← a7, ← a8, ← a9, if_neg c188, g2]; rw [far_sym, far_sym] at c260; rw [far_sym, far_sym] at c282; first | rw [if_pos c260, if_pos c282, Int32.add_zero] | rw [if_pos c260, if_neg c282] | rw [if_neg c260, Int32.add_zero] | exact absurd (Int64.le_iff_toInt_le.mpr (by rw [Int64.le_iff_toInt_le] at c260; omega)) c282) (by show (upd (upd (upd (upd g 0 ((g 0) + 1)) 3 (((upd g 0 ((g 0) + 1)) 3) + 1)) 1 (((upd (upd g 0 ((g 0) + 1)) 3 (((upd g 0 ((g 0) + 1)) 3) + 1)) 1) + 1)) 2 (((upd (upd (upd g 0 ((g 0) + 1)) 3 (((upd g 0 ((g 0) + 1)) 3) + 1)) 1 (((upd (upd g 0 ((g 0) + 1)) 3 (((upd g 0 ((g 0) + 1)) 3) + 1)) 1) + 1)) 2) + 0)) 3 = sWt (a_tr (an i)) b.2.2.2.2; simp only [pk_us, u5_01, u5_02, u5_03, u5_04, u5_10, u5_12, u5_13, u5_14, u5_20, u5_21, u5_23, u5_24, u5_30, u5_31, u5_32, u5_34, u5_40, u5_41, u5_42, u5_43]; unfold sWt; rw [← a9, if_neg c188, g3]) ?_
                  rw [show (sbL x ch_ rv_ an (j + 1) i b) = (sbL x ch_ rv_ an j (i + 1) (b.1 + 1, sAl (a_ct (an i)) (a_rt (an i)) b.2.1, sWi (a_tr (an i)) (a_ct (an i)) (a_rt (an i)) b.2.2.1, sLo (a_tr (an i)) (a_ct (an i)) (a_rt (an i)) b.2.2.2.1, sWt (a_tr (an i)) b.2.2.2.2)) by rw [sbL, sb1, ← a0, if_pos c100, ← a4, if_pos c119, ← a5, if_pos c138]] at hQ
                  exact hQ
                · have c282 : ¬ (lab (((br i).toInt64) - ((tu i).toInt64))) ≤ (lab (((bc i).toInt64) - ((tu i).toInt64))) := fun h7 => c282 ((lg_cmp_ge _ _).mpr h7)
                  refine r_iconst (v := 1) (by decide) dX11_side_285 ?_
                  refine r_goto (tgt := 290) (by decide) dX11_side_286 ?_
                  refine r_iadd dX11_side_290 ?_
                  refine p_iastN (t := 2) (by exact bU_s _ _ _) (by omega) (by omega) dX11_side_291 ?_
                  refine bV_h (f2 := bU f 63 (.inl (0, 5, .inl (upd (upd (upd (upd g 0 ((g 0) + 1)) 3 (((upd g 0 ((g 0) + 1)) 3) + 1)) 1 (((upd (upd g 0 ((g 0) + 1)) 3 (((upd g 0 ((g 0) + 1)) 3) + 1)) 1) + 1)) 2 (((upd (upd (upd g 0 ((g 0) + 1)) 3 (((upd g 0 ((g 0) + 1)) 3) + 1)) 1 (((upd (upd g 0 ((g 0) + 1)) 3 (((upd g 0 ((g 0) + 1)) 3) + 1)) 1) + 1)) 2) + 1))))) (bU_u _ _ _ _) ?_
                  refine r_iinc (i := 4) (v := nI (i + 1)) (L' := [(4, .int (nI (i + 1))), (7, .long (lab (((br i).toInt64) - ((tu i).toInt64)))), (5, .long (lab (((bc i).toInt64) - ((tu i).toInt64)))), (3, .int (b.1 + 1)), (2, .ref q), (0, .ref 50), (1, .int x)]) 3 rfl (nI_inc1 i) dX11_side_292 (by decide) rfl ?_
                  refine r_goto (tgt := 80) (by decide) dX11_side_295 ?_
                  refine bV_loc [0, 3, 4, 5, 6] rfl ?_
                  refine ih (i + 1) (b.1 + 1, sAl (a_ct (an i)) (a_rt (an i)) b.2.1, sWi (a_tr (an i)) (a_ct (an i)) (a_rt (an i)) b.2.2.1, sLo (a_tr (an i)) (a_ct (an i)) (a_rt (an i)) b.2.2.2.1, sWt (a_tr (an i)) b.2.2.2.2) _ (by omega) (by show (upd (upd (upd (upd g 0 ((g 0) + 1)) 3 (((upd g 0 ((g 0) + 1)) 3) + 1)) 1 (((upd (upd g 0 ((g 0) + 1)) 3 (((upd g 0 ((g 0) + 1)) 3) + 1)) 1) + 1)) 2 (((upd (upd (upd g 0 ((g 0) + 1)) 3 (((upd g 0 ((g 0) + 1)) 3) + 1)) 1 (((upd (upd g 0 ((g 0) + 1)) 3 (((upd g 0 ((g 0) + 1)) 3) + 1)) 1) + 1)) 2) + 1)) 0 = sAl (a_ct (an i)) (a_rt (an i)) b.2.1; simp only [pk_us, u5_01, u5_02, u5_03, u5_04, u5_10, u5_12, u5_13, u5_14, u5_20, u5_21, u5_23, u5_24, u5_30, u5_31, u5_32, u5_34, u5_40, u5_41, u5_42, u5_43]; unfold sAl; rw [← a7, ← a8, g0]; first | rw [if_pos c168] | rw [if_neg c168, Int32.add_zero]) (by show (upd (upd (upd (upd g 0 ((g 0) + 1)) 3 (((upd g 0 ((g 0) + 1)) 3) + 1)) 1 (((upd (upd g 0 ((g 0) + 1)) 3 (((upd g 0 ((g 0) + 1)) 3) + 1)) 1) + 1)) 2 (((upd (upd (upd g 0 ((g 0) + 1)) 3 (((upd g 0 ((g 0) + 1)) 3) + 1)) 1 (((upd (upd g 0 ((g 0) + 1)) 3 (((upd g 0 ((g 0) + 1)) 3) + 1)) 1) + 1)) 2) + 1)) 1 = sWi (a_tr (an i)) (a_ct (an i)) (a_rt (an i)) b.2.2.1; simp only [pk_us, u5_01, u5_02, u5_03, u5_04, u5_10, u5_12, u5_13, u5_14, u5_20, u5_21, u5_23, u5_24, u5_30, u5_31, u5_32, u5_34, u5_40, u5_41, u5_42, u5_43]; unfold sWi; rw [← a7, ← a8, ← a9, if_neg c188, g1]; rw [far_sym, far_sym] at c260; rw [far_sym, far_sym] at c282; first | rw [if_pos c260, Int32.add_zero] | rw [if_neg c260]) (by show (upd (upd (upd (upd g 0 ((g 0) + 1)) 3 (((upd g 0 ((g 0) + 1)) 3) + 1)) 1 (((upd (upd g 0 ((g 0) + 1)) 3 (((upd g 0 ((g 0) + 1)) 3) + 1)) 1) + 1)) 2 (((upd (upd (upd g 0 ((g 0) + 1)) 3 (((upd g 0 ((g 0) + 1)) 3) + 1)) 1 (((upd (upd g 0 ((g 0) + 1)) 3 (((upd g 0 ((g 0) + 1)) 3) + 1)) 1) + 1)) 2) + 1)) 2 = sLo (a_tr (an i)) (a_ct (an i)) (a_rt (an i)) b.2.2.2.1; simp only [pk_us, u5_01, u5_02, u5_03, u5_04, u5_10, u5_12, u5_13, u5_14, u5_20, u5_21, u5_23, u5_24, u5_30, u5_31, u5_32, u5_34, u5_40, u5_41, u5_42, u5_43]; unfold sLo; rw [← a7, ← a8, ← a9, if_neg c188, g2]; rw [far_sym, far_sym] at c260; rw [far_sym, far_sym] at c282; first | rw [if_pos c260, if_pos c282, Int32.add_zero] | rw [if_pos c260, if_neg c282] | rw [if_neg c260, Int32.add_zero] | exact absurd (Int64.le_iff_toInt_le.mpr (by rw [Int64.le_iff_toInt_le] at c260; omega)) c282) (by show (upd (upd (upd (upd g 0 ((g 0) + 1)) 3 (((upd g 0 ((g 0) + 1)) 3) + 1)) 1 (((upd (upd g 0 ((g 0) + 1)) 3 (((upd g 0 ((g 0) + 1)) 3) + 1)) 1) + 1)) 2 (((upd (upd (upd g 0 ((g 0) + 1)) 3 (((upd g 0 ((g 0) + 1)) 3) + 1)) 1 (((upd (upd g 0 ((g 0) + 1)) 3 (((upd g 0 ((g 0) + 1)) 3) + 1)) 1) + 1)) 2) + 1)) 3 = sWt (a_tr (an i)) b.2.2.2.2; simp only [pk_us, u5_01, u5_02, u5_03, u5_04, u5_10, u5_12, u5_13, u5_14, u5_20, u5_21, u5_23, u5_24, u5_30, u5_31, u5_32, u5_34, u5_40, u5_41, u5_42, u5_43]; unfold sWt; rw [← a9, if_neg c188, g3]) ?_
                  rw [show (sbL x ch_ rv_ an (j + 1) i b) = (sbL x ch_ rv_ an j (i + 1) (b.1 + 1, sAl (a_ct (an i)) (a_rt (an i)) b.2.1, sWi (a_tr (an i)) (a_ct (an i)) (a_rt (an i)) b.2.2.1, sLo (a_tr (an i)) (a_ct (an i)) (a_rt (an i)) b.2.2.2.1, sWt (a_tr (an i)) b.2.2.2.2)) by rw [sbL, sb1, ← a0, if_pos c100, ← a4, if_pos c119, ← a5, if_pos c138]] at hQ
                  exact hQ
            · refine r_goto (tgt := 292) (by decide) dX11_side_191 ?_
              refine r_iinc (i := 4) (v := nI (i + 1)) (L' := [(4, .int (nI (i + 1))), (3, .int (b.1 + 1)), (2, .ref q), (0, .ref 50), (1, .int x)]) 1 rfl (nI_inc1 i) dX11_side_292 (by decide) rfl ?_
              refine r_goto (tgt := 80) (by decide) dX11_side_295 ?_
              refine bV_loc [0, 1, 2, 3, 4] rfl ?_
              refine ih (i + 1) (b.1 + 1, sAl (a_ct (an i)) (a_rt (an i)) b.2.1, sWi (a_tr (an i)) (a_ct (an i)) (a_rt (an i)) b.2.2.1, sLo (a_tr (an i)) (a_ct (an i)) (a_rt (an i)) b.2.2.2.1, sWt (a_tr (an i)) b.2.2.2.2) _ (by omega) (by show (upd g 0 ((g 0) + 1)) 0 = sAl (a_ct (an i)) (a_rt (an i)) b.2.1; simp only [pk_us, u5_01, u5_02, u5_03, u5_04, u5_10, u5_12, u5_13, u5_14, u5_20, u5_21, u5_23, u5_24, u5_30, u5_31, u5_32, u5_34, u5_40, u5_41, u5_42, u5_43]; unfold sAl; rw [← a7, ← a8, g0]; first | rw [if_pos c168] | rw [if_neg c168, Int32.add_zero]) (by show (upd g 0 ((g 0) + 1)) 1 = sWi (a_tr (an i)) (a_ct (an i)) (a_rt (an i)) b.2.2.1; simp only [pk_us, u5_01, u5_02, u5_03, u5_04, u5_10, u5_12, u5_13, u5_14, u5_20, u5_21, u5_23, u5_24, u5_30, u5_31, u5_32, u5_34, u5_40, u5_41, u5_42, u5_43]; unfold sWi; rw [← a9, if_pos c188, g1]) (by show (upd g 0 ((g 0) + 1)) 2 = sLo (a_tr (an i)) (a_ct (an i)) (a_rt (an i)) b.2.2.2.1; simp only [pk_us, u5_01, u5_02, u5_03, u5_04, u5_10, u5_12, u5_13, u5_14, u5_20, u5_21, u5_23, u5_24, u5_30, u5_31, u5_32, u5_34, u5_40, u5_41, u5_42, u5_43]; unfold sLo; rw [← a9, if_pos c188, g2]) (by show (upd g 0 ((g 0) + 1)) 3 = sWt (a_tr (an i)) b.2.2.2.2; simp only [pk_us, u5_01, u5_02, u5_03, u5_04, u5_10, u5_12, u5_13, u5_14, u5_20, u5_21, u5_23, u5_24, u5_30, u5_31, u5_32, u5_34, u5_40, u5_41, u5_42, u5_43]; unfold sWt; rw [← a9, if_pos c188, g3]) ?_
              rw [show (sbL x ch_ rv_ an (j + 1) i b) = (sbL x ch_ rv_ an j (i + 1) (b.1 + 1, sAl (a_ct (an i)) (a_rt (an i)) b.2.1, sWi (a_tr (an i)) (a_ct (an i)) (a_rt (an i)) b.2.2.1, sLo (a_tr (an i)) (a_ct (an i)) (a_rt (an i)) b.2.2.2.1, sWt (a_tr (an i)) b.2.2.2.2)) by rw [sbL, sb1, ← a0, if_pos c100, ← a4, if_pos c119, ← a5, if_pos c138]] at hQ
              exact hQ
        · refine r_goto (tgt := 292) (by decide) dX11_side_141 ?_
          refine r_iinc (i := 4) (v := nI (i + 1)) (L' := [(4, .int (nI (i + 1))), (3, .int b.1), (2, .ref q), (0, .ref 50), (1, .int x)]) 0 rfl (nI_inc1 i) dX11_side_292 (by decide) rfl ?_
          refine r_goto (tgt := 80) (by decide) dX11_side_295 ?_
          refine bV_loc [0, 1, 2, 3, 4] rfl ?_; refine ih (i + 1) b g (by omega) g0 g1 g2 g3 ?_; rw [show (sbL x ch_ rv_ an (j + 1) i b) = (sbL x ch_ rv_ an j (i + 1) b) by rw [sbL, sb1, ← a0, if_pos c100, ← a4, if_pos c119, ← a5, if_neg c138]] at hQ; exact hQ
theorem lp_sideZ {O : bO} {d : Nat} {f : bF} {n s : Nat} {Q : bR → bG → Prop} {th_ : Int32} {tr_ : Int32} {wh_ : Int32} {fl_ : Int32} {nm_ : Int32} {q_ : Nat} {tp_ : Int32} {sz_ : Int32} {at_ : Int32} {so_ : Int32} {pl_ : Int32} {mk_ : Int32} {nu_ : Int32} {di_ : Int32} {br_ : Int32} {iff_ : Int32} {wo_ : Int64} {nd_ : Int32} {td_ : Int32} {na_ : Int32} {hs_ : Int32} {nf_ : Int32} {q : Nat} {x : Int32} {g : Nat → Int32} (h0 : f 50 = some (.inr (11, [.int th_, .int tr_, .int wh_, .int fl_, .int nm_, .ref 51, .ref q_, .ref 53, .ref 54, .int tp_, .int sz_, .int at_, .int so_, .int pl_, .int mk_, .int nu_, .int di_, .int br_, .int iff_, .long wo_, .ref 55, .ref 56, .int nd_, .int td_, .ref 57, .int na_, .ref 58, .ref 59, .ref 60, .ref 61, .ref 62, .ref 63, .int hs_, .ref 64, .int nf_]))) (hd : 0 ≤ d) (hQ : bV O mX11_side d 75 [(3, .int (nI 5)), (2, .ref q), (0, .ref 50), (1, .int x)] [] (bU f 63 (.inl (0, 5, .inl (fil g 0 5))), n, s) Q) : ∀ (j k : Nat), k + j = 5 → bV O mX11_side d 57 [(3, .int (nI k)), (2, .ref q), (0, .ref 50), (1, .int x)] [] (bU f 63 (.inl (0, 5, .inl (fil g 0 k))), n, s) Q := by
  intro j
  induction j with
  | zero =>
    intro k h1
    have h1 : k = 5 := by omega
    subst h1
    show bV O _ d 57 [(3, .int (nI 5)), (2, .ref q), (0, .ref 50), (1, .int x)] [] (bU f 63 (.inl (0, 5, .inl (fil g 0 5))), n, s) _
    refine r_iload_n (n := 3) (i := 3) 0 rfl rfl dX11_side_57 ?_
    refine r_iconst (v := 5) (by decide) dX11_side_58 ?_
    refine r_icmp_ge (tgt := 75) (by decide) dX11_side_59 (fun _ => ?_) (fun h9 => absurd (show (5 : Int32) ≤ (nI 5) by decide) h9)
    exact hQ
  | succ j ih =>
    intro k h1
    show bV O _ d 57 [(3, .int (nI k)), (2, .ref q), (0, .ref 50), (1, .int x)] [] (bU f 63 (.inl (0, 5, .inl (fil g 0 k))), n, s) _
    refine r_iload_n (n := 3) (i := 3) 0 rfl rfl dX11_side_57 ?_
    refine r_iconst (v := 5) (by decide) dX11_side_58 ?_
    refine r_icmp_ge (tgt := 75) (by decide) dX11_side_59 (fun h9 => absurd h9 (fun h7 => absurd ((nI_leI (a := 5) (b := k) (by omega) (by omega)).mp h7) (by omega))) (fun _ => ?_)
    refine r_aload_n (n := 0) (i := 0) 2 rfl rfl dX11_side_62 ?_
    refine p_get (fs := [.int th_, .int tr_, .int wh_, .int fl_, .int nm_, .ref 51, .ref q_, .ref 53, .ref 54, .int tp_, .int sz_, .int at_, .int so_, .int pl_, .int mk_, .int nu_, .int di_, .int br_, .int iff_, .long wo_, .ref 55, .ref 56, .int nd_, .int td_, .ref 57, .int na_, .ref 58, .ref 59, .ref 60, .ref 61, .ref 62, .ref 63, .int hs_, .ref 64, .int nf_]) flX11_65 (by exact ((bU_n (by decide)).trans (h0))) rfl dX11_side_63 ?_
    refine r_iload_n (n := 3) (i := 3) 0 rfl rfl dX11_side_66 ?_
    refine r_iconst (v := 0) (by decide) dX11_side_67 ?_
    refine p_iastN (t := k) (by exact bU_s _ _ _) (by omega) (by omega) dX11_side_68 ?_
    refine bV_h (f2 := bU f 63 (.inl (0, 5, .inl (upd (fil g 0 k) k 0)))) (bU_u _ _ _ _) ?_
    refine r_iinc (i := 3) (v := nI (k + 1)) (L' := [(3, .int (nI (k + 1))), (2, .ref q), (0, .ref 50), (1, .int x)]) 0 rfl (nI_inc1 k) dX11_side_69 (by decide) rfl ?_
    refine r_goto (tgt := 57) (by decide) dX11_side_72 ?_
    rw [fil_s]; exact ih (k + 1) (by omega)
set_option maxRecDepth 4000 in
theorem m_side {O : bO} {d : Nat} {f : bF} {n s : Nat} {bs : Nat → Int32} {tl : Nat} {mc : Nat} {md : Nat → MR} {ip : Nat → Int32} {dc : Nat} {dr : Nat → DR} {ac : Nat} {an : Nat → AR} {hs : Bool} {sd : Nat → Int32} {df : Nat → Int32} {dfn : Nat} {td : Nat} {tr : Int32} {ft : Int32} {pl : Int32} {x : Int32} (hX : MP f (bs, tl, mc, md, ip, dc, dr, ac, an, hs, sd, df, dfn, td, tr, ft, pl)) (jX : JJ (bs, tl, mc, md, ip, dc, dr, ac, an, hs, sd, df, dfn, td, tr, ft, pl))  (hd : 2 ≤ d) : bCall O mX11_side d [.ref 50, .int x] (f, n, s) (pM f n s 0 0 (s_side (bs, tl, mc, md, ip, dc, dr, ac, an, hs, sd, df, dfn, td, tr, ft, pl) x)) := by
  refine bCall_of (by decide) rfl (Nat.le_of_ble_eq_true rfl) ?_
  obtain ⟨hNS, hT, hM, hI, hP, hD, hA, hC, hF⟩ := id hX
  simp only [] at hNS hT hM hI hP hD hA hC hF
  obtain ⟨j1, j2, j3, j4, j5, j6, j7, j8, j9, j10⟩ := id jX
  simp only [] at j1 j2 j3 j4 j5 j6 j7 j8 j9 j10
  obtain ⟨th_, sz_, at_, so_, pl_, mk_, nu_, di_, br_, iff_, wo_, hO⟩ := id hNS
  obtain ⟨tg9, kd9, sp9, h53, h54, hTb⟩ := id hT
  obtain ⟨ig9, h55, hIp⟩ := id hI
  obtain ⟨pg9, h56⟩ := id hP
  obtain ⟨kp9, aq9, bc9, br9, tu9, h58, h59, h60, h61, h62, hAp⟩ := id hA
  obtain ⟨sg9, h63, hC0, hC1, hC2, hC3, hC4⟩ := id hC
  obtain ⟨dg9, h64, hFp⟩ := id hF
  have bN := nA_b (i := mc) j1
  show bV O _ d 0 [(0, .ref 50), (1, .int x)] [] (f, n, s) _
  refine r_aload_n (n := 0) (i := 0) 0 rfl rfl dX11_side_0 ?_
  refine r_iconst (v := 0) (by decide) dX11_side_1 ?_
  refine p_put (fs := [.int th_, .int tr, .int (if tr = 4 then pl else -1), .int ft, .int (nI mc), .ref 51, .ref (nA mc), .ref 53, .ref 54, .int (nI tl), .int sz_, .int at_, .int so_, .int pl_, .int mk_, .int nu_, .int di_, .int br_, .int iff_, .long wo_, .ref 55, .ref 56, .int (nI dc), .int (nI td), .ref 57, .int (nI ac), .ref 58, .ref 59, .ref 60, .ref 61, .ref 62, .ref 63, .int (bI hs), .ref 64, .int (nI dfn)]) (fs' := [.int 0, .int tr, .int (if tr = 4 then pl else -1), .int ft, .int (nI mc), .ref 51, .ref (nA mc), .ref 53, .ref 54, .int (nI tl), .int sz_, .int at_, .int so_, .int pl_, .int mk_, .int nu_, .int di_, .int br_, .int iff_, .long wo_, .ref 55, .ref 56, .int (nI dc), .int (nI td), .ref 57, .int (nI ac), .ref 58, .ref 59, .ref 60, .ref 61, .ref 62, .ref 63, .int (bI hs), .ref 64, .int (nI dfn)]) flX11_71 hO (Nat.le_of_ble_eq_true rfl) (bNf_i _) rfl dX11_side_2 ?_
  refine r_aload_n (n := 0) (i := 0) 0 rfl rfl dX11_side_5 ?_
  refine r_iload_n (n := 1) (i := 1) 1 rfl rfl dX11_side_6 ?_
  refine p_callV (As := [.int x]) (rest := []) (kX11_isDoor (O := O) (d := 0) (f := bU f 50 (.inr (11, [.int 0, .int tr, .int (if tr = 4 then pl else -1), .int ft, .int (nI mc), .ref 51, .ref (nA mc), .ref 53, .ref 54, .int (nI tl), .int sz_, .int at_, .int so_, .int pl_, .int mk_, .int nu_, .int di_, .int br_, .int iff_, .long wo_, .ref 55, .ref 56, .int (nI dc), .int (nI td), .ref 57, .int (nI ac), .ref 58, .ref 59, .ref 60, .ref 61, .ref 62, .ref 63, .int (bI hs), .ref 64, .int (nI dfn)]))) (n := n) (s := s) (th_ := 0) (tr_ := tr) (wh_ := (if tr = 4 then pl else -1)) (fl_ := ft) (nm_ := nI mc) (q_ := nA mc) (tp_ := nI tl) (sz_ := sz_) (at_ := at_) (so_ := so_) (pl_ := pl_) (mk_ := mk_) (nu_ := nu_) (di_ := di_) (br_ := br_) (iff_ := iff_) (wo_ := wo_) (td_ := nI td) (na_ := nI ac) (hs_ := bI hs) (nf_ := nI dfn) (m9 := dc) (x := x) (by exact bU_s _ _ _) (by omega) (Nat.le_refl _)).call rfl lkX11_271 imX11_isDoor seX11_isDoor rfl (by exact bU_s _ _ _) rfl rfl (by omega) (Nat.le_of_ble_eq_true rfl) dX11_side_7 (fun v9 G9 h9 => ?_) (fun q9 G9 h9 => (by cases h9.1))
  obtain ⟨h8, rfl⟩ := h9; cases h8
  show bV O _ d 10 [(0, .ref 50), (1, .int x)] [.int (bI (inB x dc))] (bU f 50 (.inr (11, [.int 0, .int tr, .int (if tr = 4 then pl else -1), .int ft, .int (nI mc), .ref 51, .ref (nA mc), .ref 53, .ref 54, .int (nI tl), .int sz_, .int at_, .int so_, .int pl_, .int mk_, .int nu_, .int di_, .int br_, .int iff_, .long wo_, .ref 55, .ref 56, .int (nI dc), .int (nI td), .ref 57, .int (nI ac), .ref 58, .ref 59, .ref 60, .ref 61, .ref 62, .ref 63, .int (bI hs), .ref 64, .int (nI dfn)])), n, s) _
  refine r_if_ne (tgt := 19) (by decide) dX11_side_10 (fun c10 => ?_) (fun c10 => ?_)
  · have c10 := bI_1.mp c10
    refine r_aload_n (n := 0) (i := 0) 0 rfl rfl dX11_side_19 ?_
    refine p_get (fs := [.int 0, .int tr, .int (if tr = 4 then pl else -1), .int ft, .int (nI mc), .ref 51, .ref (nA mc), .ref 53, .ref 54, .int (nI tl), .int sz_, .int at_, .int so_, .int pl_, .int mk_, .int nu_, .int di_, .int br_, .int iff_, .long wo_, .ref 55, .ref 56, .int (nI dc), .int (nI td), .ref 57, .int (nI ac), .ref 58, .ref 59, .ref 60, .ref 61, .ref 62, .ref 63, .int (bI hs), .ref 64, .int (nI dfn)]) flX11_46 (by exact bU_s _ _ _) rfl dX11_side_20 ?_
    refine r_iload_n (n := 1) (i := 1) 1 rfl rfl dX11_side_23 ?_
    refine p_aald (kd := 7) rfl (by exact ((bU_n (by decide)).trans (hD.1))) (vpx c10 j2 (by decide)) dX11_side_24 ?_
    rw [tab_in c10]
    obtain ⟨lo9, hi9, fm9, dy9, tl9, d0, d1, d2, d3, d4, d5, e1, e2, e3, e4, e5⟩ := hD.2.1 _ (inB_lt c10)
    have bE := eA_b (i := cl x) (by have := inB_lt c10; omega)
    have hfc : d_fc (dr (cl x)) ≤ 20 := (j9 _ (inB_lt c10)).2.1.1
    show bV O _ d 25 [(0, .ref 50), (1, .int x)] [.ref (eA (cl x))] (bU f 50 (.inr (11, [.int 0, .int tr, .int (if tr = 4 then pl else -1), .int ft, .int (nI mc), .ref 51, .ref (nA mc), .ref 53, .ref 54, .int (nI tl), .int sz_, .int at_, .int so_, .int pl_, .int mk_, .int nu_, .int di_, .int br_, .int iff_, .long wo_, .ref 55, .ref 56, .int (nI dc), .int (nI td), .ref 57, .int (nI ac), .ref 58, .ref 59, .ref 60, .ref 61, .ref 62, .ref 63, .int (bI hs), .ref 64, .int (nI dfn)])), n, s) _
    refine r_astore_n (n := 2) (i := 2) (L' := [(2, .ref (eA (cl x))), (0, .ref 50), (1, .int x)]) rfl dX11_side_25 (by decide) rfl ?_
    refine r_aload_n (n := 2) (i := 2) 0 rfl rfl dX11_side_26 ?_
    refine p_get (fs := [.int (d_ch (dr (cl x))), .int (d_rv (dr (cl x))), .int (d_sh (dr (cl x))), .int (d_rf (dr (cl x))), .int (nI (d_fc (dr (cl x)))), .int (d_kp (dr (cl x))), .ref ((eA (cl x)) + 1), .ref ((eA (cl x)) + 2), .ref ((eA (cl x)) + 3), .ref ((eA (cl x)) + 4), .ref ((eA (cl x)) + 5)]) flX11_286 (by exact ((bU_n (by omega)).trans (d0))) rfl dX11_side_27 ?_
    refine r_bipush (v := (-2)) (by decide) dX11_side_30 ?_
    refine r_icmp_eq (tgt := 44) (by decide) dX11_side_32 (fun c32 => ?_) (fun c32 => ?_)
    · refine r_aload_n (n := 0) (i := 0) 1 rfl rfl dX11_side_44 ?_
      refine r_iconst (v := 5) (by decide) dX11_side_45 ?_
      refine p_callV (As := [.int 5]) (rest := []) (kX11_refused (O := O) (d := 0) (f := bU f 50 (.inr (11, [.int 0, .int tr, .int (if tr = 4 then pl else -1), .int ft, .int (nI mc), .ref 51, .ref (nA mc), .ref 53, .ref 54, .int (nI tl), .int sz_, .int at_, .int so_, .int pl_, .int mk_, .int nu_, .int di_, .int br_, .int iff_, .long wo_, .ref 55, .ref 56, .int (nI dc), .int (nI td), .ref 57, .int (nI ac), .ref 58, .ref 59, .ref 60, .ref 61, .ref 62, .ref 63, .int (bI hs), .ref 64, .int (nI dfn)]))) (n := n) (s := s) (th_ := 0) (tr_ := tr) (wh_ := (if tr = 4 then pl else -1)) (fl_ := ft) (nm_ := nI mc) (q_ := nA mc) (tp_ := nI tl) (sz_ := sz_) (at_ := at_) (so_ := so_) (pl_ := pl_) (mk_ := mk_) (nu_ := nu_) (di_ := di_) (br_ := br_) (iff_ := iff_) (wo_ := wo_) (nd_ := nI dc) (td_ := nI td) (na_ := nI ac) (hs_ := bI hs) (nf_ := nI dfn) (y := 5) (by exact bU_s _ _ _)  (Nat.le_refl _)).call rfl lkX11_210 imX11_refused seX11_refused rfl (by exact bU_s _ _ _) rfl rfl (by omega) (Nat.le_of_ble_eq_true rfl) dX11_side_46 (fun v9 G9 h9 => ?_) (fun q9 G9 h9 => (by cases h9.1))
      obtain ⟨h8, rfl⟩ := h9; cases h8
      refine bV_h (f2 := bU f 50 (.inr (11, [.int 0, .int 5, .int (-1), .int ft, .int (nI mc), .ref 51, .ref (nA mc), .ref 53, .ref 54, .int (nI tl), .int sz_, .int at_, .int so_, .int pl_, .int mk_, .int nu_, .int di_, .int br_, .int iff_, .long wo_, .ref 55, .ref 56, .int (nI dc), .int (nI td), .ref 57, .int (nI ac), .ref 58, .ref 59, .ref 60, .ref 61, .ref 62, .ref 63, .int (bI hs), .ref 64, .int (nI dfn)]))) (bU_u _ _ _ _) ?_
      show bV O _ d 49 [(2, .ref (eA (cl x))), (0, .ref 50), (1, .int x)] [.int (-1)] (bU f 50 (.inr (11, [.int 0, .int 5, .int (-1), .int ft, .int (nI mc), .ref 51, .ref (nA mc), .ref 53, .ref 54, .int (nI tl), .int sz_, .int at_, .int so_, .int pl_, .int mk_, .int nu_, .int di_, .int br_, .int iff_, .long wo_, .ref 55, .ref 56, .int (nI dc), .int (nI td), .ref 57, .int (nI ac), .ref 58, .ref 59, .ref 60, .ref 61, .ref 62, .ref 63, .int (bI hs), .ref 64, .int (nI dfn)])), n, s) _
      refine r_ireturn rfl dX11_side_49 ?_
      all_goals try have z32 : d_rv (dr (cl x)) = -2 := (j9 _ (inB_lt c10)).2.1.2.2.2.elim id (fun h => absurd c32 h.2.2)
      all_goals (unfold s_side; try simp only [])
      all_goals try (first | simp only [if_pos c10] | simp only [if_neg c10] | simp only [if_neg (Bool.eq_false_iff.mp c10)])
      all_goals try (first | simp only [if_pos c32] | simp only [if_neg c32] | simp only [if_neg (Bool.eq_false_iff.mp c32)])
      all_goals try (first | simp only [if_pos z32] | simp only [if_neg z32] | simp only [if_neg (Bool.eq_false_iff.mp z32)])
      all_goals exact pM_mk (NS_mk (by exact bU_s _ _ _) (by first | rfl | exact (if_neg (by decide)).symm | exact (if_pos rfl).symm)) (hT.fr (fun q _ _ => (bU_n (by omega)).trans (rfl))) (hM.fr j1 (fun q _ => (bU_n (by omega)).trans (rfl))) (hI.fr ((bU_n (by decide)).trans (rfl))) (hP.fr ((bU_n (by decide)).trans (rfl))) (hD.fr j2 (fun q _ => (bU_n (by omega)).trans (rfl))) (hA.fr (fun q _ _ => (bU_n (by omega)).trans (rfl))) (hC.fr ((bU_n (by decide)).trans (rfl))) (hF.fr ((bU_n (by decide)).trans (rfl))) (fun q _ => (bU_n (by omega)).trans (rfl)) (by omega) (by omega)
    · refine r_aload_n (n := 2) (i := 2) 0 rfl rfl dX11_side_35 ?_
      refine p_get (fs := [.int (d_ch (dr (cl x))), .int (d_rv (dr (cl x))), .int (d_sh (dr (cl x))), .int (d_rf (dr (cl x))), .int (nI (d_fc (dr (cl x)))), .int (d_kp (dr (cl x))), .ref ((eA (cl x)) + 1), .ref ((eA (cl x)) + 2), .ref ((eA (cl x)) + 3), .ref ((eA (cl x)) + 4), .ref ((eA (cl x)) + 5)]) flX11_280 (by exact ((bU_n (by omega)).trans (d0))) rfl dX11_side_36 ?_
      refine r_bipush (v := (-2)) (by decide) dX11_side_39 ?_
      refine r_icmp_ne (tgt := 50) (by decide) dX11_side_41 (fun c41 => ?_) (fun c41 => ?_)
      · refine r_aload_n (n := 0) (i := 0) 1 rfl rfl dX11_side_50 ?_
        refine r_iconst (v := 1) (by decide) dX11_side_51 ?_
        refine p_put (fs := [.int 0, .int tr, .int (if tr = 4 then pl else -1), .int ft, .int (nI mc), .ref 51, .ref (nA mc), .ref 53, .ref 54, .int (nI tl), .int sz_, .int at_, .int so_, .int pl_, .int mk_, .int nu_, .int di_, .int br_, .int iff_, .long wo_, .ref 55, .ref 56, .int (nI dc), .int (nI td), .ref 57, .int (nI ac), .ref 58, .ref 59, .ref 60, .ref 61, .ref 62, .ref 63, .int (bI hs), .ref 64, .int (nI dfn)]) (fs' := [.int 0, .int tr, .int (if tr = 4 then pl else -1), .int ft, .int (nI mc), .ref 51, .ref (nA mc), .ref 53, .ref 54, .int (nI tl), .int sz_, .int at_, .int so_, .int pl_, .int mk_, .int nu_, .int di_, .int br_, .int iff_, .long wo_, .ref 55, .ref 56, .int (nI dc), .int (nI td), .ref 57, .int (nI ac), .ref 58, .ref 59, .ref 60, .ref 61, .ref 62, .ref 63, .int 1, .ref 64, .int (nI dfn)]) flX11_324 (by exact bU_s _ _ _) (Nat.le_of_ble_eq_true rfl) bNf_z1 rfl dX11_side_52 ?_
        refine bV_h (f2 := bU f 50 (.inr (11, [.int 0, .int tr, .int (if tr = 4 then pl else -1), .int ft, .int (nI mc), .ref 51, .ref (nA mc), .ref 53, .ref 54, .int (nI tl), .int sz_, .int at_, .int so_, .int pl_, .int mk_, .int nu_, .int di_, .int br_, .int iff_, .long wo_, .ref 55, .ref 56, .int (nI dc), .int (nI td), .ref 57, .int (nI ac), .ref 58, .ref 59, .ref 60, .ref 61, .ref 62, .ref 63, .int 1, .ref 64, .int (nI dfn)]))) (bU_u _ _ _ _) ?_
        refine r_iconst (v := 0) (by decide) dX11_side_55 ?_
        refine r_istore_n (n := 3) (i := 3) (L' := [(3, .int 0), (2, .ref (eA (cl x))), (0, .ref 50), (1, .int x)]) rfl dX11_side_56 (by decide) rfl ?_
        refine bV_h (f2 := bU (bU f 50 (.inr (11, [.int 0, .int tr, .int (if tr = 4 then pl else -1), .int ft, .int (nI mc), .ref 51, .ref (nA mc), .ref 53, .ref 54, .int (nI tl), .int sz_, .int at_, .int so_, .int pl_, .int mk_, .int nu_, .int di_, .int br_, .int iff_, .long wo_, .ref 55, .ref 56, .int (nI dc), .int (nI td), .ref 57, .int (nI ac), .ref 58, .ref 59, .ref 60, .ref 61, .ref 62, .ref 63, .int 1, .ref 64, .int (nI dfn)]))) 63 (.inl (0, 5, .inl (fil sg9 0 0)))) (by rw [fil_0]; exact (bU_i (by exact ((bU_n (by decide)).trans (h63)))).symm) ?_
        refine bV_loc [0, 1, 2, 3] rfl ?_
        refine lp_sideZ (by exact bU_s _ _ _) (by omega) ?_ 5 0 rfl
        show bV O _ d 75 [(3, .int (nI 5)), (2, .ref (eA (cl x))), (0, .ref 50), (1, .int x)] [] (bU (bU f 50 (.inr (11, [.int 0, .int tr, .int (if tr = 4 then pl else -1), .int ft, .int (nI mc), .ref 51, .ref (nA mc), .ref 53, .ref 54, .int (nI tl), .int sz_, .int at_, .int so_, .int pl_, .int mk_, .int nu_, .int di_, .int br_, .int iff_, .long wo_, .ref 55, .ref 56, .int (nI dc), .int (nI td), .ref 57, .int (nI ac), .ref 58, .ref 59, .ref 60, .ref 61, .ref 62, .ref 63, .int 1, .ref 64, .int (nI dfn)]))) 63 (.inl (0, 5, .inl (fil sg9 0 5))), n, s) _
        refine r_iconst (v := 0) (by decide) dX11_side_75 ?_
        refine r_istore_n (n := 3) (i := 3) (L' := [(3, .int 0), (2, .ref (eA (cl x))), (0, .ref 50), (1, .int x)]) rfl dX11_side_76 (by decide) rfl ?_
        refine r_iconst (v := 0) (by decide) dX11_side_77 ?_
        refine r_istore (i := 4) (L' := [(4, .int 0), (3, .int 0), (2, .ref (eA (cl x))), (0, .ref 50), (1, .int x)]) dX11_side_78 (by decide) rfl ?_
        refine bV_loc [0, 1, 2, 3, 4] rfl ?_
        refine lp_sideM (by exact bU_s _ _ _) (by exact ((bU_n (by omega)).trans (d0))) (by exact ((bU_n (by decide)).trans (h58))) (by exact ((bU_n (by decide)).trans (h60))) (by exact ((bU_n (by decide)).trans (h61))) (by exact ((bU_n (by decide)).trans (h62))) (by omega) hAp j3 (by omega) ac 0 (0, 0, 0, 0, 0) _ (by omega) rfl rfl rfl rfl (fun gZ k0 k1 k2 k3 => ?_)
        show bV O _ d 298 [(4, .int (nI ac)), (3, .int ((sbL x (d_ch (dr (cl x))) (d_rv (dr (cl x))) an ac 0 (0, 0, 0, 0, 0)).1)), (2, .ref (eA (cl x))), (0, .ref 50), (1, .int x)] [] (bU (bU f 50 (.inr (11, [.int 0, .int tr, .int (if tr = 4 then pl else -1), .int ft, .int (nI mc), .ref 51, .ref (nA mc), .ref 53, .ref 54, .int (nI tl), .int sz_, .int at_, .int so_, .int pl_, .int mk_, .int nu_, .int di_, .int br_, .int iff_, .long wo_, .ref 55, .ref 56, .int (nI dc), .int (nI td), .ref 57, .int (nI ac), .ref 58, .ref 59, .ref 60, .ref 61, .ref 62, .ref 63, .int 1, .ref 64, .int (nI dfn)]))) 63 (.inl (0, 5, .inl gZ)), n, s) _
        refine r_aload_n (n := 0) (i := 0) 3 rfl rfl dX11_side_298 ?_
        refine p_get (fs := [.int 0, .int tr, .int (if tr = 4 then pl else -1), .int ft, .int (nI mc), .ref 51, .ref (nA mc), .ref 53, .ref 54, .int (nI tl), .int sz_, .int at_, .int so_, .int pl_, .int mk_, .int nu_, .int di_, .int br_, .int iff_, .long wo_, .ref 55, .ref 56, .int (nI dc), .int (nI td), .ref 57, .int (nI ac), .ref 58, .ref 59, .ref 60, .ref 61, .ref 62, .ref 63, .int 1, .ref 64, .int (nI dfn)]) flX11_65 (by exact ((bU_n (by decide)).trans (bU_s _ _ _))) rfl dX11_side_299 ?_
        refine r_iconst (v := 1) (by decide) dX11_side_302 ?_
        refine p_ialdN (t := 1) (by exact bU_s _ _ _) (by omega) (by omega) dX11_side_303 ?_
        refine r_aload_n (n := 0) (i := 0) 3 rfl rfl dX11_side_304 ?_
        refine p_get (fs := [.int 0, .int tr, .int (if tr = 4 then pl else -1), .int ft, .int (nI mc), .ref 51, .ref (nA mc), .ref 53, .ref 54, .int (nI tl), .int sz_, .int at_, .int so_, .int pl_, .int mk_, .int nu_, .int di_, .int br_, .int iff_, .long wo_, .ref 55, .ref 56, .int (nI dc), .int (nI td), .ref 57, .int (nI ac), .ref 58, .ref 59, .ref 60, .ref 61, .ref 62, .ref 63, .int 1, .ref 64, .int (nI dfn)]) flX11_65 (by exact ((bU_n (by decide)).trans (bU_s _ _ _))) rfl dX11_side_305 ?_
        refine r_iconst (v := 2) (by decide) dX11_side_308 ?_
        refine p_ialdN (t := 2) (by exact bU_s _ _ _) (by omega) (by omega) dX11_side_309 ?_
        refine r_isub dX11_side_310 ?_
        refine r_istore (i := 4) (L' := [(4, .int ((gZ 1) - (gZ 2))), (3, .int ((sbL x (d_ch (dr (cl x))) (d_rv (dr (cl x))) an ac 0 (0, 0, 0, 0, 0)).1)), (2, .ref (eA (cl x))), (0, .ref 50), (1, .int x)]) dX11_side_311 (by decide) rfl ?_
        refine r_aload_n (n := 0) (i := 0) 3 rfl rfl dX11_side_313 ?_
        refine p_get (fs := [.int 0, .int tr, .int (if tr = 4 then pl else -1), .int ft, .int (nI mc), .ref 51, .ref (nA mc), .ref 53, .ref 54, .int (nI tl), .int sz_, .int at_, .int so_, .int pl_, .int mk_, .int nu_, .int di_, .int br_, .int iff_, .long wo_, .ref 55, .ref 56, .int (nI dc), .int (nI td), .ref 57, .int (nI ac), .ref 58, .ref 59, .ref 60, .ref 61, .ref 62, .ref 63, .int 1, .ref 64, .int (nI dfn)]) flX11_65 (by exact ((bU_n (by decide)).trans (bU_s _ _ _))) rfl dX11_side_314 ?_
        refine r_iconst (v := 4) (by decide) dX11_side_317 ?_
        refine r_iload (i := 4) 0 rfl dX11_side_318 ?_
        refine r_if_le (tgt := 350) (by decide) dX11_side_320 (fun c320 => ?_) (fun c320 => ?_)
        · refine r_iconst (v := 0) (by decide) dX11_side_350 ?_
          refine p_iastN (t := 4) (by exact bU_s _ _ _) (by omega) (by omega) dX11_side_351 ?_
          refine bV_h (f2 := bU (bU f 50 (.inr (11, [.int 0, .int tr, .int (if tr = 4 then pl else -1), .int ft, .int (nI mc), .ref 51, .ref (nA mc), .ref 53, .ref 54, .int (nI tl), .int sz_, .int at_, .int so_, .int pl_, .int mk_, .int nu_, .int di_, .int br_, .int iff_, .long wo_, .ref 55, .ref 56, .int (nI dc), .int (nI td), .ref 57, .int (nI ac), .ref 58, .ref 59, .ref 60, .ref 61, .ref 62, .ref 63, .int 1, .ref 64, .int (nI dfn)]))) 63 (.inl (0, 5, .inl (upd gZ 4 0)))) (bU_u _ _ _ _) ?_
          refine r_aload_n (n := 0) (i := 0) 3 rfl rfl dX11_side_352 ?_
          refine r_iload_n (n := 3) (i := 3) 1 rfl rfl dX11_side_353 ?_
          refine p_callV (As := [.int ((sbL x (d_ch (dr (cl x))) (d_rv (dr (cl x))) an ac 0 (0, 0, 0, 0, 0)).1)]) (rest := []) (kX11_done (O := O) (d := 0) (f := bU (bU f 50 (.inr (11, [.int 0, .int tr, .int (if tr = 4 then pl else -1), .int ft, .int (nI mc), .ref 51, .ref (nA mc), .ref 53, .ref 54, .int (nI tl), .int sz_, .int at_, .int so_, .int pl_, .int mk_, .int nu_, .int di_, .int br_, .int iff_, .long wo_, .ref 55, .ref 56, .int (nI dc), .int (nI td), .ref 57, .int (nI ac), .ref 58, .ref 59, .ref 60, .ref 61, .ref 62, .ref 63, .int 1, .ref 64, .int (nI dfn)]))) 63 (.inl (0, 5, .inl (upd gZ 4 0)))) (n := n) (s := s) (th_ := 0) (tr_ := tr) (wh_ := (if tr = 4 then pl else -1)) (fl_ := ft) (nm_ := nI mc) (q_ := nA mc) (tp_ := nI tl) (sz_ := sz_) (at_ := at_) (so_ := so_) (pl_ := pl_) (mk_ := mk_) (nu_ := nu_) (di_ := di_) (br_ := br_) (iff_ := iff_) (wo_ := wo_) (nd_ := nI dc) (td_ := nI td) (na_ := nI ac) (hs_ := 1) (nf_ := nI dfn) (y := (sbL x (d_ch (dr (cl x))) (d_rv (dr (cl x))) an ac 0 (0, 0, 0, 0, 0)).1) (by exact ((bU_n (by decide)).trans (bU_s _ _ _)))  (Nat.le_refl _)).call rfl lkX11_222 imX11_done seX11_done rfl (by exact ((bU_n (by decide)).trans (bU_s _ _ _))) rfl rfl (by omega) (Nat.le_of_ble_eq_true rfl) dX11_side_354 (fun v9 G9 h9 => ?_) (fun q9 G9 h9 => (by cases h9.1))
          obtain ⟨h8, rfl⟩ := h9; cases h8
          refine bV_h (f2 := bU (bU f 50 (.inr (11, [.int 0, .int 0, .int (-1), .int ft, .int (nI mc), .ref 51, .ref (nA mc), .ref 53, .ref 54, .int (nI tl), .int sz_, .int at_, .int so_, .int pl_, .int mk_, .int nu_, .int di_, .int br_, .int iff_, .long wo_, .ref 55, .ref 56, .int (nI dc), .int (nI td), .ref 57, .int (nI ac), .ref 58, .ref 59, .ref 60, .ref 61, .ref 62, .ref 63, .int 1, .ref 64, .int (nI dfn)]))) 63 (.inl (0, 5, .inl (upd gZ 4 0)))) (((bU_c (by decide)).trans (congrArg (fun z => bU z 63 (.inl (0, 5, .inl (upd gZ 4 0)))) (bU_u _ _ _ _)))) ?_
          show bV O _ d 357 [(4, .int ((gZ 1) - (gZ 2))), (3, .int ((sbL x (d_ch (dr (cl x))) (d_rv (dr (cl x))) an ac 0 (0, 0, 0, 0, 0)).1)), (2, .ref (eA (cl x))), (0, .ref 50), (1, .int x)] [.int ((sbL x (d_ch (dr (cl x))) (d_rv (dr (cl x))) an ac 0 (0, 0, 0, 0, 0)).1)] (bU (bU f 50 (.inr (11, [.int 0, .int 0, .int (-1), .int ft, .int (nI mc), .ref 51, .ref (nA mc), .ref 53, .ref 54, .int (nI tl), .int sz_, .int at_, .int so_, .int pl_, .int mk_, .int nu_, .int di_, .int br_, .int iff_, .long wo_, .ref 55, .ref 56, .int (nI dc), .int (nI td), .ref 57, .int (nI ac), .ref 58, .ref 59, .ref 60, .ref 61, .ref 62, .ref 63, .int 1, .ref 64, .int (nI dfn)]))) 63 (.inl (0, 5, .inl (upd gZ 4 0))), n, s) _
          refine r_ireturn rfl dX11_side_357 ?_
          all_goals try have z32 : d_rv (dr (cl x)) = -2 := (j9 _ (inB_lt c10)).2.1.2.2.2.elim id (fun h => absurd c32 h.2.2)
          all_goals (unfold s_side; try simp only [])
          all_goals try (first | simp only [if_pos c10] | simp only [if_neg c10] | simp only [if_neg (Bool.eq_false_iff.mp c10)])
          all_goals try (first | simp only [if_pos c32] | simp only [if_neg c32] | simp only [if_neg (Bool.eq_false_iff.mp c32)])
          all_goals try (first | simp only [if_pos c41] | simp only [if_neg c41] | simp only [if_neg (Bool.eq_false_iff.mp c41)])
          all_goals try (first | simp only [if_pos c320] | simp only [if_neg c320] | simp only [if_neg (Bool.eq_false_iff.mp c320)])
          all_goals try (first | simp only [if_pos z32] | simp only [if_neg z32] | simp only [if_neg (Bool.eq_false_iff.mp z32)])
          all_goals exact pM_mk (NS_mk (by exact ((bU_n (by decide)).trans (bU_s _ _ _))) (by first | rfl | exact (if_neg (by decide)).symm | exact (if_pos rfl).symm)) (hT.fr (fun q _ _ => (bU_n (by omega)).trans ((bU_n (by omega)).trans (rfl)))) (hM.fr j1 (fun q _ => (bU_n (by omega)).trans ((bU_n (by omega)).trans (rfl)))) (hI.fr ((bU_n (by decide)).trans ((bU_n (by decide)).trans (rfl)))) (hP.fr ((bU_n (by decide)).trans ((bU_n (by decide)).trans (rfl)))) (hD.fr j2 (fun q _ => (bU_n (by omega)).trans ((bU_n (by omega)).trans (rfl)))) (hA.fr (fun q _ _ => (bU_n (by omega)).trans ((bU_n (by omega)).trans (rfl)))) (⟨_, (by exact bU_s _ _ _), u5_04.trans k0, u5_14.trans k1, u5_24.trans k2, u5_34.trans k3, (pk_us.trans (by show _ = bI (sSure (sbL x (d_ch (dr (cl x))) (d_rv (dr (cl x))) an ac 0 (0, 0, 0, 0, 0)).2.2.1 (sbL x (d_ch (dr (cl x))) (d_rv (dr (cl x))) an ac 0 (0, 0, 0, 0, 0)).2.2.2.1); unfold sSure; rw [← k1, ← k2]; first | rw [if_pos c320]; rfl | rw [if_neg c320, if_pos c343]; rfl | rw [if_neg c320, if_neg c343]; rfl))⟩) (hF.fr ((bU_n (by decide)).trans ((bU_n (by decide)).trans (rfl)))) (fun q _ => (bU_n (by omega)).trans ((bU_n (by omega)).trans (rfl))) (by omega) (by omega)
        · refine r_iload (i := 4) 0 rfl dX11_side_323 ?_
          refine r_iload (i := 4) 0 rfl dX11_side_325 ?_
          refine r_imul dX11_side_327 ?_
          refine r_iconst (v := 4) (by decide) dX11_side_328 ?_
          refine r_aload_n (n := 0) (i := 0) 3 rfl rfl dX11_side_329 ?_
          refine p_get (fs := [.int 0, .int tr, .int (if tr = 4 then pl else -1), .int ft, .int (nI mc), .ref 51, .ref (nA mc), .ref 53, .ref 54, .int (nI tl), .int sz_, .int at_, .int so_, .int pl_, .int mk_, .int nu_, .int di_, .int br_, .int iff_, .long wo_, .ref 55, .ref 56, .int (nI dc), .int (nI td), .ref 57, .int (nI ac), .ref 58, .ref 59, .ref 60, .ref 61, .ref 62, .ref 63, .int 1, .ref 64, .int (nI dfn)]) flX11_65 (by exact ((bU_n (by decide)).trans (bU_s _ _ _))) rfl dX11_side_330 ?_
          refine r_iconst (v := 1) (by decide) dX11_side_333 ?_
          refine p_ialdN (t := 1) (by exact bU_s _ _ _) (by omega) (by omega) dX11_side_334 ?_
          refine r_aload_n (n := 0) (i := 0) 3 rfl rfl dX11_side_335 ?_
          refine p_get (fs := [.int 0, .int tr, .int (if tr = 4 then pl else -1), .int ft, .int (nI mc), .ref 51, .ref (nA mc), .ref 53, .ref 54, .int (nI tl), .int sz_, .int at_, .int so_, .int pl_, .int mk_, .int nu_, .int di_, .int br_, .int iff_, .long wo_, .ref 55, .ref 56, .int (nI dc), .int (nI td), .ref 57, .int (nI ac), .ref 58, .ref 59, .ref 60, .ref 61, .ref 62, .ref 63, .int 1, .ref 64, .int (nI dfn)]) flX11_65 (by exact ((bU_n (by decide)).trans (bU_s _ _ _))) rfl dX11_side_336 ?_
          refine r_iconst (v := 2) (by decide) dX11_side_339 ?_
          refine p_ialdN (t := 2) (by exact bU_s _ _ _) (by omega) (by omega) dX11_side_340 ?_
          refine r_iadd dX11_side_341 ?_
          refine r_imul dX11_side_342 ?_
          refine r_icmp_le (tgt := 350) (by decide) dX11_side_343 (fun c343 => ?_) (fun c343 => ?_)
          · refine r_iconst (v := 0) (by decide) dX11_side_350 ?_
            refine p_iastN (t := 4) (by exact bU_s _ _ _) (by omega) (by omega) dX11_side_351 ?_
            refine bV_h (f2 := bU (bU f 50 (.inr (11, [.int 0, .int tr, .int (if tr = 4 then pl else -1), .int ft, .int (nI mc), .ref 51, .ref (nA mc), .ref 53, .ref 54, .int (nI tl), .int sz_, .int at_, .int so_, .int pl_, .int mk_, .int nu_, .int di_, .int br_, .int iff_, .long wo_, .ref 55, .ref 56, .int (nI dc), .int (nI td), .ref 57, .int (nI ac), .ref 58, .ref 59, .ref 60, .ref 61, .ref 62, .ref 63, .int 1, .ref 64, .int (nI dfn)]))) 63 (.inl (0, 5, .inl (upd gZ 4 0)))) (bU_u _ _ _ _) ?_
            refine r_aload_n (n := 0) (i := 0) 3 rfl rfl dX11_side_352 ?_
            refine r_iload_n (n := 3) (i := 3) 1 rfl rfl dX11_side_353 ?_
            refine p_callV (As := [.int ((sbL x (d_ch (dr (cl x))) (d_rv (dr (cl x))) an ac 0 (0, 0, 0, 0, 0)).1)]) (rest := []) (kX11_done (O := O) (d := 0) (f := bU (bU f 50 (.inr (11, [.int 0, .int tr, .int (if tr = 4 then pl else -1), .int ft, .int (nI mc), .ref 51, .ref (nA mc), .ref 53, .ref 54, .int (nI tl), .int sz_, .int at_, .int so_, .int pl_, .int mk_, .int nu_, .int di_, .int br_, .int iff_, .long wo_, .ref 55, .ref 56, .int (nI dc), .int (nI td), .ref 57, .int (nI ac), .ref 58, .ref 59, .ref 60, .ref 61, .ref 62, .ref 63, .int 1, .ref 64, .int (nI dfn)]))) 63 (.inl (0, 5, .inl (upd gZ 4 0)))) (n := n) (s := s) (th_ := 0) (tr_ := tr) (wh_ := (if tr = 4 then pl else -1)) (fl_ := ft) (nm_ := nI mc) (q_ := nA mc) (tp_ := nI tl) (sz_ := sz_) (at_ := at_) (so_ := so_) (pl_ := pl_) (mk_ := mk_) (nu_ := nu_) (di_ := di_) (br_ := br_) (iff_ := iff_) (wo_ := wo_) (nd_ := nI dc) (td_ := nI td) (na_ := nI ac) (hs_ := 1) (nf_ := nI dfn) (y := (sbL x (d_ch (dr (cl x))) (d_rv (dr (cl x))) an ac 0 (0, 0, 0, 0, 0)).1) (by exact ((bU_n (by decide)).trans (bU_s _ _ _)))  (Nat.le_refl _)).call rfl lkX11_222 imX11_done seX11_done rfl (by exact ((bU_n (by decide)).trans (bU_s _ _ _))) rfl rfl (by omega) (Nat.le_of_ble_eq_true rfl) dX11_side_354 (fun v9 G9 h9 => ?_) (fun q9 G9 h9 => (by cases h9.1))
            obtain ⟨h8, rfl⟩ := h9; cases h8
            refine bV_h (f2 := bU (bU f 50 (.inr (11, [.int 0, .int 0, .int (-1), .int ft, .int (nI mc), .ref 51, .ref (nA mc), .ref 53, .ref 54, .int (nI tl), .int sz_, .int at_, .int so_, .int pl_, .int mk_, .int nu_, .int di_, .int br_, .int iff_, .long wo_, .ref 55, .ref 56, .int (nI dc), .int (nI td), .ref 57, .int (nI ac), .ref 58, .ref 59, .ref 60, .ref 61, .ref 62, .ref 63, .int 1, .ref 64, .int (nI dfn)]))) 63 (.inl (0, 5, .inl (upd gZ 4 0)))) (((bU_c (by decide)).trans (congrArg (fun z => bU z 63 (.inl (0, 5, .inl (upd gZ 4 0)))) (bU_u _ _ _ _)))) ?_
            show bV O _ d 357 [(4, .int ((gZ 1) - (gZ 2))), (3, .int ((sbL x (d_ch (dr (cl x))) (d_rv (dr (cl x))) an ac 0 (0, 0, 0, 0, 0)).1)), (2, .ref (eA (cl x))), (0, .ref 50), (1, .int x)] [.int ((sbL x (d_ch (dr (cl x))) (d_rv (dr (cl x))) an ac 0 (0, 0, 0, 0, 0)).1)] (bU (bU f 50 (.inr (11, [.int 0, .int 0, .int (-1), .int ft, .int (nI mc), .ref 51, .ref (nA mc), .ref 53, .ref 54, .int (nI tl), .int sz_, .int at_, .int so_, .int pl_, .int mk_, .int nu_, .int di_, .int br_, .int iff_, .long wo_, .ref 55, .ref 56, .int (nI dc), .int (nI td), .ref 57, .int (nI ac), .ref 58, .ref 59, .ref 60, .ref 61, .ref 62, .ref 63, .int 1, .ref 64, .int (nI dfn)]))) 63 (.inl (0, 5, .inl (upd gZ 4 0))), n, s) _
            refine r_ireturn rfl dX11_side_357 ?_
            all_goals try have z32 : d_rv (dr (cl x)) = -2 := (j9 _ (inB_lt c10)).2.1.2.2.2.elim id (fun h => absurd c32 h.2.2)
            all_goals (unfold s_side; try simp only [])
            all_goals try (first | simp only [if_pos c10] | simp only [if_neg c10] | simp only [if_neg (Bool.eq_false_iff.mp c10)])
            all_goals try (first | simp only [if_pos c32] | simp only [if_neg c32] | simp only [if_neg (Bool.eq_false_iff.mp c32)])
            all_goals try (first | simp only [if_pos c41] | simp only [if_neg c41] | simp only [if_neg (Bool.eq_false_iff.mp c41)])
            all_goals try (first | simp only [if_pos c320] | simp only [if_neg c320] | simp only [if_neg (Bool.eq_false_iff.mp c320)])
            all_goals try (first | simp only [if_pos c343] | simp only [if_neg c343] | simp only [if_neg (Bool.eq_false_iff.mp c343)])
            all_goals try (first | simp only [if_pos z32] | simp only [if_neg z32] | simp only [if_neg (Bool.eq_false_iff.mp z32)])
            all_goals exact pM_mk (NS_mk (by exact ((bU_n (by decide)).trans (bU_s _ _ _))) (by first | rfl | exact (if_neg (by decide)).symm | exact (if_pos rfl).symm)) (hT.fr (fun q _ _ => (bU_n (by omega)).trans ((bU_n (by omega)).trans (rfl)))) (hM.fr j1 (fun q _ => (bU_n (by omega)).trans ((bU_n (by omega)).trans (rfl)))) (hI.fr ((bU_n (by decide)).trans ((bU_n (by decide)).trans (rfl)))) (hP.fr ((bU_n (by decide)).trans ((bU_n (by decide)).trans (rfl)))) (hD.fr j2 (fun q _ => (bU_n (by omega)).trans ((bU_n (by omega)).trans (rfl)))) (hA.fr (fun q _ _ => (bU_n (by omega)).trans ((bU_n (by omega)).trans (rfl)))) (⟨_, (by exact bU_s _ _ _), u5_04.trans k0, u5_14.trans k1, u5_24.trans k2, u5_34.trans k3, (pk_us.trans (by show _ = bI (sSure (sbL x (d_ch (dr (cl x))) (d_rv (dr (cl x))) an ac 0 (0, 0, 0, 0, 0)).2.2.1 (sbL x (d_ch (dr (cl x))) (d_rv (dr (cl x))) an ac 0 (0, 0, 0, 0, 0)).2.2.2.1); unfold sSure; rw [← k1, ← k2]; first | rw [if_pos c320]; rfl | rw [if_neg c320, if_pos c343]; rfl | rw [if_neg c320, if_neg c343]; rfl))⟩) (hF.fr ((bU_n (by decide)).trans ((bU_n (by decide)).trans (rfl)))) (fun q _ => (bU_n (by omega)).trans ((bU_n (by omega)).trans (rfl))) (by omega) (by omega)
          · refine r_iconst (v := 1) (by decide) dX11_side_346 ?_
            refine r_goto (tgt := 351) (by decide) dX11_side_347 ?_
            refine p_iastN (t := 4) (by exact bU_s _ _ _) (by omega) (by omega) dX11_side_351 ?_
            refine bV_h (f2 := bU (bU f 50 (.inr (11, [.int 0, .int tr, .int (if tr = 4 then pl else -1), .int ft, .int (nI mc), .ref 51, .ref (nA mc), .ref 53, .ref 54, .int (nI tl), .int sz_, .int at_, .int so_, .int pl_, .int mk_, .int nu_, .int di_, .int br_, .int iff_, .long wo_, .ref 55, .ref 56, .int (nI dc), .int (nI td), .ref 57, .int (nI ac), .ref 58, .ref 59, .ref 60, .ref 61, .ref 62, .ref 63, .int 1, .ref 64, .int (nI dfn)]))) 63 (.inl (0, 5, .inl (upd gZ 4 1)))) (bU_u _ _ _ _) ?_
            refine r_aload_n (n := 0) (i := 0) 3 rfl rfl dX11_side_352 ?_
            refine r_iload_n (n := 3) (i := 3) 1 rfl rfl dX11_side_353 ?_
            refine p_callV (As := [.int ((sbL x (d_ch (dr (cl x))) (d_rv (dr (cl x))) an ac 0 (0, 0, 0, 0, 0)).1)]) (rest := []) (kX11_done (O := O) (d := 0) (f := bU (bU f 50 (.inr (11, [.int 0, .int tr, .int (if tr = 4 then pl else -1), .int ft, .int (nI mc), .ref 51, .ref (nA mc), .ref 53, .ref 54, .int (nI tl), .int sz_, .int at_, .int so_, .int pl_, .int mk_, .int nu_, .int di_, .int br_, .int iff_, .long wo_, .ref 55, .ref 56, .int (nI dc), .int (nI td), .ref 57, .int (nI ac), .ref 58, .ref 59, .ref 60, .ref 61, .ref 62, .ref 63, .int 1, .ref 64, .int (nI dfn)]))) 63 (.inl (0, 5, .inl (upd gZ 4 1)))) (n := n) (s := s) (th_ := 0) (tr_ := tr) (wh_ := (if tr = 4 then pl else -1)) (fl_ := ft) (nm_ := nI mc) (q_ := nA mc) (tp_ := nI tl) (sz_ := sz_) (at_ := at_) (so_ := so_) (pl_ := pl_) (mk_ := mk_) (nu_ := nu_) (di_ := di_) (br_ := br_) (iff_ := iff_) (wo_ := wo_) (nd_ := nI dc) (td_ := nI td) (na_ := nI ac) (hs_ := 1) (nf_ := nI dfn) (y := (sbL x (d_ch (dr (cl x))) (d_rv (dr (cl x))) an ac 0 (0, 0, 0, 0, 0)).1) (by exact ((bU_n (by decide)).trans (bU_s _ _ _)))  (Nat.le_refl _)).call rfl lkX11_222 imX11_done seX11_done rfl (by exact ((bU_n (by decide)).trans (bU_s _ _ _))) rfl rfl (by omega) (Nat.le_of_ble_eq_true rfl) dX11_side_354 (fun v9 G9 h9 => ?_) (fun q9 G9 h9 => (by cases h9.1))
            obtain ⟨h8, rfl⟩ := h9; cases h8
            refine bV_h (f2 := bU (bU f 50 (.inr (11, [.int 0, .int 0, .int (-1), .int ft, .int (nI mc), .ref 51, .ref (nA mc), .ref 53, .ref 54, .int (nI tl), .int sz_, .int at_, .int so_, .int pl_, .int mk_, .int nu_, .int di_, .int br_, .int iff_, .long wo_, .ref 55, .ref 56, .int (nI dc), .int (nI td), .ref 57, .int (nI ac), .ref 58, .ref 59, .ref 60, .ref 61, .ref 62, .ref 63, .int 1, .ref 64, .int (nI dfn)]))) 63 (.inl (0, 5, .inl (upd gZ 4 1)))) (((bU_c (by decide)).trans (congrArg (fun z => bU z 63 (.inl (0, 5, .inl (upd gZ 4 1)))) (bU_u _ _ _ _)))) ?_
            show bV O _ d 357 [(4, .int ((gZ 1) - (gZ 2))), (3, .int ((sbL x (d_ch (dr (cl x))) (d_rv (dr (cl x))) an ac 0 (0, 0, 0, 0, 0)).1)), (2, .ref (eA (cl x))), (0, .ref 50), (1, .int x)] [.int ((sbL x (d_ch (dr (cl x))) (d_rv (dr (cl x))) an ac 0 (0, 0, 0, 0, 0)).1)] (bU (bU f 50 (.inr (11, [.int 0, .int 0, .int (-1), .int ft, .int (nI mc), .ref 51, .ref (nA mc), .ref 53, .ref 54, .int (nI tl), .int sz_, .int at_, .int so_, .int pl_, .int mk_, .int nu_, .int di_, .int br_, .int iff_, .long wo_, .ref 55, .ref 56, .int (nI dc), .int (nI td), .ref 57, .int (nI ac), .ref 58, .ref 59, .ref 60, .ref 61, .ref 62, .ref 63, .int 1, .ref 64, .int (nI dfn)]))) 63 (.inl (0, 5, .inl (upd gZ 4 1))), n, s) _
            refine r_ireturn rfl dX11_side_357 ?_
            all_goals try have z32 : d_rv (dr (cl x)) = -2 := (j9 _ (inB_lt c10)).2.1.2.2.2.elim id (fun h => absurd c32 h.2.2)
            all_goals (unfold s_side; try simp only [])
            all_goals try (first | simp only [if_pos c10] | simp only [if_neg c10] | simp only [if_neg (Bool.eq_false_iff.mp c10)])
            all_goals try (first | simp only [if_pos c32] | simp only [if_neg c32] | simp only [if_neg (Bool.eq_false_iff.mp c32)])
            all_goals try (first | simp only [if_pos c41] | simp only [if_neg c41] | simp only [if_neg (Bool.eq_false_iff.mp c41)])
            all_goals try (first | simp only [if_pos c320] | simp only [if_neg c320] | simp only [if_neg (Bool.eq_false_iff.mp c320)])
            all_goals try (first | simp only [if_pos c343] | simp only [if_neg c343] | simp only [if_neg (Bool.eq_false_iff.mp c343)])
            all_goals try (first | simp only [if_pos z32] | simp only [if_neg z32] | simp only [if_neg (Bool.eq_false_iff.mp z32)])
            all_goals exact pM_mk (NS_mk (by exact ((bU_n (by decide)).trans (bU_s _ _ _))) (by first | rfl | exact (if_neg (by decide)).symm | exact (if_pos rfl).symm)) (hT.fr (fun q _ _ => (bU_n (by omega)).trans ((bU_n (by omega)).trans (rfl)))) (hM.fr j1 (fun q _ => (bU_n (by omega)).trans ((bU_n (by omega)).trans (rfl)))) (hI.fr ((bU_n (by decide)).trans ((bU_n (by decide)).trans (rfl)))) (hP.fr ((bU_n (by decide)).trans ((bU_n (by decide)).trans (rfl)))) (hD.fr j2 (fun q _ => (bU_n (by omega)).trans ((bU_n (by omega)).trans (rfl)))) (hA.fr (fun q _ _ => (bU_n (by omega)).trans ((bU_n (by omega)).trans (rfl)))) (⟨_, (by exact bU_s _ _ _), u5_04.trans k0, u5_14.trans k1, u5_24.trans k2, u5_34.trans k3, (pk_us.trans (by show _ = bI (sSure (sbL x (d_ch (dr (cl x))) (d_rv (dr (cl x))) an ac 0 (0, 0, 0, 0, 0)).2.2.1 (sbL x (d_ch (dr (cl x))) (d_rv (dr (cl x))) an ac 0 (0, 0, 0, 0, 0)).2.2.2.1); unfold sSure; rw [← k1, ← k2]; first | rw [if_pos c320]; rfl | rw [if_neg c320, if_pos c343]; rfl | rw [if_neg c320, if_neg c343]; rfl))⟩) (hF.fr ((bU_n (by decide)).trans ((bU_n (by decide)).trans (rfl)))) (fun q _ => (bU_n (by omega)).trans ((bU_n (by omega)).trans (rfl))) (by omega) (by omega)
        
        
      · refine r_aload_n (n := 0) (i := 0) 1 rfl rfl dX11_side_44 ?_
        refine r_iconst (v := 5) (by decide) dX11_side_45 ?_
        refine p_callV (As := [.int 5]) (rest := []) (kX11_refused (O := O) (d := 0) (f := bU f 50 (.inr (11, [.int 0, .int tr, .int (if tr = 4 then pl else -1), .int ft, .int (nI mc), .ref 51, .ref (nA mc), .ref 53, .ref 54, .int (nI tl), .int sz_, .int at_, .int so_, .int pl_, .int mk_, .int nu_, .int di_, .int br_, .int iff_, .long wo_, .ref 55, .ref 56, .int (nI dc), .int (nI td), .ref 57, .int (nI ac), .ref 58, .ref 59, .ref 60, .ref 61, .ref 62, .ref 63, .int (bI hs), .ref 64, .int (nI dfn)]))) (n := n) (s := s) (th_ := 0) (tr_ := tr) (wh_ := (if tr = 4 then pl else -1)) (fl_ := ft) (nm_ := nI mc) (q_ := nA mc) (tp_ := nI tl) (sz_ := sz_) (at_ := at_) (so_ := so_) (pl_ := pl_) (mk_ := mk_) (nu_ := nu_) (di_ := di_) (br_ := br_) (iff_ := iff_) (wo_ := wo_) (nd_ := nI dc) (td_ := nI td) (na_ := nI ac) (hs_ := bI hs) (nf_ := nI dfn) (y := 5) (by exact bU_s _ _ _)  (Nat.le_refl _)).call rfl lkX11_210 imX11_refused seX11_refused rfl (by exact bU_s _ _ _) rfl rfl (by omega) (Nat.le_of_ble_eq_true rfl) dX11_side_46 (fun v9 G9 h9 => ?_) (fun q9 G9 h9 => (by cases h9.1))
        obtain ⟨h8, rfl⟩ := h9; cases h8
        refine bV_h (f2 := bU f 50 (.inr (11, [.int 0, .int 5, .int (-1), .int ft, .int (nI mc), .ref 51, .ref (nA mc), .ref 53, .ref 54, .int (nI tl), .int sz_, .int at_, .int so_, .int pl_, .int mk_, .int nu_, .int di_, .int br_, .int iff_, .long wo_, .ref 55, .ref 56, .int (nI dc), .int (nI td), .ref 57, .int (nI ac), .ref 58, .ref 59, .ref 60, .ref 61, .ref 62, .ref 63, .int (bI hs), .ref 64, .int (nI dfn)]))) (bU_u _ _ _ _) ?_
        show bV O _ d 49 [(2, .ref (eA (cl x))), (0, .ref 50), (1, .int x)] [.int (-1)] (bU f 50 (.inr (11, [.int 0, .int 5, .int (-1), .int ft, .int (nI mc), .ref 51, .ref (nA mc), .ref 53, .ref 54, .int (nI tl), .int sz_, .int at_, .int so_, .int pl_, .int mk_, .int nu_, .int di_, .int br_, .int iff_, .long wo_, .ref 55, .ref 56, .int (nI dc), .int (nI td), .ref 57, .int (nI ac), .ref 58, .ref 59, .ref 60, .ref 61, .ref 62, .ref 63, .int (bI hs), .ref 64, .int (nI dfn)])), n, s) _
        refine r_ireturn rfl dX11_side_49 ?_
        all_goals try have z32 : d_rv (dr (cl x)) = -2 := (j9 _ (inB_lt c10)).2.1.2.2.2.elim id (fun h => absurd c32 h.2.2)
        all_goals (unfold s_side; try simp only [])
        all_goals try (first | simp only [if_pos c10] | simp only [if_neg c10] | simp only [if_neg (Bool.eq_false_iff.mp c10)])
        all_goals try (first | simp only [if_pos c32] | simp only [if_neg c32] | simp only [if_neg (Bool.eq_false_iff.mp c32)])
        all_goals try (first | simp only [if_pos c41] | simp only [if_neg c41] | simp only [if_neg (Bool.eq_false_iff.mp c41)])
        all_goals try (first | simp only [if_pos z32] | simp only [if_neg z32] | simp only [if_neg (Bool.eq_false_iff.mp z32)])
        all_goals exact pM_mk (NS_mk (by exact bU_s _ _ _) (by first | rfl | exact (if_neg (by decide)).symm | exact (if_pos rfl).symm)) (hT.fr (fun q _ _ => (bU_n (by omega)).trans (rfl))) (hM.fr j1 (fun q _ => (bU_n (by omega)).trans (rfl))) (hI.fr ((bU_n (by decide)).trans (rfl))) (hP.fr ((bU_n (by decide)).trans (rfl))) (hD.fr j2 (fun q _ => (bU_n (by omega)).trans (rfl))) (hA.fr (fun q _ _ => (bU_n (by omega)).trans (rfl))) (hC.fr ((bU_n (by decide)).trans (rfl))) (hF.fr ((bU_n (by decide)).trans (rfl))) (fun q _ => (bU_n (by omega)).trans (rfl)) (by omega) (by omega)
  · have c10 := bI_0.mp c10
    refine r_aload_n (n := 0) (i := 0) 0 rfl rfl dX11_side_13 ?_
    refine r_iconst (v := 1) (by decide) dX11_side_14 ?_
    refine p_callV (As := [.int 1]) (rest := []) (kX11_refused (O := O) (d := 0) (f := bU f 50 (.inr (11, [.int 0, .int tr, .int (if tr = 4 then pl else -1), .int ft, .int (nI mc), .ref 51, .ref (nA mc), .ref 53, .ref 54, .int (nI tl), .int sz_, .int at_, .int so_, .int pl_, .int mk_, .int nu_, .int di_, .int br_, .int iff_, .long wo_, .ref 55, .ref 56, .int (nI dc), .int (nI td), .ref 57, .int (nI ac), .ref 58, .ref 59, .ref 60, .ref 61, .ref 62, .ref 63, .int (bI hs), .ref 64, .int (nI dfn)]))) (n := n) (s := s) (th_ := 0) (tr_ := tr) (wh_ := (if tr = 4 then pl else -1)) (fl_ := ft) (nm_ := nI mc) (q_ := nA mc) (tp_ := nI tl) (sz_ := sz_) (at_ := at_) (so_ := so_) (pl_ := pl_) (mk_ := mk_) (nu_ := nu_) (di_ := di_) (br_ := br_) (iff_ := iff_) (wo_ := wo_) (nd_ := nI dc) (td_ := nI td) (na_ := nI ac) (hs_ := bI hs) (nf_ := nI dfn) (y := 1) (by exact bU_s _ _ _)  (Nat.le_refl _)).call rfl lkX11_210 imX11_refused seX11_refused rfl (by exact bU_s _ _ _) rfl rfl (by omega) (Nat.le_of_ble_eq_true rfl) dX11_side_15 (fun v9 G9 h9 => ?_) (fun q9 G9 h9 => (by cases h9.1))
    obtain ⟨h8, rfl⟩ := h9; cases h8
    refine bV_h (f2 := bU f 50 (.inr (11, [.int 0, .int 1, .int (-1), .int ft, .int (nI mc), .ref 51, .ref (nA mc), .ref 53, .ref 54, .int (nI tl), .int sz_, .int at_, .int so_, .int pl_, .int mk_, .int nu_, .int di_, .int br_, .int iff_, .long wo_, .ref 55, .ref 56, .int (nI dc), .int (nI td), .ref 57, .int (nI ac), .ref 58, .ref 59, .ref 60, .ref 61, .ref 62, .ref 63, .int (bI hs), .ref 64, .int (nI dfn)]))) (bU_u _ _ _ _) ?_
    show bV O _ d 18 [(0, .ref 50), (1, .int x)] [.int (-1)] (bU f 50 (.inr (11, [.int 0, .int 1, .int (-1), .int ft, .int (nI mc), .ref 51, .ref (nA mc), .ref 53, .ref 54, .int (nI tl), .int sz_, .int at_, .int so_, .int pl_, .int mk_, .int nu_, .int di_, .int br_, .int iff_, .long wo_, .ref 55, .ref 56, .int (nI dc), .int (nI td), .ref 57, .int (nI ac), .ref 58, .ref 59, .ref 60, .ref 61, .ref 62, .ref 63, .int (bI hs), .ref 64, .int (nI dfn)])), n, s) _
    refine r_ireturn rfl dX11_side_18 ?_
    all_goals (unfold s_side; try simp only [])
    all_goals try (first | simp only [if_pos c10] | simp only [if_neg c10] | simp only [if_neg (Bool.eq_false_iff.mp c10)])
    all_goals exact pM_mk (NS_mk (by exact bU_s _ _ _) (by first | rfl | exact (if_neg (by decide)).symm | exact (if_pos rfl).symm)) (hT.fr (fun q _ _ => (bU_n (by omega)).trans (rfl))) (hM.fr j1 (fun q _ => (bU_n (by omega)).trans (rfl))) (hI.fr ((bU_n (by decide)).trans (rfl))) (hP.fr ((bU_n (by decide)).trans (rfl))) (hD.fr j2 (fun q _ => (bU_n (by omega)).trans (rfl))) (hA.fr (fun q _ _ => (bU_n (by omega)).trans (rfl))) (hC.fr ((bU_n (by decide)).trans (rfl))) (hF.fr ((bU_n (by decide)).trans (rfl))) (fun q _ => (bU_n (by omega)).trans (rfl)) (by omega) (by omega)
