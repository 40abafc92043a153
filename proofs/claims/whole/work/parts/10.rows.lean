/-! ===== a step of a frame, and the rows that touch no heap ===== -/
theorem bV.of {O : bO} {y : bM} {d pc pc' : Nat} {L L' : List (Nat × Value)} {st st' : List Value} {G G1 : bG} {Q : bR → bG → Prop} (hn : G.2.1 ≤ G1.2.1) (hs : G.2.2 ≤ G1.2.2) (hdom : ∀ q, G.1 q ≠ none → G1.1 q ≠ none)
    (h : ∀ {p : Program} {e : Env} {R : Room} {s : State} {m : MethodId} {args : Array Value} {below : List Frame} {meth : Method} {c : Code} {H : Heap} {locs : List Loc} {cells slots : Nat} {ls : Array Slot} {ad : Nat → Nat} {Z : State → Prop},
      bCx O y p s m args meth c → d ≤ R.frames → 64 * d ≤ R.locals → cells + (G1.2.1 - G.2.1) ≤ R.cells → slots + (G1.2.2 - G.2.2) ≤ R.slots → bRep O ad G.1 H → va_S (oA O) s.heap H locs → lv_has ls (mL y) (L.map (fun q => (q.1, bvl ad q.2))) → (∀ q ∈ L, bok G.1 q.2) → (∀ v ∈ st, bok G.1 v) →
      (∀ (H1 : Heap) (locs1 : List Loc) (ls1 : Array Slot) (ad1 : Nat → Nat), bRep O ad1 G1.1 H1 → va_S (oA O) s.heap H1 locs1 → lv_has ls1 (mL y) (L'.map (fun q => (q.1, bvl ad1 q.2))) → (∀ q, G.1 q ≠ none → ad1 q = ad q) → (∀ q ∈ L', bok G1.1 q.2) → (∀ v ∈ st', bok G1.1 v) →
        W p (oL O) e R s m args below meth c H1 locs1 (cells + (G1.2.1 - G.2.1)) (slots + (G1.2.2 - G.2.2)) Z (F0 m pc' ls1 (st'.map (bvl ad1)))) →
      W p (oL O) e R s m args below meth c H locs cells slots Z (F0 m pc ls (st.map (bvl ad))))
    (k : bV O y d pc' L' st' G1 Q) : bV O y d pc L st G Q := by
  obtain ⟨r, G', hQ, k1, k2, k3, k4⟩ := k
  refine ⟨r, G', hQ, Nat.le_trans hn k1, Nat.le_trans hs k2, fun q hq => k3 q (hdom q hq), ?_⟩
  intro p e R s m args below meth c H locs cells slots ls ad Qc XC C hf hl hc hsl hR hS hls hL hst hE
  refine h C hf hl (by omega) (by omega) hR hS hls hL hst (fun H1 locs1 ls1 ad1 hR1 hS1 hls1 had hL1 hst1 => ?_)
  have k5 := k4 p e R s m args below meth c H1 locs1 (cells + (G1.2.1 - G.2.1)) (slots + (G1.2.2 - G.2.2)) ls1 ad1 Qc XC C hf hl (by omega) (by omega) hR1 hS1 hls1 hL1 hst1
    (fun t ad' h1 h2 h3 => hE t ad' (fun q hq => (h1 q (hdom q hq)).trans (had q hq)) h2 h3)
  rw [show cells + (G1.2.1 - G.2.1) + (G'.2.1 - G1.2.1) = cells + (G'.2.1 - G.2.1) by omega, show slots + (G1.2.2 - G.2.2) + (G'.2.2 - G1.2.2) = slots + (G'.2.2 - G.2.2) by omega] at k5
  exact k5
/-- no heap, no locals -/
theorem bV.pu {O : bO} {y : bM} {d pc pc' : Nat} {L : List (Nat × Value)} {st st' : List Value} {G : bG} {Q : bR → bG → Prop}
    (hok : (∀ q ∈ L, bok G.1 q.2) → (∀ v ∈ st, bok G.1 v) → ∀ v ∈ st', bok G.1 v)
    (h : ∀ {p : Program} {e : Env} {R : Room} {s : State} {m : MethodId} {args : Array Value} {below : List Frame} {meth : Method} {c : Code} {H : Heap} {locs : List Loc} {cells slots : Nat} {ls : Array Slot} {ad : Nat → Nat} {Z : State → Prop},
      bCx O y p s m args meth c → bRep O ad G.1 H → va_S (oA O) s.heap H locs → lv_has ls (mL y) (L.map (fun q => (q.1, bvl ad q.2))) →
      W p (oL O) e R s m args below meth c H locs cells slots Z (F0 m pc' ls (st'.map (bvl ad))) →
      W p (oL O) e R s m args below meth c H locs cells slots Z (F0 m pc ls (st.map (bvl ad))))
    (k : bV O y d pc' L st' G Q) : bV O y d pc L st G Q := by
  refine bV.of (Nat.le_refl _) (Nat.le_refl _) (fun _ h => h) ?_ k
  intro p e R s m args below meth c H locs cells slots ls ad Z C hf hl hc hsl hR hS hls hL hst kk
  rw [Nat.sub_self, Nat.sub_self] at kk
  exact h C hR hS hls (kk H locs ls ad hR hS hls (fun _ _ => rfl) hL (hok hL hst))
/-- no heap; the locals change -/
theorem bV.lo {O : bO} {y : bM} {d pc pc' : Nat} {L L' : List (Nat × Value)} {st st' : List Value} {G : bG} {Q : bR → bG → Prop}
    (hok : (∀ q ∈ L, bok G.1 q.2) → (∀ v ∈ st, bok G.1 v) → (∀ q ∈ L', bok G.1 q.2) ∧ ∀ v ∈ st', bok G.1 v)
    (h : ∀ {p : Program} {e : Env} {R : Room} {s : State} {m : MethodId} {args : Array Value} {below : List Frame} {meth : Method} {c : Code} {H : Heap} {locs : List Loc} {cells slots : Nat} {ls : Array Slot} {ad : Nat → Nat} {Z : State → Prop},
      bCx O y p s m args meth c → lv_has ls (mL y) (L.map (fun q => (q.1, bvl ad q.2))) →
      (∀ ls1 : Array Slot, lv_has ls1 (mL y) (L'.map (fun q => (q.1, bvl ad q.2))) → W p (oL O) e R s m args below meth c H locs cells slots Z (F0 m pc' ls1 (st'.map (bvl ad)))) →
      W p (oL O) e R s m args below meth c H locs cells slots Z (F0 m pc ls (st.map (bvl ad))))
    (k : bV O y d pc' L' st' G Q) : bV O y d pc L st G Q := by
  refine bV.of (Nat.le_refl _) (Nat.le_refl _) (fun _ h => h) ?_ k
  intro p e R s m args below meth c H locs cells slots ls ad Z C hf hl hc hsl hR hS hls hL hst kk
  rw [Nat.sub_self, Nat.sub_self] at kk
  exact h C hls (fun ls1 hls1 => kk H locs ls1 ad hR hS hls1 (fun _ _ => rfl) (hok hL hst).1 (hok hL hst).2)
theorem bls {ls : Array Slot} {n : Nat} {L : List (Nat × Value)} {ad : Nat → Nat} (h : lv_has ls n (L.map (fun q => (q.1, bvl ad q.2)))) (k : Nat) {i : Nat} {v : Value} (hk : L[k]? = some (i, v)) : ls[i]? = some (.val (bvl ad v)) :=
  lv_at h k (by rw [List.getElem?_map, hk]; rfl)
theorem bokL {f : bF} {L : List (Nat × Value)} (h : ∀ q ∈ L, bok f q.2) (k : Nat) {i : Nat} {v : Value} (hk : L[k]? = some (i, v)) : bok f v := h _ (List.mem_of_getElem? hk)
theorem bcat (ad : Nat → Nat) (L : List (Nat × Value)) (i : Nat) : (L.map (fun q => (q.1, bvl ad q.2))).filter (fun q => !(q.1 == i) && !(q.1 + 1 == i && q.2.category == 2)) = (L.filter (fun q => !(q.1 == i) && !(q.1 + 1 == i && q.2.category == 2))).map (fun q => (q.1, bvl ad q.2)) := by
  rw [List.filter_map]
  congr 1
  apply List.filter_congr
  intro q _
  simp [bvl_cat]
theorem bcat2 (ad : Nat → Nat) (L : List (Nat × Value)) (i : Nat) : (L.map (fun q => (q.1, bvl ad q.2))).filter (fun q => !(q.1 == i) && (!(q.1 == i + 1) && !(q.1 + 1 == i && q.2.category == 2))) = (L.filter (fun q => !(q.1 == i) && (!(q.1 == i + 1) && !(q.1 + 1 == i && q.2.category == 2)))).map (fun q => (q.1, bvl ad q.2)) := by
  rw [List.filter_map]
  congr 1
  apply List.filter_congr
  intro q _
  simp [bvl_cat]
section
variable {O : bO} {y : bM} {d pc tgt : Nat} {L : List (Nat × Value)} {st : List Value} {G : bG} {Q : bR → bG → Prop}
theorem r_iadd {a b : Int32} (hd : decode (mB y) pc = .ok (.iadd, 1)) (k : bV O y d (pc + 1) L (.int (a + b) :: st) G Q) : bV O y d pc L (.int b :: .int a :: st) G Q :=
  bV.pu (fun hL h => by simpa [bok] using h) (fun C hR hS hl w => lv_iadd C.hx C.hb hd w) k
theorem r_isub {a b : Int32} (hd : decode (mB y) pc = .ok (.isub, 1)) (k : bV O y d (pc + 1) L (.int (a - b) :: st) G Q) : bV O y d pc L (.int b :: .int a :: st) G Q :=
  bV.pu (fun hL h => by simpa [bok] using h) (fun C hR hS hl w => lv_isub C.hx C.hb hd w) k
theorem r_imul {a b : Int32} (hd : decode (mB y) pc = .ok (.imul, 1)) (k : bV O y d (pc + 1) L (.int (a * b) :: st) G Q) : bV O y d pc L (.int b :: .int a :: st) G Q :=
  bV.pu (fun hL h => by simpa [bok] using h) (fun C hR hS hl w => lv_imul C.hx C.hb hd w) k
theorem r_iand {a b : Int32} (hd : decode (mB y) pc = .ok (.iand, 1)) (k : bV O y d (pc + 1) L (.int (a &&& b) :: st) G Q) : bV O y d pc L (.int b :: .int a :: st) G Q :=
  bV.pu (fun hL h => by simpa [bok] using h) (fun C hR hS hl w => lv_iand C.hx C.hb hd w) k
theorem r_ior {a b : Int32} (hd : decode (mB y) pc = .ok (.ior, 1)) (k : bV O y d (pc + 1) L (.int (a ||| b) :: st) G Q) : bV O y d pc L (.int b :: .int a :: st) G Q :=
  bV.pu (fun hL h => by simpa [bok] using h) (fun C hR hS hl w => lv_ior C.hx C.hb hd w) k
theorem r_ishl {a b : Int32} (hd : decode (mB y) pc = .ok (.ishl, 1)) (k : bV O y d (pc + 1) L (.int (a <<< (b &&& 31)) :: st) G Q) : bV O y d pc L (.int b :: .int a :: st) G Q :=
  bV.pu (fun hL h => by simpa [bok] using h) (fun C hR hS hl w => lv_ishl C.hx C.hb hd w) k
theorem r_ishr {a b : Int32} (hd : decode (mB y) pc = .ok (.ishr, 1)) (k : bV O y d (pc + 1) L (.int (a >>> (b &&& 31)) :: st) G Q) : bV O y d pc L (.int b :: .int a :: st) G Q :=
  bV.pu (fun hL h => by simpa [bok] using h) (fun C hR hS hl w => lv_ishr C.hx C.hb hd w) k
theorem r_iushr {a b : Int32} (hd : decode (mB y) pc = .ok (.iushr, 1)) (k : bV O y d (pc + 1) L (.int (a.toUInt32 >>> (b.toUInt32 &&& Int32.toUInt32 31)).toInt32 :: st) G Q) : bV O y d pc L (.int b :: .int a :: st) G Q :=
  bV.pu (fun hL h => by simpa [bok] using h) (fun C hR hS hl w => lv_iushr C.hx C.hb hd rfl w) k
theorem r_irem {a b : Int32} (hne : ¬ b = 0) (hd : decode (mB y) pc = .ok (.irem, 1)) (k : bV O y d (pc + 1) L (.int (a - a / b * b) :: st) G Q) : bV O y d pc L (.int b :: .int a :: st) G Q :=
  bV.pu (fun hL h => by simpa [bok] using h) (fun C hR hS hl w => lv_irem C.hx C.hb hd hne w) k
theorem r_ineg {a : Int32} (hd : decode (mB y) pc = .ok (.ineg, 1)) (k : bV O y d (pc + 1) L (.int (-a) :: st) G Q) : bV O y d pc L (.int a :: st) G Q :=
  bV.pu (fun hL h => by simpa [bok] using h) (fun C hR hS hl w => lv_ineg C.hx C.hb hd w) k
theorem r_ladd {a b : Int64} (hd : decode (mB y) pc = .ok (.ladd, 1)) (k : bV O y d (pc + 1) L (.long (a + b) :: st) G Q) : bV O y d pc L (.long b :: .long a :: st) G Q :=
  bV.pu (fun hL h => by simpa [bok] using h) (fun C hR hS hl w => lv_ladd C.hx C.hb hd w) k
theorem r_lsub {a b : Int64} (hd : decode (mB y) pc = .ok (.lsub, 1)) (k : bV O y d (pc + 1) L (.long (a - b) :: st) G Q) : bV O y d pc L (.long b :: .long a :: st) G Q :=
  bV.pu (fun hL h => by simpa [bok] using h) (fun C hR hS hl w => lv_lsub C.hx C.hb hd w) k
theorem r_lmul {a b : Int64} (hd : decode (mB y) pc = .ok (.lmul, 1)) (k : bV O y d (pc + 1) L (.long (a * b) :: st) G Q) : bV O y d pc L (.long b :: .long a :: st) G Q :=
  bV.pu (fun hL h => by simpa [bok] using h) (fun C hR hS hl w => lv_lmul C.hx C.hb hd w) k
theorem r_ldiv {a b : Int64} (hne : ¬ b = 0) (hd : decode (mB y) pc = .ok (.ldiv, 1)) (k : bV O y d (pc + 1) L (.long (a / b) :: st) G Q) : bV O y d pc L (.long b :: .long a :: st) G Q :=
  bV.pu (fun hL h => by simpa [bok] using h) (fun C hR hS hl w => lv_ldiv C.hx C.hb hd hne w) k
theorem r_lneg {a : Int64} (hd : decode (mB y) pc = .ok (.lneg, 1)) (k : bV O y d (pc + 1) L (.long (-a) :: st) G Q) : bV O y d pc L (.long a :: st) G Q :=
  bV.pu (fun hL h => by simpa [bok] using h) (fun C hR hS hl w => lv_lneg C.hx C.hb hd w) k
theorem r_lcmp {a b : Int64} (hd : decode (mB y) pc = .ok (.lcmp, 1)) (k : bV O y d (pc + 1) L (.int (lg_cmp a b) :: st) G Q) : bV O y d pc L (.long b :: .long a :: st) G Q :=
  bV.pu (fun hL h => by simpa [bok] using h) (fun C hR hS hl w => W.lcmp C.hx C.hb hd w) k
theorem r_i2l {a : Int32} (hd : decode (mB y) pc = .ok (.i2l, 1)) (k : bV O y d (pc + 1) L (.long a.toInt64 :: st) G Q) : bV O y d pc L (.int a :: st) G Q :=
  bV.pu (fun hL h => by simpa [bok] using h) (fun C hR hS hl w => lv_i2l C.hx C.hb hd rfl w) k
theorem r_l2i {a : Int64} (hd : decode (mB y) pc = .ok (.l2i, 1)) (k : bV O y d (pc + 1) L (.int a.toInt32 :: st) G Q) : bV O y d pc L (.long a :: st) G Q :=
  bV.pu (fun hL h => by simpa [bok] using h) (fun C hR hS hl w => lv_l2i C.hx C.hb hd rfl w) k
theorem r_i2b {a : Int32} (hd : decode (mB y) pc = .ok (.i2b, 1)) (k : bV O y d (pc + 1) L (.int a.toInt8.toInt32 :: st) G Q) : bV O y d pc L (.int a :: st) G Q :=
  bV.pu (fun hL h => by simpa [bok] using h) (fun C hR hS hl w => lv_i2b C.hx C.hb hd rfl w) k
theorem r_i2c {a : Int32} (hd : decode (mB y) pc = .ok (.i2c, 1)) (k : bV O y d (pc + 1) L (.int (a.toUInt32 % 65536).toInt32 :: st) G Q) : bV O y d pc L (.int a :: st) G Q :=
  bV.pu (fun hL h => by simpa [bok] using h) (fun C hR hS hl w => lv_i2c C.hx C.hb hd rfl w) k
theorem r_iconst {n : Int} {v : Int32} (hv : Int32.ofInt n = v) (hd : decode (mB y) pc = .ok (.iconst n, 1)) (k : bV O y d (pc + 1) L (.int v :: st) G Q) : bV O y d pc L st G Q :=
  bV.pu (fun hL h => by simpa [bok] using h) (fun C hR hS hl w => lv_iconst C.hx C.hb hd hv w) k
theorem r_bipush {n : Int} {v : Int32} (hv : (Int8.ofInt n).toInt32 = v) (hd : decode (mB y) pc = .ok (.bipush n, 2)) (k : bV O y d (pc + 2) L (.int v :: st) G Q) : bV O y d pc L st G Q :=
  bV.pu (fun hL h => by simpa [bok] using h) (fun C hR hS hl w => lv_bipush C.hx C.hb hd hv w) k
theorem r_sipush {n : Int} {v : Int32} (hv : (Int16.ofInt n).toInt32 = v) (hd : decode (mB y) pc = .ok (.sipush n, 3)) (k : bV O y d (pc + 3) L (.int v :: st) G Q) : bV O y d pc L st G Q :=
  bV.pu (fun hL h => by simpa [bok] using h) (fun C hR hS hl w => lv_sipush C.hx C.hb hd hv w) k
theorem r_lconst {n : Fin 2} {v : Int64} (hv : Int64.ofNat (n : Nat) = v) (hd : decode (mB y) pc = .ok (.lconst n, 1)) (k : bV O y d (pc + 1) L (.long v :: st) G Q) : bV O y d pc L st G Q :=
  bV.pu (fun hL h => by simpa [bok] using h) (fun C hR hS hl w => lv_lconst C.hx C.hb hd hv w) k
theorem r_null  (hd : decode (mB y) pc = .ok (.aconst_null, 1)) (k : bV O y d (pc + 1) L (.null :: st) G Q) : bV O y d pc L st G Q :=
  bV.pu (fun hL h => by simpa [bok] using h) (fun C hR hS hl w => lv_null C.hx C.hb hd w) k
theorem r_ldc {i : Nat} {v : Int32} (hw : Cond.constant (mN y).cls i v ∈ bW) (hd : decode (mB y) pc = .ok (.ldc i, 2)) (k : bV O y d (pc + 2) L (.int v :: st) G Q) : bV O y d pc L st G Q :=
  bV.pu (fun hL h => by simpa [bok] using h) (fun C hR hS hl w => lv_ldc C.hx C.hb C.hown (C.hts _ hw) hd w) k
theorem r_ldcw {i : Nat} {v : Int32} (hw : Cond.constant (mN y).cls i v ∈ bW) (hd : decode (mB y) pc = .ok (.ldc_w i, 3)) (k : bV O y d (pc + 3) L (.int v :: st) G Q) : bV O y d pc L st G Q :=
  bV.pu (fun hL h => by simpa [bok] using h) (fun C hR hS hl w => lv_ldcw C.hx C.hb C.hown (C.hts _ hw) hd w) k
theorem r_ldc2 {i : Nat} {v : Int64} (hw : Cond.constantLong (mN y).cls i v ∈ bW) (hd : decode (mB y) pc = .ok (.ldc2_w i, 3)) (k : bV O y d (pc + 3) L (.long v :: st) G Q) : bV O y d pc L st G Q :=
  bV.pu (fun hL h => by simpa [bok] using h) (fun C hR hS hl w => lv_ldc2 C.hx C.hb C.hown (C.hts _ hw) hd w) k
theorem r_dup {v : Value} (hc : v.category = 1) (hd : decode (mB y) pc = .ok (.dup, 1)) (k : bV O y d (pc + 1) L (v :: v :: st) G Q) : bV O y d pc L (v :: st) G Q :=
  bV.pu (fun hL h => fun z hz => h z ((List.mem_cons.mp hz).elim (fun e => by rw [e]; exact List.mem_cons_self) id)) (fun C hR hS hl w => lv_dup C.hx C.hb hd (by rw [bvl_cat]; exact hc) w) k
theorem r_dup2 {v u : Value} (hc : v.category = 1) (hc2 : u.category = 1) (hd : decode (mB y) pc = .ok (.dup2, 1)) (k : bV O y d (pc + 1) L (v :: u :: v :: u :: st) G Q) : bV O y d pc L (v :: u :: st) G Q :=
  bV.pu (fun hL h => fun z hz => h z (by simp at hz ⊢; rcases hz with a | a | a | a | a <;> simp [a])) (fun C hR hS hl w => lv_dup2_11 C.hx C.hb hd (by rw [bvl_cat]; exact hc) (by rw [bvl_cat]; exact hc2) w) k
theorem r_pop {v : Value} (hc : v.category = 1) (hd : decode (mB y) pc = .ok (.pop, 1)) (k : bV O y d (pc + 1) L st G Q) : bV O y d pc L (v :: st) G Q :=
  bV.pu (fun hL h => fun z hz => h z (List.mem_cons_of_mem _ hz)) (fun C hR hS hl w => lv_pop C.hx C.hb hd (by rw [bvl_cat]; exact hc) w) k
theorem r_iload {i : Nat} {x : Int32} (j : Nat) (hj : L[j]? = some (i, .int x)) (hd : decode (mB y) pc = .ok (.iload i, 2)) (k : bV O y d (pc + 2) L (.int x :: st) G Q) : bV O y d pc L st G Q :=
  bV.pu (fun hL h => fun z hz => (List.mem_cons.mp hz).elim (fun e => by rw [e]; exact bokL hL j hj) (h z)) (fun C hR hS hl w => lv_iload C.hx C.hb hd (bls hl j hj) w) k
theorem r_iload_n {n : Fin 4} {i : Nat} {x : Int32} (j : Nat) (hn : (n : Nat) = i) (hj : L[j]? = some (i, .int x)) (hd : decode (mB y) pc = .ok (.iload_n n, 1)) (k : bV O y d (pc + 1) L (.int x :: st) G Q) : bV O y d pc L st G Q :=
  bV.pu (fun hL h => fun z hz => (List.mem_cons.mp hz).elim (fun e => by rw [e]; exact bokL hL j hj) (h z)) (fun C hR hS hl w => lv_iload_n C.hx C.hb hd hn (bls hl j hj) w) k
theorem r_lload {i : Nat} {x : Int64} (j : Nat) (hj : L[j]? = some (i, .long x)) (hd : decode (mB y) pc = .ok (.lload i, 2)) (k : bV O y d (pc + 2) L (.long x :: st) G Q) : bV O y d pc L st G Q :=
  bV.pu (fun hL h => fun z hz => (List.mem_cons.mp hz).elim (fun e => by rw [e]; exact bokL hL j hj) (h z)) (fun C hR hS hl w => lv_lload C.hx C.hb hd (bls hl j hj) w) k
theorem r_lload_n {n : Fin 4} {i : Nat} {x : Int64} (j : Nat) (hn : (n : Nat) = i) (hj : L[j]? = some (i, .long x)) (hd : decode (mB y) pc = .ok (.lload_n n, 1)) (k : bV O y d (pc + 1) L (.long x :: st) G Q) : bV O y d pc L st G Q :=
  bV.pu (fun hL h => fun z hz => (List.mem_cons.mp hz).elim (fun e => by rw [e]; exact bokL hL j hj) (h z)) (fun C hR hS hl w => lv_lload_n C.hx C.hb hd hn (bls hl j hj) w) k
theorem r_aload {i : Nat} {x : Nat} (j : Nat) (hj : L[j]? = some (i, .ref x)) (hd : decode (mB y) pc = .ok (.aload i, 2)) (k : bV O y d (pc + 2) L (.ref x :: st) G Q) : bV O y d pc L st G Q :=
  bV.pu (fun hL h => fun z hz => (List.mem_cons.mp hz).elim (fun e => by rw [e]; exact bokL hL j hj) (h z)) (fun C hR hS hl w => lv_aload C.hx C.hb hd (bls hl j hj) w) k
theorem r_aload_n {n : Fin 4} {i : Nat} {x : Nat} (j : Nat) (hn : (n : Nat) = i) (hj : L[j]? = some (i, .ref x)) (hd : decode (mB y) pc = .ok (.aload_n n, 1)) (k : bV O y d (pc + 1) L (.ref x :: st) G Q) : bV O y d pc L st G Q :=
  bV.pu (fun hL h => fun z hz => (List.mem_cons.mp hz).elim (fun e => by rw [e]; exact bokL hL j hj) (h z)) (fun C hR hS hl w => lv_aload_n C.hx C.hb hd hn (bls hl j hj) w) k
theorem r_aloadN {i : Nat} (j : Nat) (hj : L[j]? = some (i, .null)) (hd : decode (mB y) pc = .ok (.aload i, 2)) (k : bV O y d (pc + 2) L (.null :: st) G Q) : bV O y d pc L st G Q :=
  bV.pu (fun hL h => fun z hz => (List.mem_cons.mp hz).elim (fun e => by rw [e]; exact bokL hL j hj) (h z)) (fun C hR hS hl w => lv_aloadN C.hx C.hb hd (bls hl j hj) w) k
theorem r_aload_nN {n : Fin 4} {i : Nat} (j : Nat) (hn : (n : Nat) = i) (hj : L[j]? = some (i, .null)) (hd : decode (mB y) pc = .ok (.aload_n n, 1)) (k : bV O y d (pc + 1) L (.null :: st) G Q) : bV O y d pc L st G Q :=
  bV.pu (fun hL h => fun z hz => (List.mem_cons.mp hz).elim (fun e => by rw [e]; exact bokL hL j hj) (h z)) (fun C hR hS hl w => lv_aload_nN C.hx C.hb hd hn (bls hl j hj) w) k
theorem r_goto {off : Int} (ht : (pc : Int) + off = (tgt : Int)) (hd : decode (mB y) pc = .ok (.goto off, 3)) (k : bV O y d tgt L st G Q) : bV O y d pc L st G Q :=
  bV.pu (fun hL h => fun z hz => h z (by first | exact hz | exact List.mem_cons_of_mem _ hz)) (fun C hR hS hl w => lv_goto C.hx C.hb hd ht w) k
theorem r_ifnull {off : Int} {x : Nat} (hd : decode (mB y) pc = .ok (.ifnull off, 3)) (k : bV O y d (pc + 3) L st G Q) : bV O y d pc L (.ref x :: st) G Q :=
  bV.pu (fun hL h => fun z hz => h z (by first | exact hz | exact List.mem_cons_of_mem _ hz)) (fun C hR hS hl w => lv_ifnull C.hx C.hb hd w) k
theorem r_ifnullN {off : Int} (ht : (pc : Int) + off = (tgt : Int)) (hd : decode (mB y) pc = .ok (.ifnull off, 3)) (k : bV O y d tgt L st G Q) : bV O y d pc L (.null :: st) G Q :=
  bV.pu (fun hL h => fun z hz => h z (by first | exact hz | exact List.mem_cons_of_mem _ hz)) (fun C hR hS hl w => lv_ifnullN C.hx C.hb hd ht w) k
theorem r_ifnonnull {off : Int} {x : Nat} (ht : (pc : Int) + off = (tgt : Int)) (hd : decode (mB y) pc = .ok (.ifnonnull off, 3)) (k : bV O y d tgt L st G Q) : bV O y d pc L (.ref x :: st) G Q :=
  bV.pu (fun hL h => fun z hz => h z (by first | exact hz | exact List.mem_cons_of_mem _ hz)) (fun C hR hS hl w => lv_ifnonnull C.hx C.hb hd ht w) k
theorem r_ifnonnullN {off : Int} (hd : decode (mB y) pc = .ok (.ifnonnull off, 3)) (k : bV O y d (pc + 3) L st G Q) : bV O y d pc L (.null :: st) G Q :=
  bV.pu (fun hL h => fun z hz => h z (by first | exact hz | exact List.mem_cons_of_mem _ hz)) (fun C hR hS hl w => lv_ifnonnullN C.hx C.hb hd w) k
theorem r_icmp_eq {x z : Int32} {off : Int} (ht : (pc : Int) + off = (tgt : Int)) (hd : decode (mB y) pc = .ok (.if_icmp .eq off, 3)) (kt : x = z → bV O y d tgt L st G Q) (kf : ¬ x = z → bV O y d (pc + 3) L st G Q) : bV O y d pc L (.int z :: .int x :: st) G Q := by
  by_cases h9 : x = z
  · exact bV.pu (st' := st) (fun hL h => fun z hz => h z (by first | exact List.mem_cons_of_mem _ (List.mem_cons_of_mem _ hz) | exact List.mem_cons_of_mem _ hz)) (fun C hR hS hl w => lv_icmp_eq C.hx C.hb hd ht (fun _ => w) (fun h8 => absurd h9 (by first | exact h8 | exact fun q => q h8))) (kt h9)
  · exact bV.pu (st' := st) (fun hL h => fun z hz => h z (by first | exact List.mem_cons_of_mem _ (List.mem_cons_of_mem _ hz) | exact List.mem_cons_of_mem _ hz)) (fun C hR hS hl w => lv_icmp_eq C.hx C.hb hd ht (fun h8 => absurd h8 h9) (fun _ => w)) (kf (by first | exact h9 | exact Decidable.not_not.mp h9))
theorem r_if_eq {x : Int32} {off : Int} (ht : (pc : Int) + off = (tgt : Int)) (hd : decode (mB y) pc = .ok (.ifCond .eq off, 3)) (kt : x = 0 → bV O y d tgt L st G Q) (kf : ¬ x = 0 → bV O y d (pc + 3) L st G Q) : bV O y d pc L (.int x :: st) G Q := by
  by_cases h9 : x = 0
  · exact bV.pu (st' := st) (fun hL h => fun z hz => h z (by first | exact List.mem_cons_of_mem _ (List.mem_cons_of_mem _ hz) | exact List.mem_cons_of_mem _ hz)) (fun C hR hS hl w => lv_if_eq C.hx C.hb hd ht (fun _ => w) (fun h8 => absurd h9 (by first | exact h8 | exact fun q => q h8))) (kt h9)
  · exact bV.pu (st' := st) (fun hL h => fun z hz => h z (by first | exact List.mem_cons_of_mem _ (List.mem_cons_of_mem _ hz) | exact List.mem_cons_of_mem _ hz)) (fun C hR hS hl w => lv_if_eq C.hx C.hb hd ht (fun h8 => absurd h8 h9) (fun _ => w)) (kf (by first | exact h9 | exact Decidable.not_not.mp h9))
theorem r_icmp_ne {x z : Int32} {off : Int} (ht : (pc : Int) + off = (tgt : Int)) (hd : decode (mB y) pc = .ok (.if_icmp .ne off, 3)) (kt : ¬ x = z → bV O y d tgt L st G Q) (kf : x = z → bV O y d (pc + 3) L st G Q) : bV O y d pc L (.int z :: .int x :: st) G Q := by
  by_cases h9 : ¬ x = z
  · exact bV.pu (st' := st) (fun hL h => fun z hz => h z (by first | exact List.mem_cons_of_mem _ (List.mem_cons_of_mem _ hz) | exact List.mem_cons_of_mem _ hz)) (fun C hR hS hl w => lv_icmp_ne C.hx C.hb hd ht (fun _ => w) (fun h8 => absurd h9 (by first | exact h8 | exact fun q => q h8))) (kt h9)
  · exact bV.pu (st' := st) (fun hL h => fun z hz => h z (by first | exact List.mem_cons_of_mem _ (List.mem_cons_of_mem _ hz) | exact List.mem_cons_of_mem _ hz)) (fun C hR hS hl w => lv_icmp_ne C.hx C.hb hd ht (fun h8 => absurd h8 h9) (fun _ => w)) (kf (by first | exact h9 | exact Decidable.not_not.mp h9))
theorem r_if_ne {x : Int32} {off : Int} (ht : (pc : Int) + off = (tgt : Int)) (hd : decode (mB y) pc = .ok (.ifCond .ne off, 3)) (kt : ¬ x = 0 → bV O y d tgt L st G Q) (kf : x = 0 → bV O y d (pc + 3) L st G Q) : bV O y d pc L (.int x :: st) G Q := by
  by_cases h9 : ¬ x = 0
  · exact bV.pu (st' := st) (fun hL h => fun z hz => h z (by first | exact List.mem_cons_of_mem _ (List.mem_cons_of_mem _ hz) | exact List.mem_cons_of_mem _ hz)) (fun C hR hS hl w => lv_if_ne C.hx C.hb hd ht (fun _ => w) (fun h8 => absurd h9 (by first | exact h8 | exact fun q => q h8))) (kt h9)
  · exact bV.pu (st' := st) (fun hL h => fun z hz => h z (by first | exact List.mem_cons_of_mem _ (List.mem_cons_of_mem _ hz) | exact List.mem_cons_of_mem _ hz)) (fun C hR hS hl w => lv_if_ne C.hx C.hb hd ht (fun h8 => absurd h8 h9) (fun _ => w)) (kf (by first | exact h9 | exact Decidable.not_not.mp h9))
theorem r_icmp_lt {x z : Int32} {off : Int} (ht : (pc : Int) + off = (tgt : Int)) (hd : decode (mB y) pc = .ok (.if_icmp .lt off, 3)) (kt : x < z → bV O y d tgt L st G Q) (kf : ¬ x < z → bV O y d (pc + 3) L st G Q) : bV O y d pc L (.int z :: .int x :: st) G Q := by
  by_cases h9 : x < z
  · exact bV.pu (st' := st) (fun hL h => fun z hz => h z (by first | exact List.mem_cons_of_mem _ (List.mem_cons_of_mem _ hz) | exact List.mem_cons_of_mem _ hz)) (fun C hR hS hl w => lv_icmp_lt C.hx C.hb hd ht (fun _ => w) (fun h8 => absurd h9 (by first | exact h8 | exact fun q => q h8))) (kt h9)
  · exact bV.pu (st' := st) (fun hL h => fun z hz => h z (by first | exact List.mem_cons_of_mem _ (List.mem_cons_of_mem _ hz) | exact List.mem_cons_of_mem _ hz)) (fun C hR hS hl w => lv_icmp_lt C.hx C.hb hd ht (fun h8 => absurd h8 h9) (fun _ => w)) (kf (by first | exact h9 | exact Decidable.not_not.mp h9))
theorem r_if_lt {x : Int32} {off : Int} (ht : (pc : Int) + off = (tgt : Int)) (hd : decode (mB y) pc = .ok (.ifCond .lt off, 3)) (kt : x < 0 → bV O y d tgt L st G Q) (kf : ¬ x < 0 → bV O y d (pc + 3) L st G Q) : bV O y d pc L (.int x :: st) G Q := by
  by_cases h9 : x < 0
  · exact bV.pu (st' := st) (fun hL h => fun z hz => h z (by first | exact List.mem_cons_of_mem _ (List.mem_cons_of_mem _ hz) | exact List.mem_cons_of_mem _ hz)) (fun C hR hS hl w => lv_if_lt C.hx C.hb hd ht (fun _ => w) (fun h8 => absurd h9 (by first | exact h8 | exact fun q => q h8))) (kt h9)
  · exact bV.pu (st' := st) (fun hL h => fun z hz => h z (by first | exact List.mem_cons_of_mem _ (List.mem_cons_of_mem _ hz) | exact List.mem_cons_of_mem _ hz)) (fun C hR hS hl w => lv_if_lt C.hx C.hb hd ht (fun h8 => absurd h8 h9) (fun _ => w)) (kf (by first | exact h9 | exact Decidable.not_not.mp h9))
theorem r_icmp_ge {x z : Int32} {off : Int} (ht : (pc : Int) + off = (tgt : Int)) (hd : decode (mB y) pc = .ok (.if_icmp .ge off, 3)) (kt : z ≤ x → bV O y d tgt L st G Q) (kf : ¬ z ≤ x → bV O y d (pc + 3) L st G Q) : bV O y d pc L (.int z :: .int x :: st) G Q := by
  by_cases h9 : z ≤ x
  · exact bV.pu (st' := st) (fun hL h => fun z hz => h z (by first | exact List.mem_cons_of_mem _ (List.mem_cons_of_mem _ hz) | exact List.mem_cons_of_mem _ hz)) (fun C hR hS hl w => lv_icmp_ge C.hx C.hb hd ht (fun _ => w) (fun h8 => absurd h9 (by first | exact h8 | exact fun q => q h8))) (kt h9)
  · exact bV.pu (st' := st) (fun hL h => fun z hz => h z (by first | exact List.mem_cons_of_mem _ (List.mem_cons_of_mem _ hz) | exact List.mem_cons_of_mem _ hz)) (fun C hR hS hl w => lv_icmp_ge C.hx C.hb hd ht (fun h8 => absurd h8 h9) (fun _ => w)) (kf (by first | exact h9 | exact Decidable.not_not.mp h9))
theorem r_if_ge {x : Int32} {off : Int} (ht : (pc : Int) + off = (tgt : Int)) (hd : decode (mB y) pc = .ok (.ifCond .ge off, 3)) (kt : 0 ≤ x → bV O y d tgt L st G Q) (kf : ¬ 0 ≤ x → bV O y d (pc + 3) L st G Q) : bV O y d pc L (.int x :: st) G Q := by
  by_cases h9 : 0 ≤ x
  · exact bV.pu (st' := st) (fun hL h => fun z hz => h z (by first | exact List.mem_cons_of_mem _ (List.mem_cons_of_mem _ hz) | exact List.mem_cons_of_mem _ hz)) (fun C hR hS hl w => lv_if_ge C.hx C.hb hd ht (fun _ => w) (fun h8 => absurd h9 (by first | exact h8 | exact fun q => q h8))) (kt h9)
  · exact bV.pu (st' := st) (fun hL h => fun z hz => h z (by first | exact List.mem_cons_of_mem _ (List.mem_cons_of_mem _ hz) | exact List.mem_cons_of_mem _ hz)) (fun C hR hS hl w => lv_if_ge C.hx C.hb hd ht (fun h8 => absurd h8 h9) (fun _ => w)) (kf (by first | exact h9 | exact Decidable.not_not.mp h9))
theorem r_icmp_gt {x z : Int32} {off : Int} (ht : (pc : Int) + off = (tgt : Int)) (hd : decode (mB y) pc = .ok (.if_icmp .gt off, 3)) (kt : z < x → bV O y d tgt L st G Q) (kf : ¬ z < x → bV O y d (pc + 3) L st G Q) : bV O y d pc L (.int z :: .int x :: st) G Q := by
  by_cases h9 : z < x
  · exact bV.pu (st' := st) (fun hL h => fun z hz => h z (by first | exact List.mem_cons_of_mem _ (List.mem_cons_of_mem _ hz) | exact List.mem_cons_of_mem _ hz)) (fun C hR hS hl w => lv_icmp_gt C.hx C.hb hd ht (fun _ => w) (fun h8 => absurd h9 (by first | exact h8 | exact fun q => q h8))) (kt h9)
  · exact bV.pu (st' := st) (fun hL h => fun z hz => h z (by first | exact List.mem_cons_of_mem _ (List.mem_cons_of_mem _ hz) | exact List.mem_cons_of_mem _ hz)) (fun C hR hS hl w => lv_icmp_gt C.hx C.hb hd ht (fun h8 => absurd h8 h9) (fun _ => w)) (kf (by first | exact h9 | exact Decidable.not_not.mp h9))
theorem r_if_gt {x : Int32} {off : Int} (ht : (pc : Int) + off = (tgt : Int)) (hd : decode (mB y) pc = .ok (.ifCond .gt off, 3)) (kt : 0 < x → bV O y d tgt L st G Q) (kf : ¬ 0 < x → bV O y d (pc + 3) L st G Q) : bV O y d pc L (.int x :: st) G Q := by
  by_cases h9 : 0 < x
  · exact bV.pu (st' := st) (fun hL h => fun z hz => h z (by first | exact List.mem_cons_of_mem _ (List.mem_cons_of_mem _ hz) | exact List.mem_cons_of_mem _ hz)) (fun C hR hS hl w => lv_if_gt C.hx C.hb hd ht (fun _ => w) (fun h8 => absurd h9 (by first | exact h8 | exact fun q => q h8))) (kt h9)
  · exact bV.pu (st' := st) (fun hL h => fun z hz => h z (by first | exact List.mem_cons_of_mem _ (List.mem_cons_of_mem _ hz) | exact List.mem_cons_of_mem _ hz)) (fun C hR hS hl w => lv_if_gt C.hx C.hb hd ht (fun h8 => absurd h8 h9) (fun _ => w)) (kf (by first | exact h9 | exact Decidable.not_not.mp h9))
theorem r_icmp_le {x z : Int32} {off : Int} (ht : (pc : Int) + off = (tgt : Int)) (hd : decode (mB y) pc = .ok (.if_icmp .le off, 3)) (kt : x ≤ z → bV O y d tgt L st G Q) (kf : ¬ x ≤ z → bV O y d (pc + 3) L st G Q) : bV O y d pc L (.int z :: .int x :: st) G Q := by
  by_cases h9 : x ≤ z
  · exact bV.pu (st' := st) (fun hL h => fun z hz => h z (by first | exact List.mem_cons_of_mem _ (List.mem_cons_of_mem _ hz) | exact List.mem_cons_of_mem _ hz)) (fun C hR hS hl w => lv_icmp_le C.hx C.hb hd ht (fun _ => w) (fun h8 => absurd h9 (by first | exact h8 | exact fun q => q h8))) (kt h9)
  · exact bV.pu (st' := st) (fun hL h => fun z hz => h z (by first | exact List.mem_cons_of_mem _ (List.mem_cons_of_mem _ hz) | exact List.mem_cons_of_mem _ hz)) (fun C hR hS hl w => lv_icmp_le C.hx C.hb hd ht (fun h8 => absurd h8 h9) (fun _ => w)) (kf (by first | exact h9 | exact Decidable.not_not.mp h9))
theorem r_if_le {x : Int32} {off : Int} (ht : (pc : Int) + off = (tgt : Int)) (hd : decode (mB y) pc = .ok (.ifCond .le off, 3)) (kt : x ≤ 0 → bV O y d tgt L st G Q) (kf : ¬ x ≤ 0 → bV O y d (pc + 3) L st G Q) : bV O y d pc L (.int x :: st) G Q := by
  by_cases h9 : x ≤ 0
  · exact bV.pu (st' := st) (fun hL h => fun z hz => h z (by first | exact List.mem_cons_of_mem _ (List.mem_cons_of_mem _ hz) | exact List.mem_cons_of_mem _ hz)) (fun C hR hS hl w => lv_if_le C.hx C.hb hd ht (fun _ => w) (fun h8 => absurd h9 (by first | exact h8 | exact fun q => q h8))) (kt h9)
  · exact bV.pu (st' := st) (fun hL h => fun z hz => h z (by first | exact List.mem_cons_of_mem _ (List.mem_cons_of_mem _ hz) | exact List.mem_cons_of_mem _ hz)) (fun C hR hS hl w => lv_if_le C.hx C.hb hd ht (fun h8 => absurd h8 h9) (fun _ => w)) (kf (by first | exact h9 | exact Decidable.not_not.mp h9))
theorem r_tableIn {dflt lo hi : Int} {offs : Array Int} {len : Nat} {x : Int32} {off : Int} (hd : decode (mB y) pc = .ok (.tableswitch dflt lo hi offs, len)) (h1 : ¬ x.toInt < lo) (h2 : ¬ hi < x.toInt) (ho : offs[(x.toInt - lo).toNat]? = some off) (ht : (pc : Int) + off = (tgt : Int)) (k : bV O y d tgt L st G Q) : bV O y d pc L (.int x :: st) G Q :=
  bV.pu (fun hL h => fun z hz => h z (List.mem_cons_of_mem _ hz)) (fun C hR hS hl w => lv_tableIn C.hx C.hb hd h1 h2 ho ht w) k
theorem r_tableOut {dflt lo hi : Int} {offs : Array Int} {len : Nat} {x : Int32} (hd : decode (mB y) pc = .ok (.tableswitch dflt lo hi offs, len)) (h1 : x.toInt < lo ∨ hi < x.toInt) (ht : (pc : Int) + dflt = (tgt : Int)) (k : bV O y d tgt L st G Q) : bV O y d pc L (.int x :: st) G Q :=
  bV.pu (fun hL h => fun z hz => h z (List.mem_cons_of_mem _ hz)) (fun C hR hS hl w => lv_tableOut C.hx C.hb hd h1 ht w) k
theorem r_lookup {dflt : Int} {ps : Array (Int × Int)} {len : Nat} {x : Int32} {off : Int} (hd : decode (mB y) pc = .ok (.lookupswitch dflt ps, len)) (hp : (ps.toList.zip (ps.toList.drop 1)).all (fun (a, next) => a.1 < next.1) = true) (ho : Op.lookupswitch.offset ps.toList dflt x.toInt = off) (ht : (pc : Int) + off = (tgt : Int)) (k : bV O y d tgt L st G Q) : bV O y d pc L (.int x :: st) G Q :=
  bV.pu (fun hL h => fun z hz => h z (List.mem_cons_of_mem _ hz)) (fun C hR hS hl w => lv_lookup C.hx C.hb hd hp ho ht w) k
theorem r_istore {i : Nat} {x : Int32} {L' : List (Nat × Value)} (hd : decode (mB y) pc = .ok (.istore i, 2)) (hi : i < mL y) (hL : (i, (.int x : Value)) :: L.filter (fun q => !(q.1 == i) && !(q.1 + 1 == i && q.2.category == 2)) = L') (k : bV O y d (pc + 2) L' st G Q) : bV O y d pc L (.int x :: st) G Q := by
  subst hL
  refine bV.lo (fun h1 h2 => ⟨?_, ?_⟩) (fun C hl w => lv_istore C.hx C.hb hd hl hi (by rw [bcat]; rfl) w) k
  · intro q hq
    rcases List.mem_cons.mp hq with rfl | hq
    · exact h2 _ List.mem_cons_self
    · exact h1 q (List.mem_filter.mp hq).1
  · exact fun v hv => h2 v (List.mem_cons_of_mem _ hv)
theorem r_istore_n {n : Fin 4} {i : Nat} {x : Int32} (hn : (n : Nat) = i) {L' : List (Nat × Value)} (hd : decode (mB y) pc = .ok (.istore_n n, 1)) (hi : i < mL y) (hL : (i, (.int x : Value)) :: L.filter (fun q => !(q.1 == i) && !(q.1 + 1 == i && q.2.category == 2)) = L') (k : bV O y d (pc + 1) L' st G Q) : bV O y d pc L (.int x :: st) G Q := by
  subst hL
  refine bV.lo (fun h1 h2 => ⟨?_, ?_⟩) (fun C hl w => lv_istore_n C.hx C.hb hd hn hl hi (by rw [bcat]; rfl) w) k
  · intro q hq
    rcases List.mem_cons.mp hq with rfl | hq
    · exact h2 _ List.mem_cons_self
    · exact h1 q (List.mem_filter.mp hq).1
  · exact fun v hv => h2 v (List.mem_cons_of_mem _ hv)
theorem r_lstore {i : Nat} {x : Int64} {L' : List (Nat × Value)} (hd : decode (mB y) pc = .ok (.lstore i, 2)) (hi : i + 1 < mL y) (hL : (i, (.long x : Value)) :: L.filter (fun q => !(q.1 == i) && (!(q.1 == i + 1) && !(q.1 + 1 == i && q.2.category == 2))) = L') (k : bV O y d (pc + 2) L' st G Q) : bV O y d pc L (.long x :: st) G Q := by
  subst hL
  refine bV.lo (fun h1 h2 => ⟨?_, ?_⟩) (fun C hl w => lv_lstore C.hx C.hb hd hl hi (by rw [bcat2]; rfl) w) k
  · intro q hq
    rcases List.mem_cons.mp hq with rfl | hq
    · exact h2 _ List.mem_cons_self
    · exact h1 q (List.mem_filter.mp hq).1
  · exact fun v hv => h2 v (List.mem_cons_of_mem _ hv)
theorem r_lstore_n {n : Fin 4} {i : Nat} {x : Int64} (hn : (n : Nat) = i) {L' : List (Nat × Value)} (hd : decode (mB y) pc = .ok (.lstore_n n, 1)) (hi : i + 1 < mL y) (hL : (i, (.long x : Value)) :: L.filter (fun q => !(q.1 == i) && (!(q.1 == i + 1) && !(q.1 + 1 == i && q.2.category == 2))) = L') (k : bV O y d (pc + 1) L' st G Q) : bV O y d pc L (.long x :: st) G Q := by
  subst hL
  refine bV.lo (fun h1 h2 => ⟨?_, ?_⟩) (fun C hl w => lv_lstore_n C.hx C.hb hd hn hl hi (by rw [bcat2]; rfl) w) k
  · intro q hq
    rcases List.mem_cons.mp hq with rfl | hq
    · exact h2 _ List.mem_cons_self
    · exact h1 q (List.mem_filter.mp hq).1
  · exact fun v hv => h2 v (List.mem_cons_of_mem _ hv)
theorem r_astore {i : Nat} {x : Nat} {L' : List (Nat × Value)} (hd : decode (mB y) pc = .ok (.astore i, 2)) (hi : i < mL y) (hL : (i, (.ref x : Value)) :: L.filter (fun q => !(q.1 == i) && !(q.1 + 1 == i && q.2.category == 2)) = L') (k : bV O y d (pc + 2) L' st G Q) : bV O y d pc L (.ref x :: st) G Q := by
  subst hL
  refine bV.lo (fun h1 h2 => ⟨?_, ?_⟩) (fun C hl w => lv_astore C.hx C.hb hd hl hi (by rw [bcat]; rfl) w) k
  · intro q hq
    rcases List.mem_cons.mp hq with rfl | hq
    · exact h2 _ List.mem_cons_self
    · exact h1 q (List.mem_filter.mp hq).1
  · exact fun v hv => h2 v (List.mem_cons_of_mem _ hv)
theorem r_astore_n {n : Fin 4} {i : Nat} {x : Nat} (hn : (n : Nat) = i) {L' : List (Nat × Value)} (hd : decode (mB y) pc = .ok (.astore_n n, 1)) (hi : i < mL y) (hL : (i, (.ref x : Value)) :: L.filter (fun q => !(q.1 == i) && !(q.1 + 1 == i && q.2.category == 2)) = L') (k : bV O y d (pc + 1) L' st G Q) : bV O y d pc L (.ref x :: st) G Q := by
  subst hL
  refine bV.lo (fun h1 h2 => ⟨?_, ?_⟩) (fun C hl w => lv_astore_n C.hx C.hb hd hn hl hi (by rw [bcat]; rfl) w) k
  · intro q hq
    rcases List.mem_cons.mp hq with rfl | hq
    · exact h2 _ List.mem_cons_self
    · exact h1 q (List.mem_filter.mp hq).1
  · exact fun v hv => h2 v (List.mem_cons_of_mem _ hv)
theorem r_astoreN {i : Nat} {L' : List (Nat × Value)} (hd : decode (mB y) pc = .ok (.astore i, 2)) (hi : i < mL y) (hL : (i, (.null : Value)) :: L.filter (fun q => !(q.1 == i) && !(q.1 + 1 == i && q.2.category == 2)) = L') (k : bV O y d (pc + 2) L' st G Q) : bV O y d pc L (.null :: st) G Q := by
  subst hL
  refine bV.lo (fun h1 h2 => ⟨?_, ?_⟩) (fun C hl w => lv_astoreN C.hx C.hb hd hl hi (by rw [bcat]; rfl) w) k
  · intro q hq
    rcases List.mem_cons.mp hq with rfl | hq
    · exact h2 _ List.mem_cons_self
    · exact h1 q (List.mem_filter.mp hq).1
  · exact fun v hv => h2 v (List.mem_cons_of_mem _ hv)
theorem r_astore_nN {n : Fin 4} {i : Nat} (hn : (n : Nat) = i) {L' : List (Nat × Value)} (hd : decode (mB y) pc = .ok (.astore_n n, 1)) (hi : i < mL y) (hL : (i, (.null : Value)) :: L.filter (fun q => !(q.1 == i) && !(q.1 + 1 == i && q.2.category == 2)) = L') (k : bV O y d (pc + 1) L' st G Q) : bV O y d pc L (.null :: st) G Q := by
  subst hL
  refine bV.lo (fun h1 h2 => ⟨?_, ?_⟩) (fun C hl w => lv_astore_nN C.hx C.hb hd hn hl hi (by rw [bcat]; rfl) w) k
  · intro q hq
    rcases List.mem_cons.mp hq with rfl | hq
    · exact h2 _ List.mem_cons_self
    · exact h1 q (List.mem_filter.mp hq).1
  · exact fun v hv => h2 v (List.mem_cons_of_mem _ hv)
theorem r_iinc {i : Nat} {n : Int} {x v : Int32} {L' : List (Nat × Value)} (j : Nat) (hj : L[j]? = some (i, .int x)) (hv : x + Int32.ofInt n = v) (hd : decode (mB y) pc = .ok (.iinc i n, 3)) (hi : i < mL y) (hL : (i, Value.int v) :: L.filter (fun q => !(q.1 == i) && !(q.1 + 1 == i && q.2.category == 2)) = L') (k : bV O y d (pc + 3) L' st G Q) : bV O y d pc L st G Q := by
  subst hL
  refine bV.lo (fun h1 h2 => ⟨?_, h2⟩) (fun C hl w => lv_iinc C.hx C.hb hd hl (k := j) (by rw [List.getElem?_map, hj]; rfl) hv hi (by rw [bcat]; rfl) w) k
  intro q hq
  rcases List.mem_cons.mp hq with rfl | hq
  · trivial
  · exact h1 q (List.mem_filter.mp hq).1
theorem r_ireturn {v : Int32} (hr : mR y = some .int) (hd : decode (mB y) pc = .ok (.ireturn, 1)) (hq : Q (.inl (some (.int v))) G) : bV O y d pc L [.int v] G Q := by
  refine ⟨.inl (some (.int v)), G, hq, Nat.le_refl _, Nat.le_refl _, fun _ h => h, ?_⟩
  intro p e R s m args below meth c H locs cells slots ls ad Qc XC C hf hl hc hsl hR hS hls hL hst hE
  rw [Nat.sub_self, Nat.sub_self]
  have hlocks := C.hlocks
  refine vx_ret ?_
  exact W.iret C.hx C.hb (C.hr.trans hr) (fun t ht hW => hE t ad (fun _ _ => rfl) (by rw [ht]; exact hR) (hS.F ht) (fun w hw => by first | (cases hw; exact hst _ List.mem_cons_self) | cases hw)) hS.2.2 hd
theorem r_zreturn {v : Int32} {ty : FieldType} (hr : mR y = some ty) (hn : narrow ty (.int v) = .int v) (hd : decode (mB y) pc = .ok (.ireturn, 1)) (hq : Q (.inl (some (.int v))) G) : bV O y d pc L [.int v] G Q := by
  refine ⟨.inl (some (.int v)), G, hq, Nat.le_refl _, Nat.le_refl _, fun _ h => h, ?_⟩
  intro p e R s m args below meth c H locs cells slots ls ad Qc XC C hf hl hc hsl hR hS hls hL hst hE
  rw [Nat.sub_self, Nat.sub_self]
  have hlocks := C.hlocks
  refine vx_ret ?_
  exact W.zret C.hx C.hb (C.hr.trans hr) hn (fun t ht hW => hE t ad (fun _ _ => rfl) (by rw [ht]; exact hR) (hS.F ht) (fun w hw => by first | (cases hw; exact hst _ List.mem_cons_self) | cases hw)) hS.2.2 hd
theorem r_lreturn {v : Int64} (hr : mR y = some .long) (hd : decode (mB y) pc = .ok (.lreturn, 1)) (hq : Q (.inl (some (.long v))) G) : bV O y d pc L [.long v] G Q := by
  refine ⟨.inl (some (.long v)), G, hq, Nat.le_refl _, Nat.le_refl _, fun _ h => h, ?_⟩
  intro p e R s m args below meth c H locs cells slots ls ad Qc XC C hf hl hc hsl hR hS hls hL hst hE
  rw [Nat.sub_self, Nat.sub_self]
  have hlocks := C.hlocks
  refine vx_ret ?_
  exact W.lret C.hx C.hb (C.hr.trans hr) (fun t ht hW => hE t ad (fun _ _ => rfl) (by rw [ht]; exact hR) (hS.F ht) (fun w hw => by first | (cases hw; exact hst _ List.mem_cons_self) | cases hw)) hS.2.2 hd
theorem r_areturn {x : Nat} {ty : FieldType} (hr : mR y = some ty) (hn : (∃ n, ty = .object n) ∨ ∃ t, ty = .array t) (hd : decode (mB y) pc = .ok (.areturn, 1)) (hq : Q (.inl (some (.ref x))) G) : bV O y d pc L [.ref x] G Q := by
  refine ⟨.inl (some (.ref x)), G, hq, Nat.le_refl _, Nat.le_refl _, fun _ h => h, ?_⟩
  intro p e R s m args below meth c H locs cells slots ls ad Qc XC C hf hl hc hsl hR hS hls hL hst hE
  rw [Nat.sub_self, Nat.sub_self]
  have hlocks := C.hlocks
  refine vx_ret ?_
  exact W.aret (v := .ref (ad x)) C.hx C.hb (C.hr.trans hr) hn (Or.inr ⟨_, rfl⟩) (fun t ht hW => hE t ad (fun _ _ => rfl) (by rw [ht]; exact hR) (hS.F ht) (fun w hw => by first | (cases hw; exact hst _ List.mem_cons_self) | cases hw)) hS.2.2 hd
theorem r_areturnN {ty : FieldType} (hr : mR y = some ty) (hn : (∃ n, ty = .object n) ∨ ∃ t, ty = .array t) (hd : decode (mB y) pc = .ok (.areturn, 1)) (hq : Q (.inl (some .null)) G) : bV O y d pc L [.null] G Q := by
  refine ⟨.inl (some .null), G, hq, Nat.le_refl _, Nat.le_refl _, fun _ h => h, ?_⟩
  intro p e R s m args below meth c H locs cells slots ls ad Qc XC C hf hl hc hsl hR hS hls hL hst hE
  rw [Nat.sub_self, Nat.sub_self]
  have hlocks := C.hlocks
  refine vx_ret ?_
  exact W.aret (v := .null) C.hx C.hb (C.hr.trans hr) hn (Or.inl rfl) (fun t ht hW => hE t ad (fun _ _ => rfl) (by rw [ht]; exact hR) (hS.F ht) (fun w hw => by first | (cases hw; exact hst _ List.mem_cons_self) | cases hw)) hS.2.2 hd
theorem r_return  (hr : mR y = none) (hd : decode (mB y) pc = .ok (.return_, 1)) (hq : Q (.inl none) G) : bV O y d pc L [] G Q := by
  refine ⟨.inl none, G, hq, Nat.le_refl _, Nat.le_refl _, fun _ h => h, ?_⟩
  intro p e R s m args below meth c H locs cells slots ls ad Qc XC C hf hl hc hsl hR hS hls hL hst hE
  rw [Nat.sub_self, Nat.sub_self]
  have hlocks := C.hlocks
  refine vx_ret ?_
  exact W.vret C.hx C.hb (C.hr.trans hr) (fun t ht hW => hE t ad (fun _ _ => rfl) (by rw [ht]; exact hR) (hS.F ht) (fun w hw => by first | (cases hw; exact hst _ List.mem_cons_self) | cases hw)) hS.2.2 hd
end
