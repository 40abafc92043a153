/-! ===== nest calls, things outside, copying, exceptions, methods with a handler ===== -/
section
variable {O : bO} {y : bM} {d pc tgt : Nat} {L : List (Nat × Value)} {st : List Value} {G : bG} {Q : bR → bG → Prop}
theorem bCN {p : Program} {R : Room} {s : State} {m : MethodId} {args : Array Value} {meth : Method} {c : Code} {z : bM} {ix n dz mc ms : Nat} {host : String} (C : bCx O y p s m args meth c) (hl : bLkN (mN y).cls ix z n) (hw : Cond.methodLinkNest (mN y).cls ix (mN z) host ∈ lw_tbl) (hx0 : mX z = []) (hdd : dz + 1 ≤ d) (hf : d ≤ R.frames) (hlo : 64 * d ≤ R.locals) :
    va_CN R s args (mN y).cls ix (mN z) host (mB z) (mL z) (mR z) (bCode z :: bW) { frames := dz, cells := mc, slots := ms, locals := 64 * dz } mc ms n := by
  obtain ⟨h1, h2, h3, h4, h5, -⟩ := hl
  have hc : bCode z = .code (mN z) (mB z) (mL z) (mR z) := by unfold bCode; rw [hx0]
  refine ⟨⟨rfl, rfl, ?_, ?_, bWarm C h1, by rw [hc]; exact List.mem_cons_self⟩, by rw [← hc]; exact C.hts _ h1, C.hts _ h2, h3, bLen_of h4, va_Nw.use rfl (C.env.2.2.1 _ hw rfl)⟩
  · show dz + 1 ≤ R.frames
    omega
  · show 8 + (mL z + 11) + 64 * dz ≤ R.locals
    omega
/-- invokestatic of a nest mate -/
theorem r_callSN {z : bM} {ix n dz : Nat} {As rest st0 : List Value} {Q' : bR → bG → Prop} (hC : bCall O z dz As G Q') (hst0 : As.reverse ++ rest = st0) (hl : bLkN (mN y).cls ix z n) (hi : Cond.static (mN z) ∈ bW) (hx0 : mX z = []) (hn : As.length = n) (hdd : dz + 1 ≤ d) (hW : (rest.map fun v => v.category).sum ≤ 8)
    (hd : decode (mB y) pc = .ok (.invokestatic ix, 3)) (kk : ∀ (v : Option Value) (G1 : bG), Q' (.inl v) G1 → bV O y d (pc + 3) L (v.toList ++ rest) G1 Q) (kx : ∀ (q : Nat) (G1 : bG), ¬ Q' (.inr q) G1) : bV O y d pc L st0 G Q := by
  subst hst0
  obtain ⟨r1, G1, hQ1, hM⟩ := hC
  have hsub : ∀ w ∈ rest, w ∈ As.reverse ++ rest := fun w hw => List.mem_append_right _ hw
  rcases r1 with v | q
  · refine bBack hM hsub ?_ (kk v G1 hQ1)
    intro p e R s m args below meth c H locs cells slots ls ad C hf hlo hc hsl hR hS hls hst hMt
    have hAs : ∀ w ∈ As, bok G.1 w := fun w hw => hst w (by simp; exact Or.inl hw)
    obtain ⟨host, hw⟩ := hl.2.2.2.2.2
    have run := va_runSN (meth := meth) (e := e) (below := below) (locs := locs) (cells := cells) (slots := slots) (g := F0 m pc ls ((As.map (bvl ad)).reverse ++ rest.map (bvl ad))) ⟨C.hx, C.hb, C.hml, C.hown, C.hts⟩ (bMet_vx hMt (fun E q s t ⟨q9, ad9, h9, _⟩ => by cases h9)) ⟨bCN C hl hw hx0 hdd hf hlo, C.hts _ hi, trivial⟩ (As := As.map (bvl ad)) (rest := rest.map (bvl ad)) (H := H) ⟨bPc_blind, bPre C hR hS hAs⟩ rfl (by rw [List.length_map]; exact hn) hls rfl (lv_room (m := m) (pc := pc) (ls := ls) (rest := ((As.map (bvl ad)).reverse ++ rest.map (bvl ad))) (by rw [bcs]; exact hW)) hd ⟨hc, hsl⟩
    exact ⟨_, by rw [bst2]; exact vaRun_vx run⟩
  · exact absurd hQ1 (kx q G1)
/-- invokespecial of a nest mate's constructor -/
theorem r_callIN {z : bM} {ix r n dz : Nat} {As rest st0 : List Value} {Q' : bR → bG → Prop} (hC : bCall O z dz (.ref r :: As) G Q') (hst0 : As.reverse ++ .ref r :: rest = st0) (hl : bLkN (mN y).cls ix z n) (hi : Cond.instanceMethod (mN z) ∈ bW) (hnm : (mN z).name = "<init>") (hr0 : mR z = none) (hx0 : mX z = []) (hn : As.length = n) (hdd : dz + 1 ≤ d) (hW : (rest.map fun v => v.category).sum ≤ 8)
    (hd : decode (mB y) pc = .ok (.invokespecial ix, 3)) (kk : ∀ (v : Option Value) (G1 : bG), Q' (.inl v) G1 → bV O y d (pc + 3) L (v.toList ++ rest) G1 Q) (kx : ∀ (q : Nat) (G1 : bG), ¬ Q' (.inr q) G1) : bV O y d pc L st0 G Q := by
  subst hst0
  obtain ⟨r1, G1, hQ1, hM⟩ := hC
  have hsub : ∀ w ∈ rest, w ∈ As.reverse ++ .ref r :: rest := fun w hw => List.mem_append_right _ (List.mem_cons_of_mem _ hw)
  rcases r1 with v | q
  · refine bBack hM hsub ?_ (kk v G1 hQ1)
    intro p e R s m args below meth c H locs cells slots ls ad C hf hlo hc hsl hR hS hls hst hMt
    have hAs : ∀ w ∈ Value.ref r :: As, bok G.1 w := fun w hw => hst w (by simp at hw ⊢; rcases hw with h | h <;> simp [h])
    obtain ⟨host, hw⟩ := hl.2.2.2.2.2
    have hB : va_CN R s args (mN y).cls ix (mN z) host (mB z) (mL z) none (bCode z :: bW) { frames := dz, cells := G1.2.1 - G.2.1, slots := G1.2.2 - G.2.2, locals := 64 * dz } (G1.2.1 - G.2.1) (G1.2.2 - G.2.2) n := by
      rw [← hr0]; exact bCN C hl hw hx0 hdd hf hlo
    have run := va_runIN (meth := meth) (e := e) (below := below) (locs := locs) (cells := cells) (slots := slots) (g := F0 m pc ls (((As.map (bvl ad)).reverse ++ .ref (ad r) :: rest.map (bvl ad)))) ⟨C.hx, C.hb, C.hml, C.hown, C.hts⟩ (bMet_vx hMt (fun E q s t ⟨q9, ad9, h9, _⟩ => by cases h9)) ⟨hB, hnm, C.hts _ hi⟩ (b := ad r) (As := As.map (bvl ad)) (rest := rest.map (bvl ad)) (H := H) ⟨bPc_blind, bPre C hR hS hAs⟩ rfl (by rw [List.length_map]; exact hn) hls rfl (lv_room (m := m) (pc := pc) (ls := ls) (rest := (((As.map (bvl ad)).reverse ++ .ref (ad r) :: rest.map (bvl ad)))) (by rw [bcs]; exact hW)) hd ⟨hc, hsl⟩
    exact ⟨_, by rw [bst]; exact vaRun_vx run⟩
  · exact absurd hQ1 (kx q G1)
/-- a method of a String constant -/
theorem r_callVS {z : bM} {ix i n dz : Nat} {As rest st0 : List Value} {Q' : bR → bG → Prop} (hC : bCall O z dz (.ref (i + 1) :: As) G Q') (hst0 : As.reverse ++ .ref (i + 1) :: rest = st0) (hl : bLk (mN y).cls ix z n) (hi : Cond.instanceMethod (mN z) ∈ bW) (hs : Cond.selects "java/lang/String" (mN z) (mN z) ∈ bW) (hx0 : mX z = []) (h7 : i < 7) (hn : As.length = n) (hdd : dz + 1 ≤ d) (hW : (rest.map fun v => v.category).sum ≤ 8)
    (hd : decode (mB y) pc = .ok (.invokevirtual ix, 3)) (kk : ∀ (v : Option Value) (G1 : bG), Q' (.inl v) G1 → bV O y d (pc + 3) L (v.toList ++ rest) G1 Q) (kx : ∀ (q : Nat) (G1 : bG), ¬ Q' (.inr q) G1) : bV O y d pc L st0 G Q := by
  subst hst0
  obtain ⟨r1, G1, hQ1, hM⟩ := hC
  have hsub : ∀ w ∈ rest, w ∈ As.reverse ++ .ref (i + 1) :: rest := fun w hw => List.mem_append_right _ (List.mem_cons_of_mem _ hw)
  rcases r1 with v | q
  · refine bBack hM hsub ?_ (kk v G1 hQ1)
    intro p e R s m args below meth c H locs cells slots ls ad C hf hlo hc hsl hR hS hls hst hMt
    have hAs : ∀ w ∈ Value.ref (i + 1) :: As, bok G.1 w := fun w hw => hst w (by simp at hw ⊢; rcases hw with h | h <;> simp [h])
    have hrc : ∃ cellB : Cell, H[ad (i + 1)]? = some cellB ∧ cellB.vm.isStatics = false ∧ s.vm.findClass "java/lang/String" = some cellB.cls := by
      have e1 : ad (i + 1) = oK O (i + 1) := by
        rw [hR.1 (i + 1) (by omega)]
        simp [oE]
      rw [e1]
      exact vk_recv (adK := fun i => oK O (i + 1)) (i := i) C.env.2.2.2.2.2.1.1 h7 hS
    have run := vx_runV (meth := meth) (e := e) (below := below) (locs := locs) (cells := cells) (slots := slots) (g := F0 m pc ls (((As.map (bvl ad)).reverse ++ .ref (ad (i + 1)) :: rest.map (bvl ad)))) ⟨C.hx, C.hb, C.hml, C.hown, C.hts⟩ hMt ⟨bCallB C hl hx0 hdd hf hlo, C.hts _ hi, C.hts _ hs⟩ (b := ad (i + 1)) (As := As.map (bvl ad)) (rest := rest.map (bvl ad)) (H := H) ⟨bPc_blind, hrc, bPre C hR hS hAs⟩ rfl (by rw [List.length_map]; exact hn) hls rfl (lv_room (m := m) (pc := pc) (ls := ls) (rest := (((As.map (bvl ad)).reverse ++ .ref (ad (i + 1)) :: rest.map (bvl ad)))) (by rw [bcs]; exact hW)) hd ⟨hc, hsl⟩
    exact ⟨_, by rw [bst]; exact run⟩
  · exact absurd hQ1 (kx q G1)
theorem oE1 {ad : Nat → Nat} {f : bF} {H : Heap} (hR : bRep O ad f H) {r : Nat} (h1 : r ≠ 0) (h2 : r < 32) : ad r = oK O r := by
  rw [hR.1 r h2]
  simp [oE, h1]
/-- fields of a String constant -/
theorem r_getSv {ix i : Nat} (h7 : i < 7) (hw : Cond.fieldLink (mN y).cls ix "java/lang/String" "value" "[B" ∈ bW) (hd : decode (mB y) pc = .ok (.getfield ix, 3)) (kk : bV O y d (pc + 3) L (.ref (i + 8) :: st) G Q) : bV O y d pc L (.ref (i + 1) :: st) G Q := by
  refine bV.pu (fun _ h => fun z hz => (List.mem_cons.mp hz).elim (fun e => by rw [e]; exact (Or.inl (show i + 8 < 32 by omega))) (fun h9 => h z (List.mem_cons_of_mem _ h9))) (fun C hR hS hl w => ?_) kk
  rename_i ad Z
  show W _ _ _ _ _ _ _ _ _ _ _ _ _ _ _ (F0 _ _ _ (.ref (ad (i + 1)) :: _))
  rw [oE1 hR (by omega) (by omega)]
  refine vk_getf C.hx C.hb ((C.env.2.2.2.2.2.1.1.1 i h7).2.2.1) hS C.hown (C.hts _ hw) (fun _ h => h) hd ?_
  show W _ _ _ _ _ _ _ _ _ _ _ _ _ _ _ (F0 _ _ _ (.ref (oK O (i + 8)) :: _))
  rw [← oE1 hR (by omega) (by omega)]
  exact w
theorem r_getSc {ix i : Nat} (h7 : i < 7) (hw : Cond.fieldLink (mN y).cls ix "java/lang/String" "coder" "B" ∈ bW) (hd : decode (mB y) pc = .ok (.getfield ix, 3)) (kk : bV O y d (pc + 3) L (.int 0 :: st) G Q) : bV O y d pc L (.ref (i + 1) :: st) G Q := by
  refine bV.pu (fun _ h => fun z hz => (List.mem_cons.mp hz).elim (fun e => by rw [e]; trivial) (fun h9 => h z (List.mem_cons_of_mem _ h9))) (fun C hR hS hl w => ?_) kk
  rename_i ad Z
  show W _ _ _ _ _ _ _ _ _ _ _ _ _ _ _ (F0 _ _ _ (.ref (ad (i + 1)) :: _))
  rw [oE1 hR (by omega) (by omega)]
  exact vk_getf C.hx C.hb ((C.env.2.2.2.2.2.1.1.1 i h7).2.1) hS C.hown (C.hts _ hw) (fun _ h => h) hd w
/-- the bytes of a String constant -/
theorem r_elen {i : Nat} (h7 : i < 7) (hd : decode (mB y) pc = .ok (.arraylength, 1)) (kk : bV O y d (pc + 1) L (.int (nI (bLen.getD i 0)) :: st) G Q) : bV O y d pc L (.ref (i + 8) :: st) G Q := by
  refine bV.pu (fun _ h => fun z hz => (List.mem_cons.mp hz).elim (fun e => by rw [e]; trivial) (fun h9 => h z (List.mem_cons_of_mem _ h9))) (fun C hR hS hl w => ?_) kk
  rename_i ad Z
  show W _ _ _ _ _ _ _ _ _ _ _ _ _ _ _ (F0 _ _ _ (.ref (ad (i + 8)) :: _))
  rw [oE1 hR (by omega) (by omega)]
  exact va_tlen C.hx C.hb ((C.env.2.2.2.2.2.1.1.1 i h7).2.2.2) hS rfl hd w
theorem r_eld {i : Nat} {j : Int32} (h7 : i < 7) (hin : vp_in j (bLen.getD i 0)) (hd : decode (mB y) pc = .ok (.baload, 1)) (kk : bV O y d (pc + 1) L (.int ((bByt.getD i []).getD j.toNatClampNeg 0) :: st) G Q) : bV O y d pc L (.int j :: .ref (i + 8) :: st) G Q := by
  refine bV.pu (fun _ h => fun z hz => (List.mem_cons.mp hz).elim (fun e => by rw [e]; trivial) (fun h9 => h z (List.mem_cons_of_mem _ (List.mem_cons_of_mem _ h9)))) (fun C hR hS hl w => ?_) kk
  rename_i ad Z
  show W _ _ _ _ _ _ _ _ _ _ _ _ _ _ _ (F0 _ _ _ (.int j :: .ref (ad (i + 8)) :: _))
  rw [oE1 hR (by omega) (by omega)]
  exact va_tb C.hx C.hb ((C.env.2.2.2.2.2.1.1.1 i h7).2.2.2) hS hin rfl hd w
/-- statics -/
theorem r_getCS {ix : Nat} (hw : Cond.fieldLink (mN y).cls ix "java/lang/String" "COMPACT_STRINGS" "Z" ∈ bW) (hd : decode (mB y) pc = .ok (.getstatic ix, 3)) (kk : bV O y d (pc + 3) L (.int 1 :: st) G Q) : bV O y d pc L st G Q :=
  bV.pu (fun _ h => fun z hz => (List.mem_cons.mp hz).elim (fun e => by rw [e]; trivial) (fun h9 => h z h9)) (fun C hR hS hl w => va_gets C.hx C.hb C.env.2.2.2.2.2.2.1.1 hS C.hown (C.hts _ hw) (fun _ h => h) hd w) kk
/-- a static that holds null or some reference -/
theorem r_getU {ix r : Nat} {C9 n9 d9 : String} (h32 : r ≠ 0 ∧ r < 32) (hz : ∀ s : State, bEnv O s → va_Z C9 n9 d9 .null (oA O) s s.heap ∨ va_Z C9 n9 d9 (.ref (oK O r)) (oA O) s s.heap) (hw : Cond.fieldLink (mN y).cls ix C9 n9 d9 ∈ bW) (hd : decode (mB y) pc = .ok (.getstatic ix, 3)) (k1 : bV O y d (pc + 3) L (.null :: st) G Q) (k2 : bV O y d (pc + 3) L (.ref r :: st) G Q) (heq : ∀ (r1 r2 : bR) (G1 G2 : bG), bFr O y d (pc + 3) L (.null :: st) G r1 G1 → bFr O y d (pc + 3) L (.ref r :: st) G r2 G2 → Q r1 G1 → Q r2 G2 → r1 = r2 ∧ G1 = G2) : bV O y d pc L st G Q := by
  obtain ⟨r1, G1, hQ1, f1⟩ := k1
  obtain ⟨r2, G2, hQ2, f2⟩ := k2
  obtain ⟨e1, e2⟩ := heq r1 r2 G1 G2 f1 f2 hQ1 hQ2
  subst e1
  subst e2
  refine ⟨r1, G1, hQ1, f1.1, f1.2.1, f1.2.2.1, ?_⟩
  intro p e R s m args below meth c H locs cells slots ls ad Qc XC C hf hl hc hsl hR hS hls hL hst hE
  rcases hz s C.env with hz | hz
  · exact va_gets C.hx C.hb hz hS C.hown (C.hts _ hw) (fun _ h => h) hd (f1.2.2.2 p e R s m args below meth c H locs cells slots ls ad Qc XC C hf hl hc hsl hR hS hls hL (fun z hz => (List.mem_cons.mp hz).elim (fun e => by rw [e]; trivial) (hst z)) hE)
  · have k9 := f2.2.2.2 p e R s m args below meth c H locs cells slots ls ad Qc XC C hf hl hc hsl hR hS hls hL (fun z hz => (List.mem_cons.mp hz).elim (fun e => by rw [e]; exact Or.inl h32.2) (hst z)) hE
    refine va_gets C.hx C.hb hz hS C.hown (C.hts _ hw) (fun _ h => h) hd ?_
    rw [← oE1 hR h32.1 h32.2]
    exact k9
/-- System.arraycopy of ints -/
theorem r_copyi {ix r0 r1 n0 n1 : Nat} {f g : Nat → Int32} {sp dp n : Int32} (hd1 : 1 ≤ d) (hl1 : Cond.methodLink (mN y).cls ix arraycopyName ∈ bW) (hl2 : Cond.native arraycopyName ∈ bW) (hl3 : Cond.static arraycopyName ∈ bW) (hl4 : Cond.initialized "java/lang/System" ∈ bW) (hG0 : G.1 r0 = some (.inl (0, n0, .inl f))) (hG1 : G.1 r1 = some (.inl (0, n1, .inl g)))
    (h1 : ¬ sp < 0) (h2 : ¬ dp < 0) (h3 : ¬ n < 0) (h4 : sp.toNatClampNeg + n.toNatClampNeg ≤ n0) (h5 : dp.toNatClampNeg + n.toNatClampNeg ≤ n1) (hW : (st.map fun v => v.category).sum ≤ 8) (hd : decode (mB y) pc = .ok (.invokestatic ix, 3))
    (kk : bV O y d (pc + 3) L st (bU G.1 r1 (.inl (0, n1, .inl (va_cpy f g sp.toNatClampNeg dp.toNatClampNeg n.toNatClampNeg))), G.2) Q) : bV O y d pc L (.int n :: .int dp :: .ref r1 :: .int sp :: .ref r0 :: st) G Q := by
  refine bV.of (G1 := (bU G.1 r1 (.inl (0, n1, .inl (va_cpy f g sp.toNatClampNeg dp.toNatClampNeg n.toNatClampNeg))), G.2)) (Nat.le_refl _) (Nat.le_refl _) (fun _ h => bU_d h) ?_ kk
  intro p e R s m args below meth c H locs cells slots ls ad Z C hf hl hc hsl hR hS hls hL hst kk
  rw [Nat.sub_self, Nat.sub_self] at kk
  obtain ⟨Ns, F, k1, hP, hD, hk, hput, hget⟩ := hR.get hG1
  obtain ⟨k0, hk0⟩ := hget r0 _ hG0
  refine va_copyi C.hx C.hb (C.hml.trans hls.1.symm) C.hown (C.hts _ hl1) (C.hts _ hl2) (C.hts _ hl3) (C.hts _ hl4) C.hK hP hD hS k0 k1 0 0 hk0 hk rfl rfl rfl h1 h2 h3 h4 h5 (fun _ _ => rfl) (by omega) ?_ hd (fun H1 locs1 hP1 hD1 hS1 => ?_)
  · rw [bcs]
    show _ + (5 + 2 + 11) ≤ _
    omega
  · exact kk H1 locs1 ls ad (hput H1 (.inl (0, n1, .inl (va_cpy f g sp.toNatClampNeg dp.toNatClampNeg n.toNatClampNeg))) trivial hP1 hD1) hS1 hls (fun _ _ => rfl) (fun q hq => (hL q hq).up (fun _ => bU_d)) (fun z hz => (hst z (by simp [hz])).up (fun _ => bU_d))
/-- int[].clone -/
theorem r_clone {ix r0 n0 : Nat} {f : Nat → Int32} (r : Nat) (hd1 : 1 ≤ d) (hl1 : Cond.methodLink (mN y).cls ix ⟨"[I", "clone", "()Ljava/lang/Object;"⟩ ∈ bW) (hl2 : Cond.sameMethod "[I" "java/lang/Object" "clone" "()Ljava/lang/Object;" ∈ bW) (hl3 : Cond.native ⟨"java/lang/Object", "clone", "()Ljava/lang/Object;"⟩ ∈ bW) (hl4 : Cond.instanceMethod ⟨"java/lang/Object", "clone", "()Ljava/lang/Object;"⟩ ∈ bW) (hl5 : Cond.selects "[I" ⟨"[I", "clone", "()Ljava/lang/Object;"⟩ ⟨"java/lang/Object", "clone", "()Ljava/lang/Object;"⟩ ∈ bW) (hl6 : Cond.castable "[I" "java/lang/Cloneable" ∈ lw_tbl)
    (hG0 : G.1 r0 = some (.inl (0, n0, .inl f))) (hr : G.1 r = none) (h32 : 32 ≤ r) (hW : (st.map fun v => v.category).sum ≤ 8) (hd : decode (mB y) pc = .ok (.invokevirtual ix, 3))
    (kk : bV O y d (pc + 3) L (.ref r :: st) (bU G.1 r (.inl (0, n0, .inl f)), G.2.1 + 1, G.2.2 + n0) Q) : bV O y d pc L (.ref r0 :: st) G Q := by
  refine bV.of (G1 := (bU G.1 r (.inl (0, n0, .inl f)), G.2.1 + 1, G.2.2 + n0)) (Nat.le_succ _) (Nat.le_add_right _ _) (fun _ h => bU_d h) ?_ kk
  intro p e R s m args below meth c H locs cells slots ls ad Z C hf hl hc hsl hR hS hls hL hst kk
  have ec : G.2.1 + 1 - G.2.1 = 1 := by omega
  have es : G.2.2 + n0 - G.2.2 = n0 := by omega
  dsimp only at hc hsl kk
  rw [ec] at hc kk
  rw [es] at hsl kk
  have hst' : ∀ v ∈ st, bok G.1 v := fun v hv => hst v (List.mem_cons_of_mem _ hv)
  obtain ⟨Ns, F, hP, hD, hget, hpush⟩ := hR.push
  obtain ⟨k0, hk0⟩ := hget r0 _ hG0
  have hnm : s.vm.findClass "[I" = some (oC O 0) := (C.hK.2 0 _ rfl).2
  refine va_clone C.hx C.hb (C.hml.trans hls.1.symm) C.hown (C.hts _ hl1) (C.hts _ hl2) (C.hts _ hl3) (C.hts _ hl4) (C.hts _ hl5) (C.env.2.2.1 _ hl6 rfl) C.hK hP hD hS C.hA k0 0 hk0 rfl hnm ?_ (by omega) (by rw [bcs]; omega) hc hsl hd (fun q H1 hK1 hP1 hD1 hS1 => ?_)
  · intro i v hv
    exact va_fit (cA := oC O 0) (n := n0) (F := fun j => .int (f j)) (fun _ _ => rfl) i v hv
  · have e7 : (Sum.inl (oC O 0, n0, .inl f) : va_E) = bcv (oC O) ad (.inl (0, n0, .inl f)) := rfl
    rw [e7] at hP1 hD1
    obtain ⟨hR1, u1, u2⟩ := hpush H1 q r (.inl (0, n0, .inl f)) hr h32 trivial hP1 hD1
    have k9 := kk H1 locs ls (va_up ad r q) hR1 hS1 (by rw [bvl_up u2 u1 hL]; exact hls) u1 (fun q hq => (hL q hq).up (fun _ => bU_d)) (fun z hz => (List.mem_cons.mp hz).elim (fun e => by rw [e]; exact Or.inr (by rw [bU_s]; exact fun w => by cases w)) (fun h => (hst' z h).up (fun _ => bU_d)))
    have e8 : (Value.ref r :: st).map (bvl (va_up ad r q)) = .ref q :: st.map (bvl ad) := by
      rw [List.map_cons, bvs_up u2 u1 hst']
      show Value.ref (va_up ad r q r) :: _ = _
      rw [va_up_self]
    rw [e8] at k9
    exact k9
/-- checkcast of an int array -/
theorem r_castI {ix r0 n0 : Nat} {f : Nat → Int32} (hl1 : Cond.classLink (mN y).cls ix "[I" ∈ bW) (hG0 : G.1 r0 = some (.inl (0, n0, .inl f))) (hd : decode (mB y) pc = .ok (.checkcast ix, 3)) (kk : bV O y d (pc + 3) L (.ref r0 :: st) G Q) : bV O y d pc L (.ref r0 :: st) G Q := by
  refine bV.pu (fun _ h => h) (fun C hR hS hl w => ?_) kk
  obtain ⟨Ns, F, k1, hP, hD, hk, -, -⟩ := hR.get hG0
  exact va_castA C.hx C.hb C.hown (C.hts _ hl1) hP k1 hk ((C.hK.2 0 _ rfl).2) hd w
/-- athrow: what is thrown lies over the frame -/
theorem bAth {p : Program} {l : Launch} {e : Env} {R : Room} {s : State} {m : MethodId} {args : Array Value} {below : List Frame} {meth : Method} {c : Code} {H : Heap} {locs : List Loc} {cells slots : Nat} {Z : State → Prop} {ls : Array Slot} {rest : List Value} {a : Addr} {cc : ByteArray} (hx : p.tables.exec = Jvm.exec) (hb : c.code = cc) (hd : decode cc pc = .ok (.athrow, 1))
    (kk : vx_W p l e R s m args below meth c H locs cells slots Z (F0 m pc ls rest) a) : W p l e R s m args below meth c H locs cells slots Z (F0 m pc ls (.ref a :: rest)) := by
  intro T hT X
  obtain ⟨t, a1, b1⟩ := kk T hT X
  refine ⟨t, ?_, b1⟩
  subst hb
  jvm_step X.here [hx, hd, athrow.wp_sem]
  exact a1
theorem bObj {p : Program} {s : State} {m : MethodId} {args : Array Value} {meth : Method} {c : Code} {H : Heap} {ad : Nat → Nat} {r ci : Nat} {fs : List Value} {w9 : vw_C} (C : bCx O y p s m args meth c) (hR : bRep O ad G.1 H) (hG : G.1 r = some (.inr (ci, fs))) (hci : bCl[ci]? = some w9) : ∃ ce : Cell, H[ad r]? = some ce ∧ ce.vm = .none ∧ s.vm.findClass w9.1 = some ce.cls := by
  obtain ⟨Ns, F, k1, hP, hD, hk, -, -⟩ := hR.get hG
  obtain ⟨r9, h1, cell, q1, q2, q3, q4⟩ := hP k1 _ hk
  have hr : r9 = w9 := Option.some.inj (h1.symm.trans hci)
  subst hr
  exact ⟨cell, q1, q3, by rw [q2]; exact (C.hK.1 ci _ hci).2.1⟩
theorem r_athrow {q ci : Nat} {fs : List Value} {w9 : vw_C} (h32 : 32 ≤ q) (hG : G.1 q = some (.inr (ci, fs))) (hci : bCl[ci]? = some w9) (hout : ∀ x ∈ mX y, covers x pc = false) (hd : decode (mB y) pc = .ok (.athrow, 1)) (hQ : Q (.inr q) G) : bV O y d pc L (.ref q :: st) G Q := by
  refine ⟨.inr q, G, hQ, Nat.le_refl _, Nat.le_refl _, fun _ h => h, ?_⟩
  intro p e R s m args below meth c H locs cells slots ls ad Qc XC C hf hl hc hsl hR hS hls hL hst hE
  obtain ⟨ce, h1, h2, h3⟩ := bObj C hR hG hci
  refine bAth C.hx C.hb hd ?_
  exact vx_out (by rw [C.hexc]; exact hout) C.hlocks h1 h2 h3 (fun t ht _ => hE t ad (fun _ _ => rfl) (by rw [ht]; exact hR) (hS.F ht) w9.1 (ad q) (Or.inr ⟨h32, rfl, ci, fs, w9, hG, hci, rfl⟩)) hS.2.2 (Nat.le_add_right _ _) (Nat.le_add_right _ _)
/-- athrow, caught by the method's one row -/
theorem r_athrowC {q ci : Nat} {fs : List Value} {w9 : vw_C} {x : ExceptionTableEntry} {nm : String} (hG : G.1 q = some (.inr (ci, fs))) (hci : bCl[ci]? = some w9) (hX : mX y = [x]) (hcov : covers x pc = true) (h0 : x.catchType ≠ 0) (hw : Cond.classLink (mN y).cls x.catchType nm ∈ bW) (hc9 : Cond.castable w9.1 nm ∈ lw_tbl) (hd : decode (mB y) pc = .ok (.athrow, 1)) (kk : bV O y d x.handlerPc L [.ref q] G Q) : bV O y d pc L (.ref q :: st) G Q := by
  refine bV.of (Nat.le_refl _) (Nat.le_refl _) (fun _ h => h) ?_ kk
  intro p e R s m args below meth c H locs cells slots ls ad Z C hf hl hc hsl hR hS hls hL hst kk
  rw [Nat.sub_self, Nat.sub_self] at kk
  obtain ⟨ce, h1, h2, h3⟩ := bObj C hR hG hci
  refine bAth C.hx C.hb hd ?_
  refine vx_catch C.hown [] x [] (by rw [C.hexc, hX]; rfl) (fun z hz => by cases hz) hcov h0 (C.hts _ hw) (va_Nw.use rfl (C.env.2.2.1 _ hc9 rfl)) h1 h2 h3 ?_
  exact kk H locs ls ad hR hS hls (fun _ _ => rfl) hL (fun z hz => hst z (by simp at hz; rw [hz]; exact List.mem_cons_self))
end
