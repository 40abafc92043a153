/-! ===== .. and thrown ===== -/
abbrev nseN : String := "java/util/NoSuchElementException"
abbrev nseL : List String := ["java/lang/RuntimeException", "java/lang/Exception"]
def nseA : List Cond := (Bundle.ownAtomsX RX7 281 nseN 13 prog_24_method_4_code nseL).filter vx_no
theorem nse_in : ∀ w ∈ nseA, w ∈ lw_tbl := by decide +kernel
theorem nse_ot : ∀ w ∈ nseA, vx_ot w = true := by decide +kernel
theorem nse_x0 : decode prog_24_method_4_code 0 = .ok (.aload_n 0, 1) := by decide +kernel
theorem nse_x1 : decode prog_24_method_4_code 1 = .ok (.aload_n 1, 1) := by decide +kernel
theorem nse_x2 : decode prog_24_method_4_code 2 = .ok (.invokespecial 13, 3) := by decide +kernel
theorem nse_x5 : decode prog_24_method_4_code 5 = .ok (.return_, 1) := by decide +kernel
def nseB : List Cond := [.castable nseN nseN, .declares (Bundle.initS "java/lang/RuntimeException"), .declares (Bundle.initS "java/lang/Exception"), .declares (Bundle.initS Bundle.tN)]
theorem nse_no : ∀ w ∈ nseA.filter (fun w => !goodWord w), w ∈ nseB := by decide +kernel
theorem nse_g : ∀ w ∈ nseA.filter goodWord, w ∈ bW := fun w h => bW_of (nse_in w (List.mem_filter.mp h).1) (List.mem_filter.mp h).2
theorem nse_c : Cond.castable nseN nseN ∈ lw_tbl := by decide +kernel
theorem nse_k : Cond.classLink RX7 277 nseN ∈ bW := bW_of (by decide +kernel) rfl
theorem nse_i : Cond.initialized nseN ∈ bW := bW_of (by decide +kernel) rfl
theorem declares_of {args : Array Value} {s : State} {x : MethodName} {b : ByteArray} {n : Nat} {r : Option FieldType} (h1 : (Cond.instanceMethod x).before args s = true) (h2 : (Cond.code x b n r).before args s = true) : (Cond.declares x).before args s = true := by
  obtain ⟨m, meth, hn, hm, hs, -⟩ := Cond.instanceMethod_spec h1
  obtain ⟨meth', c, hm', -, -, -, -, -, -, hp⟩ := Cond.code_spec hn h2
  cases Option.some.inj (hm.symm.trans hm')
  simp [Cond.before, Cond.holds, Cond.value, hn, hm, hs, hp]
theorem nse_w1 : Cond.instanceMethod (Bundle.initS "java/lang/RuntimeException") ∈ bW ∧ Cond.code (Bundle.initS "java/lang/RuntimeException") prog_17_method_2_code 2 none ∈ bW := ⟨bW_of (by decide +kernel) rfl, bW_of (by decide +kernel) rfl⟩
theorem nse_w2 : Cond.instanceMethod (Bundle.initS "java/lang/Exception") ∈ bW ∧ Cond.code (Bundle.initS "java/lang/Exception") prog_15_method_2_code 2 none ∈ bW := ⟨bW_of (by decide +kernel) rfl, bW_of (by decide +kernel) rfl⟩
theorem nse_w3 : Cond.instanceMethod (Bundle.initS Bundle.tN) ∈ bW ∧ Cond.code (Bundle.initS Bundle.tN) prog_22_method_2_code 2 none ∈ bW := ⟨bW_of (by decide +kernel) rfl, bW_of (by decide +kernel) rfl⟩
section
variable {O : bO} {y : bM} {d pc tgt : Nat} {L : List (Nat × Value)} {st : List Value} {G : bG} {Q : bR → bG → Prop}
theorem nse_at {p : Program} {s : State} {m : MethodId} {args : Array Value} {meth : Method} {c : Code} (C : bCx O y p s m args meth c) : ∀ w ∈ nseA, w.before args s = true :=
  vx_hat (fun w h => C.hts w (nse_g w h)) nse_no (vx_c (va_Nw.use rfl (C.env.2.2.1 _ nse_c rfl)) (vx_c (declares_of (C.hts _ nse_w1.1) (C.hts _ nse_w1.2)) (vx_c (declares_of (C.hts _ nse_w2.1) (C.hts _ nse_w2.2)) (vx_c (declares_of (C.hts _ nse_w3.1) (C.hts _ nse_w3.2)) vx_n))))
theorem r_throwN (hy : (mN y).cls = RX7) (hX : mX y = []) (hdd : 6 ≤ d) (d0 : decode (mB y) pc = .ok (.new 277, 3)) (d3 : decode (mB y) (pc + 3) = .ok (.dup, 1)) (d4 : decode (mB y) (pc + 4) = .ok (.ldc_w 279, 3)) (d7 : decode (mB y) (pc + 7) = .ok (.invokespecial 281, 3)) (d10 : decode (mB y) (pc + 10) = .ok (.athrow, 1))
    (hQ : Q (.inr 0) (G.1, G.2.1 + 1, G.2.2 + 6)) : bV O y d pc L [] G Q := by
  refine ⟨.inr 0, (G.1, G.2.1 + 1, G.2.2 + 6), hQ, Nat.le_succ _, Nat.le_add_right _ _, fun _ h => h, ?_⟩
  intro p e R s m args below meth c H locs cells slots ls ad Qc XC C hf hlo hc hsl hR hS hls hL hst hE
  have ec : G.2.1 + 1 - G.2.1 = 1 := by omega
  have es : G.2.2 + 6 - G.2.2 = 6 := by omega
  simp only [] at hc hsl ⊢
  rw [ec] at hc ⊢
  rw [es] at hsl ⊢
  have hown : s.vm.findClass RX7 = some m.cls := by rw [← hy]; exact C.hown
  have hstr : vk_R RX7 279 "no such differing answer" (oK O 7) s := C.env.2.2.2.2.2.1.2 ("ModelShelf", 279, "no such differing answer", 6) (by decide)
  have hU := C.env.2.2.2.2.2.2.1.2.1
  have hN := C.env.2.2.2.2.2.2.1.2.2.1
  intro T hT X
  have htr : e.platform.stackTraces = false := (show e.platform.stackTraces = (oL O).stackTraces by rw [X.admits.platform]).trans C.env.2.2.2.2.2.2.2
  have Y := vx_rebase X (R' := { frames := R.frames, locals := R.locals, cells := 1, slots := 6 }) (Nat.le_refl _) (Nat.le_refl _) hc hsl
  obtain ⟨s', hA⟩ : ∃ z, z = (T.setVm s.vm).setFrames (.invoking m args :: below) := ⟨_, rfl⟩
  rw [← hA] at Y
  have hvm : s'.vm = s.vm := by rw [hA]; rfl
  have hhp : s'.heap = H := by rw [hA]; exact hT
  have hW0 : s.WarmedH s'.vm := by rw [hvm]; exact State.WarmedH.refl s
  have hat' : ∀ w ∈ nseA, w.before args s' = true := fun w hw => vx_ot_at hW0 hvm.symm (nse_ot w hw) (nse_at C w hw)
  have hk' : (Cond.classLink RX7 277 nseN).before args s' = true := vx_ot_at hW0 hvm.symm (by decide) (C.hts _ nse_k)
  have hini' : (Cond.initialized nseN).before args s' = true := vx_ot_at hW0 hvm.symm (by decide) (C.hts _ nse_i)
  have hU' : vx_Zq Bundle.tN "UNASSIGNED_STACK" Bundle.steD (oA O) s' s'.heap := by rw [hhp]; exact vx_Zq.moved hW0.alike (hU.kept hS.2.1)
  have hN' : vx_Zq Bundle.tN "SUPPRESSED_SENTINEL" Bundle.listD (oA O) s' s'.heap := by rw [hhp]; exact vx_Zq.moved hW0.alike (hN.kept hS.2.1)
  have h : ∀ w ∈ Bundle.ownAtomsX RX7 281 nseN 13 prog_24_method_4_code nseL, w.before args s' = true := vx_own hat' (vx_isRefq hU'.1) (vx_isRefq hN'.1) hU'.2.word hN'.2.word
  have hown' : s'.vm.findClass RX7 = some m.cls := by rw [hvm]; exact hown
  have hins : (Cond.instantiable nseN 6).before args s' = true := h _ (by simp [Bundle.ownAtomsX])
  obtain ⟨vm₁, cX, kX, hfX, hkX, -, -, X₁, st1⟩ := Y.newCold C.hx (own := RX7) (C := nseN) (index := 277) (n := 6) hown' hk' hins hini'
    (g := F0 m pc ls []) rfl (by rw [C.hb]; exact d0) (Nat.le_refl _) (Nat.le_refl _)
  generalize hT1 : (T.setVm vm₁).pushCell { cls := cX, slots := kX.instanceTypes.map defaultValue, vm := .none } = T1 at X₁ st1
  have hcat : (Value.ref T.heap.size).category = 1 := rfl
  have hcellA : T1.heap[T.heap.size]? = some (freshCell cX kX) := by rw [← hT1]; exact State.heap_pushCell_size _ _
  have d3' : decode c.code (pc + 3) = .ok (.dup, 1) := by rw [C.hb]; exact d3
  have d4' : decode c.code (pc + 4) = .ok (.ldc_w 279, 3) := by rw [C.hb]; exact d4
  have hstr' : vk_R RX7 279 "no such differing answer" (oK O 7) s' := vk_R.warm hW0 hstr
  obtain ⟨U, hsteps, hrun, hend, hW, hsame, ce, hce, hcl, hcv⟩ := nseCtor X₁ C.hx htr (own := RX7) (cls := nseN) (names := nseL) (ic := 281) nse_x0 nse_x1 nse_x2 nse_x5 hown' (by decide +kernel) (by decide +kernel) h rfl hfX hkX hcellA (by rw [hhp, hT]; exact Nat.le_refl _) (msg := .ref (oK O 7)) rfl
    (g := { method := m, pc := pc + 7, locals := ls, stack := .ref (oK O 7) :: .ref T.heap.size :: .ref T.heap.size :: [], locked := none }) rfl (hls.1.trans C.hml.symm) rfl rfl (rest := []) rfl
    (by rw [C.hb]; exact d7) (by rw [C.hb]; exact d10) (by rw [C.hexc, hX]; exact fun x hx => nomatch hx) (by show 2 + 3 < R.frames; omega) (by simp only [List.map_cons, List.map_nil, List.sum_cons, List.sum_nil, hcat]; show 2 * 0 + (1 + 0) + (13 * (2 + 1) + 42) ≤ R.locals; omega) C.hlocks
  obtain ⟨f1, f2⟩ := vx_frame hsame
  rw [hhp] at f1 f2
  have f3 : ∀ q : Nat, q < H.size → U.heap[q]? = H[q]? := fun q hq => f2 q hq (fun z hz => nomatch hz)
  have hWs : s.WarmedH U.vm := State.WarmedH.trans hW0 hW
  rw [hvm] at hcl
  have hall : s.sameButNew ({ U with vm := s.vm } : State) locs (cells + 1) (slots + 6) := by
    subst hA
    obtain ⟨e1, e2⟩ := hsame
    rw [State.setFrames_setFrames] at e1
    have h2 : (T.setVm s.vm).sameButNew ({ U with vm := s.vm } : State) [] (0 + 1) (0 + 6) := ⟨e1, e2⟩
    have h3 := X.same.trans h2
    rw [List.append_nil] at h3
    exact h3.mono (Nat.le_refl _) (Nat.le_refl _)
  have hR2 : bRep O ad G.1 U.heap := by
    obtain ⟨r1, r2, Ns, F, hP, hD, hfr⟩ := hR
    exact ⟨r1, r2, Ns, F, hP.kept (fun k q hk => f3 _ (vx_lt hP hk)), hD, hfr⟩
  have hF2 : va_F (oA O) s U := ⟨Nat.le_trans hS.1 f1, fun q h1 h2 => (f3 q (Nat.lt_of_lt_of_le h1 hS.1)).trans (hS.2.1 q h1 h2)⟩
  refine ⟨U, ?_, .threw T.heap.size, hrun, hend, Or.inr ⟨T.heap.size, rfl, nseN, ce, locs, hE U ad (fun _ _ => rfl) hR2 hF2 nseN T.heap.size (Or.inl ⟨rfl, rfl⟩), hce, hcv, hcl, hWs, hall, hS.2.2⟩⟩
  refine st1 _ ?_
  show Steps p.tables e below (T1.setTop { method := m, pc := pc + 3, locals := ls, stack := .ref T.heap.size :: [], locked := none }) _
  have hexec := C.hx
  jvm_step X₁.here [X₁.here.top, hexec, d3', Value.category]
  exact X₁.ldcStringW hexec (own := RX7) (text := "no such differing answer") (index := 279) (a := oK O 7) hown' hstr'.1 hstr'.2
    (g := { method := m, pc := pc + 4, locals := ls, stack := .ref T.heap.size :: .ref T.heap.size :: [], locked := none }) rfl d4' _ hsteps
end
