/-! ===== the calls by their kinds; a method's contract out of the walk of its body ===== -/
section
variable {O : bO} {y : bM} {d pc tgt : Nat} {L : List (Nat × Value)} {st : List Value} {G : bG} {Q : bR → bG → Prop}
theorem bcs (ad : Nat → Nat) (st : List Value) : ((st.map (bvl ad)).map fun v => v.category) = st.map fun v => v.category := by
  rw [List.map_map]
  exact List.map_congr_left (fun v _ => bvl_cat ad v)
theorem bWarm {p : Program} {s : State} {m : MethodId} {args : Array Value} {meth : Method} {c : Code} {z : bM} (C : bCx O y p s m args meth c) (h : bCode z ∈ bW) : ∀ w ∈ bCode z :: bW, ∀ (a' : Array Value) (U : State), s.WarmedH U.vm → w.before a' U = true := by
  intro w hw a' U hW
  have hw' : w ∈ bW := (List.mem_cons.mp hw).elim (fun e => by rw [e]; exact h) id
  exact word_at hW (bW_good w hw').2 (C.hts w hw')
theorem bLen_of {z : bM} {n : Nat} (h : (parseMethodDescriptor (mN z).desc).map (fun d => d.parameters.length) = some n) : ∀ sig, parseMethodDescriptor (mN z).desc = some sig → n = sig.parameters.length := by
  intro sig hs
  rw [hs] at h
  exact (Option.some.inj h).symm
theorem bCallB {p : Program} {R : Room} {s : State} {m : MethodId} {args : Array Value} {meth : Method} {c : Code} {z : bM} {ix n dz mc ms : Nat} (C : bCx O y p s m args meth c) (hl : bLk (mN y).cls ix z n) (hx0 : mX z = []) (hdd : dz + 1 ≤ d) (hf : d ≤ R.frames) (hlo : 64 * d ≤ R.locals) :
    CallB R s args (mN y).cls ix (mN z) (mB z) (mL z) (mR z) (bCode z :: bW) { frames := dz, cells := mc, slots := ms, locals := 64 * dz } mc ms n := by
  obtain ⟨h1, h2, h3, h4, h5, h6⟩ := hl
  have hc : bCode z = .code (mN z) (mB z) (mL z) (mR z) := by unfold bCode; rw [hx0]
  refine ⟨rfl, rfl, ?_, ?_, bWarm C h1, by rw [hc]; exact List.mem_cons_self, by rw [← hc]; exact C.hts _ h1, C.hts _ h2, h3, bLen_of h4, C.hts _ h6⟩
  · show dz + 1 ≤ R.frames
    omega
  · show 8 + (mL z + 11) + 64 * dz ≤ R.locals
    omega
theorem bPre {p : Program} {s : State} {m : MethodId} {args : Array Value} {meth : Method} {c : Code} {H : Heap} {locs : List Loc} {ad : Nat → Nat} {As : List Value} (C : bCx O y p s m args meth c) (hR : bRep O ad G.1 H) (hS : va_S (oA O) s.heap H locs) (hA : ∀ w ∈ As, bok G.1 w) : ∀ U : State, U.heap = H → s.WarmedH U.vm → bPc O ad As G ((As.map (bvl ad)).toArray) U :=
  fun U hU hW => ⟨rfl, C.env.moved hW hU hS, by rw [hU]; exact hR, hA⟩
theorem bRcv {p : Program} {s : State} {m : MethodId} {args : Array Value} {meth : Method} {c : Code} {H : Heap} {ad : Nat → Nat} {r ci : Nat} {fs : List Value} {w9 : vw_C} (C : bCx O y p s m args meth c) (hR : bRep O ad G.1 H) (hG : G.1 r = some (.inr (ci, fs))) (hci : bCl[ci]? = some w9) : ∃ cellB : Cell, H[ad r]? = some cellB ∧ cellB.vm.isStatics = false ∧ s.vm.findClass w9.1 = some cellB.cls := by
  obtain ⟨Ns, F, k1, hP, hD, hk, -, -⟩ := hR.get hG
  exact va_recv C.hK hP hci hk
theorem bst {As rest : List Value} {ad : Nat → Nat} {r : Nat} : (As.reverse ++ .ref r :: rest).map (bvl ad) = (As.map (bvl ad)).reverse ++ .ref (ad r) :: rest.map (bvl ad) := by
  rw [List.map_append, List.map_reverse]
  rfl
/-- invokevirtual -/
theorem r_callV {z : bM} {ix r ci n dz : Nat} {As rest st0 : List Value} {fs : List Value} {w9 : vw_C} {Q' : bR → bG → Prop} (hC : bCall O z dz (.ref r :: As) G Q') (hst0 : As.reverse ++ .ref r :: rest = st0) (hl : bLk (mN y).cls ix z n) (hi : Cond.instanceMethod (mN z) ∈ bW) (hs : Cond.selects w9.1 (mN z) (mN z) ∈ bW) (hx0 : mX z = []) (hG : G.1 r = some (.inr (ci, fs))) (hci : bCl[ci]? = some w9) (hn : As.length = n) (hdd : dz + 1 ≤ d) (hW : (rest.map fun v => v.category).sum ≤ 8)
    (hd : decode (mB y) pc = .ok (.invokevirtual ix, 3)) (kk : ∀ (v : Option Value) (G1 : bG), Q' (.inl v) G1 → bV O y d (pc + 3) L (v.toList ++ rest) G1 Q) (kx : ∀ (q : Nat) (G1 : bG), Q' (.inr q) G1 → (∀ x ∈ mX y, covers x pc = false) ∧ Q (.inr q) G1) : bV O y d pc L st0 G Q := by
  subst hst0
  obtain ⟨r1, G1, hQ1, hM⟩ := hC
  have hsub : ∀ w ∈ rest, w ∈ As.reverse ++ .ref r :: rest := fun w hw => List.mem_append_right _ (List.mem_cons_of_mem _ hw)
  rcases r1 with v | q
  · refine bBack hM hsub ?_ (kk v G1 hQ1)
    intro p e R s m args below meth c H locs cells slots ls ad C hf hlo hc hsl hR hS hls hst hMt
    have hAs : ∀ w ∈ Value.ref r :: As, bok G.1 w := fun w hw => hst w (by simp at hw ⊢; rcases hw with h | h <;> simp [h])
    have run := vx_runV (meth := meth) (e := e) (below := below) (locs := locs) (cells := cells) (slots := slots) (g := F0 m pc ls (((As.map (bvl ad)).reverse ++ .ref (ad r) :: rest.map (bvl ad)))) ⟨C.hx, C.hb, C.hml, C.hown, C.hts⟩ hMt ⟨bCallB C hl hx0 hdd hf hlo, C.hts _ hi, C.hts _ hs⟩ (b := ad r) (As := As.map (bvl ad)) (rest := rest.map (bvl ad)) (H := H) ⟨bPc_blind, bRcv C hR hG hci, bPre C hR hS hAs⟩ rfl (by rw [List.length_map]; exact hn) hls rfl (lv_room (m := m) (pc := pc) (ls := ls) (rest := (((As.map (bvl ad)).reverse ++ .ref (ad r) :: rest.map (bvl ad)))) (by rw [bcs]; exact hW)) hd ⟨hc, hsl⟩
    exact ⟨_, by rw [bst]; exact run⟩
  · obtain ⟨hout, hQ⟩ := kx q G1 hQ1
    refine bBackX (rest := rest) hM hout ?_ hQ
    intro p e R s m args below meth c H locs cells slots ls ad C hf hlo hc hsl hR hS hls hst hMt
    have hAs : ∀ w ∈ Value.ref r :: As, bok G.1 w := fun w hw => hst w (by simp at hw ⊢; rcases hw with h | h <;> simp [h])
    have run := vx_runV (meth := meth) (e := e) (below := below) (locs := locs) (cells := cells) (slots := slots) (g := F0 m pc ls (((As.map (bvl ad)).reverse ++ .ref (ad r) :: rest.map (bvl ad)))) ⟨C.hx, C.hb, C.hml, C.hown, C.hts⟩ hMt ⟨bCallB C hl hx0 hdd hf hlo, C.hts _ hi, C.hts _ hs⟩ (b := ad r) (As := As.map (bvl ad)) (rest := rest.map (bvl ad)) (H := H) ⟨bPc_blind, bRcv C hR hG hci, bPre C hR hS hAs⟩ rfl (by rw [List.length_map]; exact hn) hls rfl (lv_room (m := m) (pc := pc) (ls := ls) (rest := (((As.map (bvl ad)).reverse ++ .ref (ad r) :: rest.map (bvl ad)))) (by rw [bcs]; exact hW)) hd ⟨hc, hsl⟩
    exact ⟨_, by rw [bst]; exact run⟩
theorem bst2 {As rest : List Value} {ad : Nat → Nat} : (As.reverse ++ rest).map (bvl ad) = (As.map (bvl ad)).reverse ++ rest.map (bvl ad) := by
  rw [List.map_append, List.map_reverse]
/-- invokestatic, a method that doesn't throw here -/
theorem r_callS {z : bM} {ix n dz : Nat} {As rest st0 : List Value} {Q' : bR → bG → Prop} (hC : bCall O z dz As G Q') (hst0 : As.reverse ++ rest = st0) (hl : bLk (mN y).cls ix z n) (hi : Cond.static (mN z) ∈ bW) (hx0 : mX z = []) (hn : As.length = n) (hdd : dz + 1 ≤ d) (hW : (rest.map fun v => v.category).sum ≤ 8)
    (hd : decode (mB y) pc = .ok (.invokestatic ix, 3)) (kk : ∀ (v : Option Value) (G1 : bG), Q' (.inl v) G1 → bV O y d (pc + 3) L (v.toList ++ rest) G1 Q) (kx : ∀ (q : Nat) (G1 : bG), ¬ Q' (.inr q) G1) : bV O y d pc L st0 G Q := by
  subst hst0
  obtain ⟨r1, G1, hQ1, hM⟩ := hC
  have hsub : ∀ w ∈ rest, w ∈ As.reverse ++ rest := fun w hw => List.mem_append_right _ hw
  rcases r1 with v | q
  · refine bBack hM hsub ?_ (kk v G1 hQ1)
    intro p e R s m args below meth c H locs cells slots ls ad C hf hlo hc hsl hR hS hls hst hMt
    have hAs : ∀ w ∈ As, bok G.1 w := fun w hw => hst w (by simp; exact Or.inl hw)
    have run := vx_runS (meth := meth) (e := e) (below := below) (locs := locs) (cells := cells) (slots := slots) (g := F0 m pc ls ((As.map (bvl ad)).reverse ++ rest.map (bvl ad))) ⟨C.hx, C.hb, C.hml, C.hown, C.hts⟩ hMt ⟨bCallB C hl hx0 hdd hf hlo, C.hts _ hi⟩ (As := As.map (bvl ad)) (rest := rest.map (bvl ad)) (H := H) ⟨bPc_blind, bPre C hR hS hAs⟩ rfl (by rw [List.length_map]; exact hn) hls rfl (lv_room (m := m) (pc := pc) (ls := ls) (rest := ((As.map (bvl ad)).reverse ++ rest.map (bvl ad))) (by rw [bcs]; exact hW)) hd ⟨hc, hsl⟩
    exact ⟨_, by rw [bst2]; exact run⟩
  · exact absurd hQ1 (kx q G1)
theorem bMet_vx {l : Launch} {y : MethodName} {ws : List Cond} {rm : Room} {Pc : Array Value → State → Prop} {Qc : Array Value → State → Outcome → State → Prop} {XC : String → Addr → State → State → Prop} {mc ms : Nat} {free : Addr → Prop} (h : vx_Met l y ws rm Pc Qc XC mc ms free) (hx : ∀ E q s t, ¬ XC E q s t) : Met l y ws rm Pc Qc mc ms free := by
  intro p e h1 h2 h3 s m args below h4 h5 h6 h7
  obtain ⟨n, o, a1, a2, a3, a4⟩ := h p e h1 h2 h3 s m args below h4 h5 h6 h7
  refine ⟨n, o, a1, a2, a3, ?_⟩
  rcases a4 with h9 | ⟨q, -, E, ce, L9, h9, -⟩
  · exact h9
  · exact absurd h9 (hx E q _ _)
theorem vaRun_vx {p : Program} {l : Launch} {e : Env} {R : Room} {s : State} {m : MethodId} {args : Array Value} {below : List Frame} {meth : Method} {c : Code} {H : Heap} {locs : List Loc} {cells slots mc ms : Nat} {g : JFrame} {rest : List Value} {Qa : State → Outcome → State → Prop} {XC : String → Addr → State → State → Prop} {free : Addr → Prop} (h : va_Run p l e R s m args below meth c H locs cells slots mc ms g rest Qa free) : vx_Run p l e R s m args below meth c H locs cells slots mc ms g rest Qa XC free :=
  fun T hT X => Or.inl (h T hT X)
/-- invokespecial of a constructor -/
theorem r_callI {z : bM} {ix r n dz : Nat} {As rest st0 : List Value} {Q' : bR → bG → Prop} (hC : bCall O z dz (.ref r :: As) G Q') (hst0 : As.reverse ++ .ref r :: rest = st0) (hl : bLk (mN y).cls ix z n) (hi : Cond.instanceMethod (mN z) ∈ bW) (hnm : (mN z).name = "<init>") (hr0 : mR z = none) (hx0 : mX z = []) (hn : As.length = n) (hdd : dz + 1 ≤ d) (hW : (rest.map fun v => v.category).sum ≤ 8)
    (hd : decode (mB y) pc = .ok (.invokespecial ix, 3)) (kk : ∀ (v : Option Value) (G1 : bG), Q' (.inl v) G1 → bV O y d (pc + 3) L (v.toList ++ rest) G1 Q) (kx : ∀ (q : Nat) (G1 : bG), ¬ Q' (.inr q) G1) : bV O y d pc L st0 G Q := by
  subst hst0
  obtain ⟨r1, G1, hQ1, hM⟩ := hC
  have hsub : ∀ w ∈ rest, w ∈ As.reverse ++ .ref r :: rest := fun w hw => List.mem_append_right _ (List.mem_cons_of_mem _ hw)
  rcases r1 with v | q
  · refine bBack hM hsub ?_ (kk v G1 hQ1)
    intro p e R s m args below meth c H locs cells slots ls ad C hf hlo hc hsl hR hS hls hst hMt
    have hAs : ∀ w ∈ Value.ref r :: As, bok G.1 w := fun w hw => hst w (by simp at hw ⊢; rcases hw with h | h <;> simp [h])
    have hB : CallB R s args (mN y).cls ix (mN z) (mB z) (mL z) none (bCode z :: bW) { frames := dz, cells := G1.2.1 - G.2.1, slots := G1.2.2 - G.2.2, locals := 64 * dz } (G1.2.1 - G.2.1) (G1.2.2 - G.2.2) n := by
      rw [← hr0]; exact bCallB C hl hx0 hdd hf hlo
    have run := va_runI (meth := meth) (e := e) (below := below) (locs := locs) (cells := cells) (slots := slots) (g := F0 m pc ls (((As.map (bvl ad)).reverse ++ .ref (ad r) :: rest.map (bvl ad)))) ⟨C.hx, C.hb, C.hml, C.hown, C.hts⟩ (bMet_vx hMt (fun E q s t ⟨q9, ad9, h9, _⟩ => by cases h9)) ⟨hB, hnm, C.hts _ hi⟩ (b := ad r) (As := As.map (bvl ad)) (rest := rest.map (bvl ad)) (H := H) ⟨bPc_blind, bPre C hR hS hAs⟩ rfl (by rw [List.length_map]; exact hn) hls rfl (lv_room (m := m) (pc := pc) (ls := ls) (rest := (((As.map (bvl ad)).reverse ++ .ref (ad r) :: rest.map (bvl ad)))) (by rw [bcs]; exact hW)) hd ⟨hc, hsl⟩
    exact ⟨_, by rw [bst]; exact vaRun_vx run⟩
  · exact absurd hQ1 (kx q G1)
theorem bargs (ad : Nat → Nat) (As : List Value) : ∀ i : Nat, lv_args i (As.map (bvl ad)) = (lv_args i As).map (fun q => (q.1, bvl ad q.2)) := by
  induction As with
  | nil => intro i; rfl
  | cons v t ih =>
    intro i
    show (i, bvl ad v) :: lv_args _ _ = (i, bvl ad v) :: _
    rw [bvl_cat, ih]
theorem bargs_ok {f : bF} {As : List Value} (h : ∀ w ∈ As, bok f w) : ∀ i : Nat, ∀ q ∈ lv_args i As, bok f q.2 := by
  induction As with
  | nil => intro i q hq; cases hq
  | cons v t ih =>
    intro i q hq
    rcases List.mem_cons.mp hq with rfl | hq
    · exact h _ List.mem_cons_self
    · exact ih (fun w hw => h w (List.mem_cons_of_mem _ hw)) _ q hq
theorem bsl_len (ad : Nat → Nat) (As : List Value) : (lg_sl (As.map (bvl ad))).length = (lg_sl As).length := by
  induction As with
  | nil => rfl
  | cons v t ih =>
    simp only [lg_sl, List.map_cons, List.flatMap_cons, List.length_append] at ih ⊢
    rw [ih, bvl_cat]
    split <;> rfl
/-- the contract -/
theorem bCall_of {As : List Value} (hp : plainName (mN y).cls = true) (hx0 : mX y = []) (hlen : (lg_sl As).length ≤ mL y) (k : bV O y d 0 (lv_args 0 As) [] G Q) : bCall O y d As G Q := by
  obtain ⟨r, G', hQ, k1, k2, k3, k4⟩ := k
  refine ⟨r, G', hQ, k1, k2, k3, fun ad => ?_⟩
  have hc : bCode y = .code (mN y) (mB y) (mL y) (mR y) := by unfold bCode; rw [hx0]
  refine vx_ofW (cc := mB y) (maxL := mL y) (ret := mR y) (ws' := bW) hp (by rw [hc]) ?_
  intro p e s m args below meth c s₁ B hml hex ⟨hv, hE, hR, hok⟩
  subst hv
  have hts : ∀ w ∈ bCode y :: bW, w.before _ s = true := atoms_spec (ws := bCode y :: bW) B.pre
  have C : bCx O y p s m ((As.map (bvl ad)).toArray) meth c := ⟨B.exec, B.bytes, B.returns, hml, findClass_of_methodNamed B.named, fun w hw => hts w (List.mem_cons_of_mem _ hw), hE, B.notSynchronized, (name_of_methodNamed B.named B.method).1, by rw [hx0]; exact List.eq_nil_iff_forall_not_mem.mpr hex⟩
  have hl := lv_entry (As.map (bvl ad)) (n := mL y) (by rw [bsl_len]; exact hlen)
  rw [lg_entry_eq]
  rw [bargs] at hl
  have k5 := k4 p e (headSpec (bCode y :: bW) { frames := d, cells := G'.2.1 - G.2.1, slots := G'.2.2 - G.2.2, locals := 64 * d }).room s m ((As.map (bvl ad)).toArray) below meth c s.heap [] 0 0 _ ad (bQc O ad G r G') (bXc O ad G r G') C (Nat.le_refl _) (Nat.le_refl _) (by rw [Nat.zero_add]; exact Nat.le_refl _) (by rw [Nat.zero_add]; exact Nat.le_refl _) hR va_S.rf hl (bargs_ok hok 0) (fun v hv => by cases hv) ?_
  · rw [Nat.zero_add, Nat.zero_add] at k5
    exact k5
  · intro t ad' h1 h2 h3
    rcases r with v | q
    · exact fun h4 => ⟨v, ad', rfl, rfl, h1, h2, h3, h4⟩
    · exact fun E a h4 => ⟨q, ad', rfl, h4, h1, h2, h3⟩
end
