/-! ===== what is thrown and caught ===== -/
section
variable {O : bO} {y : bM} {d pc tgt : Nat} {L : List (Nat × Value)} {st : List Value} {G : bG} {Q : bR → bG → Prop}
theorem bCode_h {z : bM} {x : ExceptionTableEntry} (h : mX z = [x]) : bCode z = .codeWith (mN z) (mB z) (mL z) (mR z) [(x.startPc, x.endPc, x.handlerPc, x.catchType)] := by
  unfold bCode
  rw [h]
  rfl
/-- the contract of a method with one handler -/
theorem bCall_ofH {As : List Value} {x : ExceptionTableEntry} (hp : plainName (mN y).cls = true) (hx0 : mX y = [x]) (hlen : (lg_sl As).length ≤ mL y) (k : bV O y d 0 (lv_args 0 As) [] G Q) : bCall O y d As G Q := by
  obtain ⟨r, G', hQ, k1, k2, k3, k4⟩ := k
  refine ⟨r, G', hQ, k1, k2, k3, fun ad => ?_⟩
  have hc := bCode_h hx0
  refine vx_ofWH (cc := mB y) (maxL := mL y) (ret := mR y) (ws' := bW) (hh := [(x.startPc, x.endPc, x.handlerPc, x.catchType)]) hp (by rw [hc]) ?_
  intro p e s m args below meth c s₁ B hml ⟨hv, hE, hR, hok⟩
  subst hv
  have hts : ∀ w ∈ bCode y :: bW, w.before _ s = true := atoms_spec (ws := bCode y :: bW) B.pre
  have htab : c.exceptionTable.toList = mX y := by
    have h9 := vx_table (x := mN y) B (by rw [← hc]; exact hts _ List.mem_cons_self)
    rw [h9, hx0]
    rfl
  have C : bCx O y p s m ((As.map (bvl ad)).toArray) meth c := ⟨B.exec, B.bytes, B.returns, hml, findClass_of_methodNamed B.named, fun w hw => hts w (List.mem_cons_of_mem _ hw), hE, B.notSynchronized, (name_of_methodNamed B.named B.method).1, htab⟩
  have hl := lv_entry (As.map (bvl ad)) (n := mL y) (by rw [bsl_len]; exact hlen)
  rw [lg_entry_eq]
  rw [bargs] at hl
  have k5 := k4 p e (headSpec (bCode y :: bW) { frames := d, cells := G'.2.1 - G.2.1, slots := G'.2.2 - G.2.2, locals := 64 * d }).room s m ((As.map (bvl ad)).toArray) below meth c s.heap [] 0 0 _ ad (bQc O ad G r G') (bXc O ad G r G') C (Nat.le_refl _) (Nat.le_refl _) (by rw [Nat.zero_add]; exact Nat.le_refl _) (by rw [Nat.zero_add]; exact Nat.le_refl _) hR va_S.rf hl (bargs_ok hok 0) (fun v hv => by cases hv) ?_
  · rw [Nat.zero_add, Nat.zero_add] at k5
    exact k5
  · intro t ad' h1 h2 h3
    rcases r with v | q
    · exact fun h4 => ⟨v, ad', rfl, rfl, h1, h2, h3, h4⟩
    · exact fun E a h4 => ⟨q, ad', rfl, h4, h1, h2, h3⟩
/-- invokevirtual of a method with a handler that doesn't throw here -/
theorem r_callVH {z : bM} {x : ExceptionTableEntry} {ix r ci n dz : Nat} {As rest st0 : List Value} {fs : List Value} {w9 : vw_C} {Q' : bR → bG → Prop} (hC : bCall O z dz (.ref r :: As) G Q') (hst0 : As.reverse ++ .ref r :: rest = st0) (hl : bLk (mN y).cls ix z n) (hi : Cond.instanceMethod (mN z) ∈ bW) (hs : Cond.selects w9.1 (mN z) (mN z) ∈ bW) (hx0 : mX z = [x]) (hG : G.1 r = some (.inr (ci, fs))) (hci : bCl[ci]? = some w9) (hn : As.length = n) (hdd : dz + 1 ≤ d) (hW : (rest.map fun v => v.category).sum ≤ 8)
    (hd : decode (mB y) pc = .ok (.invokevirtual ix, 3)) (kk : ∀ (v : Option Value) (G1 : bG), Q' (.inl v) G1 → bV O y d (pc + 3) L (v.toList ++ rest) G1 Q) (kx : ∀ (q : Nat) (G1 : bG), ¬ Q' (.inr q) G1) : bV O y d pc L st0 G Q := by
  subst hst0
  obtain ⟨r1, G1, hQ1, hM⟩ := hC
  have hsub : ∀ w ∈ rest, w ∈ As.reverse ++ .ref r :: rest := fun w hw => List.mem_append_right _ (List.mem_cons_of_mem _ hw)
  rcases r1 with v | q
  · refine bBack hM hsub ?_ (kk v G1 hQ1)
    intro p e R s m args below meth c H locs cells slots ls ad C hf hlo hc hsl hR hS hls hst hMt
    have hAs : ∀ w ∈ Value.ref r :: As, bok G.1 w := fun w hw => hst w (by simp at hw ⊢; rcases hw with h | h <;> simp [h])
    obtain ⟨h1, h2, h3, h4, h5, h6⟩ := hl
    have hcd := bCode_h hx0
    have cw : vx_CVW R s args (mN y).cls w9.1 ix (mN z) (mB z) (mL z) (mR z) [(x.startPc, x.endPc, x.handlerPc, x.catchType)] (bCode z :: bW) { frames := dz, cells := G1.2.1 - G.2.1, slots := G1.2.2 - G.2.2, locals := 64 * dz } (G1.2.1 - G.2.1) (G1.2.2 - G.2.2) n :=
      ⟨⟨rfl, rfl, by show dz + 1 ≤ R.frames; omega, by show 8 + (mL z + 11) + 64 * dz ≤ R.locals; omega, bWarm C h1, by rw [hcd]; exact List.mem_cons_self⟩, by rw [← hcd]; exact C.hts _ h1, C.hts _ h2, h3, bLen_of h4, C.hts _ h6, C.hts _ hi, C.hts _ hs⟩
    have run := vx_runVX (meth := meth) (e := e) (below := below) (locs := locs) (cells := cells) (slots := slots) (g := F0 m pc ls (((As.map (bvl ad)).reverse ++ .ref (ad r) :: rest.map (bvl ad)))) ⟨C.hx, C.hb, C.hml, C.hown, C.hts⟩ hMt cw (b := ad r) (As := As.map (bvl ad)) (rest := rest.map (bvl ad)) (H := H) ⟨bPc_blind, bRcv C hR hG hci, bPre C hR hS hAs⟩ rfl (by rw [List.length_map]; exact hn) hls rfl (lv_room (m := m) (pc := pc) (ls := ls) (rest := (((As.map (bvl ad)).reverse ++ .ref (ad r) :: rest.map (bvl ad)))) (by rw [bcs]; exact hW)) hd ⟨hc, hsl⟩
    exact ⟨_, by rw [bst]; exact run⟩
  · exact absurd hQ1 (kx q G1)
/-- invokestatic of a method with a handler that doesn't throw here -/
theorem r_callSH {z : bM} {x : ExceptionTableEntry} {ix n dz : Nat} {As rest st0 : List Value} {Q' : bR → bG → Prop} (hC : bCall O z dz As G Q') (hst0 : As.reverse ++ rest = st0) (hl : bLk (mN y).cls ix z n) (hi : Cond.static (mN z) ∈ bW) (hx0 : mX z = [x]) (hn : As.length = n) (hdd : dz + 1 ≤ d) (hW : (rest.map fun v => v.category).sum ≤ 8)
    (hd : decode (mB y) pc = .ok (.invokestatic ix, 3)) (kk : ∀ (v : Option Value) (G1 : bG), Q' (.inl v) G1 → bV O y d (pc + 3) L (v.toList ++ rest) G1 Q) (kx : ∀ (q : Nat) (G1 : bG), ¬ Q' (.inr q) G1) : bV O y d pc L st0 G Q := by
  subst hst0
  obtain ⟨r1, G1, hQ1, hM⟩ := hC
  have hsub : ∀ w ∈ rest, w ∈ As.reverse ++ rest := fun w hw => List.mem_append_right _ hw
  rcases r1 with v | q
  · refine bBack hM hsub ?_ (kk v G1 hQ1)
    intro p e R s m args below meth c H locs cells slots ls ad C hf hlo hc hsl hR hS hls hst hMt
    have hAs : ∀ w ∈ As, bok G.1 w := fun w hw => hst w (by simp; exact Or.inl hw)
    obtain ⟨h1, h2, h3, h4, h5, h6⟩ := hl
    have hcd := bCode_h hx0
    have cw : vx_CSW R s args (mN y).cls ix (mN z) (mB z) (mL z) (mR z) [(x.startPc, x.endPc, x.handlerPc, x.catchType)] (bCode z :: bW) { frames := dz, cells := G1.2.1 - G.2.1, slots := G1.2.2 - G.2.2, locals := 64 * dz } (G1.2.1 - G.2.1) (G1.2.2 - G.2.2) n :=
      ⟨⟨rfl, rfl, by show dz + 1 ≤ R.frames; omega, by show 8 + (mL z + 11) + 64 * dz ≤ R.locals; omega, bWarm C h1, by rw [hcd]; exact List.mem_cons_self⟩, by rw [← hcd]; exact C.hts _ h1, C.hts _ h2, h3, bLen_of h4, C.hts _ h6, C.hts _ hi⟩
    have run := vx_runSX (meth := meth) (e := e) (below := below) (locs := locs) (cells := cells) (slots := slots) (g := F0 m pc ls ((As.map (bvl ad)).reverse ++ rest.map (bvl ad))) ⟨C.hx, C.hb, C.hml, C.hown, C.hts⟩ hMt cw (As := As.map (bvl ad)) (rest := rest.map (bvl ad)) (H := H) ⟨bPc_blind, bPre C hR hS hAs⟩ rfl (by rw [List.length_map]; exact hn) hls rfl (lv_room (m := m) (pc := pc) (ls := ls) (rest := ((As.map (bvl ad)).reverse ++ rest.map (bvl ad))) (by rw [bcs]; exact hW)) hd ⟨hc, hsl⟩
    exact ⟨_, by rw [bst2]; exact run⟩
  · exact absurd hQ1 (kx q G1)
/-- a call that throws a thing of ours, caught by the method's one row -/
theorem r_callVC {z : bM} {x : ExceptionTableEntry} {nm : String} {ix r ci n dz : Nat} {As rest st0 : List Value} {fs : List Value} {w9 : vw_C} {Q' : bR → bG → Prop} (hC : bCall O z dz (.ref r :: As) G Q') (hst0 : As.reverse ++ .ref r :: rest = st0) (hl : bLk (mN y).cls ix z n) (hi : Cond.instanceMethod (mN z) ∈ bW) (hs : Cond.selects w9.1 (mN z) (mN z) ∈ bW) (hx0 : mX z = []) (hG : G.1 r = some (.inr (ci, fs))) (hci : bCl[ci]? = some w9) (hn : As.length = n) (hdd : dz + 1 ≤ d) (hW : (rest.map fun v => v.category).sum ≤ 8)
    (hd : decode (mB y) pc = .ok (.invokevirtual ix, 3)) (hX : mX y = [x]) (hcov : covers x pc = true) (h0 : x.catchType ≠ 0) (hw : Cond.classLink (mN y).cls x.catchType nm ∈ bW)
    (kk : ∀ (v : Option Value) (G1 : bG), Q' (.inl v) G1 → bV O y d (pc + 3) L (v.toList ++ rest) G1 Q) (kx : ∀ (q : Nat) (G1 : bG), Q' (.inr q) G1 → ∃ (cj : Nat) (fj : List Value) (wj : vw_C), 32 ≤ q ∧ G1.1 q = some (.inr (cj, fj)) ∧ bCl[cj]? = some wj ∧ Cond.castable wj.1 nm ∈ lw_tbl ∧ bV O y d x.handlerPc L [.ref q] G1 Q) : bV O y d pc L st0 G Q := by
  subst hst0
  obtain ⟨r1, G1, hQ1, hM⟩ := hC
  have hsub : ∀ w ∈ rest, w ∈ As.reverse ++ .ref r :: rest := fun w hw => List.mem_append_right _ (List.mem_cons_of_mem _ hw)
  have hAs' : ∀ {w : Value}, w ∈ Value.ref r :: As → w ∈ As.reverse ++ .ref r :: rest := by
    intro w hw
    simp at hw ⊢
    rcases hw with h | h <;> simp [h]
  rcases r1 with v | q
  · refine bBack hM hsub ?_ (kk v G1 hQ1)
    intro p e R s m args below meth c H locs cells slots ls ad C hf hlo hc hsl hR hS hls hst hMt
    have run := vx_runV (meth := meth) (e := e) (below := below) (locs := locs) (cells := cells) (slots := slots) (g := F0 m pc ls (((As.map (bvl ad)).reverse ++ .ref (ad r) :: rest.map (bvl ad)))) ⟨C.hx, C.hb, C.hml, C.hown, C.hts⟩ hMt ⟨bCallB C hl hx0 hdd hf hlo, C.hts _ hi, C.hts _ hs⟩ (b := ad r) (As := As.map (bvl ad)) (rest := rest.map (bvl ad)) (H := H) ⟨bPc_blind, bRcv C hR hG hci, bPre C hR hS (fun w hw => hst w (hAs' hw))⟩ rfl (by rw [List.length_map]; exact hn) hls rfl (lv_room (m := m) (pc := pc) (ls := ls) (rest := (((As.map (bvl ad)).reverse ++ .ref (ad r) :: rest.map (bvl ad)))) (by rw [bcs]; exact hW)) hd ⟨hc, hsl⟩
    exact ⟨_, by rw [bst]; exact run⟩
  · obtain ⟨cj, fj, wj, h32, hGq, hcj, hcast, kk⟩ := kx q G1 hQ1
    obtain ⟨m1, m2, m3, hM⟩ := hM
    refine bV.of m1 m2 m3 ?_ kk
    intro p e R s m args below meth c H locs cells slots ls ad Z C hf hlo hc hsl hR hS hls hL hst kk
    have run := vx_runV (meth := meth) (e := e) (below := below) (locs := locs) (cells := cells) (slots := slots) (g := F0 m pc ls (((As.map (bvl ad)).reverse ++ .ref (ad r) :: rest.map (bvl ad)))) ⟨C.hx, C.hb, C.hml, C.hown, C.hts⟩ (hM ad) ⟨bCallB C hl hx0 hdd hf hlo, C.hts _ hi, C.hts _ hs⟩ (b := ad r) (As := As.map (bvl ad)) (rest := rest.map (bvl ad)) (H := H) ⟨bPc_blind, bRcv C hR hG hci, bPre C hR hS (fun w hw => hst w (hAs' hw))⟩ rfl (by rw [List.length_map]; exact hn) hls.1 rfl (lv_room (m := m) (pc := pc) (ls := ls) (rest := (((As.map (bvl ad)).reverse ++ .ref (ad r) :: rest.map (bvl ad)))) (by rw [bcs]; exact hW)) hd ⟨hc, hsl⟩
    rw [← bst] at run
    intro T hT X
    rcases run T hT X with ⟨v9, st₀, t, T', L9, h0', X', hL9, e1, e2, ⟨w, ad', hw', -⟩, goes⟩ | ⟨q2, st₀, t, T', L9, E, ce, h0', X', hL9, e1, e2, ⟨q8, ad', hw', hth, hag, hRp, hF⟩, hce, hcv, hcl, st9⟩
    · cases hw'
    · cases hw'
      rcases hth with ⟨hz, -⟩ | ⟨-, ha, ck, fk, wk, hk1, hk2, hk3⟩
      · exact absurd hz (by omega)
      rw [hGq] at hk1
      cases hk1
      rw [hcj] at hk2
      cases hk2
      subst ha
      subst hk3
      have u2 : ∀ r, r < 32 → ad' r = ad r := fun r hr9 => (hRp.1 r hr9).trans (hR.1 r hr9).symm
      obtain ⟨k1, k2, k3⟩ := vx_keep (A1 := oA O) h0' e1 hS (fun q _ h => h) (fun q h => h) hL9 hF
      have kw := kk T'.heap (locs ++ L9) ls ad' (by rw [e1]; exact hRp) k3 (by rw [bvl_up u2 hag hL]; exact hls) hag (fun q hq => (hL q hq).up m3) (fun z hz => by simp at hz; rw [hz]; exact Or.inr (by rw [hGq]; exact fun w => by cases w))
      have ho := vx_catch (rest := rest.map (bvl ad)) (pc := pc) C.hown [] x [] (by rw [C.hexc, hX]; rfl) (fun z hz => by cases hz) hcov h0 (C.hts _ hw) (va_Nw.use rfl (C.env.2.2.1 _ hcast rfl)) (by rw [e1]; exact hce) hcv hcl kw
      obtain ⟨t2, a1, b1⟩ := ho T' rfl X'
      exact ⟨t2, st9.trans a1, b1⟩
end
