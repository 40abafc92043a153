/-! ===== a call that throws a NoSuchElementException, caught; differing ===== -/
section
variable {O : bO} {y : bM} {d pc tgt : Nat} {L : List (Nat × Value)} {st : List Value} {G : bG} {Q : bR → bG → Prop}
theorem r_callVO {z : bM} {x : ExceptionTableEntry} {k9 : Fin 4} {i9 ix r ci n dz : Nat} {As rest st0 : List Value} {fs : List Value} {w9 : vw_C} {Q' : bR → bG → Prop} (hC : bCall O z dz (.ref r :: As) G Q') (hst0 : As.reverse ++ .ref r :: rest = st0) (hl : bLk (mN y).cls ix z n) (hi : Cond.instanceMethod (mN z) ∈ bW) (hs : Cond.selects w9.1 (mN z) (mN z) ∈ bW) (hx0 : mX z = []) (hG : G.1 r = some (.inr (ci, fs))) (hci : bCl[ci]? = some w9) (hn : As.length = n) (hdd : dz + 1 ≤ d) (hW : (rest.map fun v => v.category).sum ≤ 8)
    (hd : decode (mB y) pc = .ok (.invokevirtual ix, 3)) (hX : mX y = [x]) (hcov : covers x pc = true) (h0 : x.catchType ≠ 0) (hw : Cond.classLink (mN y).cls x.catchType nseN ∈ bW) (hd9 : decode (mB y) x.handlerPc = .ok (.astore_n k9, 1)) (hk9 : (k9 : Nat) = i9) (hi9 : i9 < mL y)
    (kk : ∀ (v : Option Value) (G1 : bG), Q' (.inl v) G1 → bV O y d (pc + 3) L (v.toList ++ rest) G1 Q) (kx : ∀ (q : Nat) (G1 : bG), Q' (.inr q) G1 → q = 0 ∧ bV O y d (x.handlerPc + 1) (L.filter (fun q => !(q.1 == i9) && !(q.1 + 1 == i9 && q.2.category == 2))) [] G1 Q) : bV O y d pc L st0 G Q := by
  subst hst0
  obtain ⟨r1, G1, hQ1, hM⟩ := hC
  have hsub : ∀ w ∈ rest, w ∈ As.reverse ++ .ref r :: rest := fun w hw => List.mem_append_right _ (List.mem_cons_of_mem _ hw)
  have hAs' : ∀ {w : Value}, w ∈ Value.ref r :: As → w ∈ As.reverse ++ .ref r :: rest := by
    intro w hw
    simp at hw ⊢
    rcases hw with h | h <;> simp [h]
  rcases r1 with v | q
  · refine bBack hM hsub ?_ (kk v G1 hQ1)
    intro p e R s m args below meth c H locs cells slots ls ad C hf hlo hc hsl hR hS hls hst hMt
    have run := vx_runV (meth := meth) (e := e) (below := below) (locs := locs) (cells := cells) (slots := slots) (g := F0 m pc ls (((As.map (bvl ad)).reverse ++ .ref (ad r) :: rest.map (bvl ad)))) ⟨C.hx, C.hb, C.hml, C.hown, C.hts⟩ hMt ⟨bCallB C hl hx0 hdd hf hlo, C.hts _ hi, C.hts _ hs⟩ (b := ad r) (As := As.map (bvl ad)) (rest := rest.map (bvl ad)) (H := H) ⟨bPc_blind, bRcv C hR hG hci, bPre C hR hS (fun w hw => hst w (hAs' hw))⟩ rfl (by rw [List.length_map]; exact hn) hls rfl (lv_room (m := m) (pc := pc) (ls := ls) (rest := (((As.map (bvl ad)).reverse ++ .ref (ad r) :: rest.map (bvl ad)))) (by rw [bcs]; exact hW)) hd ⟨hc, hsl⟩
    exact ⟨_, by rw [bst]; exact run⟩
  · obtain ⟨hq0, kk⟩ := kx q G1 hQ1
    subst hq0
    obtain ⟨m1, m2, m3, hM⟩ := hM
    refine bV.of m1 m2 m3 ?_ kk
    intro p e R s m args below meth c H locs cells slots ls ad Z C hf hlo hc hsl hR hS hls hL hst kk
    have run := vx_runV (meth := meth) (e := e) (below := below) (locs := locs) (cells := cells) (slots := slots) (g := F0 m pc ls (((As.map (bvl ad)).reverse ++ .ref (ad r) :: rest.map (bvl ad)))) ⟨C.hx, C.hb, C.hml, C.hown, C.hts⟩ (hM ad) ⟨bCallB C hl hx0 hdd hf hlo, C.hts _ hi, C.hts _ hs⟩ (b := ad r) (As := As.map (bvl ad)) (rest := rest.map (bvl ad)) (H := H) ⟨bPc_blind, bRcv C hR hG hci, bPre C hR hS (fun w hw => hst w (hAs' hw))⟩ rfl (by rw [List.length_map]; exact hn) hls.1 rfl (lv_room (m := m) (pc := pc) (ls := ls) (rest := (((As.map (bvl ad)).reverse ++ .ref (ad r) :: rest.map (bvl ad)))) (by rw [bcs]; exact hW)) hd ⟨hc, hsl⟩
    rw [← bst] at run
    intro T hT X
    rcases run T hT X with ⟨v9, st₀, t, T', L9, h0', X', hL9, e1, e2, ⟨w, ad', hw', -⟩, goes⟩ | ⟨q2, st₀, t, T', L9, E, ce, h0', X', hL9, e1, e2, ⟨q8, ad', hw', hth, hag, hRp, hF⟩, hce, hcv, hcl, st9⟩
    · cases hw'
    · cases hw'
      rcases hth with ⟨-, hE9⟩ | ⟨h32, -⟩
      · subst hE9
        have u2 : ∀ r, r < 32 → ad' r = ad r := fun r hr9 => (hRp.1 r hr9).trans (hR.1 r hr9).symm
        obtain ⟨k1, k2, k3⟩ := vx_keep (A1 := oA O) h0' e1 hS (fun q _ h => h) (fun q h => h) hL9 hF
        have hls' : lv_has ls (mL y) (L.map (fun q => (q.1, bvl ad' q.2))) := by rw [bvl_up u2 hag hL]; exact hls
        have ho := vx_catch (rest := rest.map (bvl ad)) (pc := pc) (H := T'.heap) (locs := locs ++ L9) (cells := cells + (G1.2.1 - G.2.1)) (slots := slots + (G1.2.2 - G.2.2)) (Q := Z) (p := p) (l := oL O) (e := e) (R := R) (s := s) (m := m) (args := args) (below := below) (meth := meth) (c := c) (ls := ls) C.hown [] x [] (by rw [C.hexc, hX]; rfl) (fun z hz => by cases hz) hcov h0 (C.hts _ hw) (va_Nw.use rfl (C.env.2.2.1 _ nse_c rfl)) (by rw [e1]; exact hce) hcv hcl
          (lv_astore_n C.hx C.hb hd9 hk9 hls' hi9 rfl (fun ls1 h1 => by
            have h2 : lv_has ls1 (mL y) ((L.filter (fun q => !(q.1 == i9) && !(q.1 + 1 == i9 && q.2.category == 2))).map (fun q => (q.1, bvl ad' q.2))) := by
              refine ⟨h1.1, h1.2.1, fun q hq => h1.2.2 q (List.mem_cons_of_mem _ ?_)⟩
              obtain ⟨z9, hz9, rfl⟩ := List.mem_map.mp hq
              obtain ⟨a1, a2⟩ := List.mem_filter.mp hz9
              refine List.mem_filter.mpr ⟨List.mem_map.mpr ⟨z9, a1, rfl⟩, ?_⟩
              show (!(z9.1 == i9) && !(z9.1 + 1 == i9 && (bvl ad' z9.2).category == 2)) = true
              rw [bvl_cat]
              exact a2
            exact kk T'.heap (locs ++ L9) ls1 ad' (by rw [e1]; exact hRp) k3 h2 hag (fun q hq => (hL q (List.mem_filter.mp hq).1).up m3) (fun z hz => by cases hz)))
        obtain ⟨t2, a1, b1⟩ := ho T' rfl X'
        exact ⟨t2, st9.trans a1, b1⟩
      · exact absurd h32 (by decide)
end
