/-! ===== making things; calls ===== -/
section
variable {O : bO} {y : bM} {d pc tgt : Nat} {L : List (Nat × Value)} {st : List Value} {G : bG} {Q : bR → bG → Prop}
theorem bvl_up {f : bF} {ad ad' : Nat → Nat} (h1 : ∀ r, r < 32 → ad' r = ad r) (h2 : ∀ r, f r ≠ none → ad' r = ad r) {L : List (Nat × Value)} (hL : ∀ q ∈ L, bok f q.2) : L.map (fun q => (q.1, bvl ad' q.2)) = L.map (fun q => (q.1, bvl ad q.2)) :=
  List.map_congr_left (fun q hq => by rw [bvl_eq h1 h2 (hL q hq)])
theorem bvs_up {f : bF} {ad ad' : Nat → Nat} (h1 : ∀ r, r < 32 → ad' r = ad r) (h2 : ∀ r, f r ≠ none → ad' r = ad r) {st : List Value} (hst : ∀ v ∈ st, bok f v) : st.map (bvl ad') = st.map (bvl ad) :=
  List.map_congr_left (fun v hv => bvl_eq h1 h2 (hst v hv))
/-- new: a number r of our own that is free -/
theorem r_new {ix ci : Nat} {C9 : String} {T : u_T} {N : Nat} {tys : Nat → FieldType} (r : Nat) (fs : List Value) (hkc : bKc ci C9 T N tys) (h1 : Cond.classLink (mN y).cls ix C9 ∈ bW) (h2 : Cond.instantiable C9 N ∈ bW) (h3 : Cond.initialized C9 ∈ bW) (hr : G.1 r = none) (h32 : 32 ≤ r) (hfs : ∀ j, j < N → defaultValue (tys j) = vp_V fs j) (hok : ∀ v ∈ fs, ∀ f : bF, ∀ ad : Nat → Nat, bok f v ∧ bvl ad v = v) (hd : decode (mB y) pc = .ok (.new ix, 3))
    (kk : bV O y d (pc + 3) L (.ref r :: st) (bU G.1 r (.inr (ci, fs)), G.2.1 + 1, G.2.2 + N) Q) : bV O y d pc L st G Q := by
  refine bV.of (G1 := (bU G.1 r (.inr (ci, fs)), G.2.1 + 1, G.2.2 + N)) (Nat.le_succ _) (Nat.le_add_right _ _) (fun _ h => bU_d h) ?_ kk
  intro p e R s m args below meth c H locs cells slots ls ad Z C hf hl hc hsl hR hS hls hL hst kk
  have ec : G.2.1 + 1 - G.2.1 = 1 := by omega
  have es : G.2.2 + N - G.2.2 = N := by omega
  dsimp only at hc hsl kk
  rw [ec] at hc kk
  rw [es] at hsl kk
  obtain ⟨Ns, F, hP, hD, -, hpush⟩ := hR.push
  have hmap : fs.map (bvl ad) = fs := by
    conv => rhs; rw [← List.map_id fs]
    exact List.map_congr_left (fun v hv => (hok v hv G.1 ad).2)
  refine va_new C.hx C.hb C.hts hkc.2.1 tys hkc.2.2.1 C.hown (C.hts _ h1) (C.hts _ h2) (C.hts _ h3) C.hK hP hD hS C.hA hkc.1 (fs := fs) hfs hc hsl hd (fun q H1 hP1 hD1 hS1 => ?_)
  have e9 : (Sum.inr (ci, fs) : va_E) = bcv (oC O) ad (.inr (ci, fs)) := by
    show _ = (Sum.inr (ci, fs.map (bvl ad)) : va_E)
    rw [hmap]
  rw [e9] at hP1 hD1
  obtain ⟨hR1, u1, u2⟩ := hpush H1 q r (.inr (ci, fs)) hr h32 (show bokc G.1 (.inr (ci, fs)) from fun v hv => (hok v hv G.1 ad).1) hP1 hD1
  have k9 := kk H1 locs ls (va_up ad r q) hR1 hS1 (by rw [bvl_up u2 u1 hL]; exact hls) u1 (fun q hq => (hL q hq).up (fun _ => bU_d)) (fun z hz => (List.mem_cons.mp hz).elim (fun e => by rw [e]; exact Or.inr (by rw [bU_s]; exact fun w => by cases w)) (fun h => (hst z h).up (fun _ => bU_d)))
  have e8 : (Value.ref r :: st).map (bvl (va_up ad r q)) = .ref q :: st.map (bvl ad) := by
    rw [List.map_cons, bvs_up u2 u1 hst]
    show Value.ref (va_up ad r q r) :: _ = _
    rw [va_up_self]
  rw [e8] at k9
  exact k9
theorem bKa {O : bO} {s : State} {cA : ClassId} {kd : Nat} {ty : FieldType} (hK : va_K (oD O) bCl (bTys O) s) (hkd : (bTys O)[kd]? = some (oC O kd, ty)) (h : va_RA s cA ty) : cA = oC O kd := by
  have h2 := (hK.2 kd _ hkd).2
  cases ty with
  | object C9 =>
    obtain ⟨kA, comp, a1, a2, a3, a4⟩ := h
    obtain ⟨kB, comp', b1, b2, b3, b4⟩ := h2
    exact Option.some.inj (a4.symm.trans b4)
  | _ => exact Option.some.inj (h.symm.trans h2)
/-- newarray of ints, bytes, longs -/
theorem r_newa {at9 : ArrayType} {kd : Nat} {ty : FieldType} {i : Int32} {n : Nat} {a0 : vp_A} (r : Nat) (hty : newarray.typeOf at9 = ty) (hkd : (bTys O)[kd]? = some (oC O kd, ty)) (h1 : Cond.arrayClass ty ∈ bW) (ha : ∀ cA : ClassId, vp_cell cA a0 = arrV cA n (fun _ => defaultValue ty)) (hcv : ∀ (C : Nat → ClassId) (ad : Nat → Nat) (f : bF), bcv C ad (.inl (kd, a0)) = .inl (C kd, a0) ∧ bokc f (.inl (kd, a0))) (hn : ¬ i < 0) (hN : i.toNatClampNeg = n) (hby : n * componentBytes ty ≤ 536870912) (hr : G.1 r = none) (h32 : 32 ≤ r) (hd : decode (mB y) pc = .ok (.newarray at9, 2))
    (kk : bV O y d (pc + 2) L (.ref r :: st) (bU G.1 r (.inl (kd, a0)), G.2.1 + 1, G.2.2 + n) Q) : bV O y d pc L (.int i :: st) G Q := by
  refine bV.of (G1 := (bU G.1 r (.inl (kd, a0)), G.2.1 + 1, G.2.2 + n)) (Nat.le_succ _) (Nat.le_add_right _ _) (fun _ h => bU_d h) ?_ kk
  intro p e R s m args below meth c H locs cells slots ls ad Z C hf hl hc hsl hR hS hls hL hst kk
  have ec : G.2.1 + 1 - G.2.1 = 1 := by omega
  have es : G.2.2 + n - G.2.2 = n := by omega
  dsimp only at hc hsl kk
  rw [ec] at hc kk
  rw [es] at hsl kk
  have hst' : ∀ v ∈ st, bok G.1 v := fun v hv => hst v (List.mem_cons_of_mem _ hv)
  obtain ⟨Ns, F, hP, hD, -, hpush⟩ := hR.push
  refine va_newa C.hx C.hb (by rw [hty]; exact C.hts _ h1) hty C.hK hP hD hS C.hA ha hn hN hby hc hsl hd (fun q cA H1 hK1 hP1 hD1 hS1 => ?_)
  have hcA : cA = oC O kd := bKa C.hK hkd (hK1.2 8 (cA, ty) rfl).2
  subst hcA
  rw [← (hcv (oC O) ad G.1).1] at hP1 hD1
  obtain ⟨hR1, u1, u2⟩ := hpush H1 q r _ hr h32 (hcv (oC O) ad G.1).2 hP1 hD1
  have k9 := kk H1 locs ls (va_up ad r q) hR1 hS1 (by rw [bvl_up u2 u1 hL]; exact hls) u1 (fun q hq => (hL q hq).up (fun _ => bU_d)) (fun z hz => (List.mem_cons.mp hz).elim (fun e => by rw [e]; exact Or.inr (by rw [bU_s]; exact fun w => by cases w)) (fun h => (hst' z h).up (fun _ => bU_d)))
  have e8 : (Value.ref r :: st).map (bvl (va_up ad r q)) = .ref q :: st.map (bvl ad) := by
    rw [List.map_cons, bvs_up u2 u1 hst']
    show Value.ref (va_up ad r q r) :: _ = _
    rw [va_up_self]
  rw [e8] at k9
  exact k9
/-- anewarray -/
theorem r_newq {ix kd : Nat} {C9 : String} {i : Int32} {n : Nat} (r : Nat) (hkd : (bTys O)[kd]? = some (oC O kd, .object C9)) (h1 : Cond.classLink (mN y).cls ix C9 ∈ bW) (hao : ∀ s : State, bEnv O s → va_AO C9 s) (hn : ¬ i < 0) (hN : i.toNatClampNeg = n) (hby : n * 4 ≤ 536870912) (hr : G.1 r = none) (h32 : 32 ≤ r) (hd : decode (mB y) pc = .ok (.anewarray ix, 3))
    (kk : bV O y d (pc + 3) L (.ref r :: st) (bU G.1 r (.inl (kd, n, .inr (.inr (.inr (.inr (fun _ => none)))))), G.2.1 + 1, G.2.2 + n) Q) : bV O y d pc L (.int i :: st) G Q := by
  refine bV.of (G1 := (bU G.1 r (.inl (kd, n, .inr (.inr (.inr (.inr (fun _ => none)))))), G.2.1 + 1, G.2.2 + n)) (Nat.le_succ _) (Nat.le_add_right _ _) (fun _ h => bU_d h) ?_ kk
  intro p e R s m args below meth c H locs cells slots ls ad Z C hf hl hc hsl hR hS hls hL hst kk
  have ec : G.2.1 + 1 - G.2.1 = 1 := by omega
  have es : G.2.2 + n - G.2.2 = n := by omega
  dsimp only at hc hsl kk
  rw [ec] at hc kk
  rw [es] at hsl kk
  have hst' : ∀ v ∈ st, bok G.1 v := fun v hv => hst v (List.mem_cons_of_mem _ hv)
  obtain ⟨Ns, F, hP, hD, -, hpush⟩ := hR.push
  refine va_newq C.hx C.hb C.hown (C.hts _ h1) (hao s C.env) C.hK hP hD hS C.hA hn hN hby hc hsl hd (fun q cA H1 hK1 hP1 hD1 hS1 => ?_)
  have hcA : cA = oC O kd := bKa C.hK hkd (hK1.2 8 (cA, .object C9) rfl).2
  subst hcA
  have e7 : (Sum.inl (oC O kd, n, .inr (.inr (.inr (.inr (fun _ => none))))) : va_E) = bcv (oC O) ad (.inl (kd, n, .inr (.inr (.inr (.inr (fun _ => none)))))) := rfl
  rw [e7] at hP1 hD1
  obtain ⟨hR1, u1, u2⟩ := hpush H1 q r (.inl (kd, n, .inr (.inr (.inr (.inr (fun _ => none)))))) hr h32 (show bokc G.1 (.inl (kd, n, .inr (.inr (.inr (.inr (fun _ => none)))))) from fun j z hz => by cases hz) hP1 hD1
  have k9 := kk H1 locs ls (va_up ad r q) hR1 hS1 (by rw [bvl_up u2 u1 hL]; exact hls) u1 (fun q hq => (hL q hq).up (fun _ => bU_d)) (fun z hz => (List.mem_cons.mp hz).elim (fun e => by rw [e]; exact Or.inr (by rw [bU_s]; exact fun w => by cases w)) (fun h => (hst' z h).up (fun _ => bU_d)))
  have e8 : (Value.ref r :: st).map (bvl (va_up ad r q)) = .ref q :: st.map (bvl ad) := by
    rw [List.map_cons, bvs_up u2 u1 hst']
    show Value.ref (va_up ad r q r) :: _ = _
    rw [va_up_self]
  rw [e8] at k9
  exact k9
theorem bPc_blind {ad : Nat → Nat} {As : List Value} : FrameBlind (bPc O ad As G) := by
  intro a U g mk ⟨h1, h2, h3, h4⟩
  exact ⟨h1, bEnv.moved (s := U) (U := U.calling g mk a) (H := U.heap) (locs := []) h2 (State.WarmedH.refl U) rfl va_S.rf, h3, h4⟩
/-- behind a call that has returned -/
theorem bBack {z : bM} {dz : Nat} {As rest st0 : List Value} {v : Option Value} {G1 : bG} (hM : bMt O z dz As G (.inl v) G1)
    (hst0 : ∀ w ∈ rest, w ∈ st0)
    (run : ∀ {p : Program} {e : Env} {R : Room} {s : State} {m : MethodId} {args : Array Value} {below : List Frame} {meth : Method} {c : Code} {H : Heap} {locs : List Loc} {cells slots : Nat} {ls : Array Slot} {ad : Nat → Nat},
      bCx O y p s m args meth c → d ≤ R.frames → 64 * d ≤ R.locals → cells + (G1.2.1 - G.2.1) ≤ R.cells → slots + (G1.2.2 - G.2.2) ≤ R.slots → bRep O ad G.1 H → va_S (oA O) s.heap H locs → ls.size = mL y → (∀ w ∈ st0, bok G.1 w) →
      vx_Met (oL O) (mN z) (bCode z :: bW) { frames := dz, cells := G1.2.1 - G.2.1, slots := G1.2.2 - G.2.2, locals := 64 * dz } (bPc O ad As G) (bQc O ad G (.inl v) G1) (bXc O ad G (.inl v) G1) (G1.2.1 - G.2.1) (G1.2.2 - G.2.2) (oA O) →
      ∃ a9 : Array Value, vx_Run p (oL O) e R s m args below meth c H locs cells slots (G1.2.1 - G.2.1) (G1.2.2 - G.2.2) (F0 m pc ls (st0.map (bvl ad))) (rest.map (bvl ad)) (bQc O ad G (.inl v) G1 a9) (bXc O ad G (.inl v) G1) (oA O))
    (kk : bV O y d (pc + 3) L (v.toList ++ rest) G1 Q) : bV O y d pc L st0 G Q := by
  obtain ⟨m1, m2, m3, hM⟩ := hM
  refine bV.of m1 m2 m3 ?_ kk
  intro p e R s m args below meth c H locs cells slots ls ad Z C hf hl hc hsl hR hS hls hL hst kk
  obtain ⟨a9, hr⟩ := run (e := e) (below := below) C hf hl hc hsl hR hS hls.1 hst (hM ad)
  intro T hT X
  rcases hr T hT X with ⟨v9, st₀, t, T', L9, h0, X', hL9, e1, e2, ⟨w, ad', hw, ho, hag, hRp, hF, hokv⟩, goes⟩ | ⟨q, st₀, t, T', L9, E, ce, h0, X', hL9, e1, e2, ⟨q9, ad', hw, -⟩, -⟩
  · cases hw
    cases ho
    have u2 : ∀ r, r < 32 → ad' r = ad r := fun r hr9 => (hRp.1 r hr9).trans (hR.1 r hr9).symm
    obtain ⟨k1, k2, k3⟩ := vx_keep (A1 := oA O) h0 e1 hS (fun q _ h => h) (fun q h => h) hL9 hF
    have hrest : ∀ w ∈ rest, bok G.1 w := fun w hw => hst w (hst0 w hw)
    obtain ⟨t2, a1, b1⟩ := kk T'.heap (locs ++ L9) ls ad' (by rw [e1]; exact hRp) k3 (by rw [bvl_up u2 hag hL]; exact hls) hag (fun q hq => (hL q hq).up m3)
      (fun w hw => (List.mem_append.mp hw).elim (fun h => hokv w (by cases v with | none => cases h | some x => simp at h; rw [h])) (fun h => (hrest w h).up m3)) T' rfl X'
    refine ⟨t2, goes t2 ?_, b1⟩
    have e9 : (v.toList ++ rest).map (bvl ad') = (v.map (bvl ad')).toList ++ rest.map (bvl ad) := by
      rw [List.map_append, bvs_up u2 hag hrest]
      cases v <;> rfl
    rw [e9] at a1
    exact a1
  · cases hw
/-- behind a call that has thrown, in a method that doesn't catch it -/
theorem bBackX {z : bM} {dz : Nat} {As rest st0 : List Value} {q9 : Nat} {G1 : bG} (hM : bMt O z dz As G (.inr q9) G1) (hout : ∀ x ∈ mX y, covers x pc = false)
    (run : ∀ {p : Program} {e : Env} {R : Room} {s : State} {m : MethodId} {args : Array Value} {below : List Frame} {meth : Method} {c : Code} {H : Heap} {locs : List Loc} {cells slots : Nat} {ls : Array Slot} {ad : Nat → Nat},
      bCx O y p s m args meth c → d ≤ R.frames → 64 * d ≤ R.locals → cells + (G1.2.1 - G.2.1) ≤ R.cells → slots + (G1.2.2 - G.2.2) ≤ R.slots → bRep O ad G.1 H → va_S (oA O) s.heap H locs → ls.size = mL y → (∀ w ∈ st0, bok G.1 w) →
      vx_Met (oL O) (mN z) (bCode z :: bW) { frames := dz, cells := G1.2.1 - G.2.1, slots := G1.2.2 - G.2.2, locals := 64 * dz } (bPc O ad As G) (bQc O ad G (.inr q9) G1) (bXc O ad G (.inr q9) G1) (G1.2.1 - G.2.1) (G1.2.2 - G.2.2) (oA O) →
      ∃ a9 : Array Value, vx_Run p (oL O) e R s m args below meth c H locs cells slots (G1.2.1 - G.2.1) (G1.2.2 - G.2.2) (F0 m pc ls (st0.map (bvl ad))) (rest.map (bvl ad)) (bQc O ad G (.inr q9) G1 a9) (bXc O ad G (.inr q9) G1) (oA O))
    (hQ : Q (.inr q9) G1) : bV O y d pc L st0 G Q := by
  obtain ⟨m1, m2, m3, hM⟩ := hM
  refine ⟨.inr q9, G1, hQ, m1, m2, m3, ?_⟩
  intro p e R s m args below meth c H locs cells slots ls ad Qc XC C hf hl hc hsl hR hS hls hL hst hE
  obtain ⟨a9, hr⟩ := run (e := e) (below := below) C hf hl hc hsl hR hS hls.1 hst (hM ad)
  intro T hT X
  rcases hr T hT X with ⟨v9, st₀, t, T', L9, h0, X', hL9, e1, e2, ⟨w, ad', hw, -⟩, goes⟩ | ⟨q, st₀, t, T', L9, E, ce, h0, X', hL9, e1, e2, ⟨q8, ad', hw, hth, hag, hRp, hF⟩, hce, hcv, hcl, st9⟩
  · cases hw
  · cases hw
    obtain ⟨k1, k2, k3⟩ := vx_keep (A1 := oA O) h0 e1 hS (fun q _ h => h) (fun q h => h) hL9 hF
    have ho := vx_out (Qc := Qc) (XC := XC) (E := E) (ce := ce) (q := q) (ls := ls) (rest := rest.map (bvl ad)) (pc := pc) (H := T'.heap) (locs := locs ++ L9) (cells := cells + (G1.2.1 - G.2.1)) (slots := slots + (G1.2.2 - G.2.2)) (mc := cells + (G1.2.1 - G.2.1)) (ms := slots + (G1.2.2 - G.2.2)) (free := oA O) (p := p) (l := oL O) (e := e) (R := R) (s := s) (m := m) (args := args) (below := below) (meth := meth) (c := c)
      (by rw [C.hexc]; exact hout) C.hlocks (by rw [e1]; exact hce) hcv hcl
      (fun t9 ht9 _ => hE t9 ad' hag (by rw [ht9, e1]; exact hRp) (k3.F ht9) E q hth) k3.2.2 (Nat.le_refl _) (Nat.le_refl _)
    obtain ⟨t2, a1, b1⟩ := ho T' rfl X'
    exact ⟨t2, st9.trans a1, b1⟩
end
