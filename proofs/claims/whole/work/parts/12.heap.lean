/-! ===== rows that touch the heap ===== -/
/-- a value that a field or row of a type takes as it is -/
def bNf (ty : FieldType) (v : Value) : Prop := ∀ ad : Nat → Nat, narrow ty (bvl ad v) = bvl ad v ∧ fits ty (bvl ad v) = true
theorem bNf_i (x : Int32) : bNf .int (.int x) := fun _ => ⟨rfl, rfl⟩
theorem bNf_l (x : Int64) : bNf .long (.long x) := fun _ => ⟨rfl, rfl⟩
theorem bNf_z0 : bNf .boolean (.int 0) := fun _ => ⟨show narrow .boolean (.int _) = .int _ by decide +kernel, show fits .boolean (.int _) = true by decide +kernel⟩
theorem bNf_z1 : bNf .boolean (.int 1) := fun _ => ⟨show narrow .boolean (.int _) = .int _ by decide +kernel, show fits .boolean (.int _) = true by decide +kernel⟩
theorem bNf_o (n : String) (x : Nat) : bNf (.object n) (.ref x) := fun _ => ⟨rfl, rfl⟩
theorem bNf_a (t : FieldType) (x : Nat) : bNf (.array t) (.ref x) := fun _ => ⟨rfl, rfl⟩
theorem bNf_on (n : String) : bNf (.object n) .null := fun _ => ⟨rfl, rfl⟩
theorem bNf_an (t : FieldType) : bNf (.array t) .null := fun _ => ⟨rfl, rfl⟩
section
variable {O : bO} {y : bM} {d pc tgt : Nat} {L : List (Nat × Value)} {st : List Value} {G : bG} {Q : bR → bG → Prop}
theorem r_get {ix ci k r : Nat} {ty : FieldType} {fin : Bool} {fs : List Value} {v : Value} (hF : bFL (mN y).cls ix ci k ty fin) (hG : G.1 r = some (.inr (ci, fs))) (hv : fs[k]? = some v) (hd : decode (mB y) pc = .ok (.getfield ix, 3))
    (kk : bV O y d (pc + 3) L (v :: st) G Q) : bV O y d pc L (.ref r :: st) G Q := by
  refine bV.of (Nat.le_refl _) (Nat.le_refl _) (fun _ h => h) ?_ kk
  intro p e R s m args below meth c H locs cells slots ls ad Z C hf hl hc hsl hR hS hls hL hst kk
  rw [Nat.sub_self, Nat.sub_self] at kk
  have hok : bok G.1 v := by
    obtain ⟨-, -, Ns, F, -, -, hf9⟩ := hR
    exact (hf9 r _ hG).2.2.2 v (List.mem_of_getElem? hv)
  have k9 := kk H locs ls ad hR hS hls (fun _ _ => rfl) hL (fun z hz => (List.mem_cons.mp hz).elim (fun e => by rw [e]; exact hok) (fun h => hst z (List.mem_cons_of_mem _ h)))
  obtain ⟨Ns, F, k1, hP, hD, hk, -, -⟩ := hR.get hG
  have hv9 : (fs.map (bvl ad))[k]? = some (bvl ad v) := by rw [List.getElem?_map, hv]; rfl
  rcases hF with ⟨C9, T, N, tys, ⟨q1, q2, q3, q4⟩, hk9, -, -, (hw | ⟨host, hw⟩)⟩
  · exact va_get C.hx C.hb C.hts q2 C.hown C.hK hP k1 hk q1 k hk9 (C.hts _ hw) (fun _ h => h) hv9 hd k9
  · exact va_getN C.hx C.hb C.hts q2 C.hown C.hK hP k1 hk q1 k hk9 (va_Nw.use rfl (C.env.2.2.1 _ hw rfl)) (fun _ h => h) hv9 hd k9
theorem bokc_set {f : bF} {ci k : Nat} {fs : List Value} {v : Value} (h : bokc f (.inr (ci, fs))) (hv : bok f v) : bokc f (.inr (ci, fs.set k v)) := by
  intro w hw
  rcases List.mem_or_eq_of_mem_set hw with h1 | h1
  · exact h w h1
  · rw [h1]; exact hv
theorem r_put {ix ci k r : Nat} {ty : FieldType} {fs fs' : List Value} {v : Value} (hF : bFL (mN y).cls ix ci k ty false) (hG : G.1 r = some (.inr (ci, fs))) (hl9 : k < fs.length) (hn : bNf ty v) (hfs : fs.set k v = fs') (hd : decode (mB y) pc = .ok (.putfield ix, 3))
    (kk : bV O y d (pc + 3) L st (bU G.1 r (.inr (ci, fs')), G.2) Q) : bV O y d pc L (v :: .ref r :: st) G Q := by
  refine bV.of (G1 := (bU G.1 r (.inr (ci, fs')), G.2)) (Nat.le_refl _) (Nat.le_refl _) (fun _ h => bU_d h) ?_ kk
  intro p e R s m args below meth c H locs cells slots ls ad Z C hf hl hc hsl hR hS hls hL hst kk
  rw [Nat.sub_self, Nat.sub_self] at kk
  have hokc : bokc G.1 (.inr (ci, fs')) := by
    obtain ⟨-, -, Ns, F, -, -, hf9⟩ := hR
    rw [← hfs]
    exact bokc_set (hf9 r _ hG).2.2.2 (hst _ List.mem_cons_self)
  obtain ⟨Ns, F, k1, hP, hD, hk, hput, -⟩ := hR.get hG
  have hset : (fs.map (bvl ad)).set k (bvl ad v) = fs'.map (bvl ad) := by rw [← hfs, List.map_set]
  have go : ∀ (H1 : Heap) (locs1 : List Loc), va_P (oD O) bCl (([] ++ va_pl Ns F).set k1 (ad r, .inr (ci, (fs.map (bvl ad)).set k (bvl ad v)))) H1 → va_D (oA O) (([] ++ va_pl Ns F).set k1 (ad r, .inr (ci, (fs.map (bvl ad)).set k (bvl ad v)))) → va_S (oA O) s.heap H1 locs1 → W p (oL O) e R s m args below meth c H1 locs1 cells slots Z (F0 m (pc + 3) ls (st.map (bvl ad))) := by
    intro H1 locs1 hP1 hD1 hS1
    rw [hset] at hP1 hD1
    exact kk H1 locs1 ls ad (hput H1 _ hokc hP1 hD1) hS1 hls (fun _ _ => rfl) (fun q hq => (hL q hq).up (fun _ => bU_d)) (fun z hz => (hst z (List.mem_cons_of_mem _ (List.mem_cons_of_mem _ hz))).up (fun _ => bU_d))
  rcases hF with ⟨C9, T, N, tys, ⟨q1, q2, q3, q4⟩, hk9, hty, hfin, (hw | ⟨host, hw⟩)⟩
  · exact va_put C.hx C.hb C.hts q2 tys q3 q4 C.hown C.hK hP hD hS k1 hk q1 k hk9 (C.hts _ hw) (fun _ h => h) hfin (by rw [q3 k hk9, hty]) (hn ad).1 (hn ad).2 (by rw [List.length_map]; exact hl9) hd go
  · exact va_putN C.hx C.hb C.hts q2 tys q3 q4 C.hown C.hK hP hD hS k1 hk q1 k hk9 (va_Nw.use rfl (C.env.2.2.1 _ hw rfl)) (fun _ h => h) hfin (by rw [q3 k hk9, hty]) (hn ad).1 (hn ad).2 (by rw [List.length_map]; exact hl9) hd go
theorem r_putF {ix ci k r : Nat} {ty : FieldType} {fs fs' : List Value} {v : Value} (hF : bFD (mN y).cls ix ci k ty) (hi : (mN y).name = "<init>") (hG : G.1 r = some (.inr (ci, fs))) (hl9 : k < fs.length) (hn : bNf ty v) (hfs : fs.set k v = fs') (hd : decode (mB y) pc = .ok (.putfield ix, 3))
    (kk : bV O y d (pc + 3) L st (bU G.1 r (.inr (ci, fs')), G.2) Q) : bV O y d pc L (v :: .ref r :: st) G Q := by
  refine bV.of (G1 := (bU G.1 r (.inr (ci, fs')), G.2)) (Nat.le_refl _) (Nat.le_refl _) (fun _ h => bU_d h) ?_ kk
  intro p e R s m args below meth c H locs cells slots ls ad Z C hf hl hc hsl hR hS hls hL hst kk
  rw [Nat.sub_self, Nat.sub_self] at kk
  have hokc : bokc G.1 (.inr (ci, fs')) := by
    obtain ⟨-, -, Ns, F, -, -, hf9⟩ := hR
    rw [← hfs]
    exact bokc_set (hf9 r _ hG).2.2.2 (hst _ List.mem_cons_self)
  obtain ⟨Ns, F, k1, hP, hD, hk, hput, -⟩ := hR.get hG
  have hset : (fs.map (bvl ad)).set k (bvl ad v) = fs'.map (bvl ad) := by rw [← hfs, List.map_set]
  have go : ∀ (H1 : Heap) (locs1 : List Loc), va_P (oD O) bCl (([] ++ va_pl Ns F).set k1 (ad r, .inr (ci, (fs.map (bvl ad)).set k (bvl ad v)))) H1 → va_D (oA O) (([] ++ va_pl Ns F).set k1 (ad r, .inr (ci, (fs.map (bvl ad)).set k (bvl ad v)))) → va_S (oA O) s.heap H1 locs1 → W p (oL O) e R s m args below meth c H1 locs1 cells slots Z (F0 m (pc + 3) ls (st.map (bvl ad))) := by
    intro H1 locs1 hP1 hD1 hS1
    rw [hset] at hP1 hD1
    exact kk H1 locs1 ls ad (hput H1 _ hokc hP1 hD1) hS1 hls (fun _ _ => rfl) (fun q hq => (hL q hq).up (fun _ => bU_d)) (fun z hz => (hst z (List.mem_cons_of_mem _ (List.mem_cons_of_mem _ hz))).up (fun _ => bU_d))
  obtain ⟨C9, T, N, tys, ⟨q1, q2, q3, q4⟩, hk9, hty, hfin, hdecl, hw1⟩ := hF
  exact va_putF C.hx C.hb C.hts q2 tys q3 q4 C.hown C.hK hP hD hS k1 hk q1 k hk9 (C.hts _ hw1) (fun _ h => h) hfin (C.hname.trans hi) hdecl (by rw [q3 k hk9, hty]) (hn ad).1 (hn ad).2 (by rw [List.length_map]; exact hl9) hd go
theorem r_iald {r n : Nat} {g : Nat → Int32} {i : Int32} (hG : G.1 r = some (.inl (0, n, .inl g))) (hin : vp_in i n) (hd : decode (mB y) pc = .ok (.iaload, 1))
    (kk : bV O y d (pc + 1) L (.int (g i.toNatClampNeg) :: st) G Q) : bV O y d pc L (.int i :: .ref r :: st) G Q := by
  refine bV.pu (fun _ h => fun z hz => (List.mem_cons.mp hz).elim (fun e => by rw [e]; trivial) (fun h9 => h z (List.mem_cons_of_mem _ (List.mem_cons_of_mem _ h9)))) (fun C hR hS hl w => ?_) kk
  obtain ⟨Ns, F, k1, hP, hD, hk, -, -⟩ := hR.get hG
  exact va_iald C.hx C.hb C.hK hP k1 0 hk rfl hin hd w
theorem r_bald {r n : Nat} {g : Nat → Int32} {i : Int32} (hG : G.1 r = some (.inl (1, n, .inl g))) (hin : vp_in i n) (hd : decode (mB y) pc = .ok (.baload, 1))
    (kk : bV O y d (pc + 1) L (.int (g i.toNatClampNeg) :: st) G Q) : bV O y d pc L (.int i :: .ref r :: st) G Q := by
  refine bV.pu (fun _ h => fun z hz => (List.mem_cons.mp hz).elim (fun e => by rw [e]; trivial) (fun h9 => h z (List.mem_cons_of_mem _ (List.mem_cons_of_mem _ h9)))) (fun C hR hS hl w => ?_) kk
  obtain ⟨Ns, F, k1, hP, hD, hk, -, -⟩ := hR.get hG
  exact va_bald C.hx C.hb C.hK hP k1 1 hk rfl hin hd w
theorem r_lald {r n : Nat} {g : Nat → Int64} {i : Int32} (hG : G.1 r = some (.inl (2, n, .inr (.inl g)))) (hin : vp_in i n) (hd : decode (mB y) pc = .ok (.laload, 1))
    (kk : bV O y d (pc + 1) L (.long (g i.toNatClampNeg) :: st) G Q) : bV O y d pc L (.int i :: .ref r :: st) G Q := by
  refine bV.pu (fun _ h => fun z hz => (List.mem_cons.mp hz).elim (fun e => by rw [e]; trivial) (fun h9 => h z (List.mem_cons_of_mem _ (List.mem_cons_of_mem _ h9)))) (fun C hR hS hl w => ?_) kk
  obtain ⟨Ns, F, k1, hP, hD, hk, -, -⟩ := hR.get hG
  exact va_lald C.hx C.hb C.hK hP k1 2 hk rfl hin hd w
theorem r_aald {kd r n : Nat} {g : Nat → Option Nat} {i : Int32} {C9 : String} (hkd : (bTys O)[kd]? = some (oC O kd, .object C9)) (hG : G.1 r = some (.inl (kd, n, .inr (.inr (.inr (.inr g)))))) (hin : vp_in i n) (hd : decode (mB y) pc = .ok (.aaload, 1))
    (kk : bV O y d (pc + 1) L (va_rf (g i.toNatClampNeg) :: st) G Q) : bV O y d pc L (.int i :: .ref r :: st) G Q := by
  refine bV.of (Nat.le_refl _) (Nat.le_refl _) (fun _ h => h) ?_ kk
  intro p e R s m args below meth c H locs cells slots ls ad Z C hf hl hc hsl hR hS hls hL hst kk
  rw [Nat.sub_self, Nat.sub_self] at kk
  have hok : bok G.1 (va_rf (g i.toNatClampNeg)) := by
    obtain ⟨-, -, Ns, F, -, -, hf9⟩ := hR
    have h9 := (hf9 r _ hG).2.2.2
    cases hj : g i.toNatClampNeg with
    | none => trivial
    | some q => exact h9 _ q hj
  have k9 := kk H locs ls ad hR hS hls (fun _ _ => rfl) hL (fun z hz => (List.mem_cons.mp hz).elim (fun e => by rw [e]; exact hok) (fun h => hst z (List.mem_cons_of_mem _ (List.mem_cons_of_mem _ h))))
  obtain ⟨Ns, F, k1, hP, hD, hk, -, -⟩ := hR.get hG
  have e1 : bvl ad (va_rf (g i.toNatClampNeg)) = va_rf ((g i.toNatClampNeg).map ad) := by
    cases g i.toNatClampNeg <;> rfl
  refine va_aldq C.hx C.hb C.hK hP k1 kd hk hkd hin hd ?_
  rw [← e1]
  exact k9
theorem r_iast {r n : Nat} {g : Nat → Int32} {i : Int32} {x : Int32} (hG : G.1 r = some (.inl (0, n, .inl g))) (hin : vp_in i n) (hd : decode (mB y) pc = .ok (.iastore, 1))
    (kk : bV O y d (pc + 1) L st (bU G.1 r (.inl (0, n, .inl (upd g i.toNatClampNeg x))), G.2) Q) : bV O y d pc L (.int x :: .int i :: .ref r :: st) G Q := by
  refine bV.of (G1 := (bU G.1 r (.inl (0, n, .inl (upd g i.toNatClampNeg x))), G.2)) (Nat.le_refl _) (Nat.le_refl _) (fun _ h => bU_d h) ?_ kk
  intro p e R s m args below meth c H locs cells slots ls ad Z C hf hl hc hsl hR hS hls hL hst kk
  rw [Nat.sub_self, Nat.sub_self] at kk
  obtain ⟨Ns, F, k1, hP, hD, hk, hput, -⟩ := hR.get hG
  refine va_iast C.hx C.hb C.hK hP hD hS k1 0 hk rfl hin hd (fun H1 locs1 hP1 hD1 hS1 => ?_)
  exact kk H1 locs1 ls ad (hput H1 (.inl (0, n, .inl (upd g i.toNatClampNeg x))) trivial hP1 hD1) hS1 hls (fun _ _ => rfl) (fun q hq => (hL q hq).up (fun _ => bU_d)) (fun z hz => (hst z (List.mem_cons_of_mem _ (List.mem_cons_of_mem _ (List.mem_cons_of_mem _ hz)))).up (fun _ => bU_d))
theorem r_bast {r n : Nat} {g : Nat → Int32} {i : Int32} {x : Int32} (hG : G.1 r = some (.inl (1, n, .inl g))) (hin : vp_in i n) (hd : decode (mB y) pc = .ok (.bastore, 1))
    (kk : bV O y d (pc + 1) L st (bU G.1 r (.inl (1, n, .inl (upd g i.toNatClampNeg (vp_nar .byte x)))), G.2) Q) : bV O y d pc L (.int x :: .int i :: .ref r :: st) G Q := by
  refine bV.of (G1 := (bU G.1 r (.inl (1, n, .inl (upd g i.toNatClampNeg (vp_nar .byte x)))), G.2)) (Nat.le_refl _) (Nat.le_refl _) (fun _ h => bU_d h) ?_ kk
  intro p e R s m args below meth c H locs cells slots ls ad Z C hf hl hc hsl hR hS hls hL hst kk
  rw [Nat.sub_self, Nat.sub_self] at kk
  obtain ⟨Ns, F, k1, hP, hD, hk, hput, -⟩ := hR.get hG
  refine va_bast C.hx C.hb C.hK hP hD hS k1 1 hk rfl hin hd (fun H1 locs1 hP1 hD1 hS1 => ?_)
  exact kk H1 locs1 ls ad (hput H1 (.inl (1, n, .inl (upd g i.toNatClampNeg (vp_nar .byte x)))) trivial hP1 hD1) hS1 hls (fun _ _ => rfl) (fun q hq => (hL q hq).up (fun _ => bU_d)) (fun z hz => (hst z (List.mem_cons_of_mem _ (List.mem_cons_of_mem _ (List.mem_cons_of_mem _ hz)))).up (fun _ => bU_d))
theorem r_last {r n : Nat} {g : Nat → Int64} {i : Int32} {x : Int64} (hG : G.1 r = some (.inl (2, n, .inr (.inl g)))) (hin : vp_in i n) (hd : decode (mB y) pc = .ok (.lastore, 1))
    (kk : bV O y d (pc + 1) L st (bU G.1 r (.inl (2, n, .inr (.inl (vp_updL g i.toNatClampNeg x)))), G.2) Q) : bV O y d pc L (.long x :: .int i :: .ref r :: st) G Q := by
  refine bV.of (G1 := (bU G.1 r (.inl (2, n, .inr (.inl (vp_updL g i.toNatClampNeg x)))), G.2)) (Nat.le_refl _) (Nat.le_refl _) (fun _ h => bU_d h) ?_ kk
  intro p e R s m args below meth c H locs cells slots ls ad Z C hf hl hc hsl hR hS hls hL hst kk
  rw [Nat.sub_self, Nat.sub_self] at kk
  obtain ⟨Ns, F, k1, hP, hD, hk, hput, -⟩ := hR.get hG
  refine va_last C.hx C.hb C.hK hP hD hS k1 2 hk rfl hin hd (fun H1 locs1 hP1 hD1 hS1 => ?_)
  exact kk H1 locs1 ls ad (hput H1 (.inl (2, n, .inr (.inl (vp_updL g i.toNatClampNeg x)))) trivial hP1 hD1) hS1 hls (fun _ _ => rfl) (fun q hq => (hL q hq).up (fun _ => bU_d)) (fun z hz => (hst z (List.mem_cons_of_mem _ (List.mem_cons_of_mem _ (List.mem_cons_of_mem _ hz)))).up (fun _ => bU_d))
theorem r_aast {kd r n ci q : Nat} {g : Nat → Option Nat} {i : Int32} {w9 : vw_C} {vs : List Value} (hkd : (bTys O)[kd]? = some (oC O kd, .object w9.1)) (hci : bCl[ci]? = some w9) (hG : G.1 r = some (.inl (kd, n, .inr (.inr (.inr (.inr g)))))) (hq : G.1 q = some (.inr (ci, vs))) (hin : vp_in i n) (hd : decode (mB y) pc = .ok (.aastore, 1))
    (kk : bV O y d (pc + 1) L st (bU G.1 r (.inl (kd, n, .inr (.inr (.inr (.inr (va_up g i.toNatClampNeg (some q))))))), G.2) Q) : bV O y d pc L (.ref q :: .int i :: .ref r :: st) G Q := by
  refine bV.of (G1 := (bU G.1 r (.inl (kd, n, .inr (.inr (.inr (.inr (va_up g i.toNatClampNeg (some q))))))), G.2)) (Nat.le_refl _) (Nat.le_refl _) (fun _ h => bU_d h) ?_ kk
  intro p e R s m args below meth c H locs cells slots ls ad Z C hf hl hc hsl hR hS hls hL hst kk
  rw [Nat.sub_self, Nat.sub_self] at kk
  have hokc : bokc G.1 (.inl (kd, n, .inr (.inr (.inr (.inr (va_up g i.toNatClampNeg (some q))))))) := by
    obtain ⟨-, -, Ns, F, -, -, hf9⟩ := hR
    have h9 := (hf9 r _ hG).2.2.2
    intro j z hz
    by_cases e : j = i.toNatClampNeg
    · rw [e, va_up_self] at hz
      cases hz
      exact Or.inr (by rw [hq]; exact fun w => by cases w)
    · rw [va_up_ne _ _ e] at hz
      exact h9 j z hz
  obtain ⟨Ns, F, k1, hP, hD, hk, hput, hget⟩ := hR.get hG
  obtain ⟨k2, hk2⟩ := hget q _ hq
  have e9 : va_up (fun j => (g j).map ad) i.toNatClampNeg (some (ad q)) = fun j => (va_up g i.toNatClampNeg (some q) j).map ad := by
    funext j
    by_cases e : j = i.toNatClampNeg
    · rw [e, va_up_self, va_up_self]; rfl
    · rw [va_up_ne _ _ e, va_up_ne _ _ e]
  refine va_astq C.hx C.hb C.hK hP hD hS k1 kd k2 ci hk hkd hk2 hci hin hd (fun H1 locs1 hP1 hD1 hS1 => ?_)
  rw [e9] at hP1 hD1
  exact kk H1 locs1 ls ad (hput H1 _ hokc hP1 hD1) hS1 hls (fun _ _ => rfl) (fun q hq => (hL q hq).up (fun _ => bU_d)) (fun z hz => (hst z (List.mem_cons_of_mem _ (List.mem_cons_of_mem _ (List.mem_cons_of_mem _ hz)))).up (fun _ => bU_d))
theorem bcv_inl (C : Nat → ClassId) (ad : Nat → Nat) (kd : Nat) (a : vp_A) : ∃ a' : vp_A, a'.1 = a.1 ∧ bcv C ad (.inl (kd, a)) = .inl (C kd, a') := by
  rcases a with ⟨n, g | g | g | g | g⟩
  · exact ⟨_, rfl, rfl⟩
  · exact ⟨_, rfl, rfl⟩
  · exact ⟨_, rfl, rfl⟩
  · exact ⟨_, rfl, rfl⟩
  · exact ⟨(n, .inr (.inr (.inr (.inr (fun j => (g j).map ad))))), rfl, rfl⟩
theorem r_alen {kd r : Nat} {a : vp_A} {ty : FieldType} (hkd : (bTys O)[kd]? = some (oC O kd, ty)) (hG : G.1 r = some (.inl (kd, a))) (hd : decode (mB y) pc = .ok (.arraylength, 1))
    (kk : bV O y d (pc + 1) L (.int (nI a.1) :: st) G Q) : bV O y d pc L (.ref r :: st) G Q := by
  refine bV.pu (fun _ h => fun z hz => (List.mem_cons.mp hz).elim (fun e => by rw [e]; trivial) (fun h9 => h z (List.mem_cons_of_mem _ h9))) (fun C hR hS hl w => ?_) kk
  rename_i ad Z
  obtain ⟨Ns, F, k1, hP, hD, hk, -, -⟩ := hR.get hG
  obtain ⟨a', e1, e2⟩ := bcv_inl (oC O) ad kd a
  rw [e2] at hk
  exact va_alen C.hx C.hb C.hK hP k1 kd hk hkd (by rw [e1]; rfl) hd w
/-- the script -/
theorem r_slen (hd : decode (mB y) pc = .ok (.arraylength, 1)) (kk : bV O y d (pc + 1) L (.int (nI (oN O)) :: st) G Q) : bV O y d pc L (.ref 0 :: st) G Q := by
  refine bV.pu (fun _ h => fun z hz => (List.mem_cons.mp hz).elim (fun e => by rw [e]; trivial) (fun h9 => h z (List.mem_cons_of_mem _ h9))) (fun C hR hS hl w => ?_) kk
  have hX := C.env.2.2.2.2.1
  show W _ _ _ _ _ _ _ _ _ _ _ _ _ _ _ (F0 _ _ _ (.ref _ :: _))
  rw [hR.1 0 (by decide)]
  exact va_slen C.hx C.hb hX.1 (Nat.lt_of_lt_of_le hX.2 C.env.2.1) (Nat.not_le.mpr hX.2) hS hd w
theorem r_sld {i : Int32} (hin : vp_in i (oN O)) (hd : decode (mB y) pc = .ok (.iaload, 1)) (kk : bV O y d (pc + 1) L (.int (oX O i.toNatClampNeg) :: st) G Q) : bV O y d pc L (.int i :: .ref 0 :: st) G Q := by
  refine bV.pu (fun _ h => fun z hz => (List.mem_cons.mp hz).elim (fun e => by rw [e]; trivial) (fun h9 => h z (List.mem_cons_of_mem _ (List.mem_cons_of_mem _ h9)))) (fun C hR hS hl w => ?_) kk
  have hX := C.env.2.2.2.2.1
  show W _ _ _ _ _ _ _ _ _ _ _ _ _ _ _ (F0 _ _ _ (.int i :: .ref _ :: _))
  rw [hR.1 0 (by decide)]
  exact va_sld C.hx C.hb hX.1 (Nat.lt_of_lt_of_le hX.2 C.env.2.1) (Nat.not_le.mpr hX.2) hS hin hd w
/-- a String constant -/
theorem r_ldcS {ix i : Nat} {tx : String} (hs : ((mN y).cls, ix, tx, i) ∈ bSt) (h7 : i < 7) (hd : decode (mB y) pc = .ok (.ldc ix, 2)) (kk : bV O y d (pc + 2) L (.ref (i + 1) :: st) G Q) : bV O y d pc L st G Q := by
  refine bV.pu (fun _ h => fun z hz => (List.mem_cons.mp hz).elim (fun e => by rw [e]; exact (Or.inl (show i + 1 < 32 by omega))) (fun h9 => h z h9)) (fun C hR hS hl w => ?_) kk
  rename_i ad Z
  refine va_ldcS C.hx C.hb C.hown (C.env.2.2.2.2.2.1.2 _ hs) hd ?_
  have e1 : ad (i + 1) = oK O (i + 1) := by
    rw [hR.1 (i + 1) (by omega)]
    simp [oE]
  rw [← e1]
  exact w
/-- Object's constructor -/
theorem r_objInit {ix r : Nat} (hd1 : 1 ≤ d) (h1 : Cond.methodLink (mN y).cls ix Lib.objectInit ∈ bW) (h2 : Cond.instanceMethod Lib.objectInit ∈ bW) (h3 : Cond.code Lib.objectInit ⟨#[0xb1]⟩ 1 none ∈ bW) (hW : (st.map fun v => v.category).sum ≤ 8) (hd : decode (mB y) pc = .ok (.invokespecial ix, 3))
    (kk : bV O y d (pc + 3) L st G Q) : bV O y d pc L (.ref r :: st) G Q := by
  refine bV.of (Nat.le_refl _) (Nat.le_refl _) (fun _ h => h) ?_ kk
  intro p e R s m args below meth c H locs cells slots ls ad Z C hf hl hc hsl hR hS hls hL hst kk
  rw [Nat.sub_self, Nat.sub_self] at kk
  refine W.objInit C.hx C.hb C.hown (C.hts _ h1) (C.hts _ h2) (C.hts _ h3) rfl (hls.1.trans C.hml.symm) (a := ad r) (rest := st.map (bvl ad)) rfl hd (by omega) ?_ (kk H locs ls ad hR hS hls (fun _ _ => rfl) hL (fun z hz => hst z (List.mem_cons_of_mem _ hz)))
  have e1 : ((st.map (bvl ad)).map fun v => v.category) = st.map fun v => v.category := by
    rw [List.map_map]
    exact List.map_congr_left (fun v _ => bvl_cat ad v)
  rw [e1]
  show 2 * 0 + _ + 12 ≤ _
  omega
end
