/-! ===== small helps of the walks ===== -/
theorem bMt_of {O : bO} {y : bM} {d : Nat} {As : List Value} {G G1 : bG} {R : bR} (h : bCall O y d As G (fun r G' => r = R ∧ G' = G1)) : bMt O y d As G R G1 := by
  obtain ⟨r, G', ⟨rfl, rfl⟩, h⟩ := h
  exact h
theorem bMt.call {O : bO} {y : bM} {d : Nat} {As : List Value} {G G1 : bG} {R : bR} (h : bMt O y d As G R G1) : bCall O y d As G (fun r G' => r = R ∧ G' = G1) := ⟨R, G1, ⟨rfl, rfl⟩, h⟩
theorem bV_h {O : bO} {y : bM} {d pc : Nat} {L : List (Nat × Value)} {st : List Value} {f f2 : bF} {z : Nat × Nat} {Q : bR → bG → Prop} (h : f = f2) (k : bV O y d pc L st (f2, z) Q) : bV O y d pc L st (f, z) Q := h ▸ k
theorem r_alen2 {O : bO} {y : bM} {d pc : Nat} {L : List (Nat × Value)} {st : List Value} {G : bG} {Q : bR → bG → Prop} {kd r n : Nat} {a : vp_A} {ty : FieldType} (hkd : (bTys O)[kd]? = some (oC O kd, ty)) (hG : G.1 r = some (.inl (kd, a))) (hn : a.1 = n) (hd : decode (mB y) pc = .ok (.arraylength, 1))
    (kk : bV O y d (pc + 1) L (.int (nI n) :: st) G Q) : bV O y d pc L (.ref r :: st) G Q := by
  subst hn
  exact r_alen hkd hG hd kk
theorem vpn {i : Int32} {n : Nat} (h1 : ¬ i < 0) (h2 : ¬ nI n ≤ i) (h3 : n < 2 ^ 31) : vp_in i n := by
  rw [vp_in_iff]
  rw [Int32.le_iff_toInt_le, nI_toInt h3] at h2
  rw [Int32.lt_iff_toInt_lt] at h1
  have : (0 : Int32).toInt = 0 := rfl
  omega
theorem vpn_lit {i : Int32} {n : Nat} (h1 : 0 ≤ i.toInt) (h2 : i.toInt < n) : vp_in i n := vp_in_iff.mpr ⟨h1, h2⟩
def bI (b : Bool) : Int32 := if b then 1 else 0
theorem narZ (b : Bool) : narrow .boolean (.int (bI b)) = .int (bI b) := by cases b <;> decide +kernel
theorem bI_t : bI true = 1 := rfl
theorem bI_f : bI false = 0 := rfl
section
variable {O : bO} {y : bM} {d pc : Nat} {L : List (Nat × Value)} {st : List Value} {G : bG} {Q : bR → bG → Prop}
theorem r_iaddE {a b v : Int32} (hv : a + b = v) (hd : decode (mB y) pc = .ok (.iadd, 1)) (k : bV O y d (pc + 1) L (.int v :: st) G Q) : bV O y d pc L (.int b :: .int a :: st) G Q := r_iadd hd (by rw [hv]; exact k)
theorem r_isubE {a b v : Int32} (hv : a - b = v) (hd : decode (mB y) pc = .ok (.isub, 1)) (k : bV O y d (pc + 1) L (.int v :: st) G Q) : bV O y d pc L (.int b :: .int a :: st) G Q := r_isub hd (by rw [hv]; exact k)
theorem r_imulE {a b v : Int32} (hv : a * b = v) (hd : decode (mB y) pc = .ok (.imul, 1)) (k : bV O y d (pc + 1) L (.int v :: st) G Q) : bV O y d pc L (.int b :: .int a :: st) G Q := r_imul hd (by rw [hv]; exact k)
theorem r_ialdN {r n t : Nat} {g : Nat → Int32} (hG : G.1 r = some (.inl (0, n, .inl g))) (ht : t < n) (hn : n < 2 ^ 31) (hd : decode (mB y) pc = .ok (.iaload, 1)) (kk : bV O y d (pc + 1) L (.int (g t) :: st) G Q) : bV O y d pc L (.int (nI t) :: .ref r :: st) G Q :=
  r_iald hG (vp_in_nI ht hn) hd (by rw [nI_clamp (by omega)]; exact kk)
theorem r_baldN {r n t : Nat} {g : Nat → Int32} (hG : G.1 r = some (.inl (1, n, .inl g))) (ht : t < n) (hn : n < 2 ^ 31) (hd : decode (mB y) pc = .ok (.baload, 1)) (kk : bV O y d (pc + 1) L (.int (g t) :: st) G Q) : bV O y d pc L (.int (nI t) :: .ref r :: st) G Q :=
  r_bald hG (vp_in_nI ht hn) hd (by rw [nI_clamp (by omega)]; exact kk)
theorem r_laldN {r n t : Nat} {g : Nat → Int64} (hG : G.1 r = some (.inl (2, n, .inr (.inl g)))) (ht : t < n) (hn : n < 2 ^ 31) (hd : decode (mB y) pc = .ok (.laload, 1)) (kk : bV O y d (pc + 1) L (.long (g t) :: st) G Q) : bV O y d pc L (.int (nI t) :: .ref r :: st) G Q :=
  r_lald hG (vp_in_nI ht hn) hd (by rw [nI_clamp (by omega)]; exact kk)
theorem r_iastN {r n t : Nat} {g : Nat → Int32} {x : Int32} (hG : G.1 r = some (.inl (0, n, .inl g))) (ht : t < n) (hn : n < 2 ^ 31) (hd : decode (mB y) pc = .ok (.iastore, 1)) (kk : bV O y d (pc + 1) L st (bU G.1 r (.inl (0, n, .inl (upd g t x))), G.2) Q) : bV O y d pc L (.int x :: .int (nI t) :: .ref r :: st) G Q :=
  r_iast hG (vp_in_nI ht hn) hd (by rw [nI_clamp (by omega)]; exact kk)
theorem r_bastN {r n t : Nat} {g : Nat → Int32} {x : Int32} (hG : G.1 r = some (.inl (1, n, .inl g))) (ht : t < n) (hn : n < 2 ^ 31) (hd : decode (mB y) pc = .ok (.bastore, 1)) (kk : bV O y d (pc + 1) L st (bU G.1 r (.inl (1, n, .inl (upd g t (vp_nar .byte x)))), G.2) Q) : bV O y d pc L (.int x :: .int (nI t) :: .ref r :: st) G Q :=
  r_bast hG (vp_in_nI ht hn) hd (by rw [nI_clamp (by omega)]; exact kk)
theorem r_lastN {r n t : Nat} {g : Nat → Int64} {x : Int64} (hG : G.1 r = some (.inl (2, n, .inr (.inl g)))) (ht : t < n) (hn : n < 2 ^ 31) (hd : decode (mB y) pc = .ok (.lastore, 1)) (kk : bV O y d (pc + 1) L st (bU G.1 r (.inl (2, n, .inr (.inl (vp_updL g t x)))), G.2) Q) : bV O y d pc L (.long x :: .int (nI t) :: .ref r :: st) G Q :=
  r_last hG (vp_in_nI ht hn) hd (by rw [nI_clamp (by omega)]; exact kk)
end
theorem bI_0 {b : Bool} : bI b = 0 ↔ b = false := by cases b <;> decide
theorem bI_1 {b : Bool} : ¬ bI b = 0 ↔ b = true := by cases b <;> decide
theorem nI_inc1 (q : Nat) : nI q + Int32.ofInt 1 = nI (q + 1) := by
  rw [show Int32.ofInt 1 = 1 by decide]
  exact nI_1 q
/-- fewer locals known, by their places -/
theorem bV_loc {O : bO} {y : bM} {d pc : Nat} {L L' : List (Nat × Value)} {st : List Value} {G : bG} {Q : bR → bG → Prop} (ks : List Nat) (h : ks.filterMap (fun k => L[k]?) = L') (k : bV O y d pc L' st G Q) : bV O y d pc L st G Q := by
  have hm : ∀ q ∈ L', q ∈ L := by
    intro q hq
    rw [← h] at hq
    obtain ⟨k, -, hk⟩ := List.mem_filterMap.mp hq
    exact List.mem_of_getElem? hk
  obtain ⟨r, G', hQ, k1, k2, k3, k4⟩ := k
  refine ⟨r, G', hQ, k1, k2, k3, ?_⟩
  intro p e R s m args below meth c H locs cells slots ls ad Qc XC C hf hl hc hsl hR hS hls hL hst hE
  refine k4 p e R s m args below meth c H locs cells slots ls ad Qc XC C hf hl hc hsl hR hS ⟨hls.1, hls.2.1, fun q hq => ?_⟩ (fun q hq => hL q (hm q hq)) hst hE
  obtain ⟨z, hz, rfl⟩ := List.mem_map.mp hq
  exact hls.2.2 _ (List.mem_map.mpr ⟨z, hm z hz, rfl⟩)
