/-! ===== small helps of the walks ===== -/
theorem bMt_of {O : bO} {y : bM} {d : Nat} {As : List Value} {G G1 : bG} {R : bR} (h : bCall O y d As G (fun r G' => r = R ∧ G' = G1)) : bMt O y d As G R G1 := by
  obtain ⟨r, G', ⟨rfl, rfl⟩, h⟩ := h
  exact h
theorem bMt.call {O : bO} {y : bM} {d : Nat} {As : List Value} {G G1 : bG} {R : bR} (h : bMt O y d As G R G1) : bCall O y d As G (fun r G' => r = R ∧ G' = G1) := ⟨R, G1, ⟨rfl, rfl⟩, h⟩
theorem bV_h {O : bO} {y : bM} {d pc : Nat} {L : List (Nat × Value)} {st : List Value} {f f2 : bF} {z : Nat × Nat} {Q : bR → bG → Prop} (h : f = f2) (k : bV O y d pc L st (f2, z) Q) : bV O y d pc L st (f, z) Q := h ▸ k
theorem r_alen2 {O : bO} {y : bM} {d pc : Nat} {L : List (Nat × Value)} {st : List Value} {G : bG} {Q : bR → bG → Prop} {kd r n : Nat} {a : vp_A} {ty : FieldType} (hkd : (bTys O)[kd]? = some (oC O kd, ty)) (hG : G.1 r = some (.inl (kd, a))) (hn : a.1 = n) (hd : decode (mB y) pc = .ok (.arraylength, 1))
    (kk : bV O y d (pc + 1) L (.int (nI n) :: st) G Q) : bV O y d pc L (.ref r :: st) G Q := by
  subst hn
  exact r_alen hkd hG hd kk
theorem vpn {i : Int32} {n : Nat} (h1 : ¬ i < 0) (h2 : ¬ nI n ≤ i) (h3 : n < 2 ^ 31) : vp_in i n := by
  rw [vp_in_iff]
  rw [Int32.le_iff_toInt_le, nI_toInt h3] at h2
  rw [Int32.lt_iff_toInt_lt] at h1
  have : (0 : Int32).toInt = 0 := rfl
  omega
theorem vpn_lit {i : Int32} {n : Nat} (h1 : 0 ≤ i.toInt) (h2 : i.toInt < n) : vp_in i n := vp_in_iff.mpr ⟨h1, h2⟩
def bI (b : Bool) : Int32 := if b then 1 else 0
theorem narZ (b : Bool) : narrow .boolean (.int (bI b)) = .int (bI b) := by cases b <;> decide +kernel
theorem bI_t : bI true = 1 := rfl
theorem bI_f : bI false = 0 := rfl
