/-! ===== java.lang.Math: pure rows ===== -/
def jmx (a b : Int32) : Int32 := if a < b then b else a
def jmn (a b : Int32) : Int32 := if b < a then b else a
def jab (a : Int32) : Int32 := if 0 ≤ a then a else 0 - a
def lmx (a b : Int64) : Int64 := if b < a then a else b
def lmn (a b : Int64) : Int64 := if b < a then b else a
def lab (a : Int64) : Int64 := if 0 < a then a else -a
section
variable {O : bO} {y : bM} {d pc : Nat} {L : List (Nat × Value)} {st : List Value} {G : bG} {Q : bR → bG → Prop}
theorem bV.pm {st' : List Value} (hok : (∀ v ∈ st, bok G.1 v) → ∀ v ∈ st', bok G.1 v) (hd1 : 1 ≤ d)
    (h : ∀ {p : Program} {e : Env} {R : Room} {s : State} {m : MethodId} {args : Array Value} {below : List Frame} {meth : Method} {c : Code} {H : Heap} {locs : List Loc} {cells slots : Nat} {ls : Array Slot} {ad : Nat → Nat} {Z : State → Prop},
      bCx O y p s m args meth c → 1 ≤ R.frames → 64 ≤ R.locals → cells ≤ R.cells → slots ≤ R.slots → c.maxLocals = ls.size →
      W p (oL O) e R s m args below meth c H locs cells slots Z (F0 m (pc + 3) ls (st'.map (bvl ad))) →
      W p (oL O) e R s m args below meth c H locs cells slots Z (F0 m pc ls (st.map (bvl ad))))
    (k : bV O y d (pc + 3) L st' G Q) : bV O y d pc L st G Q := by
  refine bV.of (Nat.le_refl _) (Nat.le_refl _) (fun _ h => h) ?_ k
  intro p e R s m args below meth c H locs cells slots ls ad Z C hf hl hc hsl hR hS hls hL hst kk
  rw [Nat.sub_self, Nat.sub_self] at kk
  exact h C (by omega) (by omega) (by omega) (by omega) (by rw [C.hml, hls.1]) (kk H locs ls ad hR hS hls (fun _ _ => rfl) hL (hok hst))
theorem r_mmax {ix n : Nat} {a b : Int32} (hd1 : 1 ≤ d) (hl : bLk (mN y).cls ix mJ9_max_7cf53 n) (hW : (st.map fun v => v.category).sum ≤ 8) (hd : decode (mB y) pc = .ok (.invokestatic ix, 3)) (k : bV O y d (pc + 3) L (.int (jmx a b) :: st) G Q) : bV O y d pc L (.int b :: .int a :: st) G Q :=
  bV.pm (st' := .int (jmx a b) :: st) (fun h => by simpa [bok] using h) hd1 (fun C h1 h2 h3 h4 h5 w => va_mmax C.hx C.hb h5 C.hown (C.hts _ hl.2.2.2.2.2) (C.hts _ smJ9_max_7cf53) (C.hts _ hl.2.1) (C.hts _ hl.1) h1 (by rw [bcs]; omega) h3 h4 hd w) k
theorem r_mmin {ix n : Nat} {a b : Int32} (hd1 : 1 ≤ d) (hl : bLk (mN y).cls ix mJ9_min_7cf53 n) (hW : (st.map fun v => v.category).sum ≤ 8) (hd : decode (mB y) pc = .ok (.invokestatic ix, 3)) (k : bV O y d (pc + 3) L (.int (jmn a b) :: st) G Q) : bV O y d pc L (.int b :: .int a :: st) G Q :=
  bV.pm (st' := .int (jmn a b) :: st) (fun h => by simpa [bok] using h) hd1 (fun C h1 h2 h3 h4 h5 w => va_mmin C.hx C.hb h5 C.hown (C.hts _ hl.2.2.2.2.2) (C.hts _ smJ9_min_7cf53) (C.hts _ hl.2.1) (C.hts _ hl.1) h1 (by rw [bcs]; omega) h3 h4 hd w) k
theorem r_mabs {ix n : Nat} {a : Int32} (hd1 : 1 ≤ d) (hl : bLk (mN y).cls ix mJ9_abs_0f7a4 n) (hW : (st.map fun v => v.category).sum ≤ 8) (hd : decode (mB y) pc = .ok (.invokestatic ix, 3)) (k : bV O y d (pc + 3) L (.int (jab a) :: st) G Q) : bV O y d pc L (.int a :: st) G Q :=
  bV.pm (st' := .int (jab a) :: st) (fun h => by simpa [bok] using h) hd1 (fun C h1 h2 h3 h4 h5 w => va_mabs C.hx C.hb h5 C.hown (C.hts _ hl.2.2.2.2.2) (C.hts _ smJ9_abs_0f7a4) (C.hts _ hl.2.1) (C.hts _ hl.1) h1 (by rw [bcs]; omega) h3 h4 hd w) k
theorem r_mmaxL {ix n : Nat} {a b : Int64} (hd1 : 1 ≤ d) (hl : bLk (mN y).cls ix mJ9_max_f86c9 n) (hW : (st.map fun v => v.category).sum ≤ 8) (hd : decode (mB y) pc = .ok (.invokestatic ix, 3)) (k : bV O y d (pc + 3) L (.long (lmx a b) :: st) G Q) : bV O y d pc L (.long b :: .long a :: st) G Q :=
  bV.pm (st' := .long (lmx a b) :: st) (fun h => by simpa [bok] using h) hd1 (fun C h1 h2 h3 h4 h5 w => va_mmax_long C.hx C.hb h5 C.hown (C.hts _ hl.2.2.2.2.2) (C.hts _ smJ9_max_f86c9) (C.hts _ hl.2.1) (C.hts _ hl.1) h1 (by rw [bcs]; omega) h3 h4 hd w) k
theorem r_mminL {ix n : Nat} {a b : Int64} (hd1 : 1 ≤ d) (hl : bLk (mN y).cls ix mJ9_min_f86c9 n) (hW : (st.map fun v => v.category).sum ≤ 8) (hd : decode (mB y) pc = .ok (.invokestatic ix, 3)) (k : bV O y d (pc + 3) L (.long (lmn a b) :: st) G Q) : bV O y d pc L (.long b :: .long a :: st) G Q :=
  bV.pm (st' := .long (lmn a b) :: st) (fun h => by simpa [bok] using h) hd1 (fun C h1 h2 h3 h4 h5 w => va_mmin_long C.hx C.hb h5 C.hown (C.hts _ hl.2.2.2.2.2) (C.hts _ smJ9_min_f86c9) (C.hts _ hl.2.1) (C.hts _ hl.1) h1 (by rw [bcs]; omega) h3 h4 hd w) k
theorem r_mabsL {ix n : Nat} {a : Int64} (hd1 : 1 ≤ d) (hl : bLk (mN y).cls ix mJ9_abs_067f4 n) (hW : (st.map fun v => v.category).sum ≤ 8) (hd : decode (mB y) pc = .ok (.invokestatic ix, 3)) (k : bV O y d (pc + 3) L (.long (lab a) :: st) G Q) : bV O y d pc L (.long a :: st) G Q :=
  bV.pm (st' := .long (lab a) :: st) (fun h => by simpa [bok] using h) hd1 (fun C h1 h2 h3 h4 h5 w => va_mabs_long C.hx C.hb h5 C.hown (C.hts _ hl.2.2.2.2.2) (C.hts _ smJ9_abs_067f4) (C.hts _ hl.2.1) (C.hts _ hl.1) h1 (by rw [bcs]; omega) h3 h4 hd w) k
end
