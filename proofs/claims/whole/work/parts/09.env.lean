/-! ===== methods, what holds at a method's start, the judgement of a frame, contracts ===== -/
/-- returned (with a value), or threw: 0 is a NoSuchElementException of its own, else the number of the thing thrown -/
abbrev bR : Type := Option Value ⊕ Nat
def bNw (w : Cond) : Bool := match w with
  | .fieldLinkNest _ _ _ _ _ _ => true
  | .methodLinkNest _ _ _ _ => true
  | .castable _ _ => true
  | _ => false
def bSt : List (String × Nat × String × Nat) := [("ModelShelf$Tape", 61, "if", 0), ("ModelShelf$Tape", 67, "then", 1), ("ModelShelf$Tape", 69, "else", 2), ("ModelShelf$Tape", 71, "least", 3), ("ModelShelf$Tape", 73, "most", 4), ("ModelShelfModel", 152, "if", 0), ("ModelShelfModel", 167, "then", 1), ("ModelShelfModel", 176, "else", 2), ("ModelShelfModel", 194, "least", 3), ("ModelShelfModel", 196, "most", 4), ("ModelShelfModel", 198, "x", 5), ("ModelShelf", 279, "no such differing answer", 6)]
def bLen : List Nat := [2, 4, 4, 5, 4, 1, 24]
def bByt : List (List Int32) := [[105, 102], [116, 104, 101, 110], [101, 108, 115, 101], [108, 101, 97, 115, 116], [109, 111, 115, 116], [120], [110, 111, 32, 115, 117, 99, 104, 32, 100, 105, 102, 102, 101, 114, 105, 110, 103, 32, 97, 110, 115, 119, 101, 114]]
def bEnv (O : bO) (s : State) : Prop :=
  va_K (oD O) bCl (bTys O) s ∧ oB O ≤ s.heap.size ∧ (∀ w ∈ lw_tbl, bNw w = true → va_Nw w s) ∧
  (va_AO "ModelShelf$Model" s ∧ va_AO "ModelShelf$Door" s ∧ va_AO "ModelShelf$Answer" s ∧ va_AO "ModelShelfModel$Model" s ∧ va_AO "ModelShelfModel$Door" s) ∧
  (va_X (oS O) (oN O) (oX O) s s.heap ∧ oS O < oB O) ∧
  (vk_S 7 bLen bByt (fun i => oK O (i + 1)) (fun i => oK O (i + 8)) (oA O) s s.heap ∧ ∀ e ∈ bSt, vk_R e.1 e.2.1 e.2.2.1 (oK O (e.2.2.2 + 1)) s) ∧
  (va_Z "java/lang/String" "COMPACT_STRINGS" "Z" (.int 1) (oA O) s s.heap ∧ vx_Zq Bundle.tN "UNASSIGNED_STACK" Bundle.steD (oA O) s s.heap ∧ vx_Zq Bundle.tN "SUPPRESSED_SENTINEL" Bundle.listD (oA O) s s.heap ∧ (va_Z Bundle.tN "UNASSIGNED_STACK" Bundle.steD .null (oA O) s s.heap ∨ va_Z Bundle.tN "UNASSIGNED_STACK" Bundle.steD (.ref (oK O 15)) (oA O) s s.heap) ∧ (va_Z Bundle.tN "SUPPRESSED_SENTINEL" Bundle.listD .null (oA O) s s.heap ∨ va_Z Bundle.tN "SUPPRESSED_SENTINEL" Bundle.listD (.ref (oK O 16)) (oA O) s s.heap) ∧ (va_Z "jdk/internal/util/Preconditions" "SIOOBE_FORMATTER" "Ljava/util/function/BiFunction;" .null (oA O) s s.heap ∨ va_Z "jdk/internal/util/Preconditions" "SIOOBE_FORMATTER" "Ljava/util/function/BiFunction;" (.ref (oK O 17)) (oA O) s s.heap)) ∧
  (oL O).stackTraces = false
theorem bNw.warm {w : Cond} {s U : State} (hW : s.WarmedH U.vm) (hw : bNw w = true) (h : va_Nw w s) : va_Nw w U := by
  cases w <;> first | (simp [bNw] at hw; done) | exact va_Nw.warmF hW h | exact va_Nw.warmM hW h | exact va_Nw.warmC hW h
theorem bEnv.moved {O : bO} {s U : State} {H : Heap} {locs : List Loc} (h : bEnv O s) (hW : s.WarmedH U.vm) (hH : U.heap = H) (hS : va_S (oA O) s.heap H locs) : bEnv O U := by
  obtain ⟨hK, hb, hn, ⟨a1, a2, a3, a4, a5⟩, ⟨hX, hXb⟩, ⟨hs1, hs2⟩, ⟨z1, z2, z3, z4, z5, z6⟩, hl⟩ := h
  have ha := hW.alike
  subst hH
  refine ⟨va_K.moved ha hK, Nat.le_trans hb hS.1, fun w h1 h2 => bNw.warm hW h2 (hn w h1 h2), ⟨va_AO.moved ha a1, va_AO.moved ha a2, va_AO.moved ha a3, va_AO.moved ha a4, va_AO.moved ha a5⟩, ⟨va_X.moved ha (hX.kept (hS.2.1 _ (Nat.lt_of_lt_of_le hXb hb) (Nat.not_le.mpr hXb))), hXb⟩, ⟨vk_S.moved ha (hs1.kept hS.2.1), fun e he => vk_R.warm hW (hs2 e he)⟩, ⟨va_Z.moved ha (z1.kept hS.2.1), vx_Zq.moved ha (z2.kept hS.2.1), vx_Zq.moved ha (z3.kept hS.2.1), z4.imp (fun z => va_Z.moved ha (z.kept hS.2.1)) (fun z => va_Z.moved ha (z.kept hS.2.1)), z5.imp (fun z => va_Z.moved ha (z.kept hS.2.1)) (fun z => va_Z.moved ha (z.kept hS.2.1)), z6.imp (fun z => va_Z.moved ha (z.kept hS.2.1)) (fun z => va_Z.moved ha (z.kept hS.2.1))⟩, hl⟩
/-- at a method's start -/
def bCx (O : bO) (y : bM) (p : Program) (s : State) (m : MethodId) (args : Array Value) (meth : Method) (c : Code) : Prop :=
  p.tables.exec = Jvm.exec ∧ c.code = mB y ∧ meth.sig.returnType = mR y ∧ c.maxLocals = mL y ∧ s.vm.findClass (mN y).cls = some m.cls ∧ (∀ w ∈ bW, w.before args s = true) ∧ bEnv O s ∧ meth.locks = false ∧ meth.name = (mN y).name ∧ c.exceptionTable.toList = mX y
section
variable {O : bO} {y : bM} {p : Program} {s : State} {m : MethodId} {args : Array Value} {meth : Method} {c : Code}
theorem bCx.hx (C : bCx O y p s m args meth c) : p.tables.exec = Jvm.exec := C.1
theorem bCx.hb (C : bCx O y p s m args meth c) : c.code = mB y := C.2.1
theorem bCx.hr (C : bCx O y p s m args meth c) : meth.sig.returnType = mR y := C.2.2.1
theorem bCx.hml (C : bCx O y p s m args meth c) : c.maxLocals = mL y := C.2.2.2.1
theorem bCx.hown (C : bCx O y p s m args meth c) : s.vm.findClass (mN y).cls = some m.cls := C.2.2.2.2.1
theorem bCx.hts (C : bCx O y p s m args meth c) : ∀ w ∈ bW, w.before args s = true := C.2.2.2.2.2.1
theorem bCx.env (C : bCx O y p s m args meth c) : bEnv O s := C.2.2.2.2.2.2.1
theorem bCx.hlocks (C : bCx O y p s m args meth c) : meth.locks = false := C.2.2.2.2.2.2.2.1
theorem bCx.hname (C : bCx O y p s m args meth c) : meth.name = (mN y).name := C.2.2.2.2.2.2.2.2.1
theorem bCx.hexc (C : bCx O y p s m args meth c) : c.exceptionTable.toList = mX y := C.2.2.2.2.2.2.2.2.2
theorem bCx.hK (C : bCx O y p s m args meth c) : va_K (oD O) bCl (bTys O) s := C.env.1
theorem bCx.hA (C : bCx O y p s m args meth c) : ∀ q, s.heap.size ≤ q → oA O q := fun _ h => Nat.le_trans C.env.2.1 h
end
/-- which thing is thrown -/
def bTh (f : bF) (q : Nat) (ad : Nat → Nat) (E : String) (a : Addr) : Prop :=
  (q = 0 ∧ E = "java/util/NoSuchElementException") ∨ (32 ≤ q ∧ a = ad q ∧ ∃ (ci : Nat) (fs : List Value) (w : vw_C), f q = some (.inr (ci, fs)) ∧ bCl[ci]? = some w ∧ E = w.1)
def bEnd (O : bO) (f : bF) (ad : Nat → Nat) (r : bR) (G' : bG) (s : State) (args : Array Value) (Qc : Array Value → State → Outcome → State → Prop) (XC : String → Addr → State → State → Prop) : Prop :=
  ∀ (t : State) (ad' : Nat → Nat), (∀ q, f q ≠ none → ad' q = ad q) → bRep O ad' G'.1 t.heap → va_F (oA O) s t →
    match r with
    | .inl v => (∀ w, v = some w → bok G'.1 w) → Qc args s (.returned (v.map (bvl ad'))) t
    | .inr q => ∀ (E : String) (a : Addr), bTh G'.1 q ad' E a → XC E a s t
def bFr (O : bO) (y : bM) (d pc : Nat) (L : List (Nat × Value)) (st : List Value) (G : bG) (r : bR) (G' : bG) : Prop :=
  G.2.1 ≤ G'.2.1 ∧ G.2.2 ≤ G'.2.2 ∧ (∀ q, G.1 q ≠ none → G'.1 q ≠ none) ∧
  ∀ (p : Program) (e : Env) (R : Room) (s : State) (m : MethodId) (args : Array Value) (below : List Frame) (meth : Method) (c : Code) (H : Heap) (locs : List Loc) (cells slots : Nat) (ls : Array Slot) (ad : Nat → Nat)
    (Qc : Array Value → State → Outcome → State → Prop) (XC : String → Addr → State → State → Prop),
    bCx O y p s m args meth c → d ≤ R.frames → 64 * d ≤ R.locals → cells + (G'.2.1 - G.2.1) ≤ R.cells → slots + (G'.2.2 - G.2.2) ≤ R.slots →
    bRep O ad G.1 H → va_S (oA O) s.heap H locs → lv_has ls (mL y) (L.map (fun q => (q.1, bvl ad q.2))) → (∀ q ∈ L, bok G.1 q.2) → (∀ v ∈ st, bok G.1 v) →
    bEnd O G.1 ad r G' s args Qc XC →
    W p (oL O) e R s m args below meth c H locs cells slots (vx_MQ below Qc XC args s (cells + (G'.2.1 - G.2.1)) (slots + (G'.2.2 - G.2.2)) (oA O)) (F0 m pc ls (st.map (bvl ad)))
def bV (O : bO) (y : bM) (d pc : Nat) (L : List (Nat × Value)) (st : List Value) (G : bG) (Q : bR → bG → Prop) : Prop := ∃ (r : bR) (G' : bG), Q r G' ∧ bFr O y d pc L st G r G'
/-- the contract of a method at arguments and a heap -/
def bPc (O : bO) (ad : Nat → Nat) (As : List Value) (G : bG) : Array Value → State → Prop := fun v U => v = (As.map (bvl ad)).toArray ∧ bEnv O U ∧ bRep O ad G.1 U.heap ∧ ∀ w ∈ As, bok G.1 w
def bQc (O : bO) (ad : Nat → Nat) (G : bG) (r : bR) (G' : bG) : Array Value → State → Outcome → State → Prop := fun _ st o t =>
  ∃ (w : Option Value) (ad' : Nat → Nat), r = .inl w ∧ o = .returned (w.map (bvl ad')) ∧ (∀ q, G.1 q ≠ none → ad' q = ad q) ∧ bRep O ad' G'.1 t.heap ∧ va_F (oA O) st t ∧ ∀ v, w = some v → bok G'.1 v
def bXc (O : bO) (ad : Nat → Nat) (G : bG) (r : bR) (G' : bG) : String → Addr → State → State → Prop := fun E a st t =>
  ∃ (q : Nat) (ad' : Nat → Nat), r = .inr q ∧ bTh G'.1 q ad' E a ∧ (∀ q, G.1 q ≠ none → ad' q = ad q) ∧ bRep O ad' G'.1 t.heap ∧ va_F (oA O) st t
def bMt (O : bO) (y : bM) (d : Nat) (As : List Value) (G : bG) (r : bR) (G' : bG) : Prop :=
  G.2.1 ≤ G'.2.1 ∧ G.2.2 ≤ G'.2.2 ∧ (∀ q, G.1 q ≠ none → G'.1 q ≠ none) ∧ ∀ ad : Nat → Nat, vx_Met (oL O) (mN y) (bCode y :: bW) { frames := d, cells := G'.2.1 - G.2.1, slots := G'.2.2 - G.2.2, locals := 64 * d } (bPc O ad As G) (bQc O ad G r G') (bXc O ad G r G') (G'.2.1 - G.2.1) (G'.2.2 - G.2.2) (oA O)
def bCall (O : bO) (y : bM) (d : Nat) (As : List Value) (G : bG) (Q : bR → bG → Prop) : Prop := ∃ (r : bR) (G' : bG), Q r G' ∧ bMt O y d As G r G'
theorem bV.mono {O : bO} {y : bM} {d pc : Nat} {L : List (Nat × Value)} {st : List Value} {G : bG} {Q Q' : bR → bG → Prop} (h : bV O y d pc L st G Q) (hq : ∀ r G', Q r G' → Q' r G') : bV O y d pc L st G Q' := by
  obtain ⟨r, G', h1, h2⟩ := h
  exact ⟨r, G', hq r G' h1, h2⟩
theorem bCall.mono {O : bO} {y : bM} {d : Nat} {As : List Value} {G : bG} {Q Q' : bR → bG → Prop} (h : bCall O y d As G Q) (hq : ∀ r G', Q r G' → Q' r G') : bCall O y d As G Q' := by
  obtain ⟨r, G', h1, h2⟩ := h
  exact ⟨r, G', hq r G' h1, h2⟩
