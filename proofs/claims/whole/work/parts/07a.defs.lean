/-! ===== methods, words, classes, links: the words alone ===== -/
abbrev bCl : List vw_C := [(RX0, TX0, 11), (RX1, TX1, 14), (RX2, TX2, 3), (RX3, TX3, 7), (RX4, TX4, 6), (RX5, TX5, 7), (RX6, TX6, 1), (RX7, TX7, 16), (RX8, TX8, 11), (RX9, TX9, 5), (RX10, TX10, 8), (RX11, TX11, 35)]
abbrev bM : Type := MethodName × ByteArray × Nat × Option FieldType × List ExceptionTableEntry
abbrev mN (y : bM) : MethodName := y.1
abbrev mB (y : bM) : ByteArray := y.2.1
abbrev mL (y : bM) : Nat := y.2.2.1
abbrev mR (y : bM) : Option FieldType := y.2.2.2.1
abbrev mX (y : bM) : List ExceptionTableEntry := y.2.2.2.2
def bW : List Cond := lw_tbl.filter goodWord
theorem bW_of {w : Cond} (h : w ∈ lw_tbl) (g : goodWord w = true) : w ∈ bW := List.mem_filter.mpr ⟨h, g⟩
theorem bW_at (i : Nat) {w : Cond} (h : lw_tbl[i]? = some w) (g : goodWord w = true) : w ∈ bW := bW_of (List.mem_of_getElem? h) g
theorem bW_good : GoodIn bW bW := fun w h => ⟨h, good_of_word (List.mem_filter.mp h).2⟩
/-- the word that says a method's code -/
def bCode (y : bM) : Cond := match mX y with
  | [] => .code (mN y) (mB y) (mL y) (mR y)
  | _ => .codeWith (mN y) (mB y) (mL y) (mR y) ((mX y).map (fun z => (z.startPc, z.endPc, z.handlerPc, z.catchType)))
/-! ===== the classes ===== -/
theorem inb_of {C : String} {T : u_T} {N : Nat} (h : (u_ws C T N).all (fun w => decide (w ∈ lw_tbl) && goodWord w) = true) : ∀ w ∈ u_ws C T N, w ∈ bW := by
  intro w hw
  have h1 := List.all_eq_true.mp h w hw
  simp only [Bool.and_eq_true, decide_eq_true_eq] at h1
  exact bW_of h1.1 h1.2
theorem inb_0 : ∀ w ∈ u_ws RX0 TX0 11, w ∈ bW := inb_of (by decide +kernel)
theorem inb_1 : ∀ w ∈ u_ws RX1 TX1 14, w ∈ bW := inb_of (by decide +kernel)
theorem inb_2 : ∀ w ∈ u_ws RX2 TX2 3, w ∈ bW := inb_of (by decide +kernel)
theorem inb_3 : ∀ w ∈ u_ws RX3 TX3 7, w ∈ bW := inb_of (by decide +kernel)
theorem inb_4 : ∀ w ∈ u_ws RX4 TX4 6, w ∈ bW := inb_of (by decide +kernel)
theorem inb_5 : ∀ w ∈ u_ws RX5 TX5 7, w ∈ bW := inb_of (by decide +kernel)
theorem inb_6 : ∀ w ∈ u_ws RX6 TX6 1, w ∈ bW := inb_of (by decide +kernel)
theorem inb_7 : ∀ w ∈ u_ws RX7 TX7 16, w ∈ bW := inb_of (by decide +kernel)
theorem inb_8 : ∀ w ∈ u_ws RX8 TX8 11, w ∈ bW := inb_of (by decide +kernel)
theorem inb_9 : ∀ w ∈ u_ws RX9 TX9 5, w ∈ bW := inb_of (by decide +kernel)
theorem inb_10 : ∀ w ∈ u_ws RX10 TX10 8, w ∈ bW := inb_of (by decide +kernel)
theorem inb_11 : ∀ w ∈ u_ws RX11 TX11 35, w ∈ bW := inb_of (by decide +kernel)
/-- all that a class's number says -/
def bKc (ci : Nat) (C : String) (T : u_T) (N : Nat) (ty : Nat → FieldType) : Prop :=
  bCl[ci]? = some (C, T, N) ∧ (∀ w ∈ u_ws C T N, w ∈ bW) ∧ (∀ k, k < N → parseFieldDescriptor (T k).2.2.1 = some (ty k)) ∧ ∀ a, a < N → ∀ b, b < N → a ≠ b → (T a).2.1 ≠ (T b).2.1
theorem kc_0 : bKc 0 RX0 TX0 11 tyX0 := ⟨rfl, inb_0, tyX0_ok, nmX0⟩
theorem kc_1 : bKc 1 RX1 TX1 14 tyX1 := ⟨rfl, inb_1, tyX1_ok, nmX1⟩
theorem kc_2 : bKc 2 RX2 TX2 3 tyX2 := ⟨rfl, inb_2, tyX2_ok, nmX2⟩
theorem kc_3 : bKc 3 RX3 TX3 7 tyX3 := ⟨rfl, inb_3, tyX3_ok, nmX3⟩
theorem kc_4 : bKc 4 RX4 TX4 6 tyX4 := ⟨rfl, inb_4, tyX4_ok, nmX4⟩
theorem kc_5 : bKc 5 RX5 TX5 7 tyX5 := ⟨rfl, inb_5, tyX5_ok, nmX5⟩
theorem kc_6 : bKc 6 RX6 TX6 1 tyX6 := ⟨rfl, inb_6, tyX6_ok, nmX6⟩
theorem kc_7 : bKc 7 RX7 TX7 16 tyX7 := ⟨rfl, inb_7, tyX7_ok, nmX7⟩
theorem kc_8 : bKc 8 RX8 TX8 11 tyX8 := ⟨rfl, inb_8, tyX8_ok, nmX8⟩
theorem kc_9 : bKc 9 RX9 TX9 5 tyX9 := ⟨rfl, inb_9, tyX9_ok, nmX9⟩
theorem kc_10 : bKc 10 RX10 TX10 8 tyX10 := ⟨rfl, inb_10, tyX10_ok, nmX10⟩
theorem kc_11 : bKc 11 RX11 TX11 35 tyX11 := ⟨rfl, inb_11, tyX11_ok, nmX11⟩
/-- a place of a class's pool names a field: of class ci the k-th, of type ty; fin: it is final -/
def bFL (own : String) (ix ci k : Nat) (ty : FieldType) (fin : Bool) : Prop :=
  ∃ (C : String) (T : u_T) (N : Nat) (tys : Nat → FieldType), bKc ci C T N tys ∧ k < N ∧ tys k = ty ∧ (T k).2.2.2 = fin ∧
    (Cond.fieldLink own ix (T k).1 (T k).2.1 (T k).2.2.1 ∈ bW ∨ ∃ host : String, Cond.fieldLinkNest own ix (T k).1 (T k).2.1 (T k).2.2.1 host ∈ lw_tbl)
/-- .. a final field of the class itself -/
def bFD (own : String) (ix ci k : Nat) (ty : FieldType) : Prop :=
  ∃ (C : String) (T : u_T) (N : Nat) (tys : Nat → FieldType), bKc ci C T N tys ∧ k < N ∧ tys k = ty ∧ (T k).2.2.2 = true ∧ (T k).1 = own ∧ Cond.fieldLink own ix (T k).1 (T k).2.1 (T k).2.2.1 ∈ bW
/-- what a call asks of the tables, whatever its kind -/
def bLk (own : String) (ix : Nat) (z : bM) (n : Nat) : Prop :=
  bCode z ∈ bW ∧ Cond.initialized (mN z).cls ∈ bW ∧ ((mN z).cls ≠ "java/lang/invoke/MethodHandle" ∧ (mN z).cls ≠ "java/lang/invoke/VarHandle") ∧ (parseMethodDescriptor (mN z).desc).map (fun d => d.parameters.length) = some n ∧ mL z ≤ 40 ∧ Cond.methodLink own ix (mN z) ∈ bW
def bLkN (own : String) (ix : Nat) (z : bM) (n : Nat) : Prop :=
  bCode z ∈ bW ∧ Cond.initialized (mN z).cls ∈ bW ∧ ((mN z).cls ≠ "java/lang/invoke/MethodHandle" ∧ (mN z).cls ≠ "java/lang/invoke/VarHandle") ∧ (parseMethodDescriptor (mN z).desc).map (fun d => d.parameters.length) = some n ∧ mL z ≤ 40 ∧ ∃ host : String, Cond.methodLinkNest own ix (mN z) host ∈ lw_tbl
