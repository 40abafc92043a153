/-! ===== the classes ===== -/
theorem inb_of {C : String} {T : u_T} {N : Nat} (h : (u_ws C T N).all (fun w => decide (w ∈ lw_tbl) && goodWord w) = true) : ∀ w ∈ u_ws C T N, w ∈ bW := by
  intro w hw
  have h1 := List.all_eq_true.mp h w hw
  simp only [Bool.and_eq_true, decide_eq_true_eq] at h1
  exact bW_of h1.1 h1.2
theorem inb_0 : ∀ w ∈ u_ws RX0 TX0 11, w ∈ bW := inb_of (by decide +kernel)
theorem inb_1 : ∀ w ∈ u_ws RX1 TX1 14, w ∈ bW := inb_of (by decide +kernel)
theorem inb_2 : ∀ w ∈ u_ws RX2 TX2 3, w ∈ bW := inb_of (by decide +kernel)
theorem inb_3 : ∀ w ∈ u_ws RX3 TX3 7, w ∈ bW := inb_of (by decide +kernel)
theorem inb_4 : ∀ w ∈ u_ws RX4 TX4 6, w ∈ bW := inb_of (by decide +kernel)
theorem inb_5 : ∀ w ∈ u_ws RX5 TX5 7, w ∈ bW := inb_of (by decide +kernel)
theorem inb_6 : ∀ w ∈ u_ws RX6 TX6 1, w ∈ bW := inb_of (by decide +kernel)
theorem inb_7 : ∀ w ∈ u_ws RX7 TX7 16, w ∈ bW := inb_of (by decide +kernel)
theorem inb_8 : ∀ w ∈ u_ws RX8 TX8 11, w ∈ bW := inb_of (by decide +kernel)
theorem inb_9 : ∀ w ∈ u_ws RX9 TX9 5, w ∈ bW := inb_of (by decide +kernel)
theorem inb_10 : ∀ w ∈ u_ws RX10 TX10 8, w ∈ bW := inb_of (by decide +kernel)
theorem inb_11 : ∀ w ∈ u_ws RX11 TX11 35, w ∈ bW := inb_of (by decide +kernel)
/-- all that a class's number says -/
def bKc (ci : Nat) (C : String) (T : u_T) (N : Nat) (ty : Nat → FieldType) : Prop :=
  bCl[ci]? = some (C, T, N) ∧ (∀ w ∈ u_ws C T N, w ∈ bW) ∧ (∀ k, k < N → parseFieldDescriptor (T k).2.2.1 = some (ty k)) ∧ ∀ a, a < N → ∀ b, b < N → a ≠ b → (T a).2.1 ≠ (T b).2.1
theorem kc_0 : bKc 0 RX0 TX0 11 tyX0 := ⟨rfl, inb_0, tyX0_ok, nmX0⟩
theorem kc_1 : bKc 1 RX1 TX1 14 tyX1 := ⟨rfl, inb_1, tyX1_ok, nmX1⟩
theorem kc_2 : bKc 2 RX2 TX2 3 tyX2 := ⟨rfl, inb_2, tyX2_ok, nmX2⟩
theorem kc_3 : bKc 3 RX3 TX3 7 tyX3 := ⟨rfl, inb_3, tyX3_ok, nmX3⟩
theorem kc_4 : bKc 4 RX4 TX4 6 tyX4 := ⟨rfl, inb_4, tyX4_ok, nmX4⟩
theorem kc_5 : bKc 5 RX5 TX5 7 tyX5 := ⟨rfl, inb_5, tyX5_ok, nmX5⟩
theorem kc_6 : bKc 6 RX6 TX6 1 tyX6 := ⟨rfl, inb_6, tyX6_ok, nmX6⟩
theorem kc_7 : bKc 7 RX7 TX7 16 tyX7 := ⟨rfl, inb_7, tyX7_ok, nmX7⟩
theorem kc_8 : bKc 8 RX8 TX8 11 tyX8 := ⟨rfl, inb_8, tyX8_ok, nmX8⟩
theorem kc_9 : bKc 9 RX9 TX9 5 tyX9 := ⟨rfl, inb_9, tyX9_ok, nmX9⟩
theorem kc_10 : bKc 10 RX10 TX10 8 tyX10 := ⟨rfl, inb_10, tyX10_ok, nmX10⟩
theorem kc_11 : bKc 11 RX11 TX11 35 tyX11 := ⟨rfl, inb_11, tyX11_ok, nmX11⟩
