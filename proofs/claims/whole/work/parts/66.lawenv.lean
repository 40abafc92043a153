/-! ===== the law: what the Statement gives at its start (printed by wip/gen/lawenv.py) ===== -/
def lw_tm (i : Nat) : Term := match i with
  | 0 => .string "ModelShelf$Tape" 61
  | 1 => .string "ModelShelf$Tape" 67
  | 2 => .string "ModelShelf$Tape" 69
  | 3 => .string "ModelShelf$Tape" 71
  | 4 => .string "ModelShelf$Tape" 73
  | 5 => .string "ModelShelfModel" 198
  | _ => .string "ModelShelf" 279
theorem lw_m1 : ∀ i, i < 7 → Cond.exactly (lw_tm i) "java/lang/String" ∈ flatC (Jvm.Cond.and given_1 narrow_1) := by decide +kernel
theorem lw_m2 : ∀ i, i < 7 → Cond.eq (.field (lw_tm i) "java/lang/String" "coder" "B") (.int 0) ∈ flatC (Jvm.Cond.and given_1 narrow_1) := by decide +kernel
theorem lw_m3 : ∀ i, i < 7 → Cond.arrayOf (.field (lw_tm i) "java/lang/String" "value" "[B") .byte ∈ flatC (Jvm.Cond.and given_1 narrow_1) := by decide +kernel
theorem lw_m4 : ∀ i, i < 7 → Cond.eq (.length (.field (lw_tm i) "java/lang/String" "value" "[B")) (.int (Int32.ofNat (bLen.getD i 0))) ∈ flatC (Jvm.Cond.and given_1 narrow_1) := by decide +kernel
theorem lw_m5 : ∀ i, i < 7 → ∀ j, j < bLen.getD i 0 → Cond.eq (.elem (.field (lw_tm i) "java/lang/String" "value" "[B") (.int (Int32.ofNat j))) (.int ((bByt.getD i []).getD j 0)) ∈ flatC (Jvm.Cond.and given_1 narrow_1) := by decide +kernel
theorem lw_m6 : ∀ i, i < 7 → ∀ j, j < 7 → i ≠ j → Cond.not (Cond.eq (lw_tm i) (lw_tm j)) ∈ flatC (Jvm.Cond.and given_1 narrow_1) ∨ Cond.not (Cond.eq (lw_tm j) (lw_tm i)) ∈ flatC (Jvm.Cond.and given_1 narrow_1) := by decide +kernel
theorem lw_m7 : ∀ i, i < 5 → Cond.eq (lw_tm i) (.string "ModelShelfModel" ([152, 167, 176, 194, 196].getD i 0)) ∈ flatC (Jvm.Cond.and given_1 narrow_1) := by decide +kernel
theorem lw_kn {s : State} {args : Array Value} (hW : ∀ w ∈ bW, w.before args s = true) : ∀ k : Nat, ∃ q : ClassId × (Nat → Nat), ∀ z : vw_C, bCl[k]? = some z → u_Kn s z.1 z.2.1 z.2.2 q.1 q.2 := by
  intro k
  match k with
  | 0 =>
    obtain ⟨c, i, h⟩ := u_known (C := RX0) (T := TX0) (N := 11) (n := 11) hW inb_0 (hW _ ins_ModelShelf_Answer)
    exact ⟨(c, i), fun z hz => by cases hz; exact h⟩
  | 1 =>
    obtain ⟨c, i, h⟩ := u_known (C := RX1) (T := TX1) (N := 14) (n := 14) hW inb_1 (hW _ ins_ModelShelf_Door)
    exact ⟨(c, i), fun z hz => by cases hz; exact h⟩
  | 2 =>
    obtain ⟨c, i, h⟩ := u_known (C := RX2) (T := TX2) (N := 3) (n := 3) hW inb_2 (hW _ ins_ModelShelf_Model)
    exact ⟨(c, i), fun z hz => by cases hz; exact h⟩
  | 3 =>
    obtain ⟨c, i, h⟩ := u_known (C := RX3) (T := TX3) (N := 7) (n := 7) hW inb_3 (hW _ ins_ModelShelf_Reader)
    exact ⟨(c, i), fun z hz => by cases hz; exact h⟩
  | 4 =>
    obtain ⟨c, i, h⟩ := u_known (C := RX4) (T := TX4) (N := 6) (n := 6) hW inb_4 (hW _ ins_ModelShelf_SideBySide)
    exact ⟨(c, i), fun z hz => by cases hz; exact h⟩
  | 5 =>
    obtain ⟨c, i, h⟩ := u_known (C := RX5) (T := TX5) (N := 7) (n := 7) hW inb_5 (hW _ ins_ModelShelf_Tape)
    exact ⟨(c, i), fun z hz => by cases hz; exact h⟩
  | 6 =>
    obtain ⟨c, i, h⟩ := u_known (C := RX6) (T := TX6) (N := 1) (n := 1) hW inb_6 (hW _ ins_ModelShelf_Teller)
    exact ⟨(c, i), fun z hz => by cases hz; exact h⟩
  | 7 =>
    obtain ⟨c, i, h⟩ := u_known (C := RX7) (T := TX7) (N := 16) (n := 16) hW inb_7 (hW _ ins_ModelShelf)
    exact ⟨(c, i), fun z hz => by cases hz; exact h⟩
  | 8 =>
    obtain ⟨c, i, h⟩ := u_known (C := RX8) (T := TX8) (N := 11) (n := 11) hW inb_8 (hW _ ins_ModelShelfModel_Door)
    exact ⟨(c, i), fun z hz => by cases hz; exact h⟩
  | 9 =>
    obtain ⟨c, i, h⟩ := u_known (C := RX9) (T := TX9) (N := 5) (n := 5) hW inb_9 (hW _ ins_ModelShelfModel_Model)
    exact ⟨(c, i), fun z hz => by cases hz; exact h⟩
  | 10 =>
    obtain ⟨c, i, h⟩ := u_known (C := RX10) (T := TX10) (N := 8) (n := 8) hW inb_10 (hW _ ins_ModelShelfModel_Stop)
    exact ⟨(c, i), fun z hz => by cases hz; exact h⟩
  | 11 =>
    obtain ⟨c, i, h⟩ := u_known (C := RX11) (T := TX11) (N := 35) (n := 35) hW inb_11 (hW _ ins_ModelShelfModel)
    exact ⟨(c, i), fun z hz => by cases hz; exact h⟩
  | k + 12 => exact ⟨(0, fun _ => 0), fun z hz => by rw [List.getElem?_eq_none (show bCl.length ≤ k + 12 from Nat.le_add_left 12 k)] at hz; cases hz⟩
theorem lw_ao3 : Cond.arrayOver (.object "ModelShelf$Model") ∈ lw_tbl := List.mem_of_getElem? (i := 162) (by decide +kernel)
theorem lw_ao4 : Cond.arrayOver (.object "ModelShelf$Door") ∈ lw_tbl := List.mem_of_getElem? (i := 164) (by decide +kernel)
theorem lw_ao5 : Cond.arrayOver (.object "ModelShelf$Answer") ∈ lw_tbl := List.mem_of_getElem? (i := 166) (by decide +kernel)
theorem lw_ao6 : Cond.arrayOver (.object "ModelShelfModel$Model") ∈ lw_tbl := List.mem_of_getElem? (i := 889) (by decide +kernel)
theorem lw_ao7 : Cond.arrayOver (.object "ModelShelfModel$Door") ∈ lw_tbl := List.mem_of_getElem? (i := 944) (by decide +kernel)
theorem lw_ac {s : State} {args : Array Value} {ty : FieldType} (h : (Cond.arrayClass ty).before args s = true) : ∃ c : ClassId, ArrOfT s c ty ∧ s.vm.findClass ("[" ++ ty.toString) = some c := by
  obtain ⟨c, k, comp, h1, h2, h3⟩ := Cond.arrayClass_spec h
  exact ⟨c, fun N z => ⟨fun k h => (by cases h), k, h2, comp, h3⟩, h1⟩
theorem lw_ar {s : State} {args : Array Value} {C : String} (h : (Cond.arrayOver (.object C)).before args s = true) : ∃ c : ClassId, ArrOfT s c (.object C) ∧ va_RA s c (.object C) := by
  obtain ⟨comp, c, k, h1, h2, h3, h4, h5⟩ := Cond.arrayOver_spec h
  exact ⟨c, fun N z => ⟨fun k h => (by cases h), k, h3, comp, h4⟩, k, comp, h3, h4, h1, h5⟩
theorem lw_ka {s : State} {args : Array Value} (hW : ∀ w ∈ bW, w.before args s = true) (hts : ∀ w ∈ lw_tbl, w.before args s = true) : ∀ k : Nat, ∃ c : ClassId, k < 8 → ArrOfT s c (bT k) ∧ va_RA s c (bT k) := by
  intro k
  match k with
  | 0 =>
    obtain ⟨c, h1, h2⟩ := lw_ac (hW _ ac_int)
    exact ⟨c, fun _ => ⟨h1, h2⟩⟩
  | 1 =>
    obtain ⟨c, h1, h2⟩ := lw_ac (hW _ ac_byte)
    exact ⟨c, fun _ => ⟨h1, h2⟩⟩
  | 2 =>
    obtain ⟨c, h1, h2⟩ := lw_ac (hW _ ac_long)
    exact ⟨c, fun _ => ⟨h1, h2⟩⟩
  | 3 =>
    obtain ⟨c, h⟩ := lw_ar (hts _ lw_ao3)
    exact ⟨c, fun _ => h⟩
  | 4 =>
    obtain ⟨c, h⟩ := lw_ar (hts _ lw_ao4)
    exact ⟨c, fun _ => h⟩
  | 5 =>
    obtain ⟨c, h⟩ := lw_ar (hts _ lw_ao5)
    exact ⟨c, fun _ => h⟩
  | 6 =>
    obtain ⟨c, h⟩ := lw_ar (hts _ lw_ao6)
    exact ⟨c, fun _ => h⟩
  | 7 =>
    obtain ⟨c, h⟩ := lw_ar (hts _ lw_ao7)
    exact ⟨c, fun _ => h⟩
  | k + 8 => exact ⟨0, fun h => absurd h (by omega)⟩
theorem lw_vkS {adK adV K V : Nat → Nat} {A : Nat → Prop} {s : State} {H : Heap} (h : vk_S 7 bLen bByt adK adV A s H) (e1 : ∀ i, i < 7 → K i = adK i) (e2 : ∀ i, i < 7 → V i = adV i) : vk_S 7 bLen bByt K V A s H := by
  refine ⟨fun i hi => ?_, fun i j hi hj e => h.2 i j hi hj ?_⟩
  · rw [e1 i hi, e2 i hi]
    exact h.1 i hi
  · rw [← e1 i hi, ← e1 j hj]
    exact e
theorem lw_Zx {C n d : String} {A : Nat → Prop} {s : State} {H : Heap} (h : va_Zq C n d A s H) : ∃ t : Nat, va_Z C n d .null A s H ∨ va_Z C n d (.ref t) A s H := by
  rcases h with h | ⟨t, h⟩
  · exact ⟨0, Or.inl h⟩
  · exact ⟨t, Or.inr h⟩
theorem lw_z1 : Cond.laysStatic "java/lang/String" "COMPACT_STRINGS" "Z" ∈ lw_tbl := List.mem_of_getElem? (i := 307) (by decide +kernel)
theorem lw_z2 : Cond.laysStatic Bundle.tN "UNASSIGNED_STACK" Bundle.steD ∈ lw_tbl := List.mem_of_getElem? (i := 843) (by decide +kernel)
theorem lw_z3 : Cond.laysStatic Bundle.tN "SUPPRESSED_SENTINEL" Bundle.listD ∈ lw_tbl := List.mem_of_getElem? (i := 845) (by decide +kernel)
theorem lw_z4 : Cond.laysStatic "jdk/internal/util/Preconditions" "SIOOBE_FORMATTER" "Ljava/util/function/BiFunction;" ∈ lw_tbl := List.mem_of_getElem? (i := 323) (by decide +kernel)
theorem lw_y1 : Cond.eq (.static "java/lang/String" "COMPACT_STRINGS" "Z") (.int 1) ∈ flatC (Jvm.Cond.and given_1 narrow_1) := by decide +kernel
theorem lw_y2 : Cond.isRef (.static Bundle.tN "UNASSIGNED_STACK" Bundle.steD) ∈ flatC (Jvm.Cond.and given_1 narrow_1) := by decide +kernel
theorem lw_y3 : Cond.isRef (.static Bundle.tN "SUPPRESSED_SENTINEL" Bundle.listD) ∈ flatC (Jvm.Cond.and given_1 narrow_1) := by decide +kernel
theorem lw_y4 : Cond.isRef (.static "jdk/internal/util/Preconditions" "SIOOBE_FORMATTER" "Ljava/util/function/BiFunction;") ∈ flatC (Jvm.Cond.and given_1 narrow_1) := by decide +kernel
theorem lw_sr0 : Cond.stringRef "ModelShelf$Tape" 61 "if" ∈ lw_tbl := List.mem_of_getElem? (i := 293) (by decide +kernel)
theorem lw_sr1 : Cond.stringRef "ModelShelf$Tape" 67 "then" ∈ lw_tbl := List.mem_of_getElem? (i := 346) (by decide +kernel)
theorem lw_sr2 : Cond.stringRef "ModelShelf$Tape" 69 "else" ∈ lw_tbl := List.mem_of_getElem? (i := 347) (by decide +kernel)
theorem lw_sr3 : Cond.stringRef "ModelShelf$Tape" 71 "least" ∈ lw_tbl := List.mem_of_getElem? (i := 348) (by decide +kernel)
theorem lw_sr4 : Cond.stringRef "ModelShelf$Tape" 73 "most" ∈ lw_tbl := List.mem_of_getElem? (i := 349) (by decide +kernel)
theorem lw_sr5 : Cond.stringRef "ModelShelfModel" 152 "if" ∈ lw_tbl := List.mem_of_getElem? (i := 1086) (by decide +kernel)
theorem lw_sr6 : Cond.stringRef "ModelShelfModel" 167 "then" ∈ lw_tbl := List.mem_of_getElem? (i := 1136) (by decide +kernel)
theorem lw_sr7 : Cond.stringRef "ModelShelfModel" 176 "else" ∈ lw_tbl := List.mem_of_getElem? (i := 1137) (by decide +kernel)
theorem lw_sr8 : Cond.stringRef "ModelShelfModel" 194 "least" ∈ lw_tbl := List.mem_of_getElem? (i := 1138) (by decide +kernel)
theorem lw_sr9 : Cond.stringRef "ModelShelfModel" 196 "most" ∈ lw_tbl := List.mem_of_getElem? (i := 1139) (by decide +kernel)
theorem lw_sr10 : Cond.stringRef "ModelShelfModel" 198 "x" ∈ lw_tbl := List.mem_of_getElem? (i := 1140) (by decide +kernel)
theorem lw_sr11 : Cond.stringRef "ModelShelf" 279 "no such differing answer" ∈ lw_tbl := List.mem_of_getElem? (i := 856) (by decide +kernel)
theorem lw_strs {s : State} {args : Array Value} {adK K : Nat → Nat} (hts : ∀ w ∈ lw_tbl, w.before args s = true) (hs : ∀ c ∈ flatC (Jvm.Cond.and given_1 narrow_1), c.before args s = true) (hev : ∀ i, i < 7 → (lw_tm i).eval args s none [] s = some (.ref (adK i))) (hK : ∀ i, i < 7 → K (i + 1) = adK i) : ∀ e ∈ bSt, vk_R e.1 e.2.1 e.2.2.1 (K (e.2.2.2 + 1)) s := by
  have hv : ∀ i, i < 7 → (lw_tm i).eval args s none [] s = some (.ref (K (i + 1))) := fun i hi => by rw [hK i hi]; exact hev i hi
  intro e he
  simp only [bSt, List.mem_cons, List.not_mem_nil, or_false] at he
  rcases he with rfl | rfl | rfl | rfl | rfl | rfl | rfl | rfl | rfl | rfl | rfl | rfl
  · exact vk_R.of (hts _ lw_sr0) (hv 0 (by decide))
  · exact vk_R.of (hts _ lw_sr1) (hv 1 (by decide))
  · exact vk_R.of (hts _ lw_sr2) (hv 2 (by decide))
  · exact vk_R.of (hts _ lw_sr3) (hv 3 (by decide))
  · exact vk_R.of (hts _ lw_sr4) (hv 4 (by decide))
  · exact vk_R.of (hts _ lw_sr5) (va_eqR (hs _ (lw_m7 0 (by decide))) (hv 0 (by decide)))
  · exact vk_R.of (hts _ lw_sr6) (va_eqR (hs _ (lw_m7 1 (by decide))) (hv 1 (by decide)))
  · exact vk_R.of (hts _ lw_sr7) (va_eqR (hs _ (lw_m7 2 (by decide))) (hv 2 (by decide)))
  · exact vk_R.of (hts _ lw_sr8) (va_eqR (hs _ (lw_m7 3 (by decide))) (hv 3 (by decide)))
  · exact vk_R.of (hts _ lw_sr9) (va_eqR (hs _ (lw_m7 4 (by decide))) (hv 4 (by decide)))
  · exact vk_R.of (hts _ lw_sr10) (hv 5 (by decide))
  · exact vk_R.of (hts _ lw_sr11) (hv 6 (by decide))
set_option maxHeartbeats 4000000 in
theorem lw_env {l : Launch} {s : State} {b L : Nat} {xs : Nat → Int32} (hl : l.stackTraces = false) (hts : ∀ w ∈ lw_tbl, w.before #[Value.ref b] s = true) (hX : va_X b L xs s s.heap) (hb : b < s.heap.size) (hg : (Jvm.Cond.and given_1 narrow_1).before #[Value.ref b] s = true) :
    ∃ O : bO, oL O = l ∧ oB O = s.heap.size ∧ oS O = b ∧ oN O = L ∧ bEnv O s := by
  have hW : ∀ w ∈ bW, w.before #[Value.ref b] s = true := fun w h => hts w (List.mem_filter.mp h).1
  have hs := flat_of_before _ hg
  have hA : ∀ a : Nat, a < s.heap.size → ¬ (s.heap.size ≤ a) := fun a h => Nat.not_le.mpr h
  obtain ⟨dC, hC⟩ := Classical.axiomOfChoice (lw_kn hW)
  obtain ⟨cA, hcA⟩ := Classical.axiomOfChoice (lw_ka hW hts)
  obtain ⟨adK, adV, hS, hev⟩ := vk_Sof (args := #[Value.ref b]) (s := s) (A := fun q => s.heap.size ≤ q) (N := 7) (tm := lw_tm) (len := bLen) (byt := bByt) (by decide) (fun i hi => hs _ (lw_m1 i hi)) (fun i hi => hs _ (lw_m2 i hi)) (fun i hi => hs _ (lw_m3 i hi)) (fun i hi => hs _ (lw_m4 i hi)) (fun i hi j hj => hs _ (lw_m5 i hi j hj)) (fun i j hi hj hij => (lw_m6 i hi j hj hij).imp (hs _) (hs _)) hA
  have z1 : va_Z "java/lang/String" "COMPACT_STRINGS" "Z" (.int 1) (fun q => s.heap.size ≤ q) s s.heap := va_Zof (hts _ lw_z1) (hW _ ini_java_lang_String) (va_eqt (hs _ lw_y1)) hA
  have z2 : vx_Zq Bundle.tN "UNASSIGNED_STACK" Bundle.steD (fun q => s.heap.size ≤ q) s s.heap := vx_Zqof (hts _ lw_z2) (hW _ ini_java_lang_Throwable) (hs _ lw_y2) hA
  have z3 : vx_Zq Bundle.tN "SUPPRESSED_SENTINEL" Bundle.listD (fun q => s.heap.size ≤ q) s s.heap := vx_Zqof (hts _ lw_z3) (hW _ ini_java_lang_Throwable) (hs _ lw_y3) hA
  have z4 : va_Zq "jdk/internal/util/Preconditions" "SIOOBE_FORMATTER" "Ljava/util/function/BiFunction;" (fun q => s.heap.size ≤ q) s s.heap := va_Zqof (hts _ lw_z4) (hW _ ini_jdk_internal_util_Preconditions) (hs _ lw_y4) hA
  obtain ⟨t15, h15⟩ := lw_Zx z2.1
  obtain ⟨t16, h16⟩ := lw_Zx z3.1
  obtain ⟨t17, h17⟩ := lw_Zx z4
  obtain ⟨K, k1, k2, k15, k16, k17⟩ : ∃ K : Nat → Nat, (∀ i, i < 7 → K (i + 1) = adK i) ∧ (∀ i, i < 7 → K (i + 8) = adV i) ∧ K 15 = t15 ∧ K 16 = t16 ∧ K 17 = t17 := by
    refine ⟨fun r => if r ≤ 7 then adK (r - 1) else if r ≤ 14 then adV (r - 8) else if r = 15 then t15 else if r = 16 then t16 else t17, fun i hi => ?_, fun i hi => ?_, by simp, by simp, by simp⟩
    · show (if i + 1 ≤ 7 then adK (i + 1 - 1) else _) = adK i
      rw [if_pos (by omega), Nat.add_sub_cancel]
    · show (if i + 8 ≤ 7 then _ else if i + 8 ≤ 14 then adV (i + 8 - 8) else _) = adV i
      rw [if_neg (by omega), if_pos (by omega), Nat.add_sub_cancel]
  refine ⟨(l, (fun k => (dC k).1, fun k => (dC k).2), cA, s.heap.size, b, L, xs, K, fun _ => 0), rfl, rfl, rfl, rfl, ?_⟩
  refine ⟨⟨fun k z hz => hC k z hz, fun k q hq => ?_⟩, Nat.le_refl _, fun w h1 h2 => ?_, ⟨va_AO.of (hts _ lw_ao3), va_AO.of (hts _ lw_ao4), va_AO.of (hts _ lw_ao5), va_AO.of (hts _ lw_ao6), va_AO.of (hts _ lw_ao7)⟩, ⟨hX, hb⟩, ⟨lw_vkS hS k1 k2, lw_strs hts hs hev k1⟩, ⟨z1, z2, z3, ?_, ?_, ?_⟩, hl⟩
  · match k, hq with
    | 0, hq => cases hq; exact hcA 0 (by decide)
    | 1, hq => cases hq; exact hcA 1 (by decide)
    | 2, hq => cases hq; exact hcA 2 (by decide)
    | 3, hq => cases hq; exact hcA 3 (by decide)
    | 4, hq => cases hq; exact hcA 4 (by decide)
    | 5, hq => cases hq; exact hcA 5 (by decide)
    | 6, hq => cases hq; exact hcA 6 (by decide)
    | 7, hq => cases hq; exact hcA 7 (by decide)
    | k + 8, hq => exact absurd (List.getElem?_eq_some_iff.mp hq).1 (by show ¬ (k + 8 < 8); omega)
  · cases w <;> first | (simp [bNw] at h2; done) | exact va_Nw.of rfl (hts _ h1)
  · show va_Z _ _ _ .null _ s s.heap ∨ va_Z _ _ _ (.ref (K 15)) _ s s.heap
    rw [k15]
    exact h15
  · show va_Z _ _ _ .null _ s s.heap ∨ va_Z _ _ _ (.ref (K 16)) _ s s.heap
    rw [k16]
    exact h16
  · show va_Z _ _ _ .null _ s s.heap ∨ va_Z _ _ _ (.ref (K 17)) _ s s.heap
    rw [k17]
    exact h17
