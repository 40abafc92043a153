/-! ===== the abstract heap: cells by numbers of our own; a map from them to addresses ===== -/
abbrev bE : Type := (Nat × vp_A) ⊕ (Nat × List Value)
abbrev bF : Type := Nat → Option bE
abbrev bG : Type := bF × Nat × Nat
def bU (f : bF) (r : Nat) (c : bE) : bF := fun q => if q = r then some c else f q
theorem bU_s (f : bF) (r : Nat) (c : bE) : bU f r c r = some c := by simp [bU]
theorem bU_n {f : bF} {r q : Nat} {c : bE} (h : q ≠ r) : bU f r c q = f q := by simp [bU, h]
theorem bU_u (f : bF) (r : Nat) (c d : bE) : bU (bU f r c) r d = bU f r d := by
  funext q
  by_cases h : q = r <;> simp [bU, h]
theorem bU_c {f : bF} {r q : Nat} {c d : bE} (h : r ≠ q) : bU (bU f r c) q d = bU (bU f q d) r c := by
  funext z
  by_cases h1 : z = r
  · subst h1
    simp [bU, h]
  · by_cases h2 : z = q
    · subst h2
      simp [bU, h1]
    · simp [bU, h1, h2]
theorem bU_i {f : bF} {r : Nat} {c : bE} (h : f r = some c) : bU f r c = f := by
  funext q
  by_cases h1 : q = r
  · subst h1
    simp [bU, h]
  · simp [bU, h1]
theorem bU_d {f : bF} {r q : Nat} {c : bE} (h : f q ≠ none) : bU f r c q ≠ none := by
  by_cases h1 : q = r
  · subst h1
    simp [bU]
  · rw [bU_n h1]
    exact h
abbrev bO : Type := Launch × va_G × (Nat → ClassId) × Nat × Nat × Nat × (Nat → Int32) × (Nat → Nat) × (Nat → Nat)
abbrev oL (O : bO) : Launch := O.1
abbrev oD (O : bO) : va_G := O.2.1
abbrev oC (O : bO) : Nat → ClassId := O.2.2.1
abbrev oB (O : bO) : Nat := O.2.2.2.1
abbrev oS (O : bO) : Nat := O.2.2.2.2.1
abbrev oN (O : bO) : Nat := O.2.2.2.2.2.1
abbrev oX (O : bO) : Nat → Int32 := O.2.2.2.2.2.2.1
abbrev oK (O : bO) : Nat → Nat := O.2.2.2.2.2.2.2.1
abbrev oV (O : bO) : Nat → Nat := O.2.2.2.2.2.2.2.2
abbrev oA (O : bO) : Nat → Prop := fun q => oB O ≤ q
/-- numbers under 32 are things outside: 0 the script, 1 + i the String constant i, 8 + i its bytes, 15 and 16 what two statics of Throwable hold -/
def oE (O : bO) (r : Nat) : Nat := if r = 0 then oS O else oK O r
abbrev bT : Nat → FieldType := fun k => match k with
  | 0 => .int
  | 1 => .byte
  | 2 => .long
  | 3 => .object "ModelShelf$Model"
  | 4 => .object "ModelShelf$Door"
  | 5 => .object "ModelShelf$Answer"
  | 6 => .object "ModelShelfModel$Model"
  | _ => .object "ModelShelfModel$Door"
abbrev bTys (O : bO) : List (ClassId × FieldType) := [(oC O 0, bT 0), (oC O 1, bT 1), (oC O 2, bT 2), (oC O 3, bT 3), (oC O 4, bT 4), (oC O 5, bT 5), (oC O 6, bT 6), (oC O 7, bT 7)]
def bvl (ad : Nat → Nat) (v : Value) : Value := match v with
  | .ref r => .ref (ad r)
  | w => w
theorem bvl_cat (ad : Nat → Nat) (v : Value) : (bvl ad v).category = v.category := by cases v <;> rfl
def bcv (C : Nat → ClassId) (ad : Nat → Nat) (c : bE) : va_E := match c with
  | .inl (k, n, .inl g) => .inl (C k, n, .inl g)
  | .inl (k, n, .inr (.inl g)) => .inl (C k, n, .inr (.inl g))
  | .inl (k, n, .inr (.inr (.inl g))) => .inl (C k, n, .inr (.inr (.inl g)))
  | .inl (k, n, .inr (.inr (.inr (.inl g)))) => .inl (C k, n, .inr (.inr (.inr (.inl g))))
  | .inl (k, n, .inr (.inr (.inr (.inr g)))) => .inl (C k, n, .inr (.inr (.inr (.inr (fun j => (g j).map ad)))))
  | .inr (i, fs) => .inr (i, fs.map (bvl ad))
def bok (f : bF) (v : Value) : Prop := match v with
  | .ref r => r < 32 ∨ f r ≠ none
  | _ => True
def bokc (f : bF) (c : bE) : Prop := match c with
  | .inl (_, _, .inr (.inr (.inr (.inr g)))) => ∀ j r : Nat, g j = some r → r < 32 ∨ f r ≠ none
  | .inr (_, fs) => ∀ v ∈ fs, bok f v
  | _ => True
theorem bok.up {f f' : bF} {v : Value} (hd : ∀ q, f q ≠ none → f' q ≠ none) (h : bok f v) : bok f' v := by
  cases v <;> first | trivial | exact h.imp id (hd _)
theorem bokc.up {f f' : bF} {c : bE} (hd : ∀ q, f q ≠ none → f' q ≠ none) (h : bokc f c) : bokc f' c := by
  rcases c with ⟨k, n, g | g | g | g | g⟩ | ⟨i, fs⟩
  · trivial
  · trivial
  · trivial
  · trivial
  · exact fun j r hj => (h j r hj).imp id (hd _)
  · exact fun v hv => (h v hv).up hd
theorem bvl_eq {f : bF} {ad ad' : Nat → Nat} {v : Value} (h1 : ∀ r, r < 32 → ad' r = ad r) (h2 : ∀ r, f r ≠ none → ad' r = ad r) (h : bok f v) : bvl ad' v = bvl ad v := by
  cases v <;> first | rfl | exact congrArg Value.ref (h.elim (h1 _) (h2 _))
theorem bcv_eq {f : bF} {C : Nat → ClassId} {ad ad' : Nat → Nat} {c : bE} (h1 : ∀ r, r < 32 → ad' r = ad r) (h2 : ∀ r, f r ≠ none → ad' r = ad r) (h : bokc f c) : bcv C ad' c = bcv C ad c := by
  rcases c with ⟨k, n, g | g | g | g | g⟩ | ⟨i, fs⟩
  · rfl
  · rfl
  · rfl
  · rfl
  · show (Sum.inl (C k, n, _) : va_E) = .inl (C k, n, _)
    have : (fun j => (g j).map ad') = fun j => (g j).map ad := by
      funext j
      cases hj : g j with
      | none => rfl
      | some r => exact congrArg some ((h j r hj).elim (h1 r) (h2 r))
    rw [this]
  · show (Sum.inr (i, fs.map (bvl ad')) : va_E) = .inr (i, fs.map (bvl ad))
    rw [List.map_congr_left (fun v hv => bvl_eq h1 h2 (h v hv))]
def bRep (O : bO) (ad : Nat → Nat) (f : bF) (H : Heap) : Prop :=
  (∀ r, r < 32 → ad r = oE O r) ∧ (∀ r r', f r ≠ none → f r' ≠ none → ad r = ad r' → r = r') ∧
  ∃ (Ns : List Nat) (F : Nat → va_E), va_P (oD O) bCl ([] ++ va_pl Ns F) H ∧ va_D (oA O) ([] ++ va_pl Ns F) ∧ ∀ (r : Nat) (c : bE), f r = some c → 32 ≤ r ∧ ad r ∈ Ns ∧ F (ad r) = bcv (oC O) ad c ∧ bokc f c
/-- a cell of it, with its place in the pool -/
theorem bRep.get {O : bO} {ad : Nat → Nat} {f : bF} {H : Heap} (h : bRep O ad f H) {r : Nat} {c : bE} (hr : f r = some c) :
    ∃ (Ns : List Nat) (F : Nat → va_E) (k : Nat), va_P (oD O) bCl ([] ++ va_pl Ns F) H ∧ va_D (oA O) ([] ++ va_pl Ns F) ∧ ([] ++ va_pl Ns F)[k]? = some (ad r, bcv (oC O) ad c) ∧
      (∀ (H1 : Heap) (c' : bE), bokc f c' → va_P (oD O) bCl (([] ++ va_pl Ns F).set k (ad r, bcv (oC O) ad c')) H1 → va_D (oA O) (([] ++ va_pl Ns F).set k (ad r, bcv (oC O) ad c')) → bRep O ad (bU f r c') H1) ∧
      ∀ (r2 : Nat) (c2 : bE), f r2 = some c2 → ∃ k2 : Nat, ([] ++ va_pl Ns F)[k2]? = some (ad r2, bcv (oC O) ad c2) := by
  obtain ⟨h1, h2, Ns, F, hP, hD, hf⟩ := h
  have hget : ∀ (r2 : Nat) (c2 : bE), f r2 = some c2 → ∃ k2 : Nat, ([] ++ va_pl Ns F)[k2]? = some (ad r2, bcv (oC O) ad c2) := by
    intro r2 c2 hr2
    obtain ⟨-, hm, hF, -⟩ := hf r2 c2 hr2
    obtain ⟨k, hk⟩ := va_pl_get (X := []) (f := F) hm
    exact ⟨k, by rw [hk, hF]⟩
  obtain ⟨k, hk⟩ := hget r c hr
  obtain ⟨h32, hm, hF, hok⟩ := hf r c hr
  refine ⟨Ns, F, k, hP, hD, hk, fun H1 c' hok' hP1 hD1 => ?_, hget⟩
  have hdn : ∀ q, bU f r c' q ≠ none → f q ≠ none := by
    intro q hq
    by_cases e : q = r
    · subst e
      rw [hr]
      exact fun z => by cases z
    · rw [bU_n e] at hq
      exact hq
  have hset := va_pl_set (X := []) (e := bcv (oC O) ad c') hD hm (by rw [hk, hF])
  rw [hset] at hP1 hD1
  refine ⟨h1, fun q q' a b => h2 q q' (hdn q a) (hdn q' b), Ns, _, hP1, hD1, fun q c2 hq => ?_⟩
  by_cases e : q = r
  · subst e
    rw [bU_s] at hq
    cases hq
    exact ⟨h32, hm, va_up_self _ _ _, hok'.up (fun _ => bU_d)⟩
  · rw [bU_n e] at hq
    obtain ⟨a1, a2, a3, a4⟩ := hf q c2 hq
    refine ⟨a1, a2, ?_, a4.up (fun _ => bU_d)⟩
    rw [va_up_ne _ _ (fun z => e (h2 q r (by rw [hq]; exact fun z => by cases z) (by rw [hr]; exact fun z => by cases z) z)), a3]
/-- one cell more, with a number that is free -/
theorem bRep.push {O : bO} {ad : Nat → Nat} {f : bF} {H : Heap} (h : bRep O ad f H) :
    ∃ (Ns : List Nat) (F : Nat → va_E), va_P (oD O) bCl ([] ++ va_pl Ns F) H ∧ va_D (oA O) ([] ++ va_pl Ns F) ∧
      (∀ (r2 : Nat) (c2 : bE), f r2 = some c2 → ∃ k2 : Nat, ([] ++ va_pl Ns F)[k2]? = some (ad r2, bcv (oC O) ad c2)) ∧
      ∀ (H1 : Heap) (q r : Nat) (c : bE), f r = none → 32 ≤ r → bokc f c → va_P (oD O) bCl (([] ++ va_pl Ns F) ++ [(q, bcv (oC O) ad c)]) H1 → va_D (oA O) (([] ++ va_pl Ns F) ++ [(q, bcv (oC O) ad c)]) →
        bRep O (va_up ad r q) (bU f r c) H1 ∧ (∀ z, f z ≠ none → va_up ad r q z = ad z) ∧ (∀ z, z < 32 → va_up ad r q z = ad z) := by
  obtain ⟨h1, h2, Ns, F, hP, hD, hf⟩ := h
  refine ⟨Ns, F, hP, hD, fun r2 c2 hr2 => ?_, fun H1 q r c hr h32 hok hP1 hD1 => ?_⟩
  · obtain ⟨-, hm, hF, -⟩ := hf r2 c2 hr2
    obtain ⟨k, hk⟩ := va_pl_get (X := []) (f := F) hm
    exact ⟨k, by rw [hk, hF]⟩
  have e1 : ∀ z, f z ≠ none → va_up ad r q z = ad z := fun z hz => va_up_ne _ _ (fun e => hz (by rw [e]; exact hr))
  have e2 : ∀ z, z < 32 → va_up ad r q z = ad z := fun z hz => va_up_ne _ _ (fun e => by omega)
  have hq : q ∉ Ns := by
    intro hm
    obtain ⟨k, hk⟩ := va_pl_get (X := []) (f := F) hm
    have hlt := (List.getElem?_eq_some_iff.mp hk).1
    have a := hD1.1 k ([] ++ va_pl Ns F).length (q, F q) (q, bcv (oC O) ad c) (by rw [List.getElem?_append_left hlt]; exact hk) (by rw [List.getElem?_append_right (Nat.le_refl _), Nat.sub_self]; rfl) rfl
    omega
  have hpush : ([] ++ va_pl Ns F) ++ [(q, bcv (oC O) ad c)] = [] ++ va_pl (Ns ++ [q]) (va_up F q (bcv (oC O) ad c)) := by
    rw [List.append_assoc, va_pl_push hq]
  rw [hpush] at hP1 hD1
  have hs : va_up ad r q r = q := va_up_self _ _ _
  have hin : ∀ z, f z ≠ none → ad z ∈ Ns := by
    intro z hz
    cases hc : f z with
    | none => exact absurd hc hz
    | some c2 => exact (hf z c2 hc).2.1
  refine ⟨⟨fun z hz => (e2 z hz).trans (h1 z hz), fun z z' a b e => ?_, Ns ++ [q], _, hP1, hD1, fun z c2 hz => ?_⟩, e1, e2⟩
  · by_cases x : z = r
    · by_cases y : z' = r
      · rw [x, y]
      · rw [bU_n y] at b
        rw [x, hs, e1 z' b] at e
        exact absurd (e ▸ hin z' b) hq
    · rw [bU_n x] at a
      by_cases y : z' = r
      · rw [y, hs, e1 z a] at e
        exact absurd (e ▸ hin z a) hq
      · rw [bU_n y] at b
        rw [e1 z a, e1 z' b] at e
        exact h2 z z' a b e
  · by_cases x : z = r
    · subst x
      rw [bU_s] at hz
      cases hz
      refine ⟨h32, by rw [hs]; simp, ?_, hok.up (fun _ => bU_d)⟩
      rw [hs, va_up_self]
      exact (bcv_eq e2 e1 hok).symm
    · rw [bU_n x] at hz
      obtain ⟨a1, a2, a3, a4⟩ := hf z c2 hz
      have hz' : f z ≠ none := by rw [hz]; exact fun w => by cases w
      refine ⟨a1, ?_, ?_, a4.up (fun _ => bU_d)⟩
      · rw [e1 z hz']
        exact List.mem_append_left _ a2
      · rw [e1 z hz', va_up_ne _ _ (show ad z ≠ q from fun w => hq (w ▸ a2)), a3]
        exact (bcv_eq e2 e1 a4).symm
