/-! ===== codes as the readers write them; both machines tell the same of them (pure) ===== -/
abbrev cL : Type := List (Int32 × Int32)
def opB (k : Int32) : Prop := k = 43 ∨ k = 45 ∨ k = 42 ∨ k = 264 ∨ k = 265
def opC (k : Int32) : Prop := k = 60 ∨ k = 62 ∨ k = 61
def EX (c : cL) : Prop := ∀ P : cL → Prop, (∀ v : Int32, -10000 ≤ v.toInt → v.toInt ≤ 10000 → P [(258, v)]) → (∀ k : Nat, k < 6 → P [(259, nI k)]) → (∀ a, P a → P (a ++ [(266, 0)])) → (∀ a b k, opB k → P a → P b → P (a ++ b ++ [(k, 0)])) → (∀ a b k x y, opC k → P a → P b → P x → P y → P (a ++ b ++ [(k, 0)] ++ x ++ y ++ [(261, 0)])) → P c
theorem EX.num {v : Int32} (h1 : -10000 ≤ v.toInt) (h2 : v.toInt ≤ 10000) : EX [(258, v)] := fun _ a1 _ _ _ _ => a1 v h1 h2
theorem EX.inp {k : Nat} (h : k < 6) : EX [(259, nI k)] := fun _ _ a2 _ _ _ => a2 k h
theorem EX.neg {a : cL} (h : EX a) : EX (a ++ [(266, 0)]) := fun P a1 a2 a3 a4 a5 => a3 a (h P a1 a2 a3 a4 a5)
theorem EX.bin {a b : cL} {k : Int32} (hk : opB k) (h : EX a) (h2 : EX b) : EX (a ++ b ++ [(k, 0)]) := fun P a1 a2 a3 a4 a5 => a4 a b k hk (h P a1 a2 a3 a4 a5) (h2 P a1 a2 a3 a4 a5)
theorem EX.ite {a b x y : cL} {k : Int32} (hk : opC k) (h : EX a) (h2 : EX b) (h3 : EX x) (h4 : EX y) : EX (a ++ b ++ [(k, 0)] ++ x ++ y ++ [(261, 0)]) := fun P a1 a2 a3 a4 a5 => a5 a b k x y hk (h P a1 a2 a3 a4 a5) (h2 P a1 a2 a3 a4 a5) (h3 P a1 a2 a3 a4 a5) (h4 P a1 a2 a3 a4 a5)
theorem opB_nd {k : Int32} (h : opB k) : jNd k = 2 := by rcases h with h | h | h | h | h <;> subst h <;> decide
theorem opC_nd {k : Int32} (h : opC k) : jNd k = 2 := by rcases h with h | h | h <;> subst h <;> decide
/-! the stack is high enough, and low enough -/
def OKC (c : cL) : Prop := 1 ≤ c.length ∧ ∀ (t : Nat) (rest : cL), t + c.length ≤ 60 → okr rest (t + 1) → okr (c ++ rest) t
theorem okr_c {kv : Int32 × Int32} {c : cL} {t : Nat} (h1 : jNd kv.1 ≤ t) (h2 : t - jNd kv.1 < 60) (h3 : t ≤ 60) (h4 : jNd kv.1 = 0 → ¬ kv.1 = 258 → ¬ kv.2 < 0 ∧ ¬ nI 6 ≤ kv.2) (h5 : okr c (t - jNd kv.1 + 1)) : okr (kv :: c) t := ⟨h1, h2, h3, h4, h5⟩
theorem OKC.two {a b : cL} {k : Int32} (hk : jNd k = 2) (ha : OKC a) (hb : OKC b) : OKC (a ++ b ++ [(k, 0)]) := by
  have l1 := ha.1
  have l2 := hb.1
  refine ⟨by simp only [List.length_append, List.length_cons, List.length_nil]; omega, fun t rest h1 h2 => ?_⟩
  simp only [List.length_append, List.length_cons, List.length_nil] at h1
  rw [List.append_assoc, List.append_assoc]
  refine ha.2 t _ (by omega) (hb.2 (t + 1) _ (by omega) ?_)
  show okr ((k, 0) :: rest) (t + 1 + 1)
  refine okr_c (by show jNd k ≤ _; omega) (by show _ - jNd k < _; omega) (by omega) (fun h => by rw [show jNd (k, (0 : Int32)).1 = 2 from hk] at h; cases h) ?_
  show okr rest (t + 1 + 1 - jNd k + 1)
  rw [hk]
  exact h2
theorem EX.ok {c : cL} (h : EX c) : OKC c := by
  refine h OKC ?_ ?_ ?_ ?_ ?_
  · intro v _ _
    refine ⟨Nat.le_refl _, fun t rest h1 h2 => ?_⟩
    have h1 : t + 1 ≤ 60 := h1
    exact okr_c (Nat.zero_le _) (by show t - 0 < 60; omega) (by omega) (fun _ h => absurd rfl h) h2
  · intro k hk
    refine ⟨Nat.le_refl _, fun t rest h1 h2 => ?_⟩
    have h1 : t + 1 ≤ 60 := h1
    refine okr_c (Nat.zero_le _) (by show t - 0 < 60; omega) (by omega) (fun _ _ => ⟨nI_pos (by omega), fun h9 => ?_⟩) h2
    have := (nI_leI (a := 6) (b := k) (by omega) (by omega)).mp h9
    omega
  · intro a ha
    have l1 := ha.1
    refine ⟨by simp only [List.length_append, List.length_cons, List.length_nil]; omega, fun t rest h1 h2 => ?_⟩
    simp only [List.length_append, List.length_cons, List.length_nil] at h1
    rw [List.append_assoc]
    refine ha.2 t _ (by omega) ?_
    show okr ((266, 0) :: rest) (t + 1)
    exact okr_c (by show 1 ≤ _; omega) (by show t + 1 - 1 < _; omega) (by omega) (fun h => by cases h) h2
  · intro a b k hk ha hb
    exact OKC.two (opB_nd hk) ha hb
  · intro a b k x y hk ha hb hx hy
    have hc := OKC.two (opC_nd hk) ha hb
    have l1 := hc.1
    have l2 := hx.1
    have l3 := hy.1
    generalize a ++ b ++ [(k, 0)] = z at *
    refine ⟨by simp only [List.length_append, List.length_cons, List.length_nil]; omega, fun t rest h1 h2 => ?_⟩
    simp only [List.length_append, List.length_cons, List.length_nil] at h1
    rw [List.append_assoc, List.append_assoc, List.append_assoc]
    refine hc.2 t _ (by omega) (hx.2 (t + 1) _ (by omega) (hy.2 (t + 2) _ (by omega) ?_))
    show okr ((261, 0) :: rest) (t + 3)
    exact okr_c (by show 3 ≤ _; omega) (by show t + 3 - 3 < _; omega) (by omega) (fun h => by cases h) h2
/-! a machine over a stack -/
def rg (op : Int32 × Int32 → (Nat → Int32) → Nat → Int32) (c : cL) (x : (Nat → Int32) × Nat) : (Nat → Int32) × Nat := c.foldl (fun x kv => (upd x.1 (x.2 - jNd kv.1) (op kv x.1 (x.2 - jNd kv.1)), x.2 - jNd kv.1 + 1)) x
theorem rg_rn (ip : Nat → Int32) (c : cL) (x : (Nat → Int32) × Nat) : rn ip c x = rg (opv ip) c x := rfl
theorem rg_a {op : Int32 × Int32 → (Nat → Int32) → Nat → Int32} {a b : cL} {x : (Nat → Int32) × Nat} : rg op (a ++ b) x = rg op b (rg op a x) := List.foldl_append
theorem rg_1 {op : Int32 × Int32 → (Nat → Int32) → Nat → Int32} {kv : Int32 × Int32} {g : Nat → Int32} {t : Nat} : rg op [kv] (g, t) = (upd g (t - jNd kv.1) (op kv g (t - jNd kv.1)), t - jNd kv.1 + 1) := rfl
def SEM (op : Int32 × Int32 → (Nat → Int32) → Nat → Int32) (c : cL) (v : Int32) : Prop := ∀ (g : Nat → Int32) (t : Nat), ∃ g' : Nat → Int32, rg op c (g, t) = (g', t + 1) ∧ g' t = v ∧ ∀ j, j < t → g' j = g j
section
variable {op : Int32 × Int32 → (Nat → Int32) → Nat → Int32} {a b x : cL} {va vb vx : Int32} {kv : Int32 × Int32}
theorem SEM_0 {v : Int32} (hn : jNd kv.1 = 0) (h : ∀ g u, op kv g u = v) : SEM op [kv] v := by
  intro g t
  refine ⟨_, by rw [rg_1, hn, Nat.sub_zero], ?_, fun j hj => pk_un (by omega)⟩
  rw [pk_us]
  exact h _ _
theorem SEM_1 {N : Int32 → Int32} (hn : jNd kv.1 = 1) (h : ∀ g u, op kv g u = N (g u)) (ha : SEM op a va) : SEM op (a ++ [kv]) (N va) := by
  intro g t
  obtain ⟨g1, e1, e2, e3⟩ := ha g t
  refine ⟨_, by rw [rg_a, e1, rg_1, hn, Nat.add_sub_cancel], ?_, fun j hj => ?_⟩
  · rw [pk_us, h, e2]
  · rw [pk_un (by omega)]
    exact e3 j hj
theorem SEM_2 {B : Int32 → Int32 → Int32} (hn : jNd kv.1 = 2) (h : ∀ g u, op kv g u = B (g u) (g (u + 1))) (ha : SEM op a va) (hb : SEM op b vb) : SEM op (a ++ b ++ [kv]) (B va vb) := by
  intro g t
  obtain ⟨g1, e1, e2, e3⟩ := ha g t
  obtain ⟨g2, f1, f2, f3⟩ := hb g1 (t + 1)
  refine ⟨_, by rw [rg_a, rg_a, e1, f1, rg_1, hn, show t + 1 + 1 - 2 = t by omega], ?_, fun j hj => ?_⟩
  · rw [pk_us, h, f2, f3 t (by omega), e2]
  · rw [pk_un (by omega), f3 j (by omega)]
    exact e3 j hj
theorem SEM_3 {F : Int32 → Int32 → Int32 → Int32} (hn : jNd kv.1 = 3) (h : ∀ g u, op kv g u = F (g u) (g (u + 1)) (g (u + 2))) (ha : SEM op a va) (hb : SEM op b vb) (hx : SEM op x vx) : SEM op (a ++ b ++ x ++ [kv]) (F va vb vx) := by
  intro g t
  obtain ⟨g1, e1, e2, e3⟩ := ha g t
  obtain ⟨g2, f1, f2, f3⟩ := hb g1 (t + 1)
  obtain ⟨g3, k1, k2, k3⟩ := hx g2 (t + 2)
  refine ⟨_, by rw [rg_a, rg_a, rg_a, e1, f1, k1, rg_1, hn, show t + 2 + 1 - 3 = t by omega], ?_, fun j hj => ?_⟩
  · rw [pk_us, h, k2, k3 (t + 1) (by omega), k3 t (by omega), f2, f3 t (by omega), e2]
  · rw [pk_un (by omega), k3 j (by omega), f3 j (by omega)]
    exact e3 j hj
end
/-! the reference's way of it -/
def jBd (v : Int64) : Int32 := (lmx (-1000000000) (lmn 1000000000 v)).toInt32
def jBoth (s a b : Int32) : Int32 := if s = 2 then jBd (a.toInt64 + b.toInt64) else if s = 3 then jBd (a.toInt64 - b.toInt64) else if s = 4 then jBd (a.toInt64 * b.toInt64) else if s = 5 then (if b.toInt64 ≤ a.toInt64 then 0 else 1) else if s = 6 then (if a.toInt64 ≤ b.toInt64 then 0 else 1) else if s = 7 then (if a.toInt64 = b.toInt64 then 1 else 0) else if s = 9 then (lmn a.toInt64 b.toInt64).toInt32 else (lmx a.toInt64 b.toInt64).toInt32
def opvM (ip : Nat → Int32) (kv : Int32 × Int32) (g : Nat → Int32) (u : Nat) : Int32 := if jNd kv.1 = 0 then (if kv.1 = 258 then kv.2 else ip kv.2.toNatClampNeg) else if jNd kv.1 = 1 then jBd (-(g u).toInt64) else if jNd kv.1 = 2 then jBoth (sgM kv.1) (g u) (g (u + 1)) else if g u = 1 then g (u + 1) else g (u + 2)
theorem bd_eq (v : Int64) : jBd v = jBnd v := by
  unfold jBd jBnd lmx lmn
  have h1 : (1000000000 : Int64).toInt = 1000000000 := by decide
  have h2 : (-1000000000 : Int64).toInt = -1000000000 := by decide
  have h3 : (1000000000 : Int64).toInt32 = 1000000000 := by decide
  have h4 : (-1000000000 : Int64).toInt32 = -1000000000 := by decide
  simp only [Int64.lt_iff_toInt_lt, Int64.le_iff_toInt_le, h1, h2]
  by_cases c1 : v.toInt < 1000000000
  · rw [if_pos c1, if_pos (show v.toInt ≤ 1000000000 by omega)]
    by_cases c2 : v.toInt < -1000000000
    · rw [if_neg (show ¬ -1000000000 ≤ v.toInt by omega), if_pos c2, h4]
    · rw [if_pos (show -1000000000 ≤ v.toInt by omega), if_neg c2]
  · rw [if_neg c1]
    by_cases c2 : v.toInt ≤ 1000000000
    · have : v = 1000000000 := Int64.toInt_inj.mp (by rw [h1]; omega)
      subst this
      decide
    · rw [if_neg c2]
      decide
theorem t64 (a : Int32) : a.toInt64.toInt = a.toInt := Int32.toInt_toInt64 a
theorem b32 (a : Int32) : -2147483648 ≤ a.toInt ∧ a.toInt < 2147483648 := ⟨by have := Int32.le_toInt a; simpa using this, by have := Int32.toInt_lt a; simpa using this⟩
theorem t3264 (a : Int32) : a.toInt64.toInt32 = a := by
  apply Int32.toInt_inj.mp
  have := b32 a
  rw [Int64.toInt_toInt32, t64, bm32 (by omega) (by omega)]
theorem both_eq {k : Int32} (a b : Int32) (h : opB k ∨ opC k) : jBoth (sgM k) a b = jJoin k a b := by
  have lt : ∀ x y : Int32, (x.toInt64 ≤ y.toInt64) = (x ≤ y) := fun x y => by rw [Int64.le_iff_toInt_le, t64, t64, ← Int32.le_iff_toInt_le]
  have l2 : ∀ x y : Int32, (x.toInt64 < y.toInt64) = (x < y) := fun x y => by rw [Int64.lt_iff_toInt_lt, t64, t64, ← Int32.lt_iff_toInt_lt]
  have l3 : ∀ x y : Int32, (x.toInt64 = y.toInt64) = (x = y) := fun x y => by rw [← Int64.toInt_inj, t64, t64, Int32.toInt_inj]
  rcases h with (h | h | h | h | h) | (h | h | h) <;> subst h
  · show jBd _ = jBnd _
    exact bd_eq _
  · show jBd _ = jBnd _
    exact bd_eq _
  · show jBd _ = jBnd _
    exact bd_eq _
  · show (lmn a.toInt64 b.toInt64).toInt32 = jmn a b
    unfold lmn jmn
    simp only [l2]
    split <;> exact t3264 _
  · show (lmx a.toInt64 b.toInt64).toInt32 = jmx a b
    unfold lmx jmx
    simp only [l2]
    by_cases c1 : b < a
    · rw [if_pos c1, if_neg (fun c2 => by rw [Int32.lt_iff_toInt_lt] at c1 c2; omega), t3264]
    · rw [if_neg c1, t3264]
      by_cases c2 : a < b
      · rw [if_pos c2]
      · rw [if_neg c2]
        apply Int32.toInt_inj.mp
        rw [Int32.lt_iff_toInt_lt] at c1 c2
        omega
  · show (if b.toInt64 ≤ a.toInt64 then (0 : Int32) else 1) = if b ≤ a then 0 else 1
    simp only [lt]
  · show (if a.toInt64 ≤ b.toInt64 then (0 : Int32) else 1) = if a ≤ b then 0 else 1
    simp only [lt]
  · show (if a.toInt64 = b.toInt64 then (1 : Int32) else 0) = if a = b then 1 else 0
    simp only [l3]
def bd9 (v : Int32) : Prop := -1000000000 ≤ v.toInt ∧ v.toInt ≤ 1000000000
theorem bnd_b (v : Int64) : bd9 (jBnd v) := by
  have h1 : (1000000000 : Int64).toInt = 1000000000 := by decide
  have h2 : (-1000000000 : Int64).toInt = -1000000000 := by decide
  unfold jBnd
  simp only [Int64.le_iff_toInt_le, h1, h2]
  by_cases c1 : v.toInt ≤ 1000000000
  · rw [if_pos c1]
    by_cases c2 : -1000000000 ≤ v.toInt
    · rw [if_pos c2]
      unfold bd9
      rw [Int64.toInt_toInt32, bm32 (by omega) (by omega)]
      exact ⟨c2, c1⟩
    · rw [if_neg c2]
      exact ⟨by decide, by decide⟩
  · rw [if_neg c1]
    exact ⟨by decide, by decide⟩
theorem neg_eq {x : Int32} (h : bd9 x) : jBd (-x.toInt64) = -x ∧ bd9 (-x) := by
  have hb := h
  unfold bd9 at hb
  have e1 : (-x).toInt = -x.toInt := by rw [Int32.toInt_neg, bm32 (by omega) (by omega)]
  have e2 : (-x.toInt64).toInt = -x.toInt := by rw [Int64.toInt_neg, t64, bm64 (by omega) (by omega)]
  have h1 : (1000000000 : Int64).toInt = 1000000000 := by decide
  have h2 : (-1000000000 : Int64).toInt = -1000000000 := by decide
  refine ⟨?_, by unfold bd9; omega⟩
  rw [bd_eq]
  unfold jBnd
  simp only [Int64.le_iff_toInt_le, h1, h2, e2]
  rw [if_pos (by omega), if_pos (by omega)]
  apply Int32.toInt_inj.mp
  rw [Int64.toInt_toInt32, e2, e1, bm32 (by omega) (by omega)]
theorem join_b {k : Int32} (a b : Int32) (h : opB k ∨ opC k) (ha : bd9 a) (hb : bd9 b) : bd9 (jJoin k a b) := by
  rcases h with (h | h | h | h | h) | (h | h | h) <;> subst h
  · exact bnd_b _
  · exact bnd_b _
  · exact bnd_b _
  · show bd9 (jmn a b)
    unfold jmn
    split <;> assumption
  · show bd9 (jmx a b)
    unfold jmx
    split <;> assumption
  · show bd9 (if b ≤ a then 0 else 1)
    split <;> exact ⟨by decide, by decide⟩
  · show bd9 (if a ≤ b then 0 else 1)
    split <;> exact ⟨by decide, by decide⟩
  · show bd9 (if a = b then 1 else 0)
    split <;> exact ⟨by decide, by decide⟩
theorem join_c {k : Int32} (a b : Int32) (h : opC k) : jJoin k a b = 0 ∨ jJoin k a b = 1 := by
  rcases h with h | h | h <;> subst h
  · show (if b ≤ a then (0 : Int32) else 1) = 0 ∨ (if b ≤ a then (0 : Int32) else 1) = 1
    split <;> simp
  · show (if a ≤ b then (0 : Int32) else 1) = 0 ∨ (if a ≤ b then (0 : Int32) else 1) = 1
    split <;> simp
  · show (if a = b then (1 : Int32) else 0) = 0 ∨ (if a = b then (1 : Int32) else 0) = 1
    split <;> simp
/-- both machines tell one number of a code -/
def PV (c : cL) : Prop := ∀ ip : Nat → Int32, ∃ v : Int32, SEM (opv ip) c v ∧ ((∀ k, k < 6 → -1000 ≤ (ip k).toInt ∧ (ip k).toInt ≤ 1000) → SEM (opvM ip) c v ∧ bd9 v)
theorem opv_2 {ip : Nat → Int32} {k : Int32} (h : jNd k = 2) (g : Nat → Int32) (u : Nat) : opv ip (k, 0) g u = jJoin k (g u) (g (u + 1)) := by
  unfold opv
  rw [show jNd (k, (0 : Int32)).1 = 2 from h]
  rfl
theorem opvM_2 {ip : Nat → Int32} {k : Int32} (h : opB k ∨ opC k) (h2 : jNd k = 2) (g : Nat → Int32) (u : Nat) : opvM ip (k, 0) g u = jJoin k (g u) (g (u + 1)) := by
  rw [← both_eq _ _ h]
  unfold opvM
  rw [show jNd (k, (0 : Int32)).1 = 2 from h2]
  rfl
theorem PV.two {a b : cL} {k : Int32} (hk : opB k ∨ opC k) (h2 : jNd k = 2) (ha : PV a) (hb : PV b) : PV (a ++ b ++ [(k, 0)]) := by
  intro ip
  obtain ⟨va, a1, a2⟩ := ha ip
  obtain ⟨vb, b1, b2⟩ := hb ip
  refine ⟨jJoin k va vb, SEM_2 (B := jJoin k) h2 (opv_2 h2) a1 b1, fun hi => ?_⟩
  obtain ⟨a3, a4⟩ := a2 hi
  obtain ⟨b3, b4⟩ := b2 hi
  exact ⟨SEM_2 (B := jJoin k) h2 (opvM_2 hk h2) a3 b3, join_b va vb hk a4 b4⟩
theorem EX.pv {c : cL} (h : EX c) : PV c := by
  refine h PV ?_ ?_ ?_ ?_ ?_
  · intro v h1 h2 ip
    exact ⟨v, SEM_0 rfl (fun _ _ => rfl), fun _ => ⟨SEM_0 rfl (fun _ _ => rfl), by unfold bd9; omega⟩⟩
  · intro k hk ip
    have hc : (nI k).toNatClampNeg = k := nI_clamp (by omega)
    refine ⟨ip k, SEM_0 rfl (fun _ _ => ?_), fun hi => ⟨SEM_0 rfl (fun _ _ => ?_), ?_⟩⟩
    · show ip (nI k).toNatClampNeg = ip k
      rw [hc]
    · show ip (nI k).toNatClampNeg = ip k
      rw [hc]
    · have := hi k hk
      unfold bd9
      omega
  · intro a ha ip
    obtain ⟨va, a1, a2⟩ := ha ip
    refine ⟨-va, SEM_1 (N := fun x => -x) rfl (fun _ _ => rfl) a1, fun hi => ?_⟩
    obtain ⟨a3, a4⟩ := a2 hi
    have := SEM_1 (kv := (266, 0)) (N := fun x => jBd (-x.toInt64)) rfl (fun _ _ => rfl) a3
    rw [(neg_eq a4).1] at this
    exact ⟨this, (neg_eq a4).2⟩
  · intro a b k hk ha hb
    exact PV.two (Or.inl hk) (opB_nd hk) ha hb
  · intro a b k x y hk ha hb hx hy ip
    obtain ⟨va, a1, a2⟩ := ha ip
    obtain ⟨vb, b1, b2⟩ := hb ip
    obtain ⟨vx, x1, x2⟩ := hx ip
    obtain ⟨vy, y1, y2⟩ := hy ip
    have h2 := opC_nd hk
    have s1 := SEM_2 (B := jJoin k) h2 (opv_2 h2) a1 b1
    refine ⟨if jJoin k va vb = 0 then vy else vx, SEM_3 (F := fun p q r => if p = 0 then r else q) rfl (fun _ _ => rfl) s1 x1 y1, fun hi => ?_⟩
    obtain ⟨a3, a4⟩ := a2 hi
    obtain ⟨b3, b4⟩ := b2 hi
    obtain ⟨x3, x4⟩ := x2 hi
    obtain ⟨y3, y4⟩ := y2 hi
    have s2 := SEM_2 (B := jJoin k) h2 (opvM_2 (ip := ip) (Or.inr hk) h2) a3 b3
    have s3 := SEM_3 (kv := (261, 0)) (F := fun p q r => if p = 1 then q else r) rfl (fun _ _ => rfl) s2 x3 y3
    have e9 : (if jJoin k va vb = 0 then vy else vx) = if jJoin k va vb = 1 then vx else vy := by
      rcases join_c va vb hk with e | e <;> rw [e]
      · rw [if_pos rfl, if_neg (by decide)]
      · rw [if_neg (by decide), if_pos rfl]
    rw [e9]
    refine ⟨s3, ?_⟩
    split <;> assumption
theorem EX_vl {c : cL} (h : EX c) (ip g : Nat → Int32) : (rn ip c (g, 0)).1 0 = vl c ip := by
  obtain ⟨v, h1, -⟩ := h.pv ip
  obtain ⟨g1, e1, e2, -⟩ := h1 g 0
  obtain ⟨g2, f1, f2, -⟩ := h1 (fun _ => 0) 0
  unfold vl
  rw [rg_rn, rg_rn, e1, f1]
  show g1 0 = g2 0
  rw [e2, f2]
theorem EX.wx {c : cL} (h : EX c) (hl : c.length ≤ 60) : WX c := by
  have hk := h.ok
  refine ⟨?_, fun e => by rw [e] at hk; exact absurd hk.1 (by decide), hl, fun ip g => EX_vl h ip g⟩
  have := hk.2 0 [] (by omega) trivial
  rwa [List.append_nil] at this
/-- what the reference tells of it -/
theorem EX.tells {c : cL} (h : EX c) (ip g : Nat → Int32) (hi : ∀ k, k < 6 → -1000 ≤ (ip k).toInt ∧ (ip k).toInt ≤ 1000) : (rg (opvM ip) c (g, 0)).1 0 = vl c ip ∧ bd9 (vl c ip) := by
  obtain ⟨v, h1, h2⟩ := h.pv ip
  obtain ⟨h3, h4⟩ := h2 hi
  obtain ⟨g1, e1, e2, -⟩ := h3 g 0
  obtain ⟨g2, f1, f2, -⟩ := h1 (fun _ => 0) 0
  unfold vl
  rw [rg_rn, e1, f1]
  show g1 0 = g2 0 ∧ bd9 (g2 0)
  rw [e2, f2]
  exact ⟨rfl, h4⟩
/-! the parser writes such codes -/
def tkO (t : pT) : Prop := (t.2.2.1 = 258 → -10000 ≤ t.2.2.2.toInt ∧ t.2.2.2.toInt ≤ 10000) ∧ (t.2.2.1 = 259 → ∃ k : Nat, k < 6 ∧ t.2.2.2 = nI k)
section
variable {bs : Nat → Int32} {e : Nat}
theorem nacc_b : ∀ (m q c : Nat) (x : Int32), c + (digs bs e m q - q) ≤ 4 → 0 ≤ x.toInt → x.toInt < 10 ^ c → 0 ≤ (nacc bs e m q x).toInt ∧ (nacc bs e m q x).toInt < 10000 := by
  intro m
  induction m with
  | zero =>
    intro q c x h1 h2 h3
    have h1 : c + (q - q) ≤ 4 := h1
    refine ⟨h2, ?_⟩
    show x.toInt < 10000
    rcases (show c = 0 ∨ c = 1 ∨ c = 2 ∨ c = 3 ∨ c = 4 by omega) with h | h | h | h | h <;> subst h <;> omega
  | succ m ih =>
    intro q c x h1 h2 h3
    by_cases hj : jDigit (tb bs e q) = true
    · rw [show digs bs e (m + 1) q = digs bs e m (q + 1) by rw [digs, if_pos hj]] at h1
      have hg := digs_ge bs e m (q + 1)
      rw [show nacc bs e (m + 1) q x = nacc bs e m (q + 1) (x * 10 + tb bs e q - 48) by rw [nacc, if_pos hj]]
      have hb := jDigit_b hj
      have ht : (10 : Int32).toInt = 10 := by decide
      have h48 : (48 : Int32).toInt = 48 := by decide
      have hp : (10 : Int) ^ (c + 1) = 10 * 10 ^ c := by rw [Int.pow_succ, Int.mul_comm]
      have hx : x.toInt < 1000 := by rcases (show c = 0 ∨ c = 1 ∨ c = 2 ∨ c = 3 by omega) with h | h | h | h <;> subst h <;> omega
      have e1 : (x * 10).toInt = x.toInt * 10 := by rw [Int32.toInt_mul, ht, bm32 (by omega) (by omega)]
      have e2 : (x * 10 + tb bs e q).toInt = x.toInt * 10 + (tb bs e q).toInt := by rw [Int32.toInt_add, e1, bm32 (by omega) (by omega)]
      have e3 : (x * 10 + tb bs e q - 48).toInt = x.toInt * 10 + (tb bs e q).toInt - 48 := by rw [Int32.toInt_sub, e2, h48, bm32 (by omega) (by omega)]
      exact ih (q + 1) (c + 1) _ (by omega) (by omega) (by rw [hp]; omega)
    · rw [show digs bs e (m + 1) q = q by rw [digs, if_neg hj]] at h1
      rw [show nacc bs e (m + 1) q x = x by rw [nacc, if_neg hj]]
      refine ⟨h2, ?_⟩
      rcases (show c = 0 ∨ c = 1 ∨ c = 2 ∨ c = 3 ∨ c = 4 by omega) with h | h | h | h | h <;> subst h <;> omega
theorem kow_n {p l : Nat} : kow bs e p l ≠ 258 ∧ kow bs e p l ≠ 259 := by
  unfold kow
  repeat' split
  all_goals exact ⟨by decide, by decide⟩
theorem wK_n {p q : Nat} : wK bs e p q ≠ 258 := by
  unfold wK
  repeat' split
  all_goals first | exact kow_n.1 | decide
theorem wK_9 {p q : Nat} (old : Int32) (h : wK bs e p q = 259) : ∃ k : Nat, k < 6 ∧ wV bs e p q old = nI k := by
  unfold wK at h
  by_cases c1 : q - p ≤ 8
  · rw [if_pos c1] at h
    by_cases c2 : jDigit (tb bs e q) = true
    · rw [if_pos c2] at h
      by_cases c3 : q - p = 1
      · rw [if_pos c3] at h
        by_cases c4 : tb bs e p = 120
        · rw [if_pos c4] at h
          by_cases c5 : 6 ≤ tb bs e q - 48
          · rw [if_pos c5] at h
            exact absurd h (by decide)
          · have hs := sub48 (jDigit_b c2)
            have hd := jDigit_b c2
            have h6 : (6 : Int32).toInt = 6 := by decide
            rw [Int32.le_iff_toInt_le, h6, hs] at c5
            refine ⟨((tb bs e q).toInt - 48).toNat, by omega, ?_⟩
            unfold wV
            rw [if_pos c1, if_pos c2]
            apply Int32.toInt_inj.mp
            rw [hs, nI_toInt (by omega)]
            omega
        · rw [if_neg c4] at h
          exact absurd h (by decide)
      · rw [if_neg c3] at h
        exact absurd h (by decide)
    · rw [if_neg c2] at h
      exact absurd h kow_n.2
  · rw [if_neg c1] at h
    exact absurd h (by decide)
theorem tk_ok (p n : Nat) (old : Int32) : tkO (p, n, tkK bs e p, tkV bs e p old) := by
  show (tkK bs e p = 258 → -10000 ≤ (tkV bs e p old).toInt ∧ (tkV bs e p old).toInt ≤ 10000) ∧ (tkK bs e p = 259 → ∃ k : Nat, k < 6 ∧ tkV bs e p old = nI k)
  unfold tkK tkV
  by_cases c1 : tb bs e p = -1
  · rw [if_pos c1]
    exact ⟨fun h => absurd h (by decide), fun h => absurd h (by decide)⟩
  · rw [if_neg c1, if_neg c1]
    by_cases c2 : jLetter (tb bs e p) = true
    · rw [if_pos c2, if_pos c2]
      exact ⟨fun h => absurd h wK_n, fun h => wK_9 old h⟩
    · rw [if_neg c2, if_neg c2]
      by_cases c3 : jDigit (tb bs e p) = true
      · rw [if_pos c3, if_pos c3]
        by_cases c4 : digs bs e 300 p - p ≤ 4
        · rw [if_pos c4]
          refine ⟨fun _ => ?_, fun h => absurd h (by decide)⟩
          have := nacc_b (bs := bs) (e := e) 300 p 0 0 (by omega) (by decide) (by decide)
          omega
        · rw [if_neg c4]
          exact ⟨fun h => absurd h (by decide), fun h => absurd h (by decide)⟩
      · rw [if_neg c3, if_neg c3]
        by_cases c4 : jSign (tb bs e p) = true
        · rw [if_pos c4]
          have := sgn_lt c4
          refine ⟨fun h => ?_, fun h => ?_⟩ <;> rw [h] at this <;> exact absurd this (by decide)
        · rw [if_neg c4]
          exact ⟨fun h => absurd h (by decide), fun h => absurd h (by decide)⟩
theorem adv_ok (t : pT) : tkO (adv bs e t) := tk_ok _ _ _
/-- a code more, written and counted -/
def Gd (b : cL) (p : Nat) (st : pS) : Prop := tkO st.1 ∧ ∃ c, EX c ∧ st.2.2.1 = b ++ c ∧ st.2.1 = p + c.length
def gdT (T : Nat → Nat → pS → pR) : Prop := ∀ (b i : Nat) (st s1 : pS), tkO st.1 → T b i st = .inr s1 → Gd st.2.2.1 st.2.1 s1
theorem pPart_g {st s1 : pS} (h : pPart bs e st = .inr s1) : tkO s1.1 ∧ s1.2.1 = st.2.1 + 1 ∧ s1.2.2.1 = st.2.2.1 := by
  unfold pPart at h
  split at h
  · cases h
    exact ⟨adv_ok _, rfl, rfl⟩
  · cases h
theorem pTake_g {k : Int32} {st s1 : pS} (h : pTake bs e k st = .inr s1) : tkO s1.1 ∧ s1.2.1 = st.2.1 ∧ s1.2.2.1 = st.2.2.1 := by
  unfold pTake at h
  split at h
  · cases h
    exact ⟨adv_ok _, rfl, rfl⟩
  · cases h
theorem pOpen_g {b : Nat} {st s1 : pS} (h : pOpen bs e b st = .inr s1) : tkO s1.1 ∧ s1.2.1 = st.2.1 ∧ s1.2.2.1 = st.2.2.1 := by
  unfold pOpen at h
  split at h
  · split at h
    · exact pTake_g h
    · cases h
  · exact pTake_g h
theorem pWr_g {k v : Int32} {st s1 : pS} (h : pWr k v st = .inr s1) : s1.1 = st.1 ∧ s1.2.1 = st.2.1 ∧ s1.2.2.1 = st.2.2.1 ++ [(k, v)] := by
  cases h
  exact ⟨rfl, rfl, rfl⟩
variable {T : Nat → Nat → pS → pR}
theorem pPair_g {b i : Nat} {st s1 : pS} (hT : gdT T) (h : pPair bs e T b i st = .inr s1) : tkO s1.1 ∧ ∃ x y, EX x ∧ EX y ∧ s1.2.2.1 = st.2.2.1 ++ x ++ y ∧ s1.2.1 = st.2.1 + x.length + y.length := by
  unfold pPair at h
  obtain ⟨a1, r1, h⟩ := pB_inr h
  obtain ⟨a2, r2, h⟩ := pB_inr h
  obtain ⟨a3, r3, h⟩ := pB_inr h
  obtain ⟨a4, r4, h⟩ := pB_inr h
  obtain ⟨t1, u1, v1⟩ := pOpen_g r1
  obtain ⟨t2, x, hx, v2, u2⟩ := hT _ _ _ _ t1 r2
  obtain ⟨t3, u3, v3⟩ := pTake_g r3
  obtain ⟨t4, y, hy, v4, u4⟩ := hT _ _ _ _ t3 r4
  obtain ⟨t5, u5, v5⟩ := pTake_g h
  exact ⟨t5, x, y, hx, hy, by rw [v5, v4, v3, v2, v1], by omega⟩
theorem pPlain_g {b i : Nat} {st s1 : pS} (hT : gdT T) (ht : tkO st.1) (h : pPlain bs e T b i st = .inr s1) : Gd st.2.2.1 st.2.1 s1 := by
  unfold pPlain at h
  split at h
  · rename_i c1
    obtain ⟨a1, r1, h⟩ := pB_inr h
    obtain ⟨t1, u1, v1⟩ := pPart_g r1
    obtain ⟨t2, u2, v2⟩ := pWr_g h
    refine ⟨by rw [t2]; exact t1, _, EX.num (ht.1 c1).1 (ht.1 c1).2, by rw [v2, v1], by rw [u2, u1]; rfl⟩
  · split at h
    · rename_i c1 c2
      obtain ⟨a1, r1, h⟩ := pB_inr h
      obtain ⟨t1, u1, v1⟩ := pPart_g r1
      obtain ⟨t2, u2, v2⟩ := pWr_g h
      obtain ⟨k, hk, e1⟩ := ht.2 c2
      refine ⟨by rw [t2]; exact t1, _, EX.inp hk, by rw [v2, v1, e1]; rfl, by rw [u2, u1]; rfl⟩
    · split at h
      · obtain ⟨a1, r1, h⟩ := pB_inr h
        obtain ⟨a2, r2, h⟩ := pB_inr h
        obtain ⟨t1, u1, v1⟩ := pOpen_g r1
        obtain ⟨t2, x, hx, v2, u2⟩ := hT _ _ _ _ t1 r2
        obtain ⟨t3, u3, v3⟩ := pTake_g h
        exact ⟨t3, x, hx, by rw [v3, v2, v1], by omega⟩
      · split at h
        · obtain ⟨a1, r1, h⟩ := pB_inr h
          obtain ⟨a2, r2, h⟩ := pB_inr h
          obtain ⟨t1, u1, v1⟩ := pPart_g r1
          obtain ⟨t2, x, y, hx, hy, v2, u2⟩ := pPair_g hT r2
          obtain ⟨t3, u3, v3⟩ := pWr_g h
          refine ⟨by rw [t3]; exact t2, _, EX.bin (k := 264) (by simp [opB]) hx hy, by rw [v3, v2, v1]; simp only [List.append_assoc], ?_⟩
          simp only [List.length_append, List.length_cons, List.length_nil]
          omega
        · split at h
          · obtain ⟨a1, r1, h⟩ := pB_inr h
            obtain ⟨a2, r2, h⟩ := pB_inr h
            obtain ⟨t1, u1, v1⟩ := pPart_g r1
            obtain ⟨t2, x, y, hx, hy, v2, u2⟩ := pPair_g hT r2
            obtain ⟨t3, u3, v3⟩ := pWr_g h
            refine ⟨by rw [t3]; exact t2, _, EX.bin (k := 265) (by simp [opB]) hx hy, by rw [v3, v2, v1]; simp only [List.append_assoc], ?_⟩
            simp only [List.length_append, List.length_cons, List.length_nil]
            omega
          · split at h <;> cases h
theorem pMin_g : ∀ (m c : Nat) (st s1 : pS) (c1 : Nat), tkO st.1 → pMin bs e m c st = .inr (c1, s1) → tkO s1.1 ∧ s1.2.2.1 = st.2.2.1 ∧ s1.2.1 + c = st.2.1 + c1 := by
  intro m
  induction m with
  | zero =>
    intro c st s1 c1 ht h
    cases h
    exact ⟨ht, rfl, rfl⟩
  | succ m ih =>
    intro c st s1 c1 ht h
    unfold pMin at h
    split at h
    · cases hp : pPart bs e st with
      | inl x => rw [hp] at h; cases h
      | inr s2 =>
        rw [hp] at h
        obtain ⟨t1, u1, v1⟩ := pPart_g hp
        obtain ⟨t2, v2, u2⟩ := ih (c + 1) s2 s1 c1 t1 h
        exact ⟨t2, by rw [v2, v1], by omega⟩
    · cases h
      exact ⟨ht, rfl, rfl⟩
theorem pNeg_g {b : cL} : ∀ (c p : Nat) (st : pS), tkO st.1 → (∃ x, EX x ∧ st.2.2.1 = b ++ x ∧ st.2.1 = p + x.length + c) → Gd b p (pNeg c st) := by
  intro c
  induction c with
  | zero => intro p st ht h; exact ⟨ht, h⟩
  | succ c ih =>
    intro p st ht h
    obtain ⟨x, hx, h1, h2⟩ := h
    refine ih p _ ht ⟨x ++ [(266, 0)], hx.neg, ?_, ?_⟩
    · show st.2.2.1 ++ [(266, 0)] = _
      rw [h1, List.append_assoc]
    · show st.2.1 = _
      simp only [List.length_append, List.length_cons, List.length_nil]
      omega
theorem pOne_g {b i : Nat} {st s1 : pS} (hT : gdT T) (ht : tkO st.1) (h : pOne bs e T b i st = .inr s1) : Gd st.2.2.1 st.2.1 s1 := by
  unfold pOne at h
  cases hm : pMin bs e 61 0 st with
  | inl x => rw [hm] at h; cases h
  | inr x =>
    obtain ⟨c, a1⟩ := x
    rw [hm] at h
    obtain ⟨a2, r2, h⟩ := pB_inr h
    cases h
    obtain ⟨t1, v1, u1⟩ := pMin_g 61 0 st a1 c ht hm
    obtain ⟨t2, x, hx, v2, u2⟩ := pPlain_g hT t1 r2
    exact pNeg_g c _ a2 t2 ⟨x, hx, by rw [v2, v1], by omega⟩
theorem pTermL_g {b i : Nat} {z : cL} {p : Nat} (hT : gdT T) : ∀ (m : Nat) (st s1 : pS), Gd z p st → pTermL bs e T b i m st = .inr s1 → Gd z p s1 := by
  intro m
  induction m with
  | zero => intro st s1 h hr; cases hr; exact h
  | succ m ih =>
    intro st s1 h hr
    unfold pTermL at hr
    split at hr
    · obtain ⟨a1, r1, hr⟩ := pB_inr hr
      obtain ⟨a2, r2, hr⟩ := pB_inr hr
      obtain ⟨a3, r3, hr⟩ := pB_inr hr
      obtain ⟨t0, x, hx, v0, u0⟩ := h
      obtain ⟨t1, u1, v1⟩ := pPart_g r1
      obtain ⟨t2, y, hy, v2, u2⟩ := pOne_g hT t1 r2
      obtain ⟨t3, u3, v3⟩ := pWr_g r3
      refine ih a3 s1 ⟨by rw [t3]; exact t2, _, EX.bin (k := 42) (by simp [opB]) hx hy, by rw [v3, v2, v1, v0]; simp only [List.append_assoc], ?_⟩ hr
      simp only [List.length_append, List.length_cons, List.length_nil]
      omega
    · cases hr; exact h
theorem pTerm_g {b i : Nat} {st s1 : pS} (hT : gdT T) (ht : tkO st.1) (h : pTerm bs e T b i st = .inr s1) : Gd st.2.2.1 st.2.1 s1 := by
  obtain ⟨a1, r1, h⟩ := pB_inr h
  exact pTermL_g hT _ _ _ (pOne_g hT ht r1) h
theorem pSumL_g {b i : Nat} {z : cL} {p : Nat} (hT : gdT T) : ∀ (m : Nat) (st s1 : pS), Gd z p st → pSumL bs e T b i m st = .inr s1 → Gd z p s1 := by
  intro m
  induction m with
  | zero => intro st s1 h hr; cases hr; exact h
  | succ m ih =>
    intro st s1 h hr
    unfold pSumL at hr
    split at hr
    · rename_i c1
      obtain ⟨a1, r1, hr⟩ := pB_inr hr
      obtain ⟨a2, r2, hr⟩ := pB_inr hr
      obtain ⟨a3, r3, hr⟩ := pB_inr hr
      obtain ⟨t0, x, hx, v0, u0⟩ := h
      obtain ⟨t1, u1, v1⟩ := pPart_g r1
      obtain ⟨t2, y, hy, v2, u2⟩ := pTerm_g hT t1 r2
      obtain ⟨t3, u3, v3⟩ := pWr_g r3
      refine ih a3 s1 ⟨by rw [t3]; exact t2, _, EX.bin (k := st.1.2.2.1) (by rcases c1 with h | h <;> rw [h] <;> simp [opB]) hx hy, by rw [v3, v2, v1, v0]; simp only [List.append_assoc], ?_⟩ hr
      simp only [List.length_append, List.length_cons, List.length_nil]
      omega
    · cases hr; exact h
theorem pSum_g {b i : Nat} {st s1 : pS} (hT : gdT T) (ht : tkO st.1) (h : pSum bs e T b i st = .inr s1) : Gd st.2.2.1 st.2.1 s1 := by
  obtain ⟨a1, r1, h⟩ := pB_inr h
  exact pSumL_g hT _ _ _ (pTerm_g hT ht r1) h
theorem pTest_g {b i : Nat} {st s1 : pS} (hT : gdT T) (ht : tkO st.1) (h : pTest bs e T b i st = .inr s1) : tkO s1.1 ∧ ∃ (x y : cL) (k : Int32), opC k ∧ EX x ∧ EX y ∧ s1.2.2.1 = st.2.2.1 ++ x ++ y ++ [(k, 0)] ∧ s1.2.1 = st.2.1 + x.length + y.length + 1 := by
  obtain ⟨a1, r1, h⟩ := pB_inr h
  obtain ⟨t1, x, hx, v1, u1⟩ := pSum_g hT ht r1
  split at h
  · rename_i c1
    obtain ⟨a2, r2, h⟩ := pB_inr h
    obtain ⟨a3, r3, h⟩ := pB_inr h
    obtain ⟨t2, u2, v2⟩ := pPart_g r2
    obtain ⟨t3, y, hy, v3, u3⟩ := pSum_g hT t2 r3
    obtain ⟨t4, u4, v4⟩ := pWr_g h
    exact ⟨by rw [t4]; exact t3, x, y, a1.1.2.2.1, c1, hx, hy, by rw [v4, v3, v2, v1], by omega⟩
  · cases h
theorem pIf_g {b i : Nat} {st s1 : pS} (hT : gdT T) (h : pIf bs e T b i st = .inr s1) : Gd st.2.2.1 st.2.1 s1 := by
  unfold pIf at h
  split at h
  · obtain ⟨a1, r1, h⟩ := pB_inr h
    obtain ⟨a2, r2, h⟩ := pB_inr h
    obtain ⟨a3, r3, h⟩ := pB_inr h
    obtain ⟨a4, r4, h⟩ := pB_inr h
    obtain ⟨a5, r5, h⟩ := pB_inr h
    obtain ⟨a6, r6, h⟩ := pB_inr h
    obtain ⟨t1, u1, v1⟩ := pPart_g r1
    obtain ⟨t2, x, y, k, hk, hx, hy, v2, u2⟩ := pTest_g hT t1 r2
    obtain ⟨t3, u3, v3⟩ := pTake_g r3
    obtain ⟨t4, z, hz, v4, u4⟩ := hT _ _ _ _ t3 r4
    obtain ⟨t5, u5, v5⟩ := pTake_g r5
    obtain ⟨t6, w, hw, v6, u6⟩ := hT _ _ _ _ t5 r6
    obtain ⟨t7, u7, v7⟩ := pWr_g h
    refine ⟨by rw [t7]; exact t6, _, EX.ite hk hx hy hz hw, by rw [v7, v6, v5, v4, v3, v2, v1]; simp only [List.append_assoc], ?_⟩
    simp only [List.length_append, List.length_cons, List.length_nil]
    omega
  · cases h
theorem tellS_g : ∀ D : Nat, gdT (tellS bs e D) := by
  intro D
  induction D with
  | zero => intro b i st s1 _ hr; cases hr
  | succ D ih =>
    intro b i st s1 ht hr
    have hr : pTell bs e (tellS bs e D) b i st = .inr s1 := hr
    unfold pTell at hr
    split at hr
    · exact pIf_g ih hr
    · exact pSum_g ih ht hr
theorem modelT_ex {tv : Int32} {s : pS} (h : modelT bs e tv = .inr s) : EX s.2.2.1 ∧ s.2.1 = s.2.2.1.length := by
  obtain ⟨-, c, hc, h1, h2⟩ := tellS_g 17 _ _ _ _ (tk_ok _ _ _) (modelT_tell h)
  have h1 : s.2.2.1 = c := h1
  have h2 : s.2.1 = 0 + c.length := h2
  rw [h1]
  exact ⟨hc, by omega⟩
end
