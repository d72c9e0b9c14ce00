/-! SOUGHT, purely: entries (key, bits), their order -/
def rvB (B : Int64) : Nat → Nat
  | 0 => 0
  | n + 1 => 2 * rvB B n + (if bl B n = true then 1 else 0)
theorem rvB_lt (B : Int64) : ∀ n, rvB B n < 2 ^ n
  | 0 => Nat.zero_lt_one
  | n + 1 => by
    have := rvB_lt B n
    rw [rvB, Nat.pow_succ]
    split <;> omega
theorem rvB_cg {u v : Int64} : ∀ n, (∀ j, j < n → bl u j = bl v j) → rvB u n = rvB v n
  | 0, _ => rfl
  | n + 1, h => by rw [rvB, rvB, rvB_cg n (fun j hj => h j (by omega)), h n (by omega)]
theorem rvB_ls {u v : Int64} {i : Nat} (h : ∀ j, j < i → bl u j = bl v j) (hu : bl u i = false) (hv : bl v i = true) : ∀ n, i < n → rvB u n < rvB v n
  | 0, hn => absurd hn (Nat.not_lt_zero i)
  | n + 1, hn => by
    rw [rvB, rvB]
    by_cases e : n = i
    · subst e
      rw [rvB_cg n h, hu, hv, if_neg (by decide), if_pos rfl]
      omega
    · have := rvB_ls h hu hv n (by omega)
      split <;> split <;> omega
theorem fst_ne {u v : Int64} (h : ¬ u = v) : ∃ i, i < 64 ∧ (∀ j, j < i → bl u j = bl v j) ∧ ¬ bl u i = bl v i := by
  have key : ∀ n, n ≤ 64 → (∀ j, j < n → bl u j = bl v j) ∨ ∃ i, i < 64 ∧ (∀ j, j < i → bl u j = bl v j) ∧ ¬ bl u i = bl v i := by
    intro n
    induction n with
    | zero => exact fun _ => Or.inl (fun j hj => absurd hj (Nat.not_lt_zero j))
    | succ n ih =>
      intro hn
      rcases ih (by omega) with z | z
      · by_cases e : bl u n = bl v n
        · refine Or.inl (fun j hj => ?_)
          by_cases y : j = n
          · rw [y, e]
          · exact z j (by omega)
        · exact Or.inr ⟨n, by omega, z, e⟩
      · exact Or.inr z
  rcases key 64 (by omega) with z | z
  · exact absurd (bl_ext z) h
  · exact z
theorem rvB_inj {u v : Int64} (h : rvB u 64 = rvB v 64) : u = v := by
  by_cases e : u = v
  · exact e
  · obtain ⟨i, i1, i2, i3⟩ := fst_ne e
    cases hu : bl u i <;> cases hv : bl v i
    · rw [hu, hv] at i3
      exact absurd rfl i3
    · have := rvB_ls i2 hu hv 64 i1
      omega
    · have := rvB_ls (fun j hj => (i2 j hj).symm) hv hu 64 i1
      omega
    · rw [hu, hv] at i3
      exact absurd rfl i3
theorem bl_neg {x : Int64} {i : Nat} (hi : i < 64) : bl (-x) i = (bl x i ^^ decide (∃ j, j < i ∧ bl x j = true)) := by
  unfold bl
  rw [Int64.toBitVec_neg, BitVec.getLsbD_neg]
  simp [hi]
theorem low_b {u v : Int64} : (u &&& (u ^^^ v)) &&& (-(u ^^^ v)) = 0 ↔ rvB u 64 ≤ rvB v 64 := by
  by_cases e : u = v
  · subst e
    rw [Int64.xor_self]
    refine ⟨fun _ => Nat.le_refl _, fun _ => bl_ext (fun i hi => ?_)⟩
    rw [bl_and, bl_and, bl_0 i hi, Bool.and_false, Bool.false_and]
  · obtain ⟨i, i1, i2, i3⟩ := fst_ne e
    have xi : bl (u ^^^ v) i = true := by
      rw [bl_xor]
      cases hu : bl u i <;> cases hv : bl v i <;> rw [hu, hv] at i3 <;> first | rfl | exact absurd rfl i3
    have xj : ∀ j, j < i → bl (u ^^^ v) j = false := fun j hj => by rw [bl_xor, i2 j hj, Bool.xor_self]
    have ex : ∀ j, j < 64 → bl ((u &&& (u ^^^ v)) &&& (-(u ^^^ v))) j = (bl u i && decide (j = i)) := fun j hj => by
      rw [bl_and, bl_and, bl_neg hj]
      by_cases y : j = i
      · subst y
        rw [xi, decide_eq_false (fun z => by obtain ⟨t, t1, t2⟩ := z; rw [xj t t1] at t2; cases t2), decide_eq_true rfl]
        cases bl u j <;> rfl
      · rw [decide_eq_false y, Bool.and_false]
        by_cases lt : j < i
        · rw [xj j lt, Bool.and_false, Bool.false_and]
        · rw [decide_eq_true (show ∃ t, t < j ∧ bl (u ^^^ v) t = true from ⟨i, by omega, xi⟩), Bool.xor_true]
          cases bl u j <;> cases bl (u ^^^ v) j <;> rfl
    cases hu : bl u i
    · have hv : bl v i = true := by
        cases hv : bl v i
        · rw [hu, hv] at i3
          exact absurd rfl i3
        · rfl
      have := rvB_ls i2 hu hv 64 i1
      refine ⟨fun _ => by omega, fun _ => bl_ext (fun j hj => ?_)⟩
      rw [ex j hj, hu, Bool.false_and, bl_0 j hj]
    · have hv : bl v i = false := by
        cases hv : bl v i
        · rfl
        · rw [hu, hv] at i3
          exact absurd rfl i3
      have := rvB_ls (fun j hj => (i2 j hj).symm) hv hu 64 i1
      refine ⟨fun z => ?_, fun z => absurd z (by omega)⟩
      have := ex i i1
      rw [z, bl_0 i i1, hu, decide_eq_true rfl] at this
      cases this
abbrev EP := Nat × Int64
def cdE (e : EP) : Nat := e.1 * 2 ^ 64 + rvB e.2 64
theorem lx_lt {P a b x y : Nat} (hx : x < P) (hy : y < P) : a * P + x < b * P + y ↔ a < b ∨ (a = b ∧ x < y) := by
  rcases Nat.lt_trichotomy a b with h | h | h
  · refine ⟨fun _ => Or.inl h, fun _ => ?_⟩
    have : (a + 1) * P ≤ b * P := Nat.mul_le_mul_right P h
    rw [Nat.succ_mul] at this
    omega
  · subst h
    exact ⟨fun z => Or.inr ⟨rfl, by omega⟩, fun z => by rcases z with z | z <;> omega⟩
  · have : (b + 1) * P ≤ a * P := Nat.mul_le_mul_right P h
    rw [Nat.succ_mul] at this
    exact ⟨fun z => by omega, fun z => by rcases z with z | z <;> omega⟩
theorem cd_lt {e f : EP} : cdE e < cdE f ↔ e.1 < f.1 ∨ (e.1 = f.1 ∧ rvB e.2 64 < rvB f.2 64) := lx_lt (rvB_lt e.2 64) (rvB_lt f.2 64)
theorem cd_le {e f : EP} : cdE e ≤ cdE f ↔ e.1 < f.1 ∨ (e.1 = f.1 ∧ rvB e.2 64 ≤ rvB f.2 64) := by
  rw [← Nat.not_lt, cd_lt]
  omega
theorem cd_inj {e f : EP} (h : cdE e = cdE f) : e = f := by
  have h1 : ¬ cdE e < cdE f := by omega
  have h2 : ¬ cdE f < cdE e := by omega
  rw [cd_lt] at h1 h2
  have a : e.1 = f.1 := by omega
  have b : rvB e.2 64 = rvB f.2 64 := by omega
  exact Prod.ext a (rvB_inj b)
/-! heaps -/
def par2 (i : Nat) : Nat := (i - 1) / 2
def swp (X : Nat → EP) (a b : Nat) : Nat → EP := fun i => if i = a then X b else if i = b then X a else X i
def injE (X : Nat → EP) (n : Nat) : Prop := ∀ i j, i < n → j < n → X i = X j → i = j
def sam (X Y : Nat → EP) (n : Nat) : Prop := (∀ e, (∃ i, i < n ∧ Y i = e) ↔ ∃ i, i < n ∧ X i = e) ∧ (injE X n → injE Y n)
theorem sam_rf {X : Nat → EP} {n : Nat} : sam X X n := ⟨fun _ => Iff.rfl, id⟩
theorem sam_tr {X Y Z : Nat → EP} {n : Nat} (h : sam X Y n) (h' : sam Y Z n) : sam X Z n := ⟨fun e => (h'.1 e).trans (h.1 e), fun z => h'.2 (h.2 z)⟩
theorem swp_a {X : Nat → EP} {a b : Nat} : swp X a b a = X b := if_pos rfl
theorem swp_b {X : Nat → EP} {a b : Nat} : swp X a b b = X a := by
  unfold swp
  by_cases e : b = a
  · rw [if_pos e, e]
  · rw [if_neg e, if_pos rfl]
theorem swp_o {X : Nat → EP} {a b i : Nat} (h1 : ¬ i = a) (h2 : ¬ i = b) : swp X a b i = X i := by
  unfold swp
  rw [if_neg h1, if_neg h2]
theorem sam_sw {X : Nat → EP} {n a b : Nat} (ha : a < n) (hb : b < n) : sam X (swp X a b) n := by
  have sw : ∀ i, i < n → ∃ j, j < n ∧ swp X a b i = X j ∧ swp X a b j = X i ∧ (i = a → j = b) ∧ (i = b → j = a) ∧ (¬ i = a → ¬ i = b → j = i) := fun i hi => by
    by_cases e1 : i = a
    · subst e1
      exact ⟨b, hb, swp_a, swp_b, fun _ => rfl, fun z => z.symm, fun z _ => absurd rfl z⟩
    · by_cases e2 : i = b
      · subst e2
        exact ⟨a, ha, swp_b, swp_a, fun z => z.symm, fun _ => rfl, fun _ z => absurd rfl z⟩
      · exact ⟨i, hi, swp_o e1 e2, swp_o e1 e2, fun z => absurd z e1, fun z => absurd z e2, fun _ _ => rfl⟩
  refine ⟨fun e => ⟨fun h => ?_, fun h => ?_⟩, fun hj i j hi hj2 he => ?_⟩
  · obtain ⟨i, i1, i2⟩ := h
    obtain ⟨j, j1, j2, -⟩ := sw i i1
    exact ⟨j, j1, j2.symm.trans i2⟩
  · obtain ⟨i, i1, i2⟩ := h
    obtain ⟨j, j1, j2, j3, -⟩ := sw i i1
    exact ⟨j, j1, j3.trans i2⟩
  · obtain ⟨p, p1, p2, -, p4, p5, p6⟩ := sw i hi
    obtain ⟨q, q1, q2, -, q4, q5, q6⟩ := sw j hj2
    have e := hj p q p1 q1 (p2.symm.trans (he.trans q2))
    by_cases ia : i = a
    · have := p4 ia
      by_cases ja : j = a
      · omega
      · by_cases jb : j = b
        · have := q5 jb
          omega
        · have := q6 ja jb
          omega
    · by_cases ib : i = b
      · have := p5 ib
        by_cases ja : j = a
        · have := q4 ja
          omega
        · by_cases jb : j = b
          · omega
          · have := q6 ja jb
            omega
      · have := p6 ia ib
        by_cases ja : j = a
        · have := q4 ja
          omega
        · by_cases jb : j = b
          · have := q5 jb
            omega
          · have := q6 ja jb
            omega
def heap (D : Nat → EP) (n : Nat) : Prop := ∀ i, 0 < i → i < n → cdE (D (par2 i)) ≤ cdE (D i)
theorem heap_0 {D : Nat → EP} {n : Nat} (h : heap D n) : ∀ i, i < n → cdE (D 0) ≤ cdE (D i) := by
  intro i
  induction i using Nat.strongRecOn with
  | ind i ih =>
    intro hi
    by_cases e : i = 0
    · subst e
      exact Nat.le_refl _
    · have := ih (par2 i) (by unfold par2; omega) (by unfold par2; omega)
      exact Nat.le_trans this (h i (by omega) hi)
def hup (D : Nat → EP) (a n : Nat) : Prop := (∀ i, 0 < i → i < n → ¬ i = a → cdE (D (par2 i)) ≤ cdE (D i)) ∧ (0 < a → ∀ i, 0 < i → i < n → par2 i = a → cdE (D (par2 a)) ≤ cdE (D i))
theorem hup_st {D : Nat → EP} {a n : Nat} (h0 : 0 < a) (ha : a < n) (h : hup D a n) (hc : cdE (D a) ≤ cdE (D (par2 a))) : hup (swp D a (par2 a)) (par2 a) n := by
  have pa : par2 a < a := by unfold par2; omega
  have pl : ∀ i, 0 < i → par2 i < i := fun i hi => by unfold par2; omega
  refine ⟨fun i i0 i1 i2 => ?_, fun p0 i i0 i1 i2 => ?_⟩
  · by_cases e : i = a
    · subst e
      rw [swp_b, swp_a]
      exact hc
    · rw [swp_o e i2]
      by_cases e1 : par2 i = a
      · rw [e1, swp_a]
        exact h.2 h0 i i0 i1 e1
      · by_cases e2 : par2 i = par2 a
        · rw [e2, swp_b]
          have := h.1 i i0 i1 e
          rw [e2] at this
          exact Nat.le_trans hc this
        · rw [swp_o e1 e2]
          exact h.1 i i0 i1 e
  · have pp := pl (par2 a) p0
    rw [swp_o (by omega) (by omega)]
    have b1 := h.1 (par2 a) p0 (by omega) (by omega)
    by_cases e : i = a
    · subst e
      rw [swp_a]
      exact b1
    · have := pl i i0
      rw [swp_o e (by omega)]
      have b2 := h.1 i i0 i1 e
      rw [i2] at b2
      exact Nat.le_trans b1 b2
theorem hup_end {D : Nat → EP} {a n : Nat} (h : hup D a n) (hc : a = 0 ∨ cdE (D (par2 a)) ≤ cdE (D a)) : heap D n := fun i i0 i1 => by
  by_cases e : i = a
  · rcases hc with z | z
    · omega
    · rw [e]
      exact z
  · exact h.1 i i0 i1 e
def hdn (D : Nat → EP) (a n : Nat) : Prop := (∀ i, 0 < i → i < n → ¬ par2 i = a → cdE (D (par2 i)) ≤ cdE (D i)) ∧ (0 < a → ∀ i, 0 < i → i < n → par2 i = a → cdE (D (par2 a)) ≤ cdE (D i))
theorem hdn_st {D : Nat → EP} {a c n : Nat} (h : hdn D a n) (hc0 : 0 < c) (hcn : c < n) (hca : par2 c = a) (hc : cdE (D c) ≤ cdE (D a)) (hs : ∀ i, 0 < i → i < n → par2 i = a → cdE (D c) ≤ cdE (D i)) : hdn (swp D a c) c n := by
  have pl : ∀ i, 0 < i → par2 i < i := fun i hi => by unfold par2; omega
  have ac := pl c hc0
  refine ⟨fun i i0 i1 i2 => ?_, fun _ i i0 i1 i2 => ?_⟩
  · by_cases e : i = c
    · subst e
      rw [hca, swp_a, swp_b]
      exact hc
    · by_cases e1 : i = a
      · subst e1
        have := pl i i0
        rw [swp_a, swp_o (by omega) (by omega)]
        exact h.2 i0 c hc0 hcn hca
      · rw [swp_o e1 e]
        by_cases e2 : par2 i = a
        · rw [e2, swp_a]
          exact hs i i0 i1 e2
        · rw [swp_o e2 i2]
          exact h.1 i i0 i1 e2
  · have := pl i i0
    rw [hca, swp_a, swp_o (by omega) (by omega)]
    have := h.1 i i0 i1 (by omega)
    rw [i2] at this
    exact this
theorem hdn_end {D : Nat → EP} {a n : Nat} (h : hdn D a n) (hc : ∀ i, 0 < i → i < n → par2 i = a → cdE (D a) ≤ cdE (D i)) : heap D n := fun i i0 i1 => by
  by_cases e : par2 i = a
  · rw [e]
    exact hc i i0 i1 e
  · exact h.1 i i0 i1 e
