/-! ORDER: what is put in behind all that are not worse -/
def insAt (K : Nat → Int) (o : Nat → Nat) (q : Nat) : Nat → Nat
  | 0 => 0
  | a + 1 => if K q < K (o a) then insAt K o q a else a + 1
def insO (K : Nat → Int) (o : Nat → Nat) (q a : Nat) : Nat := if a < insAt K o q q then o a else if a = insAt K o q q then q else o (a - 1)
def ordF (K : Nat → Int) : Nat → Nat → Nat
  | 0 => fun _ => 0
  | q + 1 => insO K (ordF K q) q
def lexI (K : Nat → Int) (a b : Nat) : Prop := K a < K b ∨ (K a = K b ∧ a < b)
def srt (K : Nat → Int) (M : Nat) (o : Nat → Nat) : Prop := (∀ a, a < M → o a < M) ∧ (∀ a b, a < b → b < M → lexI K (o a) (o b)) ∧ ∀ q, q < M → ∃ a, a < M ∧ o a = q
theorem insAt_p {K : Nat → Int} {o : Nat → Nat} {q : Nat} : ∀ n, insAt K o q n ≤ n ∧ (∀ a, insAt K o q n ≤ a → a < n → K q < K (o a)) ∧ (0 < insAt K o q n → K (o (insAt K o q n - 1)) ≤ K q)
  | 0 => ⟨Nat.le_refl _, fun a _ h => absurd h (Nat.not_lt_zero _), fun h => absurd h (Nat.lt_irrefl _)⟩
  | n + 1 => by
    rw [insAt]
    obtain ⟨i1, i2, i3⟩ := insAt_p (K := K) (o := o) (q := q) n
    split
    · rename_i h
      refine ⟨by omega, fun a h1 h2 => ?_, i3⟩
      by_cases e : a = n
      · rw [e]
        exact h
      · exact i2 a h1 (by omega)
    · rename_i h
      exact ⟨Nat.le_refl _, fun a h1 h2 => absurd h2 (by omega), fun _ => by rw [Nat.add_sub_cancel]; omega⟩
theorem srt_ins {K : Nat → Int} {o : Nat → Nat} {q : Nat} (h : srt K q o) : srt K (q + 1) (insO K o q) := by
  obtain ⟨h1, h2, h3⟩ := h
  obtain ⟨i1, i2, i3⟩ := insAt_p (K := K) (o := o) (q := q) q
  have lo : ∀ a, a < insAt K o q q → K (o a) ≤ K q := fun a ha => by
    have i3 := i3 (by omega)
    by_cases e : a = insAt K o q q - 1
    · rw [e]
      exact i3
    · rcases h2 a (insAt K o q q - 1) (by omega) (by omega) with z | z <;> omega
  have e0 : ∀ a, insO K o q a = if a < insAt K o q q then o a else if a = insAt K o q q then q else o (a - 1) := fun _ => rfl
  generalize insAt K o q q = p at *
  generalize insO K o q = O at *
  refine ⟨fun a ha => ?_, fun a b hab hb => ?_, fun t ht => ?_⟩
  · rw [e0]
    split
    · have := h1 a (by omega)
      omega
    · split
      · omega
      · have := h1 (a - 1) (by omega)
        omega
  · rw [e0, e0]
    by_cases c1 : a < p
    · rw [if_pos c1]
      by_cases c2 : b < p
      · rw [if_pos c2]
        exact h2 a b hab (by omega)
      · rw [if_neg c2]
        by_cases c3 : b = p
        · rw [if_pos c3]
          have := lo a c1
          have := h1 a (by omega)
          unfold lexI
          omega
        · rw [if_neg c3]
          exact h2 a (b - 1) (by omega) (by omega)
    · rw [if_neg c1, if_neg (show ¬ b < p by omega), if_neg (show ¬ b = p by omega)]
      by_cases c3 : a = p
      · rw [if_pos c3]
        exact Or.inl (i2 (b - 1) (by omega) (by omega))
      · rw [if_neg c3]
        exact h2 (a - 1) (b - 1) (by omega) (by omega)
  · by_cases e : t = q
    · refine ⟨p, by omega, ?_⟩
      rw [e0]
      rw [if_neg (Nat.lt_irrefl _), if_pos rfl, e]
    · obtain ⟨a, a1, a2⟩ := h3 t (by omega)
      by_cases c : a < p
      · exact ⟨a, by omega, by rw [e0, if_pos c, a2]⟩
      · refine ⟨a + 1, by omega, ?_⟩
        rw [e0]
        rw [if_neg (by omega), if_neg (by omega), Nat.add_sub_cancel, a2]
theorem srt_F (K : Nat → Int) : ∀ M, srt K M (ordF K M)
  | 0 => ⟨fun a h => absurd h (Nat.not_lt_zero a), fun a b _ h => absurd h (Nat.not_lt_zero b), fun q h => absurd h (Nat.not_lt_zero q)⟩
  | M + 1 => srt_ins (srt_F K M)
/-- the first of the least of those that are left -/
def bst (K : Nat → Int) (L : Nat → Bool) : Nat → Option Nat
  | 0 => none
  | q + 1 => if L q = true then (match bst K L q with
    | none => some q
    | some b => if K q < K b then some q else some b) else bst K L q
theorem bst_p {K : Nat → Int} {L : Nat → Bool} : ∀ M, match bst K L M with
    | none => ∀ q, q < M → L q = false
    | some b => b < M ∧ L b = true ∧ ∀ q, q < M → L q = true → K b < K q ∨ (K b = K q ∧ b ≤ q)
  | 0 => fun q h => absurd h (Nat.not_lt_zero q)
  | M + 1 => by
    have ih := bst_p (K := K) (L := L) M
    rw [bst]
    cases hl : L M
    · rw [if_neg (by decide)]
      cases hb : bst K L M with
      | none =>
        rw [hb] at ih
        intro q hq
        by_cases e : q = M
        · rw [e]; exact hl
        · exact ih q (by omega)
      | some b =>
        rw [hb] at ih
        refine ⟨by omega, ih.2.1, fun q hq h => ?_⟩
        by_cases e : q = M
        · rw [e, hl] at h; cases h
        · exact ih.2.2 q (by omega) h
    · rw [if_pos rfl]
      cases hb : bst K L M with
      | none =>
        rw [hb] at ih
        refine ⟨by omega, hl, fun q hq h => ?_⟩
        by_cases e : q = M
        · rw [e]; exact Or.inr ⟨rfl, Nat.le_refl _⟩
        · rw [ih q (by omega)] at h; cases h
      | some b =>
        rw [hb] at ih
        obtain ⟨j1, j2, j3⟩ := ih
        show match (if K M < K b then some M else some b) with
          | none => ∀ q, q < M + 1 → L q = false
          | some b => b < M + 1 ∧ L b = true ∧ ∀ q, q < M + 1 → L q = true → K b < K q ∨ (K b = K q ∧ b ≤ q)
        by_cases hk : K M < K b
        · rw [if_pos hk]
          refine ⟨by omega, hl, fun q hq h => ?_⟩
          by_cases e : q = M
          · rw [e]; exact Or.inr ⟨rfl, Nat.le_refl _⟩
          · rcases j3 q (by omega) h with z | z <;> exact Or.inl (by omega)
        · rw [if_neg hk]
          refine ⟨by omega, j2, fun q hq h => ?_⟩
          by_cases e : q = M
          · rw [e]; omega
          · exact j3 q (by omega) h
theorem bst_o {K : Nat → Int} {L : Nat → Bool} {M j : Nat} {o : Nat → Nat} (hs : srt K M o) (hj : j < M) (hL : ∀ a, a < M → L (o a) = decide (j ≤ a)) : bst K L M = some (o j) := by
  obtain ⟨s1, s2, s3⟩ := hs
  have h := bst_p (K := K) (L := L) M
  have lj := hL j hj
  rw [decide_eq_true (Nat.le_refl _)] at lj
  cases hb : bst K L M with
  | none =>
    rw [hb] at h
    have h : ∀ q, q < M → L q = false := h
    rw [h (o j) (s1 j hj)] at lj
    cases lj
  | some b =>
    rw [hb] at h
    obtain ⟨b1, b2, b3⟩ := h
    obtain ⟨a, a1, a2⟩ := s3 b b1
    have la := hL a a1
    rw [a2, b2] at la
    have la := of_decide_eq_true la.symm
    by_cases e : a = j
    · rw [← a2, e]
    · exfalso
      have l1 := s2 j a (by omega) a1
      have l2 := b3 (o j) (s1 j hj) lj
      rw [a2] at l1
      unfold lexI at l1
      omega
/-! READING, purely: how many paths, their bits, their metrics -/
abbrev RSt : Type := Nat × (Nat → Int64) × (Nat → Int32)
def rsm (m : Nat) (S : Nat → Int32) (x : RSt) (i p : Nat) : Int32 := ndL m S (bl (x.2.1 p)) i 0 0
def cnd (m : Nat) (S : Nat → Int32) (x : RSt) (i q : Nat) : Int32 := x.2.2 (q / 2) + coS (rsm m S x i (q / 2)) (decide (q % 2 = 1))
def ordR (m : Nat) (S : Nat → Int32) (x : RSt) (i : Nat) : Nat → Nat := ordF (fun q => (cnd m S x i q).toInt) (2 * x.1)
def bitI (w : Int64) (i : Nat) (t : Bool) : Int64 := if t = true then w ||| bitAt i else w
def rdS (kp : Bool) (m : Nat) (S : Nat → Int32) (most i : Nat) (x : RSt) : RSt := if kp = true then (min (2 * x.1) most, (fun r => bitI (x.2.1 (ordR m S x i r / 2)) i (decide (ordR m S x i r % 2 = 1))), fun r => cnd m S x i (ordR m S x i r)) else (x.1, x.2.1, fun r => x.2.2 r + coS (rsm m S x i r) false)
def rdN (K : Int64) (m : Nat) (S : Nat → Int32) (most : Nat) : Nat → RSt
  | 0 => (1, (fun _ => 0), fun _ => 0)
  | i + 1 => rdS (bl K i) m S most i (rdN K m S most i)
/-- twice the path ahead, and the bit -/
def stpR (kp : Bool) (m : Nat) (S : Nat → Int32) (x : RSt) (i r : Nat) : Nat := if kp = true then ordR m S x i r else 2 * r
theorem rd_P {K : Int64} {m : Nat} {S : Nat → Int32} {most : Nat} (h1 : 1 ≤ most) : ∀ i, 1 ≤ (rdN K m S most i).1 ∧ (rdN K m S most i).1 ≤ most
  | 0 => ⟨Nat.le_refl _, h1⟩
  | i + 1 => by
    have ih := rd_P (K := K) (m := m) (S := S) h1 i
    rw [rdN]
    unfold rdS
    split
    · show 1 ≤ min _ _ ∧ min _ _ ≤ most
      omega
    · exact ih
theorem bitI_bl {w : Int64} {i t : Nat} {b : Bool} (hi : i < 64) (ht : t < 64) : bl (bitI w i b) t = (bl w t || (b && decide (t = i))) := by
  unfold bitI
  cases b
  · rw [if_neg (by decide), Bool.false_and, Bool.or_false]
  · rw [if_pos rfl, bl_or, bitAt_bl hi ht, Bool.true_and]
theorem rd_B {K : Int64} {m : Nat} {S : Nat → Int32} {most : Nat} : ∀ i, i ≤ 64 → ∀ p t, t < 64 → bl ((rdN K m S most i).2.1 p) t = true → t < i ∧ bl K t = true
  | 0, _, p, t, ht, h => by
    have h : bl 0 t = true := h
    rw [bl_0 t ht] at h
    cases h
  | i + 1, hi, p, t, ht, h => by
    have ih := rd_B (K := K) (m := m) (S := S) (most := most) i (by omega)
    rw [rdN] at h
    unfold rdS at h
    cases hk : bl K i
    · rw [hk, if_neg (by decide)] at h
      have := ih p t ht h
      exact ⟨by omega, this.2⟩
    · rw [hk, if_pos rfl] at h
      have h : bl (bitI _ i _) t = true := h
      rw [bitI_bl (by omega) ht] at h
      rcases Bool.or_eq_true_iff.mp h with z | z
      · have := ih _ t ht z
        exact ⟨by omega, this.2⟩
      · have e := of_decide_eq_true (Bool.and_eq_true_iff.mp z).2
        rw [e]
        exact ⟨by omega, hk⟩
