/-! READING: the sums of nodes -/
def abS (a : Int32) : Int32 := if a < 0 then -a else a
def miS (a b : Int32) : Int32 := if a ≤ b then a else b
def lSm (a b : Int32) : Int32 := if decide (a < 0) = decide (b < 0) then miS (abS a) (abS b) else -miS (abS a) (abS b)
def rSm (a b : Int32) (t : Bool) : Int32 := if t = true then b - a else b + a
/-- a bit of the word of the left half -/
def lfb (u : Nat → Bool) (b l j : Nat) : Bool := bfN 0 l (fun t => decide (t < 2 ^ l) && u (b + t)) j
/-- the sums of the node of channel c, d levels down -/
def nds (m : Nat) (S : Nat → Int32) (u : Nat → Bool) (c : Nat) : Nat → Nat → Int32
  | 0 => S
  | d + 1 => fun j => if c.testBit (m - 1 - d) = true then rSm (nds m S u c d j) (nds m S u c d (j + 2 ^ (m - 1 - d))) (lfb u (c / 2 ^ (m - d) * 2 ^ (m - d)) (m - 1 - d) j) else lSm (nds m S u c d j) (nds m S u c d (j + 2 ^ (m - 1 - d)))
/-- the sums of the node of channel c at a level -/
def ndL (m : Nat) (S : Nat → Int32) (u : Nat → Bool) (c l : Nat) : Nat → Int32 := nds m S u c (m - l)
theorem ndL_m {m : Nat} {S : Nat → Int32} {u : Nat → Bool} {c : Nat} : ndL m S u c m = S := by
  unfold ndL
  rw [Nat.sub_self]
  rfl
theorem ndL_s {m : Nat} {S : Nat → Int32} {u : Nat → Bool} {c l : Nat} (h : l < m) (j : Nat) : ndL m S u c l j = if c.testBit l = true then rSm (ndL m S u c (l + 1) j) (ndL m S u c (l + 1) (j + 2 ^ l)) (lfb u (c / 2 ^ (l + 1) * 2 ^ (l + 1)) l j) else lSm (ndL m S u c (l + 1) j) (ndL m S u c (l + 1) (j + 2 ^ l)) := by
  unfold ndL
  have e : m - l = (m - (l + 1)) + 1 := by omega
  have e2 : m - 1 - (m - (l + 1)) = l := by omega
  have e3 : m - (m - (l + 1)) = l + 1 := by omega
  rw [e, nds, e2, e3]
theorem lfb_cg {u u' : Nat → Bool} {b l : Nat} (h : ∀ t, t < 2 ^ l → u (b + t) = u' (b + t)) (j : Nat) : lfb u b l j = lfb u' b l j := by
  unfold lfb
  congr 1
  funext t
  by_cases ht : t < 2 ^ l
  · rw [h t ht]
  · rw [decide_eq_false ht, Bool.false_and, Bool.false_and]
theorem div_up {c c' l : Nat} (h : c / 2 ^ l = c' / 2 ^ l) : c / 2 ^ (l + 1) = c' / 2 ^ (l + 1) := by
  rw [Nat.pow_succ, ← Nat.div_div_eq_div_mul, ← Nat.div_div_eq_div_mul, h]
theorem tb_div (c l : Nat) : c.testBit l = decide (c / 2 ^ l % 2 = 1) := by
  rw [Nat.testBit_eq_decide_div_mod_eq]
theorem base_l {c l : Nat} (h : c.testBit l = true) : c / 2 ^ (l + 1) * 2 ^ (l + 1) + 2 ^ l = c / 2 ^ l * 2 ^ l := by
  rw [tb_div] at h
  have h := of_decide_eq_true h
  rw [Nat.pow_succ, ← Nat.div_div_eq_div_mul]
  have : c / 2 ^ l = 2 * (c / 2 ^ l / 2) + 1 := by omega
  generalize c / 2 ^ l / 2 = q at *
  rw [this, Nat.add_mul, Nat.one_mul]
  congr 1
  rw [Nat.mul_comm (2 ^ l) 2, ← Nat.mul_assoc, Nat.mul_comm q 2]
theorem base_r {c l : Nat} (h : c.testBit l = false) : c / 2 ^ (l + 1) * 2 ^ (l + 1) = c / 2 ^ l * 2 ^ l := by
  rw [tb_div] at h
  have h := of_decide_eq_false h
  rw [Nat.pow_succ, ← Nat.div_div_eq_div_mul]
  have : c / 2 ^ l = 2 * (c / 2 ^ l / 2) := by omega
  generalize c / 2 ^ l / 2 = q at *
  rw [this, Nat.mul_comm (2 ^ l) 2, ← Nat.mul_assoc, Nat.mul_comm q 2]
theorem ndL_cg {m : Nat} {S : Nat → Int32} {u u' : Nat → Bool} {c c' : Nat} : ∀ (n l : Nat), l + n = m → c / 2 ^ l = c' / 2 ^ l → (∀ t, t < c / 2 ^ l * 2 ^ l → u t = u' t) → ndL m S u c l = ndL m S u' c' l
  | 0, l, hl, _, _ => by
    have hl : l = m := by omega
    rw [hl, ndL_m, ndL_m]
  | n + 1, l, hl, hc, hu => by
    have hd := div_up hc
    have ht : c.testBit l = c'.testBit l := by rw [tb_div, tb_div, hc]
    have hb1 : c / 2 ^ (l + 1) * 2 ^ (l + 1) ≤ c / 2 ^ l * 2 ^ l := by
      cases hb : c.testBit l
      · exact Nat.le_of_eq (base_r hb)
      · exact base_l hb ▸ Nat.le_add_right _ _
    have ih := ndL_cg (m := m) (S := S) n (l + 1) (by omega) hd (fun t h => hu t (Nat.lt_of_lt_of_le h hb1))
    funext j
    rw [ndL_s (u := u) (l := l) (by omega), ndL_s (u := u') (l := l) (by omega), ih, ← ht]
    cases hb : c.testBit l
    · rw [if_neg (by decide), if_neg (by decide)]
    · rw [if_pos rfl, if_pos rfl, ← hd, lfb_cg (fun t h => hu _ (by rw [← base_l hb]; exact Nat.add_lt_add_left h _))]
/-! how great they are -/
theorem i_neg {a : Int32} (h : -2147483648 < a.toInt) : (-a).toInt = -a.toInt := by
  rw [Int32.toInt_neg, Int.bmod_def]
  have := a.toInt_lt
  omega
theorem i_add {a b : Int32} (h1 : -2147483648 ≤ a.toInt + b.toInt) (h2 : a.toInt + b.toInt < 2147483648) : (a + b).toInt = a.toInt + b.toInt := by
  rw [Int32.toInt_add, Int.bmod_def]
  omega
theorem i_sub {a b : Int32} (h1 : -2147483648 ≤ a.toInt - b.toInt) (h2 : a.toInt - b.toInt < 2147483648) : (a - b).toInt = a.toInt - b.toInt := by
  rw [Int32.toInt_sub, Int.bmod_def]
  omega
def inB (B : Int) (a : Int32) : Prop := -B ≤ a.toInt ∧ a.toInt ≤ B
theorem abS_b {B : Int} {a : Int32} (hB : B ≤ 1000000) (h : inB B a) : inB B (abS a) := by
  unfold inB at h
  unfold abS
  split
  · have := i_neg (a := a) (by omega)
    unfold inB
    omega
  · exact h
theorem lSm_b {B : Int} {a b : Int32} (hB : B ≤ 1000000) (h : inB B a) (h' : inB B b) : inB B (lSm a b) := by
  have h1 := abS_b hB h
  have h2 := abS_b hB h'
  have h3 : inB B (miS (abS a) (abS b)) := by
    unfold miS
    split <;> assumption
  unfold lSm
  split
  · exact h3
  · unfold inB at h3 ⊢
    have := i_neg (a := miS (abS a) (abS b)) (by omega)
    omega
theorem rSm_b {B : Int} {a b : Int32} {t : Bool} (hB : B ≤ 1000000) (h : inB B a) (h' : inB B b) : inB (2 * B) (rSm a b t) := by
  unfold inB at h h'
  unfold rSm inB
  split
  · rw [i_sub (by omega) (by omega)]
    omega
  · rw [i_add (by omega) (by omega)]
    omega
theorem pw2_le {a b : Nat} (h : a ≤ b) : 2 ^ a ≤ 2 ^ b := Nat.pow_le_pow_right (by decide) h
theorem ndL_b {m : Nat} {S : Nat → Int32} {u : Nat → Bool} {c : Nat} (hm : m ≤ 6) (hS : ∀ s, s < 64 → -127 ≤ (S s).toInt ∧ (S s).toInt ≤ 127) : ∀ (n l : Nat), l + n = m → ∀ j, j < 2 ^ l → inB (127 * 2 ^ n) (ndL m S u c l j)
  | 0, l, hl, j, hj => by
    have hl : l = m := by omega
    rw [hl, ndL_m]
    have := pw2_le (a := l) (b := 6) (by omega)
    exact hS j (by omega)
  | n + 1, l, hl, j, hj => by
    have e : (2 : Nat) ^ (l + 1) = 2 * 2 ^ l := by rw [Nat.pow_succ, Nat.mul_comm]
    have i1 := ndL_b hm hS n (l + 1) (by omega) j (by omega) (u := u) (c := c)
    have i2 := ndL_b hm hS n (l + 1) (by omega) (j + 2 ^ l) (by omega) (u := u) (c := c)
    have pn := pw2_le (a := n) (b := 6) (by omega)
    have en : (127 * 2 ^ (n + 1) : Int) = 2 * (127 * 2 ^ n) := by
      rw [Int.pow_succ]
      omega
    have pb : (127 * 2 ^ n : Int) ≤ 1000000 := by
      have : (2 ^ n : Int) = ((2 ^ n : Nat) : Int) := by simp
      omega
    rw [ndL_s (by omega), en]
    split
    · exact rSm_b pb i1 i2
    · have := lSm_b pb i1 i2
      unfold inB at this i1 ⊢
      omega
theorem ndL_b0 {m : Nat} {S : Nat → Int32} {u : Nat → Bool} {c : Nat} (hm : m ≤ 6) (hS : ∀ s, s < 64 → -127 ≤ (S s).toInt ∧ (S s).toInt ≤ 127) {l j : Nat} (hl : l ≤ m) (hj : j < 2 ^ l) : inB 8128 (ndL m S u c l j) := by
  have := ndL_b hm hS (u := u) (c := c) (m - l) l (by omega) j hj
  have p := pw2_le (a := m - l) (b := 6) (by omega)
  have e : (2 ^ (m - l) : Int) = ((2 ^ (m - l) : Nat) : Int) := by simp
  unfold inB at this ⊢
  rw [e] at this
  omega
