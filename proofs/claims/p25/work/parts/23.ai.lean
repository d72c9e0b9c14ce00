/-- division by a positive number: only where the divisor is one number above 0 -/
def ai_divt (X Y : AV) : Nat × Nat × Nat := if 1 < av_lo Y ∧ 0 < av_lo X ∧ av_t X = 1 then (3, av_a X, 0) else if 0 < av_lo Y ∧ 0 ≤ av_lo X ∧ av_t X = 3 then (3, av_a X, 0) else (0, 0, 0)
def ai_div (X Y : AV) : AV := if av_lo Y = av_hi Y ∧ 0 < av_lo Y then av_c ((av_lo X).tdiv (av_lo Y)) ((av_hi X).tdiv (av_lo Y)) (ai_divt X Y).1 (ai_divt X Y).2.1 (ai_divt X Y).2.2 else (0, ai_mn, ai_mx, [], 0, 0, 0)
theorem tdiv_mono {a b c : Int} (hc : 0 < c) (h : a ≤ b) : a.tdiv c ≤ b.tdiv c := by
  rcases Int.le_total 0 a with ha | ha
  · rw [Int.tdiv_eq_ediv_of_nonneg ha, Int.tdiv_eq_ediv_of_nonneg (by omega)]
    exact Int.ediv_le_ediv hc h
  · rcases Int.le_total 0 b with hb | hb
    · have h1 : a.tdiv c ≤ 0 := by
        have : (-a).tdiv c ≥ 0 := by
          rw [Int.tdiv_eq_ediv_of_nonneg (by omega)]
          exact Int.ediv_nonneg (by omega) (by omega)
        rw [Int.neg_tdiv] at this
        omega
      have h2 : 0 ≤ b.tdiv c := by
        rw [Int.tdiv_eq_ediv_of_nonneg hb]
        exact Int.ediv_nonneg hb (by omega)
      omega
    · have h3 : (-b).tdiv c ≤ (-a).tdiv c := by
        rw [Int.tdiv_eq_ediv_of_nonneg (by omega), Int.tdiv_eq_ediv_of_nonneg (by omega)]
        exact Int.ediv_le_ediv hc (by omega)
      rw [Int.neg_tdiv, Int.neg_tdiv] at h3
      omega
theorem i32_div {x y : Int32} (hy : 0 < y.toInt) : (x / y).toInt = x.toInt.tdiv y.toInt := by
  rw [Int32.toInt_div]
  refine i32_bm ?_ ?_
  · have h1 := (i32_in x).1
    have h2 : (ai_mn).tdiv y.toInt ≤ x.toInt.tdiv y.toInt := tdiv_mono hy h1
    have h3 : ai_mn ≤ (ai_mn).tdiv y.toInt := by
      have : (-ai_mn).tdiv y.toInt ≤ -ai_mn := by
        rw [Int.tdiv_eq_ediv_of_nonneg (by decide)]
        exact Int.ediv_le_self _ (by decide)
      rw [Int.neg_tdiv] at this
      omega
    omega
  · have h1 := (i32_in x).2
    have h2 : x.toInt.tdiv y.toInt ≤ (ai_mx).tdiv y.toInt := tdiv_mono hy h1
    have h3 : (ai_mx).tdiv y.toInt ≤ ai_mx := by
      rw [Int.tdiv_eq_ediv_of_nonneg (by decide)]
      exact Int.ediv_le_self _ (by decide)
    omega
theorem tdiv_lt {a c : Int} (ha : 0 < a) (hc : 1 < c) : a.tdiv c < a := by
  rw [Int.tdiv_eq_ediv_of_nonneg (by omega)]
  exact Int.ediv_lt_self_of_pos_of_ne_one ha (by omega)
theorem tdiv_le {a c : Int} (ha : 0 ≤ a) : a.tdiv c ≤ a := by
  rw [Int.tdiv_eq_ediv_of_nonneg ha]
  exact Int.ediv_le_self _ ha
theorem ai_div_ok {lv : PmL} {h : PmH} {X Y : AV} {x y : Int32} (hX : av_lo X ≤ x.toInt ∧ x.toInt ≤ av_hi X ∧ ai_tag lv h (av_t X) (av_a X) (av_b X) x) (hY : av_lo Y ≤ y.toInt ∧ y.toInt ≤ av_hi Y) : gv lv h (ai_div X Y) (.int (x / y)) := by
  unfold ai_div
  split
  · rename_i hp
    refine gv_c (fun hq => ?_)
    obtain ⟨a1, a2, a3⟩ := hX
    obtain ⟨b1, b2⟩ := hY
    have ey : y.toInt = av_lo Y := by omega
    have e : (x / y).toInt = x.toInt.tdiv y.toInt := i32_div (by omega)
    rw [e, ey]
    refine ⟨tdiv_mono hp.2 a1, tdiv_mono hp.2 a2, ?_⟩
    unfold ai_divt
    split
    · rename_i h9
      rw [h9.2.2] at a3
      refine ⟨x, a3, ?_⟩
      rw [e, ey]
      exact tdiv_lt (by omega) h9.1
    · split
      · rename_i h9
        rw [h9.2.2] at a3
        obtain ⟨z, z1, z2⟩ := a3
        refine ⟨z, z1, ?_⟩
        rw [e, ey]
        have := tdiv_le (a := x.toInt) (c := av_lo Y) (by omega)
        omega
      · trivial
  · exact (gv_int rfl).mpr ⟨_, rfl, (i32_in _).1, (i32_in _).2, trivial⟩
/-- x and a number that is not negative: between 0 and that number; either side -/
def ai_and (X Y : AV) : AV := if 0 ≤ av_lo Y then (0, 0, av_hi Y, [], 0, 0, 0) else if 0 ≤ av_lo X then (0, 0, av_hi X, [], 0, 0, 0) else (0, ai_mn, ai_mx, [], 0, 0, 0)
theorem i32_nn {x : Int32} (h : 0 ≤ x.toInt) : x.toInt = (x.toBitVec.toNat : Int) ∧ x.toBitVec.toNat < 2 ^ 31 := by
  have e : x.toInt = x.toBitVec.toInt := rfl
  rw [e] at h ⊢
  rw [BitVec.toInt_eq_toNat_cond] at h ⊢
  split at h
  · rename_i z
    rw [if_pos z]
    exact ⟨rfl, by omega⟩
  · have := x.toBitVec.isLt
    omega
theorem i32_and_r {x y : Int32} (h : 0 ≤ y.toInt) : 0 ≤ (x &&& y).toInt ∧ (x &&& y).toInt ≤ y.toInt := by
  obtain ⟨h1, h2⟩ := i32_nn h
  have e : (x &&& y).toInt = (x.toBitVec &&& y.toBitVec).toInt := rfl
  have l : (x.toBitVec &&& y.toBitVec).toNat ≤ y.toBitVec.toNat := by
    rw [BitVec.toNat_and]
    exact Nat.and_le_right
  rw [e, h1, BitVec.toInt_eq_toNat_of_lt (by omega)]
  omega
theorem i32_and_l {x y : Int32} (h : 0 ≤ x.toInt) : 0 ≤ (x &&& y).toInt ∧ (x &&& y).toInt ≤ x.toInt := by
  obtain ⟨h1, h2⟩ := i32_nn h
  have e : (x &&& y).toInt = (x.toBitVec &&& y.toBitVec).toInt := rfl
  have l : (x.toBitVec &&& y.toBitVec).toNat ≤ x.toBitVec.toNat := by
    rw [BitVec.toNat_and]
    exact Nat.and_le_left
  rw [e, h1, BitVec.toInt_eq_toNat_of_lt (by omega)]
  omega
theorem ai_and_ok {lv : PmL} {h : PmH} {X Y : AV} {x y : Int32} (hX : av_lo X ≤ x.toInt ∧ x.toInt ≤ av_hi X) (hY : av_lo Y ≤ y.toInt ∧ y.toInt ≤ av_hi Y) : gv lv h (ai_and X Y) (.int (x &&& y)) := by
  unfold ai_and
  split
  · obtain ⟨g1, g2⟩ := i32_and_r (x := x) (y := y) (by omega)
    exact (gv_int rfl).mpr ⟨_, rfl, g1, Int.le_trans g2 hY.2, trivial⟩
  · split
    · obtain ⟨g1, g2⟩ := i32_and_l (x := x) (y := y) (by omega)
      exact (gv_int rfl).mpr ⟨_, rfl, g1, Int.le_trans g2 hX.2, trivial⟩
    · exact (gv_int rfl).mpr ⟨_, rfl, (i32_in _).1, (i32_in _).2, trivial⟩
