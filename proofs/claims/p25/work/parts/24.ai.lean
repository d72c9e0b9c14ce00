theorem sh_n : ∀ n, n < 32 → ((nI n &&& 31).toBitVec.smod 32).toNat = n := by decide +kernel
theorem i32_nI {y : Int32} (h : 0 ≤ y.toInt) : ∃ n : Nat, y = nI n ∧ y.toInt = n ∧ n < 2 ^ 31 := by
  obtain ⟨j, hj, e⟩ := nI_of (x := y) (by rw [Int32.lt_iff_toInt_lt]; show ¬ y.toInt < 0; omega)
  exact ⟨j, e, by rw [e]; exact nI_toInt hj, hj⟩
theorem i32_shl {x : Int32} {n : Nat} (hn : n < 32) (hx : 0 ≤ x.toInt) (h : x.toInt * 2 ^ n ≤ ai_mx) : (x <<< (nI n &&& 31)).toInt = x.toInt * 2 ^ n := by
  obtain ⟨h1, h2⟩ := i32_nn hx
  have e : (x <<< (nI n &&& 31)).toInt = (x.toBitVec <<< ((nI n &&& 31).toBitVec.smod 32)).toInt := rfl
  have e2 : x.toBitVec <<< ((nI n &&& 31).toBitVec.smod 32) = x.toBitVec <<< n := by
    rw [BitVec.shiftLeft_eq', sh_n n hn]
  have hb : x.toBitVec.toNat * 2 ^ n ≤ 2147483647 := by
    rw [h1] at h
    unfold ai_mx at h
    have h9 : ((x.toBitVec.toNat * 2 ^ n : Nat) : Int) ≤ 2147483647 := by
      rw [Int.natCast_mul, Int.natCast_pow]
      exact h
    omega
  have e3 : (x.toBitVec <<< n).toNat = x.toBitVec.toNat * 2 ^ n := by
    rw [BitVec.toNat_shiftLeft, Nat.shiftLeft_eq, Nat.mod_eq_of_lt (by omega)]
  rw [e, e2, BitVec.toInt_eq_toNat_of_lt (by rw [e3]; omega), e3, h1, Int.natCast_mul, Int.natCast_pow]
  rfl
theorem i32_shr {x : Int32} {n : Nat} (hn : n < 32) : (x >>> (nI n &&& 31)).toInt = x.toInt / 2 ^ n := by
  show (x.toBitVec.sshiftRight ((nI n &&& 31).toBitVec.smod 32).toNat).toInt = _
  rw [sh_n n hn, BitVec.toInt_sshiftRight, Int.shiftRight_eq_div_pow, Int.natCast_pow]
  rfl
def ai_shl (X Y : AV) : AV := if 0 ≤ av_lo X ∧ 0 ≤ av_lo Y ∧ av_hi Y ≤ 30 ∧ av_hi X * 2 ^ (av_hi Y).toNat ≤ ai_mx then (0, av_lo X * 2 ^ (av_lo Y).toNat, av_hi X * 2 ^ (av_hi Y).toNat, [], 0, 0, 0) else (0, ai_mn, ai_mx, [], 0, 0, 0)
theorem pow_le {a b : Nat} (h : a ≤ b) : (2 : Int) ^ a ≤ 2 ^ b := by
  have : 2 ^ a ≤ 2 ^ b := Nat.pow_le_pow_right (by decide) h
  have h2 : ((2 ^ a : Nat) : Int) ≤ ((2 ^ b : Nat) : Int) := Int.ofNat_le.mpr this
  rw [Int.natCast_pow, Int.natCast_pow] at h2
  exact h2
theorem pow_pos2 (a : Nat) : (0 : Int) < 2 ^ a := by
  exact Int.pow_pos (by decide)
theorem ai_any {lv : PmL} {h : PmH} (x : Int32) : gv lv h (0, ai_mn, ai_mx, [], 0, 0, 0) (.int x) := (gv_int rfl).mpr ⟨x, rfl, (i32_in x).1, (i32_in x).2, trivial⟩
theorem ai_shl_ok {lv : PmL} {h : PmH} {X Y : AV} {x y : Int32} (hX : av_lo X ≤ x.toInt ∧ x.toInt ≤ av_hi X) (hY : av_lo Y ≤ y.toInt ∧ y.toInt ≤ av_hi Y) : gv lv h (ai_shl X Y) (.int (x <<< (y &&& 31))) := by
  unfold ai_shl
  split
  · rename_i hq
    obtain ⟨q1, q2, q3, q4⟩ := hq
    obtain ⟨n, rfl, hn, -⟩ := i32_nI (y := y) (by omega)
    have p1 : (av_lo Y).toNat ≤ n := by omega
    have p2 : n ≤ (av_hi Y).toNat := by omega
    have m1 : x.toInt * 2 ^ n ≤ av_hi X * 2 ^ (av_hi Y).toNat := Int.mul_le_mul hX.2 (pow_le p2) (Int.le_of_lt (pow_pos2 n)) (by omega)
    have m2 : av_lo X * 2 ^ (av_lo Y).toNat ≤ x.toInt * 2 ^ n := Int.mul_le_mul hX.1 (pow_le p1) (Int.le_of_lt (pow_pos2 _)) (by omega)
    have e := i32_shl (x := x) (n := n) (by omega) (by omega) (Int.le_trans m1 q4)
    exact (gv_int rfl).mpr ⟨_, rfl, by rw [e]; exact m2, by rw [e]; exact m1, trivial⟩
  · exact ai_any _
def ai_shr (X Y : AV) : AV := if av_lo Y = av_hi Y ∧ 0 ≤ av_lo Y ∧ av_lo Y ≤ 31 then (0, av_lo X / 2 ^ (av_lo Y).toNat, av_hi X / 2 ^ (av_lo Y).toNat, [], 0, 0, 0) else (0, ai_mn, ai_mx, [], 0, 0, 0)
theorem ai_shr_ok {lv : PmL} {h : PmH} {X Y : AV} {x y : Int32} (hX : av_lo X ≤ x.toInt ∧ x.toInt ≤ av_hi X) (hY : av_lo Y ≤ y.toInt ∧ y.toInt ≤ av_hi Y) : gv lv h (ai_shr X Y) (.int (x >>> (y &&& 31))) := by
  unfold ai_shr
  split
  · rename_i hq
    obtain ⟨q1, q2, q3⟩ := hq
    obtain ⟨n, rfl, hn, -⟩ := i32_nI (y := y) (by omega)
    have en : (av_lo Y).toNat = n := by omega
    have e := i32_shr (x := x) (n := n) (by omega)
    rw [en]
    exact (gv_int rfl).mpr ⟨_, rfl, by rw [e]; exact Int.ediv_le_ediv (pow_pos2 n) hX.1, by rw [e]; exact Int.ediv_le_ediv (pow_pos2 n) hX.2, trivial⟩
  · exact ai_any _
def ai_neg (X : AV) : AV := av_c (-av_hi X) (-av_lo X) 0 0 0
theorem ai_neg_ok {lv : PmL} {h : PmH} {X : AV} {x : Int32} (hX : av_lo X ≤ x.toInt ∧ x.toInt ≤ av_hi X) : gv lv h (ai_neg X) (.int (-x)) := by
  refine gv_c (fun hq => ?_)
  have e : (-x).toInt = -x.toInt := by
    rw [Int32.toInt_neg]
    exact i32_bm (by omega) (by omega)
  exact ⟨by omega, by omega, trivial⟩
def ai_rem (X Y : AV) : AV := if av_lo Y = av_hi Y ∧ 0 < av_lo Y then (0, if 0 ≤ av_lo X then 0 else -(av_lo Y - 1), av_lo Y - 1, [], 0, 0, 0) else (0, ai_mn, ai_mx, [], 0, 0, 0)
theorem emod_le9 {a b : Int} (ha : 0 ≤ a) (hb : 0 < b) : a % b ≤ a := by
  have h1 := Int.mul_ediv_add_emod a b
  have h2 : 0 ≤ b * (a / b) := Int.mul_nonneg (by omega) (Int.ediv_nonneg ha (by omega))
  omega
theorem i32_rem {x y : Int32} (hy : 0 < y.toInt) : (x - x / y * y).toInt = x.toInt.tmod y.toInt := by
  have e1 := i32_div (x := x) hy
  have e2 := Int.mul_tdiv_add_tmod x.toInt y.toInt
  have b1 := i32_in x
  have q1 : ai_mn = -2147483648 := rfl
  have q2 : ai_mx = 2147483647 := rfl
  have t1 : x.toInt.tmod y.toInt < y.toInt := Int.tmod_lt_of_pos _ hy
  have t2 : -y.toInt < x.toInt.tmod y.toInt := Int.lt_tmod_of_pos _ hy
  have e4 : y.toInt * x.toInt.tdiv y.toInt = x.toInt.tdiv y.toInt * y.toInt := Int.mul_comm _ _
  have sgn : (0 ≤ x.toInt → 0 ≤ x.toInt.tmod y.toInt ∧ x.toInt.tmod y.toInt ≤ x.toInt) ∧ (x.toInt ≤ 0 → x.toInt ≤ x.toInt.tmod y.toInt ∧ x.toInt.tmod y.toInt ≤ 0) := by
    constructor
    · intro hx
      rw [Int.tmod_eq_emod_of_nonneg hx]
      exact ⟨Int.emod_nonneg _ (by omega), emod_le9 hx hy⟩
    · intro hx
      have h5 : (-x.toInt).tmod y.toInt = -(x.toInt.tmod y.toInt) := Int.neg_tmod ..
      have h6 : (-x.toInt).tmod y.toInt = (-x.toInt) % y.toInt := Int.tmod_eq_emod_of_nonneg (by omega)
      have h7 : 0 ≤ (-x.toInt) % y.toInt := Int.emod_nonneg _ (by omega)
      have h8 : (-x.toInt) % y.toInt ≤ -x.toInt := emod_le9 (by omega) hy
      omega
  have e3 : (x / y * y).toInt = x.toInt.tdiv y.toInt * y.toInt := by
    rw [← e1]
    refine i32_mul ?_ ?_ <;> rw [e1] <;> rcases Int.le_total 0 x.toInt with hx | hx
    · have := sgn.1 hx; omega
    · have := sgn.2 hx; omega
    · have := sgn.1 hx; omega
    · have := sgn.2 hx; omega
  have e5 : (x - x / y * y).toInt = x.toInt - (x / y * y).toInt := by
    refine i32_sub ?_ ?_ <;> rw [e3] <;> rcases Int.le_total 0 x.toInt with hx | hx
    · have := sgn.1 hx; omega
    · have := sgn.2 hx; omega
    · have := sgn.1 hx; omega
    · have := sgn.2 hx; omega
  rw [e5, e3]
  omega
theorem ai_rem_ok {lv : PmL} {h : PmH} {X Y : AV} {x y : Int32} (hX : av_lo X ≤ x.toInt ∧ x.toInt ≤ av_hi X) (hY : av_lo Y ≤ y.toInt ∧ y.toInt ≤ av_hi Y) : gv lv h (ai_rem X Y) (.int (x - x / y * y)) := by
  unfold ai_rem
  split
  · rename_i hp
    have ey : y.toInt = av_lo Y := by omega
    have e := i32_rem (x := x) (y := y) (by omega)
    have t1 : x.toInt.tmod y.toInt < y.toInt := Int.tmod_lt_of_pos _ (by omega)
    have t2 : -y.toInt < x.toInt.tmod y.toInt := Int.lt_tmod_of_pos _ (by omega)
    refine (gv_int rfl).mpr ⟨_, rfl, ?_, ?_, trivial⟩
    · rw [e]
      show (if 0 ≤ av_lo X then (0 : Int) else -(av_lo Y - 1)) ≤ _
      split
      · rw [Int.tmod_eq_emod_of_nonneg (by omega)]
        exact Int.emod_nonneg _ (by omega)
      · omega
    · rw [e]
      show _ ≤ av_lo Y - 1
      omega
  · exact ai_any _
