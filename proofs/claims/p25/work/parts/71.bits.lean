def us6 (x : Int64) (y : Int32) : Int64 := (x.toUInt64 >>> (y.toInt64.toUInt64 &&& Int64.toUInt64 63)).toInt64
def bc1 (x : Int64) : Int64 := x - (us6 x 1 &&& 6148914691236517205)
def bc2 (x : Int64) : Int64 := (x &&& 3689348814741910323) + (us6 x 2 &&& 3689348814741910323)
def bc3 (x : Int64) : Int64 := (x + us6 x 4) &&& 1085102592571150095
def bc4 (x : Int64) : Int64 := x + us6 x 8
def bc5 (x : Int64) : Int64 := x + us6 x 16
def bc6 (x : Int64) : Int64 := x + us6 x 32
def bcE (x : Int64) : Int32 := (bc6 (bc5 (bc4 (bc3 (bc2 (bc1 x)))))).toInt32 &&& 127
theorem bc_ev {x : Int64} {h : PmH} : Ev pmT 43 [.long x] h (some (.int (bcE x))) h := by
  refine Ev.of (es := cd_43) (ml := 2) (lv := [some (.long x), none]) rfl rfl rfl ?_
  refine g_n 8 (j' := 8) (lv' := [some (.long (bc1 x)), none]) (st' := []) (h' := h) rfl ?_
  unfold bcE
  generalize bc1 x = x
  refine g_n 10 (j' := 18) (lv' := [some (.long (bc2 x)), none]) (st' := []) (h' := h) rfl ?_
  generalize bc2 x = x
  refine g_n 8 (j' := 26) (lv' := [some (.long (bc3 x)), none]) (st' := []) (h' := h) rfl ?_
  generalize bc3 x = x
  refine g_n 6 (j' := 32) (lv' := [some (.long (bc4 x)), none]) (st' := []) (h' := h) rfl ?_
  generalize bc4 x = x
  refine g_n 6 (j' := 38) (lv' := [some (.long (bc5 x)), none]) (st' := []) (h' := h) rfl ?_
  generalize bc5 x = x
  refine g_n 6 (j' := 44) (lv' := [some (.long (bc6 x)), none]) (st' := []) (h' := h) rfl ?_
  generalize bc6 x = x
  refine g_n 4 (j' := 48) (lv' := [some (.long x), none]) (st' := [.int (x.toInt32 &&& 127)]) (h' := h) rfl ?_
  exact g_ret rfl
def cntb (K : Int64) : Nat → Nat
  | 0 => 0
  | m + 1 => cntb K m + (if bl K m = true then 1 else 0)
def popc (K : Int64) : Nat := cntb K 64
theorem cntb_le (K : Int64) : ∀ m, cntb K m ≤ m
  | 0 => Nat.le_refl 0
  | m + 1 => by
    have := cntb_le K m
    rw [cntb]
    split <;> omega
theorem popc_le (K : Int64) : popc K ≤ 64 := cntb_le K 64
/-! bitCount counts bits -/
def nn (x : Int64) : Nat := x.toBitVec.toNat
theorem nn_lt (x : Int64) : nn x < 2 ^ 64 := x.toBitVec.isLt
theorem us6_n (x : Int64) (y : Int32) (k : Nat) (hk : (y.toInt64.toUInt64 &&& Int64.toUInt64 63).toNat % 64 = k) : nn (us6 x y) = nn x / 2 ^ k := by
  have e : nn (us6 x y) = (x.toUInt64 >>> (y.toInt64.toUInt64 &&& Int64.toUInt64 63)).toNat := rfl
  rw [e, UInt64.toNat_shiftRight, hk, Nat.shiftRight_eq_div_pow]
  rfl
theorem nn_add {x y : Int64} (h : nn x + nn y < 2 ^ 64) : nn (x + y) = nn x + nn y := by
  show (x.toBitVec + y.toBitVec).toNat = _
  rw [BitVec.toNat_add]
  exact Nat.mod_eq_of_lt h
theorem nn_sub {x y : Int64} (h : nn y ≤ nn x) : nn (x - y) = nn x - nn y := by
  show (x.toBitVec - y.toBitVec).toNat = _
  rw [BitVec.toNat_sub]
  have h1 := nn_lt x
  unfold nn at *
  omega
theorem nn_and (x y : Int64) : nn (x &&& y) = nn x &&& nn y := by
  show (x.toBitVec &&& y.toBitVec).toNat = _
  rw [BitVec.toNat_and]
  rfl
def sw1 (M x : Nat) : Nat := x - (x / 2 &&& M)
def sw2 (M x : Nat) : Nat := (x &&& M) + (x / 4 &&& M)
def sw3 (M x : Nat) : Nat := (x + x / 16) &&& M
theorem and_dq {d q m M : Nat} (hd : d < 256) (hm : m < 256) : (d + 256 * q) &&& (m + 256 * M) = (d &&& m) + 256 * (q &&& M) := by
  have h1 : ((d + 256 * q) &&& (m + 256 * M)) % 2 ^ 8 = d &&& m := by
    rw [Nat.and_mod_two_pow, show (d + 256 * q) % 2 ^ 8 = d by omega, show (m + 256 * M) % 2 ^ 8 = m by omega]
  have h2 : ((d + 256 * q) &&& (m + 256 * M)) / 2 ^ 8 = q &&& M := by
    rw [Nat.and_div_two_pow, show (d + 256 * q) / 2 ^ 8 = q by omega, show (m + 256 * M) / 2 ^ 8 = M by omega]
  omega
theorem lo_and : ∀ m, m < 128 → ∀ d, d < 128 → (d + 128) &&& m = d &&& m := by decide +kernel
theorem lo_and2 : ∀ m, m < 64 → ∀ d, d < 64 → (d + 64) &&& m = d &&& m ∧ (d + 128) &&& m = d &&& m ∧ (d + 192) &&& m = d &&& m := by decide +kernel
theorem sw1_dq {d q M : Nat} (hd : d < 256) : sw1 (85 + 256 * M) (d + 256 * q) = sw1 85 d + 256 * sw1 M q := by
  unfold sw1
  have e : (d + 256 * q) / 2 = (d / 2 + 128 * (q % 2)) + 256 * (q / 2) := by omega
  rw [e, and_dq (by omega) (by decide)]
  have e2 : (d / 2 + 128 * (q % 2)) &&& 85 = d / 2 &&& 85 := by
    have h2 : q % 2 = 0 ∨ q % 2 = 1 := by omega
    rcases h2 with z | z <;> rw [z]
    · rfl
    · exact lo_and 85 (by decide) (d / 2) (by omega)
  rw [e2]
  have l1 : d / 2 &&& 85 ≤ d / 2 := Nat.and_le_left
  have l2 : q / 2 &&& M ≤ q / 2 := Nat.and_le_left
  omega
theorem sw2_dq {d q M : Nat} (hd : d < 256) : sw2 (51 + 256 * M) (d + 256 * q) = sw2 51 d + 256 * sw2 M q := by
  unfold sw2
  have e : (d + 256 * q) / 4 = (d / 4 + 64 * (q % 4)) + 256 * (q / 4) := by omega
  rw [e, and_dq hd (by decide), and_dq (d := d / 4 + 64 * (q % 4)) (by omega) (by decide)]
  have e2 : (d / 4 + 64 * (q % 4)) &&& 51 = d / 4 &&& 51 := by
    have h2 : q % 4 = 0 ∨ q % 4 = 1 ∨ q % 4 = 2 ∨ q % 4 = 3 := by omega
    obtain ⟨l1, l2, l3⟩ := lo_and2 51 (by decide) (d / 4) (by omega)
    rcases h2 with z | z | z | z <;> rw [z]
    · rfl
    · exact l1
    · exact l2
    · exact l3
  rw [e2]
  omega
theorem and15 (x : Nat) : x &&& 15 = x % 16 := Nat.and_two_pow_sub_one_eq_mod x 4
theorem sw3_dq {d q M : Nat} (hd : d ≤ 68) (hq : q % 16 ≤ 4) : sw3 (15 + 256 * M) (d + 256 * q) = sw3 15 d + 256 * sw3 M q := by
  unfold sw3
  have e : d + 256 * q + (d + 256 * q) / 16 = (d + d / 16 + 16 * (q % 16)) + 256 * (q + q / 16) := by omega
  rw [e, and_dq (by omega) (by decide), and15, and15]
  omega
def swb (d : Nat) : Nat := sw2 51 (sw1 85 d)
def pcb (d : Nat) : Nat := (if d.testBit 0 = true then 1 else 0) + ((if d.testBit 1 = true then 1 else 0) + ((if d.testBit 2 = true then 1 else 0) + ((if d.testBit 3 = true then 1 else 0) + ((if d.testBit 4 = true then 1 else 0) + ((if d.testBit 5 = true then 1 else 0) + ((if d.testBit 6 = true then 1 else 0) + (if d.testBit 7 = true then 1 else 0)))))))
theorem swb_ok : ∀ d, d < 256 → sw1 85 d < 256 ∧ swb d ≤ 68 ∧ swb d % 16 ≤ 4 ∧ sw3 15 (swb d) = pcb d ∧ pcb d ≤ 8 := by decide +kernel
/-- n bytes: masks, words -/
def mk (m : Nat) : Nat → Nat
  | 0 => 0
  | n + 1 => m + 256 * mk m n
def wb (f : Nat → Nat) : Nat → Nat → Nat
  | 0, _ => 0
  | n + 1, i => f i + 256 * wb f n (i + 1)
theorem wb_sw (f : Nat → Nat) (hf : ∀ i, f i < 256) : ∀ n i, sw2 (mk 51 n) (sw1 (mk 85 n) (wb f n i)) = wb (fun j => swb (f j)) n i ∧ sw3 (mk 15 n) (wb (fun j => swb (f j)) n i) = wb (fun j => pcb (f j)) n i := by
  intro n
  induction n with
  | zero =>
    intro i
    constructor
    · show sw2 0 (sw1 0 0) = 0
      decide
    · show sw3 0 0 = 0
      decide
  | succ n ih =>
    intro i
    obtain ⟨h1, h2⟩ := ih (i + 1)
    obtain ⟨b1, b2, b3, b4, -⟩ := swb_ok (f i) (hf i)
    constructor
    · show sw2 (51 + 256 * mk 51 n) (sw1 (85 + 256 * mk 85 n) (f i + 256 * wb f n (i + 1))) = swb (f i) + 256 * wb (fun j => swb (f j)) n (i + 1)
      rw [sw1_dq (hf i), sw2_dq b1, h1]
      rfl
    · show sw3 (15 + 256 * mk 15 n) (swb (f i) + 256 * wb (fun j => swb (f j)) n (i + 1)) = pcb (f i) + 256 * wb (fun j => pcb (f j)) n (i + 1)
      have hq : wb (fun j => swb (f j)) n (i + 1) % 16 ≤ 4 := by
        cases n with
        | zero =>
          show 0 % 16 ≤ 4
          decide
        | succ n =>
          have b3 := (swb_ok (f (i + 1)) (hf (i + 1))).2.2.1
          show (swb (f (i + 1)) + 256 * wb (fun j => swb (f j)) n (i + 1 + 1)) % 16 ≤ 4
          omega
      rw [sw3_dq b2 hq, h2, b4]
def byt (x i : Nat) : Nat := x / 256 ^ i % 256
theorem wb_byt' {x : Nat} : ∀ n i, x / 256 ^ i < 256 ^ n → wb (byt x) n i = x / 256 ^ i
  | 0, i, h => by
    exact (Nat.lt_one_iff.mp h).symm
  | n + 1, i, h => by
    have e : x / 256 ^ (i + 1) = x / 256 ^ i / 256 := by rw [Nat.pow_succ, Nat.div_div_eq_div_mul]
    have h2 : x / 256 ^ (i + 1) < 256 ^ n := by
      rw [e, Nat.div_lt_iff_lt_mul (by decide)]
      rw [Nat.pow_succ] at h
      exact h
    show byt x i + 256 * wb (byt x) n (i + 1) = _
    rw [wb_byt' n (i + 1) h2, e]
    unfold byt
    omega
theorem wb_byt {x : Nat} (hx : x < 2 ^ 64) : wb (byt x) 8 0 = x := by
  have := wb_byt' (x := x) 8 0 (by rw [Nat.pow_zero, Nat.div_one]; exact hx)
  rw [Nat.pow_zero, Nat.div_one] at this
  exact this
theorem tb_byt (x i j : Nat) (hj : j < 8) : (byt x i).testBit j = x.testBit (8 * i + j) := by
  unfold byt
  rw [show (256 : Nat) ^ i = 2 ^ (8 * i) by rw [Nat.pow_mul], show (256 : Nat) = 2 ^ 8 from rfl, Nat.testBit_mod_two_pow, Nat.testBit_div_two_pow, decide_eq_true hj, Bool.true_and, Nat.add_comm]
theorem cntb_8 (K : Int64) (i : Nat) : cntb K (8 * i + 8) = cntb K (8 * i) + pcb (byt (nn K) i) := by
  have e : ∀ j, j < 8 → bl K (8 * i + j) = (byt (nn K) i).testBit j := fun j hj => (tb_byt (nn K) i j hj).symm
  unfold pcb
  rw [← e 0 (by decide), ← e 1 (by decide), ← e 2 (by decide), ← e 3 (by decide), ← e 4 (by decide), ← e 5 (by decide), ← e 6 (by decide), ← e 7 (by decide)]
  simp only [cntb, Nat.add_zero]
  omega
theorem popc_eq (K : Int64) : popc K = pcb (byt (nn K) 0) + (pcb (byt (nn K) 1) + (pcb (byt (nn K) 2) + (pcb (byt (nn K) 3) + (pcb (byt (nn K) 4) + (pcb (byt (nn K) 5) + (pcb (byt (nn K) 6) + pcb (byt (nn K) 7))))))) := by
  have h0 := cntb_8 K 0
  have h1 := cntb_8 K 1
  have h2 := cntb_8 K 2
  have h3 := cntb_8 K 3
  have h4 := cntb_8 K 4
  have h5 := cntb_8 K 5
  have h6 := cntb_8 K 6
  have h7 := cntb_8 K 7
  have hz : cntb K (8 * 0) = 0 := rfl
  unfold popc
  have h0 : cntb K 8 = cntb K (8 * 0) + pcb (byt (nn K) 0) := h0
  have h1 : cntb K 16 = cntb K 8 + pcb (byt (nn K) 1) := h1
  have h2 : cntb K 24 = cntb K 16 + pcb (byt (nn K) 2) := h2
  have h3 : cntb K 32 = cntb K 24 + pcb (byt (nn K) 3) := h3
  have h4 : cntb K 40 = cntb K 32 + pcb (byt (nn K) 4) := h4
  have h5 : cntb K 48 = cntb K 40 + pcb (byt (nn K) 5) := h5
  have h6 : cntb K 56 = cntb K 48 + pcb (byt (nn K) 6) := h6
  have h7 : cntb K 64 = cntb K 56 + pcb (byt (nn K) 7) := h7
  omega
theorem dv_q {d B X : Nat} (hd : d < B) : (d + B * X) / B = X := by
  rw [Nat.add_mul_div_left _ _ (by omega), Nat.div_eq_of_lt hd, Nat.zero_add]
theorem ho2 (d0 d1 d2 X2 X3 : Nat) : d0 + 256 * (d1 + 256 * X2) + (d1 + 256 * (d2 + 256 * X3)) = (d0 + 256 * d1 + (d1 + 256 * d2)) + 65536 * (X2 + X3) := by omega
theorem ho4 (d0 d1 d2 d3 X : Nat) : d0 + 256 * (d1 + 256 * (d2 + 256 * (d3 + 256 * X))) = (d0 + 256 * (d1 + 256 * (d2 + 256 * d3))) + 4294967296 * X := by omega
theorem hk4 {d0 d1 d2 d3 : Nat} (q0 : d0 ≤ 8) (q1 : d1 ≤ 8) (q2 : d2 ≤ 8) (q3 : d3 ≤ 8) : d0 + 256 * (d1 + 256 * (d2 + 256 * d3)) < 1073741824 := by omega
theorem hs4 (p0 p1 p2 p3 X4 X5 X6 X7 : Nat) : p0 + 4294967296 * X4 + (p1 + 4294967296 * X5) + (p2 + 4294967296 * X6 + (p3 + 4294967296 * X7)) = (p0 + p1 + (p2 + p3)) + 4294967296 * (X4 + X5 + (X6 + X7)) := by omega
theorem hb1 {d X B : Nat} (q : d ≤ 8) (h : X ≤ B) (hB : 1 ≤ B) : d + 256 * X ≤ 265 * B := by omega
theorem hm8 {d X : Nat} (q : d ≤ 8) : (d + 256 * X) % 128 = d := by omega
theorem hsum {Y X1 X2 X3 X4 X5 X6 X7 d0 d1 d2 d3 d4 d5 d6 d7 : Nat} (t0 : Y % 128 = d0) (t1 : X1 % 128 = d1) (t2 : X2 % 128 = d2) (t3 : X3 % 128 = d3) (t4 : X4 % 128 = d4) (t5 : X5 % 128 = d5) (t6 : X6 % 128 = d6) (t7 : X7 % 128 = d7) (q0 : d0 ≤ 8) (q1 : d1 ≤ 8) (q2 : d2 ≤ 8) (q3 : d3 ≤ 8) (q4 : d4 ≤ 8) (q5 : d5 ≤ 8) (q6 : d6 ≤ 8) (q7 : d7 ≤ 8) : (Y + X1 + (X2 + X3) + (X4 + X5 + (X6 + X7))) % 128 = d0 + (d1 + (d2 + (d3 + (d4 + (d5 + (d6 + d7)))))) := by omega
theorem sh_add {y : Int64} {k : Int32} {m X B : Nat} (hk : (k.toInt64.toUInt64 &&& Int64.toUInt64 63).toNat % 64 = m) (hv : nn y / 2 ^ m = X) (h1 : nn y ≤ B) (h2 : X ≤ B) (hB : B + B < 2 ^ 64) : nn (y + us6 y k) = nn y + X := by
  have h3 : nn (us6 y k) = X := (us6_n y k m hk).trans hv
  rw [nn_add, h3]
  rw [h3]
  omega
theorem bc_end (g : Nat → Nat) (hg : ∀ i, g i ≤ 8) (y : Int64) (e3 : nn y = wb g 8 0) : (bc6 (bc5 (bc4 y))).toInt32 &&& 127 = nI (g 0 + (g 1 + (g 2 + (g 3 + (g 4 + (g 5 + (g 6 + g 7))))))) := by
  obtain ⟨X1, hX1⟩ : ∃ X, X = wb g 7 1 := ⟨_, rfl⟩
  obtain ⟨X2, hX2⟩ : ∃ X, X = wb g 6 2 := ⟨_, rfl⟩
  obtain ⟨X3, hX3⟩ : ∃ X, X = wb g 5 3 := ⟨_, rfl⟩
  obtain ⟨X4, hX4⟩ : ∃ X, X = wb g 4 4 := ⟨_, rfl⟩
  obtain ⟨X5, hX5⟩ : ∃ X, X = wb g 3 5 := ⟨_, rfl⟩
  obtain ⟨X6, hX6⟩ : ∃ X, X = wb g 2 6 := ⟨_, rfl⟩
  obtain ⟨X7, hX7⟩ : ∃ X, X = wb g 1 7 := ⟨_, rfl⟩
  have r0 : nn y = g 0 + 256 * X1 := by rw [e3, hX1]; rfl
  have r1 : X1 = g 1 + 256 * X2 := by rw [hX1, hX2]; rfl
  have r2 : X2 = g 2 + 256 * X3 := by rw [hX2, hX3]; rfl
  have r3 : X3 = g 3 + 256 * X4 := by rw [hX3, hX4]; rfl
  have r4 : X4 = g 4 + 256 * X5 := by rw [hX4, hX5]; rfl
  have r5 : X5 = g 5 + 256 * X6 := by rw [hX5, hX6]; rfl
  have r6 : X6 = g 6 + 256 * X7 := by rw [hX6, hX7]; rfl
  have r7 : X7 = g 7 := by rw [hX7]; show g 7 + 256 * 0 = g 7; rfl
  have q0 := hg 0
  have q1 := hg 1
  have q2 := hg 2
  have q3 := hg 3
  have q4 := hg 4
  have q5 := hg 5
  have q6 := hg 6
  have q7 := hg 7
  clear hX1 hX2 hX3 hX4 hX5 hX6 hX7 e3 hg
  generalize g 0 = d0 at *
  generalize g 1 = d1 at *
  generalize g 2 = d2 at *
  generalize g 3 = d3 at *
  generalize g 4 = d4 at *
  generalize g 5 = d5 at *
  generalize g 6 = d6 at *
  generalize g 7 = d7 at *
  have t0 : nn y % 128 = d0 := by rw [r0]; exact hm8 q0
  have t1 : X1 % 128 = d1 := by rw [r1]; exact hm8 q1
  have t2 : X2 % 128 = d2 := by rw [r2]; exact hm8 q2
  have t3 : X3 % 128 = d3 := by rw [r3]; exact hm8 q3
  have t4 : X4 % 128 = d4 := by rw [r4]; exact hm8 q4
  have t5 : X5 % 128 = d5 := by rw [r5]; exact hm8 q5
  have t6 : X6 % 128 = d6 := by rw [r6]; exact hm8 q6
  have t7 : X7 % 128 = d7 := by rw [r7]; exact Nat.mod_eq_of_lt (Nat.lt_of_le_of_lt q7 (by decide))
  have b7 : X7 ≤ 8 := by rw [r7]; exact q7
  have b6 : X6 ≤ 265 * 8 := by rw [r6]; exact hb1 q6 b7 (by decide)
  have b5 : X5 ≤ 265 * (265 * 8) := by rw [r5]; exact hb1 q5 b6 (by decide)
  have b4 : X4 ≤ 265 * (265 * (265 * 8)) := by rw [r4]; exact hb1 q4 b5 (by decide)
  have b3 : X3 ≤ 265 * (265 * (265 * (265 * 8))) := by rw [r3]; exact hb1 q3 b4 (by decide)
  have b2 : X2 ≤ 265 * (265 * (265 * (265 * (265 * 8)))) := by rw [r2]; exact hb1 q2 b3 (by decide)
  have b1 : X1 ≤ 265 * (265 * (265 * (265 * (265 * (265 * 8))))) := by rw [r1]; exact hb1 q1 b2 (by decide)
  have b0 : nn y ≤ 265 * (265 * (265 * (265 * (265 * (265 * (265 * 8)))))) := by rw [r0]; exact hb1 q0 b1 (by decide)
  have v1 : nn y / 2 ^ 8 = X1 := by rw [r0]; exact dv_q (B := 256) (Nat.lt_of_le_of_lt q0 (by decide))
  have s4 : nn (bc4 y) = nn y + X1 := sh_add (k := 8) (B := 265 * (265 * (265 * (265 * (265 * (265 * (265 * 8))))))) (by decide +kernel) v1 b0 (Nat.le_trans b1 (by decide)) (by decide)
  have c4 : nn (bc4 y) ≤ 2 * (265 * (265 * (265 * (265 * (265 * (265 * (265 * 8))))))) := by rw [s4]; omega
  generalize bc4 y = y4 at *
  have v2 : nn y4 / 2 ^ 16 = X2 + X3 := by
    have : nn y4 = (d0 + 256 * d1 + (d1 + 256 * d2)) + 65536 * (X2 + X3) := by
      rw [← ho2, s4, r0, r1, r2]
    rw [this]
    exact dv_q (B := 65536) (by clear t0 t1 t2 t3 t4 t5 t6 t7 b0 b1 b2 b3 b4 b5 b6 b7 r0 r1 r2 r3 r4 r5 r6 r7 v1 s4 c4 this; omega)
  have s5 : nn (bc5 y4) = nn y4 + (X2 + X3) := sh_add (k := 16) (B := 2 * (265 * (265 * (265 * (265 * (265 * (265 * (265 * 8)))))))) (by decide +kernel) v2 c4 (by clear t0 t1 t2 t3 t4 t5 t6 t7 r0 r1 r2 r3 r4 r5 r6 r7 v1 v2 s4; omega) (by decide)
  have c5 : nn (bc5 y4) ≤ 3 * (265 * (265 * (265 * (265 * (265 * (265 * (265 * 8))))))) := by rw [s5]; clear t0 t1 t2 t3 t4 t5 t6 t7 r0 r1 r2 r3 r4 r5 r6 r7 v1 v2 s4 s5; omega
  generalize bc5 y4 = y5 at *
  have v3 : nn y5 / 2 ^ 32 = X4 + X5 + (X6 + X7) := by
    have l0 := ho4 d0 d1 d2 d3 X4
    have l1 := ho4 d1 d2 d3 d4 X5
    have l2 := ho4 d2 d3 d4 d5 X6
    have l3 := ho4 d3 d4 d5 d6 X7
    rw [← r3, ← r2, ← r1, ← r0] at l0
    rw [← r4, ← r3, ← r2, ← r1] at l1
    rw [← r5, ← r4, ← r3, ← r2] at l2
    rw [← r6, ← r5, ← r4, ← r3] at l3
    have k0 := hk4 q0 q1 q2 q3
    have k1 := hk4 q1 q2 q3 q4
    have k2 := hk4 q2 q3 q4 q5
    have k3 := hk4 q3 q4 q5 q6
    have : nn y5 = (d0 + 256 * (d1 + 256 * (d2 + 256 * d3)) + (d1 + 256 * (d2 + 256 * (d3 + 256 * d4))) + (d2 + 256 * (d3 + 256 * (d4 + 256 * d5)) + (d3 + 256 * (d4 + 256 * (d5 + 256 * d6))))) + 4294967296 * (X4 + X5 + (X6 + X7)) := by
      rw [← hs4, ← l0, ← l1, ← l2, ← l3, s5, s4]
    rw [this]
    generalize d0 + 256 * (d1 + 256 * (d2 + 256 * d3)) = p0 at *
    generalize d1 + 256 * (d2 + 256 * (d3 + 256 * d4)) = p1 at *
    generalize d2 + 256 * (d3 + 256 * (d4 + 256 * d5)) = p2 at *
    generalize d3 + 256 * (d4 + 256 * (d5 + 256 * d6)) = p3 at *
    exact dv_q (B := 4294967296) (by clear t0 t1 t2 t3 t4 t5 t6 t7 b0 b1 b2 b3 b4 b5 b6 b7 r0 r1 r2 r3 r4 r5 r6 r7 v1 v2 s4 s5 c4 c5 this l0 l1 l2 l3; omega)
  have s6 : nn (bc6 y5) = nn y5 + (X4 + X5 + (X6 + X7)) := sh_add (k := 32) (B := 3 * (265 * (265 * (265 * (265 * (265 * (265 * (265 * 8)))))))) (by decide +kernel) v3 c5 (by clear t0 t1 t2 t3 t4 t5 t6 t7 r0 r1 r2 r3 r4 r5 r6 r7 v1 v2 v3 s4 s5; omega) (by decide)
  generalize bc6 y5 = y6 at *
  have hm : nn y6 % 128 = d0 + (d1 + (d2 + (d3 + (d4 + (d5 + (d6 + d7)))))) := by
    rw [s6, s5, s4]
    exact hsum t0 t1 t2 t3 t4 t5 t6 t7 q0 q1 q2 q3 q4 q5 q6 q7
  rw [pk_and y6.toInt32 7 (by decide +kernel)]
  congr 1
  have h9 : y6.toInt32.toBitVec.toNat = nn y6 % 2 ^ 32 := by
    show (y6.toBitVec.signExtend 32).toNat = _
    rw [BitVec.signExtend_eq_setWidth_of_le _ (by decide), BitVec.toNat_setWidth]
    rfl
  rw [h9, ← hm]
  exact Nat.mod_mod_of_dvd _ (by decide)
theorem bc_ok (K : Int64) : bcE K = nI (popc K) := by
  have hb : ∀ i, byt (nn K) i < 256 := fun i => Nat.mod_lt _ (by decide)
  have w := wb_sw (byt (nn K)) hb 8 0
  rw [wb_byt (nn_lt K)] at w
  have m1 : nn 6148914691236517205 = mk 85 8 := by decide +kernel
  have m2 : nn 3689348814741910323 = mk 51 8 := by decide +kernel
  have m3 : nn 1085102592571150095 = mk 15 8 := by decide +kernel
  have c1 : nn (bc1 K) = sw1 (mk 85 8) (nn K) := by
    have hs : nn (us6 K 1 &&& 6148914691236517205) = nn K / 2 &&& mk 85 8 := by
      rw [nn_and, us6_n K 1 1 (by decide +kernel), m1]
    unfold bc1 sw1
    rw [nn_sub, hs]
    rw [hs]
    have : nn K / 2 &&& mk 85 8 ≤ nn K / 2 := Nat.and_le_left
    omega
  have c2 : ∀ x, nn (bc2 x) = sw2 (mk 51 8) (nn x) := fun x => by
    have h1 : nn (x &&& 3689348814741910323) = nn x &&& mk 51 8 := by rw [nn_and, m2]
    have h2 : nn (us6 x 2 &&& 3689348814741910323) = nn x / 4 &&& mk 51 8 := by
      rw [nn_and, us6_n x 2 2 (by decide +kernel), m2]
    have l1 : nn x &&& mk 51 8 ≤ mk 51 8 := Nat.and_le_right
    have l2 : nn x / 4 &&& mk 51 8 ≤ mk 51 8 := Nat.and_le_right
    have l3 : mk 51 8 = 3689348814741910323 := by decide +kernel
    unfold bc2 sw2
    rw [nn_add, h1, h2]
    rw [h1, h2]
    omega
  have e2 : nn (bc2 (bc1 K)) = wb (fun j => swb (byt (nn K) j)) 8 0 := by
    rw [c2, c1]
    exact w.1
  have p : ∀ i, swb (byt (nn K) i) ≤ 68 := fun i => (swb_ok _ (hb i)).2.1
  have p8 : ∀ i, pcb (byt (nn K) i) ≤ 8 := fun i => (swb_ok _ (hb i)).2.2.2.2
  have e3 : nn (bc3 (bc2 (bc1 K))) = wb (fun j => pcb (byt (nn K) j)) 8 0 := by
    have hlt : nn (bc2 (bc1 K)) < 2 ^ 63 := by
      rw [c2]
      unfold sw2
      have l1 : nn (bc1 K) &&& mk 51 8 ≤ mk 51 8 := Nat.and_le_right
      have l2 : nn (bc1 K) / 4 &&& mk 51 8 ≤ mk 51 8 := Nat.and_le_right
      have l3 : mk 51 8 = 3689348814741910323 := by decide +kernel
      omega
    generalize bc2 (bc1 K) = y at *
    have h1 : nn (y + us6 y 4) = nn y + nn y / 16 := by
      have h2 : nn (us6 y 4) = nn y / 16 := us6_n y 4 4 (by decide +kernel)
      rw [nn_add, h2]
      rw [h2]
      omega
    unfold bc3
    rw [nn_and, h1, m3, e2]
    exact w.2
  rw [popc_eq]
  unfold bcE
  generalize bc3 (bc2 (bc1 K)) = y at e3 ⊢
  clear e2 c2 c1 m1 m2 m3 w p
  exact bc_end _ (fun i => p8 i) y e3
