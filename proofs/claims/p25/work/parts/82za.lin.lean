/-! THE CODE IS LINEAR -/
theorem bfl_x {l : Nat} {f g : Nat → Bool} : bfl l (fun i => f i ^^ g i) = fun i => bfl l f i ^^ bfl l g i := by
  funext i
  unfold bfl
  split
  · rfl
  · show ((f i ^^ g i) ^^ (f (i + 2 ^ l) ^^ g (i + 2 ^ l))) = ((f i ^^ f (i + 2 ^ l)) ^^ (g i ^^ g (i + 2 ^ l)))
    cases f i <;> cases g i <;> cases f (i + 2 ^ l) <;> cases g (i + 2 ^ l) <;> rfl
theorem bfN_x : ∀ (n l : Nat) (f g : Nat → Bool) (i : Nat), bfN l n (fun i => f i ^^ g i) i = (bfN l n f i ^^ bfN l n g i)
  | 0, _, _, _, _ => rfl
  | n + 1, l, f, g, i => by
    rw [bfN, bfN, bfN, bfl_x]
    exact bfN_x n (l + 1) _ _ i
def rbv (r : Int32) (j : Nat) : Bool := r.toBitVec.getLsbD j
theorem rbv_x (r s : Int32) (j : Nat) : rbv (r ^^^ s) j = (rbv r j ^^ rbv s j) := by
  unfold rbv
  rw [Int32.toBitVec_xor, BitVec.getLsbD_xor]
theorem rbv_and (r s : Int32) (j : Nat) : rbv (r &&& s) j = (rbv r j && rbv s j) := by
  unfold rbv
  rw [Int32.toBitVec_and, BitVec.getLsbD_and]
theorem rbv_ext {x y : Int32} (h : ∀ i, i < 32 → rbv x i = rbv y i) : x = y := by
  apply Int32.toBitVec_inj.mp
  exact BitVec.eq_of_getLsbD_eq (fun i hi => h i hi)
theorem rb_a : ∀ j, j < 16 → ((nI j &&& 31).toBitVec.smod 32).toNat = j := by decide
theorem rbv_sh (r : Int32) {j : Nat} (hj : j < 16) : rbv (r >>> (nI j &&& 31)) 0 = rbv r j := by
  unfold rbv
  rw [Int32.toBitVec_shiftRight]
  show (r.toBitVec.sshiftRight ((nI j &&& 31).toBitVec.smod 32).toNat).getLsbD 0 = _
  rw [rb_a j hj, BitVec.getLsbD_sshiftRight]
  simp [show j < 32 by omega]
theorem rb_v (r : Int32) {j : Nat} (hj : j < 16) : rb r j = rbv r j := by
  have h0 : rbv ((r >>> (nI j &&& 31)) &&& 1) 0 = rbv r j := by
    rw [rbv_and, rbv_sh r hj, show rbv 1 0 = true from rfl, Bool.and_true]
  cases hb : rb r j
  · rw [rb_0 hb] at h0
    exact h0
  · rw [rb_1 hb] at h0
    exact h0
theorem rbv_2 (r : Int32) {i : Nat} (hi : i < 32) : rbv (2 * r) i = (decide (1 ≤ i) && rbv r (i - 1)) := by
  unfold rbv
  rw [Int32.toBitVec_mul]
  show ((2#32 * r.toBitVec)).toNat.testBit i = _
  rw [BitVec.toNat_mul, Nat.testBit_mod_two_pow, decide_eq_true hi, Bool.true_and]
  show ((2 * r.toBitVec.toNat)).testBit i = _
  cases i with
  | zero =>
    rw [decide_eq_false (by decide), Bool.false_and, Nat.testBit_zero]
    exact decide_eq_false (by omega)
  | succ i =>
    rw [Nat.testBit_succ, Nat.mul_div_cancel_left _ (by decide), decide_eq_true (by omega), Bool.true_and, Nat.add_sub_cancel]
    rfl
def ckM (c : Nat) : Int32 := (1 : Int32) <<< (nI c &&& 31) - 1
theorem sh_x (c : Nat) (r s : Int32) : (2 * (r ^^^ s)) &&& ckM c = ((2 * r) &&& ckM c) ^^^ ((2 * s) &&& ckM c) := rbv_ext (fun i hi => by
    rw [rbv_and, rbv_x, rbv_and, rbv_and, rbv_2 _ hi, rbv_2 _ hi, rbv_2 _ hi, rbv_x]
    cases decide (1 ≤ i) <;> cases rbv r (i - 1) <;> cases rbv s (i - 1) <;> cases rbv (ckM c) i <;> rfl)
theorem ckst_e {c : Nat} {po : Int32} {b : Bool} {r : Int32} (h1 : 1 ≤ c) (h8 : c ≤ 8) : ckst c po b r = ((2 * r) &&& ckM c) ^^^ (if (rbv r (c - 1) ^^ b) = true then po &&& ckM c else 0) := by
  have e : nI c - 1 = nI (c - 1) := by
    obtain ⟨d, rfl⟩ : ∃ d, c = d + 1 := ⟨c - 1, by omega⟩
    exact nI_pred d
  have x0 : ∀ y : Int32, y ^^^ 0 = y := fun y => rbv_ext (fun i hi => by rw [rbv_x, show rbv 0 i = false from by unfold rbv; exact BitVec.getLsbD_zero, Bool.xor_false])
  unfold ckst
  rw [e]
  have hv := rb_v r (j := c - 1) (by omega)
  rw [← hv]
  show (if (r >>> (nI (c - 1) &&& 31)) &&& 1 = b01 b then (2 * r) &&& ckM c else ((2 * r) &&& ckM c) ^^^ (po &&& ckM c)) = _
  cases hb : rb r (c - 1)
  · rw [rb_0 hb]
    cases b
    · rw [if_pos (by decide), if_neg (by decide), x0]
    · rw [if_neg (by decide), if_pos (by decide)]
  · rw [rb_1 hb]
    cases b
    · rw [if_neg (by decide), if_pos (by decide)]
    · rw [if_pos (by decide), if_neg (by decide), x0]
theorem ckst_x {c : Nat} {po : Int32} {a b : Bool} {r s : Int32} (h1 : 1 ≤ c) (h8 : c ≤ 8) : ckst c po (a ^^ b) (r ^^^ s) = ckst c po a r ^^^ ckst c po b s := by
  rw [ckst_e h1 h8, ckst_e h1 h8, ckst_e h1 h8, sh_x, rbv_x]
  generalize (2 * r) &&& ckM c = x
  generalize (2 * s) &&& ckM c = y
  generalize po &&& ckM c = z
  refine rbv_ext (fun i hi => ?_)
  have z0 : rbv 0 i = false := by unfold rbv; exact BitVec.getLsbD_zero
  cases rbv r (c - 1) <;> cases rbv s (c - 1) <;> cases a <;> cases b <;> simp [rbv_x, z0] <;> cases rbv x i <;> cases rbv y i <;> cases rbv z i <;> rfl
theorem ckN_x {c : Nat} {po : Int32} {v w : Int64} (h1 : 1 ≤ c) (h8 : c ≤ 8) : ∀ (n i : Nat) (r s : Int32), ckN c po (v ^^^ w) n i (r ^^^ s) = ckN c po v n i r ^^^ ckN c po w n i s
  | 0, _, _, _ => rfl
  | n + 1, i, r, s => by
    rw [ckN, ckN, ckN, bl_xor, ckst_x h1 h8]
    exact ckN_x h1 h8 n (i + 1) _ _
theorem ckS_x {k c : Nat} {po : Int32} {v w : Int64} (h8 : c ≤ 8) : ckS k c po (v ^^^ w) = ckS k c po v ^^^ ckS k c po w := by
  unfold ckS
  by_cases h : c = 0
  · rw [if_pos h, if_pos h, if_pos h]
    rfl
  · rw [if_neg h, if_neg h, if_neg h]
    exact ckN_x (by omega) h8 k 0 0 0
theorem mbit_x {k c : Nat} {v w : Int64} {r s : Int32} (h8 : c ≤ 8) (b : Nat) : mbit k c (v ^^^ w) (r ^^^ s) b = (mbit k c v r b ^^ mbit k c w s b) := by
  unfold mbit
  split
  · exact bl_xor v w b
  · split
    · rw [rb_v _ (by omega), rb_v _ (by omega), rb_v _ (by omega), rbv_x]
    · rfl
theorem enW_x {m N k c : Nat} {K v w : Int64} {po : Int32} (h8 : c ≤ 8) : enW m N k c K (v ^^^ w) po = enW m N k c K v po ^^^ enW m N k c K w po := bl_ext (fun i hi => by
    unfold enW
    rw [bl_xor, mkW_bl 64 (Nat.le_refl _) i hi, mkW_bl 64 (Nat.le_refl _) i hi, mkW_bl 64 (Nat.le_refl _) i hi, decide_eq_true hi, Bool.true_and, Bool.true_and, Bool.true_and, ← bfN_x]
    congr 1
    funext j
    rw [ckS_x h8, mbit_x h8]
    cases decide (j < N) <;> cases bl K j <;> simp)
theorem enW_0 {m N k c : Nat} {K : Int64} {po : Int32} (h8 : c ≤ 8) : enW m N k c K 0 po = 0 := by
  have h := enW_x (m := m) (N := N) (k := k) (K := K) (v := 0) (w := 0) (po := po) h8
  rw [show (0 : Int64) ^^^ 0 = 0 from rfl] at h
  rw [h]
  refine bl_ext (fun i hi => ?_)
  rw [bl_xor, bl_0 i hi, Bool.xor_self]
/-! Gray's order -/
def gry (i : Nat) : Nat := i ^^^ (i >>> 1)
def ugr (v : Nat) : Nat := v ^^^ (v >>> 1) ^^^ (v >>> 2) ^^^ (v >>> 3) ^^^ (v >>> 4) ^^^ (v >>> 5) ^^^ (v >>> 6) ^^^ (v >>> 7) ^^^ (v >>> 8) ^^^ (v >>> 9) ^^^ (v >>> 10) ^^^ (v >>> 11)
def tzM (i : Nat) : Nat := if i.testBit 0 = true then 0 else if i.testBit 1 = true then 1 else if i.testBit 2 = true then 2 else if i.testBit 3 = true then 3 else if i.testBit 4 = true then 4 else if i.testBit 5 = true then 5 else if i.testBit 6 = true then 6 else if i.testBit 7 = true then 7 else if i.testBit 8 = true then 8 else if i.testBit 9 = true then 9 else if i.testBit 10 = true then 10 else 11
def gck (i : Nat) : Bool := decide (gry (ugr i) = i) && (decide (ugr (gry i) = i) && (decide (nI i ^^^ nI i >>> (1 &&& 31) = nI (gry i)) && (decide (i = 0) || (decide (nzf (nI i) = nI (tzM i)) && (decide (gry i = gry (i - 1) ^^^ 2 ^ tzM i) && decide (tzM i < 12))))))
theorem gck_ok : (List.range 4096).all gck = true := by decide +kernel
theorem gry_f {i : Nat} (hi : i < 4096) : gry (ugr i) = i ∧ ugr (gry i) = i ∧ nI i ^^^ nI i >>> (1 &&& 31) = nI (gry i) ∧ (1 ≤ i → nzf (nI i) = nI (tzM i) ∧ gry i = gry (i - 1) ^^^ 2 ^ tzM i ∧ tzM i < 12) := by
  have h := List.all_eq_true.mp gck_ok i (List.mem_range.mpr hi)
  unfold gck at h
  simp only [Bool.and_eq_true, Bool.or_eq_true, decide_eq_true_eq] at h
  obtain ⟨h1, h2, h3, h4⟩ := h
  exact ⟨h1, h2, h3, fun z => (h4.resolve_left (by omega))⟩
theorem xor_lt {a b k : Nat} (ha : a < 2 ^ k) (hb : b < 2 ^ k) : a ^^^ b < 2 ^ k := Nat.xor_lt_two_pow ha hb
theorem shr_lt {a k : Nat} (s : Nat) (ha : a < 2 ^ k) : a >>> s < 2 ^ k := Nat.lt_of_le_of_lt (by rw [Nat.shiftRight_eq_div_pow]; exact Nat.div_le_self _ _) ha
theorem gry_lt {i k : Nat} (h : i < 2 ^ k) : gry i < 2 ^ k := xor_lt h (shr_lt 1 h)
theorem ugr_lt {i k : Nat} (h : i < 2 ^ k) : ugr i < 2 ^ k := xor_lt (xor_lt (xor_lt (xor_lt (xor_lt (xor_lt (xor_lt (xor_lt (xor_lt (xor_lt (xor_lt h (shr_lt 1 h)) (shr_lt 2 h)) (shr_lt 3 h)) (shr_lt 4 h)) (shr_lt 5 h)) (shr_lt 6 h)) (shr_lt 7 h)) (shr_lt 8 h)) (shr_lt 9 h)) (shr_lt 10 h)) (shr_lt 11 h)
/-- a message as a number -/
theorem nIl_bl {a i : Nat} (ha : a < 2 ^ 31) (hi : i < 64) : bl (nI a).toInt64 i = a.testBit i := by
  rw [nI_l ha]
  unfold bl lN
  show (BitVec.ofNat 64 a).getLsbD i = _
  rw [BitVec.getLsbD_ofNat, decide_eq_true hi, Bool.true_and]
theorem nIl_x {a b : Nat} (ha : a < 2 ^ 31) (hb : b < 2 ^ 31) : (nI (a ^^^ b)).toInt64 = (nI a).toInt64 ^^^ (nI b).toInt64 := bl_ext (fun i hi => by
    rw [bl_xor, nIl_bl (xor_lt ha hb) hi, nIl_bl ha hi, nIl_bl hb hi, Nat.testBit_xor])
theorem nIl_p : ∀ t, t < 12 → (nI (2 ^ t)).toInt64 = bitAt t := by decide +kernel
/-! counting along a bijection -/
def sm (f : Nat → Nat) : Nat → Nat
  | 0 => 0
  | n + 1 => sm f n + f n
theorem sm_cg {f g : Nat → Nat} : ∀ n, (∀ i, i < n → f i = g i) → sm f n = sm g n
  | 0, _ => rfl
  | n + 1, h => by rw [sm, sm, sm_cg n (fun i hi => h i (by omega)), h n (by omega)]
theorem sm_add {f g : Nat → Nat} : ∀ n, sm (fun i => f i + g i) n = sm f n + sm g n
  | 0 => rfl
  | n + 1 => by
    rw [sm, sm, sm, sm_add n]
    omega
theorem sm_0 : ∀ n, sm (fun _ => 0) n = 0
  | 0 => rfl
  | n + 1 => by rw [sm, sm_0 n]
theorem sm_swap {a : Nat → Nat → Nat} {p : Nat} : ∀ n, sm (fun i => sm (fun j => a i j) p) n = sm (fun j => sm (fun i => a i j) n) p
  | 0 => (sm_0 p).symm
  | n + 1 => by
    rw [sm, sm_swap n, ← sm_add]
    rfl
theorem sm_one {v : Nat} {x : Nat} : ∀ n, sm (fun i => if i = v then x else 0) n = if v < n then x else 0
  | 0 => by rw [if_neg (Nat.not_lt_zero v)]; rfl
  | n + 1 => by
    rw [sm, sm_one n]
    by_cases h : n = v
    · rw [if_pos h, if_neg (by omega), if_pos (by omega)]
      omega
    · rw [if_neg h]
      by_cases h2 : v < n
      · rw [if_pos h2, if_pos (by omega)]
        rfl
      · rw [if_neg h2, if_neg (by omega)]
theorem sm_bij {n : Nat} {g q : Nat → Nat} {f : Nat → Nat} (h1 : ∀ i, i < n → g i < n) (h2 : ∀ i, i < n → q i < n) (h3 : ∀ i, i < n → q (g i) = i) (h4 : ∀ i, i < n → g (q i) = i) : sm (fun i => f (g i)) n = sm f n := by
  have e1 : sm (fun i => f (g i)) n = sm (fun i => sm (fun v => if v = g i then f v else 0) n) n := sm_cg n (fun i hi => by
    have : sm (fun v => if v = g i then f v else 0) n = sm (fun v => if v = g i then f (g i) else 0) n := sm_cg n (fun v _ => by
      split
      · rename_i h
        rw [h]
      · rfl)
    rw [this, sm_one, if_pos (h1 i hi)])
  rw [e1, sm_swap]
  refine sm_cg n (fun v hv => ?_)
  have : sm (fun i => if v = g i then f v else 0) n = sm (fun i => if i = q v then f v else 0) n := sm_cg n (fun i hi => by
    by_cases h : v = g i
    · rw [if_pos h, if_pos (by rw [h, h3 i hi])]
    · rw [if_neg h, if_neg (fun z => h (by rw [z, h4 v hv]))])
  rw [this, sm_one, if_pos (h2 v hv)]
theorem sm_gry {k : Nat} (hk : k ≤ 12) (f : Nat → Nat) : sm (fun i => f (gry i)) (2 ^ k) = sm f (2 ^ k) := by
  have p := pw2_le hk
  exact sm_bij (fun i hi => gry_lt hi) (fun i hi => ugr_lt hi) (fun i hi => (gry_f (by omega)).2.1) (fun i hi => (gry_f (by omega)).1)
