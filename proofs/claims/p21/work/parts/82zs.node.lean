/-! reading over nodes -/
theorem tbm {q b : Nat} : (2 ^ (q + 1) * b).testBit q = false ∧ (2 ^ (q + 1) * b + 2 ^ q).testBit q = true ∧ (2 ^ (q + 1) * b + 2 ^ q) / 2 ^ (q + 1) = b ∧ (2 ^ (q + 1) * b) / 2 ^ (q + 1) = b := by
  have h := tb_add (t := 0) (a := 2 ^ (q + 1) * b) (l := q) ⟨b, rfl⟩
  have h2 := tb_add (t := 2 ^ q) (a := 2 ^ (q + 1) * b) (l := q) ⟨b, rfl⟩
  have h3 := tb_hi (t := 0) (q := q) (Nat.two_pow_pos q)
  rw [Nat.zero_add] at h h3
  rw [h3, Nat.add_comm] at h2
  have p := Nat.two_pow_pos (q + 1)
  have lt : 2 ^ q < 2 ^ (q + 1) := by
    rw [Nat.pow_succ]
    have := Nat.two_pow_pos q
    omega
  refine ⟨h.trans (Nat.zero_testBit q), h2, ?_, Nat.mul_div_cancel_left b p⟩
  rw [Nat.mul_add_div p, Nat.div_eq_of_lt lt, Nat.add_zero]
/-- what a right one is when nothing was put at its left -/
theorem nd_r0 {m q b j : Nat} {S : Nat → Int32} {u : Nat → Bool} (hq : q < m) (hu : ∀ t, t < 2 ^ q → u (2 ^ (q + 1) * b + t) = false) : ndL m S u (2 ^ (q + 1) * b + 2 ^ q) q j = ndL m S u (2 ^ (q + 1) * b) (q + 1) (j + 2 ^ q) + ndL m S u (2 ^ (q + 1) * b) (q + 1) j := by
  obtain ⟨t1, t2, t3, t4⟩ := tbm (q := q) (b := b)
  rw [ndL_s hq, t2, if_pos rfl, t3]
  have e : ndL m S u (2 ^ (q + 1) * b + 2 ^ q) (q + 1) = ndL m S u (2 ^ (q + 1) * b) (q + 1) := ndL_cg (m - (q + 1)) (q + 1) (by omega) (by rw [t3, t4]) (fun _ _ => rfl)
  have z : lfb u (b * 2 ^ (q + 1)) q j = false := by
    unfold lfb
    have : (fun t => decide (t < 2 ^ q) && u (b * 2 ^ (q + 1) + t)) = fun _ => false := by
      funext t
      by_cases h : t < 2 ^ q
      · rw [Nat.mul_comm b, hu t h, Bool.and_false]
      · rw [decide_eq_false h, Bool.false_and]
    rw [this]
    exact bfN_z q 0 j
  rw [e, z]
  rfl
theorem nd_l {m q b j : Nat} {S : Nat → Int32} {u : Nat → Bool} (hq : q < m) : ndL m S u (2 ^ (q + 1) * b) q j = lSm (ndL m S u (2 ^ (q + 1) * b) (q + 1) j) (ndL m S u (2 ^ (q + 1) * b) (q + 1) (j + 2 ^ q)) := by
  rw [ndL_s hq, (tbm (q := q) (b := b)).1, if_neg (by decide)]
/-- a node of which nothing is free -/
theorem rd_frz {K : Int64} {m most : Nat} {S : Nat → Int32} (hm : m ≤ 6) (hS : ∀ s, s < 64 → -127 ≤ (S s).toInt ∧ (S s).toInt ≤ 127) : ∀ (q b : Nat), q ≤ m → 2 ^ q * b + 2 ^ q ≤ 2 ^ m → (∀ t, t < 2 ^ q → bl K (2 ^ q * b + t) = false) → rdN K m S most (2 ^ q * b + 2 ^ q) = ((rdN K m S most (2 ^ q * b)).1, (rdN K m S most (2 ^ q * b)).2.1, fun p => (rdN K m S most (2 ^ q * b)).2.2 p + fsm (fun j => coS (ndL m S (bl ((rdN K m S most (2 ^ q * b)).2.1 p)) (2 ^ q * b) q j) false) (2 ^ q))
  | 0, b, _, _, hk => by
    show rdS (bl K (1 * b)) m S most (1 * b) (rdN K m S most (1 * b)) = _
    have := hk 0 (by decide)
    rw [show bl K (1 * b) = false from this]
    show ((rdN K m S most (1 * b)).1, (rdN K m S most (1 * b)).2.1, fun r => (rdN K m S most (1 * b)).2.2 r + coS (rsm m S (rdN K m S most (1 * b)) (1 * b) r) false) = _
    congr 2
    funext p
    show _ = _ + (0 + _)
    rw [Int32.zero_add]
    rfl
  | q + 1, b, hq, hc, hk => by
    have p6 := pw_6 m (by omega)
    have pq := Nat.two_pow_pos q
    have e2 : 2 ^ (q + 1) = 2 ^ q + 2 ^ q := by rw [Nat.pow_succ]; omega
    have e1 : 2 ^ q * (2 * b) = 2 ^ (q + 1) * b := by rw [Nat.pow_succ, Nat.mul_assoc]
    have e3 : 2 ^ q * (2 * b + 1) = 2 ^ (q + 1) * b + 2 ^ q := by rw [Nat.mul_add, e1, Nat.mul_one]
    have l := rd_frz (K := K) (most := most) hm hS q (2 * b) (by omega) (by rw [e1]; omega) (fun t ht => by rw [e1]; exact hk t (by omega))
    have r := rd_frz (K := K) (most := most) hm hS q (2 * b + 1) (by omega) (by rw [e3]; omega) (fun t ht => by rw [e3, Nat.add_assoc]; exact hk (2 ^ q + t) (by omega))
    rw [e1] at l
    rw [e3, l] at r
    rw [show 2 ^ (q + 1) * b + 2 ^ (q + 1) = 2 ^ (q + 1) * b + 2 ^ q + 2 ^ q by omega, r]
    congr 2
    funext p
    show (rdN K m S most (2 ^ (q + 1) * b)).2.2 p + fsm (fun j => coS (ndL m S (bl ((rdN K m S most (2 ^ (q + 1) * b)).2.1 p)) (2 ^ (q + 1) * b) q j) false) (2 ^ q) + fsm (fun j => coS (ndL m S (bl ((rdN K m S most (2 ^ (q + 1) * b)).2.1 p)) (2 ^ (q + 1) * b + 2 ^ q) q j) false) (2 ^ q) = _
    have hb := fun t (ht : t < 64) z => rd_B (K := K) (m := m) (S := S) (most := most) (2 ^ (q + 1) * b) (by omega) p t ht z
    generalize (rdN K m S most (2 ^ (q + 1) * b)).2.1 p = B at *
    generalize (rdN K m S most (2 ^ (q + 1) * b)).2.2 p = M at *
    rw [Int32.add_assoc, ← fsm_ad]
    rw [show fsm (fun j => coS (ndL m S (bl B) (2 ^ (q + 1) * b) (q + 1) j) false) (2 ^ (q + 1)) = fsm (fun j => coS (ndL m S (bl B) (2 ^ (q + 1) * b) (q + 1) j) false + coS (ndL m S (bl B) (2 ^ (q + 1) * b) (q + 1) (j + 2 ^ q)) false) (2 ^ q) by rw [e2, fsm_2, fsm_ad]]
    congr 1
    refine fsm_cg _ (fun j hj => ?_)
    rw [nd_l (by omega), nd_r0 (by omega) (fun t ht => by
      cases z : bl B (2 ^ (q + 1) * b + t)
      · rfl
      · have := (hb _ (by omega) z).1
        omega)]
    exact co_id (ndL_b0 hm hS hq (by omega)) (ndL_b0 hm hS hq (by omega))
/-- a list of 1 -/
theorem rdN_1 {K : Int64} {m : Nat} {S : Nat → Int32} (hm : m ≤ 6) (hS : ∀ s, s < 64 → -127 ≤ (S s).toInt ∧ (S s).toInt ≤ 127) : ∀ i, i ≤ 64 → (rdN K m S 1 i).2.1 0 = (tuN K m S 64 i).1 ∧ (rdN K m S 1 i).2.2 0 = (tuN K m S 64 i).2
  | 0, _ => ⟨rfl, rfl⟩
  | i + 1, hi => by
    obtain ⟨h1, h2⟩ := rdN_1 hm hS i (by omega)
    have tb := tu_b (K := K) (F := 64) hm hS i (by omega)
    have hs := ndL_b0 hm hS (u := bl (tuN K m S 64 i).1) (c := i) (l := 0) (j := 0) (Nat.zero_le m) (by decide)
    have P := rd_P (K := K) (m := m) (S := S) (most := 1) (by decide) i
    rw [rdN, tuN, decide_eq_false (show ¬ i = 64 by omega), Bool.xor_false]
    exact rd1 (kp := bl K i) (Nat.le_antisymm P.2 P.1) h1 h2 hs ⟨tb.1, by omega⟩
theorem rdN_up {K : Int64} {m : Nat} {S : Nat → Int32} (hm : m ≤ 6) (hS : ∀ s, s < 64 → -127 ≤ (S s).toInt ∧ (S s).toInt ≤ 127) {c : Nat} : ∀ n, c + n ≤ 64 → ∀ t, t < c → bl ((rdN K m S 1 (c + n)).2.1 0) t = bl ((rdN K m S 1 c).2.1 0) t
  | 0, _, _, _ => rfl
  | n + 1, hn, t, ht => by
    have ih := rdN_up (K := K) hm hS n (by omega) t ht
    rw [← ih, (rdN_1 hm hS (c + (n + 1)) (by omega)).1, (rdN_1 hm hS (c + n) (by omega)).1]
    show bl (tuN K m S 64 (c + n + 1)).1 t = _
    rw [tuN, bitI_bl (by omega) (by omega), decide_eq_false (show ¬ t = c + n by omega), Bool.and_false, Bool.or_false]
/-- a node of which all is free, and no sum is 0 -/
theorem rd_tak {K : Int64} {m : Nat} {S : Nat → Int32} (hm : m ≤ 6) (hS : ∀ s, s < 64 → -127 ≤ (S s).toInt ∧ (S s).toInt ≤ 127) : ∀ (q b : Nat), q ≤ m → 2 ^ q * b + 2 ^ q ≤ 2 ^ m → (∀ t, t < 2 ^ q → bl K (2 ^ q * b + t) = true) → (∀ j, j < 2 ^ q → ¬ ndL m S (bl ((rdN K m S 1 (2 ^ q * b)).2.1 0)) (2 ^ q * b) q j = 0) → (rdN K m S 1 (2 ^ q * b + 2 ^ q)).2.2 0 = (rdN K m S 1 (2 ^ q * b)).2.2 0 ∧ (∀ t, t < 2 ^ q → bl ((rdN K m S 1 (2 ^ q * b + 2 ^ q)).2.1 0) (2 ^ q * b + t) = bfN 0 q (fun j => decide (ndL m S (bl ((rdN K m S 1 (2 ^ q * b)).2.1 0)) (2 ^ q * b) q j < 0)) t) ∧ ∀ t, t < 64 → ¬ (2 ^ q * b ≤ t ∧ t < 2 ^ q * b + 2 ^ q) → bl ((rdN K m S 1 (2 ^ q * b + 2 ^ q)).2.1 0) t = bl ((rdN K m S 1 (2 ^ q * b)).2.1 0) t
  | 0, b, hq, hc, hk, hz => by
    have p6 := pw_6 m (by omega)
    have e0 : 2 ^ 0 * b = b := by rw [Nat.pow_zero, Nat.one_mul]
    rw [e0] at hc hk hz ⊢
    have k0 := hk 0 (by decide)
    rw [Nat.add_zero] at k0
    obtain ⟨a1, a2⟩ := rdN_1 (K := K) hm hS (b + 1) (by omega)
    obtain ⟨b1, b2⟩ := rdN_1 (K := K) hm hS b (by omega)
    have hs := ndL_b0 hm hS (u := bl (tuN K m S 64 b).1) (c := b) (l := 0) (j := 0) (Nat.zero_le m) (by decide)
    have hb := fun t (ht : t < 64) z => rd_B (K := K) (m := m) (S := S) (most := 1) b (by omega) 0 t ht z
    rw [show b + 2 ^ 0 = b + 1 from rfl, a1, a2, b1, b2]
    rw [b1] at hb hz
    rw [tuN, k0, Bool.true_and, decide_eq_false (show ¬ b = 64 by omega), Bool.xor_false]
    refine ⟨?_, fun t ht => ?_, fun t h64 ht => ?_⟩
    · show (tuN K m S 64 b).2 + _ = _
      rw [show coS (ndL m S (bl (tuN K m S 64 b).1) b 0 0) (decide (ndL m S (bl (tuN K m S 64 b).1) b 0 0 < 0)) = 0 from ?_, Int32.add_zero]
      generalize ndL m S (bl (tuN K m S 64 b).1) b 0 0 = s
      by_cases z : s < 0
      · rw [decide_eq_true z]
        show (if 0 < s then s else 0) = 0
        rw [if_neg (fun y => Int32.lt_irrefl (Int32.lt_trans z y))]
      · rw [decide_eq_false z]
        show (if s < 0 then -s else 0) = 0
        rw [if_neg z]
    · have ht : t = 0 := by omega
      subst ht
      show bl (bitI (tuN K m S 64 b).1 b _) (b + 0) = decide (ndL m S (bl (tuN K m S 64 b).1) b 0 0 < 0)
      rw [Nat.add_zero, bitI_bl (by omega) (by omega), decide_eq_true rfl, Bool.and_true]
      cases z : bl (tuN K m S 64 b).1 b
      · rw [Bool.false_or]
      · have := (hb b (by omega) z).1
        omega
    · show bl (bitI (tuN K m S 64 b).1 b _) t = _
      rw [bitI_bl (by omega) h64, decide_eq_false (show ¬ t = b by omega), Bool.and_false, Bool.or_false]
  | q + 1, b, hq, hc, hk, hz => by
    have p6 := pw_6 m (by omega)
    have pq := Nat.two_pow_pos q
    have e2 : 2 ^ (q + 1) = 2 ^ q + 2 ^ q := by rw [Nat.pow_succ]; omega
    have e1 : 2 ^ q * (2 * b) = 2 ^ (q + 1) * b := by rw [Nat.pow_succ, Nat.mul_assoc]
    have e3 : 2 ^ q * (2 * b + 1) = 2 ^ (q + 1) * b + 2 ^ q := by rw [Nat.mul_add, e1, Nat.mul_one]
    obtain ⟨t1, t2, t3, t4⟩ := tbm (q := q) (b := b)
    have bd := fun u j (hj : j < 2 ^ (q + 1)) => ndL_b0 hm hS (u := u) (c := 2 ^ (q + 1) * b) (l := q + 1) (j := j) hq hj
    have bd : ∀ u j, j < 2 ^ (q + 1) → inB 100000 (ndL m S u (2 ^ (q + 1) * b) (q + 1) j) := fun u j hj => by
      have := bd u j hj
      unfold inB at this ⊢
      omega
    have sg := fun j (hj : j < 2 ^ q) => ls_sg (bd (bl ((rdN K m S 1 (2 ^ (q + 1) * b)).2.1 0)) j (by omega)) (bd (bl ((rdN K m S 1 (2 ^ (q + 1) * b)).2.1 0)) (j + 2 ^ q) (by omega)) (hz j (by omega)) (hz (j + 2 ^ q) (by omega))
    have l := rd_tak (K := K) hm hS q (2 * b) (by omega) (by rw [e1]; omega) (fun t ht => by rw [e1]; exact hk t (by omega)) (fun j hj => by rw [e1, nd_l (by omega)]; exact (sg j hj).1)
    rw [e1] at l
    obtain ⟨l1, l2, l3⟩ := l
    have lf : ∀ j, j < 2 ^ q → lfb (bl ((rdN K m S 1 (2 ^ (q + 1) * b + 2 ^ q)).2.1 0)) (b * 2 ^ (q + 1)) q j = (decide (ndL m S (bl ((rdN K m S 1 (2 ^ (q + 1) * b)).2.1 0)) (2 ^ (q + 1) * b) (q + 1) j < 0) ^^ decide (ndL m S (bl ((rdN K m S 1 (2 ^ (q + 1) * b)).2.1 0)) (2 ^ (q + 1) * b) (q + 1) (j + 2 ^ q) < 0)) := fun j hj => by
      unfold lfb
      rw [bfN_lc (q := q) (by omega) q 0 (g := bfN 0 q (fun j => decide (ndL m S (bl ((rdN K m S 1 (2 ^ (q + 1) * b)).2.1 0)) (2 ^ (q + 1) * b) q j < 0))) (by omega) (fun s hs => by rw [decide_eq_true hs, Bool.true_and, Nat.mul_comm b]; exact l2 s hs) j hj, bf_inv q (by omega) _ j hj, nd_l (by omega)]
      exact (sg j hj).2
    have up : ∀ t, t < 2 ^ (q + 1) * b → bl ((rdN K m S 1 (2 ^ (q + 1) * b + 2 ^ q)).2.1 0) t = bl ((rdN K m S 1 (2 ^ (q + 1) * b)).2.1 0) t := fun t ht => l3 t (by omega) (by omega)
    have nr : ∀ j, j < 2 ^ q → ndL m S (bl ((rdN K m S 1 (2 ^ (q + 1) * b + 2 ^ q)).2.1 0)) (2 ^ (q + 1) * b + 2 ^ q) q j = rSm (ndL m S (bl ((rdN K m S 1 (2 ^ (q + 1) * b)).2.1 0)) (2 ^ (q + 1) * b) (q + 1) j) (ndL m S (bl ((rdN K m S 1 (2 ^ (q + 1) * b)).2.1 0)) (2 ^ (q + 1) * b) (q + 1) (j + 2 ^ q)) (decide (ndL m S (bl ((rdN K m S 1 (2 ^ (q + 1) * b)).2.1 0)) (2 ^ (q + 1) * b) (q + 1) j < 0) ^^ decide (ndL m S (bl ((rdN K m S 1 (2 ^ (q + 1) * b)).2.1 0)) (2 ^ (q + 1) * b) (q + 1) (j + 2 ^ q) < 0)) := fun j hj => by
      rw [ndL_s (by omega), t2, if_pos rfl, t3, lf j hj]
      rw [ndL_cg (u' := bl ((rdN K m S 1 (2 ^ (q + 1) * b)).2.1 0)) (c' := 2 ^ (q + 1) * b) (m - (q + 1)) (q + 1) (by omega) (by rw [t3, t4]) (fun t ht => up t (by rw [t3, Nat.mul_comm] at ht; exact ht))]
    have rg := fun j (hj : j < 2 ^ q) => rs_sg (bd (bl ((rdN K m S 1 (2 ^ (q + 1) * b)).2.1 0)) j (by omega)) (bd (bl ((rdN K m S 1 (2 ^ (q + 1) * b)).2.1 0)) (j + 2 ^ q) (by omega)) (hz j (by omega)) (hz (j + 2 ^ q) (by omega))
    have r := rd_tak (K := K) hm hS q (2 * b + 1) (by omega) (by rw [e3]; omega) (fun t ht => by rw [e3, Nat.add_assoc]; exact hk (2 ^ q + t) (by omega)) (fun j hj => by rw [e3, nr j hj]; exact (rg j hj).1)
    rw [e3] at r
    obtain ⟨r1, r2, r3⟩ := r
    rw [show 2 ^ (q + 1) * b + 2 ^ (q + 1) = 2 ^ (q + 1) * b + 2 ^ q + 2 ^ q by omega]
    refine ⟨r1.trans l1, fun t ht => ?_, fun t h64 ht => (r3 t h64 (by omega)).trans (l3 t h64 (by omega))⟩
    by_cases h : t < 2 ^ q
    · rw [r3 _ (by omega) (by omega), l2 t h, bf_lo h]
      refine bfN_lc (q := q) (by omega) q 0 (by omega) (fun s hs => ?_) t h
      rw [nd_l (by omega)]
      exact (sg s hs).2
    · obtain ⟨s, rfl⟩ : ∃ s, t = s + 2 ^ q := ⟨t - 2 ^ q, by omega⟩
      have hs : s < 2 ^ q := by omega
      rw [show 2 ^ (q + 1) * b + (s + 2 ^ q) = 2 ^ (q + 1) * b + 2 ^ q + s by omega, r2 s hs, bf_hi hs]
      refine bfN_lc (q := q) (by omega) q 0 (by omega) (fun j hj => ?_) s hs
      rw [nr j hj]
      exact (rg j hj).2
