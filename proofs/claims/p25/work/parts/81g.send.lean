theorem i64_bm {a : Int} (h1 : -9223372036854775808 ≤ a) (h2 : a ≤ 9223372036854775807) : a.bmod (2 ^ 64) = a := by
  rw [Int.bmod_def]
  omega
theorem nn_nonneg {y : Int64} {m : Nat} (h : y.toInt = m) : nn y = m := by
  have : y.toInt = y.toBitVec.toInt := rfl
  rw [this, BitVec.toInt_eq_toNat_cond] at h
  unfold nn
  have := y.toBitVec.isLt
  split at h <;> omega
theorem nn_int {y : Int64} (h : nn y < 9223372036854775808) : y.toInt = (nn y : Int) := by
  have : y.toInt = y.toBitVec.toInt := rfl
  rw [this, BitVec.toInt_eq_toNat_cond]
  unfold nn at *
  split <;> omega
theorem lc_eq {x : Int32} (hx : 0 ≤ x.toInt) : (x.toInt64 * 1103515245 + 12345) - (x.toInt64 * 1103515245 + 12345) / 2147483648 * 2147483648 = (x.toInt64 * 1103515245 + 12345) &&& 2147483647 := by
  have hx2 : x.toInt < 2147483648 := x.toInt_lt
  have e1 : (x.toInt64 * 1103515245 + 12345).toInt = x.toInt * 1103515245 + 12345 := by
    rw [Int64.toInt_add, Int64.toInt_mul, Int32.toInt_toInt64, show (1103515245 : Int64).toInt = 1103515245 by decide, show (12345 : Int64).toInt = 12345 by decide, i64_bm (a := x.toInt * 1103515245) (by omega) (by omega), i64_bm (by omega) (by omega)]
  generalize x.toInt64 * 1103515245 + 12345 = y at *
  obtain ⟨m, hm⟩ : ∃ m : Nat, y.toInt = m := ⟨y.toInt.toNat, by omega⟩
  have en := nn_nonneg hm
  have ea : nn (y &&& 2147483647) = m % 2147483648 := by
    show (y &&& 2147483647).toBitVec.toNat = _
    rw [Int64.toBitVec_and, BitVec.toNat_and]
    show nn y &&& 2147483647 = _
    rw [en]
    exact Nat.and_two_pow_sub_one_eq_mod m 31
  refine Int64.toInt_inj.mp ?_
  rw [nn_int (y := y &&& 2147483647) (by omega), ea, Int64.toInt_sub, Int64.toInt_mul, Int64.toInt_div_of_ne_right _ _ (by decide), show (2147483648 : Int64).toInt = 2147483648 by decide, hm, Int.tdiv_eq_ediv_of_nonneg (by omega)]
  rw [i64_bm (a := (m : Int) / 2147483648 * 2147483648) (by omega) (by omega), i64_bm (by omega) (by omega)]
  omega
theorem lc_pos {x : Int32} : 0 ≤ (((x.toInt64 * 1103515245 + 12345) &&& 2147483647).toInt32).toInt := by
  generalize x.toInt64 * 1103515245 + 12345 = y at *
  have ea : nn (y &&& 2147483647) = nn y % 2147483648 := by
    show (y &&& 2147483647).toBitVec.toNat = _
    rw [Int64.toBitVec_and, BitVec.toNat_and]
    exact Nat.and_two_pow_sub_one_eq_mod _ 31
  have : (y &&& 2147483647).toInt = (nn y % 2147483648 : Nat) := by rw [nn_int (by omega), ea]
  rw [Int64.toInt_toInt32, this, Int.bmod_def]
  omega
def mnv (v : Int32) : Int32 := if (127 : Int32) ≤ v then 127 else v
def clp (v : Int32) : Int32 := if (-127 : Int32) < mnv v then mnv v else -127
theorem clp_hi {v : Int32} (h : ¬ v ≤ 127) : clp v = 127 := by
  have e : mnv v = 127 := if_pos (by rw [Int32.le_iff_toInt_le] at *; omega)
  unfold clp
  rw [e]
  rfl
theorem clp_lo {v : Int32} (h : ¬ -127 ≤ v) : clp v = -127 := by
  have h9 : (127 : Int32).toInt = 127 := rfl
  have h8 : (-127 : Int32).toInt = -127 := rfl
  rw [Int32.le_iff_toInt_le] at h
  have e : mnv v = v := if_neg (by rw [Int32.le_iff_toInt_le]; omega)
  unfold clp
  rw [e, if_neg (by rw [Int32.lt_iff_toInt_lt]; omega)]
theorem clp_md {v : Int32} (h1 : v ≤ 127) (h2 : -127 ≤ v) : clp v = v := by
  have h9 : (127 : Int32).toInt = 127 := rfl
  have h8 : (-127 : Int32).toInt = -127 := rfl
  have i1 := Int32.le_iff_toInt_le.mp h1
  have i2 := Int32.le_iff_toInt_le.mp h2
  unfold clp mnv
  by_cases c : (127 : Int32) ≤ v
  · have i3 := Int32.le_iff_toInt_le.mp c
    rw [if_pos c, if_pos (by decide)]
    exact Int32.toInt_inj.mp (by omega)
  · rw [if_neg c]
    by_cases d : (-127 : Int32) < v
    · rw [if_pos d]
    · rw [if_neg d]
      rw [Int32.lt_iff_toInt_lt] at d
      exact Int32.toInt_inj.mp (by omega)
theorem str_pos {b : Int32} (h : 0 ≤ b ∧ b ≤ 100) : 0 < (2 : Int32) * b + 1 := by
  have i1 := Int32.le_iff_toInt_le.mp h.1
  have i2 := Int32.le_iff_toInt_le.mp h.2
  rw [show (100 : Int32).toInt = 100 from rfl] at i2
  rw [show (0 : Int32).toInt = 0 from rfl] at i1
  rw [Int32.lt_iff_toInt_lt, Int32.toInt_add, Int32.toInt_mul, show (2 : Int32).toInt = 2 from rfl, show (1 : Int32).toInt = 1 from rfl, show (0 : Int32).toInt = 0 from rfl]
  rw [Int.bmod_def (2 * b.toInt), Int.bmod_def]
  omega
theorem ne_of_pos {k : Int32} (h : 0 < k) : ¬ k = 0 := fun e => by rw [e] at h; exact absurd h (by decide)
theorem g_irem {T : List PmM} {xs : PmX} {es : List PmI} {j : Nat} {lv : PmL} {st : List Value} {h : PmH} {r : Option Value × PmH} {pc n a c d q : Nat} {v : Int} {ts : List Nat} {x y : Int32} (he : es[j]? = some (pc, n, .irem, a, c, d, q, v, ts)) (hy : ¬ y = 0) (k : Go T xs es (j + 1) lv (.int (x - x / y * y) :: st) h r) : Go T xs es j lv (.int y :: .int x :: st) h r := by
  refine Go.step he ?_ k
  simp [pm_x, pm_iz, hy, pm_nx]
def lcg (x : Int32) : Int32 := ((x.toInt64 * 1103515245 + 12345) &&& 2147483647).toInt32
theorem lcg_pos {x : Int32} : 0 ≤ (lcg x).toInt := lc_pos
def itN (f : Int32 → Int32) : Nat → Int32 → Int32
  | 0, x => x
  | n + 1, x => itN f n (f x)
theorem itN_pos {f : Int32 → Int32} (hf : ∀ x, 0 ≤ (f x).toInt) : ∀ (n : Nat) (x : Int32), 0 ≤ x.toInt → 0 ≤ (itN f n x).toInt
  | 0, _, h => h
  | n + 1, x, _ => itN_pos hf n (f x) (hf x)
def drw (x k : Int32) : Int32 := lcg x / 65536 - lcg x / 65536 / k * k
theorem dr_C {fi : Nat → Nat → Int32} {fl : Nat → Nat → Int64} {fr : Nat → Nat → Option Nat} {x k : Int32} (c : fi 0 13 = x) (hk : 0 < k) : Ev pmT 73 [.ref 0, .int k] (shT, fi, fl, fr) (some (.int (drw x k))) (shT, pm_u2 fi 0 13 (lcg x), fl, fr) := by
  refine Ev.of (es := cd_73) (ml := 2) (lv := [some (.ref 0), some (.int k)]) rfl rfl rfl ?_
  have el : ((x.toInt64 * 1103515245 + 12345) &&& 2147483647).toInt32 = lcg x := rfl
  unfold drw
  refine go_of ?_
  refine gp_n 2 (j' := 2) (lv' := [some (.ref 0), some (.int k)]) (st' := [.ref 0, .ref 0]) (h' := (shT, fi, fl, fr)) rfl ?_
  refine gp_of (fun _ k9 => g_getI (x := x) rfl (Or.inl rfl) rfl (by decide) (c) k9) ?_
  refine gp_n 8 (j' := 11) (lv' := [some (.ref 0), some (.int k)]) (st' := [.int ((((x.toInt64 * 1103515245) + 12345) &&& 2147483647).toInt32), .ref 0]) (h' := (shT, fi, fl, fr)) rfl ?_
  rw [el]
  generalize lcg x = y
  refine gp_of (fun _ k9 => g_putI rfl (Or.inl rfl) rfl (by decide) k9) ?_
  refine gp_n 1 (j' := 13) (lv' := [some (.ref 0), some (.int k)]) (st' := [.int k]) (h' := (shT, pm_u2 fi 0 13 y, fl, fr)) rfl ?_
  refine gp_of (fun _ k9 => g_iff rfl (show ¬ (k ≤ (0 : Int32)) from Int32.not_le.mpr hk) k9) ?_
  refine gp_n 1 (j' := 15) (lv' := [some (.ref 0), some (.int k)]) (st' := [.ref 0]) (h' := (shT, pm_u2 fi 0 13 y, fl, fr)) rfl ?_
  refine gp_of (fun _ k9 => g_getI (x := y) rfl (Or.inl rfl) rfl (by decide) (rfl) k9) ?_
  refine gp_n 3 (j' := 19) (lv' := [some (.ref 0), some (.int k)]) (st' := [.int k, .int (y / 65536)]) (h' := (shT, pm_u2 fi 0 13 y, fl, fr)) rfl ?_
  refine gp_of (fun _ k9 => g_irem rfl (ne_of_pos hk) k9) ?_
  refine gp_n 1 (j' := 22) (lv' := [some (.ref 0), some (.int k)]) (st' := [.int ((y / 65536) - (y / 65536) / k * k)]) (h' := (shT, pm_u2 fi 0 13 y, fl, fr)) rfl ?_
  refine gp_done (g_ret rfl) ?_
  rfl
theorem dr_M {fi : Nat → Nat → Int32} {fl : Nat → Nat → Int64} {fr : Nat → Nat → Option Nat} {x k : Int32} (c : fi 70 23 = x) (hx : 0 ≤ x.toInt) (hk : 0 < k) : Ev pmT 185 [.ref 70, .int k] (shT, fi, fl, fr) (some (.int (drw x k))) (shT, pm_u2 fi 70 23 (lcg x), fl, fr) := by
  refine Ev.of (es := cd_185) (ml := 2) (lv := [some (.ref 70), some (.int k)]) rfl rfl rfl ?_
  have el : ((x.toInt64 * 1103515245 + 12345) &&& 2147483647).toInt32 = lcg x := rfl
  unfold drw
  refine go_of ?_
  refine gp_n 2 (j' := 2) (lv' := [some (.ref 70), some (.int k)]) (st' := [.ref 70, .ref 70]) (h' := (shT, fi, fl, fr)) rfl ?_
  refine gp_of (fun _ k9 => g_getI (x := x) rfl (Or.inl rfl) rfl (by decide) (c) k9) ?_
  refine gp_n 8 (j' := 11) (lv' := [some (.ref 70), some (.int k)]) (st' := [.int ((((x.toInt64 * 1103515245) + 12345) - ((x.toInt64 * 1103515245) + 12345) / 2147483648 * 2147483648).toInt32), .ref 70]) (h' := (shT, fi, fl, fr)) rfl ?_
  rw [lc_eq hx, el]
  generalize lcg x = y
  refine gp_of (fun _ k9 => g_putI rfl (Or.inl rfl) rfl (by decide) k9) ?_
  refine gp_n 1 (j' := 13) (lv' := [some (.ref 70), some (.int k)]) (st' := [.ref 70]) (h' := (shT, pm_u2 fi 70 23 y, fl, fr)) rfl ?_
  refine gp_of (fun _ k9 => g_getI (x := y) rfl (Or.inl rfl) rfl (by decide) (rfl) k9) ?_
  refine gp_n 3 (j' := 17) (lv' := [some (.ref 70), some (.int k)]) (st' := [.int k, .int (y / 65536)]) (h' := (shT, pm_u2 fi 70 23 y, fl, fr)) rfl ?_
  refine gp_of (fun _ k9 => g_irem rfl (ne_of_pos hk) k9) ?_
  refine gp_done (g_ret rfl) ?_
  rfl
/-- a sum as it is heard -/
def noi (d : Int32 → Int32) (a b : Int32) (t : Bool) (x : Int32) : Int32 := clp ((if t = true then -a else a) + d x - b)
/-- all of them: x lies at p, c, the sums lie at q -/
def txF (f d : Int32 → Int32) (p c q : Nat) (a b : Int32) (w : Int64) : Nat → Nat → Int32 → (Nat → Nat → Int32) → (Nat → Nat → Int32)
  | 0, _, _, fi => fi
  | n + 1, i, x, fi => txF f d p c q a b w n (i + 1) (f x) (pm_u2 (pm_u2 fi p c (f x)) q i (noi d a b (bl w i) x))
theorem txF_x {f d : Int32 → Int32} {p c q : Nat} {a b : Int32} {w : Int64} (hpq : ¬ p = q) : ∀ (n i : Nat) (x : Int32) (fi : Nat → Nat → Int32), fi p c = x → txF f d p c q a b w n i x fi p c = itN f n x
  | 0, _, _, _, h => h
  | n + 1, i, x, fi, _ => by
    rw [txF, itN]
    exact txF_x hpq n (i + 1) (f x) _ ((u2_ne (fun z => hpq z.1)).trans u2_eq)
theorem txF_s {f d : Int32 → Int32} {p c q : Nat} {a b : Int32} {w : Int64} (hpq : ¬ p = q) : ∀ (n i : Nat) (x : Int32) (fi : Nat → Nat → Int32) (s : Nat), txF f d p c q a b w n i x fi q s = if i ≤ s ∧ s < i + n then noi d a b (bl w s) (itN f (s - i) x) else fi q s
  | 0, i, _, _, s => by
    rw [txF, if_neg (by omega)]
  | n + 1, i, x, fi, s => by
    rw [txF, txF_s hpq n (i + 1) (f x) _ s]
    by_cases h1 : i = s
    · subst h1
      rw [if_neg (by omega), if_pos (by omega), u2_eq, Nat.sub_self]
      rfl
    · rw [u2_ne (fun z => h1 z.2.symm), u2_ne (fun z => hpq z.1.symm)]
      by_cases h2 : i ≤ s ∧ s < i + (n + 1)
      · rw [if_pos (by omega), if_pos h2, show s - i = (s - (i + 1)) + 1 by omega]
        rfl
      · rw [if_neg (by omega), if_neg h2]
theorem tx_go_2 {f d : Int32 → Int32} {N : Nat} {a b : Int32} {w : Int64} {fl : Nat → Nat → Int64} {fr : Nat → Nat → Option Nat} (hN : N ≤ 64) (k0 : fr 0 0 = some 1) (dr : ∀ (x : Int32) (fi : Nat → Nat → Int32), fi 0 13 = x → Ev pmT 73 [.ref 0, .int (2 * b + 1)] (shT, fi, fl, fr) (some (.int (d x))) (shT, pm_u2 fi 0 13 (f x), fl, fr)) : ∀ (n i : Nat) (x : Int32) (fi : Nat → Nat → Int32) (l7 l8 : Option Value), i + n = N → fi 1 1 = nI N → fi 0 13 = x → Go pmT none cd_72 2 [some (.ref 0), some (.long w), none, some (.int a), some (.int b), some (.ref 2), some (.int (nI i)), l7, l8] [] (shT, fi, fl, fr) (none, (shT, txF f d 0 13 2 a b w n i x fi, fl, fr)) := by
  intro n
  induction n with
  | zero =>
    intro i x fi l7 l8 hi c1 c13
    have hi : i = N := by omega
    subst hi
    rw [txF]
    refine go_of ?_
    refine gp_n 2 (j' := 4) (lv' := [some (.ref 0), some (.long w), none, some (.int a), some (.int b), some (.ref 2), some (.int (nI i)), l7, l8]) (st' := [.ref 0, .int (nI i)]) (h' := (shT, fi, fl, fr)) rfl ?_
    refine gp_of (fun _ k9 => g_getR (q' := 1) rfl rfl (by decide) k0 k9) ?_
    refine gp_of (fun _ k9 => g_getI (x := nI i) rfl (Or.inl rfl) rfl (by decide) (c1) k9) ?_
    refine gp_of (fun _ k9 => g_ict rfl (show (nI i) ≤ (nI i) from Int32.le_refl _) k9) ?_
    refine gp_done (g_vret rfl) ?_
    rfl
  | succ n ih =>
    intro i x fi l7 l8 hi c1 c13
    have e : us6 w (nI i) &&& 1 = if bl w i = true then 1 else 0 := by rw [and_b1, bl_us i (by omega) w 0, Nat.add_zero]
    have dr := dr x fi c13
    rw [txF]
    have g := fun v8 l7 l8 => ih (i + 1) (f x) (pm_u2 (pm_u2 fi 0 13 (f x)) 2 i v8) l7 l8 (by omega) (((u2_ne (fun z => absurd z.1 (by decide))).trans (u2_ne (fun z => absurd z.1 (by decide)))).trans c1) ((u2_ne (fun z => absurd z.1 (by decide))).trans u2_eq)
    cases hw : bl w i
    · have en : noi d a b false x = clp (a + d x - b) := rfl
      rw [en]
      rw [hw] at e
      have e : ((w.toUInt64 >>> ((nI i : Int32).toInt64.toUInt64 &&& Int64.toUInt64 63)).toInt64) &&& 1 = 0 := e
      have g := g (clp (a + d x - b)) (some (.int (a))) (some (.int (a + d x - b)))
      clear ih c13
      generalize d x = dx at *
      generalize f x = y at *
      generalize hv : a + dx - b = v at *
      have m1 : Ev pmT 15 [.int 127, .int v] (shT, pm_u2 fi 0 13 y, fl, fr) (some (.int (mnv v))) (shT, pm_u2 fi 0 13 y, fl, fr) := by
        unfold mnv
        exact min_ev
      have m2 : Ev pmT 48 [.int (-127), .int (mnv v)] (shT, pm_u2 fi 0 13 y, fl, fr) (some (.int (clp v))) (shT, pm_u2 fi 0 13 y, fl, fr) := by
        unfold clp
        exact max_ev
      generalize mnv v = v1 at *
      generalize clp v = v2 at *
      refine go_of ?_
      refine gp_n 2 (j' := 4) (lv' := [some (.ref 0), some (.long w), none, some (.int a), some (.int b), some (.ref 2), some (.int (nI i)), l7, l8]) (st' := [.ref 0, .int (nI i)]) (h' := (shT, fi, fl, fr)) rfl ?_
      refine gp_of (fun _ k9 => g_getR (q' := 1) rfl rfl (by decide) k0 k9) ?_
      refine gp_of (fun _ k9 => g_getI (x := nI N) rfl (Or.inl rfl) rfl (by decide) (c1) k9) ?_
      refine gp_of (fun _ k9 => g_icf rfl (show ¬ ((nI N) ≤ (nI i)) from nI_ge (by omega) (by omega)) k9) ?_
      refine gp_n 5 (j' := 12) (lv' := [some (.ref 0), some (.long w), none, some (.int a), some (.int b), some (.ref 2), some (.int (nI i)), l7, l8]) (st' := [.long (((w.toUInt64 >>> ((nI i : Int32).toInt64.toUInt64 &&& Int64.toUInt64 63)).toInt64) &&& 1)]) (h' := (shT, fi, fl, fr)) rfl ?_
      rw [e]
      refine gp_n 2 (j' := 14) (lv' := [some (.ref 0), some (.long w), none, some (.int a), some (.int b), some (.ref 2), some (.int (nI i)), l7, l8]) (st' := [.int (lg_cmp 0 0)]) (h' := (shT, fi, fl, fr)) rfl ?_
      refine gp_of (fun _ k9 => g_iff rfl (show ¬ (¬ (lg_cmp 0 0) = (0 : Int32)) from by decide) k9) ?_
      refine gp_n 10 (j' := 27) (lv' := [some (.ref 0), some (.long w), none, some (.int a), some (.int b), some (.ref 2), some (.int (nI i)), some (.int a), l8]) (st' := [.int (((2 : Int32) * b) + 1), .ref 0, .int a]) (h' := (shT, fi, fl, fr)) rfl ?_
      refine gp_of (fun _ k9 => g_call (y := 73) (as := [.ref 0, .int (((2 : Int32) * b) + 1)]) (st' := [.int a]) rfl rfl (dr) k9) ?_
      refine gp_n 3 (j' := 31) (lv' := [some (.ref 0), some (.long w), none, some (.int a), some (.int b), some (.ref 2), some (.int (nI i)), some (.int a), l8]) (st' := [.int ((a + dx) - b)]) (h' := (shT, pm_u2 fi 0 13 y, fl, fr)) rfl ?_
      rw [hv]
      refine gp_n 6 (j' := 37) (lv' := [some (.ref 0), some (.long w), none, some (.int a), some (.int b), some (.ref 2), some (.int (nI i)), some (.int a), some (.int v)]) (st' := [.int v, .int 127, .int (-127), .int (nI i), .ref 2]) (h' := (shT, pm_u2 fi 0 13 y, fl, fr)) rfl ?_
      refine gp_of (fun _ k9 => g_call (y := 15) (as := [.int 127, .int v]) (st' := [.int (-127), .int (nI i), .ref 2]) rfl rfl (m1) k9) ?_
      refine gp_of (fun _ k9 => g_call (y := 48) (as := [.int (-127), .int v1]) (st' := [.int (nI i), .ref 2]) rfl rfl (m2) k9) ?_
      refine gp_of (fun _ k9 => g_iast (k := i) rfl rfl (rfl) (by omega) (by decide) k9) ?_
      refine gp_n 2 (j' := 2) (lv' := [some (.ref 0), some (.long w), none, some (.int a), some (.int b), some (.ref 2), some (.int ((nI i) + 1)), some (.int a), some (.int v)]) (st' := []) (h' := (shT, pm_u2 (pm_u2 fi 0 13 y) 2 i v2, fl, fr)) rfl ?_
      rw [nI_1]
      exact gp_done g rfl
    · have en : noi d a b true x = clp (-a + d x - b) := rfl
      rw [en]
      rw [hw] at e
      have e : ((w.toUInt64 >>> ((nI i : Int32).toInt64.toUInt64 &&& Int64.toUInt64 63)).toInt64) &&& 1 = 1 := e
      have g := g (clp (-a + d x - b)) (some (.int (-a))) (some (.int (-a + d x - b)))
      clear ih c13
      generalize d x = dx at *
      generalize f x = y at *
      generalize hv : -a + dx - b = v at *
      have m1 : Ev pmT 15 [.int 127, .int v] (shT, pm_u2 fi 0 13 y, fl, fr) (some (.int (mnv v))) (shT, pm_u2 fi 0 13 y, fl, fr) := by
        unfold mnv
        exact min_ev
      have m2 : Ev pmT 48 [.int (-127), .int (mnv v)] (shT, pm_u2 fi 0 13 y, fl, fr) (some (.int (clp v))) (shT, pm_u2 fi 0 13 y, fl, fr) := by
        unfold clp
        exact max_ev
      generalize mnv v = v1 at *
      generalize clp v = v2 at *
      refine go_of ?_
      refine gp_n 2 (j' := 4) (lv' := [some (.ref 0), some (.long w), none, some (.int a), some (.int b), some (.ref 2), some (.int (nI i)), l7, l8]) (st' := [.ref 0, .int (nI i)]) (h' := (shT, fi, fl, fr)) rfl ?_
      refine gp_of (fun _ k9 => g_getR (q' := 1) rfl rfl (by decide) k0 k9) ?_
      refine gp_of (fun _ k9 => g_getI (x := nI N) rfl (Or.inl rfl) rfl (by decide) (c1) k9) ?_
      refine gp_of (fun _ k9 => g_icf rfl (show ¬ ((nI N) ≤ (nI i)) from nI_ge (by omega) (by omega)) k9) ?_
      refine gp_n 5 (j' := 12) (lv' := [some (.ref 0), some (.long w), none, some (.int a), some (.int b), some (.ref 2), some (.int (nI i)), l7, l8]) (st' := [.long (((w.toUInt64 >>> ((nI i : Int32).toInt64.toUInt64 &&& Int64.toUInt64 63)).toInt64) &&& 1)]) (h' := (shT, fi, fl, fr)) rfl ?_
      rw [e]
      refine gp_n 2 (j' := 14) (lv' := [some (.ref 0), some (.long w), none, some (.int a), some (.int b), some (.ref 2), some (.int (nI i)), l7, l8]) (st' := [.int (lg_cmp 1 0)]) (h' := (shT, fi, fl, fr)) rfl ?_
      refine gp_of (fun _ k9 => g_ift rfl (show ¬ (lg_cmp 1 0) = (0 : Int32) from by decide) k9) ?_
      refine gp_n 10 (j' := 27) (lv' := [some (.ref 0), some (.long w), none, some (.int a), some (.int b), some (.ref 2), some (.int (nI i)), some (.int (-a)), l8]) (st' := [.int (((2 : Int32) * b) + 1), .ref 0, .int (-a)]) (h' := (shT, fi, fl, fr)) rfl ?_
      refine gp_of (fun _ k9 => g_call (y := 73) (as := [.ref 0, .int (((2 : Int32) * b) + 1)]) (st' := [.int (-a)]) rfl rfl (dr) k9) ?_
      refine gp_n 3 (j' := 31) (lv' := [some (.ref 0), some (.long w), none, some (.int a), some (.int b), some (.ref 2), some (.int (nI i)), some (.int (-a)), l8]) (st' := [.int (((-a) + dx) - b)]) (h' := (shT, pm_u2 fi 0 13 y, fl, fr)) rfl ?_
      rw [hv]
      refine gp_n 6 (j' := 37) (lv' := [some (.ref 0), some (.long w), none, some (.int a), some (.int b), some (.ref 2), some (.int (nI i)), some (.int (-a)), some (.int v)]) (st' := [.int v, .int 127, .int (-127), .int (nI i), .ref 2]) (h' := (shT, pm_u2 fi 0 13 y, fl, fr)) rfl ?_
      refine gp_of (fun _ k9 => g_call (y := 15) (as := [.int 127, .int v]) (st' := [.int (-127), .int (nI i), .ref 2]) rfl rfl (m1) k9) ?_
      refine gp_of (fun _ k9 => g_call (y := 48) (as := [.int (-127), .int v1]) (st' := [.int (nI i), .ref 2]) rfl rfl (m2) k9) ?_
      refine gp_of (fun _ k9 => g_iast (k := i) rfl rfl (rfl) (by omega) (by decide) k9) ?_
      refine gp_n 2 (j' := 2) (lv' := [some (.ref 0), some (.long w), none, some (.int a), some (.int b), some (.ref 2), some (.int ((nI i) + 1)), some (.int (-a)), some (.int v)]) (st' := []) (h' := (shT, pm_u2 (pm_u2 fi 0 13 y) 2 i v2, fl, fr)) rfl ?_
      rw [nI_1]
      exact gp_done g rfl
theorem tx_ev_2 {N : Nat} {a b x : Int32} {w : Int64} {fi : Nat → Nat → Int32} {fl : Nat → Nat → Int64} {fr : Nat → Nat → Option Nat} (hN : N ≤ 64) (k0 : fr 0 0 = some 1) (hb : 0 < (2 : Int32) * b + 1) (c1 : fi 1 1 = nI N) (c13 : fi 0 13 = x) : Ev pmT 72 [.ref 0, .long w, .int a, .int b, .ref 2] (shT, fi, fl, fr) none (shT, txF lcg (fun x => drw x (2 * b + 1)) 0 13 2 a b w N 0 x fi, fl, fr) := by
  refine Ev.of (es := cd_72) (ml := 9) (lv := [some (.ref 0), some (.long w), none, some (.int a), some (.int b), some (.ref 2), none, none, none]) rfl rfl rfl ?_
  have g := tx_go_2 (f := lcg) (d := fun x => drw x (2 * b + 1)) (a := a) (w := w) (fl := fl) hN k0 (fun x fi c => dr_C c hb) N 0 x fi none none (by omega) c1 c13
  refine go_of ?_
  refine gp_n 2 (j' := 2) (lv' := [some (.ref 0), some (.long w), none, some (.int a), some (.int b), some (.ref 2), some (.int (nI 0)), none, none]) (st' := []) (h' := (shT, fi, fl, fr)) rfl ?_
  exact gp_done g rfl
theorem sx_go {f d : Int32 → Int32} {N : Nat} {a b : Int32} {w : Int64} {fl : Nat → Nat → Int64} {fr : Nat → Nat → Option Nat} (hN : N ≤ 64) (k22 : fr 70 22 = some 74) (hp : ∀ x, 0 ≤ (f x).toInt) (dr : ∀ (x : Int32) (fi : Nat → Nat → Int32), fi 70 23 = x → 0 ≤ x.toInt → Ev pmT 185 [.ref 70, .int (2 * b + 1)] (shT, fi, fl, fr) (some (.int (d x))) (shT, pm_u2 fi 70 23 (f x), fl, fr)) : ∀ (n i : Nat) (x : Int32) (fi : Nat → Nat → Int32) (l6 : Option Value), i + n = N → fi 70 14 = nI N → fi 70 23 = x → 0 ≤ x.toInt → Go pmT none cd_184 2 [some (.ref 70), some (.long w), none, some (.int a), some (.int b), some (.int (nI i)), l6] [] (shT, fi, fl, fr) (none, (shT, txF f d 70 23 74 a b w n i x fi, fl, fr)) := by
  intro n
  induction n with
  | zero =>
    intro i x fi l6 hi c1 c13 hx
    have hi : i = N := by omega
    subst hi
    rw [txF]
    refine go_of ?_
    refine gp_n 2 (j' := 4) (lv' := [some (.ref 70), some (.long w), none, some (.int a), some (.int b), some (.int (nI i)), l6]) (st' := [.ref 70, .int (nI i)]) (h' := (shT, fi, fl, fr)) rfl ?_
    refine gp_of (fun _ k9 => g_getI (x := nI i) rfl (Or.inl rfl) rfl (by decide) (c1) k9) ?_
    refine gp_of (fun _ k9 => g_ict rfl (show (nI i) ≤ (nI i) from Int32.le_refl _) k9) ?_
    refine gp_done (g_vret rfl) ?_
    rfl
  | succ n ih =>
    intro i x fi l6 hi c1 c13 hx
    have hs := has_ev (v := w) (i := nI i) (h := (shT, fi, fl, fr))
    rw [hasf_bit (by omega)] at hs
    have dr := dr x fi c13 hx
    rw [txF]
    have g := fun v8 l6 => ih (i + 1) (f x) (pm_u2 (pm_u2 fi 70 23 (f x)) 74 i v8) l6 (by omega) (((u2_ne (fun z => absurd z.1 (by decide))).trans (u2_ne (fun z => absurd z.2 (by decide)))).trans c1) ((u2_ne (fun z => absurd z.1 (by decide))).trans u2_eq) (hp x)
    cases hw : bl w i
    · have en : noi d a b false x = clp (a + d x - b) := rfl
      rw [en]
      rw [hw] at hs
      have hs : Ev pmT 161 [.long w, .int (nI i)] (shT, fi, fl, fr) (some (.int 0)) (shT, fi, fl, fr) := hs
      have g := g (clp (a + d x - b)) (some (.int (a + d x - b)))
      clear ih c13
      generalize d x = dx at *
      generalize f x = y at *
      generalize hv : a + dx - b = v at *
      by_cases q1 : v ≤ 127
      case neg =>
        rw [clp_hi q1] at g ⊢
        refine go_of ?_
        refine gp_n 2 (j' := 4) (lv' := [some (.ref 70), some (.long w), none, some (.int a), some (.int b), some (.int (nI i)), l6]) (st' := [.ref 70, .int (nI i)]) (h' := (shT, fi, fl, fr)) rfl ?_
        refine gp_of (fun _ k9 => g_getI (x := nI N) rfl (Or.inl rfl) rfl (by decide) (c1) k9) ?_
        refine gp_of (fun _ k9 => g_icf rfl (show ¬ ((nI N) ≤ (nI i)) from nI_ge (by omega) (by omega)) k9) ?_
        refine gp_n 2 (j' := 8) (lv' := [some (.ref 70), some (.long w), none, some (.int a), some (.int b), some (.int (nI i)), l6]) (st' := [.int (nI i), .long w]) (h' := (shT, fi, fl, fr)) rfl ?_
        refine gp_of (fun _ k9 => g_call (y := 161) (as := [.long w, .int (nI i)]) (st' := []) rfl rfl (hs) k9) ?_
        refine gp_of (fun _ k9 => g_ift rfl (show (0 : Int32) = (0 : Int32) from by decide) k9) ?_
        refine gp_n 7 (j' := 20) (lv' := [some (.ref 70), some (.long w), none, some (.int a), some (.int b), some (.int (nI i)), l6]) (st' := [.int (((2 : Int32) * b) + 1), .ref 70, .int a]) (h' := (shT, fi, fl, fr)) rfl ?_
        refine gp_of (fun _ k9 => g_call (y := 185) (as := [.ref 70, .int (((2 : Int32) * b) + 1)]) (st' := [.int a]) rfl rfl (dr) k9) ?_
        refine gp_n 3 (j' := 24) (lv' := [some (.ref 70), some (.long w), none, some (.int a), some (.int b), some (.int (nI i)), l6]) (st' := [.int ((a + dx) - b)]) (h' := (shT, pm_u2 fi 70 23 y, fl, fr)) rfl ?_
        rw [hv]
        refine gp_n 2 (j' := 26) (lv' := [some (.ref 70), some (.long w), none, some (.int a), some (.int b), some (.int (nI i)), some (.int v)]) (st' := [.ref 70]) (h' := (shT, pm_u2 fi 70 23 y, fl, fr)) rfl ?_
        refine gp_of (fun _ k9 => g_getR (q' := 74) rfl rfl (by decide) k22 k9) ?_
        refine gp_n 3 (j' := 30) (lv' := [some (.ref 70), some (.long w), none, some (.int a), some (.int b), some (.int (nI i)), some (.int v)]) (st' := [.int 127, .int v, .int (nI i), .ref 74]) (h' := (shT, pm_u2 fi 70 23 y, fl, fr)) rfl ?_
        refine gp_of (fun _ k9 => g_icf rfl (show ¬ (v ≤ (127 : Int32)) from q1) k9) ?_
        refine gp_n 2 (j' := 39) (lv' := [some (.ref 70), some (.long w), none, some (.int a), some (.int b), some (.int (nI i)), some (.int v)]) (st' := [.int 127, .int (nI i), .ref 74]) (h' := (shT, pm_u2 fi 70 23 y, fl, fr)) rfl ?_
        refine gp_of (fun _ k9 => g_iast (k := i) rfl rfl (rfl) (by omega) (by decide) k9) ?_
        refine gp_n 2 (j' := 2) (lv' := [some (.ref 70), some (.long w), none, some (.int a), some (.int b), some (.int ((nI i) + 1)), some (.int v)]) (st' := []) (h' := (shT, pm_u2 (pm_u2 fi 70 23 y) 74 i 127, fl, fr)) rfl ?_
        rw [nI_1]
        exact gp_done g rfl
      by_cases q2 : -127 ≤ v
      case neg =>
        rw [clp_lo q2] at g ⊢
        refine go_of ?_
        refine gp_n 2 (j' := 4) (lv' := [some (.ref 70), some (.long w), none, some (.int a), some (.int b), some (.int (nI i)), l6]) (st' := [.ref 70, .int (nI i)]) (h' := (shT, fi, fl, fr)) rfl ?_
        refine gp_of (fun _ k9 => g_getI (x := nI N) rfl (Or.inl rfl) rfl (by decide) (c1) k9) ?_
        refine gp_of (fun _ k9 => g_icf rfl (show ¬ ((nI N) ≤ (nI i)) from nI_ge (by omega) (by omega)) k9) ?_
        refine gp_n 2 (j' := 8) (lv' := [some (.ref 70), some (.long w), none, some (.int a), some (.int b), some (.int (nI i)), l6]) (st' := [.int (nI i), .long w]) (h' := (shT, fi, fl, fr)) rfl ?_
        refine gp_of (fun _ k9 => g_call (y := 161) (as := [.long w, .int (nI i)]) (st' := []) rfl rfl (hs) k9) ?_
        refine gp_of (fun _ k9 => g_ift rfl (show (0 : Int32) = (0 : Int32) from by decide) k9) ?_
        refine gp_n 7 (j' := 20) (lv' := [some (.ref 70), some (.long w), none, some (.int a), some (.int b), some (.int (nI i)), l6]) (st' := [.int (((2 : Int32) * b) + 1), .ref 70, .int a]) (h' := (shT, fi, fl, fr)) rfl ?_
        refine gp_of (fun _ k9 => g_call (y := 185) (as := [.ref 70, .int (((2 : Int32) * b) + 1)]) (st' := [.int a]) rfl rfl (dr) k9) ?_
        refine gp_n 3 (j' := 24) (lv' := [some (.ref 70), some (.long w), none, some (.int a), some (.int b), some (.int (nI i)), l6]) (st' := [.int ((a + dx) - b)]) (h' := (shT, pm_u2 fi 70 23 y, fl, fr)) rfl ?_
        rw [hv]
        refine gp_n 2 (j' := 26) (lv' := [some (.ref 70), some (.long w), none, some (.int a), some (.int b), some (.int (nI i)), some (.int v)]) (st' := [.ref 70]) (h' := (shT, pm_u2 fi 70 23 y, fl, fr)) rfl ?_
        refine gp_of (fun _ k9 => g_getR (q' := 74) rfl rfl (by decide) k22 k9) ?_
        refine gp_n 3 (j' := 30) (lv' := [some (.ref 70), some (.long w), none, some (.int a), some (.int b), some (.int (nI i)), some (.int v)]) (st' := [.int 127, .int v, .int (nI i), .ref 74]) (h' := (shT, pm_u2 fi 70 23 y, fl, fr)) rfl ?_
        refine gp_of (fun _ k9 => g_ict rfl (show v ≤ (127 : Int32) from q1) k9) ?_
        refine gp_n 2 (j' := 35) (lv' := [some (.ref 70), some (.long w), none, some (.int a), some (.int b), some (.int (nI i)), some (.int v)]) (st' := [.int (-127), .int v, .int (nI i), .ref 74]) (h' := (shT, pm_u2 fi 70 23 y, fl, fr)) rfl ?_
        refine gp_of (fun _ k9 => g_icf rfl (show ¬ (((-127) : Int32) ≤ v) from q2) k9) ?_
        refine gp_n 2 (j' := 39) (lv' := [some (.ref 70), some (.long w), none, some (.int a), some (.int b), some (.int (nI i)), some (.int v)]) (st' := [.int (-127), .int (nI i), .ref 74]) (h' := (shT, pm_u2 fi 70 23 y, fl, fr)) rfl ?_
        refine gp_of (fun _ k9 => g_iast (k := i) rfl rfl (rfl) (by omega) (by decide) k9) ?_
        refine gp_n 2 (j' := 2) (lv' := [some (.ref 70), some (.long w), none, some (.int a), some (.int b), some (.int ((nI i) + 1)), some (.int v)]) (st' := []) (h' := (shT, pm_u2 (pm_u2 fi 70 23 y) 74 i (-127), fl, fr)) rfl ?_
        rw [nI_1]
        exact gp_done g rfl
      rw [clp_md q1 q2] at g ⊢
      refine go_of ?_
      refine gp_n 2 (j' := 4) (lv' := [some (.ref 70), some (.long w), none, some (.int a), some (.int b), some (.int (nI i)), l6]) (st' := [.ref 70, .int (nI i)]) (h' := (shT, fi, fl, fr)) rfl ?_
      refine gp_of (fun _ k9 => g_getI (x := nI N) rfl (Or.inl rfl) rfl (by decide) (c1) k9) ?_
      refine gp_of (fun _ k9 => g_icf rfl (show ¬ ((nI N) ≤ (nI i)) from nI_ge (by omega) (by omega)) k9) ?_
      refine gp_n 2 (j' := 8) (lv' := [some (.ref 70), some (.long w), none, some (.int a), some (.int b), some (.int (nI i)), l6]) (st' := [.int (nI i), .long w]) (h' := (shT, fi, fl, fr)) rfl ?_
      refine gp_of (fun _ k9 => g_call (y := 161) (as := [.long w, .int (nI i)]) (st' := []) rfl rfl (hs) k9) ?_
      refine gp_of (fun _ k9 => g_ift rfl (show (0 : Int32) = (0 : Int32) from by decide) k9) ?_
      refine gp_n 7 (j' := 20) (lv' := [some (.ref 70), some (.long w), none, some (.int a), some (.int b), some (.int (nI i)), l6]) (st' := [.int (((2 : Int32) * b) + 1), .ref 70, .int a]) (h' := (shT, fi, fl, fr)) rfl ?_
      refine gp_of (fun _ k9 => g_call (y := 185) (as := [.ref 70, .int (((2 : Int32) * b) + 1)]) (st' := [.int a]) rfl rfl (dr) k9) ?_
      refine gp_n 3 (j' := 24) (lv' := [some (.ref 70), some (.long w), none, some (.int a), some (.int b), some (.int (nI i)), l6]) (st' := [.int ((a + dx) - b)]) (h' := (shT, pm_u2 fi 70 23 y, fl, fr)) rfl ?_
      rw [hv]
      refine gp_n 2 (j' := 26) (lv' := [some (.ref 70), some (.long w), none, some (.int a), some (.int b), some (.int (nI i)), some (.int v)]) (st' := [.ref 70]) (h' := (shT, pm_u2 fi 70 23 y, fl, fr)) rfl ?_
      refine gp_of (fun _ k9 => g_getR (q' := 74) rfl rfl (by decide) k22 k9) ?_
      refine gp_n 3 (j' := 30) (lv' := [some (.ref 70), some (.long w), none, some (.int a), some (.int b), some (.int (nI i)), some (.int v)]) (st' := [.int 127, .int v, .int (nI i), .ref 74]) (h' := (shT, pm_u2 fi 70 23 y, fl, fr)) rfl ?_
      refine gp_of (fun _ k9 => g_ict rfl (show v ≤ (127 : Int32) from q1) k9) ?_
      refine gp_n 2 (j' := 35) (lv' := [some (.ref 70), some (.long w), none, some (.int a), some (.int b), some (.int (nI i)), some (.int v)]) (st' := [.int (-127), .int v, .int (nI i), .ref 74]) (h' := (shT, pm_u2 fi 70 23 y, fl, fr)) rfl ?_
      refine gp_of (fun _ k9 => g_ict rfl (show ((-127) : Int32) ≤ v from q2) k9) ?_
      refine gp_n 1 (j' := 39) (lv' := [some (.ref 70), some (.long w), none, some (.int a), some (.int b), some (.int (nI i)), some (.int v)]) (st' := [.int v, .int (nI i), .ref 74]) (h' := (shT, pm_u2 fi 70 23 y, fl, fr)) rfl ?_
      refine gp_of (fun _ k9 => g_iast (k := i) rfl rfl (rfl) (by omega) (by decide) k9) ?_
      refine gp_n 2 (j' := 2) (lv' := [some (.ref 70), some (.long w), none, some (.int a), some (.int b), some (.int ((nI i) + 1)), some (.int v)]) (st' := []) (h' := (shT, pm_u2 (pm_u2 fi 70 23 y) 74 i v, fl, fr)) rfl ?_
      rw [nI_1]
      exact gp_done g rfl
    · have en : noi d a b true x = clp (-a + d x - b) := rfl
      rw [en]
      rw [hw] at hs
      have hs : Ev pmT 161 [.long w, .int (nI i)] (shT, fi, fl, fr) (some (.int 1)) (shT, fi, fl, fr) := hs
      have g := g (clp (-a + d x - b)) (some (.int (-a + d x - b)))
      clear ih c13
      generalize d x = dx at *
      generalize f x = y at *
      generalize hv : -a + dx - b = v at *
      by_cases q1 : v ≤ 127
      case neg =>
        rw [clp_hi q1] at g ⊢
        refine go_of ?_
        refine gp_n 2 (j' := 4) (lv' := [some (.ref 70), some (.long w), none, some (.int a), some (.int b), some (.int (nI i)), l6]) (st' := [.ref 70, .int (nI i)]) (h' := (shT, fi, fl, fr)) rfl ?_
        refine gp_of (fun _ k9 => g_getI (x := nI N) rfl (Or.inl rfl) rfl (by decide) (c1) k9) ?_
        refine gp_of (fun _ k9 => g_icf rfl (show ¬ ((nI N) ≤ (nI i)) from nI_ge (by omega) (by omega)) k9) ?_
        refine gp_n 2 (j' := 8) (lv' := [some (.ref 70), some (.long w), none, some (.int a), some (.int b), some (.int (nI i)), l6]) (st' := [.int (nI i), .long w]) (h' := (shT, fi, fl, fr)) rfl ?_
        refine gp_of (fun _ k9 => g_call (y := 161) (as := [.long w, .int (nI i)]) (st' := []) rfl rfl (hs) k9) ?_
        refine gp_of (fun _ k9 => g_iff rfl (show ¬ ((1 : Int32) = (0 : Int32)) from by decide) k9) ?_
        refine gp_n 9 (j' := 20) (lv' := [some (.ref 70), some (.long w), none, some (.int a), some (.int b), some (.int (nI i)), l6]) (st' := [.int (((2 : Int32) * b) + 1), .ref 70, .int (-a)]) (h' := (shT, fi, fl, fr)) rfl ?_
        refine gp_of (fun _ k9 => g_call (y := 185) (as := [.ref 70, .int (((2 : Int32) * b) + 1)]) (st' := [.int (-a)]) rfl rfl (dr) k9) ?_
        refine gp_n 3 (j' := 24) (lv' := [some (.ref 70), some (.long w), none, some (.int a), some (.int b), some (.int (nI i)), l6]) (st' := [.int (((-a) + dx) - b)]) (h' := (shT, pm_u2 fi 70 23 y, fl, fr)) rfl ?_
        rw [hv]
        refine gp_n 2 (j' := 26) (lv' := [some (.ref 70), some (.long w), none, some (.int a), some (.int b), some (.int (nI i)), some (.int v)]) (st' := [.ref 70]) (h' := (shT, pm_u2 fi 70 23 y, fl, fr)) rfl ?_
        refine gp_of (fun _ k9 => g_getR (q' := 74) rfl rfl (by decide) k22 k9) ?_
        refine gp_n 3 (j' := 30) (lv' := [some (.ref 70), some (.long w), none, some (.int a), some (.int b), some (.int (nI i)), some (.int v)]) (st' := [.int 127, .int v, .int (nI i), .ref 74]) (h' := (shT, pm_u2 fi 70 23 y, fl, fr)) rfl ?_
        refine gp_of (fun _ k9 => g_icf rfl (show ¬ (v ≤ (127 : Int32)) from q1) k9) ?_
        refine gp_n 2 (j' := 39) (lv' := [some (.ref 70), some (.long w), none, some (.int a), some (.int b), some (.int (nI i)), some (.int v)]) (st' := [.int 127, .int (nI i), .ref 74]) (h' := (shT, pm_u2 fi 70 23 y, fl, fr)) rfl ?_
        refine gp_of (fun _ k9 => g_iast (k := i) rfl rfl (rfl) (by omega) (by decide) k9) ?_
        refine gp_n 2 (j' := 2) (lv' := [some (.ref 70), some (.long w), none, some (.int a), some (.int b), some (.int ((nI i) + 1)), some (.int v)]) (st' := []) (h' := (shT, pm_u2 (pm_u2 fi 70 23 y) 74 i 127, fl, fr)) rfl ?_
        rw [nI_1]
        exact gp_done g rfl
      by_cases q2 : -127 ≤ v
      case neg =>
        rw [clp_lo q2] at g ⊢
        refine go_of ?_
        refine gp_n 2 (j' := 4) (lv' := [some (.ref 70), some (.long w), none, some (.int a), some (.int b), some (.int (nI i)), l6]) (st' := [.ref 70, .int (nI i)]) (h' := (shT, fi, fl, fr)) rfl ?_
        refine gp_of (fun _ k9 => g_getI (x := nI N) rfl (Or.inl rfl) rfl (by decide) (c1) k9) ?_
        refine gp_of (fun _ k9 => g_icf rfl (show ¬ ((nI N) ≤ (nI i)) from nI_ge (by omega) (by omega)) k9) ?_
        refine gp_n 2 (j' := 8) (lv' := [some (.ref 70), some (.long w), none, some (.int a), some (.int b), some (.int (nI i)), l6]) (st' := [.int (nI i), .long w]) (h' := (shT, fi, fl, fr)) rfl ?_
        refine gp_of (fun _ k9 => g_call (y := 161) (as := [.long w, .int (nI i)]) (st' := []) rfl rfl (hs) k9) ?_
        refine gp_of (fun _ k9 => g_iff rfl (show ¬ ((1 : Int32) = (0 : Int32)) from by decide) k9) ?_
        refine gp_n 9 (j' := 20) (lv' := [some (.ref 70), some (.long w), none, some (.int a), some (.int b), some (.int (nI i)), l6]) (st' := [.int (((2 : Int32) * b) + 1), .ref 70, .int (-a)]) (h' := (shT, fi, fl, fr)) rfl ?_
        refine gp_of (fun _ k9 => g_call (y := 185) (as := [.ref 70, .int (((2 : Int32) * b) + 1)]) (st' := [.int (-a)]) rfl rfl (dr) k9) ?_
        refine gp_n 3 (j' := 24) (lv' := [some (.ref 70), some (.long w), none, some (.int a), some (.int b), some (.int (nI i)), l6]) (st' := [.int (((-a) + dx) - b)]) (h' := (shT, pm_u2 fi 70 23 y, fl, fr)) rfl ?_
        rw [hv]
        refine gp_n 2 (j' := 26) (lv' := [some (.ref 70), some (.long w), none, some (.int a), some (.int b), some (.int (nI i)), some (.int v)]) (st' := [.ref 70]) (h' := (shT, pm_u2 fi 70 23 y, fl, fr)) rfl ?_
        refine gp_of (fun _ k9 => g_getR (q' := 74) rfl rfl (by decide) k22 k9) ?_
        refine gp_n 3 (j' := 30) (lv' := [some (.ref 70), some (.long w), none, some (.int a), some (.int b), some (.int (nI i)), some (.int v)]) (st' := [.int 127, .int v, .int (nI i), .ref 74]) (h' := (shT, pm_u2 fi 70 23 y, fl, fr)) rfl ?_
        refine gp_of (fun _ k9 => g_ict rfl (show v ≤ (127 : Int32) from q1) k9) ?_
        refine gp_n 2 (j' := 35) (lv' := [some (.ref 70), some (.long w), none, some (.int a), some (.int b), some (.int (nI i)), some (.int v)]) (st' := [.int (-127), .int v, .int (nI i), .ref 74]) (h' := (shT, pm_u2 fi 70 23 y, fl, fr)) rfl ?_
        refine gp_of (fun _ k9 => g_icf rfl (show ¬ (((-127) : Int32) ≤ v) from q2) k9) ?_
        refine gp_n 2 (j' := 39) (lv' := [some (.ref 70), some (.long w), none, some (.int a), some (.int b), some (.int (nI i)), some (.int v)]) (st' := [.int (-127), .int (nI i), .ref 74]) (h' := (shT, pm_u2 fi 70 23 y, fl, fr)) rfl ?_
        refine gp_of (fun _ k9 => g_iast (k := i) rfl rfl (rfl) (by omega) (by decide) k9) ?_
        refine gp_n 2 (j' := 2) (lv' := [some (.ref 70), some (.long w), none, some (.int a), some (.int b), some (.int ((nI i) + 1)), some (.int v)]) (st' := []) (h' := (shT, pm_u2 (pm_u2 fi 70 23 y) 74 i (-127), fl, fr)) rfl ?_
        rw [nI_1]
        exact gp_done g rfl
      rw [clp_md q1 q2] at g ⊢
      refine go_of ?_
      refine gp_n 2 (j' := 4) (lv' := [some (.ref 70), some (.long w), none, some (.int a), some (.int b), some (.int (nI i)), l6]) (st' := [.ref 70, .int (nI i)]) (h' := (shT, fi, fl, fr)) rfl ?_
      refine gp_of (fun _ k9 => g_getI (x := nI N) rfl (Or.inl rfl) rfl (by decide) (c1) k9) ?_
      refine gp_of (fun _ k9 => g_icf rfl (show ¬ ((nI N) ≤ (nI i)) from nI_ge (by omega) (by omega)) k9) ?_
      refine gp_n 2 (j' := 8) (lv' := [some (.ref 70), some (.long w), none, some (.int a), some (.int b), some (.int (nI i)), l6]) (st' := [.int (nI i), .long w]) (h' := (shT, fi, fl, fr)) rfl ?_
      refine gp_of (fun _ k9 => g_call (y := 161) (as := [.long w, .int (nI i)]) (st' := []) rfl rfl (hs) k9) ?_
      refine gp_of (fun _ k9 => g_iff rfl (show ¬ ((1 : Int32) = (0 : Int32)) from by decide) k9) ?_
      refine gp_n 9 (j' := 20) (lv' := [some (.ref 70), some (.long w), none, some (.int a), some (.int b), some (.int (nI i)), l6]) (st' := [.int (((2 : Int32) * b) + 1), .ref 70, .int (-a)]) (h' := (shT, fi, fl, fr)) rfl ?_
      refine gp_of (fun _ k9 => g_call (y := 185) (as := [.ref 70, .int (((2 : Int32) * b) + 1)]) (st' := [.int (-a)]) rfl rfl (dr) k9) ?_
      refine gp_n 3 (j' := 24) (lv' := [some (.ref 70), some (.long w), none, some (.int a), some (.int b), some (.int (nI i)), l6]) (st' := [.int (((-a) + dx) - b)]) (h' := (shT, pm_u2 fi 70 23 y, fl, fr)) rfl ?_
      rw [hv]
      refine gp_n 2 (j' := 26) (lv' := [some (.ref 70), some (.long w), none, some (.int a), some (.int b), some (.int (nI i)), some (.int v)]) (st' := [.ref 70]) (h' := (shT, pm_u2 fi 70 23 y, fl, fr)) rfl ?_
      refine gp_of (fun _ k9 => g_getR (q' := 74) rfl rfl (by decide) k22 k9) ?_
      refine gp_n 3 (j' := 30) (lv' := [some (.ref 70), some (.long w), none, some (.int a), some (.int b), some (.int (nI i)), some (.int v)]) (st' := [.int 127, .int v, .int (nI i), .ref 74]) (h' := (shT, pm_u2 fi 70 23 y, fl, fr)) rfl ?_
      refine gp_of (fun _ k9 => g_ict rfl (show v ≤ (127 : Int32) from q1) k9) ?_
      refine gp_n 2 (j' := 35) (lv' := [some (.ref 70), some (.long w), none, some (.int a), some (.int b), some (.int (nI i)), some (.int v)]) (st' := [.int (-127), .int v, .int (nI i), .ref 74]) (h' := (shT, pm_u2 fi 70 23 y, fl, fr)) rfl ?_
      refine gp_of (fun _ k9 => g_ict rfl (show ((-127) : Int32) ≤ v from q2) k9) ?_
      refine gp_n 1 (j' := 39) (lv' := [some (.ref 70), some (.long w), none, some (.int a), some (.int b), some (.int (nI i)), some (.int v)]) (st' := [.int v, .int (nI i), .ref 74]) (h' := (shT, pm_u2 fi 70 23 y, fl, fr)) rfl ?_
      refine gp_of (fun _ k9 => g_iast (k := i) rfl rfl (rfl) (by omega) (by decide) k9) ?_
      refine gp_n 2 (j' := 2) (lv' := [some (.ref 70), some (.long w), none, some (.int a), some (.int b), some (.int ((nI i) + 1)), some (.int v)]) (st' := []) (h' := (shT, pm_u2 (pm_u2 fi 70 23 y) 74 i v, fl, fr)) rfl ?_
      rw [nI_1]
      exact gp_done g rfl
theorem sx_ev {N : Nat} {a b x : Int32} {w : Int64} {fi : Nat → Nat → Int32} {fl : Nat → Nat → Int64} {fr : Nat → Nat → Option Nat} (hN : N ≤ 64) (k22 : fr 70 22 = some 74) (hb : 0 < (2 : Int32) * b + 1) (c1 : fi 70 14 = nI N) (c13 : fi 70 23 = x) (hx : 0 ≤ x.toInt) : Ev pmT 184 [.ref 70, .long w, .int a, .int b] (shT, fi, fl, fr) none (shT, txF lcg (fun x => drw x (2 * b + 1)) 70 23 74 a b w N 0 x fi, fl, fr) := by
  refine Ev.of (es := cd_184) (ml := 7) (lv := [some (.ref 70), some (.long w), none, some (.int a), some (.int b), none, none]) rfl rfl rfl ?_
  have g := sx_go (f := lcg) (d := fun x => drw x (2 * b + 1)) (a := a) (w := w) (fl := fl) hN k22 (fun x => lcg_pos) (fun x fi c hx => dr_M c hx hb) N 0 x fi none (by omega) c1 c13 hx
  refine go_of ?_
  refine gp_n 2 (j' := 2) (lv' := [some (.ref 70), some (.long w), none, some (.int a), some (.int b), some (.int (nI 0)), none]) (st' := []) (h' := (shT, fi, fl, fr)) rfl ?_
  exact gp_done g rfl
