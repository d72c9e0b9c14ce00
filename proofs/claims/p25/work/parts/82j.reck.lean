def ixS (l p : Nat) : Nat := 8 * (2 ^ l - 1) + p * 2 ^ l
theorem ixS_s (l p : Nat) : ixS l (p + 1) = ixS l p + 2 ^ l := by
  unfold ixS
  rw [Nat.add_mul, Nat.one_mul]
  omega
theorem ixS_8 (l : Nat) : ixS l 8 = ixS (l + 1) 0 := by
  unfold ixS
  have := Nat.two_pow_pos l
  rw [Nat.pow_succ]
  omega
theorem ixS_mono {l p q : Nat} (h : p ≤ q) : ixS l p ≤ ixS l q := by
  unfold ixS
  have := Nat.mul_le_mul_right (2 ^ l) h
  omega
theorem ixS_up (l : Nat) : ixS l 0 ≤ ixS (l + 1) 0 := by
  rw [← ixS_8]
  exact ixS_mono (by decide)
theorem ixS_lm {l k : Nat} : ∀ n, l + n = k → ixS l 0 ≤ ixS k 0
  | 0, h => by rw [show l = k by omega]; exact Nat.le_refl _
  | n + 1, h => Nat.le_trans (ixS_lm (l := l) (k := l + n) n rfl) (by rw [← h]; exact ixS_up _)
theorem ixS_le {l r k : Nat} (hr : r < 8) (hk : l < k) : ixS l r + 2 ^ l ≤ ixS k 0 := by
  rw [← ixS_s]
  refine Nat.le_trans (ixS_mono (show r + 1 ≤ 8 by omega)) ?_
  rw [ixS_8]
  exact ixS_lm (k - (l + 1)) (by omega)
theorem ixS_top {l r : Nat} (hl : l ≤ 6) (hr : r < 8) : ixS l r + 2 ^ l ≤ 1016 := by
  have := ixS_le (l := l) (k := 7) hr (by omega)
  exact this
theorem shI : ∀ l, l < 7 → (1 : Int32) <<< (nI l &&& 31) = nI (2 ^ l) := by decide
theorem own_e : ∀ l, l < 7 → ∀ p, p < 8 → ((8 : Int32) * ((1 : Int32) <<< (nI l &&& 31) - 1)) + nI p <<< (nI l &&& 31) = nI (ixS l p) := by decide +kernel
theorem ix8_e : ∀ l, l < 64 → ∀ p, p < 8 → nI l * 8 + nI p = nI (8 * l + p) := by decide +kernel
theorem ow_ev {l p : Nat} {h : PmH} (hl : l < 7) (hp : p < 8) : Ev pmT 84 [.int (nI l), .int (nI p)] h (some (.int (nI (ixS l p)))) h := by
  have e := own_e l hl p hp
  refine Ev.of (es := cd_84) (ml := 2) (lv := [some (.int (nI l)), some (.int (nI p))]) rfl rfl rfl ?_
  rw [← e]
  refine go_of ?_
  refine gp_n 11 (j' := 11) (lv' := [some (.int (nI l)), some (.int (nI p))]) (st' := [.int (((8 : Int32) * (((1 : Int32) <<< ((nI l) &&& 31)) - 1)) + ((nI p) <<< ((nI l) &&& 31)))]) (h' := h) rfl ?_
  refine gp_done (g_ret rfl) ?_
  rfl
theorem ps_ev_14 {l p r : Nat} {fi : Nat → Nat → Int32} {fl : Nat → Nat → Int64} {fr : Nat → Nat → Option Nat} (hl : l < 7) (hp : p < 8) (hr : r < 8) (k0 : fr 13 0 = some 14) (k3 : fr 14 3 = some 17) (c : fi 17 (8 * l + p) = nI r) : Ev pmT 88 [.ref 13, .int (nI l), .int (nI p)] (shT, fi, fl, fr) (some (.int (nI (ixS l r)))) (shT, fi, fl, fr) := by
  have e := own_e l hl r hr
  have i8 := ix8_e l (by omega) p hp
  refine Ev.of (es := cd_88) (ml := 4) (lv := [some (.ref 13), some (.int (nI l)), some (.int (nI p)), none]) rfl rfl rfl ?_
  rw [← e]
  refine go_of ?_
  refine gp_n 1 (j' := 1) (lv' := [some (.ref 13), some (.int (nI l)), some (.int (nI p)), none]) (st' := [.ref 13]) (h' := (shT, fi, fl, fr)) rfl ?_
  refine gp_of (fun _ k9 => g_getR (q' := 14) rfl rfl (by decide) k0 k9) ?_
  refine gp_of (fun _ k9 => g_getR (q' := 17) rfl rfl (by decide) k3 k9) ?_
  refine gp_n 5 (j' := 8) (lv' := [some (.ref 13), some (.int (nI l)), some (.int (nI p)), none]) (st' := [.int (((nI l) * 8) + (nI p)), .ref 17]) (h' := (shT, fi, fl, fr)) rfl ?_
  refine gp_of (fun _ k9 => g_iald (k := 8 * l + p) (x := nI r) rfl rfl (i8) (by omega) (by decide) (c) k9) ?_
  refine gp_n 12 (j' := 21) (lv' := [some (.ref 13), some (.int (nI l)), some (.int (nI p)), some (.int (nI r))]) (st' := [.int (((8 : Int32) * (((1 : Int32) <<< ((nI l) &&& 31)) - 1)) + ((nI r) <<< ((nI l) &&& 31)))]) (h' := (shT, fi, fl, fr)) rfl ?_
  refine gp_done (g_ret rfl) ?_
  rfl
theorem ps_ev_18 {l p r : Nat} {fi : Nat → Nat → Int32} {fl : Nat → Nat → Int64} {fr : Nat → Nat → Option Nat} (hl : l < 7) (hp : p < 8) (hr : r < 8) (k0 : fr 13 0 = some 18) (k3 : fr 18 3 = some 21) (c : fi 21 (8 * l + p) = nI r) : Ev pmT 88 [.ref 13, .int (nI l), .int (nI p)] (shT, fi, fl, fr) (some (.int (nI (ixS l r)))) (shT, fi, fl, fr) := by
  have e := own_e l hl r hr
  have i8 := ix8_e l (by omega) p hp
  refine Ev.of (es := cd_88) (ml := 4) (lv := [some (.ref 13), some (.int (nI l)), some (.int (nI p)), none]) rfl rfl rfl ?_
  rw [← e]
  refine go_of ?_
  refine gp_n 1 (j' := 1) (lv' := [some (.ref 13), some (.int (nI l)), some (.int (nI p)), none]) (st' := [.ref 13]) (h' := (shT, fi, fl, fr)) rfl ?_
  refine gp_of (fun _ k9 => g_getR (q' := 18) rfl rfl (by decide) k0 k9) ?_
  refine gp_of (fun _ k9 => g_getR (q' := 21) rfl rfl (by decide) k3 k9) ?_
  refine gp_n 5 (j' := 8) (lv' := [some (.ref 13), some (.int (nI l)), some (.int (nI p)), none]) (st' := [.int (((nI l) * 8) + (nI p)), .ref 21]) (h' := (shT, fi, fl, fr)) rfl ?_
  refine gp_of (fun _ k9 => g_iald (k := 8 * l + p) (x := nI r) rfl rfl (i8) (by omega) (by decide) (c) k9) ?_
  refine gp_n 12 (j' := 21) (lv' := [some (.ref 13), some (.int (nI l)), some (.int (nI p)), some (.int (nI r))]) (st' := [.int (((8 : Int32) * (((1 : Int32) <<< ((nI l) &&& 31)) - 1)) + ((nI r) <<< ((nI l) &&& 31)))]) (h' := (shT, fi, fl, fr)) rfl ?_
  refine gp_done (g_ret rfl) ?_
  rfl
theorem abC_ev {a : Int32} {h : PmH} : Ev pmT 96 [.int a] h (some (.int (abS a))) h := by
  refine Ev.of (es := cd_96) (ml := 1) (lv := [some (.int a)]) rfl rfl rfl ?_
  refine go_of ?_
  unfold abS
  by_cases h0 : a < 0
  · rw [if_pos h0]
    refine gp_n 1 (j' := 1) (lv' := [some (.int a)]) (st' := [.int a]) (h' := h) rfl ?_
    refine gp_of (fun _ k9 => g_iff rfl (show ¬ ((0 : Int32) ≤ a) from Int32.not_le.mpr h0) k9) ?_
    refine gp_n 3 (j' := 6) (lv' := [some (.int a)]) (st' := [.int (-a)]) (h' := h) rfl ?_
    refine gp_done (g_ret rfl) ?_
    rfl
  · rw [if_neg h0]
    refine gp_n 1 (j' := 1) (lv' := [some (.int a)]) (st' := [.int a]) (h' := h) rfl ?_
    refine gp_of (fun _ k9 => g_ift rfl (show (0 : Int32) ≤ a from Int32.not_lt.mp h0) k9) ?_
    refine gp_n 1 (j' := 6) (lv' := [some (.int a)]) (st' := [.int a]) (h' := h) rfl ?_
    refine gp_done (g_ret rfl) ?_
    rfl
theorem lsC_ev {x y : Int32} {h : PmH} : Ev pmT 95 [.int x, .int y] h (some (.int (lSm x y))) h := by
  have e1 := abC_ev (a := x) (h := h)
  have e2 := abC_ev (a := y) (h := h)
  have e3 : Ev pmT 15 [.int (abS x), .int (abS y)] h (some (.int (miS (abS x) (abS y)))) h := min_ev
  refine Ev.of (es := cd_95) (ml := 3) (lv := [some (.int x), some (.int y), none]) rfl rfl rfl ?_
  unfold lSm
  generalize miS (abS x) (abS y) = q at *
  generalize abS x = p1 at *
  generalize abS y = p2 at *
  refine go_of ?_
  by_cases h1 : x < 0
  · by_cases h2 : y < 0
    · rw [decide_eq_true h1, decide_eq_true h2, if_pos rfl]
      refine gp_n 1 (j' := 1) (lv' := [some (.int x), some (.int y), none]) (st' := [.int x]) (h' := h) rfl ?_
      refine gp_of (fun _ k9 => g_call (y := 96) (as := [.int x]) (st' := []) rfl rfl (e1) k9) ?_
      refine gp_n 1 (j' := 3) (lv' := [some (.int x), some (.int y), none]) (st' := [.int y, .int p1]) (h' := h) rfl ?_
      refine gp_of (fun _ k9 => g_call (y := 96) (as := [.int y]) (st' := [.int p1]) rfl rfl (e2) k9) ?_
      refine gp_of (fun _ k9 => g_call (y := 15) (as := [.int p1, .int p2]) (st' := []) rfl rfl (e3) k9) ?_
      refine gp_n 2 (j' := 7) (lv' := [some (.int x), some (.int y), some (.int q)]) (st' := [.int x]) (h' := h) rfl ?_
      refine gp_of (fun _ k9 => g_iff rfl (show ¬ ((0 : Int32) ≤ x) from Int32.not_le.mpr h1) k9) ?_
      refine gp_n 3 (j' := 12) (lv' := [some (.int x), some (.int y), some (.int q)]) (st' := [.int y, .int 1]) (h' := h) rfl ?_
      refine gp_of (fun _ k9 => g_iff rfl (show ¬ ((0 : Int32) ≤ y) from Int32.not_le.mpr h2) k9) ?_
      refine gp_n 2 (j' := 16) (lv' := [some (.int x), some (.int y), some (.int q)]) (st' := [.int 1, .int 1]) (h' := h) rfl ?_
      refine gp_of (fun _ k9 => g_ict rfl (show (1 : Int32) = (1 : Int32) from by decide) k9) ?_
      refine gp_n 1 (j' := 21) (lv' := [some (.int x), some (.int y), some (.int q)]) (st' := [.int q]) (h' := h) rfl ?_
      refine gp_done (g_ret rfl) ?_
      rfl
    · rw [decide_eq_true h1, decide_eq_false h2, if_neg (by decide)]
      refine gp_n 1 (j' := 1) (lv' := [some (.int x), some (.int y), none]) (st' := [.int x]) (h' := h) rfl ?_
      refine gp_of (fun _ k9 => g_call (y := 96) (as := [.int x]) (st' := []) rfl rfl (e1) k9) ?_
      refine gp_n 1 (j' := 3) (lv' := [some (.int x), some (.int y), none]) (st' := [.int y, .int p1]) (h' := h) rfl ?_
      refine gp_of (fun _ k9 => g_call (y := 96) (as := [.int y]) (st' := [.int p1]) rfl rfl (e2) k9) ?_
      refine gp_of (fun _ k9 => g_call (y := 15) (as := [.int p1, .int p2]) (st' := []) rfl rfl (e3) k9) ?_
      refine gp_n 2 (j' := 7) (lv' := [some (.int x), some (.int y), some (.int q)]) (st' := [.int x]) (h' := h) rfl ?_
      refine gp_of (fun _ k9 => g_iff rfl (show ¬ ((0 : Int32) ≤ x) from Int32.not_le.mpr h1) k9) ?_
      refine gp_n 3 (j' := 12) (lv' := [some (.int x), some (.int y), some (.int q)]) (st' := [.int y, .int 1]) (h' := h) rfl ?_
      refine gp_of (fun _ k9 => g_ift rfl (show (0 : Int32) ≤ y from Int32.not_lt.mp h2) k9) ?_
      refine gp_n 1 (j' := 16) (lv' := [some (.int x), some (.int y), some (.int q)]) (st' := [.int 0, .int 1]) (h' := h) rfl ?_
      refine gp_of (fun _ k9 => g_icf rfl (show ¬ ((1 : Int32) = (0 : Int32)) from by decide) k9) ?_
      refine gp_n 3 (j' := 21) (lv' := [some (.int x), some (.int y), some (.int q)]) (st' := [.int (-q)]) (h' := h) rfl ?_
      refine gp_done (g_ret rfl) ?_
      rfl
  · by_cases h2 : y < 0
    · rw [decide_eq_false h1, decide_eq_true h2, if_neg (by decide)]
      refine gp_n 1 (j' := 1) (lv' := [some (.int x), some (.int y), none]) (st' := [.int x]) (h' := h) rfl ?_
      refine gp_of (fun _ k9 => g_call (y := 96) (as := [.int x]) (st' := []) rfl rfl (e1) k9) ?_
      refine gp_n 1 (j' := 3) (lv' := [some (.int x), some (.int y), none]) (st' := [.int y, .int p1]) (h' := h) rfl ?_
      refine gp_of (fun _ k9 => g_call (y := 96) (as := [.int y]) (st' := [.int p1]) rfl rfl (e2) k9) ?_
      refine gp_of (fun _ k9 => g_call (y := 15) (as := [.int p1, .int p2]) (st' := []) rfl rfl (e3) k9) ?_
      refine gp_n 2 (j' := 7) (lv' := [some (.int x), some (.int y), some (.int q)]) (st' := [.int x]) (h' := h) rfl ?_
      refine gp_of (fun _ k9 => g_ift rfl (show (0 : Int32) ≤ x from Int32.not_lt.mp h1) k9) ?_
      refine gp_n 2 (j' := 12) (lv' := [some (.int x), some (.int y), some (.int q)]) (st' := [.int y, .int 0]) (h' := h) rfl ?_
      refine gp_of (fun _ k9 => g_iff rfl (show ¬ ((0 : Int32) ≤ y) from Int32.not_le.mpr h2) k9) ?_
      refine gp_n 2 (j' := 16) (lv' := [some (.int x), some (.int y), some (.int q)]) (st' := [.int 1, .int 0]) (h' := h) rfl ?_
      refine gp_of (fun _ k9 => g_icf rfl (show ¬ ((0 : Int32) = (1 : Int32)) from by decide) k9) ?_
      refine gp_n 3 (j' := 21) (lv' := [some (.int x), some (.int y), some (.int q)]) (st' := [.int (-q)]) (h' := h) rfl ?_
      refine gp_done (g_ret rfl) ?_
      rfl
    · rw [decide_eq_false h1, decide_eq_false h2, if_pos rfl]
      refine gp_n 1 (j' := 1) (lv' := [some (.int x), some (.int y), none]) (st' := [.int x]) (h' := h) rfl ?_
      refine gp_of (fun _ k9 => g_call (y := 96) (as := [.int x]) (st' := []) rfl rfl (e1) k9) ?_
      refine gp_n 1 (j' := 3) (lv' := [some (.int x), some (.int y), none]) (st' := [.int y, .int p1]) (h' := h) rfl ?_
      refine gp_of (fun _ k9 => g_call (y := 96) (as := [.int y]) (st' := [.int p1]) rfl rfl (e2) k9) ?_
      refine gp_of (fun _ k9 => g_call (y := 15) (as := [.int p1, .int p2]) (st' := []) rfl rfl (e3) k9) ?_
      refine gp_n 2 (j' := 7) (lv' := [some (.int x), some (.int y), some (.int q)]) (st' := [.int x]) (h' := h) rfl ?_
      refine gp_of (fun _ k9 => g_ift rfl (show (0 : Int32) ≤ x from Int32.not_lt.mp h1) k9) ?_
      refine gp_n 2 (j' := 12) (lv' := [some (.int x), some (.int y), some (.int q)]) (st' := [.int y, .int 0]) (h' := h) rfl ?_
      refine gp_of (fun _ k9 => g_ift rfl (show (0 : Int32) ≤ y from Int32.not_lt.mp h2) k9) ?_
      refine gp_n 1 (j' := 16) (lv' := [some (.int x), some (.int y), some (.int q)]) (st' := [.int 0, .int 0]) (h' := h) rfl ?_
      refine gp_of (fun _ k9 => g_ict rfl (show (0 : Int32) = (0 : Int32) from by decide) k9) ?_
      refine gp_n 1 (j' := 21) (lv' := [some (.int x), some (.int y), some (.int q)]) (st' := [.int q]) (h' := h) rfl ?_
      refine gp_done (g_ret rfl) ?_
      rfl
theorem ub_l (x : Int64) {n : Nat} (hn : n < 64) : us6 x (nI n) &&& 1 = if bl x n = true then 1 else 0 := by
  refine bl_ext (fun i hi => ?_)
  rw [bl_and, bl_us n hn, bl_1 i hi]
  by_cases h0 : i = 0
  · subst h0
    rw [decide_eq_true rfl, Bool.and_true, Nat.add_zero]
    cases bl x n
    · exact (bl_0 0 (by decide)).symm
    · exact (bl_1 0 (by decide)).symm
  · rw [decide_eq_false h0, Bool.and_false]
    split
    · rw [bl_1 i hi, decide_eq_false h0]
    · rw [bl_0 i hi]
theorem rsC_ev {x y : Int32} {w : Int64} {t : Bool} {h : PmH} (hw : w = if t = true then 1 else 0) : Ev pmT 89 [.int x, .int y, .long w] h (some (.int (rSm x y t))) h := by
  subst hw
  refine Ev.of (es := cd_89) (ml := 4) (lv := [some (.int x), some (.int y), some (.long (if t = true then 1 else 0)), none]) rfl rfl rfl ?_
  unfold rSm
  refine go_of ?_
  cases t
  · rw [if_neg (by decide), if_neg (by decide)]
    refine gp_n 3 (j' := 3) (lv' := [some (.int x), some (.int y), some (.long 0), none]) (st' := [.int (lg_cmp 0 0)]) (h' := h) rfl ?_
    refine gp_of (fun _ k9 => g_iff rfl (show ¬ (¬ (lg_cmp 0 0) = (0 : Int32)) from by decide) k9) ?_
    refine gp_n 4 (j' := 11) (lv' := [some (.int x), some (.int y), some (.long 0), none]) (st' := [.int (y + x)]) (h' := h) rfl ?_
    refine gp_done (g_ret rfl) ?_
    rfl
  · rw [if_pos rfl, if_pos rfl]
    refine gp_n 3 (j' := 3) (lv' := [some (.int x), some (.int y), some (.long 1), none]) (st' := [.int (lg_cmp 1 0)]) (h' := h) rfl ?_
    refine gp_of (fun _ k9 => g_ift rfl (show ¬ (lg_cmp 1 0) = (0 : Int32) from by decide) k9) ?_
    refine gp_n 3 (j' := 11) (lv' := [some (.int x), some (.int y), some (.long 1), none]) (st' := [.int (y - x)]) (h' := h) rfl ?_
    refine gp_done (g_ret rfl) ?_
    rfl
theorem rl_in {z f t0 : Nat} {vl vp : Int32}  {fl : Nat → Nat → Int64} {fr : Nat → Nat → Option Nat} {X : Nat → Int32} (hz : z ≤ 32) (ht : t0 + z ≤ f) (hf : f + 2 * z ≤ 1016) (kS : fr 13 9 = some 27) : ∀ (n j : Nat) (fi : Nat → Nat → Int32), j + n = z → (∀ t, t < 2 * z → fi 27 (f + t) = X t) → ∃ fi', (∀ t, j ≤ t → t < z → fi' 27 (t0 + t) = lSm (X t) (X (t + z))) ∧ (∀ p s, ¬ (p = 27 ∧ t0 + j ≤ s ∧ s < t0 + z) → fi' p s = fi p s) ∧ ∀ r, Go pmT none cd_94 50 [some (.ref 13), some (.int vl), some (.int (nI z)), some (.int vp), some (.int (nI f)), some (.int (nI t0)), some (.int (nI z))] [] (shT, fi', fl, fr) r → Go pmT none cd_94 24 [some (.ref 13), some (.int vl), some (.int (nI z)), some (.int vp), some (.int (nI f)), some (.int (nI t0)), some (.int (nI j))] [] (shT, fi, fl, fr) r := by
  intro n
  induction n with
  | zero =>
    intro j fi hj hX
    have hj : j = z := by omega
    subst hj
    refine ⟨fi, fun t h1 h2 => absurd h2 (by omega), fun _ _ _ => rfl, fun r k => ?_⟩
    refine go_of ?_
    refine gp_n 2 (j' := 26) (lv' := [some (.ref 13), some (.int vl), some (.int (nI j)), some (.int vp), some (.int (nI f)), some (.int (nI t0)), some (.int (nI j))]) (st' := [.int (nI j), .int (nI j)]) (h' := (shT, fi, fl, fr)) rfl ?_
    refine gp_of (fun _ k9 => g_ict rfl (show (nI j) ≤ (nI j) from Int32.le_refl _) k9) ?_
    exact gp_done k rfl
  | succ n ih =>
    intro j fi hj hX
    have xj := hX j (by omega)
    have yj := hX (j + z) (by omega)
    rw [show f + (j + z) = f + z + j by omega] at yj
    obtain ⟨fi', a1, a2, a3⟩ := ih (j + 1) (pm_u2 fi 27 (t0 + j) (lSm (X j) (X (j + z)))) (by omega) (fun t ht2 => (show pm_u2 fi 27 (t0 + j) (lSm (X j) (X (j + z))) 27 (f + t) = fi 27 (f + t) from wl_ne (by omega)).trans (hX t ht2))
    refine ⟨fi', fun t h1 h2 => ?_, fun p s hp => (a2 p s (by omega)).trans (wl_ne (by omega)), fun r k => ?_⟩
    · by_cases e : t = j
      · subst e
        exact (a2 27 (t0 + t) (by omega)).trans u2_eq
      · exact a1 t (by omega) h2
    have g := a3 r k
    have i3 : nI f + nI z + nI j = nI (f + z + j) := by rw [nI_add, nI_add]
    have cl := fun fi2 => lsC_ev (x := X j) (y := X (j + z)) (h := (shT, fi2, fl, fr))
    generalize X j = x at *
    generalize X (j + z) = v at *
    generalize lSm (x) (v) = q at *
    refine go_of ?_
    refine gp_n 2 (j' := 26) (lv' := [some (.ref 13), some (.int vl), some (.int (nI z)), some (.int vp), some (.int (nI f)), some (.int (nI t0)), some (.int (nI j))]) (st' := [.int (nI z), .int (nI j)]) (h' := (shT, fi, fl, fr)) rfl ?_
    refine gp_of (fun _ k9 => g_icf rfl (show ¬ ((nI z) ≤ (nI j)) from nI_ge (by omega) (by omega)) k9) ?_
    refine gp_n 1 (j' := 28) (lv' := [some (.ref 13), some (.int vl), some (.int (nI z)), some (.int vp), some (.int (nI f)), some (.int (nI t0)), some (.int (nI j))]) (st' := [.ref 13]) (h' := (shT, fi, fl, fr)) rfl ?_
    refine gp_of (fun _ k9 => g_getR (q' := 27) rfl rfl (by decide) kS k9) ?_
    refine gp_n 4 (j' := 33) (lv' := [some (.ref 13), some (.int vl), some (.int (nI z)), some (.int vp), some (.int (nI f)), some (.int (nI t0)), some (.int (nI j))]) (st' := [.ref 13, .int ((nI t0) + (nI j)), .ref 27]) (h' := (shT, fi, fl, fr)) rfl ?_
    refine gp_of (fun _ k9 => g_getR (q' := 27) rfl rfl (by decide) kS k9) ?_
    refine gp_n 3 (j' := 37) (lv' := [some (.ref 13), some (.int vl), some (.int (nI z)), some (.int vp), some (.int (nI f)), some (.int (nI t0)), some (.int (nI j))]) (st' := [.int ((nI f) + (nI j)), .ref 27, .int ((nI t0) + (nI j)), .ref 27]) (h' := (shT, fi, fl, fr)) rfl ?_
    refine gp_of (fun _ k9 => g_iald (k := f + j) (x := x) rfl rfl (nI_add f j) (by omega) (by decide) (xj) k9) ?_
    refine gp_n 1 (j' := 39) (lv' := [some (.ref 13), some (.int vl), some (.int (nI z)), some (.int vp), some (.int (nI f)), some (.int (nI t0)), some (.int (nI j))]) (st' := [.ref 13, .int x, .int ((nI t0) + (nI j)), .ref 27]) (h' := (shT, fi, fl, fr)) rfl ?_
    refine gp_of (fun _ k9 => g_getR (q' := 27) rfl rfl (by decide) kS k9) ?_
    refine gp_n 5 (j' := 45) (lv' := [some (.ref 13), some (.int vl), some (.int (nI z)), some (.int vp), some (.int (nI f)), some (.int (nI t0)), some (.int (nI j))]) (st' := [.int (((nI f) + (nI z)) + (nI j)), .ref 27, .int x, .int ((nI t0) + (nI j)), .ref 27]) (h' := (shT, fi, fl, fr)) rfl ?_
    refine gp_of (fun _ k9 => g_iald (k := f + z + j) (x := v) rfl rfl (i3) (by omega) (by decide) (yj) k9) ?_
    refine gp_of (fun _ k9 => g_call (y := 95) (as := [.int x, .int v]) (st' := [.int ((nI t0) + (nI j)), .ref 27]) rfl rfl (cl _) k9) ?_
    refine gp_of (fun _ k9 => g_iast (k := t0 + j) rfl rfl (nI_add t0 j) (by omega) (by decide) k9) ?_
    refine gp_n 2 (j' := 24) (lv' := [some (.ref 13), some (.int vl), some (.int (nI z)), some (.int vp), some (.int (nI f)), some (.int (nI t0)), some (.int ((nI j) + 1))]) (st' := []) (h' := (shT, pm_u2 fi 27 (t0 + j) q, fl, fr)) rfl ?_
    rw [nI_1]
    exact gp_done g rfl
theorem rr_in {z f t0 : Nat} {vl vp : Int32} {vc : Int32} {y : Int64} {fl : Nat → Nat → Int64} {fr : Nat → Nat → Option Nat} {X : Nat → Int32} (hz : z ≤ 32) (ht : t0 + z ≤ f) (hf : f + 2 * z ≤ 1016) (kS : fr 13 9 = some 27) : ∀ (n j : Nat) (fi : Nat → Nat → Int32), j + n = z → (∀ t, t < 2 * z → fi 27 (f + t) = X t) → ∃ fi', (∀ t, j ≤ t → t < z → fi' 27 (t0 + t) = rSm (X t) (X (t + z)) (bl y t)) ∧ (∀ p s, ¬ (p = 27 ∧ t0 + j ≤ s ∧ s < t0 + z) → fi' p s = fi p s) ∧ ∀ r, Go pmT none cd_87 70 [some (.ref 13), some (.int vl), some (.int vc), some (.int (nI z)), some (.int vp), some (.int (nI f)), some (.int (nI t0)), some (.long y), none, some (.int (nI z))] [] (shT, fi', fl, fr) r → Go pmT none cd_87 39 [some (.ref 13), some (.int vl), some (.int vc), some (.int (nI z)), some (.int vp), some (.int (nI f)), some (.int (nI t0)), some (.long y), none, some (.int (nI j))] [] (shT, fi, fl, fr) r := by
  intro n
  induction n with
  | zero =>
    intro j fi hj hX
    have hj : j = z := by omega
    subst hj
    refine ⟨fi, fun t h1 h2 => absurd h2 (by omega), fun _ _ _ => rfl, fun r k => ?_⟩
    refine go_of ?_
    refine gp_n 2 (j' := 41) (lv' := [some (.ref 13), some (.int vl), some (.int vc), some (.int (nI j)), some (.int vp), some (.int (nI f)), some (.int (nI t0)), some (.long y), none, some (.int (nI j))]) (st' := [.int (nI j), .int (nI j)]) (h' := (shT, fi, fl, fr)) rfl ?_
    refine gp_of (fun _ k9 => g_ict rfl (show (nI j) ≤ (nI j) from Int32.le_refl _) k9) ?_
    exact gp_done k rfl
  | succ n ih =>
    intro j fi hj hX
    have xj := hX j (by omega)
    have yj := hX (j + z) (by omega)
    rw [show f + (j + z) = f + z + j by omega] at yj
    obtain ⟨fi', a1, a2, a3⟩ := ih (j + 1) (pm_u2 fi 27 (t0 + j) (rSm (X j) (X (j + z)) (bl y j))) (by omega) (fun t ht2 => (show pm_u2 fi 27 (t0 + j) (rSm (X j) (X (j + z)) (bl y j)) 27 (f + t) = fi 27 (f + t) from wl_ne (by omega)).trans (hX t ht2))
    refine ⟨fi', fun t h1 h2 => ?_, fun p s hp => (a2 p s (by omega)).trans (wl_ne (by omega)), fun r k => ?_⟩
    · by_cases e : t = j
      · subst e
        exact (a2 27 (t0 + t) (by omega)).trans u2_eq
      · exact a1 t (by omega) h2
    have g := a3 r k
    have i3 : nI f + nI z + nI j = nI (f + z + j) := by rw [nI_add, nI_add]
    have cl := fun fi2 => rsC_ev (x := X j) (y := X (j + z)) (h := (shT, fi2, fl, fr)) (ub_l y (n := j) (by omega))
    unfold us6 at cl
    generalize X j = x at *
    generalize X (j + z) = v at *
    generalize rSm (x) (v) (bl y j) = q at *
    refine go_of ?_
    refine gp_n 2 (j' := 41) (lv' := [some (.ref 13), some (.int vl), some (.int vc), some (.int (nI z)), some (.int vp), some (.int (nI f)), some (.int (nI t0)), some (.long y), none, some (.int (nI j))]) (st' := [.int (nI z), .int (nI j)]) (h' := (shT, fi, fl, fr)) rfl ?_
    refine gp_of (fun _ k9 => g_icf rfl (show ¬ ((nI z) ≤ (nI j)) from nI_ge (by omega) (by omega)) k9) ?_
    refine gp_n 1 (j' := 43) (lv' := [some (.ref 13), some (.int vl), some (.int vc), some (.int (nI z)), some (.int vp), some (.int (nI f)), some (.int (nI t0)), some (.long y), none, some (.int (nI j))]) (st' := [.ref 13]) (h' := (shT, fi, fl, fr)) rfl ?_
    refine gp_of (fun _ k9 => g_getR (q' := 27) rfl rfl (by decide) kS k9) ?_
    refine gp_n 4 (j' := 48) (lv' := [some (.ref 13), some (.int vl), some (.int vc), some (.int (nI z)), some (.int vp), some (.int (nI f)), some (.int (nI t0)), some (.long y), none, some (.int (nI j))]) (st' := [.ref 13, .int ((nI t0) + (nI j)), .ref 27]) (h' := (shT, fi, fl, fr)) rfl ?_
    refine gp_of (fun _ k9 => g_getR (q' := 27) rfl rfl (by decide) kS k9) ?_
    refine gp_n 3 (j' := 52) (lv' := [some (.ref 13), some (.int vl), some (.int vc), some (.int (nI z)), some (.int vp), some (.int (nI f)), some (.int (nI t0)), some (.long y), none, some (.int (nI j))]) (st' := [.int ((nI f) + (nI j)), .ref 27, .int ((nI t0) + (nI j)), .ref 27]) (h' := (shT, fi, fl, fr)) rfl ?_
    refine gp_of (fun _ k9 => g_iald (k := f + j) (x := x) rfl rfl (nI_add f j) (by omega) (by decide) (xj) k9) ?_
    refine gp_n 1 (j' := 54) (lv' := [some (.ref 13), some (.int vl), some (.int vc), some (.int (nI z)), some (.int vp), some (.int (nI f)), some (.int (nI t0)), some (.long y), none, some (.int (nI j))]) (st' := [.ref 13, .int x, .int ((nI t0) + (nI j)), .ref 27]) (h' := (shT, fi, fl, fr)) rfl ?_
    refine gp_of (fun _ k9 => g_getR (q' := 27) rfl rfl (by decide) kS k9) ?_
    refine gp_n 5 (j' := 60) (lv' := [some (.ref 13), some (.int vl), some (.int vc), some (.int (nI z)), some (.int vp), some (.int (nI f)), some (.int (nI t0)), some (.long y), none, some (.int (nI j))]) (st' := [.int (((nI f) + (nI z)) + (nI j)), .ref 27, .int x, .int ((nI t0) + (nI j)), .ref 27]) (h' := (shT, fi, fl, fr)) rfl ?_
    refine gp_of (fun _ k9 => g_iald (k := f + z + j) (x := v) rfl rfl (i3) (by omega) (by decide) (yj) k9) ?_
    refine gp_n 5 (j' := 66) (lv' := [some (.ref 13), some (.int vl), some (.int vc), some (.int (nI z)), some (.int vp), some (.int (nI f)), some (.int (nI t0)), some (.long y), none, some (.int (nI j))]) (st' := [.long (((y.toUInt64 >>> ((nI j : Int32).toInt64.toUInt64 &&& Int64.toUInt64 63)).toInt64) &&& 1), .int v, .int x, .int ((nI t0) + (nI j)), .ref 27]) (h' := (shT, fi, fl, fr)) rfl ?_
    refine gp_of (fun _ k9 => g_call (y := 89) (as := [.int x, .int v, .long (((y.toUInt64 >>> ((nI j : Int32).toInt64.toUInt64 &&& Int64.toUInt64 63)).toInt64) &&& 1)]) (st' := [.int ((nI t0) + (nI j)), .ref 27]) rfl rfl (cl _) k9) ?_
    refine gp_of (fun _ k9 => g_iast (k := t0 + j) rfl rfl (nI_add t0 j) (by omega) (by decide) k9) ?_
    refine gp_n 2 (j' := 39) (lv' := [some (.ref 13), some (.int vl), some (.int vc), some (.int (nI z)), some (.int vp), some (.int (nI f)), some (.int (nI t0)), some (.long y), none, some (.int ((nI j) + 1))]) (st' := []) (h' := (shT, pm_u2 fi 27 (t0 + j) q, fl, fr)) rfl ?_
    rw [nI_1]
    exact gp_done g rfl
theorem nI_sub {a b : Nat} (h : b ≤ a) (ha : a < 2 ^ 31) : nI a - nI b = nI (a - b) := by
  have := nI_add (a - b) b
  rw [Nat.sub_add_cancel h] at this
  rw [← this]
  apply Int32.toBitVec_inj.mp
  rw [Int32.toBitVec_sub, Int32.toBitVec_add, BitVec.add_sub_cancel]
theorem lfb_bl2 {w x : Int64} {B q : Nat} (hq : q ≤ 5) (hB : B < 64) (hx : x = us6 w (nI B) &&& lwb (2 ^ q)) : (∀ i, 2 ^ q ≤ i → bl x i = false) ∧ ∀ i, i < 64 → bfN 0 q (bl x) i = lfb (bl w) B q i := by
  have p := pw2_le (a := q) (b := 5) hq
  refine lfb_bl hq hB (hx.trans ?_)
  unfold lwb
  rw [if_neg (by omega)]
theorem rl_go_14 {l P : Nat} {fl : Nat → Nat → Int64} {fr : Nat → Nat → Option Nat} {X : Nat → Nat → Int32} (hl : l ≤ 5) (hP : P ≤ 8) (k0 : fr 13 0 = some 14) (k3 : fr 14 3 = some 17) (kS : fr 13 9 = some 27) : ∀ (n p : Nat) (fi : Nat → Nat → Int32), p + n = P → fi 14 0 = nI P → (∀ p', p ≤ p' → p' < P → ∃ r, r < 8 ∧ fi 17 (8 * (l + 1) + p') = nI r ∧ ∀ t, t < 2 * 2 ^ l → fi 27 (ixS (l + 1) r + t) = X p' t) → ∃ fi', (∀ p', p ≤ p' → p' < P → fi' 17 (8 * l + p') = nI p' ∧ ∀ t, t < 2 ^ l → fi' 27 (ixS l p' + t) = lSm (X p' t) (X p' (t + 2 ^ l))) ∧ (∀ q s, ¬ (q = 27 ∧ ixS l p ≤ s ∧ s < ixS (l + 1) 0) → ¬ (q = 17 ∧ 8 * l + p ≤ s ∧ s < 8 * l + 8) → fi' q s = fi q s) ∧ ∀ r, (∀ l4 l5 l6, Go pmT none cd_94 62 [some (.ref 13), some (.int (nI l)), some (.int (nI (2 ^ l))), some (.int (nI P)), l4, l5, l6] [] (shT, fi', fl, fr) r) → ∀ l4 l5 l6, Go pmT none cd_94 6 [some (.ref 13), some (.int (nI l)), some (.int (nI (2 ^ l))), some (.int (nI p)), l4, l5, l6] [] (shT, fi, fl, fr) r := by
  intro n
  have pz := pw2_le (a := l) (b := 5) hl
  induction n with
  | zero =>
    intro p fi hp cP hX
    have hp : p = P := by omega
    subst hp
    refine ⟨fi, fun p' h1 h2 => absurd h2 (by omega), fun _ _ _ _ => rfl, fun r k l4 l5 l6 => ?_⟩
    generalize nI (2 ^ l) = z at *
    refine go_of ?_
    refine gp_n 2 (j' := 8) (lv' := [some (.ref 13), some (.int (nI l)), some (.int z), some (.int (nI p)), l4, l5, l6]) (st' := [.ref 13, .int (nI p)]) (h' := (shT, fi, fl, fr)) rfl ?_
    refine gp_of (fun _ k9 => g_getR (q' := 14) rfl rfl (by decide) k0 k9) ?_
    refine gp_of (fun _ k9 => g_getI (x := nI p) rfl (Or.inl rfl) rfl (by decide) (cP) k9) ?_
    refine gp_of (fun _ k9 => g_ict rfl (show (nI p) ≤ (nI p) from Int32.le_refl _) k9) ?_
    exact gp_done (k _ _ _) rfl
  | succ n ih =>
    intro p fi hp cP hX
    obtain ⟨r, r1, r2, r3⟩ := hX p (Nat.le_refl _) (by omega)
    have t1 := ixS_le (l := l) (r := p) (k := l + 1) (by omega) (by omega)
    have t2 := ixS_mono (l := l + 1) (Nat.zero_le r)
    have t3 := ixS_top (l := l + 1) (r := r) (by omega) r1
    have e3 : 2 ^ (l + 1) = 2 * 2 ^ l := by rw [Nat.pow_succ]; omega
    have ps := ps_ev_14 (l := l + 1) (p := p) (fl := fl) (by omega) (by omega) r1 k0 k3 r2
    have ow := ow_ev (l := l) (p := p) (h := (shT, fi, fl, fr)) (by omega) (by omega)
    obtain ⟨f1, i1, i2, i3⟩ := rl_in (z := 2 ^ l) (f := ixS (l + 1) r) (t0 := ixS l p) (vl := nI l) (vp := nI p) (fl := fl) (fr := fr) (X := X p) pz (by omega) (by omega) kS (2 ^ l) 0 fi (by omega) r3
    obtain ⟨f2, b1, b2, b3⟩ := ih (p + 1) (pm_u2 f1 17 (8 * l + p) (nI p)) (by omega) ((show pm_u2 f1 17 (8 * l + p) (nI p) 14 0 = f1 14 0 from wl_ne (by omega)).trans ((i2 14 0 (by omega)).trans cP)) (fun p' h1 h2 => by
      obtain ⟨r', q1, q2, q3⟩ := hX p' (by omega) h2
      have t4 := ixS_mono (l := l + 1) (Nat.zero_le r')
      exact ⟨r', q1, (show pm_u2 f1 17 (8 * l + p) (nI p) 17 (8 * (l + 1) + p') = f1 17 (8 * (l + 1) + p') from wl_ne (by omega)).trans ((i2 17 _ (by omega)).trans q2), fun t ht => (show pm_u2 f1 17 (8 * l + p) (nI p) 27 (ixS (l + 1) r' + t) = f1 27 (ixS (l + 1) r' + t) from wl_ne (by omega)).trans ((i2 27 _ (by omega)).trans (q3 t ht))⟩)
    have s1 := ixS_s l p
    refine ⟨f2, fun p' h1 h2 => ?_, fun q s z1 z2 => (b2 q s (by omega) (by omega)).trans ((show pm_u2 f1 17 (8 * l + p) (nI p) q s = f1 q s from wl_ne (by omega)).trans (i2 q s (by omega))), fun r' k l4 l5 l6 => ?_⟩
    · by_cases e : p' = p
      · subst e
        refine ⟨(b2 17 _ (by omega) (by omega)).trans u2_eq, fun t ht => ?_⟩
        refine (b2 27 _ (by omega) (by omega)).trans ((show pm_u2 f1 17 (8 * l + p') (nI p') 27 (ixS l p' + t) = f1 27 (ixS l p' + t) from wl_ne (by omega)).trans ((i1 t (Nat.zero_le t) ht).trans ?_))
        rfl
      · exact b1 p' (by omega) h2
    have b4 := b3 r' k
    have i4 := i3 r'
    have i8 := ix8_e l (by omega) p (by omega)
    clear b3 i3 ih b1 b2 hX
    generalize ixS (l + 1) r = f at *
    generalize ixS l p = t0 at *
    generalize nI (2 ^ l) = z at *
    have g := i4 (by
      refine go_of ?_
      refine gp_n 1 (j' := 51) (lv' := [some (.ref 13), some (.int (nI l)), some (.int z), some (.int (nI p)), some (.int (nI f)), some (.int (nI t0)), some (.int z)]) (st' := [.ref 13]) (h' := (shT, f1, fl, fr)) rfl ?_
      refine gp_of (fun _ k9 => g_getR (q' := 14) rfl rfl (by decide) k0 k9) ?_
      refine gp_of (fun _ k9 => g_getR (q' := 17) rfl rfl (by decide) k3 k9) ?_
      refine gp_n 6 (j' := 59) (lv' := [some (.ref 13), some (.int (nI l)), some (.int z), some (.int (nI p)), some (.int (nI f)), some (.int (nI t0)), some (.int z)]) (st' := [.int (nI p), .int (((nI l) * 8) + (nI p)), .ref 17]) (h' := (shT, f1, fl, fr)) rfl ?_
      refine gp_of (fun _ k9 => g_iast (k := 8 * l + p) rfl rfl (i8) (by omega) (by decide) k9) ?_
      refine gp_n 2 (j' := 6) (lv' := [some (.ref 13), some (.int (nI l)), some (.int z), some (.int ((nI p) + 1)), some (.int (nI f)), some (.int (nI t0)), some (.int z)]) (st' := []) (h' := (shT, pm_u2 f1 17 (8 * l + p) (nI p), fl, fr)) rfl ?_
      rw [nI_1]
      exact gp_done (b4 _ _ _) rfl)
    refine go_of ?_
    refine gp_n 2 (j' := 8) (lv' := [some (.ref 13), some (.int (nI l)), some (.int z), some (.int (nI p)), l4, l5, l6]) (st' := [.ref 13, .int (nI p)]) (h' := (shT, fi, fl, fr)) rfl ?_
    refine gp_of (fun _ k9 => g_getR (q' := 14) rfl rfl (by decide) k0 k9) ?_
    refine gp_of (fun _ k9 => g_getI (x := nI P) rfl (Or.inl rfl) rfl (by decide) (cP) k9) ?_
    refine gp_of (fun _ k9 => g_icf rfl (show ¬ ((nI P) ≤ (nI p)) from nI_ge (by omega) (by omega)) k9) ?_
    refine gp_n 4 (j' := 15) (lv' := [some (.ref 13), some (.int (nI l)), some (.int z), some (.int (nI p)), l4, l5, l6]) (st' := [.int ((nI l) + 1), .ref 13]) (h' := (shT, fi, fl, fr)) rfl ?_
    rw [nI_1]
    refine gp_n 1 (j' := 16) (lv' := [some (.ref 13), some (.int (nI l)), some (.int z), some (.int (nI p)), l4, l5, l6]) (st' := [.int (nI p), .int (nI (l + 1)), .ref 13]) (h' := (shT, fi, fl, fr)) rfl ?_
    refine gp_of (fun _ k9 => g_call (y := 88) (as := [.ref 13, .int (nI (l + 1)), .int (nI p)]) (st' := []) rfl rfl (ps) k9) ?_
    refine gp_n 3 (j' := 20) (lv' := [some (.ref 13), some (.int (nI l)), some (.int z), some (.int (nI p)), some (.int (nI f)), l5, l6]) (st' := [.int (nI p), .int (nI l)]) (h' := (shT, fi, fl, fr)) rfl ?_
    refine gp_of (fun _ k9 => g_call (y := 84) (as := [.int (nI l), .int (nI p)]) (st' := []) rfl rfl (ow) k9) ?_
    refine gp_n 3 (j' := 24) (lv' := [some (.ref 13), some (.int (nI l)), some (.int z), some (.int (nI p)), some (.int (nI f)), some (.int (nI t0)), some (.int (nI 0))]) (st' := []) (h' := (shT, fi, fl, fr)) rfl ?_
    exact gp_done g rfl
theorem rr_go_14 {l P : Nat} {c : Nat} {B : Nat → Int64} {fl : Nat → Nat → Int64} {fr : Nat → Nat → Option Nat} {X : Nat → Nat → Int32} (hl : l ≤ 5) (hP : P ≤ 8) (k0 : fr 13 0 = some 14) (k3 : fr 14 3 = some 17) (kS : fr 13 9 = some 27) (hc1 : 2 ^ l ≤ c) (hc2 : c < 64) (kB : fr 14 1 = some 15) (hB : ∀ p, p < P → fl 15 p = B p) : ∀ (n p : Nat) (fi : Nat → Nat → Int32), p + n = P → fi 14 0 = nI P → (∀ p', p ≤ p' → p' < P → ∃ r, r < 8 ∧ fi 17 (8 * (l + 1) + p') = nI r ∧ ∀ t, t < 2 * 2 ^ l → fi 27 (ixS (l + 1) r + t) = X p' t) → ∃ fi', (∀ p', p ≤ p' → p' < P → fi' 17 (8 * l + p') = nI p' ∧ ∀ t, t < 2 ^ l → fi' 27 (ixS l p' + t) = rSm (X p' t) (X p' (t + 2 ^ l)) (lfb (bl (B p')) (c - 2 ^ l) l t)) ∧ (∀ q s, ¬ (q = 27 ∧ ixS l p ≤ s ∧ s < ixS (l + 1) 0) → ¬ (q = 17 ∧ 8 * l + p ≤ s ∧ s < 8 * l + 8) → fi' q s = fi q s) ∧ ∀ r, (∀ l5 l6 l7 l8 l9, Go pmT none cd_87 82 [some (.ref 13), some (.int (nI l)), some (.int (nI c)), some (.int (nI (2 ^ l))), some (.int (nI P)), l5, l6, l7, l8, l9] [] (shT, fi', fl, fr) r) → ∀ l5 l6 l7 l8 l9, Go pmT none cd_87 6 [some (.ref 13), some (.int (nI l)), some (.int (nI c)), some (.int (nI (2 ^ l))), some (.int (nI p)), l5, l6, l7, l8, l9] [] (shT, fi, fl, fr) r := by
  intro n
  have pz := pw2_le (a := l) (b := 5) hl
  induction n with
  | zero =>
    intro p fi hp cP hX
    have hp : p = P := by omega
    subst hp
    refine ⟨fi, fun p' h1 h2 => absurd h2 (by omega), fun _ _ _ _ => rfl, fun r k l5 l6 l7 l8 l9 => ?_⟩
    generalize nI (2 ^ l) = z at *
    refine go_of ?_
    refine gp_n 2 (j' := 8) (lv' := [some (.ref 13), some (.int (nI l)), some (.int (nI c)), some (.int z), some (.int (nI p)), l5, l6, l7, l8, l9]) (st' := [.ref 13, .int (nI p)]) (h' := (shT, fi, fl, fr)) rfl ?_
    refine gp_of (fun _ k9 => g_getR (q' := 14) rfl rfl (by decide) k0 k9) ?_
    refine gp_of (fun _ k9 => g_getI (x := nI p) rfl (Or.inl rfl) rfl (by decide) (cP) k9) ?_
    refine gp_of (fun _ k9 => g_ict rfl (show (nI p) ≤ (nI p) from Int32.le_refl _) k9) ?_
    exact gp_done (k _ _ _ _ _) rfl
  | succ n ih =>
    intro p fi hp cP hX
    obtain ⟨r, r1, r2, r3⟩ := hX p (Nat.le_refl _) (by omega)
    have t1 := ixS_le (l := l) (r := p) (k := l + 1) (by omega) (by omega)
    have t2 := ixS_mono (l := l + 1) (Nat.zero_le r)
    have t3 := ixS_top (l := l + 1) (r := r) (by omega) r1
    have e3 : 2 ^ (l + 1) = 2 * 2 ^ l := by rw [Nat.pow_succ]; omega
    have ps := ps_ev_14 (l := l + 1) (p := p) (fl := fl) (by omega) (by omega) r1 k0 k3 r2
    have ow := ow_ev (l := l) (p := p) (h := (shT, fi, fl, fr)) (by omega) (by omega)
    obtain ⟨x1, x2⟩ := lfb_bl2 (w := B p) (q := l) (B := c - 2 ^ l) hl (by omega) rfl
    obtain ⟨y, y1, y2⟩ := bf_ev (m := l) (by omega) (h := (shT, fi, fl, fr)) (x := us6 (B p) (nI (c - 2 ^ l)) &&& lwb (2 ^ l))
    have lw := lwb_ev (k := 2 ^ l) (by omega) (h := (shT, fi, fl, fr))
    have bp := hB p (by omega)
    have cs : nI c - nI (2 ^ l) = nI (c - 2 ^ l) := nI_sub hc1 (by omega)
    unfold us6 at y1
    obtain ⟨f1, i1, i2, i3⟩ := rr_in (z := 2 ^ l) (f := ixS (l + 1) r) (t0 := ixS l p) (vl := nI l) (vp := nI p) (vc := nI c) (y := y) (fl := fl) (fr := fr) (X := X p) pz (by omega) (by omega) kS (2 ^ l) 0 fi (by omega) r3
    obtain ⟨f2, b1, b2, b3⟩ := ih (p + 1) (pm_u2 f1 17 (8 * l + p) (nI p)) (by omega) ((show pm_u2 f1 17 (8 * l + p) (nI p) 14 0 = f1 14 0 from wl_ne (by omega)).trans ((i2 14 0 (by omega)).trans cP)) (fun p' h1 h2 => by
      obtain ⟨r', q1, q2, q3⟩ := hX p' (by omega) h2
      have t4 := ixS_mono (l := l + 1) (Nat.zero_le r')
      exact ⟨r', q1, (show pm_u2 f1 17 (8 * l + p) (nI p) 17 (8 * (l + 1) + p') = f1 17 (8 * (l + 1) + p') from wl_ne (by omega)).trans ((i2 17 _ (by omega)).trans q2), fun t ht => (show pm_u2 f1 17 (8 * l + p) (nI p) 27 (ixS (l + 1) r' + t) = f1 27 (ixS (l + 1) r' + t) from wl_ne (by omega)).trans ((i2 27 _ (by omega)).trans (q3 t ht))⟩)
    have s1 := ixS_s l p
    refine ⟨f2, fun p' h1 h2 => ?_, fun q s z1 z2 => (b2 q s (by omega) (by omega)).trans ((show pm_u2 f1 17 (8 * l + p) (nI p) q s = f1 q s from wl_ne (by omega)).trans (i2 q s (by omega))), fun r' k l5 l6 l7 l8 l9 => ?_⟩
    · by_cases e : p' = p
      · subst e
        refine ⟨(b2 17 _ (by omega) (by omega)).trans u2_eq, fun t ht => ?_⟩
        refine (b2 27 _ (by omega) (by omega)).trans ((show pm_u2 f1 17 (8 * l + p') (nI p') 27 (ixS l p' + t) = f1 27 (ixS l p' + t) from wl_ne (by omega)).trans ((i1 t (Nat.zero_le t) ht).trans ?_))
        rw [y2 t (by omega), x2 t (by omega)]
      · exact b1 p' (by omega) h2
    have b4 := b3 r' k
    have i4 := i3 r'
    have i8 := ix8_e l (by omega) p (by omega)
    clear b3 i3 ih b1 b2 hX
    generalize ixS (l + 1) r = f at *
    generalize ixS l p = t0 at *
    generalize lwb (2 ^ l) = W at *
    generalize nI (2 ^ l) = z at *
    have g := i4 (by
      refine go_of ?_
      refine gp_n 1 (j' := 71) (lv' := [some (.ref 13), some (.int (nI l)), some (.int (nI c)), some (.int z), some (.int (nI p)), some (.int (nI f)), some (.int (nI t0)), some (.long y), none, some (.int z)]) (st' := [.ref 13]) (h' := (shT, f1, fl, fr)) rfl ?_
      refine gp_of (fun _ k9 => g_getR (q' := 14) rfl rfl (by decide) k0 k9) ?_
      refine gp_of (fun _ k9 => g_getR (q' := 17) rfl rfl (by decide) k3 k9) ?_
      refine gp_n 6 (j' := 79) (lv' := [some (.ref 13), some (.int (nI l)), some (.int (nI c)), some (.int z), some (.int (nI p)), some (.int (nI f)), some (.int (nI t0)), some (.long y), none, some (.int z)]) (st' := [.int (nI p), .int (((nI l) * 8) + (nI p)), .ref 17]) (h' := (shT, f1, fl, fr)) rfl ?_
      refine gp_of (fun _ k9 => g_iast (k := 8 * l + p) rfl rfl (i8) (by omega) (by decide) k9) ?_
      refine gp_n 2 (j' := 6) (lv' := [some (.ref 13), some (.int (nI l)), some (.int (nI c)), some (.int z), some (.int ((nI p) + 1)), some (.int (nI f)), some (.int (nI t0)), some (.long y), none, some (.int z)]) (st' := []) (h' := (shT, pm_u2 f1 17 (8 * l + p) (nI p), fl, fr)) rfl ?_
      rw [nI_1]
      exact gp_done (b4 _ _ _ _ _) rfl)
    refine go_of ?_
    refine gp_n 2 (j' := 8) (lv' := [some (.ref 13), some (.int (nI l)), some (.int (nI c)), some (.int z), some (.int (nI p)), l5, l6, l7, l8, l9]) (st' := [.ref 13, .int (nI p)]) (h' := (shT, fi, fl, fr)) rfl ?_
    refine gp_of (fun _ k9 => g_getR (q' := 14) rfl rfl (by decide) k0 k9) ?_
    refine gp_of (fun _ k9 => g_getI (x := nI P) rfl (Or.inl rfl) rfl (by decide) (cP) k9) ?_
    refine gp_of (fun _ k9 => g_icf rfl (show ¬ ((nI P) ≤ (nI p)) from nI_ge (by omega) (by omega)) k9) ?_
    refine gp_n 4 (j' := 15) (lv' := [some (.ref 13), some (.int (nI l)), some (.int (nI c)), some (.int z), some (.int (nI p)), l5, l6, l7, l8, l9]) (st' := [.int ((nI l) + 1), .ref 13]) (h' := (shT, fi, fl, fr)) rfl ?_
    rw [nI_1]
    refine gp_n 1 (j' := 16) (lv' := [some (.ref 13), some (.int (nI l)), some (.int (nI c)), some (.int z), some (.int (nI p)), l5, l6, l7, l8, l9]) (st' := [.int (nI p), .int (nI (l + 1)), .ref 13]) (h' := (shT, fi, fl, fr)) rfl ?_
    refine gp_of (fun _ k9 => g_call (y := 88) (as := [.ref 13, .int (nI (l + 1)), .int (nI p)]) (st' := []) rfl rfl (ps) k9) ?_
    refine gp_n 3 (j' := 20) (lv' := [some (.ref 13), some (.int (nI l)), some (.int (nI c)), some (.int z), some (.int (nI p)), some (.int (nI f)), l6, l7, l8, l9]) (st' := [.int (nI p), .int (nI l)]) (h' := (shT, fi, fl, fr)) rfl ?_
    refine gp_of (fun _ k9 => g_call (y := 84) (as := [.int (nI l), .int (nI p)]) (st' := []) rfl rfl (ow) k9) ?_
    refine gp_n 2 (j' := 23) (lv' := [some (.ref 13), some (.int (nI l)), some (.int (nI c)), some (.int z), some (.int (nI p)), some (.int (nI f)), some (.int (nI t0)), l7, l8, l9]) (st' := [.ref 13]) (h' := (shT, fi, fl, fr)) rfl ?_
    refine gp_of (fun _ k9 => g_getR (q' := 14) rfl rfl (by decide) k0 k9) ?_
    refine gp_of (fun _ k9 => g_getR (q' := 15) rfl rfl (by decide) kB k9) ?_
    refine gp_n 1 (j' := 26) (lv' := [some (.ref 13), some (.int (nI l)), some (.int (nI c)), some (.int z), some (.int (nI p)), some (.int (nI f)), some (.int (nI t0)), l7, l8, l9]) (st' := [.int (nI p), .ref 15]) (h' := (shT, fi, fl, fr)) rfl ?_
    refine gp_of (fun _ k9 => g_lald (k := p) (x := B p) rfl rfl (rfl) (by omega) (by decide) (bp) k9) ?_
    refine gp_n 3 (j' := 30) (lv' := [some (.ref 13), some (.int (nI l)), some (.int (nI c)), some (.int z), some (.int (nI p)), some (.int (nI f)), some (.int (nI t0)), l7, l8, l9]) (st' := [.int ((nI c) - z), .long (B p)]) (h' := (shT, fi, fl, fr)) rfl ?_
    rw [cs]
    refine gp_n 2 (j' := 32) (lv' := [some (.ref 13), some (.int (nI l)), some (.int (nI c)), some (.int z), some (.int (nI p)), some (.int (nI f)), some (.int (nI t0)), l7, l8, l9]) (st' := [.int z, .long (((B p).toUInt64 >>> ((nI (c - 2 ^ l) : Int32).toInt64.toUInt64 &&& Int64.toUInt64 63)).toInt64)]) (h' := (shT, fi, fl, fr)) rfl ?_
    refine gp_of (fun _ k9 => g_call (y := 54) (as := [.int z]) (st' := [.long (((B p).toUInt64 >>> ((nI (c - 2 ^ l) : Int32).toInt64.toUInt64 &&& Int64.toUInt64 63)).toInt64)]) rfl rfl (lw) k9) ?_
    refine gp_n 2 (j' := 35) (lv' := [some (.ref 13), some (.int (nI l)), some (.int (nI c)), some (.int z), some (.int (nI p)), some (.int (nI f)), some (.int (nI t0)), l7, l8, l9]) (st' := [.int (nI l), .long ((((B p).toUInt64 >>> ((nI (c - 2 ^ l) : Int32).toInt64.toUInt64 &&& Int64.toUInt64 63)).toInt64) &&& W)]) (h' := (shT, fi, fl, fr)) rfl ?_
    refine gp_of (fun _ k9 => g_call (y := 62) (as := [.long ((((B p).toUInt64 >>> ((nI (c - 2 ^ l) : Int32).toInt64.toUInt64 &&& Int64.toUInt64 63)).toInt64) &&& W), .int (nI l)]) (st' := []) rfl rfl (y1) k9) ?_
    refine gp_n 3 (j' := 39) (lv' := [some (.ref 13), some (.int (nI l)), some (.int (nI c)), some (.int z), some (.int (nI p)), some (.int (nI f)), some (.int (nI t0)), some (.long y), none, some (.int (nI 0))]) (st' := []) (h' := (shT, fi, fl, fr)) rfl ?_
    exact gp_done g rfl
theorem rl_go_18 {l P : Nat} {fl : Nat → Nat → Int64} {fr : Nat → Nat → Option Nat} {X : Nat → Nat → Int32} (hl : l ≤ 5) (hP : P ≤ 8) (k0 : fr 13 0 = some 18) (k3 : fr 18 3 = some 21) (kS : fr 13 9 = some 27) : ∀ (n p : Nat) (fi : Nat → Nat → Int32), p + n = P → fi 18 0 = nI P → (∀ p', p ≤ p' → p' < P → ∃ r, r < 8 ∧ fi 21 (8 * (l + 1) + p') = nI r ∧ ∀ t, t < 2 * 2 ^ l → fi 27 (ixS (l + 1) r + t) = X p' t) → ∃ fi', (∀ p', p ≤ p' → p' < P → fi' 21 (8 * l + p') = nI p' ∧ ∀ t, t < 2 ^ l → fi' 27 (ixS l p' + t) = lSm (X p' t) (X p' (t + 2 ^ l))) ∧ (∀ q s, ¬ (q = 27 ∧ ixS l p ≤ s ∧ s < ixS (l + 1) 0) → ¬ (q = 21 ∧ 8 * l + p ≤ s ∧ s < 8 * l + 8) → fi' q s = fi q s) ∧ ∀ r, (∀ l4 l5 l6, Go pmT none cd_94 62 [some (.ref 13), some (.int (nI l)), some (.int (nI (2 ^ l))), some (.int (nI P)), l4, l5, l6] [] (shT, fi', fl, fr) r) → ∀ l4 l5 l6, Go pmT none cd_94 6 [some (.ref 13), some (.int (nI l)), some (.int (nI (2 ^ l))), some (.int (nI p)), l4, l5, l6] [] (shT, fi, fl, fr) r := by
  intro n
  have pz := pw2_le (a := l) (b := 5) hl
  induction n with
  | zero =>
    intro p fi hp cP hX
    have hp : p = P := by omega
    subst hp
    refine ⟨fi, fun p' h1 h2 => absurd h2 (by omega), fun _ _ _ _ => rfl, fun r k l4 l5 l6 => ?_⟩
    generalize nI (2 ^ l) = z at *
    refine go_of ?_
    refine gp_n 2 (j' := 8) (lv' := [some (.ref 13), some (.int (nI l)), some (.int z), some (.int (nI p)), l4, l5, l6]) (st' := [.ref 13, .int (nI p)]) (h' := (shT, fi, fl, fr)) rfl ?_
    refine gp_of (fun _ k9 => g_getR (q' := 18) rfl rfl (by decide) k0 k9) ?_
    refine gp_of (fun _ k9 => g_getI (x := nI p) rfl (Or.inl rfl) rfl (by decide) (cP) k9) ?_
    refine gp_of (fun _ k9 => g_ict rfl (show (nI p) ≤ (nI p) from Int32.le_refl _) k9) ?_
    exact gp_done (k _ _ _) rfl
  | succ n ih =>
    intro p fi hp cP hX
    obtain ⟨r, r1, r2, r3⟩ := hX p (Nat.le_refl _) (by omega)
    have t1 := ixS_le (l := l) (r := p) (k := l + 1) (by omega) (by omega)
    have t2 := ixS_mono (l := l + 1) (Nat.zero_le r)
    have t3 := ixS_top (l := l + 1) (r := r) (by omega) r1
    have e3 : 2 ^ (l + 1) = 2 * 2 ^ l := by rw [Nat.pow_succ]; omega
    have ps := ps_ev_18 (l := l + 1) (p := p) (fl := fl) (by omega) (by omega) r1 k0 k3 r2
    have ow := ow_ev (l := l) (p := p) (h := (shT, fi, fl, fr)) (by omega) (by omega)
    obtain ⟨f1, i1, i2, i3⟩ := rl_in (z := 2 ^ l) (f := ixS (l + 1) r) (t0 := ixS l p) (vl := nI l) (vp := nI p) (fl := fl) (fr := fr) (X := X p) pz (by omega) (by omega) kS (2 ^ l) 0 fi (by omega) r3
    obtain ⟨f2, b1, b2, b3⟩ := ih (p + 1) (pm_u2 f1 21 (8 * l + p) (nI p)) (by omega) ((show pm_u2 f1 21 (8 * l + p) (nI p) 18 0 = f1 18 0 from wl_ne (by omega)).trans ((i2 18 0 (by omega)).trans cP)) (fun p' h1 h2 => by
      obtain ⟨r', q1, q2, q3⟩ := hX p' (by omega) h2
      have t4 := ixS_mono (l := l + 1) (Nat.zero_le r')
      exact ⟨r', q1, (show pm_u2 f1 21 (8 * l + p) (nI p) 21 (8 * (l + 1) + p') = f1 21 (8 * (l + 1) + p') from wl_ne (by omega)).trans ((i2 21 _ (by omega)).trans q2), fun t ht => (show pm_u2 f1 21 (8 * l + p) (nI p) 27 (ixS (l + 1) r' + t) = f1 27 (ixS (l + 1) r' + t) from wl_ne (by omega)).trans ((i2 27 _ (by omega)).trans (q3 t ht))⟩)
    have s1 := ixS_s l p
    refine ⟨f2, fun p' h1 h2 => ?_, fun q s z1 z2 => (b2 q s (by omega) (by omega)).trans ((show pm_u2 f1 21 (8 * l + p) (nI p) q s = f1 q s from wl_ne (by omega)).trans (i2 q s (by omega))), fun r' k l4 l5 l6 => ?_⟩
    · by_cases e : p' = p
      · subst e
        refine ⟨(b2 21 _ (by omega) (by omega)).trans u2_eq, fun t ht => ?_⟩
        refine (b2 27 _ (by omega) (by omega)).trans ((show pm_u2 f1 21 (8 * l + p') (nI p') 27 (ixS l p' + t) = f1 27 (ixS l p' + t) from wl_ne (by omega)).trans ((i1 t (Nat.zero_le t) ht).trans ?_))
        rfl
      · exact b1 p' (by omega) h2
    have b4 := b3 r' k
    have i4 := i3 r'
    have i8 := ix8_e l (by omega) p (by omega)
    clear b3 i3 ih b1 b2 hX
    generalize ixS (l + 1) r = f at *
    generalize ixS l p = t0 at *
    generalize nI (2 ^ l) = z at *
    have g := i4 (by
      refine go_of ?_
      refine gp_n 1 (j' := 51) (lv' := [some (.ref 13), some (.int (nI l)), some (.int z), some (.int (nI p)), some (.int (nI f)), some (.int (nI t0)), some (.int z)]) (st' := [.ref 13]) (h' := (shT, f1, fl, fr)) rfl ?_
      refine gp_of (fun _ k9 => g_getR (q' := 18) rfl rfl (by decide) k0 k9) ?_
      refine gp_of (fun _ k9 => g_getR (q' := 21) rfl rfl (by decide) k3 k9) ?_
      refine gp_n 6 (j' := 59) (lv' := [some (.ref 13), some (.int (nI l)), some (.int z), some (.int (nI p)), some (.int (nI f)), some (.int (nI t0)), some (.int z)]) (st' := [.int (nI p), .int (((nI l) * 8) + (nI p)), .ref 21]) (h' := (shT, f1, fl, fr)) rfl ?_
      refine gp_of (fun _ k9 => g_iast (k := 8 * l + p) rfl rfl (i8) (by omega) (by decide) k9) ?_
      refine gp_n 2 (j' := 6) (lv' := [some (.ref 13), some (.int (nI l)), some (.int z), some (.int ((nI p) + 1)), some (.int (nI f)), some (.int (nI t0)), some (.int z)]) (st' := []) (h' := (shT, pm_u2 f1 21 (8 * l + p) (nI p), fl, fr)) rfl ?_
      rw [nI_1]
      exact gp_done (b4 _ _ _) rfl)
    refine go_of ?_
    refine gp_n 2 (j' := 8) (lv' := [some (.ref 13), some (.int (nI l)), some (.int z), some (.int (nI p)), l4, l5, l6]) (st' := [.ref 13, .int (nI p)]) (h' := (shT, fi, fl, fr)) rfl ?_
    refine gp_of (fun _ k9 => g_getR (q' := 18) rfl rfl (by decide) k0 k9) ?_
    refine gp_of (fun _ k9 => g_getI (x := nI P) rfl (Or.inl rfl) rfl (by decide) (cP) k9) ?_
    refine gp_of (fun _ k9 => g_icf rfl (show ¬ ((nI P) ≤ (nI p)) from nI_ge (by omega) (by omega)) k9) ?_
    refine gp_n 4 (j' := 15) (lv' := [some (.ref 13), some (.int (nI l)), some (.int z), some (.int (nI p)), l4, l5, l6]) (st' := [.int ((nI l) + 1), .ref 13]) (h' := (shT, fi, fl, fr)) rfl ?_
    rw [nI_1]
    refine gp_n 1 (j' := 16) (lv' := [some (.ref 13), some (.int (nI l)), some (.int z), some (.int (nI p)), l4, l5, l6]) (st' := [.int (nI p), .int (nI (l + 1)), .ref 13]) (h' := (shT, fi, fl, fr)) rfl ?_
    refine gp_of (fun _ k9 => g_call (y := 88) (as := [.ref 13, .int (nI (l + 1)), .int (nI p)]) (st' := []) rfl rfl (ps) k9) ?_
    refine gp_n 3 (j' := 20) (lv' := [some (.ref 13), some (.int (nI l)), some (.int z), some (.int (nI p)), some (.int (nI f)), l5, l6]) (st' := [.int (nI p), .int (nI l)]) (h' := (shT, fi, fl, fr)) rfl ?_
    refine gp_of (fun _ k9 => g_call (y := 84) (as := [.int (nI l), .int (nI p)]) (st' := []) rfl rfl (ow) k9) ?_
    refine gp_n 3 (j' := 24) (lv' := [some (.ref 13), some (.int (nI l)), some (.int z), some (.int (nI p)), some (.int (nI f)), some (.int (nI t0)), some (.int (nI 0))]) (st' := []) (h' := (shT, fi, fl, fr)) rfl ?_
    exact gp_done g rfl
theorem rr_go_18 {l P : Nat} {c : Nat} {B : Nat → Int64} {fl : Nat → Nat → Int64} {fr : Nat → Nat → Option Nat} {X : Nat → Nat → Int32} (hl : l ≤ 5) (hP : P ≤ 8) (k0 : fr 13 0 = some 18) (k3 : fr 18 3 = some 21) (kS : fr 13 9 = some 27) (hc1 : 2 ^ l ≤ c) (hc2 : c < 64) (kB : fr 18 1 = some 19) (hB : ∀ p, p < P → fl 19 p = B p) : ∀ (n p : Nat) (fi : Nat → Nat → Int32), p + n = P → fi 18 0 = nI P → (∀ p', p ≤ p' → p' < P → ∃ r, r < 8 ∧ fi 21 (8 * (l + 1) + p') = nI r ∧ ∀ t, t < 2 * 2 ^ l → fi 27 (ixS (l + 1) r + t) = X p' t) → ∃ fi', (∀ p', p ≤ p' → p' < P → fi' 21 (8 * l + p') = nI p' ∧ ∀ t, t < 2 ^ l → fi' 27 (ixS l p' + t) = rSm (X p' t) (X p' (t + 2 ^ l)) (lfb (bl (B p')) (c - 2 ^ l) l t)) ∧ (∀ q s, ¬ (q = 27 ∧ ixS l p ≤ s ∧ s < ixS (l + 1) 0) → ¬ (q = 21 ∧ 8 * l + p ≤ s ∧ s < 8 * l + 8) → fi' q s = fi q s) ∧ ∀ r, (∀ l5 l6 l7 l8 l9, Go pmT none cd_87 82 [some (.ref 13), some (.int (nI l)), some (.int (nI c)), some (.int (nI (2 ^ l))), some (.int (nI P)), l5, l6, l7, l8, l9] [] (shT, fi', fl, fr) r) → ∀ l5 l6 l7 l8 l9, Go pmT none cd_87 6 [some (.ref 13), some (.int (nI l)), some (.int (nI c)), some (.int (nI (2 ^ l))), some (.int (nI p)), l5, l6, l7, l8, l9] [] (shT, fi, fl, fr) r := by
  intro n
  have pz := pw2_le (a := l) (b := 5) hl
  induction n with
  | zero =>
    intro p fi hp cP hX
    have hp : p = P := by omega
    subst hp
    refine ⟨fi, fun p' h1 h2 => absurd h2 (by omega), fun _ _ _ _ => rfl, fun r k l5 l6 l7 l8 l9 => ?_⟩
    generalize nI (2 ^ l) = z at *
    refine go_of ?_
    refine gp_n 2 (j' := 8) (lv' := [some (.ref 13), some (.int (nI l)), some (.int (nI c)), some (.int z), some (.int (nI p)), l5, l6, l7, l8, l9]) (st' := [.ref 13, .int (nI p)]) (h' := (shT, fi, fl, fr)) rfl ?_
    refine gp_of (fun _ k9 => g_getR (q' := 18) rfl rfl (by decide) k0 k9) ?_
    refine gp_of (fun _ k9 => g_getI (x := nI p) rfl (Or.inl rfl) rfl (by decide) (cP) k9) ?_
    refine gp_of (fun _ k9 => g_ict rfl (show (nI p) ≤ (nI p) from Int32.le_refl _) k9) ?_
    exact gp_done (k _ _ _ _ _) rfl
  | succ n ih =>
    intro p fi hp cP hX
    obtain ⟨r, r1, r2, r3⟩ := hX p (Nat.le_refl _) (by omega)
    have t1 := ixS_le (l := l) (r := p) (k := l + 1) (by omega) (by omega)
    have t2 := ixS_mono (l := l + 1) (Nat.zero_le r)
    have t3 := ixS_top (l := l + 1) (r := r) (by omega) r1
    have e3 : 2 ^ (l + 1) = 2 * 2 ^ l := by rw [Nat.pow_succ]; omega
    have ps := ps_ev_18 (l := l + 1) (p := p) (fl := fl) (by omega) (by omega) r1 k0 k3 r2
    have ow := ow_ev (l := l) (p := p) (h := (shT, fi, fl, fr)) (by omega) (by omega)
    obtain ⟨x1, x2⟩ := lfb_bl2 (w := B p) (q := l) (B := c - 2 ^ l) hl (by omega) rfl
    obtain ⟨y, y1, y2⟩ := bf_ev (m := l) (by omega) (h := (shT, fi, fl, fr)) (x := us6 (B p) (nI (c - 2 ^ l)) &&& lwb (2 ^ l))
    have lw := lwb_ev (k := 2 ^ l) (by omega) (h := (shT, fi, fl, fr))
    have bp := hB p (by omega)
    have cs : nI c - nI (2 ^ l) = nI (c - 2 ^ l) := nI_sub hc1 (by omega)
    unfold us6 at y1
    obtain ⟨f1, i1, i2, i3⟩ := rr_in (z := 2 ^ l) (f := ixS (l + 1) r) (t0 := ixS l p) (vl := nI l) (vp := nI p) (vc := nI c) (y := y) (fl := fl) (fr := fr) (X := X p) pz (by omega) (by omega) kS (2 ^ l) 0 fi (by omega) r3
    obtain ⟨f2, b1, b2, b3⟩ := ih (p + 1) (pm_u2 f1 21 (8 * l + p) (nI p)) (by omega) ((show pm_u2 f1 21 (8 * l + p) (nI p) 18 0 = f1 18 0 from wl_ne (by omega)).trans ((i2 18 0 (by omega)).trans cP)) (fun p' h1 h2 => by
      obtain ⟨r', q1, q2, q3⟩ := hX p' (by omega) h2
      have t4 := ixS_mono (l := l + 1) (Nat.zero_le r')
      exact ⟨r', q1, (show pm_u2 f1 21 (8 * l + p) (nI p) 21 (8 * (l + 1) + p') = f1 21 (8 * (l + 1) + p') from wl_ne (by omega)).trans ((i2 21 _ (by omega)).trans q2), fun t ht => (show pm_u2 f1 21 (8 * l + p) (nI p) 27 (ixS (l + 1) r' + t) = f1 27 (ixS (l + 1) r' + t) from wl_ne (by omega)).trans ((i2 27 _ (by omega)).trans (q3 t ht))⟩)
    have s1 := ixS_s l p
    refine ⟨f2, fun p' h1 h2 => ?_, fun q s z1 z2 => (b2 q s (by omega) (by omega)).trans ((show pm_u2 f1 21 (8 * l + p) (nI p) q s = f1 q s from wl_ne (by omega)).trans (i2 q s (by omega))), fun r' k l5 l6 l7 l8 l9 => ?_⟩
    · by_cases e : p' = p
      · subst e
        refine ⟨(b2 21 _ (by omega) (by omega)).trans u2_eq, fun t ht => ?_⟩
        refine (b2 27 _ (by omega) (by omega)).trans ((show pm_u2 f1 21 (8 * l + p') (nI p') 27 (ixS l p' + t) = f1 27 (ixS l p' + t) from wl_ne (by omega)).trans ((i1 t (Nat.zero_le t) ht).trans ?_))
        rw [y2 t (by omega), x2 t (by omega)]
      · exact b1 p' (by omega) h2
    have b4 := b3 r' k
    have i4 := i3 r'
    have i8 := ix8_e l (by omega) p (by omega)
    clear b3 i3 ih b1 b2 hX
    generalize ixS (l + 1) r = f at *
    generalize ixS l p = t0 at *
    generalize lwb (2 ^ l) = W at *
    generalize nI (2 ^ l) = z at *
    have g := i4 (by
      refine go_of ?_
      refine gp_n 1 (j' := 71) (lv' := [some (.ref 13), some (.int (nI l)), some (.int (nI c)), some (.int z), some (.int (nI p)), some (.int (nI f)), some (.int (nI t0)), some (.long y), none, some (.int z)]) (st' := [.ref 13]) (h' := (shT, f1, fl, fr)) rfl ?_
      refine gp_of (fun _ k9 => g_getR (q' := 18) rfl rfl (by decide) k0 k9) ?_
      refine gp_of (fun _ k9 => g_getR (q' := 21) rfl rfl (by decide) k3 k9) ?_
      refine gp_n 6 (j' := 79) (lv' := [some (.ref 13), some (.int (nI l)), some (.int (nI c)), some (.int z), some (.int (nI p)), some (.int (nI f)), some (.int (nI t0)), some (.long y), none, some (.int z)]) (st' := [.int (nI p), .int (((nI l) * 8) + (nI p)), .ref 21]) (h' := (shT, f1, fl, fr)) rfl ?_
      refine gp_of (fun _ k9 => g_iast (k := 8 * l + p) rfl rfl (i8) (by omega) (by decide) k9) ?_
      refine gp_n 2 (j' := 6) (lv' := [some (.ref 13), some (.int (nI l)), some (.int (nI c)), some (.int z), some (.int ((nI p) + 1)), some (.int (nI f)), some (.int (nI t0)), some (.long y), none, some (.int z)]) (st' := []) (h' := (shT, pm_u2 f1 21 (8 * l + p) (nI p), fl, fr)) rfl ?_
      rw [nI_1]
      exact gp_done (b4 _ _ _ _ _) rfl)
    refine go_of ?_
    refine gp_n 2 (j' := 8) (lv' := [some (.ref 13), some (.int (nI l)), some (.int (nI c)), some (.int z), some (.int (nI p)), l5, l6, l7, l8, l9]) (st' := [.ref 13, .int (nI p)]) (h' := (shT, fi, fl, fr)) rfl ?_
    refine gp_of (fun _ k9 => g_getR (q' := 18) rfl rfl (by decide) k0 k9) ?_
    refine gp_of (fun _ k9 => g_getI (x := nI P) rfl (Or.inl rfl) rfl (by decide) (cP) k9) ?_
    refine gp_of (fun _ k9 => g_icf rfl (show ¬ ((nI P) ≤ (nI p)) from nI_ge (by omega) (by omega)) k9) ?_
    refine gp_n 4 (j' := 15) (lv' := [some (.ref 13), some (.int (nI l)), some (.int (nI c)), some (.int z), some (.int (nI p)), l5, l6, l7, l8, l9]) (st' := [.int ((nI l) + 1), .ref 13]) (h' := (shT, fi, fl, fr)) rfl ?_
    rw [nI_1]
    refine gp_n 1 (j' := 16) (lv' := [some (.ref 13), some (.int (nI l)), some (.int (nI c)), some (.int z), some (.int (nI p)), l5, l6, l7, l8, l9]) (st' := [.int (nI p), .int (nI (l + 1)), .ref 13]) (h' := (shT, fi, fl, fr)) rfl ?_
    refine gp_of (fun _ k9 => g_call (y := 88) (as := [.ref 13, .int (nI (l + 1)), .int (nI p)]) (st' := []) rfl rfl (ps) k9) ?_
    refine gp_n 3 (j' := 20) (lv' := [some (.ref 13), some (.int (nI l)), some (.int (nI c)), some (.int z), some (.int (nI p)), some (.int (nI f)), l6, l7, l8, l9]) (st' := [.int (nI p), .int (nI l)]) (h' := (shT, fi, fl, fr)) rfl ?_
    refine gp_of (fun _ k9 => g_call (y := 84) (as := [.int (nI l), .int (nI p)]) (st' := []) rfl rfl (ow) k9) ?_
    refine gp_n 2 (j' := 23) (lv' := [some (.ref 13), some (.int (nI l)), some (.int (nI c)), some (.int z), some (.int (nI p)), some (.int (nI f)), some (.int (nI t0)), l7, l8, l9]) (st' := [.ref 13]) (h' := (shT, fi, fl, fr)) rfl ?_
    refine gp_of (fun _ k9 => g_getR (q' := 18) rfl rfl (by decide) k0 k9) ?_
    refine gp_of (fun _ k9 => g_getR (q' := 19) rfl rfl (by decide) kB k9) ?_
    refine gp_n 1 (j' := 26) (lv' := [some (.ref 13), some (.int (nI l)), some (.int (nI c)), some (.int z), some (.int (nI p)), some (.int (nI f)), some (.int (nI t0)), l7, l8, l9]) (st' := [.int (nI p), .ref 19]) (h' := (shT, fi, fl, fr)) rfl ?_
    refine gp_of (fun _ k9 => g_lald (k := p) (x := B p) rfl rfl (rfl) (by omega) (by decide) (bp) k9) ?_
    refine gp_n 3 (j' := 30) (lv' := [some (.ref 13), some (.int (nI l)), some (.int (nI c)), some (.int z), some (.int (nI p)), some (.int (nI f)), some (.int (nI t0)), l7, l8, l9]) (st' := [.int ((nI c) - z), .long (B p)]) (h' := (shT, fi, fl, fr)) rfl ?_
    rw [cs]
    refine gp_n 2 (j' := 32) (lv' := [some (.ref 13), some (.int (nI l)), some (.int (nI c)), some (.int z), some (.int (nI p)), some (.int (nI f)), some (.int (nI t0)), l7, l8, l9]) (st' := [.int z, .long (((B p).toUInt64 >>> ((nI (c - 2 ^ l) : Int32).toInt64.toUInt64 &&& Int64.toUInt64 63)).toInt64)]) (h' := (shT, fi, fl, fr)) rfl ?_
    refine gp_of (fun _ k9 => g_call (y := 54) (as := [.int z]) (st' := [.long (((B p).toUInt64 >>> ((nI (c - 2 ^ l) : Int32).toInt64.toUInt64 &&& Int64.toUInt64 63)).toInt64)]) rfl rfl (lw) k9) ?_
    refine gp_n 2 (j' := 35) (lv' := [some (.ref 13), some (.int (nI l)), some (.int (nI c)), some (.int z), some (.int (nI p)), some (.int (nI f)), some (.int (nI t0)), l7, l8, l9]) (st' := [.int (nI l), .long ((((B p).toUInt64 >>> ((nI (c - 2 ^ l) : Int32).toInt64.toUInt64 &&& Int64.toUInt64 63)).toInt64) &&& W)]) (h' := (shT, fi, fl, fr)) rfl ?_
    refine gp_of (fun _ k9 => g_call (y := 62) (as := [.long ((((B p).toUInt64 >>> ((nI (c - 2 ^ l) : Int32).toInt64.toUInt64 &&& Int64.toUInt64 63)).toInt64) &&& W), .int (nI l)]) (st' := []) rfl rfl (y1) k9) ?_
    refine gp_n 3 (j' := 39) (lv' := [some (.ref 13), some (.int (nI l)), some (.int (nI c)), some (.int z), some (.int (nI p)), some (.int (nI f)), some (.int (nI t0)), some (.long y), none, some (.int (nI 0))]) (st' := []) (h' := (shT, fi, fl, fr)) rfl ?_
    exact gp_done g rfl
