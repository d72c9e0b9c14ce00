theorem dm1 (x : Int32) : x + (-1) = x - 1 := (Int32.sub_eq_add_neg x 1).symm
theorem an_t : ∀ c, c < 64 → ∀ q, q < 6 → (nI c &&& nI (2 ^ q) = 0 ↔ c.testBit q = false) := by decide +kernel
theorem an_n : ∀ c, c < 64 → ∀ q, q < 6 → nI c &&& -(nI (2 ^ q)) = nI (c / 2 ^ q * 2 ^ q) := by decide +kernel
theorem sAl_go {z : Nat} {vc vq vn : Int32} {w y : Int64} {fl : Nat → Nat → Int64} {fr : Nat → Nat → Option Nat} {X : Nat → Int32} (hz : z ≤ 32) (k7 : fr 34 7 = some 37) : ∀ (n j : Nat) (fi : Nat → Nat → Int32), j + n = z → (∀ t, t < 2 * z → fi 37 t = if t < j then lSm (X t) (X (t + z)) else X t) → ∃ fi', (∀ t, t < z → fi' 37 t = lSm (X t) (X (t + z))) ∧ (∀ p s, ¬ p = 37 → fi' p s = fi p s) ∧ ∀ r, (∀ l12 l13, Go pmT none cd_126 84 [some (.ref 34), some (.ref 1), some (.int vc), some (.long w), none, some (.int vq), some (.int (nI z)), some (.int 0), some (.int vn), some (.long y), none, some (.int (nI z)), l12, l13] [] (shT, fi', fl, fr) r) → ∀ l12 l13, Go pmT none cd_126 49 [some (.ref 34), some (.ref 1), some (.int vc), some (.long w), none, some (.int vq), some (.int (nI z)), some (.int 0), some (.int vn), some (.long y), none, some (.int (nI j)), l12, l13] [] (shT, fi, fl, fr) r := by
  intro n
  induction n with
  | zero =>
    intro j fi hj hX
    have hj : j = z := by omega
    subst hj
    refine ⟨fi, fun t ht => by rw [hX t (by omega), if_pos ht], fun _ _ _ => rfl, fun r k l12 l13 => ?_⟩
    refine go_of ?_
    refine gp_n 2 (j' := 51) (lv' := [some (.ref 34), some (.ref 1), some (.int vc), some (.long w), none, some (.int vq), some (.int (nI j)), some (.int 0), some (.int vn), some (.long y), none, some (.int (nI j)), l12, l13]) (st' := [.int (nI j), .int (nI j)]) (h' := (shT, fi, fl, fr)) rfl ?_
    refine gp_of (fun _ k9 => g_ict rfl (show (nI j) ≤ (nI j) from Int32.le_refl _) k9) ?_
    exact gp_done (k _ _) rfl
  | succ n ih =>
    intro j fi hj hX
    have xj := hX j (by omega)
    have yj := hX (j + z) (by omega)
    rw [if_neg (Nat.lt_irrefl j)] at xj
    rw [if_neg (by omega)] at yj
    obtain ⟨fi', a1, a2, a3⟩ := ih (j + 1) (pm_u2 fi 37 j (lSm (X j) (X (j + z)))) (by omega) (fun t ht => by
      by_cases e : t = j
      · subst e
        rw [if_pos (by omega)]
        exact u2_eq
      · refine (show pm_u2 fi 37 j (lSm (X j) (X (j + z))) 37 t = fi 37 t from wl_ne (by omega)).trans ((hX t ht).trans ?_)
        by_cases lt : t < j
        · rw [if_pos lt, if_pos (by omega)]
        · rw [if_neg lt, if_neg (by omega)])
    refine ⟨fi', a1, fun p s hp => (a2 p s hp).trans (wl_ne (by omega)), fun r k l12 l13 => ?_⟩
    have g := a3 r k
    have jz : nI j + nI z = nI (j + z) := nI_add j z
    have lt : ¬ nI z ≤ nI j := nI_ge (by omega) (by omega)
    have cl := fun fi2 => lsC_ev (x := X j) (y := X (j + z)) (h := (shT, fi2, fl, fr))
    clear a1 a2 a3 ih hX
    generalize X j = x at *
    generalize X (j + z) = v at *
    generalize lSm (x) (v) = q at *
    refine go_of ?_
    refine gp_n 2 (j' := 51) (lv' := [some (.ref 34), some (.ref 1), some (.int vc), some (.long w), none, some (.int vq), some (.int (nI z)), some (.int 0), some (.int vn), some (.long y), none, some (.int (nI j)), l12, l13]) (st' := [.int (nI z), .int (nI j)]) (h' := (shT, fi, fl, fr)) rfl ?_
    refine gp_of (fun _ k9 => g_icf rfl (show ¬ ((nI z) ≤ (nI j)) from lt) k9) ?_
    refine gp_n 1 (j' := 53) (lv' := [some (.ref 34), some (.ref 1), some (.int vc), some (.long w), none, some (.int vq), some (.int (nI z)), some (.int 0), some (.int vn), some (.long y), none, some (.int (nI j)), l12, l13]) (st' := [.ref 34]) (h' := (shT, fi, fl, fr)) rfl ?_
    refine gp_of (fun _ k9 => g_getR (q' := 37) rfl rfl (by decide) k7 k9) ?_
    refine gp_n 1 (j' := 55) (lv' := [some (.ref 34), some (.ref 1), some (.int vc), some (.long w), none, some (.int vq), some (.int (nI z)), some (.int 0), some (.int vn), some (.long y), none, some (.int (nI j)), l12, l13]) (st' := [.int (nI j), .ref 37]) (h' := (shT, fi, fl, fr)) rfl ?_
    refine gp_of (fun _ k9 => g_iald (k := j) (x := x) rfl rfl (rfl) (by omega) (by decide) (xj) k9) ?_
    refine gp_n 2 (j' := 58) (lv' := [some (.ref 34), some (.ref 1), some (.int vc), some (.long w), none, some (.int vq), some (.int (nI z)), some (.int 0), some (.int vn), some (.long y), none, some (.int (nI j)), some (.int x), l13]) (st' := [.ref 34]) (h' := (shT, fi, fl, fr)) rfl ?_
    refine gp_of (fun _ k9 => g_getR (q' := 37) rfl rfl (by decide) k7 k9) ?_
    refine gp_n 3 (j' := 62) (lv' := [some (.ref 34), some (.ref 1), some (.int vc), some (.long w), none, some (.int vq), some (.int (nI z)), some (.int 0), some (.int vn), some (.long y), none, some (.int (nI j)), some (.int x), l13]) (st' := [.int ((nI j) + (nI z)), .ref 37]) (h' := (shT, fi, fl, fr)) rfl ?_
    refine gp_of (fun _ k9 => g_iald (k := j + z) (x := v) rfl rfl (jz) (by omega) (by decide) (yj) k9) ?_
    refine gp_n 2 (j' := 65) (lv' := [some (.ref 34), some (.ref 1), some (.int vc), some (.long w), none, some (.int vq), some (.int (nI z)), some (.int 0), some (.int vn), some (.long y), none, some (.int (nI j)), some (.int x), some (.int v)]) (st' := [.ref 34]) (h' := (shT, fi, fl, fr)) rfl ?_
    refine gp_of (fun _ k9 => g_getR (q' := 37) rfl rfl (by decide) k7 k9) ?_
    refine gp_n 2 (j' := 68) (lv' := [some (.ref 34), some (.ref 1), some (.int vc), some (.long w), none, some (.int vq), some (.int (nI z)), some (.int 0), some (.int vn), some (.long y), none, some (.int (nI j)), some (.int x), some (.int v)]) (st' := [.int 0, .int (nI j), .ref 37]) (h' := (shT, fi, fl, fr)) rfl ?_
    refine gp_of (fun _ k9 => g_ift rfl (show (0 : Int32) = (0 : Int32) from by decide) k9) ?_
    refine gp_n 2 (j' := 80) (lv' := [some (.ref 34), some (.ref 1), some (.int vc), some (.long w), none, some (.int vq), some (.int (nI z)), some (.int 0), some (.int vn), some (.long y), none, some (.int (nI j)), some (.int x), some (.int v)]) (st' := [.int v, .int x, .int (nI j), .ref 37]) (h' := (shT, fi, fl, fr)) rfl ?_
    refine gp_of (fun _ k9 => g_call (y := 95) (as := [.int x, .int v]) (st' := [.int (nI j), .ref 37]) rfl rfl (cl _) k9) ?_
    refine gp_of (fun _ k9 => g_iast (k := j) rfl rfl (rfl) (by omega) (by decide) k9) ?_
    refine gp_n 2 (j' := 49) (lv' := [some (.ref 34), some (.ref 1), some (.int vc), some (.long w), none, some (.int vq), some (.int (nI z)), some (.int 0), some (.int vn), some (.long y), none, some (.int ((nI j) + 1)), some (.int x), some (.int v)]) (st' := []) (h' := (shT, pm_u2 fi 37 j q, fl, fr)) rfl ?_
    rw [nI_1]
    exact gp_done (g _ _) rfl
theorem sAr_go {z : Nat} {vc vq vn : Int32} {w y : Int64} {fl : Nat → Nat → Int64} {fr : Nat → Nat → Option Nat} {X : Nat → Int32} (hz : z ≤ 32) (k7 : fr 34 7 = some 37) : ∀ (n j : Nat) (fi : Nat → Nat → Int32), j + n = z → (∀ t, t < 2 * z → fi 37 t = if t < j then rSm (X t) (X (t + z)) (bl y t) else X t) → ∃ fi', (∀ t, t < z → fi' 37 t = rSm (X t) (X (t + z)) (bl y t)) ∧ (∀ p s, ¬ p = 37 → fi' p s = fi p s) ∧ ∀ r, (∀ l12 l13, Go pmT none cd_126 84 [some (.ref 34), some (.ref 1), some (.int vc), some (.long w), none, some (.int vq), some (.int (nI z)), some (.int 1), some (.int vn), some (.long y), none, some (.int (nI z)), l12, l13] [] (shT, fi', fl, fr) r) → ∀ l12 l13, Go pmT none cd_126 49 [some (.ref 34), some (.ref 1), some (.int vc), some (.long w), none, some (.int vq), some (.int (nI z)), some (.int 1), some (.int vn), some (.long y), none, some (.int (nI j)), l12, l13] [] (shT, fi, fl, fr) r := by
  intro n
  induction n with
  | zero =>
    intro j fi hj hX
    have hj : j = z := by omega
    subst hj
    refine ⟨fi, fun t ht => by rw [hX t (by omega), if_pos ht], fun _ _ _ => rfl, fun r k l12 l13 => ?_⟩
    refine go_of ?_
    refine gp_n 2 (j' := 51) (lv' := [some (.ref 34), some (.ref 1), some (.int vc), some (.long w), none, some (.int vq), some (.int (nI j)), some (.int 1), some (.int vn), some (.long y), none, some (.int (nI j)), l12, l13]) (st' := [.int (nI j), .int (nI j)]) (h' := (shT, fi, fl, fr)) rfl ?_
    refine gp_of (fun _ k9 => g_ict rfl (show (nI j) ≤ (nI j) from Int32.le_refl _) k9) ?_
    exact gp_done (k _ _) rfl
  | succ n ih =>
    intro j fi hj hX
    have xj := hX j (by omega)
    have yj := hX (j + z) (by omega)
    rw [if_neg (Nat.lt_irrefl j)] at xj
    rw [if_neg (by omega)] at yj
    obtain ⟨fi', a1, a2, a3⟩ := ih (j + 1) (pm_u2 fi 37 j (rSm (X j) (X (j + z)) (bl y j))) (by omega) (fun t ht => by
      by_cases e : t = j
      · subst e
        rw [if_pos (by omega)]
        exact u2_eq
      · refine (show pm_u2 fi 37 j (rSm (X j) (X (j + z)) (bl y j)) 37 t = fi 37 t from wl_ne (by omega)).trans ((hX t ht).trans ?_)
        by_cases lt : t < j
        · rw [if_pos lt, if_pos (by omega)]
        · rw [if_neg lt, if_neg (by omega)])
    refine ⟨fi', a1, fun p s hp => (a2 p s hp).trans (wl_ne (by omega)), fun r k l12 l13 => ?_⟩
    have g := a3 r k
    have jz : nI j + nI z = nI (j + z) := nI_add j z
    have lt : ¬ nI z ≤ nI j := nI_ge (by omega) (by omega)
    have cl := fun fi2 => rsC_ev (x := X j) (y := X (j + z)) (h := (shT, fi2, fl, fr)) (ub_l y (n := j) (by omega))
    unfold us6 at cl
    clear a1 a2 a3 ih hX
    generalize X j = x at *
    generalize X (j + z) = v at *
    generalize rSm (x) (v) (bl y j) = q at *
    refine go_of ?_
    refine gp_n 2 (j' := 51) (lv' := [some (.ref 34), some (.ref 1), some (.int vc), some (.long w), none, some (.int vq), some (.int (nI z)), some (.int 1), some (.int vn), some (.long y), none, some (.int (nI j)), l12, l13]) (st' := [.int (nI z), .int (nI j)]) (h' := (shT, fi, fl, fr)) rfl ?_
    refine gp_of (fun _ k9 => g_icf rfl (show ¬ ((nI z) ≤ (nI j)) from lt) k9) ?_
    refine gp_n 1 (j' := 53) (lv' := [some (.ref 34), some (.ref 1), some (.int vc), some (.long w), none, some (.int vq), some (.int (nI z)), some (.int 1), some (.int vn), some (.long y), none, some (.int (nI j)), l12, l13]) (st' := [.ref 34]) (h' := (shT, fi, fl, fr)) rfl ?_
    refine gp_of (fun _ k9 => g_getR (q' := 37) rfl rfl (by decide) k7 k9) ?_
    refine gp_n 1 (j' := 55) (lv' := [some (.ref 34), some (.ref 1), some (.int vc), some (.long w), none, some (.int vq), some (.int (nI z)), some (.int 1), some (.int vn), some (.long y), none, some (.int (nI j)), l12, l13]) (st' := [.int (nI j), .ref 37]) (h' := (shT, fi, fl, fr)) rfl ?_
    refine gp_of (fun _ k9 => g_iald (k := j) (x := x) rfl rfl (rfl) (by omega) (by decide) (xj) k9) ?_
    refine gp_n 2 (j' := 58) (lv' := [some (.ref 34), some (.ref 1), some (.int vc), some (.long w), none, some (.int vq), some (.int (nI z)), some (.int 1), some (.int vn), some (.long y), none, some (.int (nI j)), some (.int x), l13]) (st' := [.ref 34]) (h' := (shT, fi, fl, fr)) rfl ?_
    refine gp_of (fun _ k9 => g_getR (q' := 37) rfl rfl (by decide) k7 k9) ?_
    refine gp_n 3 (j' := 62) (lv' := [some (.ref 34), some (.ref 1), some (.int vc), some (.long w), none, some (.int vq), some (.int (nI z)), some (.int 1), some (.int vn), some (.long y), none, some (.int (nI j)), some (.int x), l13]) (st' := [.int ((nI j) + (nI z)), .ref 37]) (h' := (shT, fi, fl, fr)) rfl ?_
    refine gp_of (fun _ k9 => g_iald (k := j + z) (x := v) rfl rfl (jz) (by omega) (by decide) (yj) k9) ?_
    refine gp_n 2 (j' := 65) (lv' := [some (.ref 34), some (.ref 1), some (.int vc), some (.long w), none, some (.int vq), some (.int (nI z)), some (.int 1), some (.int vn), some (.long y), none, some (.int (nI j)), some (.int x), some (.int v)]) (st' := [.ref 34]) (h' := (shT, fi, fl, fr)) rfl ?_
    refine gp_of (fun _ k9 => g_getR (q' := 37) rfl rfl (by decide) k7 k9) ?_
    refine gp_n 2 (j' := 68) (lv' := [some (.ref 34), some (.ref 1), some (.int vc), some (.long w), none, some (.int vq), some (.int (nI z)), some (.int 1), some (.int vn), some (.long y), none, some (.int (nI j)), some (.int x), some (.int v)]) (st' := [.int 1, .int (nI j), .ref 37]) (h' := (shT, fi, fl, fr)) rfl ?_
    refine gp_of (fun _ k9 => g_iff rfl (show ¬ ((1 : Int32) = (0 : Int32)) from by decide) k9) ?_
    refine gp_n 7 (j' := 76) (lv' := [some (.ref 34), some (.ref 1), some (.int vc), some (.long w), none, some (.int vq), some (.int (nI z)), some (.int 1), some (.int vn), some (.long y), none, some (.int (nI j)), some (.int x), some (.int v)]) (st' := [.long (((y.toUInt64 >>> ((nI j : Int32).toInt64.toUInt64 &&& Int64.toUInt64 63)).toInt64) &&& 1), .int v, .int x, .int (nI j), .ref 37]) (h' := (shT, fi, fl, fr)) rfl ?_
    refine gp_of (fun _ k9 => g_call (y := 89) (as := [.int x, .int v, .long (((y.toUInt64 >>> ((nI j : Int32).toInt64.toUInt64 &&& Int64.toUInt64 63)).toInt64) &&& 1)]) (st' := [.int (nI j), .ref 37]) rfl rfl (cl _) k9) ?_
    refine gp_n 1 (j' := 81) (lv' := [some (.ref 34), some (.ref 1), some (.int vc), some (.long w), none, some (.int vq), some (.int (nI z)), some (.int 1), some (.int vn), some (.long y), none, some (.int (nI j)), some (.int x), some (.int v)]) (st' := [.int q, .int (nI j), .ref 37]) (h' := (shT, fi, fl, fr)) rfl ?_
    refine gp_of (fun _ k9 => g_iast (k := j) rfl rfl (rfl) (by omega) (by decide) k9) ?_
    refine gp_n 2 (j' := 49) (lv' := [some (.ref 34), some (.ref 1), some (.int vc), some (.long w), none, some (.int vq), some (.int (nI z)), some (.int 1), some (.int vn), some (.long y), none, some (.int ((nI j) + 1)), some (.int x), some (.int v)]) (st' := []) (h' := (shT, pm_u2 fi 37 j q, fl, fr)) rfl ?_
    rw [nI_1]
    exact gp_done (g _ _) rfl
theorem ss_go {c m : Nat} {w : Int64} {S : Nat → Int32} {fl : Nat → Nat → Int64} {fr : Nat → Nat → Option Nat} (hm : m ≤ 6) (hc : c < 2 ^ m) (k7 : fr 34 7 = some 37) : ∀ (q : Nat) (fi : Nat → Nat → Int32), q ≤ m → (∀ t, t < 2 ^ q → fi 37 t = ndL m S (bl w) c q t) → ∃ fi', (∀ p s, ¬ p = 37 → fi' p s = fi p s) ∧ ∀ l6 l7 l8 l9 l10 l11 l12 l13, Go pmT none cd_126 13 [some (.ref 34), some (.ref 1), some (.int (nI c)), some (.long w), none, some (.int (nI q - 1)), l6, l7, l8, l9, l10, l11, l12, l13] [] (shT, fi, fl, fr) (some (.int (ndL m S (bl w) c 0 0)), (shT, fi', fl, fr)) := by
  intro q
  have p6 := pw_6 m (by omega)
  induction q with
  | zero =>
    intro fi hq hX
    refine ⟨fi, fun _ _ _ => rfl, fun l6 l7 l8 l9 l10 l11 l12 l13 => ?_⟩
    have x0 := hX 0 (by decide)
    have lt : nI 0 - 1 < (0 : Int32) := by decide
    generalize ndL m S (bl w) c 0 0 = v at *
    refine go_of ?_
    refine gp_n 1 (j' := 14) (lv' := [some (.ref 34), some (.ref 1), some (.int (nI c)), some (.long w), none, some (.int (nI 0 - 1)), l6, l7, l8, l9, l10, l11, l12, l13]) (st' := [.int (nI 0 - 1)]) (h' := (shT, fi, fl, fr)) rfl ?_
    refine gp_of (fun _ k9 => g_ift rfl (show (nI 0 - 1) < (0 : Int32) from lt) k9) ?_
    refine gp_n 1 (j' := 87) (lv' := [some (.ref 34), some (.ref 1), some (.int (nI c)), some (.long w), none, some (.int (nI 0 - 1)), l6, l7, l8, l9, l10, l11, l12, l13]) (st' := [.ref 34]) (h' := (shT, fi, fl, fr)) rfl ?_
    refine gp_of (fun _ k9 => g_getR (q' := 37) rfl rfl (by decide) k7 k9) ?_
    refine gp_n 1 (j' := 89) (lv' := [some (.ref 34), some (.ref 1), some (.int (nI c)), some (.long w), none, some (.int (nI 0 - 1)), l6, l7, l8, l9, l10, l11, l12, l13]) (st' := [.int 0, .ref 37]) (h' := (shT, fi, fl, fr)) rfl ?_
    refine gp_of (fun _ k9 => g_iald (k := 0) (x := v) rfl rfl (rfl) (by decide) (by decide) (x0) k9) ?_
    refine gp_done (g_ret rfl) ?_
    rfl
  | succ q ih =>
    intro fi hq hX
    have e1 : nI (q + 1) - 1 = nI q := nI_sub (a := q + 1) (b := 1) (by omega) (by omega)
    have ge : ¬ nI q < 0 := nI_pos (by omega)
    have sh := shI q (by omega)
    have at_ := an_t c (by omega) q (by omega)
    have an := an_n c (by omega) q (by omega)
    have pz : 2 ^ q ≤ 32 := pw2_le (a := q) (b := 5) (by omega)
    have e3 : 2 ^ (q + 1) = 2 * 2 ^ q := by rw [Nat.pow_succ]; omega
    rw [e3] at hX
    rw [e1]
    cases ht : c.testBit q
    · have z0 : nI c &&& nI (2 ^ q) = 0 := at_.mpr ht
      obtain ⟨f1, i1, i2, i3⟩ := sAl_go (z := 2 ^ q) (vc := nI c) (vq := nI q) (vn := nI (c / 2 ^ q * 2 ^ q)) (w := w) (y := 0) (fl := fl) (fr := fr) (X := ndL m S (bl w) c (q + 1)) pz k7 (2 ^ q) 0 fi (by omega) (fun t h2 => by rw [if_neg (by omega)]; exact hX t h2)
      obtain ⟨f2, j1, j2⟩ := ih f1 (by omega) (fun t h2 => by rw [i1 t h2, ndL_s (l := q) (by omega), ht, if_neg (by decide)])
      refine ⟨f2, fun p s z => (j1 p s z).trans (i2 p s z), fun l6 l7 l8 l9 l10 l11 l12 l13 => ?_⟩
      clear i1 i2 j1 ih hX at_
      generalize c / 2 ^ q * 2 ^ q = v at *
      generalize nI (2 ^ q) = z at *
      generalize ndL m S (bl w) c 0 0 = u at *
      have g := i3 (some (.int u), (shT, f2, fl, fr)) (fun l12 l13 => by
        refine go_of ?_
        refine gp_n 2 (j' := 13) (lv' := [some (.ref 34), some (.ref 1), some (.int (nI c)), some (.long w), none, some (.int ((nI q) + (-1))), some (.int z), some (.int 0), some (.int (nI v)), some (.long 0), none, some (.int z), l12, l13]) (st' := []) (h' := (shT, f1, fl, fr)) rfl ?_
        rw [dm1]
        exact gp_done (j2 _ _ _ _ _ _ _ _) rfl)
      refine go_of ?_
      refine gp_n 1 (j' := 14) (lv' := [some (.ref 34), some (.ref 1), some (.int (nI c)), some (.long w), none, some (.int (nI q)), l6, l7, l8, l9, l10, l11, l12, l13]) (st' := [.int (nI q)]) (h' := (shT, fi, fl, fr)) rfl ?_
      refine gp_of (fun _ k9 => g_iff rfl (show ¬ ((nI q) < (0 : Int32)) from ge) k9) ?_
      refine gp_n 3 (j' := 18) (lv' := [some (.ref 34), some (.ref 1), some (.int (nI c)), some (.long w), none, some (.int (nI q)), l6, l7, l8, l9, l10, l11, l12, l13]) (st' := [.int ((1 : Int32) <<< ((nI q) &&& 31))]) (h' := (shT, fi, fl, fr)) rfl ?_
      rw [sh]
      refine gp_n 4 (j' := 22) (lv' := [some (.ref 34), some (.ref 1), some (.int (nI c)), some (.long w), none, some (.int (nI q)), some (.int z), l7, l8, l9, l10, l11, l12, l13]) (st' := [.int ((nI c) &&& z)]) (h' := (shT, fi, fl, fr)) rfl ?_
      refine gp_of (fun _ k9 => g_ift rfl (show ((nI c) &&& z) = (0 : Int32) from z0) k9) ?_
      refine gp_n 6 (j' := 31) (lv' := [some (.ref 34), some (.ref 1), some (.int (nI c)), some (.long w), none, some (.int (nI q)), some (.int z), some (.int 0), l8, l9, l10, l11, l12, l13]) (st' := [.int ((nI c) &&& (-z))]) (h' := (shT, fi, fl, fr)) rfl ?_
      rw [an]
      refine gp_n 2 (j' := 33) (lv' := [some (.ref 34), some (.ref 1), some (.int (nI c)), some (.long w), none, some (.int (nI q)), some (.int z), some (.int 0), some (.int (nI v)), l9, l10, l11, l12, l13]) (st' := [.int 0]) (h' := (shT, fi, fl, fr)) rfl ?_
      refine gp_of (fun _ k9 => g_ift rfl (show (0 : Int32) = (0 : Int32) from by decide) k9) ?_
      refine gp_n 4 (j' := 49) (lv' := [some (.ref 34), some (.ref 1), some (.int (nI c)), some (.long w), none, some (.int (nI q)), some (.int z), some (.int 0), some (.int (nI v)), some (.long 0), none, some (.int (nI 0)), l12, l13]) (st' := []) (h' := (shT, fi, fl, fr)) rfl ?_
      exact gp_done (g _ _) rfl
    · have z1 : ¬ nI c &&& nI (2 ^ q) = 0 := fun z => by
        have := at_.mp z
        rw [ht] at this
        cases this
      have bl_ := base_l ht
      have b64 := (b_lt hc hm q).1
      obtain ⟨x1, x2⟩ := lfb_bl2 (w := w) (q := q) (B := c / 2 ^ (q + 1) * 2 ^ (q + 1)) (by omega) (by omega) rfl
      obtain ⟨y, y1, y2⟩ := bf_ev (m := q) (by omega) (h := (shT, fi, fl, fr)) (x := us6 w (nI (c / 2 ^ (q + 1) * 2 ^ (q + 1))) &&& lwb (2 ^ q))
      have lw := lwb_ev (k := 2 ^ q) (by omega) (h := (shT, fi, fl, fr))
      have cs : nI (c / 2 ^ q * 2 ^ q) - nI (2 ^ q) = nI (c / 2 ^ (q + 1) * 2 ^ (q + 1)) := by
        rw [nI_sub (by omega) (by omega)]
        congr 1
        omega
      unfold us6 at y1
      obtain ⟨f1, i1, i2, i3⟩ := sAr_go (z := 2 ^ q) (vc := nI c) (vq := nI q) (vn := nI (c / 2 ^ q * 2 ^ q)) (w := w) (y := y) (fl := fl) (fr := fr) (X := ndL m S (bl w) c (q + 1)) pz k7 (2 ^ q) 0 fi (by omega) (fun t h2 => by rw [if_neg (by omega)]; exact hX t h2)
      obtain ⟨f2, j1, j2⟩ := ih f1 (by omega) (fun t h2 => by rw [i1 t h2, ndL_s (l := q) (by omega), ht, if_pos rfl, y2 t (by omega), x2 t (by omega)])
      refine ⟨f2, fun p s z => (j1 p s z).trans (i2 p s z), fun l6 l7 l8 l9 l10 l11 l12 l13 => ?_⟩
      clear i1 i2 j1 ih hX at_ bl_ x1 x2 y2 b64
      generalize c / 2 ^ (q + 1) * 2 ^ (q + 1) = v2 at *
      generalize c / 2 ^ q * 2 ^ q = v at *
      generalize lwb (2 ^ q) = W at *
      generalize nI (2 ^ q) = z at *
      generalize ndL m S (bl w) c 0 0 = u at *
      have g := i3 (some (.int u), (shT, f2, fl, fr)) (fun l12 l13 => by
        refine go_of ?_
        refine gp_n 2 (j' := 13) (lv' := [some (.ref 34), some (.ref 1), some (.int (nI c)), some (.long w), none, some (.int ((nI q) + (-1))), some (.int z), some (.int 1), some (.int (nI v)), some (.long y), none, some (.int z), l12, l13]) (st' := []) (h' := (shT, f1, fl, fr)) rfl ?_
        rw [dm1]
        exact gp_done (j2 _ _ _ _ _ _ _ _) rfl)
      refine go_of ?_
      refine gp_n 1 (j' := 14) (lv' := [some (.ref 34), some (.ref 1), some (.int (nI c)), some (.long w), none, some (.int (nI q)), l6, l7, l8, l9, l10, l11, l12, l13]) (st' := [.int (nI q)]) (h' := (shT, fi, fl, fr)) rfl ?_
      refine gp_of (fun _ k9 => g_iff rfl (show ¬ ((nI q) < (0 : Int32)) from ge) k9) ?_
      refine gp_n 3 (j' := 18) (lv' := [some (.ref 34), some (.ref 1), some (.int (nI c)), some (.long w), none, some (.int (nI q)), l6, l7, l8, l9, l10, l11, l12, l13]) (st' := [.int ((1 : Int32) <<< ((nI q) &&& 31))]) (h' := (shT, fi, fl, fr)) rfl ?_
      rw [sh]
      refine gp_n 4 (j' := 22) (lv' := [some (.ref 34), some (.ref 1), some (.int (nI c)), some (.long w), none, some (.int (nI q)), some (.int z), l7, l8, l9, l10, l11, l12, l13]) (st' := [.int ((nI c) &&& z)]) (h' := (shT, fi, fl, fr)) rfl ?_
      refine gp_of (fun _ k9 => g_iff rfl (show ¬ (((nI c) &&& z) = (0 : Int32)) from z1) k9) ?_
      refine gp_n 7 (j' := 31) (lv' := [some (.ref 34), some (.ref 1), some (.int (nI c)), some (.long w), none, some (.int (nI q)), some (.int z), some (.int 1), l8, l9, l10, l11, l12, l13]) (st' := [.int ((nI c) &&& (-z))]) (h' := (shT, fi, fl, fr)) rfl ?_
      rw [an]
      refine gp_n 2 (j' := 33) (lv' := [some (.ref 34), some (.ref 1), some (.int (nI c)), some (.long w), none, some (.int (nI q)), some (.int z), some (.int 1), some (.int (nI v)), l9, l10, l11, l12, l13]) (st' := [.int 1]) (h' := (shT, fi, fl, fr)) rfl ?_
      refine gp_of (fun _ k9 => g_iff rfl (show ¬ ((1 : Int32) = (0 : Int32)) from by decide) k9) ?_
      refine gp_n 4 (j' := 38) (lv' := [some (.ref 34), some (.ref 1), some (.int (nI c)), some (.long w), none, some (.int (nI q)), some (.int z), some (.int 1), some (.int (nI v)), l9, l10, l11, l12, l13]) (st' := [.int ((nI v) - z), .long w]) (h' := (shT, fi, fl, fr)) rfl ?_
      rw [cs]
      refine gp_n 2 (j' := 40) (lv' := [some (.ref 34), some (.ref 1), some (.int (nI c)), some (.long w), none, some (.int (nI q)), some (.int z), some (.int 1), some (.int (nI v)), l9, l10, l11, l12, l13]) (st' := [.int z, .long ((w.toUInt64 >>> ((nI v2 : Int32).toInt64.toUInt64 &&& Int64.toUInt64 63)).toInt64)]) (h' := (shT, fi, fl, fr)) rfl ?_
      refine gp_of (fun _ k9 => g_call (y := 54) (as := [.int z]) (st' := [.long ((w.toUInt64 >>> ((nI v2 : Int32).toInt64.toUInt64 &&& Int64.toUInt64 63)).toInt64)]) rfl rfl (lw) k9) ?_
      refine gp_n 2 (j' := 43) (lv' := [some (.ref 34), some (.ref 1), some (.int (nI c)), some (.long w), none, some (.int (nI q)), some (.int z), some (.int 1), some (.int (nI v)), l9, l10, l11, l12, l13]) (st' := [.int (nI q), .long (((w.toUInt64 >>> ((nI v2 : Int32).toInt64.toUInt64 &&& Int64.toUInt64 63)).toInt64) &&& W)]) (h' := (shT, fi, fl, fr)) rfl ?_
      refine gp_of (fun _ k9 => g_call (y := 62) (as := [.long (((w.toUInt64 >>> ((nI v2 : Int32).toInt64.toUInt64 &&& Int64.toUInt64 63)).toInt64) &&& W), .int (nI q)]) (st' := []) rfl rfl (y1) k9) ?_
      refine gp_n 4 (j' := 49) (lv' := [some (.ref 34), some (.ref 1), some (.int (nI c)), some (.long w), none, some (.int (nI q)), some (.int z), some (.int 1), some (.int (nI v)), some (.long y), none, some (.int (nI 0)), l12, l13]) (st' := []) (h' := (shT, fi, fl, fr)) rfl ?_
      exact gp_done (g _ _) rfl
theorem saC_ev {c m : Nat} {w : Int64} {S : Nat → Int32} {fi : Nat → Nat → Int32} {fl : Nat → Nat → Int64} {fr : Nat → Nat → Option Nat} (hm : m ≤ 6) (hc : c < 2 ^ m) (k7 : fr 34 7 = some 37) (k8 : fr 1 8 = some 2) (c0 : fi 1 0 = nI m) (hS : ∀ s, s < 64 → fi 2 s = S s) : ∃ fi', (∀ p s, ¬ p = 37 → fi' p s = fi p s) ∧ Ev pmT 126 [.ref 34, .ref 1, .int (nI c), .long w] (shT, fi, fl, fr) (some (.int (ndL m S (bl w) c 0 0))) (shT, fi', fl, fr) := by
  have p6 := pw_6 m (by omega)
  obtain ⟨f1, a1, g⟩ := ss_go (w := w) (S := S) (fl := fl) hm hc k7 m (pm_uf fi 37 (va_cpy (fi 2) (fi 37) 0 0 64)) (Nat.le_refl _) (fun t ht => by
    rw [pm_uf_eq, ndL_m, ← hS t (by omega)]
    simp [va_cpy, show t < 64 by omega])
  refine ⟨f1, fun p s z => (a1 p s z).trans (by rw [pm_uf_ne z]), ?_⟩
  have c1 : pm_uf fi 37 (va_cpy (fi 2) (fi 37) 0 0 64) 1 0 = nI m := by
    rw [pm_uf_ne (by decide)]
    exact c0
  clear a1 hS
  generalize ndL m S (bl w) c 0 0 = u at *
  refine Ev.of (es := cd_126) (ml := 14) (lv := [some (.ref 34), some (.ref 1), some (.int (nI c)), some (.long w), none, none, none, none, none, none, none, none, none, none]) rfl rfl rfl ?_
  refine go_of ?_
  refine gp_n 1 (j' := 1) (lv' := [some (.ref 34), some (.ref 1), some (.int (nI c)), some (.long w), none, none, none, none, none, none, none, none, none, none]) (st' := [.ref 1]) (h' := (shT, fi, fl, fr)) rfl ?_
  refine gp_of (fun _ k9 => g_getR (q' := 2) rfl rfl (by decide) k8 k9) ?_
  refine gp_n 2 (j' := 4) (lv' := [some (.ref 34), some (.ref 1), some (.int (nI c)), some (.long w), none, none, none, none, none, none, none, none, none, none]) (st' := [.ref 34, .int 0, .ref 2]) (h' := (shT, fi, fl, fr)) rfl ?_
  refine gp_of (fun _ k9 => g_getR (q' := 37) rfl rfl (by decide) k7 k9) ?_
  refine gp_n 2 (j' := 7) (lv' := [some (.ref 34), some (.ref 1), some (.int (nI c)), some (.long w), none, none, none, none, none, none, none, none, none, none]) (st' := [.int 64, .int 0, .ref 37, .int 0, .ref 2]) (h' := (shT, fi, fl, fr)) rfl ?_
  refine gp_of (fun _ k9 => g_cpy rfl rfl rfl k9) ?_
  refine gp_n 1 (j' := 9) (lv' := [some (.ref 34), some (.ref 1), some (.int (nI c)), some (.long w), none, none, none, none, none, none, none, none, none, none]) (st' := [.ref 1]) (h' := (shT, (pm_uf fi 37 (va_cpy (fi 2) (fi 37) 0 0 64)), fl, fr)) rfl ?_
  refine gp_of (fun _ k9 => g_getI (x := nI m) rfl (Or.inl rfl) rfl (by decide) (c1) k9) ?_
  refine gp_n 3 (j' := 13) (lv' := [some (.ref 34), some (.ref 1), some (.int (nI c)), some (.long w), none, some (.int ((nI m) - 1)), none, none, none, none, none, none, none, none]) (st' := []) (h' := (shT, (pm_uf fi 37 (va_cpy (fi 2) (fi 37) 0 0 64)), fl, fr)) rfl ?_
  exact gp_done (g _ _ _ _ _ _ _ _) rfl
theorem HI_sk {fi fi' : Nat → Nat → Int32} {fl fl' : Nat → Nat → Int64} {fr : Nat → Nat → Option Nat} (hI : HI hdT shT (shT, fi, fl, fr)) (e : ∀ p s, ¬ p = 35 → ¬ p = 37 → ¬ (p = 34 ∧ s = 6) → fi' p s = fi p s) (h6 : 0 ≤ (fi' 34 6).toInt ∧ (fi' 34 6).toInt ≤ 1502) : HI hdT shT (shT, fi', fl', fr) := by
  refine ⟨rfl, fun p s t n hp hs => ?_⟩
  by_cases z : p = 35
  · subst z
    rw [show hd_at hdT shT 35 s = (9, 0, 0, []) from rfl]
    trivial
  · by_cases z2 : p = 37
    · subst z2
      rw [show hd_at hdT shT 37 s = (9, 0, 0, []) from rfl]
      trivial
    · by_cases z3 : p = 34 ∧ s = 6
      · obtain ⟨rfl, rfl⟩ := z3
        rw [show hd_at hdT shT 34 6 = (0, 0, 1502, []) from rfl]
        exact h6
      · have := hI.2 p s t n hp hs
        unfold hd_ok at this ⊢
        rw [show ph_i (shT, fi', fl', fr) p s = ph_i (shT, fi, fl, fr) p s from e p s z z2 z3]
        exact this
/-- what the seeker holds -/
def skC (a : AB) (m k c l : Nat) (x : SQ) (n : Nat) (h : PmH) : Prop := HI hdT shT h ∧ vC a m k c l h ∧ (∀ s, s < 64 → ph_i h 2 s = (a_v a).2.2 s) ∧ ph_i h 34 6 = nI n ∧ ∃ D, heap D n ∧ kyb D n ∧ hpC D n (ph_i h) (ph_l h) ∧ SR D n x
def sm4 (h h' : PmH) : Prop := ∀ s, s < 4 → ph_i h' 34 s = ph_i h 34 s ∧ ph_l h' 34 s = ph_l h 34 s
theorem sm4_tr {h h1 h2 : PmH} (a : sm4 h h1) (b : sm4 h1 h2) : sm4 h h2 := fun s hs => ⟨(b s hs).1.trans (a s hs).1, (b s hs).2.trans (a s hs).2⟩
theorem psC {a : AB} {m k c l n M d : Nat} {B K : Int64} {N : Nat} {x : SQ} {h : PmH} (hs : skC a m k c l x n h) (hn : n < 1502) (hd : d ≤ 64) (hM : M ≤ 520192) (hq : QI K N (qAdd x M d B)) : ∃ h', Ev pmT 119 [.ref 34, .int (nI M), .int (nI d), .long B] h none h' ∧ skC a m k c l (qAdd x M d B) (n + 1) h' ∧ sm4 h h' := by
  obtain ⟨hI, hv, h2, c6, D, d1, d2, d3, d4⟩ := hs
  have k4 : ph_r h 34 4 = some 35 := hi_r hI rfl rfl (by decide)
  have k5 : ph_r h 34 5 = some 36 := hi_r hI rfl rfl (by decide)
  obtain ⟨S, fi, fl, fr⟩ := h
  have hS : S = shT := hI.1
  subst hS
  obtain ⟨fi2, fl2, D2, E, e1, e2, e3, e4, e5, e6, e7, e8, e9, e10⟩ := ph_ev (bits := B) (D := D) hn hd hM k4 k5 c6 d1 d2 d3
  refine ⟨_, e10, ⟨HI_sk hI (fun p s z _ z3 => e8 p s z z3) ?_, vC_cg (h := (shT, fi, fl, fr)) (fun s => e8 1 s (by decide) (by omega)) (fun s => e9 1 s (by decide)) hv, fun s hs => (e8 2 s (by decide) (by omega)).trans (h2 s hs), e7, D2, e5, e6, e4, SR_sam (SR_add hq d4 e1 e2) e3⟩, fun s hs => ⟨e8 34 s (by decide) (by omega), e9 34 s (by decide)⟩⟩
  rw [e7, nI_toInt (by omega)]
  omega
theorem drC {a : AB} {m k c l n b : Nat} {K : Int64} {N : Nat} {x : SQ} {h : PmH} (hs : skC a m k c l x (n + 1) h) (hn : n < 1502) (hq : QI K N x) (hb : qb x = some b) : ∃ h', Ev pmT 123 [.ref 34] h none h' ∧ skC a m k c l (qDel x b) n h' ∧ sm4 h h' := by
  obtain ⟨hI, hv, h2, c6, D, d1, d2, d3, d4⟩ := hs
  have k4 : ph_r h 34 4 = some 35 := hi_r hI rfl rfl (by decide)
  have k5 : ph_r h 34 5 = some 36 := hi_r hI rfl rfl (by decide)
  have tp := (SR_top d1 d4 hb).2
  obtain ⟨b1, b2, -⟩ := qb_p hb
  obtain ⟨S, fi, fl, fr⟩ := h
  have hS : S = shT := hI.1
  subst hS
  obtain ⟨fi2, fl2, D2, E, e1, e2, e3, e4, e5, e6, e7, e8, e9, e10⟩ := dr_ev (D := D) hn k4 k5 c6 d1 d2 d3
  refine ⟨_, e10, ⟨HI_sk hI (fun p s z _ z3 => e8 p s z z3) ?_, vC_cg (h := (shT, fi, fl, fr)) (fun s => e8 1 s (by decide) (by omega)) (fun s => e9 1 s (by decide)) hv, fun s hs => (e8 2 s (by decide) (by omega)).trans (h2 s hs), e7, D2, e5, e6, e4, SR_sam (SR_del hq d4 b1 b2 tp e1 e2) e3⟩, fun s hs => ⟨e8 34 s (by decide) (by omega), e9 34 s (by decide)⟩⟩
  rw [e7, nI_toInt (by omega)]
  omega
theorem saC {a : AB} {m k c l n d : Nat} {w : Int64} {x : SQ} {h : PmH} (hs : skC a m k c l x n h) (hm : m ≤ 6) (hd : d < 2 ^ m) : ∃ h', Ev pmT 126 [.ref 34, .ref 1, .int (nI d), .long w] h (some (.int (ndL m (a_v a).2.2 (bl w) d 0 0))) h' ∧ skC a m k c l x n h' ∧ sm4 h h' := by
  obtain ⟨hI, hv, h2, c6, D, d1, d2, d3, d4⟩ := hs
  have k7 : ph_r h 34 7 = some 37 := hi_r hI rfl rfl (by decide)
  have k8 : ph_r h 1 8 = some 2 := hi_r hI rfl rfl (by decide)
  have b6 := hI.2 34 6 (t := 15) (n := 8) rfl (by decide)
  obtain ⟨S, fi, fl, fr⟩ := h
  have hS : S = shT := hI.1
  subst hS
  obtain ⟨fi2, e8, e10⟩ := saC_ev (w := w) (fi := fi) (fl := fl) hm hd k7 k8 hv.1 h2
  have b6 : 0 ≤ (fi 34 6).toInt ∧ (fi 34 6).toInt ≤ 1502 := b6
  refine ⟨_, e10, ⟨HI_sk hI (fun p s _ z _ => e8 p s z) ?_, vC_cg (h := (shT, fi, fl, fr)) (fun s => e8 1 s (by decide)) (fun s => rfl) hv, fun s hs => (e8 2 s (by decide)).trans (h2 s hs), (e8 34 6 (by decide)).trans c6, D, d1, d2, fun i hi => ⟨(e8 35 i (by decide)).trans (d3 i hi).1, (d3 i hi).2⟩, d4⟩, fun s hs => ⟨e8 34 s (by decide), rfl⟩⟩
  rw [e8 34 6 (by decide)]
  exact b6

