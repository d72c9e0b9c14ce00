theorem HI_fl {S : List (Nat × Nat)} {fi : Nat → Nat → Int32} {fl fl' : Nat → Nat → Int64} {fr : Nat → Nat → Option Nat} (h : HI hdT shT (S, fi, fl, fr)) : HI hdT shT (S, fi, fl', fr) := h
def zz (er : Int32) (m : Nat) (i : Nat) : Int64 := zS er m (nI i)
theorem kb_l1 {N m : Nat} {er q : Int32} {fi : Nat → Nat → Int32} {fr : Nat → Nat → Option Nat} {r : Option Value × PmH} (hN : N ≤ 64) (hm : m ≤ 6) (k80 : fr 8 0 = some 9) (k81 : fr 8 1 = some 11) (c1 : fi 9 1 = nI N) (c5 : fi 9 5 = er) (c0 : fi 9 0 = nI m) : ∀ (n i : Nat) (fl : Nat → Nat → Int64), i + n = N → HI hdT shT (shT, fi, fl, fr) → Go pmT none cd_44 17 [some (.ref 8), some (.int q), some (.int (nI N))] [] (shT, fi, fu fl 11 i n (fun j => zz er m (i + j)), fr) r → Go pmT none cd_44 2 [some (.ref 8), some (.int q), some (.int (nI i))] [] (shT, fi, fl, fr) r := by
  intro n
  induction n with
  | zero =>
    intro i fl hi hI k
    have hi : i = N := by omega
    subst hi
    rw [fu_0] at k
    refine go_of ?_
    refine gp_n 2 (j' := 4) (lv' := [some (.ref 8), some (.int q), some (.int (nI i))]) (st' := [.ref 8, .int (nI i)]) (h' := (shT, fi, fl, fr)) rfl ?_
    refine gp_of (fun _ k9 => g_getR (q' := 9) rfl rfl (by decide) k80 k9) ?_
    refine gp_of (fun _ k9 => g_getI (x := nI i) rfl (Or.inl rfl) rfl (by decide) (c1) k9) ?_
    refine gp_of (fun _ k9 => g_ict rfl (show (nI i) ≤ (nI i) from Int32.le_refl _) k9) ?_
    exact gp_done k rfl
  | succ n ih =>
    intro i fl hi hI k
    have bd := bd_ev_9 (ch := nI i) hI c5 c0 hm
    have e1 : fu (pm_u2 fl 11 i (zz er m i)) 11 (i + 1) n (fun j => zz er m (i + 1 + j)) = fu fl 11 i (n + 1) (fun j => zz er m (i + j)) := fu_s (f := fl) (p := 11) (lo := i) (n := n) (g := fun j => zz er m (i + j)) (fun j => by show zz er m (i + 1 + j) = zz er m (i + (j + 1)); rw [show i + 1 + j = i + (j + 1) by omega])
    have g := ih (i + 1) (pm_u2 fl 11 i (zz er m i)) (by omega) (HI_fl hI) (by rw [e1]; exact k)
    refine go_of ?_
    refine gp_n 2 (j' := 4) (lv' := [some (.ref 8), some (.int q), some (.int (nI i))]) (st' := [.ref 8, .int (nI i)]) (h' := (shT, fi, fl, fr)) rfl ?_
    refine gp_of (fun _ k9 => g_getR (q' := 9) rfl rfl (by decide) k80 k9) ?_
    refine gp_of (fun _ k9 => g_getI (x := nI N) rfl (Or.inl rfl) rfl (by decide) (c1) k9) ?_
    refine gp_of (fun _ k9 => g_icf rfl (show ¬ ((nI N) ≤ (nI i)) from nI_ge (by omega) (by omega)) k9) ?_
    refine gp_n 1 (j' := 8) (lv' := [some (.ref 8), some (.int q), some (.int (nI i))]) (st' := [.ref 8]) (h' := (shT, fi, fl, fr)) rfl ?_
    refine gp_of (fun _ k9 => g_getR (q' := 11) rfl rfl (by decide) k81 k9) ?_
    refine gp_n 2 (j' := 11) (lv' := [some (.ref 8), some (.int q), some (.int (nI i))]) (st' := [.ref 8, .int (nI i), .ref 11]) (h' := (shT, fi, fl, fr)) rfl ?_
    refine gp_of (fun _ k9 => g_getR (q' := 9) rfl rfl (by decide) k80 k9) ?_
    refine gp_n 1 (j' := 13) (lv' := [some (.ref 8), some (.int q), some (.int (nI i))]) (st' := [.int (nI i), .ref 9, .int (nI i), .ref 11]) (h' := (shT, fi, fl, fr)) rfl ?_
    refine gp_of (fun _ k9 => g_call (y := 45) (as := [.ref 9, .int (nI i)]) (st' := [.int (nI i), .ref 11]) rfl rfl (bd) k9) ?_
    refine gp_of (fun _ k9 => g_last (k := i) rfl rfl (rfl) (by omega) (by decide) k9) ?_
    refine gp_n 2 (j' := 2) (lv' := [some (.ref 8), some (.int q), some (.int ((nI i) + 1))]) (st' := []) (h' := (shT, fi, pm_u2 fl 11 i (zz er m i), fr)) rfl ?_
    rw [nI_1]
    exact gp_done g rfl
theorem kb_l2 {N q : Nat} {fi : Nat → Nat → Int32} {fr : Nat → Nat → Option Nat} (hN : N ≤ 64) (hq : q ≤ N) (k80 : fr 8 0 = some 9) (c1 : fi 9 1 = nI N) : ∀ (n t : Nat) (fl : Nat → Nat → Int64), t + n = q → HI hdT shT (shT, fi, fl, fr) → kpB (fl 11) N t (fl 9 7) → cntP (fun j => decide (rk (fl 11) N j < t)) N = t → GoP pmT none cd_44 19 [some (.ref 8), some (.int (nI q)), some (.int (nI t))] [] (shT, fi, fl, fr) (fun r => r.1 = none ∧ kpB (fl 11) N q (ph_l r.2 9 7)) := by
  intro n
  induction n with
  | zero =>
    intro t fl ht hI hK hc
    have ht : t = q := by omega
    subst ht
    refine gp_n 2 (j' := 21) (lv' := [some (.ref 8), some (.int (nI t)), some (.int (nI t))]) (st' := [.int (nI t), .int (nI t)]) (h' := (shT, fi, fl, fr)) rfl ?_
    refine gp_of (fun _ k9 => g_ict rfl (show (nI t) ≤ (nI t) from Int32.le_refl _) k9) ?_
    refine gp_done (g_vret rfl) ?_
    exact ⟨rfl, hK⟩
  | succ n ih =>
    intro t fl ht hI hK hc
    obtain ⟨b, b1, ev, K2, c2⟩ := bs_ev (h := (shT, fi, fl, fr)) (t := t) hI hN c1 rfl hK hc (by omega)
    have e11 : pm_u2 fl 9 7 (fl 9 7 ||| bitAt b) 11 = fl 11 := rfl
    have g := ih (t + 1) (pm_u2 fl 9 7 (fl 9 7 ||| bitAt b)) (by omega) (HI_fl hI) (by rw [e11, u2_eq]; exact K2) (by rw [e11]; exact c2)
    rw [e11] at g
    refine gp_n 2 (j' := 21) (lv' := [some (.ref 8), some (.int (nI q)), some (.int (nI t))]) (st' := [.int (nI q), .int (nI t)]) (h' := (shT, fi, fl, fr)) rfl ?_
    refine gp_of (fun _ k9 => g_icf rfl (show ¬ ((nI q) ≤ (nI t)) from nI_ge (by omega) (by omega)) k9) ?_
    refine gp_n 2 (j' := 24) (lv' := [some (.ref 8), some (.int (nI q)), some (.int (nI t))]) (st' := [.ref 8, .int (nI t)]) (h' := (shT, fi, fl, fr)) rfl ?_
    refine gp_of (fun _ k9 => g_getR (q' := 9) rfl rfl (by decide) k80 k9) ?_
    refine gp_of (fun _ k9 => g_getI (x := nI N) rfl (Or.inl rfl) rfl (by decide) (c1) k9) ?_
    refine gp_of (fun _ k9 => g_icf rfl (show ¬ ((nI N) ≤ (nI t)) from nI_ge (by omega) (by omega)) k9) ?_
    refine gp_n 1 (j' := 28) (lv' := [some (.ref 8), some (.int (nI q)), some (.int (nI t))]) (st' := [.ref 8]) (h' := (shT, fi, fl, fr)) rfl ?_
    refine gp_of (fun _ k9 => g_getR (q' := 9) rfl rfl (by decide) k80 k9) ?_
    refine gp_n 1 (j' := 30) (lv' := [some (.ref 8), some (.int (nI q)), some (.int (nI t))]) (st' := [.ref 9, .ref 9]) (h' := (shT, fi, fl, fr)) rfl ?_
    refine gp_of (fun _ k9 => g_getL (x := fl 9 7) rfl rfl (by decide) (rfl) k9) ?_
    refine gp_n 2 (j' := 33) (lv' := [some (.ref 8), some (.int (nI q)), some (.int (nI t))]) (st' := [.ref 8, .long 1, .long (fl 9 7), .ref 9]) (h' := (shT, fi, fl, fr)) rfl ?_
    refine gp_of (fun _ k9 => g_call (y := 46) (as := [.ref 8]) (st' := [.long 1, .long (fl 9 7), .ref 9]) rfl rfl (ev) k9) ?_
    refine gp_n 2 (j' := 36) (lv' := [some (.ref 8), some (.int (nI q)), some (.int (nI t))]) (st' := [.long ((fl 9 7) ||| ((1 : Int64) <<< ((nI b : Int32).toInt64 &&& 63))), .ref 9]) (h' := (shT, fi, fl, fr)) rfl ?_
    show GoP pmT none cd_44 _ _ [.long (fl 9 7 ||| bitAt b), _] _ _
    refine gp_of (fun _ k9 => g_putL rfl rfl (by decide) k9) ?_
    refine gp_n 2 (j' := 19) (lv' := [some (.ref 8), some (.int (nI q)), some (.int ((nI t) + 1))]) (st' := []) (h' := (shT, fi, pm_u2 fl 9 7 (fl 9 7 ||| bitAt b), fr)) rfl ?_
    rw [nI_1]
    exact g
theorem kb_ev {N m q : Nat} {er : Int32} {h : PmH} (hI : HI hdT shT h) (hN : N ≤ 64) (hm : m ≤ 6) (hq : q ≤ N) (c1 : ph_i h 9 1 = nI N) (c5 : ph_i h 9 5 = er) (c0 : ph_i h 9 0 = nI m) (c7 : ph_l h 9 7 = 0) : EvP 44 [.ref 8, .int (nI q)] h (fun r => r.1 = none ∧ kpB (zz er m) N q (ph_l r.2 9 7)) := by
  have k80 : ph_r h 8 0 = some 9 := hi_r hI rfl rfl (by decide)
  have k81 : ph_r h 8 1 = some 11 := hi_r hI rfl rfl (by decide)
  refine EvP.of (es := cd_44) (ml := 3) (lv := [some (.ref 8), some (.int (nI q)), none]) rfl rfl rfl ?_
  have hSS := hI.1
  obtain ⟨S, fi, fl, fr⟩ := h
  have hS : S = shT := hSS
  subst hS
  have c7 : fl 9 7 = 0 := c7
  have z11 : ∀ i, i < N → fu fl 11 0 N (fun j => zz er m (0 + j)) 11 i = zz er m i := fun i hi => by
    rw [fu_in (by omega) (by omega), show 0 + (i - 0) = i by omega]
  have z97 : fu fl 11 0 N (fun j => zz er m (0 + j)) 9 7 = 0 := (fu_ne (by decide)).trans c7
  obtain ⟨r, g, g1, g2⟩ := kb_l2 (N := N) (q := q) (fi := fi) (fr := fr) hN hq k80 c1 q 0 (fu fl 11 0 N (fun j => zz er m (0 + j))) (by omega) (HI_fl hI) (by
    rw [z97]
    intro j hj
    rw [bl_0 j hj, decide_eq_false (Nat.not_lt_zero _), Bool.and_false]) (cntP_f N (fun j _ => decide_eq_false (Nat.not_lt_zero _)))
  refine ⟨r, ?_, g1, kpB_cg z11 g2⟩
  have m17 : Go pmT none cd_44 17 [some (.ref 8), some (.int (nI q)), some (.int (nI N))] [] (shT, fi, fu fl 11 0 N (fun j => zz er m (0 + j)), fr) r := by
    generalize fu fl 11 0 N (fun j => zz er m (0 + j)) = f2 at *
    refine go_of ?_
    refine gp_n 2 (j' := 19) (lv' := [some (.ref 8), some (.int (nI q)), some (.int (nI 0))]) (st' := []) (h' := (shT, fi, f2, fr)) rfl ?_
    exact gp_done g rfl
  have m2 := kb_l1 (q := nI q) (r := r) hN hm k80 k81 c1 c5 c0 N 0 fl (by omega) hI m17
  refine go_of ?_
  refine gp_n 2 (j' := 2) (lv' := [some (.ref 8), some (.int (nI q)), some (.int (nI 0))]) (st' := []) (h' := (shT, fi, fl, fr)) rfl ?_
  exact gp_done m2 rfl
theorem ib_ev {h : PmH} (hI : HI hdT shT h) {er : Int32} {m i j : Nat} (c5 : ph_i h 70 19 = er) (c0 : ph_i h 70 15 = nI m) (hm : m ≤ 6) (hi : i < 64) (hj : j < 64) : Ev pmT 165 [.ref 70, .int (nI j), .int (nI i)] h (some (.int (b01 (ltb (zz er m) j i)))) h := by
  have z1 := zo_ev (ch := nI j) hI c5 c0 hm
  have z2 := zo_ev (ch := nI i) hI c5 c0 hm
  have e1 : zS er m (nI j) = zz er m j := rfl
  have e2 : zS er m (nI i) = zz er m i := rfl
  rw [e1] at z1
  rw [e2] at z2
  have hl := ltb_iff (z := zz er m) (i := j) (j := i)
  generalize zz er m j = x at *
  generalize zz er m i = y at *
  generalize ltb (zz er m) j i = b at *
  refine Ev.of (es := cd_165) (ml := 7) (lv := [some (.ref 70), some (.int (nI j)), some (.int (nI i)), none, none, none, none]) rfl rfl rfl ?_
  obtain ⟨S, fi, fl, fr⟩ := h
  have hS : S = shT := hI.1
  subst hS
  refine go_of ?_
  by_cases h1 : x.toInt < y.toInt
  · rw [hl.mpr (Or.inl h1)]
    refine gp_n 2 (j' := 2) (lv' := [some (.ref 70), some (.int (nI j)), some (.int (nI i)), none, none, none, none]) (st' := [.int (nI j), .ref 70]) (h' := (shT, fi, fl, fr)) rfl ?_
    refine gp_of (fun _ k9 => g_call (y := 166) (as := [.ref 70, .int (nI j)]) (st' := []) rfl rfl (z1) k9) ?_
    refine gp_n 3 (j' := 6) (lv' := [some (.ref 70), some (.int (nI j)), some (.int (nI i)), some (.long x), none, none, none]) (st' := [.int (nI i), .ref 70]) (h' := (shT, fi, fl, fr)) rfl ?_
    refine gp_of (fun _ k9 => g_call (y := 166) (as := [.ref 70, .int (nI i)]) (st' := []) rfl rfl (z2) k9) ?_
    refine gp_n 4 (j' := 11) (lv' := [some (.ref 70), some (.int (nI j)), some (.int (nI i)), some (.long x), none, some (.long y), none]) (st' := [.int (lg_cmp x y)]) (h' := (shT, fi, fl, fr)) rfl ?_
    refine gp_of (fun _ k9 => g_ift rfl (show (lg_cmp x y) < (0 : Int32) from (by rw [lg_cmp_lt, Int64.lt_iff_toInt_lt]; exact h1)) k9) ?_
    refine gp_n 2 (j' := 22) (lv' := [some (.ref 70), some (.int (nI j)), some (.int (nI i)), some (.long x), none, some (.long y), none]) (st' := [.int 1]) (h' := (shT, fi, fl, fr)) rfl ?_
    refine gp_done (g_retz rfl (by decide)) ?_
    rfl
  · have n1 : ¬ lg_cmp x y < 0 := by rw [lg_cmp_lt, Int64.lt_iff_toInt_lt]; exact h1
    by_cases h2 : x.toInt = y.toInt
    · have n2 : ¬ ¬ lg_cmp x y = 0 := fun q => q (by rw [lg_cmp_eq]; exact Int64.toInt_inj.mp h2)
      by_cases h3 : i < j
      · rw [hl.mpr (Or.inr ⟨h2, h3⟩)]
        refine gp_n 2 (j' := 2) (lv' := [some (.ref 70), some (.int (nI j)), some (.int (nI i)), none, none, none, none]) (st' := [.int (nI j), .ref 70]) (h' := (shT, fi, fl, fr)) rfl ?_
        refine gp_of (fun _ k9 => g_call (y := 166) (as := [.ref 70, .int (nI j)]) (st' := []) rfl rfl (z1) k9) ?_
        refine gp_n 3 (j' := 6) (lv' := [some (.ref 70), some (.int (nI j)), some (.int (nI i)), some (.long x), none, none, none]) (st' := [.int (nI i), .ref 70]) (h' := (shT, fi, fl, fr)) rfl ?_
        refine gp_of (fun _ k9 => g_call (y := 166) (as := [.ref 70, .int (nI i)]) (st' := []) rfl rfl (z2) k9) ?_
        refine gp_n 4 (j' := 11) (lv' := [some (.ref 70), some (.int (nI j)), some (.int (nI i)), some (.long x), none, some (.long y), none]) (st' := [.int (lg_cmp x y)]) (h' := (shT, fi, fl, fr)) rfl ?_
        refine gp_of (fun _ k9 => g_iff rfl (show ¬ ((lg_cmp x y) < (0 : Int32)) from n1) k9) ?_
        refine gp_n 3 (j' := 15) (lv' := [some (.ref 70), some (.int (nI j)), some (.int (nI i)), some (.long x), none, some (.long y), none]) (st' := [.int (lg_cmp x y)]) (h' := (shT, fi, fl, fr)) rfl ?_
        refine gp_of (fun _ k9 => g_iff rfl (show ¬ (¬ (lg_cmp x y) = (0 : Int32)) from n2) k9) ?_
        refine gp_n 2 (j' := 18) (lv' := [some (.ref 70), some (.int (nI j)), some (.int (nI i)), some (.long x), none, some (.long y), none]) (st' := [.int (nI i), .int (nI j)]) (h' := (shT, fi, fl, fr)) rfl ?_
        refine gp_of (fun _ k9 => g_icf rfl (show ¬ ((nI j) ≤ (nI i)) from nI_ge h3 (by omega)) k9) ?_
        refine gp_n 2 (j' := 22) (lv' := [some (.ref 70), some (.int (nI j)), some (.int (nI i)), some (.long x), none, some (.long y), none]) (st' := [.int 1]) (h' := (shT, fi, fl, fr)) rfl ?_
        refine gp_done (g_retz rfl (by decide)) ?_
        rfl
      · have hb : b = false := Bool.eq_false_iff.mpr (fun q => by have := hl.mp q; omega)
        rw [hb]
        refine gp_n 2 (j' := 2) (lv' := [some (.ref 70), some (.int (nI j)), some (.int (nI i)), none, none, none, none]) (st' := [.int (nI j), .ref 70]) (h' := (shT, fi, fl, fr)) rfl ?_
        refine gp_of (fun _ k9 => g_call (y := 166) (as := [.ref 70, .int (nI j)]) (st' := []) rfl rfl (z1) k9) ?_
        refine gp_n 3 (j' := 6) (lv' := [some (.ref 70), some (.int (nI j)), some (.int (nI i)), some (.long x), none, none, none]) (st' := [.int (nI i), .ref 70]) (h' := (shT, fi, fl, fr)) rfl ?_
        refine gp_of (fun _ k9 => g_call (y := 166) (as := [.ref 70, .int (nI i)]) (st' := []) rfl rfl (z2) k9) ?_
        refine gp_n 4 (j' := 11) (lv' := [some (.ref 70), some (.int (nI j)), some (.int (nI i)), some (.long x), none, some (.long y), none]) (st' := [.int (lg_cmp x y)]) (h' := (shT, fi, fl, fr)) rfl ?_
        refine gp_of (fun _ k9 => g_iff rfl (show ¬ ((lg_cmp x y) < (0 : Int32)) from n1) k9) ?_
        refine gp_n 3 (j' := 15) (lv' := [some (.ref 70), some (.int (nI j)), some (.int (nI i)), some (.long x), none, some (.long y), none]) (st' := [.int (lg_cmp x y)]) (h' := (shT, fi, fl, fr)) rfl ?_
        refine gp_of (fun _ k9 => g_iff rfl (show ¬ (¬ (lg_cmp x y) = (0 : Int32)) from n2) k9) ?_
        refine gp_n 2 (j' := 18) (lv' := [some (.ref 70), some (.int (nI j)), some (.int (nI i)), some (.long x), none, some (.long y), none]) (st' := [.int (nI i), .int (nI j)]) (h' := (shT, fi, fl, fr)) rfl ?_
        refine gp_of (fun _ k9 => g_ict rfl (show (nI j) ≤ (nI i) from nI_le (by omega) (by omega)) k9) ?_
        refine gp_n 1 (j' := 22) (lv' := [some (.ref 70), some (.int (nI j)), some (.int (nI i)), some (.long x), none, some (.long y), none]) (st' := [.int 0]) (h' := (shT, fi, fl, fr)) rfl ?_
        refine gp_done (g_retz rfl (by decide)) ?_
        rfl
    · have hb : b = false := Bool.eq_false_iff.mpr (fun q => by have := hl.mp q; omega)
      have n2 : ¬ lg_cmp x y = 0 := by rw [lg_cmp_eq]; exact fun q => h2 (by rw [q])
      rw [hb]
      refine gp_n 2 (j' := 2) (lv' := [some (.ref 70), some (.int (nI j)), some (.int (nI i)), none, none, none, none]) (st' := [.int (nI j), .ref 70]) (h' := (shT, fi, fl, fr)) rfl ?_
      refine gp_of (fun _ k9 => g_call (y := 166) (as := [.ref 70, .int (nI j)]) (st' := []) rfl rfl (z1) k9) ?_
      refine gp_n 3 (j' := 6) (lv' := [some (.ref 70), some (.int (nI j)), some (.int (nI i)), some (.long x), none, none, none]) (st' := [.int (nI i), .ref 70]) (h' := (shT, fi, fl, fr)) rfl ?_
      refine gp_of (fun _ k9 => g_call (y := 166) (as := [.ref 70, .int (nI i)]) (st' := []) rfl rfl (z2) k9) ?_
      refine gp_n 4 (j' := 11) (lv' := [some (.ref 70), some (.int (nI j)), some (.int (nI i)), some (.long x), none, some (.long y), none]) (st' := [.int (lg_cmp x y)]) (h' := (shT, fi, fl, fr)) rfl ?_
      refine gp_of (fun _ k9 => g_iff rfl (show ¬ ((lg_cmp x y) < (0 : Int32)) from n1) k9) ?_
      refine gp_n 3 (j' := 15) (lv' := [some (.ref 70), some (.int (nI j)), some (.int (nI i)), some (.long x), none, some (.long y), none]) (st' := [.int (lg_cmp x y)]) (h' := (shT, fi, fl, fr)) rfl ?_
      refine gp_of (fun _ k9 => g_ift rfl (show ¬ (lg_cmp x y) = (0 : Int32) from n2) k9) ?_
      refine gp_n 1 (j' := 22) (lv' := [some (.ref 70), some (.int (nI j)), some (.int (nI i)), some (.long x), none, some (.long y), none]) (st' := [.int 0]) (h' := (shT, fi, fl, fr)) rfl ?_
      refine gp_done (g_retz rfl (by decide)) ?_
      rfl
theorem ah_go {N m i : Nat} {er mn : Int32} {K : Int64} {h : PmH} {r : Option Value × PmH} (hI : HI hdT shT h) (hN : N ≤ 64) (hm : m ≤ 6) (hi : i < N) (c14 : ph_i h 70 14 = nI N) (c5 : ph_i h 70 19 = er) (c0 : ph_i h 70 15 = nI m) : ∀ (n j : Nat), j + n = N → Go pmT none cd_164 32 [some (.ref 70), some (.int mn), some (.long K), none, some (.int (nI i)), some (.int (nI (rk (zz er m) N i))), some (.int (nI N))] [] h r → Go pmT none cd_164 12 [some (.ref 70), some (.int mn), some (.long K), none, some (.int (nI i)), some (.int (nI (cntP (fun j => ltb (zz er m) j i) j))), some (.int (nI j))] [] h r := by
  intro n
  induction n with
  | zero =>
    intro j hj k
    have hj : j = N := by omega
    subst hj
    have k : Go pmT none cd_164 32 [some (.ref 70), some (.int mn), some (.long K), none, some (.int (nI i)), some (.int (nI (cntP (fun j => ltb (zz er m) j i) j))), some (.int (nI j))] [] h r := k
    generalize cntP (fun j => ltb (zz er m) j i) j = q at *
    obtain ⟨S, fi, fl, fr⟩ := h
    have hS : S = shT := hI.1
    subst hS
    have c14 : fi 70 14 = nI j := c14
    refine go_of ?_
    refine gp_n 2 (j' := 14) (lv' := [some (.ref 70), some (.int mn), some (.long K), none, some (.int (nI i)), some (.int (nI q)), some (.int (nI j))]) (st' := [.ref 70, .int (nI j)]) (h' := (shT, fi, fl, fr)) rfl ?_
    refine gp_of (fun _ k9 => g_getI (x := nI j) rfl (Or.inl rfl) rfl (by decide) (c14) k9) ?_
    refine gp_of (fun _ k9 => g_ict rfl (show (nI j) ≤ (nI j) from Int32.le_refl _) k9) ?_
    exact gp_done k rfl
  | succ n ih =>
    intro j hj k
    have g := ih (j + 1) (by omega) k
    have ib := ib_ev (i := i) (j := j) hI c5 c0 hm (by omega) (by omega)
    have e1 : cntP (fun j => ltb (zz er m) j i) (j + 1) = cntP (fun j => ltb (zz er m) j i) j + (if ltb (zz er m) j i = true then 1 else 0) := rfl
    rw [e1] at g
    by_cases hji : j = i
    · subst hji
      rw [ltb_ir, if_neg (by decide)] at g
      generalize cntP (fun k => ltb (zz er m) k j) j = q at *
      clear ih k ib
      obtain ⟨S, fi, fl, fr⟩ := h
      have hS : S = shT := hI.1
      subst hS
      have c14 : fi 70 14 = nI N := c14
      refine go_of ?_
      refine gp_n 2 (j' := 14) (lv' := [some (.ref 70), some (.int mn), some (.long K), none, some (.int (nI j)), some (.int (nI q)), some (.int (nI j))]) (st' := [.ref 70, .int (nI j)]) (h' := (shT, fi, fl, fr)) rfl ?_
      refine gp_of (fun _ k9 => g_getI (x := nI N) rfl (Or.inl rfl) rfl (by decide) (c14) k9) ?_
      refine gp_of (fun _ k9 => g_icf rfl (show ¬ ((nI N) ≤ (nI j)) from nI_ge (by omega) (by omega)) k9) ?_
      refine gp_n 3 (j' := 19) (lv' := [some (.ref 70), some (.int mn), some (.long K), none, some (.int (nI j)), some (.int (nI q)), some (.int (nI j))]) (st' := [.int (nI j), .int (nI j), .int (nI q)]) (h' := (shT, fi, fl, fr)) rfl ?_
      refine gp_of (fun _ k9 => g_ict rfl (show (nI j) = (nI j) from rfl) k9) ?_
      refine gp_n 2 (j' := 29) (lv' := [some (.ref 70), some (.int mn), some (.long K), none, some (.int (nI j)), some (.int (nI q)), some (.int (nI j))]) (st' := [.int ((nI q) + 0)]) (h' := (shT, fi, fl, fr)) rfl ?_
      rw [show nI q + 0 = nI (q + 0) from nI_add q 0]
      refine gp_n 3 (j' := 12) (lv' := [some (.ref 70), some (.int mn), some (.long K), none, some (.int (nI j)), some (.int (nI (q + 0))), some (.int ((nI j) + 1))]) (st' := []) (h' := (shT, fi, fl, fr)) rfl ?_
      rw [nI_1]
      exact gp_done g rfl
    · have ne : ¬ nI j = nI i := fun q => hji ((nI_eq (by omega) (by omega)).mp q)
      cases hb : ltb (zz er m) j i
      · rw [hb] at ib g
        rw [if_neg (by decide)] at g
        have ib : Ev pmT 165 [.ref 70, .int (nI j), .int (nI i)] h (some (.int 0)) h := ib
        generalize cntP (fun k => ltb (zz er m) k i) j = q at *
        clear ih k
        obtain ⟨S, fi, fl, fr⟩ := h
        have hS : S = shT := hI.1
        subst hS
        have c14 : fi 70 14 = nI N := c14
        refine go_of ?_
        refine gp_n 2 (j' := 14) (lv' := [some (.ref 70), some (.int mn), some (.long K), none, some (.int (nI i)), some (.int (nI q)), some (.int (nI j))]) (st' := [.ref 70, .int (nI j)]) (h' := (shT, fi, fl, fr)) rfl ?_
        refine gp_of (fun _ k9 => g_getI (x := nI N) rfl (Or.inl rfl) rfl (by decide) (c14) k9) ?_
        refine gp_of (fun _ k9 => g_icf rfl (show ¬ ((nI N) ≤ (nI j)) from nI_ge (by omega) (by omega)) k9) ?_
        refine gp_n 3 (j' := 19) (lv' := [some (.ref 70), some (.int mn), some (.long K), none, some (.int (nI i)), some (.int (nI q)), some (.int (nI j))]) (st' := [.int (nI i), .int (nI j), .int (nI q)]) (h' := (shT, fi, fl, fr)) rfl ?_
        refine gp_of (fun _ k9 => g_icf rfl (show ¬ ((nI j) = (nI i)) from ne) k9) ?_
        refine gp_n 3 (j' := 23) (lv' := [some (.ref 70), some (.int mn), some (.long K), none, some (.int (nI i)), some (.int (nI q)), some (.int (nI j))]) (st' := [.int (nI i), .int (nI j), .ref 70, .int (nI q)]) (h' := (shT, fi, fl, fr)) rfl ?_
        refine gp_of (fun _ k9 => g_call (y := 165) (as := [.ref 70, .int (nI j), .int (nI i)]) (st' := [.int (nI q)]) rfl rfl (ib) k9) ?_
        refine gp_of (fun _ k9 => g_ift rfl (show (0 : Int32) = (0 : Int32) from by decide) k9) ?_
        refine gp_n 2 (j' := 29) (lv' := [some (.ref 70), some (.int mn), some (.long K), none, some (.int (nI i)), some (.int (nI q)), some (.int (nI j))]) (st' := [.int ((nI q) + 0)]) (h' := (shT, fi, fl, fr)) rfl ?_
        rw [show nI q + 0 = nI (q + 0) from nI_add q 0]
        refine gp_n 3 (j' := 12) (lv' := [some (.ref 70), some (.int mn), some (.long K), none, some (.int (nI i)), some (.int (nI (q + 0))), some (.int ((nI j) + 1))]) (st' := []) (h' := (shT, fi, fl, fr)) rfl ?_
        rw [nI_1]
        exact gp_done g rfl
      · rw [hb] at ib g
        rw [if_pos rfl] at g
        have ib : Ev pmT 165 [.ref 70, .int (nI j), .int (nI i)] h (some (.int 1)) h := ib
        generalize cntP (fun k => ltb (zz er m) k i) j = q at *
        clear ih k
        obtain ⟨S, fi, fl, fr⟩ := h
        have hS : S = shT := hI.1
        subst hS
        have c14 : fi 70 14 = nI N := c14
        refine go_of ?_
        refine gp_n 2 (j' := 14) (lv' := [some (.ref 70), some (.int mn), some (.long K), none, some (.int (nI i)), some (.int (nI q)), some (.int (nI j))]) (st' := [.ref 70, .int (nI j)]) (h' := (shT, fi, fl, fr)) rfl ?_
        refine gp_of (fun _ k9 => g_getI (x := nI N) rfl (Or.inl rfl) rfl (by decide) (c14) k9) ?_
        refine gp_of (fun _ k9 => g_icf rfl (show ¬ ((nI N) ≤ (nI j)) from nI_ge (by omega) (by omega)) k9) ?_
        refine gp_n 3 (j' := 19) (lv' := [some (.ref 70), some (.int mn), some (.long K), none, some (.int (nI i)), some (.int (nI q)), some (.int (nI j))]) (st' := [.int (nI i), .int (nI j), .int (nI q)]) (h' := (shT, fi, fl, fr)) rfl ?_
        refine gp_of (fun _ k9 => g_icf rfl (show ¬ ((nI j) = (nI i)) from ne) k9) ?_
        refine gp_n 3 (j' := 23) (lv' := [some (.ref 70), some (.int mn), some (.long K), none, some (.int (nI i)), some (.int (nI q)), some (.int (nI j))]) (st' := [.int (nI i), .int (nI j), .ref 70, .int (nI q)]) (h' := (shT, fi, fl, fr)) rfl ?_
        refine gp_of (fun _ k9 => g_call (y := 165) (as := [.ref 70, .int (nI j), .int (nI i)]) (st' := [.int (nI q)]) rfl rfl (ib) k9) ?_
        refine gp_of (fun _ k9 => g_iff rfl (show ¬ ((1 : Int32) = (0 : Int32)) from by decide) k9) ?_
        refine gp_n 3 (j' := 29) (lv' := [some (.ref 70), some (.int mn), some (.long K), none, some (.int (nI i)), some (.int (nI q)), some (.int (nI j))]) (st' := [.int ((nI q) + 1)]) (h' := (shT, fi, fl, fr)) rfl ?_
        rw [show nI q + 1 = nI (q + 1) from nI_add q 1]
        refine gp_n 3 (j' := 12) (lv' := [some (.ref 70), some (.int mn), some (.long K), none, some (.int (nI i)), some (.int (nI (q + 1))), some (.int ((nI j) + 1))]) (st' := []) (h' := (shT, fi, fl, fr)) rfl ?_
        rw [nI_1]
        exact gp_done g rfl
theorem ky_go {N m q : Nat} {er : Int32} {h : PmH} (hI : HI hdT shT h) (hN : N ≤ 64) (hm : m ≤ 6) (hq : q ≤ 1000) (c14 : ph_i h 70 14 = nI N) (c5 : ph_i h 70 19 = er) (c0 : ph_i h 70 15 = nI m) : ∀ (n i : Nat) (K : Int64) (l5 l6 : Option Value), i + n = N → (∀ j, j < 64 → bl K j = (decide (j < i) && decide (rk (zz er m) N j < q))) → GoP pmT none cd_164 4 [some (.ref 70), some (.int (nI q)), some (.long K), none, some (.int (nI i)), l5, l6] [] h (fun r => ∃ K', r = (some (.long K'), h) ∧ kpB (zz er m) N q K') := by
  intro n
  induction n with
  | zero =>
    intro i K l5 l6 hi hK
    have hi : i = N := by omega
    subst hi
    refine gp_mono (fun r (z : r = (some (.long K), h)) => ⟨K, z, hK⟩) ?_
    obtain ⟨S, fi, fl, fr⟩ := h
    have hS : S = shT := hI.1
    subst hS
    have c14 : fi 70 14 = nI i := c14
    refine gp_n 2 (j' := 6) (lv' := [some (.ref 70), some (.int (nI q)), some (.long K), none, some (.int (nI i)), l5, l6]) (st' := [.ref 70, .int (nI i)]) (h' := (shT, fi, fl, fr)) rfl ?_
    refine gp_of (fun _ k9 => g_getI (x := nI i) rfl (Or.inl rfl) rfl (by decide) (c14) k9) ?_
    refine gp_of (fun _ k9 => g_ict rfl (show (nI i) ≤ (nI i) from Int32.le_refl _) k9) ?_
    refine gp_n 1 (j' := 44) (lv' := [some (.ref 70), some (.int (nI q)), some (.long K), none, some (.int (nI i)), l5, l6]) (st' := [.long K]) (h' := (shT, fi, fl, fr)) rfl ?_
    refine gp_done (g_lret rfl) ?_
    rfl
  | succ n ih =>
    intro i K l5 l6 hi hK
    have rkl : rk (zz er m) N i ≤ N := cntP_le _ _
    have main : GoP pmT none cd_164 32 [some (.ref 70), some (.int (nI q)), some (.long K), none, some (.int (nI i)), some (.int (nI (rk (zz er m) N i))), some (.int (nI N))] [] h (fun r => ∃ K', r = (some (.long K'), h) ∧ kpB (zz er m) N q K') := by
      by_cases hr : rk (zz er m) N i < q
      · have g := ih (i + 1) (K ||| bitAt i) (some (.int (nI (rk (zz er m) N i)))) (some (.int (nI N))) (by omega) (fun j hj => by
          rw [bl_or, bitAt_bl (by omega) hj, hK j hj]
          by_cases h1 : j = i
          · subst h1
            rw [decide_eq_true rfl, Bool.or_true, decide_eq_true hr, decide_eq_true (by omega)]
            rfl
          · rw [decide_eq_false h1, Bool.or_false]
            congr 1
            exact decide_eq_decide.mpr (by omega))
        generalize (fun r : Option Value × PmH => ∃ K', r = (some (.long K'), h) ∧ kpB (zz er m) N q K') = Q at *
        generalize rk (zz er m) N i = rr at *
        clear ih hK
        obtain ⟨S, fi, fl, fr⟩ := h
        have hS : S = shT := hI.1
        subst hS
        refine gp_n 2 (j' := 34) (lv' := [some (.ref 70), some (.int (nI q)), some (.long K), none, some (.int (nI i)), some (.int (nI rr)), some (.int (nI N))]) (st' := [.int (nI q), .int (nI rr)]) (h' := (shT, fi, fl, fr)) rfl ?_
        refine gp_of (fun _ k9 => g_icf rfl (show ¬ ((nI q) ≤ (nI rr)) from nI_ge hr (by omega)) k9) ?_
        refine gp_n 5 (j' := 40) (lv' := [some (.ref 70), some (.int (nI q)), some (.long K), none, some (.int (nI i)), some (.int (nI rr)), some (.int (nI N))]) (st' := [.long (K ||| ((1 : Int64) <<< ((nI i : Int32).toInt64 &&& 63)))]) (h' := (shT, fi, fl, fr)) rfl ?_
        show GoP pmT none cd_164 _ _ [.long (K ||| bitAt i)] _ _
        refine gp_n 3 (j' := 4) (lv' := [some (.ref 70), some (.int (nI q)), some (.long (K ||| bitAt i)), none, some (.int ((nI i) + 1)), some (.int (nI rr)), some (.int (nI N))]) (st' := []) (h' := (shT, fi, fl, fr)) rfl ?_
        rw [nI_1]
        exact g
      · have g := ih (i + 1) K (some (.int (nI (rk (zz er m) N i)))) (some (.int (nI N))) (by omega) (fun j hj => by
          rw [hK j hj]
          by_cases h1 : j = i
          · subst h1
            rw [decide_eq_false hr, Bool.and_false, Bool.and_false]
          · congr 1
            exact decide_eq_decide.mpr (by omega))
        generalize (fun r : Option Value × PmH => ∃ K', r = (some (.long K'), h) ∧ kpB (zz er m) N q K') = Q at *
        generalize rk (zz er m) N i = rr at *
        clear ih hK
        obtain ⟨S, fi, fl, fr⟩ := h
        have hS : S = shT := hI.1
        subst hS
        refine gp_n 2 (j' := 34) (lv' := [some (.ref 70), some (.int (nI q)), some (.long K), none, some (.int (nI i)), some (.int (nI rr)), some (.int (nI N))]) (st' := [.int (nI q), .int (nI rr)]) (h' := (shT, fi, fl, fr)) rfl ?_
        refine gp_of (fun _ k9 => g_ict rfl (show (nI q) ≤ (nI rr) from nI_le (by omega) (by omega)) k9) ?_
        refine gp_n 2 (j' := 4) (lv' := [some (.ref 70), some (.int (nI q)), some (.long K), none, some (.int ((nI i) + 1)), some (.int (nI rr)), some (.int (nI N))]) (st' := []) (h' := (shT, fi, fl, fr)) rfl ?_
        rw [nI_1]
        exact g
    obtain ⟨r, g, hr⟩ := main
    refine ⟨r, ?_, hr⟩
    have g2 := ah_go (mn := nI q) (K := K) (r := r) hI hN hm (show i < N by omega) c14 c5 c0 N 0 (by omega) g
    clear ih hK g
    obtain ⟨S, fi, fl, fr⟩ := h
    have hS : S = shT := hI.1
    subst hS
    have c14 : fi 70 14 = nI N := c14
    refine go_of ?_
    refine gp_n 2 (j' := 6) (lv' := [some (.ref 70), some (.int (nI q)), some (.long K), none, some (.int (nI i)), l5, l6]) (st' := [.ref 70, .int (nI i)]) (h' := (shT, fi, fl, fr)) rfl ?_
    refine gp_of (fun _ k9 => g_getI (x := nI N) rfl (Or.inl rfl) rfl (by decide) (c14) k9) ?_
    refine gp_of (fun _ k9 => g_icf rfl (show ¬ ((nI N) ≤ (nI i)) from nI_ge (by omega) (by omega)) k9) ?_
    refine gp_n 4 (j' := 12) (lv' := [some (.ref 70), some (.int (nI q)), some (.long K), none, some (.int (nI i)), some (.int (nI 0)), some (.int (nI 0))]) (st' := []) (h' := (shT, fi, fl, fr)) rfl ?_
    exact gp_done g2 rfl
theorem ky_ev {N m q : Nat} {er : Int32} {h : PmH} (hI : HI hdT shT h) (hN : N ≤ 64) (hm : m ≤ 6) (hq : q ≤ 1000) (c14 : ph_i h 70 14 = nI N) (c5 : ph_i h 70 19 = er) (c0 : ph_i h 70 15 = nI m) : ∃ K, Ev pmT 164 [.ref 70, .int (nI q)] h (some (.long K)) h ∧ kpB (zz er m) N q K := by
  obtain ⟨r, g, K, hr, hK⟩ := ky_go hI hN hm hq c14 c5 c0 N 0 0 none none (by omega) (fun j hj => by rw [bl_0 j hj, decide_eq_false (Nat.not_lt_zero _), Bool.false_and])
  subst hr
  refine ⟨K, Ev.of (es := cd_164) (ml := 7) (lv := [some (.ref 70), some (.int (nI q)), none, none, none, none, none]) rfl rfl rfl ?_, hK⟩
  generalize hh : h = h2 at g ⊢
  have hI : HI hdT shT h2 := hh ▸ hI
  clear hh
  obtain ⟨S, fi, fl, fr⟩ := h2
  have hS : S = shT := hI.1
  subst hS
  refine go_of ?_
  refine gp_n 4 (j' := 4) (lv' := [some (.ref 70), some (.int (nI q)), some (.long 0), none, some (.int (nI 0)), none, none]) (st' := []) (h' := (shT, fi, fl, fr)) rfl ?_
  exact gp_done g rfl
