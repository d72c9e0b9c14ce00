theorem co_ev2 {g D m d : Nat} {fi : Nat → Nat → Int32} {fl : Nat → Nat → Int64} {fr : Nat → Nat → Option Nat} (hg : g < 2 ^ 31) (hD : D < 2 ^ 31) (hm : m < 2 ^ 31) (hd : d < 2 ^ 31) (c0 : fi 38 0 = nI m) (c1 : fi 38 1 = nI d) : ∃ fi', (fi' 38 0 = nI (if D < d ∨ (D = d ∧ g < m) then g else m) ∧ fi' 38 1 = nI (if D < d ∨ (D = d ∧ g < m) then D else d)) ∧ (∀ p s, ¬ p = 38 → fi' p s = fi p s) ∧ Ev pmT 134 [.ref 38, .int (nI g), .int (nI D)] (shT, fi, fl, fr) none (shT, fi', fl, fr) := by
  by_cases hc : D < d ∨ (D = d ∧ g < m)
  · rw [if_pos hc, if_pos hc]
    refine ⟨pm_u2 (pm_u2 fi 38 0 (nI g)) 38 1 (nI D), ⟨(wl_ne (by decide)).trans u2_eq, u2_eq⟩, fun p s z => (wl_ne (by omega)).trans (wl_ne (by omega)), ?_⟩
    refine Ev.of (es := cd_134) (ml := 3) (lv := [some (.ref 38), some (.int (nI g)), some (.int (nI D))]) rfl rfl rfl ?_
    refine go_of ?_
    by_cases h1 : D < d
    ·
      refine gp_n 2 (j' := 2) (lv' := [some (.ref 38), some (.int (nI g)), some (.int (nI D))]) (st' := [.ref 38, .int (nI D)]) (h' := (shT, fi, fl, fr)) rfl ?_
      refine gp_of (fun _ k9 => g_getI (x := nI d) rfl (Or.inl rfl) rfl (by decide) (c1) k9) ?_
      refine gp_of (fun _ k9 => g_ict rfl (show (nI D) < (nI d) from nI_lt h1 hd) k9) ?_
      refine gp_n 2 (j' := 14) (lv' := [some (.ref 38), some (.int (nI g)), some (.int (nI D))]) (st' := [.int (nI g), .ref 38]) (h' := (shT, fi, fl, fr)) rfl ?_
      refine gp_of (fun _ k9 => g_putI rfl (Or.inl rfl) rfl (by decide) k9) ?_
      refine gp_n 2 (j' := 17) (lv' := [some (.ref 38), some (.int (nI g)), some (.int (nI D))]) (st' := [.int (nI D), .ref 38]) (h' := (shT, pm_u2 fi 38 0 (nI g), fl, fr)) rfl ?_
      refine gp_of (fun _ k9 => g_putI rfl (Or.inl rfl) rfl (by decide) k9) ?_
      refine gp_done (g_vret rfl) ?_
      rfl
    · have h2 : D = d ∧ g < m := hc.resolve_left h1
      have e : nI D = nI d := by rw [h2.1]
      refine gp_n 2 (j' := 2) (lv' := [some (.ref 38), some (.int (nI g)), some (.int (nI D))]) (st' := [.ref 38, .int (nI D)]) (h' := (shT, fi, fl, fr)) rfl ?_
      refine gp_of (fun _ k9 => g_getI (x := nI d) rfl (Or.inl rfl) rfl (by decide) (c1) k9) ?_
      refine gp_of (fun _ k9 => g_icf rfl (show ¬ ((nI D) < (nI d)) from nI_nlt (by omega) hD) k9) ?_
      refine gp_n 2 (j' := 6) (lv' := [some (.ref 38), some (.int (nI g)), some (.int (nI D))]) (st' := [.ref 38, .int (nI D)]) (h' := (shT, fi, fl, fr)) rfl ?_
      refine gp_of (fun _ k9 => g_getI (x := nI d) rfl (Or.inl rfl) rfl (by decide) (c1) k9) ?_
      refine gp_of (fun _ k9 => g_icf rfl (show ¬ (¬ (nI D) = (nI d)) from not_not_intro e) k9) ?_
      refine gp_n 2 (j' := 10) (lv' := [some (.ref 38), some (.int (nI g)), some (.int (nI D))]) (st' := [.ref 38, .int (nI g)]) (h' := (shT, fi, fl, fr)) rfl ?_
      refine gp_of (fun _ k9 => g_getI (x := nI m) rfl (Or.inl rfl) rfl (by decide) (c0) k9) ?_
      refine gp_of (fun _ k9 => g_icf rfl (show ¬ ((nI m) ≤ (nI g)) from nI_ge h2.2 hm) k9) ?_
      refine gp_n 2 (j' := 14) (lv' := [some (.ref 38), some (.int (nI g)), some (.int (nI D))]) (st' := [.int (nI g), .ref 38]) (h' := (shT, fi, fl, fr)) rfl ?_
      refine gp_of (fun _ k9 => g_putI rfl (Or.inl rfl) rfl (by decide) k9) ?_
      refine gp_n 2 (j' := 17) (lv' := [some (.ref 38), some (.int (nI g)), some (.int (nI D))]) (st' := [.int (nI D), .ref 38]) (h' := (shT, pm_u2 fi 38 0 (nI g), fl, fr)) rfl ?_
      refine gp_of (fun _ k9 => g_putI rfl (Or.inl rfl) rfl (by decide) k9) ?_
      refine gp_done (g_vret rfl) ?_
      rfl
  · rw [if_neg hc, if_neg hc]
    refine ⟨fi, ⟨c0, c1⟩, fun _ _ _ => rfl, ?_⟩
    refine Ev.of (es := cd_134) (ml := 3) (lv := [some (.ref 38), some (.int (nI g)), some (.int (nI D))]) rfl rfl rfl ?_
    refine go_of ?_
    have h1 : ¬ nI D < nI d := nI_nlt (by omega) hD
    by_cases h2 : D = d
    · have e : nI D = nI d := by rw [h2]
      have h3 : nI m ≤ nI g := nI_le (by omega) hg
      refine gp_n 2 (j' := 2) (lv' := [some (.ref 38), some (.int (nI g)), some (.int (nI D))]) (st' := [.ref 38, .int (nI D)]) (h' := (shT, fi, fl, fr)) rfl ?_
      refine gp_of (fun _ k9 => g_getI (x := nI d) rfl (Or.inl rfl) rfl (by decide) (c1) k9) ?_
      refine gp_of (fun _ k9 => g_icf rfl (show ¬ ((nI D) < (nI d)) from h1) k9) ?_
      refine gp_n 2 (j' := 6) (lv' := [some (.ref 38), some (.int (nI g)), some (.int (nI D))]) (st' := [.ref 38, .int (nI D)]) (h' := (shT, fi, fl, fr)) rfl ?_
      refine gp_of (fun _ k9 => g_getI (x := nI d) rfl (Or.inl rfl) rfl (by decide) (c1) k9) ?_
      refine gp_of (fun _ k9 => g_icf rfl (show ¬ (¬ (nI D) = (nI d)) from not_not_intro e) k9) ?_
      refine gp_n 2 (j' := 10) (lv' := [some (.ref 38), some (.int (nI g)), some (.int (nI D))]) (st' := [.ref 38, .int (nI g)]) (h' := (shT, fi, fl, fr)) rfl ?_
      refine gp_of (fun _ k9 => g_getI (x := nI m) rfl (Or.inl rfl) rfl (by decide) (c0) k9) ?_
      refine gp_of (fun _ k9 => g_ict rfl (show (nI m) ≤ (nI g) from h3) k9) ?_
      refine gp_done (g_vret rfl) ?_
      rfl
    · have e : ¬ nI D = nI d := fun z => h2 ((nI_eq hD hd).mp z)
      refine gp_n 2 (j' := 2) (lv' := [some (.ref 38), some (.int (nI g)), some (.int (nI D))]) (st' := [.ref 38, .int (nI D)]) (h' := (shT, fi, fl, fr)) rfl ?_
      refine gp_of (fun _ k9 => g_getI (x := nI d) rfl (Or.inl rfl) rfl (by decide) (c1) k9) ?_
      refine gp_of (fun _ k9 => g_icf rfl (show ¬ ((nI D) < (nI d)) from h1) k9) ?_
      refine gp_n 2 (j' := 6) (lv' := [some (.ref 38), some (.int (nI g)), some (.int (nI D))]) (st' := [.ref 38, .int (nI D)]) (h' := (shT, fi, fl, fr)) rfl ?_
      refine gp_of (fun _ k9 => g_getI (x := nI d) rfl (Or.inl rfl) rfl (by decide) (c1) k9) ?_
      refine gp_of (fun _ k9 => g_ict rfl (show ¬ (nI D) = (nI d) from e) k9) ?_
      refine gp_done (g_vret rfl) ?_
      rfl
def nD (a : AB) (m k c v : Nat) : Nat := dN (a_v a).2.2 (eW a m k c v) (2 ^ m)
theorem xor_as (a b c : Int64) : (a ^^^ b) ^^^ c = a ^^^ (b ^^^ c) := bl_ext (fun i _ => by rw [bl_xor, bl_xor, bl_xor, bl_xor, Bool.xor_assoc])
theorem xor_0 (a : Int64) : a ^^^ 0 = a := bl_ext (fun i hi => by rw [bl_xor, bl_0 i hi, Bool.xor_false])
theorem nbC_lt {D : Nat → Nat} {k n : Nat} (hk : k ≤ 12) (hn : n < 2 ^ k) : (nbC D gry n).1 < 4096 := by
  have p := pw2_le hk
  obtain ⟨⟨t, t1, t2⟩, -⟩ := nbC_p (D := D) (g := gry) rfl n
  rw [← t2]
  have := gry_lt (i := t) (k := k) (by omega)
  omega
theorem fn_go {a : AB} {m k c : Nat} {fl : Nat → Nat → Int64} {fr : Nat → Nat → Option Nat} (k12 : k ≤ 12) (m6 : m ≤ 6) (c8 : c ≤ 8) (k2 : fr 38 2 = some 39) (k3 : fr 38 3 = some 40) (hB : ∀ t, t < k → fl 39 t = enW m (2 ^ m) k c (a_v a).2.1 (bitAt t) ((a_v a).1 4)) (hP : ∀ t, t < 7 → fl 40 t = mkW (plF (a_v a).2.2 t) (2 ^ m)) (hS : ∀ s, s < 64 → -127 ≤ ((a_v a).2.2 s).toInt ∧ ((a_v a).2.2 s).toInt ≤ 127) : ∀ (n i : Nat) (fi : Nat → Nat → Int32), 1 ≤ i → i + n = 2 ^ k → fi 1 2 = nI k → fi 38 0 = nI (nbC (nD a m k c) gry (i - 1)).1 → fi 38 1 = nI (nbC (nD a m k c) gry (i - 1)).2 → ∃ fi', (fi' 38 0 = nI (nbC (nD a m k c) gry (2 ^ k - 1)).1 ∧ fi' 38 1 = nI (nbC (nD a m k c) gry (2 ^ k - 1)).2) ∧ Go pmT none cd_129 19 [some (.ref 38), some (.ref 1), some (.long (mkW (fun i => decide ((a_v a).2.2 i < 0)) (2 ^ m) ^^^ eW a m k c (gry (i - 1)))), none, some (.int (nI i))] [] (shT, fi, fl, fr) (none, (shT, fi', fl, fr)) := by
  have p12 := pw2_le k12
  have p6 := pw_6 m (by omega)
  have sh := sh12 k (by omega)
  have dl : ∀ v, nD a m k c v < 2 ^ 31 := fun v => Nat.lt_of_le_of_lt (dN_le hS (2 ^ m) p6.2) (by omega)
  intro n
  induction n with
  | zero =>
    intro i fi h1 hi c2 c0 c1
    have hi : i = 2 ^ k := by omega
    rw [hi] at c0 c1 ⊢
    refine ⟨fi, ⟨c0, c1⟩, ?_⟩
    generalize mkW (fun i => decide ((a_v a).2.2 i < 0)) (2 ^ m) ^^^ eW a m k c (gry (2 ^ k - 1)) = y
    clear c0 c1
    rw [← sh]
    generalize hX : (1 : Int32) <<< (nI k &&& 31) = X
    clear sh
    refine go_of ?_
    refine gp_n 3 (j' := 22) (lv' := [some (.ref 38), some (.ref 1), some (.long y), none, some (.int X)]) (st' := [.ref 1, .int 1, .int X]) (h' := (shT, fi, fl, fr)) rfl ?_
    refine gp_of (fun _ k9 => g_getI (x := nI k) rfl (Or.inl rfl) rfl (by decide) (c2) k9) ?_
    refine gp_n 1 (j' := 24) (lv' := [some (.ref 38), some (.ref 1), some (.long y), none, some (.int X)]) (st' := [.int ((1 : Int32) <<< ((nI k) &&& 31)), .int X]) (h' := (shT, fi, fl, fr)) rfl ?_
    refine gp_of (fun _ k9 => g_ict rfl (show ((1 : Int32) <<< ((nI k) &&& 31)) ≤ X from (by rw [hX]; exact Int32.le_refl _)) k9) ?_
    refine gp_done (g_vret rfl) ?_
    rfl
  | succ n ih =>
    intro i fi h1 hi c2 c0 c1
    have tl := tz_lt h1 (show i < 2 ^ k by omega) k12
    have gf := (gry_f (i := i) (by omega)).2.2
    have st := eW_st (a := a) (m := m) (k := k) (c := c) (i := i) c8 (by omega) h1
    have bt := hB (tzM i) tl
    have nz := fun h => (show Ev pmT 86 [.int (nI i)] h (some (.int (nI (tzM i)))) h by rw [← (gf.2 h1).1]; exact nzf_ev)
    have wg := we_go (u := mkW (fun i => decide ((a_v a).2.2 i < 0)) (2 ^ m) ^^^ eW a m k c (gry i)) (P := fun t => mkW (plF (a_v a).2.2 t) (2 ^ m)) (fi := fi) (fl := fl) (fr := fr) k3 hP 7 0 (by decide)
    rw [we_e p6.2 hS] at wg
    have wg : Go pmT none cd_133 4 [some (.ref 38), some (.long (mkW (fun i => decide ((a_v a).2.2 i < 0)) (2 ^ m) ^^^ eW a m k c (gry i))), none, some (.int 0), some (.int (nI 0))] [] (shT, fi, fl, fr) (some (.int (nI (nD a m k c (gry i)))), (shT, fi, fl, fr)) := wg
    have we : Ev pmT 133 [.ref 38, .long (mkW (fun i => decide ((a_v a).2.2 i < 0)) (2 ^ m) ^^^ eW a m k c (gry i))] (shT, fi, fl, fr) (some (.int (nI (nD a m k c (gry i))))) (shT, fi, fl, fr) := by
      generalize mkW (fun i => decide ((a_v a).2.2 i < 0)) (2 ^ m) ^^^ eW a m k c (gry i) = u at *
      generalize nD a m k c (gry i) = dd at *
      refine Ev.of (es := cd_133) (ml := 5) (lv := [some (.ref 38), some (.long u), none, none, none]) rfl rfl rfl ?_
      refine go_of ?_
      refine gp_n 4 (j' := 4) (lv' := [some (.ref 38), some (.long u), none, some (.int 0), some (.int (nI 0))]) (st' := []) (h' := (shT, fi, fl, fr)) rfl ?_
      exact gp_done wg rfl
    have gl := gry_lt (i := i) (k := k) (by omega)
    have ml := nbC_lt (D := nD a m k c) k12 (n := i - 1) (by omega)
    have d2 : (nbC (nD a m k c) gry (i - 1)).2 < 2 ^ 31 := by
      rw [← (nbC_p (D := nD a m k c) (g := gry) rfl (i - 1)).2.1]
      exact dl _
    obtain ⟨f1, ⟨a1, a2⟩, a3, a4⟩ := co_ev2 (g := gry i) (D := nD a m k c (gry i)) (fi := fi) (fl := fl) (fr := fr) (by omega) (dl _) (by omega) d2 c0 c1
    have en : nbC (nD a m k c) gry i = (if nD a m k c (gry i) < (nbC (nD a m k c) gry (i - 1)).2 ∨ (nD a m k c (gry i) = (nbC (nD a m k c) gry (i - 1)).2 ∧ gry i < (nbC (nD a m k c) gry (i - 1)).1) then (gry i, nD a m k c (gry i)) else nbC (nD a m k c) gry (i - 1)) := by
      obtain ⟨j, rfl⟩ : ∃ j, i = j + 1 := ⟨i - 1, by omega⟩
      rw [Nat.add_sub_cancel]
      rfl
    obtain ⟨f2, b1, b2⟩ := ih (i + 1) f1 (by omega) (by omega) ((a3 1 2 (by decide)).trans c2) (by
      rw [Nat.add_sub_cancel, a1, en]
      split <;> rfl) (by
      rw [Nat.add_sub_cancel, a2, en]
      split <;> rfl)
    refine ⟨f2, b1, ?_⟩
    rw [Nat.add_sub_cancel] at b2
    have lt : ¬ (1 : Int32) <<< (nI k &&& 31) ≤ nI i := by
      rw [sh]
      exact nI_ge (by omega) (by omega)
    have ux : (mkW (fun i => decide ((a_v a).2.2 i < 0)) (2 ^ m) ^^^ eW a m k c (gry (i - 1))) ^^^ enW m (2 ^ m) k c (a_v a).2.1 (bitAt (tzM i)) ((a_v a).1 4) = mkW (fun i => decide ((a_v a).2.2 i < 0)) (2 ^ m) ^^^ eW a m k c (gry i) := by
      rw [xor_as, ← st]
    have gx := gf.1
    clear ih b1 a1 a2 a3 en wg c0 c1 sh st hB hP gf
    generalize mkW (fun i => decide ((a_v a).2.2 i < 0)) (2 ^ m) ^^^ eW a m k c (gry i) = u1 at *
    generalize mkW (fun i => decide ((a_v a).2.2 i < 0)) (2 ^ m) ^^^ eW a m k c (gry (i - 1)) = u0 at *
    generalize enW m (2 ^ m) k c (a_v a).2.1 (bitAt (tzM i)) ((a_v a).1 4) = z at *
    generalize nI (nD a m k c (gry i)) = dd at *
    generalize nI (gry i) = gg at *
    generalize tzM i = tz at *
    refine go_of ?_
    refine gp_n 3 (j' := 22) (lv' := [some (.ref 38), some (.ref 1), some (.long u0), none, some (.int (nI i))]) (st' := [.ref 1, .int 1, .int (nI i)]) (h' := (shT, fi, fl, fr)) rfl ?_
    refine gp_of (fun _ k9 => g_getI (x := nI k) rfl (Or.inl rfl) rfl (by decide) (c2) k9) ?_
    refine gp_n 1 (j' := 24) (lv' := [some (.ref 38), some (.ref 1), some (.long u0), none, some (.int (nI i))]) (st' := [.int ((1 : Int32) <<< ((nI k) &&& 31)), .int (nI i)]) (h' := (shT, fi, fl, fr)) rfl ?_
    refine gp_of (fun _ k9 => g_icf rfl (show ¬ (((1 : Int32) <<< ((nI k) &&& 31)) ≤ (nI i)) from lt) k9) ?_
    refine gp_n 2 (j' := 27) (lv' := [some (.ref 38), some (.ref 1), some (.long u0), none, some (.int (nI i))]) (st' := [.ref 38, .long u0]) (h' := (shT, fi, fl, fr)) rfl ?_
    refine gp_of (fun _ k9 => g_getR (q' := 39) rfl rfl (by decide) k2 k9) ?_
    refine gp_n 1 (j' := 29) (lv' := [some (.ref 38), some (.ref 1), some (.long u0), none, some (.int (nI i))]) (st' := [.int (nI i), .ref 39, .long u0]) (h' := (shT, fi, fl, fr)) rfl ?_
    refine gp_of (fun _ k9 => g_call (y := 86) (as := [.int (nI i)]) (st' := [.ref 39, .long u0]) rfl rfl (nz _) k9) ?_
    refine gp_of (fun _ k9 => g_lald (k := tz) (x := z) rfl rfl (rfl) (by omega) (by decide) (bt) k9) ?_
    refine gp_n 1 (j' := 32) (lv' := [some (.ref 38), some (.ref 1), some (.long u0), none, some (.int (nI i))]) (st' := [.long (u0 ^^^ z)]) (h' := (shT, fi, fl, fr)) rfl ?_
    rw [ux]
    refine gp_n 7 (j' := 39) (lv' := [some (.ref 38), some (.ref 1), some (.long u1), none, some (.int (nI i))]) (st' := [.int ((nI i) ^^^ ((nI i) >>> (1 &&& 31))), .ref 38]) (h' := (shT, fi, fl, fr)) rfl ?_
    rw [gx]
    refine gp_n 2 (j' := 41) (lv' := [some (.ref 38), some (.ref 1), some (.long u1), none, some (.int (nI i))]) (st' := [.long u1, .ref 38, .int gg, .ref 38]) (h' := (shT, fi, fl, fr)) rfl ?_
    refine gp_of (fun _ k9 => g_call (y := 133) (as := [.ref 38, .long u1]) (st' := [.int gg, .ref 38]) rfl rfl (we) k9) ?_
    refine gp_of (fun _ k9 => g_callv (y := 134) (as := [.ref 38, .int gg, .int dd]) (st' := []) rfl rfl (a4) k9) ?_
    refine gp_n 2 (j' := 19) (lv' := [some (.ref 38), some (.ref 1), some (.long u1), none, some (.int ((nI i) + 1))]) (st' := []) (h' := (shT, f1, fl, fr)) rfl ?_
    rw [nI_1 i]
    exact gp_done b2 rfl
theorem fn_ev {h : PmH} {a : AB} {m k c l : Nat} (hI : HI hdT shT h) (vk : VK (a_v a) m k c) (hv : vC a m k c l h) (k12 : k ≤ 12) (hS : ∀ s, s < 64 → ph_i h 2 s = (a_v a).2.2 s) (hB : ∀ s, s < 64 → -127 ≤ ((a_v a).2.2 s).toInt ∧ ((a_v a).2.2 s).toInt ≤ 127) : ∃ h', Ev pmT 129 [.ref 38, .ref 1] h none h' ∧ ph_s h' = shT ∧ ph_r h' 0 11 = some 38 ∧ ph_i h' 38 0 = nI (nbC (nD a m k c) gry (2 ^ k - 1)).1 ∧ ph_i h' 38 1 = nI (nbC (nD a m k c) gry (2 ^ k - 1)).2 := by
  have p6 := pw_6 m (by have := vk.1; omega)
  have p1 : 1 ≤ 2 ^ k := Nat.two_pow_pos k
  obtain ⟨h1, e1, I1, v1, b1, F1⟩ := mb_ev hI vk hv k12
  have s1 : ∀ s, s < 64 → ph_i h1 2 s = (a_v a).2.2 s := fun s hs => ((F1 2 s rfl).1).trans (hS s hs)
  have k2 : ph_r h1 38 2 = some 39 := hi_r I1 rfl rfl (by decide)
  have k3 : ph_r h1 38 3 = some 40 := hi_r I1 rfl rfl (by decide)
  have k8 : ph_r h1 1 8 = some 2 := hi_r I1 rfl rfl (by decide)
  have k11 : ph_r h1 0 11 = some 38 := hi_r I1 rfl rfl (by decide)
  clear F1 hv hS
  obtain ⟨S1, fi1, fl1, fr1⟩ := h1
  have s0 : S1 = shT := I1.1
  subst s0
  have k2 : fr1 38 2 = some 39 := k2
  have k3 : fr1 38 3 = some 40 := k3
  have k8 : fr1 1 8 = some 2 := k8
  have c1 : fi1 1 1 = nI (2 ^ m) := v1.2.1
  have c2 : fi1 1 2 = nI k := v1.2.2.1
  obtain ⟨fl2, q1, q2, q3⟩ := mp_go (S := (a_v a).2.2) (fi := fi1) (fr := fr1) p6.2 k3 k8 c1 s1 hB 7 0 fl1 (by decide)
  have e2 : Ev pmT 131 [.ref 38, .ref 1] (shT, fi1, fl1, fr1) none (shT, fi1, fl2, fr1) := by
    have q3 := q3 none
    refine Ev.of (es := cd_131) (ml := 4) (lv := [some (.ref 38), some (.ref 1), none, none]) rfl rfl rfl ?_
    refine go_of ?_
    refine gp_n 2 (j' := 2) (lv' := [some (.ref 38), some (.ref 1), some (.int (nI 0)), none]) (st' := []) (h' := (shT, fi1, fl1, fr1)) rfl ?_
    exact gp_done q3 rfl
  have sg := sd_go (S := (a_v a).2.2) (fi := fi1) (fl := fl2) (fr := fr1) p6.2 k8 c1 s1 (2 ^ m) 0 (by omega)
  have e3 : Ev pmT 132 [.ref 1] (shT, fi1, fl2, fr1) (some (.long (mkW (fun i => decide ((a_v a).2.2 i < 0)) (2 ^ m)))) (shT, fi1, fl2, fr1) := by
    refine Ev.of (es := cd_132) (ml := 4) (lv := [some (.ref 1), none, none, none]) rfl rfl rfl ?_
    refine go_of ?_
    refine gp_n 4 (j' := 4) (lv' := [some (.ref 1), some (.long (mkW (fun i => decide ((a_v a).2.2 i < 0)) 0)), none, some (.int (nI 0))]) (st' := []) (h' := (shT, fi1, fl2, fr1)) rfl ?_
    exact gp_done sg rfl
  have wg := we_go (u := mkW (fun i => decide ((a_v a).2.2 i < 0)) (2 ^ m) ^^^ 0) (P := fun t => mkW (plF (a_v a).2.2 t) (2 ^ m)) (fi := pm_u2 fi1 38 0 0) (fl := fl2) (fr := fr1) k3 (fun t ht => q1 t (Nat.zero_le t) ht) 7 0 (by decide)
  rw [we_e p6.2 hB, xor_0] at wg
  have z0 : eW a m k c (gry 0) = 0 := eW_0 vk.2.1
  have d0 : dN (a_v a).2.2 0 (2 ^ m) = nD a m k c 0 := by
    unfold nD
    rw [show eW a m k c 0 = 0 from z0]
  rw [d0] at wg
  have e4 : Ev pmT 133 [.ref 38, .long (mkW (fun i => decide ((a_v a).2.2 i < 0)) (2 ^ m))] (shT, pm_u2 fi1 38 0 0, fl2, fr1) (some (.int (nI (nD a m k c 0)))) (shT, pm_u2 fi1 38 0 0, fl2, fr1) := by
    have wg : Go pmT none cd_133 4 [some (.ref 38), some (.long (mkW (fun i => decide ((a_v a).2.2 i < 0)) (2 ^ m))), none, some (.int 0), some (.int (nI 0))] [] (shT, pm_u2 fi1 38 0 0, fl2, fr1) (some (.int (nI (nD a m k c 0))), (shT, pm_u2 fi1 38 0 0, fl2, fr1)) := wg
    generalize mkW (fun i => decide ((a_v a).2.2 i < 0)) (2 ^ m) = u at *
    generalize nD a m k c 0 = dd at *
    refine Ev.of (es := cd_133) (ml := 5) (lv := [some (.ref 38), some (.long u), none, none, none]) rfl rfl rfl ?_
    refine go_of ?_
    refine gp_n 4 (j' := 4) (lv' := [some (.ref 38), some (.long u), none, some (.int 0), some (.int (nI 0))]) (st' := []) (h' := (shT, (pm_u2 fi1 38 0 0), fl2, fr1)) rfl ?_
    exact gp_done wg rfl
  obtain ⟨f3, ⟨r1, r2⟩, g⟩ := fn_go (a := a) (fl := fl2) (fr := fr1) k12 vk.1 vk.2.1 k2 k3 (fun t ht => (q2 39 t (by omega)).trans (b1 t ht)) (fun t ht => q1 t (Nat.zero_le t) ht) hB (2 ^ k - 1) 1 (pm_u2 (pm_u2 fi1 38 0 0) 38 1 (nI (nD a m k c 0))) (by decide) (by omega) ((wl_ne (by decide)).trans ((wl_ne (by decide)).trans c2)) ((wl_ne (by decide)).trans u2_eq) u2_eq
  refine ⟨(shT, f3, fl2, fr1), ?_, rfl, k11, r1, r2⟩
  rw [show eW a m k c (gry (1 - 1)) = 0 from z0, xor_0] at g
  clear q1 q2 q3 sg wg z0 d0 r1 r2 b1 s1 v1
  generalize mkW (fun i => decide ((a_v a).2.2 i < 0)) (2 ^ m) = u at *
  generalize nD a m k c 0 = dd at *
  refine Ev.of (es := cd_129) (ml := 5) (lv := [some (.ref 38), some (.ref 1), none, none, none]) rfl rfl rfl ?_
  obtain ⟨S, fi, fl, fr⟩ := h
  have hS : S = shT := hI.1
  subst hS
  refine go_of ?_
  refine gp_n 2 (j' := 2) (lv' := [some (.ref 38), some (.ref 1), none, none, none]) (st' := [.ref 1, .ref 38]) (h' := (shT, fi, fl, fr)) rfl ?_
  refine gp_of (fun _ k9 => g_callv (y := 130) (as := [.ref 38, .ref 1]) (st' := []) rfl rfl (e1) k9) ?_
  refine gp_n 2 (j' := 5) (lv' := [some (.ref 38), some (.ref 1), none, none, none]) (st' := [.ref 1, .ref 38]) (h' := (shT, fi1, fl1, fr1)) rfl ?_
  refine gp_of (fun _ k9 => g_callv (y := 131) (as := [.ref 38, .ref 1]) (st' := []) rfl rfl (e2) k9) ?_
  refine gp_n 1 (j' := 7) (lv' := [some (.ref 38), some (.ref 1), none, none, none]) (st' := [.ref 1]) (h' := (shT, fi1, fl2, fr1)) rfl ?_
  refine gp_of (fun _ k9 => g_call (y := 132) (as := [.ref 1]) (st' := []) rfl rfl (e3) k9) ?_
  refine gp_n 3 (j' := 11) (lv' := [some (.ref 38), some (.ref 1), some (.long u), none, none]) (st' := [.int 0, .ref 38]) (h' := (shT, fi1, fl2, fr1)) rfl ?_
  refine gp_of (fun _ k9 => g_putI rfl (Or.inl rfl) rfl (by decide) k9) ?_
  refine gp_n 3 (j' := 15) (lv' := [some (.ref 38), some (.ref 1), some (.long u), none, none]) (st' := [.long u, .ref 38, .ref 38]) (h' := (shT, pm_u2 fi1 38 0 0, fl2, fr1)) rfl ?_
  refine gp_of (fun _ k9 => g_call (y := 133) (as := [.ref 38, .long u]) (st' := [.ref 38]) rfl rfl (e4) k9) ?_
  refine gp_of (fun _ k9 => g_putI rfl (Or.inl rfl) rfl (by decide) k9) ?_
  refine gp_n 2 (j' := 19) (lv' := [some (.ref 38), some (.ref 1), some (.long u), none, some (.int (nI 1))]) (st' := []) (h' := (shT, pm_u2 (pm_u2 fi1 38 0 0) 38 1 (nI dd), fl2, fr1)) rfl ?_
  exact gp_done g rfl
def nrV (a : AB) (m k c w : Nat) : Int32 := if 12 < k then -3 else if w = 0 then nI (nbM (nD a m k c) (2 ^ k - 1)).1 else nI (nbM (nD a m k c) (2 ^ k - 1)).2
theorem nr_C {h : PmH} {a : AB} {m k c l w : Nat} (hr : REL2 h a) (h0 : 0 < (a_v a).1 1) (vk : VK (a_v a) m k c) (hl : (a_v a).1 6 = nI l) (hw : w < 2) : ∃ h', Ev pmT 128 [.ref 0, .int (nI w)] h (some (.int (nrV a m k c w))) h' := by
  have hI := hr.1.1
  have kk := vk_k vk
  have hv := vC_of hr vk hl
  have t1 := told1 hI (hr.1.2.1.2.2.2.2.1.1 1 (by decide)) h0
  have k0 : ph_r h 0 0 = some 1 := hi_r hI rfl rfl (by decide)
  have k11 : ph_r h 0 11 = some 38 := hi_r hI rfl rfl (by decide)
  have c2 : ph_i h 1 2 = nI k := hv.2.2.1
  have w2 : w = 0 ∨ w = 1 := by omega
  unfold nrV
  by_cases h12 : 12 < k
  · rw [if_pos h12]
    refine ⟨h, ?_⟩
    have gt : ¬ nI k ≤ 12 := nI_ge (a := 12) h12 (by omega)
    clear hr hv
    obtain ⟨S, fi, fl, fr⟩ := h
    have hS : S = shT := hI.1
    subst hS
    have k0 : fr 0 0 = some 1 := k0
    have c2 : fi 1 2 = nI k := c2
    rcases w2 with rfl | rfl
    · refine Ev.of (es := cd_128) (ml := 2) (lv := [some (.ref 0), some (.int 0)]) rfl rfl rfl ?_
      refine go_of ?_
      refine gp_n 1 (j' := 1) (lv' := [some (.ref 0), some (.int 0)]) (st' := [.ref 0]) (h' := (shT, fi, fl, fr)) rfl ?_
      refine gp_of (fun _ k9 => g_getR (q' := 1) rfl rfl (by decide) k0 k9) ?_
      refine gp_of (fun _ k9 => g_call (y := 57) (as := [.ref 1]) (st' := []) rfl rfl (t1) k9) ?_
      refine gp_of (fun _ k9 => g_iff rfl (show ¬ ((1 : Int32) = (0 : Int32)) from by decide) k9) ?_
      refine gp_n 1 (j' := 5) (lv' := [some (.ref 0), some (.int 0)]) (st' := [.int 0]) (h' := (shT, fi, fl, fr)) rfl ?_
      refine gp_of (fun _ k9 => g_iff rfl (show ¬ ((0 : Int32) < (0 : Int32)) from by decide) k9) ?_
      refine gp_n 2 (j' := 8) (lv' := [some (.ref 0), some (.int 0)]) (st' := [.int 1, .int 0]) (h' := (shT, fi, fl, fr)) rfl ?_
      refine gp_of (fun _ k9 => g_ict rfl (show (0 : Int32) ≤ (1 : Int32) from by decide) k9) ?_
      refine gp_n 1 (j' := 12) (lv' := [some (.ref 0), some (.int 0)]) (st' := [.ref 0]) (h' := (shT, fi, fl, fr)) rfl ?_
      refine gp_of (fun _ k9 => g_getR (q' := 1) rfl rfl (by decide) k0 k9) ?_
      refine gp_of (fun _ k9 => g_getI (x := nI k) rfl (Or.inl rfl) rfl (by decide) (c2) k9) ?_
      refine gp_n 1 (j' := 15) (lv' := [some (.ref 0), some (.int 0)]) (st' := [.int 12, .int (nI k)]) (h' := (shT, fi, fl, fr)) rfl ?_
      refine gp_of (fun _ k9 => g_icf rfl (show ¬ ((nI k) ≤ (12 : Int32)) from gt) k9) ?_
      refine gp_n 1 (j' := 17) (lv' := [some (.ref 0), some (.int 0)]) (st' := [.int (-3)]) (h' := (shT, fi, fl, fr)) rfl ?_
      refine gp_done (g_ret rfl) ?_
      rfl
    · refine Ev.of (es := cd_128) (ml := 2) (lv := [some (.ref 0), some (.int 1)]) rfl rfl rfl ?_
      refine go_of ?_
      refine gp_n 1 (j' := 1) (lv' := [some (.ref 0), some (.int 1)]) (st' := [.ref 0]) (h' := (shT, fi, fl, fr)) rfl ?_
      refine gp_of (fun _ k9 => g_getR (q' := 1) rfl rfl (by decide) k0 k9) ?_
      refine gp_of (fun _ k9 => g_call (y := 57) (as := [.ref 1]) (st' := []) rfl rfl (t1) k9) ?_
      refine gp_of (fun _ k9 => g_iff rfl (show ¬ ((1 : Int32) = (0 : Int32)) from by decide) k9) ?_
      refine gp_n 1 (j' := 5) (lv' := [some (.ref 0), some (.int 1)]) (st' := [.int 1]) (h' := (shT, fi, fl, fr)) rfl ?_
      refine gp_of (fun _ k9 => g_iff rfl (show ¬ ((1 : Int32) < (0 : Int32)) from by decide) k9) ?_
      refine gp_n 2 (j' := 8) (lv' := [some (.ref 0), some (.int 1)]) (st' := [.int 1, .int 1]) (h' := (shT, fi, fl, fr)) rfl ?_
      refine gp_of (fun _ k9 => g_ict rfl (show (1 : Int32) ≤ (1 : Int32) from by decide) k9) ?_
      refine gp_n 1 (j' := 12) (lv' := [some (.ref 0), some (.int 1)]) (st' := [.ref 0]) (h' := (shT, fi, fl, fr)) rfl ?_
      refine gp_of (fun _ k9 => g_getR (q' := 1) rfl rfl (by decide) k0 k9) ?_
      refine gp_of (fun _ k9 => g_getI (x := nI k) rfl (Or.inl rfl) rfl (by decide) (c2) k9) ?_
      refine gp_n 1 (j' := 15) (lv' := [some (.ref 0), some (.int 1)]) (st' := [.int 12, .int (nI k)]) (h' := (shT, fi, fl, fr)) rfl ?_
      refine gp_of (fun _ k9 => g_icf rfl (show ¬ ((nI k) ≤ (12 : Int32)) from gt) k9) ?_
      refine gp_n 1 (j' := 17) (lv' := [some (.ref 0), some (.int 1)]) (st' := [.int (-3)]) (h' := (shT, fi, fl, fr)) rfl ?_
      refine gp_done (g_ret rfl) ?_
      rfl
  · rw [if_neg h12]
    obtain ⟨h1, e1, S1, q11, r1, r2⟩ := fn_ev hI vk hv (by omega) (hr.1.2.1.2.2.2.2.1.2 rfl).2 hr.2.1.2.1
    rw [nb_eq (by omega)] at r1 r2
    refine ⟨h1, ?_⟩
    have gt : nI k ≤ 12 := nI_le (b := 12) (by omega) (by decide)
    generalize nI (nbM (nD a m k c) (2 ^ k - 1)).1 = V1 at *
    generalize nI (nbM (nD a m k c) (2 ^ k - 1)).2 = V2 at *
    clear hr hv
    obtain ⟨S9, fi1, fl1, fr1⟩ := h1
    have S1 : S9 = shT := S1
    subst S1
    have q11 : fr1 0 11 = some 38 := q11
    have r1 : fi1 38 0 = V1 := r1
    have r2 : fi1 38 1 = V2 := r2
    obtain ⟨S, fi, fl, fr⟩ := h
    have hS : S = shT := hI.1
    subst hS
    have k0 : fr 0 0 = some 1 := k0
    have k11 : fr 0 11 = some 38 := k11
    have c2 : fi 1 2 = nI k := c2
    rcases w2 with rfl | rfl
    · rw [if_pos rfl]
      refine Ev.of (es := cd_128) (ml := 2) (lv := [some (.ref 0), some (.int 0)]) rfl rfl rfl ?_
      refine go_of ?_
      refine gp_n 1 (j' := 1) (lv' := [some (.ref 0), some (.int 0)]) (st' := [.ref 0]) (h' := (shT, fi, fl, fr)) rfl ?_
      refine gp_of (fun _ k9 => g_getR (q' := 1) rfl rfl (by decide) k0 k9) ?_
      refine gp_of (fun _ k9 => g_call (y := 57) (as := [.ref 1]) (st' := []) rfl rfl (t1) k9) ?_
      refine gp_of (fun _ k9 => g_iff rfl (show ¬ ((1 : Int32) = (0 : Int32)) from by decide) k9) ?_
      refine gp_n 1 (j' := 5) (lv' := [some (.ref 0), some (.int 0)]) (st' := [.int 0]) (h' := (shT, fi, fl, fr)) rfl ?_
      refine gp_of (fun _ k9 => g_iff rfl (show ¬ ((0 : Int32) < (0 : Int32)) from by decide) k9) ?_
      refine gp_n 2 (j' := 8) (lv' := [some (.ref 0), some (.int 0)]) (st' := [.int 1, .int 0]) (h' := (shT, fi, fl, fr)) rfl ?_
      refine gp_of (fun _ k9 => g_ict rfl (show (0 : Int32) ≤ (1 : Int32) from by decide) k9) ?_
      refine gp_n 1 (j' := 12) (lv' := [some (.ref 0), some (.int 0)]) (st' := [.ref 0]) (h' := (shT, fi, fl, fr)) rfl ?_
      refine gp_of (fun _ k9 => g_getR (q' := 1) rfl rfl (by decide) k0 k9) ?_
      refine gp_of (fun _ k9 => g_getI (x := nI k) rfl (Or.inl rfl) rfl (by decide) (c2) k9) ?_
      refine gp_n 1 (j' := 15) (lv' := [some (.ref 0), some (.int 0)]) (st' := [.int 12, .int (nI k)]) (h' := (shT, fi, fl, fr)) rfl ?_
      refine gp_of (fun _ k9 => g_ict rfl (show (nI k) ≤ (12 : Int32) from gt) k9) ?_
      refine gp_n 1 (j' := 19) (lv' := [some (.ref 0), some (.int 0)]) (st' := [.ref 0]) (h' := (shT, fi, fl, fr)) rfl ?_
      refine gp_of (fun _ k9 => g_getR (q' := 38) rfl rfl (by decide) k11 k9) ?_
      refine gp_n 1 (j' := 21) (lv' := [some (.ref 0), some (.int 0)]) (st' := [.ref 0, .ref 38]) (h' := (shT, fi, fl, fr)) rfl ?_
      refine gp_of (fun _ k9 => g_getR (q' := 1) rfl rfl (by decide) k0 k9) ?_
      refine gp_of (fun _ k9 => g_callv (y := 129) (as := [.ref 38, .ref 1]) (st' := []) rfl rfl (e1) k9) ?_
      refine gp_n 1 (j' := 24) (lv' := [some (.ref 0), some (.int 0)]) (st' := [.int 0]) (h' := (shT, fi1, fl1, fr1)) rfl ?_
      refine gp_of (fun _ k9 => g_iff rfl (show ¬ (¬ (0 : Int32) = (0 : Int32)) from by decide) k9) ?_
      refine gp_n 1 (j' := 26) (lv' := [some (.ref 0), some (.int 0)]) (st' := [.ref 0]) (h' := (shT, fi1, fl1, fr1)) rfl ?_
      refine gp_of (fun _ k9 => g_getR (q' := 38) rfl rfl (by decide) q11 k9) ?_
      refine gp_of (fun _ k9 => g_getI (x := V1) rfl (Or.inl rfl) rfl (by decide) (r1) k9) ?_
      refine gp_n 1 (j' := 32) (lv' := [some (.ref 0), some (.int 0)]) (st' := [.int V1]) (h' := (shT, fi1, fl1, fr1)) rfl ?_
      refine gp_done (g_ret rfl) ?_
      rfl
    · rw [if_neg (by decide)]
      refine Ev.of (es := cd_128) (ml := 2) (lv := [some (.ref 0), some (.int 1)]) rfl rfl rfl ?_
      refine go_of ?_
      refine gp_n 1 (j' := 1) (lv' := [some (.ref 0), some (.int 1)]) (st' := [.ref 0]) (h' := (shT, fi, fl, fr)) rfl ?_
      refine gp_of (fun _ k9 => g_getR (q' := 1) rfl rfl (by decide) k0 k9) ?_
      refine gp_of (fun _ k9 => g_call (y := 57) (as := [.ref 1]) (st' := []) rfl rfl (t1) k9) ?_
      refine gp_of (fun _ k9 => g_iff rfl (show ¬ ((1 : Int32) = (0 : Int32)) from by decide) k9) ?_
      refine gp_n 1 (j' := 5) (lv' := [some (.ref 0), some (.int 1)]) (st' := [.int 1]) (h' := (shT, fi, fl, fr)) rfl ?_
      refine gp_of (fun _ k9 => g_iff rfl (show ¬ ((1 : Int32) < (0 : Int32)) from by decide) k9) ?_
      refine gp_n 2 (j' := 8) (lv' := [some (.ref 0), some (.int 1)]) (st' := [.int 1, .int 1]) (h' := (shT, fi, fl, fr)) rfl ?_
      refine gp_of (fun _ k9 => g_ict rfl (show (1 : Int32) ≤ (1 : Int32) from by decide) k9) ?_
      refine gp_n 1 (j' := 12) (lv' := [some (.ref 0), some (.int 1)]) (st' := [.ref 0]) (h' := (shT, fi, fl, fr)) rfl ?_
      refine gp_of (fun _ k9 => g_getR (q' := 1) rfl rfl (by decide) k0 k9) ?_
      refine gp_of (fun _ k9 => g_getI (x := nI k) rfl (Or.inl rfl) rfl (by decide) (c2) k9) ?_
      refine gp_n 1 (j' := 15) (lv' := [some (.ref 0), some (.int 1)]) (st' := [.int 12, .int (nI k)]) (h' := (shT, fi, fl, fr)) rfl ?_
      refine gp_of (fun _ k9 => g_ict rfl (show (nI k) ≤ (12 : Int32) from gt) k9) ?_
      refine gp_n 1 (j' := 19) (lv' := [some (.ref 0), some (.int 1)]) (st' := [.ref 0]) (h' := (shT, fi, fl, fr)) rfl ?_
      refine gp_of (fun _ k9 => g_getR (q' := 38) rfl rfl (by decide) k11 k9) ?_
      refine gp_n 1 (j' := 21) (lv' := [some (.ref 0), some (.int 1)]) (st' := [.ref 0, .ref 38]) (h' := (shT, fi, fl, fr)) rfl ?_
      refine gp_of (fun _ k9 => g_getR (q' := 1) rfl rfl (by decide) k0 k9) ?_
      refine gp_of (fun _ k9 => g_callv (y := 129) (as := [.ref 38, .ref 1]) (st' := []) rfl rfl (e1) k9) ?_
      refine gp_n 1 (j' := 24) (lv' := [some (.ref 0), some (.int 1)]) (st' := [.int 1]) (h' := (shT, fi1, fl1, fr1)) rfl ?_
      refine gp_of (fun _ k9 => g_ift rfl (show ¬ (1 : Int32) = (0 : Int32) from by decide) k9) ?_
      refine gp_n 1 (j' := 30) (lv' := [some (.ref 0), some (.int 1)]) (st' := [.ref 0]) (h' := (shT, fi1, fl1, fr1)) rfl ?_
      refine gp_of (fun _ k9 => g_getR (q' := 38) rfl rfl (by decide) q11 k9) ?_
      refine gp_of (fun _ k9 => g_getI (x := V2) rfl (Or.inl rfl) rfl (by decide) (r2) k9) ?_
      refine gp_done (g_ret rfl) ?_
      rfl
theorem nr_C0 {h : PmH} {a : AB} {x : Int32} (hr : REL2 h a) (hn : ¬ (0 < (a_v a).1 1 ∧ (0 ≤ x ∧ x ≤ 1))) : Ev pmT 128 [.ref 0, .int x] h (some (.int (-1))) h := by
  have hI := hr.1.1
  have f := hr.1.2.1.2.2.2.2.1.1 1 (by decide)
  have t1 := told1 hI f
  have t0 := told0 hI f
  have k0 : ph_r h 0 0 = some 1 := hi_r hI rfl rfl (by decide)
  clear hr
  refine Ev.of (es := cd_128) (ml := 2) (lv := [some (.ref 0), some (.int x)]) rfl rfl rfl ?_
  obtain ⟨S, fi, fl, fr⟩ := h
  have hS : S = shT := hI.1
  subst hS
  have k0 : fr 0 0 = some 1 := k0
  refine go_of ?_
  by_cases h0 : 0 < (a_v a).1 1
  · have t1 := t1 h0
    by_cases h1 : x < 0
    ·
      refine gp_n 1 (j' := 1) (lv' := [some (.ref 0), some (.int x)]) (st' := [.ref 0]) (h' := (shT, fi, fl, fr)) rfl ?_
      refine gp_of (fun _ k9 => g_getR (q' := 1) rfl rfl (by decide) k0 k9) ?_
      refine gp_of (fun _ k9 => g_call (y := 57) (as := [.ref 1]) (st' := []) rfl rfl (t1) k9) ?_
      refine gp_of (fun _ k9 => g_iff rfl (show ¬ ((1 : Int32) = (0 : Int32)) from by decide) k9) ?_
      refine gp_n 1 (j' := 5) (lv' := [some (.ref 0), some (.int x)]) (st' := [.int x]) (h' := (shT, fi, fl, fr)) rfl ?_
      refine gp_of (fun _ k9 => g_ift rfl (show x < (0 : Int32) from h1) k9) ?_
      refine gp_n 1 (j' := 10) (lv' := [some (.ref 0), some (.int x)]) (st' := [.int (-1)]) (h' := (shT, fi, fl, fr)) rfl ?_
      refine gp_done (g_ret rfl) ?_
      rfl
    · have h2 : ¬ x ≤ 1 := fun z => hn ⟨h0, Int32.not_lt.mp h1, z⟩
      refine gp_n 1 (j' := 1) (lv' := [some (.ref 0), some (.int x)]) (st' := [.ref 0]) (h' := (shT, fi, fl, fr)) rfl ?_
      refine gp_of (fun _ k9 => g_getR (q' := 1) rfl rfl (by decide) k0 k9) ?_
      refine gp_of (fun _ k9 => g_call (y := 57) (as := [.ref 1]) (st' := []) rfl rfl (t1) k9) ?_
      refine gp_of (fun _ k9 => g_iff rfl (show ¬ ((1 : Int32) = (0 : Int32)) from by decide) k9) ?_
      refine gp_n 1 (j' := 5) (lv' := [some (.ref 0), some (.int x)]) (st' := [.int x]) (h' := (shT, fi, fl, fr)) rfl ?_
      refine gp_of (fun _ k9 => g_iff rfl (show ¬ (x < (0 : Int32)) from h1) k9) ?_
      refine gp_n 2 (j' := 8) (lv' := [some (.ref 0), some (.int x)]) (st' := [.int 1, .int x]) (h' := (shT, fi, fl, fr)) rfl ?_
      refine gp_of (fun _ k9 => g_icf rfl (show ¬ (x ≤ (1 : Int32)) from h2) k9) ?_
      refine gp_n 1 (j' := 10) (lv' := [some (.ref 0), some (.int x)]) (st' := [.int (-1)]) (h' := (shT, fi, fl, fr)) rfl ?_
      refine gp_done (g_ret rfl) ?_
      rfl
  · have t0 := t0 h0
    refine gp_n 1 (j' := 1) (lv' := [some (.ref 0), some (.int x)]) (st' := [.ref 0]) (h' := (shT, fi, fl, fr)) rfl ?_
    refine gp_of (fun _ k9 => g_getR (q' := 1) rfl rfl (by decide) k0 k9) ?_
    refine gp_of (fun _ k9 => g_call (y := 57) (as := [.ref 1]) (st' := []) rfl rfl (t0) k9) ?_
    refine gp_of (fun _ k9 => g_ift rfl (show (0 : Int32) = (0 : Int32) from by decide) k9) ?_
    refine gp_n 1 (j' := 10) (lv' := [some (.ref 0), some (.int x)]) (st' := [.int (-1)]) (h' := (shT, fi, fl, fr)) rfl ?_
    refine gp_done (g_ret rfl) ?_
    rfl
theorem ds_M {h : PmH} {N : Nat} {S : Nat → Int32} {w : Int64} (hI : HI hdT shT h) (hN : N ≤ 64) (c1 : ph_i h 70 14 = nI N) (hS : ∀ s, s < 64 → ph_i h 74 s = S s) : Ev pmT 188 [.ref 70, .long w] h (some (.int (dsN S w N))) h := by
  have k22 : ph_r h 70 22 = some 74 := hi_r hI rfl rfl (by decide)
  obtain ⟨S, fi, fl, fr⟩ := h
  have hS : S = shT := hI.1
  subst hS
  have g := dm_go (w := w) (fl := fl) hN k22 c1 hS N 0 (by omega)
  refine Ev.of (es := cd_188) (ml := 5) (lv := [some (.ref 70), some (.long w), none, none, none]) rfl rfl rfl ?_
  refine go_of ?_
  refine gp_n 4 (j' := 4) (lv' := [some (.ref 70), some (.long w), none, some (.int (dsN S w 0)), some (.int (nI 0))]) (st' := []) (h' := (shT, fi, fl, fr)) rfl ?_
  exact gp_done g rfl
theorem nrm_go {h : PmH} {a : AB} {m k c l : Nat} {x : Int32} (hr : REL2 h a) (vk : VK (a_v a) m k c) (hv : vM a m k c l h) (k12 : k ≤ 12) : ∀ (n v : Nat) (l5 : Option Value), 1 ≤ v → v + n = 2 ^ k → ∀ r, Go pmT none cd_224 56 [some (.ref 70), some (.int x), some (.int (nI (nbM (nD a m k c) (2 ^ k - 1)).1)), some (.int (nI (nbM (nD a m k c) (2 ^ k - 1)).2)), some (.int (nI (2 ^ k))), none] [] h r ∨ True → (∀ l5, Go pmT none cd_224 56 [some (.ref 70), some (.int x), some (.int (nI (nbM (nD a m k c) (2 ^ k - 1)).1)), some (.int (nI (nbM (nD a m k c) (2 ^ k - 1)).2)), some (.int (nI (2 ^ k))), l5] [] h r) → Go pmT none cd_224 30 [some (.ref 70), some (.int x), some (.int (nI (nbM (nD a m k c) (v - 1)).1)), some (.int (nI (nbM (nD a m k c) (v - 1)).2)), some (.int (nI v)), l5] [] h r := by
  have p12 := pw2_le k12
  have p6 := pw_6 m (by have := vk.1; omega)
  have sh := sh12 k (by omega)
  have c14 := hv.1
  have c16 := hv.2.1
  have hI := hr.1.1
  have hS := (hr.1.2.2.1.2.2.2.2.1.2 rfl).2
  have hB := hr.2.1.2.1
  have dl : ∀ v, nD a m k c v < 2 ^ 31 := fun v => Nat.lt_of_le_of_lt (dN_le hB (2 ^ m) p6.2) (by omega)
  intro n
  induction n with
  | zero =>
    intro v l5 h1 hi r _ kk
    have hi : v = 2 ^ k := by omega
    rw [hi]
    have kk := kk l5
    generalize nI (nbM (nD a m k c) (2 ^ k - 1)).1 = V1 at *
    generalize nI (nbM (nD a m k c) (2 ^ k - 1)).2 = V2 at *
    rw [← sh] at kk ⊢
    generalize hX : (1 : Int32) <<< (nI k &&& 31) = X at *
    clear sh hv c14 hr hS hB dl
    obtain ⟨S, fi, fl, fr⟩ := h
    have hS : S = shT := hI.1
    subst hS
    have c16 : fi 70 16 = nI k := c16
    refine go_of ?_
    refine gp_n 3 (j' := 33) (lv' := [some (.ref 70), some (.int x), some (.int V1), some (.int V2), some (.int X), l5]) (st' := [.ref 70, .int 1, .int X]) (h' := (shT, fi, fl, fr)) rfl ?_
    refine gp_of (fun _ k9 => g_getI (x := nI k) rfl (Or.inl rfl) rfl (by decide) (c16) k9) ?_
    refine gp_n 1 (j' := 35) (lv' := [some (.ref 70), some (.int x), some (.int V1), some (.int V2), some (.int X), l5]) (st' := [.int ((1 : Int32) <<< ((nI k) &&& 31)), .int X]) (h' := (shT, fi, fl, fr)) rfl ?_
    refine gp_of (fun _ k9 => g_ict rfl (show ((1 : Int32) <<< ((nI k) &&& 31)) ≤ X from (by rw [hX]; exact Int32.le_refl _)) k9) ?_
    exact gp_done kk rfl
  | succ n ih =>
    intro v l5 h1 hi r _ kk
    have g := fun l5 => ih (v + 1) l5 (by omega) (by omega) r (Or.inr trivial) kk
    rw [Nat.add_sub_cancel] at g
    obtain ⟨y, y1, y2⟩ := en_M hI vk hv (nI v).toInt64
    have y2 : Ev pmT 175 [.long y, .int (nI (2 ^ m))] h (some (.long (eW a m k c v))) h := y2
    have ds := ds_M (w := eW a m k c v) hI p6.2 c14 hS
    rw [dN_e hB (2 ^ m) p6.2] at ds
    have ds : Ev pmT 188 [.ref 70, .long (eW a m k c v)] h (some (.int (nI (nD a m k c v)))) h := ds
    have lt : ¬ (1 : Int32) <<< (nI k &&& 31) ≤ nI v := by
      rw [sh]
      exact nI_ge (by omega) (by omega)
    have d2 : (nbM (nD a m k c) (v - 1)).2 < 2 ^ 31 := by
      rw [← (nbM_p (D := nD a m k c) (v - 1)).2.1]
      exact dl _
    have d1 := dl v
    have en : nbM (nD a m k c) v = (if nD a m k c v < (nbM (nD a m k c) (v - 1)).2 then (v, nD a m k c v) else nbM (nD a m k c) (v - 1)) := by
      obtain ⟨j, rfl⟩ : ∃ j, v = j + 1 := ⟨v - 1, by omega⟩
      rw [Nat.add_sub_cancel]
      rfl
    rw [en] at g
    clear ih kk en sh hr hS hB dl hv
    generalize nbM (nD a m k c) (v - 1) = q at *
    generalize nD a m k c v = dd at *
    generalize eW a m k c v = z at *
    generalize nI (2 ^ m) = N at *
    obtain ⟨S, fi, fl, fr⟩ := h
    have hS : S = shT := hI.1
    subst hS
    have c16 : fi 70 16 = nI k := c16
    have c14 : fi 70 14 = N := c14
    refine go_of ?_
    by_cases hp : dd < q.2
    · rw [if_pos hp] at g
      refine gp_n 3 (j' := 33) (lv' := [some (.ref 70), some (.int x), some (.int (nI q.1)), some (.int (nI q.2)), some (.int (nI v)), l5]) (st' := [.ref 70, .int 1, .int (nI v)]) (h' := (shT, fi, fl, fr)) rfl ?_
      refine gp_of (fun _ k9 => g_getI (x := nI k) rfl (Or.inl rfl) rfl (by decide) (c16) k9) ?_
      refine gp_n 1 (j' := 35) (lv' := [some (.ref 70), some (.int x), some (.int (nI q.1)), some (.int (nI q.2)), some (.int (nI v)), l5]) (st' := [.int ((1 : Int32) <<< ((nI k) &&& 31)), .int (nI v)]) (h' := (shT, fi, fl, fr)) rfl ?_
      refine gp_of (fun _ k9 => g_icf rfl (show ¬ (((1 : Int32) <<< ((nI k) &&& 31)) ≤ (nI v)) from lt) k9) ?_
      refine gp_n 4 (j' := 40) (lv' := [some (.ref 70), some (.int x), some (.int (nI q.1)), some (.int (nI q.2)), some (.int (nI v)), l5]) (st' := [.long ((nI v).toInt64), .ref 70, .ref 70]) (h' := (shT, fi, fl, fr)) rfl ?_
      refine gp_of (fun _ k9 => g_call (y := 173) (as := [.ref 70, .long ((nI v).toInt64)]) (st' := [.ref 70]) rfl rfl (y1) k9) ?_
      refine gp_n 1 (j' := 42) (lv' := [some (.ref 70), some (.int x), some (.int (nI q.1)), some (.int (nI q.2)), some (.int (nI v)), l5]) (st' := [.ref 70, .long y, .ref 70]) (h' := (shT, fi, fl, fr)) rfl ?_
      refine gp_of (fun _ k9 => g_getI (x := N) rfl (Or.inl rfl) rfl (by decide) (c14) k9) ?_
      refine gp_of (fun _ k9 => g_call (y := 175) (as := [.long y, .int N]) (st' := [.ref 70]) rfl rfl (y2) k9) ?_
      refine gp_of (fun _ k9 => g_call (y := 188) (as := [.ref 70, .long z]) (st' := []) rfl rfl (ds) k9) ?_
      refine gp_n 3 (j' := 48) (lv' := [some (.ref 70), some (.int x), some (.int (nI q.1)), some (.int (nI q.2)), some (.int (nI v)), some (.int (nI dd))]) (st' := [.int (nI q.2), .int (nI dd)]) (h' := (shT, fi, fl, fr)) rfl ?_
      refine gp_of (fun _ k9 => g_ict rfl (show (nI dd) < (nI q.2) from nI_lt hp d2) k9) ?_
      refine gp_n 6 (j' := 30) (lv' := [some (.ref 70), some (.int x), some (.int (nI v)), some (.int (nI dd)), some (.int ((nI v) + 1)), some (.int (nI dd))]) (st' := []) (h' := (shT, fi, fl, fr)) rfl ?_
      rw [nI_1 v]
      exact gp_done (g _) rfl
    · rw [if_neg hp] at g
      refine gp_n 3 (j' := 33) (lv' := [some (.ref 70), some (.int x), some (.int (nI q.1)), some (.int (nI q.2)), some (.int (nI v)), l5]) (st' := [.ref 70, .int 1, .int (nI v)]) (h' := (shT, fi, fl, fr)) rfl ?_
      refine gp_of (fun _ k9 => g_getI (x := nI k) rfl (Or.inl rfl) rfl (by decide) (c16) k9) ?_
      refine gp_n 1 (j' := 35) (lv' := [some (.ref 70), some (.int x), some (.int (nI q.1)), some (.int (nI q.2)), some (.int (nI v)), l5]) (st' := [.int ((1 : Int32) <<< ((nI k) &&& 31)), .int (nI v)]) (h' := (shT, fi, fl, fr)) rfl ?_
      refine gp_of (fun _ k9 => g_icf rfl (show ¬ (((1 : Int32) <<< ((nI k) &&& 31)) ≤ (nI v)) from lt) k9) ?_
      refine gp_n 4 (j' := 40) (lv' := [some (.ref 70), some (.int x), some (.int (nI q.1)), some (.int (nI q.2)), some (.int (nI v)), l5]) (st' := [.long ((nI v).toInt64), .ref 70, .ref 70]) (h' := (shT, fi, fl, fr)) rfl ?_
      refine gp_of (fun _ k9 => g_call (y := 173) (as := [.ref 70, .long ((nI v).toInt64)]) (st' := [.ref 70]) rfl rfl (y1) k9) ?_
      refine gp_n 1 (j' := 42) (lv' := [some (.ref 70), some (.int x), some (.int (nI q.1)), some (.int (nI q.2)), some (.int (nI v)), l5]) (st' := [.ref 70, .long y, .ref 70]) (h' := (shT, fi, fl, fr)) rfl ?_
      refine gp_of (fun _ k9 => g_getI (x := N) rfl (Or.inl rfl) rfl (by decide) (c14) k9) ?_
      refine gp_of (fun _ k9 => g_call (y := 175) (as := [.long y, .int N]) (st' := [.ref 70]) rfl rfl (y2) k9) ?_
      refine gp_of (fun _ k9 => g_call (y := 188) (as := [.ref 70, .long z]) (st' := []) rfl rfl (ds) k9) ?_
      refine gp_n 3 (j' := 48) (lv' := [some (.ref 70), some (.int x), some (.int (nI q.1)), some (.int (nI q.2)), some (.int (nI v)), some (.int (nI dd))]) (st' := [.int (nI q.2), .int (nI dd)]) (h' := (shT, fi, fl, fr)) rfl ?_
      refine gp_of (fun _ k9 => g_icf rfl (show ¬ ((nI dd) < (nI q.2)) from nI_nlt (by omega) d1) k9) ?_
      refine gp_n 3 (j' := 30) (lv' := [some (.ref 70), some (.int x), some (.int (nI q.1)), some (.int (nI q.2)), some (.int ((nI v) + 1)), some (.int (nI dd))]) (st' := []) (h' := (shT, fi, fl, fr)) rfl ?_
      rw [nI_1 v]
      exact gp_done (g _) rfl
theorem nr_M {h : PmH} {a : AB} {m k c l w : Nat} (hr : REL2 h a) (h0 : 0 < (a_v a).1 1) (vk : VK (a_v a) m k c) (hl : (a_v a).1 6 = nI l) (hw : w < 2) : Ev pmT 224 [.ref 70, .int (nI w)] h (some (.int (nrV a m k c w))) h := by
  have p6 := pw_6 m (by have := vk.1; omega)
  have hI := hr.1.1
  have kk := vk_k vk
  have hv := vM_of hr vk hl
  have t1 := isc1 hI (hr.1.2.2.1.2.2.2.2.1.1 0 (by decide)) h0
  have c14 := hv.1
  have c16 := hv.2.1
  have hS := (hr.1.2.2.1.2.2.2.2.1.2 rfl).2
  have hB := hr.2.1.2.1
  have w2 : w = 0 ∨ w = 1 := by omega
  have isi := fun (x : Int32) h => isin_1 (x := x) 0 1 (l1 := 0) (l2 := 1) (h := h) (by decide) (by decide)
  unfold nrV
  by_cases h12 : 12 < k
  · rw [if_pos h12]
    have gt : ¬ nI k ≤ 12 := nI_ge (a := 12) h12 (by omega)
    clear hr hv hS hB
    obtain ⟨S, fi, fl, fr⟩ := h
    have hS : S = shT := hI.1
    subst hS
    have c16 : fi 70 16 = nI k := c16
    rcases w2 with rfl | rfl
    · refine Ev.of (es := cd_224) (ml := 6) (lv := [some (.ref 70), some (.int 0), none, none, none, none]) rfl rfl rfl ?_
      have is := isi 0 (shT, fi, fl, fr) (by decide)
      refine go_of ?_
      refine gp_n 1 (j' := 1) (lv' := [some (.ref 70), some (.int 0), none, none, none, none]) (st' := [.ref 70]) (h' := (shT, fi, fl, fr)) rfl ?_
      refine gp_of (fun _ k9 => g_call (y := 172) (as := [.ref 70]) (st' := []) rfl rfl (t1) k9) ?_
      refine gp_of (fun _ k9 => g_iff rfl (show ¬ ((1 : Int32) = (0 : Int32)) from by decide) k9) ?_
      refine gp_n 4 (j' := 7) (lv' := [some (.ref 70), some (.int 0), none, none, none, none]) (st' := [.long 1, .long 0, .long 0]) (h' := (shT, fi, fl, fr)) rfl ?_
      refine gp_of (fun _ k9 => g_call (y := 148) (as := [.long 0, .long 0, .long 1]) (st' := []) rfl rfl (is) k9) ?_
      refine gp_of (fun _ k9 => g_ift rfl (show ¬ (1 : Int32) = (0 : Int32) from by decide) k9) ?_
      refine gp_n 1 (j' := 12) (lv' := [some (.ref 70), some (.int 0), none, none, none, none]) (st' := [.ref 70]) (h' := (shT, fi, fl, fr)) rfl ?_
      refine gp_of (fun _ k9 => g_getI (x := nI k) rfl (Or.inl rfl) rfl (by decide) (c16) k9) ?_
      refine gp_n 1 (j' := 14) (lv' := [some (.ref 70), some (.int 0), none, none, none, none]) (st' := [.int 12, .int (nI k)]) (h' := (shT, fi, fl, fr)) rfl ?_
      refine gp_of (fun _ k9 => g_icf rfl (show ¬ ((nI k) ≤ (12 : Int32)) from gt) k9) ?_
      refine gp_n 1 (j' := 16) (lv' := [some (.ref 70), some (.int 0), none, none, none, none]) (st' := [.int (-3)]) (h' := (shT, fi, fl, fr)) rfl ?_
      refine gp_done (g_ret rfl) ?_
      rfl
    · refine Ev.of (es := cd_224) (ml := 6) (lv := [some (.ref 70), some (.int 1), none, none, none, none]) rfl rfl rfl ?_
      have is := isi 1 (shT, fi, fl, fr) (by decide)
      refine go_of ?_
      refine gp_n 1 (j' := 1) (lv' := [some (.ref 70), some (.int 1), none, none, none, none]) (st' := [.ref 70]) (h' := (shT, fi, fl, fr)) rfl ?_
      refine gp_of (fun _ k9 => g_call (y := 172) (as := [.ref 70]) (st' := []) rfl rfl (t1) k9) ?_
      refine gp_of (fun _ k9 => g_iff rfl (show ¬ ((1 : Int32) = (0 : Int32)) from by decide) k9) ?_
      refine gp_n 4 (j' := 7) (lv' := [some (.ref 70), some (.int 1), none, none, none, none]) (st' := [.long 1, .long 0, .long 1]) (h' := (shT, fi, fl, fr)) rfl ?_
      refine gp_of (fun _ k9 => g_call (y := 148) (as := [.long 1, .long 0, .long 1]) (st' := []) rfl rfl (is) k9) ?_
      refine gp_of (fun _ k9 => g_ift rfl (show ¬ (1 : Int32) = (0 : Int32) from by decide) k9) ?_
      refine gp_n 1 (j' := 12) (lv' := [some (.ref 70), some (.int 1), none, none, none, none]) (st' := [.ref 70]) (h' := (shT, fi, fl, fr)) rfl ?_
      refine gp_of (fun _ k9 => g_getI (x := nI k) rfl (Or.inl rfl) rfl (by decide) (c16) k9) ?_
      refine gp_n 1 (j' := 14) (lv' := [some (.ref 70), some (.int 1), none, none, none, none]) (st' := [.int 12, .int (nI k)]) (h' := (shT, fi, fl, fr)) rfl ?_
      refine gp_of (fun _ k9 => g_icf rfl (show ¬ ((nI k) ≤ (12 : Int32)) from gt) k9) ?_
      refine gp_n 1 (j' := 16) (lv' := [some (.ref 70), some (.int 1), none, none, none, none]) (st' := [.int (-3)]) (h' := (shT, fi, fl, fr)) rfl ?_
      refine gp_done (g_ret rfl) ?_
      rfl
  · rw [if_neg h12]
    have gt : nI k ≤ 12 := nI_le (b := 12) (by omega) (by decide)
    obtain ⟨y, y1, y2⟩ := en_M hI vk hv 0
    have y2 : Ev pmT 175 [.long y, .int (nI (2 ^ m))] h (some (.long (eW a m k c 0))) h := y2
    have ds := ds_M (w := eW a m k c 0) hI p6.2 c14 hS
    rw [dN_e hB (2 ^ m) p6.2] at ds
    have ds : Ev pmT 188 [.ref 70, .long (eW a m k c 0)] h (some (.int (nI (nD a m k c 0)))) h := ds
    have p1 : 1 ≤ 2 ^ k := Nat.two_pow_pos k
    have g := fun x => nrm_go (x := x) hr vk hv (by omega) (2 ^ k - 1) 1 none (by decide) (by omega)
    have g : ∀ (x : Int32) r, _ ∨ True → (∀ l5, Go pmT none cd_224 56 [some (.ref 70), some (.int x), some (.int (nI (nbM (nD a m k c) (2 ^ k - 1)).1)), some (.int (nI (nbM (nD a m k c) (2 ^ k - 1)).2)), some (.int (nI (2 ^ k))), l5] [] h r) → Go pmT none cd_224 30 [some (.ref 70), some (.int x), some (.int 0), some (.int (nI (nD a m k c 0))), some (.int 1), none] [] h r := g
    clear hr hv hS hB
    generalize nI (nbM (nD a m k c) (2 ^ k - 1)).1 = V1 at *
    generalize nI (nbM (nD a m k c) (2 ^ k - 1)).2 = V2 at *
    generalize nI (nD a m k c 0) = d0 at *
    generalize eW a m k c 0 = z at *
    generalize nI (2 ^ m) = N at *
    generalize nI (2 ^ k) = KK at *
    obtain ⟨S, fi, fl, fr⟩ := h
    have hS : S = shT := hI.1
    subst hS
    have c16 : fi 70 16 = nI k := c16
    have c14 : fi 70 14 = N := c14
    rcases w2 with rfl | rfl
    · rw [if_pos rfl]
      have g := g 0 (some (.int V1), (shT, fi, fl, fr)) (Or.inr trivial) (fun l5 => by
        refine go_of ?_
        refine gp_n 1 (j' := 57) (lv' := [some (.ref 70), some (.int 0), some (.int V1), some (.int V2), some (.int KK), l5]) (st' := [.int 0]) (h' := (shT, fi, fl, fr)) rfl ?_
        refine gp_of (fun _ k9 => g_iff rfl (show ¬ (¬ (0 : Int32) = (0 : Int32)) from by decide) k9) ?_
        refine gp_n 2 (j' := 61) (lv' := [some (.ref 70), some (.int 0), some (.int V1), some (.int V2), some (.int KK), l5]) (st' := [.int V1]) (h' := (shT, fi, fl, fr)) rfl ?_
        refine gp_done (g_ret rfl) ?_
        rfl)
      refine Ev.of (es := cd_224) (ml := 6) (lv := [some (.ref 70), some (.int 0), none, none, none, none]) rfl rfl rfl ?_
      have is := isi 0 (shT, fi, fl, fr) (by decide)
      refine go_of ?_
      refine gp_n 1 (j' := 1) (lv' := [some (.ref 70), some (.int 0), none, none, none, none]) (st' := [.ref 70]) (h' := (shT, fi, fl, fr)) rfl ?_
      refine gp_of (fun _ k9 => g_call (y := 172) (as := [.ref 70]) (st' := []) rfl rfl (t1) k9) ?_
      refine gp_of (fun _ k9 => g_iff rfl (show ¬ ((1 : Int32) = (0 : Int32)) from by decide) k9) ?_
      refine gp_n 4 (j' := 7) (lv' := [some (.ref 70), some (.int 0), none, none, none, none]) (st' := [.long 1, .long 0, .long 0]) (h' := (shT, fi, fl, fr)) rfl ?_
      refine gp_of (fun _ k9 => g_call (y := 148) (as := [.long 0, .long 0, .long 1]) (st' := []) rfl rfl (is) k9) ?_
      refine gp_of (fun _ k9 => g_ift rfl (show ¬ (1 : Int32) = (0 : Int32) from by decide) k9) ?_
      refine gp_n 1 (j' := 12) (lv' := [some (.ref 70), some (.int 0), none, none, none, none]) (st' := [.ref 70]) (h' := (shT, fi, fl, fr)) rfl ?_
      refine gp_of (fun _ k9 => g_getI (x := nI k) rfl (Or.inl rfl) rfl (by decide) (c16) k9) ?_
      refine gp_n 1 (j' := 14) (lv' := [some (.ref 70), some (.int 0), none, none, none, none]) (st' := [.int 12, .int (nI k)]) (h' := (shT, fi, fl, fr)) rfl ?_
      refine gp_of (fun _ k9 => g_ict rfl (show (nI k) ≤ (12 : Int32) from gt) k9) ?_
      refine gp_n 5 (j' := 22) (lv' := [some (.ref 70), some (.int 0), some (.int 0), none, none, none]) (st' := [.long 0, .ref 70, .ref 70]) (h' := (shT, fi, fl, fr)) rfl ?_
      refine gp_of (fun _ k9 => g_call (y := 173) (as := [.ref 70, .long 0]) (st' := [.ref 70]) rfl rfl (y1) k9) ?_
      refine gp_n 1 (j' := 24) (lv' := [some (.ref 70), some (.int 0), some (.int 0), none, none, none]) (st' := [.ref 70, .long y, .ref 70]) (h' := (shT, fi, fl, fr)) rfl ?_
      refine gp_of (fun _ k9 => g_getI (x := N) rfl (Or.inl rfl) rfl (by decide) (c14) k9) ?_
      refine gp_of (fun _ k9 => g_call (y := 175) (as := [.long y, .int N]) (st' := [.ref 70]) rfl rfl (y2) k9) ?_
      refine gp_of (fun _ k9 => g_call (y := 188) (as := [.ref 70, .long z]) (st' := []) rfl rfl (ds) k9) ?_
      refine gp_n 3 (j' := 30) (lv' := [some (.ref 70), some (.int 0), some (.int 0), some (.int d0), some (.int 1), none]) (st' := []) (h' := (shT, fi, fl, fr)) rfl ?_
      exact gp_done g rfl
    · rw [if_neg (by decide)]
      have g := g 1 (some (.int V2), (shT, fi, fl, fr)) (Or.inr trivial) (fun l5 => by
        refine go_of ?_
        refine gp_n 1 (j' := 57) (lv' := [some (.ref 70), some (.int 1), some (.int V1), some (.int V2), some (.int KK), l5]) (st' := [.int 1]) (h' := (shT, fi, fl, fr)) rfl ?_
        refine gp_of (fun _ k9 => g_ift rfl (show ¬ (1 : Int32) = (0 : Int32) from by decide) k9) ?_
        refine gp_n 1 (j' := 61) (lv' := [some (.ref 70), some (.int 1), some (.int V1), some (.int V2), some (.int KK), l5]) (st' := [.int V2]) (h' := (shT, fi, fl, fr)) rfl ?_
        refine gp_done (g_ret rfl) ?_
        rfl)
      refine Ev.of (es := cd_224) (ml := 6) (lv := [some (.ref 70), some (.int 1), none, none, none, none]) rfl rfl rfl ?_
      have is := isi 1 (shT, fi, fl, fr) (by decide)
      refine go_of ?_
      refine gp_n 1 (j' := 1) (lv' := [some (.ref 70), some (.int 1), none, none, none, none]) (st' := [.ref 70]) (h' := (shT, fi, fl, fr)) rfl ?_
      refine gp_of (fun _ k9 => g_call (y := 172) (as := [.ref 70]) (st' := []) rfl rfl (t1) k9) ?_
      refine gp_of (fun _ k9 => g_iff rfl (show ¬ ((1 : Int32) = (0 : Int32)) from by decide) k9) ?_
      refine gp_n 4 (j' := 7) (lv' := [some (.ref 70), some (.int 1), none, none, none, none]) (st' := [.long 1, .long 0, .long 1]) (h' := (shT, fi, fl, fr)) rfl ?_
      refine gp_of (fun _ k9 => g_call (y := 148) (as := [.long 1, .long 0, .long 1]) (st' := []) rfl rfl (is) k9) ?_
      refine gp_of (fun _ k9 => g_ift rfl (show ¬ (1 : Int32) = (0 : Int32) from by decide) k9) ?_
      refine gp_n 1 (j' := 12) (lv' := [some (.ref 70), some (.int 1), none, none, none, none]) (st' := [.ref 70]) (h' := (shT, fi, fl, fr)) rfl ?_
      refine gp_of (fun _ k9 => g_getI (x := nI k) rfl (Or.inl rfl) rfl (by decide) (c16) k9) ?_
      refine gp_n 1 (j' := 14) (lv' := [some (.ref 70), some (.int 1), none, none, none, none]) (st' := [.int 12, .int (nI k)]) (h' := (shT, fi, fl, fr)) rfl ?_
      refine gp_of (fun _ k9 => g_ict rfl (show (nI k) ≤ (12 : Int32) from gt) k9) ?_
      refine gp_n 5 (j' := 22) (lv' := [some (.ref 70), some (.int 1), some (.int 0), none, none, none]) (st' := [.long 0, .ref 70, .ref 70]) (h' := (shT, fi, fl, fr)) rfl ?_
      refine gp_of (fun _ k9 => g_call (y := 173) (as := [.ref 70, .long 0]) (st' := [.ref 70]) rfl rfl (y1) k9) ?_
      refine gp_n 1 (j' := 24) (lv' := [some (.ref 70), some (.int 1), some (.int 0), none, none, none]) (st' := [.ref 70, .long y, .ref 70]) (h' := (shT, fi, fl, fr)) rfl ?_
      refine gp_of (fun _ k9 => g_getI (x := N) rfl (Or.inl rfl) rfl (by decide) (c14) k9) ?_
      refine gp_of (fun _ k9 => g_call (y := 175) (as := [.long y, .int N]) (st' := [.ref 70]) rfl rfl (y2) k9) ?_
      refine gp_of (fun _ k9 => g_call (y := 188) (as := [.ref 70, .long z]) (st' := []) rfl rfl (ds) k9) ?_
      refine gp_n 3 (j' := 30) (lv' := [some (.ref 70), some (.int 1), some (.int 0), some (.int d0), some (.int 1), none]) (st' := []) (h' := (shT, fi, fl, fr)) rfl ?_
      exact gp_done g rfl
theorem nr_M0 {h : PmH} {a : AB} {x : Int32} (hr : REL2 h a) (hn : ¬ (0 < (a_v a).1 1 ∧ (0 ≤ x ∧ x ≤ 1))) : Ev pmT 224 [.ref 70, .int x] h (some (.int (-1))) h := by
  have hI := hr.1.1
  have c14 : ph_i h 70 14 = (a_v a).1 1 := hr.1.2.2.1.2.2.2.2.1.1 0 (by decide)
  have t1 := isc1 hI c14
  have t0 := isc0 hI c14
  clear hr
  refine Ev.of (es := cd_224) (ml := 6) (lv := [some (.ref 70), some (.int x), none, none, none, none]) rfl rfl rfl ?_
  obtain ⟨S, fi, fl, fr⟩ := h
  have hS : S = shT := hI.1
  subst hS
  refine go_of ?_
  by_cases h0 : 0 < (a_v a).1 1
  · have t1 := t1 h0
    have is := isin_0 (x := x) 0 1 (l1 := 0) (l2 := 1) (h := (shT, fi, fl, fr)) (by decide) (by decide) (fun z => hn ⟨h0, z⟩)
    refine gp_n 1 (j' := 1) (lv' := [some (.ref 70), some (.int x), none, none, none, none]) (st' := [.ref 70]) (h' := (shT, fi, fl, fr)) rfl ?_
    refine gp_of (fun _ k9 => g_call (y := 172) (as := [.ref 70]) (st' := []) rfl rfl (t1) k9) ?_
    refine gp_of (fun _ k9 => g_iff rfl (show ¬ ((1 : Int32) = (0 : Int32)) from by decide) k9) ?_
    refine gp_n 4 (j' := 7) (lv' := [some (.ref 70), some (.int x), none, none, none, none]) (st' := [.long 1, .long 0, .long x.toInt64]) (h' := (shT, fi, fl, fr)) rfl ?_
    refine gp_of (fun _ k9 => g_call (y := 148) (as := [.long x.toInt64, .long 0, .long 1]) (st' := []) rfl rfl (is) k9) ?_
    refine gp_of (fun _ k9 => g_iff rfl (show ¬ (¬ (0 : Int32) = (0 : Int32)) from by decide) k9) ?_
    refine gp_n 1 (j' := 10) (lv' := [some (.ref 70), some (.int x), none, none, none, none]) (st' := [.int (-1)]) (h' := (shT, fi, fl, fr)) rfl ?_
    refine gp_done (g_ret rfl) ?_
    rfl
  · have t0 := t0 h0
    refine gp_n 1 (j' := 1) (lv' := [some (.ref 70), some (.int x), none, none, none, none]) (st' := [.ref 70]) (h' := (shT, fi, fl, fr)) rfl ?_
    refine gp_of (fun _ k9 => g_call (y := 172) (as := [.ref 70]) (st' := []) rfl rfl (t0) k9) ?_
    refine gp_of (fun _ k9 => g_ift rfl (show (0 : Int32) = (0 : Int32) from by decide) k9) ?_
    refine gp_n 1 (j' := 10) (lv' := [some (.ref 70), some (.int x), none, none, none, none]) (st' := [.int (-1)]) (h' := (shT, fi, fl, fr)) rfl ?_
    refine gp_done (g_ret rfl) ?_
    rfl
theorem p4_nearest {h : PmH} {a : AB} (x : Int32) (hr : REL3 h a) : PI3 128 224 [.int x] h (fun x y => x = y) := by
  by_cases hn : 0 < (a_v a).1 1 ∧ (0 ≤ x ∧ x ≤ 1)
  · obtain ⟨h0, hw⟩ := id hn
    obtain ⟨m, k, c, l, vk, hl, l1, l8⟩ := rd_get hr h0
    obtain ⟨n, n1, rfl⟩ := nI_of2 (n := 1) (M := 1) rfl (Int32.not_lt.mpr hw.1) hw.2
    exact p4I vN_147 rfl rfl (fun _ _ => gz_c (gz_r (by decide)) (gz_c (gz_a _) gz_n)) (by decide) (by decide) hr (p3_nearest _ hr) (nr_C hr.1 h0 vk hl (by omega)) (fun h1 r1 => ⟨h1, nr_M r1 h0 vk hl (by omega)⟩)
  · exact p4I vN_147 rfl rfl (fun _ _ => gz_c (gz_r (by decide)) (gz_c (gz_a _) gz_n)) (by decide) (by decide) hr (p3_nearest _ hr) ⟨h, nr_C0 hr.1 hn⟩ (fun h1 r1 => ⟨h1, nr_M0 r1 hn⟩)
