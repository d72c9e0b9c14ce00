/-! WORK: the model's loops -/
theorem goN_f {ct : Nat → Nat → Bool} (h : ∀ l c, ct l c = false) {m c : Nat} : ∀ d, goN ct m c d = true
  | 0 => rfl
  | d + 1 => by rw [goN, goN_f h d, h]; rfl
theorem sumN_0 : ∀ n, sumN (fun _ => 0) n = 0
  | 0 => rfl
  | n + 1 => by rw [sumN, sumN_0 n]
theorem wk_17 {K w : Int64} {m most : Nat} {S : Nat → Int32} {ct : Nat → Nat → Bool} {b : Bool} {q c : Nat} {h : PmH} (hm : m ≤ 6) (hmo1 : 1 ≤ most) (hmo : most ≤ 8) (hct : b = true → ∀ l c', l ≤ m → c' < 2 ^ m → ctM K m S most w l c' = ct l c') (hcf : b = false → ∀ l c', ct l c' = false) (hq : q ≤ m) (hc : c + 2 ^ q ≤ 2 ^ m) (hI : HI hdT shT h) (hx : mwI K m S w h) : ∃ h', HI hdT shT h' ∧ mwI K m S w h' ∧ fram (in_w iN_224) h h' ∧ ((gon ct m q c && !ct q c) = true → ∀ r, Go pmT none cd_207 37 [some (.ref 70), some (.int (nI most)), some (.int (b01 b)), some (.int (nI (2 ^ q))), some (.int (nI c))] [] h' r → Go pmT none cd_207 17 [some (.ref 70), some (.int (nI most)), some (.int (b01 b)), some (.int (nI (2 ^ q))), some (.int (nI c))] [] h r) ∧ ((gon ct m q c && !ct q c) = false → ∀ r, Go pmT none cd_207 77 [some (.ref 70), some (.int (nI most)), some (.int (b01 b)), some (.int (nI (2 ^ q))), some (.int (nI c))] [] h' r → Go pmT none cd_207 17 [some (.ref 70), some (.int (nI most)), some (.int (b01 b)), some (.int (nI (2 ^ q))), some (.int (nI c))] [] h r) := by
  have p6 := pw_6 m (by omega)
  have pq := Nat.two_pow_pos q
  have cN := hx.1.1
  have lt : ¬ nI (2 ^ m) ≤ nI c := nI_ge (by omega) (by omega)
  cases b with
  | false =>
    have cf := hcf rfl
    have e1 := gt_ev0 (most := nI most) (c := nI c) (z := nI (2 ^ q)) hI cN
    have g : gon ct m q c = true := goN_f cf _
    rw [g, cf q c]
    refine ⟨h, hI, hx, fram.rf _ _, fun _ r k => ?_, fun z => absurd z (by decide)⟩
    clear hx hct hcf cf g
    have k : Go pmT none cd_207 37 [some (.ref 70), some (.int (nI most)), some (.int 0), some (.int (nI (2 ^ q))), some (.int (nI c))] [] h r := k
    show Go pmT none cd_207 17 [some (.ref 70), some (.int (nI most)), some (.int 0), some (.int (nI (2 ^ q))), some (.int (nI c))] [] h r
    generalize nI (2 ^ q) = z at *
    generalize nI (2 ^ m) = zN at *
    obtain ⟨S, fi, fl, fr⟩ := h
    have hS : S = shT := hI.1
    subst hS
    have cN : fi 70 14 = zN := cN
    refine go_of ?_
    refine gp_n 2 (j' := 19) (lv' := [some (.ref 70), some (.int (nI most)), some (.int 0), some (.int z), some (.int (nI c))]) (st' := [.ref 70, .int (nI c)]) (h' := (shT, fi, fl, fr)) rfl ?_
    refine gp_of (fun _ k9 => g_getI (x := zN) rfl (Or.inl rfl) rfl (by decide) (cN) k9) ?_
    refine gp_of (fun _ k9 => g_icf rfl (show ¬ (zN ≤ (nI c)) from lt) k9) ?_
    refine gp_n 5 (j' := 26) (lv' := [some (.ref 70), some (.int (nI most)), some (.int 0), some (.int z), some (.int (nI c))]) (st' := [.int z, .int (nI c), .int 0, .int (nI most), .ref 70]) (h' := (shT, fi, fl, fr)) rfl ?_
    refine gp_of (fun _ k9 => g_call (y := 208) (as := [.ref 70, .int (nI most), .int 0, .int (nI c), .int z]) (st' := []) rfl rfl (e1) k9) ?_
    refine gp_of (fun _ k9 => g_iff rfl (show ¬ ((1 : Int32) = (0 : Int32)) from by decide) k9) ?_
    refine gp_n 1 (j' := 29) (lv' := [some (.ref 70), some (.int (nI most)), some (.int 0), some (.int z), some (.int (nI c))]) (st' := [.int 0]) (h' := (shT, fi, fl, fr)) rfl ?_
    refine gp_of (fun _ k9 => g_ift rfl (show (0 : Int32) = (0 : Int32) from by decide) k9) ?_
    exact gp_done k rfl
  | true =>
    have hct := hct rfl
    obtain ⟨h1, e1, I1⟩ := gt_ev (q := q) (c := c) hm hmo1 hmo hq (by omega) hct hI hx
    have F1 := (iv_s (v := some (.int (b01 (gon ct m q c)))) (h' := h1) (as := [.ref 70, .int (nI most), .int 1, .int (nI c), .int (nI (2 ^ q))]) vN_224 rfl (fun _ _ => gz_c (gz_r (by decide)) (gz_c (gz_i (by rw [nI_toInt (by omega)]; omega) (by rw [nI_toInt (by omega)]; omega)) (gz_c (gz_i (by decide) (by decide)) (gz_c (gz_i (by rw [nI_toInt (by omega)]; omega) (by rw [nI_toInt (by omega)]; omega)) (gz_c (gz_i (by rw [nI_toInt (by omega)]; omega) (by rw [nI_toInt (by omega)]; omega)) gz_n))))) hI e1).2
    have x1 := mwI_fr (by decide) (by decide) (by decide) (by decide) F1 hx
    cases hg : gon ct m q c
    · rw [hg] at e1
      have e1 : Ev pmT 208 [.ref 70, .int (nI most), .int 1, .int (nI c), .int (nI (2 ^ q))] h (some (.int 0)) h1 := e1
      refine ⟨h1, I1, x1, F1, fun z => absurd (show false = true from z) (by decide), fun _ r k => ?_⟩
      clear hx hct hcf x1 F1
      have k : Go pmT none cd_207 77 [some (.ref 70), some (.int (nI most)), some (.int 1), some (.int (nI (2 ^ q))), some (.int (nI c))] [] h1 r := k
      show Go pmT none cd_207 17 [some (.ref 70), some (.int (nI most)), some (.int 1), some (.int (nI (2 ^ q))), some (.int (nI c))] [] h r
      generalize nI (2 ^ q) = z at *
      generalize nI (2 ^ m) = zN at *
      obtain ⟨S1, fi1, fl1, fr1⟩ := h1
      have s1 : S1 = shT := I1.1
      subst s1
      obtain ⟨S, fi, fl, fr⟩ := h
      have hS : S = shT := hI.1
      subst hS
      have cN : fi 70 14 = zN := cN
      refine go_of ?_
      refine gp_n 2 (j' := 19) (lv' := [some (.ref 70), some (.int (nI most)), some (.int 1), some (.int z), some (.int (nI c))]) (st' := [.ref 70, .int (nI c)]) (h' := (shT, fi, fl, fr)) rfl ?_
      refine gp_of (fun _ k9 => g_getI (x := zN) rfl (Or.inl rfl) rfl (by decide) (cN) k9) ?_
      refine gp_of (fun _ k9 => g_icf rfl (show ¬ (zN ≤ (nI c)) from lt) k9) ?_
      refine gp_n 5 (j' := 26) (lv' := [some (.ref 70), some (.int (nI most)), some (.int 1), some (.int z), some (.int (nI c))]) (st' := [.int z, .int (nI c), .int 1, .int (nI most), .ref 70]) (h' := (shT, fi, fl, fr)) rfl ?_
      refine gp_of (fun _ k9 => g_call (y := 208) (as := [.ref 70, .int (nI most), .int 1, .int (nI c), .int z]) (st' := []) rfl rfl (e1) k9) ?_
      refine gp_of (fun _ k9 => g_ift rfl (show (0 : Int32) = (0 : Int32) from by decide) k9) ?_
      exact gp_done k rfl
    · rw [hg] at e1
      have e1 : Ev pmT 208 [.ref 70, .int (nI most), .int 1, .int (nI c), .int (nI (2 ^ q))] h (some (.int 1)) h1 := e1
      obtain ⟨h2, e2, I2, F2⟩ := mc_ev I1 x1 hm hmo1 hmo hq hc
      rw [hct q c hq (by omega)] at e2
      have x2 := mwI_fr (by decide) (by decide) (by decide) (by decide) F2 x1
      cases hc1 : ct q c
      · rw [hc1] at e2
        have e2 : Ev pmT 209 [.ref 70, .int (nI most), .int (nI c), .int (nI (2 ^ q))] h1 (some (.int 0)) h2 := e2
        refine ⟨h2, I2, x2, fram.tr F1 (fram.up (by decide) F2), fun _ r k => ?_, fun z => absurd z (by decide)⟩
        clear hx hct hcf x1 F1 x2 F2
        have k : Go pmT none cd_207 37 [some (.ref 70), some (.int (nI most)), some (.int 1), some (.int (nI (2 ^ q))), some (.int (nI c))] [] h2 r := k
        show Go pmT none cd_207 17 [some (.ref 70), some (.int (nI most)), some (.int 1), some (.int (nI (2 ^ q))), some (.int (nI c))] [] h r
        generalize nI (2 ^ q) = z at *
        generalize nI (2 ^ m) = zN at *
        obtain ⟨S1, fi1, fl1, fr1⟩ := h1
        have s1 : S1 = shT := I1.1
        subst s1
        obtain ⟨S2, fi2, fl2, fr2⟩ := h2
        have s2 : S2 = shT := I2.1
        subst s2
        obtain ⟨S, fi, fl, fr⟩ := h
        have hS : S = shT := hI.1
        subst hS
        have cN : fi 70 14 = zN := cN
        refine go_of ?_
        refine gp_n 2 (j' := 19) (lv' := [some (.ref 70), some (.int (nI most)), some (.int 1), some (.int z), some (.int (nI c))]) (st' := [.ref 70, .int (nI c)]) (h' := (shT, fi, fl, fr)) rfl ?_
        refine gp_of (fun _ k9 => g_getI (x := zN) rfl (Or.inl rfl) rfl (by decide) (cN) k9) ?_
        refine gp_of (fun _ k9 => g_icf rfl (show ¬ (zN ≤ (nI c)) from lt) k9) ?_
        refine gp_n 5 (j' := 26) (lv' := [some (.ref 70), some (.int (nI most)), some (.int 1), some (.int z), some (.int (nI c))]) (st' := [.int z, .int (nI c), .int 1, .int (nI most), .ref 70]) (h' := (shT, fi, fl, fr)) rfl ?_
        refine gp_of (fun _ k9 => g_call (y := 208) (as := [.ref 70, .int (nI most), .int 1, .int (nI c), .int z]) (st' := []) rfl rfl (e1) k9) ?_
        refine gp_of (fun _ k9 => g_iff rfl (show ¬ ((1 : Int32) = (0 : Int32)) from by decide) k9) ?_
        refine gp_n 1 (j' := 29) (lv' := [some (.ref 70), some (.int (nI most)), some (.int 1), some (.int z), some (.int (nI c))]) (st' := [.int 1]) (h' := (shT, fi1, fl1, fr1)) rfl ?_
        refine gp_of (fun _ k9 => g_iff rfl (show ¬ ((1 : Int32) = (0 : Int32)) from by decide) k9) ?_
        refine gp_n 4 (j' := 34) (lv' := [some (.ref 70), some (.int (nI most)), some (.int 1), some (.int z), some (.int (nI c))]) (st' := [.int z, .int (nI c), .int (nI most), .ref 70]) (h' := (shT, fi1, fl1, fr1)) rfl ?_
        refine gp_of (fun _ k9 => g_call (y := 209) (as := [.ref 70, .int (nI most), .int (nI c), .int z]) (st' := []) rfl rfl (e2) k9) ?_
        refine gp_of (fun _ k9 => g_ift rfl (show (0 : Int32) = (0 : Int32) from by decide) k9) ?_
        exact gp_done k rfl
      · rw [hc1] at e2
        have e2 : Ev pmT 209 [.ref 70, .int (nI most), .int (nI c), .int (nI (2 ^ q))] h1 (some (.int 1)) h2 := e2
        refine ⟨h2, I2, x2, fram.tr F1 (fram.up (by decide) F2), fun z => absurd z (by decide), fun _ r k => ?_⟩
        clear hx hct hcf x1 F1 x2 F2
        have k : Go pmT none cd_207 77 [some (.ref 70), some (.int (nI most)), some (.int 1), some (.int (nI (2 ^ q))), some (.int (nI c))] [] h2 r := k
        show Go pmT none cd_207 17 [some (.ref 70), some (.int (nI most)), some (.int 1), some (.int (nI (2 ^ q))), some (.int (nI c))] [] h r
        generalize nI (2 ^ q) = z at *
        generalize nI (2 ^ m) = zN at *
        obtain ⟨S1, fi1, fl1, fr1⟩ := h1
        have s1 : S1 = shT := I1.1
        subst s1
        obtain ⟨S2, fi2, fl2, fr2⟩ := h2
        have s2 : S2 = shT := I2.1
        subst s2
        obtain ⟨S, fi, fl, fr⟩ := h
        have hS : S = shT := hI.1
        subst hS
        have cN : fi 70 14 = zN := cN
        refine go_of ?_
        refine gp_n 2 (j' := 19) (lv' := [some (.ref 70), some (.int (nI most)), some (.int 1), some (.int z), some (.int (nI c))]) (st' := [.ref 70, .int (nI c)]) (h' := (shT, fi, fl, fr)) rfl ?_
        refine gp_of (fun _ k9 => g_getI (x := zN) rfl (Or.inl rfl) rfl (by decide) (cN) k9) ?_
        refine gp_of (fun _ k9 => g_icf rfl (show ¬ (zN ≤ (nI c)) from lt) k9) ?_
        refine gp_n 5 (j' := 26) (lv' := [some (.ref 70), some (.int (nI most)), some (.int 1), some (.int z), some (.int (nI c))]) (st' := [.int z, .int (nI c), .int 1, .int (nI most), .ref 70]) (h' := (shT, fi, fl, fr)) rfl ?_
        refine gp_of (fun _ k9 => g_call (y := 208) (as := [.ref 70, .int (nI most), .int 1, .int (nI c), .int z]) (st' := []) rfl rfl (e1) k9) ?_
        refine gp_of (fun _ k9 => g_iff rfl (show ¬ ((1 : Int32) = (0 : Int32)) from by decide) k9) ?_
        refine gp_n 1 (j' := 29) (lv' := [some (.ref 70), some (.int (nI most)), some (.int 1), some (.int z), some (.int (nI c))]) (st' := [.int 1]) (h' := (shT, fi1, fl1, fr1)) rfl ?_
        refine gp_of (fun _ k9 => g_iff rfl (show ¬ ((1 : Int32) = (0 : Int32)) from by decide) k9) ?_
        refine gp_n 4 (j' := 34) (lv' := [some (.ref 70), some (.int (nI most)), some (.int 1), some (.int z), some (.int (nI c))]) (st' := [.int z, .int (nI c), .int (nI most), .ref 70]) (h' := (shT, fi1, fl1, fr1)) rfl ?_
        refine gp_of (fun _ k9 => g_call (y := 209) (as := [.ref 70, .int (nI most), .int (nI c), .int z]) (st' := []) rfl rfl (e2) k9) ?_
        refine gp_of (fun _ k9 => g_iff rfl (show ¬ ((1 : Int32) = (0 : Int32)) from by decide) k9) ?_
        refine gp_n 1 (j' := 77) (lv' := [some (.ref 70), some (.int (nI most)), some (.int 1), some (.int z), some (.int (nI c))]) (st' := []) (h' := (shT, fi2, fl2, fr2)) rfl ?_
        exact gp_done k rfl
theorem st_0 {K w : Int64} {m most : Nat} {S : Nat → Int32} {ct : Nat → Nat → Bool} {b : Bool} {c : Nat} {h : PmH} (hm : m ≤ 6) (hmo1 : 1 ≤ most) (hmo : most ≤ 8) (hct : b = true → ∀ l c', l ≤ m → c' < 2 ^ m → ctM K m S most w l c' = ct l c') (hcf : b = false → ∀ l c', ct l c' = false) (hc : c < 2 ^ m) (hI : HI hdT shT h) (hx : mwI K m S w h) : ∃ h', HI hdT shT h' ∧ mwI K m S w h' ∧ fram (in_w iN_226) h h' ∧ ph_i h' 70 36 = ph_i h 70 36 + nI (0) ∧ ph_i h' 70 37 = ph_i h 70 37 + nI (0) ∧ ph_i h' 70 38 = ph_i h 70 38 + nI (gD ct m c) ∧ ∀ r, Go pmT none cd_207 77 [some (.ref 70), some (.int (nI most)), some (.int (b01 b)), some (.int (nI (2 ^ 0))), some (.int (nI c))] [] h' r → Go pmT none cd_207 17 [some (.ref 70), some (.int (nI most)), some (.int (b01 b)), some (.int (nI (2 ^ 0))), some (.int (nI c))] [] h r := by
  obtain ⟨h1, I1, x1, F1, y, n⟩ := wk_17 (q := 0) (c := c) hm hmo1 hmo hct hcf (Nat.zero_le _) (by rw [Nat.pow_zero]; omega) hI hx
  have f6 := (F1 70 36 (by decide)).1
  have f7 := (F1 70 37 (by decide)).1
  have f8 := (F1 70 38 (by decide)).1
  have F1 : fram (in_w iN_226) h h1 := fram.up (by decide) F1
  cases hn : (gon ct m 0 c && !ct 0 c)
  · have n := n hn
    have e : gD ct m c = 0 := by
      unfold gD
      refine if_neg (fun z => ?_)
      rw [z.1, z.2] at hn
      cases hn
    rw [e]
    exact ⟨h1, I1, x1, F1, f6.trans (Int32.add_zero _).symm, f7.trans (Int32.add_zero _).symm, f8.trans (Int32.add_zero _).symm, n⟩
  · have y := y hn
    have e : gD ct m c = 1 := by
      unfold gD
      refine if_pos ?_
      cases z1 : gon ct m 0 c
      · rw [z1] at hn
        cases hn
      · cases z2 : ct 0 c
        · exact ⟨rfl, rfl⟩
        · rw [z1, z2] at hn
          cases hn
    rw [e]
    clear n hct hcf hx hn
    generalize b01 b = bb at *
    obtain ⟨S1, fi1, fl1, fr1⟩ := h1
    have s1 : S1 = shT := I1.1
    subst s1
    have W : fram (in_w iN_226) (shT, fi1, fl1, fr1) (shT, pm_u2 fi1 70 38 (fi1 70 38 + 1), fl1, fr1) := fr_wi rfl
    refine ⟨(shT, pm_u2 fi1 70 38 (fi1 70 38 + 1), fl1, fr1), HI_wi I1 (fun z => absurd z (by decide)), mwI_fr (by decide) (by decide) (by decide) (by decide) W x1, fram.tr F1 W, ?_, ?_, ?_, fun r k => y r ?_⟩
    · exact (show pm_u2 fi1 70 38 (fi1 70 38 + 1) 70 36 = fi1 70 36 from wl_ne (by decide)).trans (f6.trans (Int32.add_zero _).symm)
    · exact (show pm_u2 fi1 70 38 (fi1 70 38 + 1) 70 37 = fi1 70 37 from wl_ne (by decide)).trans (f7.trans (Int32.add_zero _).symm)
    · exact (show pm_u2 fi1 70 38 (fi1 70 38 + 1) 70 38 = fi1 70 38 + 1 from u2_eq).trans (congrArg (· + 1) f8)
    clear y W F1 f6 f7 f8 x1
    refine go_of ?_
    refine gp_n 2 (j' := 39) (lv' := [some (.ref 70), some (.int (nI most)), some (.int bb), some (.int (nI (2 ^ 0))), some (.int (nI c))]) (st' := [.int 1, .int (nI (2 ^ 0))]) (h' := (shT, fi1, fl1, fr1)) rfl ?_
    refine gp_of (fun _ k9 => g_icf rfl (show ¬ (¬ (nI (2 ^ 0)) = (1 : Int32)) from (fun z => z rfl)) k9) ?_
    refine gp_n 2 (j' := 42) (lv' := [some (.ref 70), some (.int (nI most)), some (.int bb), some (.int (nI (2 ^ 0))), some (.int (nI c))]) (st' := [.ref 70, .ref 70]) (h' := (shT, fi1, fl1, fr1)) rfl ?_
    refine gp_of (fun _ k9 => g_getI (x := fi1 70 38) rfl (Or.inl rfl) rfl (by decide) (rfl) k9) ?_
    refine gp_n 2 (j' := 45) (lv' := [some (.ref 70), some (.int (nI most)), some (.int bb), some (.int (nI (2 ^ 0))), some (.int (nI c))]) (st' := [.int ((fi1 70 38) + 1), .ref 70]) (h' := (shT, fi1, fl1, fr1)) rfl ?_
    refine gp_of (fun _ k9 => g_putI rfl (Or.inl rfl) rfl (by decide) k9) ?_
    refine gp_n 1 (j' := 77) (lv' := [some (.ref 70), some (.int (nI most)), some (.int bb), some (.int (nI (2 ^ 0))), some (.int (nI c))]) (st' := []) (h' := (shT, pm_u2 fi1 70 38 ((fi1 70 38) + 1), fl1, fr1)) rfl ?_
    exact gp_done k rfl
theorem gR_at {ct : Nat → Nat → Bool} {P : Nat → Nat} {m q c : Nat} (hq : q < m) (hd : c % 2 ^ (q + 1) = 0) : gR ct P m q (c + 2 ^ q) = if (gon ct m (q + 1) c && !ct (q + 1) c) = true then P (c + 2 ^ q) * 2 ^ q else 0 := by
  obtain ⟨k, rfl⟩ := Nat.dvd_of_mod_eq_zero hd
  obtain ⟨t1, t2, t3, t4⟩ := tbm (q := q) (b := k)
  have md : (2 ^ (q + 1) * k + 2 ^ q) % 2 ^ (q + 1) = 2 ^ q := by
    rw [Nat.mul_add_mod]
    exact Nat.mod_eq_of_lt (Nat.pow_lt_pow_right (by decide) (Nat.lt_succ_self q))
  have ge : gon ct m q (2 ^ (q + 1) * k + 2 ^ q) = (gon ct m (q + 1) (2 ^ (q + 1) * k) && !ct (q + 1) (2 ^ (q + 1) * k)) := by
    rw [gon_s hq, t3, Nat.mul_comm k, gon_cg (c' := 2 ^ (q + 1) * k) (m - (q + 1)) (q + 1) (by omega) (fun l l1 l2 => by
      have e : 2 ^ l = 2 ^ (q + 1) * 2 ^ (l - (q + 1)) := by
        rw [← Nat.pow_add]
        congr 1
        omega
      rw [e, ← Nat.div_div_eq_div_mul, ← Nat.div_div_eq_div_mul, t3, t4])]
  unfold gR
  rw [ge]
  by_cases z : (gon ct m (q + 1) (2 ^ (q + 1) * k) && !ct (q + 1) (2 ^ (q + 1) * k)) = true
  · rw [if_pos ⟨md, z⟩, if_pos z]
  · rw [if_neg (fun y => z y.2), if_neg z]
theorem gL_at {ct : Nat → Nat → Bool} {P : Nat → Nat} {m q c : Nat} (hd : c % 2 ^ (q + 1) = 0) : gL ct P m q c = if (gon ct m (q + 1) c && !ct (q + 1) c) = true then P c * 2 ^ q else 0 := by
  unfold gL
  cases z1 : gon ct m (q + 1) c
  · rw [if_neg (fun y => by cases y.2.1), Bool.false_and, if_neg (by decide)]
  · cases z2 : ct (q + 1) c
    · rw [if_pos ⟨hd, rfl, rfl⟩, if_pos (by decide)]
    · rw [if_neg (fun y => by cases y.2.2), if_neg (by decide)]
theorem st_s {K w : Int64} {m most : Nat} {S : Nat → Int32} {ct : Nat → Nat → Bool} {b : Bool} {q c : Nat} {h : PmH} (hm : m ≤ 6) (hmo1 : 1 ≤ most) (hmo : most ≤ 8) (hct : b = true → ∀ l c', l ≤ m → c' < 2 ^ m → ctM K m S most w l c' = ct l c') (hcf : b = false → ∀ l c', ct l c' = false) (hq : q < m) (hd : c % 2 ^ (q + 1) = 0) (hc : c + 2 ^ (q + 1) ≤ 2 ^ m) (hI : HI hdT shT h) (hx : mwI K m S w h) : ∃ h', HI hdT shT h' ∧ mwI K m S w h' ∧ fram (in_w iN_226) h h' ∧ ph_i h' 70 36 = ph_i h 70 36 + nI (gL ct (fun i => (rdN K m S most i).1) m q c) ∧ ph_i h' 70 37 = ph_i h 70 37 + nI (gR ct (fun i => (rdN K m S most i).1) m q (c + 2 ^ q)) ∧ ph_i h' 70 38 = ph_i h 70 38 + nI (0) ∧ ∀ r, Go pmT none cd_207 77 [some (.ref 70), some (.int (nI most)), some (.int (b01 b)), some (.int (nI (2 ^ (q + 1)))), some (.int (nI c))] [] h' r → Go pmT none cd_207 17 [some (.ref 70), some (.int (nI most)), some (.int (b01 b)), some (.int (nI (2 ^ (q + 1)))), some (.int (nI c))] [] h r := by
  have p6 := pw_6 m (by omega)
  have e3 : 2 ^ (q + 1) = 2 * 2 ^ q := by rw [Nat.pow_succ]; omega
  have pq := Nat.two_pow_pos q
  obtain ⟨h1, I1, x1, F1, y, n⟩ := wk_17 (q := q + 1) (c := c) hm hmo1 hmo hct hcf (by omega) hc hI hx
  have f6 := (F1 70 36 (by decide)).1
  have f7 := (F1 70 37 (by decide)).1
  have f8 := (F1 70 38 (by decide)).1
  have F1 : fram (in_w iN_226) h h1 := fram.up (by decide) F1
  rw [gL_at hd, gR_at hq hd]
  cases hn : (gon ct m (q + 1) c && !ct (q + 1) c)
  · rw [if_neg (by decide), if_neg (by decide)]
    exact ⟨h1, I1, x1, F1, f6.trans (Int32.add_zero _).symm, f7.trans (Int32.add_zero _).symm, f8.trans (Int32.add_zero _).symm, n hn⟩
  · rw [if_pos rfl, if_pos rfl]
    have y := y hn
    have pa := pa_ev (m := m) (S := S) (c := c) I1 hmo1 hmo (by omega) x1.1.2.1
    show ∃ h', HI hdT shT h' ∧ mwI K m S w h' ∧ fram (in_w iN_226) h h' ∧ ph_i h' 70 36 = ph_i h 70 36 + nI ((rdN K m S most c).1 * 2 ^ q) ∧ ph_i h' 70 37 = ph_i h 70 37 + nI ((rdN K m S most (c + 2 ^ q)).1 * 2 ^ q) ∧ ph_i h' 70 38 = ph_i h 70 38 + nI 0 ∧ ∀ r, Go pmT none cd_207 77 [some (.ref 70), some (.int (nI most)), some (.int (b01 b)), some (.int (nI (2 ^ (q + 1)))), some (.int (nI c))] [] h' r → Go pmT none cd_207 17 [some (.ref 70), some (.int (nI most)), some (.int (b01 b)), some (.int (nI (2 ^ (q + 1)))), some (.int (nI c))] [] h r
    rw [Nat.mul_comm (rdN K m S most c).1, Nat.mul_comm (rdN K m S most (c + 2 ^ q)).1, ← nI_mul, ← nI_mul]
    obtain ⟨S1, fi1, fl1, fr1⟩ := h1
    have s1 : S1 = shT := I1.1
    subst s1
    have J : HI hdT shT (shT, pm_u2 fi1 70 36 (fi1 70 36 + nI (2 ^ q) * nI (rdN K m S most c).1), fl1, fr1) := HI_wi I1 (fun z => absurd z (by decide))
    have W : fram (in_w iN_226) (shT, fi1, fl1, fr1) (shT, pm_u2 fi1 70 36 (fi1 70 36 + nI (2 ^ q) * nI (rdN K m S most c).1), fl1, fr1) := fr_wi rfl
    have x2 := mwI_fr (by decide) (by decide) (by decide) (by decide) W x1
    have pb := pa_ev (m := m) (S := S) (c := c + 2 ^ q) J hmo1 hmo (by omega) x2.1.2.1
    have hz : nI (2 ^ (q + 1)) / 2 = nI (2 ^ q) := by rw [nI_hf _ (by omega), e3, Nat.mul_div_cancel_left _ (by decide)]
    have nz : ¬ nI (2 ^ (q + 1)) = 1 := fun z => by
      have := (nI_eq (b := 1) (by omega) (by omega)).mp z
      omega
    have cz := nI_add c (2 ^ q)
    generalize nI (rdN K m S most c).1 = pc at *
    generalize nI (rdN K m S most (c + 2 ^ q)).1 = pd at *
    have W2 : fram (in_w iN_226) (shT, pm_u2 fi1 70 36 (fi1 70 36 + nI (2 ^ q) * pc), fl1, fr1) (shT, pm_u2 (pm_u2 fi1 70 36 (fi1 70 36 + nI (2 ^ q) * pc)) 70 37 (fi1 70 37 + nI (2 ^ q) * pd), fl1, fr1) := fr_wi rfl
    refine ⟨(shT, pm_u2 (pm_u2 fi1 70 36 (fi1 70 36 + nI (2 ^ q) * pc)) 70 37 (fi1 70 37 + nI (2 ^ q) * pd), fl1, fr1), HI_wi J (fun z => absurd z (by decide)), mwI_fr (by decide) (by decide) (by decide) (by decide) W2 x2, fram.tr F1 (fram.tr W W2), ?_, ?_, ?_, fun r k => y r ?_⟩
    · exact ((show pm_u2 (pm_u2 fi1 70 36 (fi1 70 36 + nI (2 ^ q) * pc)) 70 37 (fi1 70 37 + nI (2 ^ q) * pd) 70 36 = pm_u2 fi1 70 36 (fi1 70 36 + nI (2 ^ q) * pc) 70 36 from wl_ne (by decide)).trans (show pm_u2 fi1 70 36 (fi1 70 36 + nI (2 ^ q) * pc) 70 36 = fi1 70 36 + nI (2 ^ q) * pc from u2_eq)).trans (congrArg (· + nI (2 ^ q) * pc) f6)
    · exact (show pm_u2 (pm_u2 fi1 70 36 (fi1 70 36 + nI (2 ^ q) * pc)) 70 37 (fi1 70 37 + nI (2 ^ q) * pd) 70 37 = fi1 70 37 + nI (2 ^ q) * pd from u2_eq).trans (congrArg (· + nI (2 ^ q) * pd) f7)
    · exact ((show pm_u2 (pm_u2 fi1 70 36 (fi1 70 36 + nI (2 ^ q) * pc)) 70 37 (fi1 70 37 + nI (2 ^ q) * pd) 70 38 = pm_u2 fi1 70 36 (fi1 70 36 + nI (2 ^ q) * pc) 70 38 from wl_ne (by decide)).trans (show pm_u2 fi1 70 36 (fi1 70 36 + nI (2 ^ q) * pc) 70 38 = fi1 70 38 from wl_ne (by decide))).trans (f8.trans (Int32.add_zero _).symm)
    clear y W W2 F1 f6 f7 f8 x1 x2 J hct hcf hx n hn
    generalize b01 b = bb at *
    generalize nI (2 ^ (q + 1)) = z at *
    generalize 2 ^ q = Q at *
    refine go_of ?_
    refine gp_n 2 (j' := 39) (lv' := [some (.ref 70), some (.int (nI most)), some (.int bb), some (.int z), some (.int (nI c))]) (st' := [.int 1, .int z]) (h' := (shT, fi1, fl1, fr1)) rfl ?_
    refine gp_of (fun _ k9 => g_ict rfl (show ¬ z = (1 : Int32) from nz) k9) ?_
    refine gp_n 2 (j' := 49) (lv' := [some (.ref 70), some (.int (nI most)), some (.int bb), some (.int z), some (.int (nI c))]) (st' := [.ref 70, .ref 70]) (h' := (shT, fi1, fl1, fr1)) rfl ?_
    refine gp_of (fun _ k9 => g_getI (x := fi1 70 36) rfl (Or.inl rfl) rfl (by decide) (rfl) k9) ?_
    refine gp_n 3 (j' := 53) (lv' := [some (.ref 70), some (.int (nI most)), some (.int bb), some (.int z), some (.int (nI c))]) (st' := [.int (z / 2), .int (fi1 70 36), .ref 70]) (h' := (shT, fi1, fl1, fr1)) rfl ?_
    rw [hz]
    refine gp_n 3 (j' := 56) (lv' := [some (.ref 70), some (.int (nI most)), some (.int bb), some (.int z), some (.int (nI c))]) (st' := [.int (nI c), .int (nI most), .ref 70, .int (nI Q), .int (fi1 70 36), .ref 70]) (h' := (shT, fi1, fl1, fr1)) rfl ?_
    refine gp_of (fun _ k9 => g_call (y := 212) (as := [.ref 70, .int (nI most), .int (nI c)]) (st' := [.int (nI Q), .int (fi1 70 36), .ref 70]) rfl rfl (pa) k9) ?_
    refine gp_n 2 (j' := 59) (lv' := [some (.ref 70), some (.int (nI most)), some (.int bb), some (.int z), some (.int (nI c))]) (st' := [.int ((fi1 70 36) + ((nI Q) * pc)), .ref 70]) (h' := (shT, fi1, fl1, fr1)) rfl ?_
    refine gp_of (fun _ k9 => g_putI rfl (Or.inl rfl) rfl (by decide) k9) ?_
    refine gp_n 2 (j' := 62) (lv' := [some (.ref 70), some (.int (nI most)), some (.int bb), some (.int z), some (.int (nI c))]) (st' := [.ref 70, .ref 70]) (h' := (shT, pm_u2 fi1 70 36 ((fi1 70 36) + ((nI Q) * pc)), fl1, fr1)) rfl ?_
    refine gp_of (fun _ k9 => g_getI (x := fi1 70 37) rfl (Or.inl rfl) rfl (by decide) (wl_ne (by decide)) k9) ?_
    refine gp_n 3 (j' := 66) (lv' := [some (.ref 70), some (.int (nI most)), some (.int bb), some (.int z), some (.int (nI c))]) (st' := [.int (z / 2), .int (fi1 70 37), .ref 70]) (h' := (shT, pm_u2 fi1 70 36 ((fi1 70 36) + ((nI Q) * pc)), fl1, fr1)) rfl ?_
    rw [hz]
    refine gp_n 6 (j' := 72) (lv' := [some (.ref 70), some (.int (nI most)), some (.int bb), some (.int z), some (.int (nI c))]) (st' := [.int (z / 2), .int (nI c), .int (nI most), .ref 70, .int (nI Q), .int (fi1 70 37), .ref 70]) (h' := (shT, pm_u2 fi1 70 36 ((fi1 70 36) + ((nI Q) * pc)), fl1, fr1)) rfl ?_
    rw [hz]
    refine gp_n 1 (j' := 73) (lv' := [some (.ref 70), some (.int (nI most)), some (.int bb), some (.int z), some (.int (nI c))]) (st' := [.int ((nI c) + (nI Q)), .int (nI most), .ref 70, .int (nI Q), .int (fi1 70 37), .ref 70]) (h' := (shT, pm_u2 fi1 70 36 ((fi1 70 36) + ((nI Q) * pc)), fl1, fr1)) rfl ?_
    rw [cz]
    refine gp_of (fun _ k9 => g_call (y := 212) (as := [.ref 70, .int (nI most), .int (nI (c + Q))]) (st' := [.int (nI Q), .int (fi1 70 37), .ref 70]) rfl rfl (pb) k9) ?_
    refine gp_n 2 (j' := 76) (lv' := [some (.ref 70), some (.int (nI most)), some (.int bb), some (.int z), some (.int (nI c))]) (st' := [.int ((fi1 70 37) + ((nI Q) * pd)), .ref 70]) (h' := (shT, pm_u2 fi1 70 36 ((fi1 70 36) + ((nI Q) * pc)), fl1, fr1)) rfl ?_
    refine gp_of (fun _ k9 => g_putI rfl (Or.inl rfl) rfl (by decide) k9) ?_
    exact gp_done k rfl
theorem in_go {K w : Int64} {m most : Nat} {S : Nat → Int32} {b : Bool} {q : Nat} {A B D fA fB fD : Nat → Nat} (hm : m ≤ 6) (hq : q ≤ m) (st : ∀ (c : Nat) (h : PmH), c % 2 ^ q = 0 → c + 2 ^ q ≤ 2 ^ m → HI hdT shT h → mwI K m S w h → ∃ h', HI hdT shT h' ∧ mwI K m S w h' ∧ fram (in_w iN_226) h h' ∧ ph_i h' 70 36 = ph_i h 70 36 + nI (A c) ∧ ph_i h' 70 37 = ph_i h 70 37 + nI (B c) ∧ ph_i h' 70 38 = ph_i h 70 38 + nI (D c) ∧ ∀ r, Go pmT none cd_207 77 [some (.ref 70), some (.int (nI most)), some (.int (b01 b)), some (.int (nI (2 ^ q))), some (.int (nI c))] [] h' r → Go pmT none cd_207 17 [some (.ref 70), some (.int (nI most)), some (.int (b01 b)), some (.int (nI (2 ^ q))), some (.int (nI c))] [] h r) (sA : ∀ c, c % 2 ^ q = 0 → sumN fA (c + 2 ^ q) = sumN fA c + A c) (sB : ∀ c, c % 2 ^ q = 0 → sumN fB (c + 2 ^ q) = sumN fB c + B c) (sD : ∀ c, c % 2 ^ q = 0 → sumN fD (c + 2 ^ q) = sumN fD c + D c) : ∀ (n c : Nat) (h : PmH), c + 2 ^ q * n = 2 ^ m → c % 2 ^ q = 0 → HI hdT shT h → mwI K m S w h → ∃ h', HI hdT shT h' ∧ mwI K m S w h' ∧ fram (in_w iN_226) h h' ∧ ph_i h' 70 36 + nI (sumN fA c) = ph_i h 70 36 + nI (sumN fA (2 ^ m)) ∧ ph_i h' 70 37 + nI (sumN fB c) = ph_i h 70 37 + nI (sumN fB (2 ^ m)) ∧ ph_i h' 70 38 + nI (sumN fD c) = ph_i h 70 38 + nI (sumN fD (2 ^ m)) ∧ ∀ r, Go pmT none cd_207 82 [some (.ref 70), some (.int (nI most)), some (.int (b01 b)), some (.int (nI (2 ^ q))), some (.int (nI (2 ^ m)))] [] h' r → Go pmT none cd_207 17 [some (.ref 70), some (.int (nI most)), some (.int (b01 b)), some (.int (nI (2 ^ q))), some (.int (nI c))] [] h r := by
  intro n
  have p6 := pw_6 m (by omega)
  have pq := Nat.two_pow_pos q
  induction n with
  | zero =>
    intro c h hc hd hI hx
    have hc : c = 2 ^ m := by rw [Nat.mul_zero] at hc; omega
    subst hc
    refine ⟨h, hI, hx, fram.rf _ _, rfl, rfl, rfl, fun r k => ?_⟩
    have cN := hx.1.1
    clear hx st sA sB sD
    generalize b01 b = bb at *
    generalize nI (2 ^ q) = z at *
    generalize nI (2 ^ m) = zN at *
    obtain ⟨S, fi, fl, fr⟩ := h
    have hS : S = shT := hI.1
    subst hS
    have cN : fi 70 14 = zN := cN
    refine go_of ?_
    refine gp_n 2 (j' := 19) (lv' := [some (.ref 70), some (.int (nI most)), some (.int bb), some (.int z), some (.int zN)]) (st' := [.ref 70, .int zN]) (h' := (shT, fi, fl, fr)) rfl ?_
    refine gp_of (fun _ k9 => g_getI (x := zN) rfl (Or.inl rfl) rfl (by decide) (cN) k9) ?_
    refine gp_of (fun _ k9 => g_ict rfl (show zN ≤ zN from Int32.le_refl _) k9) ?_
    exact gp_done k rfl
  | succ n ih =>
    intro c h hc hd hI hx
    rw [Nat.mul_succ] at hc
    obtain ⟨h1, I1, x1, F1, a1, a2, a3, g1⟩ := st c h hd (by omega) hI hx
    obtain ⟨h2, I2, x2, F2, b1, b2, b3, g2⟩ := ih (c + 2 ^ q) h1 (by omega) (by rw [Nat.add_mod_right]; exact hd) I1 x1
    rw [sA c hd, ← nI_add, a1, ← Int32.add_assoc, Int32.add_assoc (ph_i h 70 36), Int32.add_comm (nI (A c)), ← Int32.add_assoc (ph_i h 70 36)] at b1
    rw [sB c hd, ← nI_add, a2, ← Int32.add_assoc, Int32.add_assoc (ph_i h 70 37), Int32.add_comm (nI (B c)), ← Int32.add_assoc (ph_i h 70 37)] at b2
    rw [sD c hd, ← nI_add, a3, ← Int32.add_assoc, Int32.add_assoc (ph_i h 70 38), Int32.add_comm (nI (D c)), ← Int32.add_assoc (ph_i h 70 38)] at b3
    refine ⟨h2, I2, x2, fram.tr F1 F2, i_can b1, i_can b2, i_can b3, fun r k => g1 r ?_⟩
    have g := g2 r k
    have cz := nI_add c (2 ^ q)
    clear g1 g2 b1 b2 b3 a1 a2 a3 ih st sA sB sD hx x1 x2 F1 F2
    generalize b01 b = bb at *
    generalize 2 ^ q = Q at *
    obtain ⟨S, fi, fl, fr⟩ := h1
    have hS : S = shT := I1.1
    subst hS
    refine go_of ?_
    refine gp_n 3 (j' := 80) (lv' := [some (.ref 70), some (.int (nI most)), some (.int bb), some (.int (nI Q)), some (.int (nI c))]) (st' := [.int ((nI c) + (nI Q))]) (h' := (shT, fi, fl, fr)) rfl ?_
    rw [cz]
    refine gp_n 2 (j' := 17) (lv' := [some (.ref 70), some (.int (nI most)), some (.int bb), some (.int (nI Q)), some (.int (nI (c + Q)))]) (st' := []) (h' := (shT, fi, fl, fr)) rfl ?_
    exact gp_done g rfl
theorem ou_go {K w : Int64} {m most : Nat} {S : Nat → Int32} {ct : Nat → Nat → Bool} {b : Bool} (hm : m ≤ 6) (hmo1 : 1 ≤ most) (hmo : most ≤ 8) (hct : b = true → ∀ l c', l ≤ m → c' < 2 ^ m → ctM K m S most w l c' = ct l c') (hcf : b = false → ∀ l c', ct l c' = false) : ∀ (q : Nat) (h : PmH), q ≤ m → HI hdT shT h → mwI K m S w h → ∃ h', HI hdT shT h' ∧ fram (in_w iN_226) h h' ∧ ph_i h' 70 36 = ph_i h 70 36 + nI (sumN (fun q => sumN (fun c => gL ct (fun i => (rdN K m S most i).1) m q c) (2 ^ m)) q) ∧ ph_i h' 70 37 = ph_i h 70 37 + nI (sumN (fun q => sumN (fun c => gR ct (fun i => (rdN K m S most i).1) m q c) (2 ^ m)) q) ∧ ph_i h' 70 38 = ph_i h 70 38 + nI (sumN (fun c => gD ct m c) (2 ^ m)) ∧ ∀ l4, Go pmT none cd_207 12 [some (.ref 70), some (.int (nI most)), some (.int (b01 b)), some (.int (nI (2 ^ q))), l4] [] h (none, h') := by
  have p6 := pw_6 m (by omega)
  intro q
  induction q with
  | zero =>
    intro h hq hI hx
    obtain ⟨h1, I1, x1, F1, a1, a2, a3, g1⟩ := in_go (q := 0) (A := fun _ => 0) (B := fun _ => 0) (D := fun c => gD ct m c) (fA := fun _ => 0) (fB := fun _ => 0) (fD := fun c => gD ct m c) hm hq (fun c h _ hc hI hx => st_0 hm hmo1 hmo hct hcf (by rw [Nat.pow_zero] at hc; omega) hI hx) (fun c _ => by rw [sumN_0, sumN_0]) (fun c _ => by rw [sumN_0, sumN_0]) (fun c _ => rfl) (2 ^ m) 0 h (by rw [Nat.pow_zero]; omega) (Nat.zero_mod _) hI hx
    refine ⟨h1, I1, F1, ?_, ?_, ?_, fun l4 => ?_⟩
    · rw [sumN_0, sumN_0] at a1
      exact (i_can a1).trans (Int32.add_zero _).symm
    · rw [sumN_0, sumN_0] at a2
      exact (i_can a2).trans (Int32.add_zero _).symm
    · exact (Int32.add_zero _).symm.trans a3
    have g := g1 (none, h1)
    clear g1 a1 a2 a3 x1 hx F1 hct hcf
    have hz : nI (2 ^ 0) / 2 = nI 0 := by decide
    generalize b01 b = bb at *
    generalize nI (2 ^ m) = zN at *
    obtain ⟨S1, fi1, fl1, fr1⟩ := h1
    have s1 : S1 = shT := I1.1
    subst s1
    have g := g (by
      refine go_of ?_
      refine gp_n 3 (j' := 85) (lv' := [some (.ref 70), some (.int (nI most)), some (.int bb), some (.int (nI (2 ^ 0))), some (.int zN)]) (st' := [.int ((nI (2 ^ 0)) / 2)]) (h' := (shT, fi1, fl1, fr1)) rfl ?_
      rw [hz]
      refine gp_n 4 (j' := 14) (lv' := [some (.ref 70), some (.int (nI most)), some (.int bb), some (.int (nI 0)), some (.int zN)]) (st' := [.int 1, .int (nI 0)]) (h' := (shT, fi1, fl1, fr1)) rfl ?_
      refine gp_of (fun _ k9 => g_ict rfl (show (nI 0) < (1 : Int32) from by decide) k9) ?_
      refine gp_done (g_vret rfl) ?_
      rfl)
    obtain ⟨S, fi, fl, fr⟩ := h
    have hS : S = shT := hI.1
    subst hS
    refine go_of ?_
    refine gp_n 2 (j' := 14) (lv' := [some (.ref 70), some (.int (nI most)), some (.int bb), some (.int (nI (2 ^ 0))), l4]) (st' := [.int 1, .int (nI (2 ^ 0))]) (h' := (shT, fi, fl, fr)) rfl ?_
    refine gp_of (fun _ k9 => g_icf rfl (show ¬ ((nI (2 ^ 0)) < (1 : Int32)) from by decide) k9) ?_
    refine gp_n 2 (j' := 17) (lv' := [some (.ref 70), some (.int (nI most)), some (.int bb), some (.int (nI (2 ^ 0))), some (.int (nI 0))]) (st' := []) (h' := (shT, fi, fl, fr)) rfl ?_
    exact gp_done g rfl
  | succ q ih =>
    intro h hq hI hx
    have e3 : 2 ^ (q + 1) = 2 * 2 ^ q := by rw [Nat.pow_succ]; omega
    have pq := Nat.two_pow_pos q
    have le := pw2_le hq
    obtain ⟨h1, I1, x1, F1, a1, a2, a3, g1⟩ := in_go (q := q + 1) (A := fun c => gL ct (fun i => (rdN K m S most i).1) m q c) (B := fun c => gR ct (fun i => (rdN K m S most i).1) m q (c + 2 ^ q)) (D := fun _ => 0) (fA := fun c => gL ct (fun i => (rdN K m S most i).1) m q c) (fB := fun c => gR ct (fun i => (rdN K m S most i).1) m q c) (fD := fun _ => 0) hm hq (fun c h hd hc hI hx => st_s hm hmo1 hmo hct hcf (by omega) hd hc hI hx) (fun c hd => sumN_1 (b := c) ⟨Nat.le_refl _, by omega⟩ (fun i i1 i2 i3 => by
        show gL ct (fun i => (rdN K m S most i).1) m q i = 0
        unfold gL
        refine if_neg (fun z => i3 ?_)
        have y1 := dvq z.1
        have y2 := dvq hd
        have y3 : i / 2 ^ (q + 1) = c / 2 ^ (q + 1) := by
          obtain ⟨s, rfl⟩ : ∃ s, i = c + s := ⟨i - c, by omega⟩
          obtain ⟨k, rfl⟩ := Nat.dvd_of_mod_eq_zero hd
          rw [Nat.mul_add_div (by omega), Nat.div_eq_of_lt (by omega), Nat.add_zero, Nat.mul_div_cancel_left _ (by omega)]
        rw [← y1, y3, y2])) (fun c hd => sumN_1 (b := c + 2 ^ q) ⟨by omega, by omega⟩ (fun i i1 i2 i3 => by
        show gR ct (fun i => (rdN K m S most i).1) m q i = 0
        unfold gR
        refine if_neg (fun z => i3 ?_)
        obtain ⟨s, rfl⟩ : ∃ s, i = c + s := ⟨i - c, by omega⟩
        obtain ⟨k, rfl⟩ := Nat.dvd_of_mod_eq_zero hd
        have z := z.1
        rw [Nat.mul_add_mod, Nat.mod_eq_of_lt (by omega)] at z
        rw [z])) (fun c _ => by rw [sumN_0, sumN_0]) (2 ^ (m - (q + 1))) 0 h (by rw [Nat.zero_add, ← Nat.pow_add]; congr 1; omega) (Nat.zero_mod _) hI hx
    obtain ⟨h2, I2, F2, b1, b2, b3, g2⟩ := ih h1 (by omega) I1 x1
    have a1 : ph_i h1 70 36 = ph_i h 70 36 + nI (sumN (fun c => gL ct (fun i => (rdN K m S most i).1) m q c) (2 ^ m)) := (Int32.add_zero _).symm.trans a1
    have a2 : ph_i h1 70 37 = ph_i h 70 37 + nI (sumN (fun c => gR ct (fun i => (rdN K m S most i).1) m q c) (2 ^ m)) := (Int32.add_zero _).symm.trans a2
    rw [sumN_0, sumN_0] at a3
    have a3 : ph_i h1 70 38 = ph_i h 70 38 := i_can a3
    refine ⟨h2, I2, fram.tr F1 F2, ?_, ?_, ?_, fun l4 => ?_⟩
    · rw [b1, a1, sumN, Int32.add_assoc, nI_add, Nat.add_comm]
    · rw [b2, a2, sumN, Int32.add_assoc, nI_add, Nat.add_comm]
    · rw [b3, a3]
    have g := g1 (none, h2)
    have hz : nI (2 ^ (q + 1)) / 2 = nI (2 ^ q) := by rw [nI_hf _ (by omega), e3, Nat.mul_div_cancel_left _ (by decide)]
    have n1 : ¬ nI (2 ^ (q + 1)) < 1 := Int32.not_lt.mpr (nI_le (a := 1) (by omega) (by omega))
    clear g1 a1 a2 a3 b1 b2 b3 x1 hx F1 F2 hct hcf ih
    generalize b01 b = bb at *
    generalize nI (2 ^ (q + 1)) = z at *
    generalize nI (2 ^ m) = zN at *
    generalize nI (2 ^ q) = z2 at *
    obtain ⟨S1, fi1, fl1, fr1⟩ := h1
    have s1 : S1 = shT := I1.1
    subst s1
    have g := g (by
      refine go_of ?_
      refine gp_n 3 (j' := 85) (lv' := [some (.ref 70), some (.int (nI most)), some (.int bb), some (.int z), some (.int zN)]) (st' := [.int (z / 2)]) (h' := (shT, fi1, fl1, fr1)) rfl ?_
      rw [hz]
      refine gp_n 2 (j' := 12) (lv' := [some (.ref 70), some (.int (nI most)), some (.int bb), some (.int z2), some (.int zN)]) (st' := []) (h' := (shT, fi1, fl1, fr1)) rfl ?_
      exact gp_done (g2 _) rfl)
    obtain ⟨S, fi, fl, fr⟩ := h
    have hS : S = shT := hI.1
    subst hS
    refine go_of ?_
    refine gp_n 2 (j' := 14) (lv' := [some (.ref 70), some (.int (nI most)), some (.int bb), some (.int z), l4]) (st' := [.int 1, .int z]) (h' := (shT, fi, fl, fr)) rfl ?_
    refine gp_of (fun _ k9 => g_icf rfl (show ¬ (z < (1 : Int32)) from n1) k9) ?_
    refine gp_n 2 (j' := 17) (lv' := [some (.ref 70), some (.int (nI most)), some (.int bb), some (.int z), some (.int (nI 0))]) (st' := []) (h' := (shT, fi, fl, fr)) rfl ?_
    exact gp_done g rfl
theorem wk_ev {K w : Int64} {m most : Nat} {S : Nat → Int32} {ct : Nat → Nat → Bool} {b : Bool} {h : PmH} (hm : m ≤ 6) (hmo1 : 1 ≤ most) (hmo : most ≤ 8) (hct : b = true → ∀ l c', l ≤ m → c' < 2 ^ m → ctM K m S most w l c' = ct l c') (hcf : b = false → ∀ l c', ct l c' = false) (hI : HI hdT shT h) (hx : mwI K m S w h) : ∃ h', Ev pmT 207 [.ref 70, .int (nI most), .int (b01 b)] h none h' ∧ ph_i h' 70 36 = nI (wL ct (fun i => (rdN K m S most i).1) m (2 ^ m)) ∧ ph_i h' 70 37 = nI (wR ct (fun i => (rdN K m S most i).1) m (2 ^ m)) ∧ ph_i h' 70 38 = nI (wD ct m (2 ^ m)) ∧ HI hdT shT h' ∧ fram (in_w iN_226) h h' := by
  have cN := hx.1.1
  obtain ⟨S, fi, fl, fr⟩ := h
  have hS : S = shT := hI.1
  subst hS
  have cN : fi 70 14 = nI (2 ^ m) := cN
  have W1 : fram (in_w iN_226) (shT, fi, fl, fr) (shT, pm_u2 fi 70 36 0, fl, fr) := fr_wi rfl
  have W2 : fram (in_w iN_226) (shT, pm_u2 fi 70 36 0, fl, fr) (shT, pm_u2 (pm_u2 fi 70 36 0) 70 37 0, fl, fr) := fr_wi rfl
  have W3 : fram (in_w iN_226) (shT, pm_u2 (pm_u2 fi 70 36 0) 70 37 0, fl, fr) (shT, pm_u2 (pm_u2 (pm_u2 fi 70 36 0) 70 37 0) 70 38 0, fl, fr) := fr_wi rfl
  have W := fram.tr W1 (fram.tr W2 W3)
  have J : HI hdT shT (shT, pm_u2 fi 70 36 0, fl, fr) := HI_wi hI (fun z => absurd z (by decide))
  have J : HI hdT shT (shT, pm_u2 (pm_u2 fi 70 36 0) 70 37 0, fl, fr) := HI_wi J (fun z => absurd z (by decide))
  have J : HI hdT shT (shT, pm_u2 (pm_u2 (pm_u2 fi 70 36 0) 70 37 0) 70 38 0, fl, fr) := HI_wi J (fun z => absurd z (by decide))
  obtain ⟨h', I1, F1, a1, a2, a3, g⟩ := ou_go hm hmo1 hmo hct hcf m _ (Nat.le_refl _) J (mwI_fr (by decide) (by decide) (by decide) (by decide) W hx)
  refine ⟨h', ?_, ?_, ?_, ?_, I1, fram.tr W F1⟩
  · have g := g none
    clear a1 a2 a3 F1 W W1 W2 W3 J hx hct hcf
    generalize b01 b = bb at *
    generalize nI (2 ^ m) = zN at *
    refine Ev.of (es := cd_207) (ml := 5) (lv := [some (.ref 70), some (.int (nI most)), some (.int bb), none, none]) rfl rfl rfl ?_
    refine go_of ?_
    refine gp_n 2 (j' := 2) (lv' := [some (.ref 70), some (.int (nI most)), some (.int bb), none, none]) (st' := [.int 0, .ref 70]) (h' := (shT, fi, fl, fr)) rfl ?_
    refine gp_of (fun _ k9 => g_putI rfl (Or.inl rfl) rfl (by decide) k9) ?_
    refine gp_n 2 (j' := 5) (lv' := [some (.ref 70), some (.int (nI most)), some (.int bb), none, none]) (st' := [.int 0, .ref 70]) (h' := (shT, pm_u2 fi 70 36 0, fl, fr)) rfl ?_
    refine gp_of (fun _ k9 => g_putI rfl (Or.inl rfl) rfl (by decide) k9) ?_
    refine gp_n 2 (j' := 8) (lv' := [some (.ref 70), some (.int (nI most)), some (.int bb), none, none]) (st' := [.int 0, .ref 70]) (h' := (shT, pm_u2 (pm_u2 fi 70 36 0) 70 37 0, fl, fr)) rfl ?_
    refine gp_of (fun _ k9 => g_putI rfl (Or.inl rfl) rfl (by decide) k9) ?_
    refine gp_n 1 (j' := 10) (lv' := [some (.ref 70), some (.int (nI most)), some (.int bb), none, none]) (st' := [.ref 70]) (h' := (shT, pm_u2 (pm_u2 (pm_u2 fi 70 36 0) 70 37 0) 70 38 0, fl, fr)) rfl ?_
    refine gp_of (fun _ k9 => g_getI (x := zN) rfl (Or.inl rfl) rfl (by decide) (cN) k9) ?_
    refine gp_n 1 (j' := 12) (lv' := [some (.ref 70), some (.int (nI most)), some (.int bb), some (.int zN), none]) (st' := []) (h' := (shT, pm_u2 (pm_u2 (pm_u2 fi 70 36 0) 70 37 0) 70 38 0, fl, fr)) rfl ?_
    exact gp_done g rfl
  · refine a1.trans ((Int32.zero_add _).trans ?_)
    unfold wL
    rw [sumN_sw]
  · refine a2.trans ((Int32.zero_add _).trans ?_)
    unfold wR
    rw [sumN_sw]
  · exact a3.trans (Int32.zero_add _)
