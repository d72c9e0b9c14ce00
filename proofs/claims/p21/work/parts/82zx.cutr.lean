/-! CUT SHORT: the reader's run -/
def wL (ct : Nat → Nat → Bool) (P : Nat → Nat) (m n : Nat) : Nat := sumN (fun c => sumN (fun q => gL ct P m q c) m) n
def wR (ct : Nat → Nat → Bool) (P : Nat → Nat) (m n : Nat) : Nat := sumN (fun c => sumN (fun q => gR ct P m q c) m) n
def wD (ct : Nat → Nat → Bool) (m n : Nat) : Nat := sumN (fun c => gD ct m c) n
def wkC (K : Int64) (m : Nat) (S : Nat → Int32) (most n : Nat) (h : PmH) : Prop := ph_i h 13 4 = nI (wL (ctF K m S most) (fun i => (rdN K m S most i).1) m n) ∧ ph_i h 13 5 = nI (wR (ctF K m S most) (fun i => (rdN K m S most i).1) m n) ∧ ph_i h 13 6 = nI (wD (ctF K m S most) m n)
def cgI (K : Int64) (m : Nat) (S : Nat → Int32) (most c : Nat) (h : PmH) : Prop := ctI m S (rdN K m S most c) c h ∧ wkC K m S most c h ∧ (c < 2 ^ m → gon (ctF K m S most) m (topL m c) c = true)
/-- what a cut reading leaves -/
def coI (K : Int64) (m : Nat) (S : Nat → Int32) (most : Nat) (h : PmH) : Prop := ∃ A, (A = 14 ∨ A = 18) ∧ rdI A (rdN K m S most (2 ^ m)) h ∧ wkC K m S most (2 ^ m) h
theorem cg_st {m c most : Nat} {K : Int64} {F : Int32} {S : Nat → Int32} {h : PmH} (hmo1 : 1 ≤ most) (hmo : most ≤ 8) (hm : m ≤ 6) (hc : c < 2 ^ m) (hF : ¬ nI c = F) (hS : ∀ s, s < 64 → -127 ≤ (S s).toInt ∧ (S s).toInt ≤ 127) (hI : HI hdT shT h) (hx : cgI K m S most c h) (hn : cnJ K m most F h) : ∃ e h', Ev pmT 85 [.ref 13, .int (nI c)] h (some (.int (nI (2 ^ e)))) h' ∧ c + 2 ^ e ≤ 2 ^ m ∧ cgI K m S most (c + 2 ^ e) h' ∧ cnJ K m most F h' ∧ HI hdT shT h' ∧ fram (in_w iN_107) h h' := by
  obtain ⟨x1, ⟨x2, x3, x4⟩, x5⟩ := hx
  obtain ⟨h', e1, q1, q2, q3, q4, I1, F1⟩ := cw_ev hmo1 hmo hm hc hF hS hI x1 hn
  obtain ⟨s1, s2, s3, s4, s5, s6, s7, s8⟩ := tp_H (ct := ctF K m S most) (P := fun i => (rdN K m S most i).1) hm hc (x5 hc)
  obtain ⟨b1, b2, b3⟩ := top_b hm hc
  have s1 : sumN (fun q => gL (ctF K m S most) (fun i => (rdN K m S most i).1) m q c) m = (cdn (ctF K m S most) (rdN K m S most c).1 c (topL m c)).1 := s1
  have s2 : sumN (fun q => gR (ctF K m S most) (fun i => (rdN K m S most i).1) m q c) m = (if c = 0 then 0 else (rdN K m S most c).1 * 2 ^ tzN c) := s2
  have s3 : gD (ctF K m S most) m c = (cdn (ctF K m S most) (rdN K m S most c).1 c (topL m c)).2.1 := s3
  have s4 : (cdn (ctF K m S most) (rdN K m S most c).1 c (topL m c)).2.2 ≤ topL m c := s4
  have s7 : gon (ctF K m S most) m (cdn (ctF K m S most) (rdN K m S most c).1 c (topL m c)).2.2 c = true := s7
  have s8 : 0 < (cdn (ctF K m S most) (rdN K m S most c).1 c (topL m c)).2.2 → ctF K m S most (cdn (ctF K m S most) (rdN K m S most c).1 c (topL m c)).2.2 c = true := s8
  rw [← s1] at q3
  rw [← s2] at q4
  rw [← s3] at q2
  clear s1 s2 s3 s5 s6
  generalize (cdn (ctF K m S most) (rdN K m S most c).1 c (topL m c)).2.2 = e at *
  have pe := Nat.two_pow_pos e
  have le := pw2_le s4
  obtain ⟨n1, n2⟩ := tp_N (P := fun i => (rdN K m S most i).1) hm (Nat.le_trans s4 b1) (md_le b2 s4) s7 s8
  refine ⟨e, h', e1, by omega, ⟨q1, ⟨?_, ?_, ?_⟩, n2⟩, cnJ_fr (by decide) F1 hn, I1, F1⟩
  · rw [q3, x2, nI_add]
    unfold wL
    rw [sumN_1 (b := c) ⟨Nat.le_refl _, by omega⟩ (fun i i1 i2 i3 => (n1 i (by omega) i2).1)]
  · rw [q4, x3, nI_add]
    unfold wR
    rw [sumN_1 (b := c) ⟨Nat.le_refl _, by omega⟩ (fun i i1 i2 i3 => (n1 i (by omega) i2).2.1)]
  · rw [q2, x4, nI_add]
    unfold wD
    rw [sumN_1 (b := c) ⟨Nat.le_refl _, by omega⟩ (fun i i1 i2 i3 => (n1 i (by omega) i2).2.2)]
theorem cu_go {m most : Nat} {K : Int64} {F : Int32} {S : Nat → Int32} (hmo1 : 1 ≤ most) (hmo : most ≤ 8) (hF : ∀ c, c < 64 → ¬ nI c = F) (hm : m ≤ 6) (hS : ∀ s, s < 64 → -127 ≤ (S s).toInt ∧ (S s).toInt ≤ 127) : ∀ (n c t : Nat) (h : PmH), t ≤ c → c ≤ 2 ^ m → 2 ^ m ≤ c + n → HI hdT shT h → cgI K m S most c h → cnJ K m most F h → ∃ t' h', cgI K m S most (2 ^ m) h' ∧ cnJ K m most F h' ∧ HI hdT shT h' ∧ fram (in_w iN_107) h h' ∧ ∀ r, Go pmT none cd_82 57 [some (.ref 13), some (.ref 1), some (.ref 2), some (.int (nI most)), some (.int 1), some (.int F), some (.int (nI (2 ^ m))), some (.int (nI t'))] [] h' r → Go pmT none cd_82 41 [some (.ref 13), some (.ref 1), some (.ref 2), some (.int (nI most)), some (.int 1), some (.int F), some (.int (nI c)), some (.int (nI t))] [] h r := by
  intro n
  have p6 := pw_6 m (by omega)
  have base : ∀ (t : Nat) (h : PmH), t ≤ 2 ^ m → HI hdT shT h → cgI K m S most (2 ^ m) h → cnJ K m most F h → ∃ t' h', cgI K m S most (2 ^ m) h' ∧ cnJ K m most F h' ∧ HI hdT shT h' ∧ fram (in_w iN_107) h h' ∧ ∀ r, Go pmT none cd_82 57 [some (.ref 13), some (.ref 1), some (.ref 2), some (.int (nI most)), some (.int 1), some (.int F), some (.int (nI (2 ^ m))), some (.int (nI t'))] [] h' r → Go pmT none cd_82 41 [some (.ref 13), some (.ref 1), some (.ref 2), some (.int (nI most)), some (.int 1), some (.int F), some (.int (nI (2 ^ m))), some (.int (nI t))] [] h r := by
    intro t h ht hI hx hn
    refine ⟨t, h, hx, hn, hI, fram.rf _ _, fun r k => ?_⟩
    have c12 := hn.1
    have cN := hn.2.2.2.2.2.2
    generalize 2 ^ m = N at *
    clear hx hn
    obtain ⟨S, fi, fl, fr⟩ := h
    have hS : S = shT := hI.1
    subst hS
    have c12 : fr 13 12 = some 1 := c12
    have cN : fi 1 1 = nI N := cN
    refine go_of ?_
    by_cases h64 : t = 64
    · 
      refine gp_n 2 (j' := 43) (lv' := [some (.ref 13), some (.ref 1), some (.ref 2), some (.int (nI most)), some (.int 1), some (.int F), some (.int (nI N)), some (.int (nI t))]) (st' := [.int 64, .int (nI t)]) (h' := (shT, fi, fl, fr)) rfl ?_
      refine gp_of (fun _ k9 => g_ict rfl (show (64 : Int32) ≤ (nI t) from nI_le (a := 64) (by omega) (by omega)) k9) ?_
      exact gp_done k rfl
    · 
      refine gp_n 2 (j' := 43) (lv' := [some (.ref 13), some (.ref 1), some (.ref 2), some (.int (nI most)), some (.int 1), some (.int F), some (.int (nI N)), some (.int (nI t))]) (st' := [.int 64, .int (nI t)]) (h' := (shT, fi, fl, fr)) rfl ?_
      refine gp_of (fun _ k9 => g_icf rfl (show ¬ ((64 : Int32) ≤ (nI t)) from nI_ge (b := 64) (by omega) (by omega)) k9) ?_
      refine gp_n 2 (j' := 46) (lv' := [some (.ref 13), some (.ref 1), some (.ref 2), some (.int (nI most)), some (.int 1), some (.int F), some (.int (nI N)), some (.int (nI t))]) (st' := [.ref 13, .int (nI N)]) (h' := (shT, fi, fl, fr)) rfl ?_
      refine gp_of (fun _ k9 => g_getR (q' := 1) rfl rfl (by decide) c12 k9) ?_
      refine gp_of (fun _ k9 => g_getI (x := nI N) rfl (Or.inl rfl) rfl (by decide) (cN) k9) ?_
      refine gp_of (fun _ k9 => g_ict rfl (show (nI N) ≤ (nI N) from Int32.le_refl _) k9) ?_
      exact gp_done k rfl
  induction n with
  | zero =>
    intro c t h ht hc hc2 hI hx hn
    have hc : c = 2 ^ m := by omega
    subst hc
    exact base t h ht hI hx hn
  | succ n ih =>
    intro c t h ht hc hc2 hI hx hn
    by_cases hce : c = 2 ^ m
    · subst hce
      exact base t h ht hI hx hn
    obtain ⟨e, h1, e1, ce, x1, n1, I1, F1⟩ := cg_st hmo1 hmo hm (by omega) (hF c (by omega)) hS hI hx hn
    have pe := Nat.two_pow_pos e
    obtain ⟨t', h2, x2, n2, I2, F2, g0⟩ := ih (c + 2 ^ e) (t + 1) h1 (by omega) ce (by omega) I1 x1 n1
    refine ⟨t', h2, x2, n2, I2, fram.tr F1 F2, fun r k => ?_⟩
    have g := g0 r k
    clear g0
    have c12 := hn.1
    have cN := hn.2.2.2.2.2.2
    have na := nI_add c (2 ^ e)
    generalize 2 ^ m = N at *
    clear hx hn x1 n1 x2 n2 F1 F2 ih base
    generalize 2 ^ e = E at *
    obtain ⟨S1, fi1, fl1, fr1⟩ := h1
    have s1 : S1 = shT := I1.1
    subst s1
    obtain ⟨S, fi, fl, fr⟩ := h
    have hS : S = shT := hI.1
    subst hS
    have c12 : fr 13 12 = some 1 := c12
    have cN : fi 1 1 = nI N := cN
    refine go_of ?_
    refine gp_n 2 (j' := 43) (lv' := [some (.ref 13), some (.ref 1), some (.ref 2), some (.int (nI most)), some (.int 1), some (.int F), some (.int (nI c)), some (.int (nI t))]) (st' := [.int 64, .int (nI t)]) (h' := (shT, fi, fl, fr)) rfl ?_
    refine gp_of (fun _ k9 => g_icf rfl (show ¬ ((64 : Int32) ≤ (nI t)) from nI_ge (b := 64) (by omega) (by omega)) k9) ?_
    refine gp_n 2 (j' := 46) (lv' := [some (.ref 13), some (.ref 1), some (.ref 2), some (.int (nI most)), some (.int 1), some (.int F), some (.int (nI c)), some (.int (nI t))]) (st' := [.ref 13, .int (nI c)]) (h' := (shT, fi, fl, fr)) rfl ?_
    refine gp_of (fun _ k9 => g_getR (q' := 1) rfl rfl (by decide) c12 k9) ?_
    refine gp_of (fun _ k9 => g_getI (x := nI N) rfl (Or.inl rfl) rfl (by decide) (cN) k9) ?_
    refine gp_of (fun _ k9 => g_icf rfl (show ¬ ((nI N) ≤ (nI c)) from nI_ge (by omega) (by omega)) k9) ?_
    refine gp_n 3 (j' := 52) (lv' := [some (.ref 13), some (.ref 1), some (.ref 2), some (.int (nI most)), some (.int 1), some (.int F), some (.int (nI c)), some (.int (nI t))]) (st' := [.int (nI c), .ref 13, .int (nI c)]) (h' := (shT, fi, fl, fr)) rfl ?_
    refine gp_of (fun _ k9 => g_call (y := 85) (as := [.ref 13, .int (nI c)]) (st' := [.int (nI c)]) rfl rfl (e1) k9) ?_
    refine gp_n 1 (j' := 54) (lv' := [some (.ref 13), some (.ref 1), some (.ref 2), some (.int (nI most)), some (.int 1), some (.int F), some (.int (nI c)), some (.int (nI t))]) (st' := [.int ((nI c) + (nI E))]) (h' := (shT, fi1, fl1, fr1)) rfl ?_
    rw [na]
    refine gp_n 3 (j' := 41) (lv' := [some (.ref 13), some (.ref 1), some (.ref 2), some (.int (nI most)), some (.int 1), some (.int F), some (.int (nI (c + E))), some (.int ((nI t) + 1))]) (st' := []) (h' := (shT, fi1, fl1, fr1)) rfl ?_
    rw [nI_1]
    exact gp_done g rfl
theorem cu_ev_2_14 {h : PmH} {m most : Nat} {K : Int64} {F : Int32} {S : Nat → Int32} (hI : HI hdT shT h) (k0 : ph_r h 13 0 = some 14) (kn : ph_r h 13 1 = some (32 - 14)) (hm : m ≤ 6) (hmo1 : 1 ≤ most) (hmo : most ≤ 8) (hF : ∀ c, c < 64 → ¬ nI c = F) (hH : ∀ s, s < 2 ^ m → ph_i h 2 s = S s) (hS : ∀ s, s < 64 → -127 ≤ (S s).toInt ∧ (S s).toInt ≤ 127) (c0 : ph_i h 1 0 = nI m) (c1 : ph_i h 1 1 = nI (2 ^ m)) (c7 : ph_l h 1 7 = K) : ∃ h', Ev pmT 82 [.ref 13, .ref 1, .ref 2, .int (nI most), .int 1, .int F] h none h' ∧ coI K m S most h' ∧ HI hdT shT h' ∧ fram (in_w iN_113) h h' := by
  have k1 : ph_r h 14 1 = some 15 := hi_r hI rfl rfl (by decide)
  have k2 : ph_r h 14 2 = some 16 := hi_r hI rfl rfl (by decide)
  have k3 : ph_r h 14 3 = some 17 := hi_r hI rfl rfl (by decide)
  have kS : ph_r h 13 9 = some 27 := hi_r hI rfl rfl (by decide)
  have p6 := pw_6 m (by omega)
  have iv1 := fun h' e => iv_s (v := none) (h' := h') (as := [.ref 13, .ref 1, .ref 2, .int (nI most), .int 1, .int F]) vN_113 rfl (fun _ _ => gz_c (gz_r (by decide)) (gz_c (gz_r (by decide)) (gz_c (gz_r (by decide)) (gz_c (gz_i (by rw [nI_toInt (by omega)]; omega) (by rw [nI_toInt (by omega)]; omega)) (gz_c (gz_i (by decide) (by decide)) (gz_c (gz_a _) gz_n)))))) hI e
  obtain ⟨S, fi, fl, fr⟩ := h
  have hS : S = shT := hI.1
  subst hS
  have k0 : fr 13 0 = some 14 := k0
  have kn : fr 13 1 = some 18 := kn
  have kS : fr 13 9 = some 27 := kS
  have c0 : fi 1 0 = nI m := c0
  have c1 : fi 1 1 = nI (2 ^ m) := c1
  have J : HI hdT shT (shT, fi, fl, pm_u2 fr 13 12 (some 1)) := HI_wr hI (fun _ => by decide)
  have J : HI hdT shT (shT, pm_u2 fi 13 13 (nI most), fl, pm_u2 fr 13 12 (some 1)) := HI_wi J (fun _ => by rw [nI_toInt (by omega)]; exact ⟨show (0 : Int) ≤ (most : Int) by omega, show (most : Int) ≤ 8 by omega⟩)
  have J : HI hdT shT (shT, pm_u2 (pm_u2 fi 13 13 (nI most)) 13 14 1, fl, pm_u2 fr 13 12 (some 1)) := HI_wi J (fun _ => by decide)
  have J : HI hdT shT (shT, pm_u2 (pm_u2 (pm_u2 fi 13 13 (nI most)) 13 14 1) 13 15 F, fl, pm_u2 fr 13 12 (some 1)) := HI_wi J (fun z => absurd z (by decide))
  have J : HI hdT shT (shT, pm_u2 (pm_u2 (pm_u2 (pm_u2 fi 13 13 (nI most)) 13 14 1) 13 15 F) 13 4 0, fl, pm_u2 fr 13 12 (some 1)) := HI_wi J (fun z => absurd z (by decide))
  have J : HI hdT shT (shT, pm_u2 (pm_u2 (pm_u2 (pm_u2 (pm_u2 fi 13 13 (nI most)) 13 14 1) 13 15 F) 13 4 0) 13 5 0, fl, pm_u2 fr 13 12 (some 1)) := HI_wi J (fun z => absurd z (by decide))
  have J : HI hdT shT (shT, pm_u2 (pm_u2 (pm_u2 (pm_u2 (pm_u2 (pm_u2 fi 13 13 (nI most)) 13 14 1) 13 15 F) 13 4 0) 13 5 0) 13 6 0, fl, pm_u2 fr 13 12 (some 1)) := HI_wi J (fun z => absurd z (by decide))
  have w6 : pm_u2 (pm_u2 (pm_u2 (pm_u2 (pm_u2 (pm_u2 fi 13 13 (nI most)) 13 14 1) 13 15 F) 13 4 0) 13 5 0) 13 6 0 13 6 = 0 := rfl
  have w5 : pm_u2 (pm_u2 (pm_u2 (pm_u2 (pm_u2 (pm_u2 fi 13 13 (nI most)) 13 14 1) 13 15 F) 13 4 0) 13 5 0) 13 6 0 13 5 = 0 := rfl
  have w4 : pm_u2 (pm_u2 (pm_u2 (pm_u2 (pm_u2 (pm_u2 fi 13 13 (nI most)) 13 14 1) 13 15 F) 13 4 0) 13 5 0) 13 6 0 13 4 = 0 := rfl
  have w15 : pm_u2 (pm_u2 (pm_u2 (pm_u2 (pm_u2 (pm_u2 fi 13 13 (nI most)) 13 14 1) 13 15 F) 13 4 0) 13 5 0) 13 6 0 13 15 = F := rfl
  have w14 : pm_u2 (pm_u2 (pm_u2 (pm_u2 (pm_u2 (pm_u2 fi 13 13 (nI most)) 13 14 1) 13 15 F) 13 4 0) 13 5 0) 13 6 0 13 14 = 1 := rfl
  have w13 : pm_u2 (pm_u2 (pm_u2 (pm_u2 (pm_u2 (pm_u2 fi 13 13 (nI most)) 13 14 1) 13 15 F) 13 4 0) 13 5 0) 13 6 0 13 13 = nI most := rfl
  have wO : ∀ p s, ¬ p = 13 → pm_u2 (pm_u2 (pm_u2 (pm_u2 (pm_u2 (pm_u2 fi 13 13 (nI most)) 13 14 1) 13 15 F) 13 4 0) 13 5 0) 13 6 0 p s = fi p s := fun p s z => (wl_ne (by omega)).trans ((wl_ne (by omega)).trans ((wl_ne (by omega)).trans ((wl_ne (by omega)).trans ((wl_ne (by omega)).trans (wl_ne (by omega))))))
  generalize hF1 : pm_u2 (pm_u2 (pm_u2 (pm_u2 (pm_u2 (pm_u2 fi 13 13 (nI most)) 13 14 1) 13 15 F) 13 4 0) 13 5 0) 13 6 0 = f1 at *
  obtain ⟨f2, a1, a2, a3, a4, a5⟩ := af_ev_14 (fi := f1) (fl := fl) (fr := pm_u2 fr 13 12 (some 1)) k1 k2 k3
  have J2 := (iv_s (v := none) (as := [.ref 14]) vN_53 rfl (fun _ _ => gz_c (gz_r (by decide)) gz_n) J a5).1
  have ow := ow_ev (l := m) (p := 0) (h := (shT, f2, pm_u2 fl 15 0 0, pm_u2 fr 13 12 (some 1))) (by omega) (by decide)
  have tp := ixS_top (l := m) (r := 0) hm (by decide)
  have J3 := HI_uf27 (g := va_cpy (f2 2) (f2 27) 0 (ixS m 0) (2 ^ m)) J2
  have wQ : ∀ p s, ¬ p = 13 → ¬ p = 14 → ¬ p = 16 → ¬ p = 17 → f2 p s = fi p s := fun p s z1 z2 z3 z4 => (a4 p s z2 z3 z4).trans (wO p s z1)
  have wP : ∀ p s, ¬ p = 27 → pm_uf f2 27 (va_cpy (f2 2) (f2 27) 0 (ixS m 0) (2 ^ m)) p s = f2 p s := fun p s z => by
    unfold pm_uf
    rw [if_neg z]
  have w27 : ∀ j, j < 2 ^ m → pm_uf f2 27 (va_cpy (f2 2) (f2 27) 0 (ixS m 0) (2 ^ m)) 27 (ixS m 0 + j) = S j := fun j hj => by
    unfold pm_uf va_cpy
    rw [if_pos rfl, if_pos (by omega), show 0 + (ixS m 0 + j - ixS m 0) = j by omega]
    exact (wQ _ _ (by decide) (by decide) (by decide) (by decide)).trans (hH j hj)
  generalize hF3 : pm_uf f2 27 (va_cpy (f2 2) (f2 27) 0 (ixS m 0) (2 ^ m)) = f3 at *
  have a4' : ∀ s, f2 13 s = f1 13 s := fun s => a4 13 s (by decide) (by decide) (by decide)
  have hx : cgI K m S most 0 (shT, f3, pm_u2 fl 15 0 0, pm_u2 fr 13 12 (some 1)) := by
    refine ⟨⟨14, by decide, ⟨k0, kn, (wP _ _ (by decide)).trans a1, fun p hp => ?_⟩, fun _ l l1 l2 p hp => ?_⟩, ⟨(wP _ _ (by decide)).trans ((a4' 4).trans w4), (wP _ _ (by decide)).trans ((a4' 5).trans w5), (wP _ _ (by decide)).trans ((a4' 6).trans w6)⟩, fun _ => ?_⟩
    · have hp : p < 1 := hp
      have hp : p = 0 := by omega
      subst hp
      exact ⟨show pm_u2 fl 15 0 0 15 0 = 0 from u2_eq, (wP _ _ (by decide)).trans a2⟩
    · have hp : p < 1 := hp
      have hp : p = 0 := by omega
      subst hp
      have l1 : m ≤ l := l1
      have hl : l = m := by omega
      subst hl
      refine ⟨0, by decide, (wP _ _ (by decide)).trans (a3 l (by omega)), fun j hj => ?_⟩
      rw [ndL_m]
      exact w27 j hj
    · have : topL m 0 = m := if_pos rfl
      rw [this]
      exact gon_m
  have hn : cnJ K m most F (shT, f3, pm_u2 fl 15 0 0, pm_u2 fr 13 12 (some 1)) := ⟨show pm_u2 fr 13 12 (some 1) 13 12 = some 1 from u2_eq, (wP _ _ (by decide)).trans ((a4' 13).trans w13), (wP _ _ (by decide)).trans ((a4' 14).trans w14), (wP _ _ (by decide)).trans ((a4' 15).trans w15), c7, (wP _ _ (by decide)).trans ((wQ _ _ (by decide) (by decide) (by decide) (by decide)).trans c0), (wP _ _ (by decide)).trans ((wQ _ _ (by decide) (by decide) (by decide) (by decide)).trans c1)⟩
  obtain ⟨t', h4, x4, n4, I4, F4, g⟩ := cu_go hmo1 hmo hF hm hS (2 ^ m) 0 0 _ (Nat.le_refl _) (Nat.zero_le _) (by omega) J3 hx hn
  obtain ⟨v5, h5, e5, I5, F5, p5⟩ := iv_ev vN_112 (as := [.ref 13]) rfl (fun _ _ => gz_c (gz_r (by decide)) gz_n) I4
  have v5n := pv_n rfl p5
  subst v5n
  have e5 : Ev pmT 105 [.ref 13] h4 none h5 := e5
  have x5 : coI K m S most h5 := by
    have e7 : ∀ s, s < 7 → inW (in_w iN_112) 13 s = false := by decide
    have eo : ∀ p s, ¬ p = 13 → inW (in_w iN_112) p s = false := fun p s z => inW_all (f := fun q => decide (q.1 = 13)) (by decide) (fun c hc => decide_eq_false z)
    obtain ⟨⟨A, hA, y1, y2⟩, ⟨y3, y4, y5⟩, -⟩ := x4
    refine ⟨A, hA, rdI_cg hA (fun p s z1 z2 => ⟨(F5 p s (eo p s (by omega))).1, (F5 p s (eo p s (by omega))).2.1⟩) (F5 13 0 (e7 0 (by decide))).2.2 (F5 13 1 (e7 1 (by decide))).2.2 y1, (F5 13 4 (e7 4 (by decide))).1.trans y3, (F5 13 5 (e7 5 (by decide))).1.trans y4, (F5 13 6 (e7 6 (by decide))).1.trans y5⟩
  have ev : Ev pmT 82 [.ref 13, .ref 1, .ref 2, .int (nI most), .int 1, .int F] (shT, fi, fl, fr) none h5 := by
    have g := g (none, h5)
    have c0f : f2 1 0 = nI m := (wQ _ _ (by decide) (by decide) (by decide) (by decide)).trans c0
    have c1f : f2 1 1 = nI (2 ^ m) := (wQ _ _ (by decide) (by decide) (by decide) (by decide)).trans c1
    have t64 : 2 ^ m ≤ 64 := p6.2
    clear x5 F5 x4 n4 F4 p5 hx hn w27 wQ wO a1 a2 a3 a4 iv1 J J2 J3 a4' w4 w5 w6 w13 w14 w15 p6 wP hH
    generalize ixS m 0 = ix at *
    generalize 2 ^ m = N at *
    subst hF3
    subst hF1
    obtain ⟨S4, fi4, fl4, fr4⟩ := h4
    have s4 : S4 = shT := I4.1
    subst s4
    obtain ⟨S5, fi5, fl5, fr5⟩ := h5
    have s5 : S5 = shT := I5.1
    subst s5
    have g := g (by
      refine go_of ?_
      refine gp_n 1 (j' := 58) (lv' := [some (.ref 13), some (.ref 1), some (.ref 2), some (.int (nI most)), some (.int 1), some (.int F), some (.int (nI N)), some (.int (nI t'))]) (st' := [.ref 13]) (h' := (shT, fi4, fl4, fr4)) rfl ?_
      refine gp_of (fun _ k9 => g_callv (y := 105) (as := [.ref 13]) (st' := []) rfl rfl (e5) k9) ?_
      refine gp_done (g_vret rfl) ?_
      rfl)
    refine Ev.of (es := cd_82) (ml := 8) (lv := [some (.ref 13), some (.ref 1), some (.ref 2), some (.int (nI most)), some (.int 1), some (.int F), none, none]) rfl rfl rfl ?_
    refine go_of ?_
    refine gp_n 2 (j' := 2) (lv' := [some (.ref 13), some (.ref 1), some (.ref 2), some (.int (nI most)), some (.int 1), some (.int F), none, none]) (st' := [.ref 1, .ref 13]) (h' := (shT, fi, fl, fr)) rfl ?_
    refine gp_of (fun _ k9 => g_putR rfl rfl (by decide) k9) ?_
    refine gp_n 2 (j' := 5) (lv' := [some (.ref 13), some (.ref 1), some (.ref 2), some (.int (nI most)), some (.int 1), some (.int F), none, none]) (st' := [.int (nI most), .ref 13]) (h' := (shT, fi, fl, pm_u2 fr 13 12 (some 1))) rfl ?_
    refine gp_of (fun _ k9 => g_putI rfl (Or.inl rfl) rfl (by decide) k9) ?_
    refine gp_n 2 (j' := 8) (lv' := [some (.ref 13), some (.ref 1), some (.ref 2), some (.int (nI most)), some (.int 1), some (.int F), none, none]) (st' := [.int 1, .ref 13]) (h' := (shT, pm_u2 fi 13 13 (nI most), fl, pm_u2 fr 13 12 (some 1))) rfl ?_
    refine gp_of (fun _ k9 => g_putI rfl (Or.inr ⟨rfl, by decide⟩) rfl (by decide) k9) ?_
    refine gp_n 2 (j' := 11) (lv' := [some (.ref 13), some (.ref 1), some (.ref 2), some (.int (nI most)), some (.int 1), some (.int F), none, none]) (st' := [.int F, .ref 13]) (h' := (shT, pm_u2 (pm_u2 fi 13 13 (nI most)) 13 14 1, fl, pm_u2 fr 13 12 (some 1))) rfl ?_
    refine gp_of (fun _ k9 => g_putI rfl (Or.inl rfl) rfl (by decide) k9) ?_
    refine gp_n 2 (j' := 14) (lv' := [some (.ref 13), some (.ref 1), some (.ref 2), some (.int (nI most)), some (.int 1), some (.int F), none, none]) (st' := [.int 0, .ref 13]) (h' := (shT, pm_u2 (pm_u2 (pm_u2 fi 13 13 (nI most)) 13 14 1) 13 15 F, fl, pm_u2 fr 13 12 (some 1))) rfl ?_
    refine gp_of (fun _ k9 => g_putI rfl (Or.inl rfl) rfl (by decide) k9) ?_
    refine gp_n 2 (j' := 17) (lv' := [some (.ref 13), some (.ref 1), some (.ref 2), some (.int (nI most)), some (.int 1), some (.int F), none, none]) (st' := [.int 0, .ref 13]) (h' := (shT, pm_u2 (pm_u2 (pm_u2 (pm_u2 fi 13 13 (nI most)) 13 14 1) 13 15 F) 13 4 0, fl, pm_u2 fr 13 12 (some 1))) rfl ?_
    refine gp_of (fun _ k9 => g_putI rfl (Or.inl rfl) rfl (by decide) k9) ?_
    refine gp_n 2 (j' := 20) (lv' := [some (.ref 13), some (.ref 1), some (.ref 2), some (.int (nI most)), some (.int 1), some (.int F), none, none]) (st' := [.int 0, .ref 13]) (h' := (shT, pm_u2 (pm_u2 (pm_u2 (pm_u2 (pm_u2 fi 13 13 (nI most)) 13 14 1) 13 15 F) 13 4 0) 13 5 0, fl, pm_u2 fr 13 12 (some 1))) rfl ?_
    refine gp_of (fun _ k9 => g_putI rfl (Or.inl rfl) rfl (by decide) k9) ?_
    refine gp_n 1 (j' := 22) (lv' := [some (.ref 13), some (.ref 1), some (.ref 2), some (.int (nI most)), some (.int 1), some (.int F), none, none]) (st' := [.ref 13]) (h' := (shT, pm_u2 (pm_u2 (pm_u2 (pm_u2 (pm_u2 (pm_u2 fi 13 13 (nI most)) 13 14 1) 13 15 F) 13 4 0) 13 5 0) 13 6 0, fl, pm_u2 fr 13 12 (some 1))) rfl ?_
    refine gp_of (fun _ k9 => g_getR (q' := 14) rfl rfl (by decide) k0 k9) ?_
    refine gp_of (fun _ k9 => g_callv (y := 83) (as := [.ref 14]) (st' := []) rfl rfl (a5) k9) ?_
    refine gp_n 3 (j' := 27) (lv' := [some (.ref 13), some (.ref 1), some (.ref 2), some (.int (nI most)), some (.int 1), some (.int F), none, none]) (st' := [.ref 13, .int 0, .ref 2]) (h' := (shT, f2, (pm_u2 fl 15 0 0), (pm_u2 fr 13 12 (some 1)))) rfl ?_
    refine gp_of (fun _ k9 => g_getR (q' := 27) rfl rfl (by decide) kS k9) ?_
    refine gp_n 1 (j' := 29) (lv' := [some (.ref 13), some (.ref 1), some (.ref 2), some (.int (nI most)), some (.int 1), some (.int F), none, none]) (st' := [.ref 13, .ref 27, .int 0, .ref 2]) (h' := (shT, f2, (pm_u2 fl 15 0 0), (pm_u2 fr 13 12 (some 1)))) rfl ?_
    refine gp_of (fun _ k9 => g_getR (q' := 1) rfl rfl (by decide) rfl k9) ?_
    refine gp_of (fun _ k9 => g_getI (x := nI m) rfl (Or.inl rfl) rfl (by decide) (c0f) k9) ?_
    refine gp_n 1 (j' := 32) (lv' := [some (.ref 13), some (.ref 1), some (.ref 2), some (.int (nI most)), some (.int 1), some (.int F), none, none]) (st' := [.int 0, .int (nI m), .ref 27, .int 0, .ref 2]) (h' := (shT, f2, (pm_u2 fl 15 0 0), (pm_u2 fr 13 12 (some 1)))) rfl ?_
    refine gp_of (fun _ k9 => g_call (y := 84) (as := [.int (nI m), .int 0]) (st' := [.ref 27, .int 0, .ref 2]) rfl rfl (ow) k9) ?_
    refine gp_n 1 (j' := 34) (lv' := [some (.ref 13), some (.ref 1), some (.ref 2), some (.int (nI most)), some (.int 1), some (.int F), none, none]) (st' := [.ref 13, .int (nI ix), .ref 27, .int 0, .ref 2]) (h' := (shT, f2, (pm_u2 fl 15 0 0), (pm_u2 fr 13 12 (some 1)))) rfl ?_
    refine gp_of (fun _ k9 => g_getR (q' := 1) rfl rfl (by decide) rfl k9) ?_
    refine gp_of (fun _ k9 => g_getI (x := nI N) rfl (Or.inl rfl) rfl (by decide) (c1f) k9) ?_
    refine gp_of (fun _ k9 => g_cpyN (n0 := 64) (n1 := 1016) rfl rfl rfl (by omega) (by omega) (by decide) (by decide) k9) ?_
    refine gp_n 4 (j' := 41) (lv' := [some (.ref 13), some (.ref 1), some (.ref 2), some (.int (nI most)), some (.int 1), some (.int F), some (.int (nI 0)), some (.int (nI 0))]) (st' := []) (h' := (shT, (pm_uf f2 27 (va_cpy (f2 2) (f2 27) 0 ix N)), (pm_u2 fl 15 0 0), (pm_u2 fr 13 12 (some 1)))) rfl ?_
    exact gp_done g rfl
  exact ⟨h5, ev, x5, iv1 _ ev⟩
theorem cu_ev_2_18 {h : PmH} {m most : Nat} {K : Int64} {F : Int32} {S : Nat → Int32} (hI : HI hdT shT h) (k0 : ph_r h 13 0 = some 18) (kn : ph_r h 13 1 = some (32 - 18)) (hm : m ≤ 6) (hmo1 : 1 ≤ most) (hmo : most ≤ 8) (hF : ∀ c, c < 64 → ¬ nI c = F) (hH : ∀ s, s < 2 ^ m → ph_i h 2 s = S s) (hS : ∀ s, s < 64 → -127 ≤ (S s).toInt ∧ (S s).toInt ≤ 127) (c0 : ph_i h 1 0 = nI m) (c1 : ph_i h 1 1 = nI (2 ^ m)) (c7 : ph_l h 1 7 = K) : ∃ h', Ev pmT 82 [.ref 13, .ref 1, .ref 2, .int (nI most), .int 1, .int F] h none h' ∧ coI K m S most h' ∧ HI hdT shT h' ∧ fram (in_w iN_113) h h' := by
  have k1 : ph_r h 18 1 = some 19 := hi_r hI rfl rfl (by decide)
  have k2 : ph_r h 18 2 = some 20 := hi_r hI rfl rfl (by decide)
  have k3 : ph_r h 18 3 = some 21 := hi_r hI rfl rfl (by decide)
  have kS : ph_r h 13 9 = some 27 := hi_r hI rfl rfl (by decide)
  have p6 := pw_6 m (by omega)
  have iv1 := fun h' e => iv_s (v := none) (h' := h') (as := [.ref 13, .ref 1, .ref 2, .int (nI most), .int 1, .int F]) vN_113 rfl (fun _ _ => gz_c (gz_r (by decide)) (gz_c (gz_r (by decide)) (gz_c (gz_r (by decide)) (gz_c (gz_i (by rw [nI_toInt (by omega)]; omega) (by rw [nI_toInt (by omega)]; omega)) (gz_c (gz_i (by decide) (by decide)) (gz_c (gz_a _) gz_n)))))) hI e
  obtain ⟨S, fi, fl, fr⟩ := h
  have hS : S = shT := hI.1
  subst hS
  have k0 : fr 13 0 = some 18 := k0
  have kn : fr 13 1 = some 14 := kn
  have kS : fr 13 9 = some 27 := kS
  have c0 : fi 1 0 = nI m := c0
  have c1 : fi 1 1 = nI (2 ^ m) := c1
  have J : HI hdT shT (shT, fi, fl, pm_u2 fr 13 12 (some 1)) := HI_wr hI (fun _ => by decide)
  have J : HI hdT shT (shT, pm_u2 fi 13 13 (nI most), fl, pm_u2 fr 13 12 (some 1)) := HI_wi J (fun _ => by rw [nI_toInt (by omega)]; exact ⟨show (0 : Int) ≤ (most : Int) by omega, show (most : Int) ≤ 8 by omega⟩)
  have J : HI hdT shT (shT, pm_u2 (pm_u2 fi 13 13 (nI most)) 13 14 1, fl, pm_u2 fr 13 12 (some 1)) := HI_wi J (fun _ => by decide)
  have J : HI hdT shT (shT, pm_u2 (pm_u2 (pm_u2 fi 13 13 (nI most)) 13 14 1) 13 15 F, fl, pm_u2 fr 13 12 (some 1)) := HI_wi J (fun z => absurd z (by decide))
  have J : HI hdT shT (shT, pm_u2 (pm_u2 (pm_u2 (pm_u2 fi 13 13 (nI most)) 13 14 1) 13 15 F) 13 4 0, fl, pm_u2 fr 13 12 (some 1)) := HI_wi J (fun z => absurd z (by decide))
  have J : HI hdT shT (shT, pm_u2 (pm_u2 (pm_u2 (pm_u2 (pm_u2 fi 13 13 (nI most)) 13 14 1) 13 15 F) 13 4 0) 13 5 0, fl, pm_u2 fr 13 12 (some 1)) := HI_wi J (fun z => absurd z (by decide))
  have J : HI hdT shT (shT, pm_u2 (pm_u2 (pm_u2 (pm_u2 (pm_u2 (pm_u2 fi 13 13 (nI most)) 13 14 1) 13 15 F) 13 4 0) 13 5 0) 13 6 0, fl, pm_u2 fr 13 12 (some 1)) := HI_wi J (fun z => absurd z (by decide))
  have w6 : pm_u2 (pm_u2 (pm_u2 (pm_u2 (pm_u2 (pm_u2 fi 13 13 (nI most)) 13 14 1) 13 15 F) 13 4 0) 13 5 0) 13 6 0 13 6 = 0 := rfl
  have w5 : pm_u2 (pm_u2 (pm_u2 (pm_u2 (pm_u2 (pm_u2 fi 13 13 (nI most)) 13 14 1) 13 15 F) 13 4 0) 13 5 0) 13 6 0 13 5 = 0 := rfl
  have w4 : pm_u2 (pm_u2 (pm_u2 (pm_u2 (pm_u2 (pm_u2 fi 13 13 (nI most)) 13 14 1) 13 15 F) 13 4 0) 13 5 0) 13 6 0 13 4 = 0 := rfl
  have w15 : pm_u2 (pm_u2 (pm_u2 (pm_u2 (pm_u2 (pm_u2 fi 13 13 (nI most)) 13 14 1) 13 15 F) 13 4 0) 13 5 0) 13 6 0 13 15 = F := rfl
  have w14 : pm_u2 (pm_u2 (pm_u2 (pm_u2 (pm_u2 (pm_u2 fi 13 13 (nI most)) 13 14 1) 13 15 F) 13 4 0) 13 5 0) 13 6 0 13 14 = 1 := rfl
  have w13 : pm_u2 (pm_u2 (pm_u2 (pm_u2 (pm_u2 (pm_u2 fi 13 13 (nI most)) 13 14 1) 13 15 F) 13 4 0) 13 5 0) 13 6 0 13 13 = nI most := rfl
  have wO : ∀ p s, ¬ p = 13 → pm_u2 (pm_u2 (pm_u2 (pm_u2 (pm_u2 (pm_u2 fi 13 13 (nI most)) 13 14 1) 13 15 F) 13 4 0) 13 5 0) 13 6 0 p s = fi p s := fun p s z => (wl_ne (by omega)).trans ((wl_ne (by omega)).trans ((wl_ne (by omega)).trans ((wl_ne (by omega)).trans ((wl_ne (by omega)).trans (wl_ne (by omega))))))
  generalize hF1 : pm_u2 (pm_u2 (pm_u2 (pm_u2 (pm_u2 (pm_u2 fi 13 13 (nI most)) 13 14 1) 13 15 F) 13 4 0) 13 5 0) 13 6 0 = f1 at *
  obtain ⟨f2, a1, a2, a3, a4, a5⟩ := af_ev_18 (fi := f1) (fl := fl) (fr := pm_u2 fr 13 12 (some 1)) k1 k2 k3
  have J2 := (iv_s (v := none) (as := [.ref 18]) vN_53 rfl (fun _ _ => gz_c (gz_r (by decide)) gz_n) J a5).1
  have ow := ow_ev (l := m) (p := 0) (h := (shT, f2, pm_u2 fl 19 0 0, pm_u2 fr 13 12 (some 1))) (by omega) (by decide)
  have tp := ixS_top (l := m) (r := 0) hm (by decide)
  have J3 := HI_uf27 (g := va_cpy (f2 2) (f2 27) 0 (ixS m 0) (2 ^ m)) J2
  have wQ : ∀ p s, ¬ p = 13 → ¬ p = 18 → ¬ p = 20 → ¬ p = 21 → f2 p s = fi p s := fun p s z1 z2 z3 z4 => (a4 p s z2 z3 z4).trans (wO p s z1)
  have wP : ∀ p s, ¬ p = 27 → pm_uf f2 27 (va_cpy (f2 2) (f2 27) 0 (ixS m 0) (2 ^ m)) p s = f2 p s := fun p s z => by
    unfold pm_uf
    rw [if_neg z]
  have w27 : ∀ j, j < 2 ^ m → pm_uf f2 27 (va_cpy (f2 2) (f2 27) 0 (ixS m 0) (2 ^ m)) 27 (ixS m 0 + j) = S j := fun j hj => by
    unfold pm_uf va_cpy
    rw [if_pos rfl, if_pos (by omega), show 0 + (ixS m 0 + j - ixS m 0) = j by omega]
    exact (wQ _ _ (by decide) (by decide) (by decide) (by decide)).trans (hH j hj)
  generalize hF3 : pm_uf f2 27 (va_cpy (f2 2) (f2 27) 0 (ixS m 0) (2 ^ m)) = f3 at *
  have a4' : ∀ s, f2 13 s = f1 13 s := fun s => a4 13 s (by decide) (by decide) (by decide)
  have hx : cgI K m S most 0 (shT, f3, pm_u2 fl 19 0 0, pm_u2 fr 13 12 (some 1)) := by
    refine ⟨⟨18, by decide, ⟨k0, kn, (wP _ _ (by decide)).trans a1, fun p hp => ?_⟩, fun _ l l1 l2 p hp => ?_⟩, ⟨(wP _ _ (by decide)).trans ((a4' 4).trans w4), (wP _ _ (by decide)).trans ((a4' 5).trans w5), (wP _ _ (by decide)).trans ((a4' 6).trans w6)⟩, fun _ => ?_⟩
    · have hp : p < 1 := hp
      have hp : p = 0 := by omega
      subst hp
      exact ⟨show pm_u2 fl 19 0 0 19 0 = 0 from u2_eq, (wP _ _ (by decide)).trans a2⟩
    · have hp : p < 1 := hp
      have hp : p = 0 := by omega
      subst hp
      have l1 : m ≤ l := l1
      have hl : l = m := by omega
      subst hl
      refine ⟨0, by decide, (wP _ _ (by decide)).trans (a3 l (by omega)), fun j hj => ?_⟩
      rw [ndL_m]
      exact w27 j hj
    · have : topL m 0 = m := if_pos rfl
      rw [this]
      exact gon_m
  have hn : cnJ K m most F (shT, f3, pm_u2 fl 19 0 0, pm_u2 fr 13 12 (some 1)) := ⟨show pm_u2 fr 13 12 (some 1) 13 12 = some 1 from u2_eq, (wP _ _ (by decide)).trans ((a4' 13).trans w13), (wP _ _ (by decide)).trans ((a4' 14).trans w14), (wP _ _ (by decide)).trans ((a4' 15).trans w15), c7, (wP _ _ (by decide)).trans ((wQ _ _ (by decide) (by decide) (by decide) (by decide)).trans c0), (wP _ _ (by decide)).trans ((wQ _ _ (by decide) (by decide) (by decide) (by decide)).trans c1)⟩
  obtain ⟨t', h4, x4, n4, I4, F4, g⟩ := cu_go hmo1 hmo hF hm hS (2 ^ m) 0 0 _ (Nat.le_refl _) (Nat.zero_le _) (by omega) J3 hx hn
  obtain ⟨v5, h5, e5, I5, F5, p5⟩ := iv_ev vN_112 (as := [.ref 13]) rfl (fun _ _ => gz_c (gz_r (by decide)) gz_n) I4
  have v5n := pv_n rfl p5
  subst v5n
  have e5 : Ev pmT 105 [.ref 13] h4 none h5 := e5
  have x5 : coI K m S most h5 := by
    have e7 : ∀ s, s < 7 → inW (in_w iN_112) 13 s = false := by decide
    have eo : ∀ p s, ¬ p = 13 → inW (in_w iN_112) p s = false := fun p s z => inW_all (f := fun q => decide (q.1 = 13)) (by decide) (fun c hc => decide_eq_false z)
    obtain ⟨⟨A, hA, y1, y2⟩, ⟨y3, y4, y5⟩, -⟩ := x4
    refine ⟨A, hA, rdI_cg hA (fun p s z1 z2 => ⟨(F5 p s (eo p s (by omega))).1, (F5 p s (eo p s (by omega))).2.1⟩) (F5 13 0 (e7 0 (by decide))).2.2 (F5 13 1 (e7 1 (by decide))).2.2 y1, (F5 13 4 (e7 4 (by decide))).1.trans y3, (F5 13 5 (e7 5 (by decide))).1.trans y4, (F5 13 6 (e7 6 (by decide))).1.trans y5⟩
  have ev : Ev pmT 82 [.ref 13, .ref 1, .ref 2, .int (nI most), .int 1, .int F] (shT, fi, fl, fr) none h5 := by
    have g := g (none, h5)
    have c0f : f2 1 0 = nI m := (wQ _ _ (by decide) (by decide) (by decide) (by decide)).trans c0
    have c1f : f2 1 1 = nI (2 ^ m) := (wQ _ _ (by decide) (by decide) (by decide) (by decide)).trans c1
    have t64 : 2 ^ m ≤ 64 := p6.2
    clear x5 F5 x4 n4 F4 p5 hx hn w27 wQ wO a1 a2 a3 a4 iv1 J J2 J3 a4' w4 w5 w6 w13 w14 w15 p6 wP hH
    generalize ixS m 0 = ix at *
    generalize 2 ^ m = N at *
    subst hF3
    subst hF1
    obtain ⟨S4, fi4, fl4, fr4⟩ := h4
    have s4 : S4 = shT := I4.1
    subst s4
    obtain ⟨S5, fi5, fl5, fr5⟩ := h5
    have s5 : S5 = shT := I5.1
    subst s5
    have g := g (by
      refine go_of ?_
      refine gp_n 1 (j' := 58) (lv' := [some (.ref 13), some (.ref 1), some (.ref 2), some (.int (nI most)), some (.int 1), some (.int F), some (.int (nI N)), some (.int (nI t'))]) (st' := [.ref 13]) (h' := (shT, fi4, fl4, fr4)) rfl ?_
      refine gp_of (fun _ k9 => g_callv (y := 105) (as := [.ref 13]) (st' := []) rfl rfl (e5) k9) ?_
      refine gp_done (g_vret rfl) ?_
      rfl)
    refine Ev.of (es := cd_82) (ml := 8) (lv := [some (.ref 13), some (.ref 1), some (.ref 2), some (.int (nI most)), some (.int 1), some (.int F), none, none]) rfl rfl rfl ?_
    refine go_of ?_
    refine gp_n 2 (j' := 2) (lv' := [some (.ref 13), some (.ref 1), some (.ref 2), some (.int (nI most)), some (.int 1), some (.int F), none, none]) (st' := [.ref 1, .ref 13]) (h' := (shT, fi, fl, fr)) rfl ?_
    refine gp_of (fun _ k9 => g_putR rfl rfl (by decide) k9) ?_
    refine gp_n 2 (j' := 5) (lv' := [some (.ref 13), some (.ref 1), some (.ref 2), some (.int (nI most)), some (.int 1), some (.int F), none, none]) (st' := [.int (nI most), .ref 13]) (h' := (shT, fi, fl, pm_u2 fr 13 12 (some 1))) rfl ?_
    refine gp_of (fun _ k9 => g_putI rfl (Or.inl rfl) rfl (by decide) k9) ?_
    refine gp_n 2 (j' := 8) (lv' := [some (.ref 13), some (.ref 1), some (.ref 2), some (.int (nI most)), some (.int 1), some (.int F), none, none]) (st' := [.int 1, .ref 13]) (h' := (shT, pm_u2 fi 13 13 (nI most), fl, pm_u2 fr 13 12 (some 1))) rfl ?_
    refine gp_of (fun _ k9 => g_putI rfl (Or.inr ⟨rfl, by decide⟩) rfl (by decide) k9) ?_
    refine gp_n 2 (j' := 11) (lv' := [some (.ref 13), some (.ref 1), some (.ref 2), some (.int (nI most)), some (.int 1), some (.int F), none, none]) (st' := [.int F, .ref 13]) (h' := (shT, pm_u2 (pm_u2 fi 13 13 (nI most)) 13 14 1, fl, pm_u2 fr 13 12 (some 1))) rfl ?_
    refine gp_of (fun _ k9 => g_putI rfl (Or.inl rfl) rfl (by decide) k9) ?_
    refine gp_n 2 (j' := 14) (lv' := [some (.ref 13), some (.ref 1), some (.ref 2), some (.int (nI most)), some (.int 1), some (.int F), none, none]) (st' := [.int 0, .ref 13]) (h' := (shT, pm_u2 (pm_u2 (pm_u2 fi 13 13 (nI most)) 13 14 1) 13 15 F, fl, pm_u2 fr 13 12 (some 1))) rfl ?_
    refine gp_of (fun _ k9 => g_putI rfl (Or.inl rfl) rfl (by decide) k9) ?_
    refine gp_n 2 (j' := 17) (lv' := [some (.ref 13), some (.ref 1), some (.ref 2), some (.int (nI most)), some (.int 1), some (.int F), none, none]) (st' := [.int 0, .ref 13]) (h' := (shT, pm_u2 (pm_u2 (pm_u2 (pm_u2 fi 13 13 (nI most)) 13 14 1) 13 15 F) 13 4 0, fl, pm_u2 fr 13 12 (some 1))) rfl ?_
    refine gp_of (fun _ k9 => g_putI rfl (Or.inl rfl) rfl (by decide) k9) ?_
    refine gp_n 2 (j' := 20) (lv' := [some (.ref 13), some (.ref 1), some (.ref 2), some (.int (nI most)), some (.int 1), some (.int F), none, none]) (st' := [.int 0, .ref 13]) (h' := (shT, pm_u2 (pm_u2 (pm_u2 (pm_u2 (pm_u2 fi 13 13 (nI most)) 13 14 1) 13 15 F) 13 4 0) 13 5 0, fl, pm_u2 fr 13 12 (some 1))) rfl ?_
    refine gp_of (fun _ k9 => g_putI rfl (Or.inl rfl) rfl (by decide) k9) ?_
    refine gp_n 1 (j' := 22) (lv' := [some (.ref 13), some (.ref 1), some (.ref 2), some (.int (nI most)), some (.int 1), some (.int F), none, none]) (st' := [.ref 13]) (h' := (shT, pm_u2 (pm_u2 (pm_u2 (pm_u2 (pm_u2 (pm_u2 fi 13 13 (nI most)) 13 14 1) 13 15 F) 13 4 0) 13 5 0) 13 6 0, fl, pm_u2 fr 13 12 (some 1))) rfl ?_
    refine gp_of (fun _ k9 => g_getR (q' := 18) rfl rfl (by decide) k0 k9) ?_
    refine gp_of (fun _ k9 => g_callv (y := 83) (as := [.ref 18]) (st' := []) rfl rfl (a5) k9) ?_
    refine gp_n 3 (j' := 27) (lv' := [some (.ref 13), some (.ref 1), some (.ref 2), some (.int (nI most)), some (.int 1), some (.int F), none, none]) (st' := [.ref 13, .int 0, .ref 2]) (h' := (shT, f2, (pm_u2 fl 19 0 0), (pm_u2 fr 13 12 (some 1)))) rfl ?_
    refine gp_of (fun _ k9 => g_getR (q' := 27) rfl rfl (by decide) kS k9) ?_
    refine gp_n 1 (j' := 29) (lv' := [some (.ref 13), some (.ref 1), some (.ref 2), some (.int (nI most)), some (.int 1), some (.int F), none, none]) (st' := [.ref 13, .ref 27, .int 0, .ref 2]) (h' := (shT, f2, (pm_u2 fl 19 0 0), (pm_u2 fr 13 12 (some 1)))) rfl ?_
    refine gp_of (fun _ k9 => g_getR (q' := 1) rfl rfl (by decide) rfl k9) ?_
    refine gp_of (fun _ k9 => g_getI (x := nI m) rfl (Or.inl rfl) rfl (by decide) (c0f) k9) ?_
    refine gp_n 1 (j' := 32) (lv' := [some (.ref 13), some (.ref 1), some (.ref 2), some (.int (nI most)), some (.int 1), some (.int F), none, none]) (st' := [.int 0, .int (nI m), .ref 27, .int 0, .ref 2]) (h' := (shT, f2, (pm_u2 fl 19 0 0), (pm_u2 fr 13 12 (some 1)))) rfl ?_
    refine gp_of (fun _ k9 => g_call (y := 84) (as := [.int (nI m), .int 0]) (st' := [.ref 27, .int 0, .ref 2]) rfl rfl (ow) k9) ?_
    refine gp_n 1 (j' := 34) (lv' := [some (.ref 13), some (.ref 1), some (.ref 2), some (.int (nI most)), some (.int 1), some (.int F), none, none]) (st' := [.ref 13, .int (nI ix), .ref 27, .int 0, .ref 2]) (h' := (shT, f2, (pm_u2 fl 19 0 0), (pm_u2 fr 13 12 (some 1)))) rfl ?_
    refine gp_of (fun _ k9 => g_getR (q' := 1) rfl rfl (by decide) rfl k9) ?_
    refine gp_of (fun _ k9 => g_getI (x := nI N) rfl (Or.inl rfl) rfl (by decide) (c1f) k9) ?_
    refine gp_of (fun _ k9 => g_cpyN (n0 := 64) (n1 := 1016) rfl rfl rfl (by omega) (by omega) (by decide) (by decide) k9) ?_
    refine gp_n 4 (j' := 41) (lv' := [some (.ref 13), some (.ref 1), some (.ref 2), some (.int (nI most)), some (.int 1), some (.int F), some (.int (nI 0)), some (.int (nI 0))]) (st' := []) (h' := (shT, (pm_uf f2 27 (va_cpy (f2 2) (f2 27) 0 ix N)), (pm_u2 fl 19 0 0), (pm_u2 fr 13 12 (some 1)))) rfl ?_
    exact gp_done g rfl
  exact ⟨h5, ev, x5, iv1 _ ev⟩
theorem cu_ev {h : PmH} {m most : Nat} {K : Int64} {F : Int32} {S : Nat → Int32} (hI : HI hdT shT h) (hr : RD h) (hm : m ≤ 6) (hmo1 : 1 ≤ most) (hmo : most ≤ 8) (hF : ∀ c, c < 64 → ¬ nI c = F) (hH : ∀ s, s < 2 ^ m → ph_i h 2 s = S s) (hS : ∀ s, s < 64 → -127 ≤ (S s).toInt ∧ (S s).toInt ≤ 127) (c0 : ph_i h 1 0 = nI m) (c1 : ph_i h 1 1 = nI (2 ^ m)) (c7 : ph_l h 1 7 = K) : ∃ h', Ev pmT 82 [.ref 13, .ref 1, .ref 2, .int (nI most), .int 1, .int F] h none h' ∧ coI K m S most h' ∧ HI hdT shT h' ∧ fram (in_w iN_113) h h' := by
  obtain ⟨A, rfl | rfl, a1, a2⟩ := hr
  · exact cu_ev_2_14 hI a1 a2 hm hmo1 hmo hF hH hS c0 c1 c7
  · exact cu_ev_2_18 hI a1 a2 hm hmo1 hmo hF hH hS c0 c1 c7
