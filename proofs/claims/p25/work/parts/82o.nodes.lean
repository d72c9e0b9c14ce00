theorem rl_ev_14 {h : PmH} {m c l : Nat} {S : Nat → Int32} {x : RSt} (hI : HI hdT shT h) (hx : rdI 14 x h) (hw : rwI 14 m S x c (l + 1) h) (hP : x.1 ≤ 8) (hm : m ≤ 6) (hl : l < m) (hb : c.testBit l = false) : ∃ h', Ev pmT 94 [.ref 13, .int (nI l)] h none h' ∧ rdI 14 x h' ∧ rwI 14 m S x c l h' ∧ ph_i h' 13 4 = ph_i h 13 4 + nI (x.1 * 2 ^ l) ∧ HI hdT shT h' ∧ fram (in_w iN_88) h h' := by
  have kB : ph_r h 14 1 = some 15 := hi_r hI rfl rfl (by decide)
  have k3 : ph_r h 14 3 = some 17 := hi_r hI rfl rfl (by decide)
  have kS : ph_r h 13 9 = some 27 := hi_r hI rfl rfl (by decide)
  have e3 : 2 ^ (l + 1) = 2 * 2 ^ l := by rw [Nat.pow_succ]; omega
  obtain ⟨k0, kn, cP, hM⟩ := id hx
  have iv1 := fun h' e => iv_s (v := none) (h' := h') (as := [.ref 13, .int (nI l)]) vN_88 rfl (fun _ _ => gz_c (gz_r (by decide)) (gz_c (gz_i (by rw [nI_toInt (by omega)]; omega) (by rw [nI_toInt (by omega)]; omega)) gz_n)) hI e
  obtain ⟨S, fi, fl, fr⟩ := h
  have hS : S = shT := hI.1
  subst hS
  have k0 : fr 13 0 = some 14 := k0
  have kS : fr 13 9 = some 27 := kS
  have cP : fi 14 0 = nI x.1 := cP
  obtain ⟨f2, b1, b2, b3⟩ := rl_go_14 (l := l) (P := x.1) (fl := fl) (fr := fr) (X := fun p t => ndL m S (bl (x.2.1 p)) c (l + 1) t) (by omega) hP k0 k3 kS x.1 0 fi (by omega) cP (fun p _ hp => by
    obtain ⟨r, r1, r2, r3⟩ := hw (l + 1) (Nat.le_refl _) (by omega) p hp
    exact ⟨r, r1, r2, fun t ht => r3 t (by omega)⟩)
  have up : ixS l 0 ≤ ixS (l + 1) 0 := ixS_up l
  have ev : Ev pmT 94 [.ref 13, .int (nI l)] (shT, fi, fl, fr) none (shT, pm_u2 f2 13 4 (fi 13 4 + nI (x.1 * 2 ^ l)), fl, fr) := by
    have g := b3 (none, (shT, pm_u2 f2 13 4 (fi 13 4 + nI (x.1 * 2 ^ l)), fl, fr))
    have cP2 : f2 14 0 = nI x.1 := (b2 _ _ (by omega) (by omega)).trans cP
    have cW : f2 13 4 = fi 13 4 := b2 _ _ (by omega) (by omega)
    have sh := shI l (by omega)
    rw [← nI_mul] at g ⊢
    refine Ev.of (es := cd_94) (ml := 7) (lv := [some (.ref 13), some (.int (nI l)), none, none, none, none, none]) rfl rfl rfl ?_
    clear b3 b1 b2 iv1 hw hM hx
    generalize nI x.1 = P at *
    rw [← sh] at g ⊢
    have g := g (fun l4 l5 l6 => by
      refine go_of ?_
      refine gp_n 2 (j' := 64) (lv' := [some (.ref 13), some (.int (nI l)), some (.int ((1 : Int32) <<< (nI l &&& 31))), some (.int P), l4, l5, l6]) (st' := [.ref 13, .ref 13]) (h' := (shT, f2, fl, fr)) rfl ?_
      refine gp_of (fun _ k9 => g_getI (x := fi 13 4) rfl (Or.inl rfl) rfl (by decide) (cW) k9) ?_
      refine gp_n 1 (j' := 66) (lv' := [some (.ref 13), some (.int (nI l)), some (.int ((1 : Int32) <<< (nI l &&& 31))), some (.int P), l4, l5, l6]) (st' := [.ref 13, .int (fi 13 4), .ref 13]) (h' := (shT, f2, fl, fr)) rfl ?_
      refine gp_of (fun _ k9 => g_getR (q' := 14) rfl rfl (by decide) k0 k9) ?_
      refine gp_of (fun _ k9 => g_getI (x := P) rfl (Or.inl rfl) rfl (by decide) (cP2) k9) ?_
      refine gp_n 3 (j' := 71) (lv' := [some (.ref 13), some (.int (nI l)), some (.int ((1 : Int32) <<< (nI l &&& 31))), some (.int P), l4, l5, l6]) (st' := [.int ((fi 13 4) + (P * ((1 : Int32) <<< (nI l &&& 31)))), .ref 13]) (h' := (shT, f2, fl, fr)) rfl ?_
      refine gp_of (fun _ k9 => g_putI rfl (Or.inl rfl) rfl (by decide) k9) ?_
      refine gp_done (g_vret rfl) ?_
      rfl) none none none
    refine go_of ?_
    refine gp_n 6 (j' := 6) (lv' := [some (.ref 13), some (.int (nI l)), some (.int ((1 : Int32) <<< ((nI l) &&& 31))), some (.int (nI 0)), none, none, none]) (st' := []) (h' := (shT, fi, fl, fr)) rfl ?_
    exact gp_done g rfl
  obtain ⟨I2, F2⟩ := iv1 _ ev
  have w : ∀ q s, ¬ q = 13 → pm_u2 f2 13 4 (fi 13 4 + nI (x.1 * 2 ^ l)) q s = f2 q s := fun q s z => wl_ne (by omega)
  refine ⟨_, ev, ⟨k0, kn, ((w _ _ (by decide)).trans (b2 _ _ (by omega) (by omega))).trans cP, fun p hp => ⟨(hM p hp).1, ((w _ _ (by decide)).trans (b2 _ _ (by omega) (by omega))).trans (hM p hp).2⟩⟩, ?_, u2_i, I2, F2⟩
  intro l' h1 h2 p hp
  by_cases e : l' = l
  · subst e
    refine ⟨p, by omega, (w _ _ (by decide)).trans (b1 p (Nat.zero_le p) hp).1, fun j hj => ?_⟩
    refine ((w _ _ (by decide)).trans ((b1 p (Nat.zero_le p) hp).2 j hj)).trans ?_
    rw [ndL_s (l := l') (by omega), hb, if_neg (by decide)]
  · obtain ⟨r, r1, r2, r3⟩ := hw l' (by omega) h2 p hp
    have t1 := ixS_lm (l := l + 1) (k := l') (l' - (l + 1)) (by omega)
    have t2 := ixS_mono (l := l') (Nat.zero_le r)
    exact ⟨r, r1, ((w _ _ (by decide)).trans (b2 _ _ (by omega) (by omega))).trans r2, fun j hj => ((w _ _ (by decide)).trans (b2 _ _ (by omega) (by omega))).trans (r3 j hj)⟩
theorem rr_ev_14 {h : PmH} {m c l : Nat} {S : Nat → Int32} {x : RSt} (hI : HI hdT shT h) (hx : rdI 14 x h) (hw : rwI 14 m S x c (l + 1) h) (hP : x.1 ≤ 8) (hm : m ≤ 6) (hl : l < m) (hb : c.testBit l = true) (hd : c / 2 ^ l * 2 ^ l = c) (hc : c < 64) : ∃ h', Ev pmT 87 [.ref 13, .int (nI l), .int (nI c)] h none h' ∧ rdI 14 x h' ∧ rwI 14 m S x c l h' ∧ ph_i h' 13 5 = ph_i h 13 5 + nI (x.1 * 2 ^ l) ∧ HI hdT shT h' ∧ fram (in_w iN_72) h h' := by
  have kB : ph_r h 14 1 = some 15 := hi_r hI rfl rfl (by decide)
  have k3 : ph_r h 14 3 = some 17 := hi_r hI rfl rfl (by decide)
  have kS : ph_r h 13 9 = some 27 := hi_r hI rfl rfl (by decide)
  have e3 : 2 ^ (l + 1) = 2 * 2 ^ l := by rw [Nat.pow_succ]; omega
  obtain ⟨k0, kn, cP, hM⟩ := id hx
  have bs := base_l hb
  rw [hd] at bs
  have iv1 := fun h' e => iv_s (v := none) (h' := h') (as := [.ref 13, .int (nI l), .int (nI c)]) vN_72 rfl (fun _ _ => gz_c (gz_r (by decide)) (gz_c (gz_i (by rw [nI_toInt (by omega)]; omega) (by rw [nI_toInt (by omega)]; omega)) (gz_c (gz_i (by rw [nI_toInt (by omega)]; have := Nat.two_pow_pos l; omega) (by rw [nI_toInt (by omega)]; omega)) gz_n))) hI e
  obtain ⟨S, fi, fl, fr⟩ := h
  have hS : S = shT := hI.1
  subst hS
  have k0 : fr 13 0 = some 14 := k0
  have kS : fr 13 9 = some 27 := kS
  have cP : fi 14 0 = nI x.1 := cP
  obtain ⟨f2, b1, b2, b3⟩ := rr_go_14 (l := l) (P := x.1) (c := c) (B := x.2.1) (fl := fl) (fr := fr) (X := fun p t => ndL m S (bl (x.2.1 p)) c (l + 1) t) (by omega) hP k0 k3 kS (by omega) hc kB (fun p hp => (hM p hp).1) x.1 0 fi (by omega) cP (fun p _ hp => by
    obtain ⟨r, r1, r2, r3⟩ := hw (l + 1) (Nat.le_refl _) (by omega) p hp
    exact ⟨r, r1, r2, fun t ht => r3 t (by omega)⟩)
  have up : ixS l 0 ≤ ixS (l + 1) 0 := ixS_up l
  have ev : Ev pmT 87 [.ref 13, .int (nI l), .int (nI c)] (shT, fi, fl, fr) none (shT, pm_u2 f2 13 5 (fi 13 5 + nI (x.1 * 2 ^ l)), fl, fr) := by
    have g := b3 (none, (shT, pm_u2 f2 13 5 (fi 13 5 + nI (x.1 * 2 ^ l)), fl, fr))
    have cP2 : f2 14 0 = nI x.1 := (b2 _ _ (by omega) (by omega)).trans cP
    have cW : f2 13 5 = fi 13 5 := b2 _ _ (by omega) (by omega)
    have sh := shI l (by omega)
    rw [← nI_mul] at g ⊢
    refine Ev.of (es := cd_87) (ml := 10) (lv := [some (.ref 13), some (.int (nI l)), some (.int (nI c)), none, none, none, none, none, none, none]) rfl rfl rfl ?_
    clear b3 b1 b2 iv1 hw hM hx
    generalize nI x.1 = P at *
    rw [← sh] at g ⊢
    have g := g (fun l5 l6 l7 l8 l9 => by
      refine go_of ?_
      refine gp_n 2 (j' := 84) (lv' := [some (.ref 13), some (.int (nI l)), some (.int (nI c)), some (.int ((1 : Int32) <<< (nI l &&& 31))), some (.int P), l5, l6, l7, l8, l9]) (st' := [.ref 13, .ref 13]) (h' := (shT, f2, fl, fr)) rfl ?_
      refine gp_of (fun _ k9 => g_getI (x := fi 13 5) rfl (Or.inl rfl) rfl (by decide) (cW) k9) ?_
      refine gp_n 1 (j' := 86) (lv' := [some (.ref 13), some (.int (nI l)), some (.int (nI c)), some (.int ((1 : Int32) <<< (nI l &&& 31))), some (.int P), l5, l6, l7, l8, l9]) (st' := [.ref 13, .int (fi 13 5), .ref 13]) (h' := (shT, f2, fl, fr)) rfl ?_
      refine gp_of (fun _ k9 => g_getR (q' := 14) rfl rfl (by decide) k0 k9) ?_
      refine gp_of (fun _ k9 => g_getI (x := P) rfl (Or.inl rfl) rfl (by decide) (cP2) k9) ?_
      refine gp_n 3 (j' := 91) (lv' := [some (.ref 13), some (.int (nI l)), some (.int (nI c)), some (.int ((1 : Int32) <<< (nI l &&& 31))), some (.int P), l5, l6, l7, l8, l9]) (st' := [.int ((fi 13 5) + (P * ((1 : Int32) <<< (nI l &&& 31)))), .ref 13]) (h' := (shT, f2, fl, fr)) rfl ?_
      refine gp_of (fun _ k9 => g_putI rfl (Or.inl rfl) rfl (by decide) k9) ?_
      refine gp_done (g_vret rfl) ?_
      rfl) none none none none none
    refine go_of ?_
    refine gp_n 6 (j' := 6) (lv' := [some (.ref 13), some (.int (nI l)), some (.int (nI c)), some (.int ((1 : Int32) <<< ((nI l) &&& 31))), some (.int (nI 0)), none, none, none, none, none]) (st' := []) (h' := (shT, fi, fl, fr)) rfl ?_
    exact gp_done g rfl
  obtain ⟨I2, F2⟩ := iv1 _ ev
  have w : ∀ q s, ¬ q = 13 → pm_u2 f2 13 5 (fi 13 5 + nI (x.1 * 2 ^ l)) q s = f2 q s := fun q s z => wl_ne (by omega)
  refine ⟨_, ev, ⟨k0, kn, ((w _ _ (by decide)).trans (b2 _ _ (by omega) (by omega))).trans cP, fun p hp => ⟨(hM p hp).1, ((w _ _ (by decide)).trans (b2 _ _ (by omega) (by omega))).trans (hM p hp).2⟩⟩, ?_, u2_i, I2, F2⟩
  intro l' h1 h2 p hp
  by_cases e : l' = l
  · subst e
    refine ⟨p, by omega, (w _ _ (by decide)).trans (b1 p (Nat.zero_le p) hp).1, fun j hj => ?_⟩
    refine ((w _ _ (by decide)).trans ((b1 p (Nat.zero_le p) hp).2 j hj)).trans ?_
    rw [ndL_s (l := l') (by omega), hb, if_pos rfl, show c / 2 ^ (l' + 1) * 2 ^ (l' + 1) = c - 2 ^ l' by omega]
  · obtain ⟨r, r1, r2, r3⟩ := hw l' (by omega) h2 p hp
    have t1 := ixS_lm (l := l + 1) (k := l') (l' - (l + 1)) (by omega)
    have t2 := ixS_mono (l := l') (Nat.zero_le r)
    exact ⟨r, r1, ((w _ _ (by decide)).trans (b2 _ _ (by omega) (by omega))).trans r2, fun j hj => ((w _ _ (by decide)).trans (b2 _ _ (by omega) (by omega))).trans (r3 j hj)⟩
theorem rl_ev_18 {h : PmH} {m c l : Nat} {S : Nat → Int32} {x : RSt} (hI : HI hdT shT h) (hx : rdI 18 x h) (hw : rwI 18 m S x c (l + 1) h) (hP : x.1 ≤ 8) (hm : m ≤ 6) (hl : l < m) (hb : c.testBit l = false) : ∃ h', Ev pmT 94 [.ref 13, .int (nI l)] h none h' ∧ rdI 18 x h' ∧ rwI 18 m S x c l h' ∧ ph_i h' 13 4 = ph_i h 13 4 + nI (x.1 * 2 ^ l) ∧ HI hdT shT h' ∧ fram (in_w iN_88) h h' := by
  have kB : ph_r h 18 1 = some 19 := hi_r hI rfl rfl (by decide)
  have k3 : ph_r h 18 3 = some 21 := hi_r hI rfl rfl (by decide)
  have kS : ph_r h 13 9 = some 27 := hi_r hI rfl rfl (by decide)
  have e3 : 2 ^ (l + 1) = 2 * 2 ^ l := by rw [Nat.pow_succ]; omega
  obtain ⟨k0, kn, cP, hM⟩ := id hx
  have iv1 := fun h' e => iv_s (v := none) (h' := h') (as := [.ref 13, .int (nI l)]) vN_88 rfl (fun _ _ => gz_c (gz_r (by decide)) (gz_c (gz_i (by rw [nI_toInt (by omega)]; omega) (by rw [nI_toInt (by omega)]; omega)) gz_n)) hI e
  obtain ⟨S, fi, fl, fr⟩ := h
  have hS : S = shT := hI.1
  subst hS
  have k0 : fr 13 0 = some 18 := k0
  have kS : fr 13 9 = some 27 := kS
  have cP : fi 18 0 = nI x.1 := cP
  obtain ⟨f2, b1, b2, b3⟩ := rl_go_18 (l := l) (P := x.1) (fl := fl) (fr := fr) (X := fun p t => ndL m S (bl (x.2.1 p)) c (l + 1) t) (by omega) hP k0 k3 kS x.1 0 fi (by omega) cP (fun p _ hp => by
    obtain ⟨r, r1, r2, r3⟩ := hw (l + 1) (Nat.le_refl _) (by omega) p hp
    exact ⟨r, r1, r2, fun t ht => r3 t (by omega)⟩)
  have up : ixS l 0 ≤ ixS (l + 1) 0 := ixS_up l
  have ev : Ev pmT 94 [.ref 13, .int (nI l)] (shT, fi, fl, fr) none (shT, pm_u2 f2 13 4 (fi 13 4 + nI (x.1 * 2 ^ l)), fl, fr) := by
    have g := b3 (none, (shT, pm_u2 f2 13 4 (fi 13 4 + nI (x.1 * 2 ^ l)), fl, fr))
    have cP2 : f2 18 0 = nI x.1 := (b2 _ _ (by omega) (by omega)).trans cP
    have cW : f2 13 4 = fi 13 4 := b2 _ _ (by omega) (by omega)
    have sh := shI l (by omega)
    rw [← nI_mul] at g ⊢
    refine Ev.of (es := cd_94) (ml := 7) (lv := [some (.ref 13), some (.int (nI l)), none, none, none, none, none]) rfl rfl rfl ?_
    clear b3 b1 b2 iv1 hw hM hx
    generalize nI x.1 = P at *
    rw [← sh] at g ⊢
    have g := g (fun l4 l5 l6 => by
      refine go_of ?_
      refine gp_n 2 (j' := 64) (lv' := [some (.ref 13), some (.int (nI l)), some (.int ((1 : Int32) <<< (nI l &&& 31))), some (.int P), l4, l5, l6]) (st' := [.ref 13, .ref 13]) (h' := (shT, f2, fl, fr)) rfl ?_
      refine gp_of (fun _ k9 => g_getI (x := fi 13 4) rfl (Or.inl rfl) rfl (by decide) (cW) k9) ?_
      refine gp_n 1 (j' := 66) (lv' := [some (.ref 13), some (.int (nI l)), some (.int ((1 : Int32) <<< (nI l &&& 31))), some (.int P), l4, l5, l6]) (st' := [.ref 13, .int (fi 13 4), .ref 13]) (h' := (shT, f2, fl, fr)) rfl ?_
      refine gp_of (fun _ k9 => g_getR (q' := 18) rfl rfl (by decide) k0 k9) ?_
      refine gp_of (fun _ k9 => g_getI (x := P) rfl (Or.inl rfl) rfl (by decide) (cP2) k9) ?_
      refine gp_n 3 (j' := 71) (lv' := [some (.ref 13), some (.int (nI l)), some (.int ((1 : Int32) <<< (nI l &&& 31))), some (.int P), l4, l5, l6]) (st' := [.int ((fi 13 4) + (P * ((1 : Int32) <<< (nI l &&& 31)))), .ref 13]) (h' := (shT, f2, fl, fr)) rfl ?_
      refine gp_of (fun _ k9 => g_putI rfl (Or.inl rfl) rfl (by decide) k9) ?_
      refine gp_done (g_vret rfl) ?_
      rfl) none none none
    refine go_of ?_
    refine gp_n 6 (j' := 6) (lv' := [some (.ref 13), some (.int (nI l)), some (.int ((1 : Int32) <<< ((nI l) &&& 31))), some (.int (nI 0)), none, none, none]) (st' := []) (h' := (shT, fi, fl, fr)) rfl ?_
    exact gp_done g rfl
  obtain ⟨I2, F2⟩ := iv1 _ ev
  have w : ∀ q s, ¬ q = 13 → pm_u2 f2 13 4 (fi 13 4 + nI (x.1 * 2 ^ l)) q s = f2 q s := fun q s z => wl_ne (by omega)
  refine ⟨_, ev, ⟨k0, kn, ((w _ _ (by decide)).trans (b2 _ _ (by omega) (by omega))).trans cP, fun p hp => ⟨(hM p hp).1, ((w _ _ (by decide)).trans (b2 _ _ (by omega) (by omega))).trans (hM p hp).2⟩⟩, ?_, u2_i, I2, F2⟩
  intro l' h1 h2 p hp
  by_cases e : l' = l
  · subst e
    refine ⟨p, by omega, (w _ _ (by decide)).trans (b1 p (Nat.zero_le p) hp).1, fun j hj => ?_⟩
    refine ((w _ _ (by decide)).trans ((b1 p (Nat.zero_le p) hp).2 j hj)).trans ?_
    rw [ndL_s (l := l') (by omega), hb, if_neg (by decide)]
  · obtain ⟨r, r1, r2, r3⟩ := hw l' (by omega) h2 p hp
    have t1 := ixS_lm (l := l + 1) (k := l') (l' - (l + 1)) (by omega)
    have t2 := ixS_mono (l := l') (Nat.zero_le r)
    exact ⟨r, r1, ((w _ _ (by decide)).trans (b2 _ _ (by omega) (by omega))).trans r2, fun j hj => ((w _ _ (by decide)).trans (b2 _ _ (by omega) (by omega))).trans (r3 j hj)⟩
theorem rr_ev_18 {h : PmH} {m c l : Nat} {S : Nat → Int32} {x : RSt} (hI : HI hdT shT h) (hx : rdI 18 x h) (hw : rwI 18 m S x c (l + 1) h) (hP : x.1 ≤ 8) (hm : m ≤ 6) (hl : l < m) (hb : c.testBit l = true) (hd : c / 2 ^ l * 2 ^ l = c) (hc : c < 64) : ∃ h', Ev pmT 87 [.ref 13, .int (nI l), .int (nI c)] h none h' ∧ rdI 18 x h' ∧ rwI 18 m S x c l h' ∧ ph_i h' 13 5 = ph_i h 13 5 + nI (x.1 * 2 ^ l) ∧ HI hdT shT h' ∧ fram (in_w iN_72) h h' := by
  have kB : ph_r h 18 1 = some 19 := hi_r hI rfl rfl (by decide)
  have k3 : ph_r h 18 3 = some 21 := hi_r hI rfl rfl (by decide)
  have kS : ph_r h 13 9 = some 27 := hi_r hI rfl rfl (by decide)
  have e3 : 2 ^ (l + 1) = 2 * 2 ^ l := by rw [Nat.pow_succ]; omega
  obtain ⟨k0, kn, cP, hM⟩ := id hx
  have bs := base_l hb
  rw [hd] at bs
  have iv1 := fun h' e => iv_s (v := none) (h' := h') (as := [.ref 13, .int (nI l), .int (nI c)]) vN_72 rfl (fun _ _ => gz_c (gz_r (by decide)) (gz_c (gz_i (by rw [nI_toInt (by omega)]; omega) (by rw [nI_toInt (by omega)]; omega)) (gz_c (gz_i (by rw [nI_toInt (by omega)]; have := Nat.two_pow_pos l; omega) (by rw [nI_toInt (by omega)]; omega)) gz_n))) hI e
  obtain ⟨S, fi, fl, fr⟩ := h
  have hS : S = shT := hI.1
  subst hS
  have k0 : fr 13 0 = some 18 := k0
  have kS : fr 13 9 = some 27 := kS
  have cP : fi 18 0 = nI x.1 := cP
  obtain ⟨f2, b1, b2, b3⟩ := rr_go_18 (l := l) (P := x.1) (c := c) (B := x.2.1) (fl := fl) (fr := fr) (X := fun p t => ndL m S (bl (x.2.1 p)) c (l + 1) t) (by omega) hP k0 k3 kS (by omega) hc kB (fun p hp => (hM p hp).1) x.1 0 fi (by omega) cP (fun p _ hp => by
    obtain ⟨r, r1, r2, r3⟩ := hw (l + 1) (Nat.le_refl _) (by omega) p hp
    exact ⟨r, r1, r2, fun t ht => r3 t (by omega)⟩)
  have up : ixS l 0 ≤ ixS (l + 1) 0 := ixS_up l
  have ev : Ev pmT 87 [.ref 13, .int (nI l), .int (nI c)] (shT, fi, fl, fr) none (shT, pm_u2 f2 13 5 (fi 13 5 + nI (x.1 * 2 ^ l)), fl, fr) := by
    have g := b3 (none, (shT, pm_u2 f2 13 5 (fi 13 5 + nI (x.1 * 2 ^ l)), fl, fr))
    have cP2 : f2 18 0 = nI x.1 := (b2 _ _ (by omega) (by omega)).trans cP
    have cW : f2 13 5 = fi 13 5 := b2 _ _ (by omega) (by omega)
    have sh := shI l (by omega)
    rw [← nI_mul] at g ⊢
    refine Ev.of (es := cd_87) (ml := 10) (lv := [some (.ref 13), some (.int (nI l)), some (.int (nI c)), none, none, none, none, none, none, none]) rfl rfl rfl ?_
    clear b3 b1 b2 iv1 hw hM hx
    generalize nI x.1 = P at *
    rw [← sh] at g ⊢
    have g := g (fun l5 l6 l7 l8 l9 => by
      refine go_of ?_
      refine gp_n 2 (j' := 84) (lv' := [some (.ref 13), some (.int (nI l)), some (.int (nI c)), some (.int ((1 : Int32) <<< (nI l &&& 31))), some (.int P), l5, l6, l7, l8, l9]) (st' := [.ref 13, .ref 13]) (h' := (shT, f2, fl, fr)) rfl ?_
      refine gp_of (fun _ k9 => g_getI (x := fi 13 5) rfl (Or.inl rfl) rfl (by decide) (cW) k9) ?_
      refine gp_n 1 (j' := 86) (lv' := [some (.ref 13), some (.int (nI l)), some (.int (nI c)), some (.int ((1 : Int32) <<< (nI l &&& 31))), some (.int P), l5, l6, l7, l8, l9]) (st' := [.ref 13, .int (fi 13 5), .ref 13]) (h' := (shT, f2, fl, fr)) rfl ?_
      refine gp_of (fun _ k9 => g_getR (q' := 18) rfl rfl (by decide) k0 k9) ?_
      refine gp_of (fun _ k9 => g_getI (x := P) rfl (Or.inl rfl) rfl (by decide) (cP2) k9) ?_
      refine gp_n 3 (j' := 91) (lv' := [some (.ref 13), some (.int (nI l)), some (.int (nI c)), some (.int ((1 : Int32) <<< (nI l &&& 31))), some (.int P), l5, l6, l7, l8, l9]) (st' := [.int ((fi 13 5) + (P * ((1 : Int32) <<< (nI l &&& 31)))), .ref 13]) (h' := (shT, f2, fl, fr)) rfl ?_
      refine gp_of (fun _ k9 => g_putI rfl (Or.inl rfl) rfl (by decide) k9) ?_
      refine gp_done (g_vret rfl) ?_
      rfl) none none none none none
    refine go_of ?_
    refine gp_n 6 (j' := 6) (lv' := [some (.ref 13), some (.int (nI l)), some (.int (nI c)), some (.int ((1 : Int32) <<< ((nI l) &&& 31))), some (.int (nI 0)), none, none, none, none, none]) (st' := []) (h' := (shT, fi, fl, fr)) rfl ?_
    exact gp_done g rfl
  obtain ⟨I2, F2⟩ := iv1 _ ev
  have w : ∀ q s, ¬ q = 13 → pm_u2 f2 13 5 (fi 13 5 + nI (x.1 * 2 ^ l)) q s = f2 q s := fun q s z => wl_ne (by omega)
  refine ⟨_, ev, ⟨k0, kn, ((w _ _ (by decide)).trans (b2 _ _ (by omega) (by omega))).trans cP, fun p hp => ⟨(hM p hp).1, ((w _ _ (by decide)).trans (b2 _ _ (by omega) (by omega))).trans (hM p hp).2⟩⟩, ?_, u2_i, I2, F2⟩
  intro l' h1 h2 p hp
  by_cases e : l' = l
  · subst e
    refine ⟨p, by omega, (w _ _ (by decide)).trans (b1 p (Nat.zero_le p) hp).1, fun j hj => ?_⟩
    refine ((w _ _ (by decide)).trans ((b1 p (Nat.zero_le p) hp).2 j hj)).trans ?_
    rw [ndL_s (l := l') (by omega), hb, if_pos rfl, show c / 2 ^ (l' + 1) * 2 ^ (l' + 1) = c - 2 ^ l' by omega]
  · obtain ⟨r, r1, r2, r3⟩ := hw l' (by omega) h2 p hp
    have t1 := ixS_lm (l := l + 1) (k := l') (l' - (l + 1)) (by omega)
    have t2 := ixS_mono (l := l') (Nat.zero_le r)
    exact ⟨r, r1, ((w _ _ (by decide)).trans (b2 _ _ (by omega) (by omega))).trans r2, fun j hj => ((w _ _ (by decide)).trans (b2 _ _ (by omega) (by omega))).trans (r3 j hj)⟩
theorem rl_evE {h : PmH} {m c l : Nat} {S : Nat → Int32} {x : RSt} (hI : HI hdT shT h) (hx : RDs m S x c (l + 1) h) (hP : x.1 ≤ 8) (hm : m ≤ 6) (hl : l < m) (hb : c.testBit l = false) : ∃ h', Ev pmT 94 [.ref 13, .int (nI l)] h none h' ∧ RDs m S x c l h' ∧ ph_i h' 13 4 = ph_i h 13 4 + nI (x.1 * 2 ^ l) ∧ HI hdT shT h' ∧ fram (in_w iN_88) h h' := by
  obtain ⟨A, rfl | rfl, h1, h2⟩ := hx
  · obtain ⟨h', a1, a2, a3, a4⟩ := rl_ev_14 hI h1 h2 hP hm hl hb
    exact ⟨h', a1, ⟨14, Or.inl rfl, a2, a3⟩, a4⟩
  · obtain ⟨h', a1, a2, a3, a4⟩ := rl_ev_18 hI h1 h2 hP hm hl hb
    exact ⟨h', a1, ⟨18, Or.inr rfl, a2, a3⟩, a4⟩
theorem rr_evE {h : PmH} {m c l : Nat} {S : Nat → Int32} {x : RSt} (hI : HI hdT shT h) (hx : RDs m S x c (l + 1) h) (hP : x.1 ≤ 8) (hm : m ≤ 6) (hl : l < m) (hb : c.testBit l = true) (hd : c / 2 ^ l * 2 ^ l = c) (hc : c < 64) : ∃ h', Ev pmT 87 [.ref 13, .int (nI l), .int (nI c)] h none h' ∧ RDs m S x c l h' ∧ ph_i h' 13 5 = ph_i h 13 5 + nI (x.1 * 2 ^ l) ∧ HI hdT shT h' ∧ fram (in_w iN_72) h h' := by
  obtain ⟨A, rfl | rfl, h1, h2⟩ := hx
  · obtain ⟨h', a1, a2, a3, a4⟩ := rr_ev_14 hI h1 h2 hP hm hl hb hd hc
    exact ⟨h', a1, ⟨14, Or.inl rfl, a2, a3⟩, a4⟩
  · obtain ⟨h', a1, a2, a3, a4⟩ := rr_ev_18 hI h1 h2 hP hm hl hb hd hc
    exact ⟨h', a1, ⟨18, Or.inr rfl, a2, a3⟩, a4⟩
/-- what stays while a reading goes on -/
def cnI (K : Int64) (m most : Nat) (F : Int32) (h : PmH) : Prop := ph_r h 13 12 = some 1 ∧ ph_i h 13 13 = nI most ∧ ph_i h 13 14 = 0 ∧ ph_i h 13 15 = F ∧ ph_l h 1 7 = K ∧ ph_i h 1 0 = nI m ∧ ph_i h 1 1 = nI (2 ^ m)
def cnW (W : WSt) : Bool := W.all (fun q => decide (q.1 ≠ 1) && (decide (q.1 ≠ 13) || (decide (q.2 < 12))))
theorem cnI_fr {K : Int64} {m most : Nat} {F : Int32} {W : WSt} {h h' : PmH} (hw : cnW W = true) (hf : fram W h h') (hc : cnI K m most F h) : cnI K m most F h' := by
  have i1 : ∀ s, inW W 1 s = false := fun s => inW_all hw (fun c hc => by simp only [Bool.and_eq_false_iff, decide_eq_false_iff_not]; exact Or.inl (by omega))
  have i2 : ∀ s, 12 ≤ s → s < 9999 → inW W 13 s = false := fun s hs hs2 => inW_all hw (fun c hc => by simp only [Bool.and_eq_false_iff, Bool.or_eq_false_iff, decide_eq_false_iff_not]; exact Or.inr ⟨by omega, by omega⟩)
  obtain ⟨a1, a2, a3, a4, a5, a6, a7⟩ := hc
  exact ⟨(hf 13 12 (i2 12 (by decide) (by decide))).2.2.trans a1, (hf 13 13 (i2 13 (by decide) (by decide))).1.trans a2, (hf 13 14 (i2 14 (by decide) (by decide))).1.trans a3, (hf 13 15 (i2 15 (by decide) (by decide))).1.trans a4, (hf 1 7 (i1 7)).2.1.trans a5, (hf 1 0 (i1 0)).1.trans a6, (hf 1 1 (i1 1)).1.trans a7⟩
def tzN (c : Nat) : Nat := if c.testBit 0 = true then 0 else if c.testBit 1 = true then 1 else if c.testBit 2 = true then 2 else if c.testBit 3 = true then 3 else if c.testBit 4 = true then 4 else 5
theorem tz_1 : ∀ c, c < 64 → 1 ≤ c → tzN c < 6 ∧ nzf (nI c) = nI (tzN c) ∧ c.testBit (tzN c) = true ∧ (∀ i, i < tzN c → c.testBit i = false) ∧ c / 2 ^ tzN c * 2 ^ tzN c = c ∧ 2 ^ tzN c ≤ c := by decide +kernel
theorem tz_2 : ∀ c, c < 64 → 1 ≤ c → ∀ l, l < 7 → tzN c < l → (c - 1) / 2 ^ l = c / 2 ^ l := by decide +kernel
/-- what one channel does to the traces -/
def trF (c : Nat) (h h' : PmH) : Prop := (∀ s, ¬ (8 * c ≤ s ∧ s < 8 * c + 8) → ph_i h' 24 s = ph_i h 24 s ∧ ph_i h' 25 s = ph_i h 25 s) ∧ (∀ s, ¬ s = c → ph_i h' 23 s = ph_i h 23 s ∧ ph_i h' 26 s = ph_i h 26 s)
theorem rn_go {m c most : Nat} {K : Int64} {F : Int32} {S : Nat → Int32} {x : RSt} (hP1 : 1 ≤ x.1) (hP : x.1 ≤ 8) (hF : ¬ nI c = F) (hmo : most ≤ 8) (hm : m ≤ 6) (hc : c < 64) (hS : ∀ s, s < 64 → -127 ≤ (S s).toInt ∧ (S s).toInt ≤ 127) : ∀ (l : Nat) (h : PmH), l ≤ m → HI hdT shT h → RDs m S x c l h → (∀ i, i < l → c.testBit i = false) → cnI K m most F h → ∃ h', Go pmT none cd_85 13 [some (.ref 13), some (.int (nI c)), some (.int (nI l))] [] h (some (.int 1), h') ∧ RDs m S (rdS (bl K c) m S most c x) c 0 h' ∧ chI K m S most x c h' ∧ trF c h h' ∧ ph_i h' 13 6 = ph_i h 13 6 + 1 ∧ ph_i h' 13 4 = ph_i h 13 4 + nI (x.1 * (2 ^ l - 1)) ∧ ph_i h' 13 5 = ph_i h 13 5 ∧ HI hdT shT h' ∧ fram (in_w iN_107) h h' := by
  intro l
  induction l with
  | zero =>
    intro h hl hI hx hb hn
    obtain ⟨h', e1, q1, q2, q3, q4, q5, I1, F1⟩ := de_ev hI hx hP1 hP hn.1 hn.2.1 hn.2.2.2.1 hF hn.2.2.2.2.1 hmo hm hc hS
    refine ⟨h', ?_, q1, q2, ⟨q3, q4⟩, q5, ?_, (F1 13 5 (by decide)).1, I1, fram.up (by decide) F1⟩
    · have c14 := hn.2.2.1
      clear q1 q2 q3 q4 q5 F1
      obtain ⟨S2, fi2, fl2, fr2⟩ := h'
      have s2 : S2 = shT := I1.1
      subst s2
      obtain ⟨S, fi, fl, fr⟩ := h
      have hS : S = shT := hI.1
      subst hS
      have c14 : fi 13 14 = 0 := c14
      refine go_of ?_
      refine gp_n 1 (j' := 14) (lv' := [some (.ref 13), some (.int (nI c)), some (.int (nI 0))]) (st' := [.int (nI 0)]) (h' := (shT, fi, fl, fr)) rfl ?_
      refine gp_of (fun _ k9 => g_ift rfl (show (nI 0) ≤ (0 : Int32) from Int32.le_refl _) k9) ?_
      refine gp_n 1 (j' := 35) (lv' := [some (.ref 13), some (.int (nI c)), some (.int (nI 0))]) (st' := [.ref 13]) (h' := (shT, fi, fl, fr)) rfl ?_
      refine gp_of (fun _ k9 => g_getI (x := 0) rfl (Or.inr rfl) rfl (by decide) (c14) k9) ?_
      refine gp_of (fun _ k9 => g_ift rfl (show (0 : Int32) = (0 : Int32) from by decide) k9) ?_
      refine gp_n 2 (j' := 44) (lv' := [some (.ref 13), some (.int (nI c)), some (.int (nI 0))]) (st' := [.int (nI c), .ref 13]) (h' := (shT, fi, fl, fr)) rfl ?_
      refine gp_of (fun _ k9 => g_callv (y := 97) (as := [.ref 13, .int (nI c)]) (st' := []) rfl rfl (e1) k9) ?_
      refine gp_n 1 (j' := 46) (lv' := [some (.ref 13), some (.int (nI c)), some (.int (nI 0))]) (st' := [.int 1]) (h' := (shT, fi2, fl2, fr2)) rfl ?_
      refine gp_done (g_ret rfl) ?_
      rfl
    · rw [(F1 13 4 (by decide)).1]
      exact (Int32.add_zero _).symm
  | succ l ih =>
    intro h hl hI hx hb hn
    obtain ⟨h1, e1, x1, w1, I1, F1⟩ := rl_evE hI hx hP hm (by omega) (hb l (by omega))
    obtain ⟨h2, e2, q1, q2, q3, q4, q5, q6, I2, F2⟩ := ih h1 (by omega) I1 x1 (fun i hi => hb i (by omega)) (cnI_fr (by decide) F1 hn)
    refine ⟨h2, ?_, q1, q2, ⟨fun s hs => ⟨(q3.1 s hs).1.trans (F1 24 s rfl).1, (q3.1 s hs).2.trans (F1 25 s rfl).1⟩, fun s hs => ⟨(q3.2 s hs).1.trans (F1 23 s rfl).1, (q3.2 s hs).2.trans (F1 26 s rfl).1⟩⟩, ?_, ?_, ?_, I2, fram.tr (fram.up (by decide) F1) F2⟩
    · have c14 := hn.2.2.1
      have np : nI (l + 1) - 1 = nI l := nI_pred l
      have nd := nI_dec l
      clear q1 q2 q3 q4 q5 q6 F1 F2 x1 w1 hx hn ih
      obtain ⟨S2, fi2, fl2, fr2⟩ := h1
      have s2 : S2 = shT := I1.1
      subst s2
      obtain ⟨S, fi, fl, fr⟩ := h
      have hS : S = shT := hI.1
      subst hS
      have c14 : fi 13 14 = 0 := c14
      refine go_of ?_
      refine gp_n 1 (j' := 14) (lv' := [some (.ref 13), some (.int (nI c)), some (.int (nI (l + 1)))]) (st' := [.int (nI (l + 1))]) (h' := (shT, fi, fl, fr)) rfl ?_
      refine gp_of (fun _ k9 => g_iff rfl (show ¬ ((nI (l + 1)) ≤ (0 : Int32)) from nI_nle (by omega) (by omega)) k9) ?_
      refine gp_n 1 (j' := 16) (lv' := [some (.ref 13), some (.int (nI c)), some (.int (nI (l + 1)))]) (st' := [.ref 13]) (h' := (shT, fi, fl, fr)) rfl ?_
      refine gp_of (fun _ k9 => g_getI (x := 0) rfl (Or.inr rfl) rfl (by decide) (c14) k9) ?_
      refine gp_of (fun _ k9 => g_ift rfl (show (0 : Int32) = (0 : Int32) from by decide) k9) ?_
      refine gp_n 4 (j' := 31) (lv' := [some (.ref 13), some (.int (nI c)), some (.int (nI (l + 1)))]) (st' := [.int ((nI (l + 1)) - 1), .ref 13]) (h' := (shT, fi, fl, fr)) rfl ?_
      rw [np]
      refine gp_of (fun _ k9 => g_callv (y := 94) (as := [.ref 13, .int (nI l)]) (st' := []) rfl rfl (e1) k9) ?_
      refine gp_n 2 (j' := 13) (lv' := [some (.ref 13), some (.int (nI c)), some (.int ((nI (l + 1)) + (-1)))]) (st' := []) (h' := (shT, fi2, fl2, fr2)) rfl ?_
      rw [nd]
      exact gp_done e2 rfl
    · rw [q4, (F1 13 6 (by decide)).1]
    · rw [q5, w1, Int32.add_assoc, nI_add, ← Nat.mul_add]
      have := Nat.two_pow_pos l
      rw [show 2 ^ (l + 1) - 1 = 2 ^ l + (2 ^ l - 1) by rw [Nat.pow_succ]; omega]
    · rw [q6, (F1 13 5 (by decide)).1]
/-- how much is reckoned on the right side ahead of a channel -/
def rwk (P c : Nat) : Nat := if c = 0 then 0 else P * 2 ^ tzN c
def lwk (P m c : Nat) : Nat := if c = 0 then P * (2 ^ m - 1) else P * (2 ^ tzN c - 1)
theorem rn_ev {m c most : Nat} {K : Int64} {F : Int32} {S : Nat → Int32} {x : RSt} {h : PmH} (hP1 : 1 ≤ x.1) (hP : x.1 ≤ 8) (hF : ¬ nI c = F) (hmo : most ≤ 8) (hm : m ≤ 6) (hc : c < 2 ^ m) (hS : ∀ s, s < 64 → -127 ≤ (S s).toInt ∧ (S s).toInt ≤ 127) (hI : HI hdT shT h) (hx : (c = 0 ∧ RDs m S x 0 m h) ∨ (0 < c ∧ RDs m S x (c - 1) 0 h)) (hn : cnI K m most F h) : ∃ h', Ev pmT 85 [.ref 13, .int (nI c)] h (some (.int 1)) h' ∧ RDs m S (rdS (bl K c) m S most c x) c 0 h' ∧ chI K m S most x c h' ∧ trF c h h' ∧ ph_i h' 13 6 = ph_i h 13 6 + 1 ∧ ph_i h' 13 4 = ph_i h 13 4 + nI (lwk x.1 m c) ∧ ph_i h' 13 5 = ph_i h 13 5 + nI (rwk x.1 c) ∧ HI hdT shT h' ∧ fram (in_w iN_107) h h' := by
  have p6 := pw_6 m (by omega)
  have c12 := hn.1
  have cm := hn.2.2.2.2.2.1
  rcases hx with ⟨rfl, hx⟩ | ⟨h0, hx⟩
  · obtain ⟨h', e1, q1, q2, q3, q4, q5, q6, I1, F1⟩ := rn_go hP1 hP hF hmo hm (by omega) hS m h (Nat.le_refl _) hI hx (fun i _ => Nat.zero_testBit i) hn
    refine ⟨h', ?_, q1, q2, q3, q4, q5, q6.trans (Int32.add_zero _).symm, I1, F1⟩
    clear q1 q2 q3 q4 q5 q6 F1 hx hn
    refine Ev.of (es := cd_85) (ml := 3) (lv := [some (.ref 13), some (.int (nI 0)), none]) rfl rfl rfl ?_
    obtain ⟨S, fi, fl, fr⟩ := h
    have hS : S = shT := hI.1
    subst hS
    have c12 : fr 13 12 = some 1 := c12
    have cm : fi 1 0 = nI m := cm
    refine go_of ?_
    refine gp_n 1 (j' := 1) (lv' := [some (.ref 13), some (.int (nI 0)), none]) (st' := [.ref 13]) (h' := (shT, fi, fl, fr)) rfl ?_
    refine gp_of (fun _ k9 => g_getR (q' := 1) rfl rfl (by decide) c12 k9) ?_
    refine gp_of (fun _ k9 => g_getI (x := nI m) rfl (Or.inl rfl) rfl (by decide) (cm) k9) ?_
    refine gp_n 2 (j' := 5) (lv' := [some (.ref 13), some (.int (nI 0)), some (.int (nI m))]) (st' := [.int (nI 0)]) (h' := (shT, fi, fl, fr)) rfl ?_
    refine gp_of (fun _ k9 => g_ift rfl (show (nI 0) = (0 : Int32) from rfl) k9) ?_
    exact gp_done e1 rfl
  · obtain ⟨t1, t2, t3, t4, t5, t6⟩ := tz_1 c (by omega) h0
    have tm : tzN c < m := by
      refine Decidable.byContradiction (fun z => ?_)
      have := pw2_le (a := m) (b := tzN c) (by omega)
      omega
    have hx2 : RDs m S x c (tzN c + 1) h := by
      obtain ⟨A, hA, a1, a2⟩ := hx
      refine ⟨A, hA, a1, fun l z1 z2 p hp => ?_⟩
      obtain ⟨r, r1, r2, r3⟩ := a2 l (by omega) z2 p hp
      refine ⟨r, r1, r2, fun j hj => (r3 j hj).trans ?_⟩
      rw [ndL_cg (u' := bl (x.2.1 p)) (c' := c) (m - l) l (by omega) (tz_2 c (by omega) h0 l (by omega) (by omega)) (fun _ _ => rfl)]
    obtain ⟨h1, e1, x1, w1, I1, F1⟩ := rr_evE hI hx2 hP hm tm t3 t5 (by omega)
    obtain ⟨h2, e2, q1, q2, q3, q4, q5, q6, I2, F2⟩ := rn_go hP1 hP hF hmo hm (by omega) hS (tzN c) h1 (by omega) I1 x1 t4 (cnI_fr (by decide) F1 hn)
    refine ⟨h2, ?_, q1, q2, ⟨fun s hs => ⟨(q3.1 s hs).1.trans (F1 24 s rfl).1, (q3.1 s hs).2.trans (F1 25 s rfl).1⟩, fun s hs => ⟨(q3.2 s hs).1.trans (F1 23 s rfl).1, (q3.2 s hs).2.trans (F1 26 s rfl).1⟩⟩, q4.trans (congrArg (· + 1) (F1 13 6 (by decide)).1), ?_, ?_, I2, fram.tr (fram.up (by decide) F1) F2⟩
    · have nz : Ev pmT 86 [.int (nI c)] h (some (.int (nI (tzN c)))) h := by
        rw [← t2]
        exact nzf_ev
      have nc : ¬ nI c = 0 := nI_ne0 h0 (by omega)
      clear q1 q2 q3 q4 q5 q6 F1 F2 x1 w1 hx hx2 hn
      refine Ev.of (es := cd_85) (ml := 3) (lv := [some (.ref 13), some (.int (nI c)), none]) rfl rfl rfl ?_
      obtain ⟨S2, fi2, fl2, fr2⟩ := h1
      have s2 : S2 = shT := I1.1
      subst s2
      obtain ⟨S, fi, fl, fr⟩ := h
      have hS : S = shT := hI.1
      subst hS
      have c12 : fr 13 12 = some 1 := c12
      have cm : fi 1 0 = nI m := cm
      refine go_of ?_
      refine gp_n 1 (j' := 1) (lv' := [some (.ref 13), some (.int (nI c)), none]) (st' := [.ref 13]) (h' := (shT, fi, fl, fr)) rfl ?_
      refine gp_of (fun _ k9 => g_getR (q' := 1) rfl rfl (by decide) c12 k9) ?_
      refine gp_of (fun _ k9 => g_getI (x := nI m) rfl (Or.inl rfl) rfl (by decide) (cm) k9) ?_
      refine gp_n 2 (j' := 5) (lv' := [some (.ref 13), some (.int (nI c)), some (.int (nI m))]) (st' := [.int (nI c)]) (h' := (shT, fi, fl, fr)) rfl ?_
      refine gp_of (fun _ k9 => g_iff rfl (show ¬ ((nI c) = (0 : Int32)) from nc) k9) ?_
      refine gp_n 1 (j' := 7) (lv' := [some (.ref 13), some (.int (nI c)), some (.int (nI m))]) (st' := [.int (nI c)]) (h' := (shT, fi, fl, fr)) rfl ?_
      refine gp_of (fun _ k9 => g_call (y := 86) (as := [.int (nI c)]) (st' := []) rfl rfl (nz) k9) ?_
      refine gp_n 4 (j' := 12) (lv' := [some (.ref 13), some (.int (nI c)), some (.int (nI (tzN c)))]) (st' := [.int (nI c), .int (nI (tzN c)), .ref 13]) (h' := (shT, fi, fl, fr)) rfl ?_
      refine gp_of (fun _ k9 => g_callv (y := 87) (as := [.ref 13, .int (nI (tzN c)), .int (nI c)]) (st' := []) rfl rfl (e1) k9) ?_
      exact gp_done e2 rfl
    · rw [q5, (F1 13 4 (by decide)).1]
      unfold lwk
      rw [if_neg (by omega)]
    · rw [q6, w1]
      unfold rwk
      rw [if_neg (by omega)]
