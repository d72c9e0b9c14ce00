/-! ONE BIT FLIPPED -/
def tkS (m : Nat) (S : Nat → Int32) (c : Nat) (x : RSt) : RSt := (1, (fun _ => bitI (x.2.1 0) c (!decide (rsm m S x c 0 < 0))), fun _ => x.2.2 0 + coS (rsm m S x c 0) (!decide (rsm m S x c 0 < 0)))
theorem to_ev_14 {h : PmH} {m c : Nat} {S : Nat → Int32} {x : RSt} (hI : HI hdT shT h) (hx : rdI 14 x h) (hw : rwI 14 m S x c 0 h) (hP : x.1 = 1) (hm : m ≤ 6) (hc : c < 64) (hS : ∀ s, s < 64 → -127 ≤ (S s).toInt ∧ (S s).toInt ≤ 127) : ∃ h', Ev pmT 100 [.ref 13, .int (nI c)] h none h' ∧ rdI 14 (tkS m S c x) h' ∧ rwI 14 m S (tkS m S c x) c 0 h' ∧ HI hdT shT h' ∧ fram (in_w iN_100) h h' := by
  have kB : ph_r h 14 1 = some 15 := hi_r hI rfl rfl (by decide)
  have k2 : ph_r h 14 2 = some 16 := hi_r hI rfl rfl (by decide)
  have k3 : ph_r h 14 3 = some 17 := hi_r hI rfl rfl (by decide)
  have kS : ph_r h 13 9 = some 27 := hi_r hI rfl rfl (by decide)
  obtain ⟨k0, kn, cP, hM⟩ := id hx
  obtain ⟨r, r1, r2, r3⟩ := hw 0 (Nat.le_refl _) (Nat.zero_le m) 0 (by omega)
  have r3 := r3 0 (by decide)
  have tp := ixS_top (l := 0) (r := r) (by decide) r1
  obtain ⟨m1, m2⟩ := hM 0 (by omega)
  have ib : inB 8128 (rsm m S x c 0) := ndL_b0 hm hS (Nat.zero_le m) (by decide)
  have iv1 := fun h' e => iv_s (v := none) (h' := h') (as := [.ref 13, .int (nI c)]) vN_100 rfl (fun _ _ => gz_c (gz_r (by decide)) (gz_c (gz_i (by rw [nI_toInt (by omega)]; omega) (by rw [nI_toInt (by omega)]; omega)) gz_n)) hI e
  obtain ⟨S, fi, fl, fr⟩ := h
  have hS : S = shT := hI.1
  subst hS
  have kB : fr 14 1 = some 15 := kB
  have k2 : fr 14 2 = some 16 := k2
  have k3 : fr 14 3 = some 17 := k3
  have kS : fr 13 9 = some 27 := kS
  have k0 : fr 13 0 = some 14 := k0
  have rF : fi 27 (ixS 0 r) = rsm m S x c 0 := r3
  have m1 : fl 15 0 = x.2.1 0 := m1
  have m2 : fi 16 0 = x.2.2 0 := m2
  have ps : Ev pmT 88 [.ref 13, .int 0, .int 0] (shT, fi, fl, fr) (some (.int (nI (ixS 0 r)))) (shT, fi, fl, fr) := ps_ev_14 (l := 0) (p := 0) (by decide) (by decide) r1 k0 k3 r2
  have ev : Ev pmT 100 [.ref 13, .int (nI c)] (shT, fi, fl, fr) none (shT, pm_u2 fi 16 0 (x.2.2 0 + coS (rsm m S x c 0) (!decide (rsm m S x c 0 < 0))), pm_u2 fl 15 0 (bitI (x.2.1 0) c (!decide (rsm m S x c 0 < 0))), fr) := by
    have bo : bitI (x.2.1 0) c (!decide (rsm m S x c 0 < 0)) = x.2.1 0 ||| ((b01 (!decide (rsm m S x c 0 < 0))).toInt64 <<< ((nI c : Int32).toInt64 &&& 63)) := by
      rw [b1_or]
      rfl
    rw [bo]
    have pn := fun h => pny_ev2 (S := rsm m S x c 0) (t := !decide (rsm m S x c 0 < 0)) (h := h) ib
    have tp : ixS 0 r < 1016 := by omega
    clear iv1 hw hM hx bo ib
    generalize coS (rsm m S x c 0) (!decide (rsm m S x c 0 < 0)) = v at *
    generalize rsm m S x c 0 = y at *
    generalize x.2.1 0 = w at *
    generalize x.2.2 0 = mt at *
    generalize ixS 0 r = ix at *
    refine Ev.of (es := cd_100) (ml := 4) (lv := [some (.ref 13), some (.int (nI c)), none, none]) rfl rfl rfl ?_
    refine go_of ?_
    by_cases hy : y < 0
    · rw [decide_eq_true hy] at pn ⊢
      have pn : ∀ h, Ev pmT 77 [.int y, .int 0] h (some (.int v)) h := pn
      refine gp_n 1 (j' := 1) (lv' := [some (.ref 13), some (.int (nI c)), none, none]) (st' := [.ref 13]) (h' := (shT, fi, fl, fr)) rfl ?_
      refine gp_of (fun _ k9 => g_getR (q' := 27) rfl rfl (by decide) kS k9) ?_
      refine gp_n 3 (j' := 5) (lv' := [some (.ref 13), some (.int (nI c)), none, none]) (st' := [.int 0, .int 0, .ref 13, .ref 27]) (h' := (shT, fi, fl, fr)) rfl ?_
      refine gp_of (fun _ k9 => g_call (y := 88) (as := [.ref 13, .int 0, .int 0]) (st' := [.ref 27]) rfl rfl (ps) k9) ?_
      refine gp_of (fun _ k9 => g_iald (k := ix) (x := y) rfl rfl (rfl) (by omega) (by decide) (rF) k9) ?_
      refine gp_n 2 (j' := 9) (lv' := [some (.ref 13), some (.int (nI c)), some (.int y), none]) (st' := [.int y]) (h' := (shT, fi, fl, fr)) rfl ?_
      refine gp_of (fun _ k9 => g_iff rfl (show ¬ ((0 : Int32) ≤ y) from Int32.not_le.mpr hy) k9) ?_
      refine gp_n 4 (j' := 15) (lv' := [some (.ref 13), some (.int (nI c)), some (.int y), some (.int 0)]) (st' := [.ref 13]) (h' := (shT, fi, fl, fr)) rfl ?_
      refine gp_of (fun _ k9 => g_getR (q' := 14) rfl rfl (by decide) k0 k9) ?_
      refine gp_of (fun _ k9 => g_getR (q' := 15) rfl rfl (by decide) kB k9) ?_
      refine gp_n 2 (j' := 19) (lv' := [some (.ref 13), some (.int (nI c)), some (.int y), some (.int 0)]) (st' := [.int 0, .ref 15, .int 0, .ref 15]) (h' := (shT, fi, fl, fr)) rfl ?_
      refine gp_of (fun _ k9 => g_lald (k := 0) (x := w) rfl rfl (rfl) (by decide) (by decide) (m1) k9) ?_
      refine gp_n 5 (j' := 25) (lv' := [some (.ref 13), some (.int (nI c)), some (.int y), some (.int 0)]) (st' := [.long (w ||| ((0 : Int64) <<< ((nI c : Int32).toInt64 &&& 63))), .int 0, .ref 15]) (h' := (shT, fi, fl, fr)) rfl ?_
      refine gp_of (fun _ k9 => g_last (k := 0) rfl rfl (rfl) (by decide) (by decide) k9) ?_
      refine gp_n 1 (j' := 27) (lv' := [some (.ref 13), some (.int (nI c)), some (.int y), some (.int 0)]) (st' := [.ref 13]) (h' := (shT, fi, pm_u2 fl 15 0 (w ||| ((0 : Int64) <<< ((nI c : Int32).toInt64 &&& 63))), fr)) rfl ?_
      refine gp_of (fun _ k9 => g_getR (q' := 14) rfl rfl (by decide) k0 k9) ?_
      refine gp_of (fun _ k9 => g_getR (q' := 16) rfl rfl (by decide) k2 k9) ?_
      refine gp_n 2 (j' := 31) (lv' := [some (.ref 13), some (.int (nI c)), some (.int y), some (.int 0)]) (st' := [.int 0, .ref 16, .int 0, .ref 16]) (h' := (shT, fi, pm_u2 fl 15 0 (w ||| ((0 : Int64) <<< ((nI c : Int32).toInt64 &&& 63))), fr)) rfl ?_
      refine gp_of (fun _ k9 => g_iald (k := 0) (x := mt) rfl rfl (rfl) (by decide) (by decide) (m2) k9) ?_
      refine gp_n 2 (j' := 34) (lv' := [some (.ref 13), some (.int (nI c)), some (.int y), some (.int 0)]) (st' := [.int 0, .int y, .int mt, .int 0, .ref 16]) (h' := (shT, fi, pm_u2 fl 15 0 (w ||| ((0 : Int64) <<< ((nI c : Int32).toInt64 &&& 63))), fr)) rfl ?_
      refine gp_of (fun _ k9 => g_call (y := 77) (as := [.int y, .int 0]) (st' := [.int mt, .int 0, .ref 16]) rfl rfl (pn _) k9) ?_
      refine gp_n 1 (j' := 36) (lv' := [some (.ref 13), some (.int (nI c)), some (.int y), some (.int 0)]) (st' := [.int (mt + v), .int 0, .ref 16]) (h' := (shT, fi, pm_u2 fl 15 0 (w ||| ((0 : Int64) <<< ((nI c : Int32).toInt64 &&& 63))), fr)) rfl ?_
      refine gp_of (fun _ k9 => g_iast (k := 0) rfl rfl (rfl) (by decide) (by decide) k9) ?_
      refine gp_done (g_vret rfl) ?_
      rfl
    · rw [decide_eq_false hy] at pn ⊢
      have pn : ∀ h, Ev pmT 77 [.int y, .int 1] h (some (.int v)) h := pn
      refine gp_n 1 (j' := 1) (lv' := [some (.ref 13), some (.int (nI c)), none, none]) (st' := [.ref 13]) (h' := (shT, fi, fl, fr)) rfl ?_
      refine gp_of (fun _ k9 => g_getR (q' := 27) rfl rfl (by decide) kS k9) ?_
      refine gp_n 3 (j' := 5) (lv' := [some (.ref 13), some (.int (nI c)), none, none]) (st' := [.int 0, .int 0, .ref 13, .ref 27]) (h' := (shT, fi, fl, fr)) rfl ?_
      refine gp_of (fun _ k9 => g_call (y := 88) (as := [.ref 13, .int 0, .int 0]) (st' := [.ref 27]) rfl rfl (ps) k9) ?_
      refine gp_of (fun _ k9 => g_iald (k := ix) (x := y) rfl rfl (rfl) (by omega) (by decide) (rF) k9) ?_
      refine gp_n 2 (j' := 9) (lv' := [some (.ref 13), some (.int (nI c)), some (.int y), none]) (st' := [.int y]) (h' := (shT, fi, fl, fr)) rfl ?_
      refine gp_of (fun _ k9 => g_ift rfl (show (0 : Int32) ≤ y from Int32.not_lt.mp hy) k9) ?_
      refine gp_n 3 (j' := 15) (lv' := [some (.ref 13), some (.int (nI c)), some (.int y), some (.int 1)]) (st' := [.ref 13]) (h' := (shT, fi, fl, fr)) rfl ?_
      refine gp_of (fun _ k9 => g_getR (q' := 14) rfl rfl (by decide) k0 k9) ?_
      refine gp_of (fun _ k9 => g_getR (q' := 15) rfl rfl (by decide) kB k9) ?_
      refine gp_n 2 (j' := 19) (lv' := [some (.ref 13), some (.int (nI c)), some (.int y), some (.int 1)]) (st' := [.int 0, .ref 15, .int 0, .ref 15]) (h' := (shT, fi, fl, fr)) rfl ?_
      refine gp_of (fun _ k9 => g_lald (k := 0) (x := w) rfl rfl (rfl) (by decide) (by decide) (m1) k9) ?_
      refine gp_n 5 (j' := 25) (lv' := [some (.ref 13), some (.int (nI c)), some (.int y), some (.int 1)]) (st' := [.long (w ||| ((1 : Int64) <<< ((nI c : Int32).toInt64 &&& 63))), .int 0, .ref 15]) (h' := (shT, fi, fl, fr)) rfl ?_
      refine gp_of (fun _ k9 => g_last (k := 0) rfl rfl (rfl) (by decide) (by decide) k9) ?_
      refine gp_n 1 (j' := 27) (lv' := [some (.ref 13), some (.int (nI c)), some (.int y), some (.int 1)]) (st' := [.ref 13]) (h' := (shT, fi, pm_u2 fl 15 0 (w ||| ((1 : Int64) <<< ((nI c : Int32).toInt64 &&& 63))), fr)) rfl ?_
      refine gp_of (fun _ k9 => g_getR (q' := 14) rfl rfl (by decide) k0 k9) ?_
      refine gp_of (fun _ k9 => g_getR (q' := 16) rfl rfl (by decide) k2 k9) ?_
      refine gp_n 2 (j' := 31) (lv' := [some (.ref 13), some (.int (nI c)), some (.int y), some (.int 1)]) (st' := [.int 0, .ref 16, .int 0, .ref 16]) (h' := (shT, fi, pm_u2 fl 15 0 (w ||| ((1 : Int64) <<< ((nI c : Int32).toInt64 &&& 63))), fr)) rfl ?_
      refine gp_of (fun _ k9 => g_iald (k := 0) (x := mt) rfl rfl (rfl) (by decide) (by decide) (m2) k9) ?_
      refine gp_n 2 (j' := 34) (lv' := [some (.ref 13), some (.int (nI c)), some (.int y), some (.int 1)]) (st' := [.int 1, .int y, .int mt, .int 0, .ref 16]) (h' := (shT, fi, pm_u2 fl 15 0 (w ||| ((1 : Int64) <<< ((nI c : Int32).toInt64 &&& 63))), fr)) rfl ?_
      refine gp_of (fun _ k9 => g_call (y := 77) (as := [.int y, .int 1]) (st' := [.int mt, .int 0, .ref 16]) rfl rfl (pn _) k9) ?_
      refine gp_n 1 (j' := 36) (lv' := [some (.ref 13), some (.int (nI c)), some (.int y), some (.int 1)]) (st' := [.int (mt + v), .int 0, .ref 16]) (h' := (shT, fi, pm_u2 fl 15 0 (w ||| ((1 : Int64) <<< ((nI c : Int32).toInt64 &&& 63))), fr)) rfl ?_
      refine gp_of (fun _ k9 => g_iast (k := 0) rfl rfl (rfl) (by decide) (by decide) k9) ?_
      refine gp_done (g_vret rfl) ?_
      rfl
  obtain ⟨I2, F2⟩ := iv1 _ ev
  have wO : ∀ p s, ¬ (p = 16 ∧ s = 0) → pm_u2 fi 16 0 (x.2.2 0 + coS (rsm m S x c 0) (!decide (rsm m S x c 0 < 0))) p s = fi p s := fun p s z => wl_ne z
  have lO : pm_u2 fl 15 0 (bitI (x.2.1 0) c (!decide (rsm m S x c 0 < 0))) 15 0 = bitI (x.2.1 0) c (!decide (rsm m S x c 0 < 0)) := u2_eq
  refine ⟨_, ev, ⟨k0, kn, (wO 14 0 (by decide)).trans (by rw [hP] at cP; exact cP), fun p hp => ?_⟩, fun l z1 z2 p hp => ?_, I2, F2⟩
  · have hp : p < 1 := hp
    have hp : p = 0 := by omega
    subst hp
    exact ⟨lO, u2_i⟩
  · have hp : p < 1 := hp
    have hp : p = 0 := by omega
    subst hp
    obtain ⟨r', q1, q2, q3⟩ := hw l z1 z2 0 (by omega)
    refine ⟨r', q1, (wO 17 (8 * l + 0) (by omega)).trans q2, fun j hj => ?_⟩
    refine (wO 27 (ixS l r' + j) (by omega)).trans ((q3 j hj).trans ?_)
    show _ = ndL m S (bl (bitI (x.2.1 0) c (!decide (rsm m S x c 0 < 0)))) c l j
    rw [ndL_cg (m - l) l (by omega) rfl (fun t ht => ?_)]
    have := Nat.div_mul_le_self c (2 ^ l)
    rw [bitI_bl hc (by omega), decide_eq_false (show ¬ t = c by omega), Bool.and_false, Bool.or_false]
theorem to_ev_18 {h : PmH} {m c : Nat} {S : Nat → Int32} {x : RSt} (hI : HI hdT shT h) (hx : rdI 18 x h) (hw : rwI 18 m S x c 0 h) (hP : x.1 = 1) (hm : m ≤ 6) (hc : c < 64) (hS : ∀ s, s < 64 → -127 ≤ (S s).toInt ∧ (S s).toInt ≤ 127) : ∃ h', Ev pmT 100 [.ref 13, .int (nI c)] h none h' ∧ rdI 18 (tkS m S c x) h' ∧ rwI 18 m S (tkS m S c x) c 0 h' ∧ HI hdT shT h' ∧ fram (in_w iN_100) h h' := by
  have kB : ph_r h 18 1 = some 19 := hi_r hI rfl rfl (by decide)
  have k2 : ph_r h 18 2 = some 20 := hi_r hI rfl rfl (by decide)
  have k3 : ph_r h 18 3 = some 21 := hi_r hI rfl rfl (by decide)
  have kS : ph_r h 13 9 = some 27 := hi_r hI rfl rfl (by decide)
  obtain ⟨k0, kn, cP, hM⟩ := id hx
  obtain ⟨r, r1, r2, r3⟩ := hw 0 (Nat.le_refl _) (Nat.zero_le m) 0 (by omega)
  have r3 := r3 0 (by decide)
  have tp := ixS_top (l := 0) (r := r) (by decide) r1
  obtain ⟨m1, m2⟩ := hM 0 (by omega)
  have ib : inB 8128 (rsm m S x c 0) := ndL_b0 hm hS (Nat.zero_le m) (by decide)
  have iv1 := fun h' e => iv_s (v := none) (h' := h') (as := [.ref 13, .int (nI c)]) vN_100 rfl (fun _ _ => gz_c (gz_r (by decide)) (gz_c (gz_i (by rw [nI_toInt (by omega)]; omega) (by rw [nI_toInt (by omega)]; omega)) gz_n)) hI e
  obtain ⟨S, fi, fl, fr⟩ := h
  have hS : S = shT := hI.1
  subst hS
  have kB : fr 18 1 = some 19 := kB
  have k2 : fr 18 2 = some 20 := k2
  have k3 : fr 18 3 = some 21 := k3
  have kS : fr 13 9 = some 27 := kS
  have k0 : fr 13 0 = some 18 := k0
  have rF : fi 27 (ixS 0 r) = rsm m S x c 0 := r3
  have m1 : fl 19 0 = x.2.1 0 := m1
  have m2 : fi 20 0 = x.2.2 0 := m2
  have ps : Ev pmT 88 [.ref 13, .int 0, .int 0] (shT, fi, fl, fr) (some (.int (nI (ixS 0 r)))) (shT, fi, fl, fr) := ps_ev_18 (l := 0) (p := 0) (by decide) (by decide) r1 k0 k3 r2
  have ev : Ev pmT 100 [.ref 13, .int (nI c)] (shT, fi, fl, fr) none (shT, pm_u2 fi 20 0 (x.2.2 0 + coS (rsm m S x c 0) (!decide (rsm m S x c 0 < 0))), pm_u2 fl 19 0 (bitI (x.2.1 0) c (!decide (rsm m S x c 0 < 0))), fr) := by
    have bo : bitI (x.2.1 0) c (!decide (rsm m S x c 0 < 0)) = x.2.1 0 ||| ((b01 (!decide (rsm m S x c 0 < 0))).toInt64 <<< ((nI c : Int32).toInt64 &&& 63)) := by
      rw [b1_or]
      rfl
    rw [bo]
    have pn := fun h => pny_ev2 (S := rsm m S x c 0) (t := !decide (rsm m S x c 0 < 0)) (h := h) ib
    have tp : ixS 0 r < 1016 := by omega
    clear iv1 hw hM hx bo ib
    generalize coS (rsm m S x c 0) (!decide (rsm m S x c 0 < 0)) = v at *
    generalize rsm m S x c 0 = y at *
    generalize x.2.1 0 = w at *
    generalize x.2.2 0 = mt at *
    generalize ixS 0 r = ix at *
    refine Ev.of (es := cd_100) (ml := 4) (lv := [some (.ref 13), some (.int (nI c)), none, none]) rfl rfl rfl ?_
    refine go_of ?_
    by_cases hy : y < 0
    · rw [decide_eq_true hy] at pn ⊢
      have pn : ∀ h, Ev pmT 77 [.int y, .int 0] h (some (.int v)) h := pn
      refine gp_n 1 (j' := 1) (lv' := [some (.ref 13), some (.int (nI c)), none, none]) (st' := [.ref 13]) (h' := (shT, fi, fl, fr)) rfl ?_
      refine gp_of (fun _ k9 => g_getR (q' := 27) rfl rfl (by decide) kS k9) ?_
      refine gp_n 3 (j' := 5) (lv' := [some (.ref 13), some (.int (nI c)), none, none]) (st' := [.int 0, .int 0, .ref 13, .ref 27]) (h' := (shT, fi, fl, fr)) rfl ?_
      refine gp_of (fun _ k9 => g_call (y := 88) (as := [.ref 13, .int 0, .int 0]) (st' := [.ref 27]) rfl rfl (ps) k9) ?_
      refine gp_of (fun _ k9 => g_iald (k := ix) (x := y) rfl rfl (rfl) (by omega) (by decide) (rF) k9) ?_
      refine gp_n 2 (j' := 9) (lv' := [some (.ref 13), some (.int (nI c)), some (.int y), none]) (st' := [.int y]) (h' := (shT, fi, fl, fr)) rfl ?_
      refine gp_of (fun _ k9 => g_iff rfl (show ¬ ((0 : Int32) ≤ y) from Int32.not_le.mpr hy) k9) ?_
      refine gp_n 4 (j' := 15) (lv' := [some (.ref 13), some (.int (nI c)), some (.int y), some (.int 0)]) (st' := [.ref 13]) (h' := (shT, fi, fl, fr)) rfl ?_
      refine gp_of (fun _ k9 => g_getR (q' := 18) rfl rfl (by decide) k0 k9) ?_
      refine gp_of (fun _ k9 => g_getR (q' := 19) rfl rfl (by decide) kB k9) ?_
      refine gp_n 2 (j' := 19) (lv' := [some (.ref 13), some (.int (nI c)), some (.int y), some (.int 0)]) (st' := [.int 0, .ref 19, .int 0, .ref 19]) (h' := (shT, fi, fl, fr)) rfl ?_
      refine gp_of (fun _ k9 => g_lald (k := 0) (x := w) rfl rfl (rfl) (by decide) (by decide) (m1) k9) ?_
      refine gp_n 5 (j' := 25) (lv' := [some (.ref 13), some (.int (nI c)), some (.int y), some (.int 0)]) (st' := [.long (w ||| ((0 : Int64) <<< ((nI c : Int32).toInt64 &&& 63))), .int 0, .ref 19]) (h' := (shT, fi, fl, fr)) rfl ?_
      refine gp_of (fun _ k9 => g_last (k := 0) rfl rfl (rfl) (by decide) (by decide) k9) ?_
      refine gp_n 1 (j' := 27) (lv' := [some (.ref 13), some (.int (nI c)), some (.int y), some (.int 0)]) (st' := [.ref 13]) (h' := (shT, fi, pm_u2 fl 19 0 (w ||| ((0 : Int64) <<< ((nI c : Int32).toInt64 &&& 63))), fr)) rfl ?_
      refine gp_of (fun _ k9 => g_getR (q' := 18) rfl rfl (by decide) k0 k9) ?_
      refine gp_of (fun _ k9 => g_getR (q' := 20) rfl rfl (by decide) k2 k9) ?_
      refine gp_n 2 (j' := 31) (lv' := [some (.ref 13), some (.int (nI c)), some (.int y), some (.int 0)]) (st' := [.int 0, .ref 20, .int 0, .ref 20]) (h' := (shT, fi, pm_u2 fl 19 0 (w ||| ((0 : Int64) <<< ((nI c : Int32).toInt64 &&& 63))), fr)) rfl ?_
      refine gp_of (fun _ k9 => g_iald (k := 0) (x := mt) rfl rfl (rfl) (by decide) (by decide) (m2) k9) ?_
      refine gp_n 2 (j' := 34) (lv' := [some (.ref 13), some (.int (nI c)), some (.int y), some (.int 0)]) (st' := [.int 0, .int y, .int mt, .int 0, .ref 20]) (h' := (shT, fi, pm_u2 fl 19 0 (w ||| ((0 : Int64) <<< ((nI c : Int32).toInt64 &&& 63))), fr)) rfl ?_
      refine gp_of (fun _ k9 => g_call (y := 77) (as := [.int y, .int 0]) (st' := [.int mt, .int 0, .ref 20]) rfl rfl (pn _) k9) ?_
      refine gp_n 1 (j' := 36) (lv' := [some (.ref 13), some (.int (nI c)), some (.int y), some (.int 0)]) (st' := [.int (mt + v), .int 0, .ref 20]) (h' := (shT, fi, pm_u2 fl 19 0 (w ||| ((0 : Int64) <<< ((nI c : Int32).toInt64 &&& 63))), fr)) rfl ?_
      refine gp_of (fun _ k9 => g_iast (k := 0) rfl rfl (rfl) (by decide) (by decide) k9) ?_
      refine gp_done (g_vret rfl) ?_
      rfl
    · rw [decide_eq_false hy] at pn ⊢
      have pn : ∀ h, Ev pmT 77 [.int y, .int 1] h (some (.int v)) h := pn
      refine gp_n 1 (j' := 1) (lv' := [some (.ref 13), some (.int (nI c)), none, none]) (st' := [.ref 13]) (h' := (shT, fi, fl, fr)) rfl ?_
      refine gp_of (fun _ k9 => g_getR (q' := 27) rfl rfl (by decide) kS k9) ?_
      refine gp_n 3 (j' := 5) (lv' := [some (.ref 13), some (.int (nI c)), none, none]) (st' := [.int 0, .int 0, .ref 13, .ref 27]) (h' := (shT, fi, fl, fr)) rfl ?_
      refine gp_of (fun _ k9 => g_call (y := 88) (as := [.ref 13, .int 0, .int 0]) (st' := [.ref 27]) rfl rfl (ps) k9) ?_
      refine gp_of (fun _ k9 => g_iald (k := ix) (x := y) rfl rfl (rfl) (by omega) (by decide) (rF) k9) ?_
      refine gp_n 2 (j' := 9) (lv' := [some (.ref 13), some (.int (nI c)), some (.int y), none]) (st' := [.int y]) (h' := (shT, fi, fl, fr)) rfl ?_
      refine gp_of (fun _ k9 => g_ift rfl (show (0 : Int32) ≤ y from Int32.not_lt.mp hy) k9) ?_
      refine gp_n 3 (j' := 15) (lv' := [some (.ref 13), some (.int (nI c)), some (.int y), some (.int 1)]) (st' := [.ref 13]) (h' := (shT, fi, fl, fr)) rfl ?_
      refine gp_of (fun _ k9 => g_getR (q' := 18) rfl rfl (by decide) k0 k9) ?_
      refine gp_of (fun _ k9 => g_getR (q' := 19) rfl rfl (by decide) kB k9) ?_
      refine gp_n 2 (j' := 19) (lv' := [some (.ref 13), some (.int (nI c)), some (.int y), some (.int 1)]) (st' := [.int 0, .ref 19, .int 0, .ref 19]) (h' := (shT, fi, fl, fr)) rfl ?_
      refine gp_of (fun _ k9 => g_lald (k := 0) (x := w) rfl rfl (rfl) (by decide) (by decide) (m1) k9) ?_
      refine gp_n 5 (j' := 25) (lv' := [some (.ref 13), some (.int (nI c)), some (.int y), some (.int 1)]) (st' := [.long (w ||| ((1 : Int64) <<< ((nI c : Int32).toInt64 &&& 63))), .int 0, .ref 19]) (h' := (shT, fi, fl, fr)) rfl ?_
      refine gp_of (fun _ k9 => g_last (k := 0) rfl rfl (rfl) (by decide) (by decide) k9) ?_
      refine gp_n 1 (j' := 27) (lv' := [some (.ref 13), some (.int (nI c)), some (.int y), some (.int 1)]) (st' := [.ref 13]) (h' := (shT, fi, pm_u2 fl 19 0 (w ||| ((1 : Int64) <<< ((nI c : Int32).toInt64 &&& 63))), fr)) rfl ?_
      refine gp_of (fun _ k9 => g_getR (q' := 18) rfl rfl (by decide) k0 k9) ?_
      refine gp_of (fun _ k9 => g_getR (q' := 20) rfl rfl (by decide) k2 k9) ?_
      refine gp_n 2 (j' := 31) (lv' := [some (.ref 13), some (.int (nI c)), some (.int y), some (.int 1)]) (st' := [.int 0, .ref 20, .int 0, .ref 20]) (h' := (shT, fi, pm_u2 fl 19 0 (w ||| ((1 : Int64) <<< ((nI c : Int32).toInt64 &&& 63))), fr)) rfl ?_
      refine gp_of (fun _ k9 => g_iald (k := 0) (x := mt) rfl rfl (rfl) (by decide) (by decide) (m2) k9) ?_
      refine gp_n 2 (j' := 34) (lv' := [some (.ref 13), some (.int (nI c)), some (.int y), some (.int 1)]) (st' := [.int 1, .int y, .int mt, .int 0, .ref 20]) (h' := (shT, fi, pm_u2 fl 19 0 (w ||| ((1 : Int64) <<< ((nI c : Int32).toInt64 &&& 63))), fr)) rfl ?_
      refine gp_of (fun _ k9 => g_call (y := 77) (as := [.int y, .int 1]) (st' := [.int mt, .int 0, .ref 20]) rfl rfl (pn _) k9) ?_
      refine gp_n 1 (j' := 36) (lv' := [some (.ref 13), some (.int (nI c)), some (.int y), some (.int 1)]) (st' := [.int (mt + v), .int 0, .ref 20]) (h' := (shT, fi, pm_u2 fl 19 0 (w ||| ((1 : Int64) <<< ((nI c : Int32).toInt64 &&& 63))), fr)) rfl ?_
      refine gp_of (fun _ k9 => g_iast (k := 0) rfl rfl (rfl) (by decide) (by decide) k9) ?_
      refine gp_done (g_vret rfl) ?_
      rfl
  obtain ⟨I2, F2⟩ := iv1 _ ev
  have wO : ∀ p s, ¬ (p = 20 ∧ s = 0) → pm_u2 fi 20 0 (x.2.2 0 + coS (rsm m S x c 0) (!decide (rsm m S x c 0 < 0))) p s = fi p s := fun p s z => wl_ne z
  have lO : pm_u2 fl 19 0 (bitI (x.2.1 0) c (!decide (rsm m S x c 0 < 0))) 19 0 = bitI (x.2.1 0) c (!decide (rsm m S x c 0 < 0)) := u2_eq
  refine ⟨_, ev, ⟨k0, kn, (wO 18 0 (by decide)).trans (by rw [hP] at cP; exact cP), fun p hp => ?_⟩, fun l z1 z2 p hp => ?_, I2, F2⟩
  · have hp : p < 1 := hp
    have hp : p = 0 := by omega
    subst hp
    exact ⟨lO, u2_i⟩
  · have hp : p < 1 := hp
    have hp : p = 0 := by omega
    subst hp
    obtain ⟨r', q1, q2, q3⟩ := hw l z1 z2 0 (by omega)
    refine ⟨r', q1, (wO 21 (8 * l + 0) (by omega)).trans q2, fun j hj => ?_⟩
    refine (wO 27 (ixS l r' + j) (by omega)).trans ((q3 j hj).trans ?_)
    show _ = ndL m S (bl (bitI (x.2.1 0) c (!decide (rsm m S x c 0 < 0)))) c l j
    rw [ndL_cg (m - l) l (by omega) rfl (fun t ht => ?_)]
    have := Nat.div_mul_le_self c (2 ^ l)
    rw [bitI_bl hc (by omega), decide_eq_false (show ¬ t = c by omega), Bool.and_false, Bool.or_false]
theorem deF_14 {h : PmH} {m c : Nat} {K : Int64} {S : Nat → Int32} {x : RSt} (hI : HI hdT shT h) (hx : rdI 14 x h) (hw : rwI 14 m S x c 0 h) (hP : x.1 = 1) (c12 : ph_r h 13 12 = some 1) (c15 : ph_i h 13 15 = nI c) (c7 : ph_l h 1 7 = K) (hk : bl K c = true) (hm : m ≤ 6) (hc : c < 64) (hS : ∀ s, s < 64 → -127 ≤ (S s).toInt ∧ (S s).toInt ≤ 127) : ∃ h', Ev pmT 97 [.ref 13, .int (nI c)] h none h' ∧ RDs m S (tkS m S c x) c 0 h' ∧ HI hdT shT h' ∧ fram (in_w iN_106) h h' := by
  have k3 : ph_r h 14 3 = some 17 := hi_r hI rfl rfl (by decide)
  have kS : ph_r h 13 9 = some 27 := hi_r hI rfl rfl (by decide)
  have kU : ph_r h 13 3 = some 26 := hi_r hI rfl rfl (by decide)
  have k0 := hx.1
  obtain ⟨r, r1, r2, r3⟩ := hw 0 (Nat.le_refl _) (Nat.zero_le m) 0 (by omega)
  have r3 := r3 0 (by decide)
  have tp := ixS_top (l := 0) (r := r) (by decide) r1
  have iv1 := fun h' e => iv_s (v := none) (h' := h') (as := [.ref 13, .int (nI c)]) vN_106 rfl (fun _ _ => gz_c (gz_r (by decide)) (gz_c (gz_i (by rw [nI_toInt (by omega)]; omega) (by rw [nI_toInt (by omega)]; omega)) gz_n)) hI e
  obtain ⟨S, fi, fl, fr⟩ := h
  have hS : S = shT := hI.1
  subst hS
  have k0 : fr 13 0 = some 14 := k0
  have kS : fr 13 9 = some 27 := kS
  have kU : fr 13 3 = some 26 := kU
  have c12 : fr 13 12 = some 1 := c12
  have r3 : fi 27 (ixS 0 r) = rsm m S x c 0 := r3
  have ps : Ev pmT 88 [.ref 13, .int 0, .int 0] (shT, pm_u2 fi 13 6 (fi 13 6 + 1), fl, fr) (some (.int (nI (ixS 0 r)))) (shT, pm_u2 fi 13 6 (fi 13 6 + 1), fl, fr) := ps_ev_14 (l := 0) (p := 0) (by decide) (by decide) r1 k0 k3 ((wl_ne (by omega)).trans r2)
  have ab := abC_ev (a := rsm m S x c 0) (h := (shT, pm_u2 fi 13 6 (fi 13 6 + 1), fl, fr))
  have I1 : HI hdT shT (shT, pm_u2 fi 13 6 (fi 13 6 + 1), fl, fr) := HI_wi hI (fun z => absurd z (by decide))
  have I1 : HI hdT shT (shT, pm_u2 (pm_u2 fi 13 6 (fi 13 6 + 1)) 26 c (abS (rsm m S x c 0)), fl, fr) := HI_wi I1 (fun z => by rw [hd26] at z; exact absurd z (by decide))
  have fA : ∀ p s, ¬ p = 13 → ¬ p = 26 → pm_u2 (pm_u2 fi 13 6 (fi 13 6 + 1)) 26 c (abS (rsm m S x c 0)) p s = fi p s := fun p s z1 z2 => (wl_ne (by omega)).trans (wl_ne (by omega))
  have f15 : pm_u2 (pm_u2 fi 13 6 (fi 13 6 + 1)) 26 c (abS (rsm m S x c 0)) 13 15 = nI c := (wl_ne (by omega)).trans ((wl_ne (by omega)).trans c15)
  generalize hv : abS (rsm m S x c 0) = v at *
  generalize hF1 : pm_u2 (pm_u2 fi 13 6 (fi 13 6 + 1)) 26 c v = f1 at *
  have hx1 : rdI 14 x (shT, f1, fl, fr) := rdI_cg (h := (shT, fi, fl, fr)) (by decide) (fun p s z1 z2 => ⟨fA p s (by omega) (by omega), rfl⟩) rfl rfl hx
  have hw1 : rwI 14 m S x c 0 (shT, f1, fl, fr) := rwI_cg (h := (shT, fi, fl, fr)) (by decide) (fun p s z1 z2 => fA p s (by omega) (by omega)) (fun s => fA 27 s (by decide) (by decide)) hw
  have kp := kp_ev_1 I1 c7 (i := c) (by omega)
  rw [hk] at kp
  have kp : Ev pmT 47 [.ref 1, .int (nI c)] (shT, f1, fl, fr) (some (.int 1)) (shT, f1, fl, fr) := kp
  obtain ⟨h2, e2, q1, q2, I2, F2⟩ := to_ev_14 I1 hx1 hw1 hP hm hc hS
  have cP := q1.2.2.1
  have k2 := q1.1
  have kT : ph_r h2 13 2 = some 22 := hi_r I2 rfl rfl (by decide)
  have t0 : ph_r h2 22 0 = some 23 := hi_r I2 rfl rfl (by decide)
  have ev : Ev pmT 97 [.ref 13, .int (nI c)] (shT, fi, fl, fr) none (ph_s h2, pm_u2 (ph_i h2) 23 c (nI 1), ph_l h2, ph_r h2) := by
    clear q1 q2 F2 hx1 hw1 iv1 fA hx hw
    obtain ⟨S2, fi2, fl2, fr2⟩ := h2
    have s2 : S2 = shT := I2.1
    subst s2
    have k2 : fr2 13 0 = some 14 := k2
    have kT : fr2 13 2 = some 22 := kT
    have t0 : fr2 22 0 = some 23 := t0
    have cP : fi2 14 0 = nI 1 := cP
    generalize rsm m S x c 0 = y at *
    have tp : ixS 0 r < 1016 := by omega
    have r3 : pm_u2 fi 13 6 (fi 13 6 + 1) 27 (ixS 0 r) = y := (wl_ne (by omega)).trans r3
    generalize ixS 0 r = ix at *
    subst hF1
    refine Ev.of (es := cd_97) (ml := 2) (lv := [some (.ref 13), some (.int (nI c))]) rfl rfl rfl ?_
    refine go_of ?_
    refine gp_n 2 (j' := 2) (lv' := [some (.ref 13), some (.int (nI c))]) (st' := [.ref 13, .ref 13]) (h' := (shT, fi, fl, fr)) rfl ?_
    refine gp_of (fun _ k9 => g_getI (x := fi 13 6) rfl (Or.inl rfl) rfl (by decide) (rfl) k9) ?_
    refine gp_n 2 (j' := 5) (lv' := [some (.ref 13), some (.int (nI c))]) (st' := [.int ((fi 13 6) + 1), .ref 13]) (h' := (shT, fi, fl, fr)) rfl ?_
    refine gp_of (fun _ k9 => g_putI rfl (Or.inl rfl) rfl (by decide) k9) ?_
    refine gp_n 1 (j' := 7) (lv' := [some (.ref 13), some (.int (nI c))]) (st' := [.ref 13]) (h' := (shT, pm_u2 fi 13 6 ((fi 13 6) + 1), fl, fr)) rfl ?_
    refine gp_of (fun _ k9 => g_getR (q' := 26) rfl rfl (by decide) kU k9) ?_
    refine gp_n 2 (j' := 10) (lv' := [some (.ref 13), some (.int (nI c))]) (st' := [.ref 13, .int (nI c), .ref 26]) (h' := (shT, pm_u2 fi 13 6 ((fi 13 6) + 1), fl, fr)) rfl ?_
    refine gp_of (fun _ k9 => g_getR (q' := 27) rfl rfl (by decide) kS k9) ?_
    refine gp_n 3 (j' := 14) (lv' := [some (.ref 13), some (.int (nI c))]) (st' := [.int 0, .int 0, .ref 13, .ref 27, .int (nI c), .ref 26]) (h' := (shT, pm_u2 fi 13 6 ((fi 13 6) + 1), fl, fr)) rfl ?_
    refine gp_of (fun _ k9 => g_call (y := 88) (as := [.ref 13, .int 0, .int 0]) (st' := [.ref 27, .int (nI c), .ref 26]) rfl rfl (ps) k9) ?_
    refine gp_of (fun _ k9 => g_iald (k := ix) (x := y) rfl rfl (rfl) (by omega) (by decide) (r3) k9) ?_
    refine gp_of (fun _ k9 => g_call (y := 96) (as := [.int y]) (st' := [.int (nI c), .ref 26]) rfl rfl (ab) k9) ?_
    refine gp_of (fun _ k9 => g_iast (k := c) rfl rfl (rfl) (by omega) (by decide) k9) ?_
    refine gp_n 1 (j' := 19) (lv' := [some (.ref 13), some (.int (nI c))]) (st' := [.ref 13]) (h' := (shT, pm_u2 (pm_u2 fi 13 6 ((fi 13 6) + 1)) 26 c v, fl, fr)) rfl ?_
    refine gp_of (fun _ k9 => g_getR (q' := 1) rfl rfl (by decide) c12 k9) ?_
    refine gp_n 1 (j' := 21) (lv' := [some (.ref 13), some (.int (nI c))]) (st' := [.int (nI c), .ref 1]) (h' := (shT, pm_u2 (pm_u2 fi 13 6 ((fi 13 6) + 1)) 26 c v, fl, fr)) rfl ?_
    refine gp_of (fun _ k9 => g_call (y := 47) (as := [.ref 1, .int (nI c)]) (st' := []) rfl rfl (kp) k9) ?_
    refine gp_of (fun _ k9 => g_ift rfl (show ¬ (1 : Int32) = (0 : Int32) from by decide) k9) ?_
    refine gp_n 2 (j' := 29) (lv' := [some (.ref 13), some (.int (nI c))]) (st' := [.ref 13, .int (nI c)]) (h' := (shT, pm_u2 (pm_u2 fi 13 6 ((fi 13 6) + 1)) 26 c v, fl, fr)) rfl ?_
    refine gp_of (fun _ k9 => g_getI (x := nI c) rfl (Or.inl rfl) rfl (by decide) (f15) k9) ?_
    refine gp_of (fun _ k9 => g_icf rfl (show ¬ (¬ (nI c) = (nI c)) from not_not_intro rfl) k9) ?_
    refine gp_n 2 (j' := 33) (lv' := [some (.ref 13), some (.int (nI c))]) (st' := [.int (nI c), .ref 13]) (h' := (shT, pm_u2 (pm_u2 fi 13 6 ((fi 13 6) + 1)) 26 c v, fl, fr)) rfl ?_
    refine gp_of (fun _ k9 => g_callv (y := 100) (as := [.ref 13, .int (nI c)]) (st' := []) rfl rfl (e2) k9) ?_
    refine gp_n 2 (j' := 39) (lv' := [some (.ref 13), some (.int (nI c))]) (st' := [.ref 13]) (h' := (shT, fi2, fl2, fr2)) rfl ?_
    refine gp_of (fun _ k9 => g_getR (q' := 22) rfl rfl (by decide) kT k9) ?_
    refine gp_of (fun _ k9 => g_getR (q' := 23) rfl rfl (by decide) t0 k9) ?_
    refine gp_n 2 (j' := 43) (lv' := [some (.ref 13), some (.int (nI c))]) (st' := [.ref 13, .int (nI c), .ref 23]) (h' := (shT, fi2, fl2, fr2)) rfl ?_
    refine gp_of (fun _ k9 => g_getR (q' := 14) rfl rfl (by decide) k2 k9) ?_
    refine gp_of (fun _ k9 => g_getI (x := nI 1) rfl (Or.inl rfl) rfl (by decide) (cP) k9) ?_
    refine gp_of (fun _ k9 => g_iast (k := c) rfl rfl (rfl) (by omega) (by decide) k9) ?_
    refine gp_done (g_vret rfl) ?_
    rfl
  obtain ⟨I3, F3⟩ := iv1 _ ev
  have w : ∀ p s, ¬ p = 23 → ph_i (ph_s h2, pm_u2 (ph_i h2) 23 c (nI 1), ph_l h2, ph_r h2) p s = ph_i h2 p s := fun p s z => wl_ne (by omega)
  exact ⟨_, ev, ⟨14, by decide, rdI_cg (h := h2) (by decide) (fun p s z1 z2 => ⟨w p s (by omega), rfl⟩) rfl rfl q1, rwI_cg (h := h2) (by decide) (fun p s z1 z2 => w p s (by omega)) (fun s => w 27 s (by decide)) q2⟩, I3, F3⟩
theorem deF_18 {h : PmH} {m c : Nat} {K : Int64} {S : Nat → Int32} {x : RSt} (hI : HI hdT shT h) (hx : rdI 18 x h) (hw : rwI 18 m S x c 0 h) (hP : x.1 = 1) (c12 : ph_r h 13 12 = some 1) (c15 : ph_i h 13 15 = nI c) (c7 : ph_l h 1 7 = K) (hk : bl K c = true) (hm : m ≤ 6) (hc : c < 64) (hS : ∀ s, s < 64 → -127 ≤ (S s).toInt ∧ (S s).toInt ≤ 127) : ∃ h', Ev pmT 97 [.ref 13, .int (nI c)] h none h' ∧ RDs m S (tkS m S c x) c 0 h' ∧ HI hdT shT h' ∧ fram (in_w iN_106) h h' := by
  have k3 : ph_r h 18 3 = some 21 := hi_r hI rfl rfl (by decide)
  have kS : ph_r h 13 9 = some 27 := hi_r hI rfl rfl (by decide)
  have kU : ph_r h 13 3 = some 26 := hi_r hI rfl rfl (by decide)
  have k0 := hx.1
  obtain ⟨r, r1, r2, r3⟩ := hw 0 (Nat.le_refl _) (Nat.zero_le m) 0 (by omega)
  have r3 := r3 0 (by decide)
  have tp := ixS_top (l := 0) (r := r) (by decide) r1
  have iv1 := fun h' e => iv_s (v := none) (h' := h') (as := [.ref 13, .int (nI c)]) vN_106 rfl (fun _ _ => gz_c (gz_r (by decide)) (gz_c (gz_i (by rw [nI_toInt (by omega)]; omega) (by rw [nI_toInt (by omega)]; omega)) gz_n)) hI e
  obtain ⟨S, fi, fl, fr⟩ := h
  have hS : S = shT := hI.1
  subst hS
  have k0 : fr 13 0 = some 18 := k0
  have kS : fr 13 9 = some 27 := kS
  have kU : fr 13 3 = some 26 := kU
  have c12 : fr 13 12 = some 1 := c12
  have r3 : fi 27 (ixS 0 r) = rsm m S x c 0 := r3
  have ps : Ev pmT 88 [.ref 13, .int 0, .int 0] (shT, pm_u2 fi 13 6 (fi 13 6 + 1), fl, fr) (some (.int (nI (ixS 0 r)))) (shT, pm_u2 fi 13 6 (fi 13 6 + 1), fl, fr) := ps_ev_18 (l := 0) (p := 0) (by decide) (by decide) r1 k0 k3 ((wl_ne (by omega)).trans r2)
  have ab := abC_ev (a := rsm m S x c 0) (h := (shT, pm_u2 fi 13 6 (fi 13 6 + 1), fl, fr))
  have I1 : HI hdT shT (shT, pm_u2 fi 13 6 (fi 13 6 + 1), fl, fr) := HI_wi hI (fun z => absurd z (by decide))
  have I1 : HI hdT shT (shT, pm_u2 (pm_u2 fi 13 6 (fi 13 6 + 1)) 26 c (abS (rsm m S x c 0)), fl, fr) := HI_wi I1 (fun z => by rw [hd26] at z; exact absurd z (by decide))
  have fA : ∀ p s, ¬ p = 13 → ¬ p = 26 → pm_u2 (pm_u2 fi 13 6 (fi 13 6 + 1)) 26 c (abS (rsm m S x c 0)) p s = fi p s := fun p s z1 z2 => (wl_ne (by omega)).trans (wl_ne (by omega))
  have f15 : pm_u2 (pm_u2 fi 13 6 (fi 13 6 + 1)) 26 c (abS (rsm m S x c 0)) 13 15 = nI c := (wl_ne (by omega)).trans ((wl_ne (by omega)).trans c15)
  generalize hv : abS (rsm m S x c 0) = v at *
  generalize hF1 : pm_u2 (pm_u2 fi 13 6 (fi 13 6 + 1)) 26 c v = f1 at *
  have hx1 : rdI 18 x (shT, f1, fl, fr) := rdI_cg (h := (shT, fi, fl, fr)) (by decide) (fun p s z1 z2 => ⟨fA p s (by omega) (by omega), rfl⟩) rfl rfl hx
  have hw1 : rwI 18 m S x c 0 (shT, f1, fl, fr) := rwI_cg (h := (shT, fi, fl, fr)) (by decide) (fun p s z1 z2 => fA p s (by omega) (by omega)) (fun s => fA 27 s (by decide) (by decide)) hw
  have kp := kp_ev_1 I1 c7 (i := c) (by omega)
  rw [hk] at kp
  have kp : Ev pmT 47 [.ref 1, .int (nI c)] (shT, f1, fl, fr) (some (.int 1)) (shT, f1, fl, fr) := kp
  obtain ⟨h2, e2, q1, q2, I2, F2⟩ := to_ev_18 I1 hx1 hw1 hP hm hc hS
  have cP := q1.2.2.1
  have k2 := q1.1
  have kT : ph_r h2 13 2 = some 22 := hi_r I2 rfl rfl (by decide)
  have t0 : ph_r h2 22 0 = some 23 := hi_r I2 rfl rfl (by decide)
  have ev : Ev pmT 97 [.ref 13, .int (nI c)] (shT, fi, fl, fr) none (ph_s h2, pm_u2 (ph_i h2) 23 c (nI 1), ph_l h2, ph_r h2) := by
    clear q1 q2 F2 hx1 hw1 iv1 fA hx hw
    obtain ⟨S2, fi2, fl2, fr2⟩ := h2
    have s2 : S2 = shT := I2.1
    subst s2
    have k2 : fr2 13 0 = some 18 := k2
    have kT : fr2 13 2 = some 22 := kT
    have t0 : fr2 22 0 = some 23 := t0
    have cP : fi2 18 0 = nI 1 := cP
    generalize rsm m S x c 0 = y at *
    have tp : ixS 0 r < 1016 := by omega
    have r3 : pm_u2 fi 13 6 (fi 13 6 + 1) 27 (ixS 0 r) = y := (wl_ne (by omega)).trans r3
    generalize ixS 0 r = ix at *
    subst hF1
    refine Ev.of (es := cd_97) (ml := 2) (lv := [some (.ref 13), some (.int (nI c))]) rfl rfl rfl ?_
    refine go_of ?_
    refine gp_n 2 (j' := 2) (lv' := [some (.ref 13), some (.int (nI c))]) (st' := [.ref 13, .ref 13]) (h' := (shT, fi, fl, fr)) rfl ?_
    refine gp_of (fun _ k9 => g_getI (x := fi 13 6) rfl (Or.inl rfl) rfl (by decide) (rfl) k9) ?_
    refine gp_n 2 (j' := 5) (lv' := [some (.ref 13), some (.int (nI c))]) (st' := [.int ((fi 13 6) + 1), .ref 13]) (h' := (shT, fi, fl, fr)) rfl ?_
    refine gp_of (fun _ k9 => g_putI rfl (Or.inl rfl) rfl (by decide) k9) ?_
    refine gp_n 1 (j' := 7) (lv' := [some (.ref 13), some (.int (nI c))]) (st' := [.ref 13]) (h' := (shT, pm_u2 fi 13 6 ((fi 13 6) + 1), fl, fr)) rfl ?_
    refine gp_of (fun _ k9 => g_getR (q' := 26) rfl rfl (by decide) kU k9) ?_
    refine gp_n 2 (j' := 10) (lv' := [some (.ref 13), some (.int (nI c))]) (st' := [.ref 13, .int (nI c), .ref 26]) (h' := (shT, pm_u2 fi 13 6 ((fi 13 6) + 1), fl, fr)) rfl ?_
    refine gp_of (fun _ k9 => g_getR (q' := 27) rfl rfl (by decide) kS k9) ?_
    refine gp_n 3 (j' := 14) (lv' := [some (.ref 13), some (.int (nI c))]) (st' := [.int 0, .int 0, .ref 13, .ref 27, .int (nI c), .ref 26]) (h' := (shT, pm_u2 fi 13 6 ((fi 13 6) + 1), fl, fr)) rfl ?_
    refine gp_of (fun _ k9 => g_call (y := 88) (as := [.ref 13, .int 0, .int 0]) (st' := [.ref 27, .int (nI c), .ref 26]) rfl rfl (ps) k9) ?_
    refine gp_of (fun _ k9 => g_iald (k := ix) (x := y) rfl rfl (rfl) (by omega) (by decide) (r3) k9) ?_
    refine gp_of (fun _ k9 => g_call (y := 96) (as := [.int y]) (st' := [.int (nI c), .ref 26]) rfl rfl (ab) k9) ?_
    refine gp_of (fun _ k9 => g_iast (k := c) rfl rfl (rfl) (by omega) (by decide) k9) ?_
    refine gp_n 1 (j' := 19) (lv' := [some (.ref 13), some (.int (nI c))]) (st' := [.ref 13]) (h' := (shT, pm_u2 (pm_u2 fi 13 6 ((fi 13 6) + 1)) 26 c v, fl, fr)) rfl ?_
    refine gp_of (fun _ k9 => g_getR (q' := 1) rfl rfl (by decide) c12 k9) ?_
    refine gp_n 1 (j' := 21) (lv' := [some (.ref 13), some (.int (nI c))]) (st' := [.int (nI c), .ref 1]) (h' := (shT, pm_u2 (pm_u2 fi 13 6 ((fi 13 6) + 1)) 26 c v, fl, fr)) rfl ?_
    refine gp_of (fun _ k9 => g_call (y := 47) (as := [.ref 1, .int (nI c)]) (st' := []) rfl rfl (kp) k9) ?_
    refine gp_of (fun _ k9 => g_ift rfl (show ¬ (1 : Int32) = (0 : Int32) from by decide) k9) ?_
    refine gp_n 2 (j' := 29) (lv' := [some (.ref 13), some (.int (nI c))]) (st' := [.ref 13, .int (nI c)]) (h' := (shT, pm_u2 (pm_u2 fi 13 6 ((fi 13 6) + 1)) 26 c v, fl, fr)) rfl ?_
    refine gp_of (fun _ k9 => g_getI (x := nI c) rfl (Or.inl rfl) rfl (by decide) (f15) k9) ?_
    refine gp_of (fun _ k9 => g_icf rfl (show ¬ (¬ (nI c) = (nI c)) from not_not_intro rfl) k9) ?_
    refine gp_n 2 (j' := 33) (lv' := [some (.ref 13), some (.int (nI c))]) (st' := [.int (nI c), .ref 13]) (h' := (shT, pm_u2 (pm_u2 fi 13 6 ((fi 13 6) + 1)) 26 c v, fl, fr)) rfl ?_
    refine gp_of (fun _ k9 => g_callv (y := 100) (as := [.ref 13, .int (nI c)]) (st' := []) rfl rfl (e2) k9) ?_
    refine gp_n 2 (j' := 39) (lv' := [some (.ref 13), some (.int (nI c))]) (st' := [.ref 13]) (h' := (shT, fi2, fl2, fr2)) rfl ?_
    refine gp_of (fun _ k9 => g_getR (q' := 22) rfl rfl (by decide) kT k9) ?_
    refine gp_of (fun _ k9 => g_getR (q' := 23) rfl rfl (by decide) t0 k9) ?_
    refine gp_n 2 (j' := 43) (lv' := [some (.ref 13), some (.int (nI c))]) (st' := [.ref 13, .int (nI c), .ref 23]) (h' := (shT, fi2, fl2, fr2)) rfl ?_
    refine gp_of (fun _ k9 => g_getR (q' := 18) rfl rfl (by decide) k2 k9) ?_
    refine gp_of (fun _ k9 => g_getI (x := nI 1) rfl (Or.inl rfl) rfl (by decide) (cP) k9) ?_
    refine gp_of (fun _ k9 => g_iast (k := c) rfl rfl (rfl) (by omega) (by decide) k9) ?_
    refine gp_done (g_vret rfl) ?_
    rfl
  obtain ⟨I3, F3⟩ := iv1 _ ev
  have w : ∀ p s, ¬ p = 23 → ph_i (ph_s h2, pm_u2 (ph_i h2) 23 c (nI 1), ph_l h2, ph_r h2) p s = ph_i h2 p s := fun p s z => wl_ne (by omega)
  exact ⟨_, ev, ⟨18, by decide, rdI_cg (h := h2) (by decide) (fun p s z1 z2 => ⟨w p s (by omega), rfl⟩) rfl rfl q1, rwI_cg (h := h2) (by decide) (fun p s z1 z2 => w p s (by omega)) (fun s => w 27 s (by decide)) q2⟩, I3, F3⟩
/-- readNodes, whatever decide leaves -/
theorem rnG_go {m c most : Nat} {K : Int64} {F : Int32} {S : Nat → Int32} {x : RSt} {Q : PmH → Prop} (hP : x.1 ≤ 8) (hm : m ≤ 6) (hde : ∀ h, HI hdT shT h → RDs m S x c 0 h → cnI K m most F h → ∃ h', Ev pmT 97 [.ref 13, .int (nI c)] h none h' ∧ Q h' ∧ HI hdT shT h' ∧ fram (in_w iN_106) h h') : ∀ (l : Nat) (h : PmH), l ≤ m → HI hdT shT h → RDs m S x c l h → (∀ i, i < l → c.testBit i = false) → cnI K m most F h → ∃ h', Go pmT none cd_85 13 [some (.ref 13), some (.int (nI c)), some (.int (nI l))] [] h (some (.int 1), h') ∧ Q h' ∧ HI hdT shT h' ∧ fram (in_w iN_107) h h' := by
  intro l
  induction l with
  | zero =>
    intro h hl hI hx hb hn
    obtain ⟨h', e1, q1, I1, F1⟩ := hde h hI hx hn
    refine ⟨h', ?_, q1, I1, fram.up (by decide) F1⟩
    have c14 := hn.2.2.1
    clear q1 F1 hde
    obtain ⟨S2, fi2, fl2, fr2⟩ := h'
    have s2 : S2 = shT := I1.1
    subst s2
    obtain ⟨S, fi, fl, fr⟩ := h
    have hS : S = shT := hI.1
    subst hS
    have c14 : fi 13 14 = 0 := c14
    refine go_of ?_
    refine gp_n 1 (j' := 14) (lv' := [some (.ref 13), some (.int (nI c)), some (.int (nI 0))]) (st' := [.int (nI 0)]) (h' := (shT, fi, fl, fr)) rfl ?_
    refine gp_of (fun _ k9 => g_ift rfl (show (nI 0) ≤ (0 : Int32) from Int32.le_refl _) k9) ?_
    refine gp_n 1 (j' := 35) (lv' := [some (.ref 13), some (.int (nI c)), some (.int (nI 0))]) (st' := [.ref 13]) (h' := (shT, fi, fl, fr)) rfl ?_
    refine gp_of (fun _ k9 => g_getI (x := 0) rfl (Or.inr rfl) rfl (by decide) (c14) k9) ?_
    refine gp_of (fun _ k9 => g_ift rfl (show (0 : Int32) = (0 : Int32) from by decide) k9) ?_
    refine gp_n 2 (j' := 44) (lv' := [some (.ref 13), some (.int (nI c)), some (.int (nI 0))]) (st' := [.int (nI c), .ref 13]) (h' := (shT, fi, fl, fr)) rfl ?_
    refine gp_of (fun _ k9 => g_callv (y := 97) (as := [.ref 13, .int (nI c)]) (st' := []) rfl rfl (e1) k9) ?_
    refine gp_n 1 (j' := 46) (lv' := [some (.ref 13), some (.int (nI c)), some (.int (nI 0))]) (st' := [.int 1]) (h' := (shT, fi2, fl2, fr2)) rfl ?_
    refine gp_done (g_ret rfl) ?_
    rfl
  | succ l ih =>
    intro h hl hI hx hb hn
    obtain ⟨h1, e1, x1, w1, I1, F1⟩ := rl_evE hI hx hP hm (by omega) (hb l (by omega))
    obtain ⟨h2, e2, q1, I2, F2⟩ := ih h1 (by omega) I1 x1 (fun i hi => hb i (by omega)) (cnI_fr (by decide) F1 hn)
    refine ⟨h2, ?_, q1, I2, fram.tr (fram.up (by decide) F1) F2⟩
    have c14 := hn.2.2.1
    have np : nI (l + 1) - 1 = nI l := nI_pred l
    have nd := nI_dec l
    clear q1 F1 F2 x1 w1 hx hn ih hde
    obtain ⟨S2, fi2, fl2, fr2⟩ := h1
    have s2 : S2 = shT := I1.1
    subst s2
    obtain ⟨S, fi, fl, fr⟩ := h
    have hS : S = shT := hI.1
    subst hS
    have c14 : fi 13 14 = 0 := c14
    refine go_of ?_
    refine gp_n 1 (j' := 14) (lv' := [some (.ref 13), some (.int (nI c)), some (.int (nI (l + 1)))]) (st' := [.int (nI (l + 1))]) (h' := (shT, fi, fl, fr)) rfl ?_
    refine gp_of (fun _ k9 => g_iff rfl (show ¬ ((nI (l + 1)) ≤ (0 : Int32)) from nI_nle (by omega) (by omega)) k9) ?_
    refine gp_n 1 (j' := 16) (lv' := [some (.ref 13), some (.int (nI c)), some (.int (nI (l + 1)))]) (st' := [.ref 13]) (h' := (shT, fi, fl, fr)) rfl ?_
    refine gp_of (fun _ k9 => g_getI (x := 0) rfl (Or.inr rfl) rfl (by decide) (c14) k9) ?_
    refine gp_of (fun _ k9 => g_ift rfl (show (0 : Int32) = (0 : Int32) from by decide) k9) ?_
    refine gp_n 4 (j' := 31) (lv' := [some (.ref 13), some (.int (nI c)), some (.int (nI (l + 1)))]) (st' := [.int ((nI (l + 1)) - 1), .ref 13]) (h' := (shT, fi, fl, fr)) rfl ?_
    rw [np]
    refine gp_of (fun _ k9 => g_callv (y := 94) (as := [.ref 13, .int (nI l)]) (st' := []) rfl rfl (e1) k9) ?_
    refine gp_n 2 (j' := 13) (lv' := [some (.ref 13), some (.int (nI c)), some (.int ((nI (l + 1)) + (-1)))]) (st' := []) (h' := (shT, fi2, fl2, fr2)) rfl ?_
    rw [nd]
    exact gp_done e2 rfl
theorem rnG_ev {m c most : Nat} {K : Int64} {F : Int32} {S : Nat → Int32} {x : RSt} {Q : PmH → Prop} {h : PmH} (hP : x.1 ≤ 8) (hm : m ≤ 6) (hc : c < 2 ^ m) (hde : ∀ h, HI hdT shT h → RDs m S x c 0 h → cnI K m most F h → ∃ h', Ev pmT 97 [.ref 13, .int (nI c)] h none h' ∧ Q h' ∧ HI hdT shT h' ∧ fram (in_w iN_106) h h') (hI : HI hdT shT h) (hx : (c = 0 ∧ RDs m S x 0 m h) ∨ (0 < c ∧ RDs m S x (c - 1) 0 h)) (hn : cnI K m most F h) : ∃ h', Ev pmT 85 [.ref 13, .int (nI c)] h (some (.int 1)) h' ∧ Q h' ∧ HI hdT shT h' ∧ fram (in_w iN_107) h h' := by
  have p6 := pw_6 m (by omega)
  have c12 := hn.1
  have cm := hn.2.2.2.2.2.1
  rcases hx with ⟨rfl, hx⟩ | ⟨h0, hx⟩
  · obtain ⟨h', e1, q1, I1, F1⟩ := rnG_go hP hm hde m h (Nat.le_refl _) hI hx (fun i _ => Nat.zero_testBit i) hn
    refine ⟨h', ?_, q1, I1, F1⟩
    clear q1 F1 hx hn hde
    refine Ev.of (es := cd_85) (ml := 3) (lv := [some (.ref 13), some (.int (nI 0)), none]) rfl rfl rfl ?_
    obtain ⟨S, fi, fl, fr⟩ := h
    have hS : S = shT := hI.1
    subst hS
    have c12 : fr 13 12 = some 1 := c12
    have cm : fi 1 0 = nI m := cm
    refine go_of ?_
    refine gp_n 1 (j' := 1) (lv' := [some (.ref 13), some (.int (nI 0)), none]) (st' := [.ref 13]) (h' := (shT, fi, fl, fr)) rfl ?_
    refine gp_of (fun _ k9 => g_getR (q' := 1) rfl rfl (by decide) c12 k9) ?_
    refine gp_of (fun _ k9 => g_getI (x := nI m) rfl (Or.inl rfl) rfl (by decide) (cm) k9) ?_
    refine gp_n 2 (j' := 5) (lv' := [some (.ref 13), some (.int (nI 0)), some (.int (nI m))]) (st' := [.int (nI 0)]) (h' := (shT, fi, fl, fr)) rfl ?_
    refine gp_of (fun _ k9 => g_ift rfl (show (nI 0) = (0 : Int32) from rfl) k9) ?_
    exact gp_done e1 rfl
  · obtain ⟨t1, t2, t3, t4, t5, t6⟩ := tz_1 c (by omega) h0
    have tm : tzN c < m := by
      refine Decidable.byContradiction (fun z => ?_)
      have := pw2_le (a := m) (b := tzN c) (by omega)
      omega
    have hx2 : RDs m S x c (tzN c + 1) h := by
      obtain ⟨A, hA, a1, a2⟩ := hx
      refine ⟨A, hA, a1, fun l z1 z2 p hp => ?_⟩
      obtain ⟨r, r1, r2, r3⟩ := a2 l (by omega) z2 p hp
      refine ⟨r, r1, r2, fun j hj => (r3 j hj).trans ?_⟩
      rw [ndL_cg (u' := bl (x.2.1 p)) (c' := c) (m - l) l (by omega) (tz_2 c (by omega) h0 l (by omega) (by omega)) (fun _ _ => rfl)]
    obtain ⟨h1, e1, x1, w1, I1, F1⟩ := rr_evE hI hx2 hP hm tm t3 t5 (by omega)
    obtain ⟨h2, e2, q1, I2, F2⟩ := rnG_go hP hm hde (tzN c) h1 (by omega) I1 x1 t4 (cnI_fr (by decide) F1 hn)
    refine ⟨h2, ?_, q1, I2, fram.tr (fram.up (by decide) F1) F2⟩
    have nz : Ev pmT 86 [.int (nI c)] h (some (.int (nI (tzN c)))) h := by
      rw [← t2]
      exact nzf_ev
    have nc : ¬ nI c = 0 := nI_ne0 h0 (by omega)
    clear q1 F1 F2 x1 w1 hx hx2 hn hde
    refine Ev.of (es := cd_85) (ml := 3) (lv := [some (.ref 13), some (.int (nI c)), none]) rfl rfl rfl ?_
    obtain ⟨S2, fi2, fl2, fr2⟩ := h1
    have s2 : S2 = shT := I1.1
    subst s2
    obtain ⟨S, fi, fl, fr⟩ := h
    have hS : S = shT := hI.1
    subst hS
    have c12 : fr 13 12 = some 1 := c12
    have cm : fi 1 0 = nI m := cm
    refine go_of ?_
    refine gp_n 1 (j' := 1) (lv' := [some (.ref 13), some (.int (nI c)), none]) (st' := [.ref 13]) (h' := (shT, fi, fl, fr)) rfl ?_
    refine gp_of (fun _ k9 => g_getR (q' := 1) rfl rfl (by decide) c12 k9) ?_
    refine gp_of (fun _ k9 => g_getI (x := nI m) rfl (Or.inl rfl) rfl (by decide) (cm) k9) ?_
    refine gp_n 2 (j' := 5) (lv' := [some (.ref 13), some (.int (nI c)), some (.int (nI m))]) (st' := [.int (nI c)]) (h' := (shT, fi, fl, fr)) rfl ?_
    refine gp_of (fun _ k9 => g_iff rfl (show ¬ ((nI c) = (0 : Int32)) from nc) k9) ?_
    refine gp_n 1 (j' := 7) (lv' := [some (.ref 13), some (.int (nI c)), some (.int (nI m))]) (st' := [.int (nI c)]) (h' := (shT, fi, fl, fr)) rfl ?_
    refine gp_of (fun _ k9 => g_call (y := 86) (as := [.int (nI c)]) (st' := []) rfl rfl (nz) k9) ?_
    refine gp_n 4 (j' := 12) (lv' := [some (.ref 13), some (.int (nI c)), some (.int (nI (tzN c)))]) (st' := [.int (nI c), .int (nI (tzN c)), .ref 13]) (h' := (shT, fi, fl, fr)) rfl ?_
    refine gp_of (fun _ k9 => g_callv (y := 87) (as := [.ref 13, .int (nI (tzN c)), .int (nI c)]) (st' := []) rfl rfl (e1) k9) ?_
    exact gp_done e2 rfl
/-- reading with a list of 1, the bit of channel F turned -/
def rdF (K : Int64) (m : Nat) (S : Nat → Int32) (F : Nat) : Nat → RSt
  | 0 => (1, (fun _ => 0), fun _ => 0)
  | i + 1 => if i = F then tkS m S i (rdF K m S F i) else rdS (bl K i) m S 1 i (rdF K m S F i)
theorem rdF_P {K : Int64} {m : Nat} {S : Nat → Int32} {F : Nat} : ∀ i, (rdF K m S F i).1 = 1
  | 0 => rfl
  | i + 1 => by
    have ih := rdF_P (K := K) (m := m) (S := S) (F := F) i
    rw [rdF]
    split
    · rfl
    · unfold rdS
      split
      · show min _ _ = 1
        omega
      · exact ih
theorem rdF_B {K : Int64} {m : Nat} {S : Nat → Int32} {F : Nat} (hF : bl K F = true) : ∀ i, i ≤ 64 → ∀ p t, t < 64 → bl ((rdF K m S F i).2.1 p) t = true → t < i ∧ bl K t = true
  | 0, _, p, t, ht, h => by
    have h : bl 0 t = true := h
    rw [bl_0 t ht] at h
    cases h
  | i + 1, hi, p, t, ht, h => by
    have ih := rdF_B (K := K) (m := m) (S := S) hF i (by omega)
    rw [rdF] at h
    by_cases e : i = F
    · rw [if_pos e] at h
      have h : bl (bitI _ i _) t = true := h
      rw [bitI_bl (by omega) ht] at h
      rcases Bool.or_eq_true_iff.mp h with z | z
      · have := ih _ t ht z
        exact ⟨by omega, this.2⟩
      · have e2 := of_decide_eq_true (Bool.and_eq_true_iff.mp z).2
        rw [e2, e]
        exact ⟨by omega, hF⟩
    · rw [if_neg e] at h
      unfold rdS at h
      cases hk : bl K i
      · rw [hk, if_neg (by decide)] at h
        have := ih p t ht h
        exact ⟨by omega, this.2⟩
      · rw [hk, if_pos rfl] at h
        have h : bl (bitI _ i _) t = true := h
        rw [bitI_bl (by omega) ht] at h
        rcases Bool.or_eq_true_iff.mp h with z | z
        · have := ih _ t ht z
          exact ⟨by omega, this.2⟩
        · have e := of_decide_eq_true (Bool.and_eq_true_iff.mp z).2
          rw [e]
          exact ⟨by omega, hk⟩
def rgF (K : Int64) (m : Nat) (S : Nat → Int32) (F c : Nat) (h : PmH) : Prop := (c = 0 ∧ RDs m S (rdF K m S F c) 0 m h) ∨ (0 < c ∧ RDs m S (rdF K m S F c) (c - 1) 0 h)
theorem rgF_st {m c F : Nat} {K : Int64} {S : Nat → Int32} {h : PmH} (hF : bl K F = true) (hF6 : F < 64) (hm : m ≤ 6) (hc : c < 2 ^ m) (hS : ∀ s, s < 64 → -127 ≤ (S s).toInt ∧ (S s).toInt ≤ 127) (hI : HI hdT shT h) (hx : rgF K m S F c h) (hn : cnI K m 1 (nI F) h) : ∃ h', Ev pmT 85 [.ref 13, .int (nI c)] h (some (.int 1)) h' ∧ rgF K m S F (c + 1) h' ∧ cnI K m 1 (nI F) h' ∧ HI hdT shT h' ∧ fram (in_w iN_107) h h' := by
  have p6 := pw_6 m (by omega)
  have hP := rdF_P (K := K) (m := m) (S := S) (F := F) c
  obtain ⟨h', e1, q1, I1, F1⟩ := rnG_ev (Q := fun h' => RDs m S (rdF K m S F (c + 1)) c 0 h') (by omega) hm hc (fun h hI hx hn => by
    rw [rdF]
    by_cases e : c = F
    · rw [if_pos e]
      obtain ⟨A, rfl | rfl, a1, a2⟩ := hx
      · exact deF_14 hI a1 a2 hP hn.1 (by rw [e]; exact hn.2.2.2.1) hn.2.2.2.2.1 (by rw [e]; exact hF) hm (by omega) hS
      · exact deF_18 hI a1 a2 hP hn.1 (by rw [e]; exact hn.2.2.2.1) hn.2.2.2.2.1 (by rw [e]; exact hF) hm (by omega) hS
    · rw [if_neg e]
      obtain ⟨h', z1, z2, z3, z4, z5, z6, z7, z8⟩ := de_ev hI hx (by omega) (by omega) hn.1 hn.2.1 hn.2.2.2.1 (fun z => e ((nI_eq (by omega) (by omega)).mp z)) hn.2.2.2.2.1 (by decide) hm (by omega) hS
      exact ⟨h', z1, z2, z7, z8⟩) hI hx hn
  exact ⟨h', e1, Or.inr ⟨Nat.succ_pos c, q1⟩, cnI_fr (by decide) F1 hn, I1, F1⟩
