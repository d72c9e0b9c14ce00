/-! THE READER'S TWO SETS OF PATHS STAY TWO, however it reads -/
def pnT (s : Int32) : Bool → Int32
  | false => if 0 < -s then -s else 0
  | true => if 0 < s then s else 0
theorem pnT_ev {s : Int32} {t : Bool} {h : PmH} : Ev pmT 77 [.int s, .int (b01 t)] h (some (.int (pnT s t))) h := by
  refine Ev.of (es := cd_77) (ml := 3) (lv := [some (.int s), some (.int (b01 t)), none]) rfl rfl rfl ?_
  refine go_of ?_
  cases t
  · rw [show pnT s false = if 0 < -s then -s else 0 from rfl]
    show GoP pmT none cd_77 0 [some (.int s), some (.int 0), none] _ _ _
    by_cases h0 : 0 < -s
    · rw [if_pos h0]
      refine gp_n 1 (j' := 1) (lv' := [some (.int s), some (.int 0), none]) (st' := [.int 0]) (h' := h) rfl ?_
      refine gp_of (fun _ k9 => g_iff rfl (show ¬ (¬ (0 : Int32) = (0 : Int32)) from by decide) k9) ?_
      refine gp_n 5 (j' := 8) (lv' := [some (.int s), some (.int 0), some (.int (-s))]) (st' := [.int (-s)]) (h' := h) rfl ?_
      refine gp_of (fun _ k9 => g_iff rfl (show ¬ ((-s) ≤ (0 : Int32)) from Int32.not_le.mpr h0) k9) ?_
      refine gp_n 2 (j' := 12) (lv' := [some (.int s), some (.int 0), some (.int (-s))]) (st' := [.int (-s)]) (h' := h) rfl ?_
      refine gp_done (g_ret rfl) ?_
      rfl
    · rw [if_neg h0]
      refine gp_n 1 (j' := 1) (lv' := [some (.int s), some (.int 0), none]) (st' := [.int 0]) (h' := h) rfl ?_
      refine gp_of (fun _ k9 => g_iff rfl (show ¬ (¬ (0 : Int32) = (0 : Int32)) from by decide) k9) ?_
      refine gp_n 5 (j' := 8) (lv' := [some (.int s), some (.int 0), some (.int (-s))]) (st' := [.int (-s)]) (h' := h) rfl ?_
      refine gp_of (fun _ k9 => g_ift rfl (show (-s) ≤ (0 : Int32) from Int32.not_lt.mp h0) k9) ?_
      refine gp_n 1 (j' := 12) (lv' := [some (.int s), some (.int 0), some (.int (-s))]) (st' := [.int 0]) (h' := h) rfl ?_
      refine gp_done (g_ret rfl) ?_
      rfl
  · rw [show pnT s true = if 0 < s then s else 0 from rfl]
    show GoP pmT none cd_77 0 [some (.int s), some (.int 1), none] _ _ _
    by_cases h0 : 0 < s
    · rw [if_pos h0]
      refine gp_n 1 (j' := 1) (lv' := [some (.int s), some (.int 1), none]) (st' := [.int 1]) (h' := h) rfl ?_
      refine gp_of (fun _ k9 => g_ift rfl (show ¬ (1 : Int32) = (0 : Int32) from by decide) k9) ?_
      refine gp_n 3 (j' := 8) (lv' := [some (.int s), some (.int 1), some (.int s)]) (st' := [.int s]) (h' := h) rfl ?_
      refine gp_of (fun _ k9 => g_iff rfl (show ¬ (s ≤ (0 : Int32)) from Int32.not_le.mpr h0) k9) ?_
      refine gp_n 2 (j' := 12) (lv' := [some (.int s), some (.int 1), some (.int s)]) (st' := [.int s]) (h' := h) rfl ?_
      refine gp_done (g_ret rfl) ?_
      rfl
    · rw [if_neg h0]
      refine gp_n 1 (j' := 1) (lv' := [some (.int s), some (.int 1), none]) (st' := [.int 1]) (h' := h) rfl ?_
      refine gp_of (fun _ k9 => g_ift rfl (show ¬ (1 : Int32) = (0 : Int32) from by decide) k9) ?_
      refine gp_n 3 (j' := 8) (lv' := [some (.int s), some (.int 1), some (.int s)]) (st' := [.int s]) (h' := h) rfl ?_
      refine gp_of (fun _ k9 => g_ift rfl (show s ≤ (0 : Int32) from Int32.not_lt.mp h0) k9) ?_
      refine gp_n 1 (j' := 12) (lv' := [some (.int s), some (.int 1), some (.int s)]) (st' := [.int 0]) (h' := h) rfl ?_
      refine gp_done (g_ret rfl) ?_
      rfl
theorem hi_n {h : PmH} {p c : Nat} {hi : Nat} (hI : HI hdT shT h) {t n : Nat} (hs : shT[p]? = some (t, n)) (hc : c < n) (hd : hd_at hdT shT p c = (0, 0, (hi : Int), [])) : ∃ k, k ≤ hi ∧ ph_i h p c = nI k := by
  have := hI.2 p c t n hs hc
  rw [hd] at this
  have this : 0 ≤ (ph_i h p c).toInt ∧ (ph_i h p c).toInt ≤ (hi : Int) := this
  obtain ⟨k, e1, e2, -⟩ := i32_nI (y := ph_i h p c) this.1
  exact ⟨k, by omega, e1⟩
theorem hd17 (s : Nat) : hd_at hdT shT 17 s = (0, 0, ((7 : Nat) : Int), []) := by
  show ([(0, 0, 7, [])] : List (Nat × Int × Int × List Nat)).getD (s % 1) (9, 0, 0, []) = _
  rw [Nat.mod_one]
  rfl
theorem hd21 (s : Nat) : hd_at hdT shT 21 s = (0, 0, ((7 : Nat) : Int), []) := by
  show ([(0, 0, 7, [])] : List (Nat × Int × Int × List Nat)).getD (s % 1) (9, 0, 0, []) = _
  rw [Nat.mod_one]
  rfl
theorem spw_14 {h : PmH} {c : Nat} (hI : HI hdT shT h) (k0 : ph_r h 13 0 = some 14) (kn : ph_r h 13 1 = some 18) (hc : c < 64) : ∃ h', Ev pmT 101 [.ref 13, .int (nI c)] h none h' ∧ RD h' ∧ HI hdT shT h' ∧ fram (in_w iN_105) h h' := by
  have kB : ph_r h 14 1 = some 15 := hi_r hI rfl rfl (by decide)
  have k2 : ph_r h 14 2 = some 16 := hi_r hI rfl rfl (by decide)
  have k3 : ph_r h 14 3 = some 17 := hi_r hI rfl rfl (by decide)
  have n1 : ph_r h 18 1 = some 19 := hi_r hI rfl rfl (by decide)
  have n2 : ph_r h 18 2 = some 20 := hi_r hI rfl rfl (by decide)
  have n3 : ph_r h 18 3 = some 21 := hi_r hI rfl rfl (by decide)
  have kS : ph_r h 13 9 = some 27 := hi_r hI rfl rfl (by decide)
  have k10 : ph_r h 13 10 = some 28 := hi_r hI rfl rfl (by decide)
  have k11 : ph_r h 13 11 = some 29 := hi_r hI rfl rfl (by decide)
  have kT : ph_r h 13 2 = some 22 := hi_r hI rfl rfl (by decide)
  have t1 : ph_r h 22 1 = some 24 := hi_r hI rfl rfl (by decide)
  have t2 : ph_r h 22 2 = some 25 := hi_r hI rfl rfl (by decide)
  obtain ⟨P, hP, cP⟩ := hi_n (hi := 8) hI (p := 14) (c := 0) rfl (by decide) rfl
  obtain ⟨most, hmo, c13⟩ := hi_n (hi := 8) hI (p := 13) (c := 13) rfl (by decide) rfl
  have rows : ∀ p, p < P → ∃ r, r < 8 ∧ ph_i h 17 (8 * 0 + p) = nI r := fun p hp => by
    obtain ⟨r, r1, r2⟩ := hi_n (hi := 7) hI (p := 17) (c := 8 * 0 + p) rfl (by omega) (hd17 _)
    exact ⟨r, by omega, r2⟩
  have iv1 := fun h' e => iv_s (v := none) (h' := h') (as := [.ref 13, .int (nI c)]) vN_105 rfl (fun _ _ => gz_c (gz_r (by decide)) (gz_c (gz_i (by rw [nI_toInt (by omega)]; omega) (by rw [nI_toInt (by omega)]; omega)) gz_n)) hI e
  obtain ⟨S, fi, fl, fr⟩ := h
  have hS : S = shT := hI.1
  subst hS
  have rows : ∀ p, p < P → ∃ r, r < 8 ∧ fi 17 (8 * 0 + p) = nI r ∧ fi 27 (ixS 0 r + 0) = fi 27 (ixS 0 ((fi 17 (8 * 0 + p)).toInt.toNat) + 0) := fun p hp => by
    obtain ⟨r, r1, r2⟩ := rows p hp
    have r2 : fi 17 (8 * 0 + p) = nI r := r2
    refine ⟨r, r1, r2, ?_⟩
    rw [r2, nI_toInt (by omega), Int.toNat_natCast]
  have sr := srt_F (fun q => (fi 16 (q / 2) + pnT (fi 27 (ixS 0 ((fi 17 (8 * 0 + q / 2)).toInt.toNat) + 0)) (decide (q % 2 = 1))).toInt) (2 * P)
  obtain ⟨f1, a1, a2, a3, a4⟩ := sp1_14 (c := c) (P := P) (pen := pnT) (Mt := fi 16) (s := fun p => fi 27 (ixS 0 ((fi 17 (8 * 0 + p)).toInt.toNat) + 0)) (Kc := fun q => fi 16 (q / 2) + pnT (fi 27 (ixS 0 ((fi 17 (8 * 0 + q / 2)).toInt.toNat) + 0)) (decide (q % 2 = 1))) (l4 := none) (l5 := none) (l6 := none) (fl := fl) hP k0 k2 k3 kS k10 k11 (fun _ _ _ _ => pnT_ev) (fun _ => rfl) (2 * P) 0 fi (by omega) (fun _ _ => rfl) rows (fun t ht => absurd ht (Nat.not_lt_zero t)) (fun t ht => absurd ht (Nat.not_lt_zero t))
  have g1 : ∀ q s, ¬ q = 28 → ¬ q = 29 → ¬ q = 18 → pm_u2 f1 18 0 0 q s = fi q s := fun q s z1 z2 z3 => (wl_ne (fun z => z3 z.1)).trans (a3 q s z1 z2)
  have cl := cl_ev_18 (fi := f1) (fl := fl) (fr := fr)
  obtain ⟨f2, l2, b0, b1, b2, b3, b4⟩ := sp2_14 (c := c) (P := P) (most := most) (Mt := fi 16) (Kc := fun q => fi 16 (q / 2) + pnT (fi 27 (ixS 0 ((fi 17 (8 * 0 + q / 2)).toInt.toNat) + 0)) (decide (q % 2 = 1))) (B := fl 15) (oo := ordF (fun q => (fi 16 (q / 2) + pnT (fi 27 (ixS 0 ((fi 17 (8 * 0 + q / 2)).toInt.toNat) + 0)) (decide (q % 2 = 1))).toInt) (2 * P)) (R0 := fun l p => fi 17 (8 * l + p)) (fr := fr) hP hmo hc k0 kn kB k3 n1 n2 n3 k10 k11 kT t1 t2 sr.1 (min (2 * P) most) 0 (pm_u2 f1 18 0 0) fl (by omega) ((g1 _ _ (by decide) (by decide) (by decide)).trans c13) (fun t ht => (show pm_u2 f1 18 0 0 28 t = f1 28 t from wl_ne (by omega)).trans (a1 t ht)) (fun t ht => (show pm_u2 f1 18 0 0 29 t = f1 29 t from wl_ne (by omega)).trans (a2 t ht)) (fun _ _ => rfl) (fun l p _ _ => g1 _ _ (by decide) (by decide) (by decide)) u2_eq
  have ev : Ev pmT 101 [.ref 13, .int (nI c)] (shT, fi, fl, fr) none (shT, f2, l2, pm_u2 (pm_u2 fr 13 0 (some 18)) 13 1 (some 14)) := by
    refine Ev.of (es := cd_101) (ml := 7) (lv := [some (.ref 13), some (.int (nI c)), none, none, none, none, none]) rfl rfl rfl ?_
    have e2 : (2 : Int32) * nI P = nI (2 * P) := nI_mul 2 P
    have k0 : fr 13 0 = some 14 := k0
    have kn : fr 13 1 = some 18 := kn
    have cP : fi 14 0 = nI P := cP
    have g := a4 (none, (shT, f2, l2, pm_u2 (pm_u2 fr 13 0 (some 18)) 13 1 (some 14)))
    have b5 := b4 (none, (shT, f2, l2, pm_u2 (pm_u2 fr 13 0 (some 18)) 13 1 (some 14)))
    clear a4 b4 b0 b1 b2 b3 g1 sr a1 a2 a3 iv1 rows
    rw [← e2] at g b5
    generalize nI P = Q at *
    generalize nI (min (2 * P) most) = MM at *
    have b5 := b5 (fun l4 l5 l6 => by
      refine go_of ?_
      refine gp_n 1 (j' := 99) (lv' := [some (.ref 13), some (.int (nI c)), some (.int (2 * Q)), some (.int MM), l4, l5, l6]) (st' := [.ref 13]) (h' := (shT, f2, l2, fr)) rfl ?_
      refine gp_of (fun _ k9 => g_getR (q' := 14) rfl rfl (by decide) k0 k9) ?_
      refine gp_n 3 (j' := 103) (lv' := [some (.ref 13), some (.int (nI c)), some (.int (2 * Q)), some (.ref 14), l4, l5, l6]) (st' := [.ref 13, .ref 13]) (h' := (shT, f2, l2, fr)) rfl ?_
      refine gp_of (fun _ k9 => g_getR (q' := 18) rfl rfl (by decide) kn k9) ?_
      refine gp_of (fun _ k9 => g_putR rfl rfl (by decide) k9) ?_
      refine gp_n 2 (j' := 107) (lv' := [some (.ref 13), some (.int (nI c)), some (.int (2 * Q)), some (.ref 14), l4, l5, l6]) (st' := [.ref 14, .ref 13]) (h' := (shT, f2, l2, pm_u2 fr 13 0 (some 18))) rfl ?_
      refine gp_of (fun _ k9 => g_putR rfl rfl (by decide) k9) ?_
      refine gp_done (g_vret rfl) ?_
      rfl)
    have g := g (by
      refine go_of ?_
      refine gp_n 1 (j' := 42) (lv' := [some (.ref 13), some (.int (nI c)), some (.int (2 * Q)), some (.int (2 * Q)), none, none, none]) (st' := [.ref 13]) (h' := (shT, f1, fl, fr)) rfl ?_
      refine gp_of (fun _ k9 => g_getR (q' := 18) rfl rfl (by decide) kn k9) ?_
      refine gp_of (fun _ k9 => g_callv (y := 103) (as := [.ref 18]) (st' := []) rfl rfl (cl) k9) ?_
      refine gp_n 2 (j' := 46) (lv' := [some (.ref 13), some (.int (nI c)), some (.int (2 * Q)), some (.int (nI 0)), none, none, none]) (st' := []) (h' := (shT, (pm_u2 f1 18 0 0), fl, fr)) rfl ?_
      exact gp_done (b5 none none none) rfl)
    refine go_of ?_
    refine gp_n 2 (j' := 2) (lv' := [some (.ref 13), some (.int (nI c)), none, none, none, none, none]) (st' := [.ref 13, .int 2]) (h' := (shT, fi, fl, fr)) rfl ?_
    refine gp_of (fun _ k9 => g_getR (q' := 14) rfl rfl (by decide) k0 k9) ?_
    refine gp_of (fun _ k9 => g_getI (x := Q) rfl (Or.inl rfl) rfl (by decide) (cP) k9) ?_
    refine gp_n 4 (j' := 8) (lv' := [some (.ref 13), some (.int (nI c)), some (.int (2 * Q)), some (.int (nI 0)), none, none, none]) (st' := []) (h' := (shT, fi, fl, fr)) rfl ?_
    exact gp_done g rfl
  obtain ⟨I2, F2⟩ := iv1 _ ev
  exact ⟨_, ev, ⟨18, by decide, show pm_u2 (pm_u2 fr 13 0 (some 18)) 13 1 (some 14) 13 0 = some 18 from (wl_ne (by decide)).trans u2_eq, show pm_u2 (pm_u2 fr 13 0 (some 18)) 13 1 (some 14) 13 1 = some (32 - 18) from u2_eq⟩, I2, F2⟩
theorem spw_18 {h : PmH} {c : Nat} (hI : HI hdT shT h) (k0 : ph_r h 13 0 = some 18) (kn : ph_r h 13 1 = some 14) (hc : c < 64) : ∃ h', Ev pmT 101 [.ref 13, .int (nI c)] h none h' ∧ RD h' ∧ HI hdT shT h' ∧ fram (in_w iN_105) h h' := by
  have kB : ph_r h 18 1 = some 19 := hi_r hI rfl rfl (by decide)
  have k2 : ph_r h 18 2 = some 20 := hi_r hI rfl rfl (by decide)
  have k3 : ph_r h 18 3 = some 21 := hi_r hI rfl rfl (by decide)
  have n1 : ph_r h 14 1 = some 15 := hi_r hI rfl rfl (by decide)
  have n2 : ph_r h 14 2 = some 16 := hi_r hI rfl rfl (by decide)
  have n3 : ph_r h 14 3 = some 17 := hi_r hI rfl rfl (by decide)
  have kS : ph_r h 13 9 = some 27 := hi_r hI rfl rfl (by decide)
  have k10 : ph_r h 13 10 = some 28 := hi_r hI rfl rfl (by decide)
  have k11 : ph_r h 13 11 = some 29 := hi_r hI rfl rfl (by decide)
  have kT : ph_r h 13 2 = some 22 := hi_r hI rfl rfl (by decide)
  have t1 : ph_r h 22 1 = some 24 := hi_r hI rfl rfl (by decide)
  have t2 : ph_r h 22 2 = some 25 := hi_r hI rfl rfl (by decide)
  obtain ⟨P, hP, cP⟩ := hi_n (hi := 8) hI (p := 18) (c := 0) rfl (by decide) rfl
  obtain ⟨most, hmo, c13⟩ := hi_n (hi := 8) hI (p := 13) (c := 13) rfl (by decide) rfl
  have rows : ∀ p, p < P → ∃ r, r < 8 ∧ ph_i h 21 (8 * 0 + p) = nI r := fun p hp => by
    obtain ⟨r, r1, r2⟩ := hi_n (hi := 7) hI (p := 21) (c := 8 * 0 + p) rfl (by omega) (hd21 _)
    exact ⟨r, by omega, r2⟩
  have iv1 := fun h' e => iv_s (v := none) (h' := h') (as := [.ref 13, .int (nI c)]) vN_105 rfl (fun _ _ => gz_c (gz_r (by decide)) (gz_c (gz_i (by rw [nI_toInt (by omega)]; omega) (by rw [nI_toInt (by omega)]; omega)) gz_n)) hI e
  obtain ⟨S, fi, fl, fr⟩ := h
  have hS : S = shT := hI.1
  subst hS
  have rows : ∀ p, p < P → ∃ r, r < 8 ∧ fi 21 (8 * 0 + p) = nI r ∧ fi 27 (ixS 0 r + 0) = fi 27 (ixS 0 ((fi 21 (8 * 0 + p)).toInt.toNat) + 0) := fun p hp => by
    obtain ⟨r, r1, r2⟩ := rows p hp
    have r2 : fi 21 (8 * 0 + p) = nI r := r2
    refine ⟨r, r1, r2, ?_⟩
    rw [r2, nI_toInt (by omega), Int.toNat_natCast]
  have sr := srt_F (fun q => (fi 20 (q / 2) + pnT (fi 27 (ixS 0 ((fi 21 (8 * 0 + q / 2)).toInt.toNat) + 0)) (decide (q % 2 = 1))).toInt) (2 * P)
  obtain ⟨f1, a1, a2, a3, a4⟩ := sp1_18 (c := c) (P := P) (pen := pnT) (Mt := fi 20) (s := fun p => fi 27 (ixS 0 ((fi 21 (8 * 0 + p)).toInt.toNat) + 0)) (Kc := fun q => fi 20 (q / 2) + pnT (fi 27 (ixS 0 ((fi 21 (8 * 0 + q / 2)).toInt.toNat) + 0)) (decide (q % 2 = 1))) (l4 := none) (l5 := none) (l6 := none) (fl := fl) hP k0 k2 k3 kS k10 k11 (fun _ _ _ _ => pnT_ev) (fun _ => rfl) (2 * P) 0 fi (by omega) (fun _ _ => rfl) rows (fun t ht => absurd ht (Nat.not_lt_zero t)) (fun t ht => absurd ht (Nat.not_lt_zero t))
  have g1 : ∀ q s, ¬ q = 28 → ¬ q = 29 → ¬ q = 14 → pm_u2 f1 14 0 0 q s = fi q s := fun q s z1 z2 z3 => (wl_ne (fun z => z3 z.1)).trans (a3 q s z1 z2)
  have cl := cl_ev_14 (fi := f1) (fl := fl) (fr := fr)
  obtain ⟨f2, l2, b0, b1, b2, b3, b4⟩ := sp2_18 (c := c) (P := P) (most := most) (Mt := fi 20) (Kc := fun q => fi 20 (q / 2) + pnT (fi 27 (ixS 0 ((fi 21 (8 * 0 + q / 2)).toInt.toNat) + 0)) (decide (q % 2 = 1))) (B := fl 19) (oo := ordF (fun q => (fi 20 (q / 2) + pnT (fi 27 (ixS 0 ((fi 21 (8 * 0 + q / 2)).toInt.toNat) + 0)) (decide (q % 2 = 1))).toInt) (2 * P)) (R0 := fun l p => fi 21 (8 * l + p)) (fr := fr) hP hmo hc k0 kn kB k3 n1 n2 n3 k10 k11 kT t1 t2 sr.1 (min (2 * P) most) 0 (pm_u2 f1 14 0 0) fl (by omega) ((g1 _ _ (by decide) (by decide) (by decide)).trans c13) (fun t ht => (show pm_u2 f1 14 0 0 28 t = f1 28 t from wl_ne (by omega)).trans (a1 t ht)) (fun t ht => (show pm_u2 f1 14 0 0 29 t = f1 29 t from wl_ne (by omega)).trans (a2 t ht)) (fun _ _ => rfl) (fun l p _ _ => g1 _ _ (by decide) (by decide) (by decide)) u2_eq
  have ev : Ev pmT 101 [.ref 13, .int (nI c)] (shT, fi, fl, fr) none (shT, f2, l2, pm_u2 (pm_u2 fr 13 0 (some 14)) 13 1 (some 18)) := by
    refine Ev.of (es := cd_101) (ml := 7) (lv := [some (.ref 13), some (.int (nI c)), none, none, none, none, none]) rfl rfl rfl ?_
    have e2 : (2 : Int32) * nI P = nI (2 * P) := nI_mul 2 P
    have k0 : fr 13 0 = some 18 := k0
    have kn : fr 13 1 = some 14 := kn
    have cP : fi 18 0 = nI P := cP
    have g := a4 (none, (shT, f2, l2, pm_u2 (pm_u2 fr 13 0 (some 14)) 13 1 (some 18)))
    have b5 := b4 (none, (shT, f2, l2, pm_u2 (pm_u2 fr 13 0 (some 14)) 13 1 (some 18)))
    clear a4 b4 b0 b1 b2 b3 g1 sr a1 a2 a3 iv1 rows
    rw [← e2] at g b5
    generalize nI P = Q at *
    generalize nI (min (2 * P) most) = MM at *
    have b5 := b5 (fun l4 l5 l6 => by
      refine go_of ?_
      refine gp_n 1 (j' := 99) (lv' := [some (.ref 13), some (.int (nI c)), some (.int (2 * Q)), some (.int MM), l4, l5, l6]) (st' := [.ref 13]) (h' := (shT, f2, l2, fr)) rfl ?_
      refine gp_of (fun _ k9 => g_getR (q' := 18) rfl rfl (by decide) k0 k9) ?_
      refine gp_n 3 (j' := 103) (lv' := [some (.ref 13), some (.int (nI c)), some (.int (2 * Q)), some (.ref 18), l4, l5, l6]) (st' := [.ref 13, .ref 13]) (h' := (shT, f2, l2, fr)) rfl ?_
      refine gp_of (fun _ k9 => g_getR (q' := 14) rfl rfl (by decide) kn k9) ?_
      refine gp_of (fun _ k9 => g_putR rfl rfl (by decide) k9) ?_
      refine gp_n 2 (j' := 107) (lv' := [some (.ref 13), some (.int (nI c)), some (.int (2 * Q)), some (.ref 18), l4, l5, l6]) (st' := [.ref 18, .ref 13]) (h' := (shT, f2, l2, pm_u2 fr 13 0 (some 14))) rfl ?_
      refine gp_of (fun _ k9 => g_putR rfl rfl (by decide) k9) ?_
      refine gp_done (g_vret rfl) ?_
      rfl)
    have g := g (by
      refine go_of ?_
      refine gp_n 1 (j' := 42) (lv' := [some (.ref 13), some (.int (nI c)), some (.int (2 * Q)), some (.int (2 * Q)), none, none, none]) (st' := [.ref 13]) (h' := (shT, f1, fl, fr)) rfl ?_
      refine gp_of (fun _ k9 => g_getR (q' := 14) rfl rfl (by decide) kn k9) ?_
      refine gp_of (fun _ k9 => g_callv (y := 103) (as := [.ref 14]) (st' := []) rfl rfl (cl) k9) ?_
      refine gp_n 2 (j' := 46) (lv' := [some (.ref 13), some (.int (nI c)), some (.int (2 * Q)), some (.int (nI 0)), none, none, none]) (st' := []) (h' := (shT, (pm_u2 f1 14 0 0), fl, fr)) rfl ?_
      exact gp_done (b5 none none none) rfl)
    refine go_of ?_
    refine gp_n 2 (j' := 2) (lv' := [some (.ref 13), some (.int (nI c)), none, none, none, none, none]) (st' := [.ref 13, .int 2]) (h' := (shT, fi, fl, fr)) rfl ?_
    refine gp_of (fun _ k9 => g_getR (q' := 18) rfl rfl (by decide) k0 k9) ?_
    refine gp_of (fun _ k9 => g_getI (x := Q) rfl (Or.inl rfl) rfl (by decide) (cP) k9) ?_
    refine gp_n 4 (j' := 8) (lv' := [some (.ref 13), some (.int (nI c)), some (.int (2 * Q)), some (.int (nI 0)), none, none, none]) (st' := []) (h' := (shT, fi, fl, fr)) rfl ?_
    exact gp_done g rfl
  obtain ⟨I2, F2⟩ := iv1 _ ev
  exact ⟨_, ev, ⟨14, by decide, show pm_u2 (pm_u2 fr 13 0 (some 14)) 13 1 (some 18) 13 0 = some 14 from (wl_ne (by decide)).trans u2_eq, show pm_u2 (pm_u2 fr 13 0 (some 14)) 13 1 (some 18) 13 1 = some (32 - 14) from u2_eq⟩, I2, F2⟩
theorem spw {h : PmH} {c : Nat} (hI : HI hdT shT h) (hr : RD h) (hc : c < 64) : ∃ h', Ev pmT 101 [.ref 13, .int (nI c)] h none h' ∧ RD h' ∧ HI hdT shT h' ∧ fram (in_w iN_105) h h' := by
  obtain ⟨A, rfl | rfl, a1, a2⟩ := hr
  · exact spw_14 hI a1 a2 hc
  · exact spw_18 hI a1 a2 hc
theorem RD_fr {W : WSt} {h h' : PmH} (w0 : inW W 13 0 = false) (w1 : inW W 13 1 = false) (hf : fram W h h') (hr : RD h) : RD h' := by
  obtain ⟨A, hA, a1, a2⟩ := hr
  exact ⟨A, hA, (hf 13 0 w0).2.2.trans a1, (hf 13 1 w1).2.2.trans a2⟩
theorem RD_r {h h' : PmH} (e0 : ph_r h' 13 0 = ph_r h 13 0) (e1 : ph_r h' 13 1 = ph_r h 13 1) (hr : RD h) : RD h' := by
  obtain ⟨A, hA, a1, a2⟩ := hr
  exact ⟨A, hA, e0.trans a1, e1.trans a2⟩
theorem dw_ev {h : PmH} {c : Nat} (hI : HI hdT shT h) (hr : RD h) (c12 : ph_r h 13 12 = some 1) (hc : c < 64) : ∃ h', Ev pmT 97 [.ref 13, .int (nI c)] h none h' ∧ RD h' ∧ HI hdT shT h' ∧ fram (in_w iN_106) h h' := by
  have gz : ∀ (lv : PmL) (h' : PmH), gst lv h' ((in_a iN_106).map nt) [.ref 13, .int (nI c)] := fun _ _ => gz_c (gz_r (by decide)) (gz_c (gz_i (by rw [nI_toInt (by omega)]; omega) (by rw [nI_toInt (by omega)]; omega)) gz_n)
  obtain ⟨v, h', e1, I1, F1, p1⟩ := iv_ev vN_106 (as := [.ref 13, .int (nI c)]) rfl gz hI
  have main : EvP 97 [.ref 13, .int (nI c)] h (fun r => r.1 = none ∧ RD r.2) := by
    have kS : ph_r h 13 9 = some 27 := hi_r hI rfl rfl (by decide)
    have kU : ph_r h 13 3 = some 26 := hi_r hI rfl rfl (by decide)
    clear e1 I1 F1 p1 gz
    refine EvP.of (es := cd_97) (ml := 2) (lv := [some (.ref 13), some (.int (nI c))]) rfl rfl rfl ?_
    obtain ⟨S, fi, fl, fr⟩ := h
    have hS : S = shT := hI.1
    subst hS
    have c12 : fr 13 12 = some 1 := c12
    have kS : fr 13 9 = some 27 := kS
    have kU : fr 13 3 = some 26 := kU
    have I1 : HI hdT shT (shT, pm_u2 fi 13 6 (fi 13 6 + 1), fl, fr) := HI_wi hI (fun z => absurd z (by decide))
    have ps : ∃ r, r < 8 ∧ Ev pmT 88 [.ref 13, .int 0, .int 0] (shT, pm_u2 fi 13 6 (fi 13 6 + 1), fl, fr) (some (.int (nI (ixS 0 r)))) (shT, pm_u2 fi 13 6 (fi 13 6 + 1), fl, fr) := by
      obtain ⟨A, hA, a1, a2⟩ := hr
      rcases hA with rfl | rfl
      · obtain ⟨r, r1, r2⟩ := hi_n (hi := 7) I1 (p := 17) (c := 8 * 0 + 0) rfl (by decide) (hd17 _)
        exact ⟨r, by omega, ps_ev_14 (l := 0) (p := 0) (by decide) (by decide) (by omega) a1 (hi_r (p := 14) (c := 3) I1 rfl rfl (by decide)) r2⟩
      · obtain ⟨r, r1, r2⟩ := hi_n (hi := 7) I1 (p := 21) (c := 8 * 0 + 0) rfl (by decide) (hd21 _)
        exact ⟨r, by omega, ps_ev_18 (l := 0) (p := 0) (by decide) (by decide) (by omega) a1 (hi_r (p := 18) (c := 3) I1 rfl rfl (by decide)) r2⟩
    obtain ⟨r, r1, ps⟩ := ps
    have tp := ixS_top (l := 0) (r := r) (by decide) r1
    have tp : ixS 0 r < 1016 := by omega
    generalize ixS 0 r = ix at *
    generalize hy : pm_u2 fi 13 6 (fi 13 6 + 1) 27 ix = y
    have ab := abC_ev (a := y) (h := (shT, pm_u2 fi 13 6 (fi 13 6 + 1), fl, fr))
    generalize abS y = v at *
    have I2 : HI hdT shT (shT, pm_u2 (pm_u2 fi 13 6 (fi 13 6 + 1)) 26 c v, fl, fr) := HI_wi I1 (fun z => by rw [hd26] at z; exact absurd z (by decide))
    have kp := kp_ev_1 I2 (K := fl 1 7) rfl (i := c) (by omega)
    have r2 : RD (shT, pm_u2 (pm_u2 fi 13 6 (fi 13 6 + 1)) 26 c v, fl, fr) := RD_r rfl rfl hr
    have fin : ∀ h3 : PmH, HI hdT shT h3 → RD h3 → GoP pmT none cd_97 38 [some (.ref 13), some (.int (nI c))] [] h3 (fun r => r.1 = none ∧ RD r.2) := fun h3 I3 r3 => by
      have kT : ph_r h3 13 2 = some 22 := hi_r I3 rfl rfl (by decide)
      have t0 : ph_r h3 22 0 = some 23 := hi_r I3 rfl rfl (by decide)
      obtain ⟨A, hA, a1, a2⟩ := id r3
      obtain ⟨S3, f3, l3, x3⟩ := h3
      have s3 : S3 = shT := I3.1
      subst s3
      have kT : x3 13 2 = some 22 := kT
      have t0 : x3 22 0 = some 23 := t0
      have a1 : x3 13 0 = some A := a1
      rcases hA with rfl | rfl
      · 
        refine gp_n 1 (j' := 39) (lv' := [some (.ref 13), some (.int (nI c))]) (st' := [.ref 13]) (h' := (shT, f3, l3, x3)) rfl ?_
        refine gp_of (fun _ k9 => g_getR (q' := 22) rfl rfl (by decide) kT k9) ?_
        refine gp_of (fun _ k9 => g_getR (q' := 23) rfl rfl (by decide) t0 k9) ?_
        refine gp_n 2 (j' := 43) (lv' := [some (.ref 13), some (.int (nI c))]) (st' := [.ref 13, .int (nI c), .ref 23]) (h' := (shT, f3, l3, x3)) rfl ?_
        refine gp_of (fun _ k9 => g_getR (q' := 14) rfl rfl (by decide) a1 k9) ?_
        refine gp_of (fun _ k9 => g_getI (x := f3 14 0) rfl (Or.inl rfl) rfl (by decide) (rfl) k9) ?_
        refine gp_of (fun _ k9 => g_iast (k := c) rfl rfl (rfl) (by omega) (by decide) k9) ?_
        refine gp_done (g_vret rfl) ?_
        exact ⟨rfl, RD_r rfl rfl r3⟩
      · 
        refine gp_n 1 (j' := 39) (lv' := [some (.ref 13), some (.int (nI c))]) (st' := [.ref 13]) (h' := (shT, f3, l3, x3)) rfl ?_
        refine gp_of (fun _ k9 => g_getR (q' := 22) rfl rfl (by decide) kT k9) ?_
        refine gp_of (fun _ k9 => g_getR (q' := 23) rfl rfl (by decide) t0 k9) ?_
        refine gp_n 2 (j' := 43) (lv' := [some (.ref 13), some (.int (nI c))]) (st' := [.ref 13, .int (nI c), .ref 23]) (h' := (shT, f3, l3, x3)) rfl ?_
        refine gp_of (fun _ k9 => g_getR (q' := 18) rfl rfl (by decide) a1 k9) ?_
        refine gp_of (fun _ k9 => g_getI (x := f3 18 0) rfl (Or.inl rfl) rfl (by decide) (rfl) k9) ?_
        refine gp_of (fun _ k9 => g_iast (k := c) rfl rfl (rfl) (by omega) (by decide) k9) ?_
        refine gp_done (g_vret rfl) ?_
        exact ⟨rfl, RD_r rfl rfl r3⟩
    obtain ⟨vf, hf, ef, If, Ff, pf⟩ := iv_ev vN_99 (as := [.ref 13, .int (nI c)]) rfl (fun _ _ => gz_c (gz_r (by decide)) (gz_c (gz_i (by rw [nI_toInt (by omega)]; omega) (by rw [nI_toInt (by omega)]; omega)) gz_n)) I2
    have vf0 := pv_n rfl pf
    subst vf0
    obtain ⟨vo, ho, eo, Io, Fo, po⟩ := iv_ev vN_100 (as := [.ref 13, .int (nI c)]) rfl (fun _ _ => gz_c (gz_r (by decide)) (gz_c (gz_i (by rw [nI_toInt (by omega)]; omega) (by rw [nI_toInt (by omega)]; omega)) gz_n)) I2
    have vo0 := pv_n rfl po
    subst vo0
    obtain ⟨hs, es, rs, Is, Fs⟩ := spw I2 r2 hc
    have qf := fin hf If (RD_fr (by decide) (by decide) Ff r2)
    have qo := fin ho Io (RD_fr (by decide) (by decide) Fo r2)
    have qs := fin hs Is rs
    have ef : Ev pmT 98 [.ref 13, .int (nI c)] (shT, pm_u2 (pm_u2 fi 13 6 (fi 13 6 + 1)) 26 c v, fl, fr) none hf := ef
    have eo : Ev pmT 100 [.ref 13, .int (nI c)] (shT, pm_u2 (pm_u2 fi 13 6 (fi 13 6 + 1)) 26 c v, fl, fr) none ho := eo
    clear fin Ff Fo Fs pf po I1 I2 r2 hr
    refine gp_n 2 (j' := 2) (lv' := [some (.ref 13), some (.int (nI c))]) (st' := [.ref 13, .ref 13]) (h' := (shT, fi, fl, fr)) rfl ?_
    refine gp_of (fun _ k9 => g_getI (x := fi 13 6) rfl (Or.inl rfl) rfl (by decide) (rfl) k9) ?_
    refine gp_n 2 (j' := 5) (lv' := [some (.ref 13), some (.int (nI c))]) (st' := [.int ((fi 13 6) + 1), .ref 13]) (h' := (shT, fi, fl, fr)) rfl ?_
    refine gp_of (fun _ k9 => g_putI rfl (Or.inl rfl) rfl (by decide) k9) ?_
    refine gp_n 1 (j' := 7) (lv' := [some (.ref 13), some (.int (nI c))]) (st' := [.ref 13]) (h' := (shT, pm_u2 fi 13 6 ((fi 13 6) + 1), fl, fr)) rfl ?_
    refine gp_of (fun _ k9 => g_getR (q' := 26) rfl rfl (by decide) kU k9) ?_
    refine gp_n 2 (j' := 10) (lv' := [some (.ref 13), some (.int (nI c))]) (st' := [.ref 13, .int (nI c), .ref 26]) (h' := (shT, pm_u2 fi 13 6 ((fi 13 6) + 1), fl, fr)) rfl ?_
    refine gp_of (fun _ k9 => g_getR (q' := 27) rfl rfl (by decide) kS k9) ?_
    refine gp_n 3 (j' := 14) (lv' := [some (.ref 13), some (.int (nI c))]) (st' := [.int 0, .int 0, .ref 13, .ref 27, .int (nI c), .ref 26]) (h' := (shT, pm_u2 fi 13 6 ((fi 13 6) + 1), fl, fr)) rfl ?_
    refine gp_of (fun _ k9 => g_call (y := 88) (as := [.ref 13, .int 0, .int 0]) (st' := [.ref 27, .int (nI c), .ref 26]) rfl rfl (ps) k9) ?_
    refine gp_of (fun _ k9 => g_iald (k := ix) (x := y) rfl rfl (rfl) (by omega) (by decide) (hy) k9) ?_
    refine gp_of (fun _ k9 => g_call (y := 96) (as := [.int y]) (st' := [.int (nI c), .ref 26]) rfl rfl (ab) k9) ?_
    refine gp_of (fun _ k9 => g_iast (k := c) rfl rfl (rfl) (by omega) (by decide) k9) ?_
    refine gp_n 1 (j' := 19) (lv' := [some (.ref 13), some (.int (nI c))]) (st' := [.ref 13]) (h' := (shT, pm_u2 (pm_u2 fi 13 6 ((fi 13 6) + 1)) 26 c v, fl, fr)) rfl ?_
    refine gp_of (fun _ k9 => g_getR (q' := 1) rfl rfl (by decide) c12 k9) ?_
    refine gp_n 1 (j' := 21) (lv' := [some (.ref 13), some (.int (nI c))]) (st' := [.int (nI c), .ref 1]) (h' := (shT, pm_u2 (pm_u2 fi 13 6 ((fi 13 6) + 1)) 26 c v, fl, fr)) rfl ?_
    refine gp_of (fun _ k9 => g_call (y := 47) (as := [.ref 1, .int (nI c)]) (st' := []) rfl rfl (kp) k9) ?_
    refine gp_if rfl (fun hc1 => ?_) (fun hc1 => ?_)
    · replace hc1 : ¬ (b01 (bl (fl 1 7) c)) = (0 : Int32) := hc1
      refine gp_n 2 (j' := 29) (lv' := [some (.ref 13), some (.int (nI c))]) (st' := [.ref 13, .int (nI c)]) (h' := (shT, pm_u2 (pm_u2 fi 13 6 ((fi 13 6) + 1)) 26 c v, fl, fr)) rfl ?_
      refine gp_of (fun _ k9 => g_getI (x := (pm_u2 (pm_u2 fi 13 6 ((fi 13 6) + 1)) 26 c v) 13 15) rfl (Or.inl rfl) rfl (by decide) (rfl) k9) ?_
      refine gp_ic rfl (fun hc2 => ?_) (fun hc2 => ?_)
      · replace hc2 : ¬ (nI c) = ((pm_u2 (pm_u2 fi 13 6 ((fi 13 6) + 1)) 26 c v) 13 15) := hc2
        refine gp_n 2 (j' := 37) (lv' := [some (.ref 13), some (.int (nI c))]) (st' := [.int (nI c), .ref 13]) (h' := (shT, pm_u2 (pm_u2 fi 13 6 ((fi 13 6) + 1)) 26 c v, fl, fr)) rfl ?_
        refine gp_of (fun _ k9 => g_callv (y := 101) (as := [.ref 13, .int (nI c)]) (st' := []) rfl rfl (es) k9) ?_
        assumption
      · replace hc2 : ¬ (¬ (nI c) = ((pm_u2 (pm_u2 fi 13 6 ((fi 13 6) + 1)) 26 c v) 13 15)) := hc2
        refine gp_n 2 (j' := 33) (lv' := [some (.ref 13), some (.int (nI c))]) (st' := [.int (nI c), .ref 13]) (h' := (shT, pm_u2 (pm_u2 fi 13 6 ((fi 13 6) + 1)) 26 c v, fl, fr)) rfl ?_
        refine gp_of (fun _ k9 => g_callv (y := 100) (as := [.ref 13, .int (nI c)]) (st' := []) rfl rfl (eo) k9) ?_
        refine gp_n 1 (j' := 38) (lv' := [some (.ref 13), some (.int (nI c))]) (st' := []) (h' := ho) rfl ?_
        assumption
    · replace hc1 : ¬ (¬ (b01 (bl (fl 1 7) c)) = (0 : Int32)) := hc1
      refine gp_n 2 (j' := 25) (lv' := [some (.ref 13), some (.int (nI c))]) (st' := [.int (nI c), .ref 13]) (h' := (shT, pm_u2 (pm_u2 fi 13 6 ((fi 13 6) + 1)) 26 c v, fl, fr)) rfl ?_
      refine gp_of (fun _ k9 => g_callv (y := 98) (as := [.ref 13, .int (nI c)]) (st' := []) rfl rfl (ef) k9) ?_
      refine gp_n 1 (j' := 38) (lv' := [some (.ref 13), some (.int (nI c))]) (st' := []) (h' := hf) rfl ?_
      assumption
  obtain ⟨r, er, q1, q2⟩ := main
  obtain ⟨e3, e4⟩ := ev_det er e1
  refine ⟨h', ?_, ?_, I1, F1⟩
  · rw [← e4, ← q1]
    exact er
  · rw [← e4]
    exact q2
def RDQ (r : Option Value × PmH) : Prop := RD r.2
theorem rnw_go {c : Nat} (hc : c < 64) : ∀ (l : Nat) (h : PmH), l ≤ 6 → HI hdT shT h → RD h → ph_r h 13 12 = some 1 → GoP pmT none cd_85 13 [some (.ref 13), some (.int (nI c)), some (.int (nI l))] [] h RDQ := by
  intro l
  induction l with
  | zero =>
    intro h hl hI hr c12
    obtain ⟨vd, hd, ed, Id, Fd, pd⟩ := iv_ev vN_84 (as := [.ref 13, .int (nI c), .int 0]) rfl (fun _ _ => gz_c (gz_r (by decide)) (gz_c (gz_i (by rw [nI_toInt (by omega)]; omega) (by rw [nI_toInt (by omega)]; omega)) (gz_c (gz_i (by decide) (by decide)) gz_n))) hI
    obtain ⟨z, rfl⟩ := pv_i' (by decide) pd
    have rd := RD_fr (by decide) (by decide) Fd hr
    obtain ⟨h2, e2, r2, -, -⟩ := dw_ev Id rd ((Fd 13 12 (by decide)).2.2.trans c12) hc
    obtain ⟨h1, e1, r1, -, -⟩ := dw_ev hI hr c12 hc
    have ed : Ev pmT 90 [.ref 13, .int (nI c), .int 0] h (some (.int z)) hd := ed
    clear Fd pd hr
    obtain ⟨Sd, fid, fld, frd⟩ := hd
    have sd : Sd = shT := Id.1
    subst sd
    obtain ⟨S, fi, fl, fr⟩ := h
    have hS : S = shT := hI.1
    subst hS

    refine gp_n 1 (j' := 14) (lv' := [some (.ref 13), some (.int (nI c)), some (.int (nI 0))]) (st' := [.int (nI 0)]) (h' := (shT, fi, fl, fr)) rfl ?_
    refine gp_of (fun _ k9 => g_ift rfl (show (nI 0) ≤ (0 : Int32) from Int32.le_refl _) k9) ?_
    refine gp_n 1 (j' := 35) (lv' := [some (.ref 13), some (.int (nI c)), some (.int (nI 0))]) (st' := [.ref 13]) (h' := (shT, fi, fl, fr)) rfl ?_
    refine gp_of (fun _ k9 => g_getI (x := fi 13 14) rfl (Or.inr rfl) rfl (by decide) (rfl) k9) ?_
    refine gp_if rfl (fun hc1 => ?_) (fun hc1 => ?_)
    · replace hc1 : (fi 13 14) = (0 : Int32) := hc1
      refine gp_n 2 (j' := 44) (lv' := [some (.ref 13), some (.int (nI c)), some (.int (nI 0))]) (st' := [.int (nI c), .ref 13]) (h' := (shT, fi, fl, fr)) rfl ?_
      skip
      refine gp_of (fun _ k9 => g_callv (y := 97) (as := [.ref 13, .int (nI c)]) (st' := []) rfl rfl (by first | exact e1 | exact e2) k9) ?_
      refine gp_n 1 (j' := 46) (lv' := [some (.ref 13), some (.int (nI c)), some (.int (nI 0))]) (st' := [.int 1]) (h' := _) rfl ?_
      refine gp_done (g_ret rfl) ?_
      first | exact r1 | exact r2 | exact rd
    · replace hc1 : ¬ ((fi 13 14) = (0 : Int32)) := hc1
      refine gp_n 3 (j' := 40) (lv' := [some (.ref 13), some (.int (nI c)), some (.int (nI 0))]) (st' := [.int 0, .int (nI c), .ref 13]) (h' := (shT, fi, fl, fr)) rfl ?_
      refine gp_of (fun _ k9 => g_call (y := 90) (as := [.ref 13, .int (nI c), .int 0]) (st' := []) rfl rfl (ed) k9) ?_
      refine gp_if rfl (fun hc2 => ?_) (fun hc2 => ?_)
      · replace hc2 : ¬ z = (0 : Int32) := hc2
        refine gp_n 1 (j' := 46) (lv' := [some (.ref 13), some (.int (nI c)), some (.int (nI 0))]) (st' := [.int 1]) (h' := (shT, fid, fld, frd)) rfl ?_
        refine gp_done (g_ret rfl) ?_
        first | exact r1 | exact r2 | exact rd
      · replace hc2 : ¬ (¬ z = (0 : Int32)) := hc2
        refine gp_n 2 (j' := 44) (lv' := [some (.ref 13), some (.int (nI c)), some (.int (nI 0))]) (st' := [.int (nI c), .ref 13]) (h' := (shT, fid, fld, frd)) rfl ?_
        skip
        refine gp_of (fun _ k9 => g_callv (y := 97) (as := [.ref 13, .int (nI c)]) (st' := []) rfl rfl (by first | exact e1 | exact e2) k9) ?_
        refine gp_n 1 (j' := 46) (lv' := [some (.ref 13), some (.int (nI c)), some (.int (nI 0))]) (st' := [.int 1]) (h' := _) rfl ?_
        refine gp_done (g_ret rfl) ?_
        first | exact r1 | exact r2 | exact rd
  | succ l ih =>
    intro h hl hI hr c12
    have np : nI (l + 1) - 1 = nI l := nI_pred l
    have nd := nI_dec l
    obtain ⟨vd, hd, ed, Id, Fd, pd⟩ := iv_ev vN_84 (as := [.ref 13, .int (nI c), .int (nI (l + 1))]) rfl (fun _ _ => gz_c (gz_r (by decide)) (gz_c (gz_i (by rw [nI_toInt (by omega)]; omega) (by rw [nI_toInt (by omega)]; omega)) (gz_c (gz_i (by rw [nI_toInt (by omega)]; omega) (by rw [nI_toInt (by omega)]; omega)) gz_n))) hI
    obtain ⟨z, rfl⟩ := pv_i' (by decide) pd
    have rd := RD_fr (by decide) (by decide) Fd hr
    obtain ⟨v1, h1, e1, I1, F1, p1⟩ := iv_ev vN_88 (as := [.ref 13, .int (nI l)]) rfl (fun _ _ => gz_c (gz_r (by decide)) (gz_c (gz_i (by rw [nI_toInt (by omega)]; omega) (by rw [nI_toInt (by omega)]; omega)) gz_n)) hI
    have v10 := pv_n rfl p1
    subst v10
    obtain ⟨v2, h2, e2, I2, F2, p2⟩ := iv_ev vN_88 (as := [.ref 13, .int (nI l)]) rfl (fun _ _ => gz_c (gz_r (by decide)) (gz_c (gz_i (by rw [nI_toInt (by omega)]; omega) (by rw [nI_toInt (by omega)]; omega)) gz_n)) Id
    have v20 := pv_n rfl p2
    subst v20
    have g1 := ih h1 (by omega) I1 (RD_fr (by decide) (by decide) F1 hr) ((F1 13 12 (by decide)).2.2.trans c12)
    have g2 := ih h2 (by omega) I2 (RD_fr (by decide) (by decide) F2 rd) ((F2 13 12 (by decide)).2.2.trans ((Fd 13 12 (by decide)).2.2.trans c12))
    have ed : Ev pmT 90 [.ref 13, .int (nI c), .int (nI (l + 1))] h (some (.int z)) hd := ed
    have e1 : Ev pmT 94 [.ref 13, .int (nI l)] h none h1 := e1
    have e2 : Ev pmT 94 [.ref 13, .int (nI l)] hd none h2 := e2
    clear Fd pd hr F1 F2 p1 p2 ih
    obtain ⟨Sd, fid, fld, frd⟩ := hd
    have sd : Sd = shT := Id.1
    subst sd
    obtain ⟨Sx1, fi1, fl1, fr1⟩ := h1
    have sx1 : Sx1 = shT := I1.1
    subst sx1
    obtain ⟨Sx2, fi2, fl2, fr2⟩ := h2
    have sx2 : Sx2 = shT := I2.1
    subst sx2
    obtain ⟨S, fi, fl, fr⟩ := h
    have hS : S = shT := hI.1
    subst hS

    refine gp_n 1 (j' := 14) (lv' := [some (.ref 13), some (.int (nI c)), some (.int (nI (l + 1)))]) (st' := [.int (nI (l + 1))]) (h' := (shT, fi, fl, fr)) rfl ?_
    refine gp_of (fun _ k9 => g_iff rfl (show ¬ ((nI (l + 1)) ≤ (0 : Int32)) from nI_nle (by omega) (by omega)) k9) ?_
    refine gp_n 1 (j' := 16) (lv' := [some (.ref 13), some (.int (nI c)), some (.int (nI (l + 1)))]) (st' := [.ref 13]) (h' := (shT, fi, fl, fr)) rfl ?_
    refine gp_of (fun _ k9 => g_getI (x := fi 13 14) rfl (Or.inr rfl) rfl (by decide) (rfl) k9) ?_
    refine gp_if rfl (fun hc1 => ?_) (fun hc1 => ?_)
    · replace hc1 : (fi 13 14) = (0 : Int32) := hc1
      refine gp_n 4 (j' := 31) (lv' := [some (.ref 13), some (.int (nI c)), some (.int (nI (l + 1)))]) (st' := [.int ((nI (l + 1)) - 1), .ref 13]) (h' := (shT, fi, fl, fr)) rfl ?_
      rw [np]
      refine gp_of (fun _ k9 => g_callv (y := 94) (as := [.ref 13, .int (nI l)]) (st' := []) rfl rfl (e1) k9) ?_
      refine gp_n 2 (j' := 13) (lv' := [some (.ref 13), some (.int (nI c)), some (.int ((nI (l + 1)) + (-1)))]) (st' := []) (h' := (shT, fi1, fl1, fr1)) rfl ?_
      rw [nd]
      exact g1
    · replace hc1 : ¬ ((fi 13 14) = (0 : Int32)) := hc1
      refine gp_n 3 (j' := 21) (lv' := [some (.ref 13), some (.int (nI c)), some (.int (nI (l + 1)))]) (st' := [.int (nI (l + 1)), .int (nI c), .ref 13]) (h' := (shT, fi, fl, fr)) rfl ?_
      refine gp_of (fun _ k9 => g_call (y := 90) (as := [.ref 13, .int (nI c), .int (nI (l + 1))]) (st' := []) rfl rfl (ed) k9) ?_
      refine gp_if rfl (fun hc2 => ?_) (fun hc2 => ?_)
      · replace hc2 : z = (0 : Int32) := hc2
        refine gp_n 4 (j' := 31) (lv' := [some (.ref 13), some (.int (nI c)), some (.int (nI (l + 1)))]) (st' := [.int ((nI (l + 1)) - 1), .ref 13]) (h' := (shT, fid, fld, frd)) rfl ?_
        rw [np]
        refine gp_of (fun _ k9 => g_callv (y := 94) (as := [.ref 13, .int (nI l)]) (st' := []) rfl rfl (e2) k9) ?_
        refine gp_n 2 (j' := 13) (lv' := [some (.ref 13), some (.int (nI c)), some (.int ((nI (l + 1)) + (-1)))]) (st' := []) (h' := (shT, fi2, fl2, fr2)) rfl ?_
        rw [nd]
        exact g2
      · replace hc2 : ¬ (z = (0 : Int32)) := hc2
        refine gp_n 3 (j' := 26) (lv' := [some (.ref 13), some (.int (nI c)), some (.int (nI (l + 1)))]) (st' := [.int ((1 : Int32) <<< ((nI (l + 1)) &&& 31))]) (h' := (shT, fid, fld, frd)) rfl ?_
        refine gp_done (g_ret rfl) ?_
        exact rd
theorem rnw_ev {h : PmH} {c : Nat} (hI : HI hdT shT h) (hr : RD h) (c12 : ph_r h 13 12 = some 1) (hc : c < 64) : ∃ (z : Int32) (h' : PmH), Ev pmT 85 [.ref 13, .int (nI c)] h (some (.int z)) h' ∧ 1 ≤ z.toInt ∧ z.toInt ≤ 64 ∧ RD h' ∧ HI hdT shT h' ∧ fram (in_w iN_107) h h' := by
  obtain ⟨v, h', e1, I1, F1, p1⟩ := iv_ev vN_107 (as := [.ref 13, .int (nI c)]) rfl (fun _ _ => gz_c (gz_r (by decide)) (gz_c (gz_i (by rw [nI_toInt (by omega)]; omega) (by rw [nI_toInt (by omega)]; omega)) gz_n)) hI
  have main : EvP 85 [.ref 13, .int (nI c)] h RDQ := by
    obtain ⟨m, hm, cm⟩ := hi_n (hi := 6) hI (p := 1) (c := 0) rfl (by decide) rfl
    have g0 := rnw_go hc m h hm hI hr c12
    clear e1 I1 F1 p1
    refine EvP.of (es := cd_85) (ml := 3) (lv := [some (.ref 13), some (.int (nI c)), none]) rfl rfl rfl ?_
    by_cases h0 : c = 0
    · subst h0
      obtain ⟨S, fi, fl, fr⟩ := h
      have hS : S = shT := hI.1
      subst hS
      have c12 : fr 13 12 = some 1 := c12
      have cm : fi 1 0 = nI m := cm

      refine gp_n 1 (j' := 1) (lv' := [some (.ref 13), some (.int (nI 0)), none]) (st' := [.ref 13]) (h' := (shT, fi, fl, fr)) rfl ?_
      refine gp_of (fun _ k9 => g_getR (q' := 1) rfl rfl (by decide) c12 k9) ?_
      refine gp_of (fun _ k9 => g_getI (x := nI m) rfl (Or.inl rfl) rfl (by decide) (cm) k9) ?_
      refine gp_n 2 (j' := 5) (lv' := [some (.ref 13), some (.int (nI 0)), some (.int (nI m))]) (st' := [.int (nI 0)]) (h' := (shT, fi, fl, fr)) rfl ?_
      refine gp_of (fun _ k9 => g_ift rfl (show (nI 0) = (0 : Int32) from rfl) k9) ?_
      exact g0
    · obtain ⟨t1, t2, t3, t4, t5, t6⟩ := tz_1 c hc (by omega)
      obtain ⟨v1, h1, e1, I1, F1, p1⟩ := iv_ev vN_72 (as := [.ref 13, .int (nI (tzN c)), .int (nI c)]) rfl (fun _ _ => gz_c (gz_r (by decide)) (gz_c (gz_i (by rw [nI_toInt (by omega)]; omega) (by rw [nI_toInt (by omega)]; omega)) (gz_c (gz_i (by rw [nI_toInt (by omega)]; omega) (by rw [nI_toInt (by omega)]; omega)) gz_n))) hI
      have v10 := pv_n rfl p1
      subst v10
      have g1 := rnw_go hc (tzN c) h1 (by omega) I1 (RD_fr (by decide) (by decide) F1 hr) ((F1 13 12 (by decide)).2.2.trans c12)
      have e1 : Ev pmT 87 [.ref 13, .int (nI (tzN c)), .int (nI c)] h none h1 := e1
      have nz : Ev pmT 86 [.int (nI c)] h (some (.int (nI (tzN c)))) h := by
        rw [← t2]
        exact nzf_ev
      have nc : ¬ nI c = 0 := nI_ne0 (by omega) (by omega)
      clear g0 F1 p1 hr
      obtain ⟨S1, fi1, fl1, fr1⟩ := h1
      have s1 : S1 = shT := I1.1
      subst s1
      obtain ⟨S, fi, fl, fr⟩ := h
      have hS : S = shT := hI.1
      subst hS
      have c12 : fr 13 12 = some 1 := c12
      have cm : fi 1 0 = nI m := cm

      refine gp_n 1 (j' := 1) (lv' := [some (.ref 13), some (.int (nI c)), none]) (st' := [.ref 13]) (h' := (shT, fi, fl, fr)) rfl ?_
      refine gp_of (fun _ k9 => g_getR (q' := 1) rfl rfl (by decide) c12 k9) ?_
      refine gp_of (fun _ k9 => g_getI (x := nI m) rfl (Or.inl rfl) rfl (by decide) (cm) k9) ?_
      refine gp_n 2 (j' := 5) (lv' := [some (.ref 13), some (.int (nI c)), some (.int (nI m))]) (st' := [.int (nI c)]) (h' := (shT, fi, fl, fr)) rfl ?_
      refine gp_of (fun _ k9 => g_iff rfl (show ¬ ((nI c) = (0 : Int32)) from nc) k9) ?_
      refine gp_n 1 (j' := 7) (lv' := [some (.ref 13), some (.int (nI c)), some (.int (nI m))]) (st' := [.int (nI c)]) (h' := (shT, fi, fl, fr)) rfl ?_
      refine gp_of (fun _ k9 => g_call (y := 86) (as := [.int (nI c)]) (st' := []) rfl rfl (nz) k9) ?_
      refine gp_n 4 (j' := 12) (lv' := [some (.ref 13), some (.int (nI c)), some (.int (nI (tzN c)))]) (st' := [.int (nI c), .int (nI (tzN c)), .ref 13]) (h' := (shT, fi, fl, fr)) rfl ?_
      refine gp_of (fun _ k9 => g_callv (y := 87) (as := [.ref 13, .int (nI (tzN c)), .int (nI c)]) (st' := []) rfl rfl (e1) k9) ?_
      exact g1
  obtain ⟨r, er, q⟩ := main
  obtain ⟨e3, e4⟩ := ev_det er e1
  obtain ⟨P, P1, P2⟩ := p1
  have P1 := List.mem_singleton.mp P1
  subst P1
  obtain ⟨x, hx, x1, x2⟩ := pv_i rfl P2
  refine ⟨x, h', ?_, x1, x2, ?_, I1, F1⟩
  · rw [← hx]
    exact e1
  · rw [← e4]
    exact q
theorem ruw_go_0 {q F : Int32} : ∀ (n j : Nat) (ch : Int32) (h : PmH), j + n = 64 → 0 ≤ ch.toInt → HI hdT shT h → RD h → ph_r h 13 12 = some 1 → GoP pmT none cd_82 41 [some (.ref 13), some (.ref 1), some (.ref 2), some (.int q), some (.int 0), some (.int F), some (.int ch), some (.int (nI j))] [] h RDQ := by
  intro n
  have fin : ∀ (h : PmH) (ch tu : Int32), HI hdT shT h → RD h → GoP pmT none cd_82 57 [some (.ref 13), some (.ref 1), some (.ref 2), some (.int q), some (.int 0), some (.int F), some (.int ch), some (.int tu)] [] h RDQ := fun h ch tu hI hr => by
    obtain ⟨v1, h1, e1, I1, F1, p1⟩ := iv_ev vN_112 (as := [.ref 13]) rfl (fun _ _ => gz_c (gz_r (by decide)) gz_n) hI
    have v10 := pv_n rfl p1
    subst v10
    have r1 := RD_fr (by decide) (by decide) F1 hr
    have e1 : Ev pmT 105 [.ref 13] h none h1 := e1
    clear F1 p1 hr
    obtain ⟨S, fi, fl, fr⟩ := h
    have hS : S = shT := hI.1
    subst hS

    refine gp_n 1 (j' := 58) (lv' := [some (.ref 13), some (.ref 1), some (.ref 2), some (.int q), some (.int 0), some (.int F), some (.int ch), some (.int tu)]) (st' := [.ref 13]) (h' := (shT, fi, fl, fr)) rfl ?_
    refine gp_of (fun _ k9 => g_callv (y := 105) (as := [.ref 13]) (st' := []) rfl rfl (e1) k9) ?_
    refine gp_done (g_vret rfl) ?_
    exact r1
  induction n with
  | zero =>
    intro j ch h hj h0 hI hr c12
    have g := fin h ch (nI j) hI hr
    clear fin
    have le : (64 : Int32) ≤ nI j := nI_le (a := 64) (by omega) (by omega)
    obtain ⟨S, fi, fl, fr⟩ := h
    have hS : S = shT := hI.1
    subst hS

    refine gp_n 2 (j' := 43) (lv' := [some (.ref 13), some (.ref 1), some (.ref 2), some (.int q), some (.int 0), some (.int F), some (.int ch), some (.int (nI j))]) (st' := [.int 64, .int (nI j)]) (h' := (shT, fi, fl, fr)) rfl ?_
    refine gp_of (fun _ k9 => g_ict rfl (show (64 : Int32) ≤ (nI j) from le) k9) ?_
    exact g
  | succ n ih =>
    intro j ch h hj h0 hI hr c12
    have g := fin h ch (nI j) hI hr
    obtain ⟨N, hN, cN⟩ := hi_n (hi := 64) hI (p := 1) (c := 1) rfl (by decide) rfl
    have le : ¬ (64 : Int32) ≤ nI j := nI_ge (b := 64) (by omega) (by omega)
    by_cases hl : nI N ≤ ch
    · clear ih fin
      obtain ⟨S, fi, fl, fr⟩ := h
      have hS : S = shT := hI.1
      subst hS
      have c12 : fr 13 12 = some 1 := c12
      have cN : fi 1 1 = nI N := cN

      refine gp_n 2 (j' := 43) (lv' := [some (.ref 13), some (.ref 1), some (.ref 2), some (.int q), some (.int 0), some (.int F), some (.int ch), some (.int (nI j))]) (st' := [.int 64, .int (nI j)]) (h' := (shT, fi, fl, fr)) rfl ?_
      refine gp_of (fun _ k9 => g_icf rfl (show ¬ ((64 : Int32) ≤ (nI j)) from le) k9) ?_
      refine gp_n 2 (j' := 46) (lv' := [some (.ref 13), some (.ref 1), some (.ref 2), some (.int q), some (.int 0), some (.int F), some (.int ch), some (.int (nI j))]) (st' := [.ref 13, .int ch]) (h' := (shT, fi, fl, fr)) rfl ?_
      refine gp_of (fun _ k9 => g_getR (q' := 1) rfl rfl (by decide) c12 k9) ?_
      refine gp_of (fun _ k9 => g_getI (x := nI N) rfl (Or.inl rfl) rfl (by decide) (cN) k9) ?_
      refine gp_of (fun _ k9 => g_ict rfl (show (nI N) ≤ ch from hl) k9) ?_
      exact g
    · obtain ⟨c, rfl, c2, -⟩ := i32_nI (y := ch) h0
      have hcN : c < 64 := by
        have := Int32.lt_iff_toInt_lt.mp (Int32.not_le.mp hl)
        rw [nI_toInt (n := N) (by omega)] at this
        omega
      obtain ⟨z, h1, e1, z1, z2, r1, I1, F1⟩ := rnw_ev hI hr c12 hcN
      have ga := ih (j + 1) (nI c + z) h1 (by omega) (by rw [i_add (by rw [nI_toInt (by omega)]; omega) (by rw [nI_toInt (by omega)]; omega), nI_toInt (by omega)]; omega) I1 r1 ((F1 13 12 (by decide)).2.2.trans c12)
      clear ih fin g F1 hr
      obtain ⟨S1, fi1, fl1, fr1⟩ := h1
      have s1 : S1 = shT := I1.1
      subst s1
      obtain ⟨S, fi, fl, fr⟩ := h
      have hS : S = shT := hI.1
      subst hS
      have c12 : fr 13 12 = some 1 := c12
      have cN : fi 1 1 = nI N := cN

      refine gp_n 2 (j' := 43) (lv' := [some (.ref 13), some (.ref 1), some (.ref 2), some (.int q), some (.int 0), some (.int F), some (.int (nI c)), some (.int (nI j))]) (st' := [.int 64, .int (nI j)]) (h' := (shT, fi, fl, fr)) rfl ?_
      refine gp_of (fun _ k9 => g_icf rfl (show ¬ ((64 : Int32) ≤ (nI j)) from le) k9) ?_
      refine gp_n 2 (j' := 46) (lv' := [some (.ref 13), some (.ref 1), some (.ref 2), some (.int q), some (.int 0), some (.int F), some (.int (nI c)), some (.int (nI j))]) (st' := [.ref 13, .int (nI c)]) (h' := (shT, fi, fl, fr)) rfl ?_
      refine gp_of (fun _ k9 => g_getR (q' := 1) rfl rfl (by decide) c12 k9) ?_
      refine gp_of (fun _ k9 => g_getI (x := nI N) rfl (Or.inl rfl) rfl (by decide) (cN) k9) ?_
      refine gp_of (fun _ k9 => g_icf rfl (show ¬ ((nI N) ≤ (nI c)) from hl) k9) ?_
      refine gp_n 3 (j' := 52) (lv' := [some (.ref 13), some (.ref 1), some (.ref 2), some (.int q), some (.int 0), some (.int F), some (.int (nI c)), some (.int (nI j))]) (st' := [.int (nI c), .ref 13, .int (nI c)]) (h' := (shT, fi, fl, fr)) rfl ?_
      refine gp_of (fun _ k9 => g_call (y := 85) (as := [.ref 13, .int (nI c)]) (st' := [.int (nI c)]) rfl rfl (e1) k9) ?_
      refine gp_n 4 (j' := 41) (lv' := [some (.ref 13), some (.ref 1), some (.ref 2), some (.int q), some (.int 0), some (.int F), some (.int ((nI c) + z)), some (.int ((nI j) + 1))]) (st' := []) (h' := (shT, fi1, fl1, fr1)) rfl ?_
      rw [nI_1]
      exact ga
theorem ruw_0 {h : PmH} {q F : Int32} (hI : HI hdT shT h) (hr : RD h) (q1 : 0 ≤ q.toInt) (q2 : q.toInt ≤ 8) : ∃ h', Ev pmT 82 [.ref 13, .ref 1, .ref 2, .int q, .int 0, .int F] h none h' ∧ RD h' ∧ HI hdT shT h' ∧ fram (in_w iN_113) h h' := by
  obtain ⟨v, h', e1, I1, F1, p1⟩ := iv_ev vN_113 (as := [.ref 13, .ref 1, .ref 2, .int q, .int 0, .int F]) rfl (fun _ _ => gz_c (gz_r (by decide)) (gz_c (gz_r (by decide)) (gz_c (gz_r (by decide)) (gz_c (gz_i q1 q2) (gz_c (gz_i (by decide) (by decide)) (gz_c (gz_a _) gz_n)))))) hI
  have v0 := pv_n rfl p1
  subst v0
  have main : EvP 82 [.ref 13, .ref 1, .ref 2, .int q, .int 0, .int F] h RDQ := by
    clear e1 I1 F1 p1
    have kS : ph_r h 13 9 = some 27 := hi_r hI rfl rfl (by decide)
    obtain ⟨m, hm, cm⟩ := hi_n (hi := 6) hI (p := 1) (c := 0) rfl (by decide) rfl
    obtain ⟨N, hN, cN⟩ := hi_n (hi := 64) hI (p := 1) (c := 1) rfl (by decide) rfl
    have tp := ixS_le (l := m) (r := 0) (k := 7) (by decide) (by omega)
    have tp2 := ixS_lm (l := m) (k := 6) (6 - m) (by omega)
    have tp3 : ixS 6 0 = 504 := rfl
    refine EvP.of (es := cd_82) (ml := 8) (lv := [some (.ref 13), some (.ref 1), some (.ref 2), some (.int q), some (.int 0), some (.int F), none, none]) rfl rfl rfl ?_
    obtain ⟨S, fi, fl, fr⟩ := h
    have hS : S = shT := hI.1
    subst hS
    have kS : fr 13 9 = some 27 := kS
    have cm : fi 1 0 = nI m := cm
    have cN : fi 1 1 = nI N := cN
    have J : HI hdT shT (shT, fi, fl, pm_u2 fr 13 12 (some 1)) := HI_wr hI (fun _ => by decide)
    have J : HI hdT shT (shT, pm_u2 fi 13 13 q, fl, pm_u2 fr 13 12 (some 1)) := HI_wi J (fun _ => ⟨q1, q2⟩)
    have J : HI hdT shT (shT, pm_u2 (pm_u2 fi 13 13 q) 13 14 0, fl, pm_u2 fr 13 12 (some 1)) := HI_wi J (fun _ => by decide)
    have J : HI hdT shT (shT, pm_u2 (pm_u2 (pm_u2 fi 13 13 q) 13 14 0) 13 15 F, fl, pm_u2 fr 13 12 (some 1)) := HI_wi J (fun z => absurd z (by decide))
    have J : HI hdT shT (shT, pm_u2 (pm_u2 (pm_u2 (pm_u2 fi 13 13 q) 13 14 0) 13 15 F) 13 4 0, fl, pm_u2 fr 13 12 (some 1)) := HI_wi J (fun z => absurd z (by decide))
    have J : HI hdT shT (shT, pm_u2 (pm_u2 (pm_u2 (pm_u2 (pm_u2 fi 13 13 q) 13 14 0) 13 15 F) 13 4 0) 13 5 0, fl, pm_u2 fr 13 12 (some 1)) := HI_wi J (fun z => absurd z (by decide))
    have J : HI hdT shT (shT, pm_u2 (pm_u2 (pm_u2 (pm_u2 (pm_u2 (pm_u2 fi 13 13 q) 13 14 0) 13 15 F) 13 4 0) 13 5 0) 13 6 0, fl, pm_u2 fr 13 12 (some 1)) := HI_wi J (fun z => absurd z (by decide))
    have cm : pm_u2 (pm_u2 (pm_u2 (pm_u2 (pm_u2 (pm_u2 fi 13 13 q) 13 14 0) 13 15 F) 13 4 0) 13 5 0) 13 6 0 1 0 = nI m := cm
    have cN : pm_u2 (pm_u2 (pm_u2 (pm_u2 (pm_u2 (pm_u2 fi 13 13 q) 13 14 0) 13 15 F) 13 4 0) 13 5 0) 13 6 0 1 1 = nI N := cN
    have rJ : RD (shT, pm_u2 (pm_u2 (pm_u2 (pm_u2 (pm_u2 (pm_u2 fi 13 13 q) 13 14 0) 13 15 F) 13 4 0) 13 5 0) 13 6 0, fl, pm_u2 fr 13 12 (some 1)) := RD_r (h := (shT, fi, fl, fr)) (show pm_u2 fr 13 12 (some 1) 13 0 = fr 13 0 from wl_ne (by decide)) (show pm_u2 fr 13 12 (some 1) 13 1 = fr 13 1 from wl_ne (by decide)) hr
    have af : ∀ A, (A = 14 ∨ A = 18) → ∃ h1, Ev pmT 83 [.ref A] (shT, pm_u2 (pm_u2 (pm_u2 (pm_u2 (pm_u2 (pm_u2 fi 13 13 q) 13 14 0) 13 15 F) 13 4 0) 13 5 0) 13 6 0, fl, pm_u2 fr 13 12 (some 1)) none h1 ∧ HI hdT shT h1 ∧ RD h1 ∧ ph_r h1 13 12 = some 1 ∧ ph_i h1 1 0 = nI m ∧ ph_i h1 1 1 = nI N := fun A hA => by
      obtain ⟨v1, h1, e1, I1, F1, p1⟩ := iv_ev vN_53 (as := [.ref A]) rfl (fun _ _ => gz_c (gz_r (by rcases hA with rfl | rfl <;> decide)) gz_n) J
      have v10 := pv_n rfl p1
      subst v10
      exact ⟨h1, e1, I1, RD_fr (by decide) (by decide) F1 rJ, (F1 13 12 (by decide)).2.2.trans (show pm_u2 fr 13 12 (some 1) 13 12 = some 1 from u2_eq), (F1 1 0 (by decide)).1.trans cm, (F1 1 1 (by decide)).1.trans cN⟩
    obtain ⟨A, hA, a1, a2⟩ := hr
    have a1 : fr 13 0 = some A := a1
    obtain ⟨h1, e1, I1, r1, c12, d1, d2⟩ := af A hA
    clear af rJ J cm cN
    have kS : ph_r h1 13 9 = some 27 := hi_r I1 rfl rfl (by decide)
    obtain ⟨S1, f1, l1, x1⟩ := h1
    have s1 : S1 = shT := I1.1
    subst s1
    have c12 : x1 13 12 = some 1 := c12
    have d1 : f1 1 0 = nI m := d1
    have d2 : f1 1 1 = nI N := d2
    have kS1 : x1 13 9 = some 27 := kS
    have ow := ow_ev (l := m) (p := 0) (h := (shT, f1, l1, x1)) (by omega) (by decide)
    have J3 := HI_uf27 (g := va_cpy (f1 2) (f1 27) 0 (ixS m 0) N) I1
    have g := ruw_go_0 (q := q) (F := F) 64 0 0 _ (by omega) (by decide) J3 (RD_r rfl rfl r1) c12
    clear I1 r1 J3 a2
    generalize ixS m 0 = ix at *
    rcases hA with rfl | rfl
    ·
      refine gp_n 2 (j' := 2) (lv' := [some (.ref 13), some (.ref 1), some (.ref 2), some (.int q), some (.int 0), some (.int F), none, none]) (st' := [.ref 1, .ref 13]) (h' := (shT, fi, fl, fr)) rfl ?_
      refine gp_of (fun _ k9 => g_putR rfl rfl (by decide) k9) ?_
      refine gp_n 2 (j' := 5) (lv' := [some (.ref 13), some (.ref 1), some (.ref 2), some (.int q), some (.int 0), some (.int F), none, none]) (st' := [.int q, .ref 13]) (h' := (shT, fi, fl, pm_u2 fr 13 12 (some 1))) rfl ?_
      refine gp_of (fun _ k9 => g_putI rfl (Or.inl rfl) rfl (by decide) k9) ?_
      refine gp_n 2 (j' := 8) (lv' := [some (.ref 13), some (.ref 1), some (.ref 2), some (.int q), some (.int 0), some (.int F), none, none]) (st' := [.int 0, .ref 13]) (h' := (shT, pm_u2 fi 13 13 q, fl, pm_u2 fr 13 12 (some 1))) rfl ?_
      refine gp_of (fun _ k9 => g_putI rfl (Or.inr ⟨rfl, by decide⟩) rfl (by decide) k9) ?_
      refine gp_n 2 (j' := 11) (lv' := [some (.ref 13), some (.ref 1), some (.ref 2), some (.int q), some (.int 0), some (.int F), none, none]) (st' := [.int F, .ref 13]) (h' := (shT, pm_u2 (pm_u2 fi 13 13 q) 13 14 0, fl, pm_u2 fr 13 12 (some 1))) rfl ?_
      refine gp_of (fun _ k9 => g_putI rfl (Or.inl rfl) rfl (by decide) k9) ?_
      refine gp_n 2 (j' := 14) (lv' := [some (.ref 13), some (.ref 1), some (.ref 2), some (.int q), some (.int 0), some (.int F), none, none]) (st' := [.int 0, .ref 13]) (h' := (shT, pm_u2 (pm_u2 (pm_u2 fi 13 13 q) 13 14 0) 13 15 F, fl, pm_u2 fr 13 12 (some 1))) rfl ?_
      refine gp_of (fun _ k9 => g_putI rfl (Or.inl rfl) rfl (by decide) k9) ?_
      refine gp_n 2 (j' := 17) (lv' := [some (.ref 13), some (.ref 1), some (.ref 2), some (.int q), some (.int 0), some (.int F), none, none]) (st' := [.int 0, .ref 13]) (h' := (shT, pm_u2 (pm_u2 (pm_u2 (pm_u2 fi 13 13 q) 13 14 0) 13 15 F) 13 4 0, fl, pm_u2 fr 13 12 (some 1))) rfl ?_
      refine gp_of (fun _ k9 => g_putI rfl (Or.inl rfl) rfl (by decide) k9) ?_
      refine gp_n 2 (j' := 20) (lv' := [some (.ref 13), some (.ref 1), some (.ref 2), some (.int q), some (.int 0), some (.int F), none, none]) (st' := [.int 0, .ref 13]) (h' := (shT, pm_u2 (pm_u2 (pm_u2 (pm_u2 (pm_u2 fi 13 13 q) 13 14 0) 13 15 F) 13 4 0) 13 5 0, fl, pm_u2 fr 13 12 (some 1))) rfl ?_
      refine gp_of (fun _ k9 => g_putI rfl (Or.inl rfl) rfl (by decide) k9) ?_
      refine gp_n 1 (j' := 22) (lv' := [some (.ref 13), some (.ref 1), some (.ref 2), some (.int q), some (.int 0), some (.int F), none, none]) (st' := [.ref 13]) (h' := (shT, pm_u2 (pm_u2 (pm_u2 (pm_u2 (pm_u2 (pm_u2 fi 13 13 q) 13 14 0) 13 15 F) 13 4 0) 13 5 0) 13 6 0, fl, pm_u2 fr 13 12 (some 1))) rfl ?_
      refine gp_of (fun _ k9 => g_getR (q' := 14) rfl rfl (by decide) a1 k9) ?_
      refine gp_of (fun _ k9 => g_callv (y := 83) (as := [.ref 14]) (st' := []) rfl rfl (e1) k9) ?_
      refine gp_n 3 (j' := 27) (lv' := [some (.ref 13), some (.ref 1), some (.ref 2), some (.int q), some (.int 0), some (.int F), none, none]) (st' := [.ref 13, .int 0, .ref 2]) (h' := (shT, f1, l1, x1)) rfl ?_
      refine gp_of (fun _ k9 => g_getR (q' := 27) rfl rfl (by decide) kS1 k9) ?_
      refine gp_n 1 (j' := 29) (lv' := [some (.ref 13), some (.ref 1), some (.ref 2), some (.int q), some (.int 0), some (.int F), none, none]) (st' := [.ref 13, .ref 27, .int 0, .ref 2]) (h' := (shT, f1, l1, x1)) rfl ?_
      refine gp_of (fun _ k9 => g_getR (q' := 1) rfl rfl (by decide) c12 k9) ?_
      refine gp_of (fun _ k9 => g_getI (x := nI m) rfl (Or.inl rfl) rfl (by decide) (d1) k9) ?_
      refine gp_n 1 (j' := 32) (lv' := [some (.ref 13), some (.ref 1), some (.ref 2), some (.int q), some (.int 0), some (.int F), none, none]) (st' := [.int 0, .int (nI m), .ref 27, .int 0, .ref 2]) (h' := (shT, f1, l1, x1)) rfl ?_
      refine gp_of (fun _ k9 => g_call (y := 84) (as := [.int (nI m), .int 0]) (st' := [.ref 27, .int 0, .ref 2]) rfl rfl (ow) k9) ?_
      refine gp_n 1 (j' := 34) (lv' := [some (.ref 13), some (.ref 1), some (.ref 2), some (.int q), some (.int 0), some (.int F), none, none]) (st' := [.ref 13, .int (nI ix), .ref 27, .int 0, .ref 2]) (h' := (shT, f1, l1, x1)) rfl ?_
      refine gp_of (fun _ k9 => g_getR (q' := 1) rfl rfl (by decide) c12 k9) ?_
      refine gp_of (fun _ k9 => g_getI (x := nI N) rfl (Or.inl rfl) rfl (by decide) (d2) k9) ?_
      refine gp_of (fun _ k9 => g_cpyN (n0 := 64) (n1 := 1016) rfl rfl rfl (by omega) (by omega) (by decide) (by decide) k9) ?_
      refine gp_n 4 (j' := 41) (lv' := [some (.ref 13), some (.ref 1), some (.ref 2), some (.int q), some (.int 0), some (.int F), some (.int 0), some (.int 0)]) (st' := []) (h' := (shT, (pm_uf f1 27 (va_cpy (f1 2) (f1 27) 0 ix N)), l1, x1)) rfl ?_
      exact g
    ·
      refine gp_n 2 (j' := 2) (lv' := [some (.ref 13), some (.ref 1), some (.ref 2), some (.int q), some (.int 0), some (.int F), none, none]) (st' := [.ref 1, .ref 13]) (h' := (shT, fi, fl, fr)) rfl ?_
      refine gp_of (fun _ k9 => g_putR rfl rfl (by decide) k9) ?_
      refine gp_n 2 (j' := 5) (lv' := [some (.ref 13), some (.ref 1), some (.ref 2), some (.int q), some (.int 0), some (.int F), none, none]) (st' := [.int q, .ref 13]) (h' := (shT, fi, fl, pm_u2 fr 13 12 (some 1))) rfl ?_
      refine gp_of (fun _ k9 => g_putI rfl (Or.inl rfl) rfl (by decide) k9) ?_
      refine gp_n 2 (j' := 8) (lv' := [some (.ref 13), some (.ref 1), some (.ref 2), some (.int q), some (.int 0), some (.int F), none, none]) (st' := [.int 0, .ref 13]) (h' := (shT, pm_u2 fi 13 13 q, fl, pm_u2 fr 13 12 (some 1))) rfl ?_
      refine gp_of (fun _ k9 => g_putI rfl (Or.inr ⟨rfl, by decide⟩) rfl (by decide) k9) ?_
      refine gp_n 2 (j' := 11) (lv' := [some (.ref 13), some (.ref 1), some (.ref 2), some (.int q), some (.int 0), some (.int F), none, none]) (st' := [.int F, .ref 13]) (h' := (shT, pm_u2 (pm_u2 fi 13 13 q) 13 14 0, fl, pm_u2 fr 13 12 (some 1))) rfl ?_
      refine gp_of (fun _ k9 => g_putI rfl (Or.inl rfl) rfl (by decide) k9) ?_
      refine gp_n 2 (j' := 14) (lv' := [some (.ref 13), some (.ref 1), some (.ref 2), some (.int q), some (.int 0), some (.int F), none, none]) (st' := [.int 0, .ref 13]) (h' := (shT, pm_u2 (pm_u2 (pm_u2 fi 13 13 q) 13 14 0) 13 15 F, fl, pm_u2 fr 13 12 (some 1))) rfl ?_
      refine gp_of (fun _ k9 => g_putI rfl (Or.inl rfl) rfl (by decide) k9) ?_
      refine gp_n 2 (j' := 17) (lv' := [some (.ref 13), some (.ref 1), some (.ref 2), some (.int q), some (.int 0), some (.int F), none, none]) (st' := [.int 0, .ref 13]) (h' := (shT, pm_u2 (pm_u2 (pm_u2 (pm_u2 fi 13 13 q) 13 14 0) 13 15 F) 13 4 0, fl, pm_u2 fr 13 12 (some 1))) rfl ?_
      refine gp_of (fun _ k9 => g_putI rfl (Or.inl rfl) rfl (by decide) k9) ?_
      refine gp_n 2 (j' := 20) (lv' := [some (.ref 13), some (.ref 1), some (.ref 2), some (.int q), some (.int 0), some (.int F), none, none]) (st' := [.int 0, .ref 13]) (h' := (shT, pm_u2 (pm_u2 (pm_u2 (pm_u2 (pm_u2 fi 13 13 q) 13 14 0) 13 15 F) 13 4 0) 13 5 0, fl, pm_u2 fr 13 12 (some 1))) rfl ?_
      refine gp_of (fun _ k9 => g_putI rfl (Or.inl rfl) rfl (by decide) k9) ?_
      refine gp_n 1 (j' := 22) (lv' := [some (.ref 13), some (.ref 1), some (.ref 2), some (.int q), some (.int 0), some (.int F), none, none]) (st' := [.ref 13]) (h' := (shT, pm_u2 (pm_u2 (pm_u2 (pm_u2 (pm_u2 (pm_u2 fi 13 13 q) 13 14 0) 13 15 F) 13 4 0) 13 5 0) 13 6 0, fl, pm_u2 fr 13 12 (some 1))) rfl ?_
      refine gp_of (fun _ k9 => g_getR (q' := 18) rfl rfl (by decide) a1 k9) ?_
      refine gp_of (fun _ k9 => g_callv (y := 83) (as := [.ref 18]) (st' := []) rfl rfl (e1) k9) ?_
      refine gp_n 3 (j' := 27) (lv' := [some (.ref 13), some (.ref 1), some (.ref 2), some (.int q), some (.int 0), some (.int F), none, none]) (st' := [.ref 13, .int 0, .ref 2]) (h' := (shT, f1, l1, x1)) rfl ?_
      refine gp_of (fun _ k9 => g_getR (q' := 27) rfl rfl (by decide) kS1 k9) ?_
      refine gp_n 1 (j' := 29) (lv' := [some (.ref 13), some (.ref 1), some (.ref 2), some (.int q), some (.int 0), some (.int F), none, none]) (st' := [.ref 13, .ref 27, .int 0, .ref 2]) (h' := (shT, f1, l1, x1)) rfl ?_
      refine gp_of (fun _ k9 => g_getR (q' := 1) rfl rfl (by decide) c12 k9) ?_
      refine gp_of (fun _ k9 => g_getI (x := nI m) rfl (Or.inl rfl) rfl (by decide) (d1) k9) ?_
      refine gp_n 1 (j' := 32) (lv' := [some (.ref 13), some (.ref 1), some (.ref 2), some (.int q), some (.int 0), some (.int F), none, none]) (st' := [.int 0, .int (nI m), .ref 27, .int 0, .ref 2]) (h' := (shT, f1, l1, x1)) rfl ?_
      refine gp_of (fun _ k9 => g_call (y := 84) (as := [.int (nI m), .int 0]) (st' := [.ref 27, .int 0, .ref 2]) rfl rfl (ow) k9) ?_
      refine gp_n 1 (j' := 34) (lv' := [some (.ref 13), some (.ref 1), some (.ref 2), some (.int q), some (.int 0), some (.int F), none, none]) (st' := [.ref 13, .int (nI ix), .ref 27, .int 0, .ref 2]) (h' := (shT, f1, l1, x1)) rfl ?_
      refine gp_of (fun _ k9 => g_getR (q' := 1) rfl rfl (by decide) c12 k9) ?_
      refine gp_of (fun _ k9 => g_getI (x := nI N) rfl (Or.inl rfl) rfl (by decide) (d2) k9) ?_
      refine gp_of (fun _ k9 => g_cpyN (n0 := 64) (n1 := 1016) rfl rfl rfl (by omega) (by omega) (by decide) (by decide) k9) ?_
      refine gp_n 4 (j' := 41) (lv' := [some (.ref 13), some (.ref 1), some (.ref 2), some (.int q), some (.int 0), some (.int F), some (.int 0), some (.int 0)]) (st' := []) (h' := (shT, (pm_uf f1 27 (va_cpy (f1 2) (f1 27) 0 ix N)), l1, x1)) rfl ?_
      exact g
  obtain ⟨r, er, q⟩ := main
  obtain ⟨e3, e4⟩ := ev_det er e1
  refine ⟨h', e1, ?_, I1, F1⟩
  rw [← e4]
  exact q
theorem ruw_go_1 {q F : Int32} : ∀ (n j : Nat) (ch : Int32) (h : PmH), j + n = 64 → 0 ≤ ch.toInt → HI hdT shT h → RD h → ph_r h 13 12 = some 1 → GoP pmT none cd_82 41 [some (.ref 13), some (.ref 1), some (.ref 2), some (.int q), some (.int 1), some (.int F), some (.int ch), some (.int (nI j))] [] h RDQ := by
  intro n
  have fin : ∀ (h : PmH) (ch tu : Int32), HI hdT shT h → RD h → GoP pmT none cd_82 57 [some (.ref 13), some (.ref 1), some (.ref 2), some (.int q), some (.int 1), some (.int F), some (.int ch), some (.int tu)] [] h RDQ := fun h ch tu hI hr => by
    obtain ⟨v1, h1, e1, I1, F1, p1⟩ := iv_ev vN_112 (as := [.ref 13]) rfl (fun _ _ => gz_c (gz_r (by decide)) gz_n) hI
    have v10 := pv_n rfl p1
    subst v10
    have r1 := RD_fr (by decide) (by decide) F1 hr
    have e1 : Ev pmT 105 [.ref 13] h none h1 := e1
    clear F1 p1 hr
    obtain ⟨S, fi, fl, fr⟩ := h
    have hS : S = shT := hI.1
    subst hS

    refine gp_n 1 (j' := 58) (lv' := [some (.ref 13), some (.ref 1), some (.ref 2), some (.int q), some (.int 1), some (.int F), some (.int ch), some (.int tu)]) (st' := [.ref 13]) (h' := (shT, fi, fl, fr)) rfl ?_
    refine gp_of (fun _ k9 => g_callv (y := 105) (as := [.ref 13]) (st' := []) rfl rfl (e1) k9) ?_
    refine gp_done (g_vret rfl) ?_
    exact r1
  induction n with
  | zero =>
    intro j ch h hj h0 hI hr c12
    have g := fin h ch (nI j) hI hr
    clear fin
    have le : (64 : Int32) ≤ nI j := nI_le (a := 64) (by omega) (by omega)
    obtain ⟨S, fi, fl, fr⟩ := h
    have hS : S = shT := hI.1
    subst hS

    refine gp_n 2 (j' := 43) (lv' := [some (.ref 13), some (.ref 1), some (.ref 2), some (.int q), some (.int 1), some (.int F), some (.int ch), some (.int (nI j))]) (st' := [.int 64, .int (nI j)]) (h' := (shT, fi, fl, fr)) rfl ?_
    refine gp_of (fun _ k9 => g_ict rfl (show (64 : Int32) ≤ (nI j) from le) k9) ?_
    exact g
  | succ n ih =>
    intro j ch h hj h0 hI hr c12
    have g := fin h ch (nI j) hI hr
    obtain ⟨N, hN, cN⟩ := hi_n (hi := 64) hI (p := 1) (c := 1) rfl (by decide) rfl
    have le : ¬ (64 : Int32) ≤ nI j := nI_ge (b := 64) (by omega) (by omega)
    by_cases hl : nI N ≤ ch
    · clear ih fin
      obtain ⟨S, fi, fl, fr⟩ := h
      have hS : S = shT := hI.1
      subst hS
      have c12 : fr 13 12 = some 1 := c12
      have cN : fi 1 1 = nI N := cN

      refine gp_n 2 (j' := 43) (lv' := [some (.ref 13), some (.ref 1), some (.ref 2), some (.int q), some (.int 1), some (.int F), some (.int ch), some (.int (nI j))]) (st' := [.int 64, .int (nI j)]) (h' := (shT, fi, fl, fr)) rfl ?_
      refine gp_of (fun _ k9 => g_icf rfl (show ¬ ((64 : Int32) ≤ (nI j)) from le) k9) ?_
      refine gp_n 2 (j' := 46) (lv' := [some (.ref 13), some (.ref 1), some (.ref 2), some (.int q), some (.int 1), some (.int F), some (.int ch), some (.int (nI j))]) (st' := [.ref 13, .int ch]) (h' := (shT, fi, fl, fr)) rfl ?_
      refine gp_of (fun _ k9 => g_getR (q' := 1) rfl rfl (by decide) c12 k9) ?_
      refine gp_of (fun _ k9 => g_getI (x := nI N) rfl (Or.inl rfl) rfl (by decide) (cN) k9) ?_
      refine gp_of (fun _ k9 => g_ict rfl (show (nI N) ≤ ch from hl) k9) ?_
      exact g
    · obtain ⟨c, rfl, c2, -⟩ := i32_nI (y := ch) h0
      have hcN : c < 64 := by
        have := Int32.lt_iff_toInt_lt.mp (Int32.not_le.mp hl)
        rw [nI_toInt (n := N) (by omega)] at this
        omega
      obtain ⟨z, h1, e1, z1, z2, r1, I1, F1⟩ := rnw_ev hI hr c12 hcN
      have ga := ih (j + 1) (nI c + z) h1 (by omega) (by rw [i_add (by rw [nI_toInt (by omega)]; omega) (by rw [nI_toInt (by omega)]; omega), nI_toInt (by omega)]; omega) I1 r1 ((F1 13 12 (by decide)).2.2.trans c12)
      clear ih fin g F1 hr
      obtain ⟨S1, fi1, fl1, fr1⟩ := h1
      have s1 : S1 = shT := I1.1
      subst s1
      obtain ⟨S, fi, fl, fr⟩ := h
      have hS : S = shT := hI.1
      subst hS
      have c12 : fr 13 12 = some 1 := c12
      have cN : fi 1 1 = nI N := cN

      refine gp_n 2 (j' := 43) (lv' := [some (.ref 13), some (.ref 1), some (.ref 2), some (.int q), some (.int 1), some (.int F), some (.int (nI c)), some (.int (nI j))]) (st' := [.int 64, .int (nI j)]) (h' := (shT, fi, fl, fr)) rfl ?_
      refine gp_of (fun _ k9 => g_icf rfl (show ¬ ((64 : Int32) ≤ (nI j)) from le) k9) ?_
      refine gp_n 2 (j' := 46) (lv' := [some (.ref 13), some (.ref 1), some (.ref 2), some (.int q), some (.int 1), some (.int F), some (.int (nI c)), some (.int (nI j))]) (st' := [.ref 13, .int (nI c)]) (h' := (shT, fi, fl, fr)) rfl ?_
      refine gp_of (fun _ k9 => g_getR (q' := 1) rfl rfl (by decide) c12 k9) ?_
      refine gp_of (fun _ k9 => g_getI (x := nI N) rfl (Or.inl rfl) rfl (by decide) (cN) k9) ?_
      refine gp_of (fun _ k9 => g_icf rfl (show ¬ ((nI N) ≤ (nI c)) from hl) k9) ?_
      refine gp_n 3 (j' := 52) (lv' := [some (.ref 13), some (.ref 1), some (.ref 2), some (.int q), some (.int 1), some (.int F), some (.int (nI c)), some (.int (nI j))]) (st' := [.int (nI c), .ref 13, .int (nI c)]) (h' := (shT, fi, fl, fr)) rfl ?_
      refine gp_of (fun _ k9 => g_call (y := 85) (as := [.ref 13, .int (nI c)]) (st' := [.int (nI c)]) rfl rfl (e1) k9) ?_
      refine gp_n 4 (j' := 41) (lv' := [some (.ref 13), some (.ref 1), some (.ref 2), some (.int q), some (.int 1), some (.int F), some (.int ((nI c) + z)), some (.int ((nI j) + 1))]) (st' := []) (h' := (shT, fi1, fl1, fr1)) rfl ?_
      rw [nI_1]
      exact ga
theorem ruw_1 {h : PmH} {q F : Int32} (hI : HI hdT shT h) (hr : RD h) (q1 : 0 ≤ q.toInt) (q2 : q.toInt ≤ 8) : ∃ h', Ev pmT 82 [.ref 13, .ref 1, .ref 2, .int q, .int 1, .int F] h none h' ∧ RD h' ∧ HI hdT shT h' ∧ fram (in_w iN_113) h h' := by
  obtain ⟨v, h', e1, I1, F1, p1⟩ := iv_ev vN_113 (as := [.ref 13, .ref 1, .ref 2, .int q, .int 1, .int F]) rfl (fun _ _ => gz_c (gz_r (by decide)) (gz_c (gz_r (by decide)) (gz_c (gz_r (by decide)) (gz_c (gz_i q1 q2) (gz_c (gz_i (by decide) (by decide)) (gz_c (gz_a _) gz_n)))))) hI
  have v0 := pv_n rfl p1
  subst v0
  have main : EvP 82 [.ref 13, .ref 1, .ref 2, .int q, .int 1, .int F] h RDQ := by
    clear e1 I1 F1 p1
    have kS : ph_r h 13 9 = some 27 := hi_r hI rfl rfl (by decide)
    obtain ⟨m, hm, cm⟩ := hi_n (hi := 6) hI (p := 1) (c := 0) rfl (by decide) rfl
    obtain ⟨N, hN, cN⟩ := hi_n (hi := 64) hI (p := 1) (c := 1) rfl (by decide) rfl
    have tp := ixS_le (l := m) (r := 0) (k := 7) (by decide) (by omega)
    have tp2 := ixS_lm (l := m) (k := 6) (6 - m) (by omega)
    have tp3 : ixS 6 0 = 504 := rfl
    refine EvP.of (es := cd_82) (ml := 8) (lv := [some (.ref 13), some (.ref 1), some (.ref 2), some (.int q), some (.int 1), some (.int F), none, none]) rfl rfl rfl ?_
    obtain ⟨S, fi, fl, fr⟩ := h
    have hS : S = shT := hI.1
    subst hS
    have kS : fr 13 9 = some 27 := kS
    have cm : fi 1 0 = nI m := cm
    have cN : fi 1 1 = nI N := cN
    have J : HI hdT shT (shT, fi, fl, pm_u2 fr 13 12 (some 1)) := HI_wr hI (fun _ => by decide)
    have J : HI hdT shT (shT, pm_u2 fi 13 13 q, fl, pm_u2 fr 13 12 (some 1)) := HI_wi J (fun _ => ⟨q1, q2⟩)
    have J : HI hdT shT (shT, pm_u2 (pm_u2 fi 13 13 q) 13 14 1, fl, pm_u2 fr 13 12 (some 1)) := HI_wi J (fun _ => by decide)
    have J : HI hdT shT (shT, pm_u2 (pm_u2 (pm_u2 fi 13 13 q) 13 14 1) 13 15 F, fl, pm_u2 fr 13 12 (some 1)) := HI_wi J (fun z => absurd z (by decide))
    have J : HI hdT shT (shT, pm_u2 (pm_u2 (pm_u2 (pm_u2 fi 13 13 q) 13 14 1) 13 15 F) 13 4 0, fl, pm_u2 fr 13 12 (some 1)) := HI_wi J (fun z => absurd z (by decide))
    have J : HI hdT shT (shT, pm_u2 (pm_u2 (pm_u2 (pm_u2 (pm_u2 fi 13 13 q) 13 14 1) 13 15 F) 13 4 0) 13 5 0, fl, pm_u2 fr 13 12 (some 1)) := HI_wi J (fun z => absurd z (by decide))
    have J : HI hdT shT (shT, pm_u2 (pm_u2 (pm_u2 (pm_u2 (pm_u2 (pm_u2 fi 13 13 q) 13 14 1) 13 15 F) 13 4 0) 13 5 0) 13 6 0, fl, pm_u2 fr 13 12 (some 1)) := HI_wi J (fun z => absurd z (by decide))
    have cm : pm_u2 (pm_u2 (pm_u2 (pm_u2 (pm_u2 (pm_u2 fi 13 13 q) 13 14 1) 13 15 F) 13 4 0) 13 5 0) 13 6 0 1 0 = nI m := cm
    have cN : pm_u2 (pm_u2 (pm_u2 (pm_u2 (pm_u2 (pm_u2 fi 13 13 q) 13 14 1) 13 15 F) 13 4 0) 13 5 0) 13 6 0 1 1 = nI N := cN
    have rJ : RD (shT, pm_u2 (pm_u2 (pm_u2 (pm_u2 (pm_u2 (pm_u2 fi 13 13 q) 13 14 1) 13 15 F) 13 4 0) 13 5 0) 13 6 0, fl, pm_u2 fr 13 12 (some 1)) := RD_r (h := (shT, fi, fl, fr)) (show pm_u2 fr 13 12 (some 1) 13 0 = fr 13 0 from wl_ne (by decide)) (show pm_u2 fr 13 12 (some 1) 13 1 = fr 13 1 from wl_ne (by decide)) hr
    have af : ∀ A, (A = 14 ∨ A = 18) → ∃ h1, Ev pmT 83 [.ref A] (shT, pm_u2 (pm_u2 (pm_u2 (pm_u2 (pm_u2 (pm_u2 fi 13 13 q) 13 14 1) 13 15 F) 13 4 0) 13 5 0) 13 6 0, fl, pm_u2 fr 13 12 (some 1)) none h1 ∧ HI hdT shT h1 ∧ RD h1 ∧ ph_r h1 13 12 = some 1 ∧ ph_i h1 1 0 = nI m ∧ ph_i h1 1 1 = nI N := fun A hA => by
      obtain ⟨v1, h1, e1, I1, F1, p1⟩ := iv_ev vN_53 (as := [.ref A]) rfl (fun _ _ => gz_c (gz_r (by rcases hA with rfl | rfl <;> decide)) gz_n) J
      have v10 := pv_n rfl p1
      subst v10
      exact ⟨h1, e1, I1, RD_fr (by decide) (by decide) F1 rJ, (F1 13 12 (by decide)).2.2.trans (show pm_u2 fr 13 12 (some 1) 13 12 = some 1 from u2_eq), (F1 1 0 (by decide)).1.trans cm, (F1 1 1 (by decide)).1.trans cN⟩
    obtain ⟨A, hA, a1, a2⟩ := hr
    have a1 : fr 13 0 = some A := a1
    obtain ⟨h1, e1, I1, r1, c12, d1, d2⟩ := af A hA
    clear af rJ J cm cN
    have kS : ph_r h1 13 9 = some 27 := hi_r I1 rfl rfl (by decide)
    obtain ⟨S1, f1, l1, x1⟩ := h1
    have s1 : S1 = shT := I1.1
    subst s1
    have c12 : x1 13 12 = some 1 := c12
    have d1 : f1 1 0 = nI m := d1
    have d2 : f1 1 1 = nI N := d2
    have kS1 : x1 13 9 = some 27 := kS
    have ow := ow_ev (l := m) (p := 0) (h := (shT, f1, l1, x1)) (by omega) (by decide)
    have J3 := HI_uf27 (g := va_cpy (f1 2) (f1 27) 0 (ixS m 0) N) I1
    have g := ruw_go_1 (q := q) (F := F) 64 0 0 _ (by omega) (by decide) J3 (RD_r rfl rfl r1) c12
    clear I1 r1 J3 a2
    generalize ixS m 0 = ix at *
    rcases hA with rfl | rfl
    ·
      refine gp_n 2 (j' := 2) (lv' := [some (.ref 13), some (.ref 1), some (.ref 2), some (.int q), some (.int 1), some (.int F), none, none]) (st' := [.ref 1, .ref 13]) (h' := (shT, fi, fl, fr)) rfl ?_
      refine gp_of (fun _ k9 => g_putR rfl rfl (by decide) k9) ?_
      refine gp_n 2 (j' := 5) (lv' := [some (.ref 13), some (.ref 1), some (.ref 2), some (.int q), some (.int 1), some (.int F), none, none]) (st' := [.int q, .ref 13]) (h' := (shT, fi, fl, pm_u2 fr 13 12 (some 1))) rfl ?_
      refine gp_of (fun _ k9 => g_putI rfl (Or.inl rfl) rfl (by decide) k9) ?_
      refine gp_n 2 (j' := 8) (lv' := [some (.ref 13), some (.ref 1), some (.ref 2), some (.int q), some (.int 1), some (.int F), none, none]) (st' := [.int 1, .ref 13]) (h' := (shT, pm_u2 fi 13 13 q, fl, pm_u2 fr 13 12 (some 1))) rfl ?_
      refine gp_of (fun _ k9 => g_putI rfl (Or.inr ⟨rfl, by decide⟩) rfl (by decide) k9) ?_
      refine gp_n 2 (j' := 11) (lv' := [some (.ref 13), some (.ref 1), some (.ref 2), some (.int q), some (.int 1), some (.int F), none, none]) (st' := [.int F, .ref 13]) (h' := (shT, pm_u2 (pm_u2 fi 13 13 q) 13 14 1, fl, pm_u2 fr 13 12 (some 1))) rfl ?_
      refine gp_of (fun _ k9 => g_putI rfl (Or.inl rfl) rfl (by decide) k9) ?_
      refine gp_n 2 (j' := 14) (lv' := [some (.ref 13), some (.ref 1), some (.ref 2), some (.int q), some (.int 1), some (.int F), none, none]) (st' := [.int 0, .ref 13]) (h' := (shT, pm_u2 (pm_u2 (pm_u2 fi 13 13 q) 13 14 1) 13 15 F, fl, pm_u2 fr 13 12 (some 1))) rfl ?_
      refine gp_of (fun _ k9 => g_putI rfl (Or.inl rfl) rfl (by decide) k9) ?_
      refine gp_n 2 (j' := 17) (lv' := [some (.ref 13), some (.ref 1), some (.ref 2), some (.int q), some (.int 1), some (.int F), none, none]) (st' := [.int 0, .ref 13]) (h' := (shT, pm_u2 (pm_u2 (pm_u2 (pm_u2 fi 13 13 q) 13 14 1) 13 15 F) 13 4 0, fl, pm_u2 fr 13 12 (some 1))) rfl ?_
      refine gp_of (fun _ k9 => g_putI rfl (Or.inl rfl) rfl (by decide) k9) ?_
      refine gp_n 2 (j' := 20) (lv' := [some (.ref 13), some (.ref 1), some (.ref 2), some (.int q), some (.int 1), some (.int F), none, none]) (st' := [.int 0, .ref 13]) (h' := (shT, pm_u2 (pm_u2 (pm_u2 (pm_u2 (pm_u2 fi 13 13 q) 13 14 1) 13 15 F) 13 4 0) 13 5 0, fl, pm_u2 fr 13 12 (some 1))) rfl ?_
      refine gp_of (fun _ k9 => g_putI rfl (Or.inl rfl) rfl (by decide) k9) ?_
      refine gp_n 1 (j' := 22) (lv' := [some (.ref 13), some (.ref 1), some (.ref 2), some (.int q), some (.int 1), some (.int F), none, none]) (st' := [.ref 13]) (h' := (shT, pm_u2 (pm_u2 (pm_u2 (pm_u2 (pm_u2 (pm_u2 fi 13 13 q) 13 14 1) 13 15 F) 13 4 0) 13 5 0) 13 6 0, fl, pm_u2 fr 13 12 (some 1))) rfl ?_
      refine gp_of (fun _ k9 => g_getR (q' := 14) rfl rfl (by decide) a1 k9) ?_
      refine gp_of (fun _ k9 => g_callv (y := 83) (as := [.ref 14]) (st' := []) rfl rfl (e1) k9) ?_
      refine gp_n 3 (j' := 27) (lv' := [some (.ref 13), some (.ref 1), some (.ref 2), some (.int q), some (.int 1), some (.int F), none, none]) (st' := [.ref 13, .int 0, .ref 2]) (h' := (shT, f1, l1, x1)) rfl ?_
      refine gp_of (fun _ k9 => g_getR (q' := 27) rfl rfl (by decide) kS1 k9) ?_
      refine gp_n 1 (j' := 29) (lv' := [some (.ref 13), some (.ref 1), some (.ref 2), some (.int q), some (.int 1), some (.int F), none, none]) (st' := [.ref 13, .ref 27, .int 0, .ref 2]) (h' := (shT, f1, l1, x1)) rfl ?_
      refine gp_of (fun _ k9 => g_getR (q' := 1) rfl rfl (by decide) c12 k9) ?_
      refine gp_of (fun _ k9 => g_getI (x := nI m) rfl (Or.inl rfl) rfl (by decide) (d1) k9) ?_
      refine gp_n 1 (j' := 32) (lv' := [some (.ref 13), some (.ref 1), some (.ref 2), some (.int q), some (.int 1), some (.int F), none, none]) (st' := [.int 0, .int (nI m), .ref 27, .int 0, .ref 2]) (h' := (shT, f1, l1, x1)) rfl ?_
      refine gp_of (fun _ k9 => g_call (y := 84) (as := [.int (nI m), .int 0]) (st' := [.ref 27, .int 0, .ref 2]) rfl rfl (ow) k9) ?_
      refine gp_n 1 (j' := 34) (lv' := [some (.ref 13), some (.ref 1), some (.ref 2), some (.int q), some (.int 1), some (.int F), none, none]) (st' := [.ref 13, .int (nI ix), .ref 27, .int 0, .ref 2]) (h' := (shT, f1, l1, x1)) rfl ?_
      refine gp_of (fun _ k9 => g_getR (q' := 1) rfl rfl (by decide) c12 k9) ?_
      refine gp_of (fun _ k9 => g_getI (x := nI N) rfl (Or.inl rfl) rfl (by decide) (d2) k9) ?_
      refine gp_of (fun _ k9 => g_cpyN (n0 := 64) (n1 := 1016) rfl rfl rfl (by omega) (by omega) (by decide) (by decide) k9) ?_
      refine gp_n 4 (j' := 41) (lv' := [some (.ref 13), some (.ref 1), some (.ref 2), some (.int q), some (.int 1), some (.int F), some (.int 0), some (.int 0)]) (st' := []) (h' := (shT, (pm_uf f1 27 (va_cpy (f1 2) (f1 27) 0 ix N)), l1, x1)) rfl ?_
      exact g
    ·
      refine gp_n 2 (j' := 2) (lv' := [some (.ref 13), some (.ref 1), some (.ref 2), some (.int q), some (.int 1), some (.int F), none, none]) (st' := [.ref 1, .ref 13]) (h' := (shT, fi, fl, fr)) rfl ?_
      refine gp_of (fun _ k9 => g_putR rfl rfl (by decide) k9) ?_
      refine gp_n 2 (j' := 5) (lv' := [some (.ref 13), some (.ref 1), some (.ref 2), some (.int q), some (.int 1), some (.int F), none, none]) (st' := [.int q, .ref 13]) (h' := (shT, fi, fl, pm_u2 fr 13 12 (some 1))) rfl ?_
      refine gp_of (fun _ k9 => g_putI rfl (Or.inl rfl) rfl (by decide) k9) ?_
      refine gp_n 2 (j' := 8) (lv' := [some (.ref 13), some (.ref 1), some (.ref 2), some (.int q), some (.int 1), some (.int F), none, none]) (st' := [.int 1, .ref 13]) (h' := (shT, pm_u2 fi 13 13 q, fl, pm_u2 fr 13 12 (some 1))) rfl ?_
      refine gp_of (fun _ k9 => g_putI rfl (Or.inr ⟨rfl, by decide⟩) rfl (by decide) k9) ?_
      refine gp_n 2 (j' := 11) (lv' := [some (.ref 13), some (.ref 1), some (.ref 2), some (.int q), some (.int 1), some (.int F), none, none]) (st' := [.int F, .ref 13]) (h' := (shT, pm_u2 (pm_u2 fi 13 13 q) 13 14 1, fl, pm_u2 fr 13 12 (some 1))) rfl ?_
      refine gp_of (fun _ k9 => g_putI rfl (Or.inl rfl) rfl (by decide) k9) ?_
      refine gp_n 2 (j' := 14) (lv' := [some (.ref 13), some (.ref 1), some (.ref 2), some (.int q), some (.int 1), some (.int F), none, none]) (st' := [.int 0, .ref 13]) (h' := (shT, pm_u2 (pm_u2 (pm_u2 fi 13 13 q) 13 14 1) 13 15 F, fl, pm_u2 fr 13 12 (some 1))) rfl ?_
      refine gp_of (fun _ k9 => g_putI rfl (Or.inl rfl) rfl (by decide) k9) ?_
      refine gp_n 2 (j' := 17) (lv' := [some (.ref 13), some (.ref 1), some (.ref 2), some (.int q), some (.int 1), some (.int F), none, none]) (st' := [.int 0, .ref 13]) (h' := (shT, pm_u2 (pm_u2 (pm_u2 (pm_u2 fi 13 13 q) 13 14 1) 13 15 F) 13 4 0, fl, pm_u2 fr 13 12 (some 1))) rfl ?_
      refine gp_of (fun _ k9 => g_putI rfl (Or.inl rfl) rfl (by decide) k9) ?_
      refine gp_n 2 (j' := 20) (lv' := [some (.ref 13), some (.ref 1), some (.ref 2), some (.int q), some (.int 1), some (.int F), none, none]) (st' := [.int 0, .ref 13]) (h' := (shT, pm_u2 (pm_u2 (pm_u2 (pm_u2 (pm_u2 fi 13 13 q) 13 14 1) 13 15 F) 13 4 0) 13 5 0, fl, pm_u2 fr 13 12 (some 1))) rfl ?_
      refine gp_of (fun _ k9 => g_putI rfl (Or.inl rfl) rfl (by decide) k9) ?_
      refine gp_n 1 (j' := 22) (lv' := [some (.ref 13), some (.ref 1), some (.ref 2), some (.int q), some (.int 1), some (.int F), none, none]) (st' := [.ref 13]) (h' := (shT, pm_u2 (pm_u2 (pm_u2 (pm_u2 (pm_u2 (pm_u2 fi 13 13 q) 13 14 1) 13 15 F) 13 4 0) 13 5 0) 13 6 0, fl, pm_u2 fr 13 12 (some 1))) rfl ?_
      refine gp_of (fun _ k9 => g_getR (q' := 18) rfl rfl (by decide) a1 k9) ?_
      refine gp_of (fun _ k9 => g_callv (y := 83) (as := [.ref 18]) (st' := []) rfl rfl (e1) k9) ?_
      refine gp_n 3 (j' := 27) (lv' := [some (.ref 13), some (.ref 1), some (.ref 2), some (.int q), some (.int 1), some (.int F), none, none]) (st' := [.ref 13, .int 0, .ref 2]) (h' := (shT, f1, l1, x1)) rfl ?_
      refine gp_of (fun _ k9 => g_getR (q' := 27) rfl rfl (by decide) kS1 k9) ?_
      refine gp_n 1 (j' := 29) (lv' := [some (.ref 13), some (.ref 1), some (.ref 2), some (.int q), some (.int 1), some (.int F), none, none]) (st' := [.ref 13, .ref 27, .int 0, .ref 2]) (h' := (shT, f1, l1, x1)) rfl ?_
      refine gp_of (fun _ k9 => g_getR (q' := 1) rfl rfl (by decide) c12 k9) ?_
      refine gp_of (fun _ k9 => g_getI (x := nI m) rfl (Or.inl rfl) rfl (by decide) (d1) k9) ?_
      refine gp_n 1 (j' := 32) (lv' := [some (.ref 13), some (.ref 1), some (.ref 2), some (.int q), some (.int 1), some (.int F), none, none]) (st' := [.int 0, .int (nI m), .ref 27, .int 0, .ref 2]) (h' := (shT, f1, l1, x1)) rfl ?_
      refine gp_of (fun _ k9 => g_call (y := 84) (as := [.int (nI m), .int 0]) (st' := [.ref 27, .int 0, .ref 2]) rfl rfl (ow) k9) ?_
      refine gp_n 1 (j' := 34) (lv' := [some (.ref 13), some (.ref 1), some (.ref 2), some (.int q), some (.int 1), some (.int F), none, none]) (st' := [.ref 13, .int (nI ix), .ref 27, .int 0, .ref 2]) (h' := (shT, f1, l1, x1)) rfl ?_
      refine gp_of (fun _ k9 => g_getR (q' := 1) rfl rfl (by decide) c12 k9) ?_
      refine gp_of (fun _ k9 => g_getI (x := nI N) rfl (Or.inl rfl) rfl (by decide) (d2) k9) ?_
      refine gp_of (fun _ k9 => g_cpyN (n0 := 64) (n1 := 1016) rfl rfl rfl (by omega) (by omega) (by decide) (by decide) k9) ?_
      refine gp_n 4 (j' := 41) (lv' := [some (.ref 13), some (.ref 1), some (.ref 2), some (.int q), some (.int 1), some (.int F), some (.int 0), some (.int 0)]) (st' := []) (h' := (shT, (pm_uf f1 27 (va_cpy (f1 2) (f1 27) 0 ix N)), l1, x1)) rfl ?_
      exact g
  obtain ⟨r, er, q⟩ := main
  obtain ⟨e3, e4⟩ := ev_det er e1
  refine ⟨h', e1, ?_, I1, F1⟩
  rw [← e4]
  exact q
theorem HI_uf33 {h : PmH} {g : Nat → Int32} {S : List (Nat × Nat)} (hI : HI hdT shT h) (_ : S = shT) : HI hdT shT (ph_s h, pm_uf (ph_i h) 33 g, ph_l h, ph_r h) := by
  refine ⟨hI.1, fun p s t n hp hs => ?_⟩
  by_cases e : p = 33
  · subst e
    rw [show hd_at hdT shT 33 s = (9, 0, 0, []) from rfl]
    trivial
  · have := hI.2 p s t n hp hs
    have ei : ph_i (ph_s h, pm_uf (ph_i h) 33 g, ph_l h, ph_r h) p s = ph_i h p s := by
      show pm_uf (ph_i h) 33 g p s = ph_i h p s
      unfold pm_uf
      rw [if_neg e]
    unfold hd_ok at this ⊢
    rw [ei]
    exact this
theorem fpw_go : ∀ (n t : Nat) (w : Int64) (l5 : Option Value) (h : PmH), t + n = 12 → HI hdT shT h → RD h → ph_i h 32 0 = nI t → GoP pmT none cd_115 36 [some (.ref 32), some (.ref 1), some (.ref 13), some (.long w), none, l5] [] h RDQ := by
  intro n
  induction n with
  | zero =>
    intro t w l5 h ht hI hr c0
    have le : (12 : Int32) ≤ nI t := nI_le (a := 12) (by omega) (by omega)
    obtain ⟨S, fi, fl, fr⟩ := h
    have hS : S = shT := hI.1
    subst hS
    have c0 : fi 32 0 = nI t := c0

    refine gp_n 1 (j' := 37) (lv' := [some (.ref 32), some (.ref 1), some (.ref 13), some (.long w), none, l5]) (st' := [.ref 32]) (h' := (shT, fi, fl, fr)) rfl ?_
    refine gp_of (fun _ k9 => g_getI (x := nI t) rfl (Or.inl rfl) rfl (by decide) (c0) k9) ?_
    refine gp_n 1 (j' := 39) (lv' := [some (.ref 32), some (.ref 1), some (.ref 13), some (.long w), none, l5]) (st' := [.int 12, .int (nI t)]) (h' := (shT, fi, fl, fr)) rfl ?_
    refine gp_of (fun _ k9 => g_ict rfl (show (12 : Int32) ≤ (nI t) from le) k9) ?_
    refine gp_done (g_vret rfl) ?_
    exact hr
  | succ n ih =>
    intro t w l5 h ht hI hr c0
    have le : ¬ (12 : Int32) ≤ nI t := nI_ge (b := 12) (by omega) (by omega)
    have k8 : ph_r h 1 8 = some 2 := hi_r hI rfl rfl (by decide)
    obtain ⟨v1, h1, e1, I1, F1, p1⟩ := iv_ev vN_124 (as := [.ref 32, .long w]) rfl (fun _ _ => gz_c (gz_r (by decide)) (gz_c (gz_l _) gz_n)) hI
    obtain ⟨z, rfl⟩ := pv_i' (by decide) p1
    have r1 := RD_fr (by decide) (by decide) F1 hr
    have c1 : ph_i h1 32 0 = nI t := (F1 32 0 (by decide)).1.trans c0
    have q8 : ph_r h1 1 8 = some 2 := hi_r I1 rfl rfl (by decide)
    have e1 : Ev pmT 116 [.ref 32, .long w] h (some (.int z)) h1 := e1
    clear F1 p1
    obtain ⟨S1, f1, l1, x1⟩ := h1
    have s1 : S1 = shT := I1.1
    subst s1
    have c1 : f1 32 0 = nI t := c1
    have q8 : x1 1 8 = some 2 := q8
    have I2 : HI hdT shT (shT, pm_u2 f1 32 0 (nI (t + 1)), l1, x1) := HI_wi I1 (fun y => absurd y (by decide))
    obtain ⟨h3, e3, r3, I3, F3⟩ := ruw_0 (h := (shT, pm_u2 f1 32 0 (nI (t + 1)), l1, x1)) (q := 1) (F := z) I2 (RD_r rfl rfl r1) (by decide) (by decide)
    have c3 : ph_i h3 32 0 = nI (t + 1) := (F3 32 0 (by decide)).1.trans u2_i
    have g1 := fun w2 l5 => ih (t + 1) w2 l5 h3 (by omega) I3 r3 c3
    have k30 : ∀ A, (A = 14 ∨ A = 18) → ph_r h3 A 2 = some (A + 2) := fun A hA => by
      rcases hA with rfl | rfl
      · exact hi_r I3 rfl rfl (by decide)
      · exact hi_r I3 rfl rfl (by decide)
    have g2 : ∀ (x : Int32) w2 l5, GoP pmT none cd_115 36 [some (.ref 32), some (.ref 1), some (.ref 13), some (.long w2), none, l5] [] (ph_s h3, pm_u2 (pm_u2 (pm_u2 (ph_i h3) 32 1 z) 32 2 x) 32 3 1, ph_l h3, ph_r h3) RDQ := fun x w2 l5 => by
      have J := HI_wi (p := 32) (s := 1) (x := z) I3 (fun y => absurd y (by decide))
      have J := HI_wi (p := 32) (s := 2) (x := x) J (fun y => absurd y (by decide))
      have J := HI_wi (p := 32) (s := 3) (x := 1) J (fun _ => by decide)
      exact ih (t + 1) w2 l5 _ (by omega) J (RD_r rfl rfl r3) c3
    obtain ⟨A, hA, a1, -⟩ := id r3
    have kA := k30 A hA
    clear ih F3 c3 k30 I2 r1
    obtain ⟨S3, f3, l3, x3⟩ := h3
    have s3 : S3 = shT := I3.1
    subst s3
    have a1 : x3 13 0 = some A := a1
    have kA : x3 A 2 = some (A + 2) := kA
    obtain ⟨S, fi, fl, fr⟩ := h
    have hS : S = shT := hI.1
    subst hS
    have c0 : fi 32 0 = nI t := c0
    rcases hA with rfl | rfl
    ·
      refine gp_n 1 (j' := 37) (lv' := [some (.ref 32), some (.ref 1), some (.ref 13), some (.long w), none, l5]) (st' := [.ref 32]) (h' := (shT, fi, fl, fr)) rfl ?_
      refine gp_of (fun _ k9 => g_getI (x := nI t) rfl (Or.inl rfl) rfl (by decide) (c0) k9) ?_
      refine gp_n 1 (j' := 39) (lv' := [some (.ref 32), some (.ref 1), some (.ref 13), some (.long w), none, l5]) (st' := [.int 12, .int (nI t)]) (h' := (shT, fi, fl, fr)) rfl ?_
      refine gp_of (fun _ k9 => g_icf rfl (show ¬ ((12 : Int32) ≤ (nI t)) from le) k9) ?_
      refine gp_n 3 (j' := 43) (lv' := [some (.ref 32), some (.ref 1), some (.ref 13), some (.long w), none, l5]) (st' := [.int (lg_cmp w 0)]) (h' := (shT, fi, fl, fr)) rfl ?_
      refine gp_if rfl (fun hc1 => ?_) (fun hc1 => ?_)
      · replace hc1 : (lg_cmp w 0) = (0 : Int32) := hc1
        refine gp_done (g_vret rfl) ?_
        exact hr
      · replace hc1 : ¬ ((lg_cmp w 0) = (0 : Int32)) := hc1
        refine gp_n 1 (j' := 45) (lv' := [some (.ref 32), some (.ref 1), some (.ref 13), some (.long w), none, l5]) (st' := [.ref 32]) (h' := (shT, fi, fl, fr)) rfl ?_
        refine gp_of (fun _ k9 => g_getI (x := fi 32 3) rfl (Or.inr rfl) rfl (by decide) (rfl) k9) ?_
        refine gp_if rfl (fun hc2 => ?_) (fun hc2 => ?_)
        · replace hc2 : ¬ (fi 32 3) = (0 : Int32) := hc2
          refine gp_done (g_vret rfl) ?_
          exact hr
        · replace hc2 : ¬ (¬ (fi 32 3) = (0 : Int32)) := hc2
          refine gp_n 2 (j' := 49) (lv' := [some (.ref 32), some (.ref 1), some (.ref 13), some (.long w), none, l5]) (st' := [.long w, .ref 32]) (h' := (shT, fi, fl, fr)) rfl ?_
          refine gp_of (fun _ k9 => g_call (y := 116) (as := [.ref 32, .long w]) (st' := []) rfl rfl (e1) k9) ?_
          refine gp_n 11 (j' := 61) (lv' := [some (.ref 32), some (.ref 1), some (.ref 13), some (.long (w &&& (((1 : Int64) <<< ((z : Int32).toInt64 &&& 63)) ^^^ (-1)))), none, some (.int z)]) (st' := [.ref 32, .ref 32]) (h' := (shT, f1, l1, x1)) rfl ?_
          refine gp_of (fun _ k9 => g_getI (x := nI t) rfl (Or.inl rfl) rfl (by decide) (c1) k9) ?_
          refine gp_n 2 (j' := 64) (lv' := [some (.ref 32), some (.ref 1), some (.ref 13), some (.long (w &&& (((1 : Int64) <<< ((z : Int32).toInt64 &&& 63)) ^^^ (-1)))), none, some (.int z)]) (st' := [.int ((nI t) + 1), .ref 32]) (h' := (shT, f1, l1, x1)) rfl ?_
          rw [nI_1]
          refine gp_of (fun _ k9 => g_putI rfl (Or.inl rfl) rfl (by decide) k9) ?_
          refine gp_n 3 (j' := 68) (lv' := [some (.ref 32), some (.ref 1), some (.ref 13), some (.long (w &&& (((1 : Int64) <<< ((z : Int32).toInt64 &&& 63)) ^^^ (-1)))), none, some (.int z)]) (st' := [.ref 1, .ref 1, .ref 13]) (h' := (shT, pm_u2 f1 32 0 (nI (t + 1)), l1, x1)) rfl ?_
          refine gp_of (fun _ k9 => g_getR (q' := 2) rfl rfl (by decide) q8 k9) ?_
          refine gp_n 3 (j' := 72) (lv' := [some (.ref 32), some (.ref 1), some (.ref 13), some (.long (w &&& (((1 : Int64) <<< ((z : Int32).toInt64 &&& 63)) ^^^ (-1)))), none, some (.int z)]) (st' := [.int z, .int 0, .int 1, .ref 2, .ref 1, .ref 13]) (h' := (shT, pm_u2 f1 32 0 (nI (t + 1)), l1, x1)) rfl ?_
          refine gp_of (fun _ k9 => g_callv (y := 82) (as := [.ref 13, .ref 1, .ref 2, .int 1, .int 0, .int z]) (st' := []) rfl rfl (e3) k9) ?_
          refine gp_n 1 (j' := 74) (lv' := [some (.ref 32), some (.ref 1), some (.ref 13), some (.long (w &&& (((1 : Int64) <<< ((z : Int32).toInt64 &&& 63)) ^^^ (-1)))), none, some (.int z)]) (st' := [.ref 13]) (h' := (shT, f3, l3, x3)) rfl ?_
          refine gp_of (fun _ k9 => g_getI (x := f3 13 8) rfl (Or.inr rfl) rfl (by decide) (rfl) k9) ?_
          refine gp_if rfl (fun hc3 => ?_) (fun hc3 => ?_)
          · replace hc3 : (f3 13 8) = (0 : Int32) := hc3
            refine gp_n 1 (j' := 36) (lv' := [some (.ref 32), some (.ref 1), some (.ref 13), some (.long (w &&& (((1 : Int64) <<< ((z : Int32).toInt64 &&& 63)) ^^^ (-1)))), none, some (.int z)]) (st' := []) (h' := (shT, f3, l3, x3)) rfl ?_
            first | exact g1 _ _ | exact g2 _ _ _
          · replace hc3 : ¬ ((f3 13 8) = (0 : Int32)) := hc3
            refine gp_n 2 (j' := 78) (lv' := [some (.ref 32), some (.ref 1), some (.ref 13), some (.long (w &&& (((1 : Int64) <<< ((z : Int32).toInt64 &&& 63)) ^^^ (-1)))), none, some (.int z)]) (st' := [.int z, .ref 32]) (h' := (shT, f3, l3, x3)) rfl ?_
            refine gp_of (fun _ k9 => g_putI rfl (Or.inl rfl) rfl (by decide) k9) ?_
            refine gp_n 2 (j' := 81) (lv' := [some (.ref 32), some (.ref 1), some (.ref 13), some (.long (w &&& (((1 : Int64) <<< ((z : Int32).toInt64 &&& 63)) ^^^ (-1)))), none, some (.int z)]) (st' := [.ref 13, .ref 32]) (h' := (shT, pm_u2 f3 32 1 z, l3, x3)) rfl ?_
            refine gp_of (fun _ k9 => g_getR (q' := 14) rfl rfl (by decide) a1 k9) ?_
            refine gp_of (fun _ k9 => g_getR (q' := 16) rfl rfl (by decide) kA k9) ?_
            refine gp_n 1 (j' := 84) (lv' := [some (.ref 32), some (.ref 1), some (.ref 13), some (.long (w &&& (((1 : Int64) <<< ((z : Int32).toInt64 &&& 63)) ^^^ (-1)))), none, some (.int z)]) (st' := [.int 0, .ref 16, .ref 32]) (h' := (shT, pm_u2 f3 32 1 z, l3, x3)) rfl ?_
            refine gp_of (fun _ k9 => g_iald (k := 0) (x := (pm_u2 f3 32 1 z) 16 0) rfl rfl (rfl) (by decide) (by decide) (rfl) k9) ?_
            refine gp_of (fun _ k9 => g_putI rfl (Or.inl rfl) rfl (by decide) k9) ?_
            refine gp_n 2 (j' := 88) (lv' := [some (.ref 32), some (.ref 1), some (.ref 13), some (.long (w &&& (((1 : Int64) <<< ((z : Int32).toInt64 &&& 63)) ^^^ (-1)))), none, some (.int z)]) (st' := [.int 1, .ref 32]) (h' := (shT, pm_u2 (pm_u2 f3 32 1 z) 32 2 ((pm_u2 f3 32 1 z) 16 0), l3, x3)) rfl ?_
            refine gp_of (fun _ k9 => g_putI rfl (Or.inr ⟨rfl, by decide⟩) rfl (by decide) k9) ?_
            refine gp_n 1 (j' := 36) (lv' := [some (.ref 32), some (.ref 1), some (.ref 13), some (.long (w &&& (((1 : Int64) <<< ((z : Int32).toInt64 &&& 63)) ^^^ (-1)))), none, some (.int z)]) (st' := []) (h' := (shT, pm_u2 (pm_u2 (pm_u2 f3 32 1 z) 32 2 ((pm_u2 f3 32 1 z) 16 0)) 32 3 1, l3, x3)) rfl ?_
            first | exact g1 _ _ | exact g2 _ _ _
    ·
      refine gp_n 1 (j' := 37) (lv' := [some (.ref 32), some (.ref 1), some (.ref 13), some (.long w), none, l5]) (st' := [.ref 32]) (h' := (shT, fi, fl, fr)) rfl ?_
      refine gp_of (fun _ k9 => g_getI (x := nI t) rfl (Or.inl rfl) rfl (by decide) (c0) k9) ?_
      refine gp_n 1 (j' := 39) (lv' := [some (.ref 32), some (.ref 1), some (.ref 13), some (.long w), none, l5]) (st' := [.int 12, .int (nI t)]) (h' := (shT, fi, fl, fr)) rfl ?_
      refine gp_of (fun _ k9 => g_icf rfl (show ¬ ((12 : Int32) ≤ (nI t)) from le) k9) ?_
      refine gp_n 3 (j' := 43) (lv' := [some (.ref 32), some (.ref 1), some (.ref 13), some (.long w), none, l5]) (st' := [.int (lg_cmp w 0)]) (h' := (shT, fi, fl, fr)) rfl ?_
      refine gp_if rfl (fun hc1 => ?_) (fun hc1 => ?_)
      · replace hc1 : (lg_cmp w 0) = (0 : Int32) := hc1
        refine gp_done (g_vret rfl) ?_
        exact hr
      · replace hc1 : ¬ ((lg_cmp w 0) = (0 : Int32)) := hc1
        refine gp_n 1 (j' := 45) (lv' := [some (.ref 32), some (.ref 1), some (.ref 13), some (.long w), none, l5]) (st' := [.ref 32]) (h' := (shT, fi, fl, fr)) rfl ?_
        refine gp_of (fun _ k9 => g_getI (x := fi 32 3) rfl (Or.inr rfl) rfl (by decide) (rfl) k9) ?_
        refine gp_if rfl (fun hc2 => ?_) (fun hc2 => ?_)
        · replace hc2 : ¬ (fi 32 3) = (0 : Int32) := hc2
          refine gp_done (g_vret rfl) ?_
          exact hr
        · replace hc2 : ¬ (¬ (fi 32 3) = (0 : Int32)) := hc2
          refine gp_n 2 (j' := 49) (lv' := [some (.ref 32), some (.ref 1), some (.ref 13), some (.long w), none, l5]) (st' := [.long w, .ref 32]) (h' := (shT, fi, fl, fr)) rfl ?_
          refine gp_of (fun _ k9 => g_call (y := 116) (as := [.ref 32, .long w]) (st' := []) rfl rfl (e1) k9) ?_
          refine gp_n 11 (j' := 61) (lv' := [some (.ref 32), some (.ref 1), some (.ref 13), some (.long (w &&& (((1 : Int64) <<< ((z : Int32).toInt64 &&& 63)) ^^^ (-1)))), none, some (.int z)]) (st' := [.ref 32, .ref 32]) (h' := (shT, f1, l1, x1)) rfl ?_
          refine gp_of (fun _ k9 => g_getI (x := nI t) rfl (Or.inl rfl) rfl (by decide) (c1) k9) ?_
          refine gp_n 2 (j' := 64) (lv' := [some (.ref 32), some (.ref 1), some (.ref 13), some (.long (w &&& (((1 : Int64) <<< ((z : Int32).toInt64 &&& 63)) ^^^ (-1)))), none, some (.int z)]) (st' := [.int ((nI t) + 1), .ref 32]) (h' := (shT, f1, l1, x1)) rfl ?_
          rw [nI_1]
          refine gp_of (fun _ k9 => g_putI rfl (Or.inl rfl) rfl (by decide) k9) ?_
          refine gp_n 3 (j' := 68) (lv' := [some (.ref 32), some (.ref 1), some (.ref 13), some (.long (w &&& (((1 : Int64) <<< ((z : Int32).toInt64 &&& 63)) ^^^ (-1)))), none, some (.int z)]) (st' := [.ref 1, .ref 1, .ref 13]) (h' := (shT, pm_u2 f1 32 0 (nI (t + 1)), l1, x1)) rfl ?_
          refine gp_of (fun _ k9 => g_getR (q' := 2) rfl rfl (by decide) q8 k9) ?_
          refine gp_n 3 (j' := 72) (lv' := [some (.ref 32), some (.ref 1), some (.ref 13), some (.long (w &&& (((1 : Int64) <<< ((z : Int32).toInt64 &&& 63)) ^^^ (-1)))), none, some (.int z)]) (st' := [.int z, .int 0, .int 1, .ref 2, .ref 1, .ref 13]) (h' := (shT, pm_u2 f1 32 0 (nI (t + 1)), l1, x1)) rfl ?_
          refine gp_of (fun _ k9 => g_callv (y := 82) (as := [.ref 13, .ref 1, .ref 2, .int 1, .int 0, .int z]) (st' := []) rfl rfl (e3) k9) ?_
          refine gp_n 1 (j' := 74) (lv' := [some (.ref 32), some (.ref 1), some (.ref 13), some (.long (w &&& (((1 : Int64) <<< ((z : Int32).toInt64 &&& 63)) ^^^ (-1)))), none, some (.int z)]) (st' := [.ref 13]) (h' := (shT, f3, l3, x3)) rfl ?_
          refine gp_of (fun _ k9 => g_getI (x := f3 13 8) rfl (Or.inr rfl) rfl (by decide) (rfl) k9) ?_
          refine gp_if rfl (fun hc3 => ?_) (fun hc3 => ?_)
          · replace hc3 : (f3 13 8) = (0 : Int32) := hc3
            refine gp_n 1 (j' := 36) (lv' := [some (.ref 32), some (.ref 1), some (.ref 13), some (.long (w &&& (((1 : Int64) <<< ((z : Int32).toInt64 &&& 63)) ^^^ (-1)))), none, some (.int z)]) (st' := []) (h' := (shT, f3, l3, x3)) rfl ?_
            first | exact g1 _ _ | exact g2 _ _ _
          · replace hc3 : ¬ ((f3 13 8) = (0 : Int32)) := hc3
            refine gp_n 2 (j' := 78) (lv' := [some (.ref 32), some (.ref 1), some (.ref 13), some (.long (w &&& (((1 : Int64) <<< ((z : Int32).toInt64 &&& 63)) ^^^ (-1)))), none, some (.int z)]) (st' := [.int z, .ref 32]) (h' := (shT, f3, l3, x3)) rfl ?_
            refine gp_of (fun _ k9 => g_putI rfl (Or.inl rfl) rfl (by decide) k9) ?_
            refine gp_n 2 (j' := 81) (lv' := [some (.ref 32), some (.ref 1), some (.ref 13), some (.long (w &&& (((1 : Int64) <<< ((z : Int32).toInt64 &&& 63)) ^^^ (-1)))), none, some (.int z)]) (st' := [.ref 13, .ref 32]) (h' := (shT, pm_u2 f3 32 1 z, l3, x3)) rfl ?_
            refine gp_of (fun _ k9 => g_getR (q' := 18) rfl rfl (by decide) a1 k9) ?_
            refine gp_of (fun _ k9 => g_getR (q' := 20) rfl rfl (by decide) kA k9) ?_
            refine gp_n 1 (j' := 84) (lv' := [some (.ref 32), some (.ref 1), some (.ref 13), some (.long (w &&& (((1 : Int64) <<< ((z : Int32).toInt64 &&& 63)) ^^^ (-1)))), none, some (.int z)]) (st' := [.int 0, .ref 20, .ref 32]) (h' := (shT, pm_u2 f3 32 1 z, l3, x3)) rfl ?_
            refine gp_of (fun _ k9 => g_iald (k := 0) (x := (pm_u2 f3 32 1 z) 20 0) rfl rfl (rfl) (by decide) (by decide) (rfl) k9) ?_
            refine gp_of (fun _ k9 => g_putI rfl (Or.inl rfl) rfl (by decide) k9) ?_
            refine gp_n 2 (j' := 88) (lv' := [some (.ref 32), some (.ref 1), some (.ref 13), some (.long (w &&& (((1 : Int64) <<< ((z : Int32).toInt64 &&& 63)) ^^^ (-1)))), none, some (.int z)]) (st' := [.int 1, .ref 32]) (h' := (shT, pm_u2 (pm_u2 f3 32 1 z) 32 2 ((pm_u2 f3 32 1 z) 20 0), l3, x3)) rfl ?_
            refine gp_of (fun _ k9 => g_putI rfl (Or.inr ⟨rfl, by decide⟩) rfl (by decide) k9) ?_
            refine gp_n 1 (j' := 36) (lv' := [some (.ref 32), some (.ref 1), some (.ref 13), some (.long (w &&& (((1 : Int64) <<< ((z : Int32).toInt64 &&& 63)) ^^^ (-1)))), none, some (.int z)]) (st' := []) (h' := (shT, pm_u2 (pm_u2 (pm_u2 f3 32 1 z) 32 2 ((pm_u2 f3 32 1 z) 20 0)) 32 3 1, l3, x3)) rfl ?_
            first | exact g1 _ _ | exact g2 _ _ _
theorem fpw_ev {h : PmH} (hI : HI hdT shT h) (hr : RD h) : ∃ h', Ev pmT 115 [.ref 32, .ref 1, .ref 13] h none h' ∧ RD h' ∧ HI hdT shT h' ∧ fram (in_w iN_125) h h' := by
  obtain ⟨v, h', e1, I1, F1, p1⟩ := iv_ev vN_125 (as := [.ref 32, .ref 1, .ref 13]) rfl (fun _ _ => gz_c (gz_r (by decide)) (gz_c (gz_r (by decide)) (gz_c (gz_r (by decide)) gz_n))) hI
  have v0 := pv_n rfl p1
  subst v0
  have main : EvP 115 [.ref 32, .ref 1, .ref 13] h RDQ := by
    clear e1 I1 F1 p1
    have k8 : ph_r h 1 8 = some 2 := hi_r hI rfl rfl (by decide)
    obtain ⟨h3, e3, r3, I3, F3⟩ := ruw_0 (q := 1) (F := -1) hI hr (by decide) (by decide)
    have k3 : ph_r h3 13 3 = some 26 := hi_r I3 rfl rfl (by decide)
    have k4 : ph_r h3 32 4 = some 33 := hi_r I3 rfl rfl (by decide)
    have b8 := I3.2 13 8 (t := 14) (n := 16) rfl (by decide)
    have b8 : 0 ≤ (ph_i h3 13 8).toInt ∧ (ph_i h3 13 8).toInt ≤ 1 := b8
    have k30 : ∀ A, (A = 14 ∨ A = 18) → ph_r h3 A 2 = some (A + 2) := fun A hA => by
      rcases hA with rfl | rfl
      · exact hi_r I3 rfl rfl (by decide)
      · exact hi_r I3 rfl rfl (by decide)
    have g2 : ∀ (x : Int32) (G : Nat → Int32) w2 l5, GoP pmT none cd_115 36 [some (.ref 32), some (.ref 1), some (.ref 13), some (.long w2), none, l5] [] (ph_s h3, pm_uf (pm_u2 (pm_u2 (pm_u2 (pm_u2 (ph_i h3) 32 0 0) 32 1 (-1)) 32 2 x) 32 3 (ph_i h3 13 8)) 33 G, ph_l h3, ph_r h3) RDQ := fun x G w2 l5 => by
      have J := HI_wi (p := 32) (s := 0) (x := 0) I3 (fun y => absurd y (by decide))
      have J := HI_wi (p := 32) (s := 1) (x := -1) J (fun y => absurd y (by decide))
      have J := HI_wi (p := 32) (s := 2) (x := x) J (fun y => absurd y (by decide))
      have J := HI_wi (p := 32) (s := 3) (x := ph_i h3 13 8) J (fun _ => b8)
      have J := HI_uf33 (g := G) J I3.1
      exact fpw_go 12 0 w2 l5 _ (by omega) J (RD_r rfl rfl r3) rfl
    obtain ⟨A, hA, a1, -⟩ := id r3
    have kA := k30 A hA
    clear F3 k30 r3
    refine EvP.of (es := cd_115) (ml := 6) (lv := [some (.ref 32), some (.ref 1), some (.ref 13), none, none, none]) rfl rfl rfl ?_
    obtain ⟨S3, f3, l3, x3⟩ := h3
    have s3 : S3 = shT := I3.1
    subst s3
    have a1 : x3 13 0 = some A := a1
    have kA : x3 A 2 = some (A + 2) := kA
    have k3 : x3 13 3 = some 26 := k3
    have k4 : x3 32 4 = some 33 := k4
    have z8 : f3 13 8 = 0 ∨ f3 13 8 = 1 := by
      have b8 : 0 ≤ (f3 13 8).toInt ∧ (f3 13 8).toInt ≤ 1 := b8
      by_cases y : (f3 13 8).toInt = 0
      · exact Or.inl (Int32.toInt_inj.mp y)
      · exact Or.inr (Int32.toInt_inj.mp (show (f3 13 8).toInt = 1 by omega))
    obtain ⟨S, fi, fl, fr⟩ := h
    have hS : S = shT := hI.1
    subst hS
    have k8 : fr 1 8 = some 2 := k8
    rcases hA with rfl | rfl
    · rcases z8 with z8 | z8
      ·
        refine gp_n 3 (j' := 3) (lv' := [some (.ref 32), some (.ref 1), some (.ref 13), none, none, none]) (st' := [.ref 1, .ref 1, .ref 13]) (h' := (shT, fi, fl, fr)) rfl ?_
        refine gp_of (fun _ k9 => g_getR (q' := 2) rfl rfl (by decide) k8 k9) ?_
        refine gp_n 3 (j' := 7) (lv' := [some (.ref 32), some (.ref 1), some (.ref 13), none, none, none]) (st' := [.int (-1), .int 0, .int 1, .ref 2, .ref 1, .ref 13]) (h' := (shT, fi, fl, fr)) rfl ?_
        refine gp_of (fun _ k9 => g_callv (y := 82) (as := [.ref 13, .ref 1, .ref 2, .int 1, .int 0, .int (-1)]) (st' := []) rfl rfl (e3) k9) ?_
        refine gp_n 2 (j' := 10) (lv' := [some (.ref 32), some (.ref 1), some (.ref 13), none, none, none]) (st' := [.int 0, .ref 32]) (h' := (shT, f3, l3, x3)) rfl ?_
        refine gp_of (fun _ k9 => g_putI rfl (Or.inl rfl) rfl (by decide) k9) ?_
        refine gp_n 2 (j' := 13) (lv' := [some (.ref 32), some (.ref 1), some (.ref 13), none, none, none]) (st' := [.int (-1), .ref 32]) (h' := (shT, pm_u2 f3 32 0 0, l3, x3)) rfl ?_
        refine gp_of (fun _ k9 => g_putI rfl (Or.inl rfl) rfl (by decide) k9) ?_
        refine gp_n 2 (j' := 16) (lv' := [some (.ref 32), some (.ref 1), some (.ref 13), none, none, none]) (st' := [.ref 13, .ref 32]) (h' := (shT, pm_u2 (pm_u2 f3 32 0 0) 32 1 (-1), l3, x3)) rfl ?_
        refine gp_of (fun _ k9 => g_getR (q' := 14) rfl rfl (by decide) a1 k9) ?_
        refine gp_of (fun _ k9 => g_getR (q' := 16) rfl rfl (by decide) kA k9) ?_
        refine gp_n 1 (j' := 19) (lv' := [some (.ref 32), some (.ref 1), some (.ref 13), none, none, none]) (st' := [.int 0, .ref 16, .ref 32]) (h' := (shT, pm_u2 (pm_u2 f3 32 0 0) 32 1 (-1), l3, x3)) rfl ?_
        refine gp_of (fun _ k9 => g_iald (k := 0) (x := (pm_u2 (pm_u2 f3 32 0 0) 32 1 (-1)) 16 0) rfl rfl (rfl) (by decide) (by decide) (rfl) k9) ?_
        refine gp_of (fun _ k9 => g_putI rfl (Or.inl rfl) rfl (by decide) k9) ?_
        refine gp_n 2 (j' := 23) (lv' := [some (.ref 32), some (.ref 1), some (.ref 13), none, none, none]) (st' := [.ref 13, .ref 32]) (h' := (shT, pm_u2 (pm_u2 (pm_u2 f3 32 0 0) 32 1 (-1)) 32 2 ((pm_u2 (pm_u2 f3 32 0 0) 32 1 (-1)) 16 0), l3, x3)) rfl ?_
        refine gp_of (fun _ k9 => g_getI (x := 0) rfl (Or.inr rfl) rfl (by decide) (z8) k9) ?_
        refine gp_of (fun _ k9 => g_putI rfl (Or.inr ⟨rfl, by decide⟩) rfl (by decide) k9) ?_
        refine gp_n 1 (j' := 26) (lv' := [some (.ref 32), some (.ref 1), some (.ref 13), none, none, none]) (st' := [.ref 13]) (h' := (shT, pm_u2 (pm_u2 (pm_u2 (pm_u2 f3 32 0 0) 32 1 (-1)) 32 2 ((pm_u2 (pm_u2 f3 32 0 0) 32 1 (-1)) 16 0)) 32 3 0, l3, x3)) rfl ?_
        refine gp_of (fun _ k9 => g_getR (q' := 26) rfl rfl (by decide) k3 k9) ?_
        refine gp_n 2 (j' := 29) (lv' := [some (.ref 32), some (.ref 1), some (.ref 13), none, none, none]) (st' := [.ref 32, .int 0, .ref 26]) (h' := (shT, pm_u2 (pm_u2 (pm_u2 (pm_u2 f3 32 0 0) 32 1 (-1)) 32 2 ((pm_u2 (pm_u2 f3 32 0 0) 32 1 (-1)) 16 0)) 32 3 0, l3, x3)) rfl ?_
        refine gp_of (fun _ k9 => g_getR (q' := 33) rfl rfl (by decide) k4 k9) ?_
        refine gp_n 2 (j' := 32) (lv' := [some (.ref 32), some (.ref 1), some (.ref 13), none, none, none]) (st' := [.int 64, .int 0, .ref 33, .int 0, .ref 26]) (h' := (shT, pm_u2 (pm_u2 (pm_u2 (pm_u2 f3 32 0 0) 32 1 (-1)) 32 2 ((pm_u2 (pm_u2 f3 32 0 0) 32 1 (-1)) 16 0)) 32 3 0, l3, x3)) rfl ?_
        refine gp_of (fun _ k9 => g_cpy rfl rfl rfl k9) ?_
        refine gp_n 1 (j' := 34) (lv' := [some (.ref 32), some (.ref 1), some (.ref 13), none, none, none]) (st' := [.ref 1]) (h' := (shT, (pm_uf (pm_u2 (pm_u2 (pm_u2 (pm_u2 f3 32 0 0) 32 1 (-1)) 32 2 (pm_u2 (pm_u2 f3 32 0 0) 32 1 (-1) 16 0)) 32 3 0) 33 (va_cpy (pm_u2 (pm_u2 (pm_u2 (pm_u2 f3 32 0 0) 32 1 (-1)) 32 2 (pm_u2 (pm_u2 f3 32 0 0) 32 1 (-1) 16 0)) 32 3 0 26) (pm_u2 (pm_u2 (pm_u2 (pm_u2 f3 32 0 0) 32 1 (-1)) 32 2 (pm_u2 (pm_u2 f3 32 0 0) 32 1 (-1) 16 0)) 32 3 0 33) 0 0 64)), l3, x3)) rfl ?_
        refine gp_of (fun _ k9 => g_getL (x := l3 1 7) rfl rfl (by decide) (rfl) k9) ?_
        refine gp_n 1 (j' := 36) (lv' := [some (.ref 32), some (.ref 1), some (.ref 13), some (.long (l3 1 7)), none, none]) (st' := []) (h' := (shT, (pm_uf (pm_u2 (pm_u2 (pm_u2 (pm_u2 f3 32 0 0) 32 1 (-1)) 32 2 (pm_u2 (pm_u2 f3 32 0 0) 32 1 (-1) 16 0)) 32 3 0) 33 (va_cpy (pm_u2 (pm_u2 (pm_u2 (pm_u2 f3 32 0 0) 32 1 (-1)) 32 2 (pm_u2 (pm_u2 f3 32 0 0) 32 1 (-1) 16 0)) 32 3 0 26) (pm_u2 (pm_u2 (pm_u2 (pm_u2 f3 32 0 0) 32 1 (-1)) 32 2 (pm_u2 (pm_u2 f3 32 0 0) 32 1 (-1) 16 0)) 32 3 0 33) 0 0 64)), l3, x3)) rfl ?_
        have gg := g2 (pm_u2 (pm_u2 f3 32 0 0) 32 1 (-1) 16 0) (va_cpy (pm_u2 (pm_u2 (pm_u2 (pm_u2 f3 32 0 0) 32 1 (-1)) 32 2 (pm_u2 (pm_u2 f3 32 0 0) 32 1 (-1) 16 0)) 32 3 0 26) (pm_u2 (pm_u2 (pm_u2 (pm_u2 f3 32 0 0) 32 1 (-1)) 32 2 (pm_u2 (pm_u2 f3 32 0 0) 32 1 (-1) 16 0)) 32 3 0 33) 0 0 64)
        rw [show ph_i (shT, f3, l3, x3) 13 8 = 0 from z8] at gg
        exact gg _ _
      ·
        refine gp_n 3 (j' := 3) (lv' := [some (.ref 32), some (.ref 1), some (.ref 13), none, none, none]) (st' := [.ref 1, .ref 1, .ref 13]) (h' := (shT, fi, fl, fr)) rfl ?_
        refine gp_of (fun _ k9 => g_getR (q' := 2) rfl rfl (by decide) k8 k9) ?_
        refine gp_n 3 (j' := 7) (lv' := [some (.ref 32), some (.ref 1), some (.ref 13), none, none, none]) (st' := [.int (-1), .int 0, .int 1, .ref 2, .ref 1, .ref 13]) (h' := (shT, fi, fl, fr)) rfl ?_
        refine gp_of (fun _ k9 => g_callv (y := 82) (as := [.ref 13, .ref 1, .ref 2, .int 1, .int 0, .int (-1)]) (st' := []) rfl rfl (e3) k9) ?_
        refine gp_n 2 (j' := 10) (lv' := [some (.ref 32), some (.ref 1), some (.ref 13), none, none, none]) (st' := [.int 0, .ref 32]) (h' := (shT, f3, l3, x3)) rfl ?_
        refine gp_of (fun _ k9 => g_putI rfl (Or.inl rfl) rfl (by decide) k9) ?_
        refine gp_n 2 (j' := 13) (lv' := [some (.ref 32), some (.ref 1), some (.ref 13), none, none, none]) (st' := [.int (-1), .ref 32]) (h' := (shT, pm_u2 f3 32 0 0, l3, x3)) rfl ?_
        refine gp_of (fun _ k9 => g_putI rfl (Or.inl rfl) rfl (by decide) k9) ?_
        refine gp_n 2 (j' := 16) (lv' := [some (.ref 32), some (.ref 1), some (.ref 13), none, none, none]) (st' := [.ref 13, .ref 32]) (h' := (shT, pm_u2 (pm_u2 f3 32 0 0) 32 1 (-1), l3, x3)) rfl ?_
        refine gp_of (fun _ k9 => g_getR (q' := 14) rfl rfl (by decide) a1 k9) ?_
        refine gp_of (fun _ k9 => g_getR (q' := 16) rfl rfl (by decide) kA k9) ?_
        refine gp_n 1 (j' := 19) (lv' := [some (.ref 32), some (.ref 1), some (.ref 13), none, none, none]) (st' := [.int 0, .ref 16, .ref 32]) (h' := (shT, pm_u2 (pm_u2 f3 32 0 0) 32 1 (-1), l3, x3)) rfl ?_
        refine gp_of (fun _ k9 => g_iald (k := 0) (x := (pm_u2 (pm_u2 f3 32 0 0) 32 1 (-1)) 16 0) rfl rfl (rfl) (by decide) (by decide) (rfl) k9) ?_
        refine gp_of (fun _ k9 => g_putI rfl (Or.inl rfl) rfl (by decide) k9) ?_
        refine gp_n 2 (j' := 23) (lv' := [some (.ref 32), some (.ref 1), some (.ref 13), none, none, none]) (st' := [.ref 13, .ref 32]) (h' := (shT, pm_u2 (pm_u2 (pm_u2 f3 32 0 0) 32 1 (-1)) 32 2 ((pm_u2 (pm_u2 f3 32 0 0) 32 1 (-1)) 16 0), l3, x3)) rfl ?_
        refine gp_of (fun _ k9 => g_getI (x := 1) rfl (Or.inr rfl) rfl (by decide) (z8) k9) ?_
        refine gp_of (fun _ k9 => g_putI rfl (Or.inr ⟨rfl, by decide⟩) rfl (by decide) k9) ?_
        refine gp_n 1 (j' := 26) (lv' := [some (.ref 32), some (.ref 1), some (.ref 13), none, none, none]) (st' := [.ref 13]) (h' := (shT, pm_u2 (pm_u2 (pm_u2 (pm_u2 f3 32 0 0) 32 1 (-1)) 32 2 ((pm_u2 (pm_u2 f3 32 0 0) 32 1 (-1)) 16 0)) 32 3 1, l3, x3)) rfl ?_
        refine gp_of (fun _ k9 => g_getR (q' := 26) rfl rfl (by decide) k3 k9) ?_
        refine gp_n 2 (j' := 29) (lv' := [some (.ref 32), some (.ref 1), some (.ref 13), none, none, none]) (st' := [.ref 32, .int 0, .ref 26]) (h' := (shT, pm_u2 (pm_u2 (pm_u2 (pm_u2 f3 32 0 0) 32 1 (-1)) 32 2 ((pm_u2 (pm_u2 f3 32 0 0) 32 1 (-1)) 16 0)) 32 3 1, l3, x3)) rfl ?_
        refine gp_of (fun _ k9 => g_getR (q' := 33) rfl rfl (by decide) k4 k9) ?_
        refine gp_n 2 (j' := 32) (lv' := [some (.ref 32), some (.ref 1), some (.ref 13), none, none, none]) (st' := [.int 64, .int 0, .ref 33, .int 0, .ref 26]) (h' := (shT, pm_u2 (pm_u2 (pm_u2 (pm_u2 f3 32 0 0) 32 1 (-1)) 32 2 ((pm_u2 (pm_u2 f3 32 0 0) 32 1 (-1)) 16 0)) 32 3 1, l3, x3)) rfl ?_
        refine gp_of (fun _ k9 => g_cpy rfl rfl rfl k9) ?_
        refine gp_n 1 (j' := 34) (lv' := [some (.ref 32), some (.ref 1), some (.ref 13), none, none, none]) (st' := [.ref 1]) (h' := (shT, (pm_uf (pm_u2 (pm_u2 (pm_u2 (pm_u2 f3 32 0 0) 32 1 (-1)) 32 2 (pm_u2 (pm_u2 f3 32 0 0) 32 1 (-1) 16 0)) 32 3 1) 33 (va_cpy (pm_u2 (pm_u2 (pm_u2 (pm_u2 f3 32 0 0) 32 1 (-1)) 32 2 (pm_u2 (pm_u2 f3 32 0 0) 32 1 (-1) 16 0)) 32 3 1 26) (pm_u2 (pm_u2 (pm_u2 (pm_u2 f3 32 0 0) 32 1 (-1)) 32 2 (pm_u2 (pm_u2 f3 32 0 0) 32 1 (-1) 16 0)) 32 3 1 33) 0 0 64)), l3, x3)) rfl ?_
        refine gp_of (fun _ k9 => g_getL (x := l3 1 7) rfl rfl (by decide) (rfl) k9) ?_
        refine gp_n 1 (j' := 36) (lv' := [some (.ref 32), some (.ref 1), some (.ref 13), some (.long (l3 1 7)), none, none]) (st' := []) (h' := (shT, (pm_uf (pm_u2 (pm_u2 (pm_u2 (pm_u2 f3 32 0 0) 32 1 (-1)) 32 2 (pm_u2 (pm_u2 f3 32 0 0) 32 1 (-1) 16 0)) 32 3 1) 33 (va_cpy (pm_u2 (pm_u2 (pm_u2 (pm_u2 f3 32 0 0) 32 1 (-1)) 32 2 (pm_u2 (pm_u2 f3 32 0 0) 32 1 (-1) 16 0)) 32 3 1 26) (pm_u2 (pm_u2 (pm_u2 (pm_u2 f3 32 0 0) 32 1 (-1)) 32 2 (pm_u2 (pm_u2 f3 32 0 0) 32 1 (-1) 16 0)) 32 3 1 33) 0 0 64)), l3, x3)) rfl ?_
        have gg := g2 (pm_u2 (pm_u2 f3 32 0 0) 32 1 (-1) 16 0) (va_cpy (pm_u2 (pm_u2 (pm_u2 (pm_u2 f3 32 0 0) 32 1 (-1)) 32 2 (pm_u2 (pm_u2 f3 32 0 0) 32 1 (-1) 16 0)) 32 3 1 26) (pm_u2 (pm_u2 (pm_u2 (pm_u2 f3 32 0 0) 32 1 (-1)) 32 2 (pm_u2 (pm_u2 f3 32 0 0) 32 1 (-1) 16 0)) 32 3 1 33) 0 0 64)
        rw [show ph_i (shT, f3, l3, x3) 13 8 = 1 from z8] at gg
        exact gg _ _
    · rcases z8 with z8 | z8
      ·
        refine gp_n 3 (j' := 3) (lv' := [some (.ref 32), some (.ref 1), some (.ref 13), none, none, none]) (st' := [.ref 1, .ref 1, .ref 13]) (h' := (shT, fi, fl, fr)) rfl ?_
        refine gp_of (fun _ k9 => g_getR (q' := 2) rfl rfl (by decide) k8 k9) ?_
        refine gp_n 3 (j' := 7) (lv' := [some (.ref 32), some (.ref 1), some (.ref 13), none, none, none]) (st' := [.int (-1), .int 0, .int 1, .ref 2, .ref 1, .ref 13]) (h' := (shT, fi, fl, fr)) rfl ?_
        refine gp_of (fun _ k9 => g_callv (y := 82) (as := [.ref 13, .ref 1, .ref 2, .int 1, .int 0, .int (-1)]) (st' := []) rfl rfl (e3) k9) ?_
        refine gp_n 2 (j' := 10) (lv' := [some (.ref 32), some (.ref 1), some (.ref 13), none, none, none]) (st' := [.int 0, .ref 32]) (h' := (shT, f3, l3, x3)) rfl ?_
        refine gp_of (fun _ k9 => g_putI rfl (Or.inl rfl) rfl (by decide) k9) ?_
        refine gp_n 2 (j' := 13) (lv' := [some (.ref 32), some (.ref 1), some (.ref 13), none, none, none]) (st' := [.int (-1), .ref 32]) (h' := (shT, pm_u2 f3 32 0 0, l3, x3)) rfl ?_
        refine gp_of (fun _ k9 => g_putI rfl (Or.inl rfl) rfl (by decide) k9) ?_
        refine gp_n 2 (j' := 16) (lv' := [some (.ref 32), some (.ref 1), some (.ref 13), none, none, none]) (st' := [.ref 13, .ref 32]) (h' := (shT, pm_u2 (pm_u2 f3 32 0 0) 32 1 (-1), l3, x3)) rfl ?_
        refine gp_of (fun _ k9 => g_getR (q' := 18) rfl rfl (by decide) a1 k9) ?_
        refine gp_of (fun _ k9 => g_getR (q' := 20) rfl rfl (by decide) kA k9) ?_
        refine gp_n 1 (j' := 19) (lv' := [some (.ref 32), some (.ref 1), some (.ref 13), none, none, none]) (st' := [.int 0, .ref 20, .ref 32]) (h' := (shT, pm_u2 (pm_u2 f3 32 0 0) 32 1 (-1), l3, x3)) rfl ?_
        refine gp_of (fun _ k9 => g_iald (k := 0) (x := (pm_u2 (pm_u2 f3 32 0 0) 32 1 (-1)) 20 0) rfl rfl (rfl) (by decide) (by decide) (rfl) k9) ?_
        refine gp_of (fun _ k9 => g_putI rfl (Or.inl rfl) rfl (by decide) k9) ?_
        refine gp_n 2 (j' := 23) (lv' := [some (.ref 32), some (.ref 1), some (.ref 13), none, none, none]) (st' := [.ref 13, .ref 32]) (h' := (shT, pm_u2 (pm_u2 (pm_u2 f3 32 0 0) 32 1 (-1)) 32 2 ((pm_u2 (pm_u2 f3 32 0 0) 32 1 (-1)) 20 0), l3, x3)) rfl ?_
        refine gp_of (fun _ k9 => g_getI (x := 0) rfl (Or.inr rfl) rfl (by decide) (z8) k9) ?_
        refine gp_of (fun _ k9 => g_putI rfl (Or.inr ⟨rfl, by decide⟩) rfl (by decide) k9) ?_
        refine gp_n 1 (j' := 26) (lv' := [some (.ref 32), some (.ref 1), some (.ref 13), none, none, none]) (st' := [.ref 13]) (h' := (shT, pm_u2 (pm_u2 (pm_u2 (pm_u2 f3 32 0 0) 32 1 (-1)) 32 2 ((pm_u2 (pm_u2 f3 32 0 0) 32 1 (-1)) 20 0)) 32 3 0, l3, x3)) rfl ?_
        refine gp_of (fun _ k9 => g_getR (q' := 26) rfl rfl (by decide) k3 k9) ?_
        refine gp_n 2 (j' := 29) (lv' := [some (.ref 32), some (.ref 1), some (.ref 13), none, none, none]) (st' := [.ref 32, .int 0, .ref 26]) (h' := (shT, pm_u2 (pm_u2 (pm_u2 (pm_u2 f3 32 0 0) 32 1 (-1)) 32 2 ((pm_u2 (pm_u2 f3 32 0 0) 32 1 (-1)) 20 0)) 32 3 0, l3, x3)) rfl ?_
        refine gp_of (fun _ k9 => g_getR (q' := 33) rfl rfl (by decide) k4 k9) ?_
        refine gp_n 2 (j' := 32) (lv' := [some (.ref 32), some (.ref 1), some (.ref 13), none, none, none]) (st' := [.int 64, .int 0, .ref 33, .int 0, .ref 26]) (h' := (shT, pm_u2 (pm_u2 (pm_u2 (pm_u2 f3 32 0 0) 32 1 (-1)) 32 2 ((pm_u2 (pm_u2 f3 32 0 0) 32 1 (-1)) 20 0)) 32 3 0, l3, x3)) rfl ?_
        refine gp_of (fun _ k9 => g_cpy rfl rfl rfl k9) ?_
        refine gp_n 1 (j' := 34) (lv' := [some (.ref 32), some (.ref 1), some (.ref 13), none, none, none]) (st' := [.ref 1]) (h' := (shT, (pm_uf (pm_u2 (pm_u2 (pm_u2 (pm_u2 f3 32 0 0) 32 1 (-1)) 32 2 (pm_u2 (pm_u2 f3 32 0 0) 32 1 (-1) 20 0)) 32 3 0) 33 (va_cpy (pm_u2 (pm_u2 (pm_u2 (pm_u2 f3 32 0 0) 32 1 (-1)) 32 2 (pm_u2 (pm_u2 f3 32 0 0) 32 1 (-1) 20 0)) 32 3 0 26) (pm_u2 (pm_u2 (pm_u2 (pm_u2 f3 32 0 0) 32 1 (-1)) 32 2 (pm_u2 (pm_u2 f3 32 0 0) 32 1 (-1) 20 0)) 32 3 0 33) 0 0 64)), l3, x3)) rfl ?_
        refine gp_of (fun _ k9 => g_getL (x := l3 1 7) rfl rfl (by decide) (rfl) k9) ?_
        refine gp_n 1 (j' := 36) (lv' := [some (.ref 32), some (.ref 1), some (.ref 13), some (.long (l3 1 7)), none, none]) (st' := []) (h' := (shT, (pm_uf (pm_u2 (pm_u2 (pm_u2 (pm_u2 f3 32 0 0) 32 1 (-1)) 32 2 (pm_u2 (pm_u2 f3 32 0 0) 32 1 (-1) 20 0)) 32 3 0) 33 (va_cpy (pm_u2 (pm_u2 (pm_u2 (pm_u2 f3 32 0 0) 32 1 (-1)) 32 2 (pm_u2 (pm_u2 f3 32 0 0) 32 1 (-1) 20 0)) 32 3 0 26) (pm_u2 (pm_u2 (pm_u2 (pm_u2 f3 32 0 0) 32 1 (-1)) 32 2 (pm_u2 (pm_u2 f3 32 0 0) 32 1 (-1) 20 0)) 32 3 0 33) 0 0 64)), l3, x3)) rfl ?_
        have gg := g2 (pm_u2 (pm_u2 f3 32 0 0) 32 1 (-1) 20 0) (va_cpy (pm_u2 (pm_u2 (pm_u2 (pm_u2 f3 32 0 0) 32 1 (-1)) 32 2 (pm_u2 (pm_u2 f3 32 0 0) 32 1 (-1) 20 0)) 32 3 0 26) (pm_u2 (pm_u2 (pm_u2 (pm_u2 f3 32 0 0) 32 1 (-1)) 32 2 (pm_u2 (pm_u2 f3 32 0 0) 32 1 (-1) 20 0)) 32 3 0 33) 0 0 64)
        rw [show ph_i (shT, f3, l3, x3) 13 8 = 0 from z8] at gg
        exact gg _ _
      ·
        refine gp_n 3 (j' := 3) (lv' := [some (.ref 32), some (.ref 1), some (.ref 13), none, none, none]) (st' := [.ref 1, .ref 1, .ref 13]) (h' := (shT, fi, fl, fr)) rfl ?_
        refine gp_of (fun _ k9 => g_getR (q' := 2) rfl rfl (by decide) k8 k9) ?_
        refine gp_n 3 (j' := 7) (lv' := [some (.ref 32), some (.ref 1), some (.ref 13), none, none, none]) (st' := [.int (-1), .int 0, .int 1, .ref 2, .ref 1, .ref 13]) (h' := (shT, fi, fl, fr)) rfl ?_
        refine gp_of (fun _ k9 => g_callv (y := 82) (as := [.ref 13, .ref 1, .ref 2, .int 1, .int 0, .int (-1)]) (st' := []) rfl rfl (e3) k9) ?_
        refine gp_n 2 (j' := 10) (lv' := [some (.ref 32), some (.ref 1), some (.ref 13), none, none, none]) (st' := [.int 0, .ref 32]) (h' := (shT, f3, l3, x3)) rfl ?_
        refine gp_of (fun _ k9 => g_putI rfl (Or.inl rfl) rfl (by decide) k9) ?_
        refine gp_n 2 (j' := 13) (lv' := [some (.ref 32), some (.ref 1), some (.ref 13), none, none, none]) (st' := [.int (-1), .ref 32]) (h' := (shT, pm_u2 f3 32 0 0, l3, x3)) rfl ?_
        refine gp_of (fun _ k9 => g_putI rfl (Or.inl rfl) rfl (by decide) k9) ?_
        refine gp_n 2 (j' := 16) (lv' := [some (.ref 32), some (.ref 1), some (.ref 13), none, none, none]) (st' := [.ref 13, .ref 32]) (h' := (shT, pm_u2 (pm_u2 f3 32 0 0) 32 1 (-1), l3, x3)) rfl ?_
        refine gp_of (fun _ k9 => g_getR (q' := 18) rfl rfl (by decide) a1 k9) ?_
        refine gp_of (fun _ k9 => g_getR (q' := 20) rfl rfl (by decide) kA k9) ?_
        refine gp_n 1 (j' := 19) (lv' := [some (.ref 32), some (.ref 1), some (.ref 13), none, none, none]) (st' := [.int 0, .ref 20, .ref 32]) (h' := (shT, pm_u2 (pm_u2 f3 32 0 0) 32 1 (-1), l3, x3)) rfl ?_
        refine gp_of (fun _ k9 => g_iald (k := 0) (x := (pm_u2 (pm_u2 f3 32 0 0) 32 1 (-1)) 20 0) rfl rfl (rfl) (by decide) (by decide) (rfl) k9) ?_
        refine gp_of (fun _ k9 => g_putI rfl (Or.inl rfl) rfl (by decide) k9) ?_
        refine gp_n 2 (j' := 23) (lv' := [some (.ref 32), some (.ref 1), some (.ref 13), none, none, none]) (st' := [.ref 13, .ref 32]) (h' := (shT, pm_u2 (pm_u2 (pm_u2 f3 32 0 0) 32 1 (-1)) 32 2 ((pm_u2 (pm_u2 f3 32 0 0) 32 1 (-1)) 20 0), l3, x3)) rfl ?_
        refine gp_of (fun _ k9 => g_getI (x := 1) rfl (Or.inr rfl) rfl (by decide) (z8) k9) ?_
        refine gp_of (fun _ k9 => g_putI rfl (Or.inr ⟨rfl, by decide⟩) rfl (by decide) k9) ?_
        refine gp_n 1 (j' := 26) (lv' := [some (.ref 32), some (.ref 1), some (.ref 13), none, none, none]) (st' := [.ref 13]) (h' := (shT, pm_u2 (pm_u2 (pm_u2 (pm_u2 f3 32 0 0) 32 1 (-1)) 32 2 ((pm_u2 (pm_u2 f3 32 0 0) 32 1 (-1)) 20 0)) 32 3 1, l3, x3)) rfl ?_
        refine gp_of (fun _ k9 => g_getR (q' := 26) rfl rfl (by decide) k3 k9) ?_
        refine gp_n 2 (j' := 29) (lv' := [some (.ref 32), some (.ref 1), some (.ref 13), none, none, none]) (st' := [.ref 32, .int 0, .ref 26]) (h' := (shT, pm_u2 (pm_u2 (pm_u2 (pm_u2 f3 32 0 0) 32 1 (-1)) 32 2 ((pm_u2 (pm_u2 f3 32 0 0) 32 1 (-1)) 20 0)) 32 3 1, l3, x3)) rfl ?_
        refine gp_of (fun _ k9 => g_getR (q' := 33) rfl rfl (by decide) k4 k9) ?_
        refine gp_n 2 (j' := 32) (lv' := [some (.ref 32), some (.ref 1), some (.ref 13), none, none, none]) (st' := [.int 64, .int 0, .ref 33, .int 0, .ref 26]) (h' := (shT, pm_u2 (pm_u2 (pm_u2 (pm_u2 f3 32 0 0) 32 1 (-1)) 32 2 ((pm_u2 (pm_u2 f3 32 0 0) 32 1 (-1)) 20 0)) 32 3 1, l3, x3)) rfl ?_
        refine gp_of (fun _ k9 => g_cpy rfl rfl rfl k9) ?_
        refine gp_n 1 (j' := 34) (lv' := [some (.ref 32), some (.ref 1), some (.ref 13), none, none, none]) (st' := [.ref 1]) (h' := (shT, (pm_uf (pm_u2 (pm_u2 (pm_u2 (pm_u2 f3 32 0 0) 32 1 (-1)) 32 2 (pm_u2 (pm_u2 f3 32 0 0) 32 1 (-1) 20 0)) 32 3 1) 33 (va_cpy (pm_u2 (pm_u2 (pm_u2 (pm_u2 f3 32 0 0) 32 1 (-1)) 32 2 (pm_u2 (pm_u2 f3 32 0 0) 32 1 (-1) 20 0)) 32 3 1 26) (pm_u2 (pm_u2 (pm_u2 (pm_u2 f3 32 0 0) 32 1 (-1)) 32 2 (pm_u2 (pm_u2 f3 32 0 0) 32 1 (-1) 20 0)) 32 3 1 33) 0 0 64)), l3, x3)) rfl ?_
        refine gp_of (fun _ k9 => g_getL (x := l3 1 7) rfl rfl (by decide) (rfl) k9) ?_
        refine gp_n 1 (j' := 36) (lv' := [some (.ref 32), some (.ref 1), some (.ref 13), some (.long (l3 1 7)), none, none]) (st' := []) (h' := (shT, (pm_uf (pm_u2 (pm_u2 (pm_u2 (pm_u2 f3 32 0 0) 32 1 (-1)) 32 2 (pm_u2 (pm_u2 f3 32 0 0) 32 1 (-1) 20 0)) 32 3 1) 33 (va_cpy (pm_u2 (pm_u2 (pm_u2 (pm_u2 f3 32 0 0) 32 1 (-1)) 32 2 (pm_u2 (pm_u2 f3 32 0 0) 32 1 (-1) 20 0)) 32 3 1 26) (pm_u2 (pm_u2 (pm_u2 (pm_u2 f3 32 0 0) 32 1 (-1)) 32 2 (pm_u2 (pm_u2 f3 32 0 0) 32 1 (-1) 20 0)) 32 3 1 33) 0 0 64)), l3, x3)) rfl ?_
        have gg := g2 (pm_u2 (pm_u2 f3 32 0 0) 32 1 (-1) 20 0) (va_cpy (pm_u2 (pm_u2 (pm_u2 (pm_u2 f3 32 0 0) 32 1 (-1)) 32 2 (pm_u2 (pm_u2 f3 32 0 0) 32 1 (-1) 20 0)) 32 3 1 26) (pm_u2 (pm_u2 (pm_u2 (pm_u2 f3 32 0 0) 32 1 (-1)) 32 2 (pm_u2 (pm_u2 f3 32 0 0) 32 1 (-1) 20 0)) 32 3 1 33) 0 0 64)
        rw [show ph_i (shT, f3, l3, x3) 13 8 = 1 from z8] at gg
        exact gg _ _
  obtain ⟨r, er, q⟩ := main
  obtain ⟨e3, e4⟩ := ev_det er e1
  refine ⟨h', e1, ?_, I1, F1⟩
  rw [← e4]
  exact q
