theorem fz_go_14 {c P : Nat} {Mt s : Nat → Int32} {fl : Nat → Nat → Int64} {fr : Nat → Nat → Option Nat} (hP : P ≤ 8) (hc : c < 64) (k0 : fr 13 0 = some 14) (k2 : fr 14 2 = some 16) (k3 : fr 14 3 = some 17) (kS : fr 13 9 = some 27) (kT : fr 13 2 = some 22) (t1 : fr 22 1 = some 24) (t2 : fr 22 2 = some 25) (hs : ∀ p, p < P → inB 8128 (s p)) : ∀ (n p : Nat) (fi : Nat → Nat → Int32), p + n = P → fi 14 0 = nI P → (∀ p', p ≤ p' → p' < P → fi 16 p' = Mt p') → (∀ p, p < P → ∃ r, r < 8 ∧ fi 17 (8 * 0 + p) = nI r ∧ fi 27 (ixS 0 r + 0) = s p) → ∃ fi', (∀ p', p ≤ p' → p' < P → fi' 16 p' = Mt p' + coS (s p') false ∧ fi' 24 (8 * c + p') = Mt p' + coS (s p') false ∧ fi' 25 (8 * c + p') = nI (2 * p')) ∧ (∀ q s, ¬ (q = 16 ∧ p ≤ s) → ¬ ((q = 24 ∨ q = 25) ∧ 8 * c + p ≤ s ∧ s < 8 * c + 8) → fi' q s = fi q s) ∧ Go pmT none cd_98 2 [some (.ref 13), some (.int (nI c)), some (.int (nI p))] [] (shT, fi, fl, fr) (none, (shT, fi', fl, fr)) := by
  intro n
  induction n with
  | zero =>
    intro p fi hp cP hM hR
    have hp : p = P := by omega
    subst hp
    refine ⟨fi, fun p' z1 z2 => absurd z2 (by omega), fun _ _ _ _ => rfl, ?_⟩
    refine go_of ?_
    refine gp_n 2 (j' := 4) (lv' := [some (.ref 13), some (.int (nI c)), some (.int (nI p))]) (st' := [.ref 13, .int (nI p)]) (h' := (shT, fi, fl, fr)) rfl ?_
    refine gp_of (fun _ k9 => g_getR (q' := 14) rfl rfl (by decide) k0 k9) ?_
    refine gp_of (fun _ k9 => g_getI (x := nI p) rfl (Or.inl rfl) rfl (by decide) (cP) k9) ?_
    refine gp_of (fun _ k9 => g_ict rfl (show (nI p) ≤ (nI p) from Int32.le_refl _) k9) ?_
    refine gp_done (g_vret rfl) ?_
    rfl
  | succ n ih =>
    intro p fi hp cP hM hR
    obtain ⟨r, r1, r2, r3⟩ := hR p (by omega)
    have mt := hM p (Nat.le_refl _) (by omega)
    have tp := ixS_top (l := 0) (r := r) (by decide) r1
    have ps : Ev pmT 88 [.ref 13, .int 0, .int (nI p)] (shT, fi, fl, fr) (some (.int (nI (ixS 0 r)))) (shT, fi, fl, fr) := ps_ev_14 (l := 0) (by decide) (by omega) r1 k0 k3 r2
    have pn : Ev pmT 77 [.int (s p), .int 0] (shT, fi, fl, fr) (some (.int (coS (s p) false))) (shT, fi, fl, fr) := pny_ev2 (t := false) (hs p (by omega))
    have e2 : (2 : Int32) * nI p = nI (2 * p) := nI_mul 2 p
    have pt := pt_ev (c := c) (p := p) (x := Mt p + coS (s p) false) (y := nI (2 * p)) (fi := pm_u2 fi 16 p (Mt p + coS (s p) false)) (fl := fl) (fr := fr) hc (by omega) t1 t2
    have fB : ∀ q s', ¬ (q = 16 ∧ s' = p) → ¬ (q = 24 ∧ s' = 8 * c + p) → ¬ (q = 25 ∧ s' = 8 * c + p) → pm_u2 (pm_u2 (pm_u2 fi 16 p (Mt p + coS (s p) false)) 24 (8 * c + p) (Mt p + coS (s p) false)) 25 (8 * c + p) (nI (2 * p)) q s' = fi q s' := fun q s' z0 z1 z2 => (wl_ne z2).trans ((wl_ne z1).trans (wl_ne z0))
    have e16 : pm_u2 (pm_u2 (pm_u2 fi 16 p (Mt p + coS (s p) false)) 24 (8 * c + p) (Mt p + coS (s p) false)) 25 (8 * c + p) (nI (2 * p)) 16 p = Mt p + coS (s p) false := (wl_ne (by omega)).trans ((wl_ne (by omega)).trans u2_eq)
    have e24 : pm_u2 (pm_u2 (pm_u2 fi 16 p (Mt p + coS (s p) false)) 24 (8 * c + p) (Mt p + coS (s p) false)) 25 (8 * c + p) (nI (2 * p)) 24 (8 * c + p) = Mt p + coS (s p) false := (wl_ne (by omega)).trans u2_eq
    have e25 : pm_u2 (pm_u2 (pm_u2 fi 16 p (Mt p + coS (s p) false)) 24 (8 * c + p) (Mt p + coS (s p) false)) 25 (8 * c + p) (nI (2 * p)) 25 (8 * c + p) = nI (2 * p) := u2_eq
    generalize hF : pm_u2 (pm_u2 (pm_u2 fi 16 p (Mt p + coS (s p) false)) 24 (8 * c + p) (Mt p + coS (s p) false)) 25 (8 * c + p) (nI (2 * p)) = f2 at *
    obtain ⟨f3, b1, b2, b3⟩ := ih (p + 1) f2 (by omega) ((fB _ _ (by omega) (by omega) (by omega)).trans cP) (fun p' z1 z2 => (fB _ _ (by omega) (by omega) (by omega)).trans (hM p' (by omega) z2)) (fun p hp => by
      obtain ⟨r, r1, r2, r3⟩ := hR p hp
      exact ⟨r, r1, (fB _ _ (by omega) (by omega) (by omega)).trans r2, (fB _ _ (by omega) (by omega) (by omega)).trans r3⟩)
    refine ⟨f3, fun p' z1 z2 => ?_, fun q s' z1 z2 => (b2 q s' (by omega) (by omega)).trans (fB q s' (by omega) (by omega) (by omega)), ?_⟩
    · by_cases e : p' = p
      · subst e
        exact ⟨(b2 _ _ (by omega) (by omega)).trans e16, (b2 _ _ (by omega) (by omega)).trans e24, (b2 _ _ (by omega) (by omega)).trans e25⟩
      · exact b1 p' (by omega) z2
    subst hF
    have r3 : fi 27 (ixS 0 r) = s p := r3
    have tp : ixS 0 r < 1016 := by omega
    clear ih b1 b2 fB hM hR e24 e25 e16
    generalize Mt p = x at *
    generalize coS (s p) false = v at *
    generalize s p = y at *
    generalize ixS 0 r = ix at *
    refine go_of ?_
    refine gp_n 2 (j' := 4) (lv' := [some (.ref 13), some (.int (nI c)), some (.int (nI p))]) (st' := [.ref 13, .int (nI p)]) (h' := (shT, fi, fl, fr)) rfl ?_
    refine gp_of (fun _ k9 => g_getR (q' := 14) rfl rfl (by decide) k0 k9) ?_
    refine gp_of (fun _ k9 => g_getI (x := nI P) rfl (Or.inl rfl) rfl (by decide) (cP) k9) ?_
    refine gp_of (fun _ k9 => g_icf rfl (show ¬ ((nI P) ≤ (nI p)) from nI_ge (by omega) (by omega)) k9) ?_
    refine gp_n 1 (j' := 8) (lv' := [some (.ref 13), some (.int (nI c)), some (.int (nI p))]) (st' := [.ref 13]) (h' := (shT, fi, fl, fr)) rfl ?_
    refine gp_of (fun _ k9 => g_getR (q' := 14) rfl rfl (by decide) k0 k9) ?_
    refine gp_of (fun _ k9 => g_getR (q' := 16) rfl rfl (by decide) k2 k9) ?_
    refine gp_n 2 (j' := 12) (lv' := [some (.ref 13), some (.int (nI c)), some (.int (nI p))]) (st' := [.int (nI p), .ref 16, .int (nI p), .ref 16]) (h' := (shT, fi, fl, fr)) rfl ?_
    refine gp_of (fun _ k9 => g_iald (k := p) (x := x) rfl rfl (rfl) (by omega) (by decide) (mt) k9) ?_
    refine gp_n 1 (j' := 14) (lv' := [some (.ref 13), some (.int (nI c)), some (.int (nI p))]) (st' := [.ref 13, .int x, .int (nI p), .ref 16]) (h' := (shT, fi, fl, fr)) rfl ?_
    refine gp_of (fun _ k9 => g_getR (q' := 27) rfl rfl (by decide) kS k9) ?_
    refine gp_n 3 (j' := 18) (lv' := [some (.ref 13), some (.int (nI c)), some (.int (nI p))]) (st' := [.int (nI p), .int 0, .ref 13, .ref 27, .int x, .int (nI p), .ref 16]) (h' := (shT, fi, fl, fr)) rfl ?_
    refine gp_of (fun _ k9 => g_call (y := 88) (as := [.ref 13, .int 0, .int (nI p)]) (st' := [.ref 27, .int x, .int (nI p), .ref 16]) rfl rfl (ps) k9) ?_
    refine gp_of (fun _ k9 => g_iald (k := ix) (x := y) rfl rfl (rfl) (by omega) (by decide) (r3) k9) ?_
    refine gp_n 1 (j' := 21) (lv' := [some (.ref 13), some (.int (nI c)), some (.int (nI p))]) (st' := [.int 0, .int y, .int x, .int (nI p), .ref 16]) (h' := (shT, fi, fl, fr)) rfl ?_
    refine gp_of (fun _ k9 => g_call (y := 77) (as := [.int y, .int 0]) (st' := [.int x, .int (nI p), .ref 16]) rfl rfl (pn) k9) ?_
    refine gp_n 1 (j' := 23) (lv' := [some (.ref 13), some (.int (nI c)), some (.int (nI p))]) (st' := [.int (x + v), .int (nI p), .ref 16]) (h' := (shT, fi, fl, fr)) rfl ?_
    refine gp_of (fun _ k9 => g_iast (k := p) rfl rfl (rfl) (by omega) (by decide) k9) ?_
    refine gp_n 1 (j' := 25) (lv' := [some (.ref 13), some (.int (nI c)), some (.int (nI p))]) (st' := [.ref 13]) (h' := (shT, pm_u2 fi 16 p (x + v), fl, fr)) rfl ?_
    refine gp_of (fun _ k9 => g_getR (q' := 22) rfl rfl (by decide) kT k9) ?_
    refine gp_n 3 (j' := 29) (lv' := [some (.ref 13), some (.int (nI c)), some (.int (nI p))]) (st' := [.ref 13, .int (nI p), .int (nI c), .ref 22]) (h' := (shT, pm_u2 fi 16 p (x + v), fl, fr)) rfl ?_
    refine gp_of (fun _ k9 => g_getR (q' := 14) rfl rfl (by decide) k0 k9) ?_
    refine gp_of (fun _ k9 => g_getR (q' := 16) rfl rfl (by decide) k2 k9) ?_
    refine gp_n 1 (j' := 32) (lv' := [some (.ref 13), some (.int (nI c)), some (.int (nI p))]) (st' := [.int (nI p), .ref 16, .int (nI p), .int (nI c), .ref 22]) (h' := (shT, pm_u2 fi 16 p (x + v), fl, fr)) rfl ?_
    refine gp_of (fun _ k9 => g_iald (k := p) (x := x + v) rfl rfl (rfl) (by omega) (by decide) (u2_eq) k9) ?_
    refine gp_n 3 (j' := 36) (lv' := [some (.ref 13), some (.int (nI c)), some (.int (nI p))]) (st' := [.int ((2 : Int32) * (nI p)), .int (x + v), .int (nI p), .int (nI c), .ref 22]) (h' := (shT, pm_u2 fi 16 p (x + v), fl, fr)) rfl ?_
    rw [e2]
    refine gp_of (fun _ k9 => g_callv (y := 99) (as := [.ref 22, .int (nI c), .int (nI p), .int (x + v), .int (nI (2 * p))]) (st' := []) rfl rfl (pt) k9) ?_
    refine gp_n 2 (j' := 2) (lv' := [some (.ref 13), some (.int (nI c)), some (.int ((nI p) + 1))]) (st' := []) (h' := (shT, (pm_u2 (pm_u2 (pm_u2 fi 16 p (x + v)) 24 (8 * c + p) (x + v)) 25 (8 * c + p) (nI (2 * p))), fl, fr)) rfl ?_
    rw [nI_1]
    exact gp_done b3 rfl
theorem fz_ev_14 {h : PmH} {m c most : Nat} {S : Nat → Int32} {x : RSt} (hI : HI hdT shT h) (hx : rdI 14 x h) (hw : rwI 14 m S x c 0 h) (hP : x.1 ≤ 8) (hm : m ≤ 6) (hc : c < 64) (hS : ∀ s, s < 64 → -127 ≤ (S s).toInt ∧ (S s).toInt ≤ 127) : ∃ h', Ev pmT 98 [.ref 13, .int (nI c)] h none h' ∧ rdI 14 (rdS false m S most c x) h' ∧ rwI 14 m S (rdS false m S most c x) c 0 h' ∧ trI c (rdS false m S most c x).1 (rdS false m S most c x).2.2 (fun r => 2 * r) h' ∧ (∀ s, ¬ (8 * c ≤ s ∧ s < 8 * c + 8) → ph_i h' 24 s = ph_i h 24 s ∧ ph_i h' 25 s = ph_i h 25 s) ∧ HI hdT shT h' ∧ fram (in_w iN_99) h h' := by
  have k2 : ph_r h 14 2 = some 16 := hi_r hI rfl rfl (by decide)
  have k3 : ph_r h 14 3 = some 17 := hi_r hI rfl rfl (by decide)
  have kS : ph_r h 13 9 = some 27 := hi_r hI rfl rfl (by decide)
  have kT : ph_r h 13 2 = some 22 := hi_r hI rfl rfl (by decide)
  have t1 : ph_r h 22 1 = some 24 := hi_r hI rfl rfl (by decide)
  have t2 : ph_r h 22 2 = some 25 := hi_r hI rfl rfl (by decide)
  obtain ⟨k0, kn, cP, hM⟩ := hx
  have iv1 := fun h' e => iv_s (v := none) (h' := h') (as := [.ref 13, .int (nI c)]) vN_99 rfl (fun _ _ => gz_c (gz_r (by decide)) (gz_c (gz_i (by rw [nI_toInt (by omega)]; omega) (by rw [nI_toInt (by omega)]; omega)) gz_n)) hI e
  obtain ⟨S, fi, fl, fr⟩ := h
  have hS : S = shT := hI.1
  subst hS
  obtain ⟨f2, b1, b2, b3⟩ := fz_go_14 (c := c) (P := x.1) (Mt := x.2.2) (s := rsm m S x c) (fl := fl) hP hc k0 k2 k3 kS kT t1 t2 (fun p hp => ndL_b0 hm hS (Nat.zero_le m) (by decide)) x.1 0 fi (by omega) cP (fun p _ hp => (hM p hp).2) (fun p hp => by
    obtain ⟨r, r1, r2, r3⟩ := hw 0 (Nat.le_refl _) (Nat.zero_le m) p hp
    exact ⟨r, r1, r2, r3 0 (by decide)⟩)
  have ev : Ev pmT 98 [.ref 13, .int (nI c)] (shT, fi, fl, fr) none (shT, f2, fl, fr) := by
    refine Ev.of (es := cd_98) (ml := 3) (lv := [some (.ref 13), some (.int (nI c)), none]) rfl rfl rfl ?_
    refine go_of ?_
    refine gp_n 2 (j' := 2) (lv' := [some (.ref 13), some (.int (nI c)), some (.int (nI 0))]) (st' := []) (h' := (shT, fi, fl, fr)) rfl ?_
    exact gp_done b3 rfl
  obtain ⟨I2, F2⟩ := iv1 _ ev
  refine ⟨_, ev, ⟨k0, kn, (b2 _ _ (by omega) (by omega)).trans cP, fun p hp => ⟨(hM p hp).1, (b1 p (Nat.zero_le p) hp).1⟩⟩, ?_, fun r hr => ⟨(b1 r (Nat.zero_le r) hr).2.1, (b1 r (Nat.zero_le r) hr).2.2⟩, fun s hs => ⟨b2 24 s (by omega) (by omega), b2 25 s (by omega) (by omega)⟩, I2, F2⟩
  intro l h1 h2 p hp
  obtain ⟨r, r1, r2, r3⟩ := hw l h1 h2 p hp
  exact ⟨r, r1, (b2 _ _ (by omega) (by omega)).trans r2, fun j hj => (b2 27 _ (by omega) (by omega)).trans (r3 j hj)⟩
theorem fz_go_18 {c P : Nat} {Mt s : Nat → Int32} {fl : Nat → Nat → Int64} {fr : Nat → Nat → Option Nat} (hP : P ≤ 8) (hc : c < 64) (k0 : fr 13 0 = some 18) (k2 : fr 18 2 = some 20) (k3 : fr 18 3 = some 21) (kS : fr 13 9 = some 27) (kT : fr 13 2 = some 22) (t1 : fr 22 1 = some 24) (t2 : fr 22 2 = some 25) (hs : ∀ p, p < P → inB 8128 (s p)) : ∀ (n p : Nat) (fi : Nat → Nat → Int32), p + n = P → fi 18 0 = nI P → (∀ p', p ≤ p' → p' < P → fi 20 p' = Mt p') → (∀ p, p < P → ∃ r, r < 8 ∧ fi 21 (8 * 0 + p) = nI r ∧ fi 27 (ixS 0 r + 0) = s p) → ∃ fi', (∀ p', p ≤ p' → p' < P → fi' 20 p' = Mt p' + coS (s p') false ∧ fi' 24 (8 * c + p') = Mt p' + coS (s p') false ∧ fi' 25 (8 * c + p') = nI (2 * p')) ∧ (∀ q s, ¬ (q = 20 ∧ p ≤ s) → ¬ ((q = 24 ∨ q = 25) ∧ 8 * c + p ≤ s ∧ s < 8 * c + 8) → fi' q s = fi q s) ∧ Go pmT none cd_98 2 [some (.ref 13), some (.int (nI c)), some (.int (nI p))] [] (shT, fi, fl, fr) (none, (shT, fi', fl, fr)) := by
  intro n
  induction n with
  | zero =>
    intro p fi hp cP hM hR
    have hp : p = P := by omega
    subst hp
    refine ⟨fi, fun p' z1 z2 => absurd z2 (by omega), fun _ _ _ _ => rfl, ?_⟩
    refine go_of ?_
    refine gp_n 2 (j' := 4) (lv' := [some (.ref 13), some (.int (nI c)), some (.int (nI p))]) (st' := [.ref 13, .int (nI p)]) (h' := (shT, fi, fl, fr)) rfl ?_
    refine gp_of (fun _ k9 => g_getR (q' := 18) rfl rfl (by decide) k0 k9) ?_
    refine gp_of (fun _ k9 => g_getI (x := nI p) rfl (Or.inl rfl) rfl (by decide) (cP) k9) ?_
    refine gp_of (fun _ k9 => g_ict rfl (show (nI p) ≤ (nI p) from Int32.le_refl _) k9) ?_
    refine gp_done (g_vret rfl) ?_
    rfl
  | succ n ih =>
    intro p fi hp cP hM hR
    obtain ⟨r, r1, r2, r3⟩ := hR p (by omega)
    have mt := hM p (Nat.le_refl _) (by omega)
    have tp := ixS_top (l := 0) (r := r) (by decide) r1
    have ps : Ev pmT 88 [.ref 13, .int 0, .int (nI p)] (shT, fi, fl, fr) (some (.int (nI (ixS 0 r)))) (shT, fi, fl, fr) := ps_ev_18 (l := 0) (by decide) (by omega) r1 k0 k3 r2
    have pn : Ev pmT 77 [.int (s p), .int 0] (shT, fi, fl, fr) (some (.int (coS (s p) false))) (shT, fi, fl, fr) := pny_ev2 (t := false) (hs p (by omega))
    have e2 : (2 : Int32) * nI p = nI (2 * p) := nI_mul 2 p
    have pt := pt_ev (c := c) (p := p) (x := Mt p + coS (s p) false) (y := nI (2 * p)) (fi := pm_u2 fi 20 p (Mt p + coS (s p) false)) (fl := fl) (fr := fr) hc (by omega) t1 t2
    have fB : ∀ q s', ¬ (q = 20 ∧ s' = p) → ¬ (q = 24 ∧ s' = 8 * c + p) → ¬ (q = 25 ∧ s' = 8 * c + p) → pm_u2 (pm_u2 (pm_u2 fi 20 p (Mt p + coS (s p) false)) 24 (8 * c + p) (Mt p + coS (s p) false)) 25 (8 * c + p) (nI (2 * p)) q s' = fi q s' := fun q s' z0 z1 z2 => (wl_ne z2).trans ((wl_ne z1).trans (wl_ne z0))
    have e16 : pm_u2 (pm_u2 (pm_u2 fi 20 p (Mt p + coS (s p) false)) 24 (8 * c + p) (Mt p + coS (s p) false)) 25 (8 * c + p) (nI (2 * p)) 20 p = Mt p + coS (s p) false := (wl_ne (by omega)).trans ((wl_ne (by omega)).trans u2_eq)
    have e24 : pm_u2 (pm_u2 (pm_u2 fi 20 p (Mt p + coS (s p) false)) 24 (8 * c + p) (Mt p + coS (s p) false)) 25 (8 * c + p) (nI (2 * p)) 24 (8 * c + p) = Mt p + coS (s p) false := (wl_ne (by omega)).trans u2_eq
    have e25 : pm_u2 (pm_u2 (pm_u2 fi 20 p (Mt p + coS (s p) false)) 24 (8 * c + p) (Mt p + coS (s p) false)) 25 (8 * c + p) (nI (2 * p)) 25 (8 * c + p) = nI (2 * p) := u2_eq
    generalize hF : pm_u2 (pm_u2 (pm_u2 fi 20 p (Mt p + coS (s p) false)) 24 (8 * c + p) (Mt p + coS (s p) false)) 25 (8 * c + p) (nI (2 * p)) = f2 at *
    obtain ⟨f3, b1, b2, b3⟩ := ih (p + 1) f2 (by omega) ((fB _ _ (by omega) (by omega) (by omega)).trans cP) (fun p' z1 z2 => (fB _ _ (by omega) (by omega) (by omega)).trans (hM p' (by omega) z2)) (fun p hp => by
      obtain ⟨r, r1, r2, r3⟩ := hR p hp
      exact ⟨r, r1, (fB _ _ (by omega) (by omega) (by omega)).trans r2, (fB _ _ (by omega) (by omega) (by omega)).trans r3⟩)
    refine ⟨f3, fun p' z1 z2 => ?_, fun q s' z1 z2 => (b2 q s' (by omega) (by omega)).trans (fB q s' (by omega) (by omega) (by omega)), ?_⟩
    · by_cases e : p' = p
      · subst e
        exact ⟨(b2 _ _ (by omega) (by omega)).trans e16, (b2 _ _ (by omega) (by omega)).trans e24, (b2 _ _ (by omega) (by omega)).trans e25⟩
      · exact b1 p' (by omega) z2
    subst hF
    have r3 : fi 27 (ixS 0 r) = s p := r3
    have tp : ixS 0 r < 1016 := by omega
    clear ih b1 b2 fB hM hR e24 e25 e16
    generalize Mt p = x at *
    generalize coS (s p) false = v at *
    generalize s p = y at *
    generalize ixS 0 r = ix at *
    refine go_of ?_
    refine gp_n 2 (j' := 4) (lv' := [some (.ref 13), some (.int (nI c)), some (.int (nI p))]) (st' := [.ref 13, .int (nI p)]) (h' := (shT, fi, fl, fr)) rfl ?_
    refine gp_of (fun _ k9 => g_getR (q' := 18) rfl rfl (by decide) k0 k9) ?_
    refine gp_of (fun _ k9 => g_getI (x := nI P) rfl (Or.inl rfl) rfl (by decide) (cP) k9) ?_
    refine gp_of (fun _ k9 => g_icf rfl (show ¬ ((nI P) ≤ (nI p)) from nI_ge (by omega) (by omega)) k9) ?_
    refine gp_n 1 (j' := 8) (lv' := [some (.ref 13), some (.int (nI c)), some (.int (nI p))]) (st' := [.ref 13]) (h' := (shT, fi, fl, fr)) rfl ?_
    refine gp_of (fun _ k9 => g_getR (q' := 18) rfl rfl (by decide) k0 k9) ?_
    refine gp_of (fun _ k9 => g_getR (q' := 20) rfl rfl (by decide) k2 k9) ?_
    refine gp_n 2 (j' := 12) (lv' := [some (.ref 13), some (.int (nI c)), some (.int (nI p))]) (st' := [.int (nI p), .ref 20, .int (nI p), .ref 20]) (h' := (shT, fi, fl, fr)) rfl ?_
    refine gp_of (fun _ k9 => g_iald (k := p) (x := x) rfl rfl (rfl) (by omega) (by decide) (mt) k9) ?_
    refine gp_n 1 (j' := 14) (lv' := [some (.ref 13), some (.int (nI c)), some (.int (nI p))]) (st' := [.ref 13, .int x, .int (nI p), .ref 20]) (h' := (shT, fi, fl, fr)) rfl ?_
    refine gp_of (fun _ k9 => g_getR (q' := 27) rfl rfl (by decide) kS k9) ?_
    refine gp_n 3 (j' := 18) (lv' := [some (.ref 13), some (.int (nI c)), some (.int (nI p))]) (st' := [.int (nI p), .int 0, .ref 13, .ref 27, .int x, .int (nI p), .ref 20]) (h' := (shT, fi, fl, fr)) rfl ?_
    refine gp_of (fun _ k9 => g_call (y := 88) (as := [.ref 13, .int 0, .int (nI p)]) (st' := [.ref 27, .int x, .int (nI p), .ref 20]) rfl rfl (ps) k9) ?_
    refine gp_of (fun _ k9 => g_iald (k := ix) (x := y) rfl rfl (rfl) (by omega) (by decide) (r3) k9) ?_
    refine gp_n 1 (j' := 21) (lv' := [some (.ref 13), some (.int (nI c)), some (.int (nI p))]) (st' := [.int 0, .int y, .int x, .int (nI p), .ref 20]) (h' := (shT, fi, fl, fr)) rfl ?_
    refine gp_of (fun _ k9 => g_call (y := 77) (as := [.int y, .int 0]) (st' := [.int x, .int (nI p), .ref 20]) rfl rfl (pn) k9) ?_
    refine gp_n 1 (j' := 23) (lv' := [some (.ref 13), some (.int (nI c)), some (.int (nI p))]) (st' := [.int (x + v), .int (nI p), .ref 20]) (h' := (shT, fi, fl, fr)) rfl ?_
    refine gp_of (fun _ k9 => g_iast (k := p) rfl rfl (rfl) (by omega) (by decide) k9) ?_
    refine gp_n 1 (j' := 25) (lv' := [some (.ref 13), some (.int (nI c)), some (.int (nI p))]) (st' := [.ref 13]) (h' := (shT, pm_u2 fi 20 p (x + v), fl, fr)) rfl ?_
    refine gp_of (fun _ k9 => g_getR (q' := 22) rfl rfl (by decide) kT k9) ?_
    refine gp_n 3 (j' := 29) (lv' := [some (.ref 13), some (.int (nI c)), some (.int (nI p))]) (st' := [.ref 13, .int (nI p), .int (nI c), .ref 22]) (h' := (shT, pm_u2 fi 20 p (x + v), fl, fr)) rfl ?_
    refine gp_of (fun _ k9 => g_getR (q' := 18) rfl rfl (by decide) k0 k9) ?_
    refine gp_of (fun _ k9 => g_getR (q' := 20) rfl rfl (by decide) k2 k9) ?_
    refine gp_n 1 (j' := 32) (lv' := [some (.ref 13), some (.int (nI c)), some (.int (nI p))]) (st' := [.int (nI p), .ref 20, .int (nI p), .int (nI c), .ref 22]) (h' := (shT, pm_u2 fi 20 p (x + v), fl, fr)) rfl ?_
    refine gp_of (fun _ k9 => g_iald (k := p) (x := x + v) rfl rfl (rfl) (by omega) (by decide) (u2_eq) k9) ?_
    refine gp_n 3 (j' := 36) (lv' := [some (.ref 13), some (.int (nI c)), some (.int (nI p))]) (st' := [.int ((2 : Int32) * (nI p)), .int (x + v), .int (nI p), .int (nI c), .ref 22]) (h' := (shT, pm_u2 fi 20 p (x + v), fl, fr)) rfl ?_
    rw [e2]
    refine gp_of (fun _ k9 => g_callv (y := 99) (as := [.ref 22, .int (nI c), .int (nI p), .int (x + v), .int (nI (2 * p))]) (st' := []) rfl rfl (pt) k9) ?_
    refine gp_n 2 (j' := 2) (lv' := [some (.ref 13), some (.int (nI c)), some (.int ((nI p) + 1))]) (st' := []) (h' := (shT, (pm_u2 (pm_u2 (pm_u2 fi 20 p (x + v)) 24 (8 * c + p) (x + v)) 25 (8 * c + p) (nI (2 * p))), fl, fr)) rfl ?_
    rw [nI_1]
    exact gp_done b3 rfl
theorem fz_ev_18 {h : PmH} {m c most : Nat} {S : Nat → Int32} {x : RSt} (hI : HI hdT shT h) (hx : rdI 18 x h) (hw : rwI 18 m S x c 0 h) (hP : x.1 ≤ 8) (hm : m ≤ 6) (hc : c < 64) (hS : ∀ s, s < 64 → -127 ≤ (S s).toInt ∧ (S s).toInt ≤ 127) : ∃ h', Ev pmT 98 [.ref 13, .int (nI c)] h none h' ∧ rdI 18 (rdS false m S most c x) h' ∧ rwI 18 m S (rdS false m S most c x) c 0 h' ∧ trI c (rdS false m S most c x).1 (rdS false m S most c x).2.2 (fun r => 2 * r) h' ∧ (∀ s, ¬ (8 * c ≤ s ∧ s < 8 * c + 8) → ph_i h' 24 s = ph_i h 24 s ∧ ph_i h' 25 s = ph_i h 25 s) ∧ HI hdT shT h' ∧ fram (in_w iN_99) h h' := by
  have k2 : ph_r h 18 2 = some 20 := hi_r hI rfl rfl (by decide)
  have k3 : ph_r h 18 3 = some 21 := hi_r hI rfl rfl (by decide)
  have kS : ph_r h 13 9 = some 27 := hi_r hI rfl rfl (by decide)
  have kT : ph_r h 13 2 = some 22 := hi_r hI rfl rfl (by decide)
  have t1 : ph_r h 22 1 = some 24 := hi_r hI rfl rfl (by decide)
  have t2 : ph_r h 22 2 = some 25 := hi_r hI rfl rfl (by decide)
  obtain ⟨k0, kn, cP, hM⟩ := hx
  have iv1 := fun h' e => iv_s (v := none) (h' := h') (as := [.ref 13, .int (nI c)]) vN_99 rfl (fun _ _ => gz_c (gz_r (by decide)) (gz_c (gz_i (by rw [nI_toInt (by omega)]; omega) (by rw [nI_toInt (by omega)]; omega)) gz_n)) hI e
  obtain ⟨S, fi, fl, fr⟩ := h
  have hS : S = shT := hI.1
  subst hS
  obtain ⟨f2, b1, b2, b3⟩ := fz_go_18 (c := c) (P := x.1) (Mt := x.2.2) (s := rsm m S x c) (fl := fl) hP hc k0 k2 k3 kS kT t1 t2 (fun p hp => ndL_b0 hm hS (Nat.zero_le m) (by decide)) x.1 0 fi (by omega) cP (fun p _ hp => (hM p hp).2) (fun p hp => by
    obtain ⟨r, r1, r2, r3⟩ := hw 0 (Nat.le_refl _) (Nat.zero_le m) p hp
    exact ⟨r, r1, r2, r3 0 (by decide)⟩)
  have ev : Ev pmT 98 [.ref 13, .int (nI c)] (shT, fi, fl, fr) none (shT, f2, fl, fr) := by
    refine Ev.of (es := cd_98) (ml := 3) (lv := [some (.ref 13), some (.int (nI c)), none]) rfl rfl rfl ?_
    refine go_of ?_
    refine gp_n 2 (j' := 2) (lv' := [some (.ref 13), some (.int (nI c)), some (.int (nI 0))]) (st' := []) (h' := (shT, fi, fl, fr)) rfl ?_
    exact gp_done b3 rfl
  obtain ⟨I2, F2⟩ := iv1 _ ev
  refine ⟨_, ev, ⟨k0, kn, (b2 _ _ (by omega) (by omega)).trans cP, fun p hp => ⟨(hM p hp).1, (b1 p (Nat.zero_le p) hp).1⟩⟩, ?_, fun r hr => ⟨(b1 r (Nat.zero_le r) hr).2.1, (b1 r (Nat.zero_le r) hr).2.2⟩, fun s hs => ⟨b2 24 s (by omega) (by omega), b2 25 s (by omega) (by omega)⟩, I2, F2⟩
  intro l h1 h2 p hp
  obtain ⟨r, r1, r2, r3⟩ := hw l h1 h2 p hp
  exact ⟨r, r1, (b2 _ _ (by omega) (by omega)).trans r2, fun j hj => (b2 27 _ (by omega) (by omega)).trans (r3 j hj)⟩
def RDs (m : Nat) (S : Nat → Int32) (x : RSt) (c lo : Nat) (h : PmH) : Prop := ∃ A, (A = 14 ∨ A = 18) ∧ rdI A x h ∧ rwI A m S x c lo h
/-- what a channel leaves: paths behind it, their steps, how sure it was -/
def chI (K : Int64) (m : Nat) (S : Nat → Int32) (most : Nat) (x : RSt) (c : Nat) (h : PmH) : Prop := trI c (rdS (bl K c) m S most c x).1 (rdS (bl K c) m S most c x).2.2 (stpR (bl K c) m S x c) h ∧ ph_i h 23 c = nI (rdS (bl K c) m S most c x).1 ∧ ph_i h 26 c = abS (rsm m S x c 0)
theorem rdI_cg {A : Nat} {x : RSt} {h h' : PmH} (hA : A = 14 ∨ A = 18) (e : ∀ p s, 14 ≤ p → p ≤ 21 → ph_i h' p s = ph_i h p s ∧ ph_l h' p s = ph_l h p s) (e0 : ph_r h' 13 0 = ph_r h 13 0) (e1 : ph_r h' 13 1 = ph_r h 13 1) (hx : rdI A x h) : rdI A x h' := by
  obtain ⟨a1, a2, a3, a4⟩ := hx
  exact ⟨e0.trans a1, e1.trans a2, ((e A 0 (by omega) (by omega)).1).trans a3, fun p hp => ⟨((e (A + 1) p (by omega) (by omega)).2).trans (a4 p hp).1, ((e (A + 2) p (by omega) (by omega)).1).trans (a4 p hp).2⟩⟩
theorem rwI_cg {A m c lo : Nat} {S : Nat → Int32} {x : RSt} {h h' : PmH} (hA : A = 14 ∨ A = 18) (e : ∀ p s, 14 ≤ p → p ≤ 21 → ph_i h' p s = ph_i h p s) (e27 : ∀ s, ph_i h' 27 s = ph_i h 27 s) (hw : rwI A m S x c lo h) : rwI A m S x c lo h' := fun l h1 h2 p hp => by
  obtain ⟨r, r1, r2, r3⟩ := hw l h1 h2 p hp
  exact ⟨r, r1, (e (A + 3) _ (by omega) (by omega)).trans r2, fun j hj => (e27 _).trans (r3 j hj)⟩
theorem hd26 (s : Nat) : hd_at hdT shT 26 s = (9, 0, 0, []) := rfl
theorem de_ev_14 {h : PmH} {m c most : Nat} {K : Int64} {F : Int32} {S : Nat → Int32} {x : RSt} (hI : HI hdT shT h) (hx : rdI 14 x h) (hw : rwI 14 m S x c 0 h) (hP1 : 1 ≤ x.1) (hP : x.1 ≤ 8) (c12 : ph_r h 13 12 = some 1) (c13 : ph_i h 13 13 = nI most) (c15 : ph_i h 13 15 = F) (hF : ¬ nI c = F) (c7 : ph_l h 1 7 = K) (hmo : most ≤ 8) (hm : m ≤ 6) (hc : c < 64) (hS : ∀ s, s < 64 → -127 ≤ (S s).toInt ∧ (S s).toInt ≤ 127) : ∃ h', Ev pmT 97 [.ref 13, .int (nI c)] h none h' ∧ RDs m S (rdS (bl K c) m S most c x) c 0 h' ∧ chI K m S most x c h' ∧ (∀ s, ¬ (8 * c ≤ s ∧ s < 8 * c + 8) → ph_i h' 24 s = ph_i h 24 s ∧ ph_i h' 25 s = ph_i h 25 s) ∧ (∀ s, ¬ s = c → ph_i h' 23 s = ph_i h 23 s ∧ ph_i h' 26 s = ph_i h 26 s) ∧ ph_i h' 13 6 = ph_i h 13 6 + 1 ∧ HI hdT shT h' ∧ fram (in_w iN_106) h h' := by
  have k3 : ph_r h 14 3 = some 17 := hi_r hI rfl rfl (by decide)
  have kS : ph_r h 13 9 = some 27 := hi_r hI rfl rfl (by decide)
  have kU : ph_r h 13 3 = some 26 := hi_r hI rfl rfl (by decide)
  have k0 := hx.1
  obtain ⟨r, r1, r2, r3⟩ := hw 0 (Nat.le_refl _) (Nat.zero_le m) 0 (by omega)
  have r3 := r3 0 (by decide)
  have tp := ixS_top (l := 0) (r := r) (by decide) r1
  have iv1 := fun h' e => iv_s (v := none) (h' := h') (as := [.ref 13, .int (nI c)]) vN_106 rfl (fun _ _ => gz_c (gz_r (by decide)) (gz_c (gz_i (by rw [nI_toInt (by omega)]; omega) (by rw [nI_toInt (by omega)]; omega)) gz_n)) hI e
  obtain ⟨S, fi, fl, fr⟩ := h
  have hS : S = shT := hI.1
  subst hS
  have k0 : fr 13 0 = some 14 := k0
  have kS : fr 13 9 = some 27 := kS
  have kU : fr 13 3 = some 26 := kU
  have c12 : fr 13 12 = some 1 := c12
  have r3 : fi 27 (ixS 0 r) = rsm m S x c 0 := r3
  have ps : Ev pmT 88 [.ref 13, .int 0, .int 0] (shT, pm_u2 fi 13 6 (fi 13 6 + 1), fl, fr) (some (.int (nI (ixS 0 r)))) (shT, pm_u2 fi 13 6 (fi 13 6 + 1), fl, fr) := ps_ev_14 (l := 0) (p := 0) (by decide) (by decide) r1 k0 k3 ((wl_ne (by omega)).trans r2)
  have ab := abC_ev (a := rsm m S x c 0) (h := (shT, pm_u2 fi 13 6 (fi 13 6 + 1), fl, fr))
  have I1 : HI hdT shT (shT, pm_u2 fi 13 6 (fi 13 6 + 1), fl, fr) := HI_wi hI (fun z => absurd z (by decide))
  have I1 : HI hdT shT (shT, pm_u2 (pm_u2 fi 13 6 (fi 13 6 + 1)) 26 c (abS (rsm m S x c 0)), fl, fr) := HI_wi I1 (fun z => by rw [hd26] at z; exact absurd z (by decide))
  have fA : ∀ p s, ¬ p = 13 → ¬ p = 26 → pm_u2 (pm_u2 fi 13 6 (fi 13 6 + 1)) 26 c (abS (rsm m S x c 0)) p s = fi p s := fun p s z1 z2 => (wl_ne (by omega)).trans (wl_ne (by omega))
  have f6 : pm_u2 (pm_u2 fi 13 6 (fi 13 6 + 1)) 26 c (abS (rsm m S x c 0)) 13 6 = fi 13 6 + 1 := (wl_ne (by omega)).trans u2_eq
  have f13 : pm_u2 (pm_u2 fi 13 6 (fi 13 6 + 1)) 26 c (abS (rsm m S x c 0)) 13 13 = nI most := (wl_ne (by omega)).trans ((wl_ne (by omega)).trans c13)
  have f15 : pm_u2 (pm_u2 fi 13 6 (fi 13 6 + 1)) 26 c (abS (rsm m S x c 0)) 13 15 = F := (wl_ne (by omega)).trans ((wl_ne (by omega)).trans c15)
  have f26 : pm_u2 (pm_u2 fi 13 6 (fi 13 6 + 1)) 26 c (abS (rsm m S x c 0)) 26 c = abS (rsm m S x c 0) := u2_eq
  have f27 : ∀ s, ¬ s = c → pm_u2 (pm_u2 fi 13 6 (fi 13 6 + 1)) 26 c (abS (rsm m S x c 0)) 26 s = fi 26 s := fun s hs => (wl_ne (by omega)).trans (wl_ne (by omega))
  generalize hv : abS (rsm m S x c 0) = v at *
  generalize hF1 : pm_u2 (pm_u2 fi 13 6 (fi 13 6 + 1)) 26 c v = f1 at *
  have hx1 : rdI 14 x (shT, f1, fl, fr) := rdI_cg (h := (shT, fi, fl, fr)) (by decide) (fun p s z1 z2 => ⟨fA p s (by omega) (by omega), rfl⟩) rfl rfl hx
  have hw1 : rwI 14 m S x c 0 (shT, f1, fl, fr) := rwI_cg (h := (shT, fi, fl, fr)) (by decide) (fun p s z1 z2 => fA p s (by omega) (by omega)) (fun s => fA 27 s (by decide) (by decide)) hw
  have kp := kp_ev_1 I1 c7 (i := c) (by omega)
  -- the last store
  have key : ∀ (A2 : Nat) (W : WSt) (st : Nat → Nat) (x' : RSt) (h2 : PmH), (A2 = 14 ∨ A2 = 18) → x' = rdS (bl K c) m S most c x → st = stpR (bl K c) m S x c → rdI A2 x' h2 → rwI A2 m S x' c 0 h2 → trI c x'.1 x'.2.2 st h2 → (∀ s, ¬ (8 * c ≤ s ∧ s < 8 * c + 8) → ph_i h2 24 s = f1 24 s ∧ ph_i h2 25 s = f1 25 s) → fram W (shT, f1, fl, fr) h2 → (inW W 13 6 = false ∧ (∀ s, inW W 23 s = false ∧ inW W 26 s = false)) → ∀ h3, h3 = (ph_s h2, pm_u2 (ph_i h2) 23 c (nI x'.1), ph_l h2, ph_r h2) → RDs m S (rdS (bl K c) m S most c x) c 0 h3 ∧ chI K m S most x c h3 ∧ (∀ s, ¬ (8 * c ≤ s ∧ s < 8 * c + 8) → ph_i h3 24 s = fi 24 s ∧ ph_i h3 25 s = fi 25 s) ∧ (∀ s, ¬ s = c → ph_i h3 23 s = fi 23 s ∧ ph_i h3 26 s = fi 26 s) ∧ ph_i h3 13 6 = fi 13 6 + 1 := by
    intro A2 W st x' h2 hA2 ex es q1 q2 q3 q4 q5 q6 h3 e3
    subst ex es e3
    have w : ∀ p s, ¬ p = 23 → ph_i (ph_s h2, pm_u2 (ph_i h2) 23 c (nI (rdS (bl K c) m S most c x).1), ph_l h2, ph_r h2) p s = ph_i h2 p s := fun p s z => wl_ne (by omega)
    refine ⟨⟨A2, hA2, rdI_cg hA2 (fun p s z1 z2 => ⟨w p s (by omega), rfl⟩) rfl rfl q1, rwI_cg hA2 (fun p s z1 z2 => w p s (by omega)) (fun s => w 27 s (by decide)) q2⟩, ⟨fun r hr => ⟨(w _ _ (by decide)).trans (q3 r hr).1, (w _ _ (by decide)).trans (q3 r hr).2⟩, u2_i, ((w _ _ (by decide)).trans ((q5 26 c (q6.2 c).2).1)).trans (f26.trans hv.symm)⟩, fun s hs => ⟨((w _ _ (by decide)).trans (q4 s hs).1).trans (fA _ _ (by decide) (by decide)), ((w _ _ (by decide)).trans (q4 s hs).2).trans (fA _ _ (by decide) (by decide))⟩, fun s hs => ⟨((show pm_u2 (ph_i h2) 23 c (nI (rdS (bl K c) m S most c x).1) 23 s = ph_i h2 23 s from wl_ne (by omega)).trans (q5 23 s (q6.2 s).1).1).trans (fA _ _ (by decide) (by decide)), ((w _ _ (by decide)).trans (q5 26 s (q6.2 s).2).1).trans (f27 s hs)⟩, ((w _ _ (by decide)).trans (q5 13 6 q6.1).1).trans f6⟩
  cases hk : bl K c
  · obtain ⟨h2, e2, q1, q2, q3, q4, I2, F2⟩ := fz_ev_14 (most := most) I1 hx1 hw1 hP hm hc hS
    have key := key 14 (in_w iN_99) (fun r => 2 * r) (rdS false m S most c x) h2 (by decide) (by rw [hk]) (by rw [hk]; rfl) q1 q2 q3 q4 F2 ⟨by decide, fun s => ⟨rfl, rfl⟩⟩ _ rfl
    have cP := q1.2.2.1
    have k2 := q1.1
    rw [hk] at kp
    have kp : Ev pmT 47 [.ref 1, .int (nI c)] (shT, f1, fl, fr) (some (.int 0)) (shT, f1, fl, fr) := kp
    have kT : ph_r h2 13 2 = some 22 := hi_r I2 rfl rfl (by decide)
    have t0 : ph_r h2 22 0 = some 23 := hi_r I2 rfl rfl (by decide)
    have ev : Ev pmT 97 [.ref 13, .int (nI c)] (shT, fi, fl, fr) none (ph_s h2, pm_u2 (ph_i h2) 23 c (nI (rdS false m S most c x).1), ph_l h2, ph_r h2) := by
      clear key q1 q2 q3 q4 F2 hx1 hw1 iv1 fA f6 f27 hx hw
      generalize nI (rdS false m S most c x).1 = P at *
      obtain ⟨S2, fi2, fl2, fr2⟩ := h2
      have s2 : S2 = shT := I2.1
      subst s2
      have k2 : fr2 13 0 = some 14 := k2
      have kT : fr2 13 2 = some 22 := kT
      have t0 : fr2 22 0 = some 23 := t0
      have cP : fi2 14 0 = P := cP
      generalize rsm m S x c 0 = y at *
      have tp : ixS 0 r < 1016 := by omega
      have r3 : pm_u2 fi 13 6 (fi 13 6 + 1) 27 (ixS 0 r) = y := (wl_ne (by omega)).trans r3
      generalize ixS 0 r = ix at *
      subst hF1
      refine Ev.of (es := cd_97) (ml := 2) (lv := [some (.ref 13), some (.int (nI c))]) rfl rfl rfl ?_
      refine go_of ?_
      refine gp_n 2 (j' := 2) (lv' := [some (.ref 13), some (.int (nI c))]) (st' := [.ref 13, .ref 13]) (h' := (shT, fi, fl, fr)) rfl ?_
      refine gp_of (fun _ k9 => g_getI (x := fi 13 6) rfl (Or.inl rfl) rfl (by decide) (rfl) k9) ?_
      refine gp_n 2 (j' := 5) (lv' := [some (.ref 13), some (.int (nI c))]) (st' := [.int ((fi 13 6) + 1), .ref 13]) (h' := (shT, fi, fl, fr)) rfl ?_
      refine gp_of (fun _ k9 => g_putI rfl (Or.inl rfl) rfl (by decide) k9) ?_
      refine gp_n 1 (j' := 7) (lv' := [some (.ref 13), some (.int (nI c))]) (st' := [.ref 13]) (h' := (shT, pm_u2 fi 13 6 ((fi 13 6) + 1), fl, fr)) rfl ?_
      refine gp_of (fun _ k9 => g_getR (q' := 26) rfl rfl (by decide) kU k9) ?_
      refine gp_n 2 (j' := 10) (lv' := [some (.ref 13), some (.int (nI c))]) (st' := [.ref 13, .int (nI c), .ref 26]) (h' := (shT, pm_u2 fi 13 6 ((fi 13 6) + 1), fl, fr)) rfl ?_
      refine gp_of (fun _ k9 => g_getR (q' := 27) rfl rfl (by decide) kS k9) ?_
      refine gp_n 3 (j' := 14) (lv' := [some (.ref 13), some (.int (nI c))]) (st' := [.int 0, .int 0, .ref 13, .ref 27, .int (nI c), .ref 26]) (h' := (shT, pm_u2 fi 13 6 ((fi 13 6) + 1), fl, fr)) rfl ?_
      refine gp_of (fun _ k9 => g_call (y := 88) (as := [.ref 13, .int 0, .int 0]) (st' := [.ref 27, .int (nI c), .ref 26]) rfl rfl (ps) k9) ?_
      refine gp_of (fun _ k9 => g_iald (k := ix) (x := y) rfl rfl (rfl) (by omega) (by decide) (r3) k9) ?_
      refine gp_of (fun _ k9 => g_call (y := 96) (as := [.int y]) (st' := [.int (nI c), .ref 26]) rfl rfl (ab) k9) ?_
      refine gp_of (fun _ k9 => g_iast (k := c) rfl rfl (rfl) (by omega) (by decide) k9) ?_
      refine gp_n 1 (j' := 19) (lv' := [some (.ref 13), some (.int (nI c))]) (st' := [.ref 13]) (h' := (shT, pm_u2 (pm_u2 fi 13 6 ((fi 13 6) + 1)) 26 c v, fl, fr)) rfl ?_
      refine gp_of (fun _ k9 => g_getR (q' := 1) rfl rfl (by decide) c12 k9) ?_
      refine gp_n 1 (j' := 21) (lv' := [some (.ref 13), some (.int (nI c))]) (st' := [.int (nI c), .ref 1]) (h' := (shT, pm_u2 (pm_u2 fi 13 6 ((fi 13 6) + 1)) 26 c v, fl, fr)) rfl ?_
      refine gp_of (fun _ k9 => g_call (y := 47) (as := [.ref 1, .int (nI c)]) (st' := []) rfl rfl (kp) k9) ?_
      refine gp_of (fun _ k9 => g_iff rfl (show ¬ (¬ (0 : Int32) = (0 : Int32)) from by decide) k9) ?_
      refine gp_n 2 (j' := 25) (lv' := [some (.ref 13), some (.int (nI c))]) (st' := [.int (nI c), .ref 13]) (h' := (shT, pm_u2 (pm_u2 fi 13 6 ((fi 13 6) + 1)) 26 c v, fl, fr)) rfl ?_
      refine gp_of (fun _ k9 => g_callv (y := 98) (as := [.ref 13, .int (nI c)]) (st' := []) rfl rfl (e2) k9) ?_
      refine gp_n 2 (j' := 39) (lv' := [some (.ref 13), some (.int (nI c))]) (st' := [.ref 13]) (h' := (shT, fi2, fl2, fr2)) rfl ?_
      refine gp_of (fun _ k9 => g_getR (q' := 22) rfl rfl (by decide) kT k9) ?_
      refine gp_of (fun _ k9 => g_getR (q' := 23) rfl rfl (by decide) t0 k9) ?_
      refine gp_n 2 (j' := 43) (lv' := [some (.ref 13), some (.int (nI c))]) (st' := [.ref 13, .int (nI c), .ref 23]) (h' := (shT, fi2, fl2, fr2)) rfl ?_
      refine gp_of (fun _ k9 => g_getR (q' := 14) rfl rfl (by decide) k2 k9) ?_
      refine gp_of (fun _ k9 => g_getI (x := P) rfl (Or.inl rfl) rfl (by decide) (cP) k9) ?_
      refine gp_of (fun _ k9 => g_iast (k := c) rfl rfl (rfl) (by omega) (by decide) k9) ?_
      refine gp_done (g_vret rfl) ?_
      rfl
    rw [hk] at key
    exact ⟨_, ev, key.1, key.2.1, key.2.2.1, key.2.2.2.1, key.2.2.2.2, iv1 _ ev⟩
  · obtain ⟨h2, e2, q1, q2, q3, q4, I2, F2⟩ := sp_ev_14 I1 hx1 hw1 hP f13 hmo hm hc hS
    have key := key 18 (in_w iN_105) (ordR m S x c) (rdS true m S most c x) h2 (by decide) (by rw [hk]) (by rw [hk]; rfl) q1 q2 q3 q4 F2 ⟨by decide, fun s => ⟨rfl, rfl⟩⟩ _ rfl
    have cP := q1.2.2.1
    have k2 := q1.1
    rw [hk] at kp
    have kp : Ev pmT 47 [.ref 1, .int (nI c)] (shT, f1, fl, fr) (some (.int 1)) (shT, f1, fl, fr) := kp
    have kT : ph_r h2 13 2 = some 22 := hi_r I2 rfl rfl (by decide)
    have t0 : ph_r h2 22 0 = some 23 := hi_r I2 rfl rfl (by decide)
    have ev : Ev pmT 97 [.ref 13, .int (nI c)] (shT, fi, fl, fr) none (ph_s h2, pm_u2 (ph_i h2) 23 c (nI (rdS true m S most c x).1), ph_l h2, ph_r h2) := by
      clear key q1 q2 q3 q4 F2 hx1 hw1 iv1 fA f6 f27 hx hw
      generalize nI (rdS true m S most c x).1 = P at *
      obtain ⟨S2, fi2, fl2, fr2⟩ := h2
      have s2 : S2 = shT := I2.1
      subst s2
      have k2 : fr2 13 0 = some 18 := k2
      have kT : fr2 13 2 = some 22 := kT
      have t0 : fr2 22 0 = some 23 := t0
      have cP : fi2 18 0 = P := cP
      generalize rsm m S x c 0 = y at *
      have tp : ixS 0 r < 1016 := by omega
      have r3 : pm_u2 fi 13 6 (fi 13 6 + 1) 27 (ixS 0 r) = y := (wl_ne (by omega)).trans r3
      generalize ixS 0 r = ix at *
      subst hF1
      refine Ev.of (es := cd_97) (ml := 2) (lv := [some (.ref 13), some (.int (nI c))]) rfl rfl rfl ?_
      refine go_of ?_
      refine gp_n 2 (j' := 2) (lv' := [some (.ref 13), some (.int (nI c))]) (st' := [.ref 13, .ref 13]) (h' := (shT, fi, fl, fr)) rfl ?_
      refine gp_of (fun _ k9 => g_getI (x := fi 13 6) rfl (Or.inl rfl) rfl (by decide) (rfl) k9) ?_
      refine gp_n 2 (j' := 5) (lv' := [some (.ref 13), some (.int (nI c))]) (st' := [.int ((fi 13 6) + 1), .ref 13]) (h' := (shT, fi, fl, fr)) rfl ?_
      refine gp_of (fun _ k9 => g_putI rfl (Or.inl rfl) rfl (by decide) k9) ?_
      refine gp_n 1 (j' := 7) (lv' := [some (.ref 13), some (.int (nI c))]) (st' := [.ref 13]) (h' := (shT, pm_u2 fi 13 6 ((fi 13 6) + 1), fl, fr)) rfl ?_
      refine gp_of (fun _ k9 => g_getR (q' := 26) rfl rfl (by decide) kU k9) ?_
      refine gp_n 2 (j' := 10) (lv' := [some (.ref 13), some (.int (nI c))]) (st' := [.ref 13, .int (nI c), .ref 26]) (h' := (shT, pm_u2 fi 13 6 ((fi 13 6) + 1), fl, fr)) rfl ?_
      refine gp_of (fun _ k9 => g_getR (q' := 27) rfl rfl (by decide) kS k9) ?_
      refine gp_n 3 (j' := 14) (lv' := [some (.ref 13), some (.int (nI c))]) (st' := [.int 0, .int 0, .ref 13, .ref 27, .int (nI c), .ref 26]) (h' := (shT, pm_u2 fi 13 6 ((fi 13 6) + 1), fl, fr)) rfl ?_
      refine gp_of (fun _ k9 => g_call (y := 88) (as := [.ref 13, .int 0, .int 0]) (st' := [.ref 27, .int (nI c), .ref 26]) rfl rfl (ps) k9) ?_
      refine gp_of (fun _ k9 => g_iald (k := ix) (x := y) rfl rfl (rfl) (by omega) (by decide) (r3) k9) ?_
      refine gp_of (fun _ k9 => g_call (y := 96) (as := [.int y]) (st' := [.int (nI c), .ref 26]) rfl rfl (ab) k9) ?_
      refine gp_of (fun _ k9 => g_iast (k := c) rfl rfl (rfl) (by omega) (by decide) k9) ?_
      refine gp_n 1 (j' := 19) (lv' := [some (.ref 13), some (.int (nI c))]) (st' := [.ref 13]) (h' := (shT, pm_u2 (pm_u2 fi 13 6 ((fi 13 6) + 1)) 26 c v, fl, fr)) rfl ?_
      refine gp_of (fun _ k9 => g_getR (q' := 1) rfl rfl (by decide) c12 k9) ?_
      refine gp_n 1 (j' := 21) (lv' := [some (.ref 13), some (.int (nI c))]) (st' := [.int (nI c), .ref 1]) (h' := (shT, pm_u2 (pm_u2 fi 13 6 ((fi 13 6) + 1)) 26 c v, fl, fr)) rfl ?_
      refine gp_of (fun _ k9 => g_call (y := 47) (as := [.ref 1, .int (nI c)]) (st' := []) rfl rfl (kp) k9) ?_
      refine gp_of (fun _ k9 => g_ift rfl (show ¬ (1 : Int32) = (0 : Int32) from by decide) k9) ?_
      refine gp_n 2 (j' := 29) (lv' := [some (.ref 13), some (.int (nI c))]) (st' := [.ref 13, .int (nI c)]) (h' := (shT, pm_u2 (pm_u2 fi 13 6 ((fi 13 6) + 1)) 26 c v, fl, fr)) rfl ?_
      refine gp_of (fun _ k9 => g_getI (x := F) rfl (Or.inl rfl) rfl (by decide) (f15) k9) ?_
      refine gp_of (fun _ k9 => g_ict rfl (show ¬ (nI c) = F from hF) k9) ?_
      refine gp_n 2 (j' := 37) (lv' := [some (.ref 13), some (.int (nI c))]) (st' := [.int (nI c), .ref 13]) (h' := (shT, pm_u2 (pm_u2 fi 13 6 ((fi 13 6) + 1)) 26 c v, fl, fr)) rfl ?_
      refine gp_of (fun _ k9 => g_callv (y := 101) (as := [.ref 13, .int (nI c)]) (st' := []) rfl rfl (e2) k9) ?_
      refine gp_n 1 (j' := 39) (lv' := [some (.ref 13), some (.int (nI c))]) (st' := [.ref 13]) (h' := (shT, fi2, fl2, fr2)) rfl ?_
      refine gp_of (fun _ k9 => g_getR (q' := 22) rfl rfl (by decide) kT k9) ?_
      refine gp_of (fun _ k9 => g_getR (q' := 23) rfl rfl (by decide) t0 k9) ?_
      refine gp_n 2 (j' := 43) (lv' := [some (.ref 13), some (.int (nI c))]) (st' := [.ref 13, .int (nI c), .ref 23]) (h' := (shT, fi2, fl2, fr2)) rfl ?_
      refine gp_of (fun _ k9 => g_getR (q' := 18) rfl rfl (by decide) k2 k9) ?_
      refine gp_of (fun _ k9 => g_getI (x := P) rfl (Or.inl rfl) rfl (by decide) (cP) k9) ?_
      refine gp_of (fun _ k9 => g_iast (k := c) rfl rfl (rfl) (by omega) (by decide) k9) ?_
      refine gp_done (g_vret rfl) ?_
      rfl
    rw [hk] at key
    exact ⟨_, ev, key.1, key.2.1, key.2.2.1, key.2.2.2.1, key.2.2.2.2, iv1 _ ev⟩
theorem de_ev_18 {h : PmH} {m c most : Nat} {K : Int64} {F : Int32} {S : Nat → Int32} {x : RSt} (hI : HI hdT shT h) (hx : rdI 18 x h) (hw : rwI 18 m S x c 0 h) (hP1 : 1 ≤ x.1) (hP : x.1 ≤ 8) (c12 : ph_r h 13 12 = some 1) (c13 : ph_i h 13 13 = nI most) (c15 : ph_i h 13 15 = F) (hF : ¬ nI c = F) (c7 : ph_l h 1 7 = K) (hmo : most ≤ 8) (hm : m ≤ 6) (hc : c < 64) (hS : ∀ s, s < 64 → -127 ≤ (S s).toInt ∧ (S s).toInt ≤ 127) : ∃ h', Ev pmT 97 [.ref 13, .int (nI c)] h none h' ∧ RDs m S (rdS (bl K c) m S most c x) c 0 h' ∧ chI K m S most x c h' ∧ (∀ s, ¬ (8 * c ≤ s ∧ s < 8 * c + 8) → ph_i h' 24 s = ph_i h 24 s ∧ ph_i h' 25 s = ph_i h 25 s) ∧ (∀ s, ¬ s = c → ph_i h' 23 s = ph_i h 23 s ∧ ph_i h' 26 s = ph_i h 26 s) ∧ ph_i h' 13 6 = ph_i h 13 6 + 1 ∧ HI hdT shT h' ∧ fram (in_w iN_106) h h' := by
  have k3 : ph_r h 18 3 = some 21 := hi_r hI rfl rfl (by decide)
  have kS : ph_r h 13 9 = some 27 := hi_r hI rfl rfl (by decide)
  have kU : ph_r h 13 3 = some 26 := hi_r hI rfl rfl (by decide)
  have k0 := hx.1
  obtain ⟨r, r1, r2, r3⟩ := hw 0 (Nat.le_refl _) (Nat.zero_le m) 0 (by omega)
  have r3 := r3 0 (by decide)
  have tp := ixS_top (l := 0) (r := r) (by decide) r1
  have iv1 := fun h' e => iv_s (v := none) (h' := h') (as := [.ref 13, .int (nI c)]) vN_106 rfl (fun _ _ => gz_c (gz_r (by decide)) (gz_c (gz_i (by rw [nI_toInt (by omega)]; omega) (by rw [nI_toInt (by omega)]; omega)) gz_n)) hI e
  obtain ⟨S, fi, fl, fr⟩ := h
  have hS : S = shT := hI.1
  subst hS
  have k0 : fr 13 0 = some 18 := k0
  have kS : fr 13 9 = some 27 := kS
  have kU : fr 13 3 = some 26 := kU
  have c12 : fr 13 12 = some 1 := c12
  have r3 : fi 27 (ixS 0 r) = rsm m S x c 0 := r3
  have ps : Ev pmT 88 [.ref 13, .int 0, .int 0] (shT, pm_u2 fi 13 6 (fi 13 6 + 1), fl, fr) (some (.int (nI (ixS 0 r)))) (shT, pm_u2 fi 13 6 (fi 13 6 + 1), fl, fr) := ps_ev_18 (l := 0) (p := 0) (by decide) (by decide) r1 k0 k3 ((wl_ne (by omega)).trans r2)
  have ab := abC_ev (a := rsm m S x c 0) (h := (shT, pm_u2 fi 13 6 (fi 13 6 + 1), fl, fr))
  have I1 : HI hdT shT (shT, pm_u2 fi 13 6 (fi 13 6 + 1), fl, fr) := HI_wi hI (fun z => absurd z (by decide))
  have I1 : HI hdT shT (shT, pm_u2 (pm_u2 fi 13 6 (fi 13 6 + 1)) 26 c (abS (rsm m S x c 0)), fl, fr) := HI_wi I1 (fun z => by rw [hd26] at z; exact absurd z (by decide))
  have fA : ∀ p s, ¬ p = 13 → ¬ p = 26 → pm_u2 (pm_u2 fi 13 6 (fi 13 6 + 1)) 26 c (abS (rsm m S x c 0)) p s = fi p s := fun p s z1 z2 => (wl_ne (by omega)).trans (wl_ne (by omega))
  have f6 : pm_u2 (pm_u2 fi 13 6 (fi 13 6 + 1)) 26 c (abS (rsm m S x c 0)) 13 6 = fi 13 6 + 1 := (wl_ne (by omega)).trans u2_eq
  have f13 : pm_u2 (pm_u2 fi 13 6 (fi 13 6 + 1)) 26 c (abS (rsm m S x c 0)) 13 13 = nI most := (wl_ne (by omega)).trans ((wl_ne (by omega)).trans c13)
  have f15 : pm_u2 (pm_u2 fi 13 6 (fi 13 6 + 1)) 26 c (abS (rsm m S x c 0)) 13 15 = F := (wl_ne (by omega)).trans ((wl_ne (by omega)).trans c15)
  have f26 : pm_u2 (pm_u2 fi 13 6 (fi 13 6 + 1)) 26 c (abS (rsm m S x c 0)) 26 c = abS (rsm m S x c 0) := u2_eq
  have f27 : ∀ s, ¬ s = c → pm_u2 (pm_u2 fi 13 6 (fi 13 6 + 1)) 26 c (abS (rsm m S x c 0)) 26 s = fi 26 s := fun s hs => (wl_ne (by omega)).trans (wl_ne (by omega))
  generalize hv : abS (rsm m S x c 0) = v at *
  generalize hF1 : pm_u2 (pm_u2 fi 13 6 (fi 13 6 + 1)) 26 c v = f1 at *
  have hx1 : rdI 18 x (shT, f1, fl, fr) := rdI_cg (h := (shT, fi, fl, fr)) (by decide) (fun p s z1 z2 => ⟨fA p s (by omega) (by omega), rfl⟩) rfl rfl hx
  have hw1 : rwI 18 m S x c 0 (shT, f1, fl, fr) := rwI_cg (h := (shT, fi, fl, fr)) (by decide) (fun p s z1 z2 => fA p s (by omega) (by omega)) (fun s => fA 27 s (by decide) (by decide)) hw
  have kp := kp_ev_1 I1 c7 (i := c) (by omega)
  -- the last store
  have key : ∀ (A2 : Nat) (W : WSt) (st : Nat → Nat) (x' : RSt) (h2 : PmH), (A2 = 14 ∨ A2 = 18) → x' = rdS (bl K c) m S most c x → st = stpR (bl K c) m S x c → rdI A2 x' h2 → rwI A2 m S x' c 0 h2 → trI c x'.1 x'.2.2 st h2 → (∀ s, ¬ (8 * c ≤ s ∧ s < 8 * c + 8) → ph_i h2 24 s = f1 24 s ∧ ph_i h2 25 s = f1 25 s) → fram W (shT, f1, fl, fr) h2 → (inW W 13 6 = false ∧ (∀ s, inW W 23 s = false ∧ inW W 26 s = false)) → ∀ h3, h3 = (ph_s h2, pm_u2 (ph_i h2) 23 c (nI x'.1), ph_l h2, ph_r h2) → RDs m S (rdS (bl K c) m S most c x) c 0 h3 ∧ chI K m S most x c h3 ∧ (∀ s, ¬ (8 * c ≤ s ∧ s < 8 * c + 8) → ph_i h3 24 s = fi 24 s ∧ ph_i h3 25 s = fi 25 s) ∧ (∀ s, ¬ s = c → ph_i h3 23 s = fi 23 s ∧ ph_i h3 26 s = fi 26 s) ∧ ph_i h3 13 6 = fi 13 6 + 1 := by
    intro A2 W st x' h2 hA2 ex es q1 q2 q3 q4 q5 q6 h3 e3
    subst ex es e3
    have w : ∀ p s, ¬ p = 23 → ph_i (ph_s h2, pm_u2 (ph_i h2) 23 c (nI (rdS (bl K c) m S most c x).1), ph_l h2, ph_r h2) p s = ph_i h2 p s := fun p s z => wl_ne (by omega)
    refine ⟨⟨A2, hA2, rdI_cg hA2 (fun p s z1 z2 => ⟨w p s (by omega), rfl⟩) rfl rfl q1, rwI_cg hA2 (fun p s z1 z2 => w p s (by omega)) (fun s => w 27 s (by decide)) q2⟩, ⟨fun r hr => ⟨(w _ _ (by decide)).trans (q3 r hr).1, (w _ _ (by decide)).trans (q3 r hr).2⟩, u2_i, ((w _ _ (by decide)).trans ((q5 26 c (q6.2 c).2).1)).trans (f26.trans hv.symm)⟩, fun s hs => ⟨((w _ _ (by decide)).trans (q4 s hs).1).trans (fA _ _ (by decide) (by decide)), ((w _ _ (by decide)).trans (q4 s hs).2).trans (fA _ _ (by decide) (by decide))⟩, fun s hs => ⟨((show pm_u2 (ph_i h2) 23 c (nI (rdS (bl K c) m S most c x).1) 23 s = ph_i h2 23 s from wl_ne (by omega)).trans (q5 23 s (q6.2 s).1).1).trans (fA _ _ (by decide) (by decide)), ((w _ _ (by decide)).trans (q5 26 s (q6.2 s).2).1).trans (f27 s hs)⟩, ((w _ _ (by decide)).trans (q5 13 6 q6.1).1).trans f6⟩
  cases hk : bl K c
  · obtain ⟨h2, e2, q1, q2, q3, q4, I2, F2⟩ := fz_ev_18 (most := most) I1 hx1 hw1 hP hm hc hS
    have key := key 18 (in_w iN_99) (fun r => 2 * r) (rdS false m S most c x) h2 (by decide) (by rw [hk]) (by rw [hk]; rfl) q1 q2 q3 q4 F2 ⟨by decide, fun s => ⟨rfl, rfl⟩⟩ _ rfl
    have cP := q1.2.2.1
    have k2 := q1.1
    rw [hk] at kp
    have kp : Ev pmT 47 [.ref 1, .int (nI c)] (shT, f1, fl, fr) (some (.int 0)) (shT, f1, fl, fr) := kp
    have kT : ph_r h2 13 2 = some 22 := hi_r I2 rfl rfl (by decide)
    have t0 : ph_r h2 22 0 = some 23 := hi_r I2 rfl rfl (by decide)
    have ev : Ev pmT 97 [.ref 13, .int (nI c)] (shT, fi, fl, fr) none (ph_s h2, pm_u2 (ph_i h2) 23 c (nI (rdS false m S most c x).1), ph_l h2, ph_r h2) := by
      clear key q1 q2 q3 q4 F2 hx1 hw1 iv1 fA f6 f27 hx hw
      generalize nI (rdS false m S most c x).1 = P at *
      obtain ⟨S2, fi2, fl2, fr2⟩ := h2
      have s2 : S2 = shT := I2.1
      subst s2
      have k2 : fr2 13 0 = some 18 := k2
      have kT : fr2 13 2 = some 22 := kT
      have t0 : fr2 22 0 = some 23 := t0
      have cP : fi2 18 0 = P := cP
      generalize rsm m S x c 0 = y at *
      have tp : ixS 0 r < 1016 := by omega
      have r3 : pm_u2 fi 13 6 (fi 13 6 + 1) 27 (ixS 0 r) = y := (wl_ne (by omega)).trans r3
      generalize ixS 0 r = ix at *
      subst hF1
      refine Ev.of (es := cd_97) (ml := 2) (lv := [some (.ref 13), some (.int (nI c))]) rfl rfl rfl ?_
      refine go_of ?_
      refine gp_n 2 (j' := 2) (lv' := [some (.ref 13), some (.int (nI c))]) (st' := [.ref 13, .ref 13]) (h' := (shT, fi, fl, fr)) rfl ?_
      refine gp_of (fun _ k9 => g_getI (x := fi 13 6) rfl (Or.inl rfl) rfl (by decide) (rfl) k9) ?_
      refine gp_n 2 (j' := 5) (lv' := [some (.ref 13), some (.int (nI c))]) (st' := [.int ((fi 13 6) + 1), .ref 13]) (h' := (shT, fi, fl, fr)) rfl ?_
      refine gp_of (fun _ k9 => g_putI rfl (Or.inl rfl) rfl (by decide) k9) ?_
      refine gp_n 1 (j' := 7) (lv' := [some (.ref 13), some (.int (nI c))]) (st' := [.ref 13]) (h' := (shT, pm_u2 fi 13 6 ((fi 13 6) + 1), fl, fr)) rfl ?_
      refine gp_of (fun _ k9 => g_getR (q' := 26) rfl rfl (by decide) kU k9) ?_
      refine gp_n 2 (j' := 10) (lv' := [some (.ref 13), some (.int (nI c))]) (st' := [.ref 13, .int (nI c), .ref 26]) (h' := (shT, pm_u2 fi 13 6 ((fi 13 6) + 1), fl, fr)) rfl ?_
      refine gp_of (fun _ k9 => g_getR (q' := 27) rfl rfl (by decide) kS k9) ?_
      refine gp_n 3 (j' := 14) (lv' := [some (.ref 13), some (.int (nI c))]) (st' := [.int 0, .int 0, .ref 13, .ref 27, .int (nI c), .ref 26]) (h' := (shT, pm_u2 fi 13 6 ((fi 13 6) + 1), fl, fr)) rfl ?_
      refine gp_of (fun _ k9 => g_call (y := 88) (as := [.ref 13, .int 0, .int 0]) (st' := [.ref 27, .int (nI c), .ref 26]) rfl rfl (ps) k9) ?_
      refine gp_of (fun _ k9 => g_iald (k := ix) (x := y) rfl rfl (rfl) (by omega) (by decide) (r3) k9) ?_
      refine gp_of (fun _ k9 => g_call (y := 96) (as := [.int y]) (st' := [.int (nI c), .ref 26]) rfl rfl (ab) k9) ?_
      refine gp_of (fun _ k9 => g_iast (k := c) rfl rfl (rfl) (by omega) (by decide) k9) ?_
      refine gp_n 1 (j' := 19) (lv' := [some (.ref 13), some (.int (nI c))]) (st' := [.ref 13]) (h' := (shT, pm_u2 (pm_u2 fi 13 6 ((fi 13 6) + 1)) 26 c v, fl, fr)) rfl ?_
      refine gp_of (fun _ k9 => g_getR (q' := 1) rfl rfl (by decide) c12 k9) ?_
      refine gp_n 1 (j' := 21) (lv' := [some (.ref 13), some (.int (nI c))]) (st' := [.int (nI c), .ref 1]) (h' := (shT, pm_u2 (pm_u2 fi 13 6 ((fi 13 6) + 1)) 26 c v, fl, fr)) rfl ?_
      refine gp_of (fun _ k9 => g_call (y := 47) (as := [.ref 1, .int (nI c)]) (st' := []) rfl rfl (kp) k9) ?_
      refine gp_of (fun _ k9 => g_iff rfl (show ¬ (¬ (0 : Int32) = (0 : Int32)) from by decide) k9) ?_
      refine gp_n 2 (j' := 25) (lv' := [some (.ref 13), some (.int (nI c))]) (st' := [.int (nI c), .ref 13]) (h' := (shT, pm_u2 (pm_u2 fi 13 6 ((fi 13 6) + 1)) 26 c v, fl, fr)) rfl ?_
      refine gp_of (fun _ k9 => g_callv (y := 98) (as := [.ref 13, .int (nI c)]) (st' := []) rfl rfl (e2) k9) ?_
      refine gp_n 2 (j' := 39) (lv' := [some (.ref 13), some (.int (nI c))]) (st' := [.ref 13]) (h' := (shT, fi2, fl2, fr2)) rfl ?_
      refine gp_of (fun _ k9 => g_getR (q' := 22) rfl rfl (by decide) kT k9) ?_
      refine gp_of (fun _ k9 => g_getR (q' := 23) rfl rfl (by decide) t0 k9) ?_
      refine gp_n 2 (j' := 43) (lv' := [some (.ref 13), some (.int (nI c))]) (st' := [.ref 13, .int (nI c), .ref 23]) (h' := (shT, fi2, fl2, fr2)) rfl ?_
      refine gp_of (fun _ k9 => g_getR (q' := 18) rfl rfl (by decide) k2 k9) ?_
      refine gp_of (fun _ k9 => g_getI (x := P) rfl (Or.inl rfl) rfl (by decide) (cP) k9) ?_
      refine gp_of (fun _ k9 => g_iast (k := c) rfl rfl (rfl) (by omega) (by decide) k9) ?_
      refine gp_done (g_vret rfl) ?_
      rfl
    rw [hk] at key
    exact ⟨_, ev, key.1, key.2.1, key.2.2.1, key.2.2.2.1, key.2.2.2.2, iv1 _ ev⟩
  · obtain ⟨h2, e2, q1, q2, q3, q4, I2, F2⟩ := sp_ev_18 I1 hx1 hw1 hP f13 hmo hm hc hS
    have key := key 14 (in_w iN_105) (ordR m S x c) (rdS true m S most c x) h2 (by decide) (by rw [hk]) (by rw [hk]; rfl) q1 q2 q3 q4 F2 ⟨by decide, fun s => ⟨rfl, rfl⟩⟩ _ rfl
    have cP := q1.2.2.1
    have k2 := q1.1
    rw [hk] at kp
    have kp : Ev pmT 47 [.ref 1, .int (nI c)] (shT, f1, fl, fr) (some (.int 1)) (shT, f1, fl, fr) := kp
    have kT : ph_r h2 13 2 = some 22 := hi_r I2 rfl rfl (by decide)
    have t0 : ph_r h2 22 0 = some 23 := hi_r I2 rfl rfl (by decide)
    have ev : Ev pmT 97 [.ref 13, .int (nI c)] (shT, fi, fl, fr) none (ph_s h2, pm_u2 (ph_i h2) 23 c (nI (rdS true m S most c x).1), ph_l h2, ph_r h2) := by
      clear key q1 q2 q3 q4 F2 hx1 hw1 iv1 fA f6 f27 hx hw
      generalize nI (rdS true m S most c x).1 = P at *
      obtain ⟨S2, fi2, fl2, fr2⟩ := h2
      have s2 : S2 = shT := I2.1
      subst s2
      have k2 : fr2 13 0 = some 14 := k2
      have kT : fr2 13 2 = some 22 := kT
      have t0 : fr2 22 0 = some 23 := t0
      have cP : fi2 14 0 = P := cP
      generalize rsm m S x c 0 = y at *
      have tp : ixS 0 r < 1016 := by omega
      have r3 : pm_u2 fi 13 6 (fi 13 6 + 1) 27 (ixS 0 r) = y := (wl_ne (by omega)).trans r3
      generalize ixS 0 r = ix at *
      subst hF1
      refine Ev.of (es := cd_97) (ml := 2) (lv := [some (.ref 13), some (.int (nI c))]) rfl rfl rfl ?_
      refine go_of ?_
      refine gp_n 2 (j' := 2) (lv' := [some (.ref 13), some (.int (nI c))]) (st' := [.ref 13, .ref 13]) (h' := (shT, fi, fl, fr)) rfl ?_
      refine gp_of (fun _ k9 => g_getI (x := fi 13 6) rfl (Or.inl rfl) rfl (by decide) (rfl) k9) ?_
      refine gp_n 2 (j' := 5) (lv' := [some (.ref 13), some (.int (nI c))]) (st' := [.int ((fi 13 6) + 1), .ref 13]) (h' := (shT, fi, fl, fr)) rfl ?_
      refine gp_of (fun _ k9 => g_putI rfl (Or.inl rfl) rfl (by decide) k9) ?_
      refine gp_n 1 (j' := 7) (lv' := [some (.ref 13), some (.int (nI c))]) (st' := [.ref 13]) (h' := (shT, pm_u2 fi 13 6 ((fi 13 6) + 1), fl, fr)) rfl ?_
      refine gp_of (fun _ k9 => g_getR (q' := 26) rfl rfl (by decide) kU k9) ?_
      refine gp_n 2 (j' := 10) (lv' := [some (.ref 13), some (.int (nI c))]) (st' := [.ref 13, .int (nI c), .ref 26]) (h' := (shT, pm_u2 fi 13 6 ((fi 13 6) + 1), fl, fr)) rfl ?_
      refine gp_of (fun _ k9 => g_getR (q' := 27) rfl rfl (by decide) kS k9) ?_
      refine gp_n 3 (j' := 14) (lv' := [some (.ref 13), some (.int (nI c))]) (st' := [.int 0, .int 0, .ref 13, .ref 27, .int (nI c), .ref 26]) (h' := (shT, pm_u2 fi 13 6 ((fi 13 6) + 1), fl, fr)) rfl ?_
      refine gp_of (fun _ k9 => g_call (y := 88) (as := [.ref 13, .int 0, .int 0]) (st' := [.ref 27, .int (nI c), .ref 26]) rfl rfl (ps) k9) ?_
      refine gp_of (fun _ k9 => g_iald (k := ix) (x := y) rfl rfl (rfl) (by omega) (by decide) (r3) k9) ?_
      refine gp_of (fun _ k9 => g_call (y := 96) (as := [.int y]) (st' := [.int (nI c), .ref 26]) rfl rfl (ab) k9) ?_
      refine gp_of (fun _ k9 => g_iast (k := c) rfl rfl (rfl) (by omega) (by decide) k9) ?_
      refine gp_n 1 (j' := 19) (lv' := [some (.ref 13), some (.int (nI c))]) (st' := [.ref 13]) (h' := (shT, pm_u2 (pm_u2 fi 13 6 ((fi 13 6) + 1)) 26 c v, fl, fr)) rfl ?_
      refine gp_of (fun _ k9 => g_getR (q' := 1) rfl rfl (by decide) c12 k9) ?_
      refine gp_n 1 (j' := 21) (lv' := [some (.ref 13), some (.int (nI c))]) (st' := [.int (nI c), .ref 1]) (h' := (shT, pm_u2 (pm_u2 fi 13 6 ((fi 13 6) + 1)) 26 c v, fl, fr)) rfl ?_
      refine gp_of (fun _ k9 => g_call (y := 47) (as := [.ref 1, .int (nI c)]) (st' := []) rfl rfl (kp) k9) ?_
      refine gp_of (fun _ k9 => g_ift rfl (show ¬ (1 : Int32) = (0 : Int32) from by decide) k9) ?_
      refine gp_n 2 (j' := 29) (lv' := [some (.ref 13), some (.int (nI c))]) (st' := [.ref 13, .int (nI c)]) (h' := (shT, pm_u2 (pm_u2 fi 13 6 ((fi 13 6) + 1)) 26 c v, fl, fr)) rfl ?_
      refine gp_of (fun _ k9 => g_getI (x := F) rfl (Or.inl rfl) rfl (by decide) (f15) k9) ?_
      refine gp_of (fun _ k9 => g_ict rfl (show ¬ (nI c) = F from hF) k9) ?_
      refine gp_n 2 (j' := 37) (lv' := [some (.ref 13), some (.int (nI c))]) (st' := [.int (nI c), .ref 13]) (h' := (shT, pm_u2 (pm_u2 fi 13 6 ((fi 13 6) + 1)) 26 c v, fl, fr)) rfl ?_
      refine gp_of (fun _ k9 => g_callv (y := 101) (as := [.ref 13, .int (nI c)]) (st' := []) rfl rfl (e2) k9) ?_
      refine gp_n 1 (j' := 39) (lv' := [some (.ref 13), some (.int (nI c))]) (st' := [.ref 13]) (h' := (shT, fi2, fl2, fr2)) rfl ?_
      refine gp_of (fun _ k9 => g_getR (q' := 22) rfl rfl (by decide) kT k9) ?_
      refine gp_of (fun _ k9 => g_getR (q' := 23) rfl rfl (by decide) t0 k9) ?_
      refine gp_n 2 (j' := 43) (lv' := [some (.ref 13), some (.int (nI c))]) (st' := [.ref 13, .int (nI c), .ref 23]) (h' := (shT, fi2, fl2, fr2)) rfl ?_
      refine gp_of (fun _ k9 => g_getR (q' := 14) rfl rfl (by decide) k2 k9) ?_
      refine gp_of (fun _ k9 => g_getI (x := P) rfl (Or.inl rfl) rfl (by decide) (cP) k9) ?_
      refine gp_of (fun _ k9 => g_iast (k := c) rfl rfl (rfl) (by omega) (by decide) k9) ?_
      refine gp_done (g_vret rfl) ?_
      rfl
    rw [hk] at key
    exact ⟨_, ev, key.1, key.2.1, key.2.2.1, key.2.2.2.1, key.2.2.2.2, iv1 _ ev⟩
theorem de_ev {h : PmH} {m c most : Nat} {K : Int64} {F : Int32} {S : Nat → Int32} {x : RSt} (hI : HI hdT shT h) (hx : RDs m S x c 0 h) (hP1 : 1 ≤ x.1) (hP : x.1 ≤ 8) (c12 : ph_r h 13 12 = some 1) (c13 : ph_i h 13 13 = nI most) (c15 : ph_i h 13 15 = F) (hF : ¬ nI c = F) (c7 : ph_l h 1 7 = K) (hmo : most ≤ 8) (hm : m ≤ 6) (hc : c < 64) (hS : ∀ s, s < 64 → -127 ≤ (S s).toInt ∧ (S s).toInt ≤ 127) : ∃ h', Ev pmT 97 [.ref 13, .int (nI c)] h none h' ∧ RDs m S (rdS (bl K c) m S most c x) c 0 h' ∧ chI K m S most x c h' ∧ (∀ s, ¬ (8 * c ≤ s ∧ s < 8 * c + 8) → ph_i h' 24 s = ph_i h 24 s ∧ ph_i h' 25 s = ph_i h 25 s) ∧ (∀ s, ¬ s = c → ph_i h' 23 s = ph_i h 23 s ∧ ph_i h' 26 s = ph_i h 26 s) ∧ ph_i h' 13 6 = ph_i h 13 6 + 1 ∧ HI hdT shT h' ∧ fram (in_w iN_106) h h' := by
  obtain ⟨A, rfl | rfl, h1, h2⟩ := hx
  · exact de_ev_14 hI h1 h2 hP1 hP c12 c13 c15 hF c7 hmo hm hc hS
  · exact de_ev_18 hI h1 h2 hP1 hP c12 c13 c15 hF c7 hmo hm hc hS
