theorem fzi_14 {q p st : Nat} {M : Int32} {Sm : Nat → Int32} {fl : Nat → Nat → Int64} {fr : Nat → Nat → Option Nat} (hq : q ≤ 6) (hp : p < 8) (hst : st + 2 ^ q ≤ 1016) (k0 : fr 13 0 = some 14) (k2 : fr 14 2 = some 16) (kS : fr 13 9 = some 27) (hb : ∀ t, t < 2 ^ q → inB 8128 (Sm t)) : ∀ (n j : Nat) (fi : Nat → Nat → Int32), j + n = 2 ^ q → fi 16 p = M + fsm (fun t => coS (Sm t) false) j → (∀ t, t < 2 ^ q → fi 27 (st + t) = Sm t) → ∃ fi', fi' 16 p = M + fsm (fun t => coS (Sm t) false) (2 ^ q) ∧ (∀ r s, ¬ (r = 16 ∧ s = p) → fi' r s = fi r s) ∧ ∀ r, Go pmT none cd_91 37 [some (.ref 13), some (.int (nI q)), some (.int (nI p)), some (.int (nI st)), some (.int (nI (2 ^ q)))] [] (shT, fi', fl, fr) r → Go pmT none cd_91 14 [some (.ref 13), some (.int (nI q)), some (.int (nI p)), some (.int (nI st)), some (.int (nI j))] [] (shT, fi, fl, fr) r := by
  intro n
  have sh := shI q (by omega)
  have pz := pw2_le (a := q) (b := 6) hq
  induction n with
  | zero =>
    intro j fi hj h1 h2
    have hj : j = 2 ^ q := by omega
    subst hj
    refine ⟨fi, h1, fun _ _ _ => rfl, fun r k => ?_⟩
    clear h1 h2
    generalize nI (2 ^ q) = z at *
    refine go_of ?_
    refine gp_n 4 (j' := 18) (lv' := [some (.ref 13), some (.int (nI q)), some (.int (nI p)), some (.int (nI st)), some (.int z)]) (st' := [.int ((1 : Int32) <<< ((nI q) &&& 31)), .int z]) (h' := (shT, fi, fl, fr)) rfl ?_
    rw [sh]
    refine gp_of (fun _ k9 => g_ict rfl (show z ≤ z from Int32.le_refl _) k9) ?_
    exact gp_done k rfl
  | succ n ih =>
    intro j fi hj h1 h2
    have sj := h2 j (by omega)
    have pn := pny_ev2 (t := false) (h := (shT, fi, fl, fr)) (hb j (by omega))
    have lt : ¬ nI (2 ^ q) ≤ nI j := nI_ge (by omega) (by omega)
    have ij : nI st + nI j = nI (st + j) := nI_add st j
    obtain ⟨fi', a1, a2, a3⟩ := ih (j + 1) (pm_u2 fi 16 p (M + fsm (fun t => coS (Sm t) false) j + coS (Sm j) false)) (by omega) ((show pm_u2 fi 16 p (M + fsm (fun t => coS (Sm t) false) j + coS (Sm j) false) 16 p = _ from u2_eq).trans (by rw [fsm, Int32.add_assoc])) (fun t ht => (show pm_u2 fi 16 p (M + fsm (fun t => coS (Sm t) false) j + coS (Sm j) false) 27 (st + t) = fi 27 (st + t) from wl_ne (by omega)).trans (h2 t ht))
    refine ⟨fi', a1, fun r s z => (a2 r s z).trans (wl_ne z), fun r k => ?_⟩
    have g := a3 r k
    have pn : Ev pmT 77 [.int (Sm j), .int 0] (shT, fi, fl, fr) (some (.int (coS (Sm j) false))) (shT, fi, fl, fr) := pn
    clear a1 a2 a3 ih h2 hb
    generalize coS (Sm j) false = v at *
    generalize Sm j = x at *
    generalize M + fsm (fun t => coS (Sm t) false) j = w at *
    generalize nI (2 ^ q) = z at *
    refine go_of ?_
    refine gp_n 4 (j' := 18) (lv' := [some (.ref 13), some (.int (nI q)), some (.int (nI p)), some (.int (nI st)), some (.int (nI j))]) (st' := [.int ((1 : Int32) <<< ((nI q) &&& 31)), .int (nI j)]) (h' := (shT, fi, fl, fr)) rfl ?_
    rw [sh]
    refine gp_of (fun _ k9 => g_icf rfl (show ¬ (z ≤ (nI j)) from lt) k9) ?_
    refine gp_n 1 (j' := 20) (lv' := [some (.ref 13), some (.int (nI q)), some (.int (nI p)), some (.int (nI st)), some (.int (nI j))]) (st' := [.ref 13]) (h' := (shT, fi, fl, fr)) rfl ?_
    refine gp_of (fun _ k9 => g_getR (q' := 14) rfl rfl (by decide) k0 k9) ?_
    refine gp_of (fun _ k9 => g_getR (q' := 16) rfl rfl (by decide) k2 k9) ?_
    refine gp_n 2 (j' := 24) (lv' := [some (.ref 13), some (.int (nI q)), some (.int (nI p)), some (.int (nI st)), some (.int (nI j))]) (st' := [.int (nI p), .ref 16, .int (nI p), .ref 16]) (h' := (shT, fi, fl, fr)) rfl ?_
    refine gp_of (fun _ k9 => g_iald (k := p) (x := w) rfl rfl (rfl) (by omega) (by decide) (h1) k9) ?_
    refine gp_n 1 (j' := 26) (lv' := [some (.ref 13), some (.int (nI q)), some (.int (nI p)), some (.int (nI st)), some (.int (nI j))]) (st' := [.ref 13, .int w, .int (nI p), .ref 16]) (h' := (shT, fi, fl, fr)) rfl ?_
    refine gp_of (fun _ k9 => g_getR (q' := 27) rfl rfl (by decide) kS k9) ?_
    refine gp_n 3 (j' := 30) (lv' := [some (.ref 13), some (.int (nI q)), some (.int (nI p)), some (.int (nI st)), some (.int (nI j))]) (st' := [.int ((nI st) + (nI j)), .ref 27, .int w, .int (nI p), .ref 16]) (h' := (shT, fi, fl, fr)) rfl ?_
    refine gp_of (fun _ k9 => g_iald (k := st + j) (x := x) rfl rfl (ij) (by omega) (by decide) (sj) k9) ?_
    refine gp_n 1 (j' := 32) (lv' := [some (.ref 13), some (.int (nI q)), some (.int (nI p)), some (.int (nI st)), some (.int (nI j))]) (st' := [.int 0, .int x, .int w, .int (nI p), .ref 16]) (h' := (shT, fi, fl, fr)) rfl ?_
    refine gp_of (fun _ k9 => g_call (y := 77) (as := [.int x, .int 0]) (st' := [.int w, .int (nI p), .ref 16]) rfl rfl (pn) k9) ?_
    refine gp_n 1 (j' := 34) (lv' := [some (.ref 13), some (.int (nI q)), some (.int (nI p)), some (.int (nI st)), some (.int (nI j))]) (st' := [.int (w + v), .int (nI p), .ref 16]) (h' := (shT, fi, fl, fr)) rfl ?_
    refine gp_of (fun _ k9 => g_iast (k := p) rfl rfl (rfl) (by omega) (by decide) k9) ?_
    refine gp_n 2 (j' := 14) (lv' := [some (.ref 13), some (.int (nI q)), some (.int (nI p)), some (.int (nI st)), some (.int ((nI j) + 1))]) (st' := []) (h' := (shT, pm_u2 fi 16 p (w + v), fl, fr)) rfl ?_
    rw [nI_1]
    exact gp_done g rfl
theorem fzo_14 {q P : Nat} {Sm : Nat → Nat → Int32} {Mt : Nat → Int32} {fl : Nat → Nat → Int64} {fr : Nat → Nat → Option Nat} (hq : q ≤ 6) (hP : P ≤ 8) (k0 : fr 13 0 = some 14) (k2 : fr 14 2 = some 16) (k3 : fr 14 3 = some 17) (kS : fr 13 9 = some 27) (hb : ∀ p t, t < 2 ^ q → inB 8128 (Sm p t)) : ∀ (n p : Nat) (fi : Nat → Nat → Int32), p + n = P → fi 14 0 = nI P → (∀ p', p ≤ p' → p' < P → fi 16 p' = Mt p') → (∀ p', p' < P → ∃ r, r < 8 ∧ fi 17 (8 * q + p') = nI r ∧ ∀ t, t < 2 ^ q → fi 27 (ixS q r + t) = Sm p' t) → ∃ fi', (∀ p', p ≤ p' → p' < P → fi' 16 p' = Mt p' + fsm (fun t => coS (Sm p' t) false) (2 ^ q)) ∧ (∀ r s, ¬ (r = 16 ∧ p ≤ s ∧ s < P) → fi' r s = fi r s) ∧ ∀ l3 l4, Go pmT none cd_91 2 [some (.ref 13), some (.int (nI q)), some (.int (nI p)), l3, l4] [] (shT, fi, fl, fr) (none, (shT, fi', fl, fr)) := by
  intro n
  induction n with
  | zero =>
    intro p fi hp cP h1 h2
    have hp : p = P := by omega
    subst hp
    refine ⟨fi, fun p' z1 z2 => absurd z2 (by omega), fun _ _ _ => rfl, fun l3 l4 => ?_⟩
    refine go_of ?_
    refine gp_n 2 (j' := 4) (lv' := [some (.ref 13), some (.int (nI q)), some (.int (nI p)), l3, l4]) (st' := [.ref 13, .int (nI p)]) (h' := (shT, fi, fl, fr)) rfl ?_
    refine gp_of (fun _ k9 => g_getR (q' := 14) rfl rfl (by decide) k0 k9) ?_
    refine gp_of (fun _ k9 => g_getI (x := nI p) rfl (Or.inl rfl) rfl (by decide) (cP) k9) ?_
    refine gp_of (fun _ k9 => g_ict rfl (show (nI p) ≤ (nI p) from Int32.le_refl _) k9) ?_
    refine gp_done (g_vret rfl) ?_
    rfl
  | succ n ih =>
    intro p fi hp cP h1 h2
    obtain ⟨r, r1, r2, r3⟩ := h2 p (by omega)
    have t3 := ixS_top (l := q) (r := r) hq r1
    have ps := ps_ev_14 (l := q) (p := p) (fl := fl) (by omega) (by omega) r1 k0 k3 r2
    have lt : ¬ nI P ≤ nI p := nI_ge (by omega) (by omega)
    obtain ⟨f1, i1, i2, i3⟩ := fzi_14 (q := q) (p := p) (st := ixS q r) (M := Mt p) (Sm := Sm p) (fl := fl) hq (by omega) (by omega) k0 k2 kS (hb p) (2 ^ q) 0 fi (by omega) ((h1 p (Nat.le_refl _) (by omega)).trans (Int32.add_zero _).symm) r3
    obtain ⟨f2, j1, j2, j3⟩ := ih (p + 1) f1 (by omega) ((i2 14 0 (by omega)).trans cP) (fun p' z1 z2 => (i2 16 p' (by omega)).trans (h1 p' (by omega) z2)) (fun p' z => by
      obtain ⟨r', q1, q2, q3⟩ := h2 p' z
      exact ⟨r', q1, (i2 17 _ (by omega)).trans q2, fun t ht => (i2 27 _ (by omega)).trans (q3 t ht)⟩)
    refine ⟨f2, fun p' z1 z2 => ?_, fun r' s z => (j2 r' s (by omega)).trans (i2 r' s (by omega)), fun l3 l4 => ?_⟩
    · by_cases e : p' = p
      · subst e
        exact (j2 16 p' (by omega)).trans i1
      · exact j1 p' (by omega) z2
    clear j1 j2 i1 i2 ih h1 h2 hb r3
    generalize ixS q r = st at *
    generalize hz : nI (2 ^ q) = z at *
    have g := i3 (none, (shT, f2, fl, fr)) (by
      refine go_of ?_
      refine gp_n 2 (j' := 2) (lv' := [some (.ref 13), some (.int (nI q)), some (.int ((nI p) + 1)), some (.int (nI st)), some (.int z)]) (st' := []) (h' := (shT, f1, fl, fr)) rfl ?_
      rw [nI_1]
      exact gp_done (j3 _ _) rfl)
    refine go_of ?_
    refine gp_n 2 (j' := 4) (lv' := [some (.ref 13), some (.int (nI q)), some (.int (nI p)), l3, l4]) (st' := [.ref 13, .int (nI p)]) (h' := (shT, fi, fl, fr)) rfl ?_
    refine gp_of (fun _ k9 => g_getR (q' := 14) rfl rfl (by decide) k0 k9) ?_
    refine gp_of (fun _ k9 => g_getI (x := nI P) rfl (Or.inl rfl) rfl (by decide) (cP) k9) ?_
    refine gp_of (fun _ k9 => g_icf rfl (show ¬ ((nI P) ≤ (nI p)) from lt) k9) ?_
    refine gp_n 3 (j' := 10) (lv' := [some (.ref 13), some (.int (nI q)), some (.int (nI p)), l3, l4]) (st' := [.int (nI p), .int (nI q), .ref 13]) (h' := (shT, fi, fl, fr)) rfl ?_
    refine gp_of (fun _ k9 => g_call (y := 88) (as := [.ref 13, .int (nI q), .int (nI p)]) (st' := []) rfl rfl (ps) k9) ?_
    refine gp_n 3 (j' := 14) (lv' := [some (.ref 13), some (.int (nI q)), some (.int (nI p)), some (.int (nI st)), some (.int (nI 0))]) (st' := []) (h' := (shT, fi, fl, fr)) rfl ?_
    exact gp_done g rfl
/-- a node of which nothing is free is cut short -/
theorem fzn_ev_14 {h : PmH} {m c q : Nat} {S : Nat → Int32} {x : RSt} (hI : HI hdT shT h) (hx : rdI 14 x h) (hw : rwI 14 m S x c q h) (hP : x.1 ≤ 8) (hm : m ≤ 6) (hq : q ≤ m) (hS : ∀ s, s < 64 → -127 ≤ (S s).toInt ∧ (S s).toInt ≤ 127) : ∃ h', Ev pmT 91 [.ref 13, .int (nI q)] h none h' ∧ rdI 14 (x.1, x.2.1, fun p => x.2.2 p + fsm (fun j => coS (ndL m S (bl (x.2.1 p)) c q j) false) (2 ^ q)) h' ∧ rwI 14 m S (x.1, x.2.1, fun p => x.2.2 p + fsm (fun j => coS (ndL m S (bl (x.2.1 p)) c q j) false) (2 ^ q)) c q h' := by
  obtain ⟨x1, x2, x3, x4⟩ := hx
  have k2 : ph_r h 14 2 = some 16 := hi_r hI rfl rfl (by decide)
  have k3 : ph_r h 14 3 = some 17 := hi_r hI rfl rfl (by decide)
  have kS : ph_r h 13 9 = some 27 := hi_r hI rfl rfl (by decide)
  obtain ⟨S0, fi, fl, fr⟩ := h
  have hS0 : S0 = shT := hI.1
  subst hS0
  obtain ⟨f1, a1, a2, a3⟩ := fzo_14 (q := q) (P := x.1) (Sm := fun p t => ndL m S (bl (x.2.1 p)) c q t) (Mt := x.2.2) (fl := fl) (by omega) hP x1 k2 k3 kS (fun p t ht => ndL_b0 hm hS hq ht) x.1 0 fi (by omega) x3 (fun p _ hp => (x4 p hp).2) (fun p hp => hw q (Nat.le_refl _) hq p hp)
  refine ⟨(shT, f1, fl, fr), ?_, ⟨x1, x2, (a2 14 0 (by omega)).trans x3, fun p hp => ⟨(x4 p hp).1, a1 p (Nat.zero_le _) hp⟩⟩, fun l l1 l2 p hp => ?_⟩
  · refine Ev.of (es := cd_91) (ml := 5) (lv := [some (.ref 13), some (.int (nI q)), none, none, none]) rfl rfl rfl ?_
    refine go_of ?_
    refine gp_n 2 (j' := 2) (lv' := [some (.ref 13), some (.int (nI q)), some (.int (nI 0)), none, none]) (st' := []) (h' := (shT, fi, fl, fr)) rfl ?_
    exact gp_done (a3 _ _) rfl
  · obtain ⟨r, r1, r2, r3⟩ := hw l l1 l2 p hp
    exact ⟨r, r1, (a2 17 _ (by omega)).trans r2, fun j hj => (a2 27 _ (by omega)).trans (r3 j hj)⟩
theorem hz_go_14 {q st : Nat} {Sm : Nat → Int32} {fi : Nat → Nat → Int32} {fl : Nat → Nat → Int64} {fr : Nat → Nat → Option Nat} (hq : q ≤ 6) (hst : st + 2 ^ q ≤ 1016) (kS : fr 13 9 = some 27) (h2 : ∀ t, t < 2 ^ q → fi 27 (st + t) = Sm t) : ∀ (n j : Nat), j + n = 2 ^ q → (∀ t, t < j → ¬ Sm t = 0) → Go pmT none cd_92 7 [some (.ref 13), some (.int (nI q)), some (.int (nI st)), some (.int (nI j))] [] (shT, fi, fl, fr) (some (.int (b01 (!decide (∀ t, t < 2 ^ q → ¬ Sm t = 0)))), (shT, fi, fl, fr)) := by
  intro n
  have sh := shI q (by omega)
  have pz := pw2_le (a := q) (b := 6) hq
  induction n with
  | zero =>
    intro j hj h1
    have hj : j = 2 ^ q := by omega
    subst hj
    rw [decide_eq_true h1]
    generalize nI (2 ^ q) = z at *
    refine go_of ?_
    refine gp_n 4 (j' := 11) (lv' := [some (.ref 13), some (.int (nI q)), some (.int (nI st)), some (.int z)]) (st' := [.int ((1 : Int32) <<< ((nI q) &&& 31)), .int z]) (h' := (shT, fi, fl, fr)) rfl ?_
    rw [sh]
    refine gp_of (fun _ k9 => g_ict rfl (show z ≤ z from Int32.le_refl _) k9) ?_
    refine gp_n 1 (j' := 24) (lv' := [some (.ref 13), some (.int (nI q)), some (.int (nI st)), some (.int z)]) (st' := [.int 0]) (h' := (shT, fi, fl, fr)) rfl ?_
    refine gp_done (g_retz rfl (by decide)) ?_
    rfl
  | succ n ih =>
    intro j hj h1
    have sj := h2 j (by omega)
    have lt : ¬ nI (2 ^ q) ≤ nI j := nI_ge (by omega) (by omega)
    have ij : nI st + nI j = nI (st + j) := nI_add st j
    by_cases e : Sm j = 0
    · rw [decide_eq_false (fun z => z j (by omega) e)]
      rw [e] at sj
      generalize nI (2 ^ q) = z at *
      refine go_of ?_
      refine gp_n 4 (j' := 11) (lv' := [some (.ref 13), some (.int (nI q)), some (.int (nI st)), some (.int (nI j))]) (st' := [.int ((1 : Int32) <<< ((nI q) &&& 31)), .int (nI j)]) (h' := (shT, fi, fl, fr)) rfl ?_
      rw [sh]
      refine gp_of (fun _ k9 => g_icf rfl (show ¬ (z ≤ (nI j)) from lt) k9) ?_
      refine gp_n 1 (j' := 13) (lv' := [some (.ref 13), some (.int (nI q)), some (.int (nI st)), some (.int (nI j))]) (st' := [.ref 13]) (h' := (shT, fi, fl, fr)) rfl ?_
      refine gp_of (fun _ k9 => g_getR (q' := 27) rfl rfl (by decide) kS k9) ?_
      refine gp_n 3 (j' := 17) (lv' := [some (.ref 13), some (.int (nI q)), some (.int (nI st)), some (.int (nI j))]) (st' := [.int ((nI st) + (nI j)), .ref 27]) (h' := (shT, fi, fl, fr)) rfl ?_
      refine gp_of (fun _ k9 => g_iald (k := st + j) (x := 0) rfl rfl (ij) (by omega) (by decide) (sj) k9) ?_
      refine gp_of (fun _ k9 => g_iff rfl (show ¬ (¬ (0 : Int32) = (0 : Int32)) from by decide) k9) ?_
      refine gp_n 1 (j' := 20) (lv' := [some (.ref 13), some (.int (nI q)), some (.int (nI st)), some (.int (nI j))]) (st' := [.int 1]) (h' := (shT, fi, fl, fr)) rfl ?_
      refine gp_done (g_retz rfl (by decide)) ?_
      rfl
    · have g := ih (j + 1) (by omega) (fun t ht => by
        by_cases z : t = j
        · rw [z]
          exact e
        · exact h1 t (by omega))
      generalize b01 (!decide (∀ t, t < 2 ^ q → ¬ Sm t = 0)) = res at *
      clear ih h1 h2
      generalize Sm j = x at *
      generalize nI (2 ^ q) = z at *
      refine go_of ?_
      refine gp_n 4 (j' := 11) (lv' := [some (.ref 13), some (.int (nI q)), some (.int (nI st)), some (.int (nI j))]) (st' := [.int ((1 : Int32) <<< ((nI q) &&& 31)), .int (nI j)]) (h' := (shT, fi, fl, fr)) rfl ?_
      rw [sh]
      refine gp_of (fun _ k9 => g_icf rfl (show ¬ (z ≤ (nI j)) from lt) k9) ?_
      refine gp_n 1 (j' := 13) (lv' := [some (.ref 13), some (.int (nI q)), some (.int (nI st)), some (.int (nI j))]) (st' := [.ref 13]) (h' := (shT, fi, fl, fr)) rfl ?_
      refine gp_of (fun _ k9 => g_getR (q' := 27) rfl rfl (by decide) kS k9) ?_
      refine gp_n 3 (j' := 17) (lv' := [some (.ref 13), some (.int (nI q)), some (.int (nI st)), some (.int (nI j))]) (st' := [.int ((nI st) + (nI j)), .ref 27]) (h' := (shT, fi, fl, fr)) rfl ?_
      refine gp_of (fun _ k9 => g_iald (k := st + j) (x := x) rfl rfl (ij) (by omega) (by decide) (sj) k9) ?_
      refine gp_of (fun _ k9 => g_ift rfl (show ¬ x = (0 : Int32) from e) k9) ?_
      refine gp_n 2 (j' := 7) (lv' := [some (.ref 13), some (.int (nI q)), some (.int (nI st)), some (.int ((nI j) + 1))]) (st' := []) (h' := (shT, fi, fl, fr)) rfl ?_
      rw [nI_1]
      exact gp_done g rfl
theorem hz_ev_14 {h : PmH} {m c q : Nat} {S : Nat → Int32} {x : RSt} (hI : HI hdT shT h) (hx : rdI 14 x h) (hw : rwI 14 m S x c q h) (hP : 1 ≤ x.1) (hm : m ≤ 6) (hq : q ≤ m) : Ev pmT 92 [.ref 13, .int (nI q)] h (some (.int (b01 (!decide (∀ t, t < 2 ^ q → ¬ ndL m S (bl (x.2.1 0)) c q t = 0))))) h := by
  obtain ⟨x1, x2, x3, x4⟩ := hx
  have k3 : ph_r h 14 3 = some 17 := hi_r hI rfl rfl (by decide)
  have kS : ph_r h 13 9 = some 27 := hi_r hI rfl rfl (by decide)
  obtain ⟨S0, fi, fl, fr⟩ := h
  have hS0 : S0 = shT := hI.1
  subst hS0
  obtain ⟨r, r1, r2, r3⟩ := hw q (Nat.le_refl _) hq 0 (by omega)
  have t3 := ixS_top (l := q) (r := r) (by omega) r1
  have ps := ps_ev_14 (l := q) (p := 0) (fi := fi) (fl := fl) (by omega) (by omega) r1 x1 k3 r2
  have g := hz_go_14 (q := q) (st := ixS q r) (Sm := fun t => ndL m S (bl (x.2.1 0)) c q t) (fi := fi) (fl := fl) (by omega) (by omega) kS r3 (2 ^ q) 0 (by omega) (fun t ht => absurd ht (Nat.not_lt_zero t))
  generalize b01 (!decide (∀ t, t < 2 ^ q → ¬ ndL m S (bl (x.2.1 0)) c q t = 0)) = res at *
  clear r3 x4 hw
  generalize ixS q r = st at *
  have ps : Ev pmT 88 [.ref 13, .int (nI q), .int 0] (shT, fi, fl, fr) (some (.int (nI st))) (shT, fi, fl, fr) := ps
  refine Ev.of (es := cd_92) (ml := 4) (lv := [some (.ref 13), some (.int (nI q)), none, none]) rfl rfl rfl ?_
  refine go_of ?_
  refine gp_n 3 (j' := 3) (lv' := [some (.ref 13), some (.int (nI q)), none, none]) (st' := [.int 0, .int (nI q), .ref 13]) (h' := (shT, fi, fl, fr)) rfl ?_
  refine gp_of (fun _ k9 => g_call (y := 88) (as := [.ref 13, .int (nI q), .int 0]) (st' := []) rfl rfl (ps) k9) ?_
  refine gp_n 3 (j' := 7) (lv' := [some (.ref 13), some (.int (nI q)), some (.int (nI st)), some (.int (nI 0))]) (st' := []) (h' := (shT, fi, fl, fr)) rfl ?_
  exact gp_done g rfl
theorem tk_go_14 {q st : Nat} {vc : Int32} {Sm : Nat → Int32} {fi : Nat → Nat → Int32} {fl : Nat → Nat → Int64} {fr : Nat → Nat → Option Nat} (hq : q ≤ 6) (hst : st + 2 ^ q ≤ 1016) (kS : fr 13 9 = some 27) (h2 : ∀ t, t < 2 ^ q → fi 27 (st + t) = Sm t) : ∀ (n j : Nat) (w : Int64), j + n = 2 ^ q → (∀ t, t < 64 → bl w t = (decide (t < j) && decide (Sm t < 0))) → ∃ w', (∀ t, t < 64 → bl w' t = (decide (t < 2 ^ q) && decide (Sm t < 0))) ∧ ∀ r, Go pmT none cd_93 31 [some (.ref 13), some (.int vc), some (.int (nI q)), some (.int (nI st)), some (.long w'), none, some (.int (nI (2 ^ q)))] [] (shT, fi, fl, fr) r → Go pmT none cd_93 9 [some (.ref 13), some (.int vc), some (.int (nI q)), some (.int (nI st)), some (.long w), none, some (.int (nI j))] [] (shT, fi, fl, fr) r := by
  intro n
  have sh := shI q (by omega)
  have pz : 2 ^ q ≤ 64 := pw2_le (a := q) (b := 6) hq
  induction n with
  | zero =>
    intro j w hj h1
    have hj : j = 2 ^ q := by omega
    subst hj
    refine ⟨w, h1, fun r k => ?_⟩
    generalize nI (2 ^ q) = z at *
    refine go_of ?_
    refine gp_n 4 (j' := 13) (lv' := [some (.ref 13), some (.int vc), some (.int (nI q)), some (.int (nI st)), some (.long w), none, some (.int z)]) (st' := [.int ((1 : Int32) <<< ((nI q) &&& 31)), .int z]) (h' := (shT, fi, fl, fr)) rfl ?_
    rw [sh]
    refine gp_of (fun _ k9 => g_ict rfl (show z ≤ z from Int32.le_refl _) k9) ?_
    exact gp_done k rfl
  | succ n ih =>
    intro j w hj h1
    have sj := h2 j (by omega)
    have lt : ¬ nI (2 ^ q) ≤ nI j := nI_ge (by omega) (by omega)
    have ij : nI st + nI j = nI (st + j) := nI_add st j
    by_cases e : Sm j < 0
    · obtain ⟨w2, a1, a2⟩ := ih (j + 1) (w ||| (1 <<< ((nI j : Int32).toInt64 &&& 63))) (by omega) (fun t ht => by
        rw [bl_or, show bl (1 <<< ((nI j : Int32).toInt64 &&& 63)) t = decide (t = j) from bitAt_bl (by omega) ht, h1 t ht]
        by_cases z : t = j
        · subst z
          rw [decide_eq_true rfl, decide_eq_true e, decide_eq_true (show t < t + 1 by omega), Bool.or_true]
          rfl
        · rw [decide_eq_false z, Bool.or_false]
          congr 1
          exact decide_eq_decide.mpr (by omega))
      refine ⟨w2, a1, fun r k => ?_⟩
      have g := a2 r k
      clear ih h1 h2 a1 a2
      generalize Sm j = x at *
      generalize nI (2 ^ q) = z at *
      refine go_of ?_
      refine gp_n 4 (j' := 13) (lv' := [some (.ref 13), some (.int vc), some (.int (nI q)), some (.int (nI st)), some (.long w), none, some (.int (nI j))]) (st' := [.int ((1 : Int32) <<< ((nI q) &&& 31)), .int (nI j)]) (h' := (shT, fi, fl, fr)) rfl ?_
      rw [sh]
      refine gp_of (fun _ k9 => g_icf rfl (show ¬ (z ≤ (nI j)) from lt) k9) ?_
      refine gp_n 2 (j' := 16) (lv' := [some (.ref 13), some (.int vc), some (.int (nI q)), some (.int (nI st)), some (.long w), none, some (.int (nI j))]) (st' := [.ref 13, .long w]) (h' := (shT, fi, fl, fr)) rfl ?_
      refine gp_of (fun _ k9 => g_getR (q' := 27) rfl rfl (by decide) kS k9) ?_
      refine gp_n 3 (j' := 20) (lv' := [some (.ref 13), some (.int vc), some (.int (nI q)), some (.int (nI st)), some (.long w), none, some (.int (nI j))]) (st' := [.int ((nI st) + (nI j)), .ref 27, .long w]) (h' := (shT, fi, fl, fr)) rfl ?_
      refine gp_of (fun _ k9 => g_iald (k := st + j) (x := x) rfl rfl (ij) (by omega) (by decide) (sj) k9) ?_
      refine gp_of (fun _ k9 => g_iff rfl (show ¬ ((0 : Int32) ≤ x) from Int32.not_le.mpr e) k9) ?_
      refine gp_n 8 (j' := 9) (lv' := [some (.ref 13), some (.int vc), some (.int (nI q)), some (.int (nI st)), some (.long (w ||| ((1 : Int64) <<< ((nI j : Int32).toInt64 &&& 63)))), none, some (.int ((nI j) + 1))]) (st' := []) (h' := (shT, fi, fl, fr)) rfl ?_
      rw [nI_1]
      exact gp_done g rfl
    · have z0 : (0 : Int64) <<< ((nI j : Int32).toInt64 &&& 63) = 0 := bl_ext (fun t ht => by
        rw [bl_shl j (by omega) 0 ht, bl_0 t ht]
        by_cases z : j ≤ t
        · rw [bl_0 (t - j) (by omega), Bool.and_false]
        · rw [decide_eq_false z, Bool.false_and])
      obtain ⟨w2, a1, a2⟩ := ih (j + 1) (w ||| ((0 : Int64) <<< ((nI j : Int32).toInt64 &&& 63))) (by omega) (fun t ht => by
        rw [bl_or, z0, bl_0 t ht, Bool.or_false, h1 t ht]
        by_cases z : t = j
        · subst z
          rw [decide_eq_false e, Bool.and_false, Bool.and_false]
        · congr 1
          exact decide_eq_decide.mpr (by omega))
      refine ⟨w2, a1, fun r k => ?_⟩
      have g := a2 r k
      clear ih h1 h2 a1 a2 z0
      generalize Sm j = x at *
      generalize nI (2 ^ q) = z at *
      refine go_of ?_
      refine gp_n 4 (j' := 13) (lv' := [some (.ref 13), some (.int vc), some (.int (nI q)), some (.int (nI st)), some (.long w), none, some (.int (nI j))]) (st' := [.int ((1 : Int32) <<< ((nI q) &&& 31)), .int (nI j)]) (h' := (shT, fi, fl, fr)) rfl ?_
      rw [sh]
      refine gp_of (fun _ k9 => g_icf rfl (show ¬ (z ≤ (nI j)) from lt) k9) ?_
      refine gp_n 2 (j' := 16) (lv' := [some (.ref 13), some (.int vc), some (.int (nI q)), some (.int (nI st)), some (.long w), none, some (.int (nI j))]) (st' := [.ref 13, .long w]) (h' := (shT, fi, fl, fr)) rfl ?_
      refine gp_of (fun _ k9 => g_getR (q' := 27) rfl rfl (by decide) kS k9) ?_
      refine gp_n 3 (j' := 20) (lv' := [some (.ref 13), some (.int vc), some (.int (nI q)), some (.int (nI st)), some (.long w), none, some (.int (nI j))]) (st' := [.int ((nI st) + (nI j)), .ref 27, .long w]) (h' := (shT, fi, fl, fr)) rfl ?_
      refine gp_of (fun _ k9 => g_iald (k := st + j) (x := x) rfl rfl (ij) (by omega) (by decide) (sj) k9) ?_
      refine gp_of (fun _ k9 => g_ift rfl (show (0 : Int32) ≤ x from Int32.not_lt.mp e) k9) ?_
      refine gp_n 7 (j' := 9) (lv' := [some (.ref 13), some (.int vc), some (.int (nI q)), some (.int (nI st)), some (.long (w ||| ((0 : Int64) <<< ((nI j : Int32).toInt64 &&& 63)))), none, some (.int ((nI j) + 1))]) (st' := []) (h' := (shT, fi, fl, fr)) rfl ?_
      rw [nI_1]
      exact gp_done g rfl
/-- a node of which all is free and sure -/
theorem tk_ev_14 {h : PmH} {m c q : Nat} {S : Nat → Int32} {x : RSt} {B : Int64} (hI : HI hdT shT h) (hx : rdI 14 x h) (hw : rwI 14 m S x c q h) (hP : x.1 = 1) (hm : m ≤ 6) (hq : q ≤ m) (hc : c < 64) (hcq : c % 2 ^ q = 0) (hB : ∀ t, t < 64 → bl B t = (bl (x.2.1 0) t || (decide (c ≤ t) && bfN 0 q (fun j => decide (j < 2 ^ q) && decide (ndL m S (bl (x.2.1 0)) c q j < 0)) (t - c)))) (hBl : ∀ t, t < c → bl B t = bl (x.2.1 0) t) : ∃ h', Ev pmT 93 [.ref 13, .int (nI c), .int (nI q)] h none h' ∧ rdI 14 (1, (fun _ => B), fun _ => x.2.2 0) h' ∧ rwI 14 m S (1, (fun _ => B), fun _ => x.2.2 0) c q h' := by
  obtain ⟨x1, x2, x3, x4⟩ := hx
  have k1 : ph_r h 14 1 = some 15 := hi_r hI rfl rfl (by decide)
  have k3 : ph_r h 14 3 = some 17 := hi_r hI rfl rfl (by decide)
  have kS : ph_r h 13 9 = some 27 := hi_r hI rfl rfl (by decide)
  obtain ⟨S0, fi, fl, fr⟩ := h
  have hS0 : S0 = shT := hI.1
  subst hS0
  obtain ⟨r, r1, r2, r3⟩ := hw q (Nat.le_refl _) hq 0 (by omega)
  have t3 := ixS_top (l := q) (r := r) (by omega) r1
  have ps := ps_ev_14 (l := q) (p := 0) (fi := fi) (fl := fl) (by omega) (by omega) r1 x1 k3 r2
  obtain ⟨w, w1, w2⟩ := tk_go_14 (q := q) (st := ixS q r) (vc := nI c) (Sm := fun t => ndL m S (bl (x.2.1 0)) c q t) (fi := fi) (fl := fl) (by omega) (by omega) kS r3 (2 ^ q) 0 0 (by omega) (fun t ht => by rw [bl_0 t ht, decide_eq_false (Nat.not_lt_zero t), Bool.false_and])
  obtain ⟨y, y1, y2⟩ := bf_ev (m := q) (by omega) (h := (shT, fi, fl, fr)) (x := w)
  have yb : x.2.1 0 ||| (y <<< ((nI c : Int32).toInt64 &&& 63)) = B := bl_ext (fun t ht => by
    rw [bl_or, bl_shl c hc y ht, hB t ht]
    by_cases z : c ≤ t
    · rw [y2 (t - c) (by omega), bfN_cg q 0 (by omega) (fun i hi => w1 i hi) (t - c) (by omega)]
    · rw [decide_eq_false z, Bool.false_and, Bool.false_and])
  have b0 := (x4 0 (by omega)).1
  refine ⟨(shT, fi, pm_u2 fl 15 0 B, fr), ?_, ⟨x1, x2, x3.trans (by rw [hP]), fun p hp => ?_⟩, fun l l1 l2 p hp => ?_⟩
  · have b0 : fl 15 0 = x.2.1 0 := b0
    clear y2 w1 r3 x4 hw hB hBl
    generalize x.2.1 0 = B0 at *
    generalize ixS q r = st at *
    generalize nI (2 ^ q) = z at *
    have ps : Ev pmT 88 [.ref 13, .int (nI q), .int 0] (shT, fi, fl, fr) (some (.int (nI st))) (shT, fi, fl, fr) := ps
    have g := w2 (none, (shT, fi, pm_u2 fl 15 0 B, fr)) (by
      refine go_of ?_
      refine gp_n 1 (j' := 32) (lv' := [some (.ref 13), some (.int (nI c)), some (.int (nI q)), some (.int (nI st)), some (.long w), none, some (.int z)]) (st' := [.ref 13]) (h' := (shT, fi, fl, fr)) rfl ?_
      refine gp_of (fun _ k9 => g_getR (q' := 14) rfl rfl (by decide) x1 k9) ?_
      refine gp_of (fun _ k9 => g_getR (q' := 15) rfl rfl (by decide) k1 k9) ?_
      refine gp_n 2 (j' := 36) (lv' := [some (.ref 13), some (.int (nI c)), some (.int (nI q)), some (.int (nI st)), some (.long w), none, some (.int z)]) (st' := [.int 0, .ref 15, .int 0, .ref 15]) (h' := (shT, fi, fl, fr)) rfl ?_
      refine gp_of (fun _ k9 => g_lald (k := 0) (x := B0) rfl rfl (rfl) (by decide) (by decide) (b0) k9) ?_
      refine gp_n 2 (j' := 39) (lv' := [some (.ref 13), some (.int (nI c)), some (.int (nI q)), some (.int (nI st)), some (.long w), none, some (.int z)]) (st' := [.int (nI q), .long w, .long B0, .int 0, .ref 15]) (h' := (shT, fi, fl, fr)) rfl ?_
      refine gp_of (fun _ k9 => g_call (y := 62) (as := [.long w, .int (nI q)]) (st' := [.long B0, .int 0, .ref 15]) rfl rfl (y1) k9) ?_
      refine gp_n 3 (j' := 43) (lv' := [some (.ref 13), some (.int (nI c)), some (.int (nI q)), some (.int (nI st)), some (.long w), none, some (.int z)]) (st' := [.long (B0 ||| (y <<< ((nI c : Int32).toInt64 &&& 63))), .int 0, .ref 15]) (h' := (shT, fi, fl, fr)) rfl ?_
      rw [yb]
      refine gp_of (fun _ k9 => g_last (k := 0) rfl rfl (rfl) (by decide) (by decide) k9) ?_
      refine gp_done (g_vret rfl) ?_
      rfl)
    refine Ev.of (es := cd_93) (ml := 7) (lv := [some (.ref 13), some (.int (nI c)), some (.int (nI q)), none, none, none, none]) rfl rfl rfl ?_
    refine go_of ?_
    refine gp_n 3 (j' := 3) (lv' := [some (.ref 13), some (.int (nI c)), some (.int (nI q)), none, none, none, none]) (st' := [.int 0, .int (nI q), .ref 13]) (h' := (shT, fi, fl, fr)) rfl ?_
    refine gp_of (fun _ k9 => g_call (y := 88) (as := [.ref 13, .int (nI q), .int 0]) (st' := []) rfl rfl (ps) k9) ?_
    refine gp_n 5 (j' := 9) (lv' := [some (.ref 13), some (.int (nI c)), some (.int (nI q)), some (.int (nI st)), some (.long 0), none, some (.int (nI 0))]) (st' := []) (h' := (shT, fi, fl, fr)) rfl ?_
    exact gp_done g rfl
  · have hp : p = 0 := by have hp : p < 1 := hp; omega
    subst hp
    exact ⟨show pm_u2 fl 15 0 B 15 0 = B from u2_eq, (x4 0 (by omega)).2⟩
  · have hp : p = 0 := by have hp : p < 1 := hp; omega
    subst hp
    obtain ⟨r', q1, q2, q3⟩ := hw l l1 l2 0 (by omega)
    refine ⟨r', q1, q2, fun j hj => (q3 j hj).trans ?_⟩
    have : ndL m S (bl (x.2.1 0)) c l = ndL m S (bl B) c l := ndL_cg (m - l) l (by omega) rfl (fun t ht => (hBl t (by have := Nat.div_mul_le_self c (2 ^ l); omega)).symm)
    rw [this]
theorem fzi_18 {q p st : Nat} {M : Int32} {Sm : Nat → Int32} {fl : Nat → Nat → Int64} {fr : Nat → Nat → Option Nat} (hq : q ≤ 6) (hp : p < 8) (hst : st + 2 ^ q ≤ 1016) (k0 : fr 13 0 = some 18) (k2 : fr 18 2 = some 20) (kS : fr 13 9 = some 27) (hb : ∀ t, t < 2 ^ q → inB 8128 (Sm t)) : ∀ (n j : Nat) (fi : Nat → Nat → Int32), j + n = 2 ^ q → fi 20 p = M + fsm (fun t => coS (Sm t) false) j → (∀ t, t < 2 ^ q → fi 27 (st + t) = Sm t) → ∃ fi', fi' 20 p = M + fsm (fun t => coS (Sm t) false) (2 ^ q) ∧ (∀ r s, ¬ (r = 20 ∧ s = p) → fi' r s = fi r s) ∧ ∀ r, Go pmT none cd_91 37 [some (.ref 13), some (.int (nI q)), some (.int (nI p)), some (.int (nI st)), some (.int (nI (2 ^ q)))] [] (shT, fi', fl, fr) r → Go pmT none cd_91 14 [some (.ref 13), some (.int (nI q)), some (.int (nI p)), some (.int (nI st)), some (.int (nI j))] [] (shT, fi, fl, fr) r := by
  intro n
  have sh := shI q (by omega)
  have pz := pw2_le (a := q) (b := 6) hq
  induction n with
  | zero =>
    intro j fi hj h1 h2
    have hj : j = 2 ^ q := by omega
    subst hj
    refine ⟨fi, h1, fun _ _ _ => rfl, fun r k => ?_⟩
    clear h1 h2
    generalize nI (2 ^ q) = z at *
    refine go_of ?_
    refine gp_n 4 (j' := 18) (lv' := [some (.ref 13), some (.int (nI q)), some (.int (nI p)), some (.int (nI st)), some (.int z)]) (st' := [.int ((1 : Int32) <<< ((nI q) &&& 31)), .int z]) (h' := (shT, fi, fl, fr)) rfl ?_
    rw [sh]
    refine gp_of (fun _ k9 => g_ict rfl (show z ≤ z from Int32.le_refl _) k9) ?_
    exact gp_done k rfl
  | succ n ih =>
    intro j fi hj h1 h2
    have sj := h2 j (by omega)
    have pn := pny_ev2 (t := false) (h := (shT, fi, fl, fr)) (hb j (by omega))
    have lt : ¬ nI (2 ^ q) ≤ nI j := nI_ge (by omega) (by omega)
    have ij : nI st + nI j = nI (st + j) := nI_add st j
    obtain ⟨fi', a1, a2, a3⟩ := ih (j + 1) (pm_u2 fi 20 p (M + fsm (fun t => coS (Sm t) false) j + coS (Sm j) false)) (by omega) ((show pm_u2 fi 20 p (M + fsm (fun t => coS (Sm t) false) j + coS (Sm j) false) 20 p = _ from u2_eq).trans (by rw [fsm, Int32.add_assoc])) (fun t ht => (show pm_u2 fi 20 p (M + fsm (fun t => coS (Sm t) false) j + coS (Sm j) false) 27 (st + t) = fi 27 (st + t) from wl_ne (by omega)).trans (h2 t ht))
    refine ⟨fi', a1, fun r s z => (a2 r s z).trans (wl_ne z), fun r k => ?_⟩
    have g := a3 r k
    have pn : Ev pmT 77 [.int (Sm j), .int 0] (shT, fi, fl, fr) (some (.int (coS (Sm j) false))) (shT, fi, fl, fr) := pn
    clear a1 a2 a3 ih h2 hb
    generalize coS (Sm j) false = v at *
    generalize Sm j = x at *
    generalize M + fsm (fun t => coS (Sm t) false) j = w at *
    generalize nI (2 ^ q) = z at *
    refine go_of ?_
    refine gp_n 4 (j' := 18) (lv' := [some (.ref 13), some (.int (nI q)), some (.int (nI p)), some (.int (nI st)), some (.int (nI j))]) (st' := [.int ((1 : Int32) <<< ((nI q) &&& 31)), .int (nI j)]) (h' := (shT, fi, fl, fr)) rfl ?_
    rw [sh]
    refine gp_of (fun _ k9 => g_icf rfl (show ¬ (z ≤ (nI j)) from lt) k9) ?_
    refine gp_n 1 (j' := 20) (lv' := [some (.ref 13), some (.int (nI q)), some (.int (nI p)), some (.int (nI st)), some (.int (nI j))]) (st' := [.ref 13]) (h' := (shT, fi, fl, fr)) rfl ?_
    refine gp_of (fun _ k9 => g_getR (q' := 18) rfl rfl (by decide) k0 k9) ?_
    refine gp_of (fun _ k9 => g_getR (q' := 20) rfl rfl (by decide) k2 k9) ?_
    refine gp_n 2 (j' := 24) (lv' := [some (.ref 13), some (.int (nI q)), some (.int (nI p)), some (.int (nI st)), some (.int (nI j))]) (st' := [.int (nI p), .ref 20, .int (nI p), .ref 20]) (h' := (shT, fi, fl, fr)) rfl ?_
    refine gp_of (fun _ k9 => g_iald (k := p) (x := w) rfl rfl (rfl) (by omega) (by decide) (h1) k9) ?_
    refine gp_n 1 (j' := 26) (lv' := [some (.ref 13), some (.int (nI q)), some (.int (nI p)), some (.int (nI st)), some (.int (nI j))]) (st' := [.ref 13, .int w, .int (nI p), .ref 20]) (h' := (shT, fi, fl, fr)) rfl ?_
    refine gp_of (fun _ k9 => g_getR (q' := 27) rfl rfl (by decide) kS k9) ?_
    refine gp_n 3 (j' := 30) (lv' := [some (.ref 13), some (.int (nI q)), some (.int (nI p)), some (.int (nI st)), some (.int (nI j))]) (st' := [.int ((nI st) + (nI j)), .ref 27, .int w, .int (nI p), .ref 20]) (h' := (shT, fi, fl, fr)) rfl ?_
    refine gp_of (fun _ k9 => g_iald (k := st + j) (x := x) rfl rfl (ij) (by omega) (by decide) (sj) k9) ?_
    refine gp_n 1 (j' := 32) (lv' := [some (.ref 13), some (.int (nI q)), some (.int (nI p)), some (.int (nI st)), some (.int (nI j))]) (st' := [.int 0, .int x, .int w, .int (nI p), .ref 20]) (h' := (shT, fi, fl, fr)) rfl ?_
    refine gp_of (fun _ k9 => g_call (y := 77) (as := [.int x, .int 0]) (st' := [.int w, .int (nI p), .ref 20]) rfl rfl (pn) k9) ?_
    refine gp_n 1 (j' := 34) (lv' := [some (.ref 13), some (.int (nI q)), some (.int (nI p)), some (.int (nI st)), some (.int (nI j))]) (st' := [.int (w + v), .int (nI p), .ref 20]) (h' := (shT, fi, fl, fr)) rfl ?_
    refine gp_of (fun _ k9 => g_iast (k := p) rfl rfl (rfl) (by omega) (by decide) k9) ?_
    refine gp_n 2 (j' := 14) (lv' := [some (.ref 13), some (.int (nI q)), some (.int (nI p)), some (.int (nI st)), some (.int ((nI j) + 1))]) (st' := []) (h' := (shT, pm_u2 fi 20 p (w + v), fl, fr)) rfl ?_
    rw [nI_1]
    exact gp_done g rfl
theorem fzo_18 {q P : Nat} {Sm : Nat → Nat → Int32} {Mt : Nat → Int32} {fl : Nat → Nat → Int64} {fr : Nat → Nat → Option Nat} (hq : q ≤ 6) (hP : P ≤ 8) (k0 : fr 13 0 = some 18) (k2 : fr 18 2 = some 20) (k3 : fr 18 3 = some 21) (kS : fr 13 9 = some 27) (hb : ∀ p t, t < 2 ^ q → inB 8128 (Sm p t)) : ∀ (n p : Nat) (fi : Nat → Nat → Int32), p + n = P → fi 18 0 = nI P → (∀ p', p ≤ p' → p' < P → fi 20 p' = Mt p') → (∀ p', p' < P → ∃ r, r < 8 ∧ fi 21 (8 * q + p') = nI r ∧ ∀ t, t < 2 ^ q → fi 27 (ixS q r + t) = Sm p' t) → ∃ fi', (∀ p', p ≤ p' → p' < P → fi' 20 p' = Mt p' + fsm (fun t => coS (Sm p' t) false) (2 ^ q)) ∧ (∀ r s, ¬ (r = 20 ∧ p ≤ s ∧ s < P) → fi' r s = fi r s) ∧ ∀ l3 l4, Go pmT none cd_91 2 [some (.ref 13), some (.int (nI q)), some (.int (nI p)), l3, l4] [] (shT, fi, fl, fr) (none, (shT, fi', fl, fr)) := by
  intro n
  induction n with
  | zero =>
    intro p fi hp cP h1 h2
    have hp : p = P := by omega
    subst hp
    refine ⟨fi, fun p' z1 z2 => absurd z2 (by omega), fun _ _ _ => rfl, fun l3 l4 => ?_⟩
    refine go_of ?_
    refine gp_n 2 (j' := 4) (lv' := [some (.ref 13), some (.int (nI q)), some (.int (nI p)), l3, l4]) (st' := [.ref 13, .int (nI p)]) (h' := (shT, fi, fl, fr)) rfl ?_
    refine gp_of (fun _ k9 => g_getR (q' := 18) rfl rfl (by decide) k0 k9) ?_
    refine gp_of (fun _ k9 => g_getI (x := nI p) rfl (Or.inl rfl) rfl (by decide) (cP) k9) ?_
    refine gp_of (fun _ k9 => g_ict rfl (show (nI p) ≤ (nI p) from Int32.le_refl _) k9) ?_
    refine gp_done (g_vret rfl) ?_
    rfl
  | succ n ih =>
    intro p fi hp cP h1 h2
    obtain ⟨r, r1, r2, r3⟩ := h2 p (by omega)
    have t3 := ixS_top (l := q) (r := r) hq r1
    have ps := ps_ev_18 (l := q) (p := p) (fl := fl) (by omega) (by omega) r1 k0 k3 r2
    have lt : ¬ nI P ≤ nI p := nI_ge (by omega) (by omega)
    obtain ⟨f1, i1, i2, i3⟩ := fzi_18 (q := q) (p := p) (st := ixS q r) (M := Mt p) (Sm := Sm p) (fl := fl) hq (by omega) (by omega) k0 k2 kS (hb p) (2 ^ q) 0 fi (by omega) ((h1 p (Nat.le_refl _) (by omega)).trans (Int32.add_zero _).symm) r3
    obtain ⟨f2, j1, j2, j3⟩ := ih (p + 1) f1 (by omega) ((i2 18 0 (by omega)).trans cP) (fun p' z1 z2 => (i2 20 p' (by omega)).trans (h1 p' (by omega) z2)) (fun p' z => by
      obtain ⟨r', q1, q2, q3⟩ := h2 p' z
      exact ⟨r', q1, (i2 21 _ (by omega)).trans q2, fun t ht => (i2 27 _ (by omega)).trans (q3 t ht)⟩)
    refine ⟨f2, fun p' z1 z2 => ?_, fun r' s z => (j2 r' s (by omega)).trans (i2 r' s (by omega)), fun l3 l4 => ?_⟩
    · by_cases e : p' = p
      · subst e
        exact (j2 20 p' (by omega)).trans i1
      · exact j1 p' (by omega) z2
    clear j1 j2 i1 i2 ih h1 h2 hb r3
    generalize ixS q r = st at *
    generalize hz : nI (2 ^ q) = z at *
    have g := i3 (none, (shT, f2, fl, fr)) (by
      refine go_of ?_
      refine gp_n 2 (j' := 2) (lv' := [some (.ref 13), some (.int (nI q)), some (.int ((nI p) + 1)), some (.int (nI st)), some (.int z)]) (st' := []) (h' := (shT, f1, fl, fr)) rfl ?_
      rw [nI_1]
      exact gp_done (j3 _ _) rfl)
    refine go_of ?_
    refine gp_n 2 (j' := 4) (lv' := [some (.ref 13), some (.int (nI q)), some (.int (nI p)), l3, l4]) (st' := [.ref 13, .int (nI p)]) (h' := (shT, fi, fl, fr)) rfl ?_
    refine gp_of (fun _ k9 => g_getR (q' := 18) rfl rfl (by decide) k0 k9) ?_
    refine gp_of (fun _ k9 => g_getI (x := nI P) rfl (Or.inl rfl) rfl (by decide) (cP) k9) ?_
    refine gp_of (fun _ k9 => g_icf rfl (show ¬ ((nI P) ≤ (nI p)) from lt) k9) ?_
    refine gp_n 3 (j' := 10) (lv' := [some (.ref 13), some (.int (nI q)), some (.int (nI p)), l3, l4]) (st' := [.int (nI p), .int (nI q), .ref 13]) (h' := (shT, fi, fl, fr)) rfl ?_
    refine gp_of (fun _ k9 => g_call (y := 88) (as := [.ref 13, .int (nI q), .int (nI p)]) (st' := []) rfl rfl (ps) k9) ?_
    refine gp_n 3 (j' := 14) (lv' := [some (.ref 13), some (.int (nI q)), some (.int (nI p)), some (.int (nI st)), some (.int (nI 0))]) (st' := []) (h' := (shT, fi, fl, fr)) rfl ?_
    exact gp_done g rfl
/-- a node of which nothing is free is cut short -/
theorem fzn_ev_18 {h : PmH} {m c q : Nat} {S : Nat → Int32} {x : RSt} (hI : HI hdT shT h) (hx : rdI 18 x h) (hw : rwI 18 m S x c q h) (hP : x.1 ≤ 8) (hm : m ≤ 6) (hq : q ≤ m) (hS : ∀ s, s < 64 → -127 ≤ (S s).toInt ∧ (S s).toInt ≤ 127) : ∃ h', Ev pmT 91 [.ref 13, .int (nI q)] h none h' ∧ rdI 18 (x.1, x.2.1, fun p => x.2.2 p + fsm (fun j => coS (ndL m S (bl (x.2.1 p)) c q j) false) (2 ^ q)) h' ∧ rwI 18 m S (x.1, x.2.1, fun p => x.2.2 p + fsm (fun j => coS (ndL m S (bl (x.2.1 p)) c q j) false) (2 ^ q)) c q h' := by
  obtain ⟨x1, x2, x3, x4⟩ := hx
  have k2 : ph_r h 18 2 = some 20 := hi_r hI rfl rfl (by decide)
  have k3 : ph_r h 18 3 = some 21 := hi_r hI rfl rfl (by decide)
  have kS : ph_r h 13 9 = some 27 := hi_r hI rfl rfl (by decide)
  obtain ⟨S0, fi, fl, fr⟩ := h
  have hS0 : S0 = shT := hI.1
  subst hS0
  obtain ⟨f1, a1, a2, a3⟩ := fzo_18 (q := q) (P := x.1) (Sm := fun p t => ndL m S (bl (x.2.1 p)) c q t) (Mt := x.2.2) (fl := fl) (by omega) hP x1 k2 k3 kS (fun p t ht => ndL_b0 hm hS hq ht) x.1 0 fi (by omega) x3 (fun p _ hp => (x4 p hp).2) (fun p hp => hw q (Nat.le_refl _) hq p hp)
  refine ⟨(shT, f1, fl, fr), ?_, ⟨x1, x2, (a2 18 0 (by omega)).trans x3, fun p hp => ⟨(x4 p hp).1, a1 p (Nat.zero_le _) hp⟩⟩, fun l l1 l2 p hp => ?_⟩
  · refine Ev.of (es := cd_91) (ml := 5) (lv := [some (.ref 13), some (.int (nI q)), none, none, none]) rfl rfl rfl ?_
    refine go_of ?_
    refine gp_n 2 (j' := 2) (lv' := [some (.ref 13), some (.int (nI q)), some (.int (nI 0)), none, none]) (st' := []) (h' := (shT, fi, fl, fr)) rfl ?_
    exact gp_done (a3 _ _) rfl
  · obtain ⟨r, r1, r2, r3⟩ := hw l l1 l2 p hp
    exact ⟨r, r1, (a2 21 _ (by omega)).trans r2, fun j hj => (a2 27 _ (by omega)).trans (r3 j hj)⟩
theorem hz_go_18 {q st : Nat} {Sm : Nat → Int32} {fi : Nat → Nat → Int32} {fl : Nat → Nat → Int64} {fr : Nat → Nat → Option Nat} (hq : q ≤ 6) (hst : st + 2 ^ q ≤ 1016) (kS : fr 13 9 = some 27) (h2 : ∀ t, t < 2 ^ q → fi 27 (st + t) = Sm t) : ∀ (n j : Nat), j + n = 2 ^ q → (∀ t, t < j → ¬ Sm t = 0) → Go pmT none cd_92 7 [some (.ref 13), some (.int (nI q)), some (.int (nI st)), some (.int (nI j))] [] (shT, fi, fl, fr) (some (.int (b01 (!decide (∀ t, t < 2 ^ q → ¬ Sm t = 0)))), (shT, fi, fl, fr)) := by
  intro n
  have sh := shI q (by omega)
  have pz := pw2_le (a := q) (b := 6) hq
  induction n with
  | zero =>
    intro j hj h1
    have hj : j = 2 ^ q := by omega
    subst hj
    rw [decide_eq_true h1]
    generalize nI (2 ^ q) = z at *
    refine go_of ?_
    refine gp_n 4 (j' := 11) (lv' := [some (.ref 13), some (.int (nI q)), some (.int (nI st)), some (.int z)]) (st' := [.int ((1 : Int32) <<< ((nI q) &&& 31)), .int z]) (h' := (shT, fi, fl, fr)) rfl ?_
    rw [sh]
    refine gp_of (fun _ k9 => g_ict rfl (show z ≤ z from Int32.le_refl _) k9) ?_
    refine gp_n 1 (j' := 24) (lv' := [some (.ref 13), some (.int (nI q)), some (.int (nI st)), some (.int z)]) (st' := [.int 0]) (h' := (shT, fi, fl, fr)) rfl ?_
    refine gp_done (g_retz rfl (by decide)) ?_
    rfl
  | succ n ih =>
    intro j hj h1
    have sj := h2 j (by omega)
    have lt : ¬ nI (2 ^ q) ≤ nI j := nI_ge (by omega) (by omega)
    have ij : nI st + nI j = nI (st + j) := nI_add st j
    by_cases e : Sm j = 0
    · rw [decide_eq_false (fun z => z j (by omega) e)]
      rw [e] at sj
      generalize nI (2 ^ q) = z at *
      refine go_of ?_
      refine gp_n 4 (j' := 11) (lv' := [some (.ref 13), some (.int (nI q)), some (.int (nI st)), some (.int (nI j))]) (st' := [.int ((1 : Int32) <<< ((nI q) &&& 31)), .int (nI j)]) (h' := (shT, fi, fl, fr)) rfl ?_
      rw [sh]
      refine gp_of (fun _ k9 => g_icf rfl (show ¬ (z ≤ (nI j)) from lt) k9) ?_
      refine gp_n 1 (j' := 13) (lv' := [some (.ref 13), some (.int (nI q)), some (.int (nI st)), some (.int (nI j))]) (st' := [.ref 13]) (h' := (shT, fi, fl, fr)) rfl ?_
      refine gp_of (fun _ k9 => g_getR (q' := 27) rfl rfl (by decide) kS k9) ?_
      refine gp_n 3 (j' := 17) (lv' := [some (.ref 13), some (.int (nI q)), some (.int (nI st)), some (.int (nI j))]) (st' := [.int ((nI st) + (nI j)), .ref 27]) (h' := (shT, fi, fl, fr)) rfl ?_
      refine gp_of (fun _ k9 => g_iald (k := st + j) (x := 0) rfl rfl (ij) (by omega) (by decide) (sj) k9) ?_
      refine gp_of (fun _ k9 => g_iff rfl (show ¬ (¬ (0 : Int32) = (0 : Int32)) from by decide) k9) ?_
      refine gp_n 1 (j' := 20) (lv' := [some (.ref 13), some (.int (nI q)), some (.int (nI st)), some (.int (nI j))]) (st' := [.int 1]) (h' := (shT, fi, fl, fr)) rfl ?_
      refine gp_done (g_retz rfl (by decide)) ?_
      rfl
    · have g := ih (j + 1) (by omega) (fun t ht => by
        by_cases z : t = j
        · rw [z]
          exact e
        · exact h1 t (by omega))
      generalize b01 (!decide (∀ t, t < 2 ^ q → ¬ Sm t = 0)) = res at *
      clear ih h1 h2
      generalize Sm j = x at *
      generalize nI (2 ^ q) = z at *
      refine go_of ?_
      refine gp_n 4 (j' := 11) (lv' := [some (.ref 13), some (.int (nI q)), some (.int (nI st)), some (.int (nI j))]) (st' := [.int ((1 : Int32) <<< ((nI q) &&& 31)), .int (nI j)]) (h' := (shT, fi, fl, fr)) rfl ?_
      rw [sh]
      refine gp_of (fun _ k9 => g_icf rfl (show ¬ (z ≤ (nI j)) from lt) k9) ?_
      refine gp_n 1 (j' := 13) (lv' := [some (.ref 13), some (.int (nI q)), some (.int (nI st)), some (.int (nI j))]) (st' := [.ref 13]) (h' := (shT, fi, fl, fr)) rfl ?_
      refine gp_of (fun _ k9 => g_getR (q' := 27) rfl rfl (by decide) kS k9) ?_
      refine gp_n 3 (j' := 17) (lv' := [some (.ref 13), some (.int (nI q)), some (.int (nI st)), some (.int (nI j))]) (st' := [.int ((nI st) + (nI j)), .ref 27]) (h' := (shT, fi, fl, fr)) rfl ?_
      refine gp_of (fun _ k9 => g_iald (k := st + j) (x := x) rfl rfl (ij) (by omega) (by decide) (sj) k9) ?_
      refine gp_of (fun _ k9 => g_ift rfl (show ¬ x = (0 : Int32) from e) k9) ?_
      refine gp_n 2 (j' := 7) (lv' := [some (.ref 13), some (.int (nI q)), some (.int (nI st)), some (.int ((nI j) + 1))]) (st' := []) (h' := (shT, fi, fl, fr)) rfl ?_
      rw [nI_1]
      exact gp_done g rfl
theorem hz_ev_18 {h : PmH} {m c q : Nat} {S : Nat → Int32} {x : RSt} (hI : HI hdT shT h) (hx : rdI 18 x h) (hw : rwI 18 m S x c q h) (hP : 1 ≤ x.1) (hm : m ≤ 6) (hq : q ≤ m) : Ev pmT 92 [.ref 13, .int (nI q)] h (some (.int (b01 (!decide (∀ t, t < 2 ^ q → ¬ ndL m S (bl (x.2.1 0)) c q t = 0))))) h := by
  obtain ⟨x1, x2, x3, x4⟩ := hx
  have k3 : ph_r h 18 3 = some 21 := hi_r hI rfl rfl (by decide)
  have kS : ph_r h 13 9 = some 27 := hi_r hI rfl rfl (by decide)
  obtain ⟨S0, fi, fl, fr⟩ := h
  have hS0 : S0 = shT := hI.1
  subst hS0
  obtain ⟨r, r1, r2, r3⟩ := hw q (Nat.le_refl _) hq 0 (by omega)
  have t3 := ixS_top (l := q) (r := r) (by omega) r1
  have ps := ps_ev_18 (l := q) (p := 0) (fi := fi) (fl := fl) (by omega) (by omega) r1 x1 k3 r2
  have g := hz_go_18 (q := q) (st := ixS q r) (Sm := fun t => ndL m S (bl (x.2.1 0)) c q t) (fi := fi) (fl := fl) (by omega) (by omega) kS r3 (2 ^ q) 0 (by omega) (fun t ht => absurd ht (Nat.not_lt_zero t))
  generalize b01 (!decide (∀ t, t < 2 ^ q → ¬ ndL m S (bl (x.2.1 0)) c q t = 0)) = res at *
  clear r3 x4 hw
  generalize ixS q r = st at *
  have ps : Ev pmT 88 [.ref 13, .int (nI q), .int 0] (shT, fi, fl, fr) (some (.int (nI st))) (shT, fi, fl, fr) := ps
  refine Ev.of (es := cd_92) (ml := 4) (lv := [some (.ref 13), some (.int (nI q)), none, none]) rfl rfl rfl ?_
  refine go_of ?_
  refine gp_n 3 (j' := 3) (lv' := [some (.ref 13), some (.int (nI q)), none, none]) (st' := [.int 0, .int (nI q), .ref 13]) (h' := (shT, fi, fl, fr)) rfl ?_
  refine gp_of (fun _ k9 => g_call (y := 88) (as := [.ref 13, .int (nI q), .int 0]) (st' := []) rfl rfl (ps) k9) ?_
  refine gp_n 3 (j' := 7) (lv' := [some (.ref 13), some (.int (nI q)), some (.int (nI st)), some (.int (nI 0))]) (st' := []) (h' := (shT, fi, fl, fr)) rfl ?_
  exact gp_done g rfl
theorem tk_go_18 {q st : Nat} {vc : Int32} {Sm : Nat → Int32} {fi : Nat → Nat → Int32} {fl : Nat → Nat → Int64} {fr : Nat → Nat → Option Nat} (hq : q ≤ 6) (hst : st + 2 ^ q ≤ 1016) (kS : fr 13 9 = some 27) (h2 : ∀ t, t < 2 ^ q → fi 27 (st + t) = Sm t) : ∀ (n j : Nat) (w : Int64), j + n = 2 ^ q → (∀ t, t < 64 → bl w t = (decide (t < j) && decide (Sm t < 0))) → ∃ w', (∀ t, t < 64 → bl w' t = (decide (t < 2 ^ q) && decide (Sm t < 0))) ∧ ∀ r, Go pmT none cd_93 31 [some (.ref 13), some (.int vc), some (.int (nI q)), some (.int (nI st)), some (.long w'), none, some (.int (nI (2 ^ q)))] [] (shT, fi, fl, fr) r → Go pmT none cd_93 9 [some (.ref 13), some (.int vc), some (.int (nI q)), some (.int (nI st)), some (.long w), none, some (.int (nI j))] [] (shT, fi, fl, fr) r := by
  intro n
  have sh := shI q (by omega)
  have pz : 2 ^ q ≤ 64 := pw2_le (a := q) (b := 6) hq
  induction n with
  | zero =>
    intro j w hj h1
    have hj : j = 2 ^ q := by omega
    subst hj
    refine ⟨w, h1, fun r k => ?_⟩
    generalize nI (2 ^ q) = z at *
    refine go_of ?_
    refine gp_n 4 (j' := 13) (lv' := [some (.ref 13), some (.int vc), some (.int (nI q)), some (.int (nI st)), some (.long w), none, some (.int z)]) (st' := [.int ((1 : Int32) <<< ((nI q) &&& 31)), .int z]) (h' := (shT, fi, fl, fr)) rfl ?_
    rw [sh]
    refine gp_of (fun _ k9 => g_ict rfl (show z ≤ z from Int32.le_refl _) k9) ?_
    exact gp_done k rfl
  | succ n ih =>
    intro j w hj h1
    have sj := h2 j (by omega)
    have lt : ¬ nI (2 ^ q) ≤ nI j := nI_ge (by omega) (by omega)
    have ij : nI st + nI j = nI (st + j) := nI_add st j
    by_cases e : Sm j < 0
    · obtain ⟨w2, a1, a2⟩ := ih (j + 1) (w ||| (1 <<< ((nI j : Int32).toInt64 &&& 63))) (by omega) (fun t ht => by
        rw [bl_or, show bl (1 <<< ((nI j : Int32).toInt64 &&& 63)) t = decide (t = j) from bitAt_bl (by omega) ht, h1 t ht]
        by_cases z : t = j
        · subst z
          rw [decide_eq_true rfl, decide_eq_true e, decide_eq_true (show t < t + 1 by omega), Bool.or_true]
          rfl
        · rw [decide_eq_false z, Bool.or_false]
          congr 1
          exact decide_eq_decide.mpr (by omega))
      refine ⟨w2, a1, fun r k => ?_⟩
      have g := a2 r k
      clear ih h1 h2 a1 a2
      generalize Sm j = x at *
      generalize nI (2 ^ q) = z at *
      refine go_of ?_
      refine gp_n 4 (j' := 13) (lv' := [some (.ref 13), some (.int vc), some (.int (nI q)), some (.int (nI st)), some (.long w), none, some (.int (nI j))]) (st' := [.int ((1 : Int32) <<< ((nI q) &&& 31)), .int (nI j)]) (h' := (shT, fi, fl, fr)) rfl ?_
      rw [sh]
      refine gp_of (fun _ k9 => g_icf rfl (show ¬ (z ≤ (nI j)) from lt) k9) ?_
      refine gp_n 2 (j' := 16) (lv' := [some (.ref 13), some (.int vc), some (.int (nI q)), some (.int (nI st)), some (.long w), none, some (.int (nI j))]) (st' := [.ref 13, .long w]) (h' := (shT, fi, fl, fr)) rfl ?_
      refine gp_of (fun _ k9 => g_getR (q' := 27) rfl rfl (by decide) kS k9) ?_
      refine gp_n 3 (j' := 20) (lv' := [some (.ref 13), some (.int vc), some (.int (nI q)), some (.int (nI st)), some (.long w), none, some (.int (nI j))]) (st' := [.int ((nI st) + (nI j)), .ref 27, .long w]) (h' := (shT, fi, fl, fr)) rfl ?_
      refine gp_of (fun _ k9 => g_iald (k := st + j) (x := x) rfl rfl (ij) (by omega) (by decide) (sj) k9) ?_
      refine gp_of (fun _ k9 => g_iff rfl (show ¬ ((0 : Int32) ≤ x) from Int32.not_le.mpr e) k9) ?_
      refine gp_n 8 (j' := 9) (lv' := [some (.ref 13), some (.int vc), some (.int (nI q)), some (.int (nI st)), some (.long (w ||| ((1 : Int64) <<< ((nI j : Int32).toInt64 &&& 63)))), none, some (.int ((nI j) + 1))]) (st' := []) (h' := (shT, fi, fl, fr)) rfl ?_
      rw [nI_1]
      exact gp_done g rfl
    · have z0 : (0 : Int64) <<< ((nI j : Int32).toInt64 &&& 63) = 0 := bl_ext (fun t ht => by
        rw [bl_shl j (by omega) 0 ht, bl_0 t ht]
        by_cases z : j ≤ t
        · rw [bl_0 (t - j) (by omega), Bool.and_false]
        · rw [decide_eq_false z, Bool.false_and])
      obtain ⟨w2, a1, a2⟩ := ih (j + 1) (w ||| ((0 : Int64) <<< ((nI j : Int32).toInt64 &&& 63))) (by omega) (fun t ht => by
        rw [bl_or, z0, bl_0 t ht, Bool.or_false, h1 t ht]
        by_cases z : t = j
        · subst z
          rw [decide_eq_false e, Bool.and_false, Bool.and_false]
        · congr 1
          exact decide_eq_decide.mpr (by omega))
      refine ⟨w2, a1, fun r k => ?_⟩
      have g := a2 r k
      clear ih h1 h2 a1 a2 z0
      generalize Sm j = x at *
      generalize nI (2 ^ q) = z at *
      refine go_of ?_
      refine gp_n 4 (j' := 13) (lv' := [some (.ref 13), some (.int vc), some (.int (nI q)), some (.int (nI st)), some (.long w), none, some (.int (nI j))]) (st' := [.int ((1 : Int32) <<< ((nI q) &&& 31)), .int (nI j)]) (h' := (shT, fi, fl, fr)) rfl ?_
      rw [sh]
      refine gp_of (fun _ k9 => g_icf rfl (show ¬ (z ≤ (nI j)) from lt) k9) ?_
      refine gp_n 2 (j' := 16) (lv' := [some (.ref 13), some (.int vc), some (.int (nI q)), some (.int (nI st)), some (.long w), none, some (.int (nI j))]) (st' := [.ref 13, .long w]) (h' := (shT, fi, fl, fr)) rfl ?_
      refine gp_of (fun _ k9 => g_getR (q' := 27) rfl rfl (by decide) kS k9) ?_
      refine gp_n 3 (j' := 20) (lv' := [some (.ref 13), some (.int vc), some (.int (nI q)), some (.int (nI st)), some (.long w), none, some (.int (nI j))]) (st' := [.int ((nI st) + (nI j)), .ref 27, .long w]) (h' := (shT, fi, fl, fr)) rfl ?_
      refine gp_of (fun _ k9 => g_iald (k := st + j) (x := x) rfl rfl (ij) (by omega) (by decide) (sj) k9) ?_
      refine gp_of (fun _ k9 => g_ift rfl (show (0 : Int32) ≤ x from Int32.not_lt.mp e) k9) ?_
      refine gp_n 7 (j' := 9) (lv' := [some (.ref 13), some (.int vc), some (.int (nI q)), some (.int (nI st)), some (.long (w ||| ((0 : Int64) <<< ((nI j : Int32).toInt64 &&& 63)))), none, some (.int ((nI j) + 1))]) (st' := []) (h' := (shT, fi, fl, fr)) rfl ?_
      rw [nI_1]
      exact gp_done g rfl
/-- a node of which all is free and sure -/
theorem tk_ev_18 {h : PmH} {m c q : Nat} {S : Nat → Int32} {x : RSt} {B : Int64} (hI : HI hdT shT h) (hx : rdI 18 x h) (hw : rwI 18 m S x c q h) (hP : x.1 = 1) (hm : m ≤ 6) (hq : q ≤ m) (hc : c < 64) (hcq : c % 2 ^ q = 0) (hB : ∀ t, t < 64 → bl B t = (bl (x.2.1 0) t || (decide (c ≤ t) && bfN 0 q (fun j => decide (j < 2 ^ q) && decide (ndL m S (bl (x.2.1 0)) c q j < 0)) (t - c)))) (hBl : ∀ t, t < c → bl B t = bl (x.2.1 0) t) : ∃ h', Ev pmT 93 [.ref 13, .int (nI c), .int (nI q)] h none h' ∧ rdI 18 (1, (fun _ => B), fun _ => x.2.2 0) h' ∧ rwI 18 m S (1, (fun _ => B), fun _ => x.2.2 0) c q h' := by
  obtain ⟨x1, x2, x3, x4⟩ := hx
  have k1 : ph_r h 18 1 = some 19 := hi_r hI rfl rfl (by decide)
  have k3 : ph_r h 18 3 = some 21 := hi_r hI rfl rfl (by decide)
  have kS : ph_r h 13 9 = some 27 := hi_r hI rfl rfl (by decide)
  obtain ⟨S0, fi, fl, fr⟩ := h
  have hS0 : S0 = shT := hI.1
  subst hS0
  obtain ⟨r, r1, r2, r3⟩ := hw q (Nat.le_refl _) hq 0 (by omega)
  have t3 := ixS_top (l := q) (r := r) (by omega) r1
  have ps := ps_ev_18 (l := q) (p := 0) (fi := fi) (fl := fl) (by omega) (by omega) r1 x1 k3 r2
  obtain ⟨w, w1, w2⟩ := tk_go_18 (q := q) (st := ixS q r) (vc := nI c) (Sm := fun t => ndL m S (bl (x.2.1 0)) c q t) (fi := fi) (fl := fl) (by omega) (by omega) kS r3 (2 ^ q) 0 0 (by omega) (fun t ht => by rw [bl_0 t ht, decide_eq_false (Nat.not_lt_zero t), Bool.false_and])
  obtain ⟨y, y1, y2⟩ := bf_ev (m := q) (by omega) (h := (shT, fi, fl, fr)) (x := w)
  have yb : x.2.1 0 ||| (y <<< ((nI c : Int32).toInt64 &&& 63)) = B := bl_ext (fun t ht => by
    rw [bl_or, bl_shl c hc y ht, hB t ht]
    by_cases z : c ≤ t
    · rw [y2 (t - c) (by omega), bfN_cg q 0 (by omega) (fun i hi => w1 i hi) (t - c) (by omega)]
    · rw [decide_eq_false z, Bool.false_and, Bool.false_and])
  have b0 := (x4 0 (by omega)).1
  refine ⟨(shT, fi, pm_u2 fl 19 0 B, fr), ?_, ⟨x1, x2, x3.trans (by rw [hP]), fun p hp => ?_⟩, fun l l1 l2 p hp => ?_⟩
  · have b0 : fl 19 0 = x.2.1 0 := b0
    clear y2 w1 r3 x4 hw hB hBl
    generalize x.2.1 0 = B0 at *
    generalize ixS q r = st at *
    generalize nI (2 ^ q) = z at *
    have ps : Ev pmT 88 [.ref 13, .int (nI q), .int 0] (shT, fi, fl, fr) (some (.int (nI st))) (shT, fi, fl, fr) := ps
    have g := w2 (none, (shT, fi, pm_u2 fl 19 0 B, fr)) (by
      refine go_of ?_
      refine gp_n 1 (j' := 32) (lv' := [some (.ref 13), some (.int (nI c)), some (.int (nI q)), some (.int (nI st)), some (.long w), none, some (.int z)]) (st' := [.ref 13]) (h' := (shT, fi, fl, fr)) rfl ?_
      refine gp_of (fun _ k9 => g_getR (q' := 18) rfl rfl (by decide) x1 k9) ?_
      refine gp_of (fun _ k9 => g_getR (q' := 19) rfl rfl (by decide) k1 k9) ?_
      refine gp_n 2 (j' := 36) (lv' := [some (.ref 13), some (.int (nI c)), some (.int (nI q)), some (.int (nI st)), some (.long w), none, some (.int z)]) (st' := [.int 0, .ref 19, .int 0, .ref 19]) (h' := (shT, fi, fl, fr)) rfl ?_
      refine gp_of (fun _ k9 => g_lald (k := 0) (x := B0) rfl rfl (rfl) (by decide) (by decide) (b0) k9) ?_
      refine gp_n 2 (j' := 39) (lv' := [some (.ref 13), some (.int (nI c)), some (.int (nI q)), some (.int (nI st)), some (.long w), none, some (.int z)]) (st' := [.int (nI q), .long w, .long B0, .int 0, .ref 19]) (h' := (shT, fi, fl, fr)) rfl ?_
      refine gp_of (fun _ k9 => g_call (y := 62) (as := [.long w, .int (nI q)]) (st' := [.long B0, .int 0, .ref 19]) rfl rfl (y1) k9) ?_
      refine gp_n 3 (j' := 43) (lv' := [some (.ref 13), some (.int (nI c)), some (.int (nI q)), some (.int (nI st)), some (.long w), none, some (.int z)]) (st' := [.long (B0 ||| (y <<< ((nI c : Int32).toInt64 &&& 63))), .int 0, .ref 19]) (h' := (shT, fi, fl, fr)) rfl ?_
      rw [yb]
      refine gp_of (fun _ k9 => g_last (k := 0) rfl rfl (rfl) (by decide) (by decide) k9) ?_
      refine gp_done (g_vret rfl) ?_
      rfl)
    refine Ev.of (es := cd_93) (ml := 7) (lv := [some (.ref 13), some (.int (nI c)), some (.int (nI q)), none, none, none, none]) rfl rfl rfl ?_
    refine go_of ?_
    refine gp_n 3 (j' := 3) (lv' := [some (.ref 13), some (.int (nI c)), some (.int (nI q)), none, none, none, none]) (st' := [.int 0, .int (nI q), .ref 13]) (h' := (shT, fi, fl, fr)) rfl ?_
    refine gp_of (fun _ k9 => g_call (y := 88) (as := [.ref 13, .int (nI q), .int 0]) (st' := []) rfl rfl (ps) k9) ?_
    refine gp_n 5 (j' := 9) (lv' := [some (.ref 13), some (.int (nI c)), some (.int (nI q)), some (.int (nI st)), some (.long 0), none, some (.int (nI 0))]) (st' := []) (h' := (shT, fi, fl, fr)) rfl ?_
    exact gp_done g rfl
  · have hp : p = 0 := by have hp : p < 1 := hp; omega
    subst hp
    exact ⟨show pm_u2 fl 19 0 B 19 0 = B from u2_eq, (x4 0 (by omega)).2⟩
  · have hp : p = 0 := by have hp : p < 1 := hp; omega
    subst hp
    obtain ⟨r', q1, q2, q3⟩ := hw l l1 l2 0 (by omega)
    refine ⟨r', q1, q2, fun j hj => (q3 j hj).trans ?_⟩
    have : ndL m S (bl (x.2.1 0)) c l = ndL m S (bl B) c l := ndL_cg (m - l) l (by omega) rfl (fun t ht => (hBl t (by have := Nat.div_mul_le_self c (2 ^ l); omega)).symm)
    rw [this]
