def rwN (m i : Nat) : Nat := cntP (bfN 0 m (fun t => decide (t = i))) 64
theorem rw_pc {m i : Nat} (hm : m ≤ 6) (hi : i < 64) {y : Int64} (hy : ∀ j, j < 64 → bl y j = bfN 0 m (bl (bitAt i)) j) : popc y = rwN m i := by
  unfold popc rwN
  rw [cntb_P]
  exact cntP_cg 64 (fun j hj => (hy j hj).trans (bfN_cg m 0 (by omega) (fun t ht => bitAt_bl hi ht) j hj))
theorem bfN_top {N : Nat} : ∀ (n l : Nat) {f : Nat → Bool}, (∀ i, N ≤ i → f i = false) → ∀ i, N ≤ i → bfN l n f i = false
  | 0, _, _, h => h
  | n + 1, l, _, h => bfN_top n (l + 1) (bfl_top h)
theorem rw_le {m i : Nat} (hm : m ≤ 6) (hi : i < 2 ^ m) : rwN m i ≤ 2 ^ m := by
  have p6 := pw_6 m (by omega)
  have t := cntP_tp (P := bfN 0 m (fun t => decide (t = i))) (N := 2 ^ m) (64 - 2 ^ m) (fun j h1 _ => bfN_top m 0 (N := 2 ^ m) (fun t ht => decide_eq_false (by omega)) j h1)
  rw [show 2 ^ m + (64 - 2 ^ m) = 64 by omega] at t
  unfold rwN
  rw [t]
  exact cntP_le _ _
theorem rw_C {h : PmH} {m i : Nat} (hI : HI hdT shT h) (hm : m ≤ 6) (c0 : ph_i h 1 0 = nI m) (hi : i < 64) : Ev pmT 67 [.ref 0, .int (nI i)] h (some (.int (nI (rwN m i)))) h := by
  have k0 : ph_r h 0 0 = some 1 := hi_r hI rfl rfl (by decide)
  obtain ⟨y, e1, e2⟩ := bf_ev hm (h := h) (x := bitAt i)
  have bc := bc_ev (x := y) (h := h)
  rw [bc_ok, rw_pc hm hi e2] at bc
  clear e2
  generalize rwN m i = q at *
  unfold bitAt at e1
  refine Ev.of (es := cd_67) (ml := 2) (lv := [some (.ref 0), some (.int (nI i))]) rfl rfl rfl ?_
  obtain ⟨S, fi, fl, fr⟩ := h
  have hS : S = shT := hI.1
  subst hS
  have k0 : fr 0 0 = some 1 := k0
  have c0 : fi 1 0 = nI m := c0
  refine go_of ?_
  refine gp_n 4 (j' := 4) (lv' := [some (.ref 0), some (.int (nI i))]) (st' := [.ref 0, .long ((1 : Int64) <<< ((nI i : Int32).toInt64 &&& 63))]) (h' := (shT, fi, fl, fr)) rfl ?_
  refine gp_of (fun _ k9 => g_getR (q' := 1) rfl rfl (by decide) k0 k9) ?_
  refine gp_of (fun _ k9 => g_getI (x := nI m) rfl (Or.inl rfl) rfl (by decide) (c0) k9) ?_
  refine gp_of (fun _ k9 => g_call (y := 62) (as := [.long ((1 : Int64) <<< ((nI i : Int32).toInt64 &&& 63)), .int (nI m)]) (st' := []) rfl rfl (e1) k9) ?_
  refine gp_of (fun _ k9 => g_call (y := 43) (as := [.long y]) (st' := []) rfl rfl (bc) k9) ?_
  refine gp_done (g_ret rfl) ?_
  rfl
theorem rw_M {h : PmH} {m i : Nat} (hm : m ≤ 6) (hi : i < 2 ^ m) : ∃ y, Ev pmT 175 [.long (1 <<< ((nI i : Int32).toInt64 &&& 63)), .int (nI (2 ^ m))] h (some (.long y)) h ∧ Ev pmT 160 [.long y] h (some (.int (nI (rwN m i)))) h := by
  have p6 := pw_6 m (by omega)
  obtain ⟨y, e1, e2⟩ := bm_ev2 hm (h := h) (x := bitAt i) (fun j hj => by
    by_cases h64 : j < 64
    · rw [bitAt_bl (by omega) h64]
      exact decide_eq_false (by omega)
    · exact bl_64 _ (by omega))
  have so := so_ev (K := y) (h := h)
  rw [rw_pc hm (by omega) e2] at so
  exact ⟨y, e1, so⟩
def lsC (K : Int64) (m : Nat) : Nat → Int32
  | 0 => -1
  | j + 1 => if bl K j = true then (if lsC K m j = -1 then nI (rwN m j) else if nI (rwN m j) < lsC K m j then nI (rwN m j) else lsC K m j) else lsC K m j
def lsW (K : Int64) (m N j : Nat) : Int32 := if bl K j = true then nI (rwN m j) else nI N
theorem lsW_0 {K : Int64} {m N j : Nat} (h : bl K j = false) : lsW K m N j = nI N := by
  unfold lsW
  rw [h, if_neg (by decide)]
theorem lsW_1 {K : Int64} {m N j : Nat} (h : bl K j = true) : lsW K m N j = nI (rwN m j) := by
  unfold lsW
  rw [h, if_pos rfl]
def lsM (K : Int64) (m N : Nat) : Nat → Int32
  | 0 => nI N
  | j + 1 => if lsW K m N j < lsM K m N j then lsW K m N j else lsM K m N j
theorem ls_inv {K : Int64} {m : Nat} (hm : m ≤ 6) : ∀ j, j ≤ 2 ^ m → (cntb K j = 0 ∧ lsC K m j = -1 ∧ lsM K m (2 ^ m) j = nI (2 ^ m)) ∨ (∃ q, q ≤ 2 ^ m ∧ lsC K m j = nI q ∧ lsM K m (2 ^ m) j = nI q)
  | 0, _ => Or.inl ⟨rfl, rfl, rfl⟩
  | j + 1, hj => by
    have p6 := pw_6 m (by omega)
    have ih := ls_inv (K := K) hm j (by omega)
    have hr := rw_le hm (i := j) (by omega)
    have e1 : cntb K (j + 1) = cntb K j + (if bl K j = true then 1 else 0) := rfl
    have w0 := lsW_0 (K := K) (m := m) (N := 2 ^ m) (j := j)
    have w1 := lsW_1 (K := K) (m := m) (N := 2 ^ m) (j := j)
    rw [e1, lsC, lsM]
    generalize rwN m j = r at *
    generalize 2 ^ m = N at *
    cases hb : bl K j
    · rw [if_neg (by decide), if_neg (by decide), w0 hb]
      rcases ih with ⟨a1, a2, a3⟩ | ⟨q, q1, q2, q3⟩
      · rw [a1, a2, a3, if_neg (nI_nlt (Nat.le_refl N) (by omega))]
        exact Or.inl ⟨rfl, rfl, rfl⟩
      · rw [q2, q3, if_neg (nI_nlt q1 (by omega))]
        exact Or.inr ⟨q, q1, rfl, rfl⟩
    · rw [if_pos rfl, if_pos rfl, w1 hb]
      rcases ih with ⟨a1, a2, a3⟩ | ⟨q, q1, q2, q3⟩
      · rw [a2, a3, if_pos rfl]
        by_cases hl : r < N
        · rw [if_pos (nI_lt hl (by omega))]
          exact Or.inr ⟨r, hr, rfl, rfl⟩
        · rw [if_neg (nI_nlt (by omega) (by omega))]
          exact Or.inr ⟨r, hr, rfl, by rw [show r = N by omega]⟩
      · have hq : ¬ nI q = (-1 : Int32) := fun z => by
          have := congrArg Int32.toInt z
          rw [nI_toInt (by omega), show (-1 : Int32).toInt = -1 from rfl] at this
          omega
        rw [q2, q3, if_neg hq]
        by_cases hl : r < q
        · rw [if_pos (nI_lt hl (by omega))]
          exact Or.inr ⟨r, hr, rfl, rfl⟩
        · rw [if_neg (nI_nlt (by omega) (by omega))]
          exact Or.inr ⟨q, q1, rfl, rfl⟩
theorem ls_go {m N : Nat} {K : Int64} {h : PmH} (hI : HI hdT shT h) (hm : m ≤ 6) (hN : N ≤ 64) (c0 : ph_i h 1 0 = nI m) (c1 : ph_i h 1 1 = nI N) (c7 : ph_l h 1 7 = K) : ∀ (n j : Nat), j + n = N → Go pmT none cd_66 4 [some (.ref 0), some (.int (lsC K m j)), some (.int (nI j))] [] h (some (.int (lsC K m N)), h) := by
  have k0 : ph_r h 0 0 = some 1 := hi_r hI rfl rfl (by decide)
  intro n
  induction n with
  | zero =>
    intro j hj
    have hj : j = N := by omega
    subst hj
    generalize lsC K m j = q
    obtain ⟨S, fi, fl, fr⟩ := h
    have hS : S = shT := hI.1
    subst hS
    have k0 : fr 0 0 = some 1 := k0
    have c1 : fi 1 1 = nI j := c1
    refine go_of ?_
    refine gp_n 2 (j' := 6) (lv' := [some (.ref 0), some (.int q), some (.int (nI j))]) (st' := [.ref 0, .int (nI j)]) (h' := (shT, fi, fl, fr)) rfl ?_
    refine gp_of (fun _ k9 => g_getR (q' := 1) rfl rfl (by decide) k0 k9) ?_
    refine gp_of (fun _ k9 => g_getI (x := nI j) rfl (Or.inl rfl) rfl (by decide) (c1) k9) ?_
    refine gp_of (fun _ k9 => g_ict rfl (show (nI j) ≤ (nI j) from Int32.le_refl _) k9) ?_
    refine gp_n 1 (j' := 29) (lv' := [some (.ref 0), some (.int q), some (.int (nI j))]) (st' := [.int q]) (h' := (shT, fi, fl, fr)) rfl ?_
    refine gp_done (g_ret rfl) ?_
    rfl
  | succ n ih =>
    intro j hj
    have g := ih (j + 1) (by omega)
    rw [lsC] at g
    have kp := kp_ev_1 hI c7 (i := j) (by omega)
    have rw1 := rw_C hI hm c0 (i := j) (by omega)
    generalize lsC K m j = q at *
    generalize rwN m j = r at *
    obtain ⟨S, fi, fl, fr⟩ := h
    have hS : S = shT := hI.1
    subst hS
    have k0 : fr 0 0 = some 1 := k0
    have c1 : fi 1 1 = nI N := c1
    cases hb : bl K j
    · rw [hb] at kp g
      have kp : Ev pmT 47 [.ref 1, .int (nI j)] (shT, fi, fl, fr) (some (.int 0)) (shT, fi, fl, fr) := kp
      rw [if_neg (by decide)] at g
      refine go_of ?_
      refine gp_n 2 (j' := 6) (lv' := [some (.ref 0), some (.int q), some (.int (nI j))]) (st' := [.ref 0, .int (nI j)]) (h' := (shT, fi, fl, fr)) rfl ?_
      refine gp_of (fun _ k9 => g_getR (q' := 1) rfl rfl (by decide) k0 k9) ?_
      refine gp_of (fun _ k9 => g_getI (x := nI N) rfl (Or.inl rfl) rfl (by decide) (c1) k9) ?_
      refine gp_of (fun _ k9 => g_icf rfl (show ¬ ((nI N) ≤ (nI j)) from nI_ge (by omega) (by omega)) k9) ?_
      refine gp_n 1 (j' := 10) (lv' := [some (.ref 0), some (.int q), some (.int (nI j))]) (st' := [.ref 0]) (h' := (shT, fi, fl, fr)) rfl ?_
      refine gp_of (fun _ k9 => g_getR (q' := 1) rfl rfl (by decide) k0 k9) ?_
      refine gp_n 1 (j' := 12) (lv' := [some (.ref 0), some (.int q), some (.int (nI j))]) (st' := [.int (nI j), .ref 1]) (h' := (shT, fi, fl, fr)) rfl ?_
      refine gp_of (fun _ k9 => g_call (y := 47) (as := [.ref 1, .int (nI j)]) (st' := []) rfl rfl (kp) k9) ?_
      refine gp_of (fun _ k9 => g_ift rfl (show (0 : Int32) = (0 : Int32) from by decide) k9) ?_
      refine gp_n 2 (j' := 4) (lv' := [some (.ref 0), some (.int q), some (.int ((nI j) + 1))]) (st' := []) (h' := (shT, fi, fl, fr)) rfl ?_
      rw [nI_1]
      exact gp_done g rfl
    · rw [hb] at kp g
      have kp : Ev pmT 47 [.ref 1, .int (nI j)] (shT, fi, fl, fr) (some (.int 1)) (shT, fi, fl, fr) := kp
      rw [if_pos rfl] at g
      by_cases h1 : q = -1
      · rw [if_pos h1] at g
        refine go_of ?_
        refine gp_n 2 (j' := 6) (lv' := [some (.ref 0), some (.int q), some (.int (nI j))]) (st' := [.ref 0, .int (nI j)]) (h' := (shT, fi, fl, fr)) rfl ?_
        refine gp_of (fun _ k9 => g_getR (q' := 1) rfl rfl (by decide) k0 k9) ?_
        refine gp_of (fun _ k9 => g_getI (x := nI N) rfl (Or.inl rfl) rfl (by decide) (c1) k9) ?_
        refine gp_of (fun _ k9 => g_icf rfl (show ¬ ((nI N) ≤ (nI j)) from nI_ge (by omega) (by omega)) k9) ?_
        refine gp_n 1 (j' := 10) (lv' := [some (.ref 0), some (.int q), some (.int (nI j))]) (st' := [.ref 0]) (h' := (shT, fi, fl, fr)) rfl ?_
        refine gp_of (fun _ k9 => g_getR (q' := 1) rfl rfl (by decide) k0 k9) ?_
        refine gp_n 1 (j' := 12) (lv' := [some (.ref 0), some (.int q), some (.int (nI j))]) (st' := [.int (nI j), .ref 1]) (h' := (shT, fi, fl, fr)) rfl ?_
        refine gp_of (fun _ k9 => g_call (y := 47) (as := [.ref 1, .int (nI j)]) (st' := []) rfl rfl (kp) k9) ?_
        refine gp_of (fun _ k9 => g_iff rfl (show ¬ ((1 : Int32) = (0 : Int32)) from by decide) k9) ?_
        refine gp_n 2 (j' := 16) (lv' := [some (.ref 0), some (.int q), some (.int (nI j))]) (st' := [.int (-1), .int q]) (h' := (shT, fi, fl, fr)) rfl ?_
        refine gp_of (fun _ k9 => g_ict rfl (show q = ((-1) : Int32) from h1) k9) ?_
        refine gp_n 2 (j' := 24) (lv' := [some (.ref 0), some (.int q), some (.int (nI j))]) (st' := [.int (nI j), .ref 0]) (h' := (shT, fi, fl, fr)) rfl ?_
        refine gp_of (fun _ k9 => g_call (y := 67) (as := [.ref 0, .int (nI j)]) (st' := []) rfl rfl (rw1) k9) ?_
        refine gp_n 3 (j' := 4) (lv' := [some (.ref 0), some (.int (nI r)), some (.int ((nI j) + 1))]) (st' := []) (h' := (shT, fi, fl, fr)) rfl ?_
        rw [nI_1]
        exact gp_done g rfl
      · rw [if_neg h1] at g
        by_cases h2 : nI r < q
        · rw [if_pos h2] at g
          refine go_of ?_
          refine gp_n 2 (j' := 6) (lv' := [some (.ref 0), some (.int q), some (.int (nI j))]) (st' := [.ref 0, .int (nI j)]) (h' := (shT, fi, fl, fr)) rfl ?_
          refine gp_of (fun _ k9 => g_getR (q' := 1) rfl rfl (by decide) k0 k9) ?_
          refine gp_of (fun _ k9 => g_getI (x := nI N) rfl (Or.inl rfl) rfl (by decide) (c1) k9) ?_
          refine gp_of (fun _ k9 => g_icf rfl (show ¬ ((nI N) ≤ (nI j)) from nI_ge (by omega) (by omega)) k9) ?_
          refine gp_n 1 (j' := 10) (lv' := [some (.ref 0), some (.int q), some (.int (nI j))]) (st' := [.ref 0]) (h' := (shT, fi, fl, fr)) rfl ?_
          refine gp_of (fun _ k9 => g_getR (q' := 1) rfl rfl (by decide) k0 k9) ?_
          refine gp_n 1 (j' := 12) (lv' := [some (.ref 0), some (.int q), some (.int (nI j))]) (st' := [.int (nI j), .ref 1]) (h' := (shT, fi, fl, fr)) rfl ?_
          refine gp_of (fun _ k9 => g_call (y := 47) (as := [.ref 1, .int (nI j)]) (st' := []) rfl rfl (kp) k9) ?_
          refine gp_of (fun _ k9 => g_iff rfl (show ¬ ((1 : Int32) = (0 : Int32)) from by decide) k9) ?_
          refine gp_n 2 (j' := 16) (lv' := [some (.ref 0), some (.int q), some (.int (nI j))]) (st' := [.int (-1), .int q]) (h' := (shT, fi, fl, fr)) rfl ?_
          refine gp_of (fun _ k9 => g_icf rfl (show ¬ (q = ((-1) : Int32)) from h1) k9) ?_
          refine gp_n 2 (j' := 19) (lv' := [some (.ref 0), some (.int q), some (.int (nI j))]) (st' := [.int (nI j), .ref 0]) (h' := (shT, fi, fl, fr)) rfl ?_
          refine gp_of (fun _ k9 => g_call (y := 67) (as := [.ref 0, .int (nI j)]) (st' := []) rfl rfl (rw1) k9) ?_
          refine gp_n 1 (j' := 21) (lv' := [some (.ref 0), some (.int q), some (.int (nI j))]) (st' := [.int q, .int (nI r)]) (h' := (shT, fi, fl, fr)) rfl ?_
          refine gp_of (fun _ k9 => g_icf rfl (show ¬ (q ≤ (nI r)) from Int32.not_le.mpr h2) k9) ?_
          refine gp_n 2 (j' := 24) (lv' := [some (.ref 0), some (.int q), some (.int (nI j))]) (st' := [.int (nI j), .ref 0]) (h' := (shT, fi, fl, fr)) rfl ?_
          refine gp_of (fun _ k9 => g_call (y := 67) (as := [.ref 0, .int (nI j)]) (st' := []) rfl rfl (rw1) k9) ?_
          refine gp_n 3 (j' := 4) (lv' := [some (.ref 0), some (.int (nI r)), some (.int ((nI j) + 1))]) (st' := []) (h' := (shT, fi, fl, fr)) rfl ?_
          rw [nI_1]
          exact gp_done g rfl
        · rw [if_neg h2] at g
          refine go_of ?_
          refine gp_n 2 (j' := 6) (lv' := [some (.ref 0), some (.int q), some (.int (nI j))]) (st' := [.ref 0, .int (nI j)]) (h' := (shT, fi, fl, fr)) rfl ?_
          refine gp_of (fun _ k9 => g_getR (q' := 1) rfl rfl (by decide) k0 k9) ?_
          refine gp_of (fun _ k9 => g_getI (x := nI N) rfl (Or.inl rfl) rfl (by decide) (c1) k9) ?_
          refine gp_of (fun _ k9 => g_icf rfl (show ¬ ((nI N) ≤ (nI j)) from nI_ge (by omega) (by omega)) k9) ?_
          refine gp_n 1 (j' := 10) (lv' := [some (.ref 0), some (.int q), some (.int (nI j))]) (st' := [.ref 0]) (h' := (shT, fi, fl, fr)) rfl ?_
          refine gp_of (fun _ k9 => g_getR (q' := 1) rfl rfl (by decide) k0 k9) ?_
          refine gp_n 1 (j' := 12) (lv' := [some (.ref 0), some (.int q), some (.int (nI j))]) (st' := [.int (nI j), .ref 1]) (h' := (shT, fi, fl, fr)) rfl ?_
          refine gp_of (fun _ k9 => g_call (y := 47) (as := [.ref 1, .int (nI j)]) (st' := []) rfl rfl (kp) k9) ?_
          refine gp_of (fun _ k9 => g_iff rfl (show ¬ ((1 : Int32) = (0 : Int32)) from by decide) k9) ?_
          refine gp_n 2 (j' := 16) (lv' := [some (.ref 0), some (.int q), some (.int (nI j))]) (st' := [.int (-1), .int q]) (h' := (shT, fi, fl, fr)) rfl ?_
          refine gp_of (fun _ k9 => g_icf rfl (show ¬ (q = ((-1) : Int32)) from h1) k9) ?_
          refine gp_n 2 (j' := 19) (lv' := [some (.ref 0), some (.int q), some (.int (nI j))]) (st' := [.int (nI j), .ref 0]) (h' := (shT, fi, fl, fr)) rfl ?_
          refine gp_of (fun _ k9 => g_call (y := 67) (as := [.ref 0, .int (nI j)]) (st' := []) rfl rfl (rw1) k9) ?_
          refine gp_n 1 (j' := 21) (lv' := [some (.ref 0), some (.int q), some (.int (nI j))]) (st' := [.int q, .int (nI r)]) (h' := (shT, fi, fl, fr)) rfl ?_
          refine gp_of (fun _ k9 => g_ict rfl (show q ≤ (nI r) from Int32.not_lt.mp h2) k9) ?_
          refine gp_n 2 (j' := 4) (lv' := [some (.ref 0), some (.int q), some (.int ((nI j) + 1))]) (st' := []) (h' := (shT, fi, fl, fr)) rfl ?_
          rw [nI_1]
          exact gp_done g rfl
theorem lm_go {m : Nat} {K : Int64} {h : PmH} (hI : HI hdT shT h) (hm : m ≤ 6) (c1 : ph_i h 70 14 = nI (2 ^ m)) (c7 : ph_l h 70 21 = K) : ∀ (n j : Nat) (l4 : Option Value), j + n = 2 ^ m → Go pmT none cd_179 27 [some (.ref 70), some (.int (-1)), some (.int (lsM K m (2 ^ m) j)), some (.int (nI j)), l4] [] h (some (.int (lsM K m (2 ^ m) (2 ^ m))), h) := by
  have p6 := pw_6 m (by omega)
  intro n
  induction n with
  | zero =>
    intro j l4 hj
    have hj : j = 2 ^ m := by omega
    rw [hj]
    generalize lsM K m (2 ^ m) (2 ^ m) = q
    generalize 2 ^ m = N at *
    obtain ⟨S, fi, fl, fr⟩ := h
    have hS : S = shT := hI.1
    subst hS
    have c1 : fi 70 14 = nI N := c1
    refine go_of ?_
    refine gp_n 2 (j' := 29) (lv' := [some (.ref 70), some (.int (-1)), some (.int q), some (.int (nI N)), l4]) (st' := [.ref 70, .int (nI N)]) (h' := (shT, fi, fl, fr)) rfl ?_
    refine gp_of (fun _ k9 => g_getI (x := nI N) rfl (Or.inl rfl) rfl (by decide) (c1) k9) ?_
    refine gp_of (fun _ k9 => g_ict rfl (show (nI N) ≤ (nI N) from Int32.le_refl _) k9) ?_
    refine gp_n 1 (j' := 57) (lv' := [some (.ref 70), some (.int (-1)), some (.int q), some (.int (nI N)), l4]) (st' := [.int q]) (h' := (shT, fi, fl, fr)) rfl ?_
    refine gp_done (g_ret rfl) ?_
    rfl
  | succ n ih =>
    intro j l4 hj
    have g := fun l4 => ih (j + 1) l4 (by omega)
    rw [lsM] at g
    have hs := has_ev (v := K) (i := nI j) (h := h)
    rw [hasf_bit (by omega)] at hs
    obtain ⟨y, y1, y2⟩ := rw_M (h := h) hm (i := j) (by omega)
    have w0 := lsW_0 (K := K) (m := m) (N := 2 ^ m) (j := j)
    have w1 := lsW_1 (K := K) (m := m) (N := 2 ^ m) (j := j)
    generalize lsM K m (2 ^ m) j = q at *
    generalize rwN m j = r at *
    generalize lsM K m (2 ^ m) (2 ^ m) = e at *
    generalize 2 ^ m = N at *
    obtain ⟨S, fi, fl, fr⟩ := h
    have hS : S = shT := hI.1
    subst hS
    have c1 : fi 70 14 = nI N := c1
    have c7 : fl 70 21 = K := c7
    cases hb : bl K j
    · rw [hb] at hs
      have hs : Ev pmT 161 [.long K, .int (nI j)] (shT, fi, fl, fr) (some (.int 0)) (shT, fi, fl, fr) := hs
      rw [w0 hb] at g
      by_cases h1 : nI N < q
      · rw [if_pos h1] at g
        refine go_of ?_
        refine gp_n 2 (j' := 29) (lv' := [some (.ref 70), some (.int (-1)), some (.int q), some (.int (nI j)), l4]) (st' := [.ref 70, .int (nI j)]) (h' := (shT, fi, fl, fr)) rfl ?_
        refine gp_of (fun _ k9 => g_getI (x := nI N) rfl (Or.inl rfl) rfl (by decide) (c1) k9) ?_
        refine gp_of (fun _ k9 => g_icf rfl (show ¬ ((nI N) ≤ (nI j)) from nI_ge (by omega) (by omega)) k9) ?_
        refine gp_n 1 (j' := 32) (lv' := [some (.ref 70), some (.int (-1)), some (.int q), some (.int (nI j)), l4]) (st' := [.ref 70]) (h' := (shT, fi, fl, fr)) rfl ?_
        refine gp_of (fun _ k9 => g_getL (x := K) rfl rfl (by decide) (c7) k9) ?_
        refine gp_n 1 (j' := 34) (lv' := [some (.ref 70), some (.int (-1)), some (.int q), some (.int (nI j)), l4]) (st' := [.int (nI j), .long K]) (h' := (shT, fi, fl, fr)) rfl ?_
        refine gp_of (fun _ k9 => g_call (y := 161) (as := [.long K, .int (nI j)]) (st' := []) rfl rfl (hs) k9) ?_
        refine gp_of (fun _ k9 => g_ift rfl (show (0 : Int32) = (0 : Int32) from by decide) k9) ?_
        refine gp_n 1 (j' := 45) (lv' := [some (.ref 70), some (.int (-1)), some (.int q), some (.int (nI j)), l4]) (st' := [.ref 70]) (h' := (shT, fi, fl, fr)) rfl ?_
        refine gp_of (fun _ k9 => g_getI (x := nI N) rfl (Or.inl rfl) rfl (by decide) (c1) k9) ?_
        refine gp_n 3 (j' := 49) (lv' := [some (.ref 70), some (.int (-1)), some (.int q), some (.int (nI j)), some (.int (nI N))]) (st' := [.int q, .int (nI N)]) (h' := (shT, fi, fl, fr)) rfl ?_
        refine gp_of (fun _ k9 => g_icf rfl (show ¬ (q ≤ (nI N)) from Int32.not_le.mpr h1) k9) ?_
        refine gp_n 5 (j' := 27) (lv' := [some (.ref 70), some (.int (-1)), some (.int (nI N)), some (.int ((nI j) + 1)), some (.int (nI N))]) (st' := []) (h' := (shT, fi, fl, fr)) rfl ?_
        rw [nI_1]
        exact gp_done (g _) rfl
      · rw [if_neg h1] at g
        refine go_of ?_
        refine gp_n 2 (j' := 29) (lv' := [some (.ref 70), some (.int (-1)), some (.int q), some (.int (nI j)), l4]) (st' := [.ref 70, .int (nI j)]) (h' := (shT, fi, fl, fr)) rfl ?_
        refine gp_of (fun _ k9 => g_getI (x := nI N) rfl (Or.inl rfl) rfl (by decide) (c1) k9) ?_
        refine gp_of (fun _ k9 => g_icf rfl (show ¬ ((nI N) ≤ (nI j)) from nI_ge (by omega) (by omega)) k9) ?_
        refine gp_n 1 (j' := 32) (lv' := [some (.ref 70), some (.int (-1)), some (.int q), some (.int (nI j)), l4]) (st' := [.ref 70]) (h' := (shT, fi, fl, fr)) rfl ?_
        refine gp_of (fun _ k9 => g_getL (x := K) rfl rfl (by decide) (c7) k9) ?_
        refine gp_n 1 (j' := 34) (lv' := [some (.ref 70), some (.int (-1)), some (.int q), some (.int (nI j)), l4]) (st' := [.int (nI j), .long K]) (h' := (shT, fi, fl, fr)) rfl ?_
        refine gp_of (fun _ k9 => g_call (y := 161) (as := [.long K, .int (nI j)]) (st' := []) rfl rfl (hs) k9) ?_
        refine gp_of (fun _ k9 => g_ift rfl (show (0 : Int32) = (0 : Int32) from by decide) k9) ?_
        refine gp_n 1 (j' := 45) (lv' := [some (.ref 70), some (.int (-1)), some (.int q), some (.int (nI j)), l4]) (st' := [.ref 70]) (h' := (shT, fi, fl, fr)) rfl ?_
        refine gp_of (fun _ k9 => g_getI (x := nI N) rfl (Or.inl rfl) rfl (by decide) (c1) k9) ?_
        refine gp_n 3 (j' := 49) (lv' := [some (.ref 70), some (.int (-1)), some (.int q), some (.int (nI j)), some (.int (nI N))]) (st' := [.int q, .int (nI N)]) (h' := (shT, fi, fl, fr)) rfl ?_
        refine gp_of (fun _ k9 => g_ict rfl (show q ≤ (nI N) from Int32.not_lt.mp h1) k9) ?_
        refine gp_n 4 (j' := 27) (lv' := [some (.ref 70), some (.int (-1)), some (.int q), some (.int ((nI j) + 1)), some (.int (nI N))]) (st' := []) (h' := (shT, fi, fl, fr)) rfl ?_
        rw [nI_1]
        exact gp_done (g _) rfl
    · rw [hb] at hs
      have hs : Ev pmT 161 [.long K, .int (nI j)] (shT, fi, fl, fr) (some (.int 1)) (shT, fi, fl, fr) := hs
      rw [w1 hb] at g
      by_cases h1 : nI r < q
      · rw [if_pos h1] at g
        refine go_of ?_
        refine gp_n 2 (j' := 29) (lv' := [some (.ref 70), some (.int (-1)), some (.int q), some (.int (nI j)), l4]) (st' := [.ref 70, .int (nI j)]) (h' := (shT, fi, fl, fr)) rfl ?_
        refine gp_of (fun _ k9 => g_getI (x := nI N) rfl (Or.inl rfl) rfl (by decide) (c1) k9) ?_
        refine gp_of (fun _ k9 => g_icf rfl (show ¬ ((nI N) ≤ (nI j)) from nI_ge (by omega) (by omega)) k9) ?_
        refine gp_n 1 (j' := 32) (lv' := [some (.ref 70), some (.int (-1)), some (.int q), some (.int (nI j)), l4]) (st' := [.ref 70]) (h' := (shT, fi, fl, fr)) rfl ?_
        refine gp_of (fun _ k9 => g_getL (x := K) rfl rfl (by decide) (c7) k9) ?_
        refine gp_n 1 (j' := 34) (lv' := [some (.ref 70), some (.int (-1)), some (.int q), some (.int (nI j)), l4]) (st' := [.int (nI j), .long K]) (h' := (shT, fi, fl, fr)) rfl ?_
        refine gp_of (fun _ k9 => g_call (y := 161) (as := [.long K, .int (nI j)]) (st' := []) rfl rfl (hs) k9) ?_
        refine gp_of (fun _ k9 => g_iff rfl (show ¬ ((1 : Int32) = (0 : Int32)) from by decide) k9) ?_
        refine gp_n 4 (j' := 40) (lv' := [some (.ref 70), some (.int (-1)), some (.int q), some (.int (nI j)), l4]) (st' := [.ref 70, .long ((1 : Int64) <<< ((nI j : Int32).toInt64 &&& 63))]) (h' := (shT, fi, fl, fr)) rfl ?_
        refine gp_of (fun _ k9 => g_getI (x := nI N) rfl (Or.inl rfl) rfl (by decide) (c1) k9) ?_
        refine gp_of (fun _ k9 => g_call (y := 175) (as := [.long ((1 : Int64) <<< ((nI j : Int32).toInt64 &&& 63)), .int (nI N)]) (st' := []) rfl rfl (y1) k9) ?_
        refine gp_of (fun _ k9 => g_call (y := 160) (as := [.long y]) (st' := []) rfl rfl (y2) k9) ?_
        refine gp_n 4 (j' := 49) (lv' := [some (.ref 70), some (.int (-1)), some (.int q), some (.int (nI j)), some (.int (nI r))]) (st' := [.int q, .int (nI r)]) (h' := (shT, fi, fl, fr)) rfl ?_
        refine gp_of (fun _ k9 => g_icf rfl (show ¬ (q ≤ (nI r)) from Int32.not_le.mpr h1) k9) ?_
        refine gp_n 5 (j' := 27) (lv' := [some (.ref 70), some (.int (-1)), some (.int (nI r)), some (.int ((nI j) + 1)), some (.int (nI r))]) (st' := []) (h' := (shT, fi, fl, fr)) rfl ?_
        rw [nI_1]
        exact gp_done (g _) rfl
      · rw [if_neg h1] at g
        refine go_of ?_
        refine gp_n 2 (j' := 29) (lv' := [some (.ref 70), some (.int (-1)), some (.int q), some (.int (nI j)), l4]) (st' := [.ref 70, .int (nI j)]) (h' := (shT, fi, fl, fr)) rfl ?_
        refine gp_of (fun _ k9 => g_getI (x := nI N) rfl (Or.inl rfl) rfl (by decide) (c1) k9) ?_
        refine gp_of (fun _ k9 => g_icf rfl (show ¬ ((nI N) ≤ (nI j)) from nI_ge (by omega) (by omega)) k9) ?_
        refine gp_n 1 (j' := 32) (lv' := [some (.ref 70), some (.int (-1)), some (.int q), some (.int (nI j)), l4]) (st' := [.ref 70]) (h' := (shT, fi, fl, fr)) rfl ?_
        refine gp_of (fun _ k9 => g_getL (x := K) rfl rfl (by decide) (c7) k9) ?_
        refine gp_n 1 (j' := 34) (lv' := [some (.ref 70), some (.int (-1)), some (.int q), some (.int (nI j)), l4]) (st' := [.int (nI j), .long K]) (h' := (shT, fi, fl, fr)) rfl ?_
        refine gp_of (fun _ k9 => g_call (y := 161) (as := [.long K, .int (nI j)]) (st' := []) rfl rfl (hs) k9) ?_
        refine gp_of (fun _ k9 => g_iff rfl (show ¬ ((1 : Int32) = (0 : Int32)) from by decide) k9) ?_
        refine gp_n 4 (j' := 40) (lv' := [some (.ref 70), some (.int (-1)), some (.int q), some (.int (nI j)), l4]) (st' := [.ref 70, .long ((1 : Int64) <<< ((nI j : Int32).toInt64 &&& 63))]) (h' := (shT, fi, fl, fr)) rfl ?_
        refine gp_of (fun _ k9 => g_getI (x := nI N) rfl (Or.inl rfl) rfl (by decide) (c1) k9) ?_
        refine gp_of (fun _ k9 => g_call (y := 175) (as := [.long ((1 : Int64) <<< ((nI j : Int32).toInt64 &&& 63)), .int (nI N)]) (st' := []) rfl rfl (y1) k9) ?_
        refine gp_of (fun _ k9 => g_call (y := 160) (as := [.long y]) (st' := []) rfl rfl (y2) k9) ?_
        refine gp_n 4 (j' := 49) (lv' := [some (.ref 70), some (.int (-1)), some (.int q), some (.int (nI j)), some (.int (nI r))]) (st' := [.int q, .int (nI r)]) (h' := (shT, fi, fl, fr)) rfl ?_
        refine gp_of (fun _ k9 => g_ict rfl (show q ≤ (nI r) from Int32.not_lt.mp h1) k9) ?_
        refine gp_n 4 (j' := 27) (lv' := [some (.ref 70), some (.int (-1)), some (.int q), some (.int ((nI j) + 1)), some (.int (nI r))]) (st' := []) (h' := (shT, fi, fl, fr)) rfl ?_
        rw [nI_1]
        exact gp_done (g _) rfl
theorem ro_C {h : PmH} {a : AB} {x : Int32} {m k c : Nat} (hI : HI hdT shT h) (hR : QC true h a) (hV : VK (a_v a) m k c) : Ev pmT 65 [.ref 0, .int x] h (some (.int (if x = -1 then lsC (a_v a).2.1 m (2 ^ m) else if 0 ≤ x ∧ x < (a_v a).1 1 then nI (rwN m x.toInt.toNat) else -1))) h := by
  have k0 : ph_r h 0 0 = some 1 := hi_r hI rfl rfl (by decide)
  have f := hR.2.2.2.2.1
  have p6 := pw_6 m (by have := hV.1; omega)
  have c0 : ph_i h 1 0 = nI m := (f.1 0 (by decide)).trans hV.2.2.1
  have c1 : ph_i h 1 1 = nI (2 ^ m) := (f.1 1 (by decide)).trans hV.2.2.2.1
  have c7 : ph_l h 1 7 = (a_v a).2.1 := (f.2 rfl).1
  have t1 := hch1 (x := x) hI (f.1 1 (by decide))
  have t0 := hch0 (x := x) hI (f.1 1 (by decide))
  have g := ls_go hI hV.1 p6.2 c0 c1 c7 (2 ^ m) 0 (by omega)
  have ev : Ev pmT 66 [.ref 0] h (some (.int (lsC (a_v a).2.1 m (2 ^ m)))) h := by
    refine Ev.of (es := cd_66) (ml := 3) (lv := [some (.ref 0), none, none]) rfl rfl rfl ?_
    refine go_of ?_
    refine gp_n 4 (j' := 4) (lv' := [some (.ref 0), some (.int (lsC (a_v a).2.1 m 0)), some (.int (nI 0))]) (st' := []) (h' := h) rfl ?_
    exact gp_done g rfl
  by_cases h1 : x = -1
  · subst h1
    rw [if_pos rfl]
    refine Ev.of (es := cd_65) (ml := 2) (lv := [some (.ref 0), some (.int (-1))]) rfl rfl rfl ?_
    generalize lsC (a_v a).2.1 m (2 ^ m) = q at *
    obtain ⟨S, fi, fl, fr⟩ := h
    have hS : S = shT := hI.1
    subst hS
    refine go_of ?_
    refine gp_n 2 (j' := 2) (lv' := [some (.ref 0), some (.int (-1))]) (st' := [.int (-1), .int (-1)]) (h' := (shT, fi, fl, fr)) rfl ?_
    refine gp_of (fun _ k9 => g_icf rfl (show ¬ (¬ ((-1) : Int32) = ((-1) : Int32)) from by decide) k9) ?_
    refine gp_n 1 (j' := 4) (lv' := [some (.ref 0), some (.int (-1))]) (st' := [.ref 0]) (h' := (shT, fi, fl, fr)) rfl ?_
    refine gp_of (fun _ k9 => g_call (y := 66) (as := [.ref 0]) (st' := []) rfl rfl (ev) k9) ?_
    refine gp_done (g_ret rfl) ?_
    rfl
  · rw [if_neg h1]
    by_cases hc : 0 ≤ x ∧ x < (a_v a).1 1
    · rw [if_pos hc]
      obtain ⟨b, b1, rfl, -⟩ := ix_of (n_le hI hR) hc
      have rw1 := rw_C hI hV.1 c0 b1
      rw [nI_toInt (by omega), Int.toNat_natCast]
      have t1 := t1 hc
      generalize rwN m b = r at *
      refine Ev.of (es := cd_65) (ml := 2) (lv := [some (.ref 0), some (.int (nI b))]) rfl rfl rfl ?_
      obtain ⟨S, fi, fl, fr⟩ := h
      have hS : S = shT := hI.1
      subst hS
      have k0 : fr 0 0 = some 1 := k0
      refine go_of ?_
      refine gp_n 2 (j' := 2) (lv' := [some (.ref 0), some (.int (nI b))]) (st' := [.int (-1), .int (nI b)]) (h' := (shT, fi, fl, fr)) rfl ?_
      refine gp_of (fun _ k9 => g_ict rfl (show ¬ (nI b) = ((-1) : Int32) from h1) k9) ?_
      refine gp_n 1 (j' := 7) (lv' := [some (.ref 0), some (.int (nI b))]) (st' := [.ref 0]) (h' := (shT, fi, fl, fr)) rfl ?_
      refine gp_of (fun _ k9 => g_getR (q' := 1) rfl rfl (by decide) k0 k9) ?_
      refine gp_n 1 (j' := 9) (lv' := [some (.ref 0), some (.int (nI b))]) (st' := [.int (nI b), .ref 1]) (h' := (shT, fi, fl, fr)) rfl ?_
      refine gp_of (fun _ k9 => g_call (y := 52) (as := [.ref 1, .int (nI b)]) (st' := []) rfl rfl (t1) k9) ?_
      refine gp_of (fun _ k9 => g_iff rfl (show ¬ ((1 : Int32) = (0 : Int32)) from by decide) k9) ?_
      refine gp_n 2 (j' := 13) (lv' := [some (.ref 0), some (.int (nI b))]) (st' := [.int (nI b), .ref 0]) (h' := (shT, fi, fl, fr)) rfl ?_
      refine gp_of (fun _ k9 => g_call (y := 67) (as := [.ref 0, .int (nI b)]) (st' := []) rfl rfl (rw1) k9) ?_
      refine gp_n 1 (j' := 16) (lv' := [some (.ref 0), some (.int (nI b))]) (st' := [.int (nI r)]) (h' := (shT, fi, fl, fr)) rfl ?_
      refine gp_done (g_ret rfl) ?_
      rfl
    · rw [if_neg hc]
      have t0 := t0 hc
      refine Ev.of (es := cd_65) (ml := 2) (lv := [some (.ref 0), some (.int x)]) rfl rfl rfl ?_
      obtain ⟨S, fi, fl, fr⟩ := h
      have hS : S = shT := hI.1
      subst hS
      have k0 : fr 0 0 = some 1 := k0
      refine go_of ?_
      refine gp_n 2 (j' := 2) (lv' := [some (.ref 0), some (.int x)]) (st' := [.int (-1), .int x]) (h' := (shT, fi, fl, fr)) rfl ?_
      refine gp_of (fun _ k9 => g_ict rfl (show ¬ x = ((-1) : Int32) from h1) k9) ?_
      refine gp_n 1 (j' := 7) (lv' := [some (.ref 0), some (.int x)]) (st' := [.ref 0]) (h' := (shT, fi, fl, fr)) rfl ?_
      refine gp_of (fun _ k9 => g_getR (q' := 1) rfl rfl (by decide) k0 k9) ?_
      refine gp_n 1 (j' := 9) (lv' := [some (.ref 0), some (.int x)]) (st' := [.int x, .ref 1]) (h' := (shT, fi, fl, fr)) rfl ?_
      refine gp_of (fun _ k9 => g_call (y := 52) (as := [.ref 1, .int x]) (st' := []) rfl rfl (t0) k9) ?_
      refine gp_of (fun _ k9 => g_ift rfl (show (0 : Int32) = (0 : Int32) from by decide) k9) ?_
      refine gp_n 1 (j' := 16) (lv' := [some (.ref 0), some (.int x)]) (st' := [.int (-1)]) (h' := (shT, fi, fl, fr)) rfl ?_
      refine gp_done (g_ret rfl) ?_
      rfl
theorem ro_M {h : PmH} {a : AB} {x : Int32} {m k c : Nat} (hI : HI hdT shT h) (hR : QM true h a) (hV : VK (a_v a) m k c) (hn : ∀ b, b < 64 → nI b < nI (2 ^ m) → b < 2 ^ m) : Ev pmT 179 [.ref 70, .int x] h (some (.int (if x = -1 then lsM (a_v a).2.1 m (2 ^ m) (2 ^ m) else if 0 ≤ x ∧ x < (a_v a).1 1 then nI (rwN m x.toInt.toNat) else -1))) h := by
  have f := hR.2.2.2.2.1
  have p6 := pw_6 m (by have := hV.1; omega)
  have c0 : ph_i h 70 14 = (a_v a).1 1 := f.1 0 (by decide)
  have c1 : ph_i h 70 14 = nI (2 ^ m) := c0.trans hV.2.2.2.1
  have c7 : ph_l h 70 21 = (a_v a).2.1 := (f.2 rfl).1
  have t1 := ich1 (x := x) hI c0
  have t0 := ich0 (x := x) hI c0
  have tt := isc1 hI c1 (nI_lt (a := 0) (by omega) (by omega))
  have g := lm_go hI hV.1 c1 c7 (2 ^ m) 0 none (by omega)
  by_cases h1 : x = -1
  · subst h1
    rw [if_pos rfl]
    refine Ev.of (es := cd_179) (ml := 5) (lv := [some (.ref 70), some (.int (-1)), none, none, none]) rfl rfl rfl ?_
    have g0 : lsM (a_v a).2.1 m (2 ^ m) 0 = nI (2 ^ m) := rfl
    rw [g0] at g
    generalize lsM (a_v a).2.1 m (2 ^ m) (2 ^ m) = q at *
    generalize 2 ^ m = N at *
    obtain ⟨S, fi, fl, fr⟩ := h
    have hS : S = shT := hI.1
    subst hS
    have c1 : fi 70 14 = nI N := c1
    refine go_of ?_
    refine gp_n 2 (j' := 2) (lv' := [some (.ref 70), some (.int (-1)), none, none, none]) (st' := [.int (-1), .int (-1)]) (h' := (shT, fi, fl, fr)) rfl ?_
    refine gp_of (fun _ k9 => g_ict rfl (show ((-1) : Int32) = ((-1) : Int32) from by decide) k9) ?_
    refine gp_n 1 (j' := 18) (lv' := [some (.ref 70), some (.int (-1)), none, none, none]) (st' := [.ref 70]) (h' := (shT, fi, fl, fr)) rfl ?_
    refine gp_of (fun _ k9 => g_call (y := 172) (as := [.ref 70]) (st' := []) rfl rfl (tt) k9) ?_
    refine gp_of (fun _ k9 => g_ift rfl (show ¬ (1 : Int32) = (0 : Int32) from by decide) k9) ?_
    refine gp_n 1 (j' := 23) (lv' := [some (.ref 70), some (.int (-1)), none, none, none]) (st' := [.ref 70]) (h' := (shT, fi, fl, fr)) rfl ?_
    refine gp_of (fun _ k9 => g_getI (x := nI N) rfl (Or.inl rfl) rfl (by decide) (c1) k9) ?_
    refine gp_n 3 (j' := 27) (lv' := [some (.ref 70), some (.int (-1)), some (.int (nI N)), some (.int (nI 0)), none]) (st' := []) (h' := (shT, fi, fl, fr)) rfl ?_
    exact gp_done g rfl
  · rw [if_neg h1]
    by_cases hc : 0 ≤ x ∧ x < (a_v a).1 1
    · rw [if_pos hc]
      have hc2 := hc
      rw [hV.2.2.2.1] at hc2
      obtain ⟨b, b1, rfl, -⟩ := ix_of (n := nI (2 ^ m)) ⟨by rw [nI_toInt (by omega)]; omega, by rw [nI_toInt (by omega)]; omega⟩ hc2
      obtain ⟨y, y1, y2⟩ := rw_M (h := h) hV.1 (i := b) (hn b b1 hc2.2)
      rw [nI_toInt (by omega), Int.toNat_natCast]
      have t1 := t1 hc
      generalize rwN m b = r at *
      generalize 2 ^ m = N at *
      refine Ev.of (es := cd_179) (ml := 5) (lv := [some (.ref 70), some (.int (nI b)), none, none, none]) rfl rfl rfl ?_
      obtain ⟨S, fi, fl, fr⟩ := h
      have hS : S = shT := hI.1
      subst hS
      have c1 : fi 70 14 = nI N := c1
      refine go_of ?_
      refine gp_n 2 (j' := 2) (lv' := [some (.ref 70), some (.int (nI b)), none, none, none]) (st' := [.int (-1), .int (nI b)]) (h' := (shT, fi, fl, fr)) rfl ?_
      refine gp_of (fun _ k9 => g_icf rfl (show ¬ ((nI b) = ((-1) : Int32)) from h1) k9) ?_
      refine gp_n 2 (j' := 5) (lv' := [some (.ref 70), some (.int (nI b)), none, none, none]) (st' := [.int (nI b), .ref 70]) (h' := (shT, fi, fl, fr)) rfl ?_
      refine gp_of (fun _ k9 => g_call (y := 168) (as := [.ref 70, .int (nI b)]) (st' := []) rfl rfl (t1) k9) ?_
      refine gp_of (fun _ k9 => g_iff rfl (show ¬ ((1 : Int32) = (0 : Int32)) from by decide) k9) ?_
      refine gp_n 4 (j' := 11) (lv' := [some (.ref 70), some (.int (nI b)), none, none, none]) (st' := [.ref 70, .long ((1 : Int64) <<< ((nI b : Int32).toInt64 &&& 63))]) (h' := (shT, fi, fl, fr)) rfl ?_
      refine gp_of (fun _ k9 => g_getI (x := nI N) rfl (Or.inl rfl) rfl (by decide) (c1) k9) ?_
      refine gp_of (fun _ k9 => g_call (y := 175) (as := [.long ((1 : Int64) <<< ((nI b : Int32).toInt64 &&& 63)), .int (nI N)]) (st' := []) rfl rfl (y1) k9) ?_
      refine gp_of (fun _ k9 => g_call (y := 160) (as := [.long y]) (st' := []) rfl rfl (y2) k9) ?_
      refine gp_n 1 (j' := 16) (lv' := [some (.ref 70), some (.int (nI b)), none, none, none]) (st' := [.int (nI r)]) (h' := (shT, fi, fl, fr)) rfl ?_
      refine gp_done (g_ret rfl) ?_
      rfl
    · rw [if_neg hc]
      have t0 := t0 hc
      refine Ev.of (es := cd_179) (ml := 5) (lv := [some (.ref 70), some (.int x), none, none, none]) rfl rfl rfl ?_
      obtain ⟨S, fi, fl, fr⟩ := h
      have hS : S = shT := hI.1
      subst hS
      refine go_of ?_
      refine gp_n 2 (j' := 2) (lv' := [some (.ref 70), some (.int x), none, none, none]) (st' := [.int (-1), .int x]) (h' := (shT, fi, fl, fr)) rfl ?_
      refine gp_of (fun _ k9 => g_icf rfl (show ¬ (x = ((-1) : Int32)) from h1) k9) ?_
      refine gp_n 2 (j' := 5) (lv' := [some (.ref 70), some (.int x), none, none, none]) (st' := [.int x, .ref 70]) (h' := (shT, fi, fl, fr)) rfl ?_
      refine gp_of (fun _ k9 => g_call (y := 168) (as := [.ref 70, .int x]) (st' := []) rfl rfl (t0) k9) ?_
      refine gp_of (fun _ k9 => g_ift rfl (show (0 : Int32) = (0 : Int32) from by decide) k9) ?_
      refine gp_n 1 (j' := 16) (lv' := [some (.ref 70), some (.int x), none, none, none]) (st' := [.int (-1)]) (h' := (shT, fi, fl, fr)) rfl ?_
      refine gp_done (g_ret rfl) ?_
      rfl
theorem ro_C0 {h : PmH} {a : AB} {x : Int32} (hI : HI hdT shT h) (hR : QC true h a) (hV : ¬ 0 < (a_v a).1 1) : Ev pmT 65 [.ref 0, .int x] h (some (.int (-1))) h := by
  have k0 : ph_r h 0 0 = some 1 := hi_r hI rfl rfl (by decide)
  have c1 := hR.2.2.2.2.1.1 1 (by decide)
  have t0 := hch0 (x := x) hI c1 (fun z => hV (Int32.lt_of_le_of_lt z.1 z.2))
  generalize (a_v a).1 1 = n at *
  obtain ⟨S, fi, fl, fr⟩ := h
  have hS : S = shT := hI.1
  subst hS
  have k0 : fr 0 0 = some 1 := k0
  have c1 : fi 1 1 = n := c1
  by_cases h1 : x = -1
  · subst h1
    have ev : Ev pmT 66 [.ref 0] (shT, fi, fl, fr) (some (.int (-1))) (shT, fi, fl, fr) := by
      refine Ev.of (es := cd_66) (ml := 3) (lv := [some (.ref 0), none, none]) rfl rfl rfl ?_
      refine go_of ?_
      refine gp_n 6 (j' := 6) (lv' := [some (.ref 0), some (.int (-1)), some (.int 0)]) (st' := [.ref 0, .int 0]) (h' := (shT, fi, fl, fr)) rfl ?_
      refine gp_of (fun _ k9 => g_getR (q' := 1) rfl rfl (by decide) k0 k9) ?_
      refine gp_of (fun _ k9 => g_getI (x := n) rfl (Or.inl rfl) rfl (by decide) (c1) k9) ?_
      refine gp_of (fun _ k9 => g_ict rfl (show n ≤ (0 : Int32) from Int32.not_lt.mp hV) k9) ?_
      refine gp_n 1 (j' := 29) (lv' := [some (.ref 0), some (.int (-1)), some (.int 0)]) (st' := [.int (-1)]) (h' := (shT, fi, fl, fr)) rfl ?_
      refine gp_done (g_ret rfl) ?_
      rfl
    refine Ev.of (es := cd_65) (ml := 2) (lv := [some (.ref 0), some (.int (-1))]) rfl rfl rfl ?_
    refine go_of ?_
    refine gp_n 2 (j' := 2) (lv' := [some (.ref 0), some (.int (-1))]) (st' := [.int (-1), .int (-1)]) (h' := (shT, fi, fl, fr)) rfl ?_
    refine gp_of (fun _ k9 => g_icf rfl (show ¬ (¬ ((-1) : Int32) = ((-1) : Int32)) from by decide) k9) ?_
    refine gp_n 1 (j' := 4) (lv' := [some (.ref 0), some (.int (-1))]) (st' := [.ref 0]) (h' := (shT, fi, fl, fr)) rfl ?_
    refine gp_of (fun _ k9 => g_call (y := 66) (as := [.ref 0]) (st' := []) rfl rfl (ev) k9) ?_
    refine gp_done (g_ret rfl) ?_
    rfl
  · refine Ev.of (es := cd_65) (ml := 2) (lv := [some (.ref 0), some (.int x)]) rfl rfl rfl ?_
    refine go_of ?_
    refine gp_n 2 (j' := 2) (lv' := [some (.ref 0), some (.int x)]) (st' := [.int (-1), .int x]) (h' := (shT, fi, fl, fr)) rfl ?_
    refine gp_of (fun _ k9 => g_ict rfl (show ¬ x = ((-1) : Int32) from h1) k9) ?_
    refine gp_n 1 (j' := 7) (lv' := [some (.ref 0), some (.int x)]) (st' := [.ref 0]) (h' := (shT, fi, fl, fr)) rfl ?_
    refine gp_of (fun _ k9 => g_getR (q' := 1) rfl rfl (by decide) k0 k9) ?_
    refine gp_n 1 (j' := 9) (lv' := [some (.ref 0), some (.int x)]) (st' := [.int x, .ref 1]) (h' := (shT, fi, fl, fr)) rfl ?_
    refine gp_of (fun _ k9 => g_call (y := 52) (as := [.ref 1, .int x]) (st' := []) rfl rfl (t0) k9) ?_
    refine gp_of (fun _ k9 => g_ift rfl (show (0 : Int32) = (0 : Int32) from by decide) k9) ?_
    refine gp_n 1 (j' := 16) (lv' := [some (.ref 0), some (.int x)]) (st' := [.int (-1)]) (h' := (shT, fi, fl, fr)) rfl ?_
    refine gp_done (g_ret rfl) ?_
    rfl
theorem ro_M0 {h : PmH} {a : AB} {x : Int32} (hI : HI hdT shT h) (hR : QM true h a) (hV : ¬ 0 < (a_v a).1 1) : Ev pmT 179 [.ref 70, .int x] h (some (.int (-1))) h := by
  have c0 : ph_i h 70 14 = (a_v a).1 1 := hR.2.2.2.2.1.1 0 (by decide)
  have t0 := ich0 (x := x) hI c0 (fun z => hV (Int32.lt_of_le_of_lt z.1 z.2))
  have tt := isc0 hI c0 hV
  by_cases h1 : x = -1
  · subst h1
    refine Ev.of (es := cd_179) (ml := 5) (lv := [some (.ref 70), some (.int (-1)), none, none, none]) rfl rfl rfl ?_
    obtain ⟨S, fi, fl, fr⟩ := h
    have hS : S = shT := hI.1
    subst hS
    refine go_of ?_
    refine gp_n 2 (j' := 2) (lv' := [some (.ref 70), some (.int (-1)), none, none, none]) (st' := [.int (-1), .int (-1)]) (h' := (shT, fi, fl, fr)) rfl ?_
    refine gp_of (fun _ k9 => g_ict rfl (show ((-1) : Int32) = ((-1) : Int32) from by decide) k9) ?_
    refine gp_n 1 (j' := 18) (lv' := [some (.ref 70), some (.int (-1)), none, none, none]) (st' := [.ref 70]) (h' := (shT, fi, fl, fr)) rfl ?_
    refine gp_of (fun _ k9 => g_call (y := 172) (as := [.ref 70]) (st' := []) rfl rfl (tt) k9) ?_
    refine gp_of (fun _ k9 => g_iff rfl (show ¬ (¬ (0 : Int32) = (0 : Int32)) from by decide) k9) ?_
    refine gp_n 1 (j' := 21) (lv' := [some (.ref 70), some (.int (-1)), none, none, none]) (st' := [.int (-1)]) (h' := (shT, fi, fl, fr)) rfl ?_
    refine gp_done (g_ret rfl) ?_
    rfl
  · refine Ev.of (es := cd_179) (ml := 5) (lv := [some (.ref 70), some (.int x), none, none, none]) rfl rfl rfl ?_
    obtain ⟨S, fi, fl, fr⟩ := h
    have hS : S = shT := hI.1
    subst hS
    refine go_of ?_
    refine gp_n 2 (j' := 2) (lv' := [some (.ref 70), some (.int x), none, none, none]) (st' := [.int (-1), .int x]) (h' := (shT, fi, fl, fr)) rfl ?_
    refine gp_of (fun _ k9 => g_icf rfl (show ¬ (x = ((-1) : Int32)) from h1) k9) ?_
    refine gp_n 2 (j' := 5) (lv' := [some (.ref 70), some (.int x), none, none, none]) (st' := [.int x, .ref 70]) (h' := (shT, fi, fl, fr)) rfl ?_
    refine gp_of (fun _ k9 => g_call (y := 168) (as := [.ref 70, .int x]) (st' := []) rfl rfl (t0) k9) ?_
    refine gp_of (fun _ k9 => g_ift rfl (show (0 : Int32) = (0 : Int32) from by decide) k9) ?_
    refine gp_n 1 (j' := 16) (lv' := [some (.ref 70), some (.int x), none, none, none]) (st' := [.int (-1)]) (h' := (shT, fi, fl, fr)) rfl ?_
    refine gp_done (g_ret rfl) ?_
    rfl
theorem p_row {h : PmH} {a : AB} (x : Int32) (hr : REL2 h a) : PI 65 179 [.int x] h (fun x y => x = y) := by
  obtain ⟨⟨hI, hC, hM, hA⟩, hV⟩ := id hr
  by_cases h0 : 0 < (a_v a).1 1
  · obtain ⟨m, k, c, vk⟩ := vok_N hV.1 h0
    have p6 := pw_6 m (by have := vk.1; omega)
    refine ⟨_, _, h, h, a, ro_C hI hC vk, ro_M hI hM vk (fun b hb z => (nI_ltI (by omega) (by omega)).mp z), hr, hI, ?_⟩
    have key : lsC (a_v a).2.1 m (2 ^ m) = lsM (a_v a).2.1 m (2 ^ m) (2 ^ m) := by
      rcases ls_inv (K := (a_v a).2.1) vk.1 (2 ^ m) (Nat.le_refl _) with ⟨z1, -, -⟩ | ⟨q, -, q2, q3⟩
      · exfalso
        have hk : 1 ≤ k := by
          rcases hV.1.2.2 with z | ⟨k', l, e1, e2, e3, -⟩
          · rw [z] at h0
            exact absurd h0 (by decide)
          · have := vk_k vk
            have := (nI_eq (by omega) (by omega)).mp (vk.2.2.2.2.1.symm.trans e1)
            omega
        have hp := vk.2.2.2.2.2.2.1
        have t := cntP_tp (P := bl (a_v a).2.1) (N := 2 ^ m) (64 - 2 ^ m) (fun i h1 h2 => vk.2.2.2.2.2.2.2 i h1 (by omega))
        rw [show 2 ^ m + (64 - 2 ^ m) = 64 by omega, ← cntb_P, ← cntb_P, z1] at t
        unfold popc at hp
        omega
      · rw [q2, q3]
    rw [key]
  · exact ⟨_, _, h, h, a, ro_C0 hI hC h0, ro_M0 hI hM h0, hr, hI, rfl⟩
