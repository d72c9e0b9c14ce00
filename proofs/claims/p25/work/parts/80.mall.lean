theorem bA_m1 {F : Nat → Int32} {t k : Nat} (hF : ∀ s, byR (F s)) : bA F t k = -1 ↔ ¬ k < t := by
  unfold bA
  by_cases h : k < t
  · rw [if_pos h]
    constructor
    · intro z
      obtain ⟨b1, b2⟩ := b255 (hF k)
      by_cases h0 : 0 ≤ (F k).toInt
      · rw [b1 h0] at z
        rw [z] at h0
        exact absurd h0 (by decide)
      · have := b2 (by omega)
        rw [z] at this
        exact absurd this (by decide)
    · exact fun z => absurd h z
  · rw [if_neg h]
    exact ⟨fun _ => h, fun _ => rfl⟩
/-- what readsAll answers -/
def ra_Q (F : Nat → Int32) (t : Nat) (h : PmH) (q : Option RC) (r : Option Value × PmH) : Prop := HI hdT shT r.2 ∧ fram lW h r.2 ∧ ((∃ R e, q = some R ∧ r.1 = some (.int 1) ∧ mp_S F t e R r.2) ∨ (q = none ∧ r.1 = some (.int 0)))
def okO (R : RC) : Option RC := if okR R = true then some R else none
theorem ra_tr {F : Nat → Int32} {t : Nat} {h h1 : PmH} {q : Option RC} {r : Option Value × PmH} (hf : fram lW h h1) (ho : ra_Q F t h1 q r) : ra_Q F t h q r := ⟨ho.1, fram.tr hf ho.2.1, ho.2.2⟩
/-- the last check -/
theorem ra_74 {F : Nat → Int32} {t e : Nat} {R : RC} {h : PmH} {l1 : Option Value} (ht : t ≤ 200) (hR : rc_ok R) (hS : mp_S F t e R h) : GoP pmT none cd_150 74 [some (.ref 70), l1, some (.int 0), none] [] h (ra_Q F t h (okO R)) := by
  obtain ⟨a0, a1, a2, a3, a4, a5, a6⟩ := hS.2.1
  obtain ⟨b1, ⟨b2, b3⟩, b4, b5, b6, b7⟩ := hR
  have hI := hS.1.1
  have t1 := hS.2.2.1.2 1 (by decide) (by decide)
  have t2 := hS.2.2.1.2 2 (by decide) (by decide)
  have k5 : ph_r h 70 5 = some 73 := hi_r hI rfl rfl (by decide)
  have so := so_ev (K := R.2.2.2.2.2.2.2) (h := h)
  have sh := (sh_2 R.2.1 (by omega)).1
  have p6 := pw_6 R.2.1 (by omega)
  have pc := popc_le R.2.2.2.2.2.2.2
  have e1 := hS.1.2.1
  have fa := fa_ev (x := 4) (y := nI t) hI
  have J : HI hdT shT (h_i h 70 3 (8 * nI t + 4)) := hd70 hI rfl
  have good : okR R = true → ra_Q F t h (okO R) (some (.int 1), h) := fun z => ⟨hI, fram.rf _ _, Or.inl ⟨R, e, by unfold okO; rw [if_pos z], rfl, hS⟩⟩
  have bad : okR R = false → ra_Q F t h (okO R) (some (.int 0), h_i h 70 3 (8 * nI t + 4)) := fun z => ⟨J, fram_wi (by decide), Or.inr ⟨by unfold okO; rw [if_neg (by rw [z]; decide)], rfl⟩⟩
  generalize ra_Q F t h (okO R) = Q at *
  clear hS J
  have okd : okR R = (if R.1.testBit 2 = true then decide (R.2.2.2.1 + 1 ≤ popc R.2.2.2.2.2.2.2) else R.1.testBit 1 && decide (R.2.2.1 + R.2.2.2.1 ≤ 2 ^ R.2.1)) := rfl
  generalize okR R = ok at *
  generalize hq : R.2.2.2.2.2.2.2 = K at *
  cases c2 : R.1.testBit 2
  · rw [c2] at t2 okd
    rw [if_neg (by decide)] at okd
    cases c1 : R.1.testBit 1
    · rw [c1] at t1 okd
      have bad := bad okd
      obtain ⟨S, fi, fl, fr⟩ := h
      have hS : S = shT := hI.1
      subst hS
      have k5 : fr 70 5 = some 73 := k5
      have t1 : fi 73 1 = 0 := t1
      have t2 : fi 73 2 = 0 := t2
      have e1 : fi 70 1 = nI t := e1
      refine gp_n 1 (j' := 75) (lv' := [some (.ref 70), l1, some (.int 0), none]) (st' := [.ref 70]) (h' := (shT, fi, fl, fr)) rfl ?_
      refine gp_of (fun _ k9 => g_getR (q' := 73) rfl rfl (by decide) k5 k9) ?_
      refine gp_n 1 (j' := 77) (lv' := [some (.ref 70), l1, some (.int 0), none]) (st' := [.int 2, .ref 73]) (h' := (shT, fi, fl, fr)) rfl ?_
      refine gp_of (fun _ k9 => g_bald (k := 2) (x := 0) rfl rfl (by decide) (rfl) (by decide) (by decide) (t2) k9) ?_
      refine gp_of (fun _ k9 => g_ift rfl (show (0 : Int32) = (0 : Int32) from by decide) k9) ?_
      refine gp_n 1 (j' := 92) (lv' := [some (.ref 70), l1, some (.int 0), none]) (st' := [.ref 70]) (h' := (shT, fi, fl, fr)) rfl ?_
      refine gp_of (fun _ k9 => g_getR (q' := 73) rfl rfl (by decide) k5 k9) ?_
      refine gp_n 1 (j' := 94) (lv' := [some (.ref 70), l1, some (.int 0), none]) (st' := [.int 1, .ref 73]) (h' := (shT, fi, fl, fr)) rfl ?_
      refine gp_of (fun _ k9 => g_bald (k := 1) (x := 0) rfl rfl (by decide) (rfl) (by decide) (by decide) (t1) k9) ?_
      refine gp_of (fun _ k9 => g_ift rfl (show (0 : Int32) = (0 : Int32) from by decide) k9) ?_
      refine gp_n 4 (j' := 111) (lv' := [some (.ref 70), l1, some (.int 0), some (.int 1)]) (st' := [.int 1]) (h' := (shT, fi, fl, fr)) rfl ?_
      refine gp_of (fun _ k9 => g_iff rfl (show ¬ ((1 : Int32) = (0 : Int32)) from by decide) k9) ?_
      refine gp_n 3 (j' := 115) (lv' := [some (.ref 70), l1, some (.int 0), some (.int 1)]) (st' := [.ref 70, .int 4, .ref 70]) (h' := (shT, fi, fl, fr)) rfl ?_
      refine gp_of (fun _ k9 => g_getI (x := nI t) rfl (Or.inl rfl) rfl (by decide) (e1) k9) ?_
      refine gp_of (fun _ k9 => g_call (y := 156) (as := [.ref 70, .int 4, .int (nI t)]) (st' := []) rfl rfl (fa) k9) ?_
      refine gp_of (fun _ k9 => g_ift rfl (show (0 : Int32) = (0 : Int32) from by decide) k9) ?_
      refine gp_n 1 (j' := 121) (lv' := [some (.ref 70), l1, some (.int 0), some (.int 1)]) (st' := [.int 0]) (h' := (shT, pm_u2 fi 70 3 (8 * nI t + 4), fl, fr)) rfl ?_
      refine gp_done (g_retz rfl (by decide)) ?_
      exact bad
    · rw [c1] at t1 okd
      have cc : nI R.2.2.1 + nI R.2.2.2.1 ≤ nI (2 ^ R.2.1) ↔ R.2.2.1 + R.2.2.2.1 ≤ 2 ^ R.2.1 := by rw [nI_add, nI_leI (by omega) (by omega)]
      by_cases hc : R.2.2.1 + R.2.2.2.1 ≤ 2 ^ R.2.1
      · rw [decide_eq_true hc] at okd
        have good := good okd
        obtain ⟨S, fi, fl, fr⟩ := h
        have hS : S = shT := hI.1
        subst hS
        have k5 : fr 70 5 = some 73 := k5
        have t1 : fi 73 1 = 1 := t1
        have t2 : fi 73 2 = 0 := t2
        have e1 : fi 70 1 = nI t := e1
        have a0 : fi 70 6 = nI R.2.1 := a0
        have a1 : fi 70 7 = nI R.2.2.1 := a1
        have a3 : fi 70 9 = nI R.2.2.2.1 := a3
        refine gp_n 1 (j' := 75) (lv' := [some (.ref 70), l1, some (.int 0), none]) (st' := [.ref 70]) (h' := (shT, fi, fl, fr)) rfl ?_
        refine gp_of (fun _ k9 => g_getR (q' := 73) rfl rfl (by decide) k5 k9) ?_
        refine gp_n 1 (j' := 77) (lv' := [some (.ref 70), l1, some (.int 0), none]) (st' := [.int 2, .ref 73]) (h' := (shT, fi, fl, fr)) rfl ?_
        refine gp_of (fun _ k9 => g_bald (k := 2) (x := 0) rfl rfl (by decide) (rfl) (by decide) (by decide) (t2) k9) ?_
        refine gp_of (fun _ k9 => g_ift rfl (show (0 : Int32) = (0 : Int32) from by decide) k9) ?_
        refine gp_n 1 (j' := 92) (lv' := [some (.ref 70), l1, some (.int 0), none]) (st' := [.ref 70]) (h' := (shT, fi, fl, fr)) rfl ?_
        refine gp_of (fun _ k9 => g_getR (q' := 73) rfl rfl (by decide) k5 k9) ?_
        refine gp_n 1 (j' := 94) (lv' := [some (.ref 70), l1, some (.int 0), none]) (st' := [.int 1, .ref 73]) (h' := (shT, fi, fl, fr)) rfl ?_
        refine gp_of (fun _ k9 => g_bald (k := 1) (x := 1) rfl rfl (by decide) (rfl) (by decide) (by decide) (t1) k9) ?_
        refine gp_of (fun _ k9 => g_iff rfl (show ¬ ((1 : Int32) = (0 : Int32)) from by decide) k9) ?_
        refine gp_n 1 (j' := 97) (lv' := [some (.ref 70), l1, some (.int 0), none]) (st' := [.ref 70]) (h' := (shT, fi, fl, fr)) rfl ?_
        refine gp_of (fun _ k9 => g_getI (x := nI R.2.2.1) rfl (Or.inl rfl) rfl (by decide) (a1) k9) ?_
        refine gp_n 1 (j' := 99) (lv' := [some (.ref 70), l1, some (.int 0), none]) (st' := [.ref 70, .int (nI R.2.2.1)]) (h' := (shT, fi, fl, fr)) rfl ?_
        refine gp_of (fun _ k9 => g_getI (x := nI R.2.2.2.1) rfl (Or.inl rfl) rfl (by decide) (a3) k9) ?_
        refine gp_n 3 (j' := 103) (lv' := [some (.ref 70), l1, some (.int 0), none]) (st' := [.ref 70, .int 1, .int ((nI R.2.2.1) + (nI R.2.2.2.1))]) (h' := (shT, fi, fl, fr)) rfl ?_
        refine gp_of (fun _ k9 => g_getI (x := nI R.2.1) rfl (Or.inl rfl) rfl (by decide) (a0) k9) ?_
        refine gp_n 1 (j' := 105) (lv' := [some (.ref 70), l1, some (.int 0), none]) (st' := [.int ((1 : Int32) <<< ((nI R.2.1) &&& 31)), .int ((nI R.2.2.1) + (nI R.2.2.2.1))]) (h' := (shT, fi, fl, fr)) rfl ?_
        rw [sh]
        refine gp_of (fun _ k9 => g_ict rfl (show ((nI R.2.2.1) + (nI R.2.2.2.1)) ≤ (nI (2 ^ R.2.1)) from cc.mpr hc) k9) ?_
        refine gp_n 3 (j' := 111) (lv' := [some (.ref 70), l1, some (.int 0), some (.int 0)]) (st' := [.int 0]) (h' := (shT, fi, fl, fr)) rfl ?_
        refine gp_of (fun _ k9 => g_ift rfl (show (0 : Int32) = (0 : Int32) from by decide) k9) ?_
        refine gp_n 2 (j' := 121) (lv' := [some (.ref 70), l1, some (.int 0), some (.int 0)]) (st' := [.int 1]) (h' := (shT, fi, fl, fr)) rfl ?_
        refine gp_done (g_retz rfl (by decide)) ?_
        exact good
      · rw [decide_eq_false hc] at okd
        have bad := bad okd
        obtain ⟨S, fi, fl, fr⟩ := h
        have hS : S = shT := hI.1
        subst hS
        have k5 : fr 70 5 = some 73 := k5
        have t1 : fi 73 1 = 1 := t1
        have t2 : fi 73 2 = 0 := t2
        have e1 : fi 70 1 = nI t := e1
        have a0 : fi 70 6 = nI R.2.1 := a0
        have a1 : fi 70 7 = nI R.2.2.1 := a1
        have a3 : fi 70 9 = nI R.2.2.2.1 := a3
        refine gp_n 1 (j' := 75) (lv' := [some (.ref 70), l1, some (.int 0), none]) (st' := [.ref 70]) (h' := (shT, fi, fl, fr)) rfl ?_
        refine gp_of (fun _ k9 => g_getR (q' := 73) rfl rfl (by decide) k5 k9) ?_
        refine gp_n 1 (j' := 77) (lv' := [some (.ref 70), l1, some (.int 0), none]) (st' := [.int 2, .ref 73]) (h' := (shT, fi, fl, fr)) rfl ?_
        refine gp_of (fun _ k9 => g_bald (k := 2) (x := 0) rfl rfl (by decide) (rfl) (by decide) (by decide) (t2) k9) ?_
        refine gp_of (fun _ k9 => g_ift rfl (show (0 : Int32) = (0 : Int32) from by decide) k9) ?_
        refine gp_n 1 (j' := 92) (lv' := [some (.ref 70), l1, some (.int 0), none]) (st' := [.ref 70]) (h' := (shT, fi, fl, fr)) rfl ?_
        refine gp_of (fun _ k9 => g_getR (q' := 73) rfl rfl (by decide) k5 k9) ?_
        refine gp_n 1 (j' := 94) (lv' := [some (.ref 70), l1, some (.int 0), none]) (st' := [.int 1, .ref 73]) (h' := (shT, fi, fl, fr)) rfl ?_
        refine gp_of (fun _ k9 => g_bald (k := 1) (x := 1) rfl rfl (by decide) (rfl) (by decide) (by decide) (t1) k9) ?_
        refine gp_of (fun _ k9 => g_iff rfl (show ¬ ((1 : Int32) = (0 : Int32)) from by decide) k9) ?_
        refine gp_n 1 (j' := 97) (lv' := [some (.ref 70), l1, some (.int 0), none]) (st' := [.ref 70]) (h' := (shT, fi, fl, fr)) rfl ?_
        refine gp_of (fun _ k9 => g_getI (x := nI R.2.2.1) rfl (Or.inl rfl) rfl (by decide) (a1) k9) ?_
        refine gp_n 1 (j' := 99) (lv' := [some (.ref 70), l1, some (.int 0), none]) (st' := [.ref 70, .int (nI R.2.2.1)]) (h' := (shT, fi, fl, fr)) rfl ?_
        refine gp_of (fun _ k9 => g_getI (x := nI R.2.2.2.1) rfl (Or.inl rfl) rfl (by decide) (a3) k9) ?_
        refine gp_n 3 (j' := 103) (lv' := [some (.ref 70), l1, some (.int 0), none]) (st' := [.ref 70, .int 1, .int ((nI R.2.2.1) + (nI R.2.2.2.1))]) (h' := (shT, fi, fl, fr)) rfl ?_
        refine gp_of (fun _ k9 => g_getI (x := nI R.2.1) rfl (Or.inl rfl) rfl (by decide) (a0) k9) ?_
        refine gp_n 1 (j' := 105) (lv' := [some (.ref 70), l1, some (.int 0), none]) (st' := [.int ((1 : Int32) <<< ((nI R.2.1) &&& 31)), .int ((nI R.2.2.1) + (nI R.2.2.2.1))]) (h' := (shT, fi, fl, fr)) rfl ?_
        rw [sh]
        refine gp_of (fun _ k9 => g_icf rfl (show ¬ (((nI R.2.2.1) + (nI R.2.2.2.1)) ≤ (nI (2 ^ R.2.1))) from fun z => hc (cc.mp z)) k9) ?_
        refine gp_n 4 (j' := 111) (lv' := [some (.ref 70), l1, some (.int 0), some (.int 1)]) (st' := [.int 1]) (h' := (shT, fi, fl, fr)) rfl ?_
        refine gp_of (fun _ k9 => g_iff rfl (show ¬ ((1 : Int32) = (0 : Int32)) from by decide) k9) ?_
        refine gp_n 3 (j' := 115) (lv' := [some (.ref 70), l1, some (.int 0), some (.int 1)]) (st' := [.ref 70, .int 4, .ref 70]) (h' := (shT, fi, fl, fr)) rfl ?_
        refine gp_of (fun _ k9 => g_getI (x := nI t) rfl (Or.inl rfl) rfl (by decide) (e1) k9) ?_
        refine gp_of (fun _ k9 => g_call (y := 156) (as := [.ref 70, .int 4, .int (nI t)]) (st' := []) rfl rfl (fa) k9) ?_
        refine gp_of (fun _ k9 => g_ift rfl (show (0 : Int32) = (0 : Int32) from by decide) k9) ?_
        refine gp_n 1 (j' := 121) (lv' := [some (.ref 70), l1, some (.int 0), some (.int 1)]) (st' := [.int 0]) (h' := (shT, pm_u2 fi 70 3 (8 * nI t + 4), fl, fr)) rfl ?_
        refine gp_done (g_retz rfl (by decide)) ?_
        exact bad
  · rw [c2] at t2 okd
    rw [if_pos rfl] at okd
    have cc : nI R.2.2.2.1 + 1 ≤ nI (popc K) ↔ R.2.2.2.1 + 1 ≤ popc K := by rw [nI_1, nI_leI (by omega) (by omega)]
    by_cases hc : R.2.2.2.1 + 1 ≤ popc K
    · rw [decide_eq_true hc] at okd
      have good := good okd
      obtain ⟨S, fi, fl, fr⟩ := h
      have hS : S = shT := hI.1
      subst hS
      have k5 : fr 70 5 = some 73 := k5
      have t2 : fi 73 2 = 1 := t2
      have e1 : fi 70 1 = nI t := e1
      have a2 : fl 70 8 = K := a2
      have a3 : fi 70 9 = nI R.2.2.2.1 := a3
      refine gp_n 1 (j' := 75) (lv' := [some (.ref 70), l1, some (.int 0), none]) (st' := [.ref 70]) (h' := (shT, fi, fl, fr)) rfl ?_
      refine gp_of (fun _ k9 => g_getR (q' := 73) rfl rfl (by decide) k5 k9) ?_
      refine gp_n 1 (j' := 77) (lv' := [some (.ref 70), l1, some (.int 0), none]) (st' := [.int 2, .ref 73]) (h' := (shT, fi, fl, fr)) rfl ?_
      refine gp_of (fun _ k9 => g_bald (k := 2) (x := 1) rfl rfl (by decide) (rfl) (by decide) (by decide) (t2) k9) ?_
      refine gp_of (fun _ k9 => g_iff rfl (show ¬ ((1 : Int32) = (0 : Int32)) from by decide) k9) ?_
      refine gp_n 1 (j' := 80) (lv' := [some (.ref 70), l1, some (.int 0), none]) (st' := [.ref 70]) (h' := (shT, fi, fl, fr)) rfl ?_
      refine gp_of (fun _ k9 => g_getL (x := K) rfl rfl (by decide) (a2) k9) ?_
      refine gp_of (fun _ k9 => g_call (y := 160) (as := [.long K]) (st' := []) rfl rfl (so) k9) ?_
      refine gp_n 1 (j' := 83) (lv' := [some (.ref 70), l1, some (.int 0), none]) (st' := [.ref 70, .int (nI (popc K))]) (h' := (shT, fi, fl, fr)) rfl ?_
      refine gp_of (fun _ k9 => g_getI (x := nI R.2.2.2.1) rfl (Or.inl rfl) rfl (by decide) (a3) k9) ?_
      refine gp_n 2 (j' := 86) (lv' := [some (.ref 70), l1, some (.int 0), none]) (st' := [.int ((nI R.2.2.2.1) + 1), .int (nI (popc K))]) (h' := (shT, fi, fl, fr)) rfl ?_
      refine gp_of (fun _ k9 => g_ict rfl (show ((nI R.2.2.2.1) + 1) ≤ (nI (popc K)) from cc.mpr hc) k9) ?_
      refine gp_n 4 (j' := 111) (lv' := [some (.ref 70), l1, some (.int 0), some (.int 0)]) (st' := [.int 0]) (h' := (shT, fi, fl, fr)) rfl ?_
      refine gp_of (fun _ k9 => g_ift rfl (show (0 : Int32) = (0 : Int32) from by decide) k9) ?_
      refine gp_n 2 (j' := 121) (lv' := [some (.ref 70), l1, some (.int 0), some (.int 0)]) (st' := [.int 1]) (h' := (shT, fi, fl, fr)) rfl ?_
      refine gp_done (g_retz rfl (by decide)) ?_
      exact good
    · rw [decide_eq_false hc] at okd
      have bad := bad okd
      obtain ⟨S, fi, fl, fr⟩ := h
      have hS : S = shT := hI.1
      subst hS
      have k5 : fr 70 5 = some 73 := k5
      have t2 : fi 73 2 = 1 := t2
      have e1 : fi 70 1 = nI t := e1
      have a2 : fl 70 8 = K := a2
      have a3 : fi 70 9 = nI R.2.2.2.1 := a3
      refine gp_n 1 (j' := 75) (lv' := [some (.ref 70), l1, some (.int 0), none]) (st' := [.ref 70]) (h' := (shT, fi, fl, fr)) rfl ?_
      refine gp_of (fun _ k9 => g_getR (q' := 73) rfl rfl (by decide) k5 k9) ?_
      refine gp_n 1 (j' := 77) (lv' := [some (.ref 70), l1, some (.int 0), none]) (st' := [.int 2, .ref 73]) (h' := (shT, fi, fl, fr)) rfl ?_
      refine gp_of (fun _ k9 => g_bald (k := 2) (x := 1) rfl rfl (by decide) (rfl) (by decide) (by decide) (t2) k9) ?_
      refine gp_of (fun _ k9 => g_iff rfl (show ¬ ((1 : Int32) = (0 : Int32)) from by decide) k9) ?_
      refine gp_n 1 (j' := 80) (lv' := [some (.ref 70), l1, some (.int 0), none]) (st' := [.ref 70]) (h' := (shT, fi, fl, fr)) rfl ?_
      refine gp_of (fun _ k9 => g_getL (x := K) rfl rfl (by decide) (a2) k9) ?_
      refine gp_of (fun _ k9 => g_call (y := 160) (as := [.long K]) (st' := []) rfl rfl (so) k9) ?_
      refine gp_n 1 (j' := 83) (lv' := [some (.ref 70), l1, some (.int 0), none]) (st' := [.ref 70, .int (nI (popc K))]) (h' := (shT, fi, fl, fr)) rfl ?_
      refine gp_of (fun _ k9 => g_getI (x := nI R.2.2.2.1) rfl (Or.inl rfl) rfl (by decide) (a3) k9) ?_
      refine gp_n 2 (j' := 86) (lv' := [some (.ref 70), l1, some (.int 0), none]) (st' := [.int ((nI R.2.2.2.1) + 1), .int (nI (popc K))]) (h' := (shT, fi, fl, fr)) rfl ?_
      refine gp_of (fun _ k9 => g_icf rfl (show ¬ (((nI R.2.2.2.1) + 1) ≤ (nI (popc K))) from fun z => hc (cc.mp z)) k9) ?_
      refine gp_n 4 (j' := 111) (lv' := [some (.ref 70), l1, some (.int 0), some (.int 1)]) (st' := [.int 1]) (h' := (shT, fi, fl, fr)) rfl ?_
      refine gp_of (fun _ k9 => g_iff rfl (show ¬ ((1 : Int32) = (0 : Int32)) from by decide) k9) ?_
      refine gp_n 3 (j' := 115) (lv' := [some (.ref 70), l1, some (.int 0), some (.int 1)]) (st' := [.ref 70, .int 4, .ref 70]) (h' := (shT, fi, fl, fr)) rfl ?_
      refine gp_of (fun _ k9 => g_getI (x := nI t) rfl (Or.inl rfl) rfl (by decide) (e1) k9) ?_
      refine gp_of (fun _ k9 => g_call (y := 156) (as := [.ref 70, .int 4, .int (nI t)]) (st' := []) rfl rfl (fa) k9) ?_
      refine gp_of (fun _ k9 => g_ift rfl (show (0 : Int32) = (0 : Int32) from by decide) k9) ?_
      refine gp_n 1 (j' := 121) (lv' := [some (.ref 70), l1, some (.int 0), some (.int 1)]) (st' := [.int 0]) (h' := (shT, pm_u2 fi 70 3 (8 * nI t + 4), fl, fr)) rfl ?_
      refine gp_done (g_retz rfl (by decide)) ?_
      exact bad
theorem mp_l {F : Nat → Int32} {t e q : Nat} {R : RC} {h : PmH} (hS : mp_S F t e R h) (hq : q ≤ t) : mp_S F t q R (mpl h q) := ⟨mpl_P hS.1, mr_fr hS.2.1 (W := [(70, 2)]) (fram_wi (by decide)) (by decide), mi_fr hS.2.2.1 (W := [(70, 2)]) (fram_wi (by decide)) (by decide), hq⟩
theorem ra_45 {F : Nat → Int32} {t : Nat} (ht : t ≤ 200) (hF : ∀ s, byR (F s)) : ∀ (q e : Nat) (R : RC) (h : PmH) (l1 : Option Value), t < q + e → rc_ok R → mp_S F t e R h → GoP pmT none cd_150 45 [some (.ref 70), l1, some (.int 1), none] [] h (ra_Q F t h ((linesS F t q R e).bind (fun y => okO y.1))) := by
  intro q
  induction q with
  | zero =>
    intro e R h l1 hq hR hS
    have := hS.2.2.2
    omega
  | succ q ih =>
    intro e R h l1 hq hR hS
    have n1 := nx_ev ht hF hS.2.2.2 hS.1
    have B1 : sk F t cB e ≤ t := sk_le _ _ hS.2.2.2
    have B0 : e ≤ sk F t cB e := sk_ge _ _
    have S1 := mp_l hS B1
    have n2 := nx_ev ht hF B1 S1.1
    rw [sk_id, mpl_2] at n2
    have f1 : fram lW h (mpl h (sk F t cB e)) := fram_wi (by decide)
    rw [linesS]
    have pref : ∀ Q, GoP pmT none cd_150 49 [some (.ref 70), some (.int 0), some (.int 1), none] [.int (bA F t (sk F t cB e))] (mpl h (sk F t cB e)) Q → GoP pmT none cd_150 45 [some (.ref 70), l1, some (.int 1), none] [] h Q := by
      intro Q g
      have hI := hS.1.1
      clear hS S1 n2 f1 ih
      generalize sk F t cB e = B at *
      obtain ⟨S, fi, fl, fr⟩ := h
      have hS : S = shT := hI.1
      subst hS
      refine gp_n 3 (j' := 48) (lv' := [some (.ref 70), some (.int 0), some (.int 1), none]) (st' := [.ref 70]) (h' := (shT, fi, fl, fr)) rfl ?_
      refine gp_of (fun _ k9 => g_call (y := 153) (as := [.ref 70]) (st' := []) rfl rfl (n1) k9) ?_
      exact g
    refine pref _ (gp_mono (fun r => ra_tr f1) ?_)
    clear pref n1 f1 hS
    generalize sk F t cB e = B at *
    have I1 := S1.1.1
    have e2 : ph_i (mpl h B) 70 2 = nI B := h_e
    generalize mpl h B = h1 at *
    by_cases hb : B < t
    · rw [if_pos hb]
      by_cases hc : F B = 59
      · rw [if_pos hc]
        have hA : bA F t B = 59 := (bA_eq hF (by decide) (by decide)).mpr ⟨hb, hc⟩
        have S2 := mp_l S1 (show B + 1 ≤ t by omega)
        have f2 : fram lW h1 (mpl h1 (B + 1)) := fram_wi (by decide)
        obtain ⟨⟨v, h3⟩, ev3, z⟩ := rl_ev ht hF hR.2.1.2 hR.1 S2
        have rest : ∀ x : Int32, v = some (.int x) → ∀ Q, GoP pmT none cd_150 42 [some (.ref 70), some (.int 0), some (.int 1), none] [.int x] h3 Q → GoP pmT none cd_150 49 [some (.ref 70), some (.int 0), some (.int 1), none] [.int (bA F t B)] h1 Q := by
          intro x hv Q g
          subst hv
          clear z S1 S2 f2 ih n2
          have ev3 : Ev pmT 151 [.ref 70, .int 0] (mpl h1 (B + 1)) (some (.int x)) h3 := ev3
          obtain ⟨S, fi, fl, fr⟩ := h1
          have hS : S = shT := I1.1
          subst hS
          have e2 : fi 70 2 = nI B := e2
          refine gp_n 1 (j' := 50) (lv' := [some (.ref 70), some (.int 0), some (.int 1), none]) (st' := [.int 59, .int (bA F t B)]) (h' := (shT, fi, fl, fr)) rfl ?_
          refine gp_of (fun _ k9 => g_icf rfl (show ¬ (¬ (bA F t B) = (59 : Int32)) from fun z => z hA) k9) ?_
          refine gp_n 4 (j' := 56) (lv' := [some (.ref 70), some (.int 0), some (.int 1), none]) (st' := [.int 1]) (h' := (shT, fi, fl, fr)) rfl ?_
          refine gp_of (fun _ k9 => g_iff rfl (show ¬ ((1 : Int32) = (0 : Int32)) from by decide) k9) ?_
          refine gp_n 2 (j' := 59) (lv' := [some (.ref 70), some (.int 0), some (.int 1), none]) (st' := [.ref 70, .ref 70]) (h' := (shT, fi, fl, fr)) rfl ?_
          refine gp_of (fun _ k9 => g_getI (x := nI B) rfl (Or.inl rfl) rfl (by decide) (e2) k9) ?_
          refine gp_n 2 (j' := 62) (lv' := [some (.ref 70), some (.int 0), some (.int 1), none]) (st' := [.int ((nI B) + 1), .ref 70]) (h' := (shT, fi, fl, fr)) rfl ?_
          rw [nI_1 B]
          refine gp_of (fun _ k9 => g_putI rfl (Or.inl rfl) rfl (by decide) k9) ?_
          refine gp_n 2 (j' := 38) (lv' := [some (.ref 70), some (.int 0), some (.int 1), none]) (st' := [.int 1]) (h' := (shT, pm_u2 fi 70 2 (nI (B + 1)), fl, fr)) rfl ?_
          refine gp_of (fun _ k9 => g_iff rfl (show ¬ ((1 : Int32) = (0 : Int32)) from by decide) k9) ?_
          refine gp_n 2 (j' := 41) (lv' := [some (.ref 70), some (.int 0), some (.int 1), none]) (st' := [.int 0, .ref 70]) (h' := (shT, pm_u2 fi 70 2 (nI (B + 1)), fl, fr)) rfl ?_
          refine gp_of (fun _ k9 => g_call (y := 151) (as := [.ref 70, .int 0]) (st' := []) rfl rfl (ev3) k9) ?_
          exact g
        rcases z with ⟨R', e', z1, z2, z3, z4⟩ | ⟨z1, z2, z3, z4⟩
        · refine rest 1 z2 _ (gp_mono (fun r => ra_tr (fram.tr f2 z4)) ?_)
          have z3 : mp_S F t e' R' h3 := z3
          have R3 := line_ok hR z1
          have le := line_e hR.1 z1
          rw [z1]
          have g := ih e' R' h3 (some (.int 0)) (by omega) R3 z3
          have g : GoP pmT none cd_150 45 [some (.ref 70), some (.int 0), some (.int 1), none] [] h3 (ra_Q F t h3 (((some (R', e')).bind (fun z => linesS F t q z.1 z.2)).bind (fun y => okO y.1))) := g
          have I3 := z3.1.1
          clear rest z4 z3 ih S1 S2 n2 f2
          obtain ⟨S, fi, fl, fr⟩ := h3
          have hS : S = shT := I3.1
          subst hS
          refine gp_of (fun _ k9 => g_ift rfl (show ¬ (1 : Int32) = (0 : Int32) from by decide) k9) ?_
          exact g
        · refine rest 0 z2 _ ?_
          rw [z1]
          refine gp_mono (fun r (y : r = (some (.int 0), h3)) => ⟨by rw [y]; exact z3, by rw [y]; exact fram.tr f2 z4, Or.inr ⟨rfl, by rw [y]⟩⟩) ?_
          have I3 : HI hdT shT h3 := z3
          clear rest z4 z3 ih S1 S2 n2 f2
          obtain ⟨S, fi, fl, fr⟩ := h3
          have hS : S = shT := I3.1
          subst hS
          refine gp_of (fun _ k9 => g_iff rfl (show ¬ (¬ (0 : Int32) = (0 : Int32)) from by decide) k9) ?_
          refine gp_n 1 (j' := 44) (lv' := [some (.ref 70), some (.int 0), some (.int 1), none]) (st' := [.int 0]) (h' := (shT, fi, fl, fr)) rfl ?_
          refine gp_done (g_retz rfl (by decide)) ?_
          rfl
      · rw [if_neg hc]
        have hA : ¬ bA F t B = 59 := fun z => hc ((bA_eq hF (by decide) (by decide)).mp z).2
        have hM : ¬ bA F t B = -1 := fun z => (bA_m1 hF).mp z hb
        have fa := fa_ev (x := 1) (y := nI B) I1
        have J : HI hdT shT (h_i h1 70 3 (8 * nI B + 1)) := hd70 I1 rfl
        refine gp_mono (fun r (y : r = (some (.int 0), h_i h1 70 3 (8 * nI B + 1))) => ⟨by rw [y]; exact J, by rw [y]; exact fram_wi (by decide), Or.inr ⟨rfl, by rw [y]⟩⟩) ?_
        clear J ih S1
        obtain ⟨S, fi, fl, fr⟩ := h1
        have hS : S = shT := I1.1
        subst hS
        have e2 : fi 70 2 = nI B := e2
        refine gp_n 1 (j' := 50) (lv' := [some (.ref 70), some (.int 0), some (.int 1), none]) (st' := [.int 59, .int (bA F t B)]) (h' := (shT, fi, fl, fr)) rfl ?_
        refine gp_of (fun _ k9 => g_ict rfl (show ¬ (bA F t B) = (59 : Int32) from hA) k9) ?_
        refine gp_n 3 (j' := 56) (lv' := [some (.ref 70), some (.int 0), some (.int 0), none]) (st' := [.int 0]) (h' := (shT, fi, fl, fr)) rfl ?_
        refine gp_of (fun _ k9 => g_ift rfl (show (0 : Int32) = (0 : Int32) from by decide) k9) ?_
        refine gp_n 1 (j' := 38) (lv' := [some (.ref 70), some (.int 0), some (.int 0), none]) (st' := [.int 0]) (h' := (shT, fi, fl, fr)) rfl ?_
        refine gp_of (fun _ k9 => g_ift rfl (show (0 : Int32) = (0 : Int32) from by decide) k9) ?_
        refine gp_n 1 (j' := 65) (lv' := [some (.ref 70), some (.int 0), some (.int 0), none]) (st' := [.ref 70]) (h' := (shT, fi, fl, fr)) rfl ?_
        refine gp_of (fun _ k9 => g_call (y := 153) (as := [.ref 70]) (st' := []) rfl rfl (n2) k9) ?_
        refine gp_n 1 (j' := 67) (lv' := [some (.ref 70), some (.int 0), some (.int 0), none]) (st' := [.int (-1), .int (bA F t B)]) (h' := (shT, fi, fl, fr)) rfl ?_
        refine gp_of (fun _ k9 => g_icf rfl (show ¬ ((bA F t B) = ((-1) : Int32)) from hM) k9) ?_
        refine gp_n 3 (j' := 71) (lv' := [some (.ref 70), some (.int 0), some (.int 0), none]) (st' := [.ref 70, .int 1, .ref 70]) (h' := (shT, fi, fl, fr)) rfl ?_
        refine gp_of (fun _ k9 => g_getI (x := nI B) rfl (Or.inl rfl) rfl (by decide) (e2) k9) ?_
        refine gp_of (fun _ k9 => g_call (y := 156) (as := [.ref 70, .int 1, .int (nI B)]) (st' := []) rfl rfl (fa) k9) ?_
        refine gp_done (g_retz rfl (by decide)) ?_
        rfl
    · rw [if_neg hb]
      have hA : ¬ bA F t B = 59 := fun z => hb ((bA_eq hF (by decide) (by decide)).mp z).1
      have hM : bA F t B = -1 := (bA_m1 hF).mpr hb
      have g := ra_74 (l1 := some (.int 0)) ht hR S1
      have g : GoP pmT none cd_150 74 [some (.ref 70), some (.int 0), some (.int 0), none] [] h1 (ra_Q F t h1 ((some (R, B)).bind (fun y => okO y.1))) := g
      clear ih S1
      obtain ⟨S, fi, fl, fr⟩ := h1
      have hS : S = shT := I1.1
      subst hS
      have e2 : fi 70 2 = nI B := e2
      refine gp_n 1 (j' := 50) (lv' := [some (.ref 70), some (.int 0), some (.int 1), none]) (st' := [.int 59, .int (bA F t B)]) (h' := (shT, fi, fl, fr)) rfl ?_
      refine gp_of (fun _ k9 => g_ict rfl (show ¬ (bA F t B) = (59 : Int32) from hA) k9) ?_
      refine gp_n 3 (j' := 56) (lv' := [some (.ref 70), some (.int 0), some (.int 0), none]) (st' := [.int 0]) (h' := (shT, fi, fl, fr)) rfl ?_
      refine gp_of (fun _ k9 => g_ift rfl (show (0 : Int32) = (0 : Int32) from by decide) k9) ?_
      refine gp_n 1 (j' := 38) (lv' := [some (.ref 70), some (.int 0), some (.int 0), none]) (st' := [.int 0]) (h' := (shT, fi, fl, fr)) rfl ?_
      refine gp_of (fun _ k9 => g_ift rfl (show (0 : Int32) = (0 : Int32) from by decide) k9) ?_
      refine gp_n 1 (j' := 65) (lv' := [some (.ref 70), some (.int 0), some (.int 0), none]) (st' := [.ref 70]) (h' := (shT, fi, fl, fr)) rfl ?_
      refine gp_of (fun _ k9 => g_call (y := 153) (as := [.ref 70]) (st' := []) rfl rfl (n2) k9) ?_
      refine gp_n 1 (j' := 67) (lv' := [some (.ref 70), some (.int 0), some (.int 0), none]) (st' := [.int (-1), .int (bA F t B)]) (h' := (shT, fi, fl, fr)) rfl ?_
      refine gp_of (fun _ k9 => g_ict rfl (show (bA F t B) = ((-1) : Int32) from hM) k9) ?_
      exact g
theorem ra_ev {F : Nat → Int32} {t : Nat} {h : PmH} (ht : t ≤ 200) (hF : ∀ s, byR (F s)) (hI : HI hdT shT h) (e1 : ph_i h 70 1 = nI t) (eF : ∀ s, ph_i h 71 s = F s) (h0 : QM0 h) : EvP 150 [.ref 70] h (ra_Q F t h (parseS F t)) := by
  have k5 : ph_r h 70 5 = some 73 := hi_r hI rfl rfl (by decide)
  -- the beginning
  have start : ∃ h1, mp_0 F t 0 h1 ∧ fram lW h h1 ∧ ∀ Q, GoP pmT none cd_150 37 [some (.ref 70), some (.int 1), some (.int 1), none] [] h1 Q → GoP pmT none cd_150 0 [some (.ref 70), none, none, none] [] h Q := by
    let h1 : PmH := (ph_s h, pm_u2 (pm_u2 (pm_u2 (pm_u2 (pm_u2 (pm_u2 (pm_u2 (pm_u2 (pm_u2 (pm_u2 (pm_u2 (pm_u2 (ph_i h) 70 2 0) 73 0 0) 73 1 0) 73 2 0) 73 3 0) 73 4 0) 73 5 0) 70 7 0) 70 9 0) 70 10 0) 70 11 500) 70 12 4, pm_u2 (ph_l h) 70 8 0, ph_r h)
    have I1 : HI hdT shT h1 := by
      have w : ∀ (g : PmH) (c : Nat) (x : Int32), (hd_at hdT shT 70 c).1 = 9 → HI hdT shT g → HI hdT shT (h_i g 70 c x) := fun g c x hd hg => hd70 hg hd
      have z : ∀ (g : PmH) (c : Nat) (x : Int32), HI hdT shT g → HI hdT shT (h_i g 73 c x) := fun g c x hg => hz_I hg
      have l : HI hdT shT (h_l h 70 8 0) := HI_wl hI
      exact w _ 12 4 rfl (w _ 11 500 rfl (w _ 10 0 rfl (w _ 9 0 rfl (w _ 7 0 rfl (z _ 5 0 (z _ 4 0 (z _ 3 0 (z _ 2 0 (z _ 1 0 (z _ 0 0 (w _ 2 0 rfl l)))))))))))
    have fr1 : fram lW h h1 := by
      have w : ∀ (g : PmH) (p c : Nat) (x : Int32), inW lW p c = true → fram lW h g → fram lW h (h_i g p c x) := fun g p c x hw hg => fram.tr hg (fram_wi hw)
      have l : fram lW h (h_l h 70 8 0) := fram_wl (by decide)
      exact w _ 70 12 4 (by decide) (w _ 70 11 500 (by decide) (w _ 70 10 0 (by decide) (w _ 70 9 0 (by decide) (w _ 70 7 0 (by decide) (w _ 73 5 0 (by decide) (w _ 73 4 0 (by decide) (w _ 73 3 0 (by decide) (w _ 73 2 0 (by decide) (w _ 73 1 0 (by decide) (w _ 73 0 0 (by decide) (w _ 70 2 0 (by decide) l)))))))))))
    refine ⟨h1, ⟨⟨I1, ((fr1 70 1 (by decide)).1).trans e1, ?_, fun s => ((fr1 71 s (inW_all (f := fun q => decide (¬ q.1 = 71)) (by decide) (fun c _ => rfl))).1).trans (eF s), fun i hi => ((fr1 72 i (inW_all (f := fun q => decide (¬ q.1 = 72)) (by decide) (fun c _ => rfl))).1).trans (h0 i hi)⟩, ⟨?_, ?_, ?_, ?_, ?_, ?_⟩, ⟨?_, fun w w1 w2 => ?_⟩, Nat.zero_le _⟩, fr1, ?_⟩
    · simp [h1, ph_i, pm_u2]; rfl
    · simp [h1, ph_i, pm_u2]; rfl
    · simp [h1, ph_l, pm_u2]
    · simp [h1, ph_i, pm_u2]; rfl
    · simp [h1, ph_i, pm_u2]; rfl
    · simp [h1, ph_i, pm_u2]; rfl
    · simp [h1, ph_i, pm_u2]; rfl
    · simp [h1, ph_i, pm_u2]
    · have hw : w = 1 ∨ w = 2 ∨ w = 3 ∨ w = 4 ∨ w = 5 := by omega
      rcases hw with rfl | rfl | rfl | rfl | rfl <;> simp [h1, ph_i, pm_u2] <;> rfl
    · intro Q g
      clear fr1 I1
      obtain ⟨S, fi, fl, fr⟩ := h
      have hS : S = shT := hI.1
      subst hS
      have k5 : fr 70 5 = some 73 := k5
      refine gp_n 2 (j' := 2) (lv' := [some (.ref 70), none, none, none]) (st' := [.int 0, .ref 70]) (h' := (shT, fi, fl, fr)) rfl ?_
      refine gp_of (fun _ k9 => g_putI rfl (Or.inl rfl) rfl (by decide) k9) ?_
      refine gp_n 4 (j' := 7) (lv' := [some (.ref 70), some (.int 0), none, none]) (st' := [.int 6, .int 0]) (h' := (shT, pm_u2 fi 70 2 0, fl, fr)) rfl ?_
      refine gp_of (fun _ k9 => g_icf rfl (show ¬ ((6 : Int32) ≤ (0 : Int32)) from by decide) k9) ?_
      refine gp_n 1 (j' := 9) (lv' := [some (.ref 70), some (.int 0), none, none]) (st' := [.ref 70]) (h' := (shT, pm_u2 fi 70 2 0, fl, fr)) rfl ?_
      refine gp_of (fun _ k9 => g_getR (q' := 73) rfl rfl (by decide) k5 k9) ?_
      refine gp_n 2 (j' := 12) (lv' := [some (.ref 70), some (.int 0), none, none]) (st' := [.int 0, .int 0, .ref 73]) (h' := (shT, pm_u2 fi 70 2 0, fl, fr)) rfl ?_
      refine gp_of (fun _ k9 => g_zast (k := 0) rfl rfl (rfl) (by decide) (by decide) k9) ?_
      refine gp_n 4 (j' := 7) (lv' := [some (.ref 70), some (.int 1), none, none]) (st' := [.int 6, .int 1]) (h' := (shT, pm_u2 (pm_u2 fi 70 2 0) 73 0 (vp_nar .boolean 0), fl, fr)) rfl ?_
      refine gp_of (fun _ k9 => g_icf rfl (show ¬ ((6 : Int32) ≤ (1 : Int32)) from by decide) k9) ?_
      refine gp_n 1 (j' := 9) (lv' := [some (.ref 70), some (.int 1), none, none]) (st' := [.ref 70]) (h' := (shT, pm_u2 (pm_u2 fi 70 2 0) 73 0 (vp_nar .boolean 0), fl, fr)) rfl ?_
      refine gp_of (fun _ k9 => g_getR (q' := 73) rfl rfl (by decide) k5 k9) ?_
      refine gp_n 2 (j' := 12) (lv' := [some (.ref 70), some (.int 1), none, none]) (st' := [.int 0, .int 1, .ref 73]) (h' := (shT, pm_u2 (pm_u2 fi 70 2 0) 73 0 (vp_nar .boolean 0), fl, fr)) rfl ?_
      refine gp_of (fun _ k9 => g_zast (k := 1) rfl rfl (rfl) (by decide) (by decide) k9) ?_
      refine gp_n 4 (j' := 7) (lv' := [some (.ref 70), some (.int 2), none, none]) (st' := [.int 6, .int 2]) (h' := (shT, pm_u2 (pm_u2 (pm_u2 fi 70 2 0) 73 0 (vp_nar .boolean 0)) 73 1 (vp_nar .boolean 0), fl, fr)) rfl ?_
      refine gp_of (fun _ k9 => g_icf rfl (show ¬ ((6 : Int32) ≤ (2 : Int32)) from by decide) k9) ?_
      refine gp_n 1 (j' := 9) (lv' := [some (.ref 70), some (.int 2), none, none]) (st' := [.ref 70]) (h' := (shT, pm_u2 (pm_u2 (pm_u2 fi 70 2 0) 73 0 (vp_nar .boolean 0)) 73 1 (vp_nar .boolean 0), fl, fr)) rfl ?_
      refine gp_of (fun _ k9 => g_getR (q' := 73) rfl rfl (by decide) k5 k9) ?_
      refine gp_n 2 (j' := 12) (lv' := [some (.ref 70), some (.int 2), none, none]) (st' := [.int 0, .int 2, .ref 73]) (h' := (shT, pm_u2 (pm_u2 (pm_u2 fi 70 2 0) 73 0 (vp_nar .boolean 0)) 73 1 (vp_nar .boolean 0), fl, fr)) rfl ?_
      refine gp_of (fun _ k9 => g_zast (k := 2) rfl rfl (rfl) (by decide) (by decide) k9) ?_
      refine gp_n 4 (j' := 7) (lv' := [some (.ref 70), some (.int 3), none, none]) (st' := [.int 6, .int 3]) (h' := (shT, pm_u2 (pm_u2 (pm_u2 (pm_u2 fi 70 2 0) 73 0 (vp_nar .boolean 0)) 73 1 (vp_nar .boolean 0)) 73 2 (vp_nar .boolean 0), fl, fr)) rfl ?_
      refine gp_of (fun _ k9 => g_icf rfl (show ¬ ((6 : Int32) ≤ (3 : Int32)) from by decide) k9) ?_
      refine gp_n 1 (j' := 9) (lv' := [some (.ref 70), some (.int 3), none, none]) (st' := [.ref 70]) (h' := (shT, pm_u2 (pm_u2 (pm_u2 (pm_u2 fi 70 2 0) 73 0 (vp_nar .boolean 0)) 73 1 (vp_nar .boolean 0)) 73 2 (vp_nar .boolean 0), fl, fr)) rfl ?_
      refine gp_of (fun _ k9 => g_getR (q' := 73) rfl rfl (by decide) k5 k9) ?_
      refine gp_n 2 (j' := 12) (lv' := [some (.ref 70), some (.int 3), none, none]) (st' := [.int 0, .int 3, .ref 73]) (h' := (shT, pm_u2 (pm_u2 (pm_u2 (pm_u2 fi 70 2 0) 73 0 (vp_nar .boolean 0)) 73 1 (vp_nar .boolean 0)) 73 2 (vp_nar .boolean 0), fl, fr)) rfl ?_
      refine gp_of (fun _ k9 => g_zast (k := 3) rfl rfl (rfl) (by decide) (by decide) k9) ?_
      refine gp_n 4 (j' := 7) (lv' := [some (.ref 70), some (.int 4), none, none]) (st' := [.int 6, .int 4]) (h' := (shT, pm_u2 (pm_u2 (pm_u2 (pm_u2 (pm_u2 fi 70 2 0) 73 0 (vp_nar .boolean 0)) 73 1 (vp_nar .boolean 0)) 73 2 (vp_nar .boolean 0)) 73 3 (vp_nar .boolean 0), fl, fr)) rfl ?_
      refine gp_of (fun _ k9 => g_icf rfl (show ¬ ((6 : Int32) ≤ (4 : Int32)) from by decide) k9) ?_
      refine gp_n 1 (j' := 9) (lv' := [some (.ref 70), some (.int 4), none, none]) (st' := [.ref 70]) (h' := (shT, pm_u2 (pm_u2 (pm_u2 (pm_u2 (pm_u2 fi 70 2 0) 73 0 (vp_nar .boolean 0)) 73 1 (vp_nar .boolean 0)) 73 2 (vp_nar .boolean 0)) 73 3 (vp_nar .boolean 0), fl, fr)) rfl ?_
      refine gp_of (fun _ k9 => g_getR (q' := 73) rfl rfl (by decide) k5 k9) ?_
      refine gp_n 2 (j' := 12) (lv' := [some (.ref 70), some (.int 4), none, none]) (st' := [.int 0, .int 4, .ref 73]) (h' := (shT, pm_u2 (pm_u2 (pm_u2 (pm_u2 (pm_u2 fi 70 2 0) 73 0 (vp_nar .boolean 0)) 73 1 (vp_nar .boolean 0)) 73 2 (vp_nar .boolean 0)) 73 3 (vp_nar .boolean 0), fl, fr)) rfl ?_
      refine gp_of (fun _ k9 => g_zast (k := 4) rfl rfl (rfl) (by decide) (by decide) k9) ?_
      refine gp_n 4 (j' := 7) (lv' := [some (.ref 70), some (.int 5), none, none]) (st' := [.int 6, .int 5]) (h' := (shT, pm_u2 (pm_u2 (pm_u2 (pm_u2 (pm_u2 (pm_u2 fi 70 2 0) 73 0 (vp_nar .boolean 0)) 73 1 (vp_nar .boolean 0)) 73 2 (vp_nar .boolean 0)) 73 3 (vp_nar .boolean 0)) 73 4 (vp_nar .boolean 0), fl, fr)) rfl ?_
      refine gp_of (fun _ k9 => g_icf rfl (show ¬ ((6 : Int32) ≤ (5 : Int32)) from by decide) k9) ?_
      refine gp_n 1 (j' := 9) (lv' := [some (.ref 70), some (.int 5), none, none]) (st' := [.ref 70]) (h' := (shT, pm_u2 (pm_u2 (pm_u2 (pm_u2 (pm_u2 (pm_u2 fi 70 2 0) 73 0 (vp_nar .boolean 0)) 73 1 (vp_nar .boolean 0)) 73 2 (vp_nar .boolean 0)) 73 3 (vp_nar .boolean 0)) 73 4 (vp_nar .boolean 0), fl, fr)) rfl ?_
      refine gp_of (fun _ k9 => g_getR (q' := 73) rfl rfl (by decide) k5 k9) ?_
      refine gp_n 2 (j' := 12) (lv' := [some (.ref 70), some (.int 5), none, none]) (st' := [.int 0, .int 5, .ref 73]) (h' := (shT, pm_u2 (pm_u2 (pm_u2 (pm_u2 (pm_u2 (pm_u2 fi 70 2 0) 73 0 (vp_nar .boolean 0)) 73 1 (vp_nar .boolean 0)) 73 2 (vp_nar .boolean 0)) 73 3 (vp_nar .boolean 0)) 73 4 (vp_nar .boolean 0), fl, fr)) rfl ?_
      refine gp_of (fun _ k9 => g_zast (k := 5) rfl rfl (rfl) (by decide) (by decide) k9) ?_
      refine gp_n 4 (j' := 7) (lv' := [some (.ref 70), some (.int 6), none, none]) (st' := [.int 6, .int 6]) (h' := (shT, pm_u2 (pm_u2 (pm_u2 (pm_u2 (pm_u2 (pm_u2 (pm_u2 fi 70 2 0) 73 0 (vp_nar .boolean 0)) 73 1 (vp_nar .boolean 0)) 73 2 (vp_nar .boolean 0)) 73 3 (vp_nar .boolean 0)) 73 4 (vp_nar .boolean 0)) 73 5 (vp_nar .boolean 0), fl, fr)) rfl ?_
      refine gp_of (fun _ k9 => g_ict rfl (show (6 : Int32) ≤ (6 : Int32) from by decide) k9) ?_
      refine gp_n 2 (j' := 17) (lv' := [some (.ref 70), some (.int 6), none, none]) (st' := [.long 0, .ref 70]) (h' := (shT, pm_u2 (pm_u2 (pm_u2 (pm_u2 (pm_u2 (pm_u2 (pm_u2 fi 70 2 0) 73 0 (vp_nar .boolean 0)) 73 1 (vp_nar .boolean 0)) 73 2 (vp_nar .boolean 0)) 73 3 (vp_nar .boolean 0)) 73 4 (vp_nar .boolean 0)) 73 5 (vp_nar .boolean 0), fl, fr)) rfl ?_
      refine gp_of (fun _ k9 => g_putL rfl rfl (by decide) k9) ?_
      refine gp_n 2 (j' := 20) (lv' := [some (.ref 70), some (.int 6), none, none]) (st' := [.int 0, .ref 70]) (h' := (shT, pm_u2 (pm_u2 (pm_u2 (pm_u2 (pm_u2 (pm_u2 (pm_u2 fi 70 2 0) 73 0 (vp_nar .boolean 0)) 73 1 (vp_nar .boolean 0)) 73 2 (vp_nar .boolean 0)) 73 3 (vp_nar .boolean 0)) 73 4 (vp_nar .boolean 0)) 73 5 (vp_nar .boolean 0), pm_u2 fl 70 8 0, fr)) rfl ?_
      refine gp_of (fun _ k9 => g_putI rfl (Or.inl rfl) rfl (by decide) k9) ?_
      refine gp_n 2 (j' := 23) (lv' := [some (.ref 70), some (.int 6), none, none]) (st' := [.int 0, .ref 70]) (h' := (shT, pm_u2 (pm_u2 (pm_u2 (pm_u2 (pm_u2 (pm_u2 (pm_u2 (pm_u2 fi 70 2 0) 73 0 (vp_nar .boolean 0)) 73 1 (vp_nar .boolean 0)) 73 2 (vp_nar .boolean 0)) 73 3 (vp_nar .boolean 0)) 73 4 (vp_nar .boolean 0)) 73 5 (vp_nar .boolean 0)) 70 7 0, pm_u2 fl 70 8 0, fr)) rfl ?_
      refine gp_of (fun _ k9 => g_putI rfl (Or.inl rfl) rfl (by decide) k9) ?_
      refine gp_n 2 (j' := 26) (lv' := [some (.ref 70), some (.int 6), none, none]) (st' := [.int 0, .ref 70]) (h' := (shT, pm_u2 (pm_u2 (pm_u2 (pm_u2 (pm_u2 (pm_u2 (pm_u2 (pm_u2 (pm_u2 fi 70 2 0) 73 0 (vp_nar .boolean 0)) 73 1 (vp_nar .boolean 0)) 73 2 (vp_nar .boolean 0)) 73 3 (vp_nar .boolean 0)) 73 4 (vp_nar .boolean 0)) 73 5 (vp_nar .boolean 0)) 70 7 0) 70 9 0, pm_u2 fl 70 8 0, fr)) rfl ?_
      refine gp_of (fun _ k9 => g_putI rfl (Or.inl rfl) rfl (by decide) k9) ?_
      refine gp_n 2 (j' := 29) (lv' := [some (.ref 70), some (.int 6), none, none]) (st' := [.int 500, .ref 70]) (h' := (shT, pm_u2 (pm_u2 (pm_u2 (pm_u2 (pm_u2 (pm_u2 (pm_u2 (pm_u2 (pm_u2 (pm_u2 fi 70 2 0) 73 0 (vp_nar .boolean 0)) 73 1 (vp_nar .boolean 0)) 73 2 (vp_nar .boolean 0)) 73 3 (vp_nar .boolean 0)) 73 4 (vp_nar .boolean 0)) 73 5 (vp_nar .boolean 0)) 70 7 0) 70 9 0) 70 10 0, pm_u2 fl 70 8 0, fr)) rfl ?_
      refine gp_of (fun _ k9 => g_putI rfl (Or.inl rfl) rfl (by decide) k9) ?_
      refine gp_n 2 (j' := 32) (lv' := [some (.ref 70), some (.int 6), none, none]) (st' := [.int 4, .ref 70]) (h' := (shT, pm_u2 (pm_u2 (pm_u2 (pm_u2 (pm_u2 (pm_u2 (pm_u2 (pm_u2 (pm_u2 (pm_u2 (pm_u2 fi 70 2 0) 73 0 (vp_nar .boolean 0)) 73 1 (vp_nar .boolean 0)) 73 2 (vp_nar .boolean 0)) 73 3 (vp_nar .boolean 0)) 73 4 (vp_nar .boolean 0)) 73 5 (vp_nar .boolean 0)) 70 7 0) 70 9 0) 70 10 0) 70 11 500, pm_u2 fl 70 8 0, fr)) rfl ?_
      refine gp_of (fun _ k9 => g_putI rfl (Or.inl rfl) rfl (by decide) k9) ?_
      refine gp_n 4 (j' := 37) (lv' := [some (.ref 70), some (.int 1), some (.int 1), none]) (st' := []) (h' := (shT, pm_u2 (pm_u2 (pm_u2 (pm_u2 (pm_u2 (pm_u2 (pm_u2 (pm_u2 (pm_u2 (pm_u2 (pm_u2 (pm_u2 fi 70 2 0) 73 0 (vp_nar .boolean 0)) 73 1 (vp_nar .boolean 0)) 73 2 (vp_nar .boolean 0)) 73 3 (vp_nar .boolean 0)) 73 4 (vp_nar .boolean 0)) 73 5 (vp_nar .boolean 0)) 70 7 0) 70 9 0) 70 10 0) 70 11 500) 70 12 4, pm_u2 fl 70 8 0, fr)) rfl ?_
      exact g
  obtain ⟨h1, S0, f1, st⟩ := start
  refine EvP.of (es := cd_150) (ml := 4) (lv := [some (.ref 70), none, none, none]) rfl rfl rfl (st _ (gp_mono (fun r => ra_tr f1) ?_))
  obtain ⟨⟨v, h2⟩, ev2, z⟩ := rs_ev ht hF S0
  have I1 := S0.1.1
  have rest : ∀ x : Int32, v = some (.int x) → ∀ Q, GoP pmT none cd_150 42 [some (.ref 70), some (.int 1), some (.int 1), none] [.int x] h2 Q → GoP pmT none cd_150 37 [some (.ref 70), some (.int 1), some (.int 1), none] [] h1 Q := by
    intro x hv Q g
    subst hv
    have ev2 : Ev pmT 151 [.ref 70, .int 1] h1 (some (.int x)) h2 := ev2
    clear z S0 st f1
    obtain ⟨S, fi, fl, fr⟩ := h1
    have hS : S = shT := I1.1
    subst hS
    refine gp_n 1 (j' := 38) (lv' := [some (.ref 70), some (.int 1), some (.int 1), none]) (st' := [.int 1]) (h' := (shT, fi, fl, fr)) rfl ?_
    refine gp_of (fun _ k9 => g_iff rfl (show ¬ ((1 : Int32) = (0 : Int32)) from by decide) k9) ?_
    refine gp_n 2 (j' := 41) (lv' := [some (.ref 70), some (.int 1), some (.int 1), none]) (st' := [.int 1, .ref 70]) (h' := (shT, fi, fl, fr)) rfl ?_
    refine gp_of (fun _ k9 => g_call (y := 151) (as := [.ref 70, .int 1]) (st' := []) rfl rfl (ev2) k9) ?_
    exact g
  unfold parseS
  rcases z with ⟨R, e, z1, z2, z3, z4⟩ | ⟨z1, z2, z3, z4⟩
  · refine rest 1 z2 _ (gp_mono (fun r => ra_tr z4) ?_)
    have z3 : mp_S F t e R h2 := z3
    have he : 0 < e := by
      unfold sizeS at z1
      split at z1
      · cases hn : num F t 2 6 (sk F t cL (sk F t cB 0)) with
        | none => rw [hn] at z1; cases z1
        | some r =>
          rw [hn] at z1
          cases z1
          exact Nat.lt_of_le_of_lt (Nat.zero_le _) (num_e hn).1
      · cases z1
    have g := ra_45 ht hF (t + 1) e R h2 (some (.int 1)) (by omega) (size_ok z1) z3
    rw [z1]
    have g : GoP pmT none cd_150 45 [some (.ref 70), some (.int 1), some (.int 1), none] [] h2 (ra_Q F t h2 ((some (R, e)).bind (fun z => (linesS F t (t + 1) z.1 z.2).bind (fun y => if okR y.1 = true then some y.1 else none)))) := g
    have I2 := z3.1.1
    clear rest z4 z3 S0 st f1 ev2
    obtain ⟨S, fi, fl, fr⟩ := h2
    have hS : S = shT := I2.1
    subst hS
    refine gp_of (fun _ k9 => g_ift rfl (show ¬ (1 : Int32) = (0 : Int32) from by decide) k9) ?_
    exact g
  · refine rest 0 z2 _ ?_
    rw [z1]
    have z3 : HI hdT shT h2 := z3
    refine gp_mono (fun r (y : r = (some (.int 0), h2)) => ⟨by rw [y]; exact z3, by rw [y]; exact z4, Or.inr ⟨rfl, by rw [y]⟩⟩) ?_
    clear rest z4 S0 st f1 ev2
    obtain ⟨S, fi, fl, fr⟩ := h2
    have hS : S = shT := z3.1
    subst hS
    refine gp_of (fun _ k9 => g_iff rfl (show ¬ (¬ (0 : Int32) = (0 : Int32)) from by decide) k9) ?_
    refine gp_n 1 (j' := 44) (lv' := [some (.ref 70), some (.int 1), some (.int 1), none]) (st' := [.int 0]) (h' := (shT, fi, fl, fr)) rfl ?_
    refine gp_done (g_retz rfl (by decide)) ?_
    rfl
