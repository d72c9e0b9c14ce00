def ka_W : WSt := [(70, 53), (91, 9999), (92, 9999)]
theorem hd_91 {b : Nat} (hb : 72 ≤ b) : hd_at hdT shT 91 (b - 72) = hd_at hdT shT 91 b := by
  unfold hd_at
  rw [show shT[91]? = some (0, 1008) from rfl]
  simp only
  rw [if_pos trivial, if_pos trivial, show (hdT.getD 91 []).length = 72 from rfl, Nat.mod_eq_sub_mod hb]
theorem ka_1 {h0 : PmH} {Q : Option Value × PmH → Prop} : ∀ (n b : Nat) (h : PmH), b + n = 864 → 72 ≤ b → HI hdT shT h → fram ka_W h0 h → ph_i h 70 53 = 12 → (∀ h', HI hdT shT h' → fram ka_W h0 h' → ph_i h' 70 53 = 12 → ∃ r, Q r ∧ Go pmT none cd_162 21 [some (.ref 70), some (.int (nI 864))] [] h' r) → ∃ r, Q r ∧ Go pmT none cd_162 6 [some (.ref 70), some (.int (nI b))] [] h r := by
  intro n
  induction n with
  | zero =>
    intro b h hb hb2 hI hF e53 k
    have : b = 864 := by omega
    subst this
    obtain ⟨r, q, g⟩ := k h hI hF e53
    refine ⟨r, q, ?_⟩
    refine g_n 2 (j' := 8) (lv' := [some (.ref 70), some (.int (nI 864))]) (st' := [.int 864, .int (nI 864)]) (h' := h) rfl ?_
    refine g_ict rfl (show (864 : Int32) ≤ (nI 864) from by decide) ?_
    exact g
  | succ n ih =>
    intro b h hb hb2 hI hF e53 k
    obtain ⟨S, fi, fl, fr⟩ := h
    have hS : S = shT := hI.1
    subst hS
    have r_70_50 : fr 70 50 = some 91 := hi_r hI rfl rfl (by decide)
    have i1 : HI hdT shT (shT, pm_u2 fi 91 (b - 72) (fi 91 b), fl, fr) := HI_wi (h := (shT, fi, fl, fr)) hI (fun z => by
      rw [hd_91 hb2] at z ⊢
      have h9 := hI.2 91 b 0 1008 rfl (by omega)
      unfold hd_ok at h9
      rw [z] at h9
      exact h9)
    obtain ⟨r, q, g⟩ := ih (b + 1) _ (by omega) (by omega) i1 (fram.tr hF (fram_wi (h := (shT, fi, fl, fr)) (p := 91) (s := b - 72) (x := fi 91 b) (arW_in (by decide)))) (by
      show pm_u2 fi 91 (b - 72) (fi 91 b) 70 53 = 12
      simp [pm_u2]
      exact e53) k
    refine ⟨r, q, ?_⟩
    refine g_n 2 (j' := 8) (lv' := [some (.ref 70), some (.int (nI b))]) (st' := [.int 864, .int (nI b)]) (h' := (shT, fi, fl, fr)) rfl ?_
    refine g_icf rfl (show ¬ ((864 : Int32) ≤ (nI b)) from nI_ge (b := 864) (by omega) (by decide)) ?_
    refine g_n 1 (j' := 10) (lv' := [some (.ref 70), some (.int (nI b))]) (st' := [.ref 70]) (h' := (shT, fi, fl, fr)) rfl ?_
    refine g_getR (q' := 91) rfl rfl (by decide) r_70_50 ?_
    refine g_n 4 (j' := 15) (lv' := [some (.ref 70), some (.int (nI b))]) (st' := [.ref 70, .int ((nI b) - 72), .ref 91]) (h' := (shT, fi, fl, fr)) rfl ?_
    refine g_getR (q' := 91) rfl rfl (by decide) r_70_50 ?_
    refine g_n 1 (j' := 17) (lv' := [some (.ref 70), some (.int (nI b))]) (st' := [.int (nI b), .ref 91, .int ((nI b) - 72), .ref 91]) (h' := (shT, fi, fl, fr)) rfl ?_
    refine g_iald (k := b) (x := fi 91 b) rfl rfl (rfl) (by omega) (by decide) (rfl) ?_
    refine g_iast (k := b - 72) rfl rfl (pk_sub (b := 72) hb2) (by omega) (by decide) ?_
    refine g_n 2 (j' := 6) (lv' := [some (.ref 70), some (.int ((nI b) + 1))]) (st' := []) (h' := (shT, pm_u2 fi 91 (b - 72) (fi 91 b), fl, fr)) rfl ?_
    rw [nI_1]
    exact g
theorem ka_2 {h0 : PmH} {Q : Option Value × PmH → Prop} : ∀ (n b : Nat) (h : PmH), b + n = 12 → 1 ≤ b → HI hdT shT h → fram ka_W h0 h → ph_i h 70 53 = 12 → (∀ h', HI hdT shT h' → fram ka_W h0 h' → ph_i h' 70 53 = 12 → ∃ r, Q r ∧ Go pmT none cd_162 38 [some (.ref 70), some (.int (nI 12))] [] h' r) → ∃ r, Q r ∧ Go pmT none cd_162 23 [some (.ref 70), some (.int (nI b))] [] h r := by
  intro n
  induction n with
  | zero =>
    intro b h hb hb2 hI hF e53 k
    have : b = 12 := by omega
    subst this
    obtain ⟨r, q, g⟩ := k h hI hF e53
    refine ⟨r, q, ?_⟩
    refine g_n 2 (j' := 25) (lv' := [some (.ref 70), some (.int (nI 12))]) (st' := [.int 12, .int (nI 12)]) (h' := h) rfl ?_
    refine g_ict rfl (show (12 : Int32) ≤ (nI 12) from by decide) ?_
    exact g
  | succ n ih =>
    intro b h hb hb2 hI hF e53 k
    obtain ⟨S, fi, fl, fr⟩ := h
    have hS : S = shT := hI.1
    subst hS
    have r_70_51 : fr 70 51 = some 92 := hi_r hI rfl rfl (by decide)
    have i1 : HI hdT shT (shT, fi, pm_u2 fl 92 (b - 1) (fl 92 b), fr) := hI
    obtain ⟨r, q, g⟩ := ih (b + 1) _ (by omega) (by omega) i1 (fram.tr hF (fram_wl (h := (shT, fi, fl, fr)) (p := 92) (s := b - 1) (x := fl 92 b) (arW_in (by decide)))) e53 k
    refine ⟨r, q, ?_⟩
    refine g_n 2 (j' := 25) (lv' := [some (.ref 70), some (.int (nI b))]) (st' := [.int 12, .int (nI b)]) (h' := (shT, fi, fl, fr)) rfl ?_
    refine g_icf rfl (show ¬ ((12 : Int32) ≤ (nI b)) from nI_ge (b := 12) (by omega) (by decide)) ?_
    refine g_n 1 (j' := 27) (lv' := [some (.ref 70), some (.int (nI b))]) (st' := [.ref 70]) (h' := (shT, fi, fl, fr)) rfl ?_
    refine g_getR (q' := 92) rfl rfl (by decide) r_70_51 ?_
    refine g_n 4 (j' := 32) (lv' := [some (.ref 70), some (.int (nI b))]) (st' := [.ref 70, .int ((nI b) - 1), .ref 92]) (h' := (shT, fi, fl, fr)) rfl ?_
    refine g_getR (q' := 92) rfl rfl (by decide) r_70_51 ?_
    refine g_n 1 (j' := 34) (lv' := [some (.ref 70), some (.int (nI b))]) (st' := [.int (nI b), .ref 92, .int ((nI b) - 1), .ref 92]) (h' := (shT, fi, fl, fr)) rfl ?_
    refine g_lald (k := b) (x := fl 92 b) rfl rfl (rfl) (by omega) (by decide) (rfl) ?_
    refine g_last (k := b - 1) rfl rfl (pk_sub (b := 1) hb2) (by omega) (by decide) ?_
    refine g_n 2 (j' := 23) (lv' := [some (.ref 70), some (.int ((nI b) + 1))]) (st' := []) (h' := (shT, fi, pm_u2 fl 92 (b - 1) (fl 92 b), fr)) rfl ?_
    rw [nI_1]
    exact g
theorem keeps_ev {h : PmH} (hI : HI hdT shT h) {u : Nat} (hu : u ≤ 13) : ∃ h', Ev pmT 163 [.ref 70, .int (nI u)] h none h' ∧ HI hdT shT h' ∧ fram [(91, 9999), (92, 9999)] h h' := by
  obtain ⟨v, h', e1, ⟨P, P1, P2, -⟩, e3, e4⟩ := vN_294 [.ref 70, .int (nI u)] h (fun _ _ => ⟨gv_rf, gv_n0 (N := 13) hu (by decide), trivial⟩) (go_nil h) hI
  have hn : v = none := by
    have : ∀ Q ∈ in_p iN_294, Q.1 = none := by decide +kernel
    have h9 := this P P1
    unfold pv at P2
    rw [h9] at P2
    exact P2
  subst hn
  exact ⟨h', e1, e3, fram.up (by decide +kernel) e4⟩
theorem ka_3 {h0 : PmH} {u : Nat} {l : Option Value} (hu : u ≤ 11) {h : PmH} (hI : HI hdT shT h) (hF : fram ka_W h0 h) (e53 : ph_i h 70 53 = nI u) : ∃ h', HI hdT shT h' ∧ fram ka_W h0 h' ∧ Go pmT none cd_162 44 [some (.ref 70), l] [] h (none, h') := by
  obtain ⟨h1, e1, e2, e3⟩ := keeps_ev hI (u := u) (by omega)
  have f53 : ph_i h1 70 53 = nI u := ((e3 70 53 rfl).1).trans e53
  obtain ⟨S, fi, fl, fr⟩ := h
  have hS : S = shT := hI.1
  subst hS
  obtain ⟨S1, fi1, fl1, fr1⟩ := h1
  have hS1 : S1 = shT := e2.1
  subst hS1
  have e53 : fi 70 53 = nI u := e53
  have f53 : fi1 70 53 = nI u := f53
  have i1 : HI hdT shT (shT, pm_u2 fi1 70 53 (nI (u + 1)), fl1, fr1) := HI_wi (h := (shT, fi1, fl1, fr1)) e2 (fun _ => by
    rw [show hd_at hdT shT 70 53 = (0, 0, 12, []) from rfl]
    show (0 : Int) ≤ _ ∧ _ ≤ (12 : Int)
    rw [nI_toInt (by omega)]
    omega)
  refine ⟨_, i1, fram.tr hF (fram.tr (fram.up (by decide) e3) (fram_wi (h := (shT, fi1, fl1, fr1)) (p := 70) (s := 53) (x := nI (u + 1)) (by decide))), ?_⟩
  rw [← nI_1 u]
  refine g_n 2 (j' := 46) (lv' := [some (.ref 70), l]) (st' := [.ref 70, .ref 70]) (h' := (shT, fi, fl, fr)) rfl ?_
  refine g_getI (x := nI u) rfl (Or.inl rfl) rfl (by decide) (e53) ?_
  refine g_callv (y := 163) (as := [.ref 70, .int (nI u)]) (st' := []) rfl rfl (e1) ?_
  refine g_n 2 (j' := 50) (lv' := [some (.ref 70), l]) (st' := [.ref 70, .ref 70]) (h' := (shT, fi1, fl1, fr1)) rfl ?_
  refine g_getI (x := nI u) rfl (Or.inl rfl) rfl (by decide) (f53) ?_
  refine g_n 2 (j' := 53) (lv' := [some (.ref 70), l]) (st' := [.int ((nI u) + 1), .ref 70]) (h' := (shT, fi1, fl1, fr1)) rfl ?_
  refine g_putI rfl (Or.inl rfl) rfl (by decide) ?_
  exact g_vret rfl
def iM_keepsAct : Inst := (162, [(zr [70])], [], [(none, [], [])], ka_W)
theorem vM_keepsAct : iv pmT hdT shT iM_keepsAct := by
  intro as h hg ho hI
  obtain ⟨v1, s1, rfl, g1, g⟩ := gst_c (hg [] h)
  have := gst_z g
  subst this
  obtain ⟨p, hp, rfl⟩ := gv_k2 rfl g1
  have hp := List.mem_singleton.mp hp
  subst hp
  obtain ⟨b1, b2⟩ := hi_i (p := 70) (c := 53) (lo := 0) (hi := 12) hI rfl rfl (by decide)
  obtain ⟨U, eU, hU⟩ := i32_to (n := 12) b1 b2
  have main : ∃ h', HI hdT shT h' ∧ fram ka_W h h' ∧ Go pmT none cd_162 0 [some (.ref 70), none] [] h (none, h') := by
    by_cases h12 : U = 12
    · subst h12
      obtain ⟨r, ⟨h', q1, q2, q3⟩, g⟩ := ka_1 (h0 := h) (Q := fun r => ∃ h', HI hdT shT h' ∧ fram ka_W h h' ∧ r = (none, h')) 792 72 h (by omega) (by omega) hI (fram.rf _ _) eU (fun h1 i1 f1 t1 => by
        obtain ⟨r, q, g⟩ := ka_2 (h0 := h) (Q := fun r => ∃ h', HI hdT shT h' ∧ fram ka_W h h' ∧ r = (none, h')) 11 1 h1 (by omega) (by omega) i1 f1 t1 (fun h2 i2 f2 t2 => by
          obtain ⟨S2, fi2, fl2, fr2⟩ := h2
          have hS2 : S2 = shT := i2.1
          subst hS2
          have t2 : fi2 70 53 = 12 := t2
          have i3 : HI hdT shT (shT, pm_u2 fi2 70 53 (12 - 1), fl2, fr2) := HI_wi (h := (shT, fi2, fl2, fr2)) i2 (fun _ => by
            rw [show hd_at hdT shT 70 53 = (0, 0, 12, []) from rfl]
            decide)
          obtain ⟨h', j1, j2, g⟩ := ka_3 (h0 := h) (u := 11) (l := some (.int (nI 12))) (by omega) i3 (fram.tr f2 (fram_wi (h := (shT, fi2, fl2, fr2)) (p := 70) (s := 53) (x := 12 - 1) (by decide))) (by
            show pm_u2 fi2 70 53 (12 - 1) 70 53 = nI 11
            simp [pm_u2]
            decide)
          refine ⟨_, ⟨h', j1, j2, rfl⟩, ?_⟩
          refine g_n 2 (j' := 40) (lv' := [some (.ref 70), some (.int (nI 12))]) (st' := [.ref 70, .ref 70]) (h' := (shT, fi2, fl2, fr2)) rfl ?_
          refine g_getI (x := 12) rfl (Or.inl rfl) rfl (by decide) (t2) ?_
          refine g_n 2 (j' := 43) (lv' := [some (.ref 70), some (.int (nI 12))]) (st' := [.int (12 - 1), .ref 70]) (h' := (shT, fi2, fl2, fr2)) rfl ?_
          refine g_putI rfl (Or.inl rfl) rfl (by decide) ?_
          exact g)
        refine ⟨r, q, ?_⟩
        refine g_n 2 (j' := 23) (lv' := [some (.ref 70), some (.int (nI 1))]) (st' := []) (h' := h1) rfl ?_
        exact g)
      subst q3
      refine ⟨h', q1, q2, ?_⟩
      obtain ⟨S, fi, fl, fr⟩ := h
      have hS : S = shT := hI.1
      subst hS
      have eU : fi 70 53 = 12 := eU
      refine g_n 1 (j' := 1) (lv' := [some (.ref 70), none]) (st' := [.ref 70]) (h' := (shT, fi, fl, fr)) rfl ?_
      refine g_getI (x := 12) rfl (Or.inl rfl) rfl (by decide) (eU) ?_
      refine g_n 1 (j' := 3) (lv' := [some (.ref 70), none]) (st' := [.int 12, .int 12]) (h' := (shT, fi, fl, fr)) rfl ?_
      refine g_icf rfl (show ¬ (¬ (12 : Int32) = (12 : Int32)) from fun z => z rfl) ?_
      refine g_n 2 (j' := 6) (lv' := [some (.ref 70), some (.int (nI 72))]) (st' := []) (h' := (shT, fi, fl, fr)) rfl ?_
      exact g
    · obtain ⟨h', j1, j2, g⟩ := ka_3 (h0 := h) (u := U) (l := none) (by omega) hI (fram.rf _ _) eU
      refine ⟨h', j1, j2, ?_⟩
      obtain ⟨S, fi, fl, fr⟩ := h
      have hS : S = shT := hI.1
      subst hS
      have eU : fi 70 53 = nI U := eU
      refine g_n 1 (j' := 1) (lv' := [some (.ref 70), none]) (st' := [.ref 70]) (h' := (shT, fi, fl, fr)) rfl ?_
      refine g_getI (x := nI U) rfl (Or.inl rfl) rfl (by decide) (eU) ?_
      refine g_n 1 (j' := 3) (lv' := [some (.ref 70), none]) (st' := [.int 12, .int (nI U)]) (h' := (shT, fi, fl, fr)) rfl ?_
      refine g_ict rfl (show ¬ (nI U) = (12 : Int32) from fun z => h12 ((nI_eq (b := 12) (by omega) (by decide)).mp z)) ?_
      exact g
  obtain ⟨h', j1, j2, g⟩ := main
  exact ⟨none, h', Ev.of (es := cd_162) (ml := 2) (lv := [some (.ref 70), none]) rfl rfl rfl g, ⟨(none, [], []), List.mem_singleton.mpr rfl, rfl, fun q hq => absurd hq List.not_mem_nil, fun q hq => absurd hq List.not_mem_nil⟩, j1, j2⟩
