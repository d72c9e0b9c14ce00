theorem rd_out {h0 : PmH} {ms N : Nat} (hms : ms ≤ 8) (hN : N ≤ 64) (eN : ph_i h0 70 14 = nI N) : ∀ (n c : Nat) (h : PmH) (l3 l4 l5 l6 : Option Value), c + n = N → HI hdT shT h → fram rd_W h0 h → ∃ h', HI hdT shT h' ∧ fram rd_W h0 h' ∧ Go pmT none cd_191 15 [some (.ref 70), some (.int (nI ms)), some (.int (nI c)), l3, l4, l5, l6] [] h (none, h') := by
  intro n
  induction n with
  | zero =>
    intro c h l3 l4 l5 l6 hn hI hF
    have : c = N := by omega
    subst this
    refine ⟨h, hI, hF, ?_⟩
    obtain ⟨S, fi, fl, fr⟩ := h
    have hS : S = shT := hI.1
    subst hS
    have en : fi 70 14 = nI c := ((hF 70 14 rfl).1).trans eN
    refine g_n 2 (j' := 17) (lv' := [some (.ref 70), some (.int (nI ms)), some (.int (nI c)), l3, l4, l5, l6]) (st' := [.ref 70, .int (nI c)]) (h' := (shT, fi, fl, fr)) rfl ?_
    refine g_getI (x := nI c) rfl (Or.inl rfl) rfl (by decide) (en) ?_
    refine g_ict rfl (show (nI c) ≤ (nI c) from nI_le (Nat.le_refl _) (by omega)) ?_
    exact g_vret rfl
  | succ n ih =>
    intro c h l3 l4 l5 l6 hn hI hF
    have hlt : c < N := by omega
    obtain ⟨M, P, h1, b1, b2, b3, b4, b5, b6⟩ := branches_ev hI (c := c) (by omega)
    have hK : ph_l h1 70 21 = ph_l h 70 21 := (b3 70 21 rfl).2.1
    obtain ⟨S, fi, fl, fr⟩ := h
    have hS : S = shT := hI.1
    subst hS
    obtain ⟨S1, fi1, fl1, fr1⟩ := h1
    have hS1 : S1 = shT := b2.1
    subst hS1
    have en : fi 70 14 = nI N := ((hF 70 14 rfl).1).trans eN
    have hF1 : fram rd_W h0 (shT, fi1, fl1, fr1) := fram.tr hF (fram.up (by decide) b3)
    have tail : ∀ (t : Int32) (st : Nat), (t = 0 ∨ t = 1) → st ≤ 8 → st ≤ M → M ≤ 16 → ∃ h', HI hdT shT h' ∧ fram rd_W h0 h' ∧ Go pmT none cd_191 39 [some (.ref 70), some (.int (nI ms)), some (.int (nI c)), some (.int (nI M)), some (.int t), some (.int (nI st)), some (.int (nI 0))] [] (shT, fi1, fl1, fr1) (none, h') := by
      intro t st ht h8 hsm hm
      obtain ⟨r, ⟨h', q1, q2, q3⟩, g⟩ := rd_in (h0 := h0) (ms := ms) (Q := fun r => ∃ h', HI hdT shT h' ∧ fram rd_W h0 h' ∧ r = (none, h')) (show c < 64 by omega) ht hm h8 hsm st 0 (shT, fi1, fl1, fr1) (by omega) ⟨b2, hF1, by
        rw [cnt_none M b4]
        exact Nat.le_refl 0⟩ (fun h2 i2 f2 => by
        obtain ⟨S2, fi2, fl2, fr2⟩ := h2
        have hS2 : S2 = shT := i2.1
        subst hS2
        have r_70_31 : fr2 70 31 = some 81 := hi_r i2 rfl rfl (by decide)
        have ei : (nI st).toInt = (st : Int) := nI_toInt (by omega)
        have i3 : HI hdT shT (shT, pm_u2 fi2 70 25 (nI st), fl2, fr2) := HI_wi (h := (shT, fi2, fl2, fr2)) i2 (fun _ => by
          rw [show hd_at hdT shT 70 25 = (0, 0, 8, []) from rfl]
          show (0 : Int) ≤ _ ∧ _ ≤ (8 : Int)
          omega)
        have i4 : HI hdT shT (shT, pm_u2 (pm_u2 fi2 70 25 (nI st)) 81 c (nI st), fl2, fr2) := HI_wi (h := (shT, pm_u2 fi2 70 25 (nI st), fl2, fr2)) i3 (fun _ => by
          rw [hd_arr0 (show shT[81]? = some (0, 64) from rfl) rfl, show hd_at hdT shT 81 0 = (0, 0, 8, []) from rfl]
          show (0 : Int) ≤ _ ∧ _ ≤ (8 : Int)
          omega)
        have f4 : fram rd_W h0 (shT, pm_u2 (pm_u2 fi2 70 25 (nI st)) 81 c (nI st), fl2, fr2) := fram.tr f2 (fram.tr (fram_wi (h := (shT, fi2, fl2, fr2)) (p := 70) (s := 25) (x := nI st) (by decide)) (fram_wi (h := (shT, pm_u2 fi2 70 25 (nI st), fl2, fr2)) (p := 81) (s := c) (x := nI st) (arW_in (by decide))))
        obtain ⟨h', j1, j2, g'⟩ := ih (c + 1) _ (some (.int (nI M))) (some (.int t)) (some (.int (nI st))) (some (.int (nI st))) (by omega) i4 f4
        refine ⟨_, ⟨h', j1, j2, rfl⟩, ?_⟩
        refine g_n 2 (j' := 57) (lv' := [some (.ref 70), some (.int (nI ms)), some (.int (nI c)), some (.int (nI M)), some (.int t), some (.int (nI st)), some (.int (nI st))]) (st' := [.int (nI st), .ref 70]) (h' := (shT, fi2, fl2, fr2)) rfl ?_
        refine g_putI rfl (Or.inl rfl) rfl (by decide) ?_
        refine g_n 1 (j' := 59) (lv' := [some (.ref 70), some (.int (nI ms)), some (.int (nI c)), some (.int (nI M)), some (.int t), some (.int (nI st)), some (.int (nI st))]) (st' := [.ref 70]) (h' := (shT, pm_u2 fi2 70 25 (nI st), fl2, fr2)) rfl ?_
        refine g_getR (q' := 81) rfl rfl (by decide) r_70_31 ?_
        refine g_n 2 (j' := 62) (lv' := [some (.ref 70), some (.int (nI ms)), some (.int (nI c)), some (.int (nI M)), some (.int t), some (.int (nI st)), some (.int (nI st))]) (st' := [.int (nI st), .int (nI c), .ref 81]) (h' := (shT, pm_u2 fi2 70 25 (nI st), fl2, fr2)) rfl ?_
        refine g_iast (k := c) rfl rfl (rfl) (by omega) (by decide) ?_
        refine g_n 2 (j' := 15) (lv' := [some (.ref 70), some (.int (nI ms)), some (.int ((nI c) + 1)), some (.int (nI M)), some (.int t), some (.int (nI st)), some (.int (nI st))]) (st' := []) (h' := (shT, pm_u2 (pm_u2 fi2 70 25 (nI st)) 81 c (nI st), fl2, fr2)) rfl ?_
        rw [nI_1]
        exact g')
      rw [q3] at g
      exact ⟨h', q1, q2, g⟩
    rcases b6 with ⟨z, rfl⟩ | ⟨z, rfl⟩
    · obtain ⟨h', q1, q2, g⟩ := tail 0 M (Or.inl rfl) (by omega) (Nat.le_refl _) (by omega)
      refine ⟨h', q1, q2, ?_⟩
      refine g_n 2 (j' := 17) (lv' := [some (.ref 70), some (.int (nI ms)), some (.int (nI c)), l3, l4, l5, l6]) (st' := [.ref 70, .int (nI c)]) (h' := (shT, fi, fl, fr)) rfl ?_
      refine g_getI (x := nI N) rfl (Or.inl rfl) rfl (by decide) (en) ?_
      refine g_icf rfl (show ¬ ((nI N) ≤ (nI c)) from nI_ge hlt (by omega)) ?_
      refine g_n 2 (j' := 21) (lv' := [some (.ref 70), some (.int (nI ms)), some (.int (nI c)), l3, l4, l5, l6]) (st' := [.int (nI c), .ref 70]) (h' := (shT, fi, fl, fr)) rfl ?_
      refine g_call (y := 192) (as := [.ref 70, .int (nI c)]) (st' := []) rfl rfl (b1) ?_
      refine g_n 2 (j' := 24) (lv' := [some (.ref 70), some (.int (nI ms)), some (.int (nI c)), some (.int (nI M)), l4, l5, l6]) (st' := [.ref 70]) (h' := (shT, fi1, fl1, fr1)) rfl ?_
      refine g_getL (x := fl 70 21) rfl rfl (by decide) (hK) ?_
      refine g_n 1 (j' := 26) (lv' := [some (.ref 70), some (.int (nI ms)), some (.int (nI c)), some (.int (nI M)), l4, l5, l6]) (st' := [.int (nI c), .long (fl 70 21)]) (h' := (shT, fi1, fl1, fr1)) rfl ?_
      refine g_call (y := 161) (as := [.long (fl 70 21), .int (nI c)]) (st' := []) rfl rfl (z ▸ has_ev) ?_
      refine g_n 2 (j' := 29) (lv' := [some (.ref 70), some (.int (nI ms)), some (.int (nI c)), some (.int (nI M)), some (.int 0), l5, l6]) (st' := [.int 0]) (h' := (shT, fi1, fl1, fr1)) rfl ?_
      refine g_ift rfl (show (0 : Int32) = (0 : Int32) from rfl) ?_
      refine g_n 4 (j' := 39) (lv' := [some (.ref 70), some (.int (nI ms)), some (.int (nI c)), some (.int (nI M)), some (.int 0), some (.int (nI M)), some (.int (nI 0))]) (st' := []) (h' := (shT, fi1, fl1, fr1)) rfl ?_
      exact g
    · by_cases hle : 2 * P ≤ ms
      · obtain ⟨h', q1, q2, g⟩ := tail 1 (2 * P) (Or.inr rfl) (by omega) (Nat.le_refl _) (by omega)
        refine ⟨h', q1, q2, ?_⟩
        refine g_n 2 (j' := 17) (lv' := [some (.ref 70), some (.int (nI ms)), some (.int (nI c)), l3, l4, l5, l6]) (st' := [.ref 70, .int (nI c)]) (h' := (shT, fi, fl, fr)) rfl ?_
        refine g_getI (x := nI N) rfl (Or.inl rfl) rfl (by decide) (en) ?_
        refine g_icf rfl (show ¬ ((nI N) ≤ (nI c)) from nI_ge hlt (by omega)) ?_
        refine g_n 2 (j' := 21) (lv' := [some (.ref 70), some (.int (nI ms)), some (.int (nI c)), l3, l4, l5, l6]) (st' := [.int (nI c), .ref 70]) (h' := (shT, fi, fl, fr)) rfl ?_
        refine g_call (y := 192) (as := [.ref 70, .int (nI c)]) (st' := []) rfl rfl (b1) ?_
        refine g_n 2 (j' := 24) (lv' := [some (.ref 70), some (.int (nI ms)), some (.int (nI c)), some (.int (nI (2 * P))), l4, l5, l6]) (st' := [.ref 70]) (h' := (shT, fi1, fl1, fr1)) rfl ?_
        refine g_getL (x := fl 70 21) rfl rfl (by decide) (hK) ?_
        refine g_n 1 (j' := 26) (lv' := [some (.ref 70), some (.int (nI ms)), some (.int (nI c)), some (.int (nI (2 * P))), l4, l5, l6]) (st' := [.int (nI c), .long (fl 70 21)]) (h' := (shT, fi1, fl1, fr1)) rfl ?_
        refine g_call (y := 161) (as := [.long (fl 70 21), .int (nI c)]) (st' := []) rfl rfl (z ▸ has_ev) ?_
        refine g_n 2 (j' := 29) (lv' := [some (.ref 70), some (.int (nI ms)), some (.int (nI c)), some (.int (nI (2 * P))), some (.int 1), l5, l6]) (st' := [.int 1]) (h' := (shT, fi1, fl1, fr1)) rfl ?_
        refine g_iff rfl (show ¬ ((1 : Int32) = (0 : Int32)) from by decide) ?_
        refine g_n 2 (j' := 32) (lv' := [some (.ref 70), some (.int (nI ms)), some (.int (nI c)), some (.int (nI (2 * P))), some (.int 1), l5, l6]) (st' := [.int (nI ms), .int (nI (2 * P))]) (h' := (shT, fi1, fl1, fr1)) rfl ?_
        refine g_ict rfl (show (nI (2 * P)) ≤ (nI ms) from nI_le hle (by omega)) ?_
        refine g_n 4 (j' := 39) (lv' := [some (.ref 70), some (.int (nI ms)), some (.int (nI c)), some (.int (nI (2 * P))), some (.int 1), some (.int (nI (2 * P))), some (.int (nI 0))]) (st' := []) (h' := (shT, fi1, fl1, fr1)) rfl ?_
        exact g
      · obtain ⟨h', q1, q2, g⟩ := tail 1 ms (Or.inr rfl) hms (by omega) (by omega)
        refine ⟨h', q1, q2, ?_⟩
        refine g_n 2 (j' := 17) (lv' := [some (.ref 70), some (.int (nI ms)), some (.int (nI c)), l3, l4, l5, l6]) (st' := [.ref 70, .int (nI c)]) (h' := (shT, fi, fl, fr)) rfl ?_
        refine g_getI (x := nI N) rfl (Or.inl rfl) rfl (by decide) (en) ?_
        refine g_icf rfl (show ¬ ((nI N) ≤ (nI c)) from nI_ge hlt (by omega)) ?_
        refine g_n 2 (j' := 21) (lv' := [some (.ref 70), some (.int (nI ms)), some (.int (nI c)), l3, l4, l5, l6]) (st' := [.int (nI c), .ref 70]) (h' := (shT, fi, fl, fr)) rfl ?_
        refine g_call (y := 192) (as := [.ref 70, .int (nI c)]) (st' := []) rfl rfl (b1) ?_
        refine g_n 2 (j' := 24) (lv' := [some (.ref 70), some (.int (nI ms)), some (.int (nI c)), some (.int (nI (2 * P))), l4, l5, l6]) (st' := [.ref 70]) (h' := (shT, fi1, fl1, fr1)) rfl ?_
        refine g_getL (x := fl 70 21) rfl rfl (by decide) (hK) ?_
        refine g_n 1 (j' := 26) (lv' := [some (.ref 70), some (.int (nI ms)), some (.int (nI c)), some (.int (nI (2 * P))), l4, l5, l6]) (st' := [.int (nI c), .long (fl 70 21)]) (h' := (shT, fi1, fl1, fr1)) rfl ?_
        refine g_call (y := 161) (as := [.long (fl 70 21), .int (nI c)]) (st' := []) rfl rfl (z ▸ has_ev) ?_
        refine g_n 2 (j' := 29) (lv' := [some (.ref 70), some (.int (nI ms)), some (.int (nI c)), some (.int (nI (2 * P))), some (.int 1), l5, l6]) (st' := [.int 1]) (h' := (shT, fi1, fl1, fr1)) rfl ?_
        refine g_iff rfl (show ¬ ((1 : Int32) = (0 : Int32)) from by decide) ?_
        refine g_n 2 (j' := 32) (lv' := [some (.ref 70), some (.int (nI ms)), some (.int (nI c)), some (.int (nI (2 * P))), some (.int 1), l5, l6]) (st' := [.int (nI ms), .int (nI (2 * P))]) (h' := (shT, fi1, fl1, fr1)) rfl ?_
        refine g_icf rfl (show ¬ ((nI (2 * P)) ≤ (nI ms)) from nI_ge (by omega) (by omega)) ?_
        refine g_n 5 (j' := 39) (lv' := [some (.ref 70), some (.int (nI ms)), some (.int (nI c)), some (.int (nI (2 * P))), some (.int 1), some (.int (nI ms)), some (.int (nI 0))]) (st' := []) (h' := (shT, fi1, fl1, fr1)) rfl ?_
        exact g
def iM_reading : Inst := (191, [(zr [70]), (zi 0 8)], [], [(none, [], [])], rd_W)
theorem vM_reading : iv pmT hdT shT iM_reading := by
  intro as h hg ho hI
  obtain ⟨v1, s1, rfl, g1, g⟩ := gst_c (hg [] h)
  obtain ⟨v2, s2, rfl, g2, g⟩ := gst_c g
  have := gst_z g
  subst this
  obtain ⟨p, hp, rfl⟩ := gv_k2 rfl g1
  have hp := List.mem_singleton.mp hp
  subst hp
  obtain ⟨x, rfl, x1, x2, -⟩ := gv_k0 rfl g2
  obtain ⟨ms, rfl, hms⟩ := i32_to (n := 8) x1 x2
  obtain ⟨b1, b2⟩ := hi_i (p := 70) (c := 14) (lo := 0) (hi := 64) hI rfl rfl (by decide)
  obtain ⟨N, eN, hN⟩ := i32_to (n := 64) b1 b2
  obtain ⟨S, fi, fl, fr⟩ := h
  have hS : S = shT := hI.1
  subst hS
  have r_70_26 : fr 70 26 = some 76 := hi_r hI rfl rfl (by decide)
  have r_70_27 : fr 70 27 = some 77 := hi_r hI rfl rfl (by decide)
  have i1 : HI hdT shT (shT, pm_u2 fi 70 25 1, pm_u2 fl 76 0 0, fr) := HI_wi (h := (shT, fi, pm_u2 fl 76 0 0, fr)) hI (fun _ => by
    rw [show hd_at hdT shT 70 25 = (0, 0, 8, []) from rfl]
    decide)
  have i2 : HI hdT shT (shT, pm_u2 (pm_u2 fi 70 25 1) 77 0 0, pm_u2 fl 76 0 0, fr) := hi_free (h := (shT, pm_u2 fi 70 25 1, pm_u2 fl 76 0 0, fr)) (p := 77) i1 rfl rfl rfl
  have f2 : fram rd_W (shT, fi, fl, fr) (shT, pm_u2 (pm_u2 fi 70 25 1) 77 0 0, pm_u2 fl 76 0 0, fr) := fram.tr (fram_wl (h := (shT, fi, fl, fr)) (p := 76) (s := 0) (x := 0) (by decide)) (fram.tr (fram_wi (h := (shT, fi, pm_u2 fl 76 0 0, fr)) (p := 70) (s := 25) (x := 1) (by decide)) (fram_wi (h := (shT, pm_u2 fi 70 25 1, pm_u2 fl 76 0 0, fr)) (p := 77) (s := 0) (x := 0) (by decide)))
  obtain ⟨h', q1, q2, g⟩ := rd_out (h0 := (shT, fi, fl, fr)) hms hN eN N 0 _ none none none none (by omega) i2 f2
  refine ⟨none, h', Ev.of (es := cd_191) (ml := 7) (lv := [some (.ref 70), some (.int (nI ms)), none, none, none, none, none]) rfl rfl rfl ?_, ⟨(none, [], []), List.mem_singleton.mpr rfl, rfl, fun q hq => absurd hq List.not_mem_nil, fun q hq => absurd hq List.not_mem_nil⟩, q1, q2⟩
  refine g_n 2 (j' := 2) (lv' := [some (.ref 70), some (.int (nI ms)), none, none, none, none, none]) (st' := [.int 1, .ref 70]) (h' := (shT, fi, fl, fr)) rfl ?_
  refine g_putI rfl (Or.inl rfl) rfl (by decide) ?_
  refine g_n 1 (j' := 4) (lv' := [some (.ref 70), some (.int (nI ms)), none, none, none, none, none]) (st' := [.ref 70]) (h' := (shT, pm_u2 fi 70 25 1, fl, fr)) rfl ?_
  refine g_getR (q' := 76) rfl rfl (by decide) r_70_26 ?_
  refine g_n 2 (j' := 7) (lv' := [some (.ref 70), some (.int (nI ms)), none, none, none, none, none]) (st' := [.long 0, .int 0, .ref 76]) (h' := (shT, pm_u2 fi 70 25 1, fl, fr)) rfl ?_
  refine g_last (k := 0) rfl rfl (rfl) (by decide) (by decide) ?_
  refine g_n 1 (j' := 9) (lv' := [some (.ref 70), some (.int (nI ms)), none, none, none, none, none]) (st' := [.ref 70]) (h' := (shT, pm_u2 fi 70 25 1, pm_u2 fl 76 0 0, fr)) rfl ?_
  refine g_getR (q' := 77) rfl rfl (by decide) r_70_27 ?_
  refine g_n 2 (j' := 12) (lv' := [some (.ref 70), some (.int (nI ms)), none, none, none, none, none]) (st' := [.int 0, .int 0, .ref 77]) (h' := (shT, pm_u2 fi 70 25 1, pm_u2 fl 76 0 0, fr)) rfl ?_
  refine g_iast (k := 0) rfl rfl (rfl) (by decide) (by decide) ?_
  refine g_n 2 (j' := 15) (lv' := [some (.ref 70), some (.int (nI ms)), some (.int (nI 0)), none, none, none, none]) (st' := []) (h' := (shT, pm_u2 (pm_u2 fi 70 25 1) 77 0 0, pm_u2 fl 76 0 0, fr)) rfl ?_
  exact g
