def cW : WSt := pW ++ (in_w iN_29 ++ ((6, 1) :: in_w iN_304))
def v_code (R : RC) (K : Int64) : VS := (rv R, K, fun _ => 0)
theorem kN_le {R : RC} (hR : rc_ok R) : kN R ≤ 64 := by
  unfold kN
  have := popc_le R.2.2.2.2.2.2.2
  have := hR.2.2.1
  split <;> omega
theorem cod_C {L : Bool} {h : PmH} {a : AB} (hI : HI hdT shT h) (hR : QC L h a) (hA : AOK a) : (∃ R K h', parseS (a_tb a) (a_tl a) = some R ∧ (rc_ok R ∧ okR R = true ∧ kS R K) ∧ Ev pmT 13 [.ref 0] h (some (.int (nI (2 ^ R.2.1)))) h' ∧ QC L h' (a_setv (v_code R K) (a_push (a_tape 0 a))) ∧ HI hdT shT h' ∧ fram cW h h') ∨ (∃ x h', parseS (a_tb a) (a_tl a) = none ∧ Ev pmT 13 [.ref 0] h (some (.int x)) h' ∧ QC L h' (a_tape 0 a) ∧ HI hdT shT h' ∧ fram cW h h') := by
  obtain ⟨⟨v1, h1⟩, ev1, I1, F1, x, e1, z⟩ := pr_ev hI hA.1 hR.2.1 hR.2.2.1
  have e1 : v1 = some (.int x) := e1
  subst e1
  have I1 : HI hdT shT h1 := I1
  have F1 : fram pW h h1 := F1
  have R1 := QC_fr (show irC pW = true by decide) F1 hR
  have k6 : ph_r h 0 6 = some 6 := hi_r hI rfl rfl (by decide)
  have k7 : ph_r h 0 7 = some 8 := hi_r hI rfl rfl (by decide)
  have m6 : ph_r h1 0 6 = some 6 := hi_r I1 rfl rfl (by decide)
  have I2 : HI hdT shT (h_i h1 6 1 0) := HI_wi I1 (fun _ => by
    rw [show hd_at hdT shT 6 1 = (0, 0, 200, []) from rfl]
    decide)
  have R2 : QC L (h_i h1 6 1 0) (a_tape 0 a) := QC_t R1 h_e (fun p s hp => h_n hp) (fun _ _ => rfl) (fun _ _ => rfl)
  have F2 : fram cW h (h_i h1 6 1 0) := fram.tr (fram.up (show subW pW cW = true by decide) F1) (fram_wi (by decide))
  have ev1 : Ev pmT 14 [.ref 8, .ref 6] h (some (.int x)) h1 := ev1
  have st : ∀ v h', Go pmT none cd_13 10 [some (.ref 0), some (.int x)] [] (h_i h1 6 1 0) (v, h') → Ev pmT 13 [.ref 0] h v h' := by
    intro v h' g
    refine Ev.of (es := cd_13) (ml := 2) (lv := [some (.ref 0), none]) rfl rfl rfl ?_
    clear z R1 R2 F1 F2 I2
    obtain ⟨S1, fi1, fl1, fr1⟩ := h1
    have s1 : S1 = shT := I1.1
    subst s1
    have m6 : fr1 0 6 = some 6 := m6
    obtain ⟨S, fi, fl, fr⟩ := h
    have hS : S = shT := hI.1
    subst hS
    have k6 : fr 0 6 = some 6 := k6
    have k7 : fr 0 7 = some 8 := k7
    refine go_of ?_
    refine gp_n 1 (j' := 1) (lv' := [some (.ref 0), none]) (st' := [.ref 0]) (h' := (shT, fi, fl, fr)) rfl ?_
    refine gp_of (fun _ k9 => g_getR (q' := 8) rfl rfl (by decide) k7 k9) ?_
    refine gp_n 1 (j' := 3) (lv' := [some (.ref 0), none]) (st' := [.ref 0, .ref 8]) (h' := (shT, fi, fl, fr)) rfl ?_
    refine gp_of (fun _ k9 => g_getR (q' := 6) rfl rfl (by decide) k6 k9) ?_
    refine gp_of (fun _ k9 => g_call (y := 14) (as := [.ref 8, .ref 6]) (st' := []) rfl rfl (ev1) k9) ?_
    refine gp_n 2 (j' := 7) (lv' := [some (.ref 0), some (.int x)]) (st' := [.ref 0]) (h' := (shT, fi1, fl1, fr1)) rfl ?_
    refine gp_of (fun _ k9 => g_getR (q' := 6) rfl rfl (by decide) m6 k9) ?_
    refine gp_n 1 (j' := 9) (lv' := [some (.ref 0), some (.int x)]) (st' := [.int 0, .ref 6]) (h' := (shT, fi1, fl1, fr1)) rfl ?_
    refine gp_of (fun _ k9 => g_putI rfl (Or.inl rfl) rfl (by decide) k9) ?_
    exact gp_done g rfl
  rcases z with ⟨R, z1, z2, z3, z4, z5, z6⟩ | ⟨z1, z2⟩
  · subst z3
    obtain ⟨h3, ev3, R3, I3, F3⟩ := rem_ev I2 R2 hA.2.1
    have kept9 : ∀ p s, (p = 9 ∨ p = 10) → ph_i h3 p s = ph_i h1 p s ∧ ph_l h3 p s = ph_l h1 p s := fun p s hp => by
      have hw : inW (in_w iN_29) p s = false := inW_all (f := fun q => decide (¬ q.1 = 9 ∧ ¬ q.1 = 10)) (by decide) (fun c _ => by
        rcases hp with rfl | rfl <;> rfl)
      have := F3 p s hw
      exact ⟨this.1.trans (h_n (by omega)), this.2.1⟩
    have c9 : csC L h3 9 (v_code R (ph_l h1 9 7)) := ⟨fun i hi => ((kept9 9 i (Or.inl rfl)).1).trans (z4 i hi), fun _ => ⟨(kept9 9 7 (Or.inl rfl)).2, fun s hs => R3.1.2.2 s hs⟩⟩
    obtain ⟨h4, ev4, s4, d1, d2, d3, d4⟩ := cp_ev (o := 1) (s := 9) I3 rfl rfl rfl rfl (hi_r I3 rfl rfl (by decide)) (hi_r I3 rfl rfl (by decide)) (by decide) (by decide)
    have v4 := d1 L _ c9
    have go3 : go_ (in_o iN_304) h3 := by
      intro q hq
      have c92 : ph_i h3 9 2 = nI (kN R) := c9.1 2 (by decide)
      have c93 : ph_i h3 9 3 = nI R.2.2.2.1 := c9.1 3 (by decide)
      have c96 : ph_i h3 9 6 = nI R.2.2.2.2.2.2.1 := c9.1 6 (by decide)
      have b2 := kN_le z2
      have b3 := z2.2.2.2.1
      have b6 := z2.2.2.2.2.1
      rcases List.mem_cons.mp hq with rfl | hq
      · show (0 : Int) ≤ (ph_i h3 9 2).toInt ∧ (ph_i h3 9 2).toInt ≤ 64
        rw [c92, nI_toInt (by omega)]
        omega
      · rcases List.mem_cons.mp hq with rfl | hq
        · show (0 : Int) ≤ (ph_i h3 9 3).toInt ∧ (ph_i h3 9 3).toInt ≤ 8
          rw [c93, nI_toInt (by omega)]
          omega
        · rcases List.mem_cons.mp hq with rfl | hq
          · show (0 : Int) ≤ (ph_i h3 9 6).toInt ∧ (ph_i h3 9 6).toInt ≤ 8
            rw [c96, nI_toInt (by omega)]
            omega
          · exact absurd hq List.not_mem_nil
    obtain ⟨I4, F4⟩ := iv_so vN_304 (as := [.ref 1, .ref 9]) go3 (fun _ _ => gz_c (gz_r (by decide)) (gz_c (gz_r (by decide)) gz_n)) I3 ev4
    have n4 : ph_i h4 1 1 = nI (2 ^ R.2.1) := v4.1 1 (by decide)
    have R4 : QC L h4 (a_setv (v_code R (ph_l h1 9 7)) (a_push (a_tape 0 a))) := QC_v R3 (fun p s p1 p2 => d2 p s p1 p2) (fun p s p1 => d3 p s p1) d4 v4
    refine Or.inl ⟨R, ph_l h1 9 7, h4, z1, ⟨z2, z5, z6⟩, st _ _ ?_, R4, I4, fram.tr F2 (fram.tr (fram.up (by decide) F3) (fram.up (by decide) F4))⟩
    have l0 : ph_r h3 0 0 = some 1 := hi_r I3 rfl rfl (by decide)
    have l7 : ph_r h3 0 7 = some 8 := hi_r I3 rfl rfl (by decide)
    have l8 : ph_r h3 8 0 = some 9 := hi_r I3 rfl rfl (by decide)
    have j0 : ph_r h4 0 0 = some 1 := hi_r I4 rfl rfl (by decide)
    clear st ev1 R1 R2 R3 R4 F1 F2 F3 F4 z4 z6 kept9 c9 d1 d2 d3 d4 v4 go3
    generalize h_i h1 6 1 0 = h2 at *
    obtain ⟨S4, fi4, fl4, fr4⟩ := h4
    have s4 : S4 = shT := I4.1
    subst s4
    have n4 : fi4 1 1 = nI (2 ^ R.2.1) := n4
    have j0 : fr4 0 0 = some 1 := j0
    obtain ⟨S3, fi3, fl3, fr3⟩ := h3
    have s3 : S3 = shT := I3.1
    subst s3
    have l0 : fr3 0 0 = some 1 := l0
    have l7 : fr3 0 7 = some 8 := l7
    have l8 : fr3 8 0 = some 9 := l8
    obtain ⟨S, fi, fl, fr⟩ := h2
    have hS : S = shT := I2.1
    subst hS
    refine go_of ?_
    refine gp_n 1 (j' := 11) (lv' := [some (.ref 0), some (.int 0)]) (st' := [.int 0]) (h' := (shT, fi, fl, fr)) rfl ?_
    refine gp_of (fun _ k9 => g_ift rfl (show (0 : Int32) = (0 : Int32) from by decide) k9) ?_
    refine gp_n 1 (j' := 17) (lv' := [some (.ref 0), some (.int 0)]) (st' := [.ref 0]) (h' := (shT, fi, fl, fr)) rfl ?_
    refine gp_of (fun _ k9 => g_callv (y := 49) (as := [.ref 0]) (st' := []) rfl rfl (ev3) k9) ?_
    refine gp_n 1 (j' := 19) (lv' := [some (.ref 0), some (.int 0)]) (st' := [.ref 0]) (h' := (shT, fi3, fl3, fr3)) rfl ?_
    refine gp_of (fun _ k9 => g_getR (q' := 1) rfl rfl (by decide) l0 k9) ?_
    refine gp_n 1 (j' := 21) (lv' := [some (.ref 0), some (.int 0)]) (st' := [.ref 0, .ref 1]) (h' := (shT, fi3, fl3, fr3)) rfl ?_
    refine gp_of (fun _ k9 => g_getR (q' := 8) rfl rfl (by decide) l7 k9) ?_
    refine gp_of (fun _ k9 => g_getR (q' := 9) rfl rfl (by decide) l8 k9) ?_
    refine gp_of (fun _ k9 => g_callv (y := 50) (as := [.ref 1, .ref 9]) (st' := []) rfl rfl (ev4) k9) ?_
    refine gp_n 1 (j' := 25) (lv' := [some (.ref 0), some (.int 0)]) (st' := [.ref 0]) (h' := (shT, fi4, fl4, fr4)) rfl ?_
    refine gp_of (fun _ k9 => g_getR (q' := 1) rfl rfl (by decide) j0 k9) ?_
    refine gp_of (fun _ k9 => g_getI (x := nI (2 ^ R.2.1)) rfl (Or.inl rfl) rfl (by decide) (n4) k9) ?_
    refine gp_done (g_ret rfl) ?_
    rfl
  · refine Or.inr ⟨-2 - x, h_i h1 6 1 0, z1, st _ _ ?_, R2, I2, F2⟩
    clear st ev1 R1 R2 F1 F2
    generalize h_i h1 6 1 0 = h2 at *
    obtain ⟨S, fi, fl, fr⟩ := h2
    have hS : S = shT := I2.1
    subst hS
    refine go_of ?_
    refine gp_n 1 (j' := 11) (lv' := [some (.ref 0), some (.int x)]) (st' := [.int x]) (h' := (shT, fi, fl, fr)) rfl ?_
    refine gp_of (fun _ k9 => g_iff rfl (show ¬ (x = (0 : Int32)) from z2) k9) ?_
    refine gp_n 3 (j' := 15) (lv' := [some (.ref 0), some (.int x)]) (st' := [.int (((-2) : Int32) - x)]) (h' := (shT, fi, fl, fr)) rfl ?_
    refine gp_done (g_ret rfl) ?_
    rfl
