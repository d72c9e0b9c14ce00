theorem sk_46 {h0 h : PmH} {m : Nat} {x : Int32} (hI : sk_I h0 m h) : sk_I h0 m (ph_s h, pm_u2 (ph_i h) 70 46 x, ph_l h, ph_r h) := by
  obtain ⟨i1, i2, i3, i4, i5⟩ := hI
  have eL : ∀ a, ph_i (ph_s h, pm_u2 (ph_i h) 70 46 x, ph_l h, ph_r h) 88 a = ph_i h 88 a := fun a => by
    show pm_u2 (ph_i h) 70 46 x 88 a = _
    simp [pm_u2]
  refine ⟨hd70 (c := 46) i1 rfl, fram.tr i2 (fram_wi (by decide)), ?_, fun a ha => ?_, fun a c ha hc hac ka kc l1 l2 e1 e2 => ?_⟩
  · show pm_u2 (ph_i h) 70 46 x 70 45 = _
    simp [pm_u2]
    exact i3
  · unfold sk_L
    rw [eL]
    exact i4 a ha
  · unfold sk_L at e1 e2
    rw [eL] at e1 e2
    exact i5 a c ha hc hac ka kc l1 l2 e1 e2
theorem holds_ev {h : PmH} (hI : HI hdT shT h) (v : Int64) : ∃ x : Int32, (x = 0 ∨ x = 1) ∧ Ev pmT 201 [.ref 70, .long v] h (some (.int x)) h := by
  obtain ⟨w, h', e1, ⟨P, P1, P2, -⟩, e3, e4⟩ := vN_212 [.ref 70, .long v] h (fun _ _ => ⟨gv_rf, gv_lg, trivial⟩) (go_nil h) hI
  have := fram_z e4 (e3.1.trans hI.1.symm)
  subst this
  have := List.mem_singleton.mp P1
  subst this
  obtain ⟨x, rfl, x1, x2⟩ := pv_i rfl P2
  refine ⟨x, ?_, e1⟩
  obtain ⟨k, rfl, hk⟩ := i32_to (n := 1) x1 x2
  rcases (by omega : k = 0 ∨ k = 1) with rfl | rfl
  · exact Or.inl rfl
  · exact Or.inr rfl
theorem bl_0 : ∀ i, i < 64 → bl 0 i = false := by decide +kernel
theorem sk_go {h0 : PmH} : ∀ (n w m : Nat) (h : PmH) (r : Int32), w + n = 1500 → m ≤ 1 + 2 * w → sk_I h0 m h → ph_i h 70 46 = nI w → bb_B h m r → ∃ x h', (x = 0 ∨ x = 1) ∧ HI hdT shT h' ∧ fram sk_W h0 h' ∧ Go pmT none cd_218 14 [some (.ref 70), some (.int r)] [] h (some (.int x), h') := by
  intro n
  induction n with
  | zero =>
    intro w m h r hw hm hI e46 hr
    have : w = 1500 := by omega
    subst this
    refine ⟨0, h, Or.inl rfl, hI.1, hI.2.1, ?_⟩
    obtain ⟨S, fi, fl, fr⟩ := h
    have hS : S = shT := hI.1.1
    subst hS
    rcases hr with rfl | ⟨b, b1, rfl, b3⟩
    · refine g_n 1 (j' := 15) (lv' := [some (.ref 70), some (.int (-1))]) (st' := [.int (-1)]) (h' := (shT, fi, fl, fr)) rfl ?_
      refine g_ift rfl (show ((-1) : Int32) < (0 : Int32) from by decide) ?_
      refine g_n 1 (j' := 68) (lv' := [some (.ref 70), some (.int (-1))]) (st' := [.int 0]) (h' := (shT, fi, fl, fr)) rfl ?_
      exact g_retz rfl (by decide)
    · refine g_n 1 (j' := 15) (lv' := [some (.ref 70), some (.int (nI b))]) (st' := [.int (nI b)]) (h' := (shT, fi, fl, fr)) rfl ?_
      refine g_iff rfl (show ¬ ((nI b) < (0 : Int32)) from nI_pos (by omega)) ?_
      refine g_n 1 (j' := 17) (lv' := [some (.ref 70), some (.int (nI b))]) (st' := [.ref 70]) (h' := (shT, fi, fl, fr)) rfl ?_
      refine g_getI (x := nI 1500) rfl (Or.inl rfl) rfl (by decide) (e46) ?_
      refine g_n 1 (j' := 19) (lv' := [some (.ref 70), some (.int (nI b))]) (st' := [.int 1500, .int (nI 1500)]) (h' := (shT, fi, fl, fr)) rfl ?_
      refine g_ict rfl (show (1500 : Int32) ≤ (nI 1500) from by decide) ?_
      refine g_n 1 (j' := 68) (lv' := [some (.ref 70), some (.int (nI b))]) (st' := [.int 0]) (h' := (shT, fi, fl, fr)) rfl ?_
      exact g_retz rfl (by decide)
  | succ n ih =>
    intro w m h r hw hm hI e46 hr
    rcases hr with rfl | ⟨b, b1, rfl, b3⟩
    · refine ⟨0, h, Or.inl rfl, hI.1, hI.2.1, ?_⟩
      refine g_n 1 (j' := 15) (lv' := [some (.ref 70), some (.int (-1))]) (st' := [.int (-1)]) (h' := h) rfl ?_
      refine g_ift rfl (show ((-1) : Int32) < (0 : Int32) from by decide) ?_
      refine g_n 1 (j' := 68) (lv' := [some (.ref 70), some (.int (-1))]) (st' := [.int 0]) (h' := h) rfl ?_
      exact g_retz rfl (by decide)
    · obtain ⟨k, k1, k2, -⟩ := (hI.2.2.2.1 b b1).resolve_left b3
      obtain ⟨n1, n2⟩ := hi_i (p := 70) (c := 14) (lo := 0) (hi := 64) hI.1 rfl rfl (by decide)
      obtain ⟨N, eN, hN⟩ := i32_to (n := 64) n1 n2
      obtain ⟨S, fi, fl, fr⟩ := h
      have hS : S = shT := hI.1.1
      subst hS
      have r_70_42 : fr 70 42 = some 87 := hi_r hI.1 rfl rfl (by decide)
      have r_70_43 : fr 70 43 = some 88 := hi_r hI.1 rfl rfl (by decide)
      have r_70_44 : fr 70 44 = some 89 := hi_r hI.1 rfl rfl (by decide)
      have j1 : sk_I h0 m (shT, pm_u2 fi 70 46 (nI (w + 1)), fl, fr) := sk_46 (x := nI (w + 1)) hI
      have k3 : pm_u2 fi 70 46 (nI (w + 1)) 88 b = nI k := by
        simp [pm_u2]
        exact k2
      have eN2 : pm_u2 fi 70 46 (nI (w + 1)) 70 14 = nI N := by
        simp [pm_u2]
        exact eN
      have w46 : pm_u2 fi 70 46 (nI (w + 1)) 70 46 = nI (w + 1) := by simp [pm_u2]
      -- behind a beginning: the next best one
      have nxt : ∀ (m2 : Nat) (h2 : PmH), m2 ≤ 1 + 2 * (w + 1) → sk_I h0 m2 h2 → ph_i h2 70 46 = nI (w + 1) → ∃ x h', (x = 0 ∨ x = 1) ∧ HI hdT shT h' ∧ fram sk_W h0 h' ∧ Go pmT none cd_218 63 [some (.ref 70), some (.int (nI b))] [] h2 (some (.int x), h') := by
        intro m2 h2 l2 i2 f2
        obtain ⟨r2, q1, q2⟩ := bb_ev (by omega) i2
        obtain ⟨x, h', x1, x2, x3, g⟩ := ih (w + 1) m2 h2 r2 (by omega) l2 i2 f2 q1
        refine ⟨x, h', x1, x2, x3, ?_⟩
        obtain ⟨S2, fi2, fl2, fr2⟩ := h2
        have hS2 : S2 = shT := i2.1.1
        subst hS2
        refine g_n 1 (j' := 64) (lv' := [some (.ref 70), some (.int (nI b))]) (st' := [.ref 70]) (h' := (shT, fi2, fl2, fr2)) rfl ?_
        refine g_call (y := 220) (as := [.ref 70]) (st' := []) rfl rfl (q2) ?_
        refine g_n 2 (j' := 14) (lv' := [some (.ref 70), some (.int r2)]) (st' := []) (h' := (shT, fi2, fl2, fr2)) rfl ?_
        exact g
      by_cases hkn : N ≤ k
      · obtain ⟨x, x1, x2⟩ := holds_ev j1.1 (fl 87 b)
        rcases x1 with rfl | rfl
        · obtain ⟨d1, -⟩ := dd_I (b := b) j1
          obtain ⟨x, h', y1, y2, y3, g⟩ := nxt m (dd_h (shT, pm_u2 fi 70 46 (nI (w + 1)), fl, fr) b) (by omega) d1 (by
            show pm_u2 (pm_u2 fi 70 46 (nI (w + 1))) 88 b (-1) 70 46 = _
            simp [pm_u2])
          refine ⟨x, h', y1, y2, y3, ?_⟩
          refine g_n 1 (j' := 15) (lv' := [some (.ref 70), some (.int (nI b))]) (st' := [.int (nI b)]) (h' := (shT, fi, fl, fr)) rfl ?_
          refine g_iff rfl (show ¬ ((nI b) < (0 : Int32)) from nI_pos (by omega)) ?_
          refine g_n 1 (j' := 17) (lv' := [some (.ref 70), some (.int (nI b))]) (st' := [.ref 70]) (h' := (shT, fi, fl, fr)) rfl ?_
          refine g_getI (x := nI w) rfl (Or.inl rfl) rfl (by decide) (e46) ?_
          refine g_n 1 (j' := 19) (lv' := [some (.ref 70), some (.int (nI b))]) (st' := [.int 1500, .int (nI w)]) (h' := (shT, fi, fl, fr)) rfl ?_
          refine g_icf rfl (show ¬ ((1500 : Int32) ≤ (nI w)) from nI_ge (b := 1500) (by omega) (by decide)) ?_
          refine g_n 2 (j' := 22) (lv' := [some (.ref 70), some (.int (nI b))]) (st' := [.ref 70, .ref 70]) (h' := (shT, fi, fl, fr)) rfl ?_
          refine g_getI (x := nI w) rfl (Or.inl rfl) rfl (by decide) (e46) ?_
          refine g_n 2 (j' := 25) (lv' := [some (.ref 70), some (.int (nI b))]) (st' := [.int ((nI w) + 1), .ref 70]) (h' := (shT, fi, fl, fr)) rfl ?_
          rw [nI_1 w]
          refine g_putI rfl (Or.inl rfl) rfl (by decide) ?_
          refine g_n 1 (j' := 27) (lv' := [some (.ref 70), some (.int (nI b))]) (st' := [.ref 70]) (h' := (shT, pm_u2 fi 70 46 (nI (w + 1)), fl, fr)) rfl ?_
          refine g_getR (q' := 88) rfl rfl (by decide) r_70_43 ?_
          refine g_n 1 (j' := 29) (lv' := [some (.ref 70), some (.int (nI b))]) (st' := [.int (nI b), .ref 88]) (h' := (shT, pm_u2 fi 70 46 (nI (w + 1)), fl, fr)) rfl ?_
          refine g_iald (k := b) (x := nI k) rfl rfl (rfl) (by omega) (by decide) (k3) ?_
          refine g_n 1 (j' := 31) (lv' := [some (.ref 70), some (.int (nI b))]) (st' := [.ref 70, .int (nI k)]) (h' := (shT, pm_u2 fi 70 46 (nI (w + 1)), fl, fr)) rfl ?_
          refine g_getI (x := nI N) rfl (Or.inl rfl) rfl (by decide) (eN2) ?_
          refine g_ict rfl (show (nI N) ≤ (nI k) from nI_le hkn (by omega)) ?_
          refine g_n 2 (j' := 39) (lv' := [some (.ref 70), some (.int (nI b))]) (st' := [.ref 70, .ref 70]) (h' := (shT, pm_u2 fi 70 46 (nI (w + 1)), fl, fr)) rfl ?_
          refine g_getR (q' := 87) rfl rfl (by decide) r_70_42 ?_
          refine g_n 1 (j' := 41) (lv' := [some (.ref 70), some (.int (nI b))]) (st' := [.int (nI b), .ref 87, .ref 70]) (h' := (shT, pm_u2 fi 70 46 (nI (w + 1)), fl, fr)) rfl ?_
          refine g_lald (k := b) (x := fl 87 b) rfl rfl (rfl) (by omega) (by decide) (rfl) ?_
          refine g_call (y := 201) (as := [.ref 70, .long (fl 87 b)]) (st' := []) rfl rfl (x2) ?_
          refine g_ift rfl (show (0 : Int32) = (0 : Int32) from rfl) ?_
          refine g_n 1 (j' := 59) (lv' := [some (.ref 70), some (.int (nI b))]) (st' := [.ref 70]) (h' := (shT, pm_u2 fi 70 46 (nI (w + 1)), fl, fr)) rfl ?_
          refine g_getR (q' := 88) rfl rfl (by decide) r_70_43 ?_
          refine g_n 2 (j' := 62) (lv' := [some (.ref 70), some (.int (nI b))]) (st' := [.int (-1), .int (nI b), .ref 88]) (h' := (shT, pm_u2 fi 70 46 (nI (w + 1)), fl, fr)) rfl ?_
          refine g_iast (k := b) rfl rfl (rfl) (by omega) (by decide) ?_
          exact g
        · have z1 : HI hdT shT (shT, pm_u2 (pm_u2 fi 70 46 (nI (w + 1))) 70 48 ((pm_u2 fi 70 46 (nI (w + 1))) 89 b), pm_u2 fl 70 47 (fl 87 b), fr) := hd70 (h := (shT, pm_u2 fi 70 46 (nI (w + 1)), pm_u2 fl 70 47 (fl 87 b), fr)) (c := 48) j1.1 rfl
          have z2 : fram sk_W h0 (shT, pm_u2 (pm_u2 fi 70 46 (nI (w + 1))) 70 48 ((pm_u2 fi 70 46 (nI (w + 1))) 89 b), pm_u2 fl 70 47 (fl 87 b), fr) := fram.tr j1.2.1 (fram.tr (fram_wl (h := (shT, pm_u2 fi 70 46 (nI (w + 1)), fl, fr)) (p := 70) (s := 47) (by decide)) (fram_wi (h := (shT, pm_u2 fi 70 46 (nI (w + 1)), pm_u2 fl 70 47 (fl 87 b), fr)) (p := 70) (s := 48) (by decide)))
          refine ⟨1, _, Or.inr rfl, z1, z2, ?_⟩
          refine g_n 1 (j' := 15) (lv' := [some (.ref 70), some (.int (nI b))]) (st' := [.int (nI b)]) (h' := (shT, fi, fl, fr)) rfl ?_
          refine g_iff rfl (show ¬ ((nI b) < (0 : Int32)) from nI_pos (by omega)) ?_
          refine g_n 1 (j' := 17) (lv' := [some (.ref 70), some (.int (nI b))]) (st' := [.ref 70]) (h' := (shT, fi, fl, fr)) rfl ?_
          refine g_getI (x := nI w) rfl (Or.inl rfl) rfl (by decide) (e46) ?_
          refine g_n 1 (j' := 19) (lv' := [some (.ref 70), some (.int (nI b))]) (st' := [.int 1500, .int (nI w)]) (h' := (shT, fi, fl, fr)) rfl ?_
          refine g_icf rfl (show ¬ ((1500 : Int32) ≤ (nI w)) from nI_ge (b := 1500) (by omega) (by decide)) ?_
          refine g_n 2 (j' := 22) (lv' := [some (.ref 70), some (.int (nI b))]) (st' := [.ref 70, .ref 70]) (h' := (shT, fi, fl, fr)) rfl ?_
          refine g_getI (x := nI w) rfl (Or.inl rfl) rfl (by decide) (e46) ?_
          refine g_n 2 (j' := 25) (lv' := [some (.ref 70), some (.int (nI b))]) (st' := [.int ((nI w) + 1), .ref 70]) (h' := (shT, fi, fl, fr)) rfl ?_
          rw [nI_1 w]
          refine g_putI rfl (Or.inl rfl) rfl (by decide) ?_
          refine g_n 1 (j' := 27) (lv' := [some (.ref 70), some (.int (nI b))]) (st' := [.ref 70]) (h' := (shT, pm_u2 fi 70 46 (nI (w + 1)), fl, fr)) rfl ?_
          refine g_getR (q' := 88) rfl rfl (by decide) r_70_43 ?_
          refine g_n 1 (j' := 29) (lv' := [some (.ref 70), some (.int (nI b))]) (st' := [.int (nI b), .ref 88]) (h' := (shT, pm_u2 fi 70 46 (nI (w + 1)), fl, fr)) rfl ?_
          refine g_iald (k := b) (x := nI k) rfl rfl (rfl) (by omega) (by decide) (k3) ?_
          refine g_n 1 (j' := 31) (lv' := [some (.ref 70), some (.int (nI b))]) (st' := [.ref 70, .int (nI k)]) (h' := (shT, pm_u2 fi 70 46 (nI (w + 1)), fl, fr)) rfl ?_
          refine g_getI (x := nI N) rfl (Or.inl rfl) rfl (by decide) (eN2) ?_
          refine g_ict rfl (show (nI N) ≤ (nI k) from nI_le hkn (by omega)) ?_
          refine g_n 2 (j' := 39) (lv' := [some (.ref 70), some (.int (nI b))]) (st' := [.ref 70, .ref 70]) (h' := (shT, pm_u2 fi 70 46 (nI (w + 1)), fl, fr)) rfl ?_
          refine g_getR (q' := 87) rfl rfl (by decide) r_70_42 ?_
          refine g_n 1 (j' := 41) (lv' := [some (.ref 70), some (.int (nI b))]) (st' := [.int (nI b), .ref 87, .ref 70]) (h' := (shT, pm_u2 fi 70 46 (nI (w + 1)), fl, fr)) rfl ?_
          refine g_lald (k := b) (x := fl 87 b) rfl rfl (rfl) (by omega) (by decide) (rfl) ?_
          refine g_call (y := 201) (as := [.ref 70, .long (fl 87 b)]) (st' := []) rfl rfl (x2) ?_
          refine g_iff rfl (show ¬ ((1 : Int32) = (0 : Int32)) from by decide) ?_
          refine g_n 2 (j' := 46) (lv' := [some (.ref 70), some (.int (nI b))]) (st' := [.ref 70, .ref 70]) (h' := (shT, pm_u2 fi 70 46 (nI (w + 1)), fl, fr)) rfl ?_
          refine g_getR (q' := 87) rfl rfl (by decide) r_70_42 ?_
          refine g_n 1 (j' := 48) (lv' := [some (.ref 70), some (.int (nI b))]) (st' := [.int (nI b), .ref 87, .ref 70]) (h' := (shT, pm_u2 fi 70 46 (nI (w + 1)), fl, fr)) rfl ?_
          refine g_lald (k := b) (x := fl 87 b) rfl rfl (rfl) (by omega) (by decide) (rfl) ?_
          refine g_putL rfl rfl (by decide) ?_
          refine g_n 2 (j' := 52) (lv' := [some (.ref 70), some (.int (nI b))]) (st' := [.ref 70, .ref 70]) (h' := (shT, pm_u2 fi 70 46 (nI (w + 1)), pm_u2 fl 70 47 (fl 87 b), fr)) rfl ?_
          refine g_getR (q' := 89) rfl rfl (by decide) r_70_44 ?_
          refine g_n 1 (j' := 54) (lv' := [some (.ref 70), some (.int (nI b))]) (st' := [.int (nI b), .ref 89, .ref 70]) (h' := (shT, pm_u2 fi 70 46 (nI (w + 1)), pm_u2 fl 70 47 (fl 87 b), fr)) rfl ?_
          refine g_iald (k := b) (x := (pm_u2 fi 70 46 (nI (w + 1))) 89 b) rfl rfl (rfl) (by omega) (by decide) (rfl) ?_
          refine g_putI rfl (Or.inl rfl) rfl (by decide) ?_
          refine g_n 1 (j' := 57) (lv' := [some (.ref 70), some (.int (nI b))]) (st' := [.int 1]) (h' := (shT, pm_u2 (pm_u2 fi 70 46 (nI (w + 1))) 70 48 ((pm_u2 fi 70 46 (nI (w + 1))) 89 b), pm_u2 fl 70 47 (fl 87 b), fr)) rfl ?_
          exact g_retz rfl (by decide)
      · obtain ⟨m2, h2, a1, a2, a3, a4⟩ := go_ev j1 b1 (show k < 64 by omega) k3 (by omega)
        obtain ⟨x, h', y1, y2, y3, g⟩ := nxt m2 h2 (by omega) a2 (a3.trans w46)
        refine ⟨x, h', y1, y2, y3, ?_⟩
        refine g_n 1 (j' := 15) (lv' := [some (.ref 70), some (.int (nI b))]) (st' := [.int (nI b)]) (h' := (shT, fi, fl, fr)) rfl ?_
        refine g_iff rfl (show ¬ ((nI b) < (0 : Int32)) from nI_pos (by omega)) ?_
        refine g_n 1 (j' := 17) (lv' := [some (.ref 70), some (.int (nI b))]) (st' := [.ref 70]) (h' := (shT, fi, fl, fr)) rfl ?_
        refine g_getI (x := nI w) rfl (Or.inl rfl) rfl (by decide) (e46) ?_
        refine g_n 1 (j' := 19) (lv' := [some (.ref 70), some (.int (nI b))]) (st' := [.int 1500, .int (nI w)]) (h' := (shT, fi, fl, fr)) rfl ?_
        refine g_icf rfl (show ¬ ((1500 : Int32) ≤ (nI w)) from nI_ge (b := 1500) (by omega) (by decide)) ?_
        refine g_n 2 (j' := 22) (lv' := [some (.ref 70), some (.int (nI b))]) (st' := [.ref 70, .ref 70]) (h' := (shT, fi, fl, fr)) rfl ?_
        refine g_getI (x := nI w) rfl (Or.inl rfl) rfl (by decide) (e46) ?_
        refine g_n 2 (j' := 25) (lv' := [some (.ref 70), some (.int (nI b))]) (st' := [.int ((nI w) + 1), .ref 70]) (h' := (shT, fi, fl, fr)) rfl ?_
        rw [nI_1 w]
        refine g_putI rfl (Or.inl rfl) rfl (by decide) ?_
        refine g_n 1 (j' := 27) (lv' := [some (.ref 70), some (.int (nI b))]) (st' := [.ref 70]) (h' := (shT, pm_u2 fi 70 46 (nI (w + 1)), fl, fr)) rfl ?_
        refine g_getR (q' := 88) rfl rfl (by decide) r_70_43 ?_
        refine g_n 1 (j' := 29) (lv' := [some (.ref 70), some (.int (nI b))]) (st' := [.int (nI b), .ref 88]) (h' := (shT, pm_u2 fi 70 46 (nI (w + 1)), fl, fr)) rfl ?_
        refine g_iald (k := b) (x := nI k) rfl rfl (rfl) (by omega) (by decide) (k3) ?_
        refine g_n 1 (j' := 31) (lv' := [some (.ref 70), some (.int (nI b))]) (st' := [.ref 70, .int (nI k)]) (h' := (shT, pm_u2 fi 70 46 (nI (w + 1)), fl, fr)) rfl ?_
        refine g_getI (x := nI N) rfl (Or.inl rfl) rfl (by decide) (eN2) ?_
        refine g_icf rfl (show ¬ ((nI N) ≤ (nI k)) from nI_ge (by omega) (by omega)) ?_
        refine g_n 2 (j' := 35) (lv' := [some (.ref 70), some (.int (nI b))]) (st' := [.int (nI b), .ref 70]) (h' := (shT, pm_u2 fi 70 46 (nI (w + 1)), fl, fr)) rfl ?_
        refine g_callv (y := 222) (as := [.ref 70, .int (nI b)]) (st' := []) rfl rfl (a4) ?_
        refine g_n 1 (j' := 63) (lv' := [some (.ref 70), some (.int (nI b))]) (st' := []) (h' := h2) rfl ?_
        exact g
def iM_seeks : Inst := (218, [(zr [70])], [], [(some (zi 0 1), [], [])], sk_W)
theorem vM_seeks : iv pmT hdT shT iM_seeks := by
  intro as h hg ho hI
  obtain ⟨v1, s1, rfl, g1, g⟩ := gst_c (hg [] h)
  have := gst_z g
  subst this
  obtain ⟨p, hp, rfl⟩ := gv_k2 rfl g1
  have hp := List.mem_singleton.mp hp
  subst hp
  obtain ⟨S, fi, fl, fr⟩ := h
  have hS : S = shT := hI.1
  subst hS
  have i1 : HI hdT shT (shT, pm_u2 (pm_u2 fi 70 45 (nI 0)) 70 46 (nI 0), fl, fr) := hd70 (h := (shT, pm_u2 fi 70 45 (nI 0), fl, fr)) (c := 46) (hd70 (h := (shT, fi, fl, fr)) (c := 45) hI rfl) rfl
  have i2 : sk_I (shT, fi, fl, fr) 0 (shT, pm_u2 (pm_u2 fi 70 45 (nI 0)) 70 46 (nI 0), fl, fr) := ⟨i1, fram.tr (fram_wi (h := (shT, fi, fl, fr)) (p := 70) (s := 45) (x := nI 0) (by decide)) (fram_wi (h := (shT, pm_u2 fi 70 45 (nI 0), fl, fr)) (p := 70) (s := 46) (x := nI 0) (by decide)), (by
    show pm_u2 (pm_u2 fi 70 45 (nI 0)) 70 46 (nI 0) 70 45 = nI 0
    simp [pm_u2]), fun a ha => absurd ha (by omega), fun a b ha => absurd ha (by omega)⟩
  have i3 : sk_I (shT, fi, fl, fr) 1 (bg_h (shT, pm_u2 (pm_u2 fi 70 45 (nI 0)) 70 46 (nI 0), fl, fr) 0 0 (nI 0) 0) := bg_I i2 (by omega) (fun t _ ht => bl_0 t ht) (fun a ha => absurd ha (by omega))
  obtain ⟨r, r1, r2⟩ := bb_ev (by omega) i3
  obtain ⟨x, h', x1, x2, x3, g⟩ := sk_go (h0 := (shT, fi, fl, fr)) 1500 0 1 _ r (by omega) (by omega) i3 (by
    show pm_u2 (pm_u2 (pm_u2 (pm_u2 (pm_u2 fi 70 45 (nI 0)) 70 46 (nI 0)) 88 0 (nI 0)) 89 0 0) 70 45 (nI (0 + 1)) 70 46 = nI 0
    simp [pm_u2]) r1
  refine ⟨some (.int x), h', Ev.of (es := cd_218) (ml := 2) (lv := [some (.ref 70), none]) rfl rfl rfl ?_, ⟨(some (zi 0 1), [], []), List.mem_singleton.mpr rfl, ⟨_, rfl, fun _ _ => ?_⟩, fun q hq => absurd hq List.not_mem_nil, fun q hq => absurd hq List.not_mem_nil⟩, x2, x3⟩
  · refine g_n 2 (j' := 2) (lv' := [some (.ref 70), none]) (st' := [.int (nI 0), .ref 70]) (h' := (shT, fi, fl, fr)) rfl ?_
    refine g_putI rfl (Or.inl rfl) rfl (by decide) ?_
    refine g_n 2 (j' := 5) (lv' := [some (.ref 70), none]) (st' := [.int (nI 0), .ref 70]) (h' := (shT, pm_u2 fi 70 45 (nI 0), fl, fr)) rfl ?_
    refine g_putI rfl (Or.inl rfl) rfl (by decide) ?_
    refine g_n 4 (j' := 10) (lv' := [some (.ref 70), none]) (st' := [.int 0, .int (nI 0), .long 0, .ref 70]) (h' := (shT, pm_u2 (pm_u2 fi 70 45 (nI 0)) 70 46 (nI 0), fl, fr)) rfl ?_
    refine g_callv (y := 219) (as := [.ref 70, .long 0, .int (nI 0), .int 0]) (st' := []) rfl rfl (bg_ev i2.1 i2.2.2.1 (by omega)) ?_
    refine g_n 1 (j' := 12) (lv' := [some (.ref 70), none]) (st' := [.ref 70]) (h' := (bg_h (shT, pm_u2 (pm_u2 fi 70 45 (nI 0)) 70 46 (nI 0), fl, fr) 0 0 (nI 0) 0)) rfl ?_
    refine g_call (y := 220) (as := [.ref 70]) (st' := []) rfl rfl (r2) ?_
    refine g_n 1 (j' := 14) (lv' := [some (.ref 70), some (.int r)]) (st' := []) (h' := (bg_h (shT, pm_u2 (pm_u2 fi 70 45 (nI 0)) 70 46 (nI 0), fl, fr) 0 0 (nI 0) 0)) rfl ?_
    exact g
  · rcases x1 with rfl | rfl
    · exact ⟨0, rfl, by decide, by decide, trivial⟩
    · exact ⟨1, rfl, by decide, by decide, trivial⟩
