theorem go_ev {h0 h : PmH} {m b k : Nat} (hI : sk_I h0 m h) (hb : b < m) (hk : k < 64) (eL : sk_L h b k) (hm : m + 2 ≤ 3100) : ∃ m' h', m' ≤ m + 2 ∧ sk_I h0 m' h' ∧ ph_i h' 70 46 = ph_i h 70 46 ∧ Ev pmT 222 [.ref 70, .int (nI b)] h none h' := by
  have i4 := hI.2.2.2.1 b hb
  have i5 := hI.2.2.2.2
  have hz0 : ∀ t, k ≤ t → t < 64 → bl (ph_l h 87 b) t = false := by
    rcases i4 with z | ⟨k', z1, z2, z3⟩
    · unfold sk_L at eL
      rw [eL] at z
      exact absurd z (nI_pos (by omega))
    · have : k = k' := nI_inj (by omega) z1 (eL.symm.trans z2)
      subst this
      exact z3
  obtain ⟨d1, d2⟩ := dd_I (b := b) hI
  obtain ⟨s, h1, e1, e2, e3⟩ := sumAt_ev d1.1 (ph_l h 87 b) (nI k)
  have j1 := sk_fr d1 e2 e3
  have eB1 : ∀ a, ph_l h1 87 a = ph_l h 87 a := fun a => (e3 87 a rfl).2.1
  have eL1 : ∀ a, ph_i h1 88 a = ph_i (dd_h h b) 88 a := fun a => (e3 88 a rfl).1
  have n46 : ph_i h1 70 46 = ph_i h 70 46 := ((e3 70 46 rfl).1).trans (by
    show pm_u2 (ph_i h) 88 b (-1) 70 46 = _
    simp [pm_u2])
  -- those that live in h1 lived in h, and aren't b
  have old : ∀ a, a < m → ∀ ka, ka ≤ 64 → sk_L h1 a ka → a ≠ b ∧ sk_L h a ka := by
    intro a ha ka l1 l2
    unfold sk_L at l2
    rw [eL1] at l2
    have hab : a ≠ b := fun z => by
      subst z
      exact d2 ka l1 l2
    refine ⟨hab, ?_⟩
    have : ph_i (dd_h h b) 88 a = ph_i h 88 a := by
      show pm_u2 (ph_i h) 88 b (-1) 88 a = _
      simp [pm_u2, hab]
    unfold sk_L
    rw [← this]
    exact l2
  have dif : ∀ a, a < m → ∀ ka, ka ≤ 64 → sk_L h1 a ka → ∃ t, t < ka ∧ t < k ∧ bl (ph_l h1 87 a) t ≠ bl (ph_l h 87 b) t := by
    intro a ha ka l1 l2
    obtain ⟨hab, l3⟩ := old a ha ka l1 l2
    obtain ⟨t, t1, t2, t3⟩ := i5 a b ha hb hab ka k l1 (by omega) l3 eL
    exact ⟨t, t1, t2, by rw [eB1]; exact t3⟩
  have b1 : ∀ met, sk_I h0 (m + 1) (bg_h h1 m (ph_l h 87 b) (nI (k + 1)) met) := fun met => bg_I j1 (by omega) (fun t t1 t2 => hz0 t (by omega) t2) (fun a ha ka l1 l2 => by
    obtain ⟨t, t1, t2, t3⟩ := dif a ha ka l1 l2
    exact ⟨t, t1, by omega, t3⟩)
  have orb : ∀ t, t < 64 → bl (ph_l h 87 b ||| 1 <<< ((nI k : Int32).toInt64 &&& 63)) t = (bl (ph_l h 87 b) t || decide (t = k)) := by
    intro t ht
    rw [bl_or, bl_shl k hk _ ht]
    by_cases hz : t = k
    · subst hz
      rw [bl_1 _ (by omega)]
      simp
    · by_cases hz2 : k ≤ t
      · rw [bl_1 _ (by omega)]
        simp [hz, hz2]
        omega
      · simp [hz, hz2]
  have b2 : ∀ met met2, sk_I h0 (m + 2) (bg_h (bg_h h1 m (ph_l h 87 b) (nI (k + 1)) met) (m + 1) (ph_l h 87 b ||| 1 <<< ((nI k : Int32).toInt64 &&& 63)) (nI (k + 1)) met2) := fun met met2 => bg_I (b1 met) (by omega) (fun t t1 t2 => by
    rw [orb t t2, hz0 t (by omega) t2]
    simp
    omega) (fun a ha ka l1 l2 => by
    unfold sk_L at l2
    rw [bg_L] at l2
    rw [bg_B]
    by_cases hz : a = m
    · rw [if_pos hz] at l2 ⊢
      have := nI_inj (by omega) l1 l2
      subst this
      refine ⟨k, by omega, by omega, ?_⟩
      rw [orb k hk, hz0 k (Nat.le_refl k) hk]
      simp
    · rw [if_neg hz] at l2 ⊢
      obtain ⟨t, t1, t2, t3⟩ := dif a (by omega) ka l1 l2
      refine ⟨t, t1, by omega, ?_⟩
      rw [orb t (by omega)]
      have : ¬ t = k := by omega
      simpa [this] using t3)
  have hbm : ¬ b = m := by omega
  obtain ⟨Y, eY⟩ := costs_ev e2 s 0
  obtain ⟨S, fi, fl, fr⟩ := h
  have hS : S = shT := hI.1.1
  subst hS
  obtain ⟨S1, fi1, fl1, fr1⟩ := h1
  have hS1 : S1 = shT := e2.1
  subst hS1
  have eL : fi 88 b = nI k := eL
  have eB : fl1 87 b = fl 87 b := eB1 b
  have r_70_42 : fr 70 42 = some 87 := hi_r hI.1 rfl rfl (by decide)
  have r_70_43 : fr 70 43 = some 88 := hi_r hI.1 rfl rfl (by decide)
  have r_70_44 : fr 70 44 = some 89 := hi_r hI.1 rfl rfl (by decide)
  have q_70_42 : fr1 70 42 = some 87 := hi_r e2 rfl rfl (by decide)
  have q_70_43 : fr1 70 43 = some 88 := hi_r e2 rfl rfl (by decide)
  have q_70_44 : fr1 70 44 = some 89 := hi_r e2 rfl rfl (by decide)
  have e45 : fi1 70 45 = nI m := j1.2.2.1
  rcases hasf_01 (fl1 70 21) (nI k) with z | z
  · refine ⟨m + 1, _, by omega, b1 (fi1 89 b + Y), ?_, Ev.of (es := cd_222) (ml := 4) (lv := [some (.ref 70), some (.int (nI b)), none, none]) rfl rfl rfl ?_⟩
    · rw [← n46]
      show pm_u2 (pm_u2 (pm_u2 fi1 88 m (nI (k + 1))) 89 m (fi1 89 b + Y)) 70 45 (nI (m + 1)) 70 46 = fi1 70 46
      simp [pm_u2]
    · refine g_n 1 (j' := 1) (lv' := [some (.ref 70), some (.int (nI b)), none, none]) (st' := [.ref 70]) (h' := (shT, fi, fl, fr)) rfl ?_
      refine g_getR (q' := 88) rfl rfl (by decide) r_70_43 ?_
      refine g_n 1 (j' := 3) (lv' := [some (.ref 70), some (.int (nI b)), none, none]) (st' := [.int (nI b), .ref 88]) (h' := (shT, fi, fl, fr)) rfl ?_
      refine g_iald (k := b) (x := nI k) rfl rfl (rfl) (by omega) (by decide) (eL) ?_
      refine g_n 2 (j' := 6) (lv' := [some (.ref 70), some (.int (nI b)), some (.int (nI k)), none]) (st' := [.ref 70]) (h' := (shT, fi, fl, fr)) rfl ?_
      refine g_getR (q' := 88) rfl rfl (by decide) r_70_43 ?_
      refine g_n 2 (j' := 9) (lv' := [some (.ref 70), some (.int (nI b)), some (.int (nI k)), none]) (st' := [.int (-1), .int (nI b), .ref 88]) (h' := (shT, fi, fl, fr)) rfl ?_
      refine g_iast (k := b) rfl rfl (rfl) (by omega) (by decide) ?_
      refine g_n 2 (j' := 12) (lv' := [some (.ref 70), some (.int (nI b)), some (.int (nI k)), none]) (st' := [.ref 70, .ref 70]) (h' := (shT, pm_u2 fi 88 b (-1), fl, fr)) rfl ?_
      refine g_getR (q' := 87) rfl rfl (by decide) r_70_42 ?_
      refine g_n 1 (j' := 14) (lv' := [some (.ref 70), some (.int (nI b)), some (.int (nI k)), none]) (st' := [.int (nI b), .ref 87, .ref 70]) (h' := (shT, pm_u2 fi 88 b (-1), fl, fr)) rfl ?_
      refine g_lald (k := b) (x := fl 87 b) rfl rfl (rfl) (by omega) (by decide) (rfl) ?_
      refine g_n 1 (j' := 16) (lv' := [some (.ref 70), some (.int (nI b)), some (.int (nI k)), none]) (st' := [.int (nI k), .long (fl 87 b), .ref 70]) (h' := (shT, pm_u2 fi 88 b (-1), fl, fr)) rfl ?_
      refine g_call (y := 193) (as := [.ref 70, .long (fl 87 b), .int (nI k)]) (st' := []) rfl rfl (e1) ?_
      refine g_n 3 (j' := 20) (lv' := [some (.ref 70), some (.int (nI b)), some (.int (nI k)), some (.int s)]) (st' := [.ref 70, .ref 70]) (h' := (shT, fi1, fl1, fr1)) rfl ?_
      refine g_getR (q' := 87) rfl rfl (by decide) q_70_42 ?_
      refine g_n 1 (j' := 22) (lv' := [some (.ref 70), some (.int (nI b)), some (.int (nI k)), some (.int s)]) (st' := [.int (nI b), .ref 87, .ref 70]) (h' := (shT, fi1, fl1, fr1)) rfl ?_
      refine g_lald (k := b) (x := fl 87 b) rfl rfl (rfl) (by omega) (by decide) (eB) ?_
      refine g_n 4 (j' := 27) (lv' := [some (.ref 70), some (.int (nI b)), some (.int (nI k)), some (.int s)]) (st' := [.ref 70, .int ((nI k) + 1), .long (fl 87 b), .ref 70]) (h' := (shT, fi1, fl1, fr1)) rfl ?_
      refine g_getR (q' := 89) rfl rfl (by decide) q_70_44 ?_
      refine g_n 1 (j' := 29) (lv' := [some (.ref 70), some (.int (nI b)), some (.int (nI k)), some (.int s)]) (st' := [.int (nI b), .ref 89, .int ((nI k) + 1), .long (fl 87 b), .ref 70]) (h' := (shT, fi1, fl1, fr1)) rfl ?_
      refine g_iald (k := b) (x := fi1 89 b) rfl rfl (rfl) (by omega) (by decide) (rfl) ?_
      refine g_n 2 (j' := 32) (lv' := [some (.ref 70), some (.int (nI b)), some (.int (nI k)), some (.int s)]) (st' := [.int 0, .int s, .int (fi1 89 b), .int ((nI k) + 1), .long (fl 87 b), .ref 70]) (h' := (shT, fi1, fl1, fr1)) rfl ?_
      refine g_call (y := 196) (as := [.int s, .int 0]) (st' := [.int (fi1 89 b), .int ((nI k) + 1), .long (fl 87 b), .ref 70]) rfl rfl (eY) ?_
      refine g_n 1 (j' := 34) (lv' := [some (.ref 70), some (.int (nI b)), some (.int (nI k)), some (.int s)]) (st' := [.int ((fi1 89 b) + Y), .int ((nI k) + 1), .long (fl 87 b), .ref 70]) (h' := (shT, fi1, fl1, fr1)) rfl ?_
      rw [nI_1 k]
      refine g_callv (y := 219) (as := [.ref 70, .long (fl 87 b), .int (nI (k + 1)), .int ((fi1 89 b) + Y)]) (st' := []) rfl rfl (bg_ev e2 e45 (by omega)) ?_
      refine g_n 1 (j' := 36) (lv' := [some (.ref 70), some (.int (nI b)), some (.int (nI k)), some (.int s)]) (st' := [.ref 70]) (h' := (shT, pm_u2 (pm_u2 (pm_u2 fi1 88 m (nI (k + 1))) 89 m (fi1 89 b + Y)) 70 45 (nI (m + 1)), pm_u2 fl1 87 m (fl 87 b), fr1)) rfl ?_
      refine g_getL (x := fl1 70 21) rfl rfl (by decide) (by show pm_u2 fl1 87 m (fl 87 b) 70 21 = fl1 70 21; simp [pm_u2]) ?_
      refine g_n 1 (j' := 38) (lv' := [some (.ref 70), some (.int (nI b)), some (.int (nI k)), some (.int s)]) (st' := [.int (nI k), .long (fl1 70 21)]) (h' := (shT, pm_u2 (pm_u2 (pm_u2 fi1 88 m (nI (k + 1))) 89 m (fi1 89 b + Y)) 70 45 (nI (m + 1)), pm_u2 fl1 87 m (fl 87 b), fr1)) rfl ?_
      refine g_call (y := 161) (as := [.long (fl1 70 21), .int (nI k)]) (st' := []) rfl rfl (z ▸ has_ev) ?_
      refine g_ift rfl (show (0 : Int32) = (0 : Int32) from rfl) ?_
      exact g_vret rfl
  · obtain ⟨Y2, eY2⟩ := costs_ev (b1 (fi1 89 b + Y)).1 s 1
    refine ⟨m + 2, _, Nat.le_refl _, b2 (fi1 89 b + Y) (fi1 89 b + Y2), ?_, Ev.of (es := cd_222) (ml := 4) (lv := [some (.ref 70), some (.int (nI b)), none, none]) rfl rfl rfl ?_⟩
    · rw [← n46]
      show pm_u2 (pm_u2 (pm_u2 (pm_u2 (pm_u2 (pm_u2 fi1 88 m (nI (k + 1))) 89 m (fi1 89 b + Y)) 70 45 (nI (m + 1))) 88 (m + 1) (nI (k + 1))) 89 (m + 1) (fi1 89 b + Y2)) 70 45 (nI (m + 1 + 1)) 70 46 = fi1 70 46
      simp [pm_u2]
    · refine g_n 1 (j' := 1) (lv' := [some (.ref 70), some (.int (nI b)), none, none]) (st' := [.ref 70]) (h' := (shT, fi, fl, fr)) rfl ?_
      refine g_getR (q' := 88) rfl rfl (by decide) r_70_43 ?_
      refine g_n 1 (j' := 3) (lv' := [some (.ref 70), some (.int (nI b)), none, none]) (st' := [.int (nI b), .ref 88]) (h' := (shT, fi, fl, fr)) rfl ?_
      refine g_iald (k := b) (x := nI k) rfl rfl (rfl) (by omega) (by decide) (eL) ?_
      refine g_n 2 (j' := 6) (lv' := [some (.ref 70), some (.int (nI b)), some (.int (nI k)), none]) (st' := [.ref 70]) (h' := (shT, fi, fl, fr)) rfl ?_
      refine g_getR (q' := 88) rfl rfl (by decide) r_70_43 ?_
      refine g_n 2 (j' := 9) (lv' := [some (.ref 70), some (.int (nI b)), some (.int (nI k)), none]) (st' := [.int (-1), .int (nI b), .ref 88]) (h' := (shT, fi, fl, fr)) rfl ?_
      refine g_iast (k := b) rfl rfl (rfl) (by omega) (by decide) ?_
      refine g_n 2 (j' := 12) (lv' := [some (.ref 70), some (.int (nI b)), some (.int (nI k)), none]) (st' := [.ref 70, .ref 70]) (h' := (shT, pm_u2 fi 88 b (-1), fl, fr)) rfl ?_
      refine g_getR (q' := 87) rfl rfl (by decide) r_70_42 ?_
      refine g_n 1 (j' := 14) (lv' := [some (.ref 70), some (.int (nI b)), some (.int (nI k)), none]) (st' := [.int (nI b), .ref 87, .ref 70]) (h' := (shT, pm_u2 fi 88 b (-1), fl, fr)) rfl ?_
      refine g_lald (k := b) (x := fl 87 b) rfl rfl (rfl) (by omega) (by decide) (rfl) ?_
      refine g_n 1 (j' := 16) (lv' := [some (.ref 70), some (.int (nI b)), some (.int (nI k)), none]) (st' := [.int (nI k), .long (fl 87 b), .ref 70]) (h' := (shT, pm_u2 fi 88 b (-1), fl, fr)) rfl ?_
      refine g_call (y := 193) (as := [.ref 70, .long (fl 87 b), .int (nI k)]) (st' := []) rfl rfl (e1) ?_
      refine g_n 3 (j' := 20) (lv' := [some (.ref 70), some (.int (nI b)), some (.int (nI k)), some (.int s)]) (st' := [.ref 70, .ref 70]) (h' := (shT, fi1, fl1, fr1)) rfl ?_
      refine g_getR (q' := 87) rfl rfl (by decide) q_70_42 ?_
      refine g_n 1 (j' := 22) (lv' := [some (.ref 70), some (.int (nI b)), some (.int (nI k)), some (.int s)]) (st' := [.int (nI b), .ref 87, .ref 70]) (h' := (shT, fi1, fl1, fr1)) rfl ?_
      refine g_lald (k := b) (x := fl 87 b) rfl rfl (rfl) (by omega) (by decide) (eB) ?_
      refine g_n 4 (j' := 27) (lv' := [some (.ref 70), some (.int (nI b)), some (.int (nI k)), some (.int s)]) (st' := [.ref 70, .int ((nI k) + 1), .long (fl 87 b), .ref 70]) (h' := (shT, fi1, fl1, fr1)) rfl ?_
      refine g_getR (q' := 89) rfl rfl (by decide) q_70_44 ?_
      refine g_n 1 (j' := 29) (lv' := [some (.ref 70), some (.int (nI b)), some (.int (nI k)), some (.int s)]) (st' := [.int (nI b), .ref 89, .int ((nI k) + 1), .long (fl 87 b), .ref 70]) (h' := (shT, fi1, fl1, fr1)) rfl ?_
      refine g_iald (k := b) (x := fi1 89 b) rfl rfl (rfl) (by omega) (by decide) (rfl) ?_
      refine g_n 2 (j' := 32) (lv' := [some (.ref 70), some (.int (nI b)), some (.int (nI k)), some (.int s)]) (st' := [.int 0, .int s, .int (fi1 89 b), .int ((nI k) + 1), .long (fl 87 b), .ref 70]) (h' := (shT, fi1, fl1, fr1)) rfl ?_
      refine g_call (y := 196) (as := [.int s, .int 0]) (st' := [.int (fi1 89 b), .int ((nI k) + 1), .long (fl 87 b), .ref 70]) rfl rfl (eY) ?_
      refine g_n 1 (j' := 34) (lv' := [some (.ref 70), some (.int (nI b)), some (.int (nI k)), some (.int s)]) (st' := [.int ((fi1 89 b) + Y), .int ((nI k) + 1), .long (fl 87 b), .ref 70]) (h' := (shT, fi1, fl1, fr1)) rfl ?_
      rw [nI_1 k]
      refine g_callv (y := 219) (as := [.ref 70, .long (fl 87 b), .int (nI (k + 1)), .int ((fi1 89 b) + Y)]) (st' := []) rfl rfl (bg_ev e2 e45 (by omega)) ?_
      refine g_n 1 (j' := 36) (lv' := [some (.ref 70), some (.int (nI b)), some (.int (nI k)), some (.int s)]) (st' := [.ref 70]) (h' := (shT, pm_u2 (pm_u2 (pm_u2 fi1 88 m (nI (k + 1))) 89 m (fi1 89 b + Y)) 70 45 (nI (m + 1)), pm_u2 fl1 87 m (fl 87 b), fr1)) rfl ?_
      refine g_getL (x := fl1 70 21) rfl rfl (by decide) (by show pm_u2 fl1 87 m (fl 87 b) 70 21 = fl1 70 21; simp [pm_u2]) ?_
      refine g_n 1 (j' := 38) (lv' := [some (.ref 70), some (.int (nI b)), some (.int (nI k)), some (.int s)]) (st' := [.int (nI k), .long (fl1 70 21)]) (h' := (shT, pm_u2 (pm_u2 (pm_u2 fi1 88 m (nI (k + 1))) 89 m (fi1 89 b + Y)) 70 45 (nI (m + 1)), pm_u2 fl1 87 m (fl 87 b), fr1)) rfl ?_
      refine g_call (y := 161) (as := [.long (fl1 70 21), .int (nI k)]) (st' := []) rfl rfl (z ▸ has_ev) ?_
      refine g_iff rfl (show ¬ ((1 : Int32) = (0 : Int32)) from by decide) ?_
      refine g_n 2 (j' := 42) (lv' := [some (.ref 70), some (.int (nI b)), some (.int (nI k)), some (.int s)]) (st' := [.ref 70, .ref 70]) (h' := (shT, pm_u2 (pm_u2 (pm_u2 fi1 88 m (nI (k + 1))) 89 m (fi1 89 b + Y)) 70 45 (nI (m + 1)), pm_u2 fl1 87 m (fl 87 b), fr1)) rfl ?_
      refine g_getR (q' := 87) rfl rfl (by decide) q_70_42 ?_
      refine g_n 1 (j' := 44) (lv' := [some (.ref 70), some (.int (nI b)), some (.int (nI k)), some (.int s)]) (st' := [.int (nI b), .ref 87, .ref 70]) (h' := (shT, pm_u2 (pm_u2 (pm_u2 fi1 88 m (nI (k + 1))) 89 m (fi1 89 b + Y)) 70 45 (nI (m + 1)), pm_u2 fl1 87 m (fl 87 b), fr1)) rfl ?_
      refine g_lald (k := b) (x := fl 87 b) rfl rfl (rfl) (by omega) (by decide) (by show pm_u2 fl1 87 m (fl 87 b) 87 b = fl 87 b; simp [pm_u2, hbm, eB]) ?_
      refine g_n 8 (j' := 53) (lv' := [some (.ref 70), some (.int (nI b)), some (.int (nI k)), some (.int s)]) (st' := [.ref 70, .int ((nI k) + 1), .long ((fl 87 b) ||| (1 <<< ((nI k : Int32).toInt64 &&& 63))), .ref 70]) (h' := (shT, pm_u2 (pm_u2 (pm_u2 fi1 88 m (nI (k + 1))) 89 m (fi1 89 b + Y)) 70 45 (nI (m + 1)), pm_u2 fl1 87 m (fl 87 b), fr1)) rfl ?_
      refine g_getR (q' := 89) rfl rfl (by decide) q_70_44 ?_
      refine g_n 1 (j' := 55) (lv' := [some (.ref 70), some (.int (nI b)), some (.int (nI k)), some (.int s)]) (st' := [.int (nI b), .ref 89, .int ((nI k) + 1), .long ((fl 87 b) ||| (1 <<< ((nI k : Int32).toInt64 &&& 63))), .ref 70]) (h' := (shT, pm_u2 (pm_u2 (pm_u2 fi1 88 m (nI (k + 1))) 89 m (fi1 89 b + Y)) 70 45 (nI (m + 1)), pm_u2 fl1 87 m (fl 87 b), fr1)) rfl ?_
      refine g_iald (k := b) (x := fi1 89 b) rfl rfl (rfl) (by omega) (by decide) (by show (pm_u2 (pm_u2 (pm_u2 fi1 88 m (nI (k + 1))) 89 m (fi1 89 b + Y)) 70 45 (nI (m + 1))) 89 b = fi1 89 b; simp [pm_u2, hbm]) ?_
      refine g_n 2 (j' := 58) (lv' := [some (.ref 70), some (.int (nI b)), some (.int (nI k)), some (.int s)]) (st' := [.int 1, .int s, .int (fi1 89 b), .int ((nI k) + 1), .long ((fl 87 b) ||| (1 <<< ((nI k : Int32).toInt64 &&& 63))), .ref 70]) (h' := (shT, pm_u2 (pm_u2 (pm_u2 fi1 88 m (nI (k + 1))) 89 m (fi1 89 b + Y)) 70 45 (nI (m + 1)), pm_u2 fl1 87 m (fl 87 b), fr1)) rfl ?_
      refine g_call (y := 196) (as := [.int s, .int 1]) (st' := [.int (fi1 89 b), .int ((nI k) + 1), .long ((fl 87 b) ||| (1 <<< ((nI k : Int32).toInt64 &&& 63))), .ref 70]) rfl rfl (eY2) ?_
      refine g_n 1 (j' := 60) (lv' := [some (.ref 70), some (.int (nI b)), some (.int (nI k)), some (.int s)]) (st' := [.int ((fi1 89 b) + Y2), .int ((nI k) + 1), .long ((fl 87 b) ||| (1 <<< ((nI k : Int32).toInt64 &&& 63))), .ref 70]) (h' := (shT, pm_u2 (pm_u2 (pm_u2 fi1 88 m (nI (k + 1))) 89 m (fi1 89 b + Y)) 70 45 (nI (m + 1)), pm_u2 fl1 87 m (fl 87 b), fr1)) rfl ?_
      rw [nI_1 k]
      refine g_callv (y := 219) (as := [.ref 70, .long ((fl 87 b) ||| (1 <<< ((nI k : Int32).toInt64 &&& 63))), .int (nI (k + 1)), .int ((fi1 89 b) + Y2)]) (st' := []) rfl rfl (bg_ev (b1 (fi1 89 b + Y)).1 bg_45 (by omega)) ?_
      exact g_vret rfl
