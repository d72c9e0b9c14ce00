def tdV (a : AB) (m k c l : Nat) (w : Nat) : Int32 := if w = 0 then (rdX a m l).2.2 (chN (rdD a m k c l) (rdX a m l).1) else if w = 1 then b01 (hoN (rdD a m k c l) (rdX a m l).1) else if w = 2 then nI (chN (rdD a m k c l) (rdX a m l).1) else nI (rdX a m l).1
theorem td_C {h h1 : PmH} {a : AB} {m k c l w : Nat} (hr : REL3 h a) (h0 : 0 < (a_v a).1 1) (vk : VK (a_v a) m k c) (l1 : 1 ≤ l) (l8 : l ≤ 8) (e1 : Ev pmT 81 [.ref 0] h none h1) (hx : roI (a_v a).2.1 m k c ((a_v a).1 4) (a_v a).2.2 l h1) (I1 : HI hdT shT h1) (hw : w < 4) : Ev pmT 109 [.ref 0, .int (nI w)] h (some (.int (tdV a m k c l w))) h1 := by
  have hI := hr.1.1.1
  have t1 := told1 hI (hr.1.1.2.1.2.2.2.2.1.1 1 (by decide)) h0
  have k0 : ph_r h 0 0 = some 1 := hi_r hI rfl rfl (by decide)
  have q8 : ph_r h1 0 8 = some 13 := hi_r I1 rfl rfl (by decide)
  have hP := rd_P (K := (a_v a).2.1) (m := m) (S := (a_v a).2.2) l1 (2 ^ m)
  obtain ⟨A, hA, a1, a2, a3, a4, a5⟩ := hx
  have cl := ch_lt (D := rdD a m k c l) (P := (rdX a m l).1) hP.1
  have cb : (rdX a m l).1 ≤ 8 := Nat.le_trans hP.2 l8
  have bb := (a1.2.2.2 _ cl).2
  have kB : ∀ A, (A = 14 ∨ A = 18) → ph_r h1 A 2 = some (A + 2) := fun A hA => by
    rcases hA with rfl | rfl
    · exact hi_r I1 rfl rfl (by decide)
    · exact hi_r I1 rfl rfl (by decide)
  have kB := kB A hA
  have ka := a1.1
  have cP := a1.2.2.1
  have a4 : ph_i h1 13 7 = nI (chN (rdD a m k c l) (rdX a m l).1) := a4
  have a5 : ph_i h1 13 8 = b01 (hoN (rdD a m k c l) (rdX a m l).1) := a5
  have cP : ph_i h1 A 0 = nI (rdX a m l).1 := cP
  have bb : ph_i h1 (A + 2) (chN (rdD a m k c l) (rdX a m l).1) = (rdX a m l).2.2 (chN (rdD a m k c l) (rdX a m l).1) := bb
  unfold tdV
  generalize (rdX a m l).2.2 (chN (rdD a m k c l) (rdX a m l).1) = u at *
  generalize hoN (rdD a m k c l) (rdX a m l).1 = t at *
  generalize chN (rdD a m k c l) (rdX a m l).1 = q at *
  generalize (rdX a m l).1 = P at *
  clear a1 a2 a3 hr
  obtain ⟨S1, fi1, fl1, fr1⟩ := h1
  have s1 : S1 = shT := I1.1
  subst s1
  have q8 : fr1 0 8 = some 13 := q8
  have kB : fr1 A 2 = some (A + 2) := kB
  have ka : fr1 13 0 = some A := ka
  have a4 : fi1 13 7 = nI q := a4
  have a5 : fi1 13 8 = b01 t := a5
  have cP : fi1 A 0 = nI P := cP
  have bb : fi1 (A + 2) q = u := bb
  obtain ⟨S, fi, fl, fr⟩ := h
  have hS : S = shT := hI.1
  subst hS
  have k0 : fr 0 0 = some 1 := k0
  have w4 : w = 0 ∨ w = 1 ∨ w = 2 ∨ w = 3 := by omega
  rcases hA with rfl | rfl
  · rcases w4 with rfl | rfl | rfl | rfl
    ·
      refine Ev.of (es := cd_109) (ml := 2) (lv := [some (.ref 0), some (.int 0)]) rfl rfl rfl ?_
      refine go_of ?_
      refine gp_n 1 (j' := 1) (lv' := [some (.ref 0), some (.int 0)]) (st' := [.ref 0]) (h' := (shT, fi, fl, fr)) rfl ?_
      refine gp_of (fun _ k9 => g_getR (q' := 1) rfl rfl (by decide) k0 k9) ?_
      refine gp_of (fun _ k9 => g_call (y := 57) (as := [.ref 1]) (st' := []) rfl rfl (t1) k9) ?_
      refine gp_of (fun _ k9 => g_iff rfl (show ¬ ((1 : Int32) = (0 : Int32)) from by decide) k9) ?_
      refine gp_n 1 (j' := 5) (lv' := [some (.ref 0), some (.int 0)]) (st' := [.int 0]) (h' := (shT, fi, fl, fr)) rfl ?_
      refine gp_of (fun _ k9 => g_iff rfl (show ¬ ((0 : Int32) < (0 : Int32)) from by decide) k9) ?_
      refine gp_n 2 (j' := 8) (lv' := [some (.ref 0), some (.int 0)]) (st' := [.int 3, .int 0]) (h' := (shT, fi, fl, fr)) rfl ?_
      refine gp_of (fun _ k9 => g_ict rfl (show (0 : Int32) ≤ (3 : Int32) from by decide) k9) ?_
      refine gp_n 1 (j' := 12) (lv' := [some (.ref 0), some (.int 0)]) (st' := [.ref 0]) (h' := (shT, fi, fl, fr)) rfl ?_
      refine gp_of (fun _ k9 => g_callv (y := 81) (as := [.ref 0]) (st' := []) rfl rfl (e1) k9) ?_
      refine gp_n 3 (j' := 16) (lv' := [some (.ref 0), some (.int 0)]) (st' := [.ref 0]) (h' := (shT, fi1, fl1, fr1)) rfl ?_
      refine gp_of (fun _ k9 => g_getR (q' := 13) rfl rfl (by decide) q8 k9) ?_
      refine gp_of (fun _ k9 => g_getR (q' := 14) rfl rfl (by decide) ka k9) ?_
      refine gp_of (fun _ k9 => g_getR (q' := 16) rfl rfl (by decide) kB k9) ?_
      refine gp_n 1 (j' := 20) (lv' := [some (.ref 0), some (.int 0)]) (st' := [.ref 0, .ref 16]) (h' := (shT, fi1, fl1, fr1)) rfl ?_
      refine gp_of (fun _ k9 => g_getR (q' := 13) rfl rfl (by decide) q8 k9) ?_
      refine gp_of (fun _ k9 => g_getI (x := nI q) rfl (Or.inl rfl) rfl (by decide) (a4) k9) ?_
      refine gp_of (fun _ k9 => g_iald (k := q) (x := u) rfl rfl (rfl) (by omega) (by decide) (bb) k9) ?_
      refine gp_done (g_ret rfl) ?_
      rfl
    · cases t
      · have a5 : fi1 13 8 = 0 := a5
        refine Ev.of (es := cd_109) (ml := 2) (lv := [some (.ref 0), some (.int 1)]) rfl rfl rfl ?_
        refine go_of ?_
        refine gp_n 1 (j' := 1) (lv' := [some (.ref 0), some (.int 1)]) (st' := [.ref 0]) (h' := (shT, fi, fl, fr)) rfl ?_
        refine gp_of (fun _ k9 => g_getR (q' := 1) rfl rfl (by decide) k0 k9) ?_
        refine gp_of (fun _ k9 => g_call (y := 57) (as := [.ref 1]) (st' := []) rfl rfl (t1) k9) ?_
        refine gp_of (fun _ k9 => g_iff rfl (show ¬ ((1 : Int32) = (0 : Int32)) from by decide) k9) ?_
        refine gp_n 1 (j' := 5) (lv' := [some (.ref 0), some (.int 1)]) (st' := [.int 1]) (h' := (shT, fi, fl, fr)) rfl ?_
        refine gp_of (fun _ k9 => g_iff rfl (show ¬ ((1 : Int32) < (0 : Int32)) from by decide) k9) ?_
        refine gp_n 2 (j' := 8) (lv' := [some (.ref 0), some (.int 1)]) (st' := [.int 3, .int 1]) (h' := (shT, fi, fl, fr)) rfl ?_
        refine gp_of (fun _ k9 => g_ict rfl (show (1 : Int32) ≤ (3 : Int32) from by decide) k9) ?_
        refine gp_n 1 (j' := 12) (lv' := [some (.ref 0), some (.int 1)]) (st' := [.ref 0]) (h' := (shT, fi, fl, fr)) rfl ?_
        refine gp_of (fun _ k9 => g_callv (y := 81) (as := [.ref 0]) (st' := []) rfl rfl (e1) k9) ?_
        refine gp_n 3 (j' := 25) (lv' := [some (.ref 0), some (.int 1)]) (st' := [.ref 0]) (h' := (shT, fi1, fl1, fr1)) rfl ?_
        refine gp_of (fun _ k9 => g_getR (q' := 13) rfl rfl (by decide) q8 k9) ?_
        refine gp_of (fun _ k9 => g_getI (x := 0) rfl (Or.inr rfl) rfl (by decide) (a5) k9) ?_
        refine gp_of (fun _ k9 => g_ift rfl (show (0 : Int32) = (0 : Int32) from by decide) k9) ?_
        refine gp_n 1 (j' := 31) (lv' := [some (.ref 0), some (.int 1)]) (st' := [.int 0]) (h' := (shT, fi1, fl1, fr1)) rfl ?_
        refine gp_done (g_ret rfl) ?_
        rfl
      · have a5 : fi1 13 8 = 1 := a5
        refine Ev.of (es := cd_109) (ml := 2) (lv := [some (.ref 0), some (.int 1)]) rfl rfl rfl ?_
        refine go_of ?_
        refine gp_n 1 (j' := 1) (lv' := [some (.ref 0), some (.int 1)]) (st' := [.ref 0]) (h' := (shT, fi, fl, fr)) rfl ?_
        refine gp_of (fun _ k9 => g_getR (q' := 1) rfl rfl (by decide) k0 k9) ?_
        refine gp_of (fun _ k9 => g_call (y := 57) (as := [.ref 1]) (st' := []) rfl rfl (t1) k9) ?_
        refine gp_of (fun _ k9 => g_iff rfl (show ¬ ((1 : Int32) = (0 : Int32)) from by decide) k9) ?_
        refine gp_n 1 (j' := 5) (lv' := [some (.ref 0), some (.int 1)]) (st' := [.int 1]) (h' := (shT, fi, fl, fr)) rfl ?_
        refine gp_of (fun _ k9 => g_iff rfl (show ¬ ((1 : Int32) < (0 : Int32)) from by decide) k9) ?_
        refine gp_n 2 (j' := 8) (lv' := [some (.ref 0), some (.int 1)]) (st' := [.int 3, .int 1]) (h' := (shT, fi, fl, fr)) rfl ?_
        refine gp_of (fun _ k9 => g_ict rfl (show (1 : Int32) ≤ (3 : Int32) from by decide) k9) ?_
        refine gp_n 1 (j' := 12) (lv' := [some (.ref 0), some (.int 1)]) (st' := [.ref 0]) (h' := (shT, fi, fl, fr)) rfl ?_
        refine gp_of (fun _ k9 => g_callv (y := 81) (as := [.ref 0]) (st' := []) rfl rfl (e1) k9) ?_
        refine gp_n 3 (j' := 25) (lv' := [some (.ref 0), some (.int 1)]) (st' := [.ref 0]) (h' := (shT, fi1, fl1, fr1)) rfl ?_
        refine gp_of (fun _ k9 => g_getR (q' := 13) rfl rfl (by decide) q8 k9) ?_
        refine gp_of (fun _ k9 => g_getI (x := 1) rfl (Or.inr rfl) rfl (by decide) (a5) k9) ?_
        refine gp_of (fun _ k9 => g_iff rfl (show ¬ ((1 : Int32) = (0 : Int32)) from by decide) k9) ?_
        refine gp_n 2 (j' := 31) (lv' := [some (.ref 0), some (.int 1)]) (st' := [.int 1]) (h' := (shT, fi1, fl1, fr1)) rfl ?_
        refine gp_done (g_ret rfl) ?_
        rfl
    ·
      refine Ev.of (es := cd_109) (ml := 2) (lv := [some (.ref 0), some (.int 2)]) rfl rfl rfl ?_
      refine go_of ?_
      refine gp_n 1 (j' := 1) (lv' := [some (.ref 0), some (.int 2)]) (st' := [.ref 0]) (h' := (shT, fi, fl, fr)) rfl ?_
      refine gp_of (fun _ k9 => g_getR (q' := 1) rfl rfl (by decide) k0 k9) ?_
      refine gp_of (fun _ k9 => g_call (y := 57) (as := [.ref 1]) (st' := []) rfl rfl (t1) k9) ?_
      refine gp_of (fun _ k9 => g_iff rfl (show ¬ ((1 : Int32) = (0 : Int32)) from by decide) k9) ?_
      refine gp_n 1 (j' := 5) (lv' := [some (.ref 0), some (.int 2)]) (st' := [.int 2]) (h' := (shT, fi, fl, fr)) rfl ?_
      refine gp_of (fun _ k9 => g_iff rfl (show ¬ ((2 : Int32) < (0 : Int32)) from by decide) k9) ?_
      refine gp_n 2 (j' := 8) (lv' := [some (.ref 0), some (.int 2)]) (st' := [.int 3, .int 2]) (h' := (shT, fi, fl, fr)) rfl ?_
      refine gp_of (fun _ k9 => g_ict rfl (show (2 : Int32) ≤ (3 : Int32) from by decide) k9) ?_
      refine gp_n 1 (j' := 12) (lv' := [some (.ref 0), some (.int 2)]) (st' := [.ref 0]) (h' := (shT, fi, fl, fr)) rfl ?_
      refine gp_of (fun _ k9 => g_callv (y := 81) (as := [.ref 0]) (st' := []) rfl rfl (e1) k9) ?_
      refine gp_n 3 (j' := 33) (lv' := [some (.ref 0), some (.int 2)]) (st' := [.ref 0]) (h' := (shT, fi1, fl1, fr1)) rfl ?_
      refine gp_of (fun _ k9 => g_getR (q' := 13) rfl rfl (by decide) q8 k9) ?_
      refine gp_of (fun _ k9 => g_getI (x := nI q) rfl (Or.inl rfl) rfl (by decide) (a4) k9) ?_
      refine gp_done (g_ret rfl) ?_
      rfl
    ·
      refine Ev.of (es := cd_109) (ml := 2) (lv := [some (.ref 0), some (.int 3)]) rfl rfl rfl ?_
      refine go_of ?_
      refine gp_n 1 (j' := 1) (lv' := [some (.ref 0), some (.int 3)]) (st' := [.ref 0]) (h' := (shT, fi, fl, fr)) rfl ?_
      refine gp_of (fun _ k9 => g_getR (q' := 1) rfl rfl (by decide) k0 k9) ?_
      refine gp_of (fun _ k9 => g_call (y := 57) (as := [.ref 1]) (st' := []) rfl rfl (t1) k9) ?_
      refine gp_of (fun _ k9 => g_iff rfl (show ¬ ((1 : Int32) = (0 : Int32)) from by decide) k9) ?_
      refine gp_n 1 (j' := 5) (lv' := [some (.ref 0), some (.int 3)]) (st' := [.int 3]) (h' := (shT, fi, fl, fr)) rfl ?_
      refine gp_of (fun _ k9 => g_iff rfl (show ¬ ((3 : Int32) < (0 : Int32)) from by decide) k9) ?_
      refine gp_n 2 (j' := 8) (lv' := [some (.ref 0), some (.int 3)]) (st' := [.int 3, .int 3]) (h' := (shT, fi, fl, fr)) rfl ?_
      refine gp_of (fun _ k9 => g_ict rfl (show (3 : Int32) ≤ (3 : Int32) from by decide) k9) ?_
      refine gp_n 1 (j' := 12) (lv' := [some (.ref 0), some (.int 3)]) (st' := [.ref 0]) (h' := (shT, fi, fl, fr)) rfl ?_
      refine gp_of (fun _ k9 => g_callv (y := 81) (as := [.ref 0]) (st' := []) rfl rfl (e1) k9) ?_
      refine gp_n 3 (j' := 37) (lv' := [some (.ref 0), some (.int 3)]) (st' := [.ref 0]) (h' := (shT, fi1, fl1, fr1)) rfl ?_
      refine gp_of (fun _ k9 => g_getR (q' := 13) rfl rfl (by decide) q8 k9) ?_
      refine gp_of (fun _ k9 => g_getR (q' := 14) rfl rfl (by decide) ka k9) ?_
      refine gp_of (fun _ k9 => g_getI (x := nI P) rfl (Or.inl rfl) rfl (by decide) (cP) k9) ?_
      refine gp_done (g_ret rfl) ?_
      rfl
  · rcases w4 with rfl | rfl | rfl | rfl
    ·
      refine Ev.of (es := cd_109) (ml := 2) (lv := [some (.ref 0), some (.int 0)]) rfl rfl rfl ?_
      refine go_of ?_
      refine gp_n 1 (j' := 1) (lv' := [some (.ref 0), some (.int 0)]) (st' := [.ref 0]) (h' := (shT, fi, fl, fr)) rfl ?_
      refine gp_of (fun _ k9 => g_getR (q' := 1) rfl rfl (by decide) k0 k9) ?_
      refine gp_of (fun _ k9 => g_call (y := 57) (as := [.ref 1]) (st' := []) rfl rfl (t1) k9) ?_
      refine gp_of (fun _ k9 => g_iff rfl (show ¬ ((1 : Int32) = (0 : Int32)) from by decide) k9) ?_
      refine gp_n 1 (j' := 5) (lv' := [some (.ref 0), some (.int 0)]) (st' := [.int 0]) (h' := (shT, fi, fl, fr)) rfl ?_
      refine gp_of (fun _ k9 => g_iff rfl (show ¬ ((0 : Int32) < (0 : Int32)) from by decide) k9) ?_
      refine gp_n 2 (j' := 8) (lv' := [some (.ref 0), some (.int 0)]) (st' := [.int 3, .int 0]) (h' := (shT, fi, fl, fr)) rfl ?_
      refine gp_of (fun _ k9 => g_ict rfl (show (0 : Int32) ≤ (3 : Int32) from by decide) k9) ?_
      refine gp_n 1 (j' := 12) (lv' := [some (.ref 0), some (.int 0)]) (st' := [.ref 0]) (h' := (shT, fi, fl, fr)) rfl ?_
      refine gp_of (fun _ k9 => g_callv (y := 81) (as := [.ref 0]) (st' := []) rfl rfl (e1) k9) ?_
      refine gp_n 3 (j' := 16) (lv' := [some (.ref 0), some (.int 0)]) (st' := [.ref 0]) (h' := (shT, fi1, fl1, fr1)) rfl ?_
      refine gp_of (fun _ k9 => g_getR (q' := 13) rfl rfl (by decide) q8 k9) ?_
      refine gp_of (fun _ k9 => g_getR (q' := 18) rfl rfl (by decide) ka k9) ?_
      refine gp_of (fun _ k9 => g_getR (q' := 20) rfl rfl (by decide) kB k9) ?_
      refine gp_n 1 (j' := 20) (lv' := [some (.ref 0), some (.int 0)]) (st' := [.ref 0, .ref 20]) (h' := (shT, fi1, fl1, fr1)) rfl ?_
      refine gp_of (fun _ k9 => g_getR (q' := 13) rfl rfl (by decide) q8 k9) ?_
      refine gp_of (fun _ k9 => g_getI (x := nI q) rfl (Or.inl rfl) rfl (by decide) (a4) k9) ?_
      refine gp_of (fun _ k9 => g_iald (k := q) (x := u) rfl rfl (rfl) (by omega) (by decide) (bb) k9) ?_
      refine gp_done (g_ret rfl) ?_
      rfl
    · cases t
      · have a5 : fi1 13 8 = 0 := a5
        refine Ev.of (es := cd_109) (ml := 2) (lv := [some (.ref 0), some (.int 1)]) rfl rfl rfl ?_
        refine go_of ?_
        refine gp_n 1 (j' := 1) (lv' := [some (.ref 0), some (.int 1)]) (st' := [.ref 0]) (h' := (shT, fi, fl, fr)) rfl ?_
        refine gp_of (fun _ k9 => g_getR (q' := 1) rfl rfl (by decide) k0 k9) ?_
        refine gp_of (fun _ k9 => g_call (y := 57) (as := [.ref 1]) (st' := []) rfl rfl (t1) k9) ?_
        refine gp_of (fun _ k9 => g_iff rfl (show ¬ ((1 : Int32) = (0 : Int32)) from by decide) k9) ?_
        refine gp_n 1 (j' := 5) (lv' := [some (.ref 0), some (.int 1)]) (st' := [.int 1]) (h' := (shT, fi, fl, fr)) rfl ?_
        refine gp_of (fun _ k9 => g_iff rfl (show ¬ ((1 : Int32) < (0 : Int32)) from by decide) k9) ?_
        refine gp_n 2 (j' := 8) (lv' := [some (.ref 0), some (.int 1)]) (st' := [.int 3, .int 1]) (h' := (shT, fi, fl, fr)) rfl ?_
        refine gp_of (fun _ k9 => g_ict rfl (show (1 : Int32) ≤ (3 : Int32) from by decide) k9) ?_
        refine gp_n 1 (j' := 12) (lv' := [some (.ref 0), some (.int 1)]) (st' := [.ref 0]) (h' := (shT, fi, fl, fr)) rfl ?_
        refine gp_of (fun _ k9 => g_callv (y := 81) (as := [.ref 0]) (st' := []) rfl rfl (e1) k9) ?_
        refine gp_n 3 (j' := 25) (lv' := [some (.ref 0), some (.int 1)]) (st' := [.ref 0]) (h' := (shT, fi1, fl1, fr1)) rfl ?_
        refine gp_of (fun _ k9 => g_getR (q' := 13) rfl rfl (by decide) q8 k9) ?_
        refine gp_of (fun _ k9 => g_getI (x := 0) rfl (Or.inr rfl) rfl (by decide) (a5) k9) ?_
        refine gp_of (fun _ k9 => g_ift rfl (show (0 : Int32) = (0 : Int32) from by decide) k9) ?_
        refine gp_n 1 (j' := 31) (lv' := [some (.ref 0), some (.int 1)]) (st' := [.int 0]) (h' := (shT, fi1, fl1, fr1)) rfl ?_
        refine gp_done (g_ret rfl) ?_
        rfl
      · have a5 : fi1 13 8 = 1 := a5
        refine Ev.of (es := cd_109) (ml := 2) (lv := [some (.ref 0), some (.int 1)]) rfl rfl rfl ?_
        refine go_of ?_
        refine gp_n 1 (j' := 1) (lv' := [some (.ref 0), some (.int 1)]) (st' := [.ref 0]) (h' := (shT, fi, fl, fr)) rfl ?_
        refine gp_of (fun _ k9 => g_getR (q' := 1) rfl rfl (by decide) k0 k9) ?_
        refine gp_of (fun _ k9 => g_call (y := 57) (as := [.ref 1]) (st' := []) rfl rfl (t1) k9) ?_
        refine gp_of (fun _ k9 => g_iff rfl (show ¬ ((1 : Int32) = (0 : Int32)) from by decide) k9) ?_
        refine gp_n 1 (j' := 5) (lv' := [some (.ref 0), some (.int 1)]) (st' := [.int 1]) (h' := (shT, fi, fl, fr)) rfl ?_
        refine gp_of (fun _ k9 => g_iff rfl (show ¬ ((1 : Int32) < (0 : Int32)) from by decide) k9) ?_
        refine gp_n 2 (j' := 8) (lv' := [some (.ref 0), some (.int 1)]) (st' := [.int 3, .int 1]) (h' := (shT, fi, fl, fr)) rfl ?_
        refine gp_of (fun _ k9 => g_ict rfl (show (1 : Int32) ≤ (3 : Int32) from by decide) k9) ?_
        refine gp_n 1 (j' := 12) (lv' := [some (.ref 0), some (.int 1)]) (st' := [.ref 0]) (h' := (shT, fi, fl, fr)) rfl ?_
        refine gp_of (fun _ k9 => g_callv (y := 81) (as := [.ref 0]) (st' := []) rfl rfl (e1) k9) ?_
        refine gp_n 3 (j' := 25) (lv' := [some (.ref 0), some (.int 1)]) (st' := [.ref 0]) (h' := (shT, fi1, fl1, fr1)) rfl ?_
        refine gp_of (fun _ k9 => g_getR (q' := 13) rfl rfl (by decide) q8 k9) ?_
        refine gp_of (fun _ k9 => g_getI (x := 1) rfl (Or.inr rfl) rfl (by decide) (a5) k9) ?_
        refine gp_of (fun _ k9 => g_iff rfl (show ¬ ((1 : Int32) = (0 : Int32)) from by decide) k9) ?_
        refine gp_n 2 (j' := 31) (lv' := [some (.ref 0), some (.int 1)]) (st' := [.int 1]) (h' := (shT, fi1, fl1, fr1)) rfl ?_
        refine gp_done (g_ret rfl) ?_
        rfl
    ·
      refine Ev.of (es := cd_109) (ml := 2) (lv := [some (.ref 0), some (.int 2)]) rfl rfl rfl ?_
      refine go_of ?_
      refine gp_n 1 (j' := 1) (lv' := [some (.ref 0), some (.int 2)]) (st' := [.ref 0]) (h' := (shT, fi, fl, fr)) rfl ?_
      refine gp_of (fun _ k9 => g_getR (q' := 1) rfl rfl (by decide) k0 k9) ?_
      refine gp_of (fun _ k9 => g_call (y := 57) (as := [.ref 1]) (st' := []) rfl rfl (t1) k9) ?_
      refine gp_of (fun _ k9 => g_iff rfl (show ¬ ((1 : Int32) = (0 : Int32)) from by decide) k9) ?_
      refine gp_n 1 (j' := 5) (lv' := [some (.ref 0), some (.int 2)]) (st' := [.int 2]) (h' := (shT, fi, fl, fr)) rfl ?_
      refine gp_of (fun _ k9 => g_iff rfl (show ¬ ((2 : Int32) < (0 : Int32)) from by decide) k9) ?_
      refine gp_n 2 (j' := 8) (lv' := [some (.ref 0), some (.int 2)]) (st' := [.int 3, .int 2]) (h' := (shT, fi, fl, fr)) rfl ?_
      refine gp_of (fun _ k9 => g_ict rfl (show (2 : Int32) ≤ (3 : Int32) from by decide) k9) ?_
      refine gp_n 1 (j' := 12) (lv' := [some (.ref 0), some (.int 2)]) (st' := [.ref 0]) (h' := (shT, fi, fl, fr)) rfl ?_
      refine gp_of (fun _ k9 => g_callv (y := 81) (as := [.ref 0]) (st' := []) rfl rfl (e1) k9) ?_
      refine gp_n 3 (j' := 33) (lv' := [some (.ref 0), some (.int 2)]) (st' := [.ref 0]) (h' := (shT, fi1, fl1, fr1)) rfl ?_
      refine gp_of (fun _ k9 => g_getR (q' := 13) rfl rfl (by decide) q8 k9) ?_
      refine gp_of (fun _ k9 => g_getI (x := nI q) rfl (Or.inl rfl) rfl (by decide) (a4) k9) ?_
      refine gp_done (g_ret rfl) ?_
      rfl
    ·
      refine Ev.of (es := cd_109) (ml := 2) (lv := [some (.ref 0), some (.int 3)]) rfl rfl rfl ?_
      refine go_of ?_
      refine gp_n 1 (j' := 1) (lv' := [some (.ref 0), some (.int 3)]) (st' := [.ref 0]) (h' := (shT, fi, fl, fr)) rfl ?_
      refine gp_of (fun _ k9 => g_getR (q' := 1) rfl rfl (by decide) k0 k9) ?_
      refine gp_of (fun _ k9 => g_call (y := 57) (as := [.ref 1]) (st' := []) rfl rfl (t1) k9) ?_
      refine gp_of (fun _ k9 => g_iff rfl (show ¬ ((1 : Int32) = (0 : Int32)) from by decide) k9) ?_
      refine gp_n 1 (j' := 5) (lv' := [some (.ref 0), some (.int 3)]) (st' := [.int 3]) (h' := (shT, fi, fl, fr)) rfl ?_
      refine gp_of (fun _ k9 => g_iff rfl (show ¬ ((3 : Int32) < (0 : Int32)) from by decide) k9) ?_
      refine gp_n 2 (j' := 8) (lv' := [some (.ref 0), some (.int 3)]) (st' := [.int 3, .int 3]) (h' := (shT, fi, fl, fr)) rfl ?_
      refine gp_of (fun _ k9 => g_ict rfl (show (3 : Int32) ≤ (3 : Int32) from by decide) k9) ?_
      refine gp_n 1 (j' := 12) (lv' := [some (.ref 0), some (.int 3)]) (st' := [.ref 0]) (h' := (shT, fi, fl, fr)) rfl ?_
      refine gp_of (fun _ k9 => g_callv (y := 81) (as := [.ref 0]) (st' := []) rfl rfl (e1) k9) ?_
      refine gp_n 3 (j' := 37) (lv' := [some (.ref 0), some (.int 3)]) (st' := [.ref 0]) (h' := (shT, fi1, fl1, fr1)) rfl ?_
      refine gp_of (fun _ k9 => g_getR (q' := 13) rfl rfl (by decide) q8 k9) ?_
      refine gp_of (fun _ k9 => g_getR (q' := 18) rfl rfl (by decide) ka k9) ?_
      refine gp_of (fun _ k9 => g_getI (x := nI P) rfl (Or.inl rfl) rfl (by decide) (cP) k9) ?_
      refine gp_done (g_ret rfl) ?_
      rfl
theorem td_M {h h1 : PmH} {a : AB} {m k c l w : Nat} (hr : REL2 h a) (h0 : 0 < (a_v a).1 1) (vk : VK (a_v a) m k c) (hl : (a_v a).1 6 = nI l) (l1 : 1 ≤ l) (l8 : l ≤ 8) (e1 : Ev pmT 191 [.ref 70, .int (nI l)] h none h1) (hx : mrI (a_v a).2.1 m (a_v a).2.2 l (2 ^ m) h1) (r1 : REL2 h1 a) (hw : w < 4) : Ev pmT 203 [.ref 70, .int (nI w)] h (some (.int (tdV a m k c l w))) h1 := by
  have hI := hr.1.1
  have I1 := r1.1.1
  have c0 : ph_i h 70 14 = (a_v a).1 1 := hr.1.2.2.1.2.2.2.2.1.1 0 (by decide)
  have c6 : ph_i h 70 20 = nI l := (hr.1.2.2.1.2.2.2.2.1.1 6 (by decide)).trans hl
  have t1 := isc1 hI c0 h0
  have hP := rd_P (K := (a_v a).2.1) (m := m) (S := (a_v a).2.2) l1 (2 ^ m)
  have cm := ch_M r1 vk l1 l8 hx
  have fm := fh_M r1 vk l1 l8 hx
  have lt := fhN_lt (D := rdD a m k c l) (rdX a m l).1
  have cl := ch_lt (D := rdD a m k c l) (P := (rdX a m l).1) hP.1
  have cb : (rdX a m l).1 ≤ 8 := Nat.le_trans hP.2 l8
  have bb := (hx.1.2 _ cl).2
  have q27 : ph_r h1 70 27 = some 77 := hi_r I1 rfl rfl (by decide)
  have c25 : ph_i h1 70 25 = nI (rdX a m l).1 := hx.1.1
  have bb : ph_i h1 77 (chN (rdD a m k c l) (rdX a m l).1) = (rdX a m l).2.2 (chN (rdD a m k c l) (rdX a m l).1) := bb
  have ho : hoN (rdD a m k c l) (rdX a m l).1 = (fhN (rdD a m k c l) (rdX a m l).1).isSome := rfl
  unfold tdV
  rw [ho]
  generalize (rdX a m l).2.2 (chN (rdD a m k c l) (rdX a m l).1) = u at *
  generalize chN (rdD a m k c l) (rdX a m l).1 = q at *
  generalize fhN (rdD a m k c l) (rdX a m l).1 = t at *
  generalize (rdX a m l).1 = P at *
  clear hr r1 hx ho
  have isi := fun (x : Int32) h => isin_1 (x := x) 0 3 (l1 := 0) (l2 := 3) (h := h) (by decide) (by decide)
  obtain ⟨S1, fi1, fl1, fr1⟩ := h1
  have s1 : S1 = shT := I1.1
  subst s1
  have q27 : fr1 70 27 = some 77 := q27
  have bb : fi1 77 q = u := bb
  have c25 : fi1 70 25 = nI P := c25
  obtain ⟨S, fi, fl, fr⟩ := h
  have hS : S = shT := hI.1
  subst hS
  have c6 : fi 70 20 = nI l := c6
  have w4 : w = 0 ∨ w = 1 ∨ w = 2 ∨ w = 3 := by omega
  rcases w4 with rfl | rfl | rfl | rfl
  ·
    refine Ev.of (es := cd_203) (ml := 2) (lv := [some (.ref 70), some (.int 0)]) rfl rfl rfl ?_
    have isw := isi 0 (shT, fi, fl, fr) (by decide)
    refine go_of ?_
    refine gp_n 1 (j' := 1) (lv' := [some (.ref 70), some (.int 0)]) (st' := [.ref 70]) (h' := (shT, fi, fl, fr)) rfl ?_
    refine gp_of (fun _ k9 => g_call (y := 172) (as := [.ref 70]) (st' := []) rfl rfl (t1) k9) ?_
    refine gp_of (fun _ k9 => g_iff rfl (show ¬ ((1 : Int32) = (0 : Int32)) from by decide) k9) ?_
    refine gp_n 4 (j' := 7) (lv' := [some (.ref 70), some (.int 0)]) (st' := [.long 3, .long 0, .long 0]) (h' := (shT, fi, fl, fr)) rfl ?_
    refine gp_of (fun _ k9 => g_call (y := 148) (as := [.long 0, .long 0, .long 3]) (st' := []) rfl rfl (isw) k9) ?_
    refine gp_of (fun _ k9 => g_ift rfl (show ¬ (1 : Int32) = (0 : Int32) from by decide) k9) ?_
    refine gp_n 2 (j' := 13) (lv' := [some (.ref 70), some (.int 0)]) (st' := [.ref 70, .ref 70]) (h' := (shT, fi, fl, fr)) rfl ?_
    refine gp_of (fun _ k9 => g_getI (x := nI l) rfl (Or.inl rfl) rfl (by decide) (c6) k9) ?_
    refine gp_of (fun _ k9 => g_callv (y := 191) (as := [.ref 70, .int (nI l)]) (st' := []) rfl rfl (e1) k9) ?_
    refine gp_n 3 (j' := 18) (lv' := [some (.ref 70), some (.int 0)]) (st' := [.ref 70]) (h' := (shT, fi1, fl1, fr1)) rfl ?_
    refine gp_of (fun _ k9 => g_getR (q' := 77) rfl rfl (by decide) q27 k9) ?_
    refine gp_n 1 (j' := 20) (lv' := [some (.ref 70), some (.int 0)]) (st' := [.ref 70, .ref 77]) (h' := (shT, fi1, fl1, fr1)) rfl ?_
    refine gp_of (fun _ k9 => g_call (y := 199) (as := [.ref 70]) (st' := [.ref 77]) rfl rfl (cm) k9) ?_
    refine gp_of (fun _ k9 => g_iald (k := q) (x := u) rfl rfl (rfl) (by omega) (by decide) (bb) k9) ?_
    refine gp_done (g_ret rfl) ?_
    rfl
  · cases ht : t with
    | none =>
      rw [ht] at fm
      have fm : Ev pmT 200 [.ref 70] (shT, fi1, fl1, fr1) (some (.int (-1))) (shT, fi1, fl1, fr1) := fm
      refine Ev.of (es := cd_203) (ml := 2) (lv := [some (.ref 70), some (.int 1)]) rfl rfl rfl ?_
      have isw := isi 1 (shT, fi, fl, fr) (by decide)
      refine go_of ?_
      refine gp_n 1 (j' := 1) (lv' := [some (.ref 70), some (.int 1)]) (st' := [.ref 70]) (h' := (shT, fi, fl, fr)) rfl ?_
      refine gp_of (fun _ k9 => g_call (y := 172) (as := [.ref 70]) (st' := []) rfl rfl (t1) k9) ?_
      refine gp_of (fun _ k9 => g_iff rfl (show ¬ ((1 : Int32) = (0 : Int32)) from by decide) k9) ?_
      refine gp_n 4 (j' := 7) (lv' := [some (.ref 70), some (.int 1)]) (st' := [.long 3, .long 0, .long 1]) (h' := (shT, fi, fl, fr)) rfl ?_
      refine gp_of (fun _ k9 => g_call (y := 148) (as := [.long 1, .long 0, .long 3]) (st' := []) rfl rfl (isw) k9) ?_
      refine gp_of (fun _ k9 => g_ift rfl (show ¬ (1 : Int32) = (0 : Int32) from by decide) k9) ?_
      refine gp_n 2 (j' := 13) (lv' := [some (.ref 70), some (.int 1)]) (st' := [.ref 70, .ref 70]) (h' := (shT, fi, fl, fr)) rfl ?_
      refine gp_of (fun _ k9 => g_getI (x := nI l) rfl (Or.inl rfl) rfl (by decide) (c6) k9) ?_
      refine gp_of (fun _ k9 => g_callv (y := 191) (as := [.ref 70, .int (nI l)]) (st' := []) rfl rfl (e1) k9) ?_
      refine gp_n 3 (j' := 24) (lv' := [some (.ref 70), some (.int 1)]) (st' := [.ref 70]) (h' := (shT, fi1, fl1, fr1)) rfl ?_
      refine gp_of (fun _ k9 => g_call (y := 200) (as := [.ref 70]) (st' := []) rfl rfl (fm) k9) ?_
      refine gp_of (fun _ k9 => g_ift rfl (show ((-1) : Int32) < (0 : Int32) from by decide) k9) ?_
      refine gp_n 1 (j' := 29) (lv' := [some (.ref 70), some (.int 1)]) (st' := [.int 0]) (h' := (shT, fi1, fl1, fr1)) rfl ?_
      refine gp_done (g_ret rfl) ?_
      rfl
    | some z =>
      rw [ht] at fm
      have z1 := (lt z ht).1
      have fm : Ev pmT 200 [.ref 70] (shT, fi1, fl1, fr1) (some (.int (nI z))) (shT, fi1, fl1, fr1) := fm
      refine Ev.of (es := cd_203) (ml := 2) (lv := [some (.ref 70), some (.int 1)]) rfl rfl rfl ?_
      have isw := isi 1 (shT, fi, fl, fr) (by decide)
      refine go_of ?_
      refine gp_n 1 (j' := 1) (lv' := [some (.ref 70), some (.int 1)]) (st' := [.ref 70]) (h' := (shT, fi, fl, fr)) rfl ?_
      refine gp_of (fun _ k9 => g_call (y := 172) (as := [.ref 70]) (st' := []) rfl rfl (t1) k9) ?_
      refine gp_of (fun _ k9 => g_iff rfl (show ¬ ((1 : Int32) = (0 : Int32)) from by decide) k9) ?_
      refine gp_n 4 (j' := 7) (lv' := [some (.ref 70), some (.int 1)]) (st' := [.long 3, .long 0, .long 1]) (h' := (shT, fi, fl, fr)) rfl ?_
      refine gp_of (fun _ k9 => g_call (y := 148) (as := [.long 1, .long 0, .long 3]) (st' := []) rfl rfl (isw) k9) ?_
      refine gp_of (fun _ k9 => g_ift rfl (show ¬ (1 : Int32) = (0 : Int32) from by decide) k9) ?_
      refine gp_n 2 (j' := 13) (lv' := [some (.ref 70), some (.int 1)]) (st' := [.ref 70, .ref 70]) (h' := (shT, fi, fl, fr)) rfl ?_
      refine gp_of (fun _ k9 => g_getI (x := nI l) rfl (Or.inl rfl) rfl (by decide) (c6) k9) ?_
      refine gp_of (fun _ k9 => g_callv (y := 191) (as := [.ref 70, .int (nI l)]) (st' := []) rfl rfl (e1) k9) ?_
      refine gp_n 3 (j' := 24) (lv' := [some (.ref 70), some (.int 1)]) (st' := [.ref 70]) (h' := (shT, fi1, fl1, fr1)) rfl ?_
      refine gp_of (fun _ k9 => g_call (y := 200) (as := [.ref 70]) (st' := []) rfl rfl (fm) k9) ?_
      refine gp_of (fun _ k9 => g_iff rfl (show ¬ ((nI z) < (0 : Int32)) from nI_pos (by omega)) k9) ?_
      refine gp_n 2 (j' := 29) (lv' := [some (.ref 70), some (.int 1)]) (st' := [.int 1]) (h' := (shT, fi1, fl1, fr1)) rfl ?_
      refine gp_done (g_ret rfl) ?_
      rfl
  ·
    refine Ev.of (es := cd_203) (ml := 2) (lv := [some (.ref 70), some (.int 2)]) rfl rfl rfl ?_
    have isw := isi 2 (shT, fi, fl, fr) (by decide)
    refine go_of ?_
    refine gp_n 1 (j' := 1) (lv' := [some (.ref 70), some (.int 2)]) (st' := [.ref 70]) (h' := (shT, fi, fl, fr)) rfl ?_
    refine gp_of (fun _ k9 => g_call (y := 172) (as := [.ref 70]) (st' := []) rfl rfl (t1) k9) ?_
    refine gp_of (fun _ k9 => g_iff rfl (show ¬ ((1 : Int32) = (0 : Int32)) from by decide) k9) ?_
    refine gp_n 4 (j' := 7) (lv' := [some (.ref 70), some (.int 2)]) (st' := [.long 3, .long 0, .long 2]) (h' := (shT, fi, fl, fr)) rfl ?_
    refine gp_of (fun _ k9 => g_call (y := 148) (as := [.long 2, .long 0, .long 3]) (st' := []) rfl rfl (isw) k9) ?_
    refine gp_of (fun _ k9 => g_ift rfl (show ¬ (1 : Int32) = (0 : Int32) from by decide) k9) ?_
    refine gp_n 2 (j' := 13) (lv' := [some (.ref 70), some (.int 2)]) (st' := [.ref 70, .ref 70]) (h' := (shT, fi, fl, fr)) rfl ?_
    refine gp_of (fun _ k9 => g_getI (x := nI l) rfl (Or.inl rfl) rfl (by decide) (c6) k9) ?_
    refine gp_of (fun _ k9 => g_callv (y := 191) (as := [.ref 70, .int (nI l)]) (st' := []) rfl rfl (e1) k9) ?_
    refine gp_n 3 (j' := 31) (lv' := [some (.ref 70), some (.int 2)]) (st' := [.ref 70]) (h' := (shT, fi1, fl1, fr1)) rfl ?_
    refine gp_of (fun _ k9 => g_call (y := 199) (as := [.ref 70]) (st' := []) rfl rfl (cm) k9) ?_
    refine gp_done (g_ret rfl) ?_
    rfl
  ·
    refine Ev.of (es := cd_203) (ml := 2) (lv := [some (.ref 70), some (.int 3)]) rfl rfl rfl ?_
    have isw := isi 3 (shT, fi, fl, fr) (by decide)
    refine go_of ?_
    refine gp_n 1 (j' := 1) (lv' := [some (.ref 70), some (.int 3)]) (st' := [.ref 70]) (h' := (shT, fi, fl, fr)) rfl ?_
    refine gp_of (fun _ k9 => g_call (y := 172) (as := [.ref 70]) (st' := []) rfl rfl (t1) k9) ?_
    refine gp_of (fun _ k9 => g_iff rfl (show ¬ ((1 : Int32) = (0 : Int32)) from by decide) k9) ?_
    refine gp_n 4 (j' := 7) (lv' := [some (.ref 70), some (.int 3)]) (st' := [.long 3, .long 0, .long 3]) (h' := (shT, fi, fl, fr)) rfl ?_
    refine gp_of (fun _ k9 => g_call (y := 148) (as := [.long 3, .long 0, .long 3]) (st' := []) rfl rfl (isw) k9) ?_
    refine gp_of (fun _ k9 => g_ift rfl (show ¬ (1 : Int32) = (0 : Int32) from by decide) k9) ?_
    refine gp_n 2 (j' := 13) (lv' := [some (.ref 70), some (.int 3)]) (st' := [.ref 70, .ref 70]) (h' := (shT, fi, fl, fr)) rfl ?_
    refine gp_of (fun _ k9 => g_getI (x := nI l) rfl (Or.inl rfl) rfl (by decide) (c6) k9) ?_
    refine gp_of (fun _ k9 => g_callv (y := 191) (as := [.ref 70, .int (nI l)]) (st' := []) rfl rfl (e1) k9) ?_
    refine gp_n 3 (j' := 34) (lv' := [some (.ref 70), some (.int 3)]) (st' := [.ref 70]) (h' := (shT, fi1, fl1, fr1)) rfl ?_
    refine gp_of (fun _ k9 => g_getI (x := nI P) rfl (Or.inl rfl) rfl (by decide) (c25) k9) ?_
    refine gp_done (g_ret rfl) ?_
    rfl
theorem x_03n (x : Int32) : (¬ (0 ≤ x ∧ x ≤ 3)) ∨ ∃ n, n < 4 ∧ x = nI n := by
  by_cases h : 0 ≤ x ∧ x ≤ 3
  · rcases x_03 x (Int32.not_lt.mpr h.1) h.2 with rfl | rfl | rfl | rfl
    · exact Or.inr ⟨0, by decide, rfl⟩
    · exact Or.inr ⟨1, by decide, rfl⟩
    · exact Or.inr ⟨2, by decide, rfl⟩
    · exact Or.inr ⟨3, by decide, rfl⟩
  · exact Or.inl h
theorem td_C0 {h : PmH} {a : AB} {x : Int32} (hr : REL3 h a) (hn : ¬ (0 < (a_v a).1 1 ∧ (0 ≤ x ∧ x ≤ 3))) : Ev pmT 109 [.ref 0, .int x] h (some (.int (-1))) h := by
  have hI := hr.1.1.1
  have t1 := told1 hI (hr.1.1.2.1.2.2.2.2.1.1 1 (by decide))
  have t0 := told0 hI (hr.1.1.2.1.2.2.2.2.1.1 1 (by decide))
  have k0 : ph_r h 0 0 = some 1 := hi_r hI rfl rfl (by decide)
  refine Ev.of (es := cd_109) (ml := 2) (lv := [some (.ref 0), some (.int x)]) rfl rfl rfl ?_
  clear hr
  obtain ⟨S, fi, fl, fr⟩ := h
  have hS : S = shT := hI.1
  subst hS
  have k0 : fr 0 0 = some 1 := k0
  refine go_of ?_
  by_cases h0 : 0 < (a_v a).1 1
  · have t1 := t1 h0
    by_cases h1 : x < 0
    ·
      refine gp_n 1 (j' := 1) (lv' := [some (.ref 0), some (.int x)]) (st' := [.ref 0]) (h' := (shT, fi, fl, fr)) rfl ?_
      refine gp_of (fun _ k9 => g_getR (q' := 1) rfl rfl (by decide) k0 k9) ?_
      refine gp_of (fun _ k9 => g_call (y := 57) (as := [.ref 1]) (st' := []) rfl rfl (t1) k9) ?_
      refine gp_of (fun _ k9 => g_iff rfl (show ¬ ((1 : Int32) = (0 : Int32)) from by decide) k9) ?_
      refine gp_n 1 (j' := 5) (lv' := [some (.ref 0), some (.int x)]) (st' := [.int x]) (h' := (shT, fi, fl, fr)) rfl ?_
      refine gp_of (fun _ k9 => g_ift rfl (show x < (0 : Int32) from h1) k9) ?_
      refine gp_n 1 (j' := 10) (lv' := [some (.ref 0), some (.int x)]) (st' := [.int (-1)]) (h' := (shT, fi, fl, fr)) rfl ?_
      refine gp_done (g_ret rfl) ?_
      rfl
    · have h2 : ¬ x ≤ 3 := fun z => hn ⟨h0, Int32.not_lt.mp h1, z⟩
      refine gp_n 1 (j' := 1) (lv' := [some (.ref 0), some (.int x)]) (st' := [.ref 0]) (h' := (shT, fi, fl, fr)) rfl ?_
      refine gp_of (fun _ k9 => g_getR (q' := 1) rfl rfl (by decide) k0 k9) ?_
      refine gp_of (fun _ k9 => g_call (y := 57) (as := [.ref 1]) (st' := []) rfl rfl (t1) k9) ?_
      refine gp_of (fun _ k9 => g_iff rfl (show ¬ ((1 : Int32) = (0 : Int32)) from by decide) k9) ?_
      refine gp_n 1 (j' := 5) (lv' := [some (.ref 0), some (.int x)]) (st' := [.int x]) (h' := (shT, fi, fl, fr)) rfl ?_
      refine gp_of (fun _ k9 => g_iff rfl (show ¬ (x < (0 : Int32)) from h1) k9) ?_
      refine gp_n 2 (j' := 8) (lv' := [some (.ref 0), some (.int x)]) (st' := [.int 3, .int x]) (h' := (shT, fi, fl, fr)) rfl ?_
      refine gp_of (fun _ k9 => g_icf rfl (show ¬ (x ≤ (3 : Int32)) from h2) k9) ?_
      refine gp_n 1 (j' := 10) (lv' := [some (.ref 0), some (.int x)]) (st' := [.int (-1)]) (h' := (shT, fi, fl, fr)) rfl ?_
      refine gp_done (g_ret rfl) ?_
      rfl
  · have t0 := t0 h0
    refine gp_n 1 (j' := 1) (lv' := [some (.ref 0), some (.int x)]) (st' := [.ref 0]) (h' := (shT, fi, fl, fr)) rfl ?_
    refine gp_of (fun _ k9 => g_getR (q' := 1) rfl rfl (by decide) k0 k9) ?_
    refine gp_of (fun _ k9 => g_call (y := 57) (as := [.ref 1]) (st' := []) rfl rfl (t0) k9) ?_
    refine gp_of (fun _ k9 => g_ift rfl (show (0 : Int32) = (0 : Int32) from by decide) k9) ?_
    refine gp_n 1 (j' := 10) (lv' := [some (.ref 0), some (.int x)]) (st' := [.int (-1)]) (h' := (shT, fi, fl, fr)) rfl ?_
    refine gp_done (g_ret rfl) ?_
    rfl
theorem td_M0 {h : PmH} {a : AB} {x : Int32} (hr : REL3 h a) (hn : ¬ (0 < (a_v a).1 1 ∧ (0 ≤ x ∧ x ≤ 3))) : Ev pmT 203 [.ref 70, .int x] h (some (.int (-1))) h := by
  have hI := hr.1.1.1
  have c0 := hr.1.1.2.2.1.2.2.2.2.1.1 0 (by decide)
  have t1 := isc1 hI c0
  have t0 := isc0 hI c0
  refine Ev.of (es := cd_203) (ml := 2) (lv := [some (.ref 70), some (.int x)]) rfl rfl rfl ?_
  clear hr
  obtain ⟨S, fi, fl, fr⟩ := h
  have hS : S = shT := hI.1
  subst hS
  refine go_of ?_
  by_cases h0 : 0 < (a_v a).1 1
  · have t1 := t1 h0
    have isw := isin_0 (x := x) 0 3 (l1 := 0) (l2 := 3) (h := (shT, fi, fl, fr)) (by decide) (by decide) (fun z => hn ⟨h0, z⟩)
    refine gp_n 1 (j' := 1) (lv' := [some (.ref 70), some (.int x)]) (st' := [.ref 70]) (h' := (shT, fi, fl, fr)) rfl ?_
    refine gp_of (fun _ k9 => g_call (y := 172) (as := [.ref 70]) (st' := []) rfl rfl (t1) k9) ?_
    refine gp_of (fun _ k9 => g_iff rfl (show ¬ ((1 : Int32) = (0 : Int32)) from by decide) k9) ?_
    refine gp_n 4 (j' := 7) (lv' := [some (.ref 70), some (.int x)]) (st' := [.long 3, .long 0, .long x.toInt64]) (h' := (shT, fi, fl, fr)) rfl ?_
    refine gp_of (fun _ k9 => g_call (y := 148) (as := [.long x.toInt64, .long 0, .long 3]) (st' := []) rfl rfl (isw) k9) ?_
    refine gp_of (fun _ k9 => g_iff rfl (show ¬ (¬ (0 : Int32) = (0 : Int32)) from by decide) k9) ?_
    refine gp_n 1 (j' := 10) (lv' := [some (.ref 70), some (.int x)]) (st' := [.int (-1)]) (h' := (shT, fi, fl, fr)) rfl ?_
    refine gp_done (g_ret rfl) ?_
    rfl
  · have t0 := t0 h0
    refine gp_n 1 (j' := 1) (lv' := [some (.ref 70), some (.int x)]) (st' := [.ref 70]) (h' := (shT, fi, fl, fr)) rfl ?_
    refine gp_of (fun _ k9 => g_call (y := 172) (as := [.ref 70]) (st' := []) rfl rfl (t0) k9) ?_
    refine gp_of (fun _ k9 => g_ift rfl (show (0 : Int32) = (0 : Int32) from by decide) k9) ?_
    refine gp_n 1 (j' := 10) (lv' := [some (.ref 70), some (.int x)]) (st' := [.int (-1)]) (h' := (shT, fi, fl, fr)) rfl ?_
    refine gp_done (g_ret rfl) ?_
    rfl
theorem p3_told {h : PmH} {a : AB} (x : Int32) (hr : REL3 h a) : PI3 109 203 [.int x] h (fun x y => x = y) := by
  have hI := hr.1.1.1
  by_cases h0 : 0 < (a_v a).1 1
  · rcases x_03n x with hx | ⟨w, hw, rfl⟩
    · exact ⟨_, _, h, h, a, td_C0 hr (fun z => hx z.2), td_M0 hr (fun z => hx z.2), hr, hI, rfl⟩
    · obtain ⟨m, k, c, l, vk, hl, l1, l8⟩ := rd_get hr h0
      obtain ⟨h1, e1, x1, I1, F1⟩ := rh_C hr vk hl l1 l8
      have r1 := rd_pair hr vk l1 l8 x1 I1 F1
      obtain ⟨h2, e2, I2, x2, F2⟩ := run_M r1.1 vk l1 l8
      have r2 := rd_pairM r1 I2 F2
      exact ⟨_, _, h1, h2, a, td_C hr h0 vk l1 l8 e1 x1 I1 hw, td_M r1.1 h0 vk hl l1 l8 e2 x2 r2.1 hw, r2, I1, rfl⟩
  · exact ⟨_, _, h, h, a, td_C0 hr (fun z => h0 z.1), td_M0 hr (fun z => h0 z.1), hr, hI, rfl⟩
def msV (a : AB) (m k l p : Nat) : Int64 := if p < (rdX a m l).1 then mgW (a_v a).2.1 (2 ^ m) k ((rdX a m l).2.1 p) else -1
theorem ms_C {h h1 : PmH} {a : AB} {m k c l p : Nat} (hr : REL3 h a) (h0 : 0 < (a_v a).1 1) (vk : VK (a_v a) m k c) (l1 : 1 ≤ l) (l8 : l ≤ 8) (e1 : Ev pmT 81 [.ref 0] h none h1) (hx : roI (a_v a).2.1 m k c ((a_v a).1 4) (a_v a).2.2 l h1) (I1 : HI hdT shT h1) (r1 : REL3 h1 a) (hp : p < 2 ^ 31) : Ev pmT 111 [.ref 0, .int (nI p)] h (some (.long (msV a m k l p))) h1 := by
  have hI := hr.1.1.1
  have t1 := told1 hI (hr.1.1.2.1.2.2.2.2.1.1 1 (by decide)) h0
  have k0 : ph_r h 0 0 = some 1 := hi_r hI rfl rfl (by decide)
  have q0 : ph_r h1 0 0 = some 1 := hi_r I1 rfl rfl (by decide)
  have q8 : ph_r h1 0 8 = some 13 := hi_r I1 rfl rfl (by decide)
  have hP := rd_P (K := (a_v a).2.1) (m := m) (S := (a_v a).2.2) l1 (2 ^ m)
  obtain ⟨A, hA, a1, a2, a3, a4, a5⟩ := hx
  have cb : (rdX a m l).1 ≤ 8 := Nat.le_trans hP.2 l8
  have bb : p < (rdX a m l).1 → ph_l h1 (A + 1) p = (rdX a m l).2.1 p := fun z => (a1.2.2.2 p z).1
  have mo := mo_C2 r1.1 vk ((rdX a m l).2.1 p)
  have kB : ∀ A, (A = 14 ∨ A = 18) → ph_r h1 A 1 = some (A + 1) := fun A hA => by
    rcases hA with rfl | rfl
    · exact hi_r I1 rfl rfl (by decide)
    · exact hi_r I1 rfl rfl (by decide)
  have kB := kB A hA
  have ka := a1.1
  have cP : ph_i h1 A 0 = nI (rdX a m l).1 := a1.2.2.1
  unfold msV
  generalize mgW (a_v a).2.1 (2 ^ m) k ((rdX a m l).2.1 p) = w at *
  generalize (rdX a m l).2.1 p = u at *
  generalize (rdX a m l).1 = P at *
  clear a1 a2 a3 a4 a5 hr r1
  obtain ⟨S1, fi1, fl1, fr1⟩ := h1
  have s1 : S1 = shT := I1.1
  subst s1
  have q0 : fr1 0 0 = some 1 := q0
  have q8 : fr1 0 8 = some 13 := q8
  have kB : fr1 A 1 = some (A + 1) := kB
  have ka : fr1 13 0 = some A := ka
  have cP : fi1 A 0 = nI P := cP
  refine Ev.of (es := cd_111) (ml := 2) (lv := [some (.ref 0), some (.int (nI p))]) rfl rfl rfl ?_
  obtain ⟨S, fi, fl, fr⟩ := h
  have hS : S = shT := hI.1
  subst hS
  have k0 : fr 0 0 = some 1 := k0
  refine go_of ?_
  by_cases hq : p < P
  · rw [if_pos hq]
    have bb : fl1 (A + 1) p = u := bb hq
    rcases hA with rfl | rfl
    ·
      refine gp_n 1 (j' := 1) (lv' := [some (.ref 0), some (.int (nI p))]) (st' := [.ref 0]) (h' := (shT, fi, fl, fr)) rfl ?_
      refine gp_of (fun _ k9 => g_getR (q' := 1) rfl rfl (by decide) k0 k9) ?_
      refine gp_of (fun _ k9 => g_call (y := 57) (as := [.ref 1]) (st' := []) rfl rfl (t1) k9) ?_
      refine gp_of (fun _ k9 => g_iff rfl (show ¬ ((1 : Int32) = (0 : Int32)) from by decide) k9) ?_
      refine gp_n 1 (j' := 5) (lv' := [some (.ref 0), some (.int (nI p))]) (st' := [.int (nI p)]) (h' := (shT, fi, fl, fr)) rfl ?_
      refine gp_of (fun _ k9 => g_ift rfl (show (0 : Int32) ≤ (nI p) from nI_pos' hp) k9) ?_
      refine gp_n 1 (j' := 9) (lv' := [some (.ref 0), some (.int (nI p))]) (st' := [.ref 0]) (h' := (shT, fi, fl, fr)) rfl ?_
      refine gp_of (fun _ k9 => g_callv (y := 81) (as := [.ref 0]) (st' := []) rfl rfl (e1) k9) ?_
      refine gp_n 2 (j' := 12) (lv' := [some (.ref 0), some (.int (nI p))]) (st' := [.ref 0, .int (nI p)]) (h' := (shT, fi1, fl1, fr1)) rfl ?_
      refine gp_of (fun _ k9 => g_getR (q' := 13) rfl rfl (by decide) q8 k9) ?_
      refine gp_of (fun _ k9 => g_getR (q' := 14) rfl rfl (by decide) ka k9) ?_
      refine gp_of (fun _ k9 => g_getI (x := nI P) rfl (Or.inl rfl) rfl (by decide) (cP) k9) ?_
      refine gp_of (fun _ k9 => g_icf rfl (show ¬ ((nI P) ≤ (nI p)) from nI_ge hq (by omega)) k9) ?_
      refine gp_n 1 (j' := 17) (lv' := [some (.ref 0), some (.int (nI p))]) (st' := [.ref 0]) (h' := (shT, fi1, fl1, fr1)) rfl ?_
      refine gp_of (fun _ k9 => g_getR (q' := 1) rfl rfl (by decide) q0 k9) ?_
      refine gp_n 1 (j' := 19) (lv' := [some (.ref 0), some (.int (nI p))]) (st' := [.ref 0, .ref 1]) (h' := (shT, fi1, fl1, fr1)) rfl ?_
      refine gp_of (fun _ k9 => g_getR (q' := 13) rfl rfl (by decide) q8 k9) ?_
      refine gp_of (fun _ k9 => g_getR (q' := 14) rfl rfl (by decide) ka k9) ?_
      refine gp_of (fun _ k9 => g_getR (q' := 15) rfl rfl (by decide) kB k9) ?_
      refine gp_n 1 (j' := 23) (lv' := [some (.ref 0), some (.int (nI p))]) (st' := [.int (nI p), .ref 15, .ref 1]) (h' := (shT, fi1, fl1, fr1)) rfl ?_
      refine gp_of (fun _ k9 => g_lald (k := p) (x := u) rfl rfl (rfl) (by omega) (by decide) (bb) k9) ?_
      refine gp_of (fun _ k9 => g_call (y := 108) (as := [.ref 1, .long u]) (st' := []) rfl rfl (mo) k9) ?_
      refine gp_n 1 (j' := 27) (lv' := [some (.ref 0), some (.int (nI p))]) (st' := [.long w]) (h' := (shT, fi1, fl1, fr1)) rfl ?_
      refine gp_done (g_lret rfl) ?_
      rfl
    ·
      refine gp_n 1 (j' := 1) (lv' := [some (.ref 0), some (.int (nI p))]) (st' := [.ref 0]) (h' := (shT, fi, fl, fr)) rfl ?_
      refine gp_of (fun _ k9 => g_getR (q' := 1) rfl rfl (by decide) k0 k9) ?_
      refine gp_of (fun _ k9 => g_call (y := 57) (as := [.ref 1]) (st' := []) rfl rfl (t1) k9) ?_
      refine gp_of (fun _ k9 => g_iff rfl (show ¬ ((1 : Int32) = (0 : Int32)) from by decide) k9) ?_
      refine gp_n 1 (j' := 5) (lv' := [some (.ref 0), some (.int (nI p))]) (st' := [.int (nI p)]) (h' := (shT, fi, fl, fr)) rfl ?_
      refine gp_of (fun _ k9 => g_ift rfl (show (0 : Int32) ≤ (nI p) from nI_pos' hp) k9) ?_
      refine gp_n 1 (j' := 9) (lv' := [some (.ref 0), some (.int (nI p))]) (st' := [.ref 0]) (h' := (shT, fi, fl, fr)) rfl ?_
      refine gp_of (fun _ k9 => g_callv (y := 81) (as := [.ref 0]) (st' := []) rfl rfl (e1) k9) ?_
      refine gp_n 2 (j' := 12) (lv' := [some (.ref 0), some (.int (nI p))]) (st' := [.ref 0, .int (nI p)]) (h' := (shT, fi1, fl1, fr1)) rfl ?_
      refine gp_of (fun _ k9 => g_getR (q' := 13) rfl rfl (by decide) q8 k9) ?_
      refine gp_of (fun _ k9 => g_getR (q' := 18) rfl rfl (by decide) ka k9) ?_
      refine gp_of (fun _ k9 => g_getI (x := nI P) rfl (Or.inl rfl) rfl (by decide) (cP) k9) ?_
      refine gp_of (fun _ k9 => g_icf rfl (show ¬ ((nI P) ≤ (nI p)) from nI_ge hq (by omega)) k9) ?_
      refine gp_n 1 (j' := 17) (lv' := [some (.ref 0), some (.int (nI p))]) (st' := [.ref 0]) (h' := (shT, fi1, fl1, fr1)) rfl ?_
      refine gp_of (fun _ k9 => g_getR (q' := 1) rfl rfl (by decide) q0 k9) ?_
      refine gp_n 1 (j' := 19) (lv' := [some (.ref 0), some (.int (nI p))]) (st' := [.ref 0, .ref 1]) (h' := (shT, fi1, fl1, fr1)) rfl ?_
      refine gp_of (fun _ k9 => g_getR (q' := 13) rfl rfl (by decide) q8 k9) ?_
      refine gp_of (fun _ k9 => g_getR (q' := 18) rfl rfl (by decide) ka k9) ?_
      refine gp_of (fun _ k9 => g_getR (q' := 19) rfl rfl (by decide) kB k9) ?_
      refine gp_n 1 (j' := 23) (lv' := [some (.ref 0), some (.int (nI p))]) (st' := [.int (nI p), .ref 19, .ref 1]) (h' := (shT, fi1, fl1, fr1)) rfl ?_
      refine gp_of (fun _ k9 => g_lald (k := p) (x := u) rfl rfl (rfl) (by omega) (by decide) (bb) k9) ?_
      refine gp_of (fun _ k9 => g_call (y := 108) (as := [.ref 1, .long u]) (st' := []) rfl rfl (mo) k9) ?_
      refine gp_n 1 (j' := 27) (lv' := [some (.ref 0), some (.int (nI p))]) (st' := [.long w]) (h' := (shT, fi1, fl1, fr1)) rfl ?_
      refine gp_done (g_lret rfl) ?_
      rfl
  · rw [if_neg hq]
    rcases hA with rfl | rfl
    ·
      refine gp_n 1 (j' := 1) (lv' := [some (.ref 0), some (.int (nI p))]) (st' := [.ref 0]) (h' := (shT, fi, fl, fr)) rfl ?_
      refine gp_of (fun _ k9 => g_getR (q' := 1) rfl rfl (by decide) k0 k9) ?_
      refine gp_of (fun _ k9 => g_call (y := 57) (as := [.ref 1]) (st' := []) rfl rfl (t1) k9) ?_
      refine gp_of (fun _ k9 => g_iff rfl (show ¬ ((1 : Int32) = (0 : Int32)) from by decide) k9) ?_
      refine gp_n 1 (j' := 5) (lv' := [some (.ref 0), some (.int (nI p))]) (st' := [.int (nI p)]) (h' := (shT, fi, fl, fr)) rfl ?_
      refine gp_of (fun _ k9 => g_ift rfl (show (0 : Int32) ≤ (nI p) from nI_pos' hp) k9) ?_
      refine gp_n 1 (j' := 9) (lv' := [some (.ref 0), some (.int (nI p))]) (st' := [.ref 0]) (h' := (shT, fi, fl, fr)) rfl ?_
      refine gp_of (fun _ k9 => g_callv (y := 81) (as := [.ref 0]) (st' := []) rfl rfl (e1) k9) ?_
      refine gp_n 2 (j' := 12) (lv' := [some (.ref 0), some (.int (nI p))]) (st' := [.ref 0, .int (nI p)]) (h' := (shT, fi1, fl1, fr1)) rfl ?_
      refine gp_of (fun _ k9 => g_getR (q' := 13) rfl rfl (by decide) q8 k9) ?_
      refine gp_of (fun _ k9 => g_getR (q' := 14) rfl rfl (by decide) ka k9) ?_
      refine gp_of (fun _ k9 => g_getI (x := nI P) rfl (Or.inl rfl) rfl (by decide) (cP) k9) ?_
      refine gp_of (fun _ k9 => g_ict rfl (show (nI P) ≤ (nI p) from nI_le (by omega) hp) k9) ?_
      refine gp_n 1 (j' := 27) (lv' := [some (.ref 0), some (.int (nI p))]) (st' := [.long (-1)]) (h' := (shT, fi1, fl1, fr1)) rfl ?_
      refine gp_done (g_lret rfl) ?_
      rfl
    ·
      refine gp_n 1 (j' := 1) (lv' := [some (.ref 0), some (.int (nI p))]) (st' := [.ref 0]) (h' := (shT, fi, fl, fr)) rfl ?_
      refine gp_of (fun _ k9 => g_getR (q' := 1) rfl rfl (by decide) k0 k9) ?_
      refine gp_of (fun _ k9 => g_call (y := 57) (as := [.ref 1]) (st' := []) rfl rfl (t1) k9) ?_
      refine gp_of (fun _ k9 => g_iff rfl (show ¬ ((1 : Int32) = (0 : Int32)) from by decide) k9) ?_
      refine gp_n 1 (j' := 5) (lv' := [some (.ref 0), some (.int (nI p))]) (st' := [.int (nI p)]) (h' := (shT, fi, fl, fr)) rfl ?_
      refine gp_of (fun _ k9 => g_ift rfl (show (0 : Int32) ≤ (nI p) from nI_pos' hp) k9) ?_
      refine gp_n 1 (j' := 9) (lv' := [some (.ref 0), some (.int (nI p))]) (st' := [.ref 0]) (h' := (shT, fi, fl, fr)) rfl ?_
      refine gp_of (fun _ k9 => g_callv (y := 81) (as := [.ref 0]) (st' := []) rfl rfl (e1) k9) ?_
      refine gp_n 2 (j' := 12) (lv' := [some (.ref 0), some (.int (nI p))]) (st' := [.ref 0, .int (nI p)]) (h' := (shT, fi1, fl1, fr1)) rfl ?_
      refine gp_of (fun _ k9 => g_getR (q' := 13) rfl rfl (by decide) q8 k9) ?_
      refine gp_of (fun _ k9 => g_getR (q' := 18) rfl rfl (by decide) ka k9) ?_
      refine gp_of (fun _ k9 => g_getI (x := nI P) rfl (Or.inl rfl) rfl (by decide) (cP) k9) ?_
      refine gp_of (fun _ k9 => g_ict rfl (show (nI P) ≤ (nI p) from nI_le (by omega) hp) k9) ?_
      refine gp_n 1 (j' := 27) (lv' := [some (.ref 0), some (.int (nI p))]) (st' := [.long (-1)]) (h' := (shT, fi1, fl1, fr1)) rfl ?_
      refine gp_done (g_lret rfl) ?_
      rfl
theorem ms_M {h h1 : PmH} {a : AB} {m k c l p : Nat} (hr : REL2 h a) (h0 : 0 < (a_v a).1 1) (vk : VK (a_v a) m k c) (hl : (a_v a).1 6 = nI l) (l1 : 1 ≤ l) (l8 : l ≤ 8) (e1 : Ev pmT 191 [.ref 70, .int (nI l)] h none h1) (hx : mrI (a_v a).2.1 m (a_v a).2.2 l (2 ^ m) h1) (r1 : REL2 h1 a) (hp : p < 2 ^ 31) : Ev pmT 205 [.ref 70, .int (nI p)] h (some (.long (msV a m k l p))) h1 := by
  have hI := hr.1.1
  have I1 := r1.1.1
  have c0 : ph_i h 70 14 = (a_v a).1 1 := hr.1.2.2.1.2.2.2.2.1.1 0 (by decide)
  have c6 : ph_i h 70 20 = nI l := (hr.1.2.2.1.2.2.2.2.1.1 6 (by decide)).trans hl
  have t1 := isc1 hI c0 h0
  have hP := rd_P (K := (a_v a).2.1) (m := m) (S := (a_v a).2.2) l1 (2 ^ m)
  have cb : (rdX a m l).1 ≤ 8 := Nat.le_trans hP.2 l8
  have bb : p < (rdX a m l).1 → ph_l h1 76 p = (rdX a m l).2.1 p := fun z => (hx.1.2 p z).1
  have mo := mo_M2 r1 vk ((rdX a m l).2.1 p)
  have q26 : ph_r h1 70 26 = some 76 := hi_r I1 rfl rfl (by decide)
  have c25 : ph_i h1 70 25 = nI (rdX a m l).1 := hx.1.1
  unfold msV
  generalize mgW (a_v a).2.1 (2 ^ m) k ((rdX a m l).2.1 p) = w at *
  generalize (rdX a m l).2.1 p = u at *
  generalize (rdX a m l).1 = P at *
  clear hr r1 hx
  obtain ⟨S1, fi1, fl1, fr1⟩ := h1
  have s1 : S1 = shT := I1.1
  subst s1
  have q26 : fr1 70 26 = some 76 := q26
  have c25 : fi1 70 25 = nI P := c25
  refine Ev.of (es := cd_205) (ml := 2) (lv := [some (.ref 70), some (.int (nI p))]) rfl rfl rfl ?_
  obtain ⟨S, fi, fl, fr⟩ := h
  have hS : S = shT := hI.1
  subst hS
  have c6 : fi 70 20 = nI l := c6
  refine go_of ?_
  by_cases hq : p < P
  · rw [if_pos hq]
    have bb : fl1 76 p = u := bb hq
    refine gp_n 1 (j' := 1) (lv' := [some (.ref 70), some (.int (nI p))]) (st' := [.ref 70]) (h' := (shT, fi, fl, fr)) rfl ?_
    refine gp_of (fun _ k9 => g_call (y := 172) (as := [.ref 70]) (st' := []) rfl rfl (t1) k9) ?_
    refine gp_of (fun _ k9 => g_iff rfl (show ¬ ((1 : Int32) = (0 : Int32)) from by decide) k9) ?_
    refine gp_n 1 (j' := 4) (lv' := [some (.ref 70), some (.int (nI p))]) (st' := [.int (nI p)]) (h' := (shT, fi, fl, fr)) rfl ?_
    refine gp_of (fun _ k9 => g_ift rfl (show (0 : Int32) ≤ (nI p) from nI_pos' hp) k9) ?_
    refine gp_n 2 (j' := 9) (lv' := [some (.ref 70), some (.int (nI p))]) (st' := [.ref 70, .ref 70]) (h' := (shT, fi, fl, fr)) rfl ?_
    refine gp_of (fun _ k9 => g_getI (x := nI l) rfl (Or.inl rfl) rfl (by decide) (c6) k9) ?_
    refine gp_of (fun _ k9 => g_callv (y := 191) (as := [.ref 70, .int (nI l)]) (st' := []) rfl rfl (e1) k9) ?_
    refine gp_n 2 (j' := 13) (lv' := [some (.ref 70), some (.int (nI p))]) (st' := [.ref 70, .int (nI p)]) (h' := (shT, fi1, fl1, fr1)) rfl ?_
    refine gp_of (fun _ k9 => g_getI (x := nI P) rfl (Or.inl rfl) rfl (by decide) (c25) k9) ?_
    refine gp_of (fun _ k9 => g_icf rfl (show ¬ ((nI P) ≤ (nI p)) from nI_ge hq (by omega)) k9) ?_
    refine gp_n 2 (j' := 17) (lv' := [some (.ref 70), some (.int (nI p))]) (st' := [.ref 70, .ref 70]) (h' := (shT, fi1, fl1, fr1)) rfl ?_
    refine gp_of (fun _ k9 => g_getR (q' := 76) rfl rfl (by decide) q26 k9) ?_
    refine gp_n 1 (j' := 19) (lv' := [some (.ref 70), some (.int (nI p))]) (st' := [.int (nI p), .ref 76, .ref 70]) (h' := (shT, fi1, fl1, fr1)) rfl ?_
    refine gp_of (fun _ k9 => g_lald (k := p) (x := u) rfl rfl (rfl) (by omega) (by decide) (bb) k9) ?_
    refine gp_of (fun _ k9 => g_call (y := 202) (as := [.ref 70, .long u]) (st' := []) rfl rfl (mo) k9) ?_
    refine gp_n 1 (j' := 23) (lv' := [some (.ref 70), some (.int (nI p))]) (st' := [.long w]) (h' := (shT, fi1, fl1, fr1)) rfl ?_
    refine gp_done (g_lret rfl) ?_
    rfl
  · rw [if_neg hq]
    refine gp_n 1 (j' := 1) (lv' := [some (.ref 70), some (.int (nI p))]) (st' := [.ref 70]) (h' := (shT, fi, fl, fr)) rfl ?_
    refine gp_of (fun _ k9 => g_call (y := 172) (as := [.ref 70]) (st' := []) rfl rfl (t1) k9) ?_
    refine gp_of (fun _ k9 => g_iff rfl (show ¬ ((1 : Int32) = (0 : Int32)) from by decide) k9) ?_
    refine gp_n 1 (j' := 4) (lv' := [some (.ref 70), some (.int (nI p))]) (st' := [.int (nI p)]) (h' := (shT, fi, fl, fr)) rfl ?_
    refine gp_of (fun _ k9 => g_ift rfl (show (0 : Int32) ≤ (nI p) from nI_pos' hp) k9) ?_
    refine gp_n 2 (j' := 9) (lv' := [some (.ref 70), some (.int (nI p))]) (st' := [.ref 70, .ref 70]) (h' := (shT, fi, fl, fr)) rfl ?_
    refine gp_of (fun _ k9 => g_getI (x := nI l) rfl (Or.inl rfl) rfl (by decide) (c6) k9) ?_
    refine gp_of (fun _ k9 => g_callv (y := 191) (as := [.ref 70, .int (nI l)]) (st' := []) rfl rfl (e1) k9) ?_
    refine gp_n 2 (j' := 13) (lv' := [some (.ref 70), some (.int (nI p))]) (st' := [.ref 70, .int (nI p)]) (h' := (shT, fi1, fl1, fr1)) rfl ?_
    refine gp_of (fun _ k9 => g_getI (x := nI P) rfl (Or.inl rfl) rfl (by decide) (c25) k9) ?_
    refine gp_of (fun _ k9 => g_ict rfl (show (nI P) ≤ (nI p) from nI_le (by omega) hp) k9) ?_
    refine gp_n 1 (j' := 23) (lv' := [some (.ref 70), some (.int (nI p))]) (st' := [.long (-1)]) (h' := (shT, fi1, fl1, fr1)) rfl ?_
    refine gp_done (g_lret rfl) ?_
    rfl
theorem p3_message {h : PmH} {a : AB} (x : Int32) (hr : REL3 h a) : PL3 111 205 [.int x] h (fun x y => x = y) := by
  have hI := hr.1.1.1
  have t1 := told1 hI (hr.1.1.2.1.2.2.2.2.1.1 1 (by decide))
  have t0 := told0 hI (hr.1.1.2.1.2.2.2.2.1.1 1 (by decide))
  have c0 := hr.1.1.2.2.1.2.2.2.2.1.1 0 (by decide)
  have u1 := isc1 hI c0
  have u0 := isc0 hI c0
  have k0 : ph_r h 0 0 = some 1 := hi_r hI rfl rfl (by decide)
  by_cases h0 : 0 < (a_v a).1 1
  · by_cases hx : x < 0
    · refine ⟨-1, -1, h, h, a, ?_, ?_, hr, hI, rfl⟩
      · refine Ev.of (es := cd_111) (ml := 2) (lv := [some (.ref 0), some (.int x)]) rfl rfl rfl ?_
        have t1 := t1 h0
        clear hr
        obtain ⟨S, fi, fl, fr⟩ := h
        have hS : S = shT := hI.1
        subst hS
        have k0 : fr 0 0 = some 1 := k0
        refine go_of ?_
        refine gp_n 1 (j' := 1) (lv' := [some (.ref 0), some (.int x)]) (st' := [.ref 0]) (h' := (shT, fi, fl, fr)) rfl ?_
        refine gp_of (fun _ k9 => g_getR (q' := 1) rfl rfl (by decide) k0 k9) ?_
        refine gp_of (fun _ k9 => g_call (y := 57) (as := [.ref 1]) (st' := []) rfl rfl (t1) k9) ?_
        refine gp_of (fun _ k9 => g_iff rfl (show ¬ ((1 : Int32) = (0 : Int32)) from by decide) k9) ?_
        refine gp_n 1 (j' := 5) (lv' := [some (.ref 0), some (.int x)]) (st' := [.int x]) (h' := (shT, fi, fl, fr)) rfl ?_
        refine gp_of (fun _ k9 => g_iff rfl (show ¬ ((0 : Int32) ≤ x) from Int32.not_le.mpr hx) k9) ?_
        refine gp_n 1 (j' := 7) (lv' := [some (.ref 0), some (.int x)]) (st' := [.long (-1)]) (h' := (shT, fi, fl, fr)) rfl ?_
        refine gp_done (g_lret rfl) ?_
        rfl
      · refine Ev.of (es := cd_205) (ml := 2) (lv := [some (.ref 70), some (.int x)]) rfl rfl rfl ?_
        have u1 := u1 h0
        clear hr
        obtain ⟨S, fi, fl, fr⟩ := h
        have hS : S = shT := hI.1
        subst hS
        refine go_of ?_
        refine gp_n 1 (j' := 1) (lv' := [some (.ref 70), some (.int x)]) (st' := [.ref 70]) (h' := (shT, fi, fl, fr)) rfl ?_
        refine gp_of (fun _ k9 => g_call (y := 172) (as := [.ref 70]) (st' := []) rfl rfl (u1) k9) ?_
        refine gp_of (fun _ k9 => g_iff rfl (show ¬ ((1 : Int32) = (0 : Int32)) from by decide) k9) ?_
        refine gp_n 1 (j' := 4) (lv' := [some (.ref 70), some (.int x)]) (st' := [.int x]) (h' := (shT, fi, fl, fr)) rfl ?_
        refine gp_of (fun _ k9 => g_iff rfl (show ¬ ((0 : Int32) ≤ x) from Int32.not_le.mpr hx) k9) ?_
        refine gp_n 1 (j' := 6) (lv' := [some (.ref 70), some (.int x)]) (st' := [.long (-1)]) (h' := (shT, fi, fl, fr)) rfl ?_
        refine gp_done (g_lret rfl) ?_
        rfl
    · obtain ⟨p, hp, rfl⟩ := nI_of hx
      obtain ⟨m, k, c, l, vk, hl, l1, l8⟩ := rd_get hr h0
      obtain ⟨h1, e1, x1, I1, F1⟩ := rh_C hr vk hl l1 l8
      have r1 := rd_pair hr vk l1 l8 x1 I1 F1
      obtain ⟨h2, e2, I2, x2, F2⟩ := run_M r1.1 vk l1 l8
      have r2 := rd_pairM r1 I2 F2
      exact ⟨_, _, h1, h2, a, ms_C hr h0 vk l1 l8 e1 x1 I1 r1 hp, ms_M r1.1 h0 vk hl l1 l8 e2 x2 r2.1 hp, r2, I1, rfl⟩
  · refine ⟨-1, -1, h, h, a, ?_, ?_, hr, hI, rfl⟩
    · refine Ev.of (es := cd_111) (ml := 2) (lv := [some (.ref 0), some (.int x)]) rfl rfl rfl ?_
      have t0 := t0 h0
      clear hr
      obtain ⟨S, fi, fl, fr⟩ := h
      have hS : S = shT := hI.1
      subst hS
      have k0 : fr 0 0 = some 1 := k0
      refine go_of ?_
      refine gp_n 1 (j' := 1) (lv' := [some (.ref 0), some (.int x)]) (st' := [.ref 0]) (h' := (shT, fi, fl, fr)) rfl ?_
      refine gp_of (fun _ k9 => g_getR (q' := 1) rfl rfl (by decide) k0 k9) ?_
      refine gp_of (fun _ k9 => g_call (y := 57) (as := [.ref 1]) (st' := []) rfl rfl (t0) k9) ?_
      refine gp_of (fun _ k9 => g_ift rfl (show (0 : Int32) = (0 : Int32) from by decide) k9) ?_
      refine gp_n 1 (j' := 7) (lv' := [some (.ref 0), some (.int x)]) (st' := [.long (-1)]) (h' := (shT, fi, fl, fr)) rfl ?_
      refine gp_done (g_lret rfl) ?_
      rfl
    · refine Ev.of (es := cd_205) (ml := 2) (lv := [some (.ref 70), some (.int x)]) rfl rfl rfl ?_
      have u0 := u0 h0
      clear hr
      obtain ⟨S, fi, fl, fr⟩ := h
      have hS : S = shT := hI.1
      subst hS
      refine go_of ?_
      refine gp_n 1 (j' := 1) (lv' := [some (.ref 70), some (.int x)]) (st' := [.ref 70]) (h' := (shT, fi, fl, fr)) rfl ?_
      refine gp_of (fun _ k9 => g_call (y := 172) (as := [.ref 70]) (st' := []) rfl rfl (u0) k9) ?_
      refine gp_of (fun _ k9 => g_ift rfl (show (0 : Int32) = (0 : Int32) from by decide) k9) ?_
      refine gp_n 1 (j' := 6) (lv' := [some (.ref 70), some (.int x)]) (st' := [.long (-1)]) (h' := (shT, fi, fl, fr)) rfl ?_
      refine gp_done (g_lret rfl) ?_
      rfl
