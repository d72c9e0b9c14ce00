theorem g_retb {T : List PmM} {xs : PmX} {es : List PmI} {j : Nat} {lv : PmL} {h : PmH} {pc n a c q : Nat} {v : Int} {ts : List Nat} {w : Int32} (he : es[j]? = some (pc, n, .ireturn, a, c, 2, q, v, ts)) (hw : vp_nar .byte w = w) : Go T xs es j lv [.int w] h (some (.int w), h) := by
  refine Go.ret he ?_
  simp [pm_x, pm_ret, hw]
theorem g_retc {T : List PmM} {xs : PmX} {es : List PmI} {j : Nat} {lv : PmL} {h : PmH} {pc n a c q : Nat} {v : Int} {ts : List Nat} {w : Int32} (he : es[j]? = some (pc, n, .ireturn, a, c, 3, q, v, ts)) (hw : vp_nar .char w = w) : Go T xs es j lv [.int w] h (some (.int w), h) := by
  refine Go.ret he ?_
  simp [pm_x, pm_ret, hw]
theorem cdr_0 {h : PmH} : Ev pmT 22 [.retAddr 0] h (some (.int 0)) h := by
  refine Ev.of (es := cd_22) (ml := 1) (lv := [some (.retAddr 0)]) rfl rfl rfl ?_
  refine g_n 1 (j' := 1) (lv' := [some (.retAddr 0)]) (st' := [.int 1]) (h' := h) rfl ?_
  refine g_iff rfl (show ¬ ((1 : Int32) = (0 : Int32)) from by decide) ?_
  refine g_n 3 (j' := 6) (lv' := [some (.retAddr 0)]) (st' := [.int 0]) (h' := h) rfl ?_
  exact g_retb rfl rfl
theorem tln_0 {h : PmH} : Ev pmT 21 [.retAddr 0] h (some (.int 4)) h := by
  refine Ev.of (es := cd_21) (ml := 1) (lv := [some (.retAddr 0)]) rfl rfl rfl ?_
  refine g_n 4 (j' := 4) (lv' := [some (.retAddr 0)]) (st' := [.retAddr 0, .int 4]) (h' := h) rfl ?_
  refine g_call (y := 22) (as := [.retAddr 0]) (st' := [.int 4]) rfl rfl (cdr_0) ?_
  refine g_n 1 (j' := 6) (lv' := [some (.retAddr 0)]) (st' := [.int 4]) (h' := h) rfl ?_
  exact g_ret rfl
theorem tla_0 {h : PmH} : Ev pmT 24 [.retAddr 0] h (some (.int 1)) h := by
  refine Ev.of (es := cd_24) (ml := 1) (lv := [some (.retAddr 0)]) rfl rfl rfl ?_
  refine g_n 1 (j' := 1) (lv' := [some (.retAddr 0)]) (st' := [.int 1]) (h' := h) rfl ?_
  refine g_iff rfl (show ¬ ((1 : Int32) = (0 : Int32)) from by decide) ?_
  refine g_n 2 (j' := 4) (lv' := [some (.retAddr 0)]) (st' := [.int 0]) (h' := h) rfl ?_
  refine g_iff rfl (show ¬ (¬ (0 : Int32) = (0 : Int32)) from fun z => z rfl) ?_
  refine g_n 2 (j' := 8) (lv' := [some (.retAddr 0)]) (st' := [.int 1]) (h' := h) rfl ?_
  exact g_retz rfl (by decide)
theorem c7_0_4 {h : PmH} : Ev pmT 27 [.int 0, .int 4, .retAddr 60] h (some (.int 0)) h := by
  refine Ev.of (es := cd_27) (ml := 3) (lv := [some (.int 0), some (.int 4), some (.retAddr 60)]) rfl rfl rfl ?_
  refine g_n 1 (j' := 1) (lv' := [some (.int 0), some (.int 4), some (.retAddr 60)]) (st' := [.int 0]) (h' := h) rfl ?_
  refine g_iff rfl (show ¬ ((0 : Int32) < (0 : Int32)) from by decide) ?_
  refine g_n 2 (j' := 4) (lv' := [some (.int 0), some (.int 4), some (.retAddr 60)]) (st' := [.int 4, .int 0]) (h' := h) rfl ?_
  refine g_ict rfl (show (0 : Int32) < (4 : Int32) from by decide) ?_
  refine g_n 1 (j' := 11) (lv' := [some (.int 0), some (.int 4), some (.retAddr 60)]) (st' := [.int 0]) (h' := h) rfl ?_
  exact g_ret rfl
theorem c6_0_4 {h : PmH} : Ev pmT 26 [.int 0, .int 4] h (none) h := by
  refine Ev.of (es := cd_26) (ml := 2) (lv := [some (.int 0), some (.int 4)]) rfl rfl rfl ?_
  refine g_n 3 (j' := 3) (lv' := [some (.int 0), some (.int 4)]) (st' := [.retAddr 60, .int 4, .int 0]) (h' := h) rfl ?_
  refine g_call (y := 27) (as := [.int 0, .int 4, .retAddr 60]) (st' := []) rfl rfl (c7_0_4) ?_
  refine g_n 1 (j' := 5) (lv' := [some (.int 0), some (.int 4)]) (st' := []) (h' := h) rfl ?_
  exact g_vret rfl
theorem lc_0_0 {h : PmH} : Ev pmT 25 [.retAddr 16, .int 0] h (some (.int 115)) h := by
  refine Ev.of (es := cd_25) (ml := 2) (lv := [some (.retAddr 16), some (.int 0)]) rfl rfl rfl ?_
  refine g_n 3 (j' := 3) (lv' := [some (.retAddr 16), some (.int 0)]) (st' := [.int 4, .int 0]) (h' := h) rfl ?_
  refine g_callv (y := 26) (as := [.int 0, .int 4]) (st' := []) rfl rfl (c6_0_4) ?_
  refine g_n 6 (j' := 10) (lv' := [some (.retAddr 16), some (.int 0)]) (st' := [.int 115]) (h' := h) rfl ?_
  exact g_retc rfl rfl
theorem ch_0_0 {h : PmH} : Ev pmT 23 [.retAddr 0, .int 0] h (some (.int 115)) h := by
  refine Ev.of (es := cd_23) (ml := 2) (lv := [some (.retAddr 0), some (.int 0)]) rfl rfl rfl ?_
  refine g_n 1 (j' := 1) (lv' := [some (.retAddr 0), some (.int 0)]) (st' := [.retAddr 0]) (h' := h) rfl ?_
  refine g_call (y := 24) (as := [.retAddr 0]) (st' := []) rfl rfl (tla_0) ?_
  refine g_iff rfl (show ¬ ((1 : Int32) = (0 : Int32)) from by decide) ?_
  refine g_n 3 (j' := 6) (lv' := [some (.retAddr 0), some (.int 0)]) (st' := [.int 0, .retAddr 16]) (h' := h) rfl ?_
  refine g_call (y := 25) (as := [.retAddr 16, .int 0]) (st' := []) rfl rfl (lc_0_0) ?_
  exact g_retc rfl rfl
theorem c7_1_4 {h : PmH} : Ev pmT 27 [.int 1, .int 4, .retAddr 60] h (some (.int 1)) h := by
  refine Ev.of (es := cd_27) (ml := 3) (lv := [some (.int 1), some (.int 4), some (.retAddr 60)]) rfl rfl rfl ?_
  refine g_n 1 (j' := 1) (lv' := [some (.int 1), some (.int 4), some (.retAddr 60)]) (st' := [.int 1]) (h' := h) rfl ?_
  refine g_iff rfl (show ¬ ((1 : Int32) < (0 : Int32)) from by decide) ?_
  refine g_n 2 (j' := 4) (lv' := [some (.int 1), some (.int 4), some (.retAddr 60)]) (st' := [.int 4, .int 1]) (h' := h) rfl ?_
  refine g_ict rfl (show (1 : Int32) < (4 : Int32) from by decide) ?_
  refine g_n 1 (j' := 11) (lv' := [some (.int 1), some (.int 4), some (.retAddr 60)]) (st' := [.int 1]) (h' := h) rfl ?_
  exact g_ret rfl
theorem c6_1_4 {h : PmH} : Ev pmT 26 [.int 1, .int 4] h (none) h := by
  refine Ev.of (es := cd_26) (ml := 2) (lv := [some (.int 1), some (.int 4)]) rfl rfl rfl ?_
  refine g_n 3 (j' := 3) (lv' := [some (.int 1), some (.int 4)]) (st' := [.retAddr 60, .int 4, .int 1]) (h' := h) rfl ?_
  refine g_call (y := 27) (as := [.int 1, .int 4, .retAddr 60]) (st' := []) rfl rfl (c7_1_4) ?_
  refine g_n 1 (j' := 5) (lv' := [some (.int 1), some (.int 4)]) (st' := []) (h' := h) rfl ?_
  exact g_vret rfl
theorem lc_0_1 {h : PmH} : Ev pmT 25 [.retAddr 16, .int 1] h (some (.int 105)) h := by
  refine Ev.of (es := cd_25) (ml := 2) (lv := [some (.retAddr 16), some (.int 1)]) rfl rfl rfl ?_
  refine g_n 3 (j' := 3) (lv' := [some (.retAddr 16), some (.int 1)]) (st' := [.int 4, .int 1]) (h' := h) rfl ?_
  refine g_callv (y := 26) (as := [.int 1, .int 4]) (st' := []) rfl rfl (c6_1_4) ?_
  refine g_n 6 (j' := 10) (lv' := [some (.retAddr 16), some (.int 1)]) (st' := [.int 105]) (h' := h) rfl ?_
  exact g_retc rfl rfl
theorem ch_0_1 {h : PmH} : Ev pmT 23 [.retAddr 0, .int 1] h (some (.int 105)) h := by
  refine Ev.of (es := cd_23) (ml := 2) (lv := [some (.retAddr 0), some (.int 1)]) rfl rfl rfl ?_
  refine g_n 1 (j' := 1) (lv' := [some (.retAddr 0), some (.int 1)]) (st' := [.retAddr 0]) (h' := h) rfl ?_
  refine g_call (y := 24) (as := [.retAddr 0]) (st' := []) rfl rfl (tla_0) ?_
  refine g_iff rfl (show ¬ ((1 : Int32) = (0 : Int32)) from by decide) ?_
  refine g_n 3 (j' := 6) (lv' := [some (.retAddr 0), some (.int 1)]) (st' := [.int 1, .retAddr 16]) (h' := h) rfl ?_
  refine g_call (y := 25) (as := [.retAddr 16, .int 1]) (st' := []) rfl rfl (lc_0_1) ?_
  exact g_retc rfl rfl
theorem c7_2_4 {h : PmH} : Ev pmT 27 [.int 2, .int 4, .retAddr 60] h (some (.int 2)) h := by
  refine Ev.of (es := cd_27) (ml := 3) (lv := [some (.int 2), some (.int 4), some (.retAddr 60)]) rfl rfl rfl ?_
  refine g_n 1 (j' := 1) (lv' := [some (.int 2), some (.int 4), some (.retAddr 60)]) (st' := [.int 2]) (h' := h) rfl ?_
  refine g_iff rfl (show ¬ ((2 : Int32) < (0 : Int32)) from by decide) ?_
  refine g_n 2 (j' := 4) (lv' := [some (.int 2), some (.int 4), some (.retAddr 60)]) (st' := [.int 4, .int 2]) (h' := h) rfl ?_
  refine g_ict rfl (show (2 : Int32) < (4 : Int32) from by decide) ?_
  refine g_n 1 (j' := 11) (lv' := [some (.int 2), some (.int 4), some (.retAddr 60)]) (st' := [.int 2]) (h' := h) rfl ?_
  exact g_ret rfl
theorem c6_2_4 {h : PmH} : Ev pmT 26 [.int 2, .int 4] h (none) h := by
  refine Ev.of (es := cd_26) (ml := 2) (lv := [some (.int 2), some (.int 4)]) rfl rfl rfl ?_
  refine g_n 3 (j' := 3) (lv' := [some (.int 2), some (.int 4)]) (st' := [.retAddr 60, .int 4, .int 2]) (h' := h) rfl ?_
  refine g_call (y := 27) (as := [.int 2, .int 4, .retAddr 60]) (st' := []) rfl rfl (c7_2_4) ?_
  refine g_n 1 (j' := 5) (lv' := [some (.int 2), some (.int 4)]) (st' := []) (h' := h) rfl ?_
  exact g_vret rfl
theorem lc_0_2 {h : PmH} : Ev pmT 25 [.retAddr 16, .int 2] h (some (.int 122)) h := by
  refine Ev.of (es := cd_25) (ml := 2) (lv := [some (.retAddr 16), some (.int 2)]) rfl rfl rfl ?_
  refine g_n 3 (j' := 3) (lv' := [some (.retAddr 16), some (.int 2)]) (st' := [.int 4, .int 2]) (h' := h) rfl ?_
  refine g_callv (y := 26) (as := [.int 2, .int 4]) (st' := []) rfl rfl (c6_2_4) ?_
  refine g_n 6 (j' := 10) (lv' := [some (.retAddr 16), some (.int 2)]) (st' := [.int 122]) (h' := h) rfl ?_
  exact g_retc rfl rfl
theorem ch_0_2 {h : PmH} : Ev pmT 23 [.retAddr 0, .int 2] h (some (.int 122)) h := by
  refine Ev.of (es := cd_23) (ml := 2) (lv := [some (.retAddr 0), some (.int 2)]) rfl rfl rfl ?_
  refine g_n 1 (j' := 1) (lv' := [some (.retAddr 0), some (.int 2)]) (st' := [.retAddr 0]) (h' := h) rfl ?_
  refine g_call (y := 24) (as := [.retAddr 0]) (st' := []) rfl rfl (tla_0) ?_
  refine g_iff rfl (show ¬ ((1 : Int32) = (0 : Int32)) from by decide) ?_
  refine g_n 3 (j' := 6) (lv' := [some (.retAddr 0), some (.int 2)]) (st' := [.int 2, .retAddr 16]) (h' := h) rfl ?_
  refine g_call (y := 25) (as := [.retAddr 16, .int 2]) (st' := []) rfl rfl (lc_0_2) ?_
  exact g_retc rfl rfl
theorem c7_3_4 {h : PmH} : Ev pmT 27 [.int 3, .int 4, .retAddr 60] h (some (.int 3)) h := by
  refine Ev.of (es := cd_27) (ml := 3) (lv := [some (.int 3), some (.int 4), some (.retAddr 60)]) rfl rfl rfl ?_
  refine g_n 1 (j' := 1) (lv' := [some (.int 3), some (.int 4), some (.retAddr 60)]) (st' := [.int 3]) (h' := h) rfl ?_
  refine g_iff rfl (show ¬ ((3 : Int32) < (0 : Int32)) from by decide) ?_
  refine g_n 2 (j' := 4) (lv' := [some (.int 3), some (.int 4), some (.retAddr 60)]) (st' := [.int 4, .int 3]) (h' := h) rfl ?_
  refine g_ict rfl (show (3 : Int32) < (4 : Int32) from by decide) ?_
  refine g_n 1 (j' := 11) (lv' := [some (.int 3), some (.int 4), some (.retAddr 60)]) (st' := [.int 3]) (h' := h) rfl ?_
  exact g_ret rfl
theorem c6_3_4 {h : PmH} : Ev pmT 26 [.int 3, .int 4] h (none) h := by
  refine Ev.of (es := cd_26) (ml := 2) (lv := [some (.int 3), some (.int 4)]) rfl rfl rfl ?_
  refine g_n 3 (j' := 3) (lv' := [some (.int 3), some (.int 4)]) (st' := [.retAddr 60, .int 4, .int 3]) (h' := h) rfl ?_
  refine g_call (y := 27) (as := [.int 3, .int 4, .retAddr 60]) (st' := []) rfl rfl (c7_3_4) ?_
  refine g_n 1 (j' := 5) (lv' := [some (.int 3), some (.int 4)]) (st' := []) (h' := h) rfl ?_
  exact g_vret rfl
theorem lc_0_3 {h : PmH} : Ev pmT 25 [.retAddr 16, .int 3] h (some (.int 101)) h := by
  refine Ev.of (es := cd_25) (ml := 2) (lv := [some (.retAddr 16), some (.int 3)]) rfl rfl rfl ?_
  refine g_n 3 (j' := 3) (lv' := [some (.retAddr 16), some (.int 3)]) (st' := [.int 4, .int 3]) (h' := h) rfl ?_
  refine g_callv (y := 26) (as := [.int 3, .int 4]) (st' := []) rfl rfl (c6_3_4) ?_
  refine g_n 6 (j' := 10) (lv' := [some (.retAddr 16), some (.int 3)]) (st' := [.int 101]) (h' := h) rfl ?_
  exact g_retc rfl rfl
theorem ch_0_3 {h : PmH} : Ev pmT 23 [.retAddr 0, .int 3] h (some (.int 101)) h := by
  refine Ev.of (es := cd_23) (ml := 2) (lv := [some (.retAddr 0), some (.int 3)]) rfl rfl rfl ?_
  refine g_n 1 (j' := 1) (lv' := [some (.retAddr 0), some (.int 3)]) (st' := [.retAddr 0]) (h' := h) rfl ?_
  refine g_call (y := 24) (as := [.retAddr 0]) (st' := []) rfl rfl (tla_0) ?_
  refine g_iff rfl (show ¬ ((1 : Int32) = (0 : Int32)) from by decide) ?_
  refine g_n 3 (j' := 6) (lv' := [some (.retAddr 0), some (.int 3)]) (st' := [.int 3, .retAddr 16]) (h' := h) rfl ?_
  refine g_call (y := 25) (as := [.retAddr 16, .int 3]) (st' := []) rfl rfl (lc_0_3) ?_
  exact g_retc rfl rfl
theorem cdr_1 {h : PmH} : Ev pmT 22 [.retAddr 1] h (some (.int 0)) h := by
  refine Ev.of (es := cd_22) (ml := 1) (lv := [some (.retAddr 1)]) rfl rfl rfl ?_
  refine g_n 1 (j' := 1) (lv' := [some (.retAddr 1)]) (st' := [.int 1]) (h' := h) rfl ?_
  refine g_iff rfl (show ¬ ((1 : Int32) = (0 : Int32)) from by decide) ?_
  refine g_n 3 (j' := 6) (lv' := [some (.retAddr 1)]) (st' := [.int 0]) (h' := h) rfl ?_
  exact g_retb rfl rfl
theorem tln_1 {h : PmH} : Ev pmT 21 [.retAddr 1] h (some (.int 4)) h := by
  refine Ev.of (es := cd_21) (ml := 1) (lv := [some (.retAddr 1)]) rfl rfl rfl ?_
  refine g_n 4 (j' := 4) (lv' := [some (.retAddr 1)]) (st' := [.retAddr 1, .int 4]) (h' := h) rfl ?_
  refine g_call (y := 22) (as := [.retAddr 1]) (st' := [.int 4]) rfl rfl (cdr_1) ?_
  refine g_n 1 (j' := 6) (lv' := [some (.retAddr 1)]) (st' := [.int 4]) (h' := h) rfl ?_
  exact g_ret rfl
theorem tla_1 {h : PmH} : Ev pmT 24 [.retAddr 1] h (some (.int 1)) h := by
  refine Ev.of (es := cd_24) (ml := 1) (lv := [some (.retAddr 1)]) rfl rfl rfl ?_
  refine g_n 1 (j' := 1) (lv' := [some (.retAddr 1)]) (st' := [.int 1]) (h' := h) rfl ?_
  refine g_iff rfl (show ¬ ((1 : Int32) = (0 : Int32)) from by decide) ?_
  refine g_n 2 (j' := 4) (lv' := [some (.retAddr 1)]) (st' := [.int 0]) (h' := h) rfl ?_
  refine g_iff rfl (show ¬ (¬ (0 : Int32) = (0 : Int32)) from fun z => z rfl) ?_
  refine g_n 2 (j' := 8) (lv' := [some (.retAddr 1)]) (st' := [.int 1]) (h' := h) rfl ?_
  exact g_retz rfl (by decide)
theorem lc_1_0 {h : PmH} : Ev pmT 25 [.retAddr 17, .int 0] h (some (.int 107)) h := by
  refine Ev.of (es := cd_25) (ml := 2) (lv := [some (.retAddr 17), some (.int 0)]) rfl rfl rfl ?_
  refine g_n 3 (j' := 3) (lv' := [some (.retAddr 17), some (.int 0)]) (st' := [.int 4, .int 0]) (h' := h) rfl ?_
  refine g_callv (y := 26) (as := [.int 0, .int 4]) (st' := []) rfl rfl (c6_0_4) ?_
  refine g_n 6 (j' := 10) (lv' := [some (.retAddr 17), some (.int 0)]) (st' := [.int 107]) (h' := h) rfl ?_
  exact g_retc rfl rfl
theorem ch_1_0 {h : PmH} : Ev pmT 23 [.retAddr 1, .int 0] h (some (.int 107)) h := by
  refine Ev.of (es := cd_23) (ml := 2) (lv := [some (.retAddr 1), some (.int 0)]) rfl rfl rfl ?_
  refine g_n 1 (j' := 1) (lv' := [some (.retAddr 1), some (.int 0)]) (st' := [.retAddr 1]) (h' := h) rfl ?_
  refine g_call (y := 24) (as := [.retAddr 1]) (st' := []) rfl rfl (tla_1) ?_
  refine g_iff rfl (show ¬ ((1 : Int32) = (0 : Int32)) from by decide) ?_
  refine g_n 3 (j' := 6) (lv' := [some (.retAddr 1), some (.int 0)]) (st' := [.int 0, .retAddr 17]) (h' := h) rfl ?_
  refine g_call (y := 25) (as := [.retAddr 17, .int 0]) (st' := []) rfl rfl (lc_1_0) ?_
  exact g_retc rfl rfl
theorem lc_1_1 {h : PmH} : Ev pmT 25 [.retAddr 17, .int 1] h (some (.int 101)) h := by
  refine Ev.of (es := cd_25) (ml := 2) (lv := [some (.retAddr 17), some (.int 1)]) rfl rfl rfl ?_
  refine g_n 3 (j' := 3) (lv' := [some (.retAddr 17), some (.int 1)]) (st' := [.int 4, .int 1]) (h' := h) rfl ?_
  refine g_callv (y := 26) (as := [.int 1, .int 4]) (st' := []) rfl rfl (c6_1_4) ?_
  refine g_n 6 (j' := 10) (lv' := [some (.retAddr 17), some (.int 1)]) (st' := [.int 101]) (h' := h) rfl ?_
  exact g_retc rfl rfl
theorem ch_1_1 {h : PmH} : Ev pmT 23 [.retAddr 1, .int 1] h (some (.int 101)) h := by
  refine Ev.of (es := cd_23) (ml := 2) (lv := [some (.retAddr 1), some (.int 1)]) rfl rfl rfl ?_
  refine g_n 1 (j' := 1) (lv' := [some (.retAddr 1), some (.int 1)]) (st' := [.retAddr 1]) (h' := h) rfl ?_
  refine g_call (y := 24) (as := [.retAddr 1]) (st' := []) rfl rfl (tla_1) ?_
  refine g_iff rfl (show ¬ ((1 : Int32) = (0 : Int32)) from by decide) ?_
  refine g_n 3 (j' := 6) (lv' := [some (.retAddr 1), some (.int 1)]) (st' := [.int 1, .retAddr 17]) (h' := h) rfl ?_
  refine g_call (y := 25) (as := [.retAddr 17, .int 1]) (st' := []) rfl rfl (lc_1_1) ?_
  exact g_retc rfl rfl
theorem lc_1_2 {h : PmH} : Ev pmT 25 [.retAddr 17, .int 2] h (some (.int 101)) h := by
  refine Ev.of (es := cd_25) (ml := 2) (lv := [some (.retAddr 17), some (.int 2)]) rfl rfl rfl ?_
  refine g_n 3 (j' := 3) (lv' := [some (.retAddr 17), some (.int 2)]) (st' := [.int 4, .int 2]) (h' := h) rfl ?_
  refine g_callv (y := 26) (as := [.int 2, .int 4]) (st' := []) rfl rfl (c6_2_4) ?_
  refine g_n 6 (j' := 10) (lv' := [some (.retAddr 17), some (.int 2)]) (st' := [.int 101]) (h' := h) rfl ?_
  exact g_retc rfl rfl
theorem ch_1_2 {h : PmH} : Ev pmT 23 [.retAddr 1, .int 2] h (some (.int 101)) h := by
  refine Ev.of (es := cd_23) (ml := 2) (lv := [some (.retAddr 1), some (.int 2)]) rfl rfl rfl ?_
  refine g_n 1 (j' := 1) (lv' := [some (.retAddr 1), some (.int 2)]) (st' := [.retAddr 1]) (h' := h) rfl ?_
  refine g_call (y := 24) (as := [.retAddr 1]) (st' := []) rfl rfl (tla_1) ?_
  refine g_iff rfl (show ¬ ((1 : Int32) = (0 : Int32)) from by decide) ?_
  refine g_n 3 (j' := 6) (lv' := [some (.retAddr 1), some (.int 2)]) (st' := [.int 2, .retAddr 17]) (h' := h) rfl ?_
  refine g_call (y := 25) (as := [.retAddr 17, .int 2]) (st' := []) rfl rfl (lc_1_2) ?_
  exact g_retc rfl rfl
theorem lc_1_3 {h : PmH} : Ev pmT 25 [.retAddr 17, .int 3] h (some (.int 112)) h := by
  refine Ev.of (es := cd_25) (ml := 2) (lv := [some (.retAddr 17), some (.int 3)]) rfl rfl rfl ?_
  refine g_n 3 (j' := 3) (lv' := [some (.retAddr 17), some (.int 3)]) (st' := [.int 4, .int 3]) (h' := h) rfl ?_
  refine g_callv (y := 26) (as := [.int 3, .int 4]) (st' := []) rfl rfl (c6_3_4) ?_
  refine g_n 6 (j' := 10) (lv' := [some (.retAddr 17), some (.int 3)]) (st' := [.int 112]) (h' := h) rfl ?_
  exact g_retc rfl rfl
theorem ch_1_3 {h : PmH} : Ev pmT 23 [.retAddr 1, .int 3] h (some (.int 112)) h := by
  refine Ev.of (es := cd_23) (ml := 2) (lv := [some (.retAddr 1), some (.int 3)]) rfl rfl rfl ?_
  refine g_n 1 (j' := 1) (lv' := [some (.retAddr 1), some (.int 3)]) (st' := [.retAddr 1]) (h' := h) rfl ?_
  refine g_call (y := 24) (as := [.retAddr 1]) (st' := []) rfl rfl (tla_1) ?_
  refine g_iff rfl (show ¬ ((1 : Int32) = (0 : Int32)) from by decide) ?_
  refine g_n 3 (j' := 6) (lv' := [some (.retAddr 1), some (.int 3)]) (st' := [.int 3, .retAddr 17]) (h' := h) rfl ?_
  refine g_call (y := 25) (as := [.retAddr 17, .int 3]) (st' := []) rfl rfl (lc_1_3) ?_
  exact g_retc rfl rfl
theorem cdr_2 {h : PmH} : Ev pmT 22 [.retAddr 2] h (some (.int 0)) h := by
  refine Ev.of (es := cd_22) (ml := 1) (lv := [some (.retAddr 2)]) rfl rfl rfl ?_
  refine g_n 1 (j' := 1) (lv' := [some (.retAddr 2)]) (st' := [.int 1]) (h' := h) rfl ?_
  refine g_iff rfl (show ¬ ((1 : Int32) = (0 : Int32)) from by decide) ?_
  refine g_n 3 (j' := 6) (lv' := [some (.retAddr 2)]) (st' := [.int 0]) (h' := h) rfl ?_
  exact g_retb rfl rfl
theorem tln_2 {h : PmH} : Ev pmT 21 [.retAddr 2] h (some (.int 4)) h := by
  refine Ev.of (es := cd_21) (ml := 1) (lv := [some (.retAddr 2)]) rfl rfl rfl ?_
  refine g_n 4 (j' := 4) (lv' := [some (.retAddr 2)]) (st' := [.retAddr 2, .int 4]) (h' := h) rfl ?_
  refine g_call (y := 22) (as := [.retAddr 2]) (st' := [.int 4]) rfl rfl (cdr_2) ?_
  refine g_n 1 (j' := 6) (lv' := [some (.retAddr 2)]) (st' := [.int 4]) (h' := h) rfl ?_
  exact g_ret rfl
theorem tla_2 {h : PmH} : Ev pmT 24 [.retAddr 2] h (some (.int 1)) h := by
  refine Ev.of (es := cd_24) (ml := 1) (lv := [some (.retAddr 2)]) rfl rfl rfl ?_
  refine g_n 1 (j' := 1) (lv' := [some (.retAddr 2)]) (st' := [.int 1]) (h' := h) rfl ?_
  refine g_iff rfl (show ¬ ((1 : Int32) = (0 : Int32)) from by decide) ?_
  refine g_n 2 (j' := 4) (lv' := [some (.retAddr 2)]) (st' := [.int 0]) (h' := h) rfl ?_
  refine g_iff rfl (show ¬ (¬ (0 : Int32) = (0 : Int32)) from fun z => z rfl) ?_
  refine g_n 2 (j' := 8) (lv' := [some (.retAddr 2)]) (st' := [.int 1]) (h' := h) rfl ?_
  exact g_retz rfl (by decide)
theorem lc_2_0 {h : PmH} : Ev pmT 25 [.retAddr 18, .int 0] h (some (.int 105)) h := by
  refine Ev.of (es := cd_25) (ml := 2) (lv := [some (.retAddr 18), some (.int 0)]) rfl rfl rfl ?_
  refine g_n 3 (j' := 3) (lv' := [some (.retAddr 18), some (.int 0)]) (st' := [.int 4, .int 0]) (h' := h) rfl ?_
  refine g_callv (y := 26) (as := [.int 0, .int 4]) (st' := []) rfl rfl (c6_0_4) ?_
  refine g_n 6 (j' := 10) (lv' := [some (.retAddr 18), some (.int 0)]) (st' := [.int 105]) (h' := h) rfl ?_
  exact g_retc rfl rfl
theorem ch_2_0 {h : PmH} : Ev pmT 23 [.retAddr 2, .int 0] h (some (.int 105)) h := by
  refine Ev.of (es := cd_23) (ml := 2) (lv := [some (.retAddr 2), some (.int 0)]) rfl rfl rfl ?_
  refine g_n 1 (j' := 1) (lv' := [some (.retAddr 2), some (.int 0)]) (st' := [.retAddr 2]) (h' := h) rfl ?_
  refine g_call (y := 24) (as := [.retAddr 2]) (st' := []) rfl rfl (tla_2) ?_
  refine g_iff rfl (show ¬ ((1 : Int32) = (0 : Int32)) from by decide) ?_
  refine g_n 3 (j' := 6) (lv' := [some (.retAddr 2), some (.int 0)]) (st' := [.int 0, .retAddr 18]) (h' := h) rfl ?_
  refine g_call (y := 25) (as := [.retAddr 18, .int 0]) (st' := []) rfl rfl (lc_2_0) ?_
  exact g_retc rfl rfl
theorem lc_2_1 {h : PmH} : Ev pmT 25 [.retAddr 18, .int 1] h (some (.int 110)) h := by
  refine Ev.of (es := cd_25) (ml := 2) (lv := [some (.retAddr 18), some (.int 1)]) rfl rfl rfl ?_
  refine g_n 3 (j' := 3) (lv' := [some (.retAddr 18), some (.int 1)]) (st' := [.int 4, .int 1]) (h' := h) rfl ?_
  refine g_callv (y := 26) (as := [.int 1, .int 4]) (st' := []) rfl rfl (c6_1_4) ?_
  refine g_n 6 (j' := 10) (lv' := [some (.retAddr 18), some (.int 1)]) (st' := [.int 110]) (h' := h) rfl ?_
  exact g_retc rfl rfl
theorem ch_2_1 {h : PmH} : Ev pmT 23 [.retAddr 2, .int 1] h (some (.int 110)) h := by
  refine Ev.of (es := cd_23) (ml := 2) (lv := [some (.retAddr 2), some (.int 1)]) rfl rfl rfl ?_
  refine g_n 1 (j' := 1) (lv' := [some (.retAddr 2), some (.int 1)]) (st' := [.retAddr 2]) (h' := h) rfl ?_
  refine g_call (y := 24) (as := [.retAddr 2]) (st' := []) rfl rfl (tla_2) ?_
  refine g_iff rfl (show ¬ ((1 : Int32) = (0 : Int32)) from by decide) ?_
  refine g_n 3 (j' := 6) (lv' := [some (.retAddr 2), some (.int 1)]) (st' := [.int 1, .retAddr 18]) (h' := h) rfl ?_
  refine g_call (y := 25) (as := [.retAddr 18, .int 1]) (st' := []) rfl rfl (lc_2_1) ?_
  exact g_retc rfl rfl
theorem lc_2_2 {h : PmH} : Ev pmT 25 [.retAddr 18, .int 2] h (some (.int 102)) h := by
  refine Ev.of (es := cd_25) (ml := 2) (lv := [some (.retAddr 18), some (.int 2)]) rfl rfl rfl ?_
  refine g_n 3 (j' := 3) (lv' := [some (.retAddr 18), some (.int 2)]) (st' := [.int 4, .int 2]) (h' := h) rfl ?_
  refine g_callv (y := 26) (as := [.int 2, .int 4]) (st' := []) rfl rfl (c6_2_4) ?_
  refine g_n 6 (j' := 10) (lv' := [some (.retAddr 18), some (.int 2)]) (st' := [.int 102]) (h' := h) rfl ?_
  exact g_retc rfl rfl
theorem ch_2_2 {h : PmH} : Ev pmT 23 [.retAddr 2, .int 2] h (some (.int 102)) h := by
  refine Ev.of (es := cd_23) (ml := 2) (lv := [some (.retAddr 2), some (.int 2)]) rfl rfl rfl ?_
  refine g_n 1 (j' := 1) (lv' := [some (.retAddr 2), some (.int 2)]) (st' := [.retAddr 2]) (h' := h) rfl ?_
  refine g_call (y := 24) (as := [.retAddr 2]) (st' := []) rfl rfl (tla_2) ?_
  refine g_iff rfl (show ¬ ((1 : Int32) = (0 : Int32)) from by decide) ?_
  refine g_n 3 (j' := 6) (lv' := [some (.retAddr 2), some (.int 2)]) (st' := [.int 2, .retAddr 18]) (h' := h) rfl ?_
  refine g_call (y := 25) (as := [.retAddr 18, .int 2]) (st' := []) rfl rfl (lc_2_2) ?_
  exact g_retc rfl rfl
theorem lc_2_3 {h : PmH} : Ev pmT 25 [.retAddr 18, .int 3] h (some (.int 111)) h := by
  refine Ev.of (es := cd_25) (ml := 2) (lv := [some (.retAddr 18), some (.int 3)]) rfl rfl rfl ?_
  refine g_n 3 (j' := 3) (lv' := [some (.retAddr 18), some (.int 3)]) (st' := [.int 4, .int 3]) (h' := h) rfl ?_
  refine g_callv (y := 26) (as := [.int 3, .int 4]) (st' := []) rfl rfl (c6_3_4) ?_
  refine g_n 6 (j' := 10) (lv' := [some (.retAddr 18), some (.int 3)]) (st' := [.int 111]) (h' := h) rfl ?_
  exact g_retc rfl rfl
theorem ch_2_3 {h : PmH} : Ev pmT 23 [.retAddr 2, .int 3] h (some (.int 111)) h := by
  refine Ev.of (es := cd_23) (ml := 2) (lv := [some (.retAddr 2), some (.int 3)]) rfl rfl rfl ?_
  refine g_n 1 (j' := 1) (lv' := [some (.retAddr 2), some (.int 3)]) (st' := [.retAddr 2]) (h' := h) rfl ?_
  refine g_call (y := 24) (as := [.retAddr 2]) (st' := []) rfl rfl (tla_2) ?_
  refine g_iff rfl (show ¬ ((1 : Int32) = (0 : Int32)) from by decide) ?_
  refine g_n 3 (j' := 6) (lv' := [some (.retAddr 2), some (.int 3)]) (st' := [.int 3, .retAddr 18]) (h' := h) rfl ?_
  refine g_call (y := 25) (as := [.retAddr 18, .int 3]) (st' := []) rfl rfl (lc_2_3) ?_
  exact g_retc rfl rfl
theorem cdr_3 {h : PmH} : Ev pmT 22 [.retAddr 3] h (some (.int 0)) h := by
  refine Ev.of (es := cd_22) (ml := 1) (lv := [some (.retAddr 3)]) rfl rfl rfl ?_
  refine g_n 1 (j' := 1) (lv' := [some (.retAddr 3)]) (st' := [.int 1]) (h' := h) rfl ?_
  refine g_iff rfl (show ¬ ((1 : Int32) = (0 : Int32)) from by decide) ?_
  refine g_n 3 (j' := 6) (lv' := [some (.retAddr 3)]) (st' := [.int 0]) (h' := h) rfl ?_
  exact g_retb rfl rfl
theorem tln_3 {h : PmH} : Ev pmT 21 [.retAddr 3] h (some (.int 5)) h := by
  refine Ev.of (es := cd_21) (ml := 1) (lv := [some (.retAddr 3)]) rfl rfl rfl ?_
  refine g_n 4 (j' := 4) (lv' := [some (.retAddr 3)]) (st' := [.retAddr 3, .int 5]) (h' := h) rfl ?_
  refine g_call (y := 22) (as := [.retAddr 3]) (st' := [.int 5]) rfl rfl (cdr_3) ?_
  refine g_n 1 (j' := 6) (lv' := [some (.retAddr 3)]) (st' := [.int 5]) (h' := h) rfl ?_
  exact g_ret rfl
theorem tla_3 {h : PmH} : Ev pmT 24 [.retAddr 3] h (some (.int 1)) h := by
  refine Ev.of (es := cd_24) (ml := 1) (lv := [some (.retAddr 3)]) rfl rfl rfl ?_
  refine g_n 1 (j' := 1) (lv' := [some (.retAddr 3)]) (st' := [.int 1]) (h' := h) rfl ?_
  refine g_iff rfl (show ¬ ((1 : Int32) = (0 : Int32)) from by decide) ?_
  refine g_n 2 (j' := 4) (lv' := [some (.retAddr 3)]) (st' := [.int 0]) (h' := h) rfl ?_
  refine g_iff rfl (show ¬ (¬ (0 : Int32) = (0 : Int32)) from fun z => z rfl) ?_
  refine g_n 2 (j' := 8) (lv' := [some (.retAddr 3)]) (st' := [.int 1]) (h' := h) rfl ?_
  exact g_retz rfl (by decide)
theorem c7_0_5 {h : PmH} : Ev pmT 27 [.int 0, .int 5, .retAddr 60] h (some (.int 0)) h := by
  refine Ev.of (es := cd_27) (ml := 3) (lv := [some (.int 0), some (.int 5), some (.retAddr 60)]) rfl rfl rfl ?_
  refine g_n 1 (j' := 1) (lv' := [some (.int 0), some (.int 5), some (.retAddr 60)]) (st' := [.int 0]) (h' := h) rfl ?_
  refine g_iff rfl (show ¬ ((0 : Int32) < (0 : Int32)) from by decide) ?_
  refine g_n 2 (j' := 4) (lv' := [some (.int 0), some (.int 5), some (.retAddr 60)]) (st' := [.int 5, .int 0]) (h' := h) rfl ?_
  refine g_ict rfl (show (0 : Int32) < (5 : Int32) from by decide) ?_
  refine g_n 1 (j' := 11) (lv' := [some (.int 0), some (.int 5), some (.retAddr 60)]) (st' := [.int 0]) (h' := h) rfl ?_
  exact g_ret rfl
theorem c6_0_5 {h : PmH} : Ev pmT 26 [.int 0, .int 5] h (none) h := by
  refine Ev.of (es := cd_26) (ml := 2) (lv := [some (.int 0), some (.int 5)]) rfl rfl rfl ?_
  refine g_n 3 (j' := 3) (lv' := [some (.int 0), some (.int 5)]) (st' := [.retAddr 60, .int 5, .int 0]) (h' := h) rfl ?_
  refine g_call (y := 27) (as := [.int 0, .int 5, .retAddr 60]) (st' := []) rfl rfl (c7_0_5) ?_
  refine g_n 1 (j' := 5) (lv' := [some (.int 0), some (.int 5)]) (st' := []) (h' := h) rfl ?_
  exact g_vret rfl
theorem lc_3_0 {h : PmH} : Ev pmT 25 [.retAddr 19, .int 0] h (some (.int 99)) h := by
  refine Ev.of (es := cd_25) (ml := 2) (lv := [some (.retAddr 19), some (.int 0)]) rfl rfl rfl ?_
  refine g_n 3 (j' := 3) (lv' := [some (.retAddr 19), some (.int 0)]) (st' := [.int 5, .int 0]) (h' := h) rfl ?_
  refine g_callv (y := 26) (as := [.int 0, .int 5]) (st' := []) rfl rfl (c6_0_5) ?_
  refine g_n 6 (j' := 10) (lv' := [some (.retAddr 19), some (.int 0)]) (st' := [.int 99]) (h' := h) rfl ?_
  exact g_retc rfl rfl
theorem ch_3_0 {h : PmH} : Ev pmT 23 [.retAddr 3, .int 0] h (some (.int 99)) h := by
  refine Ev.of (es := cd_23) (ml := 2) (lv := [some (.retAddr 3), some (.int 0)]) rfl rfl rfl ?_
  refine g_n 1 (j' := 1) (lv' := [some (.retAddr 3), some (.int 0)]) (st' := [.retAddr 3]) (h' := h) rfl ?_
  refine g_call (y := 24) (as := [.retAddr 3]) (st' := []) rfl rfl (tla_3) ?_
  refine g_iff rfl (show ¬ ((1 : Int32) = (0 : Int32)) from by decide) ?_
  refine g_n 3 (j' := 6) (lv' := [some (.retAddr 3), some (.int 0)]) (st' := [.int 0, .retAddr 19]) (h' := h) rfl ?_
  refine g_call (y := 25) (as := [.retAddr 19, .int 0]) (st' := []) rfl rfl (lc_3_0) ?_
  exact g_retc rfl rfl
theorem c7_1_5 {h : PmH} : Ev pmT 27 [.int 1, .int 5, .retAddr 60] h (some (.int 1)) h := by
  refine Ev.of (es := cd_27) (ml := 3) (lv := [some (.int 1), some (.int 5), some (.retAddr 60)]) rfl rfl rfl ?_
  refine g_n 1 (j' := 1) (lv' := [some (.int 1), some (.int 5), some (.retAddr 60)]) (st' := [.int 1]) (h' := h) rfl ?_
  refine g_iff rfl (show ¬ ((1 : Int32) < (0 : Int32)) from by decide) ?_
  refine g_n 2 (j' := 4) (lv' := [some (.int 1), some (.int 5), some (.retAddr 60)]) (st' := [.int 5, .int 1]) (h' := h) rfl ?_
  refine g_ict rfl (show (1 : Int32) < (5 : Int32) from by decide) ?_
  refine g_n 1 (j' := 11) (lv' := [some (.int 1), some (.int 5), some (.retAddr 60)]) (st' := [.int 1]) (h' := h) rfl ?_
  exact g_ret rfl
theorem c6_1_5 {h : PmH} : Ev pmT 26 [.int 1, .int 5] h (none) h := by
  refine Ev.of (es := cd_26) (ml := 2) (lv := [some (.int 1), some (.int 5)]) rfl rfl rfl ?_
  refine g_n 3 (j' := 3) (lv' := [some (.int 1), some (.int 5)]) (st' := [.retAddr 60, .int 5, .int 1]) (h' := h) rfl ?_
  refine g_call (y := 27) (as := [.int 1, .int 5, .retAddr 60]) (st' := []) rfl rfl (c7_1_5) ?_
  refine g_n 1 (j' := 5) (lv' := [some (.int 1), some (.int 5)]) (st' := []) (h' := h) rfl ?_
  exact g_vret rfl
theorem lc_3_1 {h : PmH} : Ev pmT 25 [.retAddr 19, .int 1] h (some (.int 104)) h := by
  refine Ev.of (es := cd_25) (ml := 2) (lv := [some (.retAddr 19), some (.int 1)]) rfl rfl rfl ?_
  refine g_n 3 (j' := 3) (lv' := [some (.retAddr 19), some (.int 1)]) (st' := [.int 5, .int 1]) (h' := h) rfl ?_
  refine g_callv (y := 26) (as := [.int 1, .int 5]) (st' := []) rfl rfl (c6_1_5) ?_
  refine g_n 6 (j' := 10) (lv' := [some (.retAddr 19), some (.int 1)]) (st' := [.int 104]) (h' := h) rfl ?_
  exact g_retc rfl rfl
theorem ch_3_1 {h : PmH} : Ev pmT 23 [.retAddr 3, .int 1] h (some (.int 104)) h := by
  refine Ev.of (es := cd_23) (ml := 2) (lv := [some (.retAddr 3), some (.int 1)]) rfl rfl rfl ?_
  refine g_n 1 (j' := 1) (lv' := [some (.retAddr 3), some (.int 1)]) (st' := [.retAddr 3]) (h' := h) rfl ?_
  refine g_call (y := 24) (as := [.retAddr 3]) (st' := []) rfl rfl (tla_3) ?_
  refine g_iff rfl (show ¬ ((1 : Int32) = (0 : Int32)) from by decide) ?_
  refine g_n 3 (j' := 6) (lv' := [some (.retAddr 3), some (.int 1)]) (st' := [.int 1, .retAddr 19]) (h' := h) rfl ?_
  refine g_call (y := 25) (as := [.retAddr 19, .int 1]) (st' := []) rfl rfl (lc_3_1) ?_
  exact g_retc rfl rfl
theorem c7_2_5 {h : PmH} : Ev pmT 27 [.int 2, .int 5, .retAddr 60] h (some (.int 2)) h := by
  refine Ev.of (es := cd_27) (ml := 3) (lv := [some (.int 2), some (.int 5), some (.retAddr 60)]) rfl rfl rfl ?_
  refine g_n 1 (j' := 1) (lv' := [some (.int 2), some (.int 5), some (.retAddr 60)]) (st' := [.int 2]) (h' := h) rfl ?_
  refine g_iff rfl (show ¬ ((2 : Int32) < (0 : Int32)) from by decide) ?_
  refine g_n 2 (j' := 4) (lv' := [some (.int 2), some (.int 5), some (.retAddr 60)]) (st' := [.int 5, .int 2]) (h' := h) rfl ?_
  refine g_ict rfl (show (2 : Int32) < (5 : Int32) from by decide) ?_
  refine g_n 1 (j' := 11) (lv' := [some (.int 2), some (.int 5), some (.retAddr 60)]) (st' := [.int 2]) (h' := h) rfl ?_
  exact g_ret rfl
theorem c6_2_5 {h : PmH} : Ev pmT 26 [.int 2, .int 5] h (none) h := by
  refine Ev.of (es := cd_26) (ml := 2) (lv := [some (.int 2), some (.int 5)]) rfl rfl rfl ?_
  refine g_n 3 (j' := 3) (lv' := [some (.int 2), some (.int 5)]) (st' := [.retAddr 60, .int 5, .int 2]) (h' := h) rfl ?_
  refine g_call (y := 27) (as := [.int 2, .int 5, .retAddr 60]) (st' := []) rfl rfl (c7_2_5) ?_
  refine g_n 1 (j' := 5) (lv' := [some (.int 2), some (.int 5)]) (st' := []) (h' := h) rfl ?_
  exact g_vret rfl
theorem lc_3_2 {h : PmH} : Ev pmT 25 [.retAddr 19, .int 2] h (some (.int 101)) h := by
  refine Ev.of (es := cd_25) (ml := 2) (lv := [some (.retAddr 19), some (.int 2)]) rfl rfl rfl ?_
  refine g_n 3 (j' := 3) (lv' := [some (.retAddr 19), some (.int 2)]) (st' := [.int 5, .int 2]) (h' := h) rfl ?_
  refine g_callv (y := 26) (as := [.int 2, .int 5]) (st' := []) rfl rfl (c6_2_5) ?_
  refine g_n 6 (j' := 10) (lv' := [some (.retAddr 19), some (.int 2)]) (st' := [.int 101]) (h' := h) rfl ?_
  exact g_retc rfl rfl
theorem ch_3_2 {h : PmH} : Ev pmT 23 [.retAddr 3, .int 2] h (some (.int 101)) h := by
  refine Ev.of (es := cd_23) (ml := 2) (lv := [some (.retAddr 3), some (.int 2)]) rfl rfl rfl ?_
  refine g_n 1 (j' := 1) (lv' := [some (.retAddr 3), some (.int 2)]) (st' := [.retAddr 3]) (h' := h) rfl ?_
  refine g_call (y := 24) (as := [.retAddr 3]) (st' := []) rfl rfl (tla_3) ?_
  refine g_iff rfl (show ¬ ((1 : Int32) = (0 : Int32)) from by decide) ?_
  refine g_n 3 (j' := 6) (lv' := [some (.retAddr 3), some (.int 2)]) (st' := [.int 2, .retAddr 19]) (h' := h) rfl ?_
  refine g_call (y := 25) (as := [.retAddr 19, .int 2]) (st' := []) rfl rfl (lc_3_2) ?_
  exact g_retc rfl rfl
theorem c7_3_5 {h : PmH} : Ev pmT 27 [.int 3, .int 5, .retAddr 60] h (some (.int 3)) h := by
  refine Ev.of (es := cd_27) (ml := 3) (lv := [some (.int 3), some (.int 5), some (.retAddr 60)]) rfl rfl rfl ?_
  refine g_n 1 (j' := 1) (lv' := [some (.int 3), some (.int 5), some (.retAddr 60)]) (st' := [.int 3]) (h' := h) rfl ?_
  refine g_iff rfl (show ¬ ((3 : Int32) < (0 : Int32)) from by decide) ?_
  refine g_n 2 (j' := 4) (lv' := [some (.int 3), some (.int 5), some (.retAddr 60)]) (st' := [.int 5, .int 3]) (h' := h) rfl ?_
  refine g_ict rfl (show (3 : Int32) < (5 : Int32) from by decide) ?_
  refine g_n 1 (j' := 11) (lv' := [some (.int 3), some (.int 5), some (.retAddr 60)]) (st' := [.int 3]) (h' := h) rfl ?_
  exact g_ret rfl
theorem c6_3_5 {h : PmH} : Ev pmT 26 [.int 3, .int 5] h (none) h := by
  refine Ev.of (es := cd_26) (ml := 2) (lv := [some (.int 3), some (.int 5)]) rfl rfl rfl ?_
  refine g_n 3 (j' := 3) (lv' := [some (.int 3), some (.int 5)]) (st' := [.retAddr 60, .int 5, .int 3]) (h' := h) rfl ?_
  refine g_call (y := 27) (as := [.int 3, .int 5, .retAddr 60]) (st' := []) rfl rfl (c7_3_5) ?_
  refine g_n 1 (j' := 5) (lv' := [some (.int 3), some (.int 5)]) (st' := []) (h' := h) rfl ?_
  exact g_vret rfl
theorem lc_3_3 {h : PmH} : Ev pmT 25 [.retAddr 19, .int 3] h (some (.int 99)) h := by
  refine Ev.of (es := cd_25) (ml := 2) (lv := [some (.retAddr 19), some (.int 3)]) rfl rfl rfl ?_
  refine g_n 3 (j' := 3) (lv' := [some (.retAddr 19), some (.int 3)]) (st' := [.int 5, .int 3]) (h' := h) rfl ?_
  refine g_callv (y := 26) (as := [.int 3, .int 5]) (st' := []) rfl rfl (c6_3_5) ?_
  refine g_n 6 (j' := 10) (lv' := [some (.retAddr 19), some (.int 3)]) (st' := [.int 99]) (h' := h) rfl ?_
  exact g_retc rfl rfl
theorem ch_3_3 {h : PmH} : Ev pmT 23 [.retAddr 3, .int 3] h (some (.int 99)) h := by
  refine Ev.of (es := cd_23) (ml := 2) (lv := [some (.retAddr 3), some (.int 3)]) rfl rfl rfl ?_
  refine g_n 1 (j' := 1) (lv' := [some (.retAddr 3), some (.int 3)]) (st' := [.retAddr 3]) (h' := h) rfl ?_
  refine g_call (y := 24) (as := [.retAddr 3]) (st' := []) rfl rfl (tla_3) ?_
  refine g_iff rfl (show ¬ ((1 : Int32) = (0 : Int32)) from by decide) ?_
  refine g_n 3 (j' := 6) (lv' := [some (.retAddr 3), some (.int 3)]) (st' := [.int 3, .retAddr 19]) (h' := h) rfl ?_
  refine g_call (y := 25) (as := [.retAddr 19, .int 3]) (st' := []) rfl rfl (lc_3_3) ?_
  exact g_retc rfl rfl
theorem c7_4_5 {h : PmH} : Ev pmT 27 [.int 4, .int 5, .retAddr 60] h (some (.int 4)) h := by
  refine Ev.of (es := cd_27) (ml := 3) (lv := [some (.int 4), some (.int 5), some (.retAddr 60)]) rfl rfl rfl ?_
  refine g_n 1 (j' := 1) (lv' := [some (.int 4), some (.int 5), some (.retAddr 60)]) (st' := [.int 4]) (h' := h) rfl ?_
  refine g_iff rfl (show ¬ ((4 : Int32) < (0 : Int32)) from by decide) ?_
  refine g_n 2 (j' := 4) (lv' := [some (.int 4), some (.int 5), some (.retAddr 60)]) (st' := [.int 5, .int 4]) (h' := h) rfl ?_
  refine g_ict rfl (show (4 : Int32) < (5 : Int32) from by decide) ?_
  refine g_n 1 (j' := 11) (lv' := [some (.int 4), some (.int 5), some (.retAddr 60)]) (st' := [.int 4]) (h' := h) rfl ?_
  exact g_ret rfl
theorem c6_4_5 {h : PmH} : Ev pmT 26 [.int 4, .int 5] h (none) h := by
  refine Ev.of (es := cd_26) (ml := 2) (lv := [some (.int 4), some (.int 5)]) rfl rfl rfl ?_
  refine g_n 3 (j' := 3) (lv' := [some (.int 4), some (.int 5)]) (st' := [.retAddr 60, .int 5, .int 4]) (h' := h) rfl ?_
  refine g_call (y := 27) (as := [.int 4, .int 5, .retAddr 60]) (st' := []) rfl rfl (c7_4_5) ?_
  refine g_n 1 (j' := 5) (lv' := [some (.int 4), some (.int 5)]) (st' := []) (h' := h) rfl ?_
  exact g_vret rfl
theorem lc_3_4 {h : PmH} : Ev pmT 25 [.retAddr 19, .int 4] h (some (.int 107)) h := by
  refine Ev.of (es := cd_25) (ml := 2) (lv := [some (.retAddr 19), some (.int 4)]) rfl rfl rfl ?_
  refine g_n 3 (j' := 3) (lv' := [some (.retAddr 19), some (.int 4)]) (st' := [.int 5, .int 4]) (h' := h) rfl ?_
  refine g_callv (y := 26) (as := [.int 4, .int 5]) (st' := []) rfl rfl (c6_4_5) ?_
  refine g_n 6 (j' := 10) (lv' := [some (.retAddr 19), some (.int 4)]) (st' := [.int 107]) (h' := h) rfl ?_
  exact g_retc rfl rfl
theorem ch_3_4 {h : PmH} : Ev pmT 23 [.retAddr 3, .int 4] h (some (.int 107)) h := by
  refine Ev.of (es := cd_23) (ml := 2) (lv := [some (.retAddr 3), some (.int 4)]) rfl rfl rfl ?_
  refine g_n 1 (j' := 1) (lv' := [some (.retAddr 3), some (.int 4)]) (st' := [.retAddr 3]) (h' := h) rfl ?_
  refine g_call (y := 24) (as := [.retAddr 3]) (st' := []) rfl rfl (tla_3) ?_
  refine g_iff rfl (show ¬ ((1 : Int32) = (0 : Int32)) from by decide) ?_
  refine g_n 3 (j' := 6) (lv' := [some (.retAddr 3), some (.int 4)]) (st' := [.int 4, .retAddr 19]) (h' := h) rfl ?_
  refine g_call (y := 25) (as := [.retAddr 19, .int 4]) (st' := []) rfl rfl (lc_3_4) ?_
  exact g_retc rfl rfl
theorem cdr_4 {h : PmH} : Ev pmT 22 [.retAddr 4] h (some (.int 0)) h := by
  refine Ev.of (es := cd_22) (ml := 1) (lv := [some (.retAddr 4)]) rfl rfl rfl ?_
  refine g_n 1 (j' := 1) (lv' := [some (.retAddr 4)]) (st' := [.int 1]) (h' := h) rfl ?_
  refine g_iff rfl (show ¬ ((1 : Int32) = (0 : Int32)) from by decide) ?_
  refine g_n 3 (j' := 6) (lv' := [some (.retAddr 4)]) (st' := [.int 0]) (h' := h) rfl ?_
  exact g_retb rfl rfl
theorem tln_4 {h : PmH} : Ev pmT 21 [.retAddr 4] h (some (.int 5)) h := by
  refine Ev.of (es := cd_21) (ml := 1) (lv := [some (.retAddr 4)]) rfl rfl rfl ?_
  refine g_n 4 (j' := 4) (lv' := [some (.retAddr 4)]) (st' := [.retAddr 4, .int 5]) (h' := h) rfl ?_
  refine g_call (y := 22) (as := [.retAddr 4]) (st' := [.int 5]) rfl rfl (cdr_4) ?_
  refine g_n 1 (j' := 6) (lv' := [some (.retAddr 4)]) (st' := [.int 5]) (h' := h) rfl ?_
  exact g_ret rfl
theorem tla_4 {h : PmH} : Ev pmT 24 [.retAddr 4] h (some (.int 1)) h := by
  refine Ev.of (es := cd_24) (ml := 1) (lv := [some (.retAddr 4)]) rfl rfl rfl ?_
  refine g_n 1 (j' := 1) (lv' := [some (.retAddr 4)]) (st' := [.int 1]) (h' := h) rfl ?_
  refine g_iff rfl (show ¬ ((1 : Int32) = (0 : Int32)) from by decide) ?_
  refine g_n 2 (j' := 4) (lv' := [some (.retAddr 4)]) (st' := [.int 0]) (h' := h) rfl ?_
  refine g_iff rfl (show ¬ (¬ (0 : Int32) = (0 : Int32)) from fun z => z rfl) ?_
  refine g_n 2 (j' := 8) (lv' := [some (.retAddr 4)]) (st' := [.int 1]) (h' := h) rfl ?_
  exact g_retz rfl (by decide)
theorem lc_4_0 {h : PmH} : Ev pmT 25 [.retAddr 20, .int 0] h (some (.int 101)) h := by
  refine Ev.of (es := cd_25) (ml := 2) (lv := [some (.retAddr 20), some (.int 0)]) rfl rfl rfl ?_
  refine g_n 3 (j' := 3) (lv' := [some (.retAddr 20), some (.int 0)]) (st' := [.int 5, .int 0]) (h' := h) rfl ?_
  refine g_callv (y := 26) (as := [.int 0, .int 5]) (st' := []) rfl rfl (c6_0_5) ?_
  refine g_n 6 (j' := 10) (lv' := [some (.retAddr 20), some (.int 0)]) (st' := [.int 101]) (h' := h) rfl ?_
  exact g_retc rfl rfl
theorem ch_4_0 {h : PmH} : Ev pmT 23 [.retAddr 4, .int 0] h (some (.int 101)) h := by
  refine Ev.of (es := cd_23) (ml := 2) (lv := [some (.retAddr 4), some (.int 0)]) rfl rfl rfl ?_
  refine g_n 1 (j' := 1) (lv' := [some (.retAddr 4), some (.int 0)]) (st' := [.retAddr 4]) (h' := h) rfl ?_
  refine g_call (y := 24) (as := [.retAddr 4]) (st' := []) rfl rfl (tla_4) ?_
  refine g_iff rfl (show ¬ ((1 : Int32) = (0 : Int32)) from by decide) ?_
  refine g_n 3 (j' := 6) (lv' := [some (.retAddr 4), some (.int 0)]) (st' := [.int 0, .retAddr 20]) (h' := h) rfl ?_
  refine g_call (y := 25) (as := [.retAddr 20, .int 0]) (st' := []) rfl rfl (lc_4_0) ?_
  exact g_retc rfl rfl
theorem lc_4_1 {h : PmH} : Ev pmT 25 [.retAddr 20, .int 1] h (some (.int 114)) h := by
  refine Ev.of (es := cd_25) (ml := 2) (lv := [some (.retAddr 20), some (.int 1)]) rfl rfl rfl ?_
  refine g_n 3 (j' := 3) (lv' := [some (.retAddr 20), some (.int 1)]) (st' := [.int 5, .int 1]) (h' := h) rfl ?_
  refine g_callv (y := 26) (as := [.int 1, .int 5]) (st' := []) rfl rfl (c6_1_5) ?_
  refine g_n 6 (j' := 10) (lv' := [some (.retAddr 20), some (.int 1)]) (st' := [.int 114]) (h' := h) rfl ?_
  exact g_retc rfl rfl
theorem ch_4_1 {h : PmH} : Ev pmT 23 [.retAddr 4, .int 1] h (some (.int 114)) h := by
  refine Ev.of (es := cd_23) (ml := 2) (lv := [some (.retAddr 4), some (.int 1)]) rfl rfl rfl ?_
  refine g_n 1 (j' := 1) (lv' := [some (.retAddr 4), some (.int 1)]) (st' := [.retAddr 4]) (h' := h) rfl ?_
  refine g_call (y := 24) (as := [.retAddr 4]) (st' := []) rfl rfl (tla_4) ?_
  refine g_iff rfl (show ¬ ((1 : Int32) = (0 : Int32)) from by decide) ?_
  refine g_n 3 (j' := 6) (lv' := [some (.retAddr 4), some (.int 1)]) (st' := [.int 1, .retAddr 20]) (h' := h) rfl ?_
  refine g_call (y := 25) (as := [.retAddr 20, .int 1]) (st' := []) rfl rfl (lc_4_1) ?_
  exact g_retc rfl rfl
theorem lc_4_2 {h : PmH} : Ev pmT 25 [.retAddr 20, .int 2] h (some (.int 97)) h := by
  refine Ev.of (es := cd_25) (ml := 2) (lv := [some (.retAddr 20), some (.int 2)]) rfl rfl rfl ?_
  refine g_n 3 (j' := 3) (lv' := [some (.retAddr 20), some (.int 2)]) (st' := [.int 5, .int 2]) (h' := h) rfl ?_
  refine g_callv (y := 26) (as := [.int 2, .int 5]) (st' := []) rfl rfl (c6_2_5) ?_
  refine g_n 6 (j' := 10) (lv' := [some (.retAddr 20), some (.int 2)]) (st' := [.int 97]) (h' := h) rfl ?_
  exact g_retc rfl rfl
theorem ch_4_2 {h : PmH} : Ev pmT 23 [.retAddr 4, .int 2] h (some (.int 97)) h := by
  refine Ev.of (es := cd_23) (ml := 2) (lv := [some (.retAddr 4), some (.int 2)]) rfl rfl rfl ?_
  refine g_n 1 (j' := 1) (lv' := [some (.retAddr 4), some (.int 2)]) (st' := [.retAddr 4]) (h' := h) rfl ?_
  refine g_call (y := 24) (as := [.retAddr 4]) (st' := []) rfl rfl (tla_4) ?_
  refine g_iff rfl (show ¬ ((1 : Int32) = (0 : Int32)) from by decide) ?_
  refine g_n 3 (j' := 6) (lv' := [some (.retAddr 4), some (.int 2)]) (st' := [.int 2, .retAddr 20]) (h' := h) rfl ?_
  refine g_call (y := 25) (as := [.retAddr 20, .int 2]) (st' := []) rfl rfl (lc_4_2) ?_
  exact g_retc rfl rfl
theorem lc_4_3 {h : PmH} : Ev pmT 25 [.retAddr 20, .int 3] h (some (.int 115)) h := by
  refine Ev.of (es := cd_25) (ml := 2) (lv := [some (.retAddr 20), some (.int 3)]) rfl rfl rfl ?_
  refine g_n 3 (j' := 3) (lv' := [some (.retAddr 20), some (.int 3)]) (st' := [.int 5, .int 3]) (h' := h) rfl ?_
  refine g_callv (y := 26) (as := [.int 3, .int 5]) (st' := []) rfl rfl (c6_3_5) ?_
  refine g_n 6 (j' := 10) (lv' := [some (.retAddr 20), some (.int 3)]) (st' := [.int 115]) (h' := h) rfl ?_
  exact g_retc rfl rfl
theorem ch_4_3 {h : PmH} : Ev pmT 23 [.retAddr 4, .int 3] h (some (.int 115)) h := by
  refine Ev.of (es := cd_23) (ml := 2) (lv := [some (.retAddr 4), some (.int 3)]) rfl rfl rfl ?_
  refine g_n 1 (j' := 1) (lv' := [some (.retAddr 4), some (.int 3)]) (st' := [.retAddr 4]) (h' := h) rfl ?_
  refine g_call (y := 24) (as := [.retAddr 4]) (st' := []) rfl rfl (tla_4) ?_
  refine g_iff rfl (show ¬ ((1 : Int32) = (0 : Int32)) from by decide) ?_
  refine g_n 3 (j' := 6) (lv' := [some (.retAddr 4), some (.int 3)]) (st' := [.int 3, .retAddr 20]) (h' := h) rfl ?_
  refine g_call (y := 25) (as := [.retAddr 20, .int 3]) (st' := []) rfl rfl (lc_4_3) ?_
  exact g_retc rfl rfl
theorem lc_4_4 {h : PmH} : Ev pmT 25 [.retAddr 20, .int 4] h (some (.int 101)) h := by
  refine Ev.of (es := cd_25) (ml := 2) (lv := [some (.retAddr 20), some (.int 4)]) rfl rfl rfl ?_
  refine g_n 3 (j' := 3) (lv' := [some (.retAddr 20), some (.int 4)]) (st' := [.int 5, .int 4]) (h' := h) rfl ?_
  refine g_callv (y := 26) (as := [.int 4, .int 5]) (st' := []) rfl rfl (c6_4_5) ?_
  refine g_n 6 (j' := 10) (lv' := [some (.retAddr 20), some (.int 4)]) (st' := [.int 101]) (h' := h) rfl ?_
  exact g_retc rfl rfl
theorem ch_4_4 {h : PmH} : Ev pmT 23 [.retAddr 4, .int 4] h (some (.int 101)) h := by
  refine Ev.of (es := cd_23) (ml := 2) (lv := [some (.retAddr 4), some (.int 4)]) rfl rfl rfl ?_
  refine g_n 1 (j' := 1) (lv' := [some (.retAddr 4), some (.int 4)]) (st' := [.retAddr 4]) (h' := h) rfl ?_
  refine g_call (y := 24) (as := [.retAddr 4]) (st' := []) rfl rfl (tla_4) ?_
  refine g_iff rfl (show ¬ ((1 : Int32) = (0 : Int32)) from by decide) ?_
  refine g_n 3 (j' := 6) (lv' := [some (.retAddr 4), some (.int 4)]) (st' := [.int 4, .retAddr 20]) (h' := h) rfl ?_
  refine g_call (y := 25) (as := [.retAddr 20, .int 4]) (st' := []) rfl rfl (lc_4_4) ?_
  exact g_retc rfl rfl
theorem cdr_5 {h : PmH} : Ev pmT 22 [.retAddr 5] h (some (.int 0)) h := by
  refine Ev.of (es := cd_22) (ml := 1) (lv := [some (.retAddr 5)]) rfl rfl rfl ?_
  refine g_n 1 (j' := 1) (lv' := [some (.retAddr 5)]) (st' := [.int 1]) (h' := h) rfl ?_
  refine g_iff rfl (show ¬ ((1 : Int32) = (0 : Int32)) from by decide) ?_
  refine g_n 3 (j' := 6) (lv' := [some (.retAddr 5)]) (st' := [.int 0]) (h' := h) rfl ?_
  exact g_retb rfl rfl
theorem tln_5 {h : PmH} : Ev pmT 21 [.retAddr 5] h (some (.int 4)) h := by
  refine Ev.of (es := cd_21) (ml := 1) (lv := [some (.retAddr 5)]) rfl rfl rfl ?_
  refine g_n 4 (j' := 4) (lv' := [some (.retAddr 5)]) (st' := [.retAddr 5, .int 4]) (h' := h) rfl ?_
  refine g_call (y := 22) (as := [.retAddr 5]) (st' := [.int 4]) rfl rfl (cdr_5) ?_
  refine g_n 1 (j' := 6) (lv' := [some (.retAddr 5)]) (st' := [.int 4]) (h' := h) rfl ?_
  exact g_ret rfl
theorem tla_5 {h : PmH} : Ev pmT 24 [.retAddr 5] h (some (.int 1)) h := by
  refine Ev.of (es := cd_24) (ml := 1) (lv := [some (.retAddr 5)]) rfl rfl rfl ?_
  refine g_n 1 (j' := 1) (lv' := [some (.retAddr 5)]) (st' := [.int 1]) (h' := h) rfl ?_
  refine g_iff rfl (show ¬ ((1 : Int32) = (0 : Int32)) from by decide) ?_
  refine g_n 2 (j' := 4) (lv' := [some (.retAddr 5)]) (st' := [.int 0]) (h' := h) rfl ?_
  refine g_iff rfl (show ¬ (¬ (0 : Int32) = (0 : Int32)) from fun z => z rfl) ?_
  refine g_n 2 (j' := 8) (lv' := [some (.retAddr 5)]) (st' := [.int 1]) (h' := h) rfl ?_
  exact g_retz rfl (by decide)
theorem lc_5_0 {h : PmH} : Ev pmT 25 [.retAddr 21, .int 0] h (some (.int 108)) h := by
  refine Ev.of (es := cd_25) (ml := 2) (lv := [some (.retAddr 21), some (.int 0)]) rfl rfl rfl ?_
  refine g_n 3 (j' := 3) (lv' := [some (.retAddr 21), some (.int 0)]) (st' := [.int 4, .int 0]) (h' := h) rfl ?_
  refine g_callv (y := 26) (as := [.int 0, .int 4]) (st' := []) rfl rfl (c6_0_4) ?_
  refine g_n 6 (j' := 10) (lv' := [some (.retAddr 21), some (.int 0)]) (st' := [.int 108]) (h' := h) rfl ?_
  exact g_retc rfl rfl
theorem ch_5_0 {h : PmH} : Ev pmT 23 [.retAddr 5, .int 0] h (some (.int 108)) h := by
  refine Ev.of (es := cd_23) (ml := 2) (lv := [some (.retAddr 5), some (.int 0)]) rfl rfl rfl ?_
  refine g_n 1 (j' := 1) (lv' := [some (.retAddr 5), some (.int 0)]) (st' := [.retAddr 5]) (h' := h) rfl ?_
  refine g_call (y := 24) (as := [.retAddr 5]) (st' := []) rfl rfl (tla_5) ?_
  refine g_iff rfl (show ¬ ((1 : Int32) = (0 : Int32)) from by decide) ?_
  refine g_n 3 (j' := 6) (lv' := [some (.retAddr 5), some (.int 0)]) (st' := [.int 0, .retAddr 21]) (h' := h) rfl ?_
  refine g_call (y := 25) (as := [.retAddr 21, .int 0]) (st' := []) rfl rfl (lc_5_0) ?_
  exact g_retc rfl rfl
theorem lc_5_1 {h : PmH} : Ev pmT 25 [.retAddr 21, .int 1] h (some (.int 105)) h := by
  refine Ev.of (es := cd_25) (ml := 2) (lv := [some (.retAddr 21), some (.int 1)]) rfl rfl rfl ?_
  refine g_n 3 (j' := 3) (lv' := [some (.retAddr 21), some (.int 1)]) (st' := [.int 4, .int 1]) (h' := h) rfl ?_
  refine g_callv (y := 26) (as := [.int 1, .int 4]) (st' := []) rfl rfl (c6_1_4) ?_
  refine g_n 6 (j' := 10) (lv' := [some (.retAddr 21), some (.int 1)]) (st' := [.int 105]) (h' := h) rfl ?_
  exact g_retc rfl rfl
theorem ch_5_1 {h : PmH} : Ev pmT 23 [.retAddr 5, .int 1] h (some (.int 105)) h := by
  refine Ev.of (es := cd_23) (ml := 2) (lv := [some (.retAddr 5), some (.int 1)]) rfl rfl rfl ?_
  refine g_n 1 (j' := 1) (lv' := [some (.retAddr 5), some (.int 1)]) (st' := [.retAddr 5]) (h' := h) rfl ?_
  refine g_call (y := 24) (as := [.retAddr 5]) (st' := []) rfl rfl (tla_5) ?_
  refine g_iff rfl (show ¬ ((1 : Int32) = (0 : Int32)) from by decide) ?_
  refine g_n 3 (j' := 6) (lv' := [some (.retAddr 5), some (.int 1)]) (st' := [.int 1, .retAddr 21]) (h' := h) rfl ?_
  refine g_call (y := 25) (as := [.retAddr 21, .int 1]) (st' := []) rfl rfl (lc_5_1) ?_
  exact g_retc rfl rfl
theorem lc_5_2 {h : PmH} : Ev pmT 25 [.retAddr 21, .int 2] h (some (.int 115)) h := by
  refine Ev.of (es := cd_25) (ml := 2) (lv := [some (.retAddr 21), some (.int 2)]) rfl rfl rfl ?_
  refine g_n 3 (j' := 3) (lv' := [some (.retAddr 21), some (.int 2)]) (st' := [.int 4, .int 2]) (h' := h) rfl ?_
  refine g_callv (y := 26) (as := [.int 2, .int 4]) (st' := []) rfl rfl (c6_2_4) ?_
  refine g_n 6 (j' := 10) (lv' := [some (.retAddr 21), some (.int 2)]) (st' := [.int 115]) (h' := h) rfl ?_
  exact g_retc rfl rfl
theorem ch_5_2 {h : PmH} : Ev pmT 23 [.retAddr 5, .int 2] h (some (.int 115)) h := by
  refine Ev.of (es := cd_23) (ml := 2) (lv := [some (.retAddr 5), some (.int 2)]) rfl rfl rfl ?_
  refine g_n 1 (j' := 1) (lv' := [some (.retAddr 5), some (.int 2)]) (st' := [.retAddr 5]) (h' := h) rfl ?_
  refine g_call (y := 24) (as := [.retAddr 5]) (st' := []) rfl rfl (tla_5) ?_
  refine g_iff rfl (show ¬ ((1 : Int32) = (0 : Int32)) from by decide) ?_
  refine g_n 3 (j' := 6) (lv' := [some (.retAddr 5), some (.int 2)]) (st' := [.int 2, .retAddr 21]) (h' := h) rfl ?_
  refine g_call (y := 25) (as := [.retAddr 21, .int 2]) (st' := []) rfl rfl (lc_5_2) ?_
  exact g_retc rfl rfl
theorem lc_5_3 {h : PmH} : Ev pmT 25 [.retAddr 21, .int 3] h (some (.int 116)) h := by
  refine Ev.of (es := cd_25) (ml := 2) (lv := [some (.retAddr 21), some (.int 3)]) rfl rfl rfl ?_
  refine g_n 3 (j' := 3) (lv' := [some (.retAddr 21), some (.int 3)]) (st' := [.int 4, .int 3]) (h' := h) rfl ?_
  refine g_callv (y := 26) (as := [.int 3, .int 4]) (st' := []) rfl rfl (c6_3_4) ?_
  refine g_n 6 (j' := 10) (lv' := [some (.retAddr 21), some (.int 3)]) (st' := [.int 116]) (h' := h) rfl ?_
  exact g_retc rfl rfl
theorem ch_5_3 {h : PmH} : Ev pmT 23 [.retAddr 5, .int 3] h (some (.int 116)) h := by
  refine Ev.of (es := cd_23) (ml := 2) (lv := [some (.retAddr 5), some (.int 3)]) rfl rfl rfl ?_
  refine g_n 1 (j' := 1) (lv' := [some (.retAddr 5), some (.int 3)]) (st' := [.retAddr 5]) (h' := h) rfl ?_
  refine g_call (y := 24) (as := [.retAddr 5]) (st' := []) rfl rfl (tla_5) ?_
  refine g_iff rfl (show ¬ ((1 : Int32) = (0 : Int32)) from by decide) ?_
  refine g_n 3 (j' := 6) (lv' := [some (.retAddr 5), some (.int 3)]) (st' := [.int 3, .retAddr 21]) (h' := h) rfl ?_
  refine g_call (y := 25) (as := [.retAddr 21, .int 3]) (st' := []) rfl rfl (lc_5_3) ?_
  exact g_retc rfl rfl
def wd (k : Nat) : List Int32 := pm_JB.getD k []
theorem ln_ev {h : PmH} : ∀ k, k < 6 → Ev pmT 21 [.retAddr k] h (some (.int (nI (wd k).length))) h
  | 0, _ => tln_0
  | 1, _ => tln_1
  | 2, _ => tln_2
  | 3, _ => tln_3
  | 4, _ => tln_4
  | 5, _ => tln_5
theorem ch_ev {h : PmH} : ∀ k i, k < 6 → i < (wd k).length → Ev pmT 23 [.retAddr k, .int (nI i)] h (some (.int ((wd k).getD i 0))) h
  | 0, 0, _, _ => ch_0_0
  | 0, 1, _, _ => ch_0_1
  | 0, 2, _, _ => ch_0_2
  | 0, 3, _, _ => ch_0_3
  | 0, _ + 4, _, hi => absurd hi (by show ¬ (_ + 4 < 4); omega)
  | 1, 0, _, _ => ch_1_0
  | 1, 1, _, _ => ch_1_1
  | 1, 2, _, _ => ch_1_2
  | 1, 3, _, _ => ch_1_3
  | 1, _ + 4, _, hi => absurd hi (by show ¬ (_ + 4 < 4); omega)
  | 2, 0, _, _ => ch_2_0
  | 2, 1, _, _ => ch_2_1
  | 2, 2, _, _ => ch_2_2
  | 2, 3, _, _ => ch_2_3
  | 2, _ + 4, _, hi => absurd hi (by show ¬ (_ + 4 < 4); omega)
  | 3, 0, _, _ => ch_3_0
  | 3, 1, _, _ => ch_3_1
  | 3, 2, _, _ => ch_3_2
  | 3, 3, _, _ => ch_3_3
  | 3, 4, _, _ => ch_3_4
  | 3, _ + 5, _, hi => absurd hi (by show ¬ (_ + 5 < 5); omega)
  | 4, 0, _, _ => ch_4_0
  | 4, 1, _, _ => ch_4_1
  | 4, 2, _, _ => ch_4_2
  | 4, 3, _, _ => ch_4_3
  | 4, 4, _, _ => ch_4_4
  | 4, _ + 5, _, hi => absurd hi (by show ¬ (_ + 5 < 5); omega)
  | 5, 0, _, _ => ch_5_0
  | 5, 1, _, _ => ch_5_1
  | 5, 2, _, _ => ch_5_2
  | 5, 3, _, _ => ch_5_3
  | 5, _ + 4, _, hi => absurd hi (by show ¬ (_ + 4 < 4); omega)
def isn (F : Nat → Int32) (b : Nat) (w : List Int32) : Nat → Nat → Bool
  | 0, _ => true
  | n + 1, i => if F (b + i) = w.getD i 0 then isn F b w n (i + 1) else false
/-- the bytes from b to e are a word -/
def isW (F : Nat → Int32) (b e : Nat) (w : List Int32) : Bool := decide (e - b = w.length) && isn F b w w.length 0
def b01 (x : Bool) : Int32 := if x = true then 1 else 0

theorem iw_go_0 {F : Nat → Int32} {t e b : Nat} {h : PmH} (ht : t ≤ 200) (hP : pc_P F t e h) (hb : b + (wd 0).length ≤ t) : ∀ (n i : Nat), i + n = (wd 0).length → Go pmT none cd_20 11 [some (.ref 8), some (.int (nI b)), some (.retAddr 0), some (.int (nI i))] [] h (some (.int (b01 (isn F b (wd 0) n i))), h) := by
  obtain ⟨S, fi, fl, fr⟩ := h
  have hS : S = shT := hP.1.1
  subst hS
  have r_8_2 : fr 8 2 = some 7 := hP.2.1
  have e3 : fi 8 3 = nI t := hP.2.2.1
  have e4 : fi 8 4 = nI e := hP.2.2.2.1
  have eF : ∀ s, fi 7 s = F s := hP.2.2.2.2
  have l1 := ln_ev (h := (shT, fi, fl, fr)) 0 (by decide)
  have hL : (wd 0).length ≤ 5 := by decide
  intro n
  induction n with
  | zero =>
    intro i hi
    have hi : i = (wd 0).length := by omega
    refine g_n 2 (j' := 13) (lv' := [some (.ref 8), some (.int (nI b)), some (.retAddr 0), some (.int (nI i))]) (st' := [.retAddr 0, .int (nI i)]) (h' := (shT, fi, fl, fr)) rfl ?_
    refine g_call (y := 21) (as := [.retAddr 0]) (st' := [.int (nI i)]) rfl rfl (l1) ?_
    refine g_ict rfl (show (nI (wd 0).length) ≤ (nI i) from nI_le (by omega) (by omega)) ?_
    refine g_n 1 (j' := 30) (lv' := [some (.ref 8), some (.int (nI b)), some (.retAddr 0), some (.int (nI i))]) (st' := [.int 1]) (h' := (shT, fi, fl, fr)) rfl ?_
    exact g_retz rfl (by decide)
  | succ n ih =>
    intro i hi
    have c1 := ch_ev (h := (shT, fi, fl, fr)) 0 i (by decide) (by omega)
    have g := ih (i + 1) (by omega)
    rw [isn]
    by_cases hc : F (b + i) = (wd 0).getD i 0
    · rw [if_pos hc]
      refine g_n 2 (j' := 13) (lv' := [some (.ref 8), some (.int (nI b)), some (.retAddr 0), some (.int (nI i))]) (st' := [.retAddr 0, .int (nI i)]) (h' := (shT, fi, fl, fr)) rfl ?_
      refine g_call (y := 21) (as := [.retAddr 0]) (st' := [.int (nI i)]) rfl rfl (l1) ?_
      refine g_icf rfl (show ¬ ((nI (wd 0).length) ≤ (nI i)) from nI_ge (by omega) (by omega)) ?_
      refine g_n 1 (j' := 16) (lv' := [some (.ref 8), some (.int (nI b)), some (.retAddr 0), some (.int (nI i))]) (st' := [.ref 8]) (h' := (shT, fi, fl, fr)) rfl ?_
      refine g_getR (q' := 7) rfl rfl (by decide) r_8_2 ?_
      refine g_n 3 (j' := 20) (lv' := [some (.ref 8), some (.int (nI b)), some (.retAddr 0), some (.int (nI i))]) (st' := [.int ((nI b) + (nI i)), .ref 7]) (h' := (shT, fi, fl, fr)) rfl ?_
      refine g_bald (k := b + i) (x := F (b + i)) rfl rfl (by decide) (nI_add b i) (by omega) (by decide) (eF _) ?_
      refine g_n 2 (j' := 23) (lv' := [some (.ref 8), some (.int (nI b)), some (.retAddr 0), some (.int (nI i))]) (st' := [.int (nI i), .retAddr 0, .int (F (b + i))]) (h' := (shT, fi, fl, fr)) rfl ?_
      refine g_call (y := 23) (as := [.retAddr 0, .int (nI i)]) (st' := [.int (F (b + i))]) rfl rfl (c1) ?_
      refine g_ict rfl (show (F (b + i)) = ((wd 0).getD i 0) from hc) ?_
      refine g_n 2 (j' := 11) (lv' := [some (.ref 8), some (.int (nI b)), some (.retAddr 0), some (.int ((nI i) + 1))]) (st' := []) (h' := (shT, fi, fl, fr)) rfl ?_
      rw [nI_1]
      exact g
    · rw [if_neg hc]
      refine g_n 2 (j' := 13) (lv' := [some (.ref 8), some (.int (nI b)), some (.retAddr 0), some (.int (nI i))]) (st' := [.retAddr 0, .int (nI i)]) (h' := (shT, fi, fl, fr)) rfl ?_
      refine g_call (y := 21) (as := [.retAddr 0]) (st' := [.int (nI i)]) rfl rfl (l1) ?_
      refine g_icf rfl (show ¬ ((nI (wd 0).length) ≤ (nI i)) from nI_ge (by omega) (by omega)) ?_
      refine g_n 1 (j' := 16) (lv' := [some (.ref 8), some (.int (nI b)), some (.retAddr 0), some (.int (nI i))]) (st' := [.ref 8]) (h' := (shT, fi, fl, fr)) rfl ?_
      refine g_getR (q' := 7) rfl rfl (by decide) r_8_2 ?_
      refine g_n 3 (j' := 20) (lv' := [some (.ref 8), some (.int (nI b)), some (.retAddr 0), some (.int (nI i))]) (st' := [.int ((nI b) + (nI i)), .ref 7]) (h' := (shT, fi, fl, fr)) rfl ?_
      refine g_bald (k := b + i) (x := F (b + i)) rfl rfl (by decide) (nI_add b i) (by omega) (by decide) (eF _) ?_
      refine g_n 2 (j' := 23) (lv' := [some (.ref 8), some (.int (nI b)), some (.retAddr 0), some (.int (nI i))]) (st' := [.int (nI i), .retAddr 0, .int (F (b + i))]) (h' := (shT, fi, fl, fr)) rfl ?_
      refine g_call (y := 23) (as := [.retAddr 0, .int (nI i)]) (st' := [.int (F (b + i))]) rfl rfl (c1) ?_
      refine g_icf rfl (show ¬ ((F (b + i)) = ((wd 0).getD i 0)) from hc) ?_
      refine g_n 1 (j' := 26) (lv' := [some (.ref 8), some (.int (nI b)), some (.retAddr 0), some (.int (nI i))]) (st' := [.int 0]) (h' := (shT, fi, fl, fr)) rfl ?_
      exact g_retz rfl (by decide)
theorem iw_ev_0 {F : Nat → Int32} {t e b : Nat} {h : PmH} (ht : t ≤ 200) (hP : pc_P F t e h) (hb : b ≤ e) (he : e ≤ t) : Ev pmT 20 [.ref 8, .int (nI b), .retAddr 0] h (some (.int (b01 (isW F b e (wd 0))))) h := by
  have l1 := ln_ev (h := h) 0 (by decide)
  refine Ev.of (es := cd_20) (ml := 4) (lv := [some (.ref 8), some (.int (nI b)), some (.retAddr 0), none]) rfl rfl rfl ?_
  have es := pk_sub hb
  have hL : (wd 0).length ≤ 5 := by decide
  by_cases hc : e - b = (wd 0).length
  · have g := iw_go_0 ht hP (show b + (wd 0).length ≤ t by omega) (wd 0).length 0 (by omega)
    have e1 : isW F b e (wd 0) = isn F b (wd 0) (wd 0).length 0 := by
      unfold isW
      rw [decide_eq_true hc]
      rfl
    rw [e1]
    obtain ⟨S, fi, fl, fr⟩ := h
    have hS : S = shT := hP.1.1
    subst hS
    have r_8_2 : fr 8 2 = some 7 := hP.2.1
    have e3 : fi 8 3 = nI t := hP.2.2.1
    have e4 : fi 8 4 = nI e := hP.2.2.2.1
    have eF : ∀ s, fi 7 s = F s := hP.2.2.2.2
    refine g_n 1 (j' := 1) (lv' := [some (.ref 8), some (.int (nI b)), some (.retAddr 0), none]) (st' := [.ref 8]) (h' := (shT, fi, fl, fr)) rfl ?_
    refine g_getI (x := nI e) rfl (Or.inl rfl) rfl (by decide) (e4) ?_
    refine g_n 2 (j' := 4) (lv' := [some (.ref 8), some (.int (nI b)), some (.retAddr 0), none]) (st' := [.int ((nI e) - (nI b))]) (h' := (shT, fi, fl, fr)) rfl ?_
    rw [es]
    refine g_n 1 (j' := 5) (lv' := [some (.ref 8), some (.int (nI b)), some (.retAddr 0), none]) (st' := [.retAddr 0, .int (nI (e - b))]) (h' := (shT, fi, fl, fr)) rfl ?_
    refine g_call (y := 21) (as := [.retAddr 0]) (st' := [.int (nI (e - b))]) rfl rfl (l1) ?_
    refine g_ict rfl (show (nI (e - b)) = (nI (wd 0).length) from by rw [hc]) ?_
    refine g_n 2 (j' := 11) (lv' := [some (.ref 8), some (.int (nI b)), some (.retAddr 0), some (.int (nI 0))]) (st' := []) (h' := (shT, fi, fl, fr)) rfl ?_
    exact g
  · have e1 : isW F b e (wd 0) = false := by
      unfold isW
      rw [decide_eq_false hc]
      rfl
    rw [e1]
    obtain ⟨S, fi, fl, fr⟩ := h
    have hS : S = shT := hP.1.1
    subst hS
    have r_8_2 : fr 8 2 = some 7 := hP.2.1
    have e3 : fi 8 3 = nI t := hP.2.2.1
    have e4 : fi 8 4 = nI e := hP.2.2.2.1
    have eF : ∀ s, fi 7 s = F s := hP.2.2.2.2
    refine g_n 1 (j' := 1) (lv' := [some (.ref 8), some (.int (nI b)), some (.retAddr 0), none]) (st' := [.ref 8]) (h' := (shT, fi, fl, fr)) rfl ?_
    refine g_getI (x := nI e) rfl (Or.inl rfl) rfl (by decide) (e4) ?_
    refine g_n 2 (j' := 4) (lv' := [some (.ref 8), some (.int (nI b)), some (.retAddr 0), none]) (st' := [.int ((nI e) - (nI b))]) (h' := (shT, fi, fl, fr)) rfl ?_
    rw [es]
    refine g_n 1 (j' := 5) (lv' := [some (.ref 8), some (.int (nI b)), some (.retAddr 0), none]) (st' := [.retAddr 0, .int (nI (e - b))]) (h' := (shT, fi, fl, fr)) rfl ?_
    refine g_call (y := 21) (as := [.retAddr 0]) (st' := [.int (nI (e - b))]) rfl rfl (l1) ?_
    refine g_icf rfl (show ¬ ((nI (e - b)) = (nI (wd 0).length)) from fun z => hc ((nI_eq (by omega) (by omega)).mp z)) ?_
    refine g_n 1 (j' := 8) (lv' := [some (.ref 8), some (.int (nI b)), some (.retAddr 0), none]) (st' := [.int 0]) (h' := (shT, fi, fl, fr)) rfl ?_
    exact g_retz rfl (by decide)
theorem iw_go_1 {F : Nat → Int32} {t e b : Nat} {h : PmH} (ht : t ≤ 200) (hP : pc_P F t e h) (hb : b + (wd 1).length ≤ t) : ∀ (n i : Nat), i + n = (wd 1).length → Go pmT none cd_20 11 [some (.ref 8), some (.int (nI b)), some (.retAddr 1), some (.int (nI i))] [] h (some (.int (b01 (isn F b (wd 1) n i))), h) := by
  obtain ⟨S, fi, fl, fr⟩ := h
  have hS : S = shT := hP.1.1
  subst hS
  have r_8_2 : fr 8 2 = some 7 := hP.2.1
  have e3 : fi 8 3 = nI t := hP.2.2.1
  have e4 : fi 8 4 = nI e := hP.2.2.2.1
  have eF : ∀ s, fi 7 s = F s := hP.2.2.2.2
  have l1 := ln_ev (h := (shT, fi, fl, fr)) 1 (by decide)
  have hL : (wd 1).length ≤ 5 := by decide
  intro n
  induction n with
  | zero =>
    intro i hi
    have hi : i = (wd 1).length := by omega
    refine g_n 2 (j' := 13) (lv' := [some (.ref 8), some (.int (nI b)), some (.retAddr 1), some (.int (nI i))]) (st' := [.retAddr 1, .int (nI i)]) (h' := (shT, fi, fl, fr)) rfl ?_
    refine g_call (y := 21) (as := [.retAddr 1]) (st' := [.int (nI i)]) rfl rfl (l1) ?_
    refine g_ict rfl (show (nI (wd 1).length) ≤ (nI i) from nI_le (by omega) (by omega)) ?_
    refine g_n 1 (j' := 30) (lv' := [some (.ref 8), some (.int (nI b)), some (.retAddr 1), some (.int (nI i))]) (st' := [.int 1]) (h' := (shT, fi, fl, fr)) rfl ?_
    exact g_retz rfl (by decide)
  | succ n ih =>
    intro i hi
    have c1 := ch_ev (h := (shT, fi, fl, fr)) 1 i (by decide) (by omega)
    have g := ih (i + 1) (by omega)
    rw [isn]
    by_cases hc : F (b + i) = (wd 1).getD i 0
    · rw [if_pos hc]
      refine g_n 2 (j' := 13) (lv' := [some (.ref 8), some (.int (nI b)), some (.retAddr 1), some (.int (nI i))]) (st' := [.retAddr 1, .int (nI i)]) (h' := (shT, fi, fl, fr)) rfl ?_
      refine g_call (y := 21) (as := [.retAddr 1]) (st' := [.int (nI i)]) rfl rfl (l1) ?_
      refine g_icf rfl (show ¬ ((nI (wd 1).length) ≤ (nI i)) from nI_ge (by omega) (by omega)) ?_
      refine g_n 1 (j' := 16) (lv' := [some (.ref 8), some (.int (nI b)), some (.retAddr 1), some (.int (nI i))]) (st' := [.ref 8]) (h' := (shT, fi, fl, fr)) rfl ?_
      refine g_getR (q' := 7) rfl rfl (by decide) r_8_2 ?_
      refine g_n 3 (j' := 20) (lv' := [some (.ref 8), some (.int (nI b)), some (.retAddr 1), some (.int (nI i))]) (st' := [.int ((nI b) + (nI i)), .ref 7]) (h' := (shT, fi, fl, fr)) rfl ?_
      refine g_bald (k := b + i) (x := F (b + i)) rfl rfl (by decide) (nI_add b i) (by omega) (by decide) (eF _) ?_
      refine g_n 2 (j' := 23) (lv' := [some (.ref 8), some (.int (nI b)), some (.retAddr 1), some (.int (nI i))]) (st' := [.int (nI i), .retAddr 1, .int (F (b + i))]) (h' := (shT, fi, fl, fr)) rfl ?_
      refine g_call (y := 23) (as := [.retAddr 1, .int (nI i)]) (st' := [.int (F (b + i))]) rfl rfl (c1) ?_
      refine g_ict rfl (show (F (b + i)) = ((wd 1).getD i 0) from hc) ?_
      refine g_n 2 (j' := 11) (lv' := [some (.ref 8), some (.int (nI b)), some (.retAddr 1), some (.int ((nI i) + 1))]) (st' := []) (h' := (shT, fi, fl, fr)) rfl ?_
      rw [nI_1]
      exact g
    · rw [if_neg hc]
      refine g_n 2 (j' := 13) (lv' := [some (.ref 8), some (.int (nI b)), some (.retAddr 1), some (.int (nI i))]) (st' := [.retAddr 1, .int (nI i)]) (h' := (shT, fi, fl, fr)) rfl ?_
      refine g_call (y := 21) (as := [.retAddr 1]) (st' := [.int (nI i)]) rfl rfl (l1) ?_
      refine g_icf rfl (show ¬ ((nI (wd 1).length) ≤ (nI i)) from nI_ge (by omega) (by omega)) ?_
      refine g_n 1 (j' := 16) (lv' := [some (.ref 8), some (.int (nI b)), some (.retAddr 1), some (.int (nI i))]) (st' := [.ref 8]) (h' := (shT, fi, fl, fr)) rfl ?_
      refine g_getR (q' := 7) rfl rfl (by decide) r_8_2 ?_
      refine g_n 3 (j' := 20) (lv' := [some (.ref 8), some (.int (nI b)), some (.retAddr 1), some (.int (nI i))]) (st' := [.int ((nI b) + (nI i)), .ref 7]) (h' := (shT, fi, fl, fr)) rfl ?_
      refine g_bald (k := b + i) (x := F (b + i)) rfl rfl (by decide) (nI_add b i) (by omega) (by decide) (eF _) ?_
      refine g_n 2 (j' := 23) (lv' := [some (.ref 8), some (.int (nI b)), some (.retAddr 1), some (.int (nI i))]) (st' := [.int (nI i), .retAddr 1, .int (F (b + i))]) (h' := (shT, fi, fl, fr)) rfl ?_
      refine g_call (y := 23) (as := [.retAddr 1, .int (nI i)]) (st' := [.int (F (b + i))]) rfl rfl (c1) ?_
      refine g_icf rfl (show ¬ ((F (b + i)) = ((wd 1).getD i 0)) from hc) ?_
      refine g_n 1 (j' := 26) (lv' := [some (.ref 8), some (.int (nI b)), some (.retAddr 1), some (.int (nI i))]) (st' := [.int 0]) (h' := (shT, fi, fl, fr)) rfl ?_
      exact g_retz rfl (by decide)
theorem iw_ev_1 {F : Nat → Int32} {t e b : Nat} {h : PmH} (ht : t ≤ 200) (hP : pc_P F t e h) (hb : b ≤ e) (he : e ≤ t) : Ev pmT 20 [.ref 8, .int (nI b), .retAddr 1] h (some (.int (b01 (isW F b e (wd 1))))) h := by
  have l1 := ln_ev (h := h) 1 (by decide)
  refine Ev.of (es := cd_20) (ml := 4) (lv := [some (.ref 8), some (.int (nI b)), some (.retAddr 1), none]) rfl rfl rfl ?_
  have es := pk_sub hb
  have hL : (wd 1).length ≤ 5 := by decide
  by_cases hc : e - b = (wd 1).length
  · have g := iw_go_1 ht hP (show b + (wd 1).length ≤ t by omega) (wd 1).length 0 (by omega)
    have e1 : isW F b e (wd 1) = isn F b (wd 1) (wd 1).length 0 := by
      unfold isW
      rw [decide_eq_true hc]
      rfl
    rw [e1]
    obtain ⟨S, fi, fl, fr⟩ := h
    have hS : S = shT := hP.1.1
    subst hS
    have r_8_2 : fr 8 2 = some 7 := hP.2.1
    have e3 : fi 8 3 = nI t := hP.2.2.1
    have e4 : fi 8 4 = nI e := hP.2.2.2.1
    have eF : ∀ s, fi 7 s = F s := hP.2.2.2.2
    refine g_n 1 (j' := 1) (lv' := [some (.ref 8), some (.int (nI b)), some (.retAddr 1), none]) (st' := [.ref 8]) (h' := (shT, fi, fl, fr)) rfl ?_
    refine g_getI (x := nI e) rfl (Or.inl rfl) rfl (by decide) (e4) ?_
    refine g_n 2 (j' := 4) (lv' := [some (.ref 8), some (.int (nI b)), some (.retAddr 1), none]) (st' := [.int ((nI e) - (nI b))]) (h' := (shT, fi, fl, fr)) rfl ?_
    rw [es]
    refine g_n 1 (j' := 5) (lv' := [some (.ref 8), some (.int (nI b)), some (.retAddr 1), none]) (st' := [.retAddr 1, .int (nI (e - b))]) (h' := (shT, fi, fl, fr)) rfl ?_
    refine g_call (y := 21) (as := [.retAddr 1]) (st' := [.int (nI (e - b))]) rfl rfl (l1) ?_
    refine g_ict rfl (show (nI (e - b)) = (nI (wd 1).length) from by rw [hc]) ?_
    refine g_n 2 (j' := 11) (lv' := [some (.ref 8), some (.int (nI b)), some (.retAddr 1), some (.int (nI 0))]) (st' := []) (h' := (shT, fi, fl, fr)) rfl ?_
    exact g
  · have e1 : isW F b e (wd 1) = false := by
      unfold isW
      rw [decide_eq_false hc]
      rfl
    rw [e1]
    obtain ⟨S, fi, fl, fr⟩ := h
    have hS : S = shT := hP.1.1
    subst hS
    have r_8_2 : fr 8 2 = some 7 := hP.2.1
    have e3 : fi 8 3 = nI t := hP.2.2.1
    have e4 : fi 8 4 = nI e := hP.2.2.2.1
    have eF : ∀ s, fi 7 s = F s := hP.2.2.2.2
    refine g_n 1 (j' := 1) (lv' := [some (.ref 8), some (.int (nI b)), some (.retAddr 1), none]) (st' := [.ref 8]) (h' := (shT, fi, fl, fr)) rfl ?_
    refine g_getI (x := nI e) rfl (Or.inl rfl) rfl (by decide) (e4) ?_
    refine g_n 2 (j' := 4) (lv' := [some (.ref 8), some (.int (nI b)), some (.retAddr 1), none]) (st' := [.int ((nI e) - (nI b))]) (h' := (shT, fi, fl, fr)) rfl ?_
    rw [es]
    refine g_n 1 (j' := 5) (lv' := [some (.ref 8), some (.int (nI b)), some (.retAddr 1), none]) (st' := [.retAddr 1, .int (nI (e - b))]) (h' := (shT, fi, fl, fr)) rfl ?_
    refine g_call (y := 21) (as := [.retAddr 1]) (st' := [.int (nI (e - b))]) rfl rfl (l1) ?_
    refine g_icf rfl (show ¬ ((nI (e - b)) = (nI (wd 1).length)) from fun z => hc ((nI_eq (by omega) (by omega)).mp z)) ?_
    refine g_n 1 (j' := 8) (lv' := [some (.ref 8), some (.int (nI b)), some (.retAddr 1), none]) (st' := [.int 0]) (h' := (shT, fi, fl, fr)) rfl ?_
    exact g_retz rfl (by decide)
theorem iw_go_2 {F : Nat → Int32} {t e b : Nat} {h : PmH} (ht : t ≤ 200) (hP : pc_P F t e h) (hb : b + (wd 2).length ≤ t) : ∀ (n i : Nat), i + n = (wd 2).length → Go pmT none cd_20 11 [some (.ref 8), some (.int (nI b)), some (.retAddr 2), some (.int (nI i))] [] h (some (.int (b01 (isn F b (wd 2) n i))), h) := by
  obtain ⟨S, fi, fl, fr⟩ := h
  have hS : S = shT := hP.1.1
  subst hS
  have r_8_2 : fr 8 2 = some 7 := hP.2.1
  have e3 : fi 8 3 = nI t := hP.2.2.1
  have e4 : fi 8 4 = nI e := hP.2.2.2.1
  have eF : ∀ s, fi 7 s = F s := hP.2.2.2.2
  have l1 := ln_ev (h := (shT, fi, fl, fr)) 2 (by decide)
  have hL : (wd 2).length ≤ 5 := by decide
  intro n
  induction n with
  | zero =>
    intro i hi
    have hi : i = (wd 2).length := by omega
    refine g_n 2 (j' := 13) (lv' := [some (.ref 8), some (.int (nI b)), some (.retAddr 2), some (.int (nI i))]) (st' := [.retAddr 2, .int (nI i)]) (h' := (shT, fi, fl, fr)) rfl ?_
    refine g_call (y := 21) (as := [.retAddr 2]) (st' := [.int (nI i)]) rfl rfl (l1) ?_
    refine g_ict rfl (show (nI (wd 2).length) ≤ (nI i) from nI_le (by omega) (by omega)) ?_
    refine g_n 1 (j' := 30) (lv' := [some (.ref 8), some (.int (nI b)), some (.retAddr 2), some (.int (nI i))]) (st' := [.int 1]) (h' := (shT, fi, fl, fr)) rfl ?_
    exact g_retz rfl (by decide)
  | succ n ih =>
    intro i hi
    have c1 := ch_ev (h := (shT, fi, fl, fr)) 2 i (by decide) (by omega)
    have g := ih (i + 1) (by omega)
    rw [isn]
    by_cases hc : F (b + i) = (wd 2).getD i 0
    · rw [if_pos hc]
      refine g_n 2 (j' := 13) (lv' := [some (.ref 8), some (.int (nI b)), some (.retAddr 2), some (.int (nI i))]) (st' := [.retAddr 2, .int (nI i)]) (h' := (shT, fi, fl, fr)) rfl ?_
      refine g_call (y := 21) (as := [.retAddr 2]) (st' := [.int (nI i)]) rfl rfl (l1) ?_
      refine g_icf rfl (show ¬ ((nI (wd 2).length) ≤ (nI i)) from nI_ge (by omega) (by omega)) ?_
      refine g_n 1 (j' := 16) (lv' := [some (.ref 8), some (.int (nI b)), some (.retAddr 2), some (.int (nI i))]) (st' := [.ref 8]) (h' := (shT, fi, fl, fr)) rfl ?_
      refine g_getR (q' := 7) rfl rfl (by decide) r_8_2 ?_
      refine g_n 3 (j' := 20) (lv' := [some (.ref 8), some (.int (nI b)), some (.retAddr 2), some (.int (nI i))]) (st' := [.int ((nI b) + (nI i)), .ref 7]) (h' := (shT, fi, fl, fr)) rfl ?_
      refine g_bald (k := b + i) (x := F (b + i)) rfl rfl (by decide) (nI_add b i) (by omega) (by decide) (eF _) ?_
      refine g_n 2 (j' := 23) (lv' := [some (.ref 8), some (.int (nI b)), some (.retAddr 2), some (.int (nI i))]) (st' := [.int (nI i), .retAddr 2, .int (F (b + i))]) (h' := (shT, fi, fl, fr)) rfl ?_
      refine g_call (y := 23) (as := [.retAddr 2, .int (nI i)]) (st' := [.int (F (b + i))]) rfl rfl (c1) ?_
      refine g_ict rfl (show (F (b + i)) = ((wd 2).getD i 0) from hc) ?_
      refine g_n 2 (j' := 11) (lv' := [some (.ref 8), some (.int (nI b)), some (.retAddr 2), some (.int ((nI i) + 1))]) (st' := []) (h' := (shT, fi, fl, fr)) rfl ?_
      rw [nI_1]
      exact g
    · rw [if_neg hc]
      refine g_n 2 (j' := 13) (lv' := [some (.ref 8), some (.int (nI b)), some (.retAddr 2), some (.int (nI i))]) (st' := [.retAddr 2, .int (nI i)]) (h' := (shT, fi, fl, fr)) rfl ?_
      refine g_call (y := 21) (as := [.retAddr 2]) (st' := [.int (nI i)]) rfl rfl (l1) ?_
      refine g_icf rfl (show ¬ ((nI (wd 2).length) ≤ (nI i)) from nI_ge (by omega) (by omega)) ?_
      refine g_n 1 (j' := 16) (lv' := [some (.ref 8), some (.int (nI b)), some (.retAddr 2), some (.int (nI i))]) (st' := [.ref 8]) (h' := (shT, fi, fl, fr)) rfl ?_
      refine g_getR (q' := 7) rfl rfl (by decide) r_8_2 ?_
      refine g_n 3 (j' := 20) (lv' := [some (.ref 8), some (.int (nI b)), some (.retAddr 2), some (.int (nI i))]) (st' := [.int ((nI b) + (nI i)), .ref 7]) (h' := (shT, fi, fl, fr)) rfl ?_
      refine g_bald (k := b + i) (x := F (b + i)) rfl rfl (by decide) (nI_add b i) (by omega) (by decide) (eF _) ?_
      refine g_n 2 (j' := 23) (lv' := [some (.ref 8), some (.int (nI b)), some (.retAddr 2), some (.int (nI i))]) (st' := [.int (nI i), .retAddr 2, .int (F (b + i))]) (h' := (shT, fi, fl, fr)) rfl ?_
      refine g_call (y := 23) (as := [.retAddr 2, .int (nI i)]) (st' := [.int (F (b + i))]) rfl rfl (c1) ?_
      refine g_icf rfl (show ¬ ((F (b + i)) = ((wd 2).getD i 0)) from hc) ?_
      refine g_n 1 (j' := 26) (lv' := [some (.ref 8), some (.int (nI b)), some (.retAddr 2), some (.int (nI i))]) (st' := [.int 0]) (h' := (shT, fi, fl, fr)) rfl ?_
      exact g_retz rfl (by decide)
theorem iw_ev_2 {F : Nat → Int32} {t e b : Nat} {h : PmH} (ht : t ≤ 200) (hP : pc_P F t e h) (hb : b ≤ e) (he : e ≤ t) : Ev pmT 20 [.ref 8, .int (nI b), .retAddr 2] h (some (.int (b01 (isW F b e (wd 2))))) h := by
  have l1 := ln_ev (h := h) 2 (by decide)
  refine Ev.of (es := cd_20) (ml := 4) (lv := [some (.ref 8), some (.int (nI b)), some (.retAddr 2), none]) rfl rfl rfl ?_
  have es := pk_sub hb
  have hL : (wd 2).length ≤ 5 := by decide
  by_cases hc : e - b = (wd 2).length
  · have g := iw_go_2 ht hP (show b + (wd 2).length ≤ t by omega) (wd 2).length 0 (by omega)
    have e1 : isW F b e (wd 2) = isn F b (wd 2) (wd 2).length 0 := by
      unfold isW
      rw [decide_eq_true hc]
      rfl
    rw [e1]
    obtain ⟨S, fi, fl, fr⟩ := h
    have hS : S = shT := hP.1.1
    subst hS
    have r_8_2 : fr 8 2 = some 7 := hP.2.1
    have e3 : fi 8 3 = nI t := hP.2.2.1
    have e4 : fi 8 4 = nI e := hP.2.2.2.1
    have eF : ∀ s, fi 7 s = F s := hP.2.2.2.2
    refine g_n 1 (j' := 1) (lv' := [some (.ref 8), some (.int (nI b)), some (.retAddr 2), none]) (st' := [.ref 8]) (h' := (shT, fi, fl, fr)) rfl ?_
    refine g_getI (x := nI e) rfl (Or.inl rfl) rfl (by decide) (e4) ?_
    refine g_n 2 (j' := 4) (lv' := [some (.ref 8), some (.int (nI b)), some (.retAddr 2), none]) (st' := [.int ((nI e) - (nI b))]) (h' := (shT, fi, fl, fr)) rfl ?_
    rw [es]
    refine g_n 1 (j' := 5) (lv' := [some (.ref 8), some (.int (nI b)), some (.retAddr 2), none]) (st' := [.retAddr 2, .int (nI (e - b))]) (h' := (shT, fi, fl, fr)) rfl ?_
    refine g_call (y := 21) (as := [.retAddr 2]) (st' := [.int (nI (e - b))]) rfl rfl (l1) ?_
    refine g_ict rfl (show (nI (e - b)) = (nI (wd 2).length) from by rw [hc]) ?_
    refine g_n 2 (j' := 11) (lv' := [some (.ref 8), some (.int (nI b)), some (.retAddr 2), some (.int (nI 0))]) (st' := []) (h' := (shT, fi, fl, fr)) rfl ?_
    exact g
  · have e1 : isW F b e (wd 2) = false := by
      unfold isW
      rw [decide_eq_false hc]
      rfl
    rw [e1]
    obtain ⟨S, fi, fl, fr⟩ := h
    have hS : S = shT := hP.1.1
    subst hS
    have r_8_2 : fr 8 2 = some 7 := hP.2.1
    have e3 : fi 8 3 = nI t := hP.2.2.1
    have e4 : fi 8 4 = nI e := hP.2.2.2.1
    have eF : ∀ s, fi 7 s = F s := hP.2.2.2.2
    refine g_n 1 (j' := 1) (lv' := [some (.ref 8), some (.int (nI b)), some (.retAddr 2), none]) (st' := [.ref 8]) (h' := (shT, fi, fl, fr)) rfl ?_
    refine g_getI (x := nI e) rfl (Or.inl rfl) rfl (by decide) (e4) ?_
    refine g_n 2 (j' := 4) (lv' := [some (.ref 8), some (.int (nI b)), some (.retAddr 2), none]) (st' := [.int ((nI e) - (nI b))]) (h' := (shT, fi, fl, fr)) rfl ?_
    rw [es]
    refine g_n 1 (j' := 5) (lv' := [some (.ref 8), some (.int (nI b)), some (.retAddr 2), none]) (st' := [.retAddr 2, .int (nI (e - b))]) (h' := (shT, fi, fl, fr)) rfl ?_
    refine g_call (y := 21) (as := [.retAddr 2]) (st' := [.int (nI (e - b))]) rfl rfl (l1) ?_
    refine g_icf rfl (show ¬ ((nI (e - b)) = (nI (wd 2).length)) from fun z => hc ((nI_eq (by omega) (by omega)).mp z)) ?_
    refine g_n 1 (j' := 8) (lv' := [some (.ref 8), some (.int (nI b)), some (.retAddr 2), none]) (st' := [.int 0]) (h' := (shT, fi, fl, fr)) rfl ?_
    exact g_retz rfl (by decide)
theorem iw_go_3 {F : Nat → Int32} {t e b : Nat} {h : PmH} (ht : t ≤ 200) (hP : pc_P F t e h) (hb : b + (wd 3).length ≤ t) : ∀ (n i : Nat), i + n = (wd 3).length → Go pmT none cd_20 11 [some (.ref 8), some (.int (nI b)), some (.retAddr 3), some (.int (nI i))] [] h (some (.int (b01 (isn F b (wd 3) n i))), h) := by
  obtain ⟨S, fi, fl, fr⟩ := h
  have hS : S = shT := hP.1.1
  subst hS
  have r_8_2 : fr 8 2 = some 7 := hP.2.1
  have e3 : fi 8 3 = nI t := hP.2.2.1
  have e4 : fi 8 4 = nI e := hP.2.2.2.1
  have eF : ∀ s, fi 7 s = F s := hP.2.2.2.2
  have l1 := ln_ev (h := (shT, fi, fl, fr)) 3 (by decide)
  have hL : (wd 3).length ≤ 5 := by decide
  intro n
  induction n with
  | zero =>
    intro i hi
    have hi : i = (wd 3).length := by omega
    refine g_n 2 (j' := 13) (lv' := [some (.ref 8), some (.int (nI b)), some (.retAddr 3), some (.int (nI i))]) (st' := [.retAddr 3, .int (nI i)]) (h' := (shT, fi, fl, fr)) rfl ?_
    refine g_call (y := 21) (as := [.retAddr 3]) (st' := [.int (nI i)]) rfl rfl (l1) ?_
    refine g_ict rfl (show (nI (wd 3).length) ≤ (nI i) from nI_le (by omega) (by omega)) ?_
    refine g_n 1 (j' := 30) (lv' := [some (.ref 8), some (.int (nI b)), some (.retAddr 3), some (.int (nI i))]) (st' := [.int 1]) (h' := (shT, fi, fl, fr)) rfl ?_
    exact g_retz rfl (by decide)
  | succ n ih =>
    intro i hi
    have c1 := ch_ev (h := (shT, fi, fl, fr)) 3 i (by decide) (by omega)
    have g := ih (i + 1) (by omega)
    rw [isn]
    by_cases hc : F (b + i) = (wd 3).getD i 0
    · rw [if_pos hc]
      refine g_n 2 (j' := 13) (lv' := [some (.ref 8), some (.int (nI b)), some (.retAddr 3), some (.int (nI i))]) (st' := [.retAddr 3, .int (nI i)]) (h' := (shT, fi, fl, fr)) rfl ?_
      refine g_call (y := 21) (as := [.retAddr 3]) (st' := [.int (nI i)]) rfl rfl (l1) ?_
      refine g_icf rfl (show ¬ ((nI (wd 3).length) ≤ (nI i)) from nI_ge (by omega) (by omega)) ?_
      refine g_n 1 (j' := 16) (lv' := [some (.ref 8), some (.int (nI b)), some (.retAddr 3), some (.int (nI i))]) (st' := [.ref 8]) (h' := (shT, fi, fl, fr)) rfl ?_
      refine g_getR (q' := 7) rfl rfl (by decide) r_8_2 ?_
      refine g_n 3 (j' := 20) (lv' := [some (.ref 8), some (.int (nI b)), some (.retAddr 3), some (.int (nI i))]) (st' := [.int ((nI b) + (nI i)), .ref 7]) (h' := (shT, fi, fl, fr)) rfl ?_
      refine g_bald (k := b + i) (x := F (b + i)) rfl rfl (by decide) (nI_add b i) (by omega) (by decide) (eF _) ?_
      refine g_n 2 (j' := 23) (lv' := [some (.ref 8), some (.int (nI b)), some (.retAddr 3), some (.int (nI i))]) (st' := [.int (nI i), .retAddr 3, .int (F (b + i))]) (h' := (shT, fi, fl, fr)) rfl ?_
      refine g_call (y := 23) (as := [.retAddr 3, .int (nI i)]) (st' := [.int (F (b + i))]) rfl rfl (c1) ?_
      refine g_ict rfl (show (F (b + i)) = ((wd 3).getD i 0) from hc) ?_
      refine g_n 2 (j' := 11) (lv' := [some (.ref 8), some (.int (nI b)), some (.retAddr 3), some (.int ((nI i) + 1))]) (st' := []) (h' := (shT, fi, fl, fr)) rfl ?_
      rw [nI_1]
      exact g
    · rw [if_neg hc]
      refine g_n 2 (j' := 13) (lv' := [some (.ref 8), some (.int (nI b)), some (.retAddr 3), some (.int (nI i))]) (st' := [.retAddr 3, .int (nI i)]) (h' := (shT, fi, fl, fr)) rfl ?_
      refine g_call (y := 21) (as := [.retAddr 3]) (st' := [.int (nI i)]) rfl rfl (l1) ?_
      refine g_icf rfl (show ¬ ((nI (wd 3).length) ≤ (nI i)) from nI_ge (by omega) (by omega)) ?_
      refine g_n 1 (j' := 16) (lv' := [some (.ref 8), some (.int (nI b)), some (.retAddr 3), some (.int (nI i))]) (st' := [.ref 8]) (h' := (shT, fi, fl, fr)) rfl ?_
      refine g_getR (q' := 7) rfl rfl (by decide) r_8_2 ?_
      refine g_n 3 (j' := 20) (lv' := [some (.ref 8), some (.int (nI b)), some (.retAddr 3), some (.int (nI i))]) (st' := [.int ((nI b) + (nI i)), .ref 7]) (h' := (shT, fi, fl, fr)) rfl ?_
      refine g_bald (k := b + i) (x := F (b + i)) rfl rfl (by decide) (nI_add b i) (by omega) (by decide) (eF _) ?_
      refine g_n 2 (j' := 23) (lv' := [some (.ref 8), some (.int (nI b)), some (.retAddr 3), some (.int (nI i))]) (st' := [.int (nI i), .retAddr 3, .int (F (b + i))]) (h' := (shT, fi, fl, fr)) rfl ?_
      refine g_call (y := 23) (as := [.retAddr 3, .int (nI i)]) (st' := [.int (F (b + i))]) rfl rfl (c1) ?_
      refine g_icf rfl (show ¬ ((F (b + i)) = ((wd 3).getD i 0)) from hc) ?_
      refine g_n 1 (j' := 26) (lv' := [some (.ref 8), some (.int (nI b)), some (.retAddr 3), some (.int (nI i))]) (st' := [.int 0]) (h' := (shT, fi, fl, fr)) rfl ?_
      exact g_retz rfl (by decide)
theorem iw_ev_3 {F : Nat → Int32} {t e b : Nat} {h : PmH} (ht : t ≤ 200) (hP : pc_P F t e h) (hb : b ≤ e) (he : e ≤ t) : Ev pmT 20 [.ref 8, .int (nI b), .retAddr 3] h (some (.int (b01 (isW F b e (wd 3))))) h := by
  have l1 := ln_ev (h := h) 3 (by decide)
  refine Ev.of (es := cd_20) (ml := 4) (lv := [some (.ref 8), some (.int (nI b)), some (.retAddr 3), none]) rfl rfl rfl ?_
  have es := pk_sub hb
  have hL : (wd 3).length ≤ 5 := by decide
  by_cases hc : e - b = (wd 3).length
  · have g := iw_go_3 ht hP (show b + (wd 3).length ≤ t by omega) (wd 3).length 0 (by omega)
    have e1 : isW F b e (wd 3) = isn F b (wd 3) (wd 3).length 0 := by
      unfold isW
      rw [decide_eq_true hc]
      rfl
    rw [e1]
    obtain ⟨S, fi, fl, fr⟩ := h
    have hS : S = shT := hP.1.1
    subst hS
    have r_8_2 : fr 8 2 = some 7 := hP.2.1
    have e3 : fi 8 3 = nI t := hP.2.2.1
    have e4 : fi 8 4 = nI e := hP.2.2.2.1
    have eF : ∀ s, fi 7 s = F s := hP.2.2.2.2
    refine g_n 1 (j' := 1) (lv' := [some (.ref 8), some (.int (nI b)), some (.retAddr 3), none]) (st' := [.ref 8]) (h' := (shT, fi, fl, fr)) rfl ?_
    refine g_getI (x := nI e) rfl (Or.inl rfl) rfl (by decide) (e4) ?_
    refine g_n 2 (j' := 4) (lv' := [some (.ref 8), some (.int (nI b)), some (.retAddr 3), none]) (st' := [.int ((nI e) - (nI b))]) (h' := (shT, fi, fl, fr)) rfl ?_
    rw [es]
    refine g_n 1 (j' := 5) (lv' := [some (.ref 8), some (.int (nI b)), some (.retAddr 3), none]) (st' := [.retAddr 3, .int (nI (e - b))]) (h' := (shT, fi, fl, fr)) rfl ?_
    refine g_call (y := 21) (as := [.retAddr 3]) (st' := [.int (nI (e - b))]) rfl rfl (l1) ?_
    refine g_ict rfl (show (nI (e - b)) = (nI (wd 3).length) from by rw [hc]) ?_
    refine g_n 2 (j' := 11) (lv' := [some (.ref 8), some (.int (nI b)), some (.retAddr 3), some (.int (nI 0))]) (st' := []) (h' := (shT, fi, fl, fr)) rfl ?_
    exact g
  · have e1 : isW F b e (wd 3) = false := by
      unfold isW
      rw [decide_eq_false hc]
      rfl
    rw [e1]
    obtain ⟨S, fi, fl, fr⟩ := h
    have hS : S = shT := hP.1.1
    subst hS
    have r_8_2 : fr 8 2 = some 7 := hP.2.1
    have e3 : fi 8 3 = nI t := hP.2.2.1
    have e4 : fi 8 4 = nI e := hP.2.2.2.1
    have eF : ∀ s, fi 7 s = F s := hP.2.2.2.2
    refine g_n 1 (j' := 1) (lv' := [some (.ref 8), some (.int (nI b)), some (.retAddr 3), none]) (st' := [.ref 8]) (h' := (shT, fi, fl, fr)) rfl ?_
    refine g_getI (x := nI e) rfl (Or.inl rfl) rfl (by decide) (e4) ?_
    refine g_n 2 (j' := 4) (lv' := [some (.ref 8), some (.int (nI b)), some (.retAddr 3), none]) (st' := [.int ((nI e) - (nI b))]) (h' := (shT, fi, fl, fr)) rfl ?_
    rw [es]
    refine g_n 1 (j' := 5) (lv' := [some (.ref 8), some (.int (nI b)), some (.retAddr 3), none]) (st' := [.retAddr 3, .int (nI (e - b))]) (h' := (shT, fi, fl, fr)) rfl ?_
    refine g_call (y := 21) (as := [.retAddr 3]) (st' := [.int (nI (e - b))]) rfl rfl (l1) ?_
    refine g_icf rfl (show ¬ ((nI (e - b)) = (nI (wd 3).length)) from fun z => hc ((nI_eq (by omega) (by omega)).mp z)) ?_
    refine g_n 1 (j' := 8) (lv' := [some (.ref 8), some (.int (nI b)), some (.retAddr 3), none]) (st' := [.int 0]) (h' := (shT, fi, fl, fr)) rfl ?_
    exact g_retz rfl (by decide)
theorem iw_go_4 {F : Nat → Int32} {t e b : Nat} {h : PmH} (ht : t ≤ 200) (hP : pc_P F t e h) (hb : b + (wd 4).length ≤ t) : ∀ (n i : Nat), i + n = (wd 4).length → Go pmT none cd_20 11 [some (.ref 8), some (.int (nI b)), some (.retAddr 4), some (.int (nI i))] [] h (some (.int (b01 (isn F b (wd 4) n i))), h) := by
  obtain ⟨S, fi, fl, fr⟩ := h
  have hS : S = shT := hP.1.1
  subst hS
  have r_8_2 : fr 8 2 = some 7 := hP.2.1
  have e3 : fi 8 3 = nI t := hP.2.2.1
  have e4 : fi 8 4 = nI e := hP.2.2.2.1
  have eF : ∀ s, fi 7 s = F s := hP.2.2.2.2
  have l1 := ln_ev (h := (shT, fi, fl, fr)) 4 (by decide)
  have hL : (wd 4).length ≤ 5 := by decide
  intro n
  induction n with
  | zero =>
    intro i hi
    have hi : i = (wd 4).length := by omega
    refine g_n 2 (j' := 13) (lv' := [some (.ref 8), some (.int (nI b)), some (.retAddr 4), some (.int (nI i))]) (st' := [.retAddr 4, .int (nI i)]) (h' := (shT, fi, fl, fr)) rfl ?_
    refine g_call (y := 21) (as := [.retAddr 4]) (st' := [.int (nI i)]) rfl rfl (l1) ?_
    refine g_ict rfl (show (nI (wd 4).length) ≤ (nI i) from nI_le (by omega) (by omega)) ?_
    refine g_n 1 (j' := 30) (lv' := [some (.ref 8), some (.int (nI b)), some (.retAddr 4), some (.int (nI i))]) (st' := [.int 1]) (h' := (shT, fi, fl, fr)) rfl ?_
    exact g_retz rfl (by decide)
  | succ n ih =>
    intro i hi
    have c1 := ch_ev (h := (shT, fi, fl, fr)) 4 i (by decide) (by omega)
    have g := ih (i + 1) (by omega)
    rw [isn]
    by_cases hc : F (b + i) = (wd 4).getD i 0
    · rw [if_pos hc]
      refine g_n 2 (j' := 13) (lv' := [some (.ref 8), some (.int (nI b)), some (.retAddr 4), some (.int (nI i))]) (st' := [.retAddr 4, .int (nI i)]) (h' := (shT, fi, fl, fr)) rfl ?_
      refine g_call (y := 21) (as := [.retAddr 4]) (st' := [.int (nI i)]) rfl rfl (l1) ?_
      refine g_icf rfl (show ¬ ((nI (wd 4).length) ≤ (nI i)) from nI_ge (by omega) (by omega)) ?_
      refine g_n 1 (j' := 16) (lv' := [some (.ref 8), some (.int (nI b)), some (.retAddr 4), some (.int (nI i))]) (st' := [.ref 8]) (h' := (shT, fi, fl, fr)) rfl ?_
      refine g_getR (q' := 7) rfl rfl (by decide) r_8_2 ?_
      refine g_n 3 (j' := 20) (lv' := [some (.ref 8), some (.int (nI b)), some (.retAddr 4), some (.int (nI i))]) (st' := [.int ((nI b) + (nI i)), .ref 7]) (h' := (shT, fi, fl, fr)) rfl ?_
      refine g_bald (k := b + i) (x := F (b + i)) rfl rfl (by decide) (nI_add b i) (by omega) (by decide) (eF _) ?_
      refine g_n 2 (j' := 23) (lv' := [some (.ref 8), some (.int (nI b)), some (.retAddr 4), some (.int (nI i))]) (st' := [.int (nI i), .retAddr 4, .int (F (b + i))]) (h' := (shT, fi, fl, fr)) rfl ?_
      refine g_call (y := 23) (as := [.retAddr 4, .int (nI i)]) (st' := [.int (F (b + i))]) rfl rfl (c1) ?_
      refine g_ict rfl (show (F (b + i)) = ((wd 4).getD i 0) from hc) ?_
      refine g_n 2 (j' := 11) (lv' := [some (.ref 8), some (.int (nI b)), some (.retAddr 4), some (.int ((nI i) + 1))]) (st' := []) (h' := (shT, fi, fl, fr)) rfl ?_
      rw [nI_1]
      exact g
    · rw [if_neg hc]
      refine g_n 2 (j' := 13) (lv' := [some (.ref 8), some (.int (nI b)), some (.retAddr 4), some (.int (nI i))]) (st' := [.retAddr 4, .int (nI i)]) (h' := (shT, fi, fl, fr)) rfl ?_
      refine g_call (y := 21) (as := [.retAddr 4]) (st' := [.int (nI i)]) rfl rfl (l1) ?_
      refine g_icf rfl (show ¬ ((nI (wd 4).length) ≤ (nI i)) from nI_ge (by omega) (by omega)) ?_
      refine g_n 1 (j' := 16) (lv' := [some (.ref 8), some (.int (nI b)), some (.retAddr 4), some (.int (nI i))]) (st' := [.ref 8]) (h' := (shT, fi, fl, fr)) rfl ?_
      refine g_getR (q' := 7) rfl rfl (by decide) r_8_2 ?_
      refine g_n 3 (j' := 20) (lv' := [some (.ref 8), some (.int (nI b)), some (.retAddr 4), some (.int (nI i))]) (st' := [.int ((nI b) + (nI i)), .ref 7]) (h' := (shT, fi, fl, fr)) rfl ?_
      refine g_bald (k := b + i) (x := F (b + i)) rfl rfl (by decide) (nI_add b i) (by omega) (by decide) (eF _) ?_
      refine g_n 2 (j' := 23) (lv' := [some (.ref 8), some (.int (nI b)), some (.retAddr 4), some (.int (nI i))]) (st' := [.int (nI i), .retAddr 4, .int (F (b + i))]) (h' := (shT, fi, fl, fr)) rfl ?_
      refine g_call (y := 23) (as := [.retAddr 4, .int (nI i)]) (st' := [.int (F (b + i))]) rfl rfl (c1) ?_
      refine g_icf rfl (show ¬ ((F (b + i)) = ((wd 4).getD i 0)) from hc) ?_
      refine g_n 1 (j' := 26) (lv' := [some (.ref 8), some (.int (nI b)), some (.retAddr 4), some (.int (nI i))]) (st' := [.int 0]) (h' := (shT, fi, fl, fr)) rfl ?_
      exact g_retz rfl (by decide)
theorem iw_ev_4 {F : Nat → Int32} {t e b : Nat} {h : PmH} (ht : t ≤ 200) (hP : pc_P F t e h) (hb : b ≤ e) (he : e ≤ t) : Ev pmT 20 [.ref 8, .int (nI b), .retAddr 4] h (some (.int (b01 (isW F b e (wd 4))))) h := by
  have l1 := ln_ev (h := h) 4 (by decide)
  refine Ev.of (es := cd_20) (ml := 4) (lv := [some (.ref 8), some (.int (nI b)), some (.retAddr 4), none]) rfl rfl rfl ?_
  have es := pk_sub hb
  have hL : (wd 4).length ≤ 5 := by decide
  by_cases hc : e - b = (wd 4).length
  · have g := iw_go_4 ht hP (show b + (wd 4).length ≤ t by omega) (wd 4).length 0 (by omega)
    have e1 : isW F b e (wd 4) = isn F b (wd 4) (wd 4).length 0 := by
      unfold isW
      rw [decide_eq_true hc]
      rfl
    rw [e1]
    obtain ⟨S, fi, fl, fr⟩ := h
    have hS : S = shT := hP.1.1
    subst hS
    have r_8_2 : fr 8 2 = some 7 := hP.2.1
    have e3 : fi 8 3 = nI t := hP.2.2.1
    have e4 : fi 8 4 = nI e := hP.2.2.2.1
    have eF : ∀ s, fi 7 s = F s := hP.2.2.2.2
    refine g_n 1 (j' := 1) (lv' := [some (.ref 8), some (.int (nI b)), some (.retAddr 4), none]) (st' := [.ref 8]) (h' := (shT, fi, fl, fr)) rfl ?_
    refine g_getI (x := nI e) rfl (Or.inl rfl) rfl (by decide) (e4) ?_
    refine g_n 2 (j' := 4) (lv' := [some (.ref 8), some (.int (nI b)), some (.retAddr 4), none]) (st' := [.int ((nI e) - (nI b))]) (h' := (shT, fi, fl, fr)) rfl ?_
    rw [es]
    refine g_n 1 (j' := 5) (lv' := [some (.ref 8), some (.int (nI b)), some (.retAddr 4), none]) (st' := [.retAddr 4, .int (nI (e - b))]) (h' := (shT, fi, fl, fr)) rfl ?_
    refine g_call (y := 21) (as := [.retAddr 4]) (st' := [.int (nI (e - b))]) rfl rfl (l1) ?_
    refine g_ict rfl (show (nI (e - b)) = (nI (wd 4).length) from by rw [hc]) ?_
    refine g_n 2 (j' := 11) (lv' := [some (.ref 8), some (.int (nI b)), some (.retAddr 4), some (.int (nI 0))]) (st' := []) (h' := (shT, fi, fl, fr)) rfl ?_
    exact g
  · have e1 : isW F b e (wd 4) = false := by
      unfold isW
      rw [decide_eq_false hc]
      rfl
    rw [e1]
    obtain ⟨S, fi, fl, fr⟩ := h
    have hS : S = shT := hP.1.1
    subst hS
    have r_8_2 : fr 8 2 = some 7 := hP.2.1
    have e3 : fi 8 3 = nI t := hP.2.2.1
    have e4 : fi 8 4 = nI e := hP.2.2.2.1
    have eF : ∀ s, fi 7 s = F s := hP.2.2.2.2
    refine g_n 1 (j' := 1) (lv' := [some (.ref 8), some (.int (nI b)), some (.retAddr 4), none]) (st' := [.ref 8]) (h' := (shT, fi, fl, fr)) rfl ?_
    refine g_getI (x := nI e) rfl (Or.inl rfl) rfl (by decide) (e4) ?_
    refine g_n 2 (j' := 4) (lv' := [some (.ref 8), some (.int (nI b)), some (.retAddr 4), none]) (st' := [.int ((nI e) - (nI b))]) (h' := (shT, fi, fl, fr)) rfl ?_
    rw [es]
    refine g_n 1 (j' := 5) (lv' := [some (.ref 8), some (.int (nI b)), some (.retAddr 4), none]) (st' := [.retAddr 4, .int (nI (e - b))]) (h' := (shT, fi, fl, fr)) rfl ?_
    refine g_call (y := 21) (as := [.retAddr 4]) (st' := [.int (nI (e - b))]) rfl rfl (l1) ?_
    refine g_icf rfl (show ¬ ((nI (e - b)) = (nI (wd 4).length)) from fun z => hc ((nI_eq (by omega) (by omega)).mp z)) ?_
    refine g_n 1 (j' := 8) (lv' := [some (.ref 8), some (.int (nI b)), some (.retAddr 4), none]) (st' := [.int 0]) (h' := (shT, fi, fl, fr)) rfl ?_
    exact g_retz rfl (by decide)
theorem iw_go_5 {F : Nat → Int32} {t e b : Nat} {h : PmH} (ht : t ≤ 200) (hP : pc_P F t e h) (hb : b + (wd 5).length ≤ t) : ∀ (n i : Nat), i + n = (wd 5).length → Go pmT none cd_20 11 [some (.ref 8), some (.int (nI b)), some (.retAddr 5), some (.int (nI i))] [] h (some (.int (b01 (isn F b (wd 5) n i))), h) := by
  obtain ⟨S, fi, fl, fr⟩ := h
  have hS : S = shT := hP.1.1
  subst hS
  have r_8_2 : fr 8 2 = some 7 := hP.2.1
  have e3 : fi 8 3 = nI t := hP.2.2.1
  have e4 : fi 8 4 = nI e := hP.2.2.2.1
  have eF : ∀ s, fi 7 s = F s := hP.2.2.2.2
  have l1 := ln_ev (h := (shT, fi, fl, fr)) 5 (by decide)
  have hL : (wd 5).length ≤ 5 := by decide
  intro n
  induction n with
  | zero =>
    intro i hi
    have hi : i = (wd 5).length := by omega
    refine g_n 2 (j' := 13) (lv' := [some (.ref 8), some (.int (nI b)), some (.retAddr 5), some (.int (nI i))]) (st' := [.retAddr 5, .int (nI i)]) (h' := (shT, fi, fl, fr)) rfl ?_
    refine g_call (y := 21) (as := [.retAddr 5]) (st' := [.int (nI i)]) rfl rfl (l1) ?_
    refine g_ict rfl (show (nI (wd 5).length) ≤ (nI i) from nI_le (by omega) (by omega)) ?_
    refine g_n 1 (j' := 30) (lv' := [some (.ref 8), some (.int (nI b)), some (.retAddr 5), some (.int (nI i))]) (st' := [.int 1]) (h' := (shT, fi, fl, fr)) rfl ?_
    exact g_retz rfl (by decide)
  | succ n ih =>
    intro i hi
    have c1 := ch_ev (h := (shT, fi, fl, fr)) 5 i (by decide) (by omega)
    have g := ih (i + 1) (by omega)
    rw [isn]
    by_cases hc : F (b + i) = (wd 5).getD i 0
    · rw [if_pos hc]
      refine g_n 2 (j' := 13) (lv' := [some (.ref 8), some (.int (nI b)), some (.retAddr 5), some (.int (nI i))]) (st' := [.retAddr 5, .int (nI i)]) (h' := (shT, fi, fl, fr)) rfl ?_
      refine g_call (y := 21) (as := [.retAddr 5]) (st' := [.int (nI i)]) rfl rfl (l1) ?_
      refine g_icf rfl (show ¬ ((nI (wd 5).length) ≤ (nI i)) from nI_ge (by omega) (by omega)) ?_
      refine g_n 1 (j' := 16) (lv' := [some (.ref 8), some (.int (nI b)), some (.retAddr 5), some (.int (nI i))]) (st' := [.ref 8]) (h' := (shT, fi, fl, fr)) rfl ?_
      refine g_getR (q' := 7) rfl rfl (by decide) r_8_2 ?_
      refine g_n 3 (j' := 20) (lv' := [some (.ref 8), some (.int (nI b)), some (.retAddr 5), some (.int (nI i))]) (st' := [.int ((nI b) + (nI i)), .ref 7]) (h' := (shT, fi, fl, fr)) rfl ?_
      refine g_bald (k := b + i) (x := F (b + i)) rfl rfl (by decide) (nI_add b i) (by omega) (by decide) (eF _) ?_
      refine g_n 2 (j' := 23) (lv' := [some (.ref 8), some (.int (nI b)), some (.retAddr 5), some (.int (nI i))]) (st' := [.int (nI i), .retAddr 5, .int (F (b + i))]) (h' := (shT, fi, fl, fr)) rfl ?_
      refine g_call (y := 23) (as := [.retAddr 5, .int (nI i)]) (st' := [.int (F (b + i))]) rfl rfl (c1) ?_
      refine g_ict rfl (show (F (b + i)) = ((wd 5).getD i 0) from hc) ?_
      refine g_n 2 (j' := 11) (lv' := [some (.ref 8), some (.int (nI b)), some (.retAddr 5), some (.int ((nI i) + 1))]) (st' := []) (h' := (shT, fi, fl, fr)) rfl ?_
      rw [nI_1]
      exact g
    · rw [if_neg hc]
      refine g_n 2 (j' := 13) (lv' := [some (.ref 8), some (.int (nI b)), some (.retAddr 5), some (.int (nI i))]) (st' := [.retAddr 5, .int (nI i)]) (h' := (shT, fi, fl, fr)) rfl ?_
      refine g_call (y := 21) (as := [.retAddr 5]) (st' := [.int (nI i)]) rfl rfl (l1) ?_
      refine g_icf rfl (show ¬ ((nI (wd 5).length) ≤ (nI i)) from nI_ge (by omega) (by omega)) ?_
      refine g_n 1 (j' := 16) (lv' := [some (.ref 8), some (.int (nI b)), some (.retAddr 5), some (.int (nI i))]) (st' := [.ref 8]) (h' := (shT, fi, fl, fr)) rfl ?_
      refine g_getR (q' := 7) rfl rfl (by decide) r_8_2 ?_
      refine g_n 3 (j' := 20) (lv' := [some (.ref 8), some (.int (nI b)), some (.retAddr 5), some (.int (nI i))]) (st' := [.int ((nI b) + (nI i)), .ref 7]) (h' := (shT, fi, fl, fr)) rfl ?_
      refine g_bald (k := b + i) (x := F (b + i)) rfl rfl (by decide) (nI_add b i) (by omega) (by decide) (eF _) ?_
      refine g_n 2 (j' := 23) (lv' := [some (.ref 8), some (.int (nI b)), some (.retAddr 5), some (.int (nI i))]) (st' := [.int (nI i), .retAddr 5, .int (F (b + i))]) (h' := (shT, fi, fl, fr)) rfl ?_
      refine g_call (y := 23) (as := [.retAddr 5, .int (nI i)]) (st' := [.int (F (b + i))]) rfl rfl (c1) ?_
      refine g_icf rfl (show ¬ ((F (b + i)) = ((wd 5).getD i 0)) from hc) ?_
      refine g_n 1 (j' := 26) (lv' := [some (.ref 8), some (.int (nI b)), some (.retAddr 5), some (.int (nI i))]) (st' := [.int 0]) (h' := (shT, fi, fl, fr)) rfl ?_
      exact g_retz rfl (by decide)
theorem iw_ev_5 {F : Nat → Int32} {t e b : Nat} {h : PmH} (ht : t ≤ 200) (hP : pc_P F t e h) (hb : b ≤ e) (he : e ≤ t) : Ev pmT 20 [.ref 8, .int (nI b), .retAddr 5] h (some (.int (b01 (isW F b e (wd 5))))) h := by
  have l1 := ln_ev (h := h) 5 (by decide)
  refine Ev.of (es := cd_20) (ml := 4) (lv := [some (.ref 8), some (.int (nI b)), some (.retAddr 5), none]) rfl rfl rfl ?_
  have es := pk_sub hb
  have hL : (wd 5).length ≤ 5 := by decide
  by_cases hc : e - b = (wd 5).length
  · have g := iw_go_5 ht hP (show b + (wd 5).length ≤ t by omega) (wd 5).length 0 (by omega)
    have e1 : isW F b e (wd 5) = isn F b (wd 5) (wd 5).length 0 := by
      unfold isW
      rw [decide_eq_true hc]
      rfl
    rw [e1]
    obtain ⟨S, fi, fl, fr⟩ := h
    have hS : S = shT := hP.1.1
    subst hS
    have r_8_2 : fr 8 2 = some 7 := hP.2.1
    have e3 : fi 8 3 = nI t := hP.2.2.1
    have e4 : fi 8 4 = nI e := hP.2.2.2.1
    have eF : ∀ s, fi 7 s = F s := hP.2.2.2.2
    refine g_n 1 (j' := 1) (lv' := [some (.ref 8), some (.int (nI b)), some (.retAddr 5), none]) (st' := [.ref 8]) (h' := (shT, fi, fl, fr)) rfl ?_
    refine g_getI (x := nI e) rfl (Or.inl rfl) rfl (by decide) (e4) ?_
    refine g_n 2 (j' := 4) (lv' := [some (.ref 8), some (.int (nI b)), some (.retAddr 5), none]) (st' := [.int ((nI e) - (nI b))]) (h' := (shT, fi, fl, fr)) rfl ?_
    rw [es]
    refine g_n 1 (j' := 5) (lv' := [some (.ref 8), some (.int (nI b)), some (.retAddr 5), none]) (st' := [.retAddr 5, .int (nI (e - b))]) (h' := (shT, fi, fl, fr)) rfl ?_
    refine g_call (y := 21) (as := [.retAddr 5]) (st' := [.int (nI (e - b))]) rfl rfl (l1) ?_
    refine g_ict rfl (show (nI (e - b)) = (nI (wd 5).length) from by rw [hc]) ?_
    refine g_n 2 (j' := 11) (lv' := [some (.ref 8), some (.int (nI b)), some (.retAddr 5), some (.int (nI 0))]) (st' := []) (h' := (shT, fi, fl, fr)) rfl ?_
    exact g
  · have e1 : isW F b e (wd 5) = false := by
      unfold isW
      rw [decide_eq_false hc]
      rfl
    rw [e1]
    obtain ⟨S, fi, fl, fr⟩ := h
    have hS : S = shT := hP.1.1
    subst hS
    have r_8_2 : fr 8 2 = some 7 := hP.2.1
    have e3 : fi 8 3 = nI t := hP.2.2.1
    have e4 : fi 8 4 = nI e := hP.2.2.2.1
    have eF : ∀ s, fi 7 s = F s := hP.2.2.2.2
    refine g_n 1 (j' := 1) (lv' := [some (.ref 8), some (.int (nI b)), some (.retAddr 5), none]) (st' := [.ref 8]) (h' := (shT, fi, fl, fr)) rfl ?_
    refine g_getI (x := nI e) rfl (Or.inl rfl) rfl (by decide) (e4) ?_
    refine g_n 2 (j' := 4) (lv' := [some (.ref 8), some (.int (nI b)), some (.retAddr 5), none]) (st' := [.int ((nI e) - (nI b))]) (h' := (shT, fi, fl, fr)) rfl ?_
    rw [es]
    refine g_n 1 (j' := 5) (lv' := [some (.ref 8), some (.int (nI b)), some (.retAddr 5), none]) (st' := [.retAddr 5, .int (nI (e - b))]) (h' := (shT, fi, fl, fr)) rfl ?_
    refine g_call (y := 21) (as := [.retAddr 5]) (st' := [.int (nI (e - b))]) rfl rfl (l1) ?_
    refine g_icf rfl (show ¬ ((nI (e - b)) = (nI (wd 5).length)) from fun z => hc ((nI_eq (by omega) (by omega)).mp z)) ?_
    refine g_n 1 (j' := 8) (lv' := [some (.ref 8), some (.int (nI b)), some (.retAddr 5), none]) (st' := [.int 0]) (h' := (shT, fi, fl, fr)) rfl ?_
    exact g_retz rfl (by decide)
/-- which word: keep 1, info 2, check 3, erase 4, list 5; else 0 -/
def whW (F : Nat → Int32) (b e : Nat) : Nat := if isW F b e (wd 1) = true then 1 else if isW F b e (wd 2) = true then 2 else if isW F b e (wd 3) = true then 3 else if isW F b e (wd 4) = true then 4 else if isW F b e (wd 5) = true then 5 else 0
theorem ww_ev {F : Nat → Int32} {t e b : Nat} {h : PmH} (ht : t ≤ 200) (hP : pc_P F t e h) (hb : b ≤ e) (he : e ≤ t) : Ev pmT 37 [.ref 8, .int (nI b)] h (some (.int (nI (whW F b e)))) h := by
  refine Ev.of (es := cd_37) (ml := 2) (lv := [some (.ref 8), some (.int (nI b))]) rfl rfl rfl ?_
  have i1 := iw_ev_1 ht hP hb he
  have i2 := iw_ev_2 ht hP hb he
  have i3 := iw_ev_3 ht hP hb he
  have i4 := iw_ev_4 ht hP hb he
  have i5 := iw_ev_5 ht hP hb he
  obtain ⟨S, fi, fl, fr⟩ := h
  have hS : S = shT := hP.1.1
  subst hS
  have r_8_2 : fr 8 2 = some 7 := hP.2.1
  have e3 : fi 8 3 = nI t := hP.2.2.1
  have e4 : fi 8 4 = nI e := hP.2.2.2.1
  have eF : ∀ s, fi 7 s = F s := hP.2.2.2.2
  unfold whW
  by_cases c1 : isW F b e (wd 1) = true
  · rw [if_pos c1]
    rw [c1] at i1
    refine g_n 3 (j' := 3) (lv' := [some (.ref 8), some (.int (nI b))]) (st' := [.retAddr 1, .int (nI b), .ref 8]) (h' := (shT, fi, fl, fr)) rfl ?_
    refine g_call (y := 20) (as := [.ref 8, .int (nI b), .retAddr 1]) (st' := []) rfl rfl (i1) ?_
    refine g_iff rfl (show ¬ ((1 : Int32) = (0 : Int32)) from by decide) ?_
    refine g_n 1 (j' := 6) (lv' := [some (.ref 8), some (.int (nI b))]) (st' := [.int 1]) (h' := (shT, fi, fl, fr)) rfl ?_
    exact g_ret rfl
  · rw [if_neg c1]
    rw [Bool.eq_false_iff.mpr c1] at i1
    by_cases c2 : isW F b e (wd 2) = true
    · rw [if_pos c2]
      rw [c2] at i2
      refine g_n 3 (j' := 3) (lv' := [some (.ref 8), some (.int (nI b))]) (st' := [.retAddr 1, .int (nI b), .ref 8]) (h' := (shT, fi, fl, fr)) rfl ?_
      refine g_call (y := 20) (as := [.ref 8, .int (nI b), .retAddr 1]) (st' := []) rfl rfl (i1) ?_
      refine g_ift rfl (show (0 : Int32) = (0 : Int32) from rfl) ?_
      refine g_n 3 (j' := 10) (lv' := [some (.ref 8), some (.int (nI b))]) (st' := [.retAddr 2, .int (nI b), .ref 8]) (h' := (shT, fi, fl, fr)) rfl ?_
      refine g_call (y := 20) (as := [.ref 8, .int (nI b), .retAddr 2]) (st' := []) rfl rfl (i2) ?_
      refine g_iff rfl (show ¬ ((1 : Int32) = (0 : Int32)) from by decide) ?_
      refine g_n 1 (j' := 13) (lv' := [some (.ref 8), some (.int (nI b))]) (st' := [.int 2]) (h' := (shT, fi, fl, fr)) rfl ?_
      exact g_ret rfl
    · rw [if_neg c2]
      rw [Bool.eq_false_iff.mpr c2] at i2
      by_cases c3 : isW F b e (wd 3) = true
      · rw [if_pos c3]
        rw [c3] at i3
        refine g_n 3 (j' := 3) (lv' := [some (.ref 8), some (.int (nI b))]) (st' := [.retAddr 1, .int (nI b), .ref 8]) (h' := (shT, fi, fl, fr)) rfl ?_
        refine g_call (y := 20) (as := [.ref 8, .int (nI b), .retAddr 1]) (st' := []) rfl rfl (i1) ?_
        refine g_ift rfl (show (0 : Int32) = (0 : Int32) from rfl) ?_
        refine g_n 3 (j' := 10) (lv' := [some (.ref 8), some (.int (nI b))]) (st' := [.retAddr 2, .int (nI b), .ref 8]) (h' := (shT, fi, fl, fr)) rfl ?_
        refine g_call (y := 20) (as := [.ref 8, .int (nI b), .retAddr 2]) (st' := []) rfl rfl (i2) ?_
        refine g_ift rfl (show (0 : Int32) = (0 : Int32) from rfl) ?_
        refine g_n 3 (j' := 17) (lv' := [some (.ref 8), some (.int (nI b))]) (st' := [.retAddr 3, .int (nI b), .ref 8]) (h' := (shT, fi, fl, fr)) rfl ?_
        refine g_call (y := 20) (as := [.ref 8, .int (nI b), .retAddr 3]) (st' := []) rfl rfl (i3) ?_
        refine g_iff rfl (show ¬ ((1 : Int32) = (0 : Int32)) from by decide) ?_
        refine g_n 1 (j' := 20) (lv' := [some (.ref 8), some (.int (nI b))]) (st' := [.int 3]) (h' := (shT, fi, fl, fr)) rfl ?_
        exact g_ret rfl
      · rw [if_neg c3]
        rw [Bool.eq_false_iff.mpr c3] at i3
        by_cases c4 : isW F b e (wd 4) = true
        · rw [if_pos c4]
          rw [c4] at i4
          refine g_n 3 (j' := 3) (lv' := [some (.ref 8), some (.int (nI b))]) (st' := [.retAddr 1, .int (nI b), .ref 8]) (h' := (shT, fi, fl, fr)) rfl ?_
          refine g_call (y := 20) (as := [.ref 8, .int (nI b), .retAddr 1]) (st' := []) rfl rfl (i1) ?_
          refine g_ift rfl (show (0 : Int32) = (0 : Int32) from rfl) ?_
          refine g_n 3 (j' := 10) (lv' := [some (.ref 8), some (.int (nI b))]) (st' := [.retAddr 2, .int (nI b), .ref 8]) (h' := (shT, fi, fl, fr)) rfl ?_
          refine g_call (y := 20) (as := [.ref 8, .int (nI b), .retAddr 2]) (st' := []) rfl rfl (i2) ?_
          refine g_ift rfl (show (0 : Int32) = (0 : Int32) from rfl) ?_
          refine g_n 3 (j' := 17) (lv' := [some (.ref 8), some (.int (nI b))]) (st' := [.retAddr 3, .int (nI b), .ref 8]) (h' := (shT, fi, fl, fr)) rfl ?_
          refine g_call (y := 20) (as := [.ref 8, .int (nI b), .retAddr 3]) (st' := []) rfl rfl (i3) ?_
          refine g_ift rfl (show (0 : Int32) = (0 : Int32) from rfl) ?_
          refine g_n 3 (j' := 24) (lv' := [some (.ref 8), some (.int (nI b))]) (st' := [.retAddr 4, .int (nI b), .ref 8]) (h' := (shT, fi, fl, fr)) rfl ?_
          refine g_call (y := 20) (as := [.ref 8, .int (nI b), .retAddr 4]) (st' := []) rfl rfl (i4) ?_
          refine g_iff rfl (show ¬ ((1 : Int32) = (0 : Int32)) from by decide) ?_
          refine g_n 1 (j' := 27) (lv' := [some (.ref 8), some (.int (nI b))]) (st' := [.int 4]) (h' := (shT, fi, fl, fr)) rfl ?_
          exact g_ret rfl
        · rw [if_neg c4]
          rw [Bool.eq_false_iff.mpr c4] at i4
          by_cases c5 : isW F b e (wd 5) = true
          · rw [if_pos c5]
            rw [c5] at i5
            refine g_n 3 (j' := 3) (lv' := [some (.ref 8), some (.int (nI b))]) (st' := [.retAddr 1, .int (nI b), .ref 8]) (h' := (shT, fi, fl, fr)) rfl ?_
            refine g_call (y := 20) (as := [.ref 8, .int (nI b), .retAddr 1]) (st' := []) rfl rfl (i1) ?_
            refine g_ift rfl (show (0 : Int32) = (0 : Int32) from rfl) ?_
            refine g_n 3 (j' := 10) (lv' := [some (.ref 8), some (.int (nI b))]) (st' := [.retAddr 2, .int (nI b), .ref 8]) (h' := (shT, fi, fl, fr)) rfl ?_
            refine g_call (y := 20) (as := [.ref 8, .int (nI b), .retAddr 2]) (st' := []) rfl rfl (i2) ?_
            refine g_ift rfl (show (0 : Int32) = (0 : Int32) from rfl) ?_
            refine g_n 3 (j' := 17) (lv' := [some (.ref 8), some (.int (nI b))]) (st' := [.retAddr 3, .int (nI b), .ref 8]) (h' := (shT, fi, fl, fr)) rfl ?_
            refine g_call (y := 20) (as := [.ref 8, .int (nI b), .retAddr 3]) (st' := []) rfl rfl (i3) ?_
            refine g_ift rfl (show (0 : Int32) = (0 : Int32) from rfl) ?_
            refine g_n 3 (j' := 24) (lv' := [some (.ref 8), some (.int (nI b))]) (st' := [.retAddr 4, .int (nI b), .ref 8]) (h' := (shT, fi, fl, fr)) rfl ?_
            refine g_call (y := 20) (as := [.ref 8, .int (nI b), .retAddr 4]) (st' := []) rfl rfl (i4) ?_
            refine g_ift rfl (show (0 : Int32) = (0 : Int32) from rfl) ?_
            refine g_n 3 (j' := 31) (lv' := [some (.ref 8), some (.int (nI b))]) (st' := [.retAddr 5, .int (nI b), .ref 8]) (h' := (shT, fi, fl, fr)) rfl ?_
            refine g_call (y := 20) (as := [.ref 8, .int (nI b), .retAddr 5]) (st' := []) rfl rfl (i5) ?_
            refine g_iff rfl (show ¬ ((1 : Int32) = (0 : Int32)) from by decide) ?_
            refine g_n 2 (j' := 36) (lv' := [some (.ref 8), some (.int (nI b))]) (st' := [.int 5]) (h' := (shT, fi, fl, fr)) rfl ?_
            exact g_ret rfl
          · rw [if_neg c5]
            rw [Bool.eq_false_iff.mpr c5] at i5
            refine g_n 3 (j' := 3) (lv' := [some (.ref 8), some (.int (nI b))]) (st' := [.retAddr 1, .int (nI b), .ref 8]) (h' := (shT, fi, fl, fr)) rfl ?_
            refine g_call (y := 20) (as := [.ref 8, .int (nI b), .retAddr 1]) (st' := []) rfl rfl (i1) ?_
            refine g_ift rfl (show (0 : Int32) = (0 : Int32) from rfl) ?_
            refine g_n 3 (j' := 10) (lv' := [some (.ref 8), some (.int (nI b))]) (st' := [.retAddr 2, .int (nI b), .ref 8]) (h' := (shT, fi, fl, fr)) rfl ?_
            refine g_call (y := 20) (as := [.ref 8, .int (nI b), .retAddr 2]) (st' := []) rfl rfl (i2) ?_
            refine g_ift rfl (show (0 : Int32) = (0 : Int32) from rfl) ?_
            refine g_n 3 (j' := 17) (lv' := [some (.ref 8), some (.int (nI b))]) (st' := [.retAddr 3, .int (nI b), .ref 8]) (h' := (shT, fi, fl, fr)) rfl ?_
            refine g_call (y := 20) (as := [.ref 8, .int (nI b), .retAddr 3]) (st' := []) rfl rfl (i3) ?_
            refine g_ift rfl (show (0 : Int32) = (0 : Int32) from rfl) ?_
            refine g_n 3 (j' := 24) (lv' := [some (.ref 8), some (.int (nI b))]) (st' := [.retAddr 4, .int (nI b), .ref 8]) (h' := (shT, fi, fl, fr)) rfl ?_
            refine g_call (y := 20) (as := [.ref 8, .int (nI b), .retAddr 4]) (st' := []) rfl rfl (i4) ?_
            refine g_ift rfl (show (0 : Int32) = (0 : Int32) from rfl) ?_
            refine g_n 3 (j' := 31) (lv' := [some (.ref 8), some (.int (nI b))]) (st' := [.retAddr 5, .int (nI b), .ref 8]) (h' := (shT, fi, fl, fr)) rfl ?_
            refine g_call (y := 20) (as := [.ref 8, .int (nI b), .retAddr 5]) (st' := []) rfl rfl (i5) ?_
            refine g_ift rfl (show (0 : Int32) = (0 : Int32) from rfl) ?_
            refine g_n 1 (j' := 36) (lv' := [some (.ref 8), some (.int (nI b))]) (st' := [.int 0]) (h' := (shT, fi, fl, fr)) rfl ?_
            exact g_ret rfl
