def coS (s : Int32) (t : Bool) : Int32 := if t = true then (if 0 < s then s else 0) else (if s < 0 then -s else 0)
theorem abM_ev {a : Int32} {h : PmH} : Ev pmT 195 [.int a] h (some (.int (abS a))) h := by
  refine Ev.of (es := cd_195) (ml := 1) (lv := [some (.int a)]) rfl rfl rfl ?_
  refine go_of ?_
  unfold abS
  by_cases h0 : a < 0
  · rw [if_pos h0]
    refine gp_n 1 (j' := 1) (lv' := [some (.int a)]) (st' := [.int a]) (h' := h) rfl ?_
    refine gp_of (fun _ k9 => g_iff rfl (show ¬ ((0 : Int32) ≤ a) from Int32.not_le.mpr h0) k9) ?_
    refine gp_n 3 (j' := 6) (lv' := [some (.int a)]) (st' := [.int (-a)]) (h' := h) rfl ?_
    refine gp_done (g_ret rfl) ?_
    rfl
  · rw [if_neg h0]
    refine gp_n 1 (j' := 1) (lv' := [some (.int a)]) (st' := [.int a]) (h' := h) rfl ?_
    refine gp_of (fun _ k9 => g_ift rfl (show (0 : Int32) ≤ a from Int32.not_lt.mp h0) k9) ?_
    refine gp_n 1 (j' := 6) (lv' := [some (.int a)]) (st' := [.int a]) (h' := h) rfl ?_
    refine gp_done (g_ret rfl) ?_
    rfl
theorem coM_ev {s : Int32} {t : Bool} {h : PmH} : Ev pmT 196 [.int s, .int (b01 t)] h (some (.int (coS s t))) h := by
  refine Ev.of (es := cd_196) (ml := 2) (lv := [some (.int s), some (.int (b01 t))]) rfl rfl rfl ?_
  refine go_of ?_
  unfold coS
  cases t
  · rw [if_neg (by decide)]
    show GoP pmT none cd_196 0 [some (.int s), some (.int 0)] _ _ _
    by_cases h0 : s < 0
    · rw [if_pos h0]
      refine gp_n 1 (j' := 1) (lv' := [some (.int s), some (.int 0)]) (st' := [.int 0]) (h' := h) rfl ?_
      refine gp_of (fun _ k9 => g_iff rfl (show ¬ (¬ (0 : Int32) = (0 : Int32)) from by decide) k9) ?_
      refine gp_n 1 (j' := 3) (lv' := [some (.int s), some (.int 0)]) (st' := [.int s]) (h' := h) rfl ?_
      refine gp_of (fun _ k9 => g_iff rfl (show ¬ ((0 : Int32) ≤ s) from Int32.not_le.mpr h0) k9) ?_
      refine gp_n 3 (j' := 14) (lv' := [some (.int s), some (.int 0)]) (st' := [.int (-s)]) (h' := h) rfl ?_
      refine gp_done (g_ret rfl) ?_
      rfl
    · rw [if_neg h0]
      refine gp_n 1 (j' := 1) (lv' := [some (.int s), some (.int 0)]) (st' := [.int 0]) (h' := h) rfl ?_
      refine gp_of (fun _ k9 => g_iff rfl (show ¬ (¬ (0 : Int32) = (0 : Int32)) from by decide) k9) ?_
      refine gp_n 1 (j' := 3) (lv' := [some (.int s), some (.int 0)]) (st' := [.int s]) (h' := h) rfl ?_
      refine gp_of (fun _ k9 => g_ift rfl (show (0 : Int32) ≤ s from Int32.not_lt.mp h0) k9) ?_
      refine gp_n 2 (j' := 14) (lv' := [some (.int s), some (.int 0)]) (st' := [.int 0]) (h' := h) rfl ?_
      refine gp_done (g_ret rfl) ?_
      rfl
  · rw [if_pos rfl]
    show GoP pmT none cd_196 0 [some (.int s), some (.int 1)] _ _ _
    by_cases h0 : 0 < s
    · rw [if_pos h0]
      refine gp_n 1 (j' := 1) (lv' := [some (.int s), some (.int 1)]) (st' := [.int 1]) (h' := h) rfl ?_
      refine gp_of (fun _ k9 => g_ift rfl (show ¬ (1 : Int32) = (0 : Int32) from by decide) k9) ?_
      refine gp_n 1 (j' := 10) (lv' := [some (.int s), some (.int 1)]) (st' := [.int s]) (h' := h) rfl ?_
      refine gp_of (fun _ k9 => g_iff rfl (show ¬ (s ≤ (0 : Int32)) from Int32.not_le.mpr h0) k9) ?_
      refine gp_n 2 (j' := 14) (lv' := [some (.int s), some (.int 1)]) (st' := [.int s]) (h' := h) rfl ?_
      refine gp_done (g_ret rfl) ?_
      rfl
    · rw [if_neg h0]
      refine gp_n 1 (j' := 1) (lv' := [some (.int s), some (.int 1)]) (st' := [.int 1]) (h' := h) rfl ?_
      refine gp_of (fun _ k9 => g_ift rfl (show ¬ (1 : Int32) = (0 : Int32) from by decide) k9) ?_
      refine gp_n 1 (j' := 10) (lv' := [some (.int s), some (.int 1)]) (st' := [.int s]) (h' := h) rfl ?_
      refine gp_of (fun _ k9 => g_ift rfl (show s ≤ (0 : Int32) from Int32.not_lt.mp h0) k9) ?_
      refine gp_n 1 (j' := 14) (lv' := [some (.int s), some (.int 1)]) (st' := [.int 0]) (h' := h) rfl ?_
      refine gp_done (g_ret rfl) ?_
      rfl
theorem lnl_2 {w : Int64} {b z e q x y : Int32} {H j : Nat} {l9 : Option Value} {fi : Nat → Nat → Int32} {fl : Nat → Nat → Int64} {fr : Nat → Nat → Option Nat} (hH : H ≤ 32) (hj : j < H) (k24 : fr 70 24 = some 75) (xj : fi 75 j = x) (yj : fi 75 (j + H) = y) (hq : q = miS (abS x) (abS y)) {r : Option Value × PmH} (g : Go pmT none cd_194 33 [some (.ref 70), some (.long w), none, some (.int b), some (.int z), some (.int e), some (.int (nI H)), some (.int (nI (j + 1))), some (.int q), l9] [] (shT, pm_u2 fi 75 j (lSm x y), fl, fr) r) : Go pmT none cd_194 63 [some (.ref 70), some (.long w), none, some (.int b), some (.int z), some (.int e), some (.int (nI H)), some (.int (nI j)), some (.int q), l9] [] (shT, fi, fl, fr) r := by
  unfold lSm at g
  rw [← hq] at g
  refine go_of ?_
  by_cases h1 : x < 0
  · by_cases h2 : y < 0
    · rw [decide_eq_true h1, decide_eq_true h2, if_pos rfl] at g
      refine gp_n 1 (j' := 64) (lv' := [some (.ref 70), some (.long w), none, some (.int b), some (.int z), some (.int e), some (.int (nI H)), some (.int (nI j)), some (.int q), l9]) (st' := [.ref 70]) (h' := (shT, fi, fl, fr)) rfl ?_
      refine gp_of (fun _ k9 => g_getR (q' := 75) rfl rfl (by decide) k24 k9) ?_
      refine gp_n 2 (j' := 67) (lv' := [some (.ref 70), some (.long w), none, some (.int b), some (.int z), some (.int e), some (.int (nI H)), some (.int (nI j)), some (.int q), l9]) (st' := [.ref 70, .int (nI j), .ref 75]) (h' := (shT, fi, fl, fr)) rfl ?_
      refine gp_of (fun _ k9 => g_getR (q' := 75) rfl rfl (by decide) k24 k9) ?_
      refine gp_n 1 (j' := 69) (lv' := [some (.ref 70), some (.long w), none, some (.int b), some (.int z), some (.int e), some (.int (nI H)), some (.int (nI j)), some (.int q), l9]) (st' := [.int (nI j), .ref 75, .int (nI j), .ref 75]) (h' := (shT, fi, fl, fr)) rfl ?_
      refine gp_of (fun _ k9 => g_iald (k := j) (x := x) rfl rfl (rfl) (by omega) (by decide) (xj) k9) ?_
      refine gp_of (fun _ k9 => g_iff rfl (show ¬ ((0 : Int32) ≤ x) from Int32.not_le.mpr h1) k9) ?_
      refine gp_n 3 (j' := 75) (lv' := [some (.ref 70), some (.long w), none, some (.int b), some (.int z), some (.int e), some (.int (nI H)), some (.int (nI j)), some (.int q), l9]) (st' := [.ref 70, .int 1, .int (nI j), .ref 75]) (h' := (shT, fi, fl, fr)) rfl ?_
      refine gp_of (fun _ k9 => g_getR (q' := 75) rfl rfl (by decide) k24 k9) ?_
      refine gp_n 3 (j' := 79) (lv' := [some (.ref 70), some (.long w), none, some (.int b), some (.int z), some (.int e), some (.int (nI H)), some (.int (nI j)), some (.int q), l9]) (st' := [.int ((nI j) + (nI H)), .ref 75, .int 1, .int (nI j), .ref 75]) (h' := (shT, fi, fl, fr)) rfl ?_
      refine gp_of (fun _ k9 => g_iald (k := j + H) (x := y) rfl rfl (nI_add j H) (by omega) (by decide) (yj) k9) ?_
      refine gp_of (fun _ k9 => g_iff rfl (show ¬ ((0 : Int32) ≤ y) from Int32.not_le.mpr h2) k9) ?_
      refine gp_n 2 (j' := 84) (lv' := [some (.ref 70), some (.long w), none, some (.int b), some (.int z), some (.int e), some (.int (nI H)), some (.int (nI j)), some (.int q), l9]) (st' := [.int 1, .int 1, .int (nI j), .ref 75]) (h' := (shT, fi, fl, fr)) rfl ?_
      refine gp_of (fun _ k9 => g_ict rfl (show (1 : Int32) = (1 : Int32) from by decide) k9) ?_
      refine gp_n 1 (j' := 89) (lv' := [some (.ref 70), some (.long w), none, some (.int b), some (.int z), some (.int e), some (.int (nI H)), some (.int (nI j)), some (.int q), l9]) (st' := [.int q, .int (nI j), .ref 75]) (h' := (shT, fi, fl, fr)) rfl ?_
      refine gp_of (fun _ k9 => g_iast (k := j) rfl rfl (rfl) (by omega) (by decide) k9) ?_
      refine gp_n 2 (j' := 33) (lv' := [some (.ref 70), some (.long w), none, some (.int b), some (.int z), some (.int e), some (.int (nI H)), some (.int ((nI j) + 1)), some (.int q), l9]) (st' := []) (h' := (shT, pm_u2 fi 75 j q, fl, fr)) rfl ?_
      rw [nI_1]
      exact gp_done g rfl
    · rw [decide_eq_true h1, decide_eq_false h2, if_neg (by decide)] at g
      refine gp_n 1 (j' := 64) (lv' := [some (.ref 70), some (.long w), none, some (.int b), some (.int z), some (.int e), some (.int (nI H)), some (.int (nI j)), some (.int q), l9]) (st' := [.ref 70]) (h' := (shT, fi, fl, fr)) rfl ?_
      refine gp_of (fun _ k9 => g_getR (q' := 75) rfl rfl (by decide) k24 k9) ?_
      refine gp_n 2 (j' := 67) (lv' := [some (.ref 70), some (.long w), none, some (.int b), some (.int z), some (.int e), some (.int (nI H)), some (.int (nI j)), some (.int q), l9]) (st' := [.ref 70, .int (nI j), .ref 75]) (h' := (shT, fi, fl, fr)) rfl ?_
      refine gp_of (fun _ k9 => g_getR (q' := 75) rfl rfl (by decide) k24 k9) ?_
      refine gp_n 1 (j' := 69) (lv' := [some (.ref 70), some (.long w), none, some (.int b), some (.int z), some (.int e), some (.int (nI H)), some (.int (nI j)), some (.int q), l9]) (st' := [.int (nI j), .ref 75, .int (nI j), .ref 75]) (h' := (shT, fi, fl, fr)) rfl ?_
      refine gp_of (fun _ k9 => g_iald (k := j) (x := x) rfl rfl (rfl) (by omega) (by decide) (xj) k9) ?_
      refine gp_of (fun _ k9 => g_iff rfl (show ¬ ((0 : Int32) ≤ x) from Int32.not_le.mpr h1) k9) ?_
      refine gp_n 3 (j' := 75) (lv' := [some (.ref 70), some (.long w), none, some (.int b), some (.int z), some (.int e), some (.int (nI H)), some (.int (nI j)), some (.int q), l9]) (st' := [.ref 70, .int 1, .int (nI j), .ref 75]) (h' := (shT, fi, fl, fr)) rfl ?_
      refine gp_of (fun _ k9 => g_getR (q' := 75) rfl rfl (by decide) k24 k9) ?_
      refine gp_n 3 (j' := 79) (lv' := [some (.ref 70), some (.long w), none, some (.int b), some (.int z), some (.int e), some (.int (nI H)), some (.int (nI j)), some (.int q), l9]) (st' := [.int ((nI j) + (nI H)), .ref 75, .int 1, .int (nI j), .ref 75]) (h' := (shT, fi, fl, fr)) rfl ?_
      refine gp_of (fun _ k9 => g_iald (k := j + H) (x := y) rfl rfl (nI_add j H) (by omega) (by decide) (yj) k9) ?_
      refine gp_of (fun _ k9 => g_ift rfl (show (0 : Int32) ≤ y from Int32.not_lt.mp h2) k9) ?_
      refine gp_n 1 (j' := 84) (lv' := [some (.ref 70), some (.long w), none, some (.int b), some (.int z), some (.int e), some (.int (nI H)), some (.int (nI j)), some (.int q), l9]) (st' := [.int 0, .int 1, .int (nI j), .ref 75]) (h' := (shT, fi, fl, fr)) rfl ?_
      refine gp_of (fun _ k9 => g_icf rfl (show ¬ ((1 : Int32) = (0 : Int32)) from by decide) k9) ?_
      refine gp_n 3 (j' := 89) (lv' := [some (.ref 70), some (.long w), none, some (.int b), some (.int z), some (.int e), some (.int (nI H)), some (.int (nI j)), some (.int q), l9]) (st' := [.int (-q), .int (nI j), .ref 75]) (h' := (shT, fi, fl, fr)) rfl ?_
      refine gp_of (fun _ k9 => g_iast (k := j) rfl rfl (rfl) (by omega) (by decide) k9) ?_
      refine gp_n 2 (j' := 33) (lv' := [some (.ref 70), some (.long w), none, some (.int b), some (.int z), some (.int e), some (.int (nI H)), some (.int ((nI j) + 1)), some (.int q), l9]) (st' := []) (h' := (shT, pm_u2 fi 75 j (-q), fl, fr)) rfl ?_
      rw [nI_1]
      exact gp_done g rfl
  · by_cases h2 : y < 0
    · rw [decide_eq_false h1, decide_eq_true h2, if_neg (by decide)] at g
      refine gp_n 1 (j' := 64) (lv' := [some (.ref 70), some (.long w), none, some (.int b), some (.int z), some (.int e), some (.int (nI H)), some (.int (nI j)), some (.int q), l9]) (st' := [.ref 70]) (h' := (shT, fi, fl, fr)) rfl ?_
      refine gp_of (fun _ k9 => g_getR (q' := 75) rfl rfl (by decide) k24 k9) ?_
      refine gp_n 2 (j' := 67) (lv' := [some (.ref 70), some (.long w), none, some (.int b), some (.int z), some (.int e), some (.int (nI H)), some (.int (nI j)), some (.int q), l9]) (st' := [.ref 70, .int (nI j), .ref 75]) (h' := (shT, fi, fl, fr)) rfl ?_
      refine gp_of (fun _ k9 => g_getR (q' := 75) rfl rfl (by decide) k24 k9) ?_
      refine gp_n 1 (j' := 69) (lv' := [some (.ref 70), some (.long w), none, some (.int b), some (.int z), some (.int e), some (.int (nI H)), some (.int (nI j)), some (.int q), l9]) (st' := [.int (nI j), .ref 75, .int (nI j), .ref 75]) (h' := (shT, fi, fl, fr)) rfl ?_
      refine gp_of (fun _ k9 => g_iald (k := j) (x := x) rfl rfl (rfl) (by omega) (by decide) (xj) k9) ?_
      refine gp_of (fun _ k9 => g_ift rfl (show (0 : Int32) ≤ x from Int32.not_lt.mp h1) k9) ?_
      refine gp_n 2 (j' := 75) (lv' := [some (.ref 70), some (.long w), none, some (.int b), some (.int z), some (.int e), some (.int (nI H)), some (.int (nI j)), some (.int q), l9]) (st' := [.ref 70, .int 0, .int (nI j), .ref 75]) (h' := (shT, fi, fl, fr)) rfl ?_
      refine gp_of (fun _ k9 => g_getR (q' := 75) rfl rfl (by decide) k24 k9) ?_
      refine gp_n 3 (j' := 79) (lv' := [some (.ref 70), some (.long w), none, some (.int b), some (.int z), some (.int e), some (.int (nI H)), some (.int (nI j)), some (.int q), l9]) (st' := [.int ((nI j) + (nI H)), .ref 75, .int 0, .int (nI j), .ref 75]) (h' := (shT, fi, fl, fr)) rfl ?_
      refine gp_of (fun _ k9 => g_iald (k := j + H) (x := y) rfl rfl (nI_add j H) (by omega) (by decide) (yj) k9) ?_
      refine gp_of (fun _ k9 => g_iff rfl (show ¬ ((0 : Int32) ≤ y) from Int32.not_le.mpr h2) k9) ?_
      refine gp_n 2 (j' := 84) (lv' := [some (.ref 70), some (.long w), none, some (.int b), some (.int z), some (.int e), some (.int (nI H)), some (.int (nI j)), some (.int q), l9]) (st' := [.int 1, .int 0, .int (nI j), .ref 75]) (h' := (shT, fi, fl, fr)) rfl ?_
      refine gp_of (fun _ k9 => g_icf rfl (show ¬ ((0 : Int32) = (1 : Int32)) from by decide) k9) ?_
      refine gp_n 3 (j' := 89) (lv' := [some (.ref 70), some (.long w), none, some (.int b), some (.int z), some (.int e), some (.int (nI H)), some (.int (nI j)), some (.int q), l9]) (st' := [.int (-q), .int (nI j), .ref 75]) (h' := (shT, fi, fl, fr)) rfl ?_
      refine gp_of (fun _ k9 => g_iast (k := j) rfl rfl (rfl) (by omega) (by decide) k9) ?_
      refine gp_n 2 (j' := 33) (lv' := [some (.ref 70), some (.long w), none, some (.int b), some (.int z), some (.int e), some (.int (nI H)), some (.int ((nI j) + 1)), some (.int q), l9]) (st' := []) (h' := (shT, pm_u2 fi 75 j (-q), fl, fr)) rfl ?_
      rw [nI_1]
      exact gp_done g rfl
    · rw [decide_eq_false h1, decide_eq_false h2, if_pos rfl] at g
      refine gp_n 1 (j' := 64) (lv' := [some (.ref 70), some (.long w), none, some (.int b), some (.int z), some (.int e), some (.int (nI H)), some (.int (nI j)), some (.int q), l9]) (st' := [.ref 70]) (h' := (shT, fi, fl, fr)) rfl ?_
      refine gp_of (fun _ k9 => g_getR (q' := 75) rfl rfl (by decide) k24 k9) ?_
      refine gp_n 2 (j' := 67) (lv' := [some (.ref 70), some (.long w), none, some (.int b), some (.int z), some (.int e), some (.int (nI H)), some (.int (nI j)), some (.int q), l9]) (st' := [.ref 70, .int (nI j), .ref 75]) (h' := (shT, fi, fl, fr)) rfl ?_
      refine gp_of (fun _ k9 => g_getR (q' := 75) rfl rfl (by decide) k24 k9) ?_
      refine gp_n 1 (j' := 69) (lv' := [some (.ref 70), some (.long w), none, some (.int b), some (.int z), some (.int e), some (.int (nI H)), some (.int (nI j)), some (.int q), l9]) (st' := [.int (nI j), .ref 75, .int (nI j), .ref 75]) (h' := (shT, fi, fl, fr)) rfl ?_
      refine gp_of (fun _ k9 => g_iald (k := j) (x := x) rfl rfl (rfl) (by omega) (by decide) (xj) k9) ?_
      refine gp_of (fun _ k9 => g_ift rfl (show (0 : Int32) ≤ x from Int32.not_lt.mp h1) k9) ?_
      refine gp_n 2 (j' := 75) (lv' := [some (.ref 70), some (.long w), none, some (.int b), some (.int z), some (.int e), some (.int (nI H)), some (.int (nI j)), some (.int q), l9]) (st' := [.ref 70, .int 0, .int (nI j), .ref 75]) (h' := (shT, fi, fl, fr)) rfl ?_
      refine gp_of (fun _ k9 => g_getR (q' := 75) rfl rfl (by decide) k24 k9) ?_
      refine gp_n 3 (j' := 79) (lv' := [some (.ref 70), some (.long w), none, some (.int b), some (.int z), some (.int e), some (.int (nI H)), some (.int (nI j)), some (.int q), l9]) (st' := [.int ((nI j) + (nI H)), .ref 75, .int 0, .int (nI j), .ref 75]) (h' := (shT, fi, fl, fr)) rfl ?_
      refine gp_of (fun _ k9 => g_iald (k := j + H) (x := y) rfl rfl (nI_add j H) (by omega) (by decide) (yj) k9) ?_
      refine gp_of (fun _ k9 => g_ift rfl (show (0 : Int32) ≤ y from Int32.not_lt.mp h2) k9) ?_
      refine gp_n 1 (j' := 84) (lv' := [some (.ref 70), some (.long w), none, some (.int b), some (.int z), some (.int e), some (.int (nI H)), some (.int (nI j)), some (.int q), l9]) (st' := [.int 0, .int 0, .int (nI j), .ref 75]) (h' := (shT, fi, fl, fr)) rfl ?_
      refine gp_of (fun _ k9 => g_ict rfl (show (0 : Int32) = (0 : Int32) from by decide) k9) ?_
      refine gp_n 1 (j' := 89) (lv' := [some (.ref 70), some (.long w), none, some (.int b), some (.int z), some (.int e), some (.int (nI H)), some (.int (nI j)), some (.int q), l9]) (st' := [.int q, .int (nI j), .ref 75]) (h' := (shT, fi, fl, fr)) rfl ?_
      refine gp_of (fun _ k9 => g_iast (k := j) rfl rfl (rfl) (by omega) (by decide) k9) ?_
      refine gp_n 2 (j' := 33) (lv' := [some (.ref 70), some (.long w), none, some (.int b), some (.int z), some (.int e), some (.int (nI H)), some (.int ((nI j) + 1)), some (.int q), l9]) (st' := []) (h' := (shT, pm_u2 fi 75 j q, fl, fr)) rfl ?_
      rw [nI_1]
      exact gp_done g rfl
theorem lnl_go {w : Int64} {b z e : Int32} {H : Nat} {fl : Nat → Nat → Int64} {fr : Nat → Nat → Option Nat} {X : Nat → Int32} (hH : H ≤ 32) (k24 : fr 70 24 = some 75) : ∀ (n j : Nat) (fi : Nat → Nat → Int32), j + n = H → (∀ t, t < 2 * H → fi 75 t = if t < j then lSm (X t) (X (t + H)) else X t) → ∃ fi', (∀ t, t < H → fi' 75 t = lSm (X t) (X (t + H))) ∧ (∀ p s, ¬ p = 75 → fi' p s = fi p s) ∧ ∀ (l8 l9 : Option Value) r, (∀ l7 l8, Go pmT none cd_194 147 [some (.ref 70), some (.long w), none, some (.int b), some (.int z), some (.int e), some (.int (nI H)), l7, l8, l9] [] (shT, fi', fl, fr) r) → Go pmT none cd_194 33 [some (.ref 70), some (.long w), none, some (.int b), some (.int z), some (.int e), some (.int (nI H)), some (.int (nI j)), l8, l9] [] (shT, fi, fl, fr) r := by
  intro n
  induction n with
  | zero =>
    intro j fi hj hX
    have hj : j = H := by omega
    subst hj
    refine ⟨fi, fun t ht => by rw [hX t (by omega), if_pos ht], fun _ _ _ => rfl, fun l8 l9 r k => ?_⟩
    refine go_of ?_
    refine gp_n 2 (j' := 35) (lv' := [some (.ref 70), some (.long w), none, some (.int b), some (.int z), some (.int e), some (.int (nI j)), some (.int (nI j)), l8, l9]) (st' := [.int (nI j), .int (nI j)]) (h' := (shT, fi, fl, fr)) rfl ?_
    refine gp_of (fun _ k9 => g_ict rfl (show (nI j) ≤ (nI j) from Int32.le_refl _) k9) ?_
    refine gp_n 1 (j' := 147) (lv' := [some (.ref 70), some (.long w), none, some (.int b), some (.int z), some (.int e), some (.int (nI j)), some (.int (nI j)), l8, l9]) (st' := []) (h' := (shT, fi, fl, fr)) rfl ?_
    exact gp_done (k _ _) rfl
  | succ n ih =>
    intro j fi hj hX
    have xj := hX j (by omega)
    have yj := hX (j + H) (by omega)
    rw [if_neg (by omega)] at xj yj
    obtain ⟨fi', a1, a2, a3⟩ := ih (j + 1) (pm_u2 fi 75 j (lSm (X j) (X (j + H)))) (by omega) (fun t ht => by
      by_cases e : t = j
      · subst e
        rw [if_pos (by omega)]
        exact u2_eq
      · rw [show pm_u2 fi 75 j (lSm (X j) (X (j + H))) 75 t = fi 75 t from wl_ne (by omega), hX t ht]
        by_cases h1 : t < j
        · rw [if_pos h1, if_pos (by omega)]
        · rw [if_neg h1, if_neg (by omega)])
    refine ⟨fi', a1, fun p s hp => (a2 p s hp).trans (wl_ne (by omega)), fun l8 l9 r k => ?_⟩
    have g := lnl_2 (b := b) (z := z) (e := e) (w := w) (l9 := l9) (fl := fl) hH (by omega) k24 xj yj rfl (a3 _ _ r k)
    generalize X j = x at *
    generalize X (j + H) = y at *
    have abx := abM_ev (a := x) (h := (shT, fi, fl, fr))
    have aby := abM_ev (a := y) (h := (shT, fi, fl, fr))
    refine go_of ?_
    by_cases hc : abS y ≤ abS x
    · have hm : miS (abS x) (abS y) = abS y := by
        unfold miS
        split
        · rename_i h
          exact Int32.le_antisymm h hc
        · rfl
      rw [hm] at g
      generalize abS x = p at *
      generalize abS y = q at *
      refine gp_n 2 (j' := 35) (lv' := [some (.ref 70), some (.long w), none, some (.int b), some (.int z), some (.int e), some (.int (nI H)), some (.int (nI j)), l8, l9]) (st' := [.int (nI H), .int (nI j)]) (h' := (shT, fi, fl, fr)) rfl ?_
      refine gp_of (fun _ k9 => g_icf rfl (show ¬ ((nI H) ≤ (nI j)) from nI_ge (by omega) (by omega)) k9) ?_
      refine gp_n 1 (j' := 37) (lv' := [some (.ref 70), some (.long w), none, some (.int b), some (.int z), some (.int e), some (.int (nI H)), some (.int (nI j)), l8, l9]) (st' := [.ref 70]) (h' := (shT, fi, fl, fr)) rfl ?_
      refine gp_of (fun _ k9 => g_getR (q' := 75) rfl rfl (by decide) k24 k9) ?_
      refine gp_n 1 (j' := 39) (lv' := [some (.ref 70), some (.long w), none, some (.int b), some (.int z), some (.int e), some (.int (nI H)), some (.int (nI j)), l8, l9]) (st' := [.int (nI j), .ref 75]) (h' := (shT, fi, fl, fr)) rfl ?_
      refine gp_of (fun _ k9 => g_iald (k := j) (x := x) rfl rfl (rfl) (by omega) (by decide) (xj) k9) ?_
      refine gp_of (fun _ k9 => g_call (y := 195) (as := [.int x]) (st' := []) rfl rfl (abx) k9) ?_
      refine gp_n 1 (j' := 42) (lv' := [some (.ref 70), some (.long w), none, some (.int b), some (.int z), some (.int e), some (.int (nI H)), some (.int (nI j)), l8, l9]) (st' := [.ref 70, .int p]) (h' := (shT, fi, fl, fr)) rfl ?_
      refine gp_of (fun _ k9 => g_getR (q' := 75) rfl rfl (by decide) k24 k9) ?_
      refine gp_n 3 (j' := 46) (lv' := [some (.ref 70), some (.long w), none, some (.int b), some (.int z), some (.int e), some (.int (nI H)), some (.int (nI j)), l8, l9]) (st' := [.int ((nI j) + (nI H)), .ref 75, .int p]) (h' := (shT, fi, fl, fr)) rfl ?_
      refine gp_of (fun _ k9 => g_iald (k := j + H) (x := y) rfl rfl (nI_add j H) (by omega) (by decide) (yj) k9) ?_
      refine gp_of (fun _ k9 => g_call (y := 195) (as := [.int y]) (st' := [.int p]) rfl rfl (aby) k9) ?_
      refine gp_of (fun _ k9 => g_ict rfl (show q ≤ p from hc) k9) ?_
      refine gp_n 1 (j' := 56) (lv' := [some (.ref 70), some (.long w), none, some (.int b), some (.int z), some (.int e), some (.int (nI H)), some (.int (nI j)), l8, l9]) (st' := [.ref 70]) (h' := (shT, fi, fl, fr)) rfl ?_
      refine gp_of (fun _ k9 => g_getR (q' := 75) rfl rfl (by decide) k24 k9) ?_
      refine gp_n 3 (j' := 60) (lv' := [some (.ref 70), some (.long w), none, some (.int b), some (.int z), some (.int e), some (.int (nI H)), some (.int (nI j)), l8, l9]) (st' := [.int ((nI j) + (nI H)), .ref 75]) (h' := (shT, fi, fl, fr)) rfl ?_
      refine gp_of (fun _ k9 => g_iald (k := j + H) (x := y) rfl rfl (nI_add j H) (by omega) (by decide) (yj) k9) ?_
      refine gp_of (fun _ k9 => g_call (y := 195) (as := [.int y]) (st' := []) rfl rfl (aby) k9) ?_
      refine gp_n 1 (j' := 63) (lv' := [some (.ref 70), some (.long w), none, some (.int b), some (.int z), some (.int e), some (.int (nI H)), some (.int (nI j)), some (.int q), l9]) (st' := []) (h' := (shT, fi, fl, fr)) rfl ?_
      exact gp_done g rfl
    · have hm : miS (abS x) (abS y) = abS x := if_pos (Int32.le_of_lt (Int32.not_le.mp hc))
      rw [hm] at g
      generalize abS x = p at *
      generalize abS y = q at *
      refine gp_n 2 (j' := 35) (lv' := [some (.ref 70), some (.long w), none, some (.int b), some (.int z), some (.int e), some (.int (nI H)), some (.int (nI j)), l8, l9]) (st' := [.int (nI H), .int (nI j)]) (h' := (shT, fi, fl, fr)) rfl ?_
      refine gp_of (fun _ k9 => g_icf rfl (show ¬ ((nI H) ≤ (nI j)) from nI_ge (by omega) (by omega)) k9) ?_
      refine gp_n 1 (j' := 37) (lv' := [some (.ref 70), some (.long w), none, some (.int b), some (.int z), some (.int e), some (.int (nI H)), some (.int (nI j)), l8, l9]) (st' := [.ref 70]) (h' := (shT, fi, fl, fr)) rfl ?_
      refine gp_of (fun _ k9 => g_getR (q' := 75) rfl rfl (by decide) k24 k9) ?_
      refine gp_n 1 (j' := 39) (lv' := [some (.ref 70), some (.long w), none, some (.int b), some (.int z), some (.int e), some (.int (nI H)), some (.int (nI j)), l8, l9]) (st' := [.int (nI j), .ref 75]) (h' := (shT, fi, fl, fr)) rfl ?_
      refine gp_of (fun _ k9 => g_iald (k := j) (x := x) rfl rfl (rfl) (by omega) (by decide) (xj) k9) ?_
      refine gp_of (fun _ k9 => g_call (y := 195) (as := [.int x]) (st' := []) rfl rfl (abx) k9) ?_
      refine gp_n 1 (j' := 42) (lv' := [some (.ref 70), some (.long w), none, some (.int b), some (.int z), some (.int e), some (.int (nI H)), some (.int (nI j)), l8, l9]) (st' := [.ref 70, .int p]) (h' := (shT, fi, fl, fr)) rfl ?_
      refine gp_of (fun _ k9 => g_getR (q' := 75) rfl rfl (by decide) k24 k9) ?_
      refine gp_n 3 (j' := 46) (lv' := [some (.ref 70), some (.long w), none, some (.int b), some (.int z), some (.int e), some (.int (nI H)), some (.int (nI j)), l8, l9]) (st' := [.int ((nI j) + (nI H)), .ref 75, .int p]) (h' := (shT, fi, fl, fr)) rfl ?_
      refine gp_of (fun _ k9 => g_iald (k := j + H) (x := y) rfl rfl (nI_add j H) (by omega) (by decide) (yj) k9) ?_
      refine gp_of (fun _ k9 => g_call (y := 195) (as := [.int y]) (st' := [.int p]) rfl rfl (aby) k9) ?_
      refine gp_of (fun _ k9 => g_icf rfl (show ¬ (q ≤ p) from hc) k9) ?_
      refine gp_n 1 (j' := 50) (lv' := [some (.ref 70), some (.long w), none, some (.int b), some (.int z), some (.int e), some (.int (nI H)), some (.int (nI j)), l8, l9]) (st' := [.ref 70]) (h' := (shT, fi, fl, fr)) rfl ?_
      refine gp_of (fun _ k9 => g_getR (q' := 75) rfl rfl (by decide) k24 k9) ?_
      refine gp_n 1 (j' := 52) (lv' := [some (.ref 70), some (.long w), none, some (.int b), some (.int z), some (.int e), some (.int (nI H)), some (.int (nI j)), l8, l9]) (st' := [.int (nI j), .ref 75]) (h' := (shT, fi, fl, fr)) rfl ?_
      refine gp_of (fun _ k9 => g_iald (k := j) (x := x) rfl rfl (rfl) (by omega) (by decide) (xj) k9) ?_
      refine gp_of (fun _ k9 => g_call (y := 195) (as := [.int x]) (st' := []) rfl rfl (abx) k9) ?_
      refine gp_n 2 (j' := 63) (lv' := [some (.ref 70), some (.long w), none, some (.int b), some (.int z), some (.int e), some (.int (nI H)), some (.int (nI j)), some (.int p), l9]) (st' := []) (h' := (shT, fi, fl, fr)) rfl ?_
      exact gp_done g rfl
theorem lnr_go {w y : Int64} {b z e : Int32} {H : Nat} {fl : Nat → Nat → Int64} {fr : Nat → Nat → Option Nat} {X : Nat → Int32} (hH : H ≤ 32) (k24 : fr 70 24 = some 75) : ∀ (n j : Nat) (fi : Nat → Nat → Int32), j + n = H → (∀ t, t < 2 * H → fi 75 t = if t < j then rSm (X t) (X (t + H)) (bl y t) else X t) → ∃ fi', (∀ t, t < H → fi' 75 t = rSm (X t) (X (t + H)) (bl y t)) ∧ (∀ p s, ¬ p = 75 → fi' p s = fi p s) ∧ ∀ r, (∀ l9, Go pmT none cd_194 143 [some (.ref 70), some (.long w), none, some (.int b), some (.int z), some (.int e), some (.int (nI H)), some (.long y), none, l9] [] (shT, fi', fl, fr) r) → Go pmT none cd_194 107 [some (.ref 70), some (.long w), none, some (.int b), some (.int z), some (.int e), some (.int (nI H)), some (.long y), none, some (.int (nI j))] [] (shT, fi, fl, fr) r := by
  intro n
  induction n with
  | zero =>
    intro j fi hj hX
    have hj : j = H := by omega
    subst hj
    refine ⟨fi, fun t ht => by rw [hX t (by omega), if_pos ht], fun _ _ _ => rfl, fun r k => ?_⟩
    refine go_of ?_
    refine gp_n 2 (j' := 109) (lv' := [some (.ref 70), some (.long w), none, some (.int b), some (.int z), some (.int e), some (.int (nI j)), some (.long y), none, some (.int (nI j))]) (st' := [.int (nI j), .int (nI j)]) (h' := (shT, fi, fl, fr)) rfl ?_
    refine gp_of (fun _ k9 => g_ict rfl (show (nI j) ≤ (nI j) from Int32.le_refl _) k9) ?_
    exact gp_done (k _) rfl
  | succ n ih =>
    intro j fi hj hX
    have xj := hX j (by omega)
    have yj := hX (j + H) (by omega)
    rw [if_neg (by omega)] at xj yj
    obtain ⟨fi', a1, a2, a3⟩ := ih (j + 1) (pm_u2 fi 75 j (rSm (X j) (X (j + H)) (bl y j))) (by omega) (fun t ht => by
      by_cases e : t = j
      · subst e
        rw [if_pos (by omega)]
        exact u2_eq
      · rw [show pm_u2 fi 75 j (rSm (X j) (X (j + H)) (bl y j)) 75 t = fi 75 t from wl_ne (by omega), hX t ht]
        by_cases h1 : t < j
        · rw [if_pos h1, if_pos (by omega)]
        · rw [if_neg h1, if_neg (by omega)])
    refine ⟨fi', a1, fun p s hp => (a2 p s hp).trans (wl_ne (by omega)), fun r k => ?_⟩
    have g := a3 r k
    unfold rSm at g
    have hs := has_ev (v := y) (i := nI j) (h := (shT, fi, fl, fr))
    rw [hasf_bit (by omega)] at hs
    generalize X j = x at *
    generalize X (j + H) = v at *
    refine go_of ?_
    cases hb : bl y j
    · rw [hb] at hs g
      have hs : Ev pmT 161 [.long y, .int (nI j)] (shT, fi, fl, fr) (some (.int 0)) (shT, fi, fl, fr) := hs
      rw [if_neg (by decide)] at g
      refine gp_n 2 (j' := 109) (lv' := [some (.ref 70), some (.long w), none, some (.int b), some (.int z), some (.int e), some (.int (nI H)), some (.long y), none, some (.int (nI j))]) (st' := [.int (nI H), .int (nI j)]) (h' := (shT, fi, fl, fr)) rfl ?_
      refine gp_of (fun _ k9 => g_icf rfl (show ¬ ((nI H) ≤ (nI j)) from nI_ge (by omega) (by omega)) k9) ?_
      refine gp_n 1 (j' := 111) (lv' := [some (.ref 70), some (.long w), none, some (.int b), some (.int z), some (.int e), some (.int (nI H)), some (.long y), none, some (.int (nI j))]) (st' := [.ref 70]) (h' := (shT, fi, fl, fr)) rfl ?_
      refine gp_of (fun _ k9 => g_getR (q' := 75) rfl rfl (by decide) k24 k9) ?_
      refine gp_n 3 (j' := 115) (lv' := [some (.ref 70), some (.long w), none, some (.int b), some (.int z), some (.int e), some (.int (nI H)), some (.long y), none, some (.int (nI j))]) (st' := [.int (nI j), .long y, .int (nI j), .ref 75]) (h' := (shT, fi, fl, fr)) rfl ?_
      refine gp_of (fun _ k9 => g_call (y := 161) (as := [.long y, .int (nI j)]) (st' := [.int (nI j), .ref 75]) rfl rfl (hs) k9) ?_
      refine gp_of (fun _ k9 => g_ift rfl (show (0 : Int32) = (0 : Int32) from by decide) k9) ?_
      refine gp_n 1 (j' := 130) (lv' := [some (.ref 70), some (.long w), none, some (.int b), some (.int z), some (.int e), some (.int (nI H)), some (.long y), none, some (.int (nI j))]) (st' := [.ref 70, .int (nI j), .ref 75]) (h' := (shT, fi, fl, fr)) rfl ?_
      refine gp_of (fun _ k9 => g_getR (q' := 75) rfl rfl (by decide) k24 k9) ?_
      refine gp_n 3 (j' := 134) (lv' := [some (.ref 70), some (.long w), none, some (.int b), some (.int z), some (.int e), some (.int (nI H)), some (.long y), none, some (.int (nI j))]) (st' := [.int ((nI j) + (nI H)), .ref 75, .int (nI j), .ref 75]) (h' := (shT, fi, fl, fr)) rfl ?_
      refine gp_of (fun _ k9 => g_iald (k := j + H) (x := v) rfl rfl (nI_add j H) (by omega) (by decide) (yj) k9) ?_
      refine gp_n 1 (j' := 136) (lv' := [some (.ref 70), some (.long w), none, some (.int b), some (.int z), some (.int e), some (.int (nI H)), some (.long y), none, some (.int (nI j))]) (st' := [.ref 70, .int v, .int (nI j), .ref 75]) (h' := (shT, fi, fl, fr)) rfl ?_
      refine gp_of (fun _ k9 => g_getR (q' := 75) rfl rfl (by decide) k24 k9) ?_
      refine gp_n 1 (j' := 138) (lv' := [some (.ref 70), some (.long w), none, some (.int b), some (.int z), some (.int e), some (.int (nI H)), some (.long y), none, some (.int (nI j))]) (st' := [.int (nI j), .ref 75, .int v, .int (nI j), .ref 75]) (h' := (shT, fi, fl, fr)) rfl ?_
      refine gp_of (fun _ k9 => g_iald (k := j) (x := x) rfl rfl (rfl) (by omega) (by decide) (xj) k9) ?_
      refine gp_n 1 (j' := 140) (lv' := [some (.ref 70), some (.long w), none, some (.int b), some (.int z), some (.int e), some (.int (nI H)), some (.long y), none, some (.int (nI j))]) (st' := [.int (v + x), .int (nI j), .ref 75]) (h' := (shT, fi, fl, fr)) rfl ?_
      refine gp_of (fun _ k9 => g_iast (k := j) rfl rfl (rfl) (by omega) (by decide) k9) ?_
      refine gp_n 2 (j' := 107) (lv' := [some (.ref 70), some (.long w), none, some (.int b), some (.int z), some (.int e), some (.int (nI H)), some (.long y), none, some (.int ((nI j) + 1))]) (st' := []) (h' := (shT, pm_u2 fi 75 j (v + x), fl, fr)) rfl ?_
      rw [nI_1]
      exact gp_done g rfl
    · rw [hb] at hs g
      have hs : Ev pmT 161 [.long y, .int (nI j)] (shT, fi, fl, fr) (some (.int 1)) (shT, fi, fl, fr) := hs
      rw [if_pos rfl] at g
      refine gp_n 2 (j' := 109) (lv' := [some (.ref 70), some (.long w), none, some (.int b), some (.int z), some (.int e), some (.int (nI H)), some (.long y), none, some (.int (nI j))]) (st' := [.int (nI H), .int (nI j)]) (h' := (shT, fi, fl, fr)) rfl ?_
      refine gp_of (fun _ k9 => g_icf rfl (show ¬ ((nI H) ≤ (nI j)) from nI_ge (by omega) (by omega)) k9) ?_
      refine gp_n 1 (j' := 111) (lv' := [some (.ref 70), some (.long w), none, some (.int b), some (.int z), some (.int e), some (.int (nI H)), some (.long y), none, some (.int (nI j))]) (st' := [.ref 70]) (h' := (shT, fi, fl, fr)) rfl ?_
      refine gp_of (fun _ k9 => g_getR (q' := 75) rfl rfl (by decide) k24 k9) ?_
      refine gp_n 3 (j' := 115) (lv' := [some (.ref 70), some (.long w), none, some (.int b), some (.int z), some (.int e), some (.int (nI H)), some (.long y), none, some (.int (nI j))]) (st' := [.int (nI j), .long y, .int (nI j), .ref 75]) (h' := (shT, fi, fl, fr)) rfl ?_
      refine gp_of (fun _ k9 => g_call (y := 161) (as := [.long y, .int (nI j)]) (st' := [.int (nI j), .ref 75]) rfl rfl (hs) k9) ?_
      refine gp_of (fun _ k9 => g_iff rfl (show ¬ ((1 : Int32) = (0 : Int32)) from by decide) k9) ?_
      refine gp_n 1 (j' := 118) (lv' := [some (.ref 70), some (.long w), none, some (.int b), some (.int z), some (.int e), some (.int (nI H)), some (.long y), none, some (.int (nI j))]) (st' := [.ref 70, .int (nI j), .ref 75]) (h' := (shT, fi, fl, fr)) rfl ?_
      refine gp_of (fun _ k9 => g_getR (q' := 75) rfl rfl (by decide) k24 k9) ?_
      refine gp_n 3 (j' := 122) (lv' := [some (.ref 70), some (.long w), none, some (.int b), some (.int z), some (.int e), some (.int (nI H)), some (.long y), none, some (.int (nI j))]) (st' := [.int ((nI j) + (nI H)), .ref 75, .int (nI j), .ref 75]) (h' := (shT, fi, fl, fr)) rfl ?_
      refine gp_of (fun _ k9 => g_iald (k := j + H) (x := v) rfl rfl (nI_add j H) (by omega) (by decide) (yj) k9) ?_
      refine gp_n 1 (j' := 124) (lv' := [some (.ref 70), some (.long w), none, some (.int b), some (.int z), some (.int e), some (.int (nI H)), some (.long y), none, some (.int (nI j))]) (st' := [.ref 70, .int v, .int (nI j), .ref 75]) (h' := (shT, fi, fl, fr)) rfl ?_
      refine gp_of (fun _ k9 => g_getR (q' := 75) rfl rfl (by decide) k24 k9) ?_
      refine gp_n 1 (j' := 126) (lv' := [some (.ref 70), some (.long w), none, some (.int b), some (.int z), some (.int e), some (.int (nI H)), some (.long y), none, some (.int (nI j))]) (st' := [.int (nI j), .ref 75, .int v, .int (nI j), .ref 75]) (h' := (shT, fi, fl, fr)) rfl ?_
      refine gp_of (fun _ k9 => g_iald (k := j) (x := x) rfl rfl (rfl) (by omega) (by decide) (xj) k9) ?_
      refine gp_n 2 (j' := 140) (lv' := [some (.ref 70), some (.long w), none, some (.int b), some (.int z), some (.int e), some (.int (nI H)), some (.long y), none, some (.int (nI j))]) (st' := [.int (v - x), .int (nI j), .ref 75]) (h' := (shT, fi, fl, fr)) rfl ?_
      refine gp_of (fun _ k9 => g_iast (k := j) rfl rfl (rfl) (by omega) (by decide) k9) ?_
      refine gp_n 2 (j' := 107) (lv' := [some (.ref 70), some (.long w), none, some (.int b), some (.int z), some (.int e), some (.int (nI H)), some (.long y), none, some (.int ((nI j) + 1))]) (st' := []) (h' := (shT, pm_u2 fi 75 j (v - x), fl, fr)) rfl ?_
      rw [nI_1]
      exact gp_done g rfl
theorem hf_2 : ∀ q, q < 7 → nI (2 ^ q) / 2 = nI (2 ^ q / 2) := by decide
theorem b_lt {c m : Nat} (hc : c < 2 ^ m) (hm : m ≤ 6) (q : Nat) : c / 2 ^ q * 2 ^ q ≤ c ∧ c < 64 := by
  have := pw2_le hm
  exact ⟨Nat.div_mul_le_self _ _, by omega⟩
theorem b_hi {c q : Nat} : c < c / 2 ^ (q + 1) * 2 ^ (q + 1) + 2 ^ q ↔ c.testBit q = false := by
  have hp : 0 < 2 ^ q := Nat.two_pow_pos q
  constructor
  · intro h
    cases hb : c.testBit q
    · rfl
    · rw [base_l hb] at h
      have := Nat.div_mul_le_self c (2 ^ q)
      omega
  · intro h
    rw [base_r h]
    have h1 := Nat.div_add_mod c (2 ^ q)
    have h2 := Nat.mod_lt c hp
    rw [Nat.mul_comm] at h1
    omega
theorem lfb_bl {w x : Int64} {B q : Nat} (hq : q ≤ 5) (hB : B < 64) (hx : x = us6 w (nI B) &&& (1 <<< ((nI (2 ^ q) : Int32).toInt64 &&& 63) - 1)) : (∀ i, 2 ^ q ≤ i → bl x i = false) ∧ ∀ i, i < 64 → bfN 0 q (bl x) i = lfb (bl w) B q i := by
  have p := pw2_le (a := q) (b := 5) hq
  have e : (1 <<< ((nI (2 ^ q) : Int32).toInt64 &&& 63) - 1 : Int64) = lwb (2 ^ q) := by
    unfold lwb
    rw [if_neg (by omega)]
  have hb : ∀ i, i < 64 → bl x i = (decide (i < 2 ^ q) && bl w (B + i)) := fun i hi => by
    rw [hx, e, bl_and, bl_us B hB, lwb_bl _ (by omega) i hi, Bool.and_comm]
  constructor
  · intro i h1
    by_cases h2 : i < 64
    · rw [hb i h2, decide_eq_false (by omega), Bool.false_and]
    · exact bl_64 _ (by omega)
  · exact bfN_cg q 0 (by omega) hb
theorem ln_lp {w : Int64} {m c l : Nat} {S : Nat → Int32} {fl : Nat → Nat → Int64} {fr : Nat → Nat → Option Nat} (hm : m ≤ 6) (hc : c < 2 ^ m) (k24 : fr 70 24 = some 75) : ∀ (n q : Nat) (fi : Nat → Nat → Int32), l + n = q → q ≤ m → (∀ j, j < 2 ^ q → fi 75 j = ndL m S (bl w) c q j) → ∃ fi', (∀ j, j < 2 ^ l → fi' 75 j = ndL m S (bl w) c l j) ∧ (∀ p s, ¬ p = 75 → fi' p s = fi p s) ∧ ∀ (l7 l8 l9 : Option Value), Go pmT none cd_194 23 [some (.ref 70), some (.long w), none, some (.int (nI c)), some (.int (nI (2 ^ l))), some (.int (nI (c / 2 ^ q * 2 ^ q))), some (.int (nI (2 ^ q / 2))), l7, l8, l9] [] (shT, fi, fl, fr) (none, (shT, fi', fl, fr)) := by
  intro n
  have c64 := (b_lt hc hm 0).2
  induction n with
  | zero =>
    intro q fi hq hqm hX
    have hq : l = q := by omega
    subst hq
    refine ⟨fi, hX, fun _ _ _ => rfl, fun l7 l8 l9 => ?_⟩
    have p1 := pw2_le (a := l) (b := 6) (by omega)
    have p2 : 0 < 2 ^ l := Nat.two_pow_pos l
    have lt : nI (2 ^ l / 2) < nI (2 ^ l) := nI_lt (by omega) (by omega)
    generalize nI (2 ^ l / 2) = H at *
    generalize nI (2 ^ l) = z at *
    generalize nI (c / 2 ^ l * 2 ^ l) = e at *
    refine go_of ?_
    refine gp_n 2 (j' := 25) (lv' := [some (.ref 70), some (.long w), none, some (.int (nI c)), some (.int z), some (.int e), some (.int H), l7, l8, l9]) (st' := [.int z, .int H]) (h' := (shT, fi, fl, fr)) rfl ?_
    refine gp_of (fun _ k9 => g_ict rfl (show H < z from lt) k9) ?_
    refine gp_done (g_vret rfl) ?_
    rfl
  | succ n ih =>
    intro q fi hq hqm hX
    obtain ⟨q, rfl⟩ : ∃ q', q = q' + 1 := ⟨q - 1, by omega⟩
    have e2 : 2 ^ (q + 1) / 2 = 2 ^ q := by rw [Nat.pow_succ]; omega
    have e3 : 2 ^ (q + 1) = 2 * 2 ^ q := by rw [Nat.pow_succ]; omega
    have p1 := pw2_le (a := q) (b := 5) (by omega)
    have p3 := pw2_le (a := l) (b := q) (by omega)
    have d2 := hf_2 q (by omega)
    have nl : ¬ nI (2 ^ q) < nI (2 ^ l) := nI_nlt p3 (by omega)
    have bl1 := (b_lt hc hm (q + 1)).1
    have e5 : nI (c / 2 ^ (q + 1) * 2 ^ (q + 1)) + nI (2 ^ q) = nI (c / 2 ^ (q + 1) * 2 ^ (q + 1) + 2 ^ q) := nI_add _ _
    rw [e2]
    cases hb : c.testBit q
    · have lt : ¬ nI (c / 2 ^ (q + 1) * 2 ^ (q + 1) + 2 ^ q) ≤ nI c := nI_ge (b_hi.mpr hb) (by omega)
      obtain ⟨f1, a1, a2, a3⟩ := lnl_go (w := w) (b := nI c) (z := nI (2 ^ l)) (e := nI (c / 2 ^ (q + 1) * 2 ^ (q + 1))) (H := 2 ^ q) (fl := fl) (fr := fr) (X := ndL m S (bl w) c (q + 1)) p1 k24 (2 ^ q) 0 fi (by omega) (fun t ht => by rw [if_neg (by omega)]; exact hX t (by omega))
      obtain ⟨f2, b1, b2, b3⟩ := ih q f1 (by omega) (by omega) (fun j hj => by rw [a1 j hj, ndL_s (l := q) (by omega), hb, if_neg (by decide)])
      refine ⟨f2, b1, fun p s hp => (b2 p s hp).trans (a2 p s hp), fun l7 l8 l9 => ?_⟩
      have g := a3 l8 l9 (none, (shT, f2, fl, fr))
      rw [← base_r hb, ← d2] at b3
      rw [← e5] at lt
      clear a3 e5 e2 e3 d2 ih
      generalize nI (c / 2 ^ (q + 1) * 2 ^ (q + 1)) = e at *
      generalize nI (2 ^ q) = H at *
      generalize nI (2 ^ l) = z at *
      have g := g (fun l7 l8 => by
        refine go_of ?_
        refine gp_n 5 (j' := 23) (lv' := [some (.ref 70), some (.long w), none, some (.int (nI c)), some (.int z), some (.int e), some (.int (H / 2)), l7, l8, l9]) (st' := []) (h' := (shT, f1, fl, fr)) rfl ?_
        exact gp_done (b3 _ _ _) rfl)
      refine go_of ?_
      refine gp_n 2 (j' := 25) (lv' := [some (.ref 70), some (.long w), none, some (.int (nI c)), some (.int z), some (.int e), some (.int H), l7, l8, l9]) (st' := [.int z, .int H]) (h' := (shT, fi, fl, fr)) rfl ?_
      refine gp_of (fun _ k9 => g_icf rfl (show ¬ (H < z) from nl) k9) ?_
      refine gp_n 4 (j' := 30) (lv' := [some (.ref 70), some (.long w), none, some (.int (nI c)), some (.int z), some (.int e), some (.int H), l7, l8, l9]) (st' := [.int (e + H), .int (nI c)]) (h' := (shT, fi, fl, fr)) rfl ?_
      refine gp_of (fun _ k9 => g_icf rfl (show ¬ ((e + H) ≤ (nI c)) from lt) k9) ?_
      refine gp_n 2 (j' := 33) (lv' := [some (.ref 70), some (.long w), none, some (.int (nI c)), some (.int z), some (.int e), some (.int H), some (.int (nI 0)), l8, l9]) (st' := []) (h' := (shT, fi, fl, fr)) rfl ?_
      exact gp_done g rfl
    · have ge : nI (c / 2 ^ (q + 1) * 2 ^ (q + 1) + 2 ^ q) ≤ nI c := by
        rw [base_l hb]
        exact nI_le (Nat.div_mul_le_self _ _) (by omega)
      have B64 : c / 2 ^ (q + 1) * 2 ^ (q + 1) < 64 := by omega
      obtain ⟨x1, x2⟩ := lfb_bl (w := w) (q := q) (by omega) B64 rfl
      obtain ⟨y, y1, y2⟩ := bm_ev2 (m := q) (by omega) (h := (shT, fi, fl, fr)) x1
      obtain ⟨f1, a1, a2, a3⟩ := lnr_go (w := w) (y := y) (b := nI c) (z := nI (2 ^ l)) (e := nI (c / 2 ^ (q + 1) * 2 ^ (q + 1))) (H := 2 ^ q) (fl := fl) (fr := fr) (X := ndL m S (bl w) c (q + 1)) p1 k24 (2 ^ q) 0 fi (by omega) (fun t ht => by rw [if_neg (by omega)]; exact hX t (by omega))
      obtain ⟨f2, b1, b2, b3⟩ := ih q f1 (by omega) (by omega) (fun j hj => by rw [a1 j hj, ndL_s (l := q) (by omega), hb, if_pos rfl, y2 j (by omega), x2 j (by omega)])
      refine ⟨f2, b1, fun p s hp => (b2 p s hp).trans (a2 p s hp), fun l7 l8 l9 => ?_⟩
      have g := a3 (none, (shT, f2, fl, fr))
      rw [← base_l hb, ← nI_add, ← d2] at b3
      rw [← e5] at ge
      clear a3 e5 e2 e3 d2 ih x1 x2 y2 a1 b1
      unfold us6 at y1
      generalize nI (c / 2 ^ (q + 1) * 2 ^ (q + 1)) = e at *
      generalize nI (2 ^ q) = H at *
      generalize nI (2 ^ l) = z at *
      have g := g (fun l9 => by
        refine go_of ?_
        refine gp_n 9 (j' := 23) (lv' := [some (.ref 70), some (.long w), none, some (.int (nI c)), some (.int z), some (.int (e + H)), some (.int (H / 2)), some (.long y), none, l9]) (st' := []) (h' := (shT, f1, fl, fr)) rfl ?_
        exact gp_done (b3 _ _ _) rfl)
      refine go_of ?_
      refine gp_n 2 (j' := 25) (lv' := [some (.ref 70), some (.long w), none, some (.int (nI c)), some (.int z), some (.int e), some (.int H), l7, l8, l9]) (st' := [.int z, .int H]) (h' := (shT, fi, fl, fr)) rfl ?_
      refine gp_of (fun _ k9 => g_icf rfl (show ¬ (H < z) from nl) k9) ?_
      refine gp_n 4 (j' := 30) (lv' := [some (.ref 70), some (.long w), none, some (.int (nI c)), some (.int z), some (.int e), some (.int H), l7, l8, l9]) (st' := [.int (e + H), .int (nI c)]) (h' := (shT, fi, fl, fr)) rfl ?_
      refine gp_of (fun _ k9 => g_ict rfl (show (e + H) ≤ (nI c) from ge) k9) ?_
      refine gp_n 10 (j' := 103) (lv' := [some (.ref 70), some (.long w), none, some (.int (nI c)), some (.int z), some (.int e), some (.int H), l7, l8, l9]) (st' := [.int H, .long (((w.toUInt64 >>> ((e : Int32).toInt64.toUInt64 &&& Int64.toUInt64 63)).toInt64) &&& (((1 : Int64) <<< ((H : Int32).toInt64 &&& 63)) - 1))]) (h' := (shT, fi, fl, fr)) rfl ?_
      refine gp_of (fun _ k9 => g_call (y := 175) (as := [.long (((w.toUInt64 >>> ((e : Int32).toInt64.toUInt64 &&& Int64.toUInt64 63)).toInt64) &&& (((1 : Int64) <<< ((H : Int32).toInt64 &&& 63)) - 1)), .int H]) (st' := []) rfl rfl (y1) k9) ?_
      refine gp_n 3 (j' := 107) (lv' := [some (.ref 70), some (.long w), none, some (.int (nI c)), some (.int z), some (.int e), some (.int H), some (.long y), none, some (.int (nI 0))]) (st' := []) (h' := (shT, fi, fl, fr)) rfl ?_
      exact gp_done g rfl
theorem ln_cp {w : Int64} {b z : Int32} {N : Nat} {S : Nat → Int32} {fl : Nat → Nat → Int64} {fr : Nat → Nat → Option Nat} {l6 l7 l8 l9 : Option Value} (hN : N ≤ 64) (k24 : fr 70 24 = some 75) (k22 : fr 70 22 = some 74) : ∀ (n j : Nat) (fi : Nat → Nat → Int32), j + n = N → fi 70 14 = nI N → (∀ s, s < N → fi 74 s = S s) → (∀ t, t < j → fi 75 t = S t) → ∃ fi', (∀ t, t < N → fi' 75 t = S t) ∧ (∀ p s, ¬ p = 75 → fi' p s = fi p s) ∧ ∀ r, (Go pmT none cd_194 16 [some (.ref 70), some (.long w), none, some (.int b), some (.int z), some (.int (nI N)), l6, l7, l8, l9] [] (shT, fi', fl, fr) r) → Go pmT none cd_194 2 [some (.ref 70), some (.long w), none, some (.int b), some (.int z), some (.int (nI j)), l6, l7, l8, l9] [] (shT, fi, fl, fr) r := by
  intro n
  induction n with
  | zero =>
    intro j fi hj c1 hS hX
    have hj : j = N := by omega
    subst hj
    refine ⟨fi, hX, fun _ _ _ => rfl, fun r k => ?_⟩
    refine go_of ?_
    refine gp_n 2 (j' := 4) (lv' := [some (.ref 70), some (.long w), none, some (.int b), some (.int z), some (.int (nI j)), l6, l7, l8, l9]) (st' := [.ref 70, .int (nI j)]) (h' := (shT, fi, fl, fr)) rfl ?_
    refine gp_of (fun _ k9 => g_getI (x := nI j) rfl (Or.inl rfl) rfl (by decide) (c1) k9) ?_
    refine gp_of (fun _ k9 => g_ict rfl (show (nI j) ≤ (nI j) from Int32.le_refl _) k9) ?_
    exact gp_done k rfl
  | succ n ih =>
    intro j fi hj c1 hS hX
    have sj := hS j (by omega)
    obtain ⟨fi', a1, a2, a3⟩ := ih (j + 1) (pm_u2 fi 75 j (S j)) (by omega) c1 hS (fun t ht => by
      by_cases e : t = j
      · subst e
        exact u2_eq
      · exact (show pm_u2 fi 75 j (S j) 75 t = fi 75 t from wl_ne (by omega)).trans (hX t (by omega)))
    refine ⟨fi', a1, fun p s hp => (a2 p s hp).trans (wl_ne (by omega)), fun r k => ?_⟩
    have g := a3 r k
    generalize S j = v at *
    refine go_of ?_
    refine gp_n 2 (j' := 4) (lv' := [some (.ref 70), some (.long w), none, some (.int b), some (.int z), some (.int (nI j)), l6, l7, l8, l9]) (st' := [.ref 70, .int (nI j)]) (h' := (shT, fi, fl, fr)) rfl ?_
    refine gp_of (fun _ k9 => g_getI (x := nI N) rfl (Or.inl rfl) rfl (by decide) (c1) k9) ?_
    refine gp_of (fun _ k9 => g_icf rfl (show ¬ ((nI N) ≤ (nI j)) from nI_ge (by omega) (by omega)) k9) ?_
    refine gp_n 1 (j' := 7) (lv' := [some (.ref 70), some (.long w), none, some (.int b), some (.int z), some (.int (nI j)), l6, l7, l8, l9]) (st' := [.ref 70]) (h' := (shT, fi, fl, fr)) rfl ?_
    refine gp_of (fun _ k9 => g_getR (q' := 75) rfl rfl (by decide) k24 k9) ?_
    refine gp_n 2 (j' := 10) (lv' := [some (.ref 70), some (.long w), none, some (.int b), some (.int z), some (.int (nI j)), l6, l7, l8, l9]) (st' := [.ref 70, .int (nI j), .ref 75]) (h' := (shT, fi, fl, fr)) rfl ?_
    refine gp_of (fun _ k9 => g_getR (q' := 74) rfl rfl (by decide) k22 k9) ?_
    refine gp_n 1 (j' := 12) (lv' := [some (.ref 70), some (.long w), none, some (.int b), some (.int z), some (.int (nI j)), l6, l7, l8, l9]) (st' := [.int (nI j), .ref 74, .int (nI j), .ref 75]) (h' := (shT, fi, fl, fr)) rfl ?_
    refine gp_of (fun _ k9 => g_iald (k := j) (x := v) rfl rfl (rfl) (by omega) (by decide) (sj) k9) ?_
    refine gp_of (fun _ k9 => g_iast (k := j) rfl rfl (rfl) (by omega) (by decide) k9) ?_
    refine gp_n 2 (j' := 2) (lv' := [some (.ref 70), some (.long w), none, some (.int b), some (.int z), some (.int ((nI j) + 1)), l6, l7, l8, l9]) (st' := []) (h' := (shT, pm_u2 fi 75 j v, fl, fr)) rfl ?_
    rw [nI_1]
    exact gp_done g rfl
/-- laysNode -/
theorem lay_ev {w : Int64} {m c l : Nat} {S : Nat → Int32} {h : PmH} (hI : HI hdT shT h) (hm : m ≤ 6) (hc : c < 2 ^ m) (hl : l ≤ m) (c1 : ph_i h 70 14 = nI (2 ^ m)) (hS : ∀ s, s < 2 ^ m → ph_i h 74 s = S s) : ∃ h', Ev pmT 194 [.ref 70, .long w, .int (nI c), .int (nI (2 ^ l))] h none h' ∧ (∀ j, j < 2 ^ l → ph_i h' 75 j = ndL m S (bl w) c l j) ∧ HI hdT shT h' ∧ fram (in_w iN_221) h h' := by
  have k24 : ph_r h 70 24 = some 75 := hi_r hI rfl rfl (by decide)
  have k22 : ph_r h 70 22 = some 74 := hi_r hI rfl rfl (by decide)
  have p6 := pw_6 m (by omega)
  have pl := pw_6 l (by omega)
  have fin : ∀ h', Ev pmT 194 [.ref 70, .long w, .int (nI c), .int (nI (2 ^ l))] h none h' → (∀ j, j < 2 ^ l → ph_i h' 75 j = ndL m S (bl w) c l j) → ∃ h', Ev pmT 194 [.ref 70, .long w, .int (nI c), .int (nI (2 ^ l))] h none h' ∧ (∀ j, j < 2 ^ l → ph_i h' 75 j = ndL m S (bl w) c l j) ∧ HI hdT shT h' ∧ fram (in_w iN_221) h h' := fun h' e q => by
    obtain ⟨e1, e2⟩ := iv_s vN_221 rfl (fun _ _ => gz_c (gz_r (by decide)) (gz_c (gz_l _) (gz_c (gz_a _) (gz_c (gz_i (by rw [nI_toInt (by omega)]; omega) (by rw [nI_toInt (by omega)]; omega)) gz_n)))) hI e
    exact ⟨h', e, q, e1, e2⟩
  obtain ⟨S, fi, fl, fr⟩ := h
  have hS : S = shT := hI.1
  subst hS
  have k24 : fr 70 24 = some 75 := k24
  have k22 : fr 70 22 = some 74 := k22
  have c1 : fi 70 14 = nI (2 ^ m) := c1
  obtain ⟨f1, a1, a2, a3⟩ := ln_cp (w := w) (b := nI c) (z := nI (2 ^ l)) (fl := fl) (l6 := none) (l7 := none) (l8 := none) (l9 := none) p6.2 k24 k22 (2 ^ m) 0 fi (by omega) c1 hS (fun t ht => absurd ht (Nat.not_lt_zero t))
  obtain ⟨f2, b1, b2, b3⟩ := ln_lp (w := w) (l := l) (S := S) (fl := fl) hm hc k24 (m - l) m f1 (by omega) (Nat.le_refl _) (fun j hj => by rw [a1 j hj, ndL_m])
  refine fin (shT, f2, fl, fr) ?_ b1
  have c2 : f1 70 14 = nI (2 ^ m) := (a2 70 14 (by decide)).trans c1
  have d2 := hf_2 m (by omega)
  have b3 := b3 none none none
  rw [Nat.div_eq_of_lt hc, Nat.zero_mul, ← d2] at b3
  have g := a3 (none, (shT, f2, fl, fr))
  refine Ev.of (es := cd_194) (ml := 10) (lv := [some (.ref 70), some (.long w), none, some (.int (nI c)), some (.int (nI (2 ^ l))), none, none, none, none, none]) rfl rfl rfl ?_
  clear fin a3 a1 b1 d2 p6 pl
  generalize nI (2 ^ l) = z at *
  generalize nI (2 ^ m) = M at *
  have g := g (by
    refine go_of ?_
    refine gp_n 3 (j' := 19) (lv' := [some (.ref 70), some (.long w), none, some (.int (nI c)), some (.int z), some (.int 0), none, none, none, none]) (st' := [.ref 70]) (h' := (shT, f1, fl, fr)) rfl ?_
    refine gp_of (fun _ k9 => g_getI (x := M) rfl (Or.inl rfl) rfl (by decide) (c2) k9) ?_
    refine gp_n 3 (j' := 23) (lv' := [some (.ref 70), some (.long w), none, some (.int (nI c)), some (.int z), some (.int (nI 0)), some (.int (M / 2)), none, none, none]) (st' := []) (h' := (shT, f1, fl, fr)) rfl ?_
    exact gp_done b3 rfl)
  refine go_of ?_
  refine gp_n 2 (j' := 2) (lv' := [some (.ref 70), some (.long w), none, some (.int (nI c)), some (.int z), some (.int (nI 0)), none, none, none, none]) (st' := []) (h' := (shT, fi, fl, fr)) rfl ?_
  exact gp_done g rfl
/-- sumAt -/
theorem sa_ev {w : Int64} {m c : Nat} {S : Nat → Int32} {h : PmH} (hI : HI hdT shT h) (hm : m ≤ 6) (hc : c < 2 ^ m) (c1 : ph_i h 70 14 = nI (2 ^ m)) (hS : ∀ s, s < 2 ^ m → ph_i h 74 s = S s) : ∃ h', Ev pmT 193 [.ref 70, .long w, .int (nI c)] h (some (.int (ndL m S (bl w) c 0 0))) h' ∧ HI hdT shT h' ∧ fram (in_w iN_221) h h' := by
  obtain ⟨h', e, q, I1, F1⟩ := lay_ev (w := w) (l := 0) hI hm hc (Nat.zero_le _) c1 hS
  refine ⟨h', ?_, I1, F1⟩
  have q0 := q 0 (by decide)
  have k24 : ph_r h' 70 24 = some 75 := hi_r I1 rfl rfl (by decide)
  have e : Ev pmT 194 [.ref 70, .long w, .int (nI c), .int 1] h none h' := e
  generalize ndL m S (bl w) c 0 0 = v at *
  refine Ev.of (es := cd_193) (ml := 4) (lv := [some (.ref 70), some (.long w), none, some (.int (nI c))]) rfl rfl rfl ?_
  clear q F1
  obtain ⟨S2, fi2, fl2, fr2⟩ := h'
  have s2 : S2 = shT := I1.1
  subst s2
  have k24 : fr2 70 24 = some 75 := k24
  have q0 : fi2 75 0 = v := q0
  obtain ⟨S, fi, fl, fr⟩ := h
  have hS : S = shT := hI.1
  subst hS
  refine go_of ?_
  refine gp_n 4 (j' := 4) (lv' := [some (.ref 70), some (.long w), none, some (.int (nI c))]) (st' := [.int 1, .int (nI c), .long w, .ref 70]) (h' := (shT, fi, fl, fr)) rfl ?_
  refine gp_of (fun _ k9 => g_callv (y := 194) (as := [.ref 70, .long w, .int (nI c), .int 1]) (st' := []) rfl rfl (e) k9) ?_
  refine gp_n 1 (j' := 6) (lv' := [some (.ref 70), some (.long w), none, some (.int (nI c))]) (st' := [.ref 70]) (h' := (shT, fi2, fl2, fr2)) rfl ?_
  refine gp_of (fun _ k9 => g_getR (q' := 75) rfl rfl (by decide) k24 k9) ?_
  refine gp_n 1 (j' := 8) (lv' := [some (.ref 70), some (.long w), none, some (.int (nI c))]) (st' := [.int 0, .ref 75]) (h' := (shT, fi2, fl2, fr2)) rfl ?_
  refine gp_of (fun _ k9 => g_iald (k := 0) (x := v) rfl rfl (rfl) (by decide) (by decide) (q0) k9) ?_
  refine gp_done (g_ret rfl) ?_
  rfl
