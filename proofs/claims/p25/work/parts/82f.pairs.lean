def pnS (S : Int32) (t : Bool) : Int32 := if t = true then (if 0 < S then S else 0) else (if S < 0 then -S else 0)
def dsN (S : Nat → Int32) (w : Int64) : Nat → Int32
  | 0 => 0
  | n + 1 => dsN S w n + pnS (S n) (bl w n)
theorem neg_pos {S : Int32} (h : -127 ≤ S.toInt ∧ S.toInt ≤ 127) : -S ≤ 0 ↔ ¬ S < 0 := by
  rw [Int32.le_iff_toInt_le, Int32.lt_iff_toInt_lt, Int32.toInt_neg, show (0 : Int32).toInt = 0 from rfl, Int.bmod_def]
  omega
theorem pny_ev {S : Int32} {t : Bool} {h : PmH} (hS : -127 ≤ S.toInt ∧ S.toInt ≤ 127) : Ev pmT 77 [.int S, .int (b01 t)] h (some (.int (pnS S t))) h := by
  have hn := neg_pos hS
  refine Ev.of (es := cd_77) (ml := 3) (lv := [some (.int S), some (.int (b01 t)), none]) rfl rfl rfl ?_
  refine go_of ?_
  unfold pnS
  cases t
  · rw [if_neg (by decide)]
    show GoP pmT none cd_77 0 [some (.int S), some (.int 0), none] _ _ _
    by_cases h0 : S < 0
    · rw [if_pos h0]
      refine gp_n 1 (j' := 1) (lv' := [some (.int S), some (.int 0), none]) (st' := [.int 0]) (h' := h) rfl ?_
      refine gp_of (fun _ k9 => g_iff rfl (show ¬ (¬ (0 : Int32) = (0 : Int32)) from by decide) k9) ?_
      refine gp_n 5 (j' := 8) (lv' := [some (.int S), some (.int 0), some (.int (-S))]) (st' := [.int (-S)]) (h' := h) rfl ?_
      refine gp_of (fun _ k9 => g_iff rfl (show ¬ ((-S) ≤ (0 : Int32)) from fun z => hn.mp z h0) k9) ?_
      refine gp_n 2 (j' := 12) (lv' := [some (.int S), some (.int 0), some (.int (-S))]) (st' := [.int (-S)]) (h' := h) rfl ?_
      refine gp_done (g_ret rfl) ?_
      rfl
    · rw [if_neg h0]
      refine gp_n 1 (j' := 1) (lv' := [some (.int S), some (.int 0), none]) (st' := [.int 0]) (h' := h) rfl ?_
      refine gp_of (fun _ k9 => g_iff rfl (show ¬ (¬ (0 : Int32) = (0 : Int32)) from by decide) k9) ?_
      refine gp_n 5 (j' := 8) (lv' := [some (.int S), some (.int 0), some (.int (-S))]) (st' := [.int (-S)]) (h' := h) rfl ?_
      refine gp_of (fun _ k9 => g_ift rfl (show (-S) ≤ (0 : Int32) from hn.mpr h0) k9) ?_
      refine gp_n 1 (j' := 12) (lv' := [some (.int S), some (.int 0), some (.int (-S))]) (st' := [.int 0]) (h' := h) rfl ?_
      refine gp_done (g_ret rfl) ?_
      rfl
  · rw [if_pos rfl]
    show GoP pmT none cd_77 0 [some (.int S), some (.int 1), none] _ _ _
    by_cases h0 : 0 < S
    · rw [if_pos h0]
      refine gp_n 1 (j' := 1) (lv' := [some (.int S), some (.int 1), none]) (st' := [.int 1]) (h' := h) rfl ?_
      refine gp_of (fun _ k9 => g_ift rfl (show ¬ (1 : Int32) = (0 : Int32) from by decide) k9) ?_
      refine gp_n 3 (j' := 8) (lv' := [some (.int S), some (.int 1), some (.int S)]) (st' := [.int S]) (h' := h) rfl ?_
      refine gp_of (fun _ k9 => g_iff rfl (show ¬ (S ≤ (0 : Int32)) from Int32.not_le.mpr h0) k9) ?_
      refine gp_n 2 (j' := 12) (lv' := [some (.int S), some (.int 1), some (.int S)]) (st' := [.int S]) (h' := h) rfl ?_
      refine gp_done (g_ret rfl) ?_
      rfl
    · rw [if_neg h0]
      refine gp_n 1 (j' := 1) (lv' := [some (.int S), some (.int 1), none]) (st' := [.int 1]) (h' := h) rfl ?_
      refine gp_of (fun _ k9 => g_ift rfl (show ¬ (1 : Int32) = (0 : Int32) from by decide) k9) ?_
      refine gp_n 3 (j' := 8) (lv' := [some (.int S), some (.int 1), some (.int S)]) (st' := [.int S]) (h' := h) rfl ?_
      refine gp_of (fun _ k9 => g_ift rfl (show S ≤ (0 : Int32) from Int32.not_lt.mp h0) k9) ?_
      refine gp_n 1 (j' := 12) (lv' := [some (.int S), some (.int 1), some (.int S)]) (st' := [.int 0]) (h' := h) rfl ?_
      refine gp_done (g_ret rfl) ?_
      rfl
theorem ds_go {N : Nat} {S : Nat → Int32} {w : Int64} {fi : Nat → Nat → Int32} {fl : Nat → Nat → Int64} {fr : Nat → Nat → Option Nat} (hN : N ≤ 64) (k8 : fr 1 8 = some 2) (c1 : fi 1 1 = nI N) (hS : ∀ s, s < 64 → fi 2 s = S s) (hB : ∀ s, s < 64 → -127 ≤ (S s).toInt ∧ (S s).toInt ≤ 127) : ∀ (n j : Nat), j + n = N → Go pmT none cd_76 4 [some (.ref 1), some (.long w), none, some (.int (dsN S w j)), some (.int (nI j))] [] (shT, fi, fl, fr) (some (.int (dsN S w N)), (shT, fi, fl, fr)) := by
  intro n
  induction n with
  | zero =>
    intro j hj
    have hj : j = N := by omega
    subst hj
    generalize dsN S w j = q
    refine go_of ?_
    refine gp_n 2 (j' := 6) (lv' := [some (.ref 1), some (.long w), none, some (.int q), some (.int (nI j))]) (st' := [.ref 1, .int (nI j)]) (h' := (shT, fi, fl, fr)) rfl ?_
    refine gp_of (fun _ k9 => g_getI (x := nI j) rfl (Or.inl rfl) rfl (by decide) (c1) k9) ?_
    refine gp_of (fun _ k9 => g_ict rfl (show (nI j) ≤ (nI j) from Int32.le_refl _) k9) ?_
    refine gp_n 1 (j' := 25) (lv' := [some (.ref 1), some (.long w), none, some (.int q), some (.int (nI j))]) (st' := [.int q]) (h' := (shT, fi, fl, fr)) rfl ?_
    refine gp_done (g_ret rfl) ?_
    rfl
  | succ n ih =>
    intro j hj
    have g := ih (j + 1) (by omega)
    rw [dsN] at g
    have sj := hS j (by omega)
    have ub := ub_bit w (n := j) (by omega)
    have ub : (((w.toUInt64 >>> ((nI j : Int32).toInt64.toUInt64 &&& Int64.toUInt64 63)).toInt64) &&& 1).toInt32 = b01 (bl w j) := ub
    have pn := pny_ev (S := S j) (t := bl w j) (h := (shT, fi, fl, fr)) (hB j (by omega))
    generalize dsN S w j = q at *
    generalize pnS (S j) (bl w j) = p at *
    refine go_of ?_
    refine gp_n 2 (j' := 6) (lv' := [some (.ref 1), some (.long w), none, some (.int q), some (.int (nI j))]) (st' := [.ref 1, .int (nI j)]) (h' := (shT, fi, fl, fr)) rfl ?_
    refine gp_of (fun _ k9 => g_getI (x := nI N) rfl (Or.inl rfl) rfl (by decide) (c1) k9) ?_
    refine gp_of (fun _ k9 => g_icf rfl (show ¬ ((nI N) ≤ (nI j)) from nI_ge (by omega) (by omega)) k9) ?_
    refine gp_n 2 (j' := 10) (lv' := [some (.ref 1), some (.long w), none, some (.int q), some (.int (nI j))]) (st' := [.ref 1, .int q]) (h' := (shT, fi, fl, fr)) rfl ?_
    refine gp_of (fun _ k9 => g_getR (q' := 2) rfl rfl (by decide) k8 k9) ?_
    refine gp_n 1 (j' := 12) (lv' := [some (.ref 1), some (.long w), none, some (.int q), some (.int (nI j))]) (st' := [.int (nI j), .ref 2, .int q]) (h' := (shT, fi, fl, fr)) rfl ?_
    refine gp_of (fun _ k9 => g_iald (k := j) (x := S j) rfl rfl (rfl) (by omega) (by decide) (sj) k9) ?_
    refine gp_n 6 (j' := 19) (lv' := [some (.ref 1), some (.long w), none, some (.int q), some (.int (nI j))]) (st' := [.int ((((w.toUInt64 >>> ((nI j : Int32).toInt64.toUInt64 &&& Int64.toUInt64 63)).toInt64) &&& 1).toInt32), .int (S j), .int q]) (h' := (shT, fi, fl, fr)) rfl ?_
    rw [ub]
    refine gp_of (fun _ k9 => g_call (y := 77) (as := [.int (S j), .int (b01 (bl w j))]) (st' := [.int q]) rfl rfl (pn) k9) ?_
    refine gp_n 4 (j' := 4) (lv' := [some (.ref 1), some (.long w), none, some (.int (q + p)), some (.int ((nI j) + 1))]) (st' := []) (h' := (shT, fi, fl, fr)) rfl ?_
    rw [nI_1]
    exact gp_done g rfl
theorem dm_go {N : Nat} {S : Nat → Int32} {w : Int64} {fi : Nat → Nat → Int32} {fl : Nat → Nat → Int64} {fr : Nat → Nat → Option Nat} (hN : N ≤ 64) (k22 : fr 70 22 = some 74) (c1 : fi 70 14 = nI N) (hS : ∀ s, s < 64 → fi 74 s = S s) : ∀ (n j : Nat), j + n = N → Go pmT none cd_188 4 [some (.ref 70), some (.long w), none, some (.int (dsN S w j)), some (.int (nI j))] [] (shT, fi, fl, fr) (some (.int (dsN S w N)), (shT, fi, fl, fr)) := by
  intro n
  induction n with
  | zero =>
    intro j hj
    have hj : j = N := by omega
    subst hj
    generalize dsN S w j = q
    refine go_of ?_
    refine gp_n 2 (j' := 6) (lv' := [some (.ref 70), some (.long w), none, some (.int q), some (.int (nI j))]) (st' := [.ref 70, .int (nI j)]) (h' := (shT, fi, fl, fr)) rfl ?_
    refine gp_of (fun _ k9 => g_getI (x := nI j) rfl (Or.inl rfl) rfl (by decide) (c1) k9) ?_
    refine gp_of (fun _ k9 => g_ict rfl (show (nI j) ≤ (nI j) from Int32.le_refl _) k9) ?_
    refine gp_n 1 (j' := 42) (lv' := [some (.ref 70), some (.long w), none, some (.int q), some (.int (nI j))]) (st' := [.int q]) (h' := (shT, fi, fl, fr)) rfl ?_
    refine gp_done (g_ret rfl) ?_
    rfl
  | succ n ih =>
    intro j hj
    have g := ih (j + 1) (by omega)
    rw [dsN] at g
    have sj := hS j (by omega)
    have hs := has_ev (v := w) (i := nI j) (h := (shT, fi, fl, fr))
    rw [hasf_bit (by omega)] at hs
    generalize dsN S w j = q at *
    unfold pnS at g
    cases hb : bl w j
    · rw [hb] at hs g
      have hs : Ev pmT 161 [.long w, .int (nI j)] (shT, fi, fl, fr) (some (.int 0)) (shT, fi, fl, fr) := hs
      rw [if_neg (by decide)] at g
      by_cases h0 : S j < 0
      · rw [if_pos h0] at g
        refine go_of ?_
        refine gp_n 2 (j' := 6) (lv' := [some (.ref 70), some (.long w), none, some (.int q), some (.int (nI j))]) (st' := [.ref 70, .int (nI j)]) (h' := (shT, fi, fl, fr)) rfl ?_
        refine gp_of (fun _ k9 => g_getI (x := nI N) rfl (Or.inl rfl) rfl (by decide) (c1) k9) ?_
        refine gp_of (fun _ k9 => g_icf rfl (show ¬ ((nI N) ≤ (nI j)) from nI_ge (by omega) (by omega)) k9) ?_
        refine gp_n 3 (j' := 11) (lv' := [some (.ref 70), some (.long w), none, some (.int q), some (.int (nI j))]) (st' := [.int (nI j), .long w, .int q]) (h' := (shT, fi, fl, fr)) rfl ?_
        refine gp_of (fun _ k9 => g_call (y := 161) (as := [.long w, .int (nI j)]) (st' := [.int q]) rfl rfl (hs) k9) ?_
        refine gp_of (fun _ k9 => g_ift rfl (show (0 : Int32) = (0 : Int32) from by decide) k9) ?_
        refine gp_n 1 (j' := 26) (lv' := [some (.ref 70), some (.long w), none, some (.int q), some (.int (nI j))]) (st' := [.ref 70, .int q]) (h' := (shT, fi, fl, fr)) rfl ?_
        refine gp_of (fun _ k9 => g_getR (q' := 74) rfl rfl (by decide) k22 k9) ?_
        refine gp_n 1 (j' := 28) (lv' := [some (.ref 70), some (.long w), none, some (.int q), some (.int (nI j))]) (st' := [.int (nI j), .ref 74, .int q]) (h' := (shT, fi, fl, fr)) rfl ?_
        refine gp_of (fun _ k9 => g_iald (k := j) (x := S j) rfl rfl (rfl) (by omega) (by decide) (sj) k9) ?_
        refine gp_of (fun _ k9 => g_iff rfl (show ¬ ((0 : Int32) ≤ (S j)) from Int32.not_le.mpr h0) k9) ?_
        refine gp_n 1 (j' := 31) (lv' := [some (.ref 70), some (.long w), none, some (.int q), some (.int (nI j))]) (st' := [.ref 70, .int q]) (h' := (shT, fi, fl, fr)) rfl ?_
        refine gp_of (fun _ k9 => g_getR (q' := 74) rfl rfl (by decide) k22 k9) ?_
        refine gp_n 1 (j' := 33) (lv' := [some (.ref 70), some (.long w), none, some (.int q), some (.int (nI j))]) (st' := [.int (nI j), .ref 74, .int q]) (h' := (shT, fi, fl, fr)) rfl ?_
        refine gp_of (fun _ k9 => g_iald (k := j) (x := S j) rfl rfl (rfl) (by omega) (by decide) (sj) k9) ?_
        refine gp_n 6 (j' := 4) (lv' := [some (.ref 70), some (.long w), none, some (.int (q + (-(S j)))), some (.int ((nI j) + 1))]) (st' := []) (h' := (shT, fi, fl, fr)) rfl ?_
        rw [nI_1]
        exact gp_done g rfl
      · rw [if_neg h0] at g
        refine go_of ?_
        refine gp_n 2 (j' := 6) (lv' := [some (.ref 70), some (.long w), none, some (.int q), some (.int (nI j))]) (st' := [.ref 70, .int (nI j)]) (h' := (shT, fi, fl, fr)) rfl ?_
        refine gp_of (fun _ k9 => g_getI (x := nI N) rfl (Or.inl rfl) rfl (by decide) (c1) k9) ?_
        refine gp_of (fun _ k9 => g_icf rfl (show ¬ ((nI N) ≤ (nI j)) from nI_ge (by omega) (by omega)) k9) ?_
        refine gp_n 3 (j' := 11) (lv' := [some (.ref 70), some (.long w), none, some (.int q), some (.int (nI j))]) (st' := [.int (nI j), .long w, .int q]) (h' := (shT, fi, fl, fr)) rfl ?_
        refine gp_of (fun _ k9 => g_call (y := 161) (as := [.long w, .int (nI j)]) (st' := [.int q]) rfl rfl (hs) k9) ?_
        refine gp_of (fun _ k9 => g_ift rfl (show (0 : Int32) = (0 : Int32) from by decide) k9) ?_
        refine gp_n 1 (j' := 26) (lv' := [some (.ref 70), some (.long w), none, some (.int q), some (.int (nI j))]) (st' := [.ref 70, .int q]) (h' := (shT, fi, fl, fr)) rfl ?_
        refine gp_of (fun _ k9 => g_getR (q' := 74) rfl rfl (by decide) k22 k9) ?_
        refine gp_n 1 (j' := 28) (lv' := [some (.ref 70), some (.long w), none, some (.int q), some (.int (nI j))]) (st' := [.int (nI j), .ref 74, .int q]) (h' := (shT, fi, fl, fr)) rfl ?_
        refine gp_of (fun _ k9 => g_iald (k := j) (x := S j) rfl rfl (rfl) (by omega) (by decide) (sj) k9) ?_
        refine gp_of (fun _ k9 => g_ift rfl (show (0 : Int32) ≤ (S j) from Int32.not_lt.mp h0) k9) ?_
        refine gp_n 5 (j' := 4) (lv' := [some (.ref 70), some (.long w), none, some (.int (q + 0)), some (.int ((nI j) + 1))]) (st' := []) (h' := (shT, fi, fl, fr)) rfl ?_
        rw [nI_1]
        exact gp_done g rfl
    · rw [hb] at hs g
      have hs : Ev pmT 161 [.long w, .int (nI j)] (shT, fi, fl, fr) (some (.int 1)) (shT, fi, fl, fr) := hs
      rw [if_pos rfl] at g
      by_cases h0 : 0 < S j
      · rw [if_pos h0] at g
        refine go_of ?_
        refine gp_n 2 (j' := 6) (lv' := [some (.ref 70), some (.long w), none, some (.int q), some (.int (nI j))]) (st' := [.ref 70, .int (nI j)]) (h' := (shT, fi, fl, fr)) rfl ?_
        refine gp_of (fun _ k9 => g_getI (x := nI N) rfl (Or.inl rfl) rfl (by decide) (c1) k9) ?_
        refine gp_of (fun _ k9 => g_icf rfl (show ¬ ((nI N) ≤ (nI j)) from nI_ge (by omega) (by omega)) k9) ?_
        refine gp_n 3 (j' := 11) (lv' := [some (.ref 70), some (.long w), none, some (.int q), some (.int (nI j))]) (st' := [.int (nI j), .long w, .int q]) (h' := (shT, fi, fl, fr)) rfl ?_
        refine gp_of (fun _ k9 => g_call (y := 161) (as := [.long w, .int (nI j)]) (st' := [.int q]) rfl rfl (hs) k9) ?_
        refine gp_of (fun _ k9 => g_iff rfl (show ¬ ((1 : Int32) = (0 : Int32)) from by decide) k9) ?_
        refine gp_n 1 (j' := 14) (lv' := [some (.ref 70), some (.long w), none, some (.int q), some (.int (nI j))]) (st' := [.ref 70, .int q]) (h' := (shT, fi, fl, fr)) rfl ?_
        refine gp_of (fun _ k9 => g_getR (q' := 74) rfl rfl (by decide) k22 k9) ?_
        refine gp_n 1 (j' := 16) (lv' := [some (.ref 70), some (.long w), none, some (.int q), some (.int (nI j))]) (st' := [.int (nI j), .ref 74, .int q]) (h' := (shT, fi, fl, fr)) rfl ?_
        refine gp_of (fun _ k9 => g_iald (k := j) (x := S j) rfl rfl (rfl) (by omega) (by decide) (sj) k9) ?_
        refine gp_of (fun _ k9 => g_iff rfl (show ¬ ((S j) ≤ (0 : Int32)) from Int32.not_le.mpr h0) k9) ?_
        refine gp_n 1 (j' := 19) (lv' := [some (.ref 70), some (.long w), none, some (.int q), some (.int (nI j))]) (st' := [.ref 70, .int q]) (h' := (shT, fi, fl, fr)) rfl ?_
        refine gp_of (fun _ k9 => g_getR (q' := 74) rfl rfl (by decide) k22 k9) ?_
        refine gp_n 1 (j' := 21) (lv' := [some (.ref 70), some (.long w), none, some (.int q), some (.int (nI j))]) (st' := [.int (nI j), .ref 74, .int q]) (h' := (shT, fi, fl, fr)) rfl ?_
        refine gp_of (fun _ k9 => g_iald (k := j) (x := S j) rfl rfl (rfl) (by omega) (by decide) (sj) k9) ?_
        refine gp_n 5 (j' := 4) (lv' := [some (.ref 70), some (.long w), none, some (.int (q + (S j))), some (.int ((nI j) + 1))]) (st' := []) (h' := (shT, fi, fl, fr)) rfl ?_
        rw [nI_1]
        exact gp_done g rfl
      · rw [if_neg h0] at g
        refine go_of ?_
        refine gp_n 2 (j' := 6) (lv' := [some (.ref 70), some (.long w), none, some (.int q), some (.int (nI j))]) (st' := [.ref 70, .int (nI j)]) (h' := (shT, fi, fl, fr)) rfl ?_
        refine gp_of (fun _ k9 => g_getI (x := nI N) rfl (Or.inl rfl) rfl (by decide) (c1) k9) ?_
        refine gp_of (fun _ k9 => g_icf rfl (show ¬ ((nI N) ≤ (nI j)) from nI_ge (by omega) (by omega)) k9) ?_
        refine gp_n 3 (j' := 11) (lv' := [some (.ref 70), some (.long w), none, some (.int q), some (.int (nI j))]) (st' := [.int (nI j), .long w, .int q]) (h' := (shT, fi, fl, fr)) rfl ?_
        refine gp_of (fun _ k9 => g_call (y := 161) (as := [.long w, .int (nI j)]) (st' := [.int q]) rfl rfl (hs) k9) ?_
        refine gp_of (fun _ k9 => g_iff rfl (show ¬ ((1 : Int32) = (0 : Int32)) from by decide) k9) ?_
        refine gp_n 1 (j' := 14) (lv' := [some (.ref 70), some (.long w), none, some (.int q), some (.int (nI j))]) (st' := [.ref 70, .int q]) (h' := (shT, fi, fl, fr)) rfl ?_
        refine gp_of (fun _ k9 => g_getR (q' := 74) rfl rfl (by decide) k22 k9) ?_
        refine gp_n 1 (j' := 16) (lv' := [some (.ref 70), some (.long w), none, some (.int q), some (.int (nI j))]) (st' := [.int (nI j), .ref 74, .int q]) (h' := (shT, fi, fl, fr)) rfl ?_
        refine gp_of (fun _ k9 => g_iald (k := j) (x := S j) rfl rfl (rfl) (by omega) (by decide) (sj) k9) ?_
        refine gp_of (fun _ k9 => g_ift rfl (show (S j) ≤ (0 : Int32) from Int32.not_lt.mp h0) k9) ?_
        refine gp_n 6 (j' := 4) (lv' := [some (.ref 70), some (.long w), none, some (.int (q + 0)), some (.int ((nI j) + 1))]) (st' := []) (h' := (shT, fi, fl, fr)) rfl ?_
        rw [nI_1]
        exact gp_done g rfl
theorem di_C {h : PmH} {a : AB} {w : Int64} {N : Nat} (hI : HI hdT shT h) (hR : QC true h a) (hB : VSB (a_v a)) (hN : N ≤ 64) (e1 : (a_v a).1 1 = nI N) : Ev pmT 75 [.ref 0, .long w] h (some (.int (if 0 < (a_v a).1 1 then dsN (a_v a).2.2 w N else -1))) h := by
  have f := hR.2.2.2.2.1
  have k0 : ph_r h 0 0 = some 1 := hi_r hI rfl rfl (by decide)
  have k8 : ph_r h 1 8 = some 2 := hi_r hI rfl rfl (by decide)
  have t1 := told1 hI (f.1 1 (by decide))
  have t0 := told0 hI (f.1 1 (by decide))
  have c1 : ph_i h 1 1 = nI N := (f.1 1 (by decide)).trans e1
  have hS := (f.2 rfl).2
  refine Ev.of (es := cd_75) (ml := 3) (lv := [some (.ref 0), some (.long w), none]) rfl rfl rfl ?_
  obtain ⟨S, fi, fl, fr⟩ := h
  have hS : S = shT := hI.1
  subst hS
  have k0 : fr 0 0 = some 1 := k0
  have g := ds_go (w := w) (fl := fl) hN k8 c1 hS hB N 0 (by omega)
  have ev : Ev pmT 76 [.ref 1, .long w] (shT, fi, fl, fr) (some (.int (dsN (a_v a).2.2 w N))) (shT, fi, fl, fr) := by
    refine Ev.of (es := cd_76) (ml := 5) (lv := [some (.ref 1), some (.long w), none, none, none]) rfl rfl rfl ?_
    refine go_of ?_
    refine gp_n 4 (j' := 4) (lv' := [some (.ref 1), some (.long w), none, some (.int (dsN (a_v a).2.2 w 0)), some (.int (nI 0))]) (st' := []) (h' := (shT, fi, fl, fr)) rfl ?_
    exact gp_done g rfl
  refine go_of ?_
  by_cases h0 : 0 < (a_v a).1 1
  · rw [if_pos h0]
    generalize dsN (a_v a).2.2 w N = d at *
    refine gp_n 1 (j' := 1) (lv' := [some (.ref 0), some (.long w), none]) (st' := [.ref 0]) (h' := (shT, fi, fl, fr)) rfl ?_
    refine gp_of (fun _ k9 => g_getR (q' := 1) rfl rfl (by decide) k0 k9) ?_
    refine gp_of (fun _ k9 => g_call (y := 57) (as := [.ref 1]) (st' := []) rfl rfl (t1 h0) k9) ?_
    refine gp_of (fun _ k9 => g_iff rfl (show ¬ ((1 : Int32) = (0 : Int32)) from by decide) k9) ?_
    refine gp_n 1 (j' := 5) (lv' := [some (.ref 0), some (.long w), none]) (st' := [.ref 0]) (h' := (shT, fi, fl, fr)) rfl ?_
    refine gp_of (fun _ k9 => g_getR (q' := 1) rfl rfl (by decide) k0 k9) ?_
    refine gp_n 1 (j' := 7) (lv' := [some (.ref 0), some (.long w), none]) (st' := [.long w, .ref 1]) (h' := (shT, fi, fl, fr)) rfl ?_
    refine gp_of (fun _ k9 => g_call (y := 76) (as := [.ref 1, .long w]) (st' := []) rfl rfl (ev) k9) ?_
    refine gp_n 1 (j' := 10) (lv' := [some (.ref 0), some (.long w), none]) (st' := [.int d]) (h' := (shT, fi, fl, fr)) rfl ?_
    refine gp_done (g_ret rfl) ?_
    rfl
  · rw [if_neg h0]
    refine gp_n 1 (j' := 1) (lv' := [some (.ref 0), some (.long w), none]) (st' := [.ref 0]) (h' := (shT, fi, fl, fr)) rfl ?_
    refine gp_of (fun _ k9 => g_getR (q' := 1) rfl rfl (by decide) k0 k9) ?_
    refine gp_of (fun _ k9 => g_call (y := 57) (as := [.ref 1]) (st' := []) rfl rfl (t0 h0) k9) ?_
    refine gp_of (fun _ k9 => g_ift rfl (show (0 : Int32) = (0 : Int32) from by decide) k9) ?_
    refine gp_n 1 (j' := 10) (lv' := [some (.ref 0), some (.long w), none]) (st' := [.int (-1)]) (h' := (shT, fi, fl, fr)) rfl ?_
    refine gp_done (g_ret rfl) ?_
    rfl
theorem di_M {h : PmH} {a : AB} {w : Int64} {N : Nat} (hI : HI hdT shT h) (hR : QM true h a) (hN : N ≤ 64) (e1 : (a_v a).1 1 = nI N) : Ev pmT 187 [.ref 70, .long w] h (some (.int (if 0 < (a_v a).1 1 then dsN (a_v a).2.2 w N else -1))) h := by
  have f := hR.2.2.2.2.1
  have k22 : ph_r h 70 22 = some 74 := hi_r hI rfl rfl (by decide)
  have c0 : ph_i h 70 14 = (a_v a).1 1 := f.1 0 (by decide)
  have t1 := isc1 hI c0
  have t0 := isc0 hI c0
  have c1 : ph_i h 70 14 = nI N := c0.trans e1
  have hS := (f.2 rfl).2
  refine Ev.of (es := cd_187) (ml := 3) (lv := [some (.ref 70), some (.long w), none]) rfl rfl rfl ?_
  obtain ⟨S, fi, fl, fr⟩ := h
  have hS : S = shT := hI.1
  subst hS
  have g := dm_go (w := w) (fl := fl) hN k22 c1 hS N 0 (by omega)
  have ev : Ev pmT 188 [.ref 70, .long w] (shT, fi, fl, fr) (some (.int (dsN (a_v a).2.2 w N))) (shT, fi, fl, fr) := by
    refine Ev.of (es := cd_188) (ml := 5) (lv := [some (.ref 70), some (.long w), none, none, none]) rfl rfl rfl ?_
    refine go_of ?_
    refine gp_n 4 (j' := 4) (lv' := [some (.ref 70), some (.long w), none, some (.int (dsN (a_v a).2.2 w 0)), some (.int (nI 0))]) (st' := []) (h' := (shT, fi, fl, fr)) rfl ?_
    exact gp_done g rfl
  refine go_of ?_
  by_cases h0 : 0 < (a_v a).1 1
  · rw [if_pos h0]
    generalize dsN (a_v a).2.2 w N = d at *
    refine gp_n 1 (j' := 1) (lv' := [some (.ref 70), some (.long w), none]) (st' := [.ref 70]) (h' := (shT, fi, fl, fr)) rfl ?_
    refine gp_of (fun _ k9 => g_call (y := 172) (as := [.ref 70]) (st' := []) rfl rfl (t1 h0) k9) ?_
    refine gp_of (fun _ k9 => g_iff rfl (show ¬ ((1 : Int32) = (0 : Int32)) from by decide) k9) ?_
    refine gp_n 2 (j' := 5) (lv' := [some (.ref 70), some (.long w), none]) (st' := [.long w, .ref 70]) (h' := (shT, fi, fl, fr)) rfl ?_
    refine gp_of (fun _ k9 => g_call (y := 188) (as := [.ref 70, .long w]) (st' := []) rfl rfl (ev) k9) ?_
    refine gp_n 1 (j' := 8) (lv' := [some (.ref 70), some (.long w), none]) (st' := [.int d]) (h' := (shT, fi, fl, fr)) rfl ?_
    refine gp_done (g_ret rfl) ?_
    rfl
  · rw [if_neg h0]
    refine gp_n 1 (j' := 1) (lv' := [some (.ref 70), some (.long w), none]) (st' := [.ref 70]) (h' := (shT, fi, fl, fr)) rfl ?_
    refine gp_of (fun _ k9 => g_call (y := 172) (as := [.ref 70]) (st' := []) rfl rfl (t0 h0) k9) ?_
    refine gp_of (fun _ k9 => g_ift rfl (show (0 : Int32) = (0 : Int32) from by decide) k9) ?_
    refine gp_n 1 (j' := 8) (lv' := [some (.ref 70), some (.long w), none]) (st' := [.int (-1)]) (h' := (shT, fi, fl, fr)) rfl ?_
    refine gp_done (g_ret rfl) ?_
    rfl
theorem p_distance {h : PmH} {a : AB} (w : Int64) (hr : REL2 h a) : PI 75 187 [.long w] h (fun x y => x = y) := by
  obtain ⟨⟨hI, hC, hM, hA⟩, hV⟩ := id hr
  obtain ⟨N, n1, n2⟩ := n_N hr
  exact ⟨_, _, h, h, a, di_C hI hC hV.1.2.1 n1 n2, di_M hI hM n1 n2, hr, hI, rfl⟩
