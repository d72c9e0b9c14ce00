/-! THE MODEL'S READING -/
def oI (b : Option Nat) : Int32 := match b with
  | none => -1
  | some q => nI q
theorem lm_go2 {M : Nat} {Kc : Nat → Int32} {L : Nat → Bool} {fi : Nat → Nat → Int32} {fl : Nat → Nat → Int64} {fr : Nat → Nat → Option Nat} (hM : M ≤ 16) (k29 : fr 70 29 = some 79) (k30 : fr 70 30 = some 80) (hK : ∀ q, q < M → fi 79 q = Kc q) (hL : ∀ q, q < M → (L q = true ↔ ¬ fi 80 q < 0)) : ∀ (n q : Nat), q + n = M → Go pmT none cd_197 4 [some (.ref 70), some (.int (nI M)), some (.int (oI (bst (fun t => (Kc t).toInt) L q))), some (.int (nI q))] [] (shT, fi, fl, fr) (some (.int (oI (bst (fun t => (Kc t).toInt) L M))), (shT, fi, fl, fr)) := by
  intro n
  induction n with
  | zero =>
    intro q hq
    have hq : q = M := by omega
    subst hq
    generalize oI (bst (fun t => (Kc t).toInt) L q) = e
    refine go_of ?_
    refine gp_n 2 (j' := 6) (lv' := [some (.ref 70), some (.int (nI q)), some (.int e), some (.int (nI q))]) (st' := [.int (nI q), .int (nI q)]) (h' := (shT, fi, fl, fr)) rfl ?_
    refine gp_of (fun _ k9 => g_ict rfl (show (nI q) ≤ (nI q) from Int32.le_refl _) k9) ?_
    refine gp_n 1 (j' := 28) (lv' := [some (.ref 70), some (.int (nI q)), some (.int e), some (.int (nI q))]) (st' := [.int e]) (h' := (shT, fi, fl, fr)) rfl ?_
    refine gp_done (g_ret rfl) ?_
    rfl
  | succ n ih =>
    intro q hq
    have g := ih (q + 1) (by omega)
    have lq := hL q (by omega)
    have kq := hK q (by omega)
    have bp := bst_p (K := fun t => (Kc t).toInt) (L := L) q
    rw [bst] at g
    generalize oI (bst (fun t => (Kc t).toInt) L M) = e at *
    cases hl : L q
    · rw [hl, if_neg (by decide)] at g
      have neg : fi 80 q < 0 := Decidable.byContradiction (fun z => by rw [lq.mpr z] at hl; cases hl)
      generalize oI (bst (fun t => (Kc t).toInt) L q) = e0 at *
      refine go_of ?_
      refine gp_n 2 (j' := 6) (lv' := [some (.ref 70), some (.int (nI M)), some (.int e0), some (.int (nI q))]) (st' := [.int (nI M), .int (nI q)]) (h' := (shT, fi, fl, fr)) rfl ?_
      refine gp_of (fun _ k9 => g_icf rfl (show ¬ ((nI M) ≤ (nI q)) from nI_ge (by omega) (by omega)) k9) ?_
      refine gp_n 1 (j' := 8) (lv' := [some (.ref 70), some (.int (nI M)), some (.int e0), some (.int (nI q))]) (st' := [.ref 70]) (h' := (shT, fi, fl, fr)) rfl ?_
      refine gp_of (fun _ k9 => g_getR (q' := 80) rfl rfl (by decide) k30 k9) ?_
      refine gp_n 1 (j' := 10) (lv' := [some (.ref 70), some (.int (nI M)), some (.int e0), some (.int (nI q))]) (st' := [.int (nI q), .ref 80]) (h' := (shT, fi, fl, fr)) rfl ?_
      refine gp_of (fun _ k9 => g_iald (k := q) (x := fi 80 q) rfl rfl (rfl) (by omega) (by decide) (rfl) k9) ?_
      refine gp_of (fun _ k9 => g_ift rfl (show (fi 80 q) < (0 : Int32) from neg) k9) ?_
      refine gp_n 2 (j' := 4) (lv' := [some (.ref 70), some (.int (nI M)), some (.int e0), some (.int ((nI q) + 1))]) (st' := []) (h' := (shT, fi, fl, fr)) rfl ?_
      rw [nI_1]
      exact gp_done g rfl
    · rw [hl, if_pos rfl] at g
      have pos := lq.mp hl
      cases hb : bst (fun t => (Kc t).toInt) L q with
      | none =>
        rw [hb] at g
        have g : Go pmT none cd_197 4 [some (.ref 70), some (.int (nI M)), some (.int (nI q)), some (.int (nI (q + 1)))] [] (shT, fi, fl, fr) (some (.int e), (shT, fi, fl, fr)) := g
        show Go pmT none cd_197 4 [some (.ref 70), some (.int (nI M)), some (.int (-1)), some (.int (nI q))] [] _ _
        refine go_of ?_
        refine gp_n 2 (j' := 6) (lv' := [some (.ref 70), some (.int (nI M)), some (.int (-1)), some (.int (nI q))]) (st' := [.int (nI M), .int (nI q)]) (h' := (shT, fi, fl, fr)) rfl ?_
        refine gp_of (fun _ k9 => g_icf rfl (show ¬ ((nI M) ≤ (nI q)) from nI_ge (by omega) (by omega)) k9) ?_
        refine gp_n 1 (j' := 8) (lv' := [some (.ref 70), some (.int (nI M)), some (.int (-1)), some (.int (nI q))]) (st' := [.ref 70]) (h' := (shT, fi, fl, fr)) rfl ?_
        refine gp_of (fun _ k9 => g_getR (q' := 80) rfl rfl (by decide) k30 k9) ?_
        refine gp_n 1 (j' := 10) (lv' := [some (.ref 70), some (.int (nI M)), some (.int (-1)), some (.int (nI q))]) (st' := [.int (nI q), .ref 80]) (h' := (shT, fi, fl, fr)) rfl ?_
        refine gp_of (fun _ k9 => g_iald (k := q) (x := fi 80 q) rfl rfl (rfl) (by omega) (by decide) (rfl) k9) ?_
        refine gp_of (fun _ k9 => g_iff rfl (show ¬ ((fi 80 q) < (0 : Int32)) from pos) k9) ?_
        refine gp_n 1 (j' := 13) (lv' := [some (.ref 70), some (.int (nI M)), some (.int (-1)), some (.int (nI q))]) (st' := [.int (-1)]) (h' := (shT, fi, fl, fr)) rfl ?_
        refine gp_of (fun _ k9 => g_ift rfl (show ((-1) : Int32) < (0 : Int32) from by decide) k9) ?_
        refine gp_n 4 (j' := 4) (lv' := [some (.ref 70), some (.int (nI M)), some (.int (nI q)), some (.int ((nI q) + 1))]) (st' := []) (h' := (shT, fi, fl, fr)) rfl ?_
        rw [nI_1]
        exact gp_done g rfl
      | some b =>
        rw [hb] at g bp
        have bl1 : b < q := bp.1
        have kb := hK b (by omega)
        have g5 : Go pmT none cd_197 4 [some (.ref 70), some (.int (nI M)), some (.int (oI (if (Kc q).toInt < (Kc b).toInt then some q else some b))), some (.int (nI (q + 1)))] [] (shT, fi, fl, fr) (some (.int e), (shT, fi, fl, fr)) := g
        show Go pmT none cd_197 4 [some (.ref 70), some (.int (nI M)), some (.int (nI b)), some (.int (nI q))] [] _ _
        by_cases hc : (Kc q).toInt < (Kc b).toInt
        · rw [if_pos hc] at g5
          have hc : Kc q < Kc b := Int32.lt_iff_toInt_lt.mpr hc
          have g7 : Go pmT none cd_197 4 [some (.ref 70), some (.int (nI M)), some (.int (nI q)), some (.int (nI (q + 1)))] [] (shT, fi, fl, fr) (some (.int e), (shT, fi, fl, fr)) := g5
          clear g5 g lq hL hK hb bp ih
          generalize Kc q = x at *
          generalize Kc b = y at *
          refine go_of ?_
          refine gp_n 2 (j' := 6) (lv' := [some (.ref 70), some (.int (nI M)), some (.int (nI b)), some (.int (nI q))]) (st' := [.int (nI M), .int (nI q)]) (h' := (shT, fi, fl, fr)) rfl ?_
          refine gp_of (fun _ k9 => g_icf rfl (show ¬ ((nI M) ≤ (nI q)) from nI_ge (by omega) (by omega)) k9) ?_
          refine gp_n 1 (j' := 8) (lv' := [some (.ref 70), some (.int (nI M)), some (.int (nI b)), some (.int (nI q))]) (st' := [.ref 70]) (h' := (shT, fi, fl, fr)) rfl ?_
          refine gp_of (fun _ k9 => g_getR (q' := 80) rfl rfl (by decide) k30 k9) ?_
          refine gp_n 1 (j' := 10) (lv' := [some (.ref 70), some (.int (nI M)), some (.int (nI b)), some (.int (nI q))]) (st' := [.int (nI q), .ref 80]) (h' := (shT, fi, fl, fr)) rfl ?_
          refine gp_of (fun _ k9 => g_iald (k := q) (x := fi 80 q) rfl rfl (rfl) (by omega) (by decide) (rfl) k9) ?_
          refine gp_of (fun _ k9 => g_iff rfl (show ¬ ((fi 80 q) < (0 : Int32)) from pos) k9) ?_
          refine gp_n 1 (j' := 13) (lv' := [some (.ref 70), some (.int (nI M)), some (.int (nI b)), some (.int (nI q))]) (st' := [.int (nI b)]) (h' := (shT, fi, fl, fr)) rfl ?_
          refine gp_of (fun _ k9 => g_iff rfl (show ¬ ((nI b) < (0 : Int32)) from nI_pos (by omega)) k9) ?_
          refine gp_n 1 (j' := 15) (lv' := [some (.ref 70), some (.int (nI M)), some (.int (nI b)), some (.int (nI q))]) (st' := [.ref 70]) (h' := (shT, fi, fl, fr)) rfl ?_
          refine gp_of (fun _ k9 => g_getR (q' := 79) rfl rfl (by decide) k29 k9) ?_
          refine gp_n 1 (j' := 17) (lv' := [some (.ref 70), some (.int (nI M)), some (.int (nI b)), some (.int (nI q))]) (st' := [.int (nI q), .ref 79]) (h' := (shT, fi, fl, fr)) rfl ?_
          refine gp_of (fun _ k9 => g_iald (k := q) (x := x) rfl rfl (rfl) (by omega) (by decide) (kq) k9) ?_
          refine gp_n 1 (j' := 19) (lv' := [some (.ref 70), some (.int (nI M)), some (.int (nI b)), some (.int (nI q))]) (st' := [.ref 70, .int x]) (h' := (shT, fi, fl, fr)) rfl ?_
          refine gp_of (fun _ k9 => g_getR (q' := 79) rfl rfl (by decide) k29 k9) ?_
          refine gp_n 1 (j' := 21) (lv' := [some (.ref 70), some (.int (nI M)), some (.int (nI b)), some (.int (nI q))]) (st' := [.int (nI b), .ref 79, .int x]) (h' := (shT, fi, fl, fr)) rfl ?_
          refine gp_of (fun _ k9 => g_iald (k := b) (x := y) rfl rfl (rfl) (by omega) (by decide) (kb) k9) ?_
          refine gp_of (fun _ k9 => g_icf rfl (show ¬ (y ≤ x) from Int32.not_le.mpr hc) k9) ?_
          refine gp_n 4 (j' := 4) (lv' := [some (.ref 70), some (.int (nI M)), some (.int (nI q)), some (.int ((nI q) + 1))]) (st' := []) (h' := (shT, fi, fl, fr)) rfl ?_
          rw [nI_1]
          exact gp_done g7 rfl
        · rw [if_neg hc] at g5
          have hc : Kc b ≤ Kc q := Int32.le_iff_toInt_le.mpr (by omega)
          have g7 : Go pmT none cd_197 4 [some (.ref 70), some (.int (nI M)), some (.int (nI b)), some (.int (nI (q + 1)))] [] (shT, fi, fl, fr) (some (.int e), (shT, fi, fl, fr)) := g5
          clear g5 g lq hL hK hb bp ih
          generalize Kc q = x at *
          generalize Kc b = y at *
          refine go_of ?_
          refine gp_n 2 (j' := 6) (lv' := [some (.ref 70), some (.int (nI M)), some (.int (nI b)), some (.int (nI q))]) (st' := [.int (nI M), .int (nI q)]) (h' := (shT, fi, fl, fr)) rfl ?_
          refine gp_of (fun _ k9 => g_icf rfl (show ¬ ((nI M) ≤ (nI q)) from nI_ge (by omega) (by omega)) k9) ?_
          refine gp_n 1 (j' := 8) (lv' := [some (.ref 70), some (.int (nI M)), some (.int (nI b)), some (.int (nI q))]) (st' := [.ref 70]) (h' := (shT, fi, fl, fr)) rfl ?_
          refine gp_of (fun _ k9 => g_getR (q' := 80) rfl rfl (by decide) k30 k9) ?_
          refine gp_n 1 (j' := 10) (lv' := [some (.ref 70), some (.int (nI M)), some (.int (nI b)), some (.int (nI q))]) (st' := [.int (nI q), .ref 80]) (h' := (shT, fi, fl, fr)) rfl ?_
          refine gp_of (fun _ k9 => g_iald (k := q) (x := fi 80 q) rfl rfl (rfl) (by omega) (by decide) (rfl) k9) ?_
          refine gp_of (fun _ k9 => g_iff rfl (show ¬ ((fi 80 q) < (0 : Int32)) from pos) k9) ?_
          refine gp_n 1 (j' := 13) (lv' := [some (.ref 70), some (.int (nI M)), some (.int (nI b)), some (.int (nI q))]) (st' := [.int (nI b)]) (h' := (shT, fi, fl, fr)) rfl ?_
          refine gp_of (fun _ k9 => g_iff rfl (show ¬ ((nI b) < (0 : Int32)) from nI_pos (by omega)) k9) ?_
          refine gp_n 1 (j' := 15) (lv' := [some (.ref 70), some (.int (nI M)), some (.int (nI b)), some (.int (nI q))]) (st' := [.ref 70]) (h' := (shT, fi, fl, fr)) rfl ?_
          refine gp_of (fun _ k9 => g_getR (q' := 79) rfl rfl (by decide) k29 k9) ?_
          refine gp_n 1 (j' := 17) (lv' := [some (.ref 70), some (.int (nI M)), some (.int (nI b)), some (.int (nI q))]) (st' := [.int (nI q), .ref 79]) (h' := (shT, fi, fl, fr)) rfl ?_
          refine gp_of (fun _ k9 => g_iald (k := q) (x := x) rfl rfl (rfl) (by omega) (by decide) (kq) k9) ?_
          refine gp_n 1 (j' := 19) (lv' := [some (.ref 70), some (.int (nI M)), some (.int (nI b)), some (.int (nI q))]) (st' := [.ref 70, .int x]) (h' := (shT, fi, fl, fr)) rfl ?_
          refine gp_of (fun _ k9 => g_getR (q' := 79) rfl rfl (by decide) k29 k9) ?_
          refine gp_n 1 (j' := 21) (lv' := [some (.ref 70), some (.int (nI M)), some (.int (nI b)), some (.int (nI q))]) (st' := [.int (nI b), .ref 79, .int x]) (h' := (shT, fi, fl, fr)) rfl ?_
          refine gp_of (fun _ k9 => g_iald (k := b) (x := y) rfl rfl (rfl) (by omega) (by decide) (kb) k9) ?_
          refine gp_of (fun _ k9 => g_ict rfl (show y ≤ x from hc) k9) ?_
          refine gp_n 2 (j' := 4) (lv' := [some (.ref 70), some (.int (nI M)), some (.int (nI b)), some (.int ((nI q) + 1))]) (st' := []) (h' := (shT, fi, fl, fr)) rfl ?_
          rw [nI_1]
          exact gp_done g7 rfl
theorem lm_ev2 {M : Nat} {Kc : Nat → Int32} {L : Nat → Bool} {fi : Nat → Nat → Int32} {fl : Nat → Nat → Int64} {fr : Nat → Nat → Option Nat} (hM : M ≤ 16) (k29 : fr 70 29 = some 79) (k30 : fr 70 30 = some 80) (hK : ∀ q, q < M → fi 79 q = Kc q) (hL : ∀ q, q < M → (L q = true ↔ ¬ fi 80 q < 0)) : Ev pmT 197 [.ref 70, .int (nI M)] (shT, fi, fl, fr) (some (.int (oI (bst (fun t => (Kc t).toInt) L M)))) (shT, fi, fl, fr) := by
  have g := lm_go2 (fl := fl) hM k29 k30 hK hL M 0 (by omega)
  refine Ev.of (es := cd_197) (ml := 4) (lv := [some (.ref 70), some (.int (nI M)), none, none]) rfl rfl rfl ?_
  refine go_of ?_
  refine gp_n 4 (j' := 4) (lv' := [some (.ref 70), some (.int (nI M)), some (.int (oI (bst (fun t => (Kc t).toInt) L 0))), some (.int (nI 0))]) (st' := []) (h' := (shT, fi, fl, fr)) rfl ?_
  exact gp_done g rfl
theorem tk_ev {p q i : Nat} {w : Int64} {a b : Int32} {fi : Nat → Nat → Int32} {fl : Nat → Nat → Int64} {fr : Nat → Nat → Option Nat} (hp : p < 8) (hq : q < 16) (hi : i < 64) (k26 : fr 70 26 = some 76) (k27 : fr 70 27 = some 77) (k28 : fr 70 28 = some 78) (k29 : fr 70 29 = some 79) (k30 : fr 70 30 = some 80) (k32 : fr 70 32 = some 82) (k33 : fr 70 33 = some 83) (k34 : fr 70 34 = some 84) (hw : fl 78 q = w) (ha : fi 79 q = a) (hb : fi 80 q = b) : Ev pmT 198 [.ref 70, .int (nI p), .int (nI q), .int (nI i)] (shT, fi, fl, fr) none (shT, pm_u2 (pm_u2 (pm_u2 (pm_u2 (pm_u2 fi 77 p a) 82 (8 * i + p) a) 83 (8 * i + p) (b01 (bl w i))) 84 (8 * i + p) b) 80 q (-1), pm_u2 fl 76 p w, fr) := by
  have i8 : (8 : Int32) * nI i + nI p = nI (8 * i + p) := by rw [Int32.mul_comm]; exact ix8_e i hi p hp
  have hs := fun h => has_ev (v := w) (i := nI i) (h := h)
  rw [hasf_bit hi] at hs
  refine Ev.of (es := cd_198) (ml := 4) (lv := [some (.ref 70), some (.int (nI p)), some (.int (nI q)), some (.int (nI i))]) rfl rfl rfl ?_
  refine go_of ?_
  cases hx : bl w i
  · rw [hx] at hs
    have hs : ∀ h, Ev pmT 161 [.long w, .int (nI i)] h (some (.int 0)) h := hs
    refine gp_n 1 (j' := 1) (lv' := [some (.ref 70), some (.int (nI p)), some (.int (nI q)), some (.int (nI i))]) (st' := [.ref 70]) (h' := (shT, fi, fl, fr)) rfl ?_
    refine gp_of (fun _ k9 => g_getR (q' := 76) rfl rfl (by decide) k26 k9) ?_
    refine gp_n 2 (j' := 4) (lv' := [some (.ref 70), some (.int (nI p)), some (.int (nI q)), some (.int (nI i))]) (st' := [.ref 70, .int (nI p), .ref 76]) (h' := (shT, fi, fl, fr)) rfl ?_
    refine gp_of (fun _ k9 => g_getR (q' := 78) rfl rfl (by decide) k28 k9) ?_
    refine gp_n 1 (j' := 6) (lv' := [some (.ref 70), some (.int (nI p)), some (.int (nI q)), some (.int (nI i))]) (st' := [.int (nI q), .ref 78, .int (nI p), .ref 76]) (h' := (shT, fi, fl, fr)) rfl ?_
    refine gp_of (fun _ k9 => g_lald (k := q) (x := w) rfl rfl (rfl) (by omega) (by decide) (hw) k9) ?_
    refine gp_of (fun _ k9 => g_last (k := p) rfl rfl (rfl) (by omega) (by decide) k9) ?_
    refine gp_n 1 (j' := 9) (lv' := [some (.ref 70), some (.int (nI p)), some (.int (nI q)), some (.int (nI i))]) (st' := [.ref 70]) (h' := (shT, fi, pm_u2 fl 76 p w, fr)) rfl ?_
    refine gp_of (fun _ k9 => g_getR (q' := 77) rfl rfl (by decide) k27 k9) ?_
    refine gp_n 2 (j' := 12) (lv' := [some (.ref 70), some (.int (nI p)), some (.int (nI q)), some (.int (nI i))]) (st' := [.ref 70, .int (nI p), .ref 77]) (h' := (shT, fi, pm_u2 fl 76 p w, fr)) rfl ?_
    refine gp_of (fun _ k9 => g_getR (q' := 79) rfl rfl (by decide) k29 k9) ?_
    refine gp_n 1 (j' := 14) (lv' := [some (.ref 70), some (.int (nI p)), some (.int (nI q)), some (.int (nI i))]) (st' := [.int (nI q), .ref 79, .int (nI p), .ref 77]) (h' := (shT, fi, pm_u2 fl 76 p w, fr)) rfl ?_
    refine gp_of (fun _ k9 => g_iald (k := q) (x := a) rfl rfl (rfl) (by omega) (by decide) (ha) k9) ?_
    refine gp_of (fun _ k9 => g_iast (k := p) rfl rfl (rfl) (by omega) (by decide) k9) ?_
    refine gp_n 1 (j' := 17) (lv' := [some (.ref 70), some (.int (nI p)), some (.int (nI q)), some (.int (nI i))]) (st' := [.ref 70]) (h' := (shT, pm_u2 fi 77 p a, pm_u2 fl 76 p w, fr)) rfl ?_
    refine gp_of (fun _ k9 => g_getR (q' := 82) rfl rfl (by decide) k32 k9) ?_
    refine gp_n 6 (j' := 24) (lv' := [some (.ref 70), some (.int (nI p)), some (.int (nI q)), some (.int (nI i))]) (st' := [.ref 70, .int (((8 : Int32) * (nI i)) + (nI p)), .ref 82]) (h' := (shT, pm_u2 fi 77 p a, pm_u2 fl 76 p w, fr)) rfl ?_
    refine gp_of (fun _ k9 => g_getR (q' := 79) rfl rfl (by decide) k29 k9) ?_
    refine gp_n 1 (j' := 26) (lv' := [some (.ref 70), some (.int (nI p)), some (.int (nI q)), some (.int (nI i))]) (st' := [.int (nI q), .ref 79, .int (((8 : Int32) * (nI i)) + (nI p)), .ref 82]) (h' := (shT, pm_u2 fi 77 p a, pm_u2 fl 76 p w, fr)) rfl ?_
    refine gp_of (fun _ k9 => g_iald (k := q) (x := a) rfl rfl (rfl) (by omega) (by decide) (ha) k9) ?_
    refine gp_of (fun _ k9 => g_iast (k := 8 * i + p) rfl rfl (i8) (by omega) (by decide) k9) ?_
    refine gp_n 1 (j' := 29) (lv' := [some (.ref 70), some (.int (nI p)), some (.int (nI q)), some (.int (nI i))]) (st' := [.ref 70]) (h' := (shT, pm_u2 (pm_u2 fi 77 p a) 82 (8 * i + p) a, pm_u2 fl 76 p w, fr)) rfl ?_
    refine gp_of (fun _ k9 => g_getR (q' := 83) rfl rfl (by decide) k33 k9) ?_
    refine gp_n 6 (j' := 36) (lv' := [some (.ref 70), some (.int (nI p)), some (.int (nI q)), some (.int (nI i))]) (st' := [.ref 70, .int (((8 : Int32) * (nI i)) + (nI p)), .ref 83]) (h' := (shT, pm_u2 (pm_u2 fi 77 p a) 82 (8 * i + p) a, pm_u2 fl 76 p w, fr)) rfl ?_
    refine gp_of (fun _ k9 => g_getR (q' := 78) rfl rfl (by decide) k28 k9) ?_
    refine gp_n 1 (j' := 38) (lv' := [some (.ref 70), some (.int (nI p)), some (.int (nI q)), some (.int (nI i))]) (st' := [.int (nI q), .ref 78, .int (((8 : Int32) * (nI i)) + (nI p)), .ref 83]) (h' := (shT, pm_u2 (pm_u2 fi 77 p a) 82 (8 * i + p) a, pm_u2 fl 76 p w, fr)) rfl ?_
    refine gp_of (fun _ k9 => g_lald (k := q) (x := w) rfl rfl (rfl) (by omega) (by decide) (hw) k9) ?_
    refine gp_n 1 (j' := 40) (lv' := [some (.ref 70), some (.int (nI p)), some (.int (nI q)), some (.int (nI i))]) (st' := [.int (nI i), .long w, .int (((8 : Int32) * (nI i)) + (nI p)), .ref 83]) (h' := (shT, pm_u2 (pm_u2 fi 77 p a) 82 (8 * i + p) a, pm_u2 fl 76 p w, fr)) rfl ?_
    refine gp_of (fun _ k9 => g_call (y := 161) (as := [.long w, .int (nI i)]) (st' := [.int (((8 : Int32) * (nI i)) + (nI p)), .ref 83]) rfl rfl (hs _) k9) ?_
    refine gp_of (fun _ k9 => g_ift rfl (show (0 : Int32) = (0 : Int32) from by decide) k9) ?_
    refine gp_n 1 (j' := 45) (lv' := [some (.ref 70), some (.int (nI p)), some (.int (nI q)), some (.int (nI i))]) (st' := [.int 0, .int (((8 : Int32) * (nI i)) + (nI p)), .ref 83]) (h' := (shT, pm_u2 (pm_u2 fi 77 p a) 82 (8 * i + p) a, pm_u2 fl 76 p w, fr)) rfl ?_
    refine gp_of (fun _ k9 => g_iast (k := 8 * i + p) rfl rfl (i8) (by omega) (by decide) k9) ?_
    refine gp_n 1 (j' := 47) (lv' := [some (.ref 70), some (.int (nI p)), some (.int (nI q)), some (.int (nI i))]) (st' := [.ref 70]) (h' := (shT, pm_u2 (pm_u2 (pm_u2 fi 77 p a) 82 (8 * i + p) a) 83 (8 * i + p) 0, pm_u2 fl 76 p w, fr)) rfl ?_
    refine gp_of (fun _ k9 => g_getR (q' := 84) rfl rfl (by decide) k34 k9) ?_
    refine gp_n 6 (j' := 54) (lv' := [some (.ref 70), some (.int (nI p)), some (.int (nI q)), some (.int (nI i))]) (st' := [.ref 70, .int (((8 : Int32) * (nI i)) + (nI p)), .ref 84]) (h' := (shT, pm_u2 (pm_u2 (pm_u2 fi 77 p a) 82 (8 * i + p) a) 83 (8 * i + p) 0, pm_u2 fl 76 p w, fr)) rfl ?_
    refine gp_of (fun _ k9 => g_getR (q' := 80) rfl rfl (by decide) k30 k9) ?_
    refine gp_n 1 (j' := 56) (lv' := [some (.ref 70), some (.int (nI p)), some (.int (nI q)), some (.int (nI i))]) (st' := [.int (nI q), .ref 80, .int (((8 : Int32) * (nI i)) + (nI p)), .ref 84]) (h' := (shT, pm_u2 (pm_u2 (pm_u2 fi 77 p a) 82 (8 * i + p) a) 83 (8 * i + p) 0, pm_u2 fl 76 p w, fr)) rfl ?_
    refine gp_of (fun _ k9 => g_iald (k := q) (x := b) rfl rfl (rfl) (by omega) (by decide) (hb) k9) ?_
    refine gp_of (fun _ k9 => g_iast (k := 8 * i + p) rfl rfl (i8) (by omega) (by decide) k9) ?_
    refine gp_n 1 (j' := 59) (lv' := [some (.ref 70), some (.int (nI p)), some (.int (nI q)), some (.int (nI i))]) (st' := [.ref 70]) (h' := (shT, pm_u2 (pm_u2 (pm_u2 (pm_u2 fi 77 p a) 82 (8 * i + p) a) 83 (8 * i + p) 0) 84 (8 * i + p) b, pm_u2 fl 76 p w, fr)) rfl ?_
    refine gp_of (fun _ k9 => g_getR (q' := 80) rfl rfl (by decide) k30 k9) ?_
    refine gp_n 2 (j' := 62) (lv' := [some (.ref 70), some (.int (nI p)), some (.int (nI q)), some (.int (nI i))]) (st' := [.int (-1), .int (nI q), .ref 80]) (h' := (shT, pm_u2 (pm_u2 (pm_u2 (pm_u2 fi 77 p a) 82 (8 * i + p) a) 83 (8 * i + p) 0) 84 (8 * i + p) b, pm_u2 fl 76 p w, fr)) rfl ?_
    refine gp_of (fun _ k9 => g_iast (k := q) rfl rfl (rfl) (by omega) (by decide) k9) ?_
    refine gp_done (g_vret rfl) ?_
    rfl
  · rw [hx] at hs
    have hs : ∀ h, Ev pmT 161 [.long w, .int (nI i)] h (some (.int 1)) h := hs
    refine gp_n 1 (j' := 1) (lv' := [some (.ref 70), some (.int (nI p)), some (.int (nI q)), some (.int (nI i))]) (st' := [.ref 70]) (h' := (shT, fi, fl, fr)) rfl ?_
    refine gp_of (fun _ k9 => g_getR (q' := 76) rfl rfl (by decide) k26 k9) ?_
    refine gp_n 2 (j' := 4) (lv' := [some (.ref 70), some (.int (nI p)), some (.int (nI q)), some (.int (nI i))]) (st' := [.ref 70, .int (nI p), .ref 76]) (h' := (shT, fi, fl, fr)) rfl ?_
    refine gp_of (fun _ k9 => g_getR (q' := 78) rfl rfl (by decide) k28 k9) ?_
    refine gp_n 1 (j' := 6) (lv' := [some (.ref 70), some (.int (nI p)), some (.int (nI q)), some (.int (nI i))]) (st' := [.int (nI q), .ref 78, .int (nI p), .ref 76]) (h' := (shT, fi, fl, fr)) rfl ?_
    refine gp_of (fun _ k9 => g_lald (k := q) (x := w) rfl rfl (rfl) (by omega) (by decide) (hw) k9) ?_
    refine gp_of (fun _ k9 => g_last (k := p) rfl rfl (rfl) (by omega) (by decide) k9) ?_
    refine gp_n 1 (j' := 9) (lv' := [some (.ref 70), some (.int (nI p)), some (.int (nI q)), some (.int (nI i))]) (st' := [.ref 70]) (h' := (shT, fi, pm_u2 fl 76 p w, fr)) rfl ?_
    refine gp_of (fun _ k9 => g_getR (q' := 77) rfl rfl (by decide) k27 k9) ?_
    refine gp_n 2 (j' := 12) (lv' := [some (.ref 70), some (.int (nI p)), some (.int (nI q)), some (.int (nI i))]) (st' := [.ref 70, .int (nI p), .ref 77]) (h' := (shT, fi, pm_u2 fl 76 p w, fr)) rfl ?_
    refine gp_of (fun _ k9 => g_getR (q' := 79) rfl rfl (by decide) k29 k9) ?_
    refine gp_n 1 (j' := 14) (lv' := [some (.ref 70), some (.int (nI p)), some (.int (nI q)), some (.int (nI i))]) (st' := [.int (nI q), .ref 79, .int (nI p), .ref 77]) (h' := (shT, fi, pm_u2 fl 76 p w, fr)) rfl ?_
    refine gp_of (fun _ k9 => g_iald (k := q) (x := a) rfl rfl (rfl) (by omega) (by decide) (ha) k9) ?_
    refine gp_of (fun _ k9 => g_iast (k := p) rfl rfl (rfl) (by omega) (by decide) k9) ?_
    refine gp_n 1 (j' := 17) (lv' := [some (.ref 70), some (.int (nI p)), some (.int (nI q)), some (.int (nI i))]) (st' := [.ref 70]) (h' := (shT, pm_u2 fi 77 p a, pm_u2 fl 76 p w, fr)) rfl ?_
    refine gp_of (fun _ k9 => g_getR (q' := 82) rfl rfl (by decide) k32 k9) ?_
    refine gp_n 6 (j' := 24) (lv' := [some (.ref 70), some (.int (nI p)), some (.int (nI q)), some (.int (nI i))]) (st' := [.ref 70, .int (((8 : Int32) * (nI i)) + (nI p)), .ref 82]) (h' := (shT, pm_u2 fi 77 p a, pm_u2 fl 76 p w, fr)) rfl ?_
    refine gp_of (fun _ k9 => g_getR (q' := 79) rfl rfl (by decide) k29 k9) ?_
    refine gp_n 1 (j' := 26) (lv' := [some (.ref 70), some (.int (nI p)), some (.int (nI q)), some (.int (nI i))]) (st' := [.int (nI q), .ref 79, .int (((8 : Int32) * (nI i)) + (nI p)), .ref 82]) (h' := (shT, pm_u2 fi 77 p a, pm_u2 fl 76 p w, fr)) rfl ?_
    refine gp_of (fun _ k9 => g_iald (k := q) (x := a) rfl rfl (rfl) (by omega) (by decide) (ha) k9) ?_
    refine gp_of (fun _ k9 => g_iast (k := 8 * i + p) rfl rfl (i8) (by omega) (by decide) k9) ?_
    refine gp_n 1 (j' := 29) (lv' := [some (.ref 70), some (.int (nI p)), some (.int (nI q)), some (.int (nI i))]) (st' := [.ref 70]) (h' := (shT, pm_u2 (pm_u2 fi 77 p a) 82 (8 * i + p) a, pm_u2 fl 76 p w, fr)) rfl ?_
    refine gp_of (fun _ k9 => g_getR (q' := 83) rfl rfl (by decide) k33 k9) ?_
    refine gp_n 6 (j' := 36) (lv' := [some (.ref 70), some (.int (nI p)), some (.int (nI q)), some (.int (nI i))]) (st' := [.ref 70, .int (((8 : Int32) * (nI i)) + (nI p)), .ref 83]) (h' := (shT, pm_u2 (pm_u2 fi 77 p a) 82 (8 * i + p) a, pm_u2 fl 76 p w, fr)) rfl ?_
    refine gp_of (fun _ k9 => g_getR (q' := 78) rfl rfl (by decide) k28 k9) ?_
    refine gp_n 1 (j' := 38) (lv' := [some (.ref 70), some (.int (nI p)), some (.int (nI q)), some (.int (nI i))]) (st' := [.int (nI q), .ref 78, .int (((8 : Int32) * (nI i)) + (nI p)), .ref 83]) (h' := (shT, pm_u2 (pm_u2 fi 77 p a) 82 (8 * i + p) a, pm_u2 fl 76 p w, fr)) rfl ?_
    refine gp_of (fun _ k9 => g_lald (k := q) (x := w) rfl rfl (rfl) (by omega) (by decide) (hw) k9) ?_
    refine gp_n 1 (j' := 40) (lv' := [some (.ref 70), some (.int (nI p)), some (.int (nI q)), some (.int (nI i))]) (st' := [.int (nI i), .long w, .int (((8 : Int32) * (nI i)) + (nI p)), .ref 83]) (h' := (shT, pm_u2 (pm_u2 fi 77 p a) 82 (8 * i + p) a, pm_u2 fl 76 p w, fr)) rfl ?_
    refine gp_of (fun _ k9 => g_call (y := 161) (as := [.long w, .int (nI i)]) (st' := [.int (((8 : Int32) * (nI i)) + (nI p)), .ref 83]) rfl rfl (hs _) k9) ?_
    refine gp_of (fun _ k9 => g_iff rfl (show ¬ ((1 : Int32) = (0 : Int32)) from by decide) k9) ?_
    refine gp_n 2 (j' := 45) (lv' := [some (.ref 70), some (.int (nI p)), some (.int (nI q)), some (.int (nI i))]) (st' := [.int 1, .int (((8 : Int32) * (nI i)) + (nI p)), .ref 83]) (h' := (shT, pm_u2 (pm_u2 fi 77 p a) 82 (8 * i + p) a, pm_u2 fl 76 p w, fr)) rfl ?_
    refine gp_of (fun _ k9 => g_iast (k := 8 * i + p) rfl rfl (i8) (by omega) (by decide) k9) ?_
    refine gp_n 1 (j' := 47) (lv' := [some (.ref 70), some (.int (nI p)), some (.int (nI q)), some (.int (nI i))]) (st' := [.ref 70]) (h' := (shT, pm_u2 (pm_u2 (pm_u2 fi 77 p a) 82 (8 * i + p) a) 83 (8 * i + p) 1, pm_u2 fl 76 p w, fr)) rfl ?_
    refine gp_of (fun _ k9 => g_getR (q' := 84) rfl rfl (by decide) k34 k9) ?_
    refine gp_n 6 (j' := 54) (lv' := [some (.ref 70), some (.int (nI p)), some (.int (nI q)), some (.int (nI i))]) (st' := [.ref 70, .int (((8 : Int32) * (nI i)) + (nI p)), .ref 84]) (h' := (shT, pm_u2 (pm_u2 (pm_u2 fi 77 p a) 82 (8 * i + p) a) 83 (8 * i + p) 1, pm_u2 fl 76 p w, fr)) rfl ?_
    refine gp_of (fun _ k9 => g_getR (q' := 80) rfl rfl (by decide) k30 k9) ?_
    refine gp_n 1 (j' := 56) (lv' := [some (.ref 70), some (.int (nI p)), some (.int (nI q)), some (.int (nI i))]) (st' := [.int (nI q), .ref 80, .int (((8 : Int32) * (nI i)) + (nI p)), .ref 84]) (h' := (shT, pm_u2 (pm_u2 (pm_u2 fi 77 p a) 82 (8 * i + p) a) 83 (8 * i + p) 1, pm_u2 fl 76 p w, fr)) rfl ?_
    refine gp_of (fun _ k9 => g_iald (k := q) (x := b) rfl rfl (rfl) (by omega) (by decide) (hb) k9) ?_
    refine gp_of (fun _ k9 => g_iast (k := 8 * i + p) rfl rfl (i8) (by omega) (by decide) k9) ?_
    refine gp_n 1 (j' := 59) (lv' := [some (.ref 70), some (.int (nI p)), some (.int (nI q)), some (.int (nI i))]) (st' := [.ref 70]) (h' := (shT, pm_u2 (pm_u2 (pm_u2 (pm_u2 fi 77 p a) 82 (8 * i + p) a) 83 (8 * i + p) 1) 84 (8 * i + p) b, pm_u2 fl 76 p w, fr)) rfl ?_
    refine gp_of (fun _ k9 => g_getR (q' := 80) rfl rfl (by decide) k30 k9) ?_
    refine gp_n 2 (j' := 62) (lv' := [some (.ref 70), some (.int (nI p)), some (.int (nI q)), some (.int (nI i))]) (st' := [.int (-1), .int (nI q), .ref 80]) (h' := (shT, pm_u2 (pm_u2 (pm_u2 (pm_u2 fi 77 p a) 82 (8 * i + p) a) 83 (8 * i + p) 1) 84 (8 * i + p) b, pm_u2 fl 76 p w, fr)) rfl ?_
    refine gp_of (fun _ k9 => g_iast (k := q) rfl rfl (rfl) (by omega) (by decide) k9) ?_
    refine gp_done (g_vret rfl) ?_
    rfl
/-- the model's paths -/
def mdI (x : RSt) (h : PmH) : Prop := ph_i h 70 25 = nI x.1 ∧ ∀ p, p < x.1 → ph_l h 76 p = x.2.1 p ∧ ph_i h 77 p = x.2.2 p
def mcI (K : Int64) (m : Nat) (S : Nat → Int32) (h : PmH) : Prop := ph_i h 70 14 = nI (2 ^ m) ∧ ph_l h 70 21 = K ∧ ∀ s, s < 2 ^ m → ph_i h 74 s = S s
/-- what becomes of the paths by a channel -/
def caI (kp : Bool) (m : Nat) (S : Nat → Int32) (x : RSt) (i n : Nat) (h : PmH) : Prop := ∀ q, q < n → if kp = true then ph_l h 78 q = bitI (x.2.1 (q / 2)) i (decide (q % 2 = 1)) ∧ ph_i h 79 q = cnd m S x i q ∧ ph_i h 80 q = nI (q / 2) else ph_l h 78 q = x.2.1 q ∧ ph_i h 79 q = x.2.2 q + coS (rsm m S x i q) false ∧ ph_i h 80 q = nI q
def brW : WSt := [(75, 9999), (78, 9999), (79, 9999), (80, 9999), (85, 9999)]
def brN (W : WSt) : Bool := W.all (fun q => decide (q.1 ≠ 70) && (decide (q.1 ≠ 74) && (decide (q.1 ≠ 76) && decide (q.1 ≠ 77))))
theorem mc_fr {K : Int64} {m : Nat} {S : Nat → Int32} {x : RSt} {h h' : PmH} {W : WSt} (hw : brN W = true) (hf : fram W h h') : (mcI K m S h → mcI K m S h') ∧ (mdI x h → mdI x h') := by
  have e : ∀ p s, (p = 70 ∨ p = 74 ∨ p = 76 ∨ p = 77) → inW W p s = false := fun p s hp => inW_all hw (fun c hc => by
    simp only [Bool.and_eq_false_iff, decide_eq_false_iff_not]
    omega)
  constructor
  · rintro ⟨a1, a2, a3⟩
    exact ⟨(hf 70 14 (e _ _ (by omega))).1.trans a1, (hf 70 21 (e _ _ (by omega))).2.1.trans a2, fun s hs => (hf 74 s (e _ _ (by omega))).1.trans (a3 s hs)⟩
  · rintro ⟨a1, a2⟩
    exact ⟨(hf 70 25 (e _ _ (by omega))).1.trans a1, fun p hp => ⟨(hf 76 p (e _ _ (by omega))).2.1.trans (a2 p hp).1, (hf 77 p (e _ _ (by omega))).1.trans (a2 p hp).2⟩⟩
theorem br_go_1 {m i : Nat} {K : Int64} {S : Nat → Int32} {x : RSt} (hm : m ≤ 6) (hi : i < 2 ^ m) (hP : x.1 ≤ 8) (hk : bl K i = true) : ∀ (n p : Nat) (h : PmH), p + n = x.1 → HI hdT shT h → mdI x h → mcI K m S h → caI true m S x i (2 * p) h → (0 < p → ph_i h 85 i = rsm m S x i 0) → ∃ h', HI hdT shT h' ∧ fram brW h h' ∧ caI true m S x i (2 * x.1) h' ∧ (0 < x.1 → ph_i h' 85 i = rsm m S x i 0) ∧ (∀ s, ¬ s = i → ph_i h' 85 s = ph_i h 85 s) ∧ ∀ l4 l5, Go pmT none cd_192 4 [some (.ref 70), some (.int (nI i)), some (.int (nI (2 * p))), some (.int (nI p)), l4, l5] [] h (some (.int (nI (2 * x.1))), h') := by
  intro n
  have p6 := pw_6 m (by omega)
  induction n with
  | zero =>
    intro p h hp hI hx hc hq h85
    have hp : p = x.1 := by omega
    rw [hp] at hq h85 ⊢
    refine ⟨h, hI, fram.rf _ _, hq, h85, fun _ _ => rfl, fun l4 l5 => ?_⟩
    have cP := hx.1
    generalize nI x.1 = P at *
    generalize nI (2 * x.1) = M at *
    obtain ⟨S, fi, fl, fr⟩ := h
    have hS : S = shT := hI.1
    subst hS
    have cP : fi 70 25 = P := cP
    refine go_of ?_
    refine gp_n 2 (j' := 6) (lv' := [some (.ref 70), some (.int (nI i)), some (.int M), some (.int P), l4, l5]) (st' := [.ref 70, .int P]) (h' := (shT, fi, fl, fr)) rfl ?_
    refine gp_of (fun _ k9 => g_getI (x := P) rfl (Or.inl rfl) rfl (by decide) (cP) k9) ?_
    refine gp_of (fun _ k9 => g_ict rfl (show P ≤ P from Int32.le_refl _) k9) ?_
    refine gp_n 1 (j' := 83) (lv' := [some (.ref 70), some (.int (nI i)), some (.int M), some (.int P), l4, l5]) (st' := [.int M]) (h' := (shT, fi, fl, fr)) rfl ?_
    refine gp_done (g_ret rfl) ?_
    rfl
  | succ n ih =>
    intro p h hp hI hx hc hq h85
    obtain ⟨b1, b2⟩ := hx.2 p (by omega)
    obtain ⟨h1, e1, I1, F1⟩ := sa_ev (w := x.2.1 p) hI hm hi hc.1 hc.2.2
    have q1 := (mc_fr (K := K) (m := m) (S := S) (x := x) (W := in_w iN_221) (by decide) F1).1 hc
    have q2 := (mc_fr (K := K) (m := m) (S := S) (x := x) (W := in_w iN_221) (by decide) F1).2 hx
    obtain ⟨d1, d2⟩ := q2.2 p (by omega)
    have e1 : Ev pmT 193 [.ref 70, .long (x.2.1 p), .int (nI i)] h (some (.int (rsm m S x i p))) h1 := e1
    have f85 : ∀ s, ph_i h1 85 s = ph_i h 85 s := fun s => (F1 85 s rfl).1
    have fq : caI true m S x i (2 * p) h1 := fun q hq2 => by
      have := hq q hq2
      rw [if_pos rfl] at this ⊢
      exact ⟨(F1 78 q rfl).2.1.trans this.1, (F1 79 q rfl).1.trans this.2.1, (F1 80 q rfl).1.trans this.2.2⟩
    have cP := hx.1
    have cP1 := q2.1
    have cK := q1.2.1
    have k26 : ph_r h 70 26 = some 76 := hi_r hI rfl rfl (by decide)
    have r26 : ph_r h1 70 26 = some 76 := hi_r I1 rfl rfl (by decide)
    have r27 : ph_r h1 70 27 = some 77 := hi_r I1 rfl rfl (by decide)
    have r28 : ph_r h1 70 28 = some 78 := hi_r I1 rfl rfl (by decide)
    have r29 : ph_r h1 70 29 = some 79 := hi_r I1 rfl rfl (by decide)
    have r30 : ph_r h1 70 30 = some 80 := hi_r I1 rfl rfl (by decide)
    have r35 : ph_r h1 70 35 = some 85 := hi_r I1 rfl rfl (by decide)
    have hs := fun h => has_ev (v := K) (i := nI i) (h := h)
    rw [hasf_bit (by omega), hk] at hs
    have hs : ∀ h, Ev pmT 161 [.long K, .int (nI i)] h (some (.int 1)) h := hs
    have co0 := fun h => coM_ev (s := rsm m S x i p) (t := false) (h := h)
    have co0 : ∀ h, Ev pmT 196 [.int (rsm m S x i p), .int 0] h (some (.int (coS (rsm m S x i p) false))) h := co0
    have co1 := fun h => coM_ev (s := rsm m S x i p) (t := true) (h := h)
    have co1 : ∀ h, Ev pmT 196 [.int (rsm m S x i p), .int 1] h (some (.int (coS (rsm m S x i p) true))) h := co1
    obtain ⟨S1, f1, g1, r1⟩ := h1
    have s1 : S1 = shT := I1.1
    subst s1
    have r26 : r1 70 26 = some 76 := r26
    have r27 : r1 70 27 = some 77 := r27
    have r28 : r1 70 28 = some 78 := r28
    have r29 : r1 70 29 = some 79 := r29
    have r30 : r1 70 30 = some 80 := r30
    have r35 : r1 70 35 = some 85 := r35
    have d1 : g1 76 p = x.2.1 p := d1
    have d2 : f1 77 p = x.2.2 p := d2
    have cK : g1 70 21 = K := cK
    have cP1 : f1 70 25 = nI x.1 := cP1
    have I2 : HI hdT shT (shT, pm_u2 f1 85 i (rsm m S x i 0), g1, r1) := HI_wi I1 (fun z => absurd (show (9 : Nat) = 0 from z) (by decide))
    have I2 := HI_wi (p := 79) (s := 2 * p) (x := x.2.2 p + coS (rsm m S x i p) false) I2 (fun z => absurd (show (9 : Nat) = 0 from z) (by decide))
    have I2 := HI_wi (p := 80) (s := 2 * p) (x := nI p) I2 (fun z => absurd (show (9 : Nat) = 0 from z) (by decide))
    have I2 := HI_wi (p := 79) (s := 2 * p + 1) (x := x.2.2 p + coS (rsm m S x i p) true) I2 (fun z => absurd (show (9 : Nat) = 0 from z) (by decide))
    have I2 := HI_wi (p := 80) (s := 2 * p + 1) (x := nI p) I2 (fun z => absurd (show (9 : Nat) = 0 from z) (by decide))
    have I2 : HI hdT shT (shT, pm_u2 (pm_u2 (pm_u2 (pm_u2 (pm_u2 f1 85 i (rsm m S x i 0)) 79 (2 * p) (x.2.2 p + coS (rsm m S x i p) false)) 80 (2 * p) (nI p)) 79 (2 * p + 1) (x.2.2 p + coS (rsm m S x i p) true)) 80 (2 * p + 1) (nI p), pm_u2 (pm_u2 g1 78 (2 * p) (x.2.1 p)) 78 (2 * p + 1) ((x.2.1 p) ||| bitAt i), r1) := I2
    have wO : ∀ q s, ¬ q = 79 → ¬ q = 80 → ¬ q = 85 → (pm_u2 (pm_u2 (pm_u2 (pm_u2 (pm_u2 f1 85 i (rsm m S x i 0)) 79 (2 * p) (x.2.2 p + coS (rsm m S x i p) false)) 80 (2 * p) (nI p)) 79 (2 * p + 1) (x.2.2 p + coS (rsm m S x i p) true)) 80 (2 * p + 1) (nI p)) q s = f1 q s := fun q s z1 z2 z3 => (wl_ne (fun z => z2 z.1)).trans ((wl_ne (fun z => z1 z.1)).trans ((wl_ne (fun z => z2 z.1)).trans ((wl_ne (fun z => z1 z.1)).trans (wl_ne (fun z => z3 z.1)))))
    have w85 : ∀ s, (pm_u2 (pm_u2 (pm_u2 (pm_u2 (pm_u2 f1 85 i (rsm m S x i 0)) 79 (2 * p) (x.2.2 p + coS (rsm m S x i p) false)) 80 (2 * p) (nI p)) 79 (2 * p + 1) (x.2.2 p + coS (rsm m S x i p) true)) 80 (2 * p + 1) (nI p)) 85 s = pm_u2 f1 85 i (rsm m S x i 0) 85 s := fun s => (wl_ne (by omega)).trans ((wl_ne (by omega)).trans ((wl_ne (by omega)).trans (wl_ne (by omega))))
    have w79 : ∀ s, ¬ s = 2 * p → ¬ s = 2 * p + 1 → (pm_u2 (pm_u2 (pm_u2 (pm_u2 (pm_u2 f1 85 i (rsm m S x i 0)) 79 (2 * p) (x.2.2 p + coS (rsm m S x i p) false)) 80 (2 * p) (nI p)) 79 (2 * p + 1) (x.2.2 p + coS (rsm m S x i p) true)) 80 (2 * p + 1) (nI p)) 79 s = f1 79 s := fun s z1 z2 => (wl_ne (by omega)).trans ((wl_ne (by omega)).trans ((wl_ne (by omega)).trans ((wl_ne (by omega)).trans (wl_ne (by omega)))))
    have w80 : ∀ s, ¬ s = 2 * p → ¬ s = 2 * p + 1 → (pm_u2 (pm_u2 (pm_u2 (pm_u2 (pm_u2 f1 85 i (rsm m S x i 0)) 79 (2 * p) (x.2.2 p + coS (rsm m S x i p) false)) 80 (2 * p) (nI p)) 79 (2 * p + 1) (x.2.2 p + coS (rsm m S x i p) true)) 80 (2 * p + 1) (nI p)) 80 s = f1 80 s := fun s z1 z2 => (wl_ne (by omega)).trans ((wl_ne (by omega)).trans ((wl_ne (by omega)).trans ((wl_ne (by omega)).trans (wl_ne (by omega)))))
    have x79 : (pm_u2 (pm_u2 (pm_u2 (pm_u2 (pm_u2 f1 85 i (rsm m S x i 0)) 79 (2 * p) (x.2.2 p + coS (rsm m S x i p) false)) 80 (2 * p) (nI p)) 79 (2 * p + 1) (x.2.2 p + coS (rsm m S x i p) true)) 80 (2 * p + 1) (nI p)) 79 (2 * p) = x.2.2 p + coS (rsm m S x i p) false := (wl_ne (by omega)).trans ((wl_ne (by omega)).trans ((wl_ne (by omega)).trans u2_eq))
    have y79 : (pm_u2 (pm_u2 (pm_u2 (pm_u2 (pm_u2 f1 85 i (rsm m S x i 0)) 79 (2 * p) (x.2.2 p + coS (rsm m S x i p) false)) 80 (2 * p) (nI p)) 79 (2 * p + 1) (x.2.2 p + coS (rsm m S x i p) true)) 80 (2 * p + 1) (nI p)) 79 (2 * p + 1) = x.2.2 p + coS (rsm m S x i p) true := (wl_ne (by omega)).trans u2_eq
    have x80 : (pm_u2 (pm_u2 (pm_u2 (pm_u2 (pm_u2 f1 85 i (rsm m S x i 0)) 79 (2 * p) (x.2.2 p + coS (rsm m S x i p) false)) 80 (2 * p) (nI p)) 79 (2 * p + 1) (x.2.2 p + coS (rsm m S x i p) true)) 80 (2 * p + 1) (nI p)) 80 (2 * p) = nI p := (wl_ne (by omega)).trans ((wl_ne (by omega)).trans u2_eq)
    have y80 : (pm_u2 (pm_u2 (pm_u2 (pm_u2 (pm_u2 f1 85 i (rsm m S x i 0)) 79 (2 * p) (x.2.2 p + coS (rsm m S x i p) false)) 80 (2 * p) (nI p)) 79 (2 * p + 1) (x.2.2 p + coS (rsm m S x i p) true)) 80 (2 * p + 1) (nI p)) 80 (2 * p + 1) = nI p := u2_eq
    have l78 : ∀ q s, ¬ (q = 78 ∧ (s = 2 * p ∨ s = 2 * p + 1)) → (pm_u2 (pm_u2 g1 78 (2 * p) (x.2.1 p)) 78 (2 * p + 1) ((x.2.1 p) ||| bitAt i)) q s = g1 q s := fun q s z => (wl_ne (by omega)).trans (wl_ne (by omega))
    have x78 : (pm_u2 (pm_u2 g1 78 (2 * p) (x.2.1 p)) 78 (2 * p + 1) ((x.2.1 p) ||| bitAt i)) 78 (2 * p) = x.2.1 p := (wl_ne (by omega)).trans u2_eq
    have y78 : (pm_u2 (pm_u2 g1 78 (2 * p) (x.2.1 p)) 78 (2 * p + 1) ((x.2.1 p) ||| bitAt i)) 78 (2 * p + 1) = x.2.1 p ||| bitAt i := u2_eq
    generalize hFI : pm_u2 (pm_u2 (pm_u2 (pm_u2 (pm_u2 f1 85 i (rsm m S x i 0)) 79 (2 * p) (x.2.2 p + coS (rsm m S x i p) false)) 80 (2 * p) (nI p)) 79 (2 * p + 1) (x.2.2 p + coS (rsm m S x i p) true)) 80 (2 * p + 1) (nI p) = f2 at *
    generalize hFL : pm_u2 (pm_u2 g1 78 (2 * p) (x.2.1 p)) 78 (2 * p + 1) ((x.2.1 p) ||| bitAt i) = g2 at *
    have F2 : fram brW (shT, f1, g1, r1) (shT, f2, g2, r1) := fun q s hw => by
      have z : ¬ q = 78 ∧ ¬ q = 79 ∧ ¬ q = 80 ∧ ¬ q = 85 := by
        refine ⟨?_, ?_, ?_, ?_⟩ <;> (intro z; subst z; simp [inW, brW] at hw)
      exact ⟨wO q s z.2.1 z.2.2.1 z.2.2.2, l78 q s (fun y => z.1 y.1), rfl⟩
    have F12 := fram.tr (fram.up (W := in_w iN_221) (W' := brW) (by decide) F1) F2
    have c85 : f2 85 i = rsm m S x i 0 := (w85 i).trans u2_eq
    have o85 : ∀ s, ¬ s = i → f2 85 s = f1 85 s := fun s z => (w85 s).trans (wl_ne (by omega))
    have fq2 : caI true m S x i (2 * (p + 1)) (shT, f2, g2, r1) := fun q hq2 => by
      rw [if_pos rfl]
      by_cases z1 : q = 2 * p
      · subst z1
        rw [show 2 * p / 2 = p by omega, show decide (2 * p % 2 = 1) = false from decide_eq_false (by omega)]
        refine ⟨x78, ?_, x80⟩
        show f2 79 (2 * p) = x.2.2 (2 * p / 2) + coS (rsm m S x i (2 * p / 2)) (decide (2 * p % 2 = 1))
        rw [show 2 * p / 2 = p by omega, show decide (2 * p % 2 = 1) = false from decide_eq_false (by omega)]
        exact x79
      · by_cases z2 : q = 2 * p + 1
        · subst z2
          rw [show (2 * p + 1) / 2 = p by omega, show decide ((2 * p + 1) % 2 = 1) = true from decide_eq_true (by omega)]
          refine ⟨y78, ?_, y80⟩
          show f2 79 (2 * p + 1) = x.2.2 ((2 * p + 1) / 2) + coS (rsm m S x i ((2 * p + 1) / 2)) (decide ((2 * p + 1) % 2 = 1))
          rw [show (2 * p + 1) / 2 = p by omega, show decide ((2 * p + 1) % 2 = 1) = true from decide_eq_true (by omega)]
          exact y79
        · have := fq q (by omega)
          rw [if_pos rfl] at this
          exact ⟨(l78 78 q (by omega)).trans this.1, (w79 q z1 z2).trans this.2.1, (w80 q z1 z2).trans this.2.2⟩
    obtain ⟨h3, I3, F3, b3, b4, b5, g⟩ := ih (p + 1) (shT, f2, g2, r1) (by omega) I2 ((mc_fr (K := K) (m := m) (S := S) (x := x) (W := brW) (by decide) F12).2 hx) ((mc_fr (K := K) (m := m) (S := S) (x := x) (W := brW) (by decide) F12).1 hc) fq2 (fun _ => c85)
    refine ⟨h3, I3, fram.tr F12 F3, b3, b4, fun s hs => (b5 s hs).trans ((o85 s hs).trans (f85 s)), fun l4 l5 => ?_⟩
    have h85f : 0 < p → f1 85 i = rsm m S x i 0 := fun z => (f85 i).trans (h85 z)
    have n2 : nI (2 * p) + 1 = nI (2 * p + 1) := nI_1 _
    have n3 : nI (2 * p + 1) + 1 = nI (2 * (p + 1)) := nI_1 _
    clear ih b3 b4 b5 F3 F12 F2 fq2 fq hq c85 o85 w85 wO l78 x78 x80 x79 w79 w80 I2 q1 q2 hx hc f85 F1 I3 y78 y79 y80
    subst hFI hFL
    obtain ⟨S0, f0, g0, r0⟩ := h
    have s0 : S0 = shT := hI.1
    subst s0
    have k26 : r0 70 26 = some 76 := k26
    have b1 : g0 76 p = x.2.1 p := b1
    have cP : f0 70 25 = nI x.1 := cP
    refine go_of ?_
    by_cases hp0 : p = 0
    · have e0 : rsm m S x i 0 = rsm m S x i p := by rw [hp0]
      rw [e0] at g
      clear h85 h85f
      generalize rsm m S x i p = u at *
      generalize x.2.1 p = w at *
      generalize x.2.2 p = a at *
      generalize coS u false = c0 at *
      generalize coS u true = c1 at *
      refine gp_n 2 (j' := 6) (lv' := [some (.ref 70), some (.int (nI i)), some (.int (nI (2 * p))), some (.int (nI p)), l4, l5]) (st' := [.ref 70, .int (nI p)]) (h' := (shT, f0, g0, r0)) rfl ?_
      refine gp_of (fun _ k9 => g_getI (x := nI x.1) rfl (Or.inl rfl) rfl (by decide) (cP) k9) ?_
      refine gp_of (fun _ k9 => g_icf rfl (show ¬ ((nI x.1) ≤ (nI p)) from nI_ge (by omega) (by omega)) k9) ?_
      refine gp_n 2 (j' := 10) (lv' := [some (.ref 70), some (.int (nI i)), some (.int (nI (2 * p))), some (.int (nI p)), l4, l5]) (st' := [.ref 70, .ref 70]) (h' := (shT, f0, g0, r0)) rfl ?_
      refine gp_of (fun _ k9 => g_getR (q' := 76) rfl rfl (by decide) k26 k9) ?_
      refine gp_n 1 (j' := 12) (lv' := [some (.ref 70), some (.int (nI i)), some (.int (nI (2 * p))), some (.int (nI p)), l4, l5]) (st' := [.int (nI p), .ref 76, .ref 70]) (h' := (shT, f0, g0, r0)) rfl ?_
      refine gp_of (fun _ k9 => g_lald (k := p) (x := w) rfl rfl (rfl) (by omega) (by decide) (b1) k9) ?_
      refine gp_n 1 (j' := 14) (lv' := [some (.ref 70), some (.int (nI i)), some (.int (nI (2 * p))), some (.int (nI p)), l4, l5]) (st' := [.int (nI i), .long w, .ref 70]) (h' := (shT, f0, g0, r0)) rfl ?_
      refine gp_of (fun _ k9 => g_call (y := 193) (as := [.ref 70, .long w, .int (nI i)]) (st' := []) rfl rfl (e1) k9) ?_
      refine gp_n 2 (j' := 17) (lv' := [some (.ref 70), some (.int (nI i)), some (.int (nI (2 * p))), some (.int (nI p)), some (.int u), l5]) (st' := [.ref 70]) (h' := (shT, f1, g1, r1)) rfl ?_
      refine gp_of (fun _ k9 => g_getR (q' := 85) rfl rfl (by decide) r35 k9) ?_
      refine gp_n 2 (j' := 20) (lv' := [some (.ref 70), some (.int (nI i)), some (.int (nI (2 * p))), some (.int (nI p)), some (.int u), l5]) (st' := [.int (nI p), .int (nI i), .ref 85]) (h' := (shT, f1, g1, r1)) rfl ?_
      refine gp_of (fun _ k9 => g_iff rfl (show ¬ (¬ (nI p) = (0 : Int32)) from (by rw [hp0]; exact not_not_intro rfl)) k9) ?_
      refine gp_n 2 (j' := 27) (lv' := [some (.ref 70), some (.int (nI i)), some (.int (nI (2 * p))), some (.int (nI p)), some (.int u), l5]) (st' := [.int u, .int (nI i), .ref 85]) (h' := (shT, f1, g1, r1)) rfl ?_
      refine gp_of (fun _ k9 => g_iast (k := i) rfl rfl (rfl) (by omega) (by decide) k9) ?_
      refine gp_n 4 (j' := 32) (lv' := [some (.ref 70), some (.int (nI i)), some (.int (nI (2 * p))), some (.int (nI p)), some (.int u), some (.int 0)]) (st' := [.ref 70, .int 0]) (h' := (shT, pm_u2 f1 85 i u, g1, r1)) rfl ?_
      refine gp_of (fun _ k9 => g_getL (x := K) rfl rfl (by decide) (cK) k9) ?_
      refine gp_n 1 (j' := 34) (lv' := [some (.ref 70), some (.int (nI i)), some (.int (nI (2 * p))), some (.int (nI p)), some (.int u), some (.int 0)]) (st' := [.int (nI i), .long K, .int 0]) (h' := (shT, pm_u2 f1 85 i u, g1, r1)) rfl ?_
      refine gp_of (fun _ k9 => g_call (y := 161) (as := [.long K, .int (nI i)]) (st' := [.int 0]) rfl rfl (hs _) k9) ?_
      refine gp_of (fun _ k9 => g_iff rfl (show ¬ ((1 : Int32) = (0 : Int32)) from by decide) k9) ?_
      refine gp_n 2 (j' := 39) (lv' := [some (.ref 70), some (.int (nI i)), some (.int (nI (2 * p))), some (.int (nI p)), some (.int u), some (.int 0)]) (st' := [.int 2, .int 0]) (h' := (shT, pm_u2 f1 85 i u, g1, r1)) rfl ?_
      refine gp_of (fun _ k9 => g_icf rfl (show ¬ ((2 : Int32) ≤ (0 : Int32)) from by decide) k9) ?_
      refine gp_n 1 (j' := 41) (lv' := [some (.ref 70), some (.int (nI i)), some (.int (nI (2 * p))), some (.int (nI p)), some (.int u), some (.int 0)]) (st' := [.ref 70]) (h' := (shT, pm_u2 f1 85 i u, g1, r1)) rfl ?_
      refine gp_of (fun _ k9 => g_getR (q' := 78) rfl rfl (by decide) r28 k9) ?_
      refine gp_n 3 (j' := 45) (lv' := [some (.ref 70), some (.int (nI i)), some (.int (nI (2 * p))), some (.int (nI p)), some (.int u), some (.int 0)]) (st' := [.int 1, .int 0, .int (nI (2 * p)), .ref 78]) (h' := (shT, pm_u2 f1 85 i u, g1, r1)) rfl ?_
      refine gp_of (fun _ k9 => g_ict rfl (show ¬ (0 : Int32) = (1 : Int32) from by decide) k9) ?_
      refine gp_n 1 (j' := 56) (lv' := [some (.ref 70), some (.int (nI i)), some (.int (nI (2 * p))), some (.int (nI p)), some (.int u), some (.int 0)]) (st' := [.ref 70, .int (nI (2 * p)), .ref 78]) (h' := (shT, pm_u2 f1 85 i u, g1, r1)) rfl ?_
      refine gp_of (fun _ k9 => g_getR (q' := 76) rfl rfl (by decide) r26 k9) ?_
      refine gp_n 1 (j' := 58) (lv' := [some (.ref 70), some (.int (nI i)), some (.int (nI (2 * p))), some (.int (nI p)), some (.int u), some (.int 0)]) (st' := [.int (nI p), .ref 76, .int (nI (2 * p)), .ref 78]) (h' := (shT, pm_u2 f1 85 i u, g1, r1)) rfl ?_
      refine gp_of (fun _ k9 => g_lald (k := p) (x := w) rfl rfl (rfl) (by omega) (by decide) (d1) k9) ?_
      refine gp_of (fun _ k9 => g_last (k := 2 * p) rfl rfl (rfl) (by omega) (by decide) k9) ?_
      refine gp_n 1 (j' := 61) (lv' := [some (.ref 70), some (.int (nI i)), some (.int (nI (2 * p))), some (.int (nI p)), some (.int u), some (.int 0)]) (st' := [.ref 70]) (h' := (shT, pm_u2 f1 85 i u, pm_u2 g1 78 (2 * p) w, r1)) rfl ?_
      refine gp_of (fun _ k9 => g_getR (q' := 79) rfl rfl (by decide) r29 k9) ?_
      refine gp_n 2 (j' := 64) (lv' := [some (.ref 70), some (.int (nI i)), some (.int (nI (2 * p))), some (.int (nI p)), some (.int u), some (.int 0)]) (st' := [.ref 70, .int (nI (2 * p)), .ref 79]) (h' := (shT, pm_u2 f1 85 i u, pm_u2 g1 78 (2 * p) w, r1)) rfl ?_
      refine gp_of (fun _ k9 => g_getR (q' := 77) rfl rfl (by decide) r27 k9) ?_
      refine gp_n 1 (j' := 66) (lv' := [some (.ref 70), some (.int (nI i)), some (.int (nI (2 * p))), some (.int (nI p)), some (.int u), some (.int 0)]) (st' := [.int (nI p), .ref 77, .int (nI (2 * p)), .ref 79]) (h' := (shT, pm_u2 f1 85 i u, pm_u2 g1 78 (2 * p) w, r1)) rfl ?_
      refine gp_of (fun _ k9 => g_iald (k := p) (x := a) rfl rfl (rfl) (by omega) (by decide) (d2) k9) ?_
      refine gp_n 2 (j' := 69) (lv' := [some (.ref 70), some (.int (nI i)), some (.int (nI (2 * p))), some (.int (nI p)), some (.int u), some (.int 0)]) (st' := [.int 0, .int u, .int a, .int (nI (2 * p)), .ref 79]) (h' := (shT, pm_u2 f1 85 i u, pm_u2 g1 78 (2 * p) w, r1)) rfl ?_
      refine gp_of (fun _ k9 => g_call (y := 196) (as := [.int u, .int 0]) (st' := [.int a, .int (nI (2 * p)), .ref 79]) rfl rfl (co0 _) k9) ?_
      refine gp_n 1 (j' := 71) (lv' := [some (.ref 70), some (.int (nI i)), some (.int (nI (2 * p))), some (.int (nI p)), some (.int u), some (.int 0)]) (st' := [.int (a + c0), .int (nI (2 * p)), .ref 79]) (h' := (shT, pm_u2 f1 85 i u, pm_u2 g1 78 (2 * p) w, r1)) rfl ?_
      refine gp_of (fun _ k9 => g_iast (k := 2 * p) rfl rfl (rfl) (by omega) (by decide) k9) ?_
      refine gp_n 1 (j' := 73) (lv' := [some (.ref 70), some (.int (nI i)), some (.int (nI (2 * p))), some (.int (nI p)), some (.int u), some (.int 0)]) (st' := [.ref 70]) (h' := (shT, pm_u2 (pm_u2 f1 85 i u) 79 (2 * p) (a + c0), pm_u2 g1 78 (2 * p) w, r1)) rfl ?_
      refine gp_of (fun _ k9 => g_getR (q' := 80) rfl rfl (by decide) r30 k9) ?_
      refine gp_n 2 (j' := 76) (lv' := [some (.ref 70), some (.int (nI i)), some (.int (nI (2 * p))), some (.int (nI p)), some (.int u), some (.int 0)]) (st' := [.int (nI p), .int (nI (2 * p)), .ref 80]) (h' := (shT, pm_u2 (pm_u2 f1 85 i u) 79 (2 * p) (a + c0), pm_u2 g1 78 (2 * p) w, r1)) rfl ?_
      refine gp_of (fun _ k9 => g_iast (k := 2 * p) rfl rfl (rfl) (by omega) (by decide) k9) ?_
      refine gp_n 5 (j' := 32) (lv' := [some (.ref 70), some (.int (nI i)), some (.int ((nI (2 * p)) + 1)), some (.int (nI p)), some (.int u), some (.int 1)]) (st' := [.ref 70, .int 1]) (h' := (shT, pm_u2 (pm_u2 (pm_u2 f1 85 i u) 79 (2 * p) (a + c0)) 80 (2 * p) (nI p), pm_u2 g1 78 (2 * p) w, r1)) rfl ?_
      refine gp_of (fun _ k9 => g_getL (x := K) rfl rfl (by decide) (cK) k9) ?_
      refine gp_n 1 (j' := 34) (lv' := [some (.ref 70), some (.int (nI i)), some (.int ((nI (2 * p)) + 1)), some (.int (nI p)), some (.int u), some (.int 1)]) (st' := [.int (nI i), .long K, .int 1]) (h' := (shT, pm_u2 (pm_u2 (pm_u2 f1 85 i u) 79 (2 * p) (a + c0)) 80 (2 * p) (nI p), pm_u2 g1 78 (2 * p) w, r1)) rfl ?_
      refine gp_of (fun _ k9 => g_call (y := 161) (as := [.long K, .int (nI i)]) (st' := [.int 1]) rfl rfl (hs _) k9) ?_
      refine gp_of (fun _ k9 => g_iff rfl (show ¬ ((1 : Int32) = (0 : Int32)) from by decide) k9) ?_
      refine gp_n 2 (j' := 39) (lv' := [some (.ref 70), some (.int (nI i)), some (.int ((nI (2 * p)) + 1)), some (.int (nI p)), some (.int u), some (.int 1)]) (st' := [.int 2, .int 1]) (h' := (shT, pm_u2 (pm_u2 (pm_u2 f1 85 i u) 79 (2 * p) (a + c0)) 80 (2 * p) (nI p), pm_u2 g1 78 (2 * p) w, r1)) rfl ?_
      refine gp_of (fun _ k9 => g_icf rfl (show ¬ ((2 : Int32) ≤ (1 : Int32)) from by decide) k9) ?_
      refine gp_n 1 (j' := 41) (lv' := [some (.ref 70), some (.int (nI i)), some (.int ((nI (2 * p)) + 1)), some (.int (nI p)), some (.int u), some (.int 1)]) (st' := [.ref 70]) (h' := (shT, pm_u2 (pm_u2 (pm_u2 f1 85 i u) 79 (2 * p) (a + c0)) 80 (2 * p) (nI p), pm_u2 g1 78 (2 * p) w, r1)) rfl ?_
      refine gp_of (fun _ k9 => g_getR (q' := 78) rfl rfl (by decide) r28 k9) ?_
      refine gp_n 3 (j' := 45) (lv' := [some (.ref 70), some (.int (nI i)), some (.int ((nI (2 * p)) + 1)), some (.int (nI p)), some (.int u), some (.int 1)]) (st' := [.int 1, .int 1, .int ((nI (2 * p)) + 1), .ref 78]) (h' := (shT, pm_u2 (pm_u2 (pm_u2 f1 85 i u) 79 (2 * p) (a + c0)) 80 (2 * p) (nI p), pm_u2 g1 78 (2 * p) w, r1)) rfl ?_
      refine gp_of (fun _ k9 => g_icf rfl (show ¬ (¬ (1 : Int32) = (1 : Int32)) from by decide) k9) ?_
      refine gp_n 1 (j' := 47) (lv' := [some (.ref 70), some (.int (nI i)), some (.int ((nI (2 * p)) + 1)), some (.int (nI p)), some (.int u), some (.int 1)]) (st' := [.ref 70, .int ((nI (2 * p)) + 1), .ref 78]) (h' := (shT, pm_u2 (pm_u2 (pm_u2 f1 85 i u) 79 (2 * p) (a + c0)) 80 (2 * p) (nI p), pm_u2 g1 78 (2 * p) w, r1)) rfl ?_
      refine gp_of (fun _ k9 => g_getR (q' := 76) rfl rfl (by decide) r26 k9) ?_
      refine gp_n 1 (j' := 49) (lv' := [some (.ref 70), some (.int (nI i)), some (.int ((nI (2 * p)) + 1)), some (.int (nI p)), some (.int u), some (.int 1)]) (st' := [.int (nI p), .ref 76, .int ((nI (2 * p)) + 1), .ref 78]) (h' := (shT, pm_u2 (pm_u2 (pm_u2 f1 85 i u) 79 (2 * p) (a + c0)) 80 (2 * p) (nI p), pm_u2 g1 78 (2 * p) w, r1)) rfl ?_
      refine gp_of (fun _ k9 => g_lald (k := p) (x := w) rfl rfl (rfl) (by omega) (by decide) (d1) k9) ?_
      refine gp_n 5 (j' := 59) (lv' := [some (.ref 70), some (.int (nI i)), some (.int ((nI (2 * p)) + 1)), some (.int (nI p)), some (.int u), some (.int 1)]) (st' := [.long (w ||| ((1 : Int64) <<< ((nI i : Int32).toInt64 &&& 63))), .int ((nI (2 * p)) + 1), .ref 78]) (h' := (shT, pm_u2 (pm_u2 (pm_u2 f1 85 i u) 79 (2 * p) (a + c0)) 80 (2 * p) (nI p), pm_u2 g1 78 (2 * p) w, r1)) rfl ?_
      refine gp_of (fun _ k9 => g_last (k := 2 * p + 1) rfl rfl (n2) (by omega) (by decide) k9) ?_
      refine gp_n 1 (j' := 61) (lv' := [some (.ref 70), some (.int (nI i)), some (.int ((nI (2 * p)) + 1)), some (.int (nI p)), some (.int u), some (.int 1)]) (st' := [.ref 70]) (h' := (shT, pm_u2 (pm_u2 (pm_u2 f1 85 i u) 79 (2 * p) (a + c0)) 80 (2 * p) (nI p), pm_u2 (pm_u2 g1 78 (2 * p) w) 78 (2 * p + 1) (w ||| ((1 : Int64) <<< ((nI i : Int32).toInt64 &&& 63))), r1)) rfl ?_
      refine gp_of (fun _ k9 => g_getR (q' := 79) rfl rfl (by decide) r29 k9) ?_
      refine gp_n 2 (j' := 64) (lv' := [some (.ref 70), some (.int (nI i)), some (.int ((nI (2 * p)) + 1)), some (.int (nI p)), some (.int u), some (.int 1)]) (st' := [.ref 70, .int ((nI (2 * p)) + 1), .ref 79]) (h' := (shT, pm_u2 (pm_u2 (pm_u2 f1 85 i u) 79 (2 * p) (a + c0)) 80 (2 * p) (nI p), pm_u2 (pm_u2 g1 78 (2 * p) w) 78 (2 * p + 1) (w ||| ((1 : Int64) <<< ((nI i : Int32).toInt64 &&& 63))), r1)) rfl ?_
      refine gp_of (fun _ k9 => g_getR (q' := 77) rfl rfl (by decide) r27 k9) ?_
      refine gp_n 1 (j' := 66) (lv' := [some (.ref 70), some (.int (nI i)), some (.int ((nI (2 * p)) + 1)), some (.int (nI p)), some (.int u), some (.int 1)]) (st' := [.int (nI p), .ref 77, .int ((nI (2 * p)) + 1), .ref 79]) (h' := (shT, pm_u2 (pm_u2 (pm_u2 f1 85 i u) 79 (2 * p) (a + c0)) 80 (2 * p) (nI p), pm_u2 (pm_u2 g1 78 (2 * p) w) 78 (2 * p + 1) (w ||| ((1 : Int64) <<< ((nI i : Int32).toInt64 &&& 63))), r1)) rfl ?_
      refine gp_of (fun _ k9 => g_iald (k := p) (x := a) rfl rfl (rfl) (by omega) (by decide) (d2) k9) ?_
      refine gp_n 2 (j' := 69) (lv' := [some (.ref 70), some (.int (nI i)), some (.int ((nI (2 * p)) + 1)), some (.int (nI p)), some (.int u), some (.int 1)]) (st' := [.int 1, .int u, .int a, .int ((nI (2 * p)) + 1), .ref 79]) (h' := (shT, pm_u2 (pm_u2 (pm_u2 f1 85 i u) 79 (2 * p) (a + c0)) 80 (2 * p) (nI p), pm_u2 (pm_u2 g1 78 (2 * p) w) 78 (2 * p + 1) (w ||| ((1 : Int64) <<< ((nI i : Int32).toInt64 &&& 63))), r1)) rfl ?_
      refine gp_of (fun _ k9 => g_call (y := 196) (as := [.int u, .int 1]) (st' := [.int a, .int ((nI (2 * p)) + 1), .ref 79]) rfl rfl (co1 _) k9) ?_
      refine gp_n 1 (j' := 71) (lv' := [some (.ref 70), some (.int (nI i)), some (.int ((nI (2 * p)) + 1)), some (.int (nI p)), some (.int u), some (.int 1)]) (st' := [.int (a + c1), .int ((nI (2 * p)) + 1), .ref 79]) (h' := (shT, pm_u2 (pm_u2 (pm_u2 f1 85 i u) 79 (2 * p) (a + c0)) 80 (2 * p) (nI p), pm_u2 (pm_u2 g1 78 (2 * p) w) 78 (2 * p + 1) (w ||| ((1 : Int64) <<< ((nI i : Int32).toInt64 &&& 63))), r1)) rfl ?_
      refine gp_of (fun _ k9 => g_iast (k := 2 * p + 1) rfl rfl (n2) (by omega) (by decide) k9) ?_
      refine gp_n 1 (j' := 73) (lv' := [some (.ref 70), some (.int (nI i)), some (.int ((nI (2 * p)) + 1)), some (.int (nI p)), some (.int u), some (.int 1)]) (st' := [.ref 70]) (h' := (shT, pm_u2 (pm_u2 (pm_u2 (pm_u2 f1 85 i u) 79 (2 * p) (a + c0)) 80 (2 * p) (nI p)) 79 (2 * p + 1) (a + c1), pm_u2 (pm_u2 g1 78 (2 * p) w) 78 (2 * p + 1) (w ||| ((1 : Int64) <<< ((nI i : Int32).toInt64 &&& 63))), r1)) rfl ?_
      refine gp_of (fun _ k9 => g_getR (q' := 80) rfl rfl (by decide) r30 k9) ?_
      refine gp_n 2 (j' := 76) (lv' := [some (.ref 70), some (.int (nI i)), some (.int ((nI (2 * p)) + 1)), some (.int (nI p)), some (.int u), some (.int 1)]) (st' := [.int (nI p), .int ((nI (2 * p)) + 1), .ref 80]) (h' := (shT, pm_u2 (pm_u2 (pm_u2 (pm_u2 f1 85 i u) 79 (2 * p) (a + c0)) 80 (2 * p) (nI p)) 79 (2 * p + 1) (a + c1), pm_u2 (pm_u2 g1 78 (2 * p) w) 78 (2 * p + 1) (w ||| ((1 : Int64) <<< ((nI i : Int32).toInt64 &&& 63))), r1)) rfl ?_
      refine gp_of (fun _ k9 => g_iast (k := 2 * p + 1) rfl rfl (n2) (by omega) (by decide) k9) ?_
      refine gp_n 5 (j' := 32) (lv' := [some (.ref 70), some (.int (nI i)), some (.int (((nI (2 * p)) + 1) + 1)), some (.int (nI p)), some (.int u), some (.int 2)]) (st' := [.ref 70, .int 2]) (h' := (shT, pm_u2 (pm_u2 (pm_u2 (pm_u2 (pm_u2 f1 85 i u) 79 (2 * p) (a + c0)) 80 (2 * p) (nI p)) 79 (2 * p + 1) (a + c1)) 80 (2 * p + 1) (nI p), pm_u2 (pm_u2 g1 78 (2 * p) w) 78 (2 * p + 1) (w ||| ((1 : Int64) <<< ((nI i : Int32).toInt64 &&& 63))), r1)) rfl ?_
      refine gp_of (fun _ k9 => g_getL (x := K) rfl rfl (by decide) (cK) k9) ?_
      refine gp_n 1 (j' := 34) (lv' := [some (.ref 70), some (.int (nI i)), some (.int (((nI (2 * p)) + 1) + 1)), some (.int (nI p)), some (.int u), some (.int 2)]) (st' := [.int (nI i), .long K, .int 2]) (h' := (shT, pm_u2 (pm_u2 (pm_u2 (pm_u2 (pm_u2 f1 85 i u) 79 (2 * p) (a + c0)) 80 (2 * p) (nI p)) 79 (2 * p + 1) (a + c1)) 80 (2 * p + 1) (nI p), pm_u2 (pm_u2 g1 78 (2 * p) w) 78 (2 * p + 1) (w ||| ((1 : Int64) <<< ((nI i : Int32).toInt64 &&& 63))), r1)) rfl ?_
      refine gp_of (fun _ k9 => g_call (y := 161) (as := [.long K, .int (nI i)]) (st' := [.int 2]) rfl rfl (hs _) k9) ?_
      refine gp_of (fun _ k9 => g_iff rfl (show ¬ ((1 : Int32) = (0 : Int32)) from by decide) k9) ?_
      refine gp_n 2 (j' := 39) (lv' := [some (.ref 70), some (.int (nI i)), some (.int (((nI (2 * p)) + 1) + 1)), some (.int (nI p)), some (.int u), some (.int 2)]) (st' := [.int 2, .int 2]) (h' := (shT, pm_u2 (pm_u2 (pm_u2 (pm_u2 (pm_u2 f1 85 i u) 79 (2 * p) (a + c0)) 80 (2 * p) (nI p)) 79 (2 * p + 1) (a + c1)) 80 (2 * p + 1) (nI p), pm_u2 (pm_u2 g1 78 (2 * p) w) 78 (2 * p + 1) (w ||| ((1 : Int64) <<< ((nI i : Int32).toInt64 &&& 63))), r1)) rfl ?_
      refine gp_of (fun _ k9 => g_ict rfl (show (2 : Int32) ≤ (2 : Int32) from by decide) k9) ?_
      refine gp_n 2 (j' := 4) (lv' := [some (.ref 70), some (.int (nI i)), some (.int (((nI (2 * p)) + 1) + 1)), some (.int ((nI p) + 1)), some (.int u), some (.int 2)]) (st' := []) (h' := (shT, pm_u2 (pm_u2 (pm_u2 (pm_u2 (pm_u2 f1 85 i u) 79 (2 * p) (a + c0)) 80 (2 * p) (nI p)) 79 (2 * p + 1) (a + c1)) 80 (2 * p + 1) (nI p), pm_u2 (pm_u2 g1 78 (2 * p) w) 78 (2 * p + 1) (w ||| ((1 : Int64) <<< ((nI i : Int32).toInt64 &&& 63))), r1)) rfl ?_
      rw [n2, n3, nI_1]
      exact gp_done (g _ _) rfl
    · generalize rsm m S x i 0 = v at *
      generalize rsm m S x i p = u at *
      generalize x.2.1 p = w at *
      generalize x.2.2 p = a at *
      generalize coS u false = c0 at *
      generalize coS u true = c1 at *
      refine gp_n 2 (j' := 6) (lv' := [some (.ref 70), some (.int (nI i)), some (.int (nI (2 * p))), some (.int (nI p)), l4, l5]) (st' := [.ref 70, .int (nI p)]) (h' := (shT, f0, g0, r0)) rfl ?_
      refine gp_of (fun _ k9 => g_getI (x := nI x.1) rfl (Or.inl rfl) rfl (by decide) (cP) k9) ?_
      refine gp_of (fun _ k9 => g_icf rfl (show ¬ ((nI x.1) ≤ (nI p)) from nI_ge (by omega) (by omega)) k9) ?_
      refine gp_n 2 (j' := 10) (lv' := [some (.ref 70), some (.int (nI i)), some (.int (nI (2 * p))), some (.int (nI p)), l4, l5]) (st' := [.ref 70, .ref 70]) (h' := (shT, f0, g0, r0)) rfl ?_
      refine gp_of (fun _ k9 => g_getR (q' := 76) rfl rfl (by decide) k26 k9) ?_
      refine gp_n 1 (j' := 12) (lv' := [some (.ref 70), some (.int (nI i)), some (.int (nI (2 * p))), some (.int (nI p)), l4, l5]) (st' := [.int (nI p), .ref 76, .ref 70]) (h' := (shT, f0, g0, r0)) rfl ?_
      refine gp_of (fun _ k9 => g_lald (k := p) (x := w) rfl rfl (rfl) (by omega) (by decide) (b1) k9) ?_
      refine gp_n 1 (j' := 14) (lv' := [some (.ref 70), some (.int (nI i)), some (.int (nI (2 * p))), some (.int (nI p)), l4, l5]) (st' := [.int (nI i), .long w, .ref 70]) (h' := (shT, f0, g0, r0)) rfl ?_
      refine gp_of (fun _ k9 => g_call (y := 193) (as := [.ref 70, .long w, .int (nI i)]) (st' := []) rfl rfl (e1) k9) ?_
      refine gp_n 2 (j' := 17) (lv' := [some (.ref 70), some (.int (nI i)), some (.int (nI (2 * p))), some (.int (nI p)), some (.int u), l5]) (st' := [.ref 70]) (h' := (shT, f1, g1, r1)) rfl ?_
      refine gp_of (fun _ k9 => g_getR (q' := 85) rfl rfl (by decide) r35 k9) ?_
      refine gp_n 2 (j' := 20) (lv' := [some (.ref 70), some (.int (nI i)), some (.int (nI (2 * p))), some (.int (nI p)), some (.int u), l5]) (st' := [.int (nI p), .int (nI i), .ref 85]) (h' := (shT, f1, g1, r1)) rfl ?_
      refine gp_of (fun _ k9 => g_ift rfl (show ¬ (nI p) = (0 : Int32) from nI_ne0 (by omega) (by omega)) k9) ?_
      refine gp_n 1 (j' := 24) (lv' := [some (.ref 70), some (.int (nI i)), some (.int (nI (2 * p))), some (.int (nI p)), some (.int u), l5]) (st' := [.ref 70, .int (nI i), .ref 85]) (h' := (shT, f1, g1, r1)) rfl ?_
      refine gp_of (fun _ k9 => g_getR (q' := 85) rfl rfl (by decide) r35 k9) ?_
      refine gp_n 1 (j' := 26) (lv' := [some (.ref 70), some (.int (nI i)), some (.int (nI (2 * p))), some (.int (nI p)), some (.int u), l5]) (st' := [.int (nI i), .ref 85, .int (nI i), .ref 85]) (h' := (shT, f1, g1, r1)) rfl ?_
      refine gp_of (fun _ k9 => g_iald (k := i) (x := v) rfl rfl (rfl) (by omega) (by decide) (h85f (by omega)) k9) ?_
      refine gp_of (fun _ k9 => g_iast (k := i) rfl rfl (rfl) (by omega) (by decide) k9) ?_
      refine gp_n 4 (j' := 32) (lv' := [some (.ref 70), some (.int (nI i)), some (.int (nI (2 * p))), some (.int (nI p)), some (.int u), some (.int 0)]) (st' := [.ref 70, .int 0]) (h' := (shT, pm_u2 f1 85 i v, g1, r1)) rfl ?_
      refine gp_of (fun _ k9 => g_getL (x := K) rfl rfl (by decide) (cK) k9) ?_
      refine gp_n 1 (j' := 34) (lv' := [some (.ref 70), some (.int (nI i)), some (.int (nI (2 * p))), some (.int (nI p)), some (.int u), some (.int 0)]) (st' := [.int (nI i), .long K, .int 0]) (h' := (shT, pm_u2 f1 85 i v, g1, r1)) rfl ?_
      refine gp_of (fun _ k9 => g_call (y := 161) (as := [.long K, .int (nI i)]) (st' := [.int 0]) rfl rfl (hs _) k9) ?_
      refine gp_of (fun _ k9 => g_iff rfl (show ¬ ((1 : Int32) = (0 : Int32)) from by decide) k9) ?_
      refine gp_n 2 (j' := 39) (lv' := [some (.ref 70), some (.int (nI i)), some (.int (nI (2 * p))), some (.int (nI p)), some (.int u), some (.int 0)]) (st' := [.int 2, .int 0]) (h' := (shT, pm_u2 f1 85 i v, g1, r1)) rfl ?_
      refine gp_of (fun _ k9 => g_icf rfl (show ¬ ((2 : Int32) ≤ (0 : Int32)) from by decide) k9) ?_
      refine gp_n 1 (j' := 41) (lv' := [some (.ref 70), some (.int (nI i)), some (.int (nI (2 * p))), some (.int (nI p)), some (.int u), some (.int 0)]) (st' := [.ref 70]) (h' := (shT, pm_u2 f1 85 i v, g1, r1)) rfl ?_
      refine gp_of (fun _ k9 => g_getR (q' := 78) rfl rfl (by decide) r28 k9) ?_
      refine gp_n 3 (j' := 45) (lv' := [some (.ref 70), some (.int (nI i)), some (.int (nI (2 * p))), some (.int (nI p)), some (.int u), some (.int 0)]) (st' := [.int 1, .int 0, .int (nI (2 * p)), .ref 78]) (h' := (shT, pm_u2 f1 85 i v, g1, r1)) rfl ?_
      refine gp_of (fun _ k9 => g_ict rfl (show ¬ (0 : Int32) = (1 : Int32) from by decide) k9) ?_
      refine gp_n 1 (j' := 56) (lv' := [some (.ref 70), some (.int (nI i)), some (.int (nI (2 * p))), some (.int (nI p)), some (.int u), some (.int 0)]) (st' := [.ref 70, .int (nI (2 * p)), .ref 78]) (h' := (shT, pm_u2 f1 85 i v, g1, r1)) rfl ?_
      refine gp_of (fun _ k9 => g_getR (q' := 76) rfl rfl (by decide) r26 k9) ?_
      refine gp_n 1 (j' := 58) (lv' := [some (.ref 70), some (.int (nI i)), some (.int (nI (2 * p))), some (.int (nI p)), some (.int u), some (.int 0)]) (st' := [.int (nI p), .ref 76, .int (nI (2 * p)), .ref 78]) (h' := (shT, pm_u2 f1 85 i v, g1, r1)) rfl ?_
      refine gp_of (fun _ k9 => g_lald (k := p) (x := w) rfl rfl (rfl) (by omega) (by decide) (d1) k9) ?_
      refine gp_of (fun _ k9 => g_last (k := 2 * p) rfl rfl (rfl) (by omega) (by decide) k9) ?_
      refine gp_n 1 (j' := 61) (lv' := [some (.ref 70), some (.int (nI i)), some (.int (nI (2 * p))), some (.int (nI p)), some (.int u), some (.int 0)]) (st' := [.ref 70]) (h' := (shT, pm_u2 f1 85 i v, pm_u2 g1 78 (2 * p) w, r1)) rfl ?_
      refine gp_of (fun _ k9 => g_getR (q' := 79) rfl rfl (by decide) r29 k9) ?_
      refine gp_n 2 (j' := 64) (lv' := [some (.ref 70), some (.int (nI i)), some (.int (nI (2 * p))), some (.int (nI p)), some (.int u), some (.int 0)]) (st' := [.ref 70, .int (nI (2 * p)), .ref 79]) (h' := (shT, pm_u2 f1 85 i v, pm_u2 g1 78 (2 * p) w, r1)) rfl ?_
      refine gp_of (fun _ k9 => g_getR (q' := 77) rfl rfl (by decide) r27 k9) ?_
      refine gp_n 1 (j' := 66) (lv' := [some (.ref 70), some (.int (nI i)), some (.int (nI (2 * p))), some (.int (nI p)), some (.int u), some (.int 0)]) (st' := [.int (nI p), .ref 77, .int (nI (2 * p)), .ref 79]) (h' := (shT, pm_u2 f1 85 i v, pm_u2 g1 78 (2 * p) w, r1)) rfl ?_
      refine gp_of (fun _ k9 => g_iald (k := p) (x := a) rfl rfl (rfl) (by omega) (by decide) (d2) k9) ?_
      refine gp_n 2 (j' := 69) (lv' := [some (.ref 70), some (.int (nI i)), some (.int (nI (2 * p))), some (.int (nI p)), some (.int u), some (.int 0)]) (st' := [.int 0, .int u, .int a, .int (nI (2 * p)), .ref 79]) (h' := (shT, pm_u2 f1 85 i v, pm_u2 g1 78 (2 * p) w, r1)) rfl ?_
      refine gp_of (fun _ k9 => g_call (y := 196) (as := [.int u, .int 0]) (st' := [.int a, .int (nI (2 * p)), .ref 79]) rfl rfl (co0 _) k9) ?_
      refine gp_n 1 (j' := 71) (lv' := [some (.ref 70), some (.int (nI i)), some (.int (nI (2 * p))), some (.int (nI p)), some (.int u), some (.int 0)]) (st' := [.int (a + c0), .int (nI (2 * p)), .ref 79]) (h' := (shT, pm_u2 f1 85 i v, pm_u2 g1 78 (2 * p) w, r1)) rfl ?_
      refine gp_of (fun _ k9 => g_iast (k := 2 * p) rfl rfl (rfl) (by omega) (by decide) k9) ?_
      refine gp_n 1 (j' := 73) (lv' := [some (.ref 70), some (.int (nI i)), some (.int (nI (2 * p))), some (.int (nI p)), some (.int u), some (.int 0)]) (st' := [.ref 70]) (h' := (shT, pm_u2 (pm_u2 f1 85 i v) 79 (2 * p) (a + c0), pm_u2 g1 78 (2 * p) w, r1)) rfl ?_
      refine gp_of (fun _ k9 => g_getR (q' := 80) rfl rfl (by decide) r30 k9) ?_
      refine gp_n 2 (j' := 76) (lv' := [some (.ref 70), some (.int (nI i)), some (.int (nI (2 * p))), some (.int (nI p)), some (.int u), some (.int 0)]) (st' := [.int (nI p), .int (nI (2 * p)), .ref 80]) (h' := (shT, pm_u2 (pm_u2 f1 85 i v) 79 (2 * p) (a + c0), pm_u2 g1 78 (2 * p) w, r1)) rfl ?_
      refine gp_of (fun _ k9 => g_iast (k := 2 * p) rfl rfl (rfl) (by omega) (by decide) k9) ?_
      refine gp_n 5 (j' := 32) (lv' := [some (.ref 70), some (.int (nI i)), some (.int ((nI (2 * p)) + 1)), some (.int (nI p)), some (.int u), some (.int 1)]) (st' := [.ref 70, .int 1]) (h' := (shT, pm_u2 (pm_u2 (pm_u2 f1 85 i v) 79 (2 * p) (a + c0)) 80 (2 * p) (nI p), pm_u2 g1 78 (2 * p) w, r1)) rfl ?_
      refine gp_of (fun _ k9 => g_getL (x := K) rfl rfl (by decide) (cK) k9) ?_
      refine gp_n 1 (j' := 34) (lv' := [some (.ref 70), some (.int (nI i)), some (.int ((nI (2 * p)) + 1)), some (.int (nI p)), some (.int u), some (.int 1)]) (st' := [.int (nI i), .long K, .int 1]) (h' := (shT, pm_u2 (pm_u2 (pm_u2 f1 85 i v) 79 (2 * p) (a + c0)) 80 (2 * p) (nI p), pm_u2 g1 78 (2 * p) w, r1)) rfl ?_
      refine gp_of (fun _ k9 => g_call (y := 161) (as := [.long K, .int (nI i)]) (st' := [.int 1]) rfl rfl (hs _) k9) ?_
      refine gp_of (fun _ k9 => g_iff rfl (show ¬ ((1 : Int32) = (0 : Int32)) from by decide) k9) ?_
      refine gp_n 2 (j' := 39) (lv' := [some (.ref 70), some (.int (nI i)), some (.int ((nI (2 * p)) + 1)), some (.int (nI p)), some (.int u), some (.int 1)]) (st' := [.int 2, .int 1]) (h' := (shT, pm_u2 (pm_u2 (pm_u2 f1 85 i v) 79 (2 * p) (a + c0)) 80 (2 * p) (nI p), pm_u2 g1 78 (2 * p) w, r1)) rfl ?_
      refine gp_of (fun _ k9 => g_icf rfl (show ¬ ((2 : Int32) ≤ (1 : Int32)) from by decide) k9) ?_
      refine gp_n 1 (j' := 41) (lv' := [some (.ref 70), some (.int (nI i)), some (.int ((nI (2 * p)) + 1)), some (.int (nI p)), some (.int u), some (.int 1)]) (st' := [.ref 70]) (h' := (shT, pm_u2 (pm_u2 (pm_u2 f1 85 i v) 79 (2 * p) (a + c0)) 80 (2 * p) (nI p), pm_u2 g1 78 (2 * p) w, r1)) rfl ?_
      refine gp_of (fun _ k9 => g_getR (q' := 78) rfl rfl (by decide) r28 k9) ?_
      refine gp_n 3 (j' := 45) (lv' := [some (.ref 70), some (.int (nI i)), some (.int ((nI (2 * p)) + 1)), some (.int (nI p)), some (.int u), some (.int 1)]) (st' := [.int 1, .int 1, .int ((nI (2 * p)) + 1), .ref 78]) (h' := (shT, pm_u2 (pm_u2 (pm_u2 f1 85 i v) 79 (2 * p) (a + c0)) 80 (2 * p) (nI p), pm_u2 g1 78 (2 * p) w, r1)) rfl ?_
      refine gp_of (fun _ k9 => g_icf rfl (show ¬ (¬ (1 : Int32) = (1 : Int32)) from by decide) k9) ?_
      refine gp_n 1 (j' := 47) (lv' := [some (.ref 70), some (.int (nI i)), some (.int ((nI (2 * p)) + 1)), some (.int (nI p)), some (.int u), some (.int 1)]) (st' := [.ref 70, .int ((nI (2 * p)) + 1), .ref 78]) (h' := (shT, pm_u2 (pm_u2 (pm_u2 f1 85 i v) 79 (2 * p) (a + c0)) 80 (2 * p) (nI p), pm_u2 g1 78 (2 * p) w, r1)) rfl ?_
      refine gp_of (fun _ k9 => g_getR (q' := 76) rfl rfl (by decide) r26 k9) ?_
      refine gp_n 1 (j' := 49) (lv' := [some (.ref 70), some (.int (nI i)), some (.int ((nI (2 * p)) + 1)), some (.int (nI p)), some (.int u), some (.int 1)]) (st' := [.int (nI p), .ref 76, .int ((nI (2 * p)) + 1), .ref 78]) (h' := (shT, pm_u2 (pm_u2 (pm_u2 f1 85 i v) 79 (2 * p) (a + c0)) 80 (2 * p) (nI p), pm_u2 g1 78 (2 * p) w, r1)) rfl ?_
      refine gp_of (fun _ k9 => g_lald (k := p) (x := w) rfl rfl (rfl) (by omega) (by decide) (d1) k9) ?_
      refine gp_n 5 (j' := 59) (lv' := [some (.ref 70), some (.int (nI i)), some (.int ((nI (2 * p)) + 1)), some (.int (nI p)), some (.int u), some (.int 1)]) (st' := [.long (w ||| ((1 : Int64) <<< ((nI i : Int32).toInt64 &&& 63))), .int ((nI (2 * p)) + 1), .ref 78]) (h' := (shT, pm_u2 (pm_u2 (pm_u2 f1 85 i v) 79 (2 * p) (a + c0)) 80 (2 * p) (nI p), pm_u2 g1 78 (2 * p) w, r1)) rfl ?_
      refine gp_of (fun _ k9 => g_last (k := 2 * p + 1) rfl rfl (n2) (by omega) (by decide) k9) ?_
      refine gp_n 1 (j' := 61) (lv' := [some (.ref 70), some (.int (nI i)), some (.int ((nI (2 * p)) + 1)), some (.int (nI p)), some (.int u), some (.int 1)]) (st' := [.ref 70]) (h' := (shT, pm_u2 (pm_u2 (pm_u2 f1 85 i v) 79 (2 * p) (a + c0)) 80 (2 * p) (nI p), pm_u2 (pm_u2 g1 78 (2 * p) w) 78 (2 * p + 1) (w ||| ((1 : Int64) <<< ((nI i : Int32).toInt64 &&& 63))), r1)) rfl ?_
      refine gp_of (fun _ k9 => g_getR (q' := 79) rfl rfl (by decide) r29 k9) ?_
      refine gp_n 2 (j' := 64) (lv' := [some (.ref 70), some (.int (nI i)), some (.int ((nI (2 * p)) + 1)), some (.int (nI p)), some (.int u), some (.int 1)]) (st' := [.ref 70, .int ((nI (2 * p)) + 1), .ref 79]) (h' := (shT, pm_u2 (pm_u2 (pm_u2 f1 85 i v) 79 (2 * p) (a + c0)) 80 (2 * p) (nI p), pm_u2 (pm_u2 g1 78 (2 * p) w) 78 (2 * p + 1) (w ||| ((1 : Int64) <<< ((nI i : Int32).toInt64 &&& 63))), r1)) rfl ?_
      refine gp_of (fun _ k9 => g_getR (q' := 77) rfl rfl (by decide) r27 k9) ?_
      refine gp_n 1 (j' := 66) (lv' := [some (.ref 70), some (.int (nI i)), some (.int ((nI (2 * p)) + 1)), some (.int (nI p)), some (.int u), some (.int 1)]) (st' := [.int (nI p), .ref 77, .int ((nI (2 * p)) + 1), .ref 79]) (h' := (shT, pm_u2 (pm_u2 (pm_u2 f1 85 i v) 79 (2 * p) (a + c0)) 80 (2 * p) (nI p), pm_u2 (pm_u2 g1 78 (2 * p) w) 78 (2 * p + 1) (w ||| ((1 : Int64) <<< ((nI i : Int32).toInt64 &&& 63))), r1)) rfl ?_
      refine gp_of (fun _ k9 => g_iald (k := p) (x := a) rfl rfl (rfl) (by omega) (by decide) (d2) k9) ?_
      refine gp_n 2 (j' := 69) (lv' := [some (.ref 70), some (.int (nI i)), some (.int ((nI (2 * p)) + 1)), some (.int (nI p)), some (.int u), some (.int 1)]) (st' := [.int 1, .int u, .int a, .int ((nI (2 * p)) + 1), .ref 79]) (h' := (shT, pm_u2 (pm_u2 (pm_u2 f1 85 i v) 79 (2 * p) (a + c0)) 80 (2 * p) (nI p), pm_u2 (pm_u2 g1 78 (2 * p) w) 78 (2 * p + 1) (w ||| ((1 : Int64) <<< ((nI i : Int32).toInt64 &&& 63))), r1)) rfl ?_
      refine gp_of (fun _ k9 => g_call (y := 196) (as := [.int u, .int 1]) (st' := [.int a, .int ((nI (2 * p)) + 1), .ref 79]) rfl rfl (co1 _) k9) ?_
      refine gp_n 1 (j' := 71) (lv' := [some (.ref 70), some (.int (nI i)), some (.int ((nI (2 * p)) + 1)), some (.int (nI p)), some (.int u), some (.int 1)]) (st' := [.int (a + c1), .int ((nI (2 * p)) + 1), .ref 79]) (h' := (shT, pm_u2 (pm_u2 (pm_u2 f1 85 i v) 79 (2 * p) (a + c0)) 80 (2 * p) (nI p), pm_u2 (pm_u2 g1 78 (2 * p) w) 78 (2 * p + 1) (w ||| ((1 : Int64) <<< ((nI i : Int32).toInt64 &&& 63))), r1)) rfl ?_
      refine gp_of (fun _ k9 => g_iast (k := 2 * p + 1) rfl rfl (n2) (by omega) (by decide) k9) ?_
      refine gp_n 1 (j' := 73) (lv' := [some (.ref 70), some (.int (nI i)), some (.int ((nI (2 * p)) + 1)), some (.int (nI p)), some (.int u), some (.int 1)]) (st' := [.ref 70]) (h' := (shT, pm_u2 (pm_u2 (pm_u2 (pm_u2 f1 85 i v) 79 (2 * p) (a + c0)) 80 (2 * p) (nI p)) 79 (2 * p + 1) (a + c1), pm_u2 (pm_u2 g1 78 (2 * p) w) 78 (2 * p + 1) (w ||| ((1 : Int64) <<< ((nI i : Int32).toInt64 &&& 63))), r1)) rfl ?_
      refine gp_of (fun _ k9 => g_getR (q' := 80) rfl rfl (by decide) r30 k9) ?_
      refine gp_n 2 (j' := 76) (lv' := [some (.ref 70), some (.int (nI i)), some (.int ((nI (2 * p)) + 1)), some (.int (nI p)), some (.int u), some (.int 1)]) (st' := [.int (nI p), .int ((nI (2 * p)) + 1), .ref 80]) (h' := (shT, pm_u2 (pm_u2 (pm_u2 (pm_u2 f1 85 i v) 79 (2 * p) (a + c0)) 80 (2 * p) (nI p)) 79 (2 * p + 1) (a + c1), pm_u2 (pm_u2 g1 78 (2 * p) w) 78 (2 * p + 1) (w ||| ((1 : Int64) <<< ((nI i : Int32).toInt64 &&& 63))), r1)) rfl ?_
      refine gp_of (fun _ k9 => g_iast (k := 2 * p + 1) rfl rfl (n2) (by omega) (by decide) k9) ?_
      refine gp_n 5 (j' := 32) (lv' := [some (.ref 70), some (.int (nI i)), some (.int (((nI (2 * p)) + 1) + 1)), some (.int (nI p)), some (.int u), some (.int 2)]) (st' := [.ref 70, .int 2]) (h' := (shT, pm_u2 (pm_u2 (pm_u2 (pm_u2 (pm_u2 f1 85 i v) 79 (2 * p) (a + c0)) 80 (2 * p) (nI p)) 79 (2 * p + 1) (a + c1)) 80 (2 * p + 1) (nI p), pm_u2 (pm_u2 g1 78 (2 * p) w) 78 (2 * p + 1) (w ||| ((1 : Int64) <<< ((nI i : Int32).toInt64 &&& 63))), r1)) rfl ?_
      refine gp_of (fun _ k9 => g_getL (x := K) rfl rfl (by decide) (cK) k9) ?_
      refine gp_n 1 (j' := 34) (lv' := [some (.ref 70), some (.int (nI i)), some (.int (((nI (2 * p)) + 1) + 1)), some (.int (nI p)), some (.int u), some (.int 2)]) (st' := [.int (nI i), .long K, .int 2]) (h' := (shT, pm_u2 (pm_u2 (pm_u2 (pm_u2 (pm_u2 f1 85 i v) 79 (2 * p) (a + c0)) 80 (2 * p) (nI p)) 79 (2 * p + 1) (a + c1)) 80 (2 * p + 1) (nI p), pm_u2 (pm_u2 g1 78 (2 * p) w) 78 (2 * p + 1) (w ||| ((1 : Int64) <<< ((nI i : Int32).toInt64 &&& 63))), r1)) rfl ?_
      refine gp_of (fun _ k9 => g_call (y := 161) (as := [.long K, .int (nI i)]) (st' := [.int 2]) rfl rfl (hs _) k9) ?_
      refine gp_of (fun _ k9 => g_iff rfl (show ¬ ((1 : Int32) = (0 : Int32)) from by decide) k9) ?_
      refine gp_n 2 (j' := 39) (lv' := [some (.ref 70), some (.int (nI i)), some (.int (((nI (2 * p)) + 1) + 1)), some (.int (nI p)), some (.int u), some (.int 2)]) (st' := [.int 2, .int 2]) (h' := (shT, pm_u2 (pm_u2 (pm_u2 (pm_u2 (pm_u2 f1 85 i v) 79 (2 * p) (a + c0)) 80 (2 * p) (nI p)) 79 (2 * p + 1) (a + c1)) 80 (2 * p + 1) (nI p), pm_u2 (pm_u2 g1 78 (2 * p) w) 78 (2 * p + 1) (w ||| ((1 : Int64) <<< ((nI i : Int32).toInt64 &&& 63))), r1)) rfl ?_
      refine gp_of (fun _ k9 => g_ict rfl (show (2 : Int32) ≤ (2 : Int32) from by decide) k9) ?_
      refine gp_n 2 (j' := 4) (lv' := [some (.ref 70), some (.int (nI i)), some (.int (((nI (2 * p)) + 1) + 1)), some (.int ((nI p) + 1)), some (.int u), some (.int 2)]) (st' := []) (h' := (shT, pm_u2 (pm_u2 (pm_u2 (pm_u2 (pm_u2 f1 85 i v) 79 (2 * p) (a + c0)) 80 (2 * p) (nI p)) 79 (2 * p + 1) (a + c1)) 80 (2 * p + 1) (nI p), pm_u2 (pm_u2 g1 78 (2 * p) w) 78 (2 * p + 1) (w ||| ((1 : Int64) <<< ((nI i : Int32).toInt64 &&& 63))), r1)) rfl ?_
      rw [n2, n3, nI_1]
      exact gp_done (g _ _) rfl
theorem br_go_0 {m i : Nat} {K : Int64} {S : Nat → Int32} {x : RSt} (hm : m ≤ 6) (hi : i < 2 ^ m) (hP : x.1 ≤ 8) (hk : bl K i = false) : ∀ (n p : Nat) (h : PmH), p + n = x.1 → HI hdT shT h → mdI x h → mcI K m S h → caI false m S x i (p) h → (0 < p → ph_i h 85 i = rsm m S x i 0) → ∃ h', HI hdT shT h' ∧ fram brW h h' ∧ caI false m S x i (x.1) h' ∧ (0 < x.1 → ph_i h' 85 i = rsm m S x i 0) ∧ (∀ s, ¬ s = i → ph_i h' 85 s = ph_i h 85 s) ∧ ∀ l4 l5, Go pmT none cd_192 4 [some (.ref 70), some (.int (nI i)), some (.int (nI p)), some (.int (nI p)), l4, l5] [] h (some (.int (nI x.1)), h') := by
  intro n
  have p6 := pw_6 m (by omega)
  induction n with
  | zero =>
    intro p h hp hI hx hc hq h85
    have hp : p = x.1 := by omega
    rw [hp] at hq h85 ⊢
    refine ⟨h, hI, fram.rf _ _, hq, h85, fun _ _ => rfl, fun l4 l5 => ?_⟩
    have cP := hx.1
    generalize nI x.1 = P at *
    obtain ⟨S, fi, fl, fr⟩ := h
    have hS : S = shT := hI.1
    subst hS
    have cP : fi 70 25 = P := cP
    refine go_of ?_
    refine gp_n 2 (j' := 6) (lv' := [some (.ref 70), some (.int (nI i)), some (.int P), some (.int P), l4, l5]) (st' := [.ref 70, .int P]) (h' := (shT, fi, fl, fr)) rfl ?_
    refine gp_of (fun _ k9 => g_getI (x := P) rfl (Or.inl rfl) rfl (by decide) (cP) k9) ?_
    refine gp_of (fun _ k9 => g_ict rfl (show P ≤ P from Int32.le_refl _) k9) ?_
    refine gp_n 1 (j' := 83) (lv' := [some (.ref 70), some (.int (nI i)), some (.int P), some (.int P), l4, l5]) (st' := [.int P]) (h' := (shT, fi, fl, fr)) rfl ?_
    refine gp_done (g_ret rfl) ?_
    rfl
  | succ n ih =>
    intro p h hp hI hx hc hq h85
    obtain ⟨b1, b2⟩ := hx.2 p (by omega)
    obtain ⟨h1, e1, I1, F1⟩ := sa_ev (w := x.2.1 p) hI hm hi hc.1 hc.2.2
    have q1 := (mc_fr (K := K) (m := m) (S := S) (x := x) (W := in_w iN_221) (by decide) F1).1 hc
    have q2 := (mc_fr (K := K) (m := m) (S := S) (x := x) (W := in_w iN_221) (by decide) F1).2 hx
    obtain ⟨d1, d2⟩ := q2.2 p (by omega)
    have e1 : Ev pmT 193 [.ref 70, .long (x.2.1 p), .int (nI i)] h (some (.int (rsm m S x i p))) h1 := e1
    have f85 : ∀ s, ph_i h1 85 s = ph_i h 85 s := fun s => (F1 85 s rfl).1
    have fq : caI false m S x i (p) h1 := fun q hq2 => by
      have := hq q hq2
      rw [if_neg (by decide)] at this ⊢
      exact ⟨(F1 78 q rfl).2.1.trans this.1, (F1 79 q rfl).1.trans this.2.1, (F1 80 q rfl).1.trans this.2.2⟩
    have cP := hx.1
    have cP1 := q2.1
    have cK := q1.2.1
    have k26 : ph_r h 70 26 = some 76 := hi_r hI rfl rfl (by decide)
    have r26 : ph_r h1 70 26 = some 76 := hi_r I1 rfl rfl (by decide)
    have r27 : ph_r h1 70 27 = some 77 := hi_r I1 rfl rfl (by decide)
    have r28 : ph_r h1 70 28 = some 78 := hi_r I1 rfl rfl (by decide)
    have r29 : ph_r h1 70 29 = some 79 := hi_r I1 rfl rfl (by decide)
    have r30 : ph_r h1 70 30 = some 80 := hi_r I1 rfl rfl (by decide)
    have r35 : ph_r h1 70 35 = some 85 := hi_r I1 rfl rfl (by decide)
    have hs := fun h => has_ev (v := K) (i := nI i) (h := h)
    rw [hasf_bit (by omega), hk] at hs
    have hs : ∀ h, Ev pmT 161 [.long K, .int (nI i)] h (some (.int 0)) h := hs
    have co0 := fun h => coM_ev (s := rsm m S x i p) (t := false) (h := h)
    have co0 : ∀ h, Ev pmT 196 [.int (rsm m S x i p), .int 0] h (some (.int (coS (rsm m S x i p) false))) h := co0
    have co1 := fun h => coM_ev (s := rsm m S x i p) (t := true) (h := h)
    have co1 : ∀ h, Ev pmT 196 [.int (rsm m S x i p), .int 1] h (some (.int (coS (rsm m S x i p) true))) h := co1
    obtain ⟨S1, f1, g1, r1⟩ := h1
    have s1 : S1 = shT := I1.1
    subst s1
    have r26 : r1 70 26 = some 76 := r26
    have r27 : r1 70 27 = some 77 := r27
    have r28 : r1 70 28 = some 78 := r28
    have r29 : r1 70 29 = some 79 := r29
    have r30 : r1 70 30 = some 80 := r30
    have r35 : r1 70 35 = some 85 := r35
    have d1 : g1 76 p = x.2.1 p := d1
    have d2 : f1 77 p = x.2.2 p := d2
    have cK : g1 70 21 = K := cK
    have cP1 : f1 70 25 = nI x.1 := cP1
    have I2 : HI hdT shT (shT, pm_u2 f1 85 i (rsm m S x i 0), g1, r1) := HI_wi I1 (fun z => absurd (show (9 : Nat) = 0 from z) (by decide))
    have I2 := HI_wi (p := 79) (s := p) (x := x.2.2 p + coS (rsm m S x i p) false) I2 (fun z => absurd (show (9 : Nat) = 0 from z) (by decide))
    have I2 := HI_wi (p := 80) (s := p) (x := nI p) I2 (fun z => absurd (show (9 : Nat) = 0 from z) (by decide))
    have I2 : HI hdT shT (shT, pm_u2 (pm_u2 (pm_u2 f1 85 i (rsm m S x i 0)) 79 p (x.2.2 p + coS (rsm m S x i p) false)) 80 p (nI p), pm_u2 g1 78 p (x.2.1 p), r1) := I2
    have wO : ∀ q s, ¬ q = 79 → ¬ q = 80 → ¬ q = 85 → (pm_u2 (pm_u2 (pm_u2 f1 85 i (rsm m S x i 0)) 79 p (x.2.2 p + coS (rsm m S x i p) false)) 80 p (nI p)) q s = f1 q s := fun q s z1 z2 z3 => (wl_ne (fun z => z2 z.1)).trans ((wl_ne (fun z => z1 z.1)).trans (wl_ne (fun z => z3 z.1)))
    have w85 : ∀ s, (pm_u2 (pm_u2 (pm_u2 f1 85 i (rsm m S x i 0)) 79 p (x.2.2 p + coS (rsm m S x i p) false)) 80 p (nI p)) 85 s = pm_u2 f1 85 i (rsm m S x i 0) 85 s := fun s => (wl_ne (by omega)).trans (wl_ne (by omega))
    have w79 : ∀ s, ¬ s = p → (pm_u2 (pm_u2 (pm_u2 f1 85 i (rsm m S x i 0)) 79 p (x.2.2 p + coS (rsm m S x i p) false)) 80 p (nI p)) 79 s = f1 79 s := fun s z1 => (wl_ne (by omega)).trans ((wl_ne (by omega)).trans (wl_ne (by omega)))
    have w80 : ∀ s, ¬ s = p → (pm_u2 (pm_u2 (pm_u2 f1 85 i (rsm m S x i 0)) 79 p (x.2.2 p + coS (rsm m S x i p) false)) 80 p (nI p)) 80 s = f1 80 s := fun s z1 => (wl_ne (by omega)).trans ((wl_ne (by omega)).trans (wl_ne (by omega)))
    have x79 : (pm_u2 (pm_u2 (pm_u2 f1 85 i (rsm m S x i 0)) 79 p (x.2.2 p + coS (rsm m S x i p) false)) 80 p (nI p)) 79 p = x.2.2 p + coS (rsm m S x i p) false := (wl_ne (by omega)).trans u2_eq
    have x80 : (pm_u2 (pm_u2 (pm_u2 f1 85 i (rsm m S x i 0)) 79 p (x.2.2 p + coS (rsm m S x i p) false)) 80 p (nI p)) 80 p = nI p := u2_eq
    have l78 : ∀ q s, ¬ (q = 78 ∧ s = p) → (pm_u2 g1 78 p (x.2.1 p)) q s = g1 q s := fun q s z => wl_ne z
    have x78 : (pm_u2 g1 78 p (x.2.1 p)) 78 p = x.2.1 p := u2_eq
    generalize hFI : pm_u2 (pm_u2 (pm_u2 f1 85 i (rsm m S x i 0)) 79 p (x.2.2 p + coS (rsm m S x i p) false)) 80 p (nI p) = f2 at *
    generalize hFL : pm_u2 g1 78 p (x.2.1 p) = g2 at *
    have F2 : fram brW (shT, f1, g1, r1) (shT, f2, g2, r1) := fun q s hw => by
      have z : ¬ q = 78 ∧ ¬ q = 79 ∧ ¬ q = 80 ∧ ¬ q = 85 := by
        refine ⟨?_, ?_, ?_, ?_⟩ <;> (intro z; subst z; simp [inW, brW] at hw)
      exact ⟨wO q s z.2.1 z.2.2.1 z.2.2.2, l78 q s (fun y => z.1 y.1), rfl⟩
    have F12 := fram.tr (fram.up (W := in_w iN_221) (W' := brW) (by decide) F1) F2
    have c85 : f2 85 i = rsm m S x i 0 := (w85 i).trans u2_eq
    have o85 : ∀ s, ¬ s = i → f2 85 s = f1 85 s := fun s z => (w85 s).trans (wl_ne (by omega))
    have fq2 : caI false m S x i (p + 1) (shT, f2, g2, r1) := fun q hq2 => by
      rw [if_neg (by decide)]
      by_cases z1 : q = p
      · subst z1
        exact ⟨x78, x79, x80⟩
      · have := fq q (by omega)
        rw [if_neg (by decide)] at this
        exact ⟨(l78 78 q (by omega)).trans this.1, (w79 q z1).trans this.2.1, (w80 q z1).trans this.2.2⟩
    obtain ⟨h3, I3, F3, b3, b4, b5, g⟩ := ih (p + 1) (shT, f2, g2, r1) (by omega) I2 ((mc_fr (K := K) (m := m) (S := S) (x := x) (W := brW) (by decide) F12).2 hx) ((mc_fr (K := K) (m := m) (S := S) (x := x) (W := brW) (by decide) F12).1 hc) fq2 (fun _ => c85)
    refine ⟨h3, I3, fram.tr F12 F3, b3, b4, fun s hs => (b5 s hs).trans ((o85 s hs).trans (f85 s)), fun l4 l5 => ?_⟩
    have h85f : 0 < p → f1 85 i = rsm m S x i 0 := fun z => (f85 i).trans (h85 z)
    have n2 : nI (2 * p) + 1 = nI (2 * p + 1) := nI_1 _
    have n3 : nI (2 * p + 1) + 1 = nI (2 * (p + 1)) := nI_1 _
    clear ih b3 b4 b5 F3 F12 F2 fq2 fq hq c85 o85 w85 wO l78 x78 x80 x79 w79 w80 I2 q1 q2 hx hc f85 F1 I3 
    subst hFI hFL
    obtain ⟨S0, f0, g0, r0⟩ := h
    have s0 : S0 = shT := hI.1
    subst s0
    have k26 : r0 70 26 = some 76 := k26
    have b1 : g0 76 p = x.2.1 p := b1
    have cP : f0 70 25 = nI x.1 := cP
    refine go_of ?_
    by_cases hp0 : p = 0
    · have e0 : rsm m S x i 0 = rsm m S x i p := by rw [hp0]
      rw [e0] at g
      clear h85 h85f
      generalize rsm m S x i p = u at *
      generalize x.2.1 p = w at *
      generalize x.2.2 p = a at *
      generalize coS u false = c0 at *
      generalize coS u true = c1 at *
      refine gp_n 2 (j' := 6) (lv' := [some (.ref 70), some (.int (nI i)), some (.int (nI p)), some (.int (nI p)), l4, l5]) (st' := [.ref 70, .int (nI p)]) (h' := (shT, f0, g0, r0)) rfl ?_
      refine gp_of (fun _ k9 => g_getI (x := nI x.1) rfl (Or.inl rfl) rfl (by decide) (cP) k9) ?_
      refine gp_of (fun _ k9 => g_icf rfl (show ¬ ((nI x.1) ≤ (nI p)) from nI_ge (by omega) (by omega)) k9) ?_
      refine gp_n 2 (j' := 10) (lv' := [some (.ref 70), some (.int (nI i)), some (.int (nI p)), some (.int (nI p)), l4, l5]) (st' := [.ref 70, .ref 70]) (h' := (shT, f0, g0, r0)) rfl ?_
      refine gp_of (fun _ k9 => g_getR (q' := 76) rfl rfl (by decide) k26 k9) ?_
      refine gp_n 1 (j' := 12) (lv' := [some (.ref 70), some (.int (nI i)), some (.int (nI p)), some (.int (nI p)), l4, l5]) (st' := [.int (nI p), .ref 76, .ref 70]) (h' := (shT, f0, g0, r0)) rfl ?_
      refine gp_of (fun _ k9 => g_lald (k := p) (x := w) rfl rfl (rfl) (by omega) (by decide) (b1) k9) ?_
      refine gp_n 1 (j' := 14) (lv' := [some (.ref 70), some (.int (nI i)), some (.int (nI p)), some (.int (nI p)), l4, l5]) (st' := [.int (nI i), .long w, .ref 70]) (h' := (shT, f0, g0, r0)) rfl ?_
      refine gp_of (fun _ k9 => g_call (y := 193) (as := [.ref 70, .long w, .int (nI i)]) (st' := []) rfl rfl (e1) k9) ?_
      refine gp_n 2 (j' := 17) (lv' := [some (.ref 70), some (.int (nI i)), some (.int (nI p)), some (.int (nI p)), some (.int u), l5]) (st' := [.ref 70]) (h' := (shT, f1, g1, r1)) rfl ?_
      refine gp_of (fun _ k9 => g_getR (q' := 85) rfl rfl (by decide) r35 k9) ?_
      refine gp_n 2 (j' := 20) (lv' := [some (.ref 70), some (.int (nI i)), some (.int (nI p)), some (.int (nI p)), some (.int u), l5]) (st' := [.int (nI p), .int (nI i), .ref 85]) (h' := (shT, f1, g1, r1)) rfl ?_
      refine gp_of (fun _ k9 => g_iff rfl (show ¬ (¬ (nI p) = (0 : Int32)) from (by rw [hp0]; exact not_not_intro rfl)) k9) ?_
      refine gp_n 2 (j' := 27) (lv' := [some (.ref 70), some (.int (nI i)), some (.int (nI p)), some (.int (nI p)), some (.int u), l5]) (st' := [.int u, .int (nI i), .ref 85]) (h' := (shT, f1, g1, r1)) rfl ?_
      refine gp_of (fun _ k9 => g_iast (k := i) rfl rfl (rfl) (by omega) (by decide) k9) ?_
      refine gp_n 4 (j' := 32) (lv' := [some (.ref 70), some (.int (nI i)), some (.int (nI p)), some (.int (nI p)), some (.int u), some (.int 0)]) (st' := [.ref 70, .int 0]) (h' := (shT, pm_u2 f1 85 i u, g1, r1)) rfl ?_
      refine gp_of (fun _ k9 => g_getL (x := K) rfl rfl (by decide) (cK) k9) ?_
      refine gp_n 1 (j' := 34) (lv' := [some (.ref 70), some (.int (nI i)), some (.int (nI p)), some (.int (nI p)), some (.int u), some (.int 0)]) (st' := [.int (nI i), .long K, .int 0]) (h' := (shT, pm_u2 f1 85 i u, g1, r1)) rfl ?_
      refine gp_of (fun _ k9 => g_call (y := 161) (as := [.long K, .int (nI i)]) (st' := [.int 0]) rfl rfl (hs _) k9) ?_
      refine gp_of (fun _ k9 => g_ift rfl (show (0 : Int32) = (0 : Int32) from by decide) k9) ?_
      refine gp_n 1 (j' := 39) (lv' := [some (.ref 70), some (.int (nI i)), some (.int (nI p)), some (.int (nI p)), some (.int u), some (.int 0)]) (st' := [.int 1, .int 0]) (h' := (shT, pm_u2 f1 85 i u, g1, r1)) rfl ?_
      refine gp_of (fun _ k9 => g_icf rfl (show ¬ ((1 : Int32) ≤ (0 : Int32)) from by decide) k9) ?_
      refine gp_n 1 (j' := 41) (lv' := [some (.ref 70), some (.int (nI i)), some (.int (nI p)), some (.int (nI p)), some (.int u), some (.int 0)]) (st' := [.ref 70]) (h' := (shT, pm_u2 f1 85 i u, g1, r1)) rfl ?_
      refine gp_of (fun _ k9 => g_getR (q' := 78) rfl rfl (by decide) r28 k9) ?_
      refine gp_n 3 (j' := 45) (lv' := [some (.ref 70), some (.int (nI i)), some (.int (nI p)), some (.int (nI p)), some (.int u), some (.int 0)]) (st' := [.int 1, .int 0, .int (nI p), .ref 78]) (h' := (shT, pm_u2 f1 85 i u, g1, r1)) rfl ?_
      refine gp_of (fun _ k9 => g_ict rfl (show ¬ (0 : Int32) = (1 : Int32) from by decide) k9) ?_
      refine gp_n 1 (j' := 56) (lv' := [some (.ref 70), some (.int (nI i)), some (.int (nI p)), some (.int (nI p)), some (.int u), some (.int 0)]) (st' := [.ref 70, .int (nI p), .ref 78]) (h' := (shT, pm_u2 f1 85 i u, g1, r1)) rfl ?_
      refine gp_of (fun _ k9 => g_getR (q' := 76) rfl rfl (by decide) r26 k9) ?_
      refine gp_n 1 (j' := 58) (lv' := [some (.ref 70), some (.int (nI i)), some (.int (nI p)), some (.int (nI p)), some (.int u), some (.int 0)]) (st' := [.int (nI p), .ref 76, .int (nI p), .ref 78]) (h' := (shT, pm_u2 f1 85 i u, g1, r1)) rfl ?_
      refine gp_of (fun _ k9 => g_lald (k := p) (x := w) rfl rfl (rfl) (by omega) (by decide) (d1) k9) ?_
      refine gp_of (fun _ k9 => g_last (k := p) rfl rfl (rfl) (by omega) (by decide) k9) ?_
      refine gp_n 1 (j' := 61) (lv' := [some (.ref 70), some (.int (nI i)), some (.int (nI p)), some (.int (nI p)), some (.int u), some (.int 0)]) (st' := [.ref 70]) (h' := (shT, pm_u2 f1 85 i u, pm_u2 g1 78 p w, r1)) rfl ?_
      refine gp_of (fun _ k9 => g_getR (q' := 79) rfl rfl (by decide) r29 k9) ?_
      refine gp_n 2 (j' := 64) (lv' := [some (.ref 70), some (.int (nI i)), some (.int (nI p)), some (.int (nI p)), some (.int u), some (.int 0)]) (st' := [.ref 70, .int (nI p), .ref 79]) (h' := (shT, pm_u2 f1 85 i u, pm_u2 g1 78 p w, r1)) rfl ?_
      refine gp_of (fun _ k9 => g_getR (q' := 77) rfl rfl (by decide) r27 k9) ?_
      refine gp_n 1 (j' := 66) (lv' := [some (.ref 70), some (.int (nI i)), some (.int (nI p)), some (.int (nI p)), some (.int u), some (.int 0)]) (st' := [.int (nI p), .ref 77, .int (nI p), .ref 79]) (h' := (shT, pm_u2 f1 85 i u, pm_u2 g1 78 p w, r1)) rfl ?_
      refine gp_of (fun _ k9 => g_iald (k := p) (x := a) rfl rfl (rfl) (by omega) (by decide) (d2) k9) ?_
      refine gp_n 2 (j' := 69) (lv' := [some (.ref 70), some (.int (nI i)), some (.int (nI p)), some (.int (nI p)), some (.int u), some (.int 0)]) (st' := [.int 0, .int u, .int a, .int (nI p), .ref 79]) (h' := (shT, pm_u2 f1 85 i u, pm_u2 g1 78 p w, r1)) rfl ?_
      refine gp_of (fun _ k9 => g_call (y := 196) (as := [.int u, .int 0]) (st' := [.int a, .int (nI p), .ref 79]) rfl rfl (co0 _) k9) ?_
      refine gp_n 1 (j' := 71) (lv' := [some (.ref 70), some (.int (nI i)), some (.int (nI p)), some (.int (nI p)), some (.int u), some (.int 0)]) (st' := [.int (a + c0), .int (nI p), .ref 79]) (h' := (shT, pm_u2 f1 85 i u, pm_u2 g1 78 p w, r1)) rfl ?_
      refine gp_of (fun _ k9 => g_iast (k := p) rfl rfl (rfl) (by omega) (by decide) k9) ?_
      refine gp_n 1 (j' := 73) (lv' := [some (.ref 70), some (.int (nI i)), some (.int (nI p)), some (.int (nI p)), some (.int u), some (.int 0)]) (st' := [.ref 70]) (h' := (shT, pm_u2 (pm_u2 f1 85 i u) 79 p (a + c0), pm_u2 g1 78 p w, r1)) rfl ?_
      refine gp_of (fun _ k9 => g_getR (q' := 80) rfl rfl (by decide) r30 k9) ?_
      refine gp_n 2 (j' := 76) (lv' := [some (.ref 70), some (.int (nI i)), some (.int (nI p)), some (.int (nI p)), some (.int u), some (.int 0)]) (st' := [.int (nI p), .int (nI p), .ref 80]) (h' := (shT, pm_u2 (pm_u2 f1 85 i u) 79 p (a + c0), pm_u2 g1 78 p w, r1)) rfl ?_
      refine gp_of (fun _ k9 => g_iast (k := p) rfl rfl (rfl) (by omega) (by decide) k9) ?_
      refine gp_n 5 (j' := 32) (lv' := [some (.ref 70), some (.int (nI i)), some (.int ((nI p) + 1)), some (.int (nI p)), some (.int u), some (.int 1)]) (st' := [.ref 70, .int 1]) (h' := (shT, pm_u2 (pm_u2 (pm_u2 f1 85 i u) 79 p (a + c0)) 80 p (nI p), pm_u2 g1 78 p w, r1)) rfl ?_
      refine gp_of (fun _ k9 => g_getL (x := K) rfl rfl (by decide) (cK) k9) ?_
      refine gp_n 1 (j' := 34) (lv' := [some (.ref 70), some (.int (nI i)), some (.int ((nI p) + 1)), some (.int (nI p)), some (.int u), some (.int 1)]) (st' := [.int (nI i), .long K, .int 1]) (h' := (shT, pm_u2 (pm_u2 (pm_u2 f1 85 i u) 79 p (a + c0)) 80 p (nI p), pm_u2 g1 78 p w, r1)) rfl ?_
      refine gp_of (fun _ k9 => g_call (y := 161) (as := [.long K, .int (nI i)]) (st' := [.int 1]) rfl rfl (hs _) k9) ?_
      refine gp_of (fun _ k9 => g_ift rfl (show (0 : Int32) = (0 : Int32) from by decide) k9) ?_
      refine gp_n 1 (j' := 39) (lv' := [some (.ref 70), some (.int (nI i)), some (.int ((nI p) + 1)), some (.int (nI p)), some (.int u), some (.int 1)]) (st' := [.int 1, .int 1]) (h' := (shT, pm_u2 (pm_u2 (pm_u2 f1 85 i u) 79 p (a + c0)) 80 p (nI p), pm_u2 g1 78 p w, r1)) rfl ?_
      refine gp_of (fun _ k9 => g_ict rfl (show (1 : Int32) ≤ (1 : Int32) from by decide) k9) ?_
      refine gp_n 2 (j' := 4) (lv' := [some (.ref 70), some (.int (nI i)), some (.int ((nI p) + 1)), some (.int ((nI p) + 1)), some (.int u), some (.int 1)]) (st' := []) (h' := (shT, pm_u2 (pm_u2 (pm_u2 f1 85 i u) 79 p (a + c0)) 80 p (nI p), pm_u2 g1 78 p w, r1)) rfl ?_
      rw [nI_1]
      exact gp_done (g _ _) rfl
    · generalize rsm m S x i 0 = v at *
      generalize rsm m S x i p = u at *
      generalize x.2.1 p = w at *
      generalize x.2.2 p = a at *
      generalize coS u false = c0 at *
      generalize coS u true = c1 at *
      refine gp_n 2 (j' := 6) (lv' := [some (.ref 70), some (.int (nI i)), some (.int (nI p)), some (.int (nI p)), l4, l5]) (st' := [.ref 70, .int (nI p)]) (h' := (shT, f0, g0, r0)) rfl ?_
      refine gp_of (fun _ k9 => g_getI (x := nI x.1) rfl (Or.inl rfl) rfl (by decide) (cP) k9) ?_
      refine gp_of (fun _ k9 => g_icf rfl (show ¬ ((nI x.1) ≤ (nI p)) from nI_ge (by omega) (by omega)) k9) ?_
      refine gp_n 2 (j' := 10) (lv' := [some (.ref 70), some (.int (nI i)), some (.int (nI p)), some (.int (nI p)), l4, l5]) (st' := [.ref 70, .ref 70]) (h' := (shT, f0, g0, r0)) rfl ?_
      refine gp_of (fun _ k9 => g_getR (q' := 76) rfl rfl (by decide) k26 k9) ?_
      refine gp_n 1 (j' := 12) (lv' := [some (.ref 70), some (.int (nI i)), some (.int (nI p)), some (.int (nI p)), l4, l5]) (st' := [.int (nI p), .ref 76, .ref 70]) (h' := (shT, f0, g0, r0)) rfl ?_
      refine gp_of (fun _ k9 => g_lald (k := p) (x := w) rfl rfl (rfl) (by omega) (by decide) (b1) k9) ?_
      refine gp_n 1 (j' := 14) (lv' := [some (.ref 70), some (.int (nI i)), some (.int (nI p)), some (.int (nI p)), l4, l5]) (st' := [.int (nI i), .long w, .ref 70]) (h' := (shT, f0, g0, r0)) rfl ?_
      refine gp_of (fun _ k9 => g_call (y := 193) (as := [.ref 70, .long w, .int (nI i)]) (st' := []) rfl rfl (e1) k9) ?_
      refine gp_n 2 (j' := 17) (lv' := [some (.ref 70), some (.int (nI i)), some (.int (nI p)), some (.int (nI p)), some (.int u), l5]) (st' := [.ref 70]) (h' := (shT, f1, g1, r1)) rfl ?_
      refine gp_of (fun _ k9 => g_getR (q' := 85) rfl rfl (by decide) r35 k9) ?_
      refine gp_n 2 (j' := 20) (lv' := [some (.ref 70), some (.int (nI i)), some (.int (nI p)), some (.int (nI p)), some (.int u), l5]) (st' := [.int (nI p), .int (nI i), .ref 85]) (h' := (shT, f1, g1, r1)) rfl ?_
      refine gp_of (fun _ k9 => g_ift rfl (show ¬ (nI p) = (0 : Int32) from nI_ne0 (by omega) (by omega)) k9) ?_
      refine gp_n 1 (j' := 24) (lv' := [some (.ref 70), some (.int (nI i)), some (.int (nI p)), some (.int (nI p)), some (.int u), l5]) (st' := [.ref 70, .int (nI i), .ref 85]) (h' := (shT, f1, g1, r1)) rfl ?_
      refine gp_of (fun _ k9 => g_getR (q' := 85) rfl rfl (by decide) r35 k9) ?_
      refine gp_n 1 (j' := 26) (lv' := [some (.ref 70), some (.int (nI i)), some (.int (nI p)), some (.int (nI p)), some (.int u), l5]) (st' := [.int (nI i), .ref 85, .int (nI i), .ref 85]) (h' := (shT, f1, g1, r1)) rfl ?_
      refine gp_of (fun _ k9 => g_iald (k := i) (x := v) rfl rfl (rfl) (by omega) (by decide) (h85f (by omega)) k9) ?_
      refine gp_of (fun _ k9 => g_iast (k := i) rfl rfl (rfl) (by omega) (by decide) k9) ?_
      refine gp_n 4 (j' := 32) (lv' := [some (.ref 70), some (.int (nI i)), some (.int (nI p)), some (.int (nI p)), some (.int u), some (.int 0)]) (st' := [.ref 70, .int 0]) (h' := (shT, pm_u2 f1 85 i v, g1, r1)) rfl ?_
      refine gp_of (fun _ k9 => g_getL (x := K) rfl rfl (by decide) (cK) k9) ?_
      refine gp_n 1 (j' := 34) (lv' := [some (.ref 70), some (.int (nI i)), some (.int (nI p)), some (.int (nI p)), some (.int u), some (.int 0)]) (st' := [.int (nI i), .long K, .int 0]) (h' := (shT, pm_u2 f1 85 i v, g1, r1)) rfl ?_
      refine gp_of (fun _ k9 => g_call (y := 161) (as := [.long K, .int (nI i)]) (st' := [.int 0]) rfl rfl (hs _) k9) ?_
      refine gp_of (fun _ k9 => g_ift rfl (show (0 : Int32) = (0 : Int32) from by decide) k9) ?_
      refine gp_n 1 (j' := 39) (lv' := [some (.ref 70), some (.int (nI i)), some (.int (nI p)), some (.int (nI p)), some (.int u), some (.int 0)]) (st' := [.int 1, .int 0]) (h' := (shT, pm_u2 f1 85 i v, g1, r1)) rfl ?_
      refine gp_of (fun _ k9 => g_icf rfl (show ¬ ((1 : Int32) ≤ (0 : Int32)) from by decide) k9) ?_
      refine gp_n 1 (j' := 41) (lv' := [some (.ref 70), some (.int (nI i)), some (.int (nI p)), some (.int (nI p)), some (.int u), some (.int 0)]) (st' := [.ref 70]) (h' := (shT, pm_u2 f1 85 i v, g1, r1)) rfl ?_
      refine gp_of (fun _ k9 => g_getR (q' := 78) rfl rfl (by decide) r28 k9) ?_
      refine gp_n 3 (j' := 45) (lv' := [some (.ref 70), some (.int (nI i)), some (.int (nI p)), some (.int (nI p)), some (.int u), some (.int 0)]) (st' := [.int 1, .int 0, .int (nI p), .ref 78]) (h' := (shT, pm_u2 f1 85 i v, g1, r1)) rfl ?_
      refine gp_of (fun _ k9 => g_ict rfl (show ¬ (0 : Int32) = (1 : Int32) from by decide) k9) ?_
      refine gp_n 1 (j' := 56) (lv' := [some (.ref 70), some (.int (nI i)), some (.int (nI p)), some (.int (nI p)), some (.int u), some (.int 0)]) (st' := [.ref 70, .int (nI p), .ref 78]) (h' := (shT, pm_u2 f1 85 i v, g1, r1)) rfl ?_
      refine gp_of (fun _ k9 => g_getR (q' := 76) rfl rfl (by decide) r26 k9) ?_
      refine gp_n 1 (j' := 58) (lv' := [some (.ref 70), some (.int (nI i)), some (.int (nI p)), some (.int (nI p)), some (.int u), some (.int 0)]) (st' := [.int (nI p), .ref 76, .int (nI p), .ref 78]) (h' := (shT, pm_u2 f1 85 i v, g1, r1)) rfl ?_
      refine gp_of (fun _ k9 => g_lald (k := p) (x := w) rfl rfl (rfl) (by omega) (by decide) (d1) k9) ?_
      refine gp_of (fun _ k9 => g_last (k := p) rfl rfl (rfl) (by omega) (by decide) k9) ?_
      refine gp_n 1 (j' := 61) (lv' := [some (.ref 70), some (.int (nI i)), some (.int (nI p)), some (.int (nI p)), some (.int u), some (.int 0)]) (st' := [.ref 70]) (h' := (shT, pm_u2 f1 85 i v, pm_u2 g1 78 p w, r1)) rfl ?_
      refine gp_of (fun _ k9 => g_getR (q' := 79) rfl rfl (by decide) r29 k9) ?_
      refine gp_n 2 (j' := 64) (lv' := [some (.ref 70), some (.int (nI i)), some (.int (nI p)), some (.int (nI p)), some (.int u), some (.int 0)]) (st' := [.ref 70, .int (nI p), .ref 79]) (h' := (shT, pm_u2 f1 85 i v, pm_u2 g1 78 p w, r1)) rfl ?_
      refine gp_of (fun _ k9 => g_getR (q' := 77) rfl rfl (by decide) r27 k9) ?_
      refine gp_n 1 (j' := 66) (lv' := [some (.ref 70), some (.int (nI i)), some (.int (nI p)), some (.int (nI p)), some (.int u), some (.int 0)]) (st' := [.int (nI p), .ref 77, .int (nI p), .ref 79]) (h' := (shT, pm_u2 f1 85 i v, pm_u2 g1 78 p w, r1)) rfl ?_
      refine gp_of (fun _ k9 => g_iald (k := p) (x := a) rfl rfl (rfl) (by omega) (by decide) (d2) k9) ?_
      refine gp_n 2 (j' := 69) (lv' := [some (.ref 70), some (.int (nI i)), some (.int (nI p)), some (.int (nI p)), some (.int u), some (.int 0)]) (st' := [.int 0, .int u, .int a, .int (nI p), .ref 79]) (h' := (shT, pm_u2 f1 85 i v, pm_u2 g1 78 p w, r1)) rfl ?_
      refine gp_of (fun _ k9 => g_call (y := 196) (as := [.int u, .int 0]) (st' := [.int a, .int (nI p), .ref 79]) rfl rfl (co0 _) k9) ?_
      refine gp_n 1 (j' := 71) (lv' := [some (.ref 70), some (.int (nI i)), some (.int (nI p)), some (.int (nI p)), some (.int u), some (.int 0)]) (st' := [.int (a + c0), .int (nI p), .ref 79]) (h' := (shT, pm_u2 f1 85 i v, pm_u2 g1 78 p w, r1)) rfl ?_
      refine gp_of (fun _ k9 => g_iast (k := p) rfl rfl (rfl) (by omega) (by decide) k9) ?_
      refine gp_n 1 (j' := 73) (lv' := [some (.ref 70), some (.int (nI i)), some (.int (nI p)), some (.int (nI p)), some (.int u), some (.int 0)]) (st' := [.ref 70]) (h' := (shT, pm_u2 (pm_u2 f1 85 i v) 79 p (a + c0), pm_u2 g1 78 p w, r1)) rfl ?_
      refine gp_of (fun _ k9 => g_getR (q' := 80) rfl rfl (by decide) r30 k9) ?_
      refine gp_n 2 (j' := 76) (lv' := [some (.ref 70), some (.int (nI i)), some (.int (nI p)), some (.int (nI p)), some (.int u), some (.int 0)]) (st' := [.int (nI p), .int (nI p), .ref 80]) (h' := (shT, pm_u2 (pm_u2 f1 85 i v) 79 p (a + c0), pm_u2 g1 78 p w, r1)) rfl ?_
      refine gp_of (fun _ k9 => g_iast (k := p) rfl rfl (rfl) (by omega) (by decide) k9) ?_
      refine gp_n 5 (j' := 32) (lv' := [some (.ref 70), some (.int (nI i)), some (.int ((nI p) + 1)), some (.int (nI p)), some (.int u), some (.int 1)]) (st' := [.ref 70, .int 1]) (h' := (shT, pm_u2 (pm_u2 (pm_u2 f1 85 i v) 79 p (a + c0)) 80 p (nI p), pm_u2 g1 78 p w, r1)) rfl ?_
      refine gp_of (fun _ k9 => g_getL (x := K) rfl rfl (by decide) (cK) k9) ?_
      refine gp_n 1 (j' := 34) (lv' := [some (.ref 70), some (.int (nI i)), some (.int ((nI p) + 1)), some (.int (nI p)), some (.int u), some (.int 1)]) (st' := [.int (nI i), .long K, .int 1]) (h' := (shT, pm_u2 (pm_u2 (pm_u2 f1 85 i v) 79 p (a + c0)) 80 p (nI p), pm_u2 g1 78 p w, r1)) rfl ?_
      refine gp_of (fun _ k9 => g_call (y := 161) (as := [.long K, .int (nI i)]) (st' := [.int 1]) rfl rfl (hs _) k9) ?_
      refine gp_of (fun _ k9 => g_ift rfl (show (0 : Int32) = (0 : Int32) from by decide) k9) ?_
      refine gp_n 1 (j' := 39) (lv' := [some (.ref 70), some (.int (nI i)), some (.int ((nI p) + 1)), some (.int (nI p)), some (.int u), some (.int 1)]) (st' := [.int 1, .int 1]) (h' := (shT, pm_u2 (pm_u2 (pm_u2 f1 85 i v) 79 p (a + c0)) 80 p (nI p), pm_u2 g1 78 p w, r1)) rfl ?_
      refine gp_of (fun _ k9 => g_ict rfl (show (1 : Int32) ≤ (1 : Int32) from by decide) k9) ?_
      refine gp_n 2 (j' := 4) (lv' := [some (.ref 70), some (.int (nI i)), some (.int ((nI p) + 1)), some (.int ((nI p) + 1)), some (.int u), some (.int 1)]) (st' := []) (h' := (shT, pm_u2 (pm_u2 (pm_u2 f1 85 i v) 79 p (a + c0)) 80 p (nI p), pm_u2 g1 78 p w, r1)) rfl ?_
      rw [nI_1]
      exact gp_done (g _ _) rfl
theorem br_ev_1 {m i : Nat} {K : Int64} {S : Nat → Int32} {x : RSt} {h : PmH} (hm : m ≤ 6) (hi : i < 2 ^ m) (hP : x.1 ≤ 8) (hk : bl K i = true) (hI : HI hdT shT h) (hx : mdI x h) (hc : mcI K m S h) : ∃ h', Ev pmT 192 [.ref 70, .int (nI i)] h (some (.int (nI (2 * x.1)))) h' ∧ HI hdT shT h' ∧ fram brW h h' ∧ caI true m S x i (2 * x.1) h' ∧ (0 < x.1 → ph_i h' 85 i = rsm m S x i 0) ∧ (∀ s, ¬ s = i → ph_i h' 85 s = ph_i h 85 s) := by
  obtain ⟨h', I1, F1, b1, b2, b3, g⟩ := br_go_1 hm hi hP hk x.1 0 h (by omega) hI hx hc (fun q hq => absurd hq (by omega)) (fun z => absurd z (Nat.lt_irrefl 0))
  have g := g none none
  refine ⟨h', ?_, I1, F1, b1, b2, b3⟩
  refine Ev.of (es := cd_192) (ml := 6) (lv := [some (.ref 70), some (.int (nI i)), none, none, none, none]) rfl rfl rfl ?_
  refine go_of ?_
  refine gp_n 4 (j' := 4) (lv' := [some (.ref 70), some (.int (nI i)), some (.int (nI (2 * 0))), some (.int (nI 0)), none, none]) (st' := []) (h' := h) rfl ?_
  exact gp_done g rfl
theorem br_ev_0 {m i : Nat} {K : Int64} {S : Nat → Int32} {x : RSt} {h : PmH} (hm : m ≤ 6) (hi : i < 2 ^ m) (hP : x.1 ≤ 8) (hk : bl K i = false) (hI : HI hdT shT h) (hx : mdI x h) (hc : mcI K m S h) : ∃ h', Ev pmT 192 [.ref 70, .int (nI i)] h (some (.int (nI (x.1)))) h' ∧ HI hdT shT h' ∧ fram brW h h' ∧ caI false m S x i (x.1) h' ∧ (0 < x.1 → ph_i h' 85 i = rsm m S x i 0) ∧ (∀ s, ¬ s = i → ph_i h' 85 s = ph_i h 85 s) := by
  obtain ⟨h', I1, F1, b1, b2, b3, g⟩ := br_go_0 hm hi hP hk x.1 0 h (by omega) hI hx hc (fun q hq => absurd hq (by omega)) (fun z => absurd z (Nat.lt_irrefl 0))
  have g := g none none
  refine ⟨h', ?_, I1, F1, b1, b2, b3⟩
  refine Ev.of (es := cd_192) (ml := 6) (lv := [some (.ref 70), some (.int (nI i)), none, none, none, none]) rfl rfl rfl ?_
  refine go_of ?_
  refine gp_n 4 (j' := 4) (lv' := [some (.ref 70), some (.int (nI i)), some (.int (nI 0)), some (.int (nI 0)), none, none]) (st' := []) (h' := h) rfl ?_
  exact gp_done g rfl
/-- the model's traces of a channel -/
def mtI (c Q : Nat) (mt : Nat → Int32) (st : Nat → Nat) (h : PmH) : Prop := ∀ t, t < Q → ph_i h 82 (8 * c + t) = mt t ∧ ph_i h 83 (8 * c + t) = b01 (decide (st t % 2 = 1)) ∧ ph_i h 84 (8 * c + t) = nI (st t / 2)
def tkW : WSt := [(76, 9999), (77, 9999), (80, 9999), (82, 9999), (83, 9999), (84, 9999)]
def mtF (c : Nat) (h h' : PmH) : Prop := ∀ q s, (q = 82 ∨ q = 83 ∨ q = 84) → ¬ (8 * c ≤ s ∧ s < 8 * c + 8) → ph_i h' q s = ph_i h q s
theorem tl_go_1 {i M Q : Nat} {v1 : Int32} {Wv : Nat → Int64} {Av : Nat → Int32} {oo : Nat → Nat} (hM : M ≤ 16) (hQ : Q ≤ 8) (hQM : Q ≤ M) (hi : i < 64) (hs : srt (fun t => (Av t).toInt) M oo) (hbt : ∀ t, t < M → bl (Wv (oo t)) i = decide (oo t % 2 = 1)) : ∀ (n p : Nat) (h : PmH), p + n = Q → HI hdT shT h → (∀ q, q < M → ph_l h 78 q = Wv q ∧ ph_i h 79 q = Av q) → (∀ a, a < M → ph_i h 80 (oo a) = if a < p then -1 else nI (oo a / 2)) → ∃ h', HI hdT shT h' ∧ fram tkW h h' ∧ mtF i h h' ∧ (∀ t, p ≤ t → t < Q → ph_l h' 76 t = Wv (oo t) ∧ ph_i h' 77 t = Av (oo t) ∧ ph_i h' 82 (8 * i + t) = Av (oo t) ∧ ph_i h' 83 (8 * i + t) = b01 (decide (oo t % 2 = 1)) ∧ ph_i h' 84 (8 * i + t) = nI (oo t / 2)) ∧ (∀ t, t < p → ph_l h' 76 t = ph_l h 76 t ∧ ph_i h' 77 t = ph_i h 77 t ∧ ph_i h' 82 (8 * i + t) = ph_i h 82 (8 * i + t) ∧ ph_i h' 83 (8 * i + t) = ph_i h 83 (8 * i + t) ∧ ph_i h' 84 (8 * i + t) = ph_i h 84 (8 * i + t)) ∧ ∀ r, Go pmT none cd_191 55 [some (.ref 70), some (.int v1), some (.int (nI i)), some (.int (nI M)), some (.int 1), some (.int (nI Q)), some (.int (nI Q))] [] h' r → Go pmT none cd_191 39 [some (.ref 70), some (.int v1), some (.int (nI i)), some (.int (nI M)), some (.int 1), some (.int (nI Q)), some (.int (nI p))] [] h r := by
  intro n
  induction n with
  | zero =>
    intro p h hp hI hq h80
    have hp : p = Q := by omega
    subst hp
    refine ⟨h, hI, fram.rf _ _, fun _ _ _ _ => rfl, fun t z1 z2 => absurd z2 (by omega), fun t ht => ⟨rfl, rfl, rfl, rfl, rfl⟩, fun r k => ?_⟩
    refine go_of ?_
    refine gp_n 2 (j' := 41) (lv' := [some (.ref 70), some (.int v1), some (.int (nI i)), some (.int (nI M)), some (.int 1), some (.int (nI p)), some (.int (nI p))]) (st' := [.int (nI p), .int (nI p)]) (h' := h) rfl ?_
    refine gp_of (fun _ k9 => g_ict rfl (show (nI p) ≤ (nI p) from Int32.le_refl _) k9) ?_
    exact gp_done k rfl
  | succ n ih =>
    intro p h hp hI hq h80
    have k26 : ph_r h 70 26 = some 76 := hi_r hI rfl rfl (by decide)
    have k27 : ph_r h 70 27 = some 77 := hi_r hI rfl rfl (by decide)
    have k28 : ph_r h 70 28 = some 78 := hi_r hI rfl rfl (by decide)
    have k29 : ph_r h 70 29 = some 79 := hi_r hI rfl rfl (by decide)
    have k30 : ph_r h 70 30 = some 80 := hi_r hI rfl rfl (by decide)
    have k32 : ph_r h 70 32 = some 82 := hi_r hI rfl rfl (by decide)
    have k33 : ph_r h 70 33 = some 83 := hi_r hI rfl rfl (by decide)
    have k34 : ph_r h 70 34 = some 84 := hi_r hI rfl rfl (by decide)
    obtain ⟨S, fi, fl, fr⟩ := h
    have hS : S = shT := hI.1
    subst hS
    have o1 : oo p < M := hs.1 p (by omega)
    have lo := lm_ev2 (M := M) (Kc := Av) (L := fun q => decide (¬ fi 80 q < 0)) (fi := fi) (fl := fl) (fr := fr) hM k29 k30 (fun q hq2 => (hq q hq2).2) (fun q _ => decide_eq_true_iff)
    rw [bst_o hs (j := p) (by omega) (fun a ha => by
      have := h80 a ha
      have this : fi 80 (oo a) = if a < p then -1 else nI (oo a / 2) := this
      have oa := hs.1 a ha
      rw [this]
      by_cases z : a < p
      · rw [if_pos z, decide_eq_false (show ¬ p ≤ a by omega)]
        decide
      · rw [if_neg z, decide_eq_true (show p ≤ a by omega)]
        exact decide_eq_true (nI_pos (by omega)))] at lo
    have lo : Ev pmT 197 [.ref 70, .int (nI M)] (shT, fi, fl, fr) (some (.int (nI (oo p)))) (shT, fi, fl, fr) := lo
    have c80 : fi 80 (oo p) = nI (oo p / 2) := (h80 p (by omega)).trans (if_neg (Nat.lt_irrefl p))
    have tk := tk_ev (p := p) (q := oo p) (i := i) (fi := fi) (fl := fl) (fr := fr) (by omega) (by omega) hi k26 k27 k28 k29 k30 k32 k33 k34 (hq (oo p) (by omega)).1 (hq (oo p) (by omega)).2 c80
    rw [hbt p (by omega)] at tk
    have I1 := HI_wi (p := 77) (s := p) (x := Av (oo p)) hI (fun z => absurd (show (9 : Nat) = 0 from z) (by decide))
    have I1 := HI_wi (p := 82) (s := 8 * i + p) (x := Av (oo p)) I1 (fun z => absurd (show (9 : Nat) = 0 from z) (by decide))
    have I1 := HI_wi (p := 83) (s := 8 * i + p) (x := b01 (decide (oo p % 2 = 1))) I1 (fun z => absurd (show (9 : Nat) = 0 from z) (by decide))
    have I1 := HI_wi (p := 84) (s := 8 * i + p) (x := nI (oo p / 2)) I1 (fun z => absurd (show (9 : Nat) = 0 from z) (by decide))
    have I1 := HI_wi (p := 80) (s := oo p) (x := -1) I1 (fun z => absurd (show (9 : Nat) = 0 from z) (by decide))
    have I1 : HI hdT shT (shT, pm_u2 (pm_u2 (pm_u2 (pm_u2 (pm_u2 fi 77 p (Av (oo p))) 82 (8 * i + p) (Av (oo p))) 83 (8 * i + p) (b01 (decide (oo p % 2 = 1)))) 84 (8 * i + p) (nI (oo p / 2))) 80 (oo p) (-1), pm_u2 fl 76 p (Wv (oo p)), fr) := I1
    have wO : ∀ a s, ¬ (a = 77 ∧ s = p) → ¬ (a = 82 ∧ s = 8 * i + p) → ¬ (a = 83 ∧ s = 8 * i + p) → ¬ (a = 84 ∧ s = 8 * i + p) → ¬ (a = 80 ∧ s = oo p) → (pm_u2 (pm_u2 (pm_u2 (pm_u2 (pm_u2 fi 77 p (Av (oo p))) 82 (8 * i + p) (Av (oo p))) 83 (8 * i + p) (b01 (decide (oo p % 2 = 1)))) 84 (8 * i + p) (nI (oo p / 2))) 80 (oo p) (-1)) a s = fi a s := fun a s z1 z2 z3 z4 z5 => (wl_ne z5).trans ((wl_ne z4).trans ((wl_ne z3).trans ((wl_ne z2).trans (wl_ne z1))))
    have x77 : (pm_u2 (pm_u2 (pm_u2 (pm_u2 (pm_u2 fi 77 p (Av (oo p))) 82 (8 * i + p) (Av (oo p))) 83 (8 * i + p) (b01 (decide (oo p % 2 = 1)))) 84 (8 * i + p) (nI (oo p / 2))) 80 (oo p) (-1)) 77 p = Av (oo p) := (wl_ne (by omega)).trans ((wl_ne (by omega)).trans ((wl_ne (by omega)).trans ((wl_ne (by omega)).trans u2_eq)))
    have x82 : (pm_u2 (pm_u2 (pm_u2 (pm_u2 (pm_u2 fi 77 p (Av (oo p))) 82 (8 * i + p) (Av (oo p))) 83 (8 * i + p) (b01 (decide (oo p % 2 = 1)))) 84 (8 * i + p) (nI (oo p / 2))) 80 (oo p) (-1)) 82 (8 * i + p) = Av (oo p) := (wl_ne (by omega)).trans ((wl_ne (by omega)).trans ((wl_ne (by omega)).trans u2_eq))
    have x83 : (pm_u2 (pm_u2 (pm_u2 (pm_u2 (pm_u2 fi 77 p (Av (oo p))) 82 (8 * i + p) (Av (oo p))) 83 (8 * i + p) (b01 (decide (oo p % 2 = 1)))) 84 (8 * i + p) (nI (oo p / 2))) 80 (oo p) (-1)) 83 (8 * i + p) = b01 (decide (oo p % 2 = 1)) := (wl_ne (by omega)).trans ((wl_ne (by omega)).trans u2_eq)
    have x84 : (pm_u2 (pm_u2 (pm_u2 (pm_u2 (pm_u2 fi 77 p (Av (oo p))) 82 (8 * i + p) (Av (oo p))) 83 (8 * i + p) (b01 (decide (oo p % 2 = 1)))) 84 (8 * i + p) (nI (oo p / 2))) 80 (oo p) (-1)) 84 (8 * i + p) = nI (oo p / 2) := (wl_ne (by omega)).trans u2_eq
    have x80 : (pm_u2 (pm_u2 (pm_u2 (pm_u2 (pm_u2 fi 77 p (Av (oo p))) 82 (8 * i + p) (Av (oo p))) 83 (8 * i + p) (b01 (decide (oo p % 2 = 1)))) 84 (8 * i + p) (nI (oo p / 2))) 80 (oo p) (-1)) 80 (oo p) = -1 := u2_eq
    generalize hFX : pm_u2 (pm_u2 (pm_u2 (pm_u2 (pm_u2 fi 77 p (Av (oo p))) 82 (8 * i + p) (Av (oo p))) 83 (8 * i + p) (b01 (decide (oo p % 2 = 1)))) 84 (8 * i + p) (nI (oo p / 2))) 80 (oo p) (-1) = f2 at *
    have lO : ∀ a s, ¬ (a = 76 ∧ s = p) → pm_u2 fl 76 p (Wv (oo p)) a s = fl a s := fun a s z => wl_ne z
    have l76 : pm_u2 fl 76 p (Wv (oo p)) 76 p = Wv (oo p) := u2_eq
    generalize hGX : pm_u2 fl 76 p (Wv (oo p)) = g2 at *
    have F1 : fram tkW (shT, fi, fl, fr) (shT, f2, g2, fr) := fun a s hw => by
      have z : ¬ a = 76 ∧ ¬ a = 77 ∧ ¬ a = 80 ∧ ¬ a = 82 ∧ ¬ a = 83 ∧ ¬ a = 84 := by
        refine ⟨?_, ?_, ?_, ?_, ?_, ?_⟩ <;> (intro z; subst z; simp [inW, tkW] at hw)
      exact ⟨wO a s (by omega) (by omega) (by omega) (by omega) (by omega), lO a s (by omega), rfl⟩
    obtain ⟨h3, I3, F3, b1, b2, b3, g⟩ := ih (p + 1) (shT, f2, g2, fr) (by omega) I1 (fun q hq2 => ⟨(lO _ _ (by omega)).trans (hq q hq2).1, (wO _ _ (by omega) (by omega) (by omega) (by omega) (by omega)).trans (hq q hq2).2⟩) (fun a ha => by
      by_cases z : a = p
      · subst z
        rw [if_pos (by omega)]
        exact x80
      · have ne : ¬ oo a = oo p := fun y => by
            rcases Nat.lt_or_gt_of_ne z with l | l
            · have := hs.2.1 a p l (by omega)
              rw [y] at this
              unfold lexI at this
              omega
            · have := hs.2.1 p a l ha
              rw [y] at this
              unfold lexI at this
              omega
        have := h80 a ha
        have e : f2 80 (oo a) = fi 80 (oo a) := wO _ _ (by omega) (by omega) (by omega) (by omega) (by omega)
        refine e.trans (this.trans ?_)
        by_cases z2 : a < p
        · rw [if_pos z2, if_pos (by omega)]
        · rw [if_neg z2, if_neg (by omega)])
    refine ⟨h3, I3, fram.tr F1 F3, fun q s z1 z2 => (b1 q s z1 z2).trans (wO q s (by omega) (by omega) (by omega) (by omega) (by omega)), fun t z1 z2 => ?_, fun t ht => ?_, fun r k => ?_⟩
    · by_cases e : t = p
      · subst e
        have := b3 t (by omega)
        exact ⟨this.1.trans l76, this.2.1.trans x77, this.2.2.1.trans x82, this.2.2.2.1.trans x83, this.2.2.2.2.trans x84⟩
      · exact b2 t (by omega) z2
    · have := b3 t (by omega)
      exact ⟨this.1.trans (lO _ _ (by omega)), this.2.1.trans (wO _ _ (by omega) (by omega) (by omega) (by omega) (by omega)), this.2.2.1.trans (wO _ _ (by omega) (by omega) (by omega) (by omega) (by omega)), this.2.2.2.1.trans (wO _ _ (by omega) (by omega) (by omega) (by omega) (by omega)), this.2.2.2.2.trans (wO _ _ (by omega) (by omega) (by omega) (by omega) (by omega))⟩
    have g7 := g r k
    clear g
    clear ih b1 b2 b3 F1 F3 wO x77 x82 x83 x84 x80 lO l76 hq h80 c80 I1 I3
    refine go_of ?_
    refine gp_n 2 (j' := 41) (lv' := [some (.ref 70), some (.int v1), some (.int (nI i)), some (.int (nI M)), some (.int 1), some (.int (nI Q)), some (.int (nI p))]) (st' := [.int (nI Q), .int (nI p)]) (h' := (shT, fi, fl, fr)) rfl ?_
    refine gp_of (fun _ k9 => g_icf rfl (show ¬ ((nI Q) ≤ (nI p)) from nI_ge (by omega) (by omega)) k9) ?_
    refine gp_n 3 (j' := 45) (lv' := [some (.ref 70), some (.int v1), some (.int (nI i)), some (.int (nI M)), some (.int 1), some (.int (nI Q)), some (.int (nI p))]) (st' := [.int 1, .int (nI p), .ref 70]) (h' := (shT, fi, fl, fr)) rfl ?_
    refine gp_of (fun _ k9 => g_iff rfl (show ¬ ((1 : Int32) = (0 : Int32)) from by decide) k9) ?_
    refine gp_n 2 (j' := 48) (lv' := [some (.ref 70), some (.int v1), some (.int (nI i)), some (.int (nI M)), some (.int 1), some (.int (nI Q)), some (.int (nI p))]) (st' := [.int (nI M), .ref 70, .int (nI p), .ref 70]) (h' := (shT, fi, fl, fr)) rfl ?_
    refine gp_of (fun _ k9 => g_call (y := 197) (as := [.ref 70, .int (nI M)]) (st' := [.int (nI p), .ref 70]) rfl rfl (lo) k9) ?_
    refine gp_n 2 (j' := 52) (lv' := [some (.ref 70), some (.int v1), some (.int (nI i)), some (.int (nI M)), some (.int 1), some (.int (nI Q)), some (.int (nI p))]) (st' := [.int (nI i), .int (nI (oo p)), .int (nI p), .ref 70]) (h' := (shT, fi, fl, fr)) rfl ?_
    refine gp_of (fun _ k9 => g_callv (y := 198) (as := [.ref 70, .int (nI p), .int (nI (oo p)), .int (nI i)]) (st' := []) rfl rfl (tk) k9) ?_
    refine gp_n 2 (j' := 39) (lv' := [some (.ref 70), some (.int v1), some (.int (nI i)), some (.int (nI M)), some (.int 1), some (.int (nI Q)), some (.int ((nI p) + 1))]) (st' := []) (h' := (shT, f2, g2, fr)) rfl ?_
    rw [nI_1]
    exact gp_done g7 rfl
theorem tl_go_0 {i M Q : Nat} {v1 : Int32} {Wv : Nat → Int64} {Av : Nat → Int32} (hM : M ≤ 16) (hQ : Q ≤ 8) (hQM : Q ≤ M) (hi : i < 64) (hbt : ∀ t, t < M → bl (Wv (t)) i = false) : ∀ (n p : Nat) (h : PmH), p + n = Q → HI hdT shT h → (∀ q, q < M → ph_l h 78 q = Wv q ∧ ph_i h 79 q = Av q) → (∀ a, a < M → ph_i h 80 (a) = if a < p then -1 else nI a) → ∃ h', HI hdT shT h' ∧ fram tkW h h' ∧ mtF i h h' ∧ (∀ t, p ≤ t → t < Q → ph_l h' 76 t = Wv (t) ∧ ph_i h' 77 t = Av (t) ∧ ph_i h' 82 (8 * i + t) = Av (t) ∧ ph_i h' 83 (8 * i + t) = b01 (false) ∧ ph_i h' 84 (8 * i + t) = nI t) ∧ (∀ t, t < p → ph_l h' 76 t = ph_l h 76 t ∧ ph_i h' 77 t = ph_i h 77 t ∧ ph_i h' 82 (8 * i + t) = ph_i h 82 (8 * i + t) ∧ ph_i h' 83 (8 * i + t) = ph_i h 83 (8 * i + t) ∧ ph_i h' 84 (8 * i + t) = ph_i h 84 (8 * i + t)) ∧ ∀ r, Go pmT none cd_191 55 [some (.ref 70), some (.int v1), some (.int (nI i)), some (.int (nI M)), some (.int 0), some (.int (nI Q)), some (.int (nI Q))] [] h' r → Go pmT none cd_191 39 [some (.ref 70), some (.int v1), some (.int (nI i)), some (.int (nI M)), some (.int 0), some (.int (nI Q)), some (.int (nI p))] [] h r := by
  intro n
  induction n with
  | zero =>
    intro p h hp hI hq h80
    have hp : p = Q := by omega
    subst hp
    refine ⟨h, hI, fram.rf _ _, fun _ _ _ _ => rfl, fun t z1 z2 => absurd z2 (by omega), fun t ht => ⟨rfl, rfl, rfl, rfl, rfl⟩, fun r k => ?_⟩
    refine go_of ?_
    refine gp_n 2 (j' := 41) (lv' := [some (.ref 70), some (.int v1), some (.int (nI i)), some (.int (nI M)), some (.int 0), some (.int (nI p)), some (.int (nI p))]) (st' := [.int (nI p), .int (nI p)]) (h' := h) rfl ?_
    refine gp_of (fun _ k9 => g_ict rfl (show (nI p) ≤ (nI p) from Int32.le_refl _) k9) ?_
    exact gp_done k rfl
  | succ n ih =>
    intro p h hp hI hq h80
    have k26 : ph_r h 70 26 = some 76 := hi_r hI rfl rfl (by decide)
    have k27 : ph_r h 70 27 = some 77 := hi_r hI rfl rfl (by decide)
    have k28 : ph_r h 70 28 = some 78 := hi_r hI rfl rfl (by decide)
    have k29 : ph_r h 70 29 = some 79 := hi_r hI rfl rfl (by decide)
    have k30 : ph_r h 70 30 = some 80 := hi_r hI rfl rfl (by decide)
    have k32 : ph_r h 70 32 = some 82 := hi_r hI rfl rfl (by decide)
    have k33 : ph_r h 70 33 = some 83 := hi_r hI rfl rfl (by decide)
    have k34 : ph_r h 70 34 = some 84 := hi_r hI rfl rfl (by decide)
    obtain ⟨S, fi, fl, fr⟩ := h
    have hS : S = shT := hI.1
    subst hS
    have c80 : fi 80 (p) = nI p := (h80 p (by omega)).trans (if_neg (Nat.lt_irrefl p))
    have tk := tk_ev (p := p) (q := p) (i := i) (fi := fi) (fl := fl) (fr := fr) (by omega) (by omega) hi k26 k27 k28 k29 k30 k32 k33 k34 (hq (p) (by omega)).1 (hq (p) (by omega)).2 c80
    rw [hbt p (by omega)] at tk
    have I1 := HI_wi (p := 77) (s := p) (x := Av (p)) hI (fun z => absurd (show (9 : Nat) = 0 from z) (by decide))
    have I1 := HI_wi (p := 82) (s := 8 * i + p) (x := Av (p)) I1 (fun z => absurd (show (9 : Nat) = 0 from z) (by decide))
    have I1 := HI_wi (p := 83) (s := 8 * i + p) (x := b01 (false)) I1 (fun z => absurd (show (9 : Nat) = 0 from z) (by decide))
    have I1 := HI_wi (p := 84) (s := 8 * i + p) (x := nI p) I1 (fun z => absurd (show (9 : Nat) = 0 from z) (by decide))
    have I1 := HI_wi (p := 80) (s := p) (x := -1) I1 (fun z => absurd (show (9 : Nat) = 0 from z) (by decide))
    have I1 : HI hdT shT (shT, pm_u2 (pm_u2 (pm_u2 (pm_u2 (pm_u2 fi 77 p (Av (p))) 82 (8 * i + p) (Av (p))) 83 (8 * i + p) (b01 (false))) 84 (8 * i + p) (nI p)) 80 (p) (-1), pm_u2 fl 76 p (Wv (p)), fr) := I1
    have wO : ∀ a s, ¬ (a = 77 ∧ s = p) → ¬ (a = 82 ∧ s = 8 * i + p) → ¬ (a = 83 ∧ s = 8 * i + p) → ¬ (a = 84 ∧ s = 8 * i + p) → ¬ (a = 80 ∧ s = p) → (pm_u2 (pm_u2 (pm_u2 (pm_u2 (pm_u2 fi 77 p (Av (p))) 82 (8 * i + p) (Av (p))) 83 (8 * i + p) (b01 (false))) 84 (8 * i + p) (nI p)) 80 (p) (-1)) a s = fi a s := fun a s z1 z2 z3 z4 z5 => (wl_ne z5).trans ((wl_ne z4).trans ((wl_ne z3).trans ((wl_ne z2).trans (wl_ne z1))))
    have x77 : (pm_u2 (pm_u2 (pm_u2 (pm_u2 (pm_u2 fi 77 p (Av (p))) 82 (8 * i + p) (Av (p))) 83 (8 * i + p) (b01 (false))) 84 (8 * i + p) (nI p)) 80 (p) (-1)) 77 p = Av (p) := (wl_ne (by omega)).trans ((wl_ne (by omega)).trans ((wl_ne (by omega)).trans ((wl_ne (by omega)).trans u2_eq)))
    have x82 : (pm_u2 (pm_u2 (pm_u2 (pm_u2 (pm_u2 fi 77 p (Av (p))) 82 (8 * i + p) (Av (p))) 83 (8 * i + p) (b01 (false))) 84 (8 * i + p) (nI p)) 80 (p) (-1)) 82 (8 * i + p) = Av (p) := (wl_ne (by omega)).trans ((wl_ne (by omega)).trans ((wl_ne (by omega)).trans u2_eq))
    have x83 : (pm_u2 (pm_u2 (pm_u2 (pm_u2 (pm_u2 fi 77 p (Av (p))) 82 (8 * i + p) (Av (p))) 83 (8 * i + p) (b01 (false))) 84 (8 * i + p) (nI p)) 80 (p) (-1)) 83 (8 * i + p) = b01 (false) := (wl_ne (by omega)).trans ((wl_ne (by omega)).trans u2_eq)
    have x84 : (pm_u2 (pm_u2 (pm_u2 (pm_u2 (pm_u2 fi 77 p (Av (p))) 82 (8 * i + p) (Av (p))) 83 (8 * i + p) (b01 (false))) 84 (8 * i + p) (nI p)) 80 (p) (-1)) 84 (8 * i + p) = nI p := (wl_ne (by omega)).trans u2_eq
    have x80 : (pm_u2 (pm_u2 (pm_u2 (pm_u2 (pm_u2 fi 77 p (Av (p))) 82 (8 * i + p) (Av (p))) 83 (8 * i + p) (b01 (false))) 84 (8 * i + p) (nI p)) 80 (p) (-1)) 80 (p) = -1 := u2_eq
    generalize hFX : pm_u2 (pm_u2 (pm_u2 (pm_u2 (pm_u2 fi 77 p (Av (p))) 82 (8 * i + p) (Av (p))) 83 (8 * i + p) (b01 (false))) 84 (8 * i + p) (nI p)) 80 (p) (-1) = f2 at *
    have lO : ∀ a s, ¬ (a = 76 ∧ s = p) → pm_u2 fl 76 p (Wv (p)) a s = fl a s := fun a s z => wl_ne z
    have l76 : pm_u2 fl 76 p (Wv (p)) 76 p = Wv (p) := u2_eq
    generalize hGX : pm_u2 fl 76 p (Wv (p)) = g2 at *
    have F1 : fram tkW (shT, fi, fl, fr) (shT, f2, g2, fr) := fun a s hw => by
      have z : ¬ a = 76 ∧ ¬ a = 77 ∧ ¬ a = 80 ∧ ¬ a = 82 ∧ ¬ a = 83 ∧ ¬ a = 84 := by
        refine ⟨?_, ?_, ?_, ?_, ?_, ?_⟩ <;> (intro z; subst z; simp [inW, tkW] at hw)
      exact ⟨wO a s (by omega) (by omega) (by omega) (by omega) (by omega), lO a s (by omega), rfl⟩
    obtain ⟨h3, I3, F3, b1, b2, b3, g⟩ := ih (p + 1) (shT, f2, g2, fr) (by omega) I1 (fun q hq2 => ⟨(lO _ _ (by omega)).trans (hq q hq2).1, (wO _ _ (by omega) (by omega) (by omega) (by omega) (by omega)).trans (hq q hq2).2⟩) (fun a ha => by
      by_cases z : a = p
      · subst z
        rw [if_pos (by omega)]
        exact x80
      · have ne : ¬ a = p := z
        have := h80 a ha
        have e : f2 80 (a) = fi 80 (a) := wO _ _ (by omega) (by omega) (by omega) (by omega) (by omega)
        refine e.trans (this.trans ?_)
        by_cases z2 : a < p
        · rw [if_pos z2, if_pos (by omega)]
        · rw [if_neg z2, if_neg (by omega)])
    refine ⟨h3, I3, fram.tr F1 F3, fun q s z1 z2 => (b1 q s z1 z2).trans (wO q s (by omega) (by omega) (by omega) (by omega) (by omega)), fun t z1 z2 => ?_, fun t ht => ?_, fun r k => ?_⟩
    · by_cases e : t = p
      · subst e
        have := b3 t (by omega)
        exact ⟨this.1.trans l76, this.2.1.trans x77, this.2.2.1.trans x82, this.2.2.2.1.trans x83, this.2.2.2.2.trans x84⟩
      · exact b2 t (by omega) z2
    · have := b3 t (by omega)
      exact ⟨this.1.trans (lO _ _ (by omega)), this.2.1.trans (wO _ _ (by omega) (by omega) (by omega) (by omega) (by omega)), this.2.2.1.trans (wO _ _ (by omega) (by omega) (by omega) (by omega) (by omega)), this.2.2.2.1.trans (wO _ _ (by omega) (by omega) (by omega) (by omega) (by omega)), this.2.2.2.2.trans (wO _ _ (by omega) (by omega) (by omega) (by omega) (by omega))⟩
    have g7 := g r k
    clear g
    clear ih b1 b2 b3 F1 F3 wO x77 x82 x83 x84 x80 lO l76 hq h80 c80 I1 I3
    refine go_of ?_
    refine gp_n 2 (j' := 41) (lv' := [some (.ref 70), some (.int v1), some (.int (nI i)), some (.int (nI M)), some (.int 0), some (.int (nI Q)), some (.int (nI p))]) (st' := [.int (nI Q), .int (nI p)]) (h' := (shT, fi, fl, fr)) rfl ?_
    refine gp_of (fun _ k9 => g_icf rfl (show ¬ ((nI Q) ≤ (nI p)) from nI_ge (by omega) (by omega)) k9) ?_
    refine gp_n 3 (j' := 45) (lv' := [some (.ref 70), some (.int v1), some (.int (nI i)), some (.int (nI M)), some (.int 0), some (.int (nI Q)), some (.int (nI p))]) (st' := [.int 0, .int (nI p), .ref 70]) (h' := (shT, fi, fl, fr)) rfl ?_
    refine gp_of (fun _ k9 => g_ift rfl (show (0 : Int32) = (0 : Int32) from by decide) k9) ?_
    refine gp_n 2 (j' := 52) (lv' := [some (.ref 70), some (.int v1), some (.int (nI i)), some (.int (nI M)), some (.int 0), some (.int (nI Q)), some (.int (nI p))]) (st' := [.int (nI i), .int (nI p), .int (nI p), .ref 70]) (h' := (shT, fi, fl, fr)) rfl ?_
    refine gp_of (fun _ k9 => g_callv (y := 198) (as := [.ref 70, .int (nI p), .int (nI p), .int (nI i)]) (st' := []) rfl rfl (tk) k9) ?_
    refine gp_n 2 (j' := 39) (lv' := [some (.ref 70), some (.int v1), some (.int (nI i)), some (.int (nI M)), some (.int 0), some (.int (nI Q)), some (.int ((nI p) + 1))]) (st' := []) (h' := (shT, f2, g2, fr)) rfl ?_
    rw [nI_1]
    exact gp_done g7 rfl
theorem hd81 (s : Nat) : hd_at hdT shT 81 s = (0, 0, 8, []) := by
  show ([(0, 0, 8, [])] : List (Nat × Int × Int × List Nat)).getD (s % 1) (9, 0, 0, []) = _
  rw [Nat.mod_one]
  rfl
def mchI (K : Int64) (m : Nat) (S : Nat → Int32) (most c : Nat) (h : PmH) : Prop := mtI c (rdN K m S most (c + 1)).1 (rdN K m S most (c + 1)).2.2 (stpR (bl K c) m S (rdN K m S most c) c) h ∧ ph_i h 81 c = nI (rdN K m S most (c + 1)).1 ∧ ph_i h 85 c = rsm m S (rdN K m S most c) c 0
def mrI (K : Int64) (m : Nat) (S : Nat → Int32) (most c : Nat) (h : PmH) : Prop := mdI (rdN K m S most c) h ∧ mcI K m S h ∧ ∀ i, i < c → mchI K m S most i h
/-- the end of a channel -/
theorem mr_end {K : Int64} {m most c Q : Nat} {S : Nat → Int32} {h h1 h2 h3 : PmH} (hm : m ≤ 6) (hc : c < 2 ^ m) (hmo1 : 1 ≤ most) (hmo : most ≤ 8) (hr : mrI K m S most c h) (F1 : fram brW h h1) (F2 : fram tkW h1 h2) (M2 : mtF c h1 h2) (hQ : Q = (rdN K m S most (c + 1)).1) (e3 : h3 = (ph_s h2, pm_u2 (pm_u2 (ph_i h2) 70 25 (nI Q)) 81 c (nI Q), ph_l h2, ph_r h2)) (b85 : ph_i h1 85 c = rsm m S (rdN K m S most c) c 0) (o85 : ∀ s, ¬ s = c → ph_i h1 85 s = ph_i h 85 s) (ht : ∀ t, t < Q → ph_l h2 76 t = (rdN K m S most (c + 1)).2.1 t ∧ ph_i h2 77 t = (rdN K m S most (c + 1)).2.2 t ∧ ph_i h2 82 (8 * c + t) = (rdN K m S most (c + 1)).2.2 t ∧ ph_i h2 83 (8 * c + t) = b01 (decide (stpR (bl K c) m S (rdN K m S most c) c t % 2 = 1)) ∧ ph_i h2 84 (8 * c + t) = nI (stpR (bl K c) m S (rdN K m S most c) c t / 2)) : mrI K m S most (c + 1) h3 ∧ fram rd_W h h3 := by
  subst hQ e3
  obtain ⟨r1, r2, r3⟩ := hr
  generalize hQ : nI (rdN K m S most (c + 1)).1 = q at *
  have w : ∀ p s, ¬ (p = 70 ∧ s = 25) → ¬ (p = 81 ∧ s = c) → ph_i (ph_s h2, pm_u2 (pm_u2 (ph_i h2) 70 25 q) 81 c q, ph_l h2, ph_r h2) p s = ph_i h2 p s := fun p s z1 z2 => (wl_ne z2).trans (wl_ne z1)
  have w25 : ph_i (ph_s h2, pm_u2 (pm_u2 (ph_i h2) 70 25 q) 81 c q, ph_l h2, ph_r h2) 70 25 = q := show pm_u2 (pm_u2 (ph_i h2) 70 25 q) 81 c q 70 25 = q from (wl_ne (by omega)).trans u2_eq
  have w81 : ph_i (ph_s h2, pm_u2 (pm_u2 (ph_i h2) 70 25 q) 81 c q, ph_l h2, ph_r h2) 81 c = q := u2_i
  have wl : ∀ p s, ph_l (ph_s h2, pm_u2 (pm_u2 (ph_i h2) 70 25 q) 81 c q, ph_l h2, ph_r h2) p s = ph_l h2 p s := fun _ _ => rfl
  have wr : ∀ p s, ph_r (ph_s h2, pm_u2 (pm_u2 (ph_i h2) 70 25 q) 81 c q, ph_l h2, ph_r h2) p s = ph_r h2 p s := fun _ _ => rfl
  generalize (ph_s h2, pm_u2 (pm_u2 (ph_i h2) 70 25 q) 81 c q, ph_l h2, ph_r h2) = h3 at *
  have nb : ∀ p s, ¬ p = 75 → ¬ p = 78 → ¬ p = 79 → ¬ p = 80 → ¬ p = 85 → inW brW p s = false := fun p s z1 z2 z3 z4 z5 => inW_all (f := fun q => decide (q.1 = 75) || (decide (q.1 = 78) || (decide (q.1 = 79) || (decide (q.1 = 80) || decide (q.1 = 85))))) (by decide) (fun c hc => by
    simp only [Bool.or_eq_false_iff, decide_eq_false_iff_not]
    omega)
  have nt : ∀ p s, ¬ p = 76 → ¬ p = 77 → ¬ p = 80 → ¬ p = 82 → ¬ p = 83 → ¬ p = 84 → inW tkW p s = false := fun p s z1 z2 z3 z4 z5 z6 => inW_all (f := fun q => decide (q.1 = 76) || (decide (q.1 = 77) || (decide (q.1 = 80) || (decide (q.1 = 82) || (decide (q.1 = 83) || decide (q.1 = 84)))))) (by decide) (fun c hc => by
    simp only [Bool.or_eq_false_iff, decide_eq_false_iff_not]
    omega)
  refine ⟨⟨⟨w25.trans hQ.symm, fun p hp => ⟨(wl _ _).trans (ht p hp).1, (w _ _ (by omega) (by omega)).trans (ht p hp).2.1⟩⟩, ⟨?_, ?_, fun s hs => ?_⟩, fun i hi => ?_⟩, fun p s hw => ?_⟩
  · exact (w _ _ (by omega) (by omega)).trans (((F2 70 14 (by decide)).1).trans (((F1 70 14 (by decide)).1).trans r2.1))
  · exact (wl _ _).trans (((F2 70 21 (by decide)).2.1).trans (((F1 70 21 (by decide)).2.1).trans r2.2.1))
  · exact (w _ _ (by omega) (by omega)).trans (((F2 74 s rfl).1).trans (((F1 74 s rfl).1).trans (r2.2.2 s hs)))
  · by_cases e : i = c
    · subst e
      refine ⟨fun t h1 => ?_, w81.trans hQ.symm, ?_⟩
      · have := ht t h1
        exact ⟨(w _ _ (by omega) (by omega)).trans this.2.2.1, (w _ _ (by omega) (by omega)).trans this.2.2.2.1, (w _ _ (by omega) (by omega)).trans this.2.2.2.2⟩
      · exact (w _ _ (by omega) (by omega)).trans (((F2 85 i rfl).1).trans b85)
    · have ch := r3 i (by omega)
      have pP := rd_P (K := K) (m := m) (S := S) hmo1 (i + 1)
      refine ⟨fun t h1 => ?_, ?_, ?_⟩
      · have := ch.1 t h1
        exact ⟨(w _ _ (by omega) (by omega)).trans ((M2 82 _ (by omega) (by omega)).trans (((F1 82 _ (nb _ _ (by decide) (by decide) (by decide) (by decide) (by decide))).1).trans this.1)), (w _ _ (by omega) (by omega)).trans ((M2 83 _ (by omega) (by omega)).trans (((F1 83 _ (nb _ _ (by decide) (by decide) (by decide) (by decide) (by decide))).1).trans this.2.1)), (w _ _ (by omega) (by omega)).trans ((M2 84 _ (by omega) (by omega)).trans (((F1 84 _ (nb _ _ (by decide) (by decide) (by decide) (by decide) (by decide))).1).trans this.2.2))⟩
      · exact (w _ _ (by omega) (by omega)).trans (((F2 81 i rfl).1).trans (((F1 81 i rfl).1).trans ch.2.1))
      · exact (w _ _ (by omega) (by omega)).trans (((F2 85 i rfl).1).trans ((o85 i e).trans ch.2.2))
  · have a1 : inW brW p s = false := subW_in (W' := rd_W) (by decide) hw
    have a2 : inW tkW p s = false := subW_in (W' := rd_W) (by decide) hw
    have a3 : ¬ (p = 70 ∧ s = 25) := fun z => by rw [z.1, z.2] at hw; exact absurd hw (by decide)
    have a4 : ¬ (p = 81 ∧ s = c) := fun z => by
      rw [z.1] at hw
      simp [inW, rd_W] at hw
    exact ⟨(w p s a3 a4).trans ((F2 p s a2).1.trans (F1 p s a1).1), (wl _ _).trans ((F2 p s a2).2.1.trans (F1 p s a1).2.1), (wr _ _).trans ((F2 p s a2).2.2.trans (F1 p s a1).2.2)⟩
theorem mr_st {K : Int64} {m most c : Nat} {S : Nat → Int32} {h : PmH} (hm : m ≤ 6) (hc : c < 2 ^ m) (hmo1 : 1 ≤ most) (hmo : most ≤ 8) (hI : HI hdT shT h) (hr : mrI K m S most c h) : ∃ h', HI hdT shT h' ∧ mrI K m S most (c + 1) h' ∧ fram rd_W h h' ∧ ∀ r, (∀ l3 l4 l5 l6, Go pmT none cd_191 15 [some (.ref 70), some (.int (nI most)), some (.int (nI (c + 1))), l3, l4, l5, l6] [] h' r) → ∀ l3 l4 l5 l6, Go pmT none cd_191 15 [some (.ref 70), some (.int (nI most)), some (.int (nI c)), l3, l4, l5, l6] [] h r := by
  have p6 := pw_6 m (by omega)
  have pP := rd_P (K := K) (m := m) (S := S) hmo1 c
  have cN := hr.2.1.1
  have cK := hr.2.1.2.1
  have rB := rd_B (K := K) (m := m) (S := S) (most := most) c (by omega)
  have e1 : rdN K m S most (c + 1) = rdS (bl K c) m S most c (rdN K m S most c) := rfl
  generalize hX : rdN K m S most c = x at *
  have hs := fun h => has_ev (v := K) (i := nI c) (h := h)
  rw [hasf_bit (by omega)] at hs
  cases hk : bl K c
  · obtain ⟨h1, v1, I1, F1, b1, b2, b3⟩ := br_ev_0 hm hc (x := x) (by omega) hk hI (by rw [← hX]; exact hr.1) hr.2.1
    rw [hk] at hs e1
    have hs : ∀ h, Ev pmT 161 [.long K, .int (nI c)] h (some (.int 0)) h := hs
    obtain ⟨h2, I2, F2, M2, t1, -, g⟩ := tl_go_0 (i := c) (M := x.1) (Q := x.1) (v1 := nI most) (Wv := x.2.1) (Av := fun q => x.2.2 q + coS (rsm m S x c q) false) (by omega) (by omega) (by omega) (by omega) (fun t ht => by
      cases hb : bl (x.2.1 t) c
      · rfl
      · exact absurd (rB _ c (by omega) hb).1 (Nat.lt_irrefl c)) x.1 0 h1 (by omega) I1 (fun q hq => by
      have := b1 q hq
      rw [if_neg (by decide)] at this
      exact ⟨this.1, this.2.1⟩) (fun a ha => by
      have := b1 a ha
      rw [if_neg (by decide)] at this
      rw [if_neg (by omega)]
      exact this.2.2)
    have eQ : (rdN K m S most (c + 1)).1 = x.1 := by rw [e1]; rfl
    have key := mr_end (Q := x.1) (h3 := (ph_s h2, pm_u2 (pm_u2 (ph_i h2) 70 25 (nI (x.1))) 81 c (nI (x.1)), ph_l h2, ph_r h2)) hm hc hmo1 hmo hr F1 F2 M2 eQ.symm rfl (by rw [hX]; exact b2 (by omega)) b3 (fun t ht => by
      have := t1 t (Nat.zero_le t) ht
      rw [e1, hk, hX]
      refine ⟨this.1, this.2.1, this.2.2.1, ?_, ?_⟩
      · rw [show stpR false m S x c t = 2 * t from rfl, decide_eq_false (by omega)]
        exact this.2.2.2.1
      · rw [show stpR false m S x c t / 2 = t by show 2 * t / 2 = t; omega]
        exact this.2.2.2.2)
    have I3 := HI_wi (p := 70) (s := 25) (x := nI (x.1)) I2 (fun _ => by rw [nI_toInt (by omega)]; exact ⟨show (0 : Int) ≤ ((x.1 : Nat) : Int) by omega, show ((x.1 : Nat) : Int) ≤ 8 by omega⟩)
    have I3 := HI_wi (p := 81) (s := c) (x := nI (x.1)) I3 (fun _ => by rw [hd81, nI_toInt (by omega)]; exact ⟨show (0 : Int) ≤ ((x.1 : Nat) : Int) by omega, show ((x.1 : Nat) : Int) ≤ 8 by omega⟩)
    refine ⟨_, I3, key.1, key.2, fun r kk l3 l4 l5 l6 => ?_⟩
    have k31 : ph_r h2 70 31 = some 81 := hi_r I2 rfl rfl (by decide)
    have cK1 : ph_l h1 70 21 = K := ((F1 70 21 (by decide)).2.1).trans cK
    have g := g r
    have bQ : x.1 ≤ 8 := by omega
    have b2P : x.1 ≤ 16 := by omega
    
    clear key t1 M2 F2 F1 b1 b2 b3 rB hr I3 eQ e1 hX
    obtain ⟨S2, f2, g2, r2⟩ := h2
    have s2 : S2 = shT := I2.1
    subst s2
    have k31 : r2 70 31 = some 81 := k31
    obtain ⟨S1, f1, g1, r1⟩ := h1
    have s1 : S1 = shT := I1.1
    subst s1
    have cK1 : g1 70 21 = K := cK1
    obtain ⟨S, fi, fl, fr⟩ := h
    have hS : S = shT := hI.1
    subst hS
    have cN : fi 70 14 = nI (2 ^ m) := cN
    have ltN : ¬ nI (2 ^ m) ≤ nI c := nI_ge hc (by omega)
    generalize nI (2 ^ m) = N at *
    have g := g (by
      refine go_of ?_
      refine gp_n 2 (j' := 57) (lv' := [some (.ref 70), some (.int (nI most)), some (.int (nI c)), some (.int (nI x.1)), some (.int 0), some (.int (nI x.1)), some (.int (nI x.1))]) (st' := [.int (nI x.1), .ref 70]) (h' := (shT, f2, g2, r2)) rfl ?_
      refine gp_of (fun _ k9 => g_putI rfl (Or.inl rfl) rfl (by decide) k9) ?_
      refine gp_n 1 (j' := 59) (lv' := [some (.ref 70), some (.int (nI most)), some (.int (nI c)), some (.int (nI x.1)), some (.int 0), some (.int (nI x.1)), some (.int (nI x.1))]) (st' := [.ref 70]) (h' := (shT, pm_u2 f2 70 25 (nI x.1), g2, r2)) rfl ?_
      refine gp_of (fun _ k9 => g_getR (q' := 81) rfl rfl (by decide) k31 k9) ?_
      refine gp_n 2 (j' := 62) (lv' := [some (.ref 70), some (.int (nI most)), some (.int (nI c)), some (.int (nI x.1)), some (.int 0), some (.int (nI x.1)), some (.int (nI x.1))]) (st' := [.int (nI x.1), .int (nI c), .ref 81]) (h' := (shT, pm_u2 f2 70 25 (nI x.1), g2, r2)) rfl ?_
      refine gp_of (fun _ k9 => g_iast (k := c) rfl rfl (rfl) (by omega) (by decide) k9) ?_
      refine gp_n 2 (j' := 15) (lv' := [some (.ref 70), some (.int (nI most)), some (.int ((nI c) + 1)), some (.int (nI x.1)), some (.int 0), some (.int (nI x.1)), some (.int (nI x.1))]) (st' := []) (h' := (shT, pm_u2 (pm_u2 f2 70 25 (nI x.1)) 81 c (nI x.1), g2, r2)) rfl ?_
      rw [nI_1]
      exact gp_done (kk _ _ _ _) rfl)
    refine go_of ?_
    refine gp_n 2 (j' := 17) (lv' := [some (.ref 70), some (.int (nI most)), some (.int (nI c)), l3, l4, l5, l6]) (st' := [.ref 70, .int (nI c)]) (h' := (shT, fi, fl, fr)) rfl ?_
    refine gp_of (fun _ k9 => g_getI (x := N) rfl (Or.inl rfl) rfl (by decide) (cN) k9) ?_
    refine gp_of (fun _ k9 => g_icf rfl (show ¬ (N ≤ (nI c)) from ltN) k9) ?_
    refine gp_n 2 (j' := 21) (lv' := [some (.ref 70), some (.int (nI most)), some (.int (nI c)), l3, l4, l5, l6]) (st' := [.int (nI c), .ref 70]) (h' := (shT, fi, fl, fr)) rfl ?_
    refine gp_of (fun _ k9 => g_call (y := 192) (as := [.ref 70, .int (nI c)]) (st' := []) rfl rfl (v1) k9) ?_
    refine gp_n 2 (j' := 24) (lv' := [some (.ref 70), some (.int (nI most)), some (.int (nI c)), some (.int (nI x.1)), l4, l5, l6]) (st' := [.ref 70]) (h' := (shT, f1, g1, r1)) rfl ?_
    refine gp_of (fun _ k9 => g_getL (x := K) rfl rfl (by decide) (cK1) k9) ?_
    refine gp_n 1 (j' := 26) (lv' := [some (.ref 70), some (.int (nI most)), some (.int (nI c)), some (.int (nI x.1)), l4, l5, l6]) (st' := [.int (nI c), .long K]) (h' := (shT, f1, g1, r1)) rfl ?_
    refine gp_of (fun _ k9 => g_call (y := 161) (as := [.long K, .int (nI c)]) (st' := []) rfl rfl (hs _) k9) ?_
    refine gp_n 2 (j' := 29) (lv' := [some (.ref 70), some (.int (nI most)), some (.int (nI c)), some (.int (nI x.1)), some (.int 0), l5, l6]) (st' := [.int 0]) (h' := (shT, f1, g1, r1)) rfl ?_
    refine gp_of (fun _ k9 => g_ift rfl (show (0 : Int32) = (0 : Int32) from by decide) k9) ?_
    refine gp_n 4 (j' := 39) (lv' := [some (.ref 70), some (.int (nI most)), some (.int (nI c)), some (.int (nI x.1)), some (.int 0), some (.int (nI x.1)), some (.int (nI 0))]) (st' := []) (h' := (shT, f1, g1, r1)) rfl ?_
    exact gp_done g rfl
  · obtain ⟨h1, v1, I1, F1, b1, b2, b3⟩ := br_ev_1 hm hc (x := x) (by omega) hk hI (by rw [← hX]; exact hr.1) hr.2.1
    rw [hk] at hs e1
    have hs : ∀ h, Ev pmT 161 [.long K, .int (nI c)] h (some (.int 1)) h := hs
    have sr := srt_F (fun q => (cnd m S x c q).toInt) (2 * x.1)
    obtain ⟨h2, I2, F2, M2, t1, -, g⟩ := tl_go_1 (i := c) (M := 2 * x.1) (Q := min (2 * x.1) most) (v1 := nI most) (Wv := fun q => bitI (x.2.1 (q / 2)) c (decide (q % 2 = 1))) (Av := cnd m S x c) (oo := ordR m S x c) (by omega) (by omega) (by omega) (by omega) sr (fun t ht => by
      show bl (bitI _ c _) c = _
      rw [bitI_bl (by omega) (by omega), decide_eq_true rfl, Bool.and_true]
      cases hb : bl (x.2.1 (ordR m S x c t / 2)) c
      · rfl
      · exact absurd (rB _ c (by omega) hb).1 (Nat.lt_irrefl c)) (min (2 * x.1) most) 0 h1 (by omega) I1 (fun q hq => by
      have := b1 q hq
      rw [if_pos rfl] at this
      exact ⟨this.1, this.2.1⟩) (fun a ha => by
      have := b1 (ordR m S x c a) (sr.1 a ha)
      rw [if_pos rfl] at this
      rw [if_neg (by omega)]
      exact this.2.2)
    have eQ : (rdN K m S most (c + 1)).1 = min (2 * x.1) most := by rw [e1]; rfl
    have key := mr_end (Q := min (2 * x.1) most) (h3 := (ph_s h2, pm_u2 (pm_u2 (ph_i h2) 70 25 (nI (min (2 * x.1) most))) 81 c (nI (min (2 * x.1) most)), ph_l h2, ph_r h2)) hm hc hmo1 hmo hr F1 F2 M2 eQ.symm rfl (by rw [hX]; exact b2 (by omega)) b3 (fun t ht => by
      have := t1 t (Nat.zero_le t) ht
      rw [e1, hk, hX]
      exact ⟨this.1, this.2.1, this.2.2.1, this.2.2.2.1, this.2.2.2.2⟩)
    have I3 := HI_wi (p := 70) (s := 25) (x := nI (min (2 * x.1) most)) I2 (fun _ => by rw [nI_toInt (by omega)]; exact ⟨show (0 : Int) ≤ ((min (2 * x.1) most : Nat) : Int) by omega, show ((min (2 * x.1) most : Nat) : Int) ≤ 8 by omega⟩)
    have I3 := HI_wi (p := 81) (s := c) (x := nI (min (2 * x.1) most)) I3 (fun _ => by rw [hd81, nI_toInt (by omega)]; exact ⟨show (0 : Int) ≤ ((min (2 * x.1) most : Nat) : Int) by omega, show ((min (2 * x.1) most : Nat) : Int) ≤ 8 by omega⟩)
    refine ⟨_, I3, key.1, key.2, fun r kk l3 l4 l5 l6 => ?_⟩
    have k31 : ph_r h2 70 31 = some 81 := hi_r I2 rfl rfl (by decide)
    have cK1 : ph_l h1 70 21 = K := ((F1 70 21 (by decide)).2.1).trans cK
    have g := g r
    have bQ : min (2 * x.1) most ≤ 8 := by omega
    have b2P : 2 * x.1 ≤ 16 := by omega
    have hmn : (2 * x.1 ≤ most ∧ min (2 * x.1) most = 2 * x.1) ∨ (most < 2 * x.1 ∧ min (2 * x.1) most = most) := by omega
    clear key t1 M2 F2 F1 b1 b2 b3 rB hr I3 eQ e1 hX
    obtain ⟨S2, f2, g2, r2⟩ := h2
    have s2 : S2 = shT := I2.1
    subst s2
    have k31 : r2 70 31 = some 81 := k31
    obtain ⟨S1, f1, g1, r1⟩ := h1
    have s1 : S1 = shT := I1.1
    subst s1
    have cK1 : g1 70 21 = K := cK1
    obtain ⟨S, fi, fl, fr⟩ := h
    have hS : S = shT := hI.1
    subst hS
    have cN : fi 70 14 = nI (2 ^ m) := cN
    have ltN : ¬ nI (2 ^ m) ≤ nI c := nI_ge hc (by omega)
    generalize nI (2 ^ m) = N at *
    generalize hqq : min (2 * x.1) most = Q at *
    have g := g (by
      refine go_of ?_
      refine gp_n 2 (j' := 57) (lv' := [some (.ref 70), some (.int (nI most)), some (.int (nI c)), some (.int (nI (2 * x.1))), some (.int 1), some (.int (nI Q)), some (.int (nI Q))]) (st' := [.int (nI Q), .ref 70]) (h' := (shT, f2, g2, r2)) rfl ?_
      refine gp_of (fun _ k9 => g_putI rfl (Or.inl rfl) rfl (by decide) k9) ?_
      refine gp_n 1 (j' := 59) (lv' := [some (.ref 70), some (.int (nI most)), some (.int (nI c)), some (.int (nI (2 * x.1))), some (.int 1), some (.int (nI Q)), some (.int (nI Q))]) (st' := [.ref 70]) (h' := (shT, pm_u2 f2 70 25 (nI Q), g2, r2)) rfl ?_
      refine gp_of (fun _ k9 => g_getR (q' := 81) rfl rfl (by decide) k31 k9) ?_
      refine gp_n 2 (j' := 62) (lv' := [some (.ref 70), some (.int (nI most)), some (.int (nI c)), some (.int (nI (2 * x.1))), some (.int 1), some (.int (nI Q)), some (.int (nI Q))]) (st' := [.int (nI Q), .int (nI c), .ref 81]) (h' := (shT, pm_u2 f2 70 25 (nI Q), g2, r2)) rfl ?_
      refine gp_of (fun _ k9 => g_iast (k := c) rfl rfl (rfl) (by omega) (by decide) k9) ?_
      refine gp_n 2 (j' := 15) (lv' := [some (.ref 70), some (.int (nI most)), some (.int ((nI c) + 1)), some (.int (nI (2 * x.1))), some (.int 1), some (.int (nI Q)), some (.int (nI Q))]) (st' := []) (h' := (shT, pm_u2 (pm_u2 f2 70 25 (nI Q)) 81 c (nI Q), g2, r2)) rfl ?_
      rw [nI_1]
      exact gp_done (kk _ _ _ _) rfl)
    refine go_of ?_
    rcases hmn with ⟨y1, y2⟩ | ⟨y1, y2⟩
    · rw [y2] at g
      refine gp_n 2 (j' := 17) (lv' := [some (.ref 70), some (.int (nI most)), some (.int (nI c)), l3, l4, l5, l6]) (st' := [.ref 70, .int (nI c)]) (h' := (shT, fi, fl, fr)) rfl ?_
      refine gp_of (fun _ k9 => g_getI (x := N) rfl (Or.inl rfl) rfl (by decide) (cN) k9) ?_
      refine gp_of (fun _ k9 => g_icf rfl (show ¬ (N ≤ (nI c)) from ltN) k9) ?_
      refine gp_n 2 (j' := 21) (lv' := [some (.ref 70), some (.int (nI most)), some (.int (nI c)), l3, l4, l5, l6]) (st' := [.int (nI c), .ref 70]) (h' := (shT, fi, fl, fr)) rfl ?_
      refine gp_of (fun _ k9 => g_call (y := 192) (as := [.ref 70, .int (nI c)]) (st' := []) rfl rfl (v1) k9) ?_
      refine gp_n 2 (j' := 24) (lv' := [some (.ref 70), some (.int (nI most)), some (.int (nI c)), some (.int (nI (2 * x.1))), l4, l5, l6]) (st' := [.ref 70]) (h' := (shT, f1, g1, r1)) rfl ?_
      refine gp_of (fun _ k9 => g_getL (x := K) rfl rfl (by decide) (cK1) k9) ?_
      refine gp_n 1 (j' := 26) (lv' := [some (.ref 70), some (.int (nI most)), some (.int (nI c)), some (.int (nI (2 * x.1))), l4, l5, l6]) (st' := [.int (nI c), .long K]) (h' := (shT, f1, g1, r1)) rfl ?_
      refine gp_of (fun _ k9 => g_call (y := 161) (as := [.long K, .int (nI c)]) (st' := []) rfl rfl (hs _) k9) ?_
      refine gp_n 2 (j' := 29) (lv' := [some (.ref 70), some (.int (nI most)), some (.int (nI c)), some (.int (nI (2 * x.1))), some (.int 1), l5, l6]) (st' := [.int 1]) (h' := (shT, f1, g1, r1)) rfl ?_
      refine gp_of (fun _ k9 => g_iff rfl (show ¬ ((1 : Int32) = (0 : Int32)) from by decide) k9) ?_
      refine gp_n 2 (j' := 32) (lv' := [some (.ref 70), some (.int (nI most)), some (.int (nI c)), some (.int (nI (2 * x.1))), some (.int 1), l5, l6]) (st' := [.int (nI most), .int (nI (2 * x.1))]) (h' := (shT, f1, g1, r1)) rfl ?_
      refine gp_of (fun _ k9 => g_ict rfl (show (nI (2 * x.1)) ≤ (nI most) from nI_le y1 (by omega)) k9) ?_
      refine gp_n 4 (j' := 39) (lv' := [some (.ref 70), some (.int (nI most)), some (.int (nI c)), some (.int (nI (2 * x.1))), some (.int 1), some (.int (nI (2 * x.1))), some (.int (nI 0))]) (st' := []) (h' := (shT, f1, g1, r1)) rfl ?_
      exact gp_done g rfl
    · rw [y2] at g
      refine gp_n 2 (j' := 17) (lv' := [some (.ref 70), some (.int (nI most)), some (.int (nI c)), l3, l4, l5, l6]) (st' := [.ref 70, .int (nI c)]) (h' := (shT, fi, fl, fr)) rfl ?_
      refine gp_of (fun _ k9 => g_getI (x := N) rfl (Or.inl rfl) rfl (by decide) (cN) k9) ?_
      refine gp_of (fun _ k9 => g_icf rfl (show ¬ (N ≤ (nI c)) from ltN) k9) ?_
      refine gp_n 2 (j' := 21) (lv' := [some (.ref 70), some (.int (nI most)), some (.int (nI c)), l3, l4, l5, l6]) (st' := [.int (nI c), .ref 70]) (h' := (shT, fi, fl, fr)) rfl ?_
      refine gp_of (fun _ k9 => g_call (y := 192) (as := [.ref 70, .int (nI c)]) (st' := []) rfl rfl (v1) k9) ?_
      refine gp_n 2 (j' := 24) (lv' := [some (.ref 70), some (.int (nI most)), some (.int (nI c)), some (.int (nI (2 * x.1))), l4, l5, l6]) (st' := [.ref 70]) (h' := (shT, f1, g1, r1)) rfl ?_
      refine gp_of (fun _ k9 => g_getL (x := K) rfl rfl (by decide) (cK1) k9) ?_
      refine gp_n 1 (j' := 26) (lv' := [some (.ref 70), some (.int (nI most)), some (.int (nI c)), some (.int (nI (2 * x.1))), l4, l5, l6]) (st' := [.int (nI c), .long K]) (h' := (shT, f1, g1, r1)) rfl ?_
      refine gp_of (fun _ k9 => g_call (y := 161) (as := [.long K, .int (nI c)]) (st' := []) rfl rfl (hs _) k9) ?_
      refine gp_n 2 (j' := 29) (lv' := [some (.ref 70), some (.int (nI most)), some (.int (nI c)), some (.int (nI (2 * x.1))), some (.int 1), l5, l6]) (st' := [.int 1]) (h' := (shT, f1, g1, r1)) rfl ?_
      refine gp_of (fun _ k9 => g_iff rfl (show ¬ ((1 : Int32) = (0 : Int32)) from by decide) k9) ?_
      refine gp_n 2 (j' := 32) (lv' := [some (.ref 70), some (.int (nI most)), some (.int (nI c)), some (.int (nI (2 * x.1))), some (.int 1), l5, l6]) (st' := [.int (nI most), .int (nI (2 * x.1))]) (h' := (shT, f1, g1, r1)) rfl ?_
      refine gp_of (fun _ k9 => g_icf rfl (show ¬ ((nI (2 * x.1)) ≤ (nI most)) from nI_ge y1 (by omega)) k9) ?_
      refine gp_n 5 (j' := 39) (lv' := [some (.ref 70), some (.int (nI most)), some (.int (nI c)), some (.int (nI (2 * x.1))), some (.int 1), some (.int (nI most)), some (.int (nI 0))]) (st' := []) (h' := (shT, f1, g1, r1)) rfl ?_
      exact gp_done g rfl
theorem mr_go {K : Int64} {m most : Nat} {S : Nat → Int32} (hm : m ≤ 6) (hmo1 : 1 ≤ most) (hmo : most ≤ 8) : ∀ (n c : Nat) (h : PmH), c + n = 2 ^ m → HI hdT shT h → mrI K m S most c h → ∃ h', HI hdT shT h' ∧ mrI K m S most (2 ^ m) h' ∧ fram rd_W h h' ∧ ∀ l3 l4 l5 l6, Go pmT none cd_191 15 [some (.ref 70), some (.int (nI most)), some (.int (nI c)), l3, l4, l5, l6] [] h (none, h') := by
  intro n
  induction n with
  | zero =>
    intro c h hc hI hr
    have hc : c = 2 ^ m := by omega
    subst hc
    refine ⟨h, hI, hr, fram.rf _ _, fun l3 l4 l5 l6 => ?_⟩
    have cN := hr.2.1.1
    generalize nI (2 ^ m) = N at *
    clear hr
    obtain ⟨S, fi, fl, fr⟩ := h
    have hS : S = shT := hI.1
    subst hS
    have cN : fi 70 14 = N := cN
    refine go_of ?_
    refine gp_n 2 (j' := 17) (lv' := [some (.ref 70), some (.int (nI most)), some (.int N), l3, l4, l5, l6]) (st' := [.ref 70, .int N]) (h' := (shT, fi, fl, fr)) rfl ?_
    refine gp_of (fun _ k9 => g_getI (x := N) rfl (Or.inl rfl) rfl (by decide) (cN) k9) ?_
    refine gp_of (fun _ k9 => g_ict rfl (show N ≤ N from Int32.le_refl _) k9) ?_
    refine gp_done (g_vret rfl) ?_
    rfl
  | succ n ih =>
    intro c h hc hI hr
    obtain ⟨h1, I1, r1, F1, g1⟩ := mr_st hm (by omega) hmo1 hmo hI hr
    obtain ⟨h2, I2, r2, F2, g2⟩ := ih (c + 1) h1 (by omega) I1 r1
    exact ⟨h2, I2, r2, fram.tr F1 F2, g1 _ g2⟩
theorem mr_ev {K : Int64} {m most : Nat} {S : Nat → Int32} {h : PmH} (hm : m ≤ 6) (hmo1 : 1 ≤ most) (hmo : most ≤ 8) (hI : HI hdT shT h) (hc : mcI K m S h) : ∃ h', Ev pmT 191 [.ref 70, .int (nI most)] h none h' ∧ HI hdT shT h' ∧ mrI K m S most (2 ^ m) h' ∧ fram rd_W h h' := by
  have k26 : ph_r h 70 26 = some 76 := hi_r hI rfl rfl (by decide)
  have k27 : ph_r h 70 27 = some 77 := hi_r hI rfl rfl (by decide)
  obtain ⟨S, fi, fl, fr⟩ := h
  have hS : S = shT := hI.1
  subst hS
  have k26 : fr 70 26 = some 76 := k26
  have k27 : fr 70 27 = some 77 := k27
  have I1 : HI hdT shT (shT, pm_u2 fi 70 25 1, fl, fr) := HI_wi hI (fun _ => by decide)
  have I1 := HI_wl (p := 76) (s := 0) (x := 0) I1
  have I1 := HI_wi (p := 77) (s := 0) (x := 0) I1 (fun z => absurd (show (9 : Nat) = 0 from z) (by decide))
  have I1 : HI hdT shT (shT, pm_u2 (pm_u2 fi 70 25 1) 77 0 0, pm_u2 fl 76 0 0, fr) := I1
  have F0 : fram rd_W (shT, fi, fl, fr) (shT, pm_u2 (pm_u2 fi 70 25 1) 77 0 0, pm_u2 fl 76 0 0, fr) := fun p s hw => by
    have a1 : ¬ (p = 70 ∧ s = 25) := fun z => by rw [z.1, z.2] at hw; exact absurd hw (by decide)
    have a2 : ¬ p = 77 := fun z => by rw [z] at hw; simp [inW, rd_W] at hw
    have a3 : ¬ p = 76 := fun z => by rw [z] at hw; simp [inW, rd_W] at hw
    exact ⟨(wl_ne (by omega)).trans (wl_ne (by omega)), wl_ne (by omega), rfl⟩
  obtain ⟨h2, I2, r2, F2, g⟩ := mr_go (K := K) (S := S) hm hmo1 hmo (2 ^ m) 0 _ (by omega) I1 ⟨⟨show pm_u2 (pm_u2 fi 70 25 1) 77 0 0 70 25 = 1 from (wl_ne (by decide)).trans u2_eq, fun p hp => by
    have hp : p < 1 := hp
    have hp : p = 0 := by omega
    subst hp
    exact ⟨show pm_u2 fl 76 0 0 76 0 = 0 from u2_eq, u2_i⟩⟩, hc, fun i hi => absurd hi (Nat.not_lt_zero i)⟩
  refine ⟨h2, ?_, I2, r2, fram.tr F0 F2⟩
  have g := g none none none none
  refine Ev.of (es := cd_191) (ml := 7) (lv := [some (.ref 70), some (.int (nI most)), none, none, none, none, none]) rfl rfl rfl ?_
  refine go_of ?_
  refine gp_n 2 (j' := 2) (lv' := [some (.ref 70), some (.int (nI most)), none, none, none, none, none]) (st' := [.int 1, .ref 70]) (h' := (shT, fi, fl, fr)) rfl ?_
  refine gp_of (fun _ k9 => g_putI rfl (Or.inl rfl) rfl (by decide) k9) ?_
  refine gp_n 1 (j' := 4) (lv' := [some (.ref 70), some (.int (nI most)), none, none, none, none, none]) (st' := [.ref 70]) (h' := (shT, pm_u2 fi 70 25 1, fl, fr)) rfl ?_
  refine gp_of (fun _ k9 => g_getR (q' := 76) rfl rfl (by decide) k26 k9) ?_
  refine gp_n 2 (j' := 7) (lv' := [some (.ref 70), some (.int (nI most)), none, none, none, none, none]) (st' := [.long 0, .int 0, .ref 76]) (h' := (shT, pm_u2 fi 70 25 1, fl, fr)) rfl ?_
  refine gp_of (fun _ k9 => g_last (k := 0) rfl rfl (rfl) (by decide) (by decide) k9) ?_
  refine gp_n 1 (j' := 9) (lv' := [some (.ref 70), some (.int (nI most)), none, none, none, none, none]) (st' := [.ref 70]) (h' := (shT, pm_u2 fi 70 25 1, pm_u2 fl 76 0 0, fr)) rfl ?_
  refine gp_of (fun _ k9 => g_getR (q' := 77) rfl rfl (by decide) k27 k9) ?_
  refine gp_n 2 (j' := 12) (lv' := [some (.ref 70), some (.int (nI most)), none, none, none, none, none]) (st' := [.int 0, .int 0, .ref 77]) (h' := (shT, pm_u2 fi 70 25 1, pm_u2 fl 76 0 0, fr)) rfl ?_
  refine gp_of (fun _ k9 => g_iast (k := 0) rfl rfl (rfl) (by decide) (by decide) k9) ?_
  refine gp_n 2 (j' := 15) (lv' := [some (.ref 70), some (.int (nI most)), some (.int (nI 0)), none, none, none, none]) (st' := []) (h' := (shT, pm_u2 (pm_u2 fi 70 25 1) 77 0 0, pm_u2 fl 76 0 0, fr)) rfl ?_
  exact gp_done g rfl
