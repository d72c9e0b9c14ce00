theorem fram_z {h h' : PmH} (hf : fram [] h h') (hs : ph_s h' = ph_s h) : h' = h := by
  obtain ⟨S, fi, fl, fr⟩ := h
  obtain ⟨S', fi', fl', fr'⟩ := h'
  have e1 : fi' = fi := funext fun p => funext fun s => (hf p s rfl).1
  have e2 : fl' = fl := funext fun p => funext fun s => (hf p s rfl).2.1
  have e3 : fr' = fr := funext fun p => funext fun s => (hf p s rfl).2.2
  have e4 : S' = S := hs
  rw [e1, e2, e3, e4]
theorem pv_i {P : Option AV} {lo hi : Int} {v : Option Value} (hP : P = some (0, lo, hi, [], 0, 0, 0)) (h : pv P v) : ∃ x : Int32, v = some (.int x) ∧ lo ≤ x.toInt ∧ x.toInt ≤ hi := by
  subst hP
  obtain ⟨w, rfl, hw⟩ := h
  obtain ⟨x, rfl, x1, x2, -⟩ := gv_k0 rfl (hw [] ([], fun _ _ => 0, fun _ _ => 0, fun _ _ => none))
  exact ⟨x, rfl, x1, x2⟩
theorem gv_any {lv : PmL} {h : PmH} {x : Int32} : gv lv h za (.int x) := ⟨x, rfl, (i32_in x).1, (i32_in x).2, trivial⟩
theorem gv_rg {lv : PmL} {h : PmH} {x : Int32} {lo hi : Int} (h1 : lo ≤ x.toInt) (h2 : x.toInt ≤ hi) : gv lv h (zi lo hi) (.int x) := ⟨x, rfl, h1, h2, trivial⟩
theorem gv_n0 {lv : PmL} {h : PmH} {k N : Nat} (hk : k ≤ N) (hN : N < 2 ^ 31) : gv lv h (zi 0 (N : Int)) (.int (nI k)) := gv_rg (by rw [nI_toInt (by omega)]; omega) (by rw [nI_toInt (by omega)]; omega)
theorem gv_rf {lv : PmL} {h : PmH} {p : Nat} : gv lv h (zr [p]) (.ref p) := ⟨p, List.mem_singleton.mpr rfl, rfl⟩
theorem gv_lg {lv : PmL} {h : PmH} {x : Int64} : gv lv h zl (.long x) := ⟨x, rfl⟩
theorem go_nil (h : PmH) : go_ [] h := fun q hq => absurd hq List.not_mem_nil
theorem costs_ev {h : PmH} (hI : HI hdT shT h) (a b : Int32) : ∃ x : Int32, Ev pmT 196 [.int a, .int b] h (some (.int x)) h := by
  obtain ⟨v, h', e1, ⟨P, P1, P2, -⟩, e3, e4⟩ := vN_231 [.int a, .int b] h (fun _ _ => ⟨gv_any, gv_any, trivial⟩) (go_nil h) hI
  have := fram_z e4 (e3.1.trans hI.1.symm)
  subst this
  have := List.mem_singleton.mp P1
  subst this
  obtain ⟨x, rfl, -⟩ := pv_i rfl P2
  exact ⟨x, e1⟩
theorem sumAt_ev {h : PmH} (hI : HI hdT shT h) (v : Int64) (i : Int32) : ∃ (x : Int32) (h' : PmH), Ev pmT 193 [.ref 70, .long v, .int i] h (some (.int x)) h' ∧ HI hdT shT h' ∧ fram [(75, 9999)] h h' := by
  obtain ⟨w, h', e1, ⟨P, P1, P2, -⟩, e3, e4⟩ := vN_230 [.ref 70, .long v, .int i] h (fun _ _ => ⟨gv_rf, gv_lg, gv_any, trivial⟩) (go_nil h) hI
  have := List.mem_singleton.mp P1
  subst this
  obtain ⟨x, rfl, -⟩ := pv_i rfl P2
  exact ⟨x, h', e1, e3, e4⟩
theorem takes_ev {fi : Nat → Nat → Int32} {fl : Nat → Nat → Int64} {fr : Nat → Nat → Option Nat} (r_70_26 : fr 70 26 = some 76) (r_70_27 : fr 70 27 = some 77) (r_70_28 : fr 70 28 = some 78) (r_70_29 : fr 70 29 = some 79) (r_70_30 : fr 70 30 = some 80) (r_70_31 : fr 70 31 = some 81) (r_70_32 : fr 70 32 = some 82) (r_70_33 : fr 70 33 = some 83) (r_70_34 : fr 70 34 = some 84) (r_70_35 : fr 70 35 = some 85) {a b c : Nat} (ha : a < 8) (hb : b < 16) (hc : c < 64) : ∃ h', Ev pmT 198 [.ref 70, .int (nI a), .int (nI b), .int (nI c)] (shT, fi, fl, fr) none h' ∧ ∀ s, ph_i h' 80 s = if s = b then -1 else fi 80 s := by
  have e8 : (8 : Int32) * nI c + nI a = nI (8 * c + a) := by rw [show (8 : Int32) = nI 8 from rfl, pk_mul, nI_add]
  rcases hasf_01 (pm_u2 fl 76 a (fl 78 b) 78 b) (nI c) with z | z
  · refine ⟨(shT, pm_u2 (pm_u2 (pm_u2 (pm_u2 (pm_u2 fi 77 a (fi 79 b)) 82 (8 * c + a) ((pm_u2 fi 77 a (fi 79 b)) 79 b)) 83 (8 * c + a) 0) 84 (8 * c + a) ((pm_u2 (pm_u2 (pm_u2 fi 77 a (fi 79 b)) 82 (8 * c + a) ((pm_u2 fi 77 a (fi 79 b)) 79 b)) 83 (8 * c + a) 0) 80 b)) 80 b (-1), pm_u2 fl 76 a (fl 78 b), fr), Ev.of (es := cd_198) (ml := 4) (lv := [some (.ref 70), some (.int (nI a)), some (.int (nI b)), some (.int (nI c))]) rfl rfl rfl ?_, ?_⟩
    · refine g_n 1 (j' := 1) (lv' := [some (.ref 70), some (.int (nI a)), some (.int (nI b)), some (.int (nI c))]) (st' := [.ref 70]) (h' := (shT, fi, fl, fr)) rfl ?_
      refine g_getR (q' := 76) rfl rfl (by decide) r_70_26 ?_
      refine g_n 2 (j' := 4) (lv' := [some (.ref 70), some (.int (nI a)), some (.int (nI b)), some (.int (nI c))]) (st' := [.ref 70, .int (nI a), .ref 76]) (h' := (shT, fi, fl, fr)) rfl ?_
      refine g_getR (q' := 78) rfl rfl (by decide) r_70_28 ?_
      refine g_n 1 (j' := 6) (lv' := [some (.ref 70), some (.int (nI a)), some (.int (nI b)), some (.int (nI c))]) (st' := [.int (nI b), .ref 78, .int (nI a), .ref 76]) (h' := (shT, fi, fl, fr)) rfl ?_
      refine g_lald (k := b) (x := fl 78 b) rfl rfl (rfl) (by omega) (by decide) (rfl) ?_
      refine g_last (k := a) rfl rfl (rfl) (by omega) (by decide) ?_
      refine g_n 1 (j' := 9) (lv' := [some (.ref 70), some (.int (nI a)), some (.int (nI b)), some (.int (nI c))]) (st' := [.ref 70]) (h' := (shT, fi, pm_u2 fl 76 a (fl 78 b), fr)) rfl ?_
      refine g_getR (q' := 77) rfl rfl (by decide) r_70_27 ?_
      refine g_n 2 (j' := 12) (lv' := [some (.ref 70), some (.int (nI a)), some (.int (nI b)), some (.int (nI c))]) (st' := [.ref 70, .int (nI a), .ref 77]) (h' := (shT, fi, pm_u2 fl 76 a (fl 78 b), fr)) rfl ?_
      refine g_getR (q' := 79) rfl rfl (by decide) r_70_29 ?_
      refine g_n 1 (j' := 14) (lv' := [some (.ref 70), some (.int (nI a)), some (.int (nI b)), some (.int (nI c))]) (st' := [.int (nI b), .ref 79, .int (nI a), .ref 77]) (h' := (shT, fi, pm_u2 fl 76 a (fl 78 b), fr)) rfl ?_
      refine g_iald (k := b) (x := fi 79 b) rfl rfl (rfl) (by omega) (by decide) (rfl) ?_
      refine g_iast (k := a) rfl rfl (rfl) (by omega) (by decide) ?_
      refine g_n 1 (j' := 17) (lv' := [some (.ref 70), some (.int (nI a)), some (.int (nI b)), some (.int (nI c))]) (st' := [.ref 70]) (h' := (shT, pm_u2 fi 77 a (fi 79 b), pm_u2 fl 76 a (fl 78 b), fr)) rfl ?_
      refine g_getR (q' := 82) rfl rfl (by decide) r_70_32 ?_
      refine g_n 6 (j' := 24) (lv' := [some (.ref 70), some (.int (nI a)), some (.int (nI b)), some (.int (nI c))]) (st' := [.ref 70, .int ((8 * (nI c)) + (nI a)), .ref 82]) (h' := (shT, pm_u2 fi 77 a (fi 79 b), pm_u2 fl 76 a (fl 78 b), fr)) rfl ?_
      refine g_getR (q' := 79) rfl rfl (by decide) r_70_29 ?_
      refine g_n 1 (j' := 26) (lv' := [some (.ref 70), some (.int (nI a)), some (.int (nI b)), some (.int (nI c))]) (st' := [.int (nI b), .ref 79, .int ((8 * (nI c)) + (nI a)), .ref 82]) (h' := (shT, pm_u2 fi 77 a (fi 79 b), pm_u2 fl 76 a (fl 78 b), fr)) rfl ?_
      refine g_iald (k := b) (x := (pm_u2 fi 77 a (fi 79 b)) 79 b) rfl rfl (rfl) (by omega) (by decide) (rfl) ?_
      refine g_iast (k := 8 * c + a) rfl rfl (e8) (by omega) (by decide) ?_
      refine g_n 1 (j' := 29) (lv' := [some (.ref 70), some (.int (nI a)), some (.int (nI b)), some (.int (nI c))]) (st' := [.ref 70]) (h' := (shT, pm_u2 (pm_u2 fi 77 a (fi 79 b)) 82 (8 * c + a) ((pm_u2 fi 77 a (fi 79 b)) 79 b), pm_u2 fl 76 a (fl 78 b), fr)) rfl ?_
      refine g_getR (q' := 83) rfl rfl (by decide) r_70_33 ?_
      refine g_n 6 (j' := 36) (lv' := [some (.ref 70), some (.int (nI a)), some (.int (nI b)), some (.int (nI c))]) (st' := [.ref 70, .int ((8 * (nI c)) + (nI a)), .ref 83]) (h' := (shT, pm_u2 (pm_u2 fi 77 a (fi 79 b)) 82 (8 * c + a) ((pm_u2 fi 77 a (fi 79 b)) 79 b), pm_u2 fl 76 a (fl 78 b), fr)) rfl ?_
      refine g_getR (q' := 78) rfl rfl (by decide) r_70_28 ?_
      refine g_n 1 (j' := 38) (lv' := [some (.ref 70), some (.int (nI a)), some (.int (nI b)), some (.int (nI c))]) (st' := [.int (nI b), .ref 78, .int ((8 * (nI c)) + (nI a)), .ref 83]) (h' := (shT, pm_u2 (pm_u2 fi 77 a (fi 79 b)) 82 (8 * c + a) ((pm_u2 fi 77 a (fi 79 b)) 79 b), pm_u2 fl 76 a (fl 78 b), fr)) rfl ?_
      refine g_lald (k := b) (x := (pm_u2 fl 76 a (fl 78 b)) 78 b) rfl rfl (rfl) (by omega) (by decide) (rfl) ?_
      refine g_n 1 (j' := 40) (lv' := [some (.ref 70), some (.int (nI a)), some (.int (nI b)), some (.int (nI c))]) (st' := [.int (nI c), .long ((pm_u2 fl 76 a (fl 78 b)) 78 b), .int ((8 * (nI c)) + (nI a)), .ref 83]) (h' := (shT, pm_u2 (pm_u2 fi 77 a (fi 79 b)) 82 (8 * c + a) ((pm_u2 fi 77 a (fi 79 b)) 79 b), pm_u2 fl 76 a (fl 78 b), fr)) rfl ?_
      refine g_call (y := 161) (as := [.long ((pm_u2 fl 76 a (fl 78 b)) 78 b), .int (nI c)]) (st' := [.int ((8 * (nI c)) + (nI a)), .ref 83]) rfl rfl (z ▸ has_ev) ?_
      refine g_ift rfl (show (0 : Int32) = (0 : Int32) from rfl) ?_
      refine g_n 1 (j' := 45) (lv' := [some (.ref 70), some (.int (nI a)), some (.int (nI b)), some (.int (nI c))]) (st' := [.int 0, .int ((8 * (nI c)) + (nI a)), .ref 83]) (h' := (shT, pm_u2 (pm_u2 fi 77 a (fi 79 b)) 82 (8 * c + a) ((pm_u2 fi 77 a (fi 79 b)) 79 b), pm_u2 fl 76 a (fl 78 b), fr)) rfl ?_
      refine g_iast (k := 8 * c + a) rfl rfl (e8) (by omega) (by decide) ?_
      refine g_n 1 (j' := 47) (lv' := [some (.ref 70), some (.int (nI a)), some (.int (nI b)), some (.int (nI c))]) (st' := [.ref 70]) (h' := (shT, pm_u2 (pm_u2 (pm_u2 fi 77 a (fi 79 b)) 82 (8 * c + a) ((pm_u2 fi 77 a (fi 79 b)) 79 b)) 83 (8 * c + a) 0, pm_u2 fl 76 a (fl 78 b), fr)) rfl ?_
      refine g_getR (q' := 84) rfl rfl (by decide) r_70_34 ?_
      refine g_n 6 (j' := 54) (lv' := [some (.ref 70), some (.int (nI a)), some (.int (nI b)), some (.int (nI c))]) (st' := [.ref 70, .int ((8 * (nI c)) + (nI a)), .ref 84]) (h' := (shT, pm_u2 (pm_u2 (pm_u2 fi 77 a (fi 79 b)) 82 (8 * c + a) ((pm_u2 fi 77 a (fi 79 b)) 79 b)) 83 (8 * c + a) 0, pm_u2 fl 76 a (fl 78 b), fr)) rfl ?_
      refine g_getR (q' := 80) rfl rfl (by decide) r_70_30 ?_
      refine g_n 1 (j' := 56) (lv' := [some (.ref 70), some (.int (nI a)), some (.int (nI b)), some (.int (nI c))]) (st' := [.int (nI b), .ref 80, .int ((8 * (nI c)) + (nI a)), .ref 84]) (h' := (shT, pm_u2 (pm_u2 (pm_u2 fi 77 a (fi 79 b)) 82 (8 * c + a) ((pm_u2 fi 77 a (fi 79 b)) 79 b)) 83 (8 * c + a) 0, pm_u2 fl 76 a (fl 78 b), fr)) rfl ?_
      refine g_iald (k := b) (x := (pm_u2 (pm_u2 (pm_u2 fi 77 a (fi 79 b)) 82 (8 * c + a) ((pm_u2 fi 77 a (fi 79 b)) 79 b)) 83 (8 * c + a) 0) 80 b) rfl rfl (rfl) (by omega) (by decide) (rfl) ?_
      refine g_iast (k := 8 * c + a) rfl rfl (e8) (by omega) (by decide) ?_
      refine g_n 1 (j' := 59) (lv' := [some (.ref 70), some (.int (nI a)), some (.int (nI b)), some (.int (nI c))]) (st' := [.ref 70]) (h' := (shT, pm_u2 (pm_u2 (pm_u2 (pm_u2 fi 77 a (fi 79 b)) 82 (8 * c + a) ((pm_u2 fi 77 a (fi 79 b)) 79 b)) 83 (8 * c + a) 0) 84 (8 * c + a) ((pm_u2 (pm_u2 (pm_u2 fi 77 a (fi 79 b)) 82 (8 * c + a) ((pm_u2 fi 77 a (fi 79 b)) 79 b)) 83 (8 * c + a) 0) 80 b), pm_u2 fl 76 a (fl 78 b), fr)) rfl ?_
      refine g_getR (q' := 80) rfl rfl (by decide) r_70_30 ?_
      refine g_n 2 (j' := 62) (lv' := [some (.ref 70), some (.int (nI a)), some (.int (nI b)), some (.int (nI c))]) (st' := [.int (-1), .int (nI b), .ref 80]) (h' := (shT, pm_u2 (pm_u2 (pm_u2 (pm_u2 fi 77 a (fi 79 b)) 82 (8 * c + a) ((pm_u2 fi 77 a (fi 79 b)) 79 b)) 83 (8 * c + a) 0) 84 (8 * c + a) ((pm_u2 (pm_u2 (pm_u2 fi 77 a (fi 79 b)) 82 (8 * c + a) ((pm_u2 fi 77 a (fi 79 b)) 79 b)) 83 (8 * c + a) 0) 80 b), pm_u2 fl 76 a (fl 78 b), fr)) rfl ?_
      refine g_iast (k := b) rfl rfl (rfl) (by omega) (by decide) ?_
      exact g_vret rfl
    · intro s
      show pm_u2 _ 80 b (-1) 80 s = _
      simp [pm_u2]
  · refine ⟨(shT, pm_u2 (pm_u2 (pm_u2 (pm_u2 (pm_u2 fi 77 a (fi 79 b)) 82 (8 * c + a) ((pm_u2 fi 77 a (fi 79 b)) 79 b)) 83 (8 * c + a) 1) 84 (8 * c + a) ((pm_u2 (pm_u2 (pm_u2 fi 77 a (fi 79 b)) 82 (8 * c + a) ((pm_u2 fi 77 a (fi 79 b)) 79 b)) 83 (8 * c + a) 1) 80 b)) 80 b (-1), pm_u2 fl 76 a (fl 78 b), fr), Ev.of (es := cd_198) (ml := 4) (lv := [some (.ref 70), some (.int (nI a)), some (.int (nI b)), some (.int (nI c))]) rfl rfl rfl ?_, ?_⟩
    · refine g_n 1 (j' := 1) (lv' := [some (.ref 70), some (.int (nI a)), some (.int (nI b)), some (.int (nI c))]) (st' := [.ref 70]) (h' := (shT, fi, fl, fr)) rfl ?_
      refine g_getR (q' := 76) rfl rfl (by decide) r_70_26 ?_
      refine g_n 2 (j' := 4) (lv' := [some (.ref 70), some (.int (nI a)), some (.int (nI b)), some (.int (nI c))]) (st' := [.ref 70, .int (nI a), .ref 76]) (h' := (shT, fi, fl, fr)) rfl ?_
      refine g_getR (q' := 78) rfl rfl (by decide) r_70_28 ?_
      refine g_n 1 (j' := 6) (lv' := [some (.ref 70), some (.int (nI a)), some (.int (nI b)), some (.int (nI c))]) (st' := [.int (nI b), .ref 78, .int (nI a), .ref 76]) (h' := (shT, fi, fl, fr)) rfl ?_
      refine g_lald (k := b) (x := fl 78 b) rfl rfl (rfl) (by omega) (by decide) (rfl) ?_
      refine g_last (k := a) rfl rfl (rfl) (by omega) (by decide) ?_
      refine g_n 1 (j' := 9) (lv' := [some (.ref 70), some (.int (nI a)), some (.int (nI b)), some (.int (nI c))]) (st' := [.ref 70]) (h' := (shT, fi, pm_u2 fl 76 a (fl 78 b), fr)) rfl ?_
      refine g_getR (q' := 77) rfl rfl (by decide) r_70_27 ?_
      refine g_n 2 (j' := 12) (lv' := [some (.ref 70), some (.int (nI a)), some (.int (nI b)), some (.int (nI c))]) (st' := [.ref 70, .int (nI a), .ref 77]) (h' := (shT, fi, pm_u2 fl 76 a (fl 78 b), fr)) rfl ?_
      refine g_getR (q' := 79) rfl rfl (by decide) r_70_29 ?_
      refine g_n 1 (j' := 14) (lv' := [some (.ref 70), some (.int (nI a)), some (.int (nI b)), some (.int (nI c))]) (st' := [.int (nI b), .ref 79, .int (nI a), .ref 77]) (h' := (shT, fi, pm_u2 fl 76 a (fl 78 b), fr)) rfl ?_
      refine g_iald (k := b) (x := fi 79 b) rfl rfl (rfl) (by omega) (by decide) (rfl) ?_
      refine g_iast (k := a) rfl rfl (rfl) (by omega) (by decide) ?_
      refine g_n 1 (j' := 17) (lv' := [some (.ref 70), some (.int (nI a)), some (.int (nI b)), some (.int (nI c))]) (st' := [.ref 70]) (h' := (shT, pm_u2 fi 77 a (fi 79 b), pm_u2 fl 76 a (fl 78 b), fr)) rfl ?_
      refine g_getR (q' := 82) rfl rfl (by decide) r_70_32 ?_
      refine g_n 6 (j' := 24) (lv' := [some (.ref 70), some (.int (nI a)), some (.int (nI b)), some (.int (nI c))]) (st' := [.ref 70, .int ((8 * (nI c)) + (nI a)), .ref 82]) (h' := (shT, pm_u2 fi 77 a (fi 79 b), pm_u2 fl 76 a (fl 78 b), fr)) rfl ?_
      refine g_getR (q' := 79) rfl rfl (by decide) r_70_29 ?_
      refine g_n 1 (j' := 26) (lv' := [some (.ref 70), some (.int (nI a)), some (.int (nI b)), some (.int (nI c))]) (st' := [.int (nI b), .ref 79, .int ((8 * (nI c)) + (nI a)), .ref 82]) (h' := (shT, pm_u2 fi 77 a (fi 79 b), pm_u2 fl 76 a (fl 78 b), fr)) rfl ?_
      refine g_iald (k := b) (x := (pm_u2 fi 77 a (fi 79 b)) 79 b) rfl rfl (rfl) (by omega) (by decide) (rfl) ?_
      refine g_iast (k := 8 * c + a) rfl rfl (e8) (by omega) (by decide) ?_
      refine g_n 1 (j' := 29) (lv' := [some (.ref 70), some (.int (nI a)), some (.int (nI b)), some (.int (nI c))]) (st' := [.ref 70]) (h' := (shT, pm_u2 (pm_u2 fi 77 a (fi 79 b)) 82 (8 * c + a) ((pm_u2 fi 77 a (fi 79 b)) 79 b), pm_u2 fl 76 a (fl 78 b), fr)) rfl ?_
      refine g_getR (q' := 83) rfl rfl (by decide) r_70_33 ?_
      refine g_n 6 (j' := 36) (lv' := [some (.ref 70), some (.int (nI a)), some (.int (nI b)), some (.int (nI c))]) (st' := [.ref 70, .int ((8 * (nI c)) + (nI a)), .ref 83]) (h' := (shT, pm_u2 (pm_u2 fi 77 a (fi 79 b)) 82 (8 * c + a) ((pm_u2 fi 77 a (fi 79 b)) 79 b), pm_u2 fl 76 a (fl 78 b), fr)) rfl ?_
      refine g_getR (q' := 78) rfl rfl (by decide) r_70_28 ?_
      refine g_n 1 (j' := 38) (lv' := [some (.ref 70), some (.int (nI a)), some (.int (nI b)), some (.int (nI c))]) (st' := [.int (nI b), .ref 78, .int ((8 * (nI c)) + (nI a)), .ref 83]) (h' := (shT, pm_u2 (pm_u2 fi 77 a (fi 79 b)) 82 (8 * c + a) ((pm_u2 fi 77 a (fi 79 b)) 79 b), pm_u2 fl 76 a (fl 78 b), fr)) rfl ?_
      refine g_lald (k := b) (x := (pm_u2 fl 76 a (fl 78 b)) 78 b) rfl rfl (rfl) (by omega) (by decide) (rfl) ?_
      refine g_n 1 (j' := 40) (lv' := [some (.ref 70), some (.int (nI a)), some (.int (nI b)), some (.int (nI c))]) (st' := [.int (nI c), .long ((pm_u2 fl 76 a (fl 78 b)) 78 b), .int ((8 * (nI c)) + (nI a)), .ref 83]) (h' := (shT, pm_u2 (pm_u2 fi 77 a (fi 79 b)) 82 (8 * c + a) ((pm_u2 fi 77 a (fi 79 b)) 79 b), pm_u2 fl 76 a (fl 78 b), fr)) rfl ?_
      refine g_call (y := 161) (as := [.long ((pm_u2 fl 76 a (fl 78 b)) 78 b), .int (nI c)]) (st' := [.int ((8 * (nI c)) + (nI a)), .ref 83]) rfl rfl (z ▸ has_ev) ?_
      refine g_iff rfl (show ¬ ((1 : Int32) = (0 : Int32)) from by decide) ?_
      refine g_n 2 (j' := 45) (lv' := [some (.ref 70), some (.int (nI a)), some (.int (nI b)), some (.int (nI c))]) (st' := [.int 1, .int ((8 * (nI c)) + (nI a)), .ref 83]) (h' := (shT, pm_u2 (pm_u2 fi 77 a (fi 79 b)) 82 (8 * c + a) ((pm_u2 fi 77 a (fi 79 b)) 79 b), pm_u2 fl 76 a (fl 78 b), fr)) rfl ?_
      refine g_iast (k := 8 * c + a) rfl rfl (e8) (by omega) (by decide) ?_
      refine g_n 1 (j' := 47) (lv' := [some (.ref 70), some (.int (nI a)), some (.int (nI b)), some (.int (nI c))]) (st' := [.ref 70]) (h' := (shT, pm_u2 (pm_u2 (pm_u2 fi 77 a (fi 79 b)) 82 (8 * c + a) ((pm_u2 fi 77 a (fi 79 b)) 79 b)) 83 (8 * c + a) 1, pm_u2 fl 76 a (fl 78 b), fr)) rfl ?_
      refine g_getR (q' := 84) rfl rfl (by decide) r_70_34 ?_
      refine g_n 6 (j' := 54) (lv' := [some (.ref 70), some (.int (nI a)), some (.int (nI b)), some (.int (nI c))]) (st' := [.ref 70, .int ((8 * (nI c)) + (nI a)), .ref 84]) (h' := (shT, pm_u2 (pm_u2 (pm_u2 fi 77 a (fi 79 b)) 82 (8 * c + a) ((pm_u2 fi 77 a (fi 79 b)) 79 b)) 83 (8 * c + a) 1, pm_u2 fl 76 a (fl 78 b), fr)) rfl ?_
      refine g_getR (q' := 80) rfl rfl (by decide) r_70_30 ?_
      refine g_n 1 (j' := 56) (lv' := [some (.ref 70), some (.int (nI a)), some (.int (nI b)), some (.int (nI c))]) (st' := [.int (nI b), .ref 80, .int ((8 * (nI c)) + (nI a)), .ref 84]) (h' := (shT, pm_u2 (pm_u2 (pm_u2 fi 77 a (fi 79 b)) 82 (8 * c + a) ((pm_u2 fi 77 a (fi 79 b)) 79 b)) 83 (8 * c + a) 1, pm_u2 fl 76 a (fl 78 b), fr)) rfl ?_
      refine g_iald (k := b) (x := (pm_u2 (pm_u2 (pm_u2 fi 77 a (fi 79 b)) 82 (8 * c + a) ((pm_u2 fi 77 a (fi 79 b)) 79 b)) 83 (8 * c + a) 1) 80 b) rfl rfl (rfl) (by omega) (by decide) (rfl) ?_
      refine g_iast (k := 8 * c + a) rfl rfl (e8) (by omega) (by decide) ?_
      refine g_n 1 (j' := 59) (lv' := [some (.ref 70), some (.int (nI a)), some (.int (nI b)), some (.int (nI c))]) (st' := [.ref 70]) (h' := (shT, pm_u2 (pm_u2 (pm_u2 (pm_u2 fi 77 a (fi 79 b)) 82 (8 * c + a) ((pm_u2 fi 77 a (fi 79 b)) 79 b)) 83 (8 * c + a) 1) 84 (8 * c + a) ((pm_u2 (pm_u2 (pm_u2 fi 77 a (fi 79 b)) 82 (8 * c + a) ((pm_u2 fi 77 a (fi 79 b)) 79 b)) 83 (8 * c + a) 1) 80 b), pm_u2 fl 76 a (fl 78 b), fr)) rfl ?_
      refine g_getR (q' := 80) rfl rfl (by decide) r_70_30 ?_
      refine g_n 2 (j' := 62) (lv' := [some (.ref 70), some (.int (nI a)), some (.int (nI b)), some (.int (nI c))]) (st' := [.int (-1), .int (nI b), .ref 80]) (h' := (shT, pm_u2 (pm_u2 (pm_u2 (pm_u2 fi 77 a (fi 79 b)) 82 (8 * c + a) ((pm_u2 fi 77 a (fi 79 b)) 79 b)) 83 (8 * c + a) 1) 84 (8 * c + a) ((pm_u2 (pm_u2 (pm_u2 fi 77 a (fi 79 b)) 82 (8 * c + a) ((pm_u2 fi 77 a (fi 79 b)) 79 b)) 83 (8 * c + a) 1) 80 b), pm_u2 fl 76 a (fl 78 b), fr)) rfl ?_
      refine g_iast (k := b) rfl rfl (rfl) (by omega) (by decide) ?_
      exact g_vret rfl
    · intro s
      show pm_u2 _ 80 b (-1) 80 s = _
      simp [pm_u2]
theorem takes_iv {h : PmH} (hI : HI hdT shT h) {a b c : Nat} (ha : a < 8) (hb : b < 16) (hc : c < 64) : ∃ h', Ev pmT 198 [.ref 70, .int (nI a), .int (nI b), .int (nI c)] h none h' ∧ HI hdT shT h' ∧ fram [(76, 9999), (77, 9999), (80, 9999), (82, 9999), (83, 9999), (84, 9999)] h h' ∧ ∀ s, ph_i h' 80 s = if s = b then -1 else ph_i h 80 s := by
  obtain ⟨v, h', e1, ⟨P, P1, P2, -⟩, e3, e4⟩ := vN_299 [.ref 70, .int (nI a), .int (nI b), .int (nI c)] h (fun _ _ => ⟨gv_rf, gv_n0 (N := 7) (by omega) (by decide), gv_n0 (N := 15) (by omega) (by decide), gv_n0 (N := 63) (by omega) (by decide), trivial⟩) (go_nil h) hI
  have := List.mem_singleton.mp P1
  subst this
  have P2 : v = none := P2
  subst P2
  obtain ⟨S, fi, fl, fr⟩ := h
  have hS : S = shT := hI.1
  subst hS
  obtain ⟨h2, f1, f2⟩ := takes_ev (fi := fi) (fl := fl) (fr := fr) (hi_r hI rfl rfl (by decide)) (hi_r hI rfl rfl (by decide)) (hi_r hI rfl rfl (by decide)) (hi_r hI rfl rfl (by decide)) (hi_r hI rfl rfl (by decide)) (hi_r hI rfl rfl (by decide)) (hi_r hI rfl rfl (by decide)) (hi_r hI rfl rfl (by decide)) (hi_r hI rfl rfl (by decide)) (hi_r hI rfl rfl (by decide)) ha hb hc
  obtain ⟨-, d⟩ := Ev.det e1 f1
  subst d
  exact ⟨h', e1, e3, e4, f2⟩
def br_W : WSt := [(75, 9999), (78, 9999), (79, 9999), (80, 9999), (85, 9999)]
def br_I (h0 : PmH) (m : Nat) (h : PmH) : Prop := HI hdT shT h ∧ fram br_W h0 h ∧ ∀ q, q < m → ¬ ph_i h 80 q < 0
theorem br_in {h0 : PmH} {K : Int64} {c p w : Nat} {s : Int32} {Q : Option Value × PmH → Prop} (hK : ph_l h0 70 21 = K) (hc : c < 64) (hp : p < 8) (hw : (hasf K (nI c) = 0 ∧ w = 1) ∨ (hasf K (nI c) = 1 ∧ w = 2)) : ∀ (n b m : Nat) (h : PmH), b + n = w → m + n ≤ 16 → br_I h0 m h → (∀ h', br_I h0 (m + n) h' → ∃ r, Q r ∧ Go pmT none cd_192 80 [some (.ref 70), some (.int (nI c)), some (.int (nI (m + n))), some (.int (nI p)), some (.int s), some (.int (nI w))] [] h' r) → ∃ r, Q r ∧ Go pmT none cd_192 30 [some (.ref 70), some (.int (nI c)), some (.int (nI m)), some (.int (nI p)), some (.int s), some (.int (nI b))] [] h r := by
  intro n
  induction n with
  | zero =>
    intro b m h hb hm hI k
    obtain ⟨r, q, g⟩ := k h hI
    refine ⟨r, q, ?_⟩
    obtain ⟨S, fi, fl, fr⟩ := h
    have hS : S = shT := hI.1.1
    subst hS
    have eK : fl 70 21 = K := ((hI.2.1 70 21 rfl).2.1).trans hK
    have hb : b = w := by omega
    subst hb
    rcases hw with ⟨z, rfl⟩ | ⟨z, rfl⟩
    · refine g_n 2 (j' := 32) (lv' := [some (.ref 70), some (.int (nI c)), some (.int (nI m)), some (.int (nI p)), some (.int s), some (.int (nI 1))]) (st' := [.ref 70, .int (nI 1)]) (h' := (shT, fi, fl, fr)) rfl ?_
      refine g_getL (x := K) rfl rfl (by decide) (eK) ?_
      refine g_n 1 (j' := 34) (lv' := [some (.ref 70), some (.int (nI c)), some (.int (nI m)), some (.int (nI p)), some (.int s), some (.int (nI 1))]) (st' := [.int (nI c), .long K, .int (nI 1)]) (h' := (shT, fi, fl, fr)) rfl ?_
      refine g_call (y := 161) (as := [.long K, .int (nI c)]) (st' := [.int (nI 1)]) rfl rfl (z ▸ has_ev) ?_
      refine g_ift rfl (show (0 : Int32) = (0 : Int32) from rfl) ?_
      refine g_n 1 (j' := 39) (lv' := [some (.ref 70), some (.int (nI c)), some (.int (nI m)), some (.int (nI p)), some (.int s), some (.int (nI 1))]) (st' := [.int 1, .int (nI 1)]) (h' := (shT, fi, fl, fr)) rfl ?_
      refine g_ict rfl (show (1 : Int32) ≤ (nI 1) from by decide) ?_
      exact g
    · refine g_n 2 (j' := 32) (lv' := [some (.ref 70), some (.int (nI c)), some (.int (nI m)), some (.int (nI p)), some (.int s), some (.int (nI 2))]) (st' := [.ref 70, .int (nI 2)]) (h' := (shT, fi, fl, fr)) rfl ?_
      refine g_getL (x := K) rfl rfl (by decide) (eK) ?_
      refine g_n 1 (j' := 34) (lv' := [some (.ref 70), some (.int (nI c)), some (.int (nI m)), some (.int (nI p)), some (.int s), some (.int (nI 2))]) (st' := [.int (nI c), .long K, .int (nI 2)]) (h' := (shT, fi, fl, fr)) rfl ?_
      refine g_call (y := 161) (as := [.long K, .int (nI c)]) (st' := [.int (nI 2)]) rfl rfl (z ▸ has_ev) ?_
      refine g_iff rfl (show ¬ ((1 : Int32) = (0 : Int32)) from by decide) ?_
      refine g_n 2 (j' := 39) (lv' := [some (.ref 70), some (.int (nI c)), some (.int (nI m)), some (.int (nI p)), some (.int s), some (.int (nI 2))]) (st' := [.int 2, .int (nI 2)]) (h' := (shT, fi, fl, fr)) rfl ?_
      refine g_ict rfl (show (2 : Int32) ≤ (nI 2) from by decide) ?_
      exact g
  | succ n ih =>
    intro b m h hb hm hI k
    obtain ⟨S, fi, fl, fr⟩ := h
    have hS : S = shT := hI.1.1
    subst hS
    have eK : fl 70 21 = K := ((hI.2.1 70 21 rfl).2.1).trans hK
    have r_70_26 : fr 70 26 = some 76 := hi_r hI.1 rfl rfl (by decide)
    have r_70_27 : fr 70 27 = some 77 := hi_r hI.1 rfl rfl (by decide)
    have r_70_28 : fr 70 28 = some 78 := hi_r hI.1 rfl rfl (by decide)
    have r_70_29 : fr 70 29 = some 79 := hi_r hI.1 rfl rfl (by decide)
    have r_70_30 : fr 70 30 = some 80 := hi_r hI.1 rfl rfl (by decide)
    have hb1 : b = 0 ∨ (b = 1 ∧ w = 2) := by
      rcases hw with ⟨z, e⟩ | ⟨z, e⟩ <;> omega
    have nxt : ∀ (X : Int64) (Y : Int32), ∃ r, Q r ∧ Go pmT none cd_192 30 [some (.ref 70), some (.int (nI c)), some (.int (nI (m + 1))), some (.int (nI p)), some (.int s), some (.int (nI (b + 1)))] [] (shT, pm_u2 (pm_u2 fi 79 m Y) 80 m (nI p), pm_u2 fl 78 m X, fr) r := by
      intro X Y
      refine ih (b + 1) (m + 1) _ (by omega) (by omega) ⟨?_, ?_, ?_⟩ ?_
      · exact hi_free (p := 80) (hi_free (h := (shT, fi, pm_u2 fl 78 m X, fr)) (p := 79) hI.1 rfl rfl rfl) rfl rfl rfl
      · refine fram.tr hI.2.1 (fram.tr (fram_wl (p := 78) (s := m) (x := X) (arW_in (by decide))) (fram.tr (fram_wi (p := 79) (s := m) (x := Y) (arW_in (by decide))) (fram_wi (p := 80) (s := m) (x := nI p) (arW_in (by decide)))))
      · intro q hq
        show ¬ pm_u2 (pm_u2 fi 79 m Y) 80 m (nI p) 80 q < 0
        by_cases hz : q = m
        · rw [hz]
          simp only [pm_u2, and_self, if_true]
          exact nI_pos (by omega)
        · simp [pm_u2, hz]
          have := hI.2.2 q (by omega)
          simpa using this
      · intro h' hi'
        have e9 : m + 1 + n = m + (n + 1) := by omega
        rw [e9] at hi' ⊢
        exact k h' hi'
    rcases hb1 with rfl | ⟨rfl, rfl⟩
    · obtain ⟨Y, eY⟩ := costs_ev (h := (shT, fi, pm_u2 fl 78 m (fl 76 p), fr)) hI.1 s (nI 0)
      obtain ⟨r, q, g⟩ := nxt (fl 76 p) (fi 77 p + Y)
      refine ⟨r, q, ?_⟩
      rcases hw with ⟨z, e⟩ | ⟨z, e⟩
      · refine g_n 2 (j' := 32) (lv' := [some (.ref 70), some (.int (nI c)), some (.int (nI m)), some (.int (nI p)), some (.int s), some (.int (nI 0))]) (st' := [.ref 70, .int (nI 0)]) (h' := (shT, fi, fl, fr)) rfl ?_
        refine g_getL (x := K) rfl rfl (by decide) (eK) ?_
        refine g_n 1 (j' := 34) (lv' := [some (.ref 70), some (.int (nI c)), some (.int (nI m)), some (.int (nI p)), some (.int s), some (.int (nI 0))]) (st' := [.int (nI c), .long K, .int (nI 0)]) (h' := (shT, fi, fl, fr)) rfl ?_
        refine g_call (y := 161) (as := [.long K, .int (nI c)]) (st' := [.int (nI 0)]) rfl rfl (z ▸ has_ev) ?_
        refine g_ift rfl (show (0 : Int32) = (0 : Int32) from rfl) ?_
        refine g_n 1 (j' := 39) (lv' := [some (.ref 70), some (.int (nI c)), some (.int (nI m)), some (.int (nI p)), some (.int s), some (.int (nI 0))]) (st' := [.int 1, .int (nI 0)]) (h' := (shT, fi, fl, fr)) rfl ?_
        refine g_icf rfl (show ¬ ((1 : Int32) ≤ (nI 0)) from by decide) ?_
        refine g_n 1 (j' := 41) (lv' := [some (.ref 70), some (.int (nI c)), some (.int (nI m)), some (.int (nI p)), some (.int s), some (.int (nI 0))]) (st' := [.ref 70]) (h' := (shT, fi, fl, fr)) rfl ?_
        refine g_getR (q' := 78) rfl rfl (by decide) r_70_28 ?_
        refine g_n 3 (j' := 45) (lv' := [some (.ref 70), some (.int (nI c)), some (.int (nI m)), some (.int (nI p)), some (.int s), some (.int (nI 0))]) (st' := [.int 1, .int (nI 0), .int (nI m), .ref 78]) (h' := (shT, fi, fl, fr)) rfl ?_
        refine g_ict rfl (show ¬ (nI 0) = (1 : Int32) from by decide) ?_
        refine g_n 1 (j' := 56) (lv' := [some (.ref 70), some (.int (nI c)), some (.int (nI m)), some (.int (nI p)), some (.int s), some (.int (nI 0))]) (st' := [.ref 70, .int (nI m), .ref 78]) (h' := (shT, fi, fl, fr)) rfl ?_
        refine g_getR (q' := 76) rfl rfl (by decide) r_70_26 ?_
        refine g_n 1 (j' := 58) (lv' := [some (.ref 70), some (.int (nI c)), some (.int (nI m)), some (.int (nI p)), some (.int s), some (.int (nI 0))]) (st' := [.int (nI p), .ref 76, .int (nI m), .ref 78]) (h' := (shT, fi, fl, fr)) rfl ?_
        refine g_lald (k := p) (x := fl 76 p) rfl rfl (rfl) (by omega) (by decide) (rfl) ?_
        refine g_last (k := m) rfl rfl (rfl) (by omega) (by decide) ?_
        refine g_n 1 (j' := 61) (lv' := [some (.ref 70), some (.int (nI c)), some (.int (nI m)), some (.int (nI p)), some (.int s), some (.int (nI 0))]) (st' := [.ref 70]) (h' := (shT, fi, pm_u2 fl 78 m (fl 76 p), fr)) rfl ?_
        refine g_getR (q' := 79) rfl rfl (by decide) r_70_29 ?_
        refine g_n 2 (j' := 64) (lv' := [some (.ref 70), some (.int (nI c)), some (.int (nI m)), some (.int (nI p)), some (.int s), some (.int (nI 0))]) (st' := [.ref 70, .int (nI m), .ref 79]) (h' := (shT, fi, pm_u2 fl 78 m (fl 76 p), fr)) rfl ?_
        refine g_getR (q' := 77) rfl rfl (by decide) r_70_27 ?_
        refine g_n 1 (j' := 66) (lv' := [some (.ref 70), some (.int (nI c)), some (.int (nI m)), some (.int (nI p)), some (.int s), some (.int (nI 0))]) (st' := [.int (nI p), .ref 77, .int (nI m), .ref 79]) (h' := (shT, fi, pm_u2 fl 78 m (fl 76 p), fr)) rfl ?_
        refine g_iald (k := p) (x := fi 77 p) rfl rfl (rfl) (by omega) (by decide) (rfl) ?_
        refine g_n 2 (j' := 69) (lv' := [some (.ref 70), some (.int (nI c)), some (.int (nI m)), some (.int (nI p)), some (.int s), some (.int (nI 0))]) (st' := [.int (nI 0), .int s, .int (fi 77 p), .int (nI m), .ref 79]) (h' := (shT, fi, pm_u2 fl 78 m (fl 76 p), fr)) rfl ?_
        refine g_call (y := 196) (as := [.int s, .int (nI 0)]) (st' := [.int (fi 77 p), .int (nI m), .ref 79]) rfl rfl (eY) ?_
        refine g_n 1 (j' := 71) (lv' := [some (.ref 70), some (.int (nI c)), some (.int (nI m)), some (.int (nI p)), some (.int s), some (.int (nI 0))]) (st' := [.int ((fi 77 p) + Y), .int (nI m), .ref 79]) (h' := (shT, fi, pm_u2 fl 78 m (fl 76 p), fr)) rfl ?_
        refine g_iast (k := m) rfl rfl (rfl) (by omega) (by decide) ?_
        refine g_n 1 (j' := 73) (lv' := [some (.ref 70), some (.int (nI c)), some (.int (nI m)), some (.int (nI p)), some (.int s), some (.int (nI 0))]) (st' := [.ref 70]) (h' := (shT, pm_u2 fi 79 m ((fi 77 p) + Y), pm_u2 fl 78 m (fl 76 p), fr)) rfl ?_
        refine g_getR (q' := 80) rfl rfl (by decide) r_70_30 ?_
        refine g_n 2 (j' := 76) (lv' := [some (.ref 70), some (.int (nI c)), some (.int (nI m)), some (.int (nI p)), some (.int s), some (.int (nI 0))]) (st' := [.int (nI p), .int (nI m), .ref 80]) (h' := (shT, pm_u2 fi 79 m ((fi 77 p) + Y), pm_u2 fl 78 m (fl 76 p), fr)) rfl ?_
        refine g_iast (k := m) rfl rfl (rfl) (by omega) (by decide) ?_
        refine g_n 3 (j' := 30) (lv' := [some (.ref 70), some (.int (nI c)), some (.int ((nI m) + 1)), some (.int (nI p)), some (.int s), some (.int ((nI 0) + 1))]) (st' := []) (h' := (shT, pm_u2 (pm_u2 fi 79 m ((fi 77 p) + Y)) 80 m (nI p), pm_u2 fl 78 m (fl 76 p), fr)) rfl ?_
        rw [nI_1]
        exact g
      · refine g_n 2 (j' := 32) (lv' := [some (.ref 70), some (.int (nI c)), some (.int (nI m)), some (.int (nI p)), some (.int s), some (.int (nI 0))]) (st' := [.ref 70, .int (nI 0)]) (h' := (shT, fi, fl, fr)) rfl ?_
        refine g_getL (x := K) rfl rfl (by decide) (eK) ?_
        refine g_n 1 (j' := 34) (lv' := [some (.ref 70), some (.int (nI c)), some (.int (nI m)), some (.int (nI p)), some (.int s), some (.int (nI 0))]) (st' := [.int (nI c), .long K, .int (nI 0)]) (h' := (shT, fi, fl, fr)) rfl ?_
        refine g_call (y := 161) (as := [.long K, .int (nI c)]) (st' := [.int (nI 0)]) rfl rfl (z ▸ has_ev) ?_
        refine g_iff rfl (show ¬ ((1 : Int32) = (0 : Int32)) from by decide) ?_
        refine g_n 2 (j' := 39) (lv' := [some (.ref 70), some (.int (nI c)), some (.int (nI m)), some (.int (nI p)), some (.int s), some (.int (nI 0))]) (st' := [.int 2, .int (nI 0)]) (h' := (shT, fi, fl, fr)) rfl ?_
        refine g_icf rfl (show ¬ ((2 : Int32) ≤ (nI 0)) from by decide) ?_
        refine g_n 1 (j' := 41) (lv' := [some (.ref 70), some (.int (nI c)), some (.int (nI m)), some (.int (nI p)), some (.int s), some (.int (nI 0))]) (st' := [.ref 70]) (h' := (shT, fi, fl, fr)) rfl ?_
        refine g_getR (q' := 78) rfl rfl (by decide) r_70_28 ?_
        refine g_n 3 (j' := 45) (lv' := [some (.ref 70), some (.int (nI c)), some (.int (nI m)), some (.int (nI p)), some (.int s), some (.int (nI 0))]) (st' := [.int 1, .int (nI 0), .int (nI m), .ref 78]) (h' := (shT, fi, fl, fr)) rfl ?_
        refine g_ict rfl (show ¬ (nI 0) = (1 : Int32) from by decide) ?_
        refine g_n 1 (j' := 56) (lv' := [some (.ref 70), some (.int (nI c)), some (.int (nI m)), some (.int (nI p)), some (.int s), some (.int (nI 0))]) (st' := [.ref 70, .int (nI m), .ref 78]) (h' := (shT, fi, fl, fr)) rfl ?_
        refine g_getR (q' := 76) rfl rfl (by decide) r_70_26 ?_
        refine g_n 1 (j' := 58) (lv' := [some (.ref 70), some (.int (nI c)), some (.int (nI m)), some (.int (nI p)), some (.int s), some (.int (nI 0))]) (st' := [.int (nI p), .ref 76, .int (nI m), .ref 78]) (h' := (shT, fi, fl, fr)) rfl ?_
        refine g_lald (k := p) (x := fl 76 p) rfl rfl (rfl) (by omega) (by decide) (rfl) ?_
        refine g_last (k := m) rfl rfl (rfl) (by omega) (by decide) ?_
        refine g_n 1 (j' := 61) (lv' := [some (.ref 70), some (.int (nI c)), some (.int (nI m)), some (.int (nI p)), some (.int s), some (.int (nI 0))]) (st' := [.ref 70]) (h' := (shT, fi, pm_u2 fl 78 m (fl 76 p), fr)) rfl ?_
        refine g_getR (q' := 79) rfl rfl (by decide) r_70_29 ?_
        refine g_n 2 (j' := 64) (lv' := [some (.ref 70), some (.int (nI c)), some (.int (nI m)), some (.int (nI p)), some (.int s), some (.int (nI 0))]) (st' := [.ref 70, .int (nI m), .ref 79]) (h' := (shT, fi, pm_u2 fl 78 m (fl 76 p), fr)) rfl ?_
        refine g_getR (q' := 77) rfl rfl (by decide) r_70_27 ?_
        refine g_n 1 (j' := 66) (lv' := [some (.ref 70), some (.int (nI c)), some (.int (nI m)), some (.int (nI p)), some (.int s), some (.int (nI 0))]) (st' := [.int (nI p), .ref 77, .int (nI m), .ref 79]) (h' := (shT, fi, pm_u2 fl 78 m (fl 76 p), fr)) rfl ?_
        refine g_iald (k := p) (x := fi 77 p) rfl rfl (rfl) (by omega) (by decide) (rfl) ?_
        refine g_n 2 (j' := 69) (lv' := [some (.ref 70), some (.int (nI c)), some (.int (nI m)), some (.int (nI p)), some (.int s), some (.int (nI 0))]) (st' := [.int (nI 0), .int s, .int (fi 77 p), .int (nI m), .ref 79]) (h' := (shT, fi, pm_u2 fl 78 m (fl 76 p), fr)) rfl ?_
        refine g_call (y := 196) (as := [.int s, .int (nI 0)]) (st' := [.int (fi 77 p), .int (nI m), .ref 79]) rfl rfl (eY) ?_
        refine g_n 1 (j' := 71) (lv' := [some (.ref 70), some (.int (nI c)), some (.int (nI m)), some (.int (nI p)), some (.int s), some (.int (nI 0))]) (st' := [.int ((fi 77 p) + Y), .int (nI m), .ref 79]) (h' := (shT, fi, pm_u2 fl 78 m (fl 76 p), fr)) rfl ?_
        refine g_iast (k := m) rfl rfl (rfl) (by omega) (by decide) ?_
        refine g_n 1 (j' := 73) (lv' := [some (.ref 70), some (.int (nI c)), some (.int (nI m)), some (.int (nI p)), some (.int s), some (.int (nI 0))]) (st' := [.ref 70]) (h' := (shT, pm_u2 fi 79 m ((fi 77 p) + Y), pm_u2 fl 78 m (fl 76 p), fr)) rfl ?_
        refine g_getR (q' := 80) rfl rfl (by decide) r_70_30 ?_
        refine g_n 2 (j' := 76) (lv' := [some (.ref 70), some (.int (nI c)), some (.int (nI m)), some (.int (nI p)), some (.int s), some (.int (nI 0))]) (st' := [.int (nI p), .int (nI m), .ref 80]) (h' := (shT, pm_u2 fi 79 m ((fi 77 p) + Y), pm_u2 fl 78 m (fl 76 p), fr)) rfl ?_
        refine g_iast (k := m) rfl rfl (rfl) (by omega) (by decide) ?_
        refine g_n 3 (j' := 30) (lv' := [some (.ref 70), some (.int (nI c)), some (.int ((nI m) + 1)), some (.int (nI p)), some (.int s), some (.int ((nI 0) + 1))]) (st' := []) (h' := (shT, pm_u2 (pm_u2 fi 79 m ((fi 77 p) + Y)) 80 m (nI p), pm_u2 fl 78 m (fl 76 p), fr)) rfl ?_
        rw [nI_1]
        exact g
    · obtain ⟨Y, eY⟩ := costs_ev (h := (shT, fi, pm_u2 fl 78 m (fl 76 p ||| 1 <<< ((nI c : Int32).toInt64 &&& 63)), fr)) hI.1 s (nI 1)
      obtain ⟨r, q, g⟩ := nxt (fl 76 p ||| 1 <<< ((nI c : Int32).toInt64 &&& 63)) (fi 77 p + Y)
      refine ⟨r, q, ?_⟩
      have z : hasf K (nI c) = 1 := by
        rcases hw with ⟨z, e⟩ | ⟨z, e⟩
        · cases e
        · exact z
      refine g_n 2 (j' := 32) (lv' := [some (.ref 70), some (.int (nI c)), some (.int (nI m)), some (.int (nI p)), some (.int s), some (.int (nI 1))]) (st' := [.ref 70, .int (nI 1)]) (h' := (shT, fi, fl, fr)) rfl ?_
      refine g_getL (x := K) rfl rfl (by decide) (eK) ?_
      refine g_n 1 (j' := 34) (lv' := [some (.ref 70), some (.int (nI c)), some (.int (nI m)), some (.int (nI p)), some (.int s), some (.int (nI 1))]) (st' := [.int (nI c), .long K, .int (nI 1)]) (h' := (shT, fi, fl, fr)) rfl ?_
      refine g_call (y := 161) (as := [.long K, .int (nI c)]) (st' := [.int (nI 1)]) rfl rfl (z ▸ has_ev) ?_
      refine g_iff rfl (show ¬ ((1 : Int32) = (0 : Int32)) from by decide) ?_
      refine g_n 2 (j' := 39) (lv' := [some (.ref 70), some (.int (nI c)), some (.int (nI m)), some (.int (nI p)), some (.int s), some (.int (nI 1))]) (st' := [.int 2, .int (nI 1)]) (h' := (shT, fi, fl, fr)) rfl ?_
      refine g_icf rfl (show ¬ ((2 : Int32) ≤ (nI 1)) from by decide) ?_
      refine g_n 1 (j' := 41) (lv' := [some (.ref 70), some (.int (nI c)), some (.int (nI m)), some (.int (nI p)), some (.int s), some (.int (nI 1))]) (st' := [.ref 70]) (h' := (shT, fi, fl, fr)) rfl ?_
      refine g_getR (q' := 78) rfl rfl (by decide) r_70_28 ?_
      refine g_n 3 (j' := 45) (lv' := [some (.ref 70), some (.int (nI c)), some (.int (nI m)), some (.int (nI p)), some (.int s), some (.int (nI 1))]) (st' := [.int 1, .int (nI 1), .int (nI m), .ref 78]) (h' := (shT, fi, fl, fr)) rfl ?_
      refine g_icf rfl (show ¬ (¬ (nI 1) = (1 : Int32)) from by decide) ?_
      refine g_n 1 (j' := 47) (lv' := [some (.ref 70), some (.int (nI c)), some (.int (nI m)), some (.int (nI p)), some (.int s), some (.int (nI 1))]) (st' := [.ref 70, .int (nI m), .ref 78]) (h' := (shT, fi, fl, fr)) rfl ?_
      refine g_getR (q' := 76) rfl rfl (by decide) r_70_26 ?_
      refine g_n 1 (j' := 49) (lv' := [some (.ref 70), some (.int (nI c)), some (.int (nI m)), some (.int (nI p)), some (.int s), some (.int (nI 1))]) (st' := [.int (nI p), .ref 76, .int (nI m), .ref 78]) (h' := (shT, fi, fl, fr)) rfl ?_
      refine g_lald (k := p) (x := fl 76 p) rfl rfl (rfl) (by omega) (by decide) (rfl) ?_
      refine g_n 5 (j' := 59) (lv' := [some (.ref 70), some (.int (nI c)), some (.int (nI m)), some (.int (nI p)), some (.int s), some (.int (nI 1))]) (st' := [.long ((fl 76 p) ||| (1 <<< ((nI c : Int32).toInt64 &&& 63))), .int (nI m), .ref 78]) (h' := (shT, fi, fl, fr)) rfl ?_
      refine g_last (k := m) rfl rfl (rfl) (by omega) (by decide) ?_
      refine g_n 1 (j' := 61) (lv' := [some (.ref 70), some (.int (nI c)), some (.int (nI m)), some (.int (nI p)), some (.int s), some (.int (nI 1))]) (st' := [.ref 70]) (h' := (shT, fi, pm_u2 fl 78 m ((fl 76 p) ||| (1 <<< ((nI c : Int32).toInt64 &&& 63))), fr)) rfl ?_
      refine g_getR (q' := 79) rfl rfl (by decide) r_70_29 ?_
      refine g_n 2 (j' := 64) (lv' := [some (.ref 70), some (.int (nI c)), some (.int (nI m)), some (.int (nI p)), some (.int s), some (.int (nI 1))]) (st' := [.ref 70, .int (nI m), .ref 79]) (h' := (shT, fi, pm_u2 fl 78 m ((fl 76 p) ||| (1 <<< ((nI c : Int32).toInt64 &&& 63))), fr)) rfl ?_
      refine g_getR (q' := 77) rfl rfl (by decide) r_70_27 ?_
      refine g_n 1 (j' := 66) (lv' := [some (.ref 70), some (.int (nI c)), some (.int (nI m)), some (.int (nI p)), some (.int s), some (.int (nI 1))]) (st' := [.int (nI p), .ref 77, .int (nI m), .ref 79]) (h' := (shT, fi, pm_u2 fl 78 m ((fl 76 p) ||| (1 <<< ((nI c : Int32).toInt64 &&& 63))), fr)) rfl ?_
      refine g_iald (k := p) (x := fi 77 p) rfl rfl (rfl) (by omega) (by decide) (rfl) ?_
      refine g_n 2 (j' := 69) (lv' := [some (.ref 70), some (.int (nI c)), some (.int (nI m)), some (.int (nI p)), some (.int s), some (.int (nI 1))]) (st' := [.int (nI 1), .int s, .int (fi 77 p), .int (nI m), .ref 79]) (h' := (shT, fi, pm_u2 fl 78 m ((fl 76 p) ||| (1 <<< ((nI c : Int32).toInt64 &&& 63))), fr)) rfl ?_
      refine g_call (y := 196) (as := [.int s, .int (nI 1)]) (st' := [.int (fi 77 p), .int (nI m), .ref 79]) rfl rfl (eY) ?_
      refine g_n 1 (j' := 71) (lv' := [some (.ref 70), some (.int (nI c)), some (.int (nI m)), some (.int (nI p)), some (.int s), some (.int (nI 1))]) (st' := [.int ((fi 77 p) + Y), .int (nI m), .ref 79]) (h' := (shT, fi, pm_u2 fl 78 m ((fl 76 p) ||| (1 <<< ((nI c : Int32).toInt64 &&& 63))), fr)) rfl ?_
      refine g_iast (k := m) rfl rfl (rfl) (by omega) (by decide) ?_
      refine g_n 1 (j' := 73) (lv' := [some (.ref 70), some (.int (nI c)), some (.int (nI m)), some (.int (nI p)), some (.int s), some (.int (nI 1))]) (st' := [.ref 70]) (h' := (shT, pm_u2 fi 79 m ((fi 77 p) + Y), pm_u2 fl 78 m ((fl 76 p) ||| (1 <<< ((nI c : Int32).toInt64 &&& 63))), fr)) rfl ?_
      refine g_getR (q' := 80) rfl rfl (by decide) r_70_30 ?_
      refine g_n 2 (j' := 76) (lv' := [some (.ref 70), some (.int (nI c)), some (.int (nI m)), some (.int (nI p)), some (.int s), some (.int (nI 1))]) (st' := [.int (nI p), .int (nI m), .ref 80]) (h' := (shT, pm_u2 fi 79 m ((fi 77 p) + Y), pm_u2 fl 78 m ((fl 76 p) ||| (1 <<< ((nI c : Int32).toInt64 &&& 63))), fr)) rfl ?_
      refine g_iast (k := m) rfl rfl (rfl) (by omega) (by decide) ?_
      refine g_n 3 (j' := 30) (lv' := [some (.ref 70), some (.int (nI c)), some (.int ((nI m) + 1)), some (.int (nI p)), some (.int s), some (.int ((nI 1) + 1))]) (st' := []) (h' := (shT, pm_u2 (pm_u2 fi 79 m ((fi 77 p) + Y)) 80 m (nI p), pm_u2 fl 78 m ((fl 76 p) ||| (1 <<< ((nI c : Int32).toInt64 &&& 63))), fr)) rfl ?_
      rw [nI_1]
      exact g
