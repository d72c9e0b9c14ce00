def v_sum (b : Nat) (x : Int32) (v : VS) : VS := (v.1, v.2.1, fun s => if s = b then x else v.2.2 s)
def P_tell (y x : Int32) (a : AB) : Prop := (0 ≤ y ∧ y < (a_v a).1 1) ∧ (-127 ≤ x ∧ x ≤ 127)
theorem n_le {L : Bool} {h : PmH} {a : AB} (hI : HI hdT shT h) (hR : QC L h a) : 0 ≤ ((a_v a).1 1).toInt ∧ ((a_v a).1 1).toInt ≤ 64 := by
  have := hi_i (lo := 0) (hi := 64) hI (p := 1) (c := 1) rfl rfl (by decide)
  rw [hR.2.2.2.2.1.1 1 (by decide)] at this
  exact this
theorem ix_of {y n : Int32} (h0 : 0 ≤ n.toInt ∧ n.toInt ≤ 64) (hc : 0 ≤ y ∧ y < n) : ∃ b, b < 64 ∧ y = nI b ∧ (b : Int) < n.toInt := by
  have h1 := Int32.le_iff_toInt_le.mp hc.1
  have h2 := Int32.lt_iff_toInt_lt.mp hc.2
  rw [show (0 : Int32).toInt = 0 from rfl] at h1
  obtain ⟨b, e1, e2, -⟩ := i32_nI (y := y) h1
  exact ⟨b, by omega, e1, by omega⟩
theorem tel_C0 {L : Bool} {h : PmH} {a : AB} {y x : Int32} (hI : HI hdT shT h) (hR : QC L h a) (hP : ¬ P_tell y x a) : Ev pmT 69 [.ref 0, .int y, .int x] h (some (.int (-2147483648))) h := by
  have f := hR.2.2.2.2.1
  have c1 := f.1 1 (by decide)
  have k0 : ph_r h 0 0 = some 1 := hi_r hI rfl rfl (by decide)
  have t1 := hch1 (x := y) hI c1
  have t0 := hch0 (x := y) hI c1
  refine Ev.of (es := cd_69) (ml := 4) (lv := [some (.ref 0), some (.int y), some (.int x), none]) rfl rfl rfl ?_
  obtain ⟨S, fi, fl, fr⟩ := h
  have hS : S = shT := hI.1
  subst hS
  have k0 : fr 0 0 = some 1 := k0
  refine go_of ?_
  by_cases p1 : 0 ≤ y ∧ y < (a_v a).1 1
  · have p2 : ¬ (-127 ≤ x ∧ x ≤ 127) := fun z => hP ⟨p1, z⟩
    refine gp_n 1 (j' := 1) (lv' := [some (.ref 0), some (.int y), some (.int x), none]) (st' := [.ref 0]) (h' := (shT, fi, fl, fr)) rfl ?_
    refine gp_of (fun _ k9 => g_getR (q' := 1) rfl rfl (by decide) k0 k9) ?_
    refine gp_n 1 (j' := 3) (lv' := [some (.ref 0), some (.int y), some (.int x), none]) (st' := [.int y, .ref 1]) (h' := (shT, fi, fl, fr)) rfl ?_
    refine gp_of (fun _ k9 => g_call (y := 52) (as := [.ref 1, .int y]) (st' := []) rfl rfl (t1 p1) k9) ?_
    refine gp_of (fun _ k9 => g_iff rfl (show ¬ ((1 : Int32) = (0 : Int32)) from by decide) k9) ?_
    refine gp_n 2 (j' := 7) (lv' := [some (.ref 0), some (.int y), some (.int x), none]) (st' := [.int (-127), .int x]) (h' := (shT, fi, fl, fr)) rfl ?_
    refine gp_ic rfl (fun hd => ?_) (fun hd => ?_)
    · replace hd : x < ((-127) : Int32) := hd
      refine gp_n 1 (j' := 12) (lv' := [some (.ref 0), some (.int y), some (.int x), none]) (st' := [.int (-2147483648)]) (h' := (shT, fi, fl, fr)) rfl ?_
      refine gp_done (g_ret rfl) ?_
      rfl
    · replace hd : ¬ (x < ((-127) : Int32)) := hd
      refine gp_n 2 (j' := 10) (lv' := [some (.ref 0), some (.int y), some (.int x), none]) (st' := [.int 127, .int x]) (h' := (shT, fi, fl, fr)) rfl ?_
      refine gp_of (fun _ k9 => g_icf rfl (show ¬ (x ≤ (127 : Int32)) from fun z => p2 ⟨Int32.not_lt.mp hd, z⟩) k9) ?_
      refine gp_n 1 (j' := 12) (lv' := [some (.ref 0), some (.int y), some (.int x), none]) (st' := [.int (-2147483648)]) (h' := (shT, fi, fl, fr)) rfl ?_
      refine gp_done (g_ret rfl) ?_
      rfl
  · refine gp_n 1 (j' := 1) (lv' := [some (.ref 0), some (.int y), some (.int x), none]) (st' := [.ref 0]) (h' := (shT, fi, fl, fr)) rfl ?_
    refine gp_of (fun _ k9 => g_getR (q' := 1) rfl rfl (by decide) k0 k9) ?_
    refine gp_n 1 (j' := 3) (lv' := [some (.ref 0), some (.int y), some (.int x), none]) (st' := [.int y, .ref 1]) (h' := (shT, fi, fl, fr)) rfl ?_
    refine gp_of (fun _ k9 => g_call (y := 52) (as := [.ref 1, .int y]) (st' := []) rfl rfl (t0 p1) k9) ?_
    refine gp_of (fun _ k9 => g_ift rfl (show (0 : Int32) = (0 : Int32) from by decide) k9) ?_
    refine gp_n 1 (j' := 12) (lv' := [some (.ref 0), some (.int y), some (.int x), none]) (st' := [.int (-2147483648)]) (h' := (shT, fi, fl, fr)) rfl ?_
    refine gp_done (g_ret rfl) ?_
    rfl
theorem tel_C {L : Bool} {h : PmH} {a : AB} {b : Nat} {x : Int32} (hI : HI hdT shT h) (hR : QC L h a) (hq : a_q a ≤ 12) (hb : b < 64) (hP : P_tell (nI b) x a) : ∃ h', Ev pmT 69 [.ref 0, .int (nI b), .int x] h (some (.int (ph_i h 2 b))) h' ∧ QC L h' (a_setv (v_sum b x (a_v a)) (a_push a)) ∧ HI hdT shT h' ∧ fram (in_w iN_32) h h' := by
  have f := hR.2.2.2.2.1
  have c1 := f.1 1 (by decide)
  have k0 : ph_r h 0 0 = some 1 := hi_r hI rfl rfl (by decide)
  have t1 := hch1 (x := nI b) hI c1 hP.1
  obtain ⟨h1, ev1, R1, I1, F1⟩ := rem_ev hI hR hq
  have f1 := R1.2.2.2.2.1
  have d2 : ph_i h1 2 b = ph_i h 2 b := (F1 2 b rfl).1
  have m0 : ph_r h1 0 0 = some 1 := hi_r I1 rfl rfl (by decide)
  have m8 : ph_r h1 1 8 = some 2 := hi_r I1 rfl rfl (by decide)
  have ev : Ev pmT 69 [.ref 0, .int (nI b), .int x] h (some (.int (ph_i h 2 b))) (h_i h1 2 b x) := by
    refine Ev.of (es := cd_69) (ml := 4) (lv := [some (.ref 0), some (.int (nI b)), some (.int x), none]) rfl rfl rfl ?_
    obtain ⟨S1, fi1, fl1, fr1⟩ := h1
    have s1 : S1 = shT := I1.1
    subst s1
    obtain ⟨S, fi, fl, fr⟩ := h
    have hS : S = shT := hI.1
    subst hS
    have k0 : fr 0 0 = some 1 := k0
    have m0 : fr1 0 0 = some 1 := m0
    have m8 : fr1 1 8 = some 2 := m8
    have d2 : fi1 2 b = fi 2 b := d2
    refine go_of ?_
    refine gp_n 1 (j' := 1) (lv' := [some (.ref 0), some (.int (nI b)), some (.int x), none]) (st' := [.ref 0]) (h' := (shT, fi, fl, fr)) rfl ?_
    refine gp_of (fun _ k9 => g_getR (q' := 1) rfl rfl (by decide) k0 k9) ?_
    refine gp_n 1 (j' := 3) (lv' := [some (.ref 0), some (.int (nI b)), some (.int x), none]) (st' := [.int (nI b), .ref 1]) (h' := (shT, fi, fl, fr)) rfl ?_
    refine gp_of (fun _ k9 => g_call (y := 52) (as := [.ref 1, .int (nI b)]) (st' := []) rfl rfl (t1) k9) ?_
    refine gp_of (fun _ k9 => g_iff rfl (show ¬ ((1 : Int32) = (0 : Int32)) from by decide) k9) ?_
    refine gp_n 2 (j' := 7) (lv' := [some (.ref 0), some (.int (nI b)), some (.int x), none]) (st' := [.int (-127), .int x]) (h' := (shT, fi, fl, fr)) rfl ?_
    refine gp_of (fun _ k9 => g_icf rfl (show ¬ (x < ((-127) : Int32)) from Int32.not_lt.mpr hP.2.1) k9) ?_
    refine gp_n 2 (j' := 10) (lv' := [some (.ref 0), some (.int (nI b)), some (.int x), none]) (st' := [.int 127, .int x]) (h' := (shT, fi, fl, fr)) rfl ?_
    refine gp_of (fun _ k9 => g_ict rfl (show x ≤ (127 : Int32) from hP.2.2) k9) ?_
    refine gp_n 1 (j' := 14) (lv' := [some (.ref 0), some (.int (nI b)), some (.int x), none]) (st' := [.ref 0]) (h' := (shT, fi, fl, fr)) rfl ?_
    refine gp_of (fun _ k9 => g_callv (y := 49) (as := [.ref 0]) (st' := []) rfl rfl (ev1) k9) ?_
    refine gp_n 1 (j' := 16) (lv' := [some (.ref 0), some (.int (nI b)), some (.int x), none]) (st' := [.ref 0]) (h' := (shT, fi1, fl1, fr1)) rfl ?_
    refine gp_of (fun _ k9 => g_getR (q' := 1) rfl rfl (by decide) m0 k9) ?_
    refine gp_of (fun _ k9 => g_getR (q' := 2) rfl rfl (by decide) m8 k9) ?_
    refine gp_n 1 (j' := 19) (lv' := [some (.ref 0), some (.int (nI b)), some (.int x), none]) (st' := [.int (nI b), .ref 2]) (h' := (shT, fi1, fl1, fr1)) rfl ?_
    refine gp_of (fun _ k9 => g_iald (k := b) (x := fi 2 b) rfl rfl (rfl) (by omega) (by decide) (d2) k9) ?_
    refine gp_n 2 (j' := 22) (lv' := [some (.ref 0), some (.int (nI b)), some (.int x), some (.int (fi 2 b))]) (st' := [.ref 0]) (h' := (shT, fi1, fl1, fr1)) rfl ?_
    refine gp_of (fun _ k9 => g_getR (q' := 1) rfl rfl (by decide) m0 k9) ?_
    refine gp_of (fun _ k9 => g_getR (q' := 2) rfl rfl (by decide) m8 k9) ?_
    refine gp_n 2 (j' := 26) (lv' := [some (.ref 0), some (.int (nI b)), some (.int x), some (.int (fi 2 b))]) (st' := [.int x, .int (nI b), .ref 2]) (h' := (shT, fi1, fl1, fr1)) rfl ?_
    refine gp_of (fun _ k9 => g_iast (k := b) rfl rfl (rfl) (by omega) (by decide) k9) ?_
    refine gp_n 1 (j' := 28) (lv' := [some (.ref 0), some (.int (nI b)), some (.int x), some (.int (fi 2 b))]) (st' := [.int (fi 2 b)]) (h' := (shT, pm_u2 fi1 2 b x, fl1, fr1)) rfl ?_
    refine gp_done (g_ret rfl) ?_
    rfl
  obtain ⟨J1, J2⟩ := iv_s vN_32 (as := [.ref 0, .int (nI b), .int x]) rfl (fun _ _ => gz_c (gz_r (by decide)) (gz_c (gz_a _) (gz_c (gz_a _) gz_n))) hI ev
  refine ⟨_, ev, QC_v R1 (fun p s _ h2 => h_n (by omega)) (fun _ _ _ => rfl) (fun _ _ => rfl) ⟨fun i hi => (h_n (by omega)).trans (f1.1 i hi), fun hL => ⟨(f1.2 hL).1, fun s hs => ?_⟩⟩, J1, J2⟩
  show ph_i (h_i h1 2 b x) 2 s = if s = b then x else (a_v a).2.2 s
  by_cases h6 : s = b
  · subst h6
    rw [if_pos rfl]
    exact h_e
  · rw [if_neg h6, h_n (by omega)]
    exact (f1.2 hL).2 s hs
theorem tel_M0 {L : Bool} {h : PmH} {a : AB} {y x : Int32} (hI : HI hdT shT h) (hR : QM L h a) (hP : ¬ P_tell y x a) : Ev pmT 181 [.ref 70, .int y, .int x] h (some (.int (-2147483648))) h := by
  have f := hR.2.2.2.2.1
  have c1 : ph_i h 70 14 = (a_v a).1 1 := f.1 0 (by decide)
  have t1 := ich1 (x := y) hI c1
  have t0 := ich0 (x := y) hI c1
  have l0 := isin_0 (x := x) (-127) 127 (l1 := -127) (l2 := 127) (h := h) (by decide) (by decide)
  refine Ev.of (es := cd_181) (ml := 4) (lv := [some (.ref 70), some (.int y), some (.int x), none]) rfl rfl rfl ?_
  obtain ⟨S, fi, fl, fr⟩ := h
  have hS : S = shT := hI.1
  subst hS
  refine go_of ?_
  by_cases p1 : 0 ≤ y ∧ y < (a_v a).1 1
  · have p2 : ¬ (-127 ≤ x ∧ x ≤ 127) := fun z => hP ⟨p1, z⟩
    refine gp_n 2 (j' := 2) (lv' := [some (.ref 70), some (.int y), some (.int x), none]) (st' := [.int y, .ref 70]) (h' := (shT, fi, fl, fr)) rfl ?_
    refine gp_of (fun _ k9 => g_call (y := 168) (as := [.ref 70, .int y]) (st' := []) rfl rfl (t1 p1) k9) ?_
    refine gp_of (fun _ k9 => g_iff rfl (show ¬ ((1 : Int32) = (0 : Int32)) from by decide) k9) ?_
    refine gp_n 4 (j' := 8) (lv' := [some (.ref 70), some (.int y), some (.int x), none]) (st' := [.long 127, .long (-127), .long x.toInt64]) (h' := (shT, fi, fl, fr)) rfl ?_
    refine gp_of (fun _ k9 => g_call (y := 148) (as := [.long x.toInt64, .long (-127), .long 127]) (st' := []) rfl rfl (l0 p2) k9) ?_
    refine gp_of (fun _ k9 => g_iff rfl (show ¬ (¬ (0 : Int32) = (0 : Int32)) from by decide) k9) ?_
    refine gp_n 1 (j' := 11) (lv' := [some (.ref 70), some (.int y), some (.int x), none]) (st' := [.int (-2147483648)]) (h' := (shT, fi, fl, fr)) rfl ?_
    refine gp_done (g_ret rfl) ?_
    rfl
  · refine gp_n 2 (j' := 2) (lv' := [some (.ref 70), some (.int y), some (.int x), none]) (st' := [.int y, .ref 70]) (h' := (shT, fi, fl, fr)) rfl ?_
    refine gp_of (fun _ k9 => g_call (y := 168) (as := [.ref 70, .int y]) (st' := []) rfl rfl (t0 p1) k9) ?_
    refine gp_of (fun _ k9 => g_ift rfl (show (0 : Int32) = (0 : Int32) from by decide) k9) ?_
    refine gp_n 1 (j' := 11) (lv' := [some (.ref 70), some (.int y), some (.int x), none]) (st' := [.int (-2147483648)]) (h' := (shT, fi, fl, fr)) rfl ?_
    refine gp_done (g_ret rfl) ?_
    rfl
theorem tel_M {L : Bool} {h : PmH} {a : AB} {b : Nat} {x : Int32} (hI : HI hdT shT h) (hR : QM L h a) (hq : a_q a ≤ 12) (hb : b < 64) (hP : P_tell (nI b) x a) : ∃ h', Ev pmT 181 [.ref 70, .int (nI b), .int x] h (some (.int (ph_i h 74 b))) h' ∧ QM L h' (a_setv (v_sum b x (a_v a)) (a_push a)) ∧ HI hdT shT h' ∧ fram (in_w iN_186) h h' := by
  have f := hR.2.2.2.2.1
  have c1 : ph_i h 70 14 = (a_v a).1 1 := f.1 0 (by decide)
  have t1 := ich1 (x := nI b) hI c1 hP.1
  have l1 := isin_1 (x := x) (-127) 127 (l1 := -127) (l2 := 127) (h := h) (by decide) (by decide) hP.2
  obtain ⟨h1, ev1, R1, I1, F1⟩ := ka_ev hI hR hq
  have f1 := R1.2.2.2.2.1
  have d2 : ph_i h1 74 b = ph_i h 74 b := (F1 74 b rfl).1
  have m22 : ph_r h1 70 22 = some 74 := hi_r I1 rfl rfl (by decide)
  have ev : Ev pmT 181 [.ref 70, .int (nI b), .int x] h (some (.int (ph_i h 74 b))) (h_i h1 74 b x) := by
    refine Ev.of (es := cd_181) (ml := 4) (lv := [some (.ref 70), some (.int (nI b)), some (.int x), none]) rfl rfl rfl ?_
    obtain ⟨S1, fi1, fl1, fr1⟩ := h1
    have s1 : S1 = shT := I1.1
    subst s1
    obtain ⟨S, fi, fl, fr⟩ := h
    have hS : S = shT := hI.1
    subst hS
    have m22 : fr1 70 22 = some 74 := m22
    have d2 : fi1 74 b = fi 74 b := d2
    refine go_of ?_
    refine gp_n 2 (j' := 2) (lv' := [some (.ref 70), some (.int (nI b)), some (.int x), none]) (st' := [.int (nI b), .ref 70]) (h' := (shT, fi, fl, fr)) rfl ?_
    refine gp_of (fun _ k9 => g_call (y := 168) (as := [.ref 70, .int (nI b)]) (st' := []) rfl rfl (t1) k9) ?_
    refine gp_of (fun _ k9 => g_iff rfl (show ¬ ((1 : Int32) = (0 : Int32)) from by decide) k9) ?_
    refine gp_n 4 (j' := 8) (lv' := [some (.ref 70), some (.int (nI b)), some (.int x), none]) (st' := [.long 127, .long (-127), .long x.toInt64]) (h' := (shT, fi, fl, fr)) rfl ?_
    refine gp_of (fun _ k9 => g_call (y := 148) (as := [.long x.toInt64, .long (-127), .long 127]) (st' := []) rfl rfl (l1) k9) ?_
    refine gp_of (fun _ k9 => g_ift rfl (show ¬ (1 : Int32) = (0 : Int32) from by decide) k9) ?_
    refine gp_n 1 (j' := 13) (lv' := [some (.ref 70), some (.int (nI b)), some (.int x), none]) (st' := [.ref 70]) (h' := (shT, fi, fl, fr)) rfl ?_
    refine gp_of (fun _ k9 => g_callv (y := 162) (as := [.ref 70]) (st' := []) rfl rfl (ev1) k9) ?_
    refine gp_n 1 (j' := 15) (lv' := [some (.ref 70), some (.int (nI b)), some (.int x), none]) (st' := [.ref 70]) (h' := (shT, fi1, fl1, fr1)) rfl ?_
    refine gp_of (fun _ k9 => g_getR (q' := 74) rfl rfl (by decide) m22 k9) ?_
    refine gp_n 1 (j' := 17) (lv' := [some (.ref 70), some (.int (nI b)), some (.int x), none]) (st' := [.int (nI b), .ref 74]) (h' := (shT, fi1, fl1, fr1)) rfl ?_
    refine gp_of (fun _ k9 => g_iald (k := b) (x := fi 74 b) rfl rfl (rfl) (by omega) (by decide) (d2) k9) ?_
    refine gp_n 2 (j' := 20) (lv' := [some (.ref 70), some (.int (nI b)), some (.int x), some (.int (fi 74 b))]) (st' := [.ref 70]) (h' := (shT, fi1, fl1, fr1)) rfl ?_
    refine gp_of (fun _ k9 => g_getR (q' := 74) rfl rfl (by decide) m22 k9) ?_
    refine gp_n 2 (j' := 23) (lv' := [some (.ref 70), some (.int (nI b)), some (.int x), some (.int (fi 74 b))]) (st' := [.int x, .int (nI b), .ref 74]) (h' := (shT, fi1, fl1, fr1)) rfl ?_
    refine gp_of (fun _ k9 => g_iast (k := b) rfl rfl (rfl) (by omega) (by decide) k9) ?_
    refine gp_n 1 (j' := 25) (lv' := [some (.ref 70), some (.int (nI b)), some (.int x), some (.int (fi 74 b))]) (st' := [.int (fi 74 b)]) (h' := (shT, pm_u2 fi1 74 b x, fl1, fr1)) rfl ?_
    refine gp_done (g_ret rfl) ?_
    rfl
  obtain ⟨J1, J2⟩ := iv_s vN_186 (as := [.ref 70, .int (nI b), .int x]) rfl (fun _ _ => gz_c (gz_r (by decide)) (gz_c (gz_a _) (gz_c (gz_a _) gz_n))) hI ev
  refine ⟨_, ev, QM_v R1 (fun p s _ h2 => h_n (by omega)) (fun _ _ _ => rfl) ⟨fun i hi => (h_n (by omega)).trans (f1.1 i hi), fun hL => ⟨(f1.2 hL).1, fun s hs => ?_⟩⟩, J1, J2⟩
  show ph_i (h_i h1 74 b x) 74 s = if s = b then x else (a_v a).2.2 s
  by_cases h6 : s = b
  · subst h6
    rw [if_pos rfl]
    exact h_e
  · rw [if_neg h6, h_n (by omega)]
    exact (f1.2 hL).2 s hs
def a_tape (t : Nat) (a : AB) : AB := (t, a_tb a, a_x a, a_v a, a_q a, a_p a, a_m a)
theorem QC_t {L : Bool} {h h' : PmH} {a : AB} {t : Nat} (hr : QC L h a) (e0 : ph_i h' 6 1 = nI t) (e1 : ∀ p s, ¬ (p = 6 ∧ s = 1) → ph_i h' p s = ph_i h p s) (e2 : ∀ p s, ph_l h' p s = ph_l h p s) (e3 : ∀ p s, ph_r h' p s = ph_r h p s) : QC L h' (a_tape t a) := by
  obtain ⟨⟨a1, a2, a3⟩, b, c, d, f, g, ⟨e, q1, q2, q3⟩, i⟩ := hr
  have cd : ∀ o v, ¬ o = 5 → ¬ o = 6 → csC L h o v → csC L h' o v := fun o v ho h6 hc => csC_fr hc (fun i _ => e1 _ _ (by omega)) (e2 _ _) (fun s _ => e1 _ _ (by omega))
  refine ⟨⟨fun j hj => (e3 3 j).trans (a1 j hj), fun j hj => (e3 4 j).trans (a2 j hj), fun s hs => (e1 10 s (by omega)).trans (a3 s hs)⟩, e0, fun s => (e1 7 s (by omega)).trans (c s), fun hL => (e1 0 13 (by omega)).trans (d hL), cd 1 _ (by omega) (by omega) f, (e1 0 3 (by omega)).trans g, ⟨e, q1, (e1 0 2 (by omega)).trans q2, fun k hk => cd _ _ (by have := pst_in (e := e) (i := k); omega) (by have := pst_in (e := e) (i := k); omega) (q3 k hk)⟩, fun k hk => ?_⟩
  have ik := i k hk
  show match a_m a k with
    | none => _
    | some v => _
  cases hm : a_m a k with
  | none =>
    rw [hm] at ik
    exact (e1 5 k (by omega)).trans ik
  | some v =>
    rw [hm] at ik
    exact ⟨(e1 5 k (by omega)).trans ik.1, cd _ _ (by omega) (by omega) ik.2⟩
theorem QM_t {L : Bool} {h h' : PmH} {a : AB} {t : Nat} (hr : QM L h a) (e0 : ph_i h' 70 1 = nI t) (e1 : ∀ p s, ¬ (p = 70 ∧ s = 1) → ph_i h' p s = ph_i h p s) (e2 : ∀ p s, ph_l h' p s = ph_l h p s) : QM L h' (a_tape t a) := by
  obtain ⟨a1, b, c, d, f, g, q, i⟩ := hr
  have ch : ∀ r v, csH L h r v → csH L h' r v := fun r v hc => csH_fr hc (fun j _ => e1 _ _ (by omega)) (e2 _ _) (fun s _ => e1 _ _ (by omega))
  refine ⟨fun j hj => (e1 _ _ (by omega)).trans (a1 j hj), e0, fun s => (e1 _ _ (by omega)).trans (c s), fun hL => (e1 _ _ (by omega)).trans (d hL), csM_fr f (fun j _ => e1 _ _ (by omega)) (e2 _ _) (fun s _ => e1 _ _ (by omega)), (e1 _ _ (by omega)).trans g, fun k hk => ch _ _ (q k hk), fun k hk => ?_⟩
  have ik := i k hk
  show match a_m a k with
    | none => _
    | some v => _
  cases hm : a_m a k with
  | none =>
    rw [hm] at ik
    exact (e1 _ _ (by omega)).trans ik
  | some v =>
    rw [hm] at ik
    exact ⟨(e1 _ _ (by omega)).trans ik.1, ch _ _ ik.2⟩
def P_end (x : Int32) (a : AB) : Prop := 0 ≤ x ∧ x ≤ nI (a_tl a)
theorem end_C0 {L : Bool} {h : PmH} {a : AB} {x : Int32} (hI : HI hdT shT h) (hR : QC L h a) (hP : ¬ P_end x a) : Ev pmT 12 [.ref 0, .int x] h (some (.int (-1))) h := by
  have b := hR.2.1
  have k6 : ph_r h 0 6 = some 6 := hi_r hI rfl rfl (by decide)
  refine Ev.of (es := cd_12) (ml := 2) (lv := [some (.ref 0), some (.int x)]) rfl rfl rfl ?_
  obtain ⟨S, fi, fl, fr⟩ := h
  have hS : S = shT := hI.1
  subst hS
  have k6 : fr 0 6 = some 6 := k6
  have b : fi 6 1 = nI (a_tl a) := b
  refine go_of ?_
  refine gp_n 1 (j' := 1) (lv' := [some (.ref 0), some (.int x)]) (st' := [.int x]) (h' := (shT, fi, fl, fr)) rfl ?_
  refine gp_if rfl (fun hd => ?_) (fun hd => ?_)
  · replace hd : x < (0 : Int32) := hd
    refine gp_n 1 (j' := 8) (lv' := [some (.ref 0), some (.int x)]) (st' := [.int (-1)]) (h' := (shT, fi, fl, fr)) rfl ?_
    refine gp_done (g_ret rfl) ?_
    rfl
  · replace hd : ¬ (x < (0 : Int32)) := hd
    refine gp_n 2 (j' := 4) (lv' := [some (.ref 0), some (.int x)]) (st' := [.ref 0, .int x]) (h' := (shT, fi, fl, fr)) rfl ?_
    refine gp_of (fun _ k9 => g_getR (q' := 6) rfl rfl (by decide) k6 k9) ?_
    refine gp_of (fun _ k9 => g_getI (x := nI (a_tl a)) rfl (Or.inl rfl) rfl (by decide) (b) k9) ?_
    refine gp_of (fun _ k9 => g_icf rfl (show ¬ (x ≤ (nI (a_tl a))) from fun z => hP ⟨Int32.not_lt.mp hd, z⟩) k9) ?_
    refine gp_n 1 (j' := 8) (lv' := [some (.ref 0), some (.int x)]) (st' := [.int (-1)]) (h' := (shT, fi, fl, fr)) rfl ?_
    refine gp_done (g_ret rfl) ?_
    rfl
theorem end_C {L : Bool} {h : PmH} {a : AB} {t : Nat} (hI : HI hdT shT h) (hR : QC L h a) (ht : t ≤ a_tl a) (h2 : a_tl a ≤ 200) : ∃ h', Ev pmT 12 [.ref 0, .int (nI t)] h (some (.int (nI t))) h' ∧ QC L h' (a_tape t a) ∧ HI hdT shT h' ∧ fram (in_w iN_2) h h' := by
  have b := hR.2.1
  have k6 : ph_r h 0 6 = some 6 := hi_r hI rfl rfl (by decide)
  have ev : Ev pmT 12 [.ref 0, .int (nI t)] h (some (.int (nI t))) (h_i h 6 1 (nI t)) := by
    refine Ev.of (es := cd_12) (ml := 2) (lv := [some (.ref 0), some (.int (nI t))]) rfl rfl rfl ?_
    obtain ⟨S, fi, fl, fr⟩ := h
    have hS : S = shT := hI.1
    subst hS
    have k6 : fr 0 6 = some 6 := k6
    have b : fi 6 1 = nI (a_tl a) := b
    refine go_of ?_
    refine gp_n 1 (j' := 1) (lv' := [some (.ref 0), some (.int (nI t))]) (st' := [.int (nI t)]) (h' := (shT, fi, fl, fr)) rfl ?_
    refine gp_of (fun _ k9 => g_iff rfl (show ¬ ((nI t) < (0 : Int32)) from nI_pos (by omega)) k9) ?_
    refine gp_n 2 (j' := 4) (lv' := [some (.ref 0), some (.int (nI t))]) (st' := [.ref 0, .int (nI t)]) (h' := (shT, fi, fl, fr)) rfl ?_
    refine gp_of (fun _ k9 => g_getR (q' := 6) rfl rfl (by decide) k6 k9) ?_
    refine gp_of (fun _ k9 => g_getI (x := nI (a_tl a)) rfl (Or.inl rfl) rfl (by decide) (b) k9) ?_
    refine gp_of (fun _ k9 => g_ict rfl (show (nI t) ≤ (nI (a_tl a)) from nI_le ht (by omega)) k9) ?_
    refine gp_n 1 (j' := 10) (lv' := [some (.ref 0), some (.int (nI t))]) (st' := [.ref 0]) (h' := (shT, fi, fl, fr)) rfl ?_
    refine gp_of (fun _ k9 => g_getR (q' := 6) rfl rfl (by decide) k6 k9) ?_
    refine gp_n 1 (j' := 12) (lv' := [some (.ref 0), some (.int (nI t))]) (st' := [.int (nI t), .ref 6]) (h' := (shT, fi, fl, fr)) rfl ?_
    refine gp_of (fun _ k9 => g_putI rfl (Or.inl rfl) rfl (by decide) k9) ?_
    refine gp_n 1 (j' := 14) (lv' := [some (.ref 0), some (.int (nI t))]) (st' := [.int (nI t)]) (h' := (shT, pm_u2 fi 6 1 (nI t), fl, fr)) rfl ?_
    refine gp_done (g_ret rfl) ?_
    rfl
  obtain ⟨J1, J2⟩ := iv_s vN_2 (as := [.ref 0, .int (nI t)]) rfl (fun _ _ => gz_c (gz_r (by decide)) (gz_c (gz_a _) gz_n)) hI ev
  exact ⟨_, ev, QC_t hR h_e (fun p s hp => h_n hp) (fun _ _ => rfl) (fun _ _ => rfl), J1, J2⟩
theorem end_M0 {L : Bool} {h : PmH} {a : AB} {x : Int32} (hI : HI hdT shT h) (hR : QM L h a) (hP : ¬ P_end x a) : Ev pmT 147 [.ref 70, .int x] h (some (.int (-1))) h := by
  have b := hR.2.1
  have l0 := isin_0 (x := x) 0 (nI (a_tl a)) (l1 := 0) (h := h) (by decide) rfl hP
  refine Ev.of (es := cd_147) (ml := 2) (lv := [some (.ref 70), some (.int x)]) rfl rfl rfl ?_
  obtain ⟨S, fi, fl, fr⟩ := h
  have hS : S = shT := hI.1
  subst hS
  have b : fi 70 1 = nI (a_tl a) := b
  refine go_of ?_
  refine gp_n 4 (j' := 4) (lv' := [some (.ref 70), some (.int x)]) (st' := [.ref 70, .long 0, .long x.toInt64]) (h' := (shT, fi, fl, fr)) rfl ?_
  refine gp_of (fun _ k9 => g_getI (x := nI (a_tl a)) rfl (Or.inl rfl) rfl (by decide) (b) k9) ?_
  refine gp_n 1 (j' := 6) (lv' := [some (.ref 70), some (.int x)]) (st' := [.long ((nI (a_tl a)).toInt64), .long 0, .long x.toInt64]) (h' := (shT, fi, fl, fr)) rfl ?_
  refine gp_of (fun _ k9 => g_call (y := 148) (as := [.long x.toInt64, .long 0, .long ((nI (a_tl a)).toInt64)]) (st' := []) rfl rfl (l0) k9) ?_
  refine gp_of (fun _ k9 => g_iff rfl (show ¬ (¬ (0 : Int32) = (0 : Int32)) from by decide) k9) ?_
  refine gp_n 1 (j' := 9) (lv' := [some (.ref 70), some (.int x)]) (st' := [.int (-1)]) (h' := (shT, fi, fl, fr)) rfl ?_
  refine gp_done (g_ret rfl) ?_
  rfl
theorem end_M {L : Bool} {h : PmH} {a : AB} {t : Nat} (hI : HI hdT shT h) (hR : QM L h a) (ht : t ≤ a_tl a) (h2 : a_tl a ≤ 200) : ∃ h', Ev pmT 147 [.ref 70, .int (nI t)] h (some (.int (nI t))) h' ∧ QM L h' (a_tape t a) ∧ HI hdT shT h' ∧ fram (in_w iN_164) h h' := by
  have b := hR.2.1
  have l1 := isin_1 (x := nI t) 0 (nI (a_tl a)) (l1 := 0) (h := h) (by decide) rfl ⟨nI_pos' (by omega), nI_le ht (by omega)⟩
  have ev : Ev pmT 147 [.ref 70, .int (nI t)] h (some (.int (nI t))) (h_i h 70 1 (nI t)) := by
    refine Ev.of (es := cd_147) (ml := 2) (lv := [some (.ref 70), some (.int (nI t))]) rfl rfl rfl ?_
    obtain ⟨S, fi, fl, fr⟩ := h
    have hS : S = shT := hI.1
    subst hS
    have b : fi 70 1 = nI (a_tl a) := b
    refine go_of ?_
    refine gp_n 4 (j' := 4) (lv' := [some (.ref 70), some (.int (nI t))]) (st' := [.ref 70, .long 0, .long ((nI t).toInt64)]) (h' := (shT, fi, fl, fr)) rfl ?_
    refine gp_of (fun _ k9 => g_getI (x := nI (a_tl a)) rfl (Or.inl rfl) rfl (by decide) (b) k9) ?_
    refine gp_n 1 (j' := 6) (lv' := [some (.ref 70), some (.int (nI t))]) (st' := [.long ((nI (a_tl a)).toInt64), .long 0, .long ((nI t).toInt64)]) (h' := (shT, fi, fl, fr)) rfl ?_
    refine gp_of (fun _ k9 => g_call (y := 148) (as := [.long ((nI t).toInt64), .long 0, .long ((nI (a_tl a)).toInt64)]) (st' := []) rfl rfl (l1) k9) ?_
    refine gp_of (fun _ k9 => g_ift rfl (show ¬ (1 : Int32) = (0 : Int32) from by decide) k9) ?_
    refine gp_n 2 (j' := 12) (lv' := [some (.ref 70), some (.int (nI t))]) (st' := [.int (nI t), .ref 70]) (h' := (shT, fi, fl, fr)) rfl ?_
    refine gp_of (fun _ k9 => g_putI rfl (Or.inl rfl) rfl (by decide) k9) ?_
    refine gp_n 1 (j' := 14) (lv' := [some (.ref 70), some (.int (nI t))]) (st' := [.int (nI t)]) (h' := (shT, pm_u2 fi 70 1 (nI t), fl, fr)) rfl ?_
    refine gp_done (g_ret rfl) ?_
    rfl
  obtain ⟨J1, J2⟩ := iv_s vN_164 (as := [.ref 70, .int (nI t)]) rfl (fun _ _ => gz_c (gz_r (by decide)) (gz_c (gz_a _) gz_n)) hI ev
  exact ⟨_, ev, QM_t hR h_e (fun p s hp => h_n hp) (fun _ _ => rfl), J1, J2⟩
def a_setx (x : Int32) (a : AB) : AB := (a_tl a, a_tb a, x, a_v a, a_q a, a_p a, a_m a)
theorem drw_C0 {h : PmH} {x : Int32} (hI : HI hdT shT h) (hP : x < 0) : Ev pmT 137 [.ref 0, .int x] h (some (.int (-1))) h := by
  refine Ev.of (es := cd_137) (ml := 3) (lv := [some (.ref 0), some (.int x), none]) rfl rfl rfl ?_
  obtain ⟨S, fi, fl, fr⟩ := h
  have hS : S = shT := hI.1
  subst hS
  refine go_of ?_
  refine gp_n 1 (j' := 1) (lv' := [some (.ref 0), some (.int x), none]) (st' := [.int x]) (h' := (shT, fi, fl, fr)) rfl ?_
  refine gp_of (fun _ k9 => g_iff rfl (show ¬ ((0 : Int32) ≤ x) from Int32.not_le.mpr hP) k9) ?_
  refine gp_n 1 (j' := 3) (lv' := [some (.ref 0), some (.int x), none]) (st' := [.int (-1)]) (h' := (shT, fi, fl, fr)) rfl ?_
  refine gp_done (g_ret rfl) ?_
  rfl
theorem drw_M0 {h : PmH} {x : Int32} (hI : HI hdT shT h) (hP : x < 0) : Ev pmT 226 [.ref 70, .int x] h (some (.int (-1))) h := by
  refine Ev.of (es := cd_226) (ml := 3) (lv := [some (.ref 70), some (.int x), none]) rfl rfl rfl ?_
  obtain ⟨S, fi, fl, fr⟩ := h
  have hS : S = shT := hI.1
  subst hS
  refine go_of ?_
  refine gp_n 1 (j' := 1) (lv' := [some (.ref 70), some (.int x), none]) (st' := [.int x]) (h' := (shT, fi, fl, fr)) rfl ?_
  refine gp_of (fun _ k9 => g_iff rfl (show ¬ ((0 : Int32) ≤ x) from Int32.not_le.mpr hP) k9) ?_
  refine gp_n 1 (j' := 3) (lv' := [some (.ref 70), some (.int x), none]) (st' := [.int (-1)]) (h' := (shT, fi, fl, fr)) rfl ?_
  refine gp_done (g_ret rfl) ?_
  rfl
theorem drw_C {L : Bool} {h : PmH} {a : AB} {x : Int32} (hI : HI hdT shT h) (hR : QC L h a) (hP : 0 ≤ x) : ∃ h', Ev pmT 137 [.ref 0, .int x] h (some (.int (ph_i h 0 13))) h' ∧ QC L h' (a_setx x a) ∧ HI hdT shT h' ∧ fram (in_w iN_150) h h' := by
  have ev : Ev pmT 137 [.ref 0, .int x] h (some (.int (ph_i h 0 13))) (h_i h 0 13 x) := by
    refine Ev.of (es := cd_137) (ml := 3) (lv := [some (.ref 0), some (.int x), none]) rfl rfl rfl ?_
    obtain ⟨S, fi, fl, fr⟩ := h
    have hS : S = shT := hI.1
    subst hS
    refine go_of ?_
    refine gp_n 1 (j' := 1) (lv' := [some (.ref 0), some (.int x), none]) (st' := [.int x]) (h' := (shT, fi, fl, fr)) rfl ?_
    refine gp_of (fun _ k9 => g_ift rfl (show (0 : Int32) ≤ x from hP) k9) ?_
    refine gp_n 1 (j' := 5) (lv' := [some (.ref 0), some (.int x), none]) (st' := [.ref 0]) (h' := (shT, fi, fl, fr)) rfl ?_
    refine gp_of (fun _ k9 => g_getI (x := fi 0 13) rfl (Or.inl rfl) rfl (by decide) (rfl) k9) ?_
    refine gp_n 3 (j' := 9) (lv' := [some (.ref 0), some (.int x), some (.int (fi 0 13))]) (st' := [.int x, .ref 0]) (h' := (shT, fi, fl, fr)) rfl ?_
    refine gp_of (fun _ k9 => g_putI rfl (Or.inl rfl) rfl (by decide) k9) ?_
    refine gp_n 1 (j' := 11) (lv' := [some (.ref 0), some (.int x), some (.int (fi 0 13))]) (st' := [.int (fi 0 13)]) (h' := (shT, pm_u2 fi 0 13 x, fl, fr)) rfl ?_
    refine gp_done (g_ret rfl) ?_
    rfl
  obtain ⟨J1, J2⟩ := iv_s vN_150 (as := [.ref 0, .int x]) rfl (fun _ _ => gz_c (gz_r (by decide)) (gz_c (gz_a _) gz_n)) hI ev
  refine ⟨_, ev, ?_, J1, J2⟩
  obtain ⟨⟨a1, a2, a3⟩, b, c, d, f, g, ⟨e, q1, q2, q3⟩, i⟩ := hR
  have e1 : ∀ p s, ¬ (p = 0 ∧ s = 13) → ph_i (h_i h 0 13 x) p s = ph_i h p s := fun p s hp => h_n hp
  have cd : ∀ o v, 1 ≤ o → csC L h o v → csC L (h_i h 0 13 x) o v := fun o v ho hc => csC_fr hc (fun i _ => e1 _ _ (by omega)) rfl (fun s _ => e1 _ _ (by omega))
  refine ⟨⟨a1, a2, fun s hs => (e1 10 s (by omega)).trans (a3 s hs)⟩, (e1 6 1 (by omega)).trans b, fun s => (e1 7 s (by omega)).trans (c s), fun hL => h_e, cd 1 _ (by omega) f, (e1 0 3 (by omega)).trans g, ⟨e, q1, (e1 0 2 (by omega)).trans q2, fun k hk => cd _ _ (by have := pst_in (e := e) (i := k); omega) (q3 k hk)⟩, fun k hk => ?_⟩
  have ik := i k hk
  show match a_m a k with
    | none => _
    | some v => _
  cases hm : a_m a k with
  | none =>
    rw [hm] at ik
    exact (e1 5 k (by omega)).trans ik
  | some v =>
    rw [hm] at ik
    exact ⟨(e1 5 k (by omega)).trans ik.1, cd _ _ (by omega) ik.2⟩
theorem drw_M {L : Bool} {h : PmH} {a : AB} {x : Int32} (hI : HI hdT shT h) (hR : QM L h a) (hP : 0 ≤ x) : ∃ h', Ev pmT 226 [.ref 70, .int x] h (some (.int (ph_i h 70 23))) h' ∧ QM L h' (a_setx x a) ∧ HI hdT shT h' ∧ fram (in_w iN_238) h h' := by
  have ev : Ev pmT 226 [.ref 70, .int x] h (some (.int (ph_i h 70 23))) (h_i h 70 23 x) := by
    refine Ev.of (es := cd_226) (ml := 3) (lv := [some (.ref 70), some (.int x), none]) rfl rfl rfl ?_
    obtain ⟨S, fi, fl, fr⟩ := h
    have hS : S = shT := hI.1
    subst hS
    refine go_of ?_
    refine gp_n 1 (j' := 1) (lv' := [some (.ref 70), some (.int x), none]) (st' := [.int x]) (h' := (shT, fi, fl, fr)) rfl ?_
    refine gp_of (fun _ k9 => g_ift rfl (show (0 : Int32) ≤ x from hP) k9) ?_
    refine gp_n 1 (j' := 5) (lv' := [some (.ref 70), some (.int x), none]) (st' := [.ref 70]) (h' := (shT, fi, fl, fr)) rfl ?_
    refine gp_of (fun _ k9 => g_getI (x := fi 70 23) rfl (Or.inl rfl) rfl (by decide) (rfl) k9) ?_
    refine gp_n 3 (j' := 9) (lv' := [some (.ref 70), some (.int x), some (.int (fi 70 23))]) (st' := [.int x, .ref 70]) (h' := (shT, fi, fl, fr)) rfl ?_
    refine gp_of (fun _ k9 => g_putI rfl (Or.inl rfl) rfl (by decide) k9) ?_
    refine gp_n 1 (j' := 11) (lv' := [some (.ref 70), some (.int x), some (.int (fi 70 23))]) (st' := [.int (fi 70 23)]) (h' := (shT, pm_u2 fi 70 23 x, fl, fr)) rfl ?_
    refine gp_done (g_ret rfl) ?_
    rfl
  obtain ⟨J1, J2⟩ := iv_s vN_238 (as := [.ref 70, .int x]) rfl (fun _ _ => gz_c (gz_r (by decide)) (gz_c (gz_a _) gz_n)) hI ev
  refine ⟨_, ev, ?_, J1, J2⟩
  obtain ⟨a1, b, c, d, f, g, q, i⟩ := hR
  have e1 : ∀ p s, ¬ (p = 70 ∧ s = 23) → ph_i (h_i h 70 23 x) p s = ph_i h p s := fun p s hp => h_n hp
  have ch : ∀ r v, csH L h r v → csH L (h_i h 70 23 x) r v := fun r v hc => csH_fr hc (fun j _ => e1 _ _ (by omega)) rfl (fun s _ => e1 _ _ (by omega))
  refine ⟨fun j hj => (e1 _ _ (by omega)).trans (a1 j hj), (e1 _ _ (by omega)).trans b, fun s => (e1 _ _ (by omega)).trans (c s), fun hL => h_e, csM_fr f (fun j _ => e1 _ _ (by omega)) rfl (fun s _ => e1 _ _ (by omega)), (e1 _ _ (by omega)).trans g, fun k hk => ch _ _ (q k hk), fun k hk => ?_⟩
  have ik := i k hk
  show match a_m a k with
    | none => _
    | some v => _
  cases hm : a_m a k with
  | none =>
    rw [hm] at ik
    exact (e1 _ _ (by omega)).trans ik
  | some v =>
    rw [hm] at ik
    exact ⟨(e1 _ _ (by omega)).trans ik.1, ch _ _ ik.2⟩
