theorem pn_3 {F : Nat → Int32} {t p : Nat} {R : RC} {h : PmH} (ht : t ≤ 200) (hS : pc_S F t p R h) : pc_O F t h ((num F t 0 8 p).bind (fun q => (num F t 0 255 q.2).map (fun q2 => ((R.1, R.2.1, R.2.2.1, q.1, q2.1, R.2.2.2.2.2.1, R.2.2.2.2.2.2.1, R.2.2.2.2.2.2.2), q2.2)))) 40 [.ref 8, .int (nI 3)] := by
  have r_8_0 : ph_r h 8 0 = some 9 := hi_r hS.1.1 rfl rfl (by decide)
  rcases nb_ev (lo := 0) (hi := 8) ht hS.2.2.2 hS.1 hS.2.1 (by decide) (by decide) with ⟨v, e, q1, q2, q3, q4, q5, q6⟩ | ⟨q1, x, h', q2, q3⟩
  · have S2 := hpl_S (q := e) hS q4
    have I2 : HI hdT shT (h9 (hpl h e) 3 (nI v)) := h9_I S2.1.1 rfl
    have S3 : pc_S F t e (R.1, R.2.1, R.2.2.1, v, R.2.2.2.2.1, R.2.2.2.2.2.1, R.2.2.2.2.2.2.1, R.2.2.2.2.2.2.2) (h9 (hpl h e) 3 (nI v)) := ⟨h9_P S2.1 I2, h9_5.trans S2.2.1, (by
      obtain ⟨a0, a1, a2, a3, a4, a5, a6, a7, a8⟩ := S2.2.2.1
      exact ⟨(h9_ne (by decide)).trans a0, (h9_ne (by decide)).trans a1, (h9_ne (by decide)).trans a2, (h9_ne (by decide)).trans a3, h9_eq, (h9_ne (by decide)).trans a5, (h9_ne (by decide)).trans a6, (h9_ne (by decide)).trans a7, a8⟩), S2.2.2.2⟩
    have f3 : fram pc_W h (h9 (hpl h e) 3 (nI v)) := fram.tr (fram.up (by decide) hpl_fr) (h9_fr (by decide))
    generalize hh : h9 (hpl h e) 3 (nI v) = h3 at *
    have r3 : ph_r h3 8 0 = some 9 := hi_r S3.1.1 rfl rfl (by decide)
    rcases nb_ev (lo := 0) (hi := 255) ht S3.2.2.2 S3.1 S3.2.1 (by decide) (by decide) with ⟨v2, e2, u1, u2, u3, u4, u5, u6⟩ | ⟨u1, x, h', u2, u3⟩
    · left
      have S4 := hpl_S (q := e2) S3 u4
      have I4 : HI hdT shT (h9 (hpl h3 e2) 4 (nI v2)) := h9_I S4.1.1 rfl
      refine ⟨(R.1, R.2.1, R.2.2.1, v, v2, R.2.2.2.2.2.1, R.2.2.2.2.2.2.1, R.2.2.2.2.2.2.2), e2, h9 (hpl h3 e2) 4 (nI v2), by rw [q1]; show (num F t 0 255 e).map _ = _; rw [u1]; rfl, Ev.of (es := cd_40) (ml := 2) (lv := [some (.ref 8), some (.int (nI 3))]) rfl rfl rfl ?_, ⟨h9_P S4.1 I4, h9_5.trans S4.2.1, (by
        obtain ⟨a0, a1, a2, a3, a4, a5, a6, a7, a8⟩ := S4.2.2.1
        exact ⟨(h9_ne (by decide)).trans a0, (h9_ne (by decide)).trans a1, (h9_ne (by decide)).trans a2, (h9_ne (by decide)).trans a3, (h9_ne (by decide)).trans a4, h9_eq, (h9_ne (by decide)).trans a6, (h9_ne (by decide)).trans a7, a8⟩), S4.2.2.2⟩, fram.tr f3 (fram.tr (fram.up (by decide) hpl_fr) (h9_fr (by decide)))⟩
      obtain ⟨S, fi, fl, fr⟩ := h
      have hSS : S = shT := hS.1.1.1
      subst hSS
      have r_8_0 : fr 8 0 = some 9 := r_8_0
      subst hh
      have r3 : fr 8 0 = some 9 := r3
      refine g_n 3 (j' := 14) (lv' := [some (.ref 8), some (.int 3)]) (st' := [.ref 8]) (h' := (shT, fi, fl, fr)) rfl ?_
      refine g_getR (q' := 9) rfl rfl (by decide) r_8_0 ?_
      refine g_n 3 (j' := 18) (lv' := [some (.ref 8), some (.int 3)]) (st' := [.int (nI 8), .int (nI 0), .ref 8, .ref 9]) (h' := (shT, fi, fl, fr)) rfl ?_
      refine g_call (y := 33) (as := [.ref 8, .int (nI 0), .int (nI 8)]) (st' := [.ref 9]) rfl rfl (q6) ?_
      refine g_putI rfl (Or.inl rfl) rfl (by decide) ?_
      refine g_n 1 (j' := 21) (lv' := [some (.ref 8), some (.int 3)]) (st' := [.ref 8]) (h' := (shT, pm_u2 (pm_u2 fi 8 4 (nI e)) 9 3 (nI v), fl, fr)) rfl ?_
      refine g_getR (q' := 9) rfl rfl (by decide) r3 ?_
      refine g_n 3 (j' := 25) (lv' := [some (.ref 8), some (.int 3)]) (st' := [.int (nI 255), .int (nI 0), .ref 8, .ref 9]) (h' := (shT, pm_u2 (pm_u2 fi 8 4 (nI e)) 9 3 (nI v), fl, fr)) rfl ?_
      refine g_call (y := 33) (as := [.ref 8, .int (nI 0), .int (nI 255)]) (st' := [.ref 9]) rfl rfl (u6) ?_
      refine g_putI rfl (Or.inl rfl) rfl (by decide) ?_
      refine g_n 1 (j' := 43) (lv' := [some (.ref 8), some (.int 3)]) (st' := []) (h' := (shT, pm_u2 (pm_u2 (pm_u2 (pm_u2 fi 8 4 (nI e)) 9 3 (nI v)) 8 4 (nI e2)) 9 4 (nI v2), fl, fr)) rfl ?_
      exact g_vret rfl
    · right
      obtain ⟨p', p1, p2⟩ := u3.2.2
      have I4 : HI hdT shT (h9 h' 4 x) := h9_I p2.1 rfl
      refine ⟨by rw [q1]; show (num F t 0 255 e).map _ = _; rw [u1]; rfl, h9 h' 4 x, Ev.of (es := cd_40) (ml := 2) (lv := [some (.ref 8), some (.int (nI 3))]) rfl rfl rfl ?_, ⟨fun z => u3.1 (h9_5.symm.trans z), fram.tr f3 (fram.tr (fram.up (by decide) u3.2.1) (h9_fr (by decide))), p', p1, h9_P p2 I4⟩⟩
      obtain ⟨S, fi, fl, fr⟩ := h
      have hSS : S = shT := hS.1.1.1
      subst hSS
      have r_8_0 : fr 8 0 = some 9 := r_8_0
      subst hh
      have r3 : fr 8 0 = some 9 := r3
      obtain ⟨S', fi', fl', fr'⟩ := h'
      have hSS' : S' = shT := p2.1.1
      subst hSS'
      refine g_n 3 (j' := 14) (lv' := [some (.ref 8), some (.int 3)]) (st' := [.ref 8]) (h' := (shT, fi, fl, fr)) rfl ?_
      refine g_getR (q' := 9) rfl rfl (by decide) r_8_0 ?_
      refine g_n 3 (j' := 18) (lv' := [some (.ref 8), some (.int 3)]) (st' := [.int (nI 8), .int (nI 0), .ref 8, .ref 9]) (h' := (shT, fi, fl, fr)) rfl ?_
      refine g_call (y := 33) (as := [.ref 8, .int (nI 0), .int (nI 8)]) (st' := [.ref 9]) rfl rfl (q6) ?_
      refine g_putI rfl (Or.inl rfl) rfl (by decide) ?_
      refine g_n 1 (j' := 21) (lv' := [some (.ref 8), some (.int 3)]) (st' := [.ref 8]) (h' := (shT, pm_u2 (pm_u2 fi 8 4 (nI e)) 9 3 (nI v), fl, fr)) rfl ?_
      refine g_getR (q' := 9) rfl rfl (by decide) r3 ?_
      refine g_n 3 (j' := 25) (lv' := [some (.ref 8), some (.int 3)]) (st' := [.int (nI 255), .int (nI 0), .ref 8, .ref 9]) (h' := (shT, pm_u2 (pm_u2 fi 8 4 (nI e)) 9 3 (nI v), fl, fr)) rfl ?_
      refine g_call (y := 33) (as := [.ref 8, .int (nI 0), .int (nI 255)]) (st' := [.ref 9]) rfl rfl (u2) ?_
      refine g_putI rfl (Or.inl rfl) rfl (by decide) ?_
      refine g_n 1 (j' := 43) (lv' := [some (.ref 8), some (.int 3)]) (st' := []) (h' := (shT, pm_u2 fi' 9 4 x, fl', fr')) rfl ?_
      exact g_vret rfl
  · right
    obtain ⟨p', p1, p2⟩ := q3.2.2
    have I2 : HI hdT shT (h9 h' 3 x) := h9_I p2.1 rfl
    have I3 : HI hdT shT (h9 (h9 h' 3 x) 4 0) := h9_I I2 rfl
    have nf : ¬ ph_i (h9 h' 3 x) 8 5 = 0 := fun z => q3.1 (h9_5.symm.trans z)
    have nb := nb_f (lo := nI 0) (hi := nI 255) I2 nf
    have r9 : ph_r h' 8 0 = some 9 := hi_r p2.1 rfl rfl (by decide)
    refine ⟨by rw [q1]; rfl, h9 (h9 h' 3 x) 4 0, Ev.of (es := cd_40) (ml := 2) (lv := [some (.ref 8), some (.int (nI 3))]) rfl rfl rfl ?_, ⟨fun z => nf (h9_5.symm.trans z), fram.tr (fram.up (by decide) q3.2.1) (fram.tr (h9_fr (by decide)) (h9_fr (by decide))), p', p1, h9_P (h9_P p2 I2) I3⟩⟩
    obtain ⟨S, fi, fl, fr⟩ := h
    have hSS : S = shT := hS.1.1.1
    subst hSS
    have r_8_0 : fr 8 0 = some 9 := r_8_0
    obtain ⟨S', fi', fl', fr'⟩ := h'
    have hSS' : S' = shT := p2.1.1
    subst hSS'
    have r9 : fr' 8 0 = some 9 := r9
    refine g_n 3 (j' := 14) (lv' := [some (.ref 8), some (.int 3)]) (st' := [.ref 8]) (h' := (shT, fi, fl, fr)) rfl ?_
    refine g_getR (q' := 9) rfl rfl (by decide) r_8_0 ?_
    refine g_n 3 (j' := 18) (lv' := [some (.ref 8), some (.int 3)]) (st' := [.int (nI 8), .int (nI 0), .ref 8, .ref 9]) (h' := (shT, fi, fl, fr)) rfl ?_
    refine g_call (y := 33) (as := [.ref 8, .int (nI 0), .int (nI 8)]) (st' := [.ref 9]) rfl rfl (q2) ?_
    refine g_putI rfl (Or.inl rfl) rfl (by decide) ?_
    refine g_n 1 (j' := 21) (lv' := [some (.ref 8), some (.int 3)]) (st' := [.ref 8]) (h' := (shT, pm_u2 fi' 9 3 x, fl', fr')) rfl ?_
    refine g_getR (q' := 9) rfl rfl (by decide) r9 ?_
    refine g_n 3 (j' := 25) (lv' := [some (.ref 8), some (.int 3)]) (st' := [.int (nI 255), .int (nI 0), .ref 8, .ref 9]) (h' := (shT, pm_u2 fi' 9 3 x, fl', fr')) rfl ?_
    refine g_call (y := 33) (as := [.ref 8, .int (nI 0), .int (nI 255)]) (st' := [.ref 9]) rfl rfl (nb) ?_
    refine g_putI rfl (Or.inl rfl) rfl (by decide) ?_
    refine g_n 1 (j' := 43) (lv' := [some (.ref 8), some (.int 3)]) (st' := []) (h' := (shT, pm_u2 (pm_u2 fi' 9 3 x) 9 4 0, fl', fr')) rfl ?_
    exact g_vret rfl
def bitAt (v : Nat) : Int64 := 1 <<< ((nI v : Int32).toInt64 &&& 63)
def infoS (F : Nat → Int32) (t n : Nat) : Nat → Nat → Nat → Int64 → Option (Int64 × Nat)
  | 0, _, _, _ => none
  | q + 1, least, p, K => (num F t least (n - 1) p).bind (fun r => if sk F t cB r.2 < t ∧ F (sk F t cB r.2) = 44 then infoS F t n q (r.1 + 1) (sk F t cB r.2 + 1) (K ||| bitAt r.1) else some (K ||| bitAt r.1, sk F t cB r.2))
def rcK (R : RC) (K : Int64) : RC := (R.1, R.2.1, R.2.2.1, R.2.2.2.1, R.2.2.2.2.1, R.2.2.2.2.2.1, R.2.2.2.2.2.2.1, K)
def h97 (h : PmH) (K : Int64) : PmH := (ph_s h, ph_i h, pm_u2 (ph_l h) 9 7 K, ph_r h)
theorem h97_S {F : Nat → Int32} {t p : Nat} {R : RC} {h : PmH} {K K' : Int64} (hS : pc_S F t p (rcK R K) h) : pc_S F t p (rcK R K') (h97 h K') := by
  refine ⟨⟨hS.1.1, hS.1.2⟩, hS.2.1, ?_, hS.2.2.2⟩
  obtain ⟨a0, a1, a2, a3, a4, a5, a6, a7, a8⟩ := hS.2.2.1
  refine ⟨a0, a1, a2, a3, a4, a5, a6, a7, ?_⟩
  show pm_u2 (ph_l h) 9 7 K' 9 7 = K'
  simp [pm_u2]
theorem h97_fr {h : PmH} {K : Int64} : fram pc_W h (h97 h K) := fram_wl (by decide)
theorem inf_go {F : Nat → Int32} {t : Nat} {R : RC} (ht : t ≤ 200) (hm : R.2.1 ≤ 6) : ∀ (q i least p : Nat) (K : Int64) (h : PmH) (l3 : Option Value), i + q = 65 → i ≤ least → least ≤ 64 → pc_S F t p (rcK R K) h → (∃ K' e h', infoS F t (2 ^ R.2.1) q least p K = some (K', e) ∧ Go pmT none cd_41 4 [some (.ref 8), some (.int (nI least)), some (.int (nI i)), l3] [] h (none, h') ∧ pc_S F t e (rcK R K') h' ∧ fram pc_W h h') ∨ (infoS F t (2 ^ R.2.1) q least p K = none ∧ ∃ h', Go pmT none cd_41 4 [some (.ref 8), some (.int (nI least)), some (.int (nI i)), l3] [] h (none, h') ∧ pc_X F t h h' pc_W) := by
  have hn1 : 1 ≤ 2 ^ R.2.1 := Nat.one_le_two_pow
  have hn2 : 2 ^ R.2.1 ≤ 64 := Nat.pow_le_pow_right (n := 2) (by decide) hm
  generalize hN : 2 ^ R.2.1 = N at *
  intro q
  induction q with
  | zero =>
    intro i least p K h l3 hi h1 h2
    omega
  | succ q ih =>
    intro i least p K h l3 hi h1 h2 hS
    have r_8_0 : ph_r h 8 0 = some 9 := hi_r hS.1.1 rfl rfl (by decide)
    have e91 : ph_i h 9 1 = nI N := by
      rw [← hN]
      exact hS.2.2.1.2.2.1
    have es : nI N - 1 = nI (N - 1) := pk_sub (b := 1) hn1
    rw [infoS]
    rcases nb_ev (lo := least) (hi := N - 1) ht hS.2.2.2 hS.1 hS.2.1 (by omega) (by omega) with ⟨v, e, q1, q2, q3, q4, q5, q6⟩ | ⟨q1, x, h', q2, q3⟩
    · rw [q1]
      have S1 := hpl_S (q := e) hS q4
      have S2 := h97_S (K' := K ||| bitAt v) S1
      have B1 : sk F t cB e ≤ t := sk_le _ _ q4
      have s2 := sb_ev ht q4 S2.1
      have f2 : fram pc_W h (h97 (hpl h e) (K ||| bitAt v)) := fram.tr (fram.up (by decide) hpl_fr) h97_fr
      have S3 := hpl_S (q := sk F t cB e) S2 B1
      have eK : ph_l (hpl h e) 9 7 = K := S1.2.2.1.2.2.2.2.2.2.2.2
      show (∃ K' e_1 h', (if sk F t cB e < t ∧ F (sk F t cB e) = 44 then infoS F t N q (v + 1) (sk F t cB e + 1) (K ||| bitAt v) else some (K ||| bitAt v, sk F t cB e)) = some (K', e_1) ∧ _) ∨ ((if sk F t cB e < t ∧ F (sk F t cB e) = 44 then infoS F t N q (v + 1) (sk F t cB e + 1) (K ||| bitAt v) else some (K ||| bitAt v, sk F t cB e)) = none ∧ _)
      generalize hB : sk F t cB e = B at *
      have f1 : ph_i (hpl h e) 8 5 = 0 := S1.2.1
      have pref : ∀ r, Go pmT none cd_41 35 [some (.ref 8), some (.int (nI (v + 1))), some (.int (nI i)), some (.int (nI v))] [] (hpl (h97 (hpl h e) (K ||| bitAt v)) B) r → Go pmT none cd_41 4 [some (.ref 8), some (.int (nI least)), some (.int (nI i)), l3] [] h r := by
        intro r g
        obtain ⟨S, fi, fl, fr⟩ := h
        have hSS : S = shT := hS.1.1.1
        subst hSS
        have r_8_0 : fr 8 0 = some 9 := r_8_0
        have e91 : fi 9 1 = nI N := e91
        have eK : fl 9 7 = K := eK
        have f1 : pm_u2 fi 8 4 (nI e) 8 5 = 0 := f1
        refine g_n 2 (j' := 6) (lv' := [some (.ref 8), some (.int (nI least)), some (.int (nI i)), l3]) (st' := [.int 64, .int (nI i)]) (h' := (shT, fi, fl, fr)) rfl ?_
        refine g_icf rfl (show ¬ ((64 : Int32) < (nI i)) from nI_nlt (a := 64) (b := i) (by omega) (by decide)) ?_
        refine g_n 3 (j' := 10) (lv' := [some (.ref 8), some (.int (nI least)), some (.int (nI i)), l3]) (st' := [.ref 8, .int (nI least), .ref 8]) (h' := (shT, fi, fl, fr)) rfl ?_
        refine g_getR (q' := 9) rfl rfl (by decide) r_8_0 ?_
        refine g_getI (x := nI N) rfl (Or.inl rfl) rfl (by decide) (e91) ?_
        refine g_n 2 (j' := 14) (lv' := [some (.ref 8), some (.int (nI least)), some (.int (nI i)), l3]) (st' := [.int ((nI N) - 1), .int (nI least), .ref 8]) (h' := (shT, fi, fl, fr)) rfl ?_
        rw [es]
        refine g_call (y := 33) (as := [.ref 8, .int (nI least), .int (nI (N - 1))]) (st' := []) rfl rfl (q6) ?_
        refine g_n 2 (j' := 17) (lv' := [some (.ref 8), some (.int (nI least)), some (.int (nI i)), some (.int (nI v))]) (st' := [.ref 8]) (h' := (shT, pm_u2 fi 8 4 (nI e), fl, fr)) rfl ?_
        refine g_getI (x := 0) rfl (Or.inl rfl) rfl (by decide) (f1) ?_
        refine g_ift rfl (show (0 : Int32) = (0 : Int32) from rfl) ?_
        refine g_n 1 (j' := 21) (lv' := [some (.ref 8), some (.int (nI least)), some (.int (nI i)), some (.int (nI v))]) (st' := [.ref 8]) (h' := (shT, pm_u2 fi 8 4 (nI e), fl, fr)) rfl ?_
        refine g_getR (q' := 9) rfl rfl (by decide) r_8_0 ?_
        refine g_n 1 (j' := 23) (lv' := [some (.ref 8), some (.int (nI least)), some (.int (nI i)), some (.int (nI v))]) (st' := [.ref 9, .ref 9]) (h' := (shT, pm_u2 fi 8 4 (nI e), fl, fr)) rfl ?_
        refine g_getL (x := K) rfl rfl (by decide) (eK) ?_
        refine g_n 4 (j' := 28) (lv' := [some (.ref 8), some (.int (nI least)), some (.int (nI i)), some (.int (nI v))]) (st' := [.long (K ||| bitAt v), .ref 9]) (h' := (shT, pm_u2 fi 8 4 (nI e), fl, fr)) rfl ?_
        refine g_putL rfl rfl (by decide) ?_
        refine g_n 3 (j' := 32) (lv' := [some (.ref 8), some (.int (nI least)), some (.int (nI i)), some (.int (nI v))]) (st' := [.int ((nI v) + 1)]) (h' := (shT, pm_u2 fi 8 4 (nI e), pm_u2 fl 9 7 (K ||| bitAt v), fr)) rfl ?_
        rw [nI_1 v]
        refine g_n 2 (j' := 34) (lv' := [some (.ref 8), some (.int (nI (v + 1))), some (.int (nI i)), some (.int (nI v))]) (st' := [.ref 8]) (h' := (shT, pm_u2 fi 8 4 (nI e), pm_u2 fl 9 7 (K ||| bitAt v), fr)) rfl ?_
        refine g_callv (y := 18) (as := [.ref 8]) (st' := []) rfl rfl (s2) ?_
        exact g
      have P3 := S3.1
      have g3 : ph_i (hpl (h97 (hpl h e) (K ||| bitAt v)) B) 8 4 = nI B := P3.2.2.2.1
      by_cases hc : B < t ∧ F B = 44
      · rw [if_pos hc]
        have S4 := hpl_S (q := B + 1) S3 (by omega)
        have goon : ∀ r, Go pmT none cd_41 4 [some (.ref 8), some (.int (nI (v + 1))), some (.int (nI (i + 1))), some (.int (nI v))] [] (hpl (hpl (h97 (hpl h e) (K ||| bitAt v)) B) (B + 1)) r → Go pmT none cd_41 4 [some (.ref 8), some (.int (nI least)), some (.int (nI i)), l3] [] h r := by
          intro r g
          refine pref r ?_
          generalize hpl (h97 (hpl h e) (K ||| bitAt v)) B = h3 at *
          have hP := P3
          have p9 : B = B := rfl
          obtain ⟨S3', fi, fl, fr⟩ := h3
          have hSS : S3' = shT := P3.1.1
          subst hSS
          have r_8_2 : fr 8 2 = some 7 := P3.2.1
          have e3 : fi 8 3 = nI t := P3.2.2.1
          have e4 : fi 8 4 = nI B := P3.2.2.2.1
          have eF : ∀ s, fi 7 s = F s := P3.2.2.2.2
          refine g_n 1 (j' := 36) (lv' := [some (.ref 8), some (.int (nI (v + 1))), some (.int (nI i)), some (.int (nI v))]) (st' := [.ref 8]) (h' := (shT, fi, fl, fr)) rfl ?_
          refine g_getI (x := nI B) rfl (Or.inl rfl) rfl (by decide) (e4) ?_
          refine g_n 1 (j' := 38) (lv' := [some (.ref 8), some (.int (nI (v + 1))), some (.int (nI i)), some (.int (nI v))]) (st' := [.ref 8, .int (nI B)]) (h' := (shT, fi, fl, fr)) rfl ?_
          refine g_getI (x := nI t) rfl (Or.inl rfl) rfl (by decide) (e3) ?_
          refine g_icf rfl (show ¬ ((nI t) ≤ (nI B)) from nI_ge hc.1 (by omega)) ?_
          refine g_n 1 (j' := 41) (lv' := [some (.ref 8), some (.int (nI (v + 1))), some (.int (nI i)), some (.int (nI v))]) (st' := [.ref 8]) (h' := (shT, fi, fl, fr)) rfl ?_
          refine g_getR (q' := 7) rfl rfl (by decide) r_8_2 ?_
          refine g_n 1 (j' := 43) (lv' := [some (.ref 8), some (.int (nI (v + 1))), some (.int (nI i)), some (.int (nI v))]) (st' := [.ref 8, .ref 7]) (h' := (shT, fi, fl, fr)) rfl ?_
          refine g_getI (x := nI B) rfl (Or.inl rfl) rfl (by decide) (e4) ?_
          refine g_bald (k := B) (x := F B) rfl rfl (by decide) (rfl) (by omega) (by decide) (eF B) ?_
          refine g_n 1 (j' := 46) (lv' := [some (.ref 8), some (.int (nI (v + 1))), some (.int (nI i)), some (.int (nI v))]) (st' := [.int 44, .int (F B)]) (h' := (shT, fi, fl, fr)) rfl ?_
          refine g_ict rfl (show (F B) = (44 : Int32) from hc.2) ?_
          refine g_n 2 (j' := 50) (lv' := [some (.ref 8), some (.int (nI (v + 1))), some (.int (nI i)), some (.int (nI v))]) (st' := [.ref 8, .ref 8]) (h' := (shT, fi, fl, fr)) rfl ?_
          refine g_getI (x := nI B) rfl (Or.inl rfl) rfl (by decide) (e4) ?_
          refine g_n 2 (j' := 53) (lv' := [some (.ref 8), some (.int (nI (v + 1))), some (.int (nI i)), some (.int (nI v))]) (st' := [.int ((nI B) + 1), .ref 8]) (h' := (shT, fi, fl, fr)) rfl ?_
          rw [nI_1 B]
          refine g_putI rfl (Or.inl rfl) rfl (by decide) ?_
          refine g_n 2 (j' := 4) (lv' := [some (.ref 8), some (.int (nI (v + 1))), some (.int ((nI i) + 1)), some (.int (nI v))]) (st' := []) (h' := (shT, pm_u2 fi 8 4 (nI (B + 1)), fl, fr)) rfl ?_
          rw [nI_1 i]
          exact g
        rcases ih (i + 1) (v + 1) (B + 1) (K ||| bitAt v) _ (some (.int (nI v))) (by omega) (by omega) (by omega) S4 with ⟨K', e', h', z1, z2, z3, z4⟩ | ⟨z1, h', z2, z3⟩
        · exact Or.inl ⟨K', e', h', z1, goon _ z2, z3, fram.tr f2 (fram.tr (fram.up (by decide) hpl_fr) (fram.tr (fram.up (by decide) hpl_fr) z4))⟩
        · exact Or.inr ⟨z1, h', goon _ z2, z3.1, fram.tr f2 (fram.tr (fram.up (by decide) hpl_fr) (fram.tr (fram.up (by decide) hpl_fr) z3.2.1)), z3.2.2⟩
      · rw [if_neg hc]
        refine Or.inl ⟨K ||| bitAt v, B, _, rfl, pref _ ?_, S3, fram.tr f2 (fram.up (by decide) hpl_fr)⟩
        generalize hpl (h97 (hpl h e) (K ||| bitAt v)) B = h3 at *
        obtain ⟨S3', fi, fl, fr⟩ := h3
        have hSS : S3' = shT := P3.1.1
        subst hSS
        have r_8_2 : fr 8 2 = some 7 := P3.2.1
        have e3 : fi 8 3 = nI t := P3.2.2.1
        have e4 : fi 8 4 = nI B := P3.2.2.2.1
        have eF : ∀ s, fi 7 s = F s := P3.2.2.2.2
        by_cases hb : B < t
        · refine g_n 1 (j' := 36) (lv' := [some (.ref 8), some (.int (nI (v + 1))), some (.int (nI i)), some (.int (nI v))]) (st' := [.ref 8]) (h' := (shT, fi, fl, fr)) rfl ?_
          refine g_getI (x := nI B) rfl (Or.inl rfl) rfl (by decide) (e4) ?_
          refine g_n 1 (j' := 38) (lv' := [some (.ref 8), some (.int (nI (v + 1))), some (.int (nI i)), some (.int (nI v))]) (st' := [.ref 8, .int (nI B)]) (h' := (shT, fi, fl, fr)) rfl ?_
          refine g_getI (x := nI t) rfl (Or.inl rfl) rfl (by decide) (e3) ?_
          refine g_icf rfl (show ¬ ((nI t) ≤ (nI B)) from nI_ge hb (by omega)) ?_
          refine g_n 1 (j' := 41) (lv' := [some (.ref 8), some (.int (nI (v + 1))), some (.int (nI i)), some (.int (nI v))]) (st' := [.ref 8]) (h' := (shT, fi, fl, fr)) rfl ?_
          refine g_getR (q' := 7) rfl rfl (by decide) r_8_2 ?_
          refine g_n 1 (j' := 43) (lv' := [some (.ref 8), some (.int (nI (v + 1))), some (.int (nI i)), some (.int (nI v))]) (st' := [.ref 8, .ref 7]) (h' := (shT, fi, fl, fr)) rfl ?_
          refine g_getI (x := nI B) rfl (Or.inl rfl) rfl (by decide) (e4) ?_
          refine g_bald (k := B) (x := F B) rfl rfl (by decide) (rfl) (by omega) (by decide) (eF B) ?_
          refine g_n 1 (j' := 46) (lv' := [some (.ref 8), some (.int (nI (v + 1))), some (.int (nI i)), some (.int (nI v))]) (st' := [.int 44, .int (F B)]) (h' := (shT, fi, fl, fr)) rfl ?_
          refine g_icf rfl (show ¬ ((F B) = (44 : Int32)) from fun z => hc ⟨hb, z⟩) ?_
          exact g_vret rfl
        · refine g_n 1 (j' := 36) (lv' := [some (.ref 8), some (.int (nI (v + 1))), some (.int (nI i)), some (.int (nI v))]) (st' := [.ref 8]) (h' := (shT, fi, fl, fr)) rfl ?_
          refine g_getI (x := nI B) rfl (Or.inl rfl) rfl (by decide) (e4) ?_
          refine g_n 1 (j' := 38) (lv' := [some (.ref 8), some (.int (nI (v + 1))), some (.int (nI i)), some (.int (nI v))]) (st' := [.ref 8, .int (nI B)]) (h' := (shT, fi, fl, fr)) rfl ?_
          refine g_getI (x := nI t) rfl (Or.inl rfl) rfl (by decide) (e3) ?_
          refine g_ict rfl (show (nI t) ≤ (nI B) from nI_le (by omega) (by omega)) ?_
          exact g_vret rfl
    · rw [q1]
      refine Or.inr ⟨rfl, h', ?_, pc_Xup q3 (by decide)⟩
      obtain ⟨p', p1, p2⟩ := q3.2.2
      obtain ⟨S, fi, fl, fr⟩ := h
      have hSS : S = shT := hS.1.1.1
      subst hSS
      have r_8_0 : fr 8 0 = some 9 := r_8_0
      have e91 : fi 9 1 = nI N := e91
      have nf := q3.1
      obtain ⟨S', fi', fl', fr'⟩ := h'
      have hSS' : S' = shT := p2.1.1
      subst hSS'
      have nf : ¬ fi' 8 5 = 0 := nf
      refine g_n 2 (j' := 6) (lv' := [some (.ref 8), some (.int (nI least)), some (.int (nI i)), l3]) (st' := [.int 64, .int (nI i)]) (h' := (shT, fi, fl, fr)) rfl ?_
      refine g_icf rfl (show ¬ ((64 : Int32) < (nI i)) from nI_nlt (a := 64) (b := i) (by omega) (by decide)) ?_
      refine g_n 3 (j' := 10) (lv' := [some (.ref 8), some (.int (nI least)), some (.int (nI i)), l3]) (st' := [.ref 8, .int (nI least), .ref 8]) (h' := (shT, fi, fl, fr)) rfl ?_
      refine g_getR (q' := 9) rfl rfl (by decide) r_8_0 ?_
      refine g_getI (x := nI N) rfl (Or.inl rfl) rfl (by decide) (e91) ?_
      refine g_n 2 (j' := 14) (lv' := [some (.ref 8), some (.int (nI least)), some (.int (nI i)), l3]) (st' := [.int ((nI N) - 1), .int (nI least), .ref 8]) (h' := (shT, fi, fl, fr)) rfl ?_
      rw [es]
      refine g_call (y := 33) (as := [.ref 8, .int (nI least), .int (nI (N - 1))]) (st' := []) rfl rfl (q2) ?_
      refine g_n 2 (j' := 17) (lv' := [some (.ref 8), some (.int (nI least)), some (.int (nI i)), some (.int x)]) (st' := [.ref 8]) (h' := (shT, fi', fl', fr')) rfl ?_
      refine g_getI (x := fi' 8 5) rfl (Or.inl rfl) rfl (by decide) (rfl) ?_
      refine g_iff rfl (show ¬ ((fi' 8 5) = (0 : Int32)) from nf) ?_
      exact g_vret rfl
