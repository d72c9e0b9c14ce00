def hv (x : Int32) : Int32 := if x = -128 then -127 else x
theorem max_ev {a b : Int32} {h : PmH} : Ev pmT 48 [.int a, .int b] h (some (.int (if a < b then b else a))) h := by
  refine Ev.of (es := cd_48) (ml := 2) (lv := [some (.int a), some (.int b)]) rfl rfl rfl ?_
  refine go_of ?_
  refine gp_n 2 (j' := 2) (lv' := [some (.int a), some (.int b)]) (st' := [.int b, .int a]) (h' := h) rfl ?_
  refine gp_ic rfl (fun hc => ?_) (fun hc => ?_)
  · replace hc : a < b := hc
    rw [if_pos hc]
    refine gp_n 1 (j' := 6) (lv' := [some (.int a), some (.int b)]) (st' := [.int b]) (h' := h) rfl ?_
    refine gp_done (g_ret rfl) ?_
    rfl
  · replace hc : ¬ (a < b) := hc
    rw [if_neg hc]
    refine gp_n 2 (j' := 6) (lv' := [some (.int a), some (.int b)]) (st' := [.int a]) (h' := h) rfl ?_
    refine gp_done (g_ret rfl) ?_
    rfl
theorem hv_mx {x : Int32} (h1 : -128 ≤ x.toInt) (h2 : x.toInt ≤ 127) : (if (-127 : Int32) < x then x else -127) = hv x := by
  unfold hv
  by_cases h : x = -128
  · subst h
    decide
  · rw [if_neg h]
    have h3 : ¬ x.toInt = -128 := fun z => h (Int32.toInt_inj.mp (z.trans (by decide)))
    by_cases h4 : x.toInt = -127
    · have : x = -127 := Int32.toInt_inj.mp (h4.trans (by decide))
      subst this
      decide
    · rw [if_pos]
      rw [Int32.lt_iff_toInt_lt, show (-127 : Int32).toInt = -127 from by decide]
      omega
def v_hear (N : Nat) (tb : Nat → Int32) (v : VS) : VS := (v.1, v.2.1, fun s => if s < N then hv (tb s) else v.2.2 s)
def P_hear (a : AB) : Prop := 0 < (a_v a).1 1 ∧ nI (a_tl a) = (a_v a).1 1
theorem hrC_loop {N : Nat} {r : Option Value × PmH} (hN : N ≤ 64) : ∀ (n b : Nat) (fi : Nat → Nat → Int32) (fl : Nat → Nat → Int64) (fr : Nat → Nat → Option Nat), b + n = N → fi 1 1 = nI N → fr 0 0 = some 1 → fr 1 8 = some 2 → fr 0 6 = some 6 → fr 6 0 = some 7 → (∀ s, s < N → -128 ≤ (fi 7 s).toInt ∧ (fi 7 s).toInt ≤ 127) → Go pmT none cd_68 36 [some (.ref 0), some (.int (nI N))] [] (shT, fu fi 2 b n (fun i => hv (fi 7 (b + i))), fl, fr) r → Go pmT none cd_68 17 [some (.ref 0), some (.int (nI b))] [] (shT, fi, fl, fr) r := by
  intro n
  induction n with
  | zero =>
    intro b fi fl fr hb c1 k0 k8 k6 k7 hby k
    have hb : b = N := by omega
    subst hb
    rw [fu_0] at k
    refine go_of ?_
    refine gp_n 2 (j' := 19) (lv' := [some (.ref 0), some (.int (nI b))]) (st' := [.ref 0, .int (nI b)]) (h' := (shT, fi, fl, fr)) rfl ?_
    refine gp_of (fun _ k9 => g_getR (q' := 1) rfl rfl (by decide) k0 k9) ?_
    refine gp_of (fun _ k9 => g_getI (x := nI b) rfl (Or.inl rfl) rfl (by decide) (c1) k9) ?_
    refine gp_of (fun _ k9 => g_ict rfl (show (nI b) ≤ (nI b) from Int32.le_refl _) k9) ?_
    exact gp_done k rfl
  | succ n ih =>
    intro b fi fl fr hb c1 k0 k8 k6 k7 hby k
    have e1 : fu (pm_u2 fi 2 b (hv (fi 7 b))) 2 (b + 1) n (fun i => hv (pm_u2 fi 2 b (hv (fi 7 b)) 7 (b + 1 + i))) = fu fi 2 b (n + 1) (fun i => hv (fi 7 (b + i))) := fu_s (f := fi) (p := 2) (lo := b) (n := n) (g := fun i => hv (fi 7 (b + i))) (fun i => by show hv (fi 7 (b + 1 + i)) = hv (fi 7 (b + (i + 1))); rw [show b + 1 + i = b + (i + 1) by omega])
    have g := ih (b + 1) (pm_u2 fi 2 b (hv (fi 7 b))) fl fr (by omega) c1 k0 k8 k6 k7 hby (by rw [e1]; exact k)
    have mx := max_ev (a := -127) (b := fi 7 b) (h := (shT, fi, fl, fr))
    rw [hv_mx (hby b (by omega)).1 (hby b (by omega)).2] at mx
    refine go_of ?_
    refine gp_n 2 (j' := 19) (lv' := [some (.ref 0), some (.int (nI b))]) (st' := [.ref 0, .int (nI b)]) (h' := (shT, fi, fl, fr)) rfl ?_
    refine gp_of (fun _ k9 => g_getR (q' := 1) rfl rfl (by decide) k0 k9) ?_
    refine gp_of (fun _ k9 => g_getI (x := nI N) rfl (Or.inl rfl) rfl (by decide) (c1) k9) ?_
    refine gp_of (fun _ k9 => g_icf rfl (show ¬ ((nI N) ≤ (nI b)) from nI_ge (by omega) (by omega)) k9) ?_
    refine gp_n 1 (j' := 23) (lv' := [some (.ref 0), some (.int (nI b))]) (st' := [.ref 0]) (h' := (shT, fi, fl, fr)) rfl ?_
    refine gp_of (fun _ k9 => g_getR (q' := 1) rfl rfl (by decide) k0 k9) ?_
    refine gp_of (fun _ k9 => g_getR (q' := 2) rfl rfl (by decide) k8 k9) ?_
    refine gp_n 3 (j' := 28) (lv' := [some (.ref 0), some (.int (nI b))]) (st' := [.ref 0, .int (-127), .int (nI b), .ref 2]) (h' := (shT, fi, fl, fr)) rfl ?_
    refine gp_of (fun _ k9 => g_getR (q' := 6) rfl rfl (by decide) k6 k9) ?_
    refine gp_of (fun _ k9 => g_getR (q' := 7) rfl rfl (by decide) k7 k9) ?_
    refine gp_n 1 (j' := 31) (lv' := [some (.ref 0), some (.int (nI b))]) (st' := [.int (nI b), .ref 7, .int (-127), .int (nI b), .ref 2]) (h' := (shT, fi, fl, fr)) rfl ?_
    refine gp_of (fun _ k9 => g_bald (k := b) (x := fi 7 b) rfl rfl (by decide) (rfl) (by omega) (by decide) (rfl) k9) ?_
    refine gp_of (fun _ k9 => g_call (y := 48) (as := [.int (-127), .int (fi 7 b)]) (st' := [.int (nI b), .ref 2]) rfl rfl (mx) k9) ?_
    refine gp_of (fun _ k9 => g_iast (k := b) rfl rfl (rfl) (by omega) (by decide) k9) ?_
    refine gp_n 2 (j' := 17) (lv' := [some (.ref 0), some (.int ((nI b) + 1))]) (st' := []) (h' := (shT, pm_u2 fi 2 b (hv (fi 7 b)), fl, fr)) rfl ?_
    rw [nI_1]
    exact gp_done g rfl
theorem her_C0 {L : Bool} {h : PmH} {a : AB} (hI : HI hdT shT h) (hR : QC L h a) (hP : ¬ P_hear a) : Ev pmT 68 [.ref 0] h (some (.int (-1))) h := by
  have f := hR.2.2.2.2.1
  have c1 := f.1 1 (by decide)
  have b := hR.2.1
  have k0 : ph_r h 0 0 = some 1 := hi_r hI rfl rfl (by decide)
  have k6 : ph_r h 0 6 = some 6 := hi_r hI rfl rfl (by decide)
  have t1 := told1 hI c1
  have t0 := told0 hI c1
  refine Ev.of (es := cd_68) (ml := 2) (lv := [some (.ref 0), none]) rfl rfl rfl ?_
  obtain ⟨S, fi, fl, fr⟩ := h
  have hS : S = shT := hI.1
  subst hS
  have k0 : fr 0 0 = some 1 := k0
  have k6 : fr 0 6 = some 6 := k6
  have c1 : fi 1 1 = (a_v a).1 1 := c1
  have b : fi 6 1 = nI (a_tl a) := b
  refine go_of ?_
  by_cases p1 : 0 < (a_v a).1 1
  · have p2 : ¬ nI (a_tl a) = (a_v a).1 1 := fun z => hP ⟨p1, z⟩
    refine gp_n 1 (j' := 1) (lv' := [some (.ref 0), none]) (st' := [.ref 0]) (h' := (shT, fi, fl, fr)) rfl ?_
    refine gp_of (fun _ k9 => g_getR (q' := 1) rfl rfl (by decide) k0 k9) ?_
    refine gp_of (fun _ k9 => g_call (y := 57) (as := [.ref 1]) (st' := []) rfl rfl (t1 p1) k9) ?_
    refine gp_of (fun _ k9 => g_iff rfl (show ¬ ((1 : Int32) = (0 : Int32)) from by decide) k9) ?_
    refine gp_n 1 (j' := 5) (lv' := [some (.ref 0), none]) (st' := [.ref 0]) (h' := (shT, fi, fl, fr)) rfl ?_
    refine gp_of (fun _ k9 => g_getR (q' := 6) rfl rfl (by decide) k6 k9) ?_
    refine gp_of (fun _ k9 => g_getI (x := nI (a_tl a)) rfl (Or.inl rfl) rfl (by decide) (b) k9) ?_
    refine gp_n 1 (j' := 8) (lv' := [some (.ref 0), none]) (st' := [.ref 0, .int (nI (a_tl a))]) (h' := (shT, fi, fl, fr)) rfl ?_
    refine gp_of (fun _ k9 => g_getR (q' := 1) rfl rfl (by decide) k0 k9) ?_
    refine gp_of (fun _ k9 => g_getI (x := (a_v a).1 1) rfl (Or.inl rfl) rfl (by decide) (c1) k9) ?_
    refine gp_of (fun _ k9 => g_icf rfl (show ¬ ((nI (a_tl a)) = ((a_v a).1 1)) from p2) k9) ?_
    refine gp_n 1 (j' := 12) (lv' := [some (.ref 0), none]) (st' := [.int (-1)]) (h' := (shT, fi, fl, fr)) rfl ?_
    refine gp_done (g_ret rfl) ?_
    rfl
  · refine gp_n 1 (j' := 1) (lv' := [some (.ref 0), none]) (st' := [.ref 0]) (h' := (shT, fi, fl, fr)) rfl ?_
    refine gp_of (fun _ k9 => g_getR (q' := 1) rfl rfl (by decide) k0 k9) ?_
    refine gp_of (fun _ k9 => g_call (y := 57) (as := [.ref 1]) (st' := []) rfl rfl (t0 p1) k9) ?_
    refine gp_of (fun _ k9 => g_ift rfl (show (0 : Int32) = (0 : Int32) from by decide) k9) ?_
    refine gp_n 1 (j' := 12) (lv' := [some (.ref 0), none]) (st' := [.int (-1)]) (h' := (shT, fi, fl, fr)) rfl ?_
    refine gp_done (g_ret rfl) ?_
    rfl
theorem her_C {L : Bool} {h : PmH} {a : AB} {N : Nat} (hI : HI hdT shT h) (hR : QC L h a) (hA : AOK a) (hN : N ≤ 64) (hn : (a_v a).1 1 = nI N) (hP : P_hear a) : ∃ h', Ev pmT 68 [.ref 0] h (some (.int (nI N))) h' ∧ QC L h' (a_tape 0 (a_setv (v_hear N (a_tb a) (a_v a)) (a_push a))) ∧ HI hdT shT h' ∧ fram (in_w iN_31) h h' := by
  have f := hR.2.2.2.2.1
  have c1 := f.1 1 (by decide)
  have b := hR.2.1
  have k0 : ph_r h 0 0 = some 1 := hi_r hI rfl rfl (by decide)
  have k6 : ph_r h 0 6 = some 6 := hi_r hI rfl rfl (by decide)
  have t1 := told1 hI c1 hP.1
  have tN : a_tl a = N := (nI_eq (by have := hA.1; omega) (by omega)).mp (hP.2.trans hn)
  obtain ⟨h1, ev1, R1, I1, F1⟩ := rem_ev hI hR hA.2.1
  have f1 := R1.2.2.2.2.1
  have d1 : ph_i h1 1 1 = nI N := (f1.1 1 (by decide)).trans hn
  have m0 : ph_r h1 0 0 = some 1 := hi_r I1 rfl rfl (by decide)
  have m8 : ph_r h1 1 8 = some 2 := hi_r I1 rfl rfl (by decide)
  have m6 : ph_r h1 0 6 = some 6 := hi_r I1 rfl rfl (by decide)
  have m7 : ph_r h1 6 0 = some 7 := hi_r I1 rfl rfl (by decide)
  have by1 : ∀ s, s < N → ph_i h1 7 s = a_tb a s := fun s hs => R1.2.2.1 s
  have ev : Ev pmT 68 [.ref 0] h (some (.int (nI N))) (ph_s h1, pm_u2 (fu (ph_i h1) 2 0 N (fun i => hv (ph_i h1 7 (0 + i)))) 6 1 0, ph_l h1, ph_r h1) := by
    refine Ev.of (es := cd_68) (ml := 2) (lv := [some (.ref 0), none]) rfl rfl rfl ?_
    obtain ⟨S1, fi1, fl1, fr1⟩ := h1
    have s1 : S1 = shT := I1.1
    subst s1
    obtain ⟨S, fi, fl, fr⟩ := h
    have hS : S = shT := hI.1
    subst hS
    have k0 : fr 0 0 = some 1 := k0
    have k6 : fr 0 6 = some 6 := k6
    have c1 : fi 1 1 = (a_v a).1 1 := c1
    have b : fi 6 1 = nI (a_tl a) := b
    have m0 : fr1 0 0 = some 1 := m0
    have m8 : fr1 1 8 = some 2 := m8
    have m6 : fr1 0 6 = some 6 := m6
    have m7 : fr1 6 0 = some 7 := m7
    have d1 : fi1 1 1 = nI N := d1
    have e9 : fu fi1 2 0 N (fun i => hv (fi1 7 (0 + i))) 1 1 = nI N := (fu_ne (by decide)).trans d1
    have lp := hrC_loop (r := (some (.int (nI N)), (shT, pm_u2 (fu fi1 2 0 N (fun i => hv (fi1 7 (0 + i)))) 6 1 0, fl1, fr1))) hN N 0 fi1 fl1 fr1 (by omega) d1 m0 m8 m6 m7 (fun s hs => by
      have := hA.2.2.1 s
      rw [← by1 s hs] at this
      exact this) (by
      generalize fu fi1 2 0 N (fun i => hv (fi1 7 (0 + i))) = f2 at e9 ⊢
      refine go_of ?_
      refine gp_n 1 (j' := 37) (lv' := [some (.ref 0), some (.int (nI N))]) (st' := [.ref 0]) (h' := (shT, f2, fl1, fr1)) rfl ?_
      refine gp_of (fun _ k9 => g_getR (q' := 6) rfl rfl (by decide) m6 k9) ?_
      refine gp_n 1 (j' := 39) (lv' := [some (.ref 0), some (.int (nI N))]) (st' := [.int 0, .ref 6]) (h' := (shT, f2, fl1, fr1)) rfl ?_
      refine gp_of (fun _ k9 => g_putI rfl (Or.inl rfl) rfl (by decide) k9) ?_
      refine gp_n 1 (j' := 41) (lv' := [some (.ref 0), some (.int (nI N))]) (st' := [.ref 0]) (h' := (shT, pm_u2 f2 6 1 0, fl1, fr1)) rfl ?_
      refine gp_of (fun _ k9 => g_getR (q' := 1) rfl rfl (by decide) m0 k9) ?_
      refine gp_of (fun _ k9 => g_getI (x := nI N) rfl (Or.inl rfl) rfl (by decide) (e9) k9) ?_
      refine gp_done (g_ret rfl) ?_
      rfl)
    refine go_of ?_
    refine gp_n 1 (j' := 1) (lv' := [some (.ref 0), none]) (st' := [.ref 0]) (h' := (shT, fi, fl, fr)) rfl ?_
    refine gp_of (fun _ k9 => g_getR (q' := 1) rfl rfl (by decide) k0 k9) ?_
    refine gp_of (fun _ k9 => g_call (y := 57) (as := [.ref 1]) (st' := []) rfl rfl (t1) k9) ?_
    refine gp_of (fun _ k9 => g_iff rfl (show ¬ ((1 : Int32) = (0 : Int32)) from by decide) k9) ?_
    refine gp_n 1 (j' := 5) (lv' := [some (.ref 0), none]) (st' := [.ref 0]) (h' := (shT, fi, fl, fr)) rfl ?_
    refine gp_of (fun _ k9 => g_getR (q' := 6) rfl rfl (by decide) k6 k9) ?_
    refine gp_of (fun _ k9 => g_getI (x := nI (a_tl a)) rfl (Or.inl rfl) rfl (by decide) (b) k9) ?_
    refine gp_n 1 (j' := 8) (lv' := [some (.ref 0), none]) (st' := [.ref 0, .int (nI (a_tl a))]) (h' := (shT, fi, fl, fr)) rfl ?_
    refine gp_of (fun _ k9 => g_getR (q' := 1) rfl rfl (by decide) k0 k9) ?_
    refine gp_of (fun _ k9 => g_getI (x := (a_v a).1 1) rfl (Or.inl rfl) rfl (by decide) (c1) k9) ?_
    refine gp_of (fun _ k9 => g_ict rfl (show (nI (a_tl a)) = ((a_v a).1 1) from hP.2) k9) ?_
    refine gp_n 1 (j' := 14) (lv' := [some (.ref 0), none]) (st' := [.ref 0]) (h' := (shT, fi, fl, fr)) rfl ?_
    refine gp_of (fun _ k9 => g_callv (y := 49) (as := [.ref 0]) (st' := []) rfl rfl (ev1) k9) ?_
    refine gp_n 2 (j' := 17) (lv' := [some (.ref 0), some (.int (nI 0))]) (st' := []) (h' := (shT, fi1, fl1, fr1)) rfl ?_
    exact gp_done lp rfl
  obtain ⟨J1, J2⟩ := iv_s vN_31 (as := [.ref 0]) rfl (fun _ _ => gz_c (gz_r (by decide)) gz_n) hI ev
  refine ⟨_, ev, ?_, J1, J2⟩
  have mid : QC L (ph_s h1, fu (ph_i h1) 2 0 N (fun i => hv (ph_i h1 7 (0 + i))), ph_l h1, ph_r h1) (a_setv (v_hear N (a_tb a) (a_v a)) (a_push a)) := by
    refine QC_v R1 (fun p s _ h2 => by rw [phi_mk, fu_ne h2]) (fun _ _ _ => rfl) (fun _ _ => rfl) ⟨fun i hi => by rw [phi_mk, fu_ne (by decide)]; exact f1.1 i hi, fun hL => ⟨(f1.2 hL).1, fun s hs => ?_⟩⟩
    rw [phi_mk]
    show fu (ph_i h1) 2 0 N (fun i => hv (ph_i h1 7 (0 + i))) 2 s = if s < N then hv (a_tb a s) else (a_v a).2.2 s
    by_cases h6 : s < N
    · rw [if_pos h6, fu_in (by omega) (by omega), show 0 + (s - 0) = s by omega, by1 s h6]
    · rw [if_neg h6, fu_out (by omega)]
      exact (f1.2 hL).2 s hs
  exact QC_t mid u2_i (fun p s hp => u2_n hp) (fun _ _ => rfl) (fun _ _ => rfl)
theorem hrM_loop {N : Nat} {r : Option Value × PmH} (hN : N ≤ 64) : ∀ (n b : Nat) (fi : Nat → Nat → Int32) (fl : Nat → Nat → Int64) (fr : Nat → Nat → Option Nat), b + n = N → fi 70 14 = nI N → fr 70 22 = some 74 → fr 70 0 = some 71 → Go pmT none cd_180 36 [some (.ref 70), some (.int (nI N))] [] (shT, fu fi 74 b n (fun i => hv (fi 71 (b + i))), fl, fr) r → Go pmT none cd_180 14 [some (.ref 70), some (.int (nI b))] [] (shT, fi, fl, fr) r := by
  intro n
  induction n with
  | zero =>
    intro b fi fl fr hb c1 k22 k0 k
    have hb : b = N := by omega
    subst hb
    rw [fu_0] at k
    refine go_of ?_
    refine gp_n 2 (j' := 16) (lv' := [some (.ref 70), some (.int (nI b))]) (st' := [.ref 70, .int (nI b)]) (h' := (shT, fi, fl, fr)) rfl ?_
    refine gp_of (fun _ k9 => g_getI (x := nI b) rfl (Or.inl rfl) rfl (by decide) (c1) k9) ?_
    refine gp_of (fun _ k9 => g_ict rfl (show (nI b) ≤ (nI b) from Int32.le_refl _) k9) ?_
    exact gp_done k rfl
  | succ n ih =>
    intro b fi fl fr hb c1 k22 k0 k
    have e1 : fu (pm_u2 fi 74 b (hv (fi 71 b))) 74 (b + 1) n (fun i => hv (pm_u2 fi 74 b (hv (fi 71 b)) 71 (b + 1 + i))) = fu fi 74 b (n + 1) (fun i => hv (fi 71 (b + i))) := fu_s (f := fi) (p := 74) (lo := b) (n := n) (g := fun i => hv (fi 71 (b + i))) (fun i => by show hv (fi 71 (b + 1 + i)) = hv (fi 71 (b + (i + 1))); rw [show b + 1 + i = b + (i + 1) by omega])
    have g := ih (b + 1) (pm_u2 fi 74 b (hv (fi 71 b))) fl fr (by omega) c1 k22 k0 (by rw [e1]; exact k)
    refine go_of ?_
    refine gp_n 2 (j' := 16) (lv' := [some (.ref 70), some (.int (nI b))]) (st' := [.ref 70, .int (nI b)]) (h' := (shT, fi, fl, fr)) rfl ?_
    refine gp_of (fun _ k9 => g_getI (x := nI N) rfl (Or.inl rfl) rfl (by decide) (c1) k9) ?_
    refine gp_of (fun _ k9 => g_icf rfl (show ¬ ((nI N) ≤ (nI b)) from nI_ge (by omega) (by omega)) k9) ?_
    refine gp_n 1 (j' := 19) (lv' := [some (.ref 70), some (.int (nI b))]) (st' := [.ref 70]) (h' := (shT, fi, fl, fr)) rfl ?_
    refine gp_of (fun _ k9 => g_getR (q' := 74) rfl rfl (by decide) k22 k9) ?_
    refine gp_n 2 (j' := 22) (lv' := [some (.ref 70), some (.int (nI b))]) (st' := [.ref 70, .int (nI b), .ref 74]) (h' := (shT, fi, fl, fr)) rfl ?_
    refine gp_of (fun _ k9 => g_getR (q' := 71) rfl rfl (by decide) k0 k9) ?_
    refine gp_n 1 (j' := 24) (lv' := [some (.ref 70), some (.int (nI b))]) (st' := [.int (nI b), .ref 71, .int (nI b), .ref 74]) (h' := (shT, fi, fl, fr)) rfl ?_
    refine gp_of (fun _ k9 => g_bald (k := b) (x := fi 71 b) rfl rfl (by decide) (rfl) (by omega) (by decide) (rfl) k9) ?_
    refine gp_n 1 (j' := 26) (lv' := [some (.ref 70), some (.int (nI b))]) (st' := [.int (-128), .int (fi 71 b), .int (nI b), .ref 74]) (h' := (shT, fi, fl, fr)) rfl ?_
    refine gp_ic rfl (fun hc => ?_) (fun hc => ?_)
    · replace hc : ¬ (fi 71 b) = ((-128) : Int32) := hc
      rw [show hv (fi 71 b) = fi 71 b from if_neg hc] at g
      refine gp_n 1 (j' := 30) (lv' := [some (.ref 70), some (.int (nI b))]) (st' := [.ref 70, .int (nI b), .ref 74]) (h' := (shT, fi, fl, fr)) rfl ?_
      refine gp_of (fun _ k9 => g_getR (q' := 71) rfl rfl (by decide) k0 k9) ?_
      refine gp_n 1 (j' := 32) (lv' := [some (.ref 70), some (.int (nI b))]) (st' := [.int (nI b), .ref 71, .int (nI b), .ref 74]) (h' := (shT, fi, fl, fr)) rfl ?_
      refine gp_of (fun _ k9 => g_bald (k := b) (x := fi 71 b) rfl rfl (by decide) (rfl) (by omega) (by decide) (rfl) k9) ?_
      refine gp_of (fun _ k9 => g_iast (k := b) rfl rfl (rfl) (by omega) (by decide) k9) ?_
      refine gp_n 2 (j' := 14) (lv' := [some (.ref 70), some (.int ((nI b) + 1))]) (st' := []) (h' := (shT, pm_u2 fi 74 b (fi 71 b), fl, fr)) rfl ?_
      rw [nI_1]
      exact gp_done g rfl
    · replace hc : ¬ (¬ (fi 71 b) = ((-128) : Int32)) := hc
      rw [show hv (fi 71 b) = -127 from if_pos (Classical.not_not.mp hc)] at g
      refine gp_n 2 (j' := 33) (lv' := [some (.ref 70), some (.int (nI b))]) (st' := [.int (-127), .int (nI b), .ref 74]) (h' := (shT, fi, fl, fr)) rfl ?_
      refine gp_of (fun _ k9 => g_iast (k := b) rfl rfl (rfl) (by omega) (by decide) k9) ?_
      refine gp_n 2 (j' := 14) (lv' := [some (.ref 70), some (.int ((nI b) + 1))]) (st' := []) (h' := (shT, pm_u2 fi 74 b (-127), fl, fr)) rfl ?_
      rw [nI_1]
      exact gp_done g rfl
theorem her_M0 {L : Bool} {h : PmH} {a : AB} (hI : HI hdT shT h) (hR : QM L h a) (hP : ¬ P_hear a) : Ev pmT 180 [.ref 70] h (some (.int (-1))) h := by
  have f := hR.2.2.2.2.1
  have c1 : ph_i h 70 14 = (a_v a).1 1 := f.1 0 (by decide)
  have b := hR.2.1
  have t1 := isc1 hI c1
  have t0 := isc0 hI c1
  refine Ev.of (es := cd_180) (ml := 2) (lv := [some (.ref 70), none]) rfl rfl rfl ?_
  obtain ⟨S, fi, fl, fr⟩ := h
  have hS : S = shT := hI.1
  subst hS
  have c1 : fi 70 14 = (a_v a).1 1 := c1
  have b : fi 70 1 = nI (a_tl a) := b
  refine go_of ?_
  by_cases p1 : 0 < (a_v a).1 1
  · have p2 : ¬ nI (a_tl a) = (a_v a).1 1 := fun z => hP ⟨p1, z⟩
    refine gp_n 1 (j' := 1) (lv' := [some (.ref 70), none]) (st' := [.ref 70]) (h' := (shT, fi, fl, fr)) rfl ?_
    refine gp_of (fun _ k9 => g_call (y := 172) (as := [.ref 70]) (st' := []) rfl rfl (t1 p1) k9) ?_
    refine gp_of (fun _ k9 => g_iff rfl (show ¬ ((1 : Int32) = (0 : Int32)) from by decide) k9) ?_
    refine gp_n 1 (j' := 4) (lv' := [some (.ref 70), none]) (st' := [.ref 70]) (h' := (shT, fi, fl, fr)) rfl ?_
    refine gp_of (fun _ k9 => g_getI (x := nI (a_tl a)) rfl (Or.inl rfl) rfl (by decide) (b) k9) ?_
    refine gp_n 1 (j' := 6) (lv' := [some (.ref 70), none]) (st' := [.ref 70, .int (nI (a_tl a))]) (h' := (shT, fi, fl, fr)) rfl ?_
    refine gp_of (fun _ k9 => g_getI (x := (a_v a).1 1) rfl (Or.inl rfl) rfl (by decide) (c1) k9) ?_
    refine gp_of (fun _ k9 => g_icf rfl (show ¬ ((nI (a_tl a)) = ((a_v a).1 1)) from p2) k9) ?_
    refine gp_n 1 (j' := 9) (lv' := [some (.ref 70), none]) (st' := [.int (-1)]) (h' := (shT, fi, fl, fr)) rfl ?_
    refine gp_done (g_ret rfl) ?_
    rfl
  · refine gp_n 1 (j' := 1) (lv' := [some (.ref 70), none]) (st' := [.ref 70]) (h' := (shT, fi, fl, fr)) rfl ?_
    refine gp_of (fun _ k9 => g_call (y := 172) (as := [.ref 70]) (st' := []) rfl rfl (t0 p1) k9) ?_
    refine gp_of (fun _ k9 => g_ift rfl (show (0 : Int32) = (0 : Int32) from by decide) k9) ?_
    refine gp_n 1 (j' := 9) (lv' := [some (.ref 70), none]) (st' := [.int (-1)]) (h' := (shT, fi, fl, fr)) rfl ?_
    refine gp_done (g_ret rfl) ?_
    rfl
theorem her_M {L : Bool} {h : PmH} {a : AB} {N : Nat} (hI : HI hdT shT h) (hR : QM L h a) (hA : AOK a) (hN : N ≤ 64) (hn : (a_v a).1 1 = nI N) (hP : P_hear a) : ∃ h', Ev pmT 180 [.ref 70] h (some (.int (nI N))) h' ∧ QM L h' (a_tape 0 (a_setv (v_hear N (a_tb a) (a_v a)) (a_push a))) ∧ HI hdT shT h' ∧ fram (in_w iN_185) h h' := by
  have f := hR.2.2.2.2.1
  have c1 : ph_i h 70 14 = (a_v a).1 1 := f.1 0 (by decide)
  have b := hR.2.1
  have t1 := isc1 hI c1 hP.1
  have tN : a_tl a = N := (nI_eq (by have := hA.1; omega) (by omega)).mp (hP.2.trans hn)
  obtain ⟨h1, ev1, R1, I1, F1⟩ := ka_ev hI hR hA.2.1
  have f1 := R1.2.2.2.2.1
  have d1 : ph_i h1 70 14 = nI N := (f1.1 0 (by decide)).trans hn
  have m22 : ph_r h1 70 22 = some 74 := hi_r I1 rfl rfl (by decide)
  have m0 : ph_r h1 70 0 = some 71 := hi_r I1 rfl rfl (by decide)
  have by1 : ∀ s, s < N → ph_i h1 71 s = a_tb a s := fun s hs => R1.2.2.1 s
  have ev : Ev pmT 180 [.ref 70] h (some (.int (nI N))) (ph_s h1, pm_u2 (fu (ph_i h1) 74 0 N (fun i => hv (ph_i h1 71 (0 + i)))) 70 1 0, ph_l h1, ph_r h1) := by
    refine Ev.of (es := cd_180) (ml := 2) (lv := [some (.ref 70), none]) rfl rfl rfl ?_
    obtain ⟨S1, fi1, fl1, fr1⟩ := h1
    have s1 : S1 = shT := I1.1
    subst s1
    obtain ⟨S, fi, fl, fr⟩ := h
    have hS : S = shT := hI.1
    subst hS
    have c1 : fi 70 14 = (a_v a).1 1 := c1
    have b : fi 70 1 = nI (a_tl a) := b
    have m22 : fr1 70 22 = some 74 := m22
    have m0 : fr1 70 0 = some 71 := m0
    have d1 : fi1 70 14 = nI N := d1
    have e9 : fu fi1 74 0 N (fun i => hv (fi1 71 (0 + i))) 70 14 = nI N := (fu_ne (by decide)).trans d1
    have lp := hrM_loop (r := (some (.int (nI N)), (shT, pm_u2 (fu fi1 74 0 N (fun i => hv (fi1 71 (0 + i)))) 70 1 0, fl1, fr1))) hN N 0 fi1 fl1 fr1 (by omega) d1 m22 m0 (by
      generalize fu fi1 74 0 N (fun i => hv (fi1 71 (0 + i))) = f2 at e9 ⊢
      refine go_of ?_
      refine gp_n 2 (j' := 38) (lv' := [some (.ref 70), some (.int (nI N))]) (st' := [.int 0, .ref 70]) (h' := (shT, f2, fl1, fr1)) rfl ?_
      refine gp_of (fun _ k9 => g_putI rfl (Or.inl rfl) rfl (by decide) k9) ?_
      refine gp_n 1 (j' := 40) (lv' := [some (.ref 70), some (.int (nI N))]) (st' := [.ref 70]) (h' := (shT, pm_u2 f2 70 1 0, fl1, fr1)) rfl ?_
      refine gp_of (fun _ k9 => g_getI (x := nI N) rfl (Or.inl rfl) rfl (by decide) (e9) k9) ?_
      refine gp_done (g_ret rfl) ?_
      rfl)
    refine go_of ?_
    refine gp_n 1 (j' := 1) (lv' := [some (.ref 70), none]) (st' := [.ref 70]) (h' := (shT, fi, fl, fr)) rfl ?_
    refine gp_of (fun _ k9 => g_call (y := 172) (as := [.ref 70]) (st' := []) rfl rfl (t1) k9) ?_
    refine gp_of (fun _ k9 => g_iff rfl (show ¬ ((1 : Int32) = (0 : Int32)) from by decide) k9) ?_
    refine gp_n 1 (j' := 4) (lv' := [some (.ref 70), none]) (st' := [.ref 70]) (h' := (shT, fi, fl, fr)) rfl ?_
    refine gp_of (fun _ k9 => g_getI (x := nI (a_tl a)) rfl (Or.inl rfl) rfl (by decide) (b) k9) ?_
    refine gp_n 1 (j' := 6) (lv' := [some (.ref 70), none]) (st' := [.ref 70, .int (nI (a_tl a))]) (h' := (shT, fi, fl, fr)) rfl ?_
    refine gp_of (fun _ k9 => g_getI (x := (a_v a).1 1) rfl (Or.inl rfl) rfl (by decide) (c1) k9) ?_
    refine gp_of (fun _ k9 => g_ict rfl (show (nI (a_tl a)) = ((a_v a).1 1) from hP.2) k9) ?_
    refine gp_n 1 (j' := 11) (lv' := [some (.ref 70), none]) (st' := [.ref 70]) (h' := (shT, fi, fl, fr)) rfl ?_
    refine gp_of (fun _ k9 => g_callv (y := 162) (as := [.ref 70]) (st' := []) rfl rfl (ev1) k9) ?_
    refine gp_n 2 (j' := 14) (lv' := [some (.ref 70), some (.int (nI 0))]) (st' := []) (h' := (shT, fi1, fl1, fr1)) rfl ?_
    exact gp_done lp rfl
  obtain ⟨J1, J2⟩ := iv_s vN_185 (as := [.ref 70]) rfl (fun _ _ => gz_c (gz_r (by decide)) gz_n) hI ev
  refine ⟨_, ev, ?_, J1, J2⟩
  have mid : QM L (ph_s h1, fu (ph_i h1) 74 0 N (fun i => hv (ph_i h1 71 (0 + i))), ph_l h1, ph_r h1) (a_setv (v_hear N (a_tb a) (a_v a)) (a_push a)) := by
    refine QM_v R1 (fun p s _ h2 => by rw [phi_mk, fu_ne h2]) (fun _ _ _ => rfl) ⟨fun i hi => by rw [phi_mk, fu_ne (by decide)]; exact f1.1 i hi, fun hL => ⟨(f1.2 hL).1, fun s hs => ?_⟩⟩
    rw [phi_mk]
    show fu (ph_i h1) 74 0 N (fun i => hv (ph_i h1 71 (0 + i))) 74 s = if s < N then hv (a_tb a s) else (a_v a).2.2 s
    by_cases h6 : s < N
    · rw [if_pos h6, fu_in (by omega) (by omega), show 0 + (s - 0) = s by omega, by1 s h6]
    · rw [if_neg h6, fu_out (by omega)]
      exact (f1.2 hL).2 s hs
  exact QM_t mid u2_i (fun p s hp => u2_n hp) (fun _ _ => rfl)
