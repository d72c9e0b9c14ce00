/-! READING: the pairs -/
def rdX (a : AB) (m most : Nat) : RSt := rdN (a_v a).2.1 m (a_v a).2.2 most (2 ^ m)
def rdD (a : AB) (m k c most : Nat) (p : Nat) : Bool := decide (hdP (a_v a).2.1 (2 ^ m) k c ((a_v a).1 4) ((rdX a m most).2.1 p))
theorem rd_get {h : PmH} {a : AB} (hr : REL3 h a) (h0 : 0 < (a_v a).1 1) : ∃ m k c l, VK (a_v a) m k c ∧ (a_v a).1 6 = nI l ∧ 1 ≤ l ∧ l ≤ 8 := by
  obtain ⟨m, k, c, vk⟩ := vok_N hr.1.2.1 h0
  rcases hr.1.2.1.2.2 with z | ⟨k', l, e1, e2, e3, e4, e5, e6⟩
  · rw [z] at h0
    exact absurd h0 (by decide)
  · exact ⟨m, k, c, l, vk, e4, e5, e6⟩
theorem ne_m1 : ∀ c, c < 64 → ¬ nI c = (-1 : Int32) := by decide
theorem run_C {h : PmH} {a : AB} {m k c most : Nat} (hr : REL3 h a) (vk : VK (a_v a) m k c) (h1 : 1 ≤ most) (h8 : most ≤ 8) : ∃ h', Ev pmT 82 [.ref 13, .ref 1, .ref 2, .int (nI most), .int 0, .int (-1)] h none h' ∧ roI (a_v a).2.1 m k c ((a_v a).1 4) (a_v a).2.2 most h' ∧ HI hdT shT h' ∧ fram (in_w iN_113) h h' := by
  obtain ⟨⟨⟨hI, hC, hM, hA⟩, hV⟩, hR⟩ := id hr
  have f := hC.2.2.2.2.1
  have p6 := pw_6 m (by have := vk.1; omega)
  exact ru_ev_2 hI hR vk.1 h1 h8 ne_m1 vk.2.2.2.2.2.2.1 vk.2.1 vk.2.2.2.2.2.2.2 (fun s hs => (f.2 rfl).2 s (by omega)) hV.1.2.1 ((f.1 0 (by decide)).trans vk.2.2.1) ((f.1 1 (by decide)).trans vk.2.2.2.1) ((f.1 2 (by decide)).trans vk.2.2.2.2.1) ((f.1 3 (by decide)).trans vk.2.2.2.2.2.1) (f.1 4 (by decide)) (f.2 rfl).1
theorem run_M {h : PmH} {a : AB} {m k c most : Nat} (hr : REL2 h a) (vk : VK (a_v a) m k c) (h1 : 1 ≤ most) (h8 : most ≤ 8) : ∃ h', Ev pmT 191 [.ref 70, .int (nI most)] h none h' ∧ HI hdT shT h' ∧ mrI (a_v a).2.1 m (a_v a).2.2 most (2 ^ m) h' ∧ fram rd_W h h' := by
  have f := hr.1.2.2.1.2.2.2.2.1
  have p6 := pw_6 m (by have := vk.1; omega)
  exact mr_ev vk.1 h1 h8 hr.1.1 ⟨(f.1 0 (by decide)).trans vk.2.2.2.1, (f.2 rfl).1, fun s hs => (f.2 rfl).2 s (by omega)⟩
/-- readHeard -/
theorem rh_C {h : PmH} {a : AB} {m k c l : Nat} (hr : REL3 h a) (vk : VK (a_v a) m k c) (hl : (a_v a).1 6 = nI l) (h1 : 1 ≤ l) (h8 : l ≤ 8) : ∃ h', Ev pmT 81 [.ref 0] h none h' ∧ roI (a_v a).2.1 m k c ((a_v a).1 4) (a_v a).2.2 l h' ∧ HI hdT shT h' ∧ fram (in_w iN_113) h h' := by
  obtain ⟨h', e1, x1, I1, F1⟩ := run_C hr vk h1 h8
  refine ⟨h', ?_, x1, I1, F1⟩
  have hI := hr.1.1.1
  have k0 : ph_r h 0 0 = some 1 := hi_r hI rfl rfl (by decide)
  have k8 : ph_r h 0 8 = some 13 := hi_r hI rfl rfl (by decide)
  have s8 : ph_r h 1 8 = some 2 := hi_r hI rfl rfl (by decide)
  have c6 : ph_i h 1 6 = nI l := (hr.1.1.2.1.2.2.2.2.1.1 6 (by decide)).trans hl
  clear x1 F1 hr
  obtain ⟨S1, fi1, fl1, fr1⟩ := h'
  have s1 : S1 = shT := I1.1
  subst s1
  refine Ev.of (es := cd_81) (ml := 1) (lv := [some (.ref 0)]) rfl rfl rfl ?_
  obtain ⟨S, fi, fl, fr⟩ := h
  have hS : S = shT := hI.1
  subst hS
  have k0 : fr 0 0 = some 1 := k0
  have k8 : fr 0 8 = some 13 := k8
  have s8 : fr 1 8 = some 2 := s8
  have c6 : fi 1 6 = nI l := c6
  refine go_of ?_
  refine gp_n 1 (j' := 1) (lv' := [some (.ref 0)]) (st' := [.ref 0]) (h' := (shT, fi, fl, fr)) rfl ?_
  refine gp_of (fun _ k9 => g_getR (q' := 13) rfl rfl (by decide) k8 k9) ?_
  refine gp_n 1 (j' := 3) (lv' := [some (.ref 0)]) (st' := [.ref 0, .ref 13]) (h' := (shT, fi, fl, fr)) rfl ?_
  refine gp_of (fun _ k9 => g_getR (q' := 1) rfl rfl (by decide) k0 k9) ?_
  refine gp_n 1 (j' := 5) (lv' := [some (.ref 0)]) (st' := [.ref 0, .ref 1, .ref 13]) (h' := (shT, fi, fl, fr)) rfl ?_
  refine gp_of (fun _ k9 => g_getR (q' := 1) rfl rfl (by decide) k0 k9) ?_
  refine gp_of (fun _ k9 => g_getR (q' := 2) rfl rfl (by decide) s8 k9) ?_
  refine gp_n 1 (j' := 8) (lv' := [some (.ref 0)]) (st' := [.ref 0, .ref 2, .ref 1, .ref 13]) (h' := (shT, fi, fl, fr)) rfl ?_
  refine gp_of (fun _ k9 => g_getR (q' := 1) rfl rfl (by decide) k0 k9) ?_
  refine gp_of (fun _ k9 => g_getI (x := nI l) rfl (Or.inl rfl) rfl (by decide) (c6) k9) ?_
  refine gp_n 2 (j' := 12) (lv' := [some (.ref 0)]) (st' := [.int (-1), .int 0, .int (nI l), .ref 2, .ref 1, .ref 13]) (h' := (shT, fi, fl, fr)) rfl ?_
  refine gp_of (fun _ k9 => g_callv (y := 82) (as := [.ref 13, .ref 1, .ref 2, .int (nI l), .int 0, .int (-1)]) (st' := []) rfl rfl (e1) k9) ?_
  refine gp_done (g_vret rfl) ?_
  rfl
/-- firstThatHolds -/
theorem fh_go {h : PmH} {P : Nat} {D : Nat → Bool} {B : Nat → Int64} (hI : HI hdT shT h) (hP : P ≤ 8) (c25 : ph_i h 70 25 = nI P) (hB : ∀ p, p < P → ph_l h 76 p = B p) (hD : ∀ p, p < P → Ev pmT 201 [.ref 70, .long (B p)] h (some (.int (b01 (D p)))) h) : ∀ (n p : Nat), p + n = P → fhN D p = none → Go pmT none cd_200 2 [some (.ref 70), some (.int (nI p))] [] h (some (.int (oI (fhN D P))), h) := by
  have k26 : ph_r h 70 26 = some 76 := hi_r hI rfl rfl (by decide)
  intro n
  induction n with
  | zero =>
    intro p hp hn
    have hp : p = P := by omega
    subst hp
    rw [hn]
    show Go pmT none cd_200 2 [some (.ref 70), some (.int (nI p))] [] h (some (.int (-1)), h)
    obtain ⟨S, fi, fl, fr⟩ := h
    have hS : S = shT := hI.1
    subst hS
    have c25 : fi 70 25 = nI p := c25
    refine go_of ?_
    refine gp_n 2 (j' := 4) (lv' := [some (.ref 70), some (.int (nI p))]) (st' := [.ref 70, .int (nI p)]) (h' := (shT, fi, fl, fr)) rfl ?_
    refine gp_of (fun _ k9 => g_getI (x := nI p) rfl (Or.inl rfl) rfl (by decide) (c25) k9) ?_
    refine gp_of (fun _ k9 => g_ict rfl (show (nI p) ≤ (nI p) from Int32.le_refl _) k9) ?_
    refine gp_n 1 (j' := 18) (lv' := [some (.ref 70), some (.int (nI p))]) (st' := [.int (-1)]) (h' := (shT, fi, fl, fr)) rfl ?_
    refine gp_done (g_ret rfl) ?_
    rfl
  | succ n ih =>
    intro p hp hn
    have bp := hB p (by omega)
    have dp := hD p (by omega)
    cases hd : D p
    · rw [hd] at dp
      have dp : Ev pmT 201 [.ref 70, .long (B p)] h (some (.int 0)) h := dp
      have g := ih (p + 1) (by omega) (by rw [fhN, hn]; show (if D p = true then some p else none) = none; rw [hd, if_neg (by decide)])
      generalize oI (fhN D P) = e at *
      clear ih hD hB
      generalize B p = w at *
      obtain ⟨S, fi, fl, fr⟩ := h
      have hS : S = shT := hI.1
      subst hS
      have c25 : fi 70 25 = nI P := c25
      have k26 : fr 70 26 = some 76 := k26
      refine go_of ?_
      refine gp_n 2 (j' := 4) (lv' := [some (.ref 70), some (.int (nI p))]) (st' := [.ref 70, .int (nI p)]) (h' := (shT, fi, fl, fr)) rfl ?_
      refine gp_of (fun _ k9 => g_getI (x := nI P) rfl (Or.inl rfl) rfl (by decide) (c25) k9) ?_
      refine gp_of (fun _ k9 => g_icf rfl (show ¬ ((nI P) ≤ (nI p)) from nI_ge (by omega) (by omega)) k9) ?_
      refine gp_n 2 (j' := 8) (lv' := [some (.ref 70), some (.int (nI p))]) (st' := [.ref 70, .ref 70]) (h' := (shT, fi, fl, fr)) rfl ?_
      refine gp_of (fun _ k9 => g_getR (q' := 76) rfl rfl (by decide) k26 k9) ?_
      refine gp_n 1 (j' := 10) (lv' := [some (.ref 70), some (.int (nI p))]) (st' := [.int (nI p), .ref 76, .ref 70]) (h' := (shT, fi, fl, fr)) rfl ?_
      refine gp_of (fun _ k9 => g_lald (k := p) (x := w) rfl rfl (rfl) (by omega) (by decide) (bp) k9) ?_
      refine gp_of (fun _ k9 => g_call (y := 201) (as := [.ref 70, .long w]) (st' := []) rfl rfl (dp) k9) ?_
      refine gp_of (fun _ k9 => g_ift rfl (show (0 : Int32) = (0 : Int32) from by decide) k9) ?_
      refine gp_n 2 (j' := 2) (lv' := [some (.ref 70), some (.int ((nI p) + 1))]) (st' := []) (h' := (shT, fi, fl, fr)) rfl ?_
      rw [nI_1]
      exact gp_done g rfl
    · rw [hd] at dp
      have dp : Ev pmT 201 [.ref 70, .long (B p)] h (some (.int 1)) h := dp
      have e1 : fhN D (p + 1) = some p := by
        rw [fhN, hn]
        show (if D p = true then some p else none) = some p
        rw [hd, if_pos rfl]
      have e2 := fhN_st e1 n
      rw [show p + 1 + n = P by omega] at e2
      rw [e2]
      show Go pmT none cd_200 2 [some (.ref 70), some (.int (nI p))] [] h (some (.int (nI p)), h)
      clear ih hD hB
      generalize B p = w at *
      obtain ⟨S, fi, fl, fr⟩ := h
      have hS : S = shT := hI.1
      subst hS
      have c25 : fi 70 25 = nI P := c25
      have k26 : fr 70 26 = some 76 := k26
      refine go_of ?_
      refine gp_n 2 (j' := 4) (lv' := [some (.ref 70), some (.int (nI p))]) (st' := [.ref 70, .int (nI p)]) (h' := (shT, fi, fl, fr)) rfl ?_
      refine gp_of (fun _ k9 => g_getI (x := nI P) rfl (Or.inl rfl) rfl (by decide) (c25) k9) ?_
      refine gp_of (fun _ k9 => g_icf rfl (show ¬ ((nI P) ≤ (nI p)) from nI_ge (by omega) (by omega)) k9) ?_
      refine gp_n 2 (j' := 8) (lv' := [some (.ref 70), some (.int (nI p))]) (st' := [.ref 70, .ref 70]) (h' := (shT, fi, fl, fr)) rfl ?_
      refine gp_of (fun _ k9 => g_getR (q' := 76) rfl rfl (by decide) k26 k9) ?_
      refine gp_n 1 (j' := 10) (lv' := [some (.ref 70), some (.int (nI p))]) (st' := [.int (nI p), .ref 76, .ref 70]) (h' := (shT, fi, fl, fr)) rfl ?_
      refine gp_of (fun _ k9 => g_lald (k := p) (x := w) rfl rfl (rfl) (by omega) (by decide) (bp) k9) ?_
      refine gp_of (fun _ k9 => g_call (y := 201) (as := [.ref 70, .long w]) (st' := []) rfl rfl (dp) k9) ?_
      refine gp_of (fun _ k9 => g_iff rfl (show ¬ ((1 : Int32) = (0 : Int32)) from by decide) k9) ?_
      refine gp_n 1 (j' := 14) (lv' := [some (.ref 70), some (.int (nI p))]) (st' := [.int (nI p)]) (h' := (shT, fi, fl, fr)) rfl ?_
      refine gp_done (g_ret rfl) ?_
      rfl
theorem fh_M {h : PmH} {a : AB} {m k c most : Nat} (hr : REL2 h a) (vk : VK (a_v a) m k c) (h1 : 1 ≤ most) (h8 : most ≤ 8) (hx : mrI (a_v a).2.1 m (a_v a).2.2 most (2 ^ m) h) : Ev pmT 200 [.ref 70] h (some (.int (oI (fhN (rdD a m k c most) (rdX a m most).1)))) h := by
  have f := hr.1.2.2.1.2.2.2.2.1
  have p6 := pw_6 m (by have := vk.1; omega)
  have hP := rd_P (K := (a_v a).2.1) (m := m) (S := (a_v a).2.2) h1 (2 ^ m)
  have g := fh_go (P := (rdX a m most).1) (D := rdD a m k c most) (B := (rdX a m most).2.1) hr.1.1 (Nat.le_trans hP.2 h8) hx.1.1 (fun p hp => (hx.1.2 p hp).1) (fun p hp => hd_M hr.1.1 p6.2 vk.2.2.2.2.2.2.1 vk.2.1 ((f.1 0 (by decide)).trans vk.2.2.2.1) ((f.1 2 (by decide)).trans vk.2.2.2.2.1) ((f.1 3 (by decide)).trans vk.2.2.2.2.2.1) (f.1 4 (by decide)) (f.2 rfl).1) (rdX a m most).1 0 (by omega) rfl
  refine Ev.of (es := cd_200) (ml := 2) (lv := [some (.ref 70), none]) rfl rfl rfl ?_
  refine go_of ?_
  refine gp_n 2 (j' := 2) (lv' := [some (.ref 70), some (.int (nI 0))]) (st' := []) (h' := h) rfl ?_
  exact gp_done g rfl
theorem ch_M {h : PmH} {a : AB} {m k c most : Nat} (hr : REL2 h a) (vk : VK (a_v a) m k c) (h1 : 1 ≤ most) (h8 : most ≤ 8) (hx : mrI (a_v a).2.1 m (a_v a).2.2 most (2 ^ m) h) : Ev pmT 199 [.ref 70] h (some (.int (nI (chN (rdD a m k c most) (rdX a m most).1)))) h := by
  have e := fh_M hr vk h1 h8 hx
  have hP := rd_P (K := (a_v a).2.1) (m := m) (S := (a_v a).2.2) h1 (2 ^ m)
  have lt := fhN_lt (D := rdD a m k c most) (rdX a m most).1
  have hP8 : (rdX a m most).1 ≤ 8 := Nat.le_trans hP.2 h8
  unfold chN
  have hI := hr.1.1
  cases hf : fhN (rdD a m k c most) (rdX a m most).1 with
  | none =>
    rw [hf] at e
    have e : Ev pmT 200 [.ref 70] h (some (.int (-1))) h := e
    show Ev pmT 199 [.ref 70] h (some (.int 0)) h
    refine Ev.of (es := cd_199) (ml := 2) (lv := [some (.ref 70), none]) rfl rfl rfl ?_
    clear hx hr
    obtain ⟨S, fi, fl, fr⟩ := h
    have hS : S = shT := hI.1
    subst hS
    refine go_of ?_
    refine gp_n 1 (j' := 1) (lv' := [some (.ref 70), none]) (st' := [.ref 70]) (h' := (shT, fi, fl, fr)) rfl ?_
    refine gp_of (fun _ k9 => g_call (y := 200) (as := [.ref 70]) (st' := []) rfl rfl (e) k9) ?_
    refine gp_n 2 (j' := 4) (lv' := [some (.ref 70), some (.int (-1))]) (st' := [.int (-1)]) (h' := (shT, fi, fl, fr)) rfl ?_
    refine gp_of (fun _ k9 => g_iff rfl (show ¬ ((0 : Int32) ≤ ((-1) : Int32)) from by decide) k9) ?_
    refine gp_n 2 (j' := 8) (lv' := [some (.ref 70), some (.int (-1))]) (st' := [.int 0]) (h' := (shT, fi, fl, fr)) rfl ?_
    refine gp_done (g_ret rfl) ?_
    rfl
  | some q =>
    rw [hf] at e
    have q1 := (lt q hf).1
    have e : Ev pmT 200 [.ref 70] h (some (.int (nI q))) h := e
    show Ev pmT 199 [.ref 70] h (some (.int (nI q))) h
    refine Ev.of (es := cd_199) (ml := 2) (lv := [some (.ref 70), none]) rfl rfl rfl ?_
    clear hx hr
    obtain ⟨S, fi, fl, fr⟩ := h
    have hS : S = shT := hI.1
    subst hS
    refine go_of ?_
    refine gp_n 1 (j' := 1) (lv' := [some (.ref 70), none]) (st' := [.ref 70]) (h' := (shT, fi, fl, fr)) rfl ?_
    refine gp_of (fun _ k9 => g_call (y := 200) (as := [.ref 70]) (st' := []) rfl rfl (e) k9) ?_
    refine gp_n 2 (j' := 4) (lv' := [some (.ref 70), some (.int (nI q))]) (st' := [.int (nI q)]) (h' := (shT, fi, fl, fr)) rfl ?_
    refine gp_of (fun _ k9 => g_ift rfl (show (0 : Int32) ≤ (nI q) from nI_pos' (by omega)) k9) ?_
    refine gp_n 1 (j' := 8) (lv' := [some (.ref 70), some (.int (nI q))]) (st' := [.int (nI q)]) (h' := (shT, fi, fl, fr)) rfl ?_
    refine gp_done (g_ret rfl) ?_
    rfl
theorem ch_lt {D : Nat → Bool} {P : Nat} (h : 1 ≤ P) : chN D P < P := by
  unfold chN
  cases hf : fhN D P with
  | none => exact h
  | some q => exact (fhN_lt P q hf).1
/-- both readings, one after the other -/
theorem rd_pair {h h1 : PmH} {a : AB} {m k c most : Nat} (hr : REL3 h a) (vk : VK (a_v a) m k c) (m1 : 1 ≤ most) (m8 : most ≤ 8) (hx : roI (a_v a).2.1 m k c ((a_v a).1 4) (a_v a).2.2 most h1) (I1 : HI hdT shT h1) (F1 : fram (in_w iN_113) h h1) : REL3 h1 a := ⟨q_fr (by decide) (by decide) I1 F1 hr.1, roI_RD2 hx⟩
theorem rd_pairM {h h1 : PmH} {a : AB} (hr : REL3 h a) (I1 : HI hdT shT h1) (F1 : fram rd_W h h1) : REL3 h1 a := ⟨q_fr (by decide) (by decide) I1 F1 hr.1, RD_fr (by decide) (by decide) F1 hr.2⟩
theorem mo_C2 {h : PmH} {a : AB} {m k c : Nat} (hr : REL2 h a) (vk : VK (a_v a) m k c) (ch : Int64) : Ev pmT 108 [.ref 1, .long ch] h (some (.long (mgW (a_v a).2.1 (2 ^ m) k ch))) h := by
  have f := hr.1.2.1.2.2.2.2.1
  have p6 := pw_6 m (by have := vk.1; omega)
  exact mo_C hr.1.1 p6.2 (vk_k vk) ((f.1 1 (by decide)).trans vk.2.2.2.1) ((f.1 2 (by decide)).trans vk.2.2.2.2.1) (f.2 rfl).1
theorem mo_M2 {h : PmH} {a : AB} {m k c : Nat} (hr : REL2 h a) (vk : VK (a_v a) m k c) (ch : Int64) : Ev pmT 202 [.ref 70, .long ch] h (some (.long (mgW (a_v a).2.1 (2 ^ m) k ch))) h := by
  have f := hr.1.2.2.1.2.2.2.2.1
  have p6 := pw_6 m (by have := vk.1; omega)
  exact mo_M hr.1.1 p6.2 (vk_k vk) ((f.1 0 (by decide)).trans vk.2.2.2.1) ((f.1 2 (by decide)).trans vk.2.2.2.2.1) (f.2 rfl).1
theorem rd_C {h h1 : PmH} {a : AB} {m k c l : Nat} (hr : REL3 h a) (h0 : 0 < (a_v a).1 1) (vk : VK (a_v a) m k c) (l1 : 1 ≤ l) (l8 : l ≤ 8) (e1 : Ev pmT 81 [.ref 0] h none h1) (hx : roI (a_v a).2.1 m k c ((a_v a).1 4) (a_v a).2.2 l h1) (I1 : HI hdT shT h1) (r1 : REL3 h1 a) : Ev pmT 80 [.ref 0] h (some (.long (mgW (a_v a).2.1 (2 ^ m) k ((rdX a m l).2.1 (chN (rdD a m k c l) (rdX a m l).1))))) h1 := by
  have hI := hr.1.1.1
  have t1 := told1 hI (hr.1.1.2.1.2.2.2.2.1.1 1 (by decide)) h0
  have k0 : ph_r h 0 0 = some 1 := hi_r hI rfl rfl (by decide)
  have q0 : ph_r h1 0 0 = some 1 := hi_r I1 rfl rfl (by decide)
  have q8 : ph_r h1 0 8 = some 13 := hi_r I1 rfl rfl (by decide)
  have hP := rd_P (K := (a_v a).2.1) (m := m) (S := (a_v a).2.2) l1 (2 ^ m)
  obtain ⟨A, hA, a1, a2, a3, a4, a5⟩ := hx
  have cl := ch_lt (D := rdD a m k c l) (P := (rdX a m l).1) hP.1
  have cb : (rdX a m l).1 ≤ 8 := Nat.le_trans hP.2 l8
  have bb := (a1.2.2.2 _ cl).1
  have mo := mo_C2 r1.1 vk ((rdX a m l).2.1 (chN (rdD a m k c l) (rdX a m l).1))
  have kB : ∀ A, (A = 14 ∨ A = 18) → ph_r h1 A 1 = some (A + 1) := fun A hA => by
    rcases hA with rfl | rfl
    · exact hi_r I1 rfl rfl (by decide)
    · exact hi_r I1 rfl rfl (by decide)
  have kB := kB A hA
  have ka := a1.1
  have a4 : ph_i h1 13 7 = nI (chN (rdD a m k c l) (rdX a m l).1) := a4
  have bb : ph_l h1 (A + 1) (chN (rdD a m k c l) (rdX a m l).1) = (rdX a m l).2.1 (chN (rdD a m k c l) (rdX a m l).1) := bb
  generalize mgW (a_v a).2.1 (2 ^ m) k ((rdX a m l).2.1 (chN (rdD a m k c l) (rdX a m l).1)) = w at *
  generalize (rdX a m l).2.1 (chN (rdD a m k c l) (rdX a m l).1) = u at *
  generalize chN (rdD a m k c l) (rdX a m l).1 = q at *
  clear a1 a2 a3 a5 hr r1
  obtain ⟨S1, fi1, fl1, fr1⟩ := h1
  have s1 : S1 = shT := I1.1
  subst s1
  have q0 : fr1 0 0 = some 1 := q0
  have q8 : fr1 0 8 = some 13 := q8
  have kB : fr1 A 1 = some (A + 1) := kB
  have ka : fr1 13 0 = some A := ka
  have a4 : fi1 13 7 = nI q := a4
  have bb : fl1 (A + 1) q = u := bb
  refine Ev.of (es := cd_80) (ml := 1) (lv := [some (.ref 0)]) rfl rfl rfl ?_
  obtain ⟨S, fi, fl, fr⟩ := h
  have hS : S = shT := hI.1
  subst hS
  have k0 : fr 0 0 = some 1 := k0
  refine go_of ?_
  rcases hA with rfl | rfl
  ·
    refine gp_n 1 (j' := 1) (lv' := [some (.ref 0)]) (st' := [.ref 0]) (h' := (shT, fi, fl, fr)) rfl ?_
    refine gp_of (fun _ k9 => g_getR (q' := 1) rfl rfl (by decide) k0 k9) ?_
    refine gp_of (fun _ k9 => g_call (y := 57) (as := [.ref 1]) (st' := []) rfl rfl (t1) k9) ?_
    refine gp_of (fun _ k9 => g_ift rfl (show ¬ (1 : Int32) = (0 : Int32) from by decide) k9) ?_
    refine gp_n 1 (j' := 7) (lv' := [some (.ref 0)]) (st' := [.ref 0]) (h' := (shT, fi, fl, fr)) rfl ?_
    refine gp_of (fun _ k9 => g_callv (y := 81) (as := [.ref 0]) (st' := []) rfl rfl (e1) k9) ?_
    refine gp_n 1 (j' := 9) (lv' := [some (.ref 0)]) (st' := [.ref 0]) (h' := (shT, fi1, fl1, fr1)) rfl ?_
    refine gp_of (fun _ k9 => g_getR (q' := 1) rfl rfl (by decide) q0 k9) ?_
    refine gp_n 1 (j' := 11) (lv' := [some (.ref 0)]) (st' := [.ref 0, .ref 1]) (h' := (shT, fi1, fl1, fr1)) rfl ?_
    refine gp_of (fun _ k9 => g_getR (q' := 13) rfl rfl (by decide) q8 k9) ?_
    refine gp_of (fun _ k9 => g_getR (q' := 14) rfl rfl (by decide) ka k9) ?_
    refine gp_of (fun _ k9 => g_getR (q' := 15) rfl rfl (by decide) kB k9) ?_
    refine gp_n 1 (j' := 15) (lv' := [some (.ref 0)]) (st' := [.ref 0, .ref 15, .ref 1]) (h' := (shT, fi1, fl1, fr1)) rfl ?_
    refine gp_of (fun _ k9 => g_getR (q' := 13) rfl rfl (by decide) q8 k9) ?_
    refine gp_of (fun _ k9 => g_getI (x := nI q) rfl (Or.inl rfl) rfl (by decide) (a4) k9) ?_
    refine gp_of (fun _ k9 => g_lald (k := q) (x := u) rfl rfl (rfl) (by omega) (by decide) (bb) k9) ?_
    refine gp_of (fun _ k9 => g_call (y := 108) (as := [.ref 1, .long u]) (st' := []) rfl rfl (mo) k9) ?_
    refine gp_done (g_lret rfl) ?_
    rfl
  ·
    refine gp_n 1 (j' := 1) (lv' := [some (.ref 0)]) (st' := [.ref 0]) (h' := (shT, fi, fl, fr)) rfl ?_
    refine gp_of (fun _ k9 => g_getR (q' := 1) rfl rfl (by decide) k0 k9) ?_
    refine gp_of (fun _ k9 => g_call (y := 57) (as := [.ref 1]) (st' := []) rfl rfl (t1) k9) ?_
    refine gp_of (fun _ k9 => g_ift rfl (show ¬ (1 : Int32) = (0 : Int32) from by decide) k9) ?_
    refine gp_n 1 (j' := 7) (lv' := [some (.ref 0)]) (st' := [.ref 0]) (h' := (shT, fi, fl, fr)) rfl ?_
    refine gp_of (fun _ k9 => g_callv (y := 81) (as := [.ref 0]) (st' := []) rfl rfl (e1) k9) ?_
    refine gp_n 1 (j' := 9) (lv' := [some (.ref 0)]) (st' := [.ref 0]) (h' := (shT, fi1, fl1, fr1)) rfl ?_
    refine gp_of (fun _ k9 => g_getR (q' := 1) rfl rfl (by decide) q0 k9) ?_
    refine gp_n 1 (j' := 11) (lv' := [some (.ref 0)]) (st' := [.ref 0, .ref 1]) (h' := (shT, fi1, fl1, fr1)) rfl ?_
    refine gp_of (fun _ k9 => g_getR (q' := 13) rfl rfl (by decide) q8 k9) ?_
    refine gp_of (fun _ k9 => g_getR (q' := 18) rfl rfl (by decide) ka k9) ?_
    refine gp_of (fun _ k9 => g_getR (q' := 19) rfl rfl (by decide) kB k9) ?_
    refine gp_n 1 (j' := 15) (lv' := [some (.ref 0)]) (st' := [.ref 0, .ref 19, .ref 1]) (h' := (shT, fi1, fl1, fr1)) rfl ?_
    refine gp_of (fun _ k9 => g_getR (q' := 13) rfl rfl (by decide) q8 k9) ?_
    refine gp_of (fun _ k9 => g_getI (x := nI q) rfl (Or.inl rfl) rfl (by decide) (a4) k9) ?_
    refine gp_of (fun _ k9 => g_lald (k := q) (x := u) rfl rfl (rfl) (by omega) (by decide) (bb) k9) ?_
    refine gp_of (fun _ k9 => g_call (y := 108) (as := [.ref 1, .long u]) (st' := []) rfl rfl (mo) k9) ?_
    refine gp_done (g_lret rfl) ?_
    rfl
theorem rd_M {h h1 : PmH} {a : AB} {m k c l : Nat} (hr : REL2 h a) (h0 : 0 < (a_v a).1 1) (vk : VK (a_v a) m k c) (hl : (a_v a).1 6 = nI l) (l1 : 1 ≤ l) (l8 : l ≤ 8) (e1 : Ev pmT 191 [.ref 70, .int (nI l)] h none h1) (hx : mrI (a_v a).2.1 m (a_v a).2.2 l (2 ^ m) h1) (r1 : REL2 h1 a) : Ev pmT 190 [.ref 70] h (some (.long (mgW (a_v a).2.1 (2 ^ m) k ((rdX a m l).2.1 (chN (rdD a m k c l) (rdX a m l).1))))) h1 := by
  have hI := hr.1.1
  have I1 := r1.1.1
  have c0 : ph_i h 70 14 = (a_v a).1 1 := hr.1.2.2.1.2.2.2.2.1.1 0 (by decide)
  have c6 : ph_i h 70 20 = nI l := (hr.1.2.2.1.2.2.2.2.1.1 6 (by decide)).trans hl
  have t1 := isc1 hI c0 h0
  have hP := rd_P (K := (a_v a).2.1) (m := m) (S := (a_v a).2.2) l1 (2 ^ m)
  have cm := ch_M r1 vk l1 l8 hx
  have cl := ch_lt (D := rdD a m k c l) (P := (rdX a m l).1) hP.1
  have cb : (rdX a m l).1 ≤ 8 := Nat.le_trans hP.2 l8
  have bb := (hx.1.2 _ cl).1
  have mo := mo_M2 r1 vk ((rdX a m l).2.1 (chN (rdD a m k c l) (rdX a m l).1))
  have q26 : ph_r h1 70 26 = some 76 := hi_r I1 rfl rfl (by decide)
  have bb : ph_l h1 76 (chN (rdD a m k c l) (rdX a m l).1) = (rdX a m l).2.1 (chN (rdD a m k c l) (rdX a m l).1) := bb
  generalize mgW (a_v a).2.1 (2 ^ m) k ((rdX a m l).2.1 (chN (rdD a m k c l) (rdX a m l).1)) = w at *
  generalize (rdX a m l).2.1 (chN (rdD a m k c l) (rdX a m l).1) = u at *
  generalize chN (rdD a m k c l) (rdX a m l).1 = q at *
  clear hr r1 hx
  obtain ⟨S1, fi1, fl1, fr1⟩ := h1
  have s1 : S1 = shT := I1.1
  subst s1
  have q26 : fr1 70 26 = some 76 := q26
  have bb : fl1 76 q = u := bb
  refine Ev.of (es := cd_190) (ml := 1) (lv := [some (.ref 70)]) rfl rfl rfl ?_
  obtain ⟨S, fi, fl, fr⟩ := h
  have hS : S = shT := hI.1
  subst hS
  have c6 : fi 70 20 = nI l := c6
  refine go_of ?_
  refine gp_n 1 (j' := 1) (lv' := [some (.ref 70)]) (st' := [.ref 70]) (h' := (shT, fi, fl, fr)) rfl ?_
  refine gp_of (fun _ k9 => g_call (y := 172) (as := [.ref 70]) (st' := []) rfl rfl (t1) k9) ?_
  refine gp_of (fun _ k9 => g_ift rfl (show ¬ (1 : Int32) = (0 : Int32) from by decide) k9) ?_
  refine gp_n 2 (j' := 7) (lv' := [some (.ref 70)]) (st' := [.ref 70, .ref 70]) (h' := (shT, fi, fl, fr)) rfl ?_
  refine gp_of (fun _ k9 => g_getI (x := nI l) rfl (Or.inl rfl) rfl (by decide) (c6) k9) ?_
  refine gp_of (fun _ k9 => g_callv (y := 191) (as := [.ref 70, .int (nI l)]) (st' := []) rfl rfl (e1) k9) ?_
  refine gp_n 2 (j' := 11) (lv' := [some (.ref 70)]) (st' := [.ref 70, .ref 70]) (h' := (shT, fi1, fl1, fr1)) rfl ?_
  refine gp_of (fun _ k9 => g_getR (q' := 76) rfl rfl (by decide) q26 k9) ?_
  refine gp_n 1 (j' := 13) (lv' := [some (.ref 70)]) (st' := [.ref 70, .ref 76, .ref 70]) (h' := (shT, fi1, fl1, fr1)) rfl ?_
  refine gp_of (fun _ k9 => g_call (y := 199) (as := [.ref 70]) (st' := [.ref 76, .ref 70]) rfl rfl (cm) k9) ?_
  refine gp_of (fun _ k9 => g_lald (k := q) (x := u) rfl rfl (rfl) (by omega) (by decide) (bb) k9) ?_
  refine gp_of (fun _ k9 => g_call (y := 202) (as := [.ref 70, .long u]) (st' := []) rfl rfl (mo) k9) ?_
  refine gp_done (g_lret rfl) ?_
  rfl
theorem p3_read {h : PmH} {a : AB} (hr : REL3 h a) : PL3 80 190 [] h (fun x y => x = y) := by
  have hI := hr.1.1.1
  by_cases h0 : 0 < (a_v a).1 1
  · obtain ⟨m, k, c, l, vk, hl, l1, l8⟩ := rd_get hr h0
    obtain ⟨h1, e1, x1, I1, F1⟩ := rh_C hr vk hl l1 l8
    have r1 := rd_pair hr vk l1 l8 x1 I1 F1
    obtain ⟨h2, e2, I2, x2, F2⟩ := run_M r1.1 vk l1 l8
    have r2 := rd_pairM r1 I2 F2
    exact ⟨_, _, h1, h2, a, rd_C hr h0 vk l1 l8 e1 x1 I1 r1, rd_M r1.1 h0 vk hl l1 l8 e2 x2 r2.1, r2, I1, rfl⟩
  · refine ⟨0, 0, h, h, a, ?_, ?_, hr, hI, rfl⟩
    · have t0 := told0 hI (hr.1.1.2.1.2.2.2.2.1.1 1 (by decide)) h0
      have k0 : ph_r h 0 0 = some 1 := hi_r hI rfl rfl (by decide)
      refine Ev.of (es := cd_80) (ml := 1) (lv := [some (.ref 0)]) rfl rfl rfl ?_
      clear hr
      obtain ⟨S, fi, fl, fr⟩ := h
      have hS : S = shT := hI.1
      subst hS
      have k0 : fr 0 0 = some 1 := k0
      refine go_of ?_
      refine gp_n 1 (j' := 1) (lv' := [some (.ref 0)]) (st' := [.ref 0]) (h' := (shT, fi, fl, fr)) rfl ?_
      refine gp_of (fun _ k9 => g_getR (q' := 1) rfl rfl (by decide) k0 k9) ?_
      refine gp_of (fun _ k9 => g_call (y := 57) (as := [.ref 1]) (st' := []) rfl rfl (t0) k9) ?_
      refine gp_of (fun _ k9 => g_iff rfl (show ¬ (¬ (0 : Int32) = (0 : Int32)) from by decide) k9) ?_
      refine gp_n 1 (j' := 5) (lv' := [some (.ref 0)]) (st' := [.long 0]) (h' := (shT, fi, fl, fr)) rfl ?_
      refine gp_done (g_lret rfl) ?_
      rfl
    · have t0 := isc0 hI (hr.1.1.2.2.1.2.2.2.2.1.1 0 (by decide)) h0
      refine Ev.of (es := cd_190) (ml := 1) (lv := [some (.ref 70)]) rfl rfl rfl ?_
      clear hr
      obtain ⟨S, fi, fl, fr⟩ := h
      have hS : S = shT := hI.1
      subst hS
      refine go_of ?_
      refine gp_n 1 (j' := 1) (lv' := [some (.ref 70)]) (st' := [.ref 70]) (h' := (shT, fi, fl, fr)) rfl ?_
      refine gp_of (fun _ k9 => g_call (y := 172) (as := [.ref 70]) (st' := []) rfl rfl (t0) k9) ?_
      refine gp_of (fun _ k9 => g_iff rfl (show ¬ (¬ (0 : Int32) = (0 : Int32)) from by decide) k9) ?_
      refine gp_n 1 (j' := 4) (lv' := [some (.ref 70)]) (st' := [.long 0]) (h' := (shT, fi, fl, fr)) rfl ?_
      refine gp_done (g_lret rfl) ?_
      rfl
