theorem sh_2 : ∀ v, v < 7 → (1 : Int32) <<< (nI v &&& 31) = nI (2 ^ v) ∧ 2 ^ v ≤ 64 := by decide +kernel
/-- before the size is known -/
def pc_0 (F : Nat → Int32) (t p : Nat) (h : PmH) : Prop := pc_P F t p h ∧ ph_i h 8 5 = 0 ∧ (ph_i h 8 6 = nI 0 ∧ ph_i h 9 2 = nI 0 ∧ ph_i h 9 3 = nI 0 ∧ ph_i h 9 4 = nI 0 ∧ ph_i h 9 5 = nI 500 ∧ ph_i h 9 6 = nI 4 ∧ ph_l h 9 7 = 0) ∧ p ≤ t
theorem hpl_0 {F : Nat → Int32} {t p q : Nat} {h : PmH} (hS : pc_0 F t p h) (hq : q ≤ t) : pc_0 F t q (hpl h q) := by
  obtain ⟨p0, f5, ⟨a0, a1, a2, a3, a4, a5, a6⟩, hp⟩ := hS
  have ne : ∀ c s, ¬ (c = 8 ∧ s = 4) → ph_i (hpl h q) c s = ph_i h c s := fun c s hn => wl_ne hn
  exact ⟨hpl_P p0, ft_hpl.trans f5, ⟨(ne _ _ (by decide)).trans a0, (ne _ _ (by decide)).trans a1, (ne _ _ (by decide)).trans a2, (ne _ _ (by decide)).trans a3, (ne _ _ (by decide)).trans a4, (ne _ _ (by decide)).trans a5, a6⟩, hq⟩
theorem h9_m {h : PmH} (hI : HI hdT shT h) {v : Nat} (hv : v ≤ 6) : HI hdT shT (h9 (h9 h 0 (nI v)) 1 (nI (2 ^ v))) := by
  have h1 : HI hdT shT (h9 h 0 (nI v)) := HI_wi hI (fun _ => by
    rw [show hd_at hdT shT 9 0 = (0, 0, 6, []) from rfl]
    show (0 : Int) ≤ _ ∧ _ ≤ (6 : Int)
    rw [nI_toInt (by omega)]
    omega)
  have h2 := (sh_2 v (by omega)).2
  generalize 2 ^ v = q at h2 ⊢
  exact HI_wi h1 (fun _ => by
    rw [show hd_at hdT shT 9 1 = (0, 0, 64, []) from rfl]
    show (0 : Int) ≤ _ ∧ _ ≤ (64 : Int)
    rw [nI_toInt (by omega)]
    omega)
def R0 (m : Nat) : RC := (0, m, 0, 0, 0, 500, 4, 0)
def sizeS (F : Nat → Int32) (t p : Nat) : Option (RC × Nat) := if isW F (sk F t cB p) (sk F t cL (sk F t cB p)) (wd 0) = true then (num F t 2 6 (sk F t cL (sk F t cB p))).map (fun q => (R0 q.1, q.2)) else none
theorem ps_ev {F : Nat → Int32} {t p : Nat} {h : PmH} (ht : t ≤ 200) (hS : pc_0 F t p h) : pc_O F t h (sizeS F t p) 17 [.ref 8] := by
  have s1 := sb_ev ht hS.2.2.2 hS.1
  have B1 : sk F t cB p ≤ t := sk_le _ _ hS.2.2.2
  have S1 := hpl_0 (q := sk F t cB p) hS B1
  have s2 := sl_ev ht B1 S1.1
  have E1 : sk F t cL (sk F t cB p) ≤ t := sk_le _ _ B1
  have E0 : sk F t cB p ≤ sk F t cL (sk F t cB p) := sk_ge _ _
  have S2 := hpl_0 (q := sk F t cL (sk F t cB p)) S1 E1
  have w1 := iw_ev_0 ht S2.1 E0 E1
  unfold sizeS
  generalize hw : isW F (sk F t cB p) (sk F t cL (sk F t cB p)) (wd 0) = w at *
  generalize hE : sk F t cL (sk F t cB p) = E at *
  generalize hB : sk F t cB p = B at *
  have f2 : fram pc_W h (hpl (hpl h B) E) := fram.tr (fram.up (by decide) hpl_fr) (fram.up (by decide) hpl_fr)
  have e4B : ph_i (hpl h B) 8 4 = nI B := S1.1.2.2.2.1
  have pref : ∀ r, Go pmT none cd_17 11 [some (.ref 8), some (.int (nI B)), none] [.int (b01 w)] (hpl (hpl h B) E) r → Go pmT none cd_17 0 [some (.ref 8), none, none] [] h r := by
    intro r g
    obtain ⟨S, fi, fl, fr⟩ := h
    have hSS : S = shT := hS.1.1.1
    subst hSS
    have e4B : pm_u2 fi 8 4 (nI B) 8 4 = nI B := e4B
    refine g_n 1 (j' := 1) (lv' := [some (.ref 8), none, none]) (st' := [.ref 8]) (h' := (shT, fi, fl, fr)) rfl ?_
    refine g_callv (y := 18) (as := [.ref 8]) (st' := []) rfl rfl (s1) ?_
    refine g_n 1 (j' := 3) (lv' := [some (.ref 8), none, none]) (st' := [.ref 8]) (h' := (shT, pm_u2 fi 8 4 (nI B), fl, fr)) rfl ?_
    refine g_getI (x := nI B) rfl (Or.inl rfl) rfl (by decide) (e4B) ?_
    refine g_n 2 (j' := 6) (lv' := [some (.ref 8), some (.int (nI B)), none]) (st' := [.ref 8]) (h' := (shT, pm_u2 fi 8 4 (nI B), fl, fr)) rfl ?_
    refine g_callv (y := 19) (as := [.ref 8]) (st' := []) rfl rfl (s2) ?_
    refine g_n 3 (j' := 10) (lv' := [some (.ref 8), some (.int (nI B)), none]) (st' := [.retAddr 0, .int (nI B), .ref 8]) (h' := (shT, pm_u2 (pm_u2 fi 8 4 (nI B)) 8 4 (nI E), fl, fr)) rfl ?_
    refine g_call (y := 20) (as := [.ref 8, .int (nI B), .retAddr 0]) (st' := []) rfl rfl (w1) ?_
    exact g
  have fin : ∀ h', Go pmT none cd_17 11 [some (.ref 8), some (.int (nI B)), none] [.int (b01 w)] (hpl (hpl h B) E) (none, h') → Ev pmT 17 [.ref 8] h none h' := fun h' g => Ev.of (es := cd_17) (ml := 3) (lv := [some (.ref 8), none, none]) rfl rfl rfl (pref _ g)
  generalize hpl (hpl h B) E = h2 at *
  have bm1 := bm_ev (w := nI B) (k := nI 1) S2.1.1 S2.2.1
  have r_8_0 : ph_r h2 8 0 = some 9 := hi_r S2.1.1 rfl rfl (by decide)
  cases w with
  | false =>
    refine Or.inr ⟨rfl, _, fin _ ?_, hft_X (q := B) (k := 1) S2.1 E1 (by omega) (by omega) (by omega) f2 (by decide)⟩
    obtain ⟨S, fi, fl, fr⟩ := h2
    have hSS : S = shT := S2.1.1.1
    subst hSS
    refine g_iff rfl (show ¬ (¬ (0 : Int32) = (0 : Int32)) from fun z => z rfl) ?_
    refine g_n 3 (j' := 15) (lv' := [some (.ref 8), some (.int (nI B)), none]) (st' := [.int (nI 1), .int (nI B), .ref 8]) (h' := (shT, fi, fl, fr)) rfl ?_
    refine g_callv (y := 32) (as := [.ref 8, .int (nI B), .int (nI 1)]) (st' := []) rfl rfl (bm1) ?_
    exact g_vret rfl
  | true =>
    rw [if_pos rfl]
    rcases nb_ev (lo := 2) (hi := 6) ht S2.2.2.2 S2.1 S2.2.1 (by decide) (by decide) with ⟨v, e, q1, q2, q3, q4, q5, q6⟩ | ⟨q1, x, h', q2, q3⟩
    · have S3 := hpl_0 (q := e) S2 q4
      have I3 := h9_m (v := v) S3.1.1 q3
      have r3 : ph_r (hpl h2 e) 8 0 = some 9 := hi_r S3.1.1 rfl rfl (by decide)
      refine Or.inl ⟨R0 v, e, h9 (h9 (hpl h2 e) 0 (nI v)) 1 (nI (2 ^ v)), by rw [q1]; rfl, fin _ ?_, ⟨⟨I3, S3.1.2.1, ?_, ?_, fun s => ?_⟩, ?_, ?_, q4⟩, fram.tr f2 (fram.tr (fram.up (by decide) hpl_fr) (fram.tr (h9_fr (by decide)) (h9_fr (by decide))))⟩
      · have sh := (sh_2 v (by omega)).1
        have f3 := S3.2.1
        obtain ⟨S, fi, fl, fr⟩ := h2
        have hSS : S = shT := S2.1.1.1
        subst hSS
        have r_8_0 : fr 8 0 = some 9 := r_8_0
        have f3 : pm_u2 fi 8 4 (nI e) 8 5 = 0 := f3
        refine g_ift rfl (show ¬ (1 : Int32) = (0 : Int32) from by decide) ?_
        refine g_n 3 (j' := 20) (lv' := [some (.ref 8), some (.int (nI B)), none]) (st' := [.int (nI 6), .int (nI 2), .ref 8]) (h' := (shT, fi, fl, fr)) rfl ?_
        refine g_call (y := 33) (as := [.ref 8, .int (nI 2), .int (nI 6)]) (st' := []) rfl rfl (q6) ?_
        refine g_n 2 (j' := 23) (lv' := [some (.ref 8), some (.int (nI B)), some (.int (nI v))]) (st' := [.ref 8]) (h' := (shT, pm_u2 fi 8 4 (nI e), fl, fr)) rfl ?_
        refine g_getI (x := 0) rfl (Or.inl rfl) rfl (by decide) (f3) ?_
        refine g_iff rfl (show ¬ (¬ (0 : Int32) = (0 : Int32)) from fun z => z rfl) ?_
        refine g_n 1 (j' := 26) (lv' := [some (.ref 8), some (.int (nI B)), some (.int (nI v))]) (st' := [.ref 8]) (h' := (shT, pm_u2 fi 8 4 (nI e), fl, fr)) rfl ?_
        refine g_getR (q' := 9) rfl rfl (by decide) r_8_0 ?_
        refine g_n 1 (j' := 28) (lv' := [some (.ref 8), some (.int (nI B)), some (.int (nI v))]) (st' := [.int (nI v), .ref 9]) (h' := (shT, pm_u2 fi 8 4 (nI e), fl, fr)) rfl ?_
        refine g_putI rfl (Or.inl rfl) rfl (by decide) ?_
        refine g_n 1 (j' := 30) (lv' := [some (.ref 8), some (.int (nI B)), some (.int (nI v))]) (st' := [.ref 8]) (h' := (shT, pm_u2 (pm_u2 fi 8 4 (nI e)) 9 0 (nI v), fl, fr)) rfl ?_
        refine g_getR (q' := 9) rfl rfl (by decide) r_8_0 ?_
        refine g_n 3 (j' := 34) (lv' := [some (.ref 8), some (.int (nI B)), some (.int (nI v))]) (st' := [.int (1 <<< ((nI v) &&& 31)), .ref 9]) (h' := (shT, pm_u2 (pm_u2 fi 8 4 (nI e)) 9 0 (nI v), fl, fr)) rfl ?_
        rw [sh]
        refine g_putI rfl (Or.inl rfl) rfl (by decide) ?_
        exact g_vret rfl
      · exact ((h9_ne (by decide)).trans (h9_ne (by decide))).trans S3.1.2.2.1
      · exact ((h9_ne (by decide)).trans (h9_ne (by decide))).trans S3.1.2.2.2.1
      · exact ((h9_ne (fun z => absurd z.1 (by decide))).trans (h9_ne (fun z => absurd z.1 (by decide)))).trans (S3.1.2.2.2.2 s)
      · exact ((h9_ne (by decide)).trans (h9_ne (by decide))).trans S3.2.1
      · obtain ⟨a0, a1, a2, a3, a4, a5, a6⟩ := S3.2.2.1
        exact ⟨((h9_ne (by decide)).trans (h9_ne (by decide))).trans a0, (h9_ne (by decide)).trans h9_eq, h9_eq, ((h9_ne (by decide)).trans (h9_ne (by decide))).trans a1, ((h9_ne (by decide)).trans (h9_ne (by decide))).trans a2, ((h9_ne (by decide)).trans (h9_ne (by decide))).trans a3, ((h9_ne (by decide)).trans (h9_ne (by decide))).trans a4, ((h9_ne (by decide)).trans (h9_ne (by decide))).trans a5, a6⟩
    · refine Or.inr ⟨by rw [q1]; rfl, h', fin _ ?_, q3.1, fram.tr f2 (fram.up (by decide) q3.2.1), q3.2.2⟩
      obtain ⟨p', p1, p2⟩ := q3.2.2
      have nf := q3.1
      obtain ⟨S, fi, fl, fr⟩ := h2
      have hSS : S = shT := S2.1.1.1
      subst hSS
      obtain ⟨S', fi', fl', fr'⟩ := h'
      have hSS' : S' = shT := p2.1.1
      subst hSS'
      have nf : ¬ fi' 8 5 = 0 := nf
      refine g_ift rfl (show ¬ (1 : Int32) = (0 : Int32) from by decide) ?_
      refine g_n 3 (j' := 20) (lv' := [some (.ref 8), some (.int (nI B)), none]) (st' := [.int (nI 6), .int (nI 2), .ref 8]) (h' := (shT, fi, fl, fr)) rfl ?_
      refine g_call (y := 33) (as := [.ref 8, .int (nI 2), .int (nI 6)]) (st' := []) rfl rfl (q2) ?_
      refine g_n 2 (j' := 23) (lv' := [some (.ref 8), some (.int (nI B)), some (.int x)]) (st' := [.ref 8]) (h' := (shT, fi', fl', fr')) rfl ?_
      refine g_getI (x := fi' 8 5) rfl (Or.inl rfl) rfl (by decide) (rfl) ?_
      refine g_ift rfl (show ¬ (fi' 8 5) = (0 : Int32) from nf) ?_
      exact g_vret rfl
def linesS (F : Nat → Int32) (t : Nat) : Nat → RC → Nat → Option (RC × Nat)
  | 0, _, _ => none
  | q + 1, R, p => if sk F t cB p < t then (if F (sk F t cB p) = 59 then (lineS F t R (sk F t cB p + 1)).bind (fun z => linesS F t q z.1 z.2) else none) else some (R, sk F t cB p)
theorem pp_go {F : Nat → Int32} {t : Nat} {Q : Option Value × PmH → Prop} (ht : t ≤ 200) : ∀ (q line p : Nat) (R : RC) (h : PmH), t < q + p → line ≤ p → R.1 < 64 → R.2.1 ≤ 6 → pc_S F t p R h → (∀ l R' e h', linesS F t q R p = some (R', e) → pc_S F t e R' h' → R'.1 < 64 → R'.2.1 = R.2.1 → fram pc_W h h' → ∃ r, Q r ∧ Go pmT none cd_14 38 [some (.ref 8), some (.ref 6), l] [] h' r) → (∀ l h', linesS F t q R p = none → pc_X F t h h' pc_W → ∃ r, Q r ∧ Go pmT none cd_14 38 [some (.ref 8), some (.ref 6), l] [] h' r) → ∃ r, Q r ∧ Go pmT none cd_14 27 [some (.ref 8), some (.ref 6), some (.int (nI line))] [] h r := by
  intro q
  induction q with
  | zero =>
    intro line p R h hq hl hW hm hS k1 k2
    have := hS.2.2.2
    omega
  | succ q ih =>
    intro line p R h hq hl hW hm hS k1 k2
    rw [linesS] at k1 k2
    have pt := hS.2.2.2
    have B0 : p ≤ sk F t cB p := sk_ge _ _
    by_cases hlt : line < t
    · have st : ∀ (x : Int32) (h' : PmH) (j : Nat) (r : Option Value × PmH), (x = 0 ∧ j = 38) ∨ (x = 1 ∧ j = 34) → Ev pmT 35 [.ref 8] h (some (.int x)) h' → Go pmT none cd_14 j [some (.ref 8), some (.ref 6), some (.int (nI line))] [] h' r → Go pmT none cd_14 27 [some (.ref 8), some (.ref 6), some (.int (nI line))] [] h r := by
        intro x h' j r hx ev g
        obtain ⟨S, fi, fl, fr⟩ := h
        have hSS : S = shT := hS.1.1.1
        subst hSS
        have e3 : fi 8 3 = nI t := hS.1.2.2.1
        rcases hx with ⟨rfl, rfl⟩ | ⟨rfl, rfl⟩
        · refine g_n 2 (j' := 29) (lv' := [some (.ref 8), some (.ref 6), some (.int (nI line))]) (st' := [.ref 8, .int (nI line)]) (h' := (shT, fi, fl, fr)) rfl ?_
          refine g_getI (x := nI t) rfl (Or.inl rfl) rfl (by decide) (e3) ?_
          refine g_icf rfl (show ¬ ((nI t) ≤ (nI line)) from nI_ge hlt (by omega)) ?_
          refine g_n 1 (j' := 32) (lv' := [some (.ref 8), some (.ref 6), some (.int (nI line))]) (st' := [.ref 8]) (h' := (shT, fi, fl, fr)) rfl ?_
          refine g_call (y := 35) (as := [.ref 8]) (st' := []) rfl rfl (ev) ?_
          refine g_ift rfl (show (0 : Int32) = (0 : Int32) from rfl) ?_
          exact g
        · refine g_n 2 (j' := 29) (lv' := [some (.ref 8), some (.ref 6), some (.int (nI line))]) (st' := [.ref 8, .int (nI line)]) (h' := (shT, fi, fl, fr)) rfl ?_
          refine g_getI (x := nI t) rfl (Or.inl rfl) rfl (by decide) (e3) ?_
          refine g_icf rfl (show ¬ ((nI t) ≤ (nI line)) from nI_ge hlt (by omega)) ?_
          refine g_n 1 (j' := 32) (lv' := [some (.ref 8), some (.ref 6), some (.int (nI line))]) (st' := [.ref 8]) (h' := (shT, fi, fl, fr)) rfl ?_
          refine g_call (y := 35) (as := [.ref 8]) (st' := []) rfl rfl (ev) ?_
          refine g_iff rfl (show ¬ ((1 : Int32) = (0 : Int32)) from by decide) ?_
          exact g
      rcases go_on ht hS with ⟨a1, a2, a3⟩ | ⟨a1, a2, h', a3, a4⟩ | ⟨a1, a3⟩
      · rw [if_pos a1, if_pos a2] at k1 k2
        have S1 := hpl_S (q := sk F t cB p + 1) hS (by omega)
        have f1 : fram pc_W h (hpl h (sk F t cB p + 1)) := fram.up (by decide) hpl_fr
        have go34 : ∀ h' r, Ev pmT 36 [.ref 8] (hpl h (sk F t cB p + 1)) none h' → Go pmT none cd_14 27 [some (.ref 8), some (.ref 6), some (.int (nI (line + 1)))] [] h' r → Go pmT none cd_14 27 [some (.ref 8), some (.ref 6), some (.int (nI line))] [] h r := by
          intro h' r ev g
          refine st 1 _ 34 r (Or.inr ⟨rfl, rfl⟩) a3 ?_
          generalize hpl h (sk F t cB p + 1) = h1 at *
          obtain ⟨S, fi, fl, fr⟩ := h1
          have hSS : S = shT := S1.1.1.1
          subst hSS
          refine g_n 1 (j' := 35) (lv' := [some (.ref 8), some (.ref 6), some (.int (nI line))]) (st' := [.ref 8]) (h' := (shT, fi, fl, fr)) rfl ?_
          refine g_callv (y := 36) (as := [.ref 8]) (st' := []) rfl rfl (ev) ?_
          refine g_n 2 (j' := 27) (lv' := [some (.ref 8), some (.ref 6), some (.int ((nI line) + 1))]) (st' := []) (h' := h') rfl ?_
          rw [nI_1 line]
          exact g
        rcases pl_ev ht hm hW S1 with ⟨R', e, h', z1, z2, z3, z4⟩ | ⟨z1, h', z2, z3⟩
        · rw [z1] at k1 k2
          simp only [Option.bind_some] at k1 k2
          have le := line_e hW z1
          obtain ⟨r, qr, g⟩ := ih (line + 1) e R' h' (by omega) (by omega) le.2.1 (by rw [le.2.2]; exact hm) z3 (fun l R2 e2 h2 y1 y2 y3 y4 y5 => k1 l R2 e2 h2 y1 y2 y3 (y4.trans le.2.2) (fram.tr f1 (fram.tr z4 y5))) (fun l h2 y1 y2 => k2 l h2 y1 ⟨y2.1, fram.tr f1 (fram.tr z4 y2.2.1), y2.2.2⟩)
          exact ⟨r, qr, go34 h' r z2 g⟩
        · rw [z1] at k2
          obtain ⟨p', p1, p2⟩ := z3.2.2
          have f3 : fram pc_W h h' := fram.tr f1 z3.2.1
          have gf := go_f ht p1 p2 z3.1
          have X2 : pc_X F t h (hpl h' (sk F t cB p')) pc_W := ⟨fun z => z3.1 (ft_hpl.symm.trans z), fram.tr f3 (fram.up (by decide) hpl_fr), _, sk_le _ _ p1, hpl_P p2⟩
          by_cases hl2 : line + 1 < t
          · obtain ⟨r, qr, g⟩ := k2 (some (.int (nI (line + 1)))) _ rfl X2
            refine ⟨r, qr, go34 h' r z2 ?_⟩
            obtain ⟨S, fi, fl, fr⟩ := h'
            have hSS : S = shT := p2.1.1
            subst hSS
            have e3 : fi 8 3 = nI t := p2.2.2.1
            refine g_n 2 (j' := 29) (lv' := [some (.ref 8), some (.ref 6), some (.int (nI (line + 1)))]) (st' := [.ref 8, .int (nI (line + 1))]) (h' := (shT, fi, fl, fr)) rfl ?_
            refine g_getI (x := nI t) rfl (Or.inl rfl) rfl (by decide) (e3) ?_
            refine g_icf rfl (show ¬ ((nI t) ≤ (nI (line + 1))) from nI_ge hl2 (by omega)) ?_
            refine g_n 1 (j' := 32) (lv' := [some (.ref 8), some (.ref 6), some (.int (nI (line + 1)))]) (st' := [.ref 8]) (h' := (shT, fi, fl, fr)) rfl ?_
            refine g_call (y := 35) (as := [.ref 8]) (st' := []) rfl rfl (gf) ?_
            refine g_ift rfl (show (0 : Int32) = (0 : Int32) from rfl) ?_
            exact g
          · obtain ⟨r, qr, g⟩ := k2 (some (.int (nI (line + 1)))) h' rfl ⟨z3.1, f3, z3.2.2⟩
            refine ⟨r, qr, go34 h' r z2 ?_⟩
            obtain ⟨S, fi, fl, fr⟩ := h'
            have hSS : S = shT := p2.1.1
            subst hSS
            have e3 : fi 8 3 = nI t := p2.2.2.1
            refine g_n 2 (j' := 29) (lv' := [some (.ref 8), some (.ref 6), some (.int (nI (line + 1)))]) (st' := [.ref 8, .int (nI (line + 1))]) (h' := (shT, fi, fl, fr)) rfl ?_
            refine g_getI (x := nI t) rfl (Or.inl rfl) rfl (by decide) (e3) ?_
            refine g_ict rfl (show (nI t) ≤ (nI (line + 1)) from nI_le (by omega) (by omega)) ?_
            exact g
      · rw [if_pos a1, if_neg a2] at k2
        obtain ⟨r, qr, g⟩ := k2 (some (.int (nI line))) h' rfl a4
        exact ⟨r, qr, st 0 h' 38 r (Or.inl ⟨rfl, rfl⟩) a3 g⟩
      · rw [if_neg a1] at k1
        obtain ⟨r, qr, g⟩ := k1 (some (.int (nI line))) R (sk F t cB p) _ rfl (hpl_S hS (sk_le _ _ pt)) hW rfl (fram.up (by decide) hpl_fr)
        exact ⟨r, qr, st 0 _ 38 r (Or.inl ⟨rfl, rfl⟩) a3 g⟩
    · have pe : sk F t cB p = p := sk_out (by omega)
      rw [pe, if_neg (by omega)] at k1
      obtain ⟨r, qr, g⟩ := k1 (some (.int (nI line))) R p h rfl hS hW rfl (fram.rf _ _)
      refine ⟨r, qr, ?_⟩
      obtain ⟨S, fi, fl, fr⟩ := h
      have hSS : S = shT := hS.1.1.1
      subst hSS
      have e3 : fi 8 3 = nI t := hS.1.2.2.1
      refine g_n 2 (j' := 29) (lv' := [some (.ref 8), some (.ref 6), some (.int (nI line))]) (st' := [.ref 8, .int (nI line)]) (h' := (shT, fi, fl, fr)) rfl ?_
      refine g_getI (x := nI t) rfl (Or.inl rfl) rfl (by decide) (e3) ?_
      refine g_ict rfl (show (nI t) ≤ (nI line) from nI_le (by omega) (by omega)) ?_
      exact g
