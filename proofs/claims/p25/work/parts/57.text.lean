theorem pn_2 {F : Nat → Int32} {t p : Nat} {R : RC} {h : PmH} (ht : t ≤ 200) (hm : R.2.1 ≤ 6) (hS : pc_S F t p R h) : pc_O F t h ((infoS F t (2 ^ R.2.1) 65 0 p R.2.2.2.2.2.2.2).map (fun q => (rcK R q.1, q.2))) 40 [.ref 8, .int (nI 2)] := by
  have main : ∀ h', Go pmT none cd_41 4 [some (.ref 8), some (.int (nI 0)), some (.int (nI 0)), none] [] h (none, h') → Ev pmT 40 [.ref 8, .int (nI 2)] h none h' := by
    intro h' g
    have e41 : Ev pmT 41 [.ref 8] h none h' := by
      refine Ev.of (es := cd_41) (ml := 4) (lv := [some (.ref 8), none, none, none]) rfl rfl rfl ?_
      refine g_n 4 (j' := 4) (lv' := [some (.ref 8), some (.int (nI 0)), some (.int (nI 0)), none]) (st' := []) (h' := h) rfl ?_
      exact g
    refine Ev.of (es := cd_40) (ml := 2) (lv := [some (.ref 8), some (.int (nI 2))]) rfl rfl rfl ?_
    obtain ⟨S, fi, fl, fr⟩ := h
    have hSS : S = shT := hS.1.1.1
    subst hSS
    refine g_n 3 (j' := 11) (lv' := [some (.ref 8), some (.int 2)]) (st' := [.ref 8]) (h' := (shT, fi, fl, fr)) rfl ?_
    refine g_callv (y := 41) (as := [.ref 8]) (st' := []) rfl rfl (e41) ?_
    refine g_n 1 (j' := 43) (lv' := [some (.ref 8), some (.int 2)]) (st' := []) (h' := h') rfl ?_
    exact g_vret rfl
  rcases inf_go (R := R) ht hm 65 0 0 p R.2.2.2.2.2.2.2 h none (by omega) (by omega) (by omega) hS with ⟨K', e, h', z1, z2, z3, z4⟩ | ⟨z1, h', z2, z3⟩
  · exact Or.inl ⟨rcK R K', e, h', by rw [z1]; rfl, main h' z2, z3, z4⟩
  · exact Or.inr ⟨by rw [z1]; rfl, h', main h' z2, z3⟩
def numsS (F : Nat → Int32) (t : Nat) (R : RC) (p : Nat) : Nat → Option (RC × Nat)
  | 1 => (num F t 1 64 p).map (fun q => ((R.1, R.2.1, q.1, R.2.2.2.1, R.2.2.2.2.1, R.2.2.2.2.2.1, R.2.2.2.2.2.2.1, R.2.2.2.2.2.2.2), q.2))
  | 2 => (infoS F t (2 ^ R.2.1) 65 0 p R.2.2.2.2.2.2.2).map (fun q => (rcK R q.1, q.2))
  | 3 => (num F t 0 8 p).bind (fun q => (num F t 0 255 q.2).map (fun q2 => ((R.1, R.2.1, R.2.2.1, q.1, q2.1, R.2.2.2.2.2.1, R.2.2.2.2.2.2.1, R.2.2.2.2.2.2.2), q2.2)))
  | 4 => (num F t 1 999 p).map (fun q => ((R.1, R.2.1, R.2.2.1, R.2.2.2.1, R.2.2.2.2.1, q.1, R.2.2.2.2.2.2.1, R.2.2.2.2.2.2.2), q.2))
  | _ => (num F t 1 8 p).map (fun q => ((R.1, R.2.1, R.2.2.1, R.2.2.2.1, R.2.2.2.2.1, R.2.2.2.2.2.1, q.1, R.2.2.2.2.2.2.2), q.2))
theorem pn_ev {F : Nat → Int32} {t p : Nat} {R : RC} {h : PmH} (ht : t ≤ 200) (hm : R.2.1 ≤ 6) (hS : pc_S F t p R h) : ∀ w, 1 ≤ w → w < 6 → pc_O F t h (numsS F t R p w) 40 [.ref 8, .int (nI w)]
  | 1, _, _ => pn_1 ht hS
  | 2, _, _ => pn_2 ht hm hS
  | 3, _, _ => pn_3 ht hS
  | 4, _, _ => pn_4 ht hS
  | 5, _, _ => pn_5 ht hS
  | 0, h, _ => absurd h (by omega)
  | _ + 6, _, h => absurd h (by omega)
theorem num_e {F : Nat → Int32} {t lo hi p v e : Nat} (h : num F t lo hi p = some (v, e)) : p < e ∧ lo ≤ v ∧ v ≤ hi := by
  unfold num at h
  split at h
  · rename_i hq
    cases h
    refine ⟨?_, hq.2.2.1, hq.2.2.2⟩
    rw [sk_in hq.1 hq.2.1]
    exact Nat.lt_of_lt_of_le (Nat.lt_succ_of_le (sk_ge _ _)) (sk_ge _ _)
  · cases h
theorem info_e {F : Nat → Int32} {t n : Nat} : ∀ (q least p : Nat) (K K' : Int64) (e : Nat), infoS F t n q least p K = some (K', e) → p < e
  | 0, _, _, _, _, _, h => by cases h
  | q + 1, least, p, K, K', e, h => by
    rw [infoS] at h
    cases hn : num F t least (n - 1) p with
    | none => rw [hn] at h; cases h
    | some r =>
      obtain ⟨v, e1⟩ := r
      rw [hn] at h
      have h1 := (num_e hn).1
      have h2 : e1 ≤ sk F t cB e1 := sk_ge _ _
      simp only [Option.bind_some] at h
      split at h
      · have := info_e q _ _ _ _ _ h
        omega
      · cases h
        omega
theorem nums_e {F : Nat → Int32} {t p : Nat} {R R' : RC} {e : Nat} : ∀ w, 1 ≤ w → w < 6 → numsS F t R p w = some (R', e) → p < e ∧ R'.1 = R.1 ∧ R'.2.1 = R.2.1
  | 1, _, _, h => by
    rw [numsS] at h
    cases hn : num F t 1 64 p with
    | none => rw [hn] at h; cases h
    | some r => rw [hn] at h; cases h; exact ⟨(num_e hn).1, rfl, rfl⟩
  | 2, _, _, h => by
    rw [numsS] at h
    cases hn : infoS F t (2 ^ R.2.1) 65 0 p R.2.2.2.2.2.2.2 with
    | none => rw [hn] at h; cases h
    | some r => rw [hn] at h; cases h; exact ⟨info_e _ _ _ _ _ _ hn, rfl, rfl⟩
  | 3, _, _, h => by
    rw [numsS] at h
    cases hn : num F t 0 8 p with
    | none => rw [hn] at h; cases h
    | some r =>
      rw [hn] at h
      simp only [Option.bind_some] at h
      cases hn2 : num F t 0 255 r.2 with
      | none => rw [hn2] at h; cases h
      | some r2 =>
        rw [hn2] at h
        cases h
        exact ⟨Nat.lt_trans (num_e hn).1 (num_e hn2).1, rfl, rfl⟩
  | 4, _, _, h => by
    rw [numsS] at h
    cases hn : num F t 1 999 p with
    | none => rw [hn] at h; cases h
    | some r => rw [hn] at h; cases h; exact ⟨(num_e hn).1, rfl, rfl⟩
  | 5, _, _, h => by
    have h : (num F t 1 8 p).map (fun q => ((R.1, R.2.1, R.2.2.1, R.2.2.2.1, R.2.2.2.2.1, R.2.2.2.2.2.1, q.1, R.2.2.2.2.2.2.2), q.2)) = some (R', e) := h
    cases hn : num F t 1 8 p with
    | none => rw [hn] at h; cases h
    | some r => rw [hn] at h; cases h; exact ⟨(num_e hn).1, rfl, rfl⟩
  | 0, h, _, _ => absurd h (by omega)
  | _ + 6, _, h, _ => absurd h (by omega)
theorem whW_lt {F : Nat → Int32} {b e : Nat} : whW F b e < 6 := by
  unfold whW
  repeat' split
  all_goals omega
def rcw (R : RC) (w : Nat) : RC := (R.1 ||| 2 ^ w, R.2)
/-- a line, from behind its semicolon on -/
def lineS (F : Nat → Int32) (t : Nat) (R : RC) (p : Nat) : Option (RC × Nat) := if whW F (sk F t cB p) (sk F t cL (sk F t cB p)) = 0 ∨ exc R.1 (whW F (sk F t cB p) (sk F t cL (sk F t cB p))) = true then none else numsS F t (rcw R (whW F (sk F t cB p) (sk F t cL (sk F t cB p)))) (sk F t cL (sk F t cB p)) (whW F (sk F t cB p) (sk F t cL (sk F t cB p)))
theorem line_e {F : Nat → Int32} {t p : Nat} {R R' : RC} {e : Nat} (hW : R.1 < 64) (h : lineS F t R p = some (R', e)) : p < e ∧ R'.1 < 64 ∧ R'.2.1 = R.2.1 := by
  unfold lineS at h
  split at h
  · cases h
  · rename_i hq
    have h1 : p ≤ sk F t cB p := sk_ge _ _
    have h2 : sk F t cB p ≤ sk F t cL (sk F t cB p) := sk_ge _ _
    have hw := whW_lt (F := F) (b := sk F t cB p) (e := sk F t cL (sk F t cB p))
    have n := nums_e _ (Nat.one_le_iff_ne_zero.mpr (fun z => hq (Or.inl z))) hw h
    refine ⟨by omega, ?_, n.2.2⟩
    rw [n.2.1]
    exact (wt_or R.1 hW _ hw).2
def h86 (h : PmH) (x : Int32) : PmH := (ph_s h, pm_u2 (ph_i h) 8 6 x, ph_l h, ph_r h)
theorem h86_S {F : Nat → Int32} {t p w : Nat} {R : RC} {h : PmH} (hS : pc_S F t p R h) : pc_S F t p (rcw R w) (h86 h (nI (R.1 ||| 2 ^ w))) := by
  have ne : ∀ q s, ¬ (q = 8 ∧ s = 6) → ph_i (h86 h (nI (R.1 ||| 2 ^ w))) q s = ph_i h q s := fun q s hn => wl_ne hn
  obtain ⟨⟨p1, p2, p3, p4, p5⟩, f5, ⟨a0, a1, a2, a3, a4, a5, a6, a7, a8⟩, hp⟩ := hS
  refine ⟨⟨hd8 p1 rfl, p2, (ne _ _ (by decide)).trans p3, (ne _ _ (by decide)).trans p4, fun s => (ne _ _ (fun z => absurd z.1 (by decide))).trans (p5 s)⟩, (ne _ _ (by decide)).trans f5, ⟨?_, (ne _ _ (by decide)).trans a1, (ne _ _ (by decide)).trans a2, (ne _ _ (by decide)).trans a3, (ne _ _ (by decide)).trans a4, (ne _ _ (by decide)).trans a5, (ne _ _ (by decide)).trans a6, (ne _ _ (by decide)).trans a7, a8⟩, hp⟩
  show pm_u2 (ph_i h) 8 6 (nI (R.1 ||| 2 ^ w)) 8 6 = _
  exact u_eq
theorem h86_fr {h : PmH} {x : Int32} : fram pc_W h (h86 h x) := fram_wi (by decide)
theorem pl_ev {F : Nat → Int32} {t p : Nat} {R : RC} {h : PmH} (ht : t ≤ 200) (hm : R.2.1 ≤ 6) (hW : R.1 < 64) (hS : pc_S F t p R h) : pc_O F t h (lineS F t R p) 36 [.ref 8] := by
  have s1 := sb_ev ht hS.2.2.2 hS.1
  have B1 : sk F t cB p ≤ t := sk_le _ _ hS.2.2.2
  have S1 := hpl_S (q := sk F t cB p) hS B1
  have s2 := sl_ev ht B1 S1.1
  have E1 : sk F t cL (sk F t cB p) ≤ t := sk_le _ _ B1
  have E0 : sk F t cB p ≤ sk F t cL (sk F t cB p) := sk_ge _ _
  have S2 := hpl_S (q := sk F t cL (sk F t cB p)) S1 E1
  have w1 := ww_ev ht S2.1 E0 E1
  have wl := whW_lt (F := F) (b := sk F t cB p) (e := sk F t cL (sk F t cB p))
  unfold lineS
  generalize hw : whW F (sk F t cB p) (sk F t cL (sk F t cB p)) = w at *
  generalize hE : sk F t cL (sk F t cB p) = E at *
  generalize hB : sk F t cB p = B at *
  have f2 : fram pc_W h (hpl (hpl h B) E) := fram.tr (fram.up (by decide) hpl_fr) (fram.up (by decide) hpl_fr)
  have e4B : ph_i (hpl h B) 8 4 = nI B := S1.1.2.2.2.1
  have pref : ∀ r, Go pmT none cd_36 11 [some (.ref 8), some (.int (nI B)), some (.int (nI w))] [] (hpl (hpl h B) E) r → Go pmT none cd_36 0 [some (.ref 8), none, none] [] h r := by
    intro r g
    obtain ⟨S, fi, fl, fr⟩ := h
    have hSS : S = shT := hS.1.1.1
    subst hSS
    have e4B : pm_u2 fi 8 4 (nI B) 8 4 = nI B := e4B
    refine g_n 1 (j' := 1) (lv' := [some (.ref 8), none, none]) (st' := [.ref 8]) (h' := (shT, fi, fl, fr)) rfl ?_
    refine g_callv (y := 18) (as := [.ref 8]) (st' := []) rfl rfl (s1) ?_
    refine g_n 1 (j' := 3) (lv' := [some (.ref 8), none, none]) (st' := [.ref 8]) (h' := (shT, pm_u2 fi 8 4 (nI B), fl, fr)) rfl ?_
    refine g_getI (x := nI B) rfl (Or.inl rfl) rfl (by decide) (e4B) ?_
    refine g_n 2 (j' := 6) (lv' := [some (.ref 8), some (.int (nI B)), none]) (st' := [.ref 8]) (h' := (shT, pm_u2 fi 8 4 (nI B), fl, fr)) rfl ?_
    refine g_callv (y := 19) (as := [.ref 8]) (st' := []) rfl rfl (s2) ?_
    refine g_n 2 (j' := 9) (lv' := [some (.ref 8), some (.int (nI B)), none]) (st' := [.int (nI B), .ref 8]) (h' := (shT, pm_u2 (pm_u2 fi 8 4 (nI B)) 8 4 (nI E), fl, fr)) rfl ?_
    refine g_call (y := 37) (as := [.ref 8, .int (nI B)]) (st' := []) rfl rfl (w1) ?_
    refine g_n 1 (j' := 11) (lv' := [some (.ref 8), some (.int (nI B)), some (.int (nI w))]) (st' := []) (h' := (shT, pm_u2 (pm_u2 fi 8 4 (nI B)) 8 4 (nI E), fl, fr)) rfl ?_
    exact g
  have fin : ∀ h', Go pmT none cd_36 11 [some (.ref 8), some (.int (nI B)), some (.int (nI w))] [] (hpl (hpl h B) E) (none, h') → Ev pmT 36 [.ref 8] h none h' := fun h' g => Ev.of (es := cd_36) (ml := 3) (lv := [some (.ref 8), none, none]) rfl rfl rfl (pref _ g)
  generalize hpl (hpl h B) E = h2 at *
  have bm1 := bm_ev (w := nI B) (k := nI 1) S2.1.1 S2.2.1
  have bm3 := bm_ev (w := nI B) (k := nI 3) S2.1.1 S2.2.1
  by_cases h0 : w = 0
  · right
    refine ⟨if_pos (Or.inl h0), _, fin _ ?_, hft_X (q := B) (k := 1) S2.1 E1 (by omega) (by omega) (by omega) f2 (by decide)⟩
    subst h0
    obtain ⟨S, fi, fl, fr⟩ := h2
    have hSS : S = shT := S2.1.1.1
    subst hSS
    refine g_n 1 (j' := 12) (lv' := [some (.ref 8), some (.int (nI B)), some (.int (nI 0))]) (st' := [.int (nI 0)]) (h' := (shT, fi, fl, fr)) rfl ?_
    refine g_iff rfl (show ¬ (¬ (nI 0) = (0 : Int32)) from fun z => z rfl) ?_
    refine g_n 3 (j' := 16) (lv' := [some (.ref 8), some (.int (nI B)), some (.int (nI 0))]) (st' := [.int (nI 1), .int (nI B), .ref 8]) (h' := (shT, fi, fl, fr)) rfl ?_
    refine g_callv (y := 32) (as := [.ref 8, .int (nI B), .int (nI 1)]) (st' := []) rfl rfl (bm1) ?_
    exact g_vret rfl
  · have nz : ¬ nI w = 0 := nI_ne0 (by omega) (by omega)
    have x1 := exc_ev S2.1.1 (w := w) S2.2.2.1.1 hW (by omega) wl
    by_cases hx : exc R.1 w = true
    · right
      refine ⟨if_pos (Or.inr hx), _, fin _ ?_, hft_X (q := B) (k := 3) S2.1 E1 (by omega) (by omega) (by omega) f2 (by decide)⟩
      rw [hx] at x1
      obtain ⟨S, fi, fl, fr⟩ := h2
      have hSS : S = shT := S2.1.1.1
      subst hSS
      refine g_n 1 (j' := 12) (lv' := [some (.ref 8), some (.int (nI B)), some (.int (nI w))]) (st' := [.int (nI w)]) (h' := (shT, fi, fl, fr)) rfl ?_
      refine g_ift rfl (show ¬ (nI w) = (0 : Int32) from nz) ?_
      refine g_n 2 (j' := 20) (lv' := [some (.ref 8), some (.int (nI B)), some (.int (nI w))]) (st' := [.int (nI w), .ref 8]) (h' := (shT, fi, fl, fr)) rfl ?_
      refine g_call (y := 38) (as := [.ref 8, .int (nI w)]) (st' := []) rfl rfl (x1) ?_
      refine g_iff rfl (show ¬ ((1 : Int32) = (0 : Int32)) from by decide) ?_
      refine g_n 3 (j' := 25) (lv' := [some (.ref 8), some (.int (nI B)), some (.int (nI w))]) (st' := [.int (nI 3), .int (nI B), .ref 8]) (h' := (shT, fi, fl, fr)) rfl ?_
      refine g_callv (y := 32) (as := [.ref 8, .int (nI B), .int (nI 3)]) (st' := []) rfl rfl (bm3) ?_
      exact g_vret rfl
    · rw [if_neg (fun z => z.elim h0 hx)]
      rw [Bool.eq_false_iff.mpr hx] at x1
      have S3 := h86_S (w := w) S2
      have go := pn_ev (R := rcw R w) ht hm S3 w (by omega) wl
      have e6 : ph_i h2 8 6 = nI R.1 := S2.2.2.1.1
      have tail : ∀ h', Ev pmT 40 [.ref 8, .int (nI w)] (h86 h2 (nI (R.1 ||| 2 ^ w))) none h' → Ev pmT 36 [.ref 8] h none h' := by
        intro h' g
        refine fin _ ?_
        have wo := (wt_or R.1 hW w wl).1
        obtain ⟨S, fi, fl, fr⟩ := h2
        have hSS : S = shT := S2.1.1.1
        subst hSS
        have e6 : fi 8 6 = nI R.1 := e6
        refine g_n 1 (j' := 12) (lv' := [some (.ref 8), some (.int (nI B)), some (.int (nI w))]) (st' := [.int (nI w)]) (h' := (shT, fi, fl, fr)) rfl ?_
        refine g_ift rfl (show ¬ (nI w) = (0 : Int32) from nz) ?_
        refine g_n 2 (j' := 20) (lv' := [some (.ref 8), some (.int (nI B)), some (.int (nI w))]) (st' := [.int (nI w), .ref 8]) (h' := (shT, fi, fl, fr)) rfl ?_
        refine g_call (y := 38) (as := [.ref 8, .int (nI w)]) (st' := []) rfl rfl (x1) ?_
        refine g_ift rfl (show (0 : Int32) = (0 : Int32) from rfl) ?_
        refine g_n 2 (j' := 29) (lv' := [some (.ref 8), some (.int (nI B)), some (.int (nI w))]) (st' := [.ref 8, .ref 8]) (h' := (shT, fi, fl, fr)) rfl ?_
        refine g_getI (x := nI R.1) rfl (Or.inl rfl) rfl (by decide) (e6) ?_
        refine g_n 4 (j' := 34) (lv' := [some (.ref 8), some (.int (nI B)), some (.int (nI w))]) (st' := [.int ((nI R.1) ||| (1 <<< ((nI w) &&& 31))), .ref 8]) (h' := (shT, fi, fl, fr)) rfl ?_
        rw [wo]
        refine g_putI rfl (Or.inl rfl) rfl (by decide) ?_
        refine g_n 2 (j' := 37) (lv' := [some (.ref 8), some (.int (nI B)), some (.int (nI w))]) (st' := [.int (nI w), .ref 8]) (h' := (shT, pm_u2 fi 8 6 (nI (R.1 ||| 2 ^ w)), fl, fr)) rfl ?_
        refine g_callv (y := 40) (as := [.ref 8, .int (nI w)]) (st' := []) rfl rfl (g) ?_
        exact g_vret rfl
      rcases go with ⟨R', e', h', z1, z2, z3, z4⟩ | ⟨z1, h', z2, z3⟩
      · exact Or.inl ⟨R', e', h', z1, tail h' z2, z3, fram.tr f2 (fram.tr h86_fr z4)⟩
      · exact Or.inr ⟨z1, h', tail h' z2, z3.1, fram.tr f2 (fram.tr h86_fr z3.2.1), z3.2.2⟩
theorem go_f {F : Nat → Int32} {t p : Nat} {h : PmH} (ht : t ≤ 200) (hpt : p ≤ t) (hP : pc_P F t p h) (nf : ¬ ph_i h 8 5 = 0) : Ev pmT 35 [.ref 8] h (some (.int 0)) (hpl h (sk F t cB p)) := by
  have s1 := sb_ev ht hpt hP
  have n2 : ¬ ph_i (hpl h (sk F t cB p)) 8 5 = 0 := fun z => nf (ft_hpl.symm.trans z)
  refine Ev.of (es := cd_35) (ml := 1) (lv := [some (.ref 8)]) rfl rfl rfl ?_
  obtain ⟨S, fi, fl, fr⟩ := h
  have hSS : S = shT := hP.1.1
  subst hSS
  have n2 : ¬ pm_u2 fi 8 4 (nI (sk F t cB p)) 8 5 = 0 := n2
  refine g_n 1 (j' := 1) (lv' := [some (.ref 8)]) (st' := [.ref 8]) (h' := (shT, fi, fl, fr)) rfl ?_
  refine g_callv (y := 18) (as := [.ref 8]) (st' := []) rfl rfl (s1) ?_
  refine g_n 1 (j' := 3) (lv' := [some (.ref 8)]) (st' := [.ref 8]) (h' := (shT, pm_u2 fi 8 4 (nI (sk F t cB p)), fl, fr)) rfl ?_
  refine g_getI (x := (pm_u2 fi 8 4 (nI (sk F t cB p))) 8 5) rfl (Or.inl rfl) rfl (by decide) (rfl) ?_
  refine g_ift rfl (show ¬ ((pm_u2 fi 8 4 (nI (sk F t cB p))) 8 5) = (0 : Int32) from n2) ?_
  refine g_n 1 (j' := 11) (lv' := [some (.ref 8)]) (st' := [.int 0]) (h' := (shT, pm_u2 fi 8 4 (nI (sk F t cB p)), fl, fr)) rfl ?_
  exact g_retz rfl (by decide)
theorem go_on {F : Nat → Int32} {t p : Nat} {R : RC} {h : PmH} (ht : t ≤ 200) (hS : pc_S F t p R h) : (sk F t cB p < t ∧ F (sk F t cB p) = 59 ∧ Ev pmT 35 [.ref 8] h (some (.int 1)) (hpl h (sk F t cB p + 1))) ∨ (sk F t cB p < t ∧ ¬ F (sk F t cB p) = 59 ∧ ∃ h', Ev pmT 35 [.ref 8] h (some (.int 0)) h' ∧ pc_X F t h h' pc_W) ∨ (¬ sk F t cB p < t ∧ Ev pmT 35 [.ref 8] h (some (.int 0)) (hpl h (sk F t cB p))) := by
  have s1 := sb_ev ht hS.2.2.2 hS.1
  have B1 : sk F t cB p ≤ t := sk_le _ _ hS.2.2.2
  have S1 := hpl_S (q := sk F t cB p) hS B1
  generalize hB : sk F t cB p = B at *
  have pref : ∀ v h', Go pmT none cd_35 2 [some (.ref 8)] [] (hpl h B) (v, h') → Ev pmT 35 [.ref 8] h v h' := by
    intro v h' g
    refine Ev.of (es := cd_35) (ml := 1) (lv := [some (.ref 8)]) rfl rfl rfl ?_
    obtain ⟨S, fi, fl, fr⟩ := h
    have hSS : S = shT := hS.1.1.1
    subst hSS
    refine g_n 1 (j' := 1) (lv' := [some (.ref 8)]) (st' := [.ref 8]) (h' := (shT, fi, fl, fr)) rfl ?_
    refine g_callv (y := 18) (as := [.ref 8]) (st' := []) rfl rfl (s1) ?_
    exact g
  have bm := bm_ev (w := nI B) (k := nI 1) S1.1.1 S1.2.1
  have X := hft_X (q := B) (k := 1) S1.1 B1 (by omega) (by omega) (by omega) (W := pc_W) (fram.up (by decide) hpl_fr) (by decide)
  have e2 : hpl h (B + 1) = hpl (hpl h B) (B + 1) := hpl_2.symm
  rw [e2]
  generalize hpl h B = h1 at *
  obtain ⟨S, fi, fl, fr⟩ := h1
  have hSS : S = shT := S1.1.1.1
  subst hSS
  have r_8_2 : fr 8 2 = some 7 := S1.1.2.1
  have e3 : fi 8 3 = nI t := S1.1.2.2.1
  have e4 : fi 8 4 = nI B := S1.1.2.2.2.1
  have eF : ∀ s, fi 7 s = F s := S1.1.2.2.2.2
  have e5 : fi 8 5 = 0 := S1.2.1
  by_cases hb : B < t
  · by_cases hc : F B = 59
    · refine Or.inl ⟨hb, hc, pref _ _ ?_⟩
      refine g_n 1 (j' := 3) (lv' := [some (.ref 8)]) (st' := [.ref 8]) (h' := (shT, fi, fl, fr)) rfl ?_
      refine g_getI (x := 0) rfl (Or.inl rfl) rfl (by decide) (e5) ?_
      refine g_iff rfl (show ¬ (¬ (0 : Int32) = (0 : Int32)) from fun z => z rfl) ?_
      refine g_n 1 (j' := 6) (lv' := [some (.ref 8)]) (st' := [.ref 8]) (h' := (shT, fi, fl, fr)) rfl ?_
      refine g_getI (x := nI B) rfl (Or.inl rfl) rfl (by decide) (e4) ?_
      refine g_n 1 (j' := 8) (lv' := [some (.ref 8)]) (st' := [.ref 8, .int (nI B)]) (h' := (shT, fi, fl, fr)) rfl ?_
      refine g_getI (x := nI t) rfl (Or.inl rfl) rfl (by decide) (e3) ?_
      refine g_ict rfl (show (nI B) < (nI t) from nI_lt hb (by omega)) ?_
      refine g_n 1 (j' := 13) (lv' := [some (.ref 8)]) (st' := [.ref 8]) (h' := (shT, fi, fl, fr)) rfl ?_
      refine g_getR (q' := 7) rfl rfl (by decide) r_8_2 ?_
      refine g_n 1 (j' := 15) (lv' := [some (.ref 8)]) (st' := [.ref 8, .ref 7]) (h' := (shT, fi, fl, fr)) rfl ?_
      refine g_getI (x := nI B) rfl (Or.inl rfl) rfl (by decide) (e4) ?_
      refine g_bald (k := B) (x := F B) rfl rfl (by decide) (rfl) (by omega) (by decide) (eF B) ?_
      refine g_n 1 (j' := 18) (lv' := [some (.ref 8)]) (st' := [.int 59, .int (F B)]) (h' := (shT, fi, fl, fr)) rfl ?_
      refine g_ict rfl (show (F B) = (59 : Int32) from hc) ?_
      refine g_n 2 (j' := 28) (lv' := [some (.ref 8)]) (st' := [.ref 8, .ref 8]) (h' := (shT, fi, fl, fr)) rfl ?_
      refine g_getI (x := nI B) rfl (Or.inl rfl) rfl (by decide) (e4) ?_
      refine g_n 2 (j' := 31) (lv' := [some (.ref 8)]) (st' := [.int ((nI B) + 1), .ref 8]) (h' := (shT, fi, fl, fr)) rfl ?_
      rw [nI_1 B]
      refine g_putI rfl (Or.inl rfl) rfl (by decide) ?_
      refine g_n 1 (j' := 33) (lv' := [some (.ref 8)]) (st' := [.int 1]) (h' := (shT, pm_u2 fi 8 4 (nI (B + 1)), fl, fr)) rfl ?_
      exact g_retz rfl (by decide)
    · refine Or.inr (Or.inl ⟨hb, hc, _, pref _ _ ?_, X⟩)
      refine g_n 1 (j' := 3) (lv' := [some (.ref 8)]) (st' := [.ref 8]) (h' := (shT, fi, fl, fr)) rfl ?_
      refine g_getI (x := 0) rfl (Or.inl rfl) rfl (by decide) (e5) ?_
      refine g_iff rfl (show ¬ (¬ (0 : Int32) = (0 : Int32)) from fun z => z rfl) ?_
      refine g_n 1 (j' := 6) (lv' := [some (.ref 8)]) (st' := [.ref 8]) (h' := (shT, fi, fl, fr)) rfl ?_
      refine g_getI (x := nI B) rfl (Or.inl rfl) rfl (by decide) (e4) ?_
      refine g_n 1 (j' := 8) (lv' := [some (.ref 8)]) (st' := [.ref 8, .int (nI B)]) (h' := (shT, fi, fl, fr)) rfl ?_
      refine g_getI (x := nI t) rfl (Or.inl rfl) rfl (by decide) (e3) ?_
      refine g_ict rfl (show (nI B) < (nI t) from nI_lt hb (by omega)) ?_
      refine g_n 1 (j' := 13) (lv' := [some (.ref 8)]) (st' := [.ref 8]) (h' := (shT, fi, fl, fr)) rfl ?_
      refine g_getR (q' := 7) rfl rfl (by decide) r_8_2 ?_
      refine g_n 1 (j' := 15) (lv' := [some (.ref 8)]) (st' := [.ref 8, .ref 7]) (h' := (shT, fi, fl, fr)) rfl ?_
      refine g_getI (x := nI B) rfl (Or.inl rfl) rfl (by decide) (e4) ?_
      refine g_bald (k := B) (x := F B) rfl rfl (by decide) (rfl) (by omega) (by decide) (eF B) ?_
      refine g_n 1 (j' := 18) (lv' := [some (.ref 8)]) (st' := [.int 59, .int (F B)]) (h' := (shT, fi, fl, fr)) rfl ?_
      refine g_icf rfl (show ¬ ((F B) = (59 : Int32)) from hc) ?_
      refine g_n 2 (j' := 21) (lv' := [some (.ref 8)]) (st' := [.ref 8, .ref 8]) (h' := (shT, fi, fl, fr)) rfl ?_
      refine g_getI (x := nI B) rfl (Or.inl rfl) rfl (by decide) (e4) ?_
      refine g_n 1 (j' := 23) (lv' := [some (.ref 8)]) (st' := [.int (nI 1), .int (nI B), .ref 8]) (h' := (shT, fi, fl, fr)) rfl ?_
      refine g_callv (y := 32) (as := [.ref 8, .int (nI B), .int (nI 1)]) (st' := []) rfl rfl (bm) ?_
      refine g_n 1 (j' := 25) (lv' := [some (.ref 8)]) (st' := [.int 0]) (h' := (hft (shT, fi, fl, fr) (8 * nI B + nI 1))) rfl ?_
      exact g_retz rfl (by decide)
  · refine Or.inr (Or.inr ⟨hb, pref _ _ ?_⟩)
    refine g_n 1 (j' := 3) (lv' := [some (.ref 8)]) (st' := [.ref 8]) (h' := (shT, fi, fl, fr)) rfl ?_
    refine g_getI (x := 0) rfl (Or.inl rfl) rfl (by decide) (e5) ?_
    refine g_iff rfl (show ¬ (¬ (0 : Int32) = (0 : Int32)) from fun z => z rfl) ?_
    refine g_n 1 (j' := 6) (lv' := [some (.ref 8)]) (st' := [.ref 8]) (h' := (shT, fi, fl, fr)) rfl ?_
    refine g_getI (x := nI B) rfl (Or.inl rfl) rfl (by decide) (e4) ?_
    refine g_n 1 (j' := 8) (lv' := [some (.ref 8)]) (st' := [.ref 8, .int (nI B)]) (h' := (shT, fi, fl, fr)) rfl ?_
    refine g_getI (x := nI t) rfl (Or.inl rfl) rfl (by decide) (e3) ?_
    refine g_icf rfl (show ¬ ((nI B) < (nI t)) from nI_nlt (by omega) (by omega)) ?_
    refine g_n 1 (j' := 11) (lv' := [some (.ref 8)]) (st' := [.int 0]) (h' := (shT, fi, fl, fr)) rfl ?_
    exact g_retz rfl (by decide)
