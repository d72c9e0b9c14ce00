/-! THE READER'S RUN -/
def fhN (D : Nat → Bool) : Nat → Option Nat
  | 0 => none
  | p + 1 => match fhN D p with
    | some q => some q
    | none => if D p = true then some p else none
theorem fhN_st {D : Nat → Bool} {p q : Nat} (h : fhN D p = some q) : ∀ n, fhN D (p + n) = some q
  | 0 => h
  | n + 1 => by
    show fhN D (p + n + 1) = some q
    rw [fhN, fhN_st h n]
theorem fhN_lt {D : Nat → Bool} : ∀ n q, fhN D n = some q → q < n ∧ D q = true
  | 0, q, h => nomatch (show (none : Option Nat) = some q from h)
  | n + 1, q, h => by
    rw [fhN] at h
    cases hn : fhN D n with
    | some r =>
      rw [hn] at h
      have h : some r = some q := h
      cases h
      have := fhN_lt n _ hn
      exact ⟨by omega, this.2⟩
    | none =>
      rw [hn] at h
      have h : (if D n = true then some n else none) = some q := h
      split at h
      · rename_i hd
        cases h
        exact ⟨by omega, hd⟩
      · cases h
def chN (D : Nat → Bool) (P : Nat) : Nat := (fhN D P).getD 0
def hoN (D : Nat → Bool) (P : Nat) : Bool := (fhN D P).isSome
theorem cho_14 {P : Nat} {D : Nat → Bool} {B : Nat → Int64} {fi : Nat → Nat → Int32} {fl : Nat → Nat → Int64} {fr : Nat → Nat → Option Nat} (hP : P ≤ 8) (k0 : fr 13 0 = some 14) (kB : fr 14 1 = some 15) (c12 : fr 13 12 = some 1) (cP : fi 14 0 = nI P) (hB : ∀ p, p < P → fl 15 p = B p) (z7 : fi 13 7 = 0) (z8 : fi 13 8 = 0) (hD : ∀ p, p < P → Ev pmT 106 [.ref 1, .long (B p)] (shT, fi, fl, fr) (some (.int (b01 (D p)))) (shT, fi, fl, fr)) : ∀ (n p : Nat), p + n = P → fhN D p = none → ∃ fi', fi' 13 7 = nI (chN D P) ∧ fi' 13 8 = b01 (hoN D P) ∧ (∀ q s, ¬ (q = 13 ∧ (s = 7 ∨ s = 8)) → fi' q s = fi q s) ∧ Go pmT none cd_105 8 [some (.ref 13), some (.int (nI p))] [] (shT, fi, fl, fr) (none, (shT, fi', fl, fr)) := by
  intro n
  induction n with
  | zero =>
    intro p hp hn
    have hp : p = P := by omega
    subst hp
    refine ⟨fi, ?_, ?_, fun _ _ _ => rfl, ?_⟩
    · unfold chN
      rw [hn]
      exact z7
    · unfold hoN
      rw [hn]
      exact z8
    refine go_of ?_
    refine gp_n 2 (j' := 10) (lv' := [some (.ref 13), some (.int (nI p))]) (st' := [.ref 13, .int (nI p)]) (h' := (shT, fi, fl, fr)) rfl ?_
    refine gp_of (fun _ k9 => g_getR (q' := 14) rfl rfl (by decide) k0 k9) ?_
    refine gp_of (fun _ k9 => g_getI (x := nI p) rfl (Or.inl rfl) rfl (by decide) (cP) k9) ?_
    refine gp_of (fun _ k9 => g_ict rfl (show (nI p) ≤ (nI p) from Int32.le_refl _) k9) ?_
    refine gp_done (g_vret rfl) ?_
    rfl
  | succ n ih =>
    intro p hp hn
    have bp := hB p (by omega)
    have dp := hD p (by omega)
    cases hd : D p
    · rw [hd] at dp
      have dp : Ev pmT 106 [.ref 1, .long (B p)] (shT, fi, fl, fr) (some (.int 0)) (shT, fi, fl, fr) := dp
      obtain ⟨fi', a1, a2, a3, a4⟩ := ih (p + 1) (by omega) (by rw [fhN, hn]; show (if D p = true then some p else none) = none; rw [hd, if_neg (by decide)])
      refine ⟨fi', a1, a2, a3, ?_⟩
      generalize B p = w at *
      refine go_of ?_
      refine gp_n 2 (j' := 10) (lv' := [some (.ref 13), some (.int (nI p))]) (st' := [.ref 13, .int (nI p)]) (h' := (shT, fi, fl, fr)) rfl ?_
      refine gp_of (fun _ k9 => g_getR (q' := 14) rfl rfl (by decide) k0 k9) ?_
      refine gp_of (fun _ k9 => g_getI (x := nI P) rfl (Or.inl rfl) rfl (by decide) (cP) k9) ?_
      refine gp_of (fun _ k9 => g_icf rfl (show ¬ ((nI P) ≤ (nI p)) from nI_ge (by omega) (by omega)) k9) ?_
      refine gp_n 1 (j' := 14) (lv' := [some (.ref 13), some (.int (nI p))]) (st' := [.ref 13]) (h' := (shT, fi, fl, fr)) rfl ?_
      refine gp_of (fun _ k9 => g_getI (x := 0) rfl (Or.inr rfl) rfl (by decide) (z8) k9) ?_
      refine gp_of (fun _ k9 => g_iff rfl (show ¬ (¬ (0 : Int32) = (0 : Int32)) from by decide) k9) ?_
      refine gp_n 1 (j' := 17) (lv' := [some (.ref 13), some (.int (nI p))]) (st' := [.ref 13]) (h' := (shT, fi, fl, fr)) rfl ?_
      refine gp_of (fun _ k9 => g_getR (q' := 1) rfl rfl (by decide) c12 k9) ?_
      refine gp_n 1 (j' := 19) (lv' := [some (.ref 13), some (.int (nI p))]) (st' := [.ref 13, .ref 1]) (h' := (shT, fi, fl, fr)) rfl ?_
      refine gp_of (fun _ k9 => g_getR (q' := 14) rfl rfl (by decide) k0 k9) ?_
      refine gp_of (fun _ k9 => g_getR (q' := 15) rfl rfl (by decide) kB k9) ?_
      refine gp_n 1 (j' := 22) (lv' := [some (.ref 13), some (.int (nI p))]) (st' := [.int (nI p), .ref 15, .ref 1]) (h' := (shT, fi, fl, fr)) rfl ?_
      refine gp_of (fun _ k9 => g_lald (k := p) (x := w) rfl rfl (rfl) (by omega) (by decide) (bp) k9) ?_
      refine gp_of (fun _ k9 => g_call (y := 106) (as := [.ref 1, .long w]) (st' := []) rfl rfl (dp) k9) ?_
      refine gp_of (fun _ k9 => g_ift rfl (show (0 : Int32) = (0 : Int32) from by decide) k9) ?_
      refine gp_n 2 (j' := 8) (lv' := [some (.ref 13), some (.int ((nI p) + 1))]) (st' := []) (h' := (shT, fi, fl, fr)) rfl ?_
      rw [nI_1]
      exact gp_done a4 rfl
    · rw [hd] at dp
      have dp : Ev pmT 106 [.ref 1, .long (B p)] (shT, fi, fl, fr) (some (.int 1)) (shT, fi, fl, fr) := dp
      have e1 : fhN D (p + 1) = some p := by
        rw [fhN, hn]
        show (if D p = true then some p else none) = some p
        rw [hd, if_pos rfl]
      have e2 := fhN_st e1 n
      rw [show p + 1 + n = P by omega] at e2
      refine ⟨pm_u2 (pm_u2 fi 13 7 (nI p)) 13 8 1, ?_, ?_, fun q s hq => (wl_ne (by omega)).trans (wl_ne (by omega)), ?_⟩
      · unfold chN
        rw [e2]
        exact (wl_ne (by decide)).trans u2_eq
      · unfold hoN
        rw [e2]
        exact u2_eq
      have cP2 : pm_u2 (pm_u2 fi 13 7 (nI p)) 13 8 1 14 0 = nI P := cP
      have z88 : pm_u2 (pm_u2 fi 13 7 (nI p)) 13 8 1 13 8 = 1 := u2_eq
      generalize B p = w at *
      refine go_of ?_
      by_cases hl : p + 1 = P
      ·
        refine gp_n 2 (j' := 10) (lv' := [some (.ref 13), some (.int (nI p))]) (st' := [.ref 13, .int (nI p)]) (h' := (shT, fi, fl, fr)) rfl ?_
        refine gp_of (fun _ k9 => g_getR (q' := 14) rfl rfl (by decide) k0 k9) ?_
        refine gp_of (fun _ k9 => g_getI (x := nI P) rfl (Or.inl rfl) rfl (by decide) (cP) k9) ?_
        refine gp_of (fun _ k9 => g_icf rfl (show ¬ ((nI P) ≤ (nI p)) from nI_ge (by omega) (by omega)) k9) ?_
        refine gp_n 1 (j' := 14) (lv' := [some (.ref 13), some (.int (nI p))]) (st' := [.ref 13]) (h' := (shT, fi, fl, fr)) rfl ?_
        refine gp_of (fun _ k9 => g_getI (x := 0) rfl (Or.inr rfl) rfl (by decide) (z8) k9) ?_
        refine gp_of (fun _ k9 => g_iff rfl (show ¬ (¬ (0 : Int32) = (0 : Int32)) from by decide) k9) ?_
        refine gp_n 1 (j' := 17) (lv' := [some (.ref 13), some (.int (nI p))]) (st' := [.ref 13]) (h' := (shT, fi, fl, fr)) rfl ?_
        refine gp_of (fun _ k9 => g_getR (q' := 1) rfl rfl (by decide) c12 k9) ?_
        refine gp_n 1 (j' := 19) (lv' := [some (.ref 13), some (.int (nI p))]) (st' := [.ref 13, .ref 1]) (h' := (shT, fi, fl, fr)) rfl ?_
        refine gp_of (fun _ k9 => g_getR (q' := 14) rfl rfl (by decide) k0 k9) ?_
        refine gp_of (fun _ k9 => g_getR (q' := 15) rfl rfl (by decide) kB k9) ?_
        refine gp_n 1 (j' := 22) (lv' := [some (.ref 13), some (.int (nI p))]) (st' := [.int (nI p), .ref 15, .ref 1]) (h' := (shT, fi, fl, fr)) rfl ?_
        refine gp_of (fun _ k9 => g_lald (k := p) (x := w) rfl rfl (rfl) (by omega) (by decide) (bp) k9) ?_
        refine gp_of (fun _ k9 => g_call (y := 106) (as := [.ref 1, .long w]) (st' := []) rfl rfl (dp) k9) ?_
        refine gp_of (fun _ k9 => g_iff rfl (show ¬ ((1 : Int32) = (0 : Int32)) from by decide) k9) ?_
        refine gp_n 2 (j' := 27) (lv' := [some (.ref 13), some (.int (nI p))]) (st' := [.int (nI p), .ref 13]) (h' := (shT, fi, fl, fr)) rfl ?_
        refine gp_of (fun _ k9 => g_putI rfl (Or.inl rfl) rfl (by decide) k9) ?_
        refine gp_n 2 (j' := 30) (lv' := [some (.ref 13), some (.int (nI p))]) (st' := [.int 1, .ref 13]) (h' := (shT, pm_u2 fi 13 7 (nI p), fl, fr)) rfl ?_
        refine gp_of (fun _ k9 => g_putI rfl (Or.inr ⟨rfl, by decide⟩) rfl (by decide) k9) ?_
        refine gp_n 2 (j' := 8) (lv' := [some (.ref 13), some (.int ((nI p) + 1))]) (st' := []) (h' := (shT, pm_u2 (pm_u2 fi 13 7 (nI p)) 13 8 1, fl, fr)) rfl ?_
        rw [nI_1]
        refine gp_n 2 (j' := 10) (lv' := [some (.ref 13), some (.int (nI (p + 1)))]) (st' := [.ref 13, .int (nI (p + 1))]) (h' := (shT, pm_u2 (pm_u2 fi 13 7 (nI p)) 13 8 1, fl, fr)) rfl ?_
        refine gp_of (fun _ k9 => g_getR (q' := 14) rfl rfl (by decide) k0 k9) ?_
        refine gp_of (fun _ k9 => g_getI (x := nI P) rfl (Or.inl rfl) rfl (by decide) (cP) k9) ?_
        refine gp_of (fun _ k9 => g_ict rfl (show (nI P) ≤ (nI (p + 1)) from nI_le (by omega) (by omega)) k9) ?_
        refine gp_done (g_vret rfl) ?_
        rfl
      ·
        refine gp_n 2 (j' := 10) (lv' := [some (.ref 13), some (.int (nI p))]) (st' := [.ref 13, .int (nI p)]) (h' := (shT, fi, fl, fr)) rfl ?_
        refine gp_of (fun _ k9 => g_getR (q' := 14) rfl rfl (by decide) k0 k9) ?_
        refine gp_of (fun _ k9 => g_getI (x := nI P) rfl (Or.inl rfl) rfl (by decide) (cP) k9) ?_
        refine gp_of (fun _ k9 => g_icf rfl (show ¬ ((nI P) ≤ (nI p)) from nI_ge (by omega) (by omega)) k9) ?_
        refine gp_n 1 (j' := 14) (lv' := [some (.ref 13), some (.int (nI p))]) (st' := [.ref 13]) (h' := (shT, fi, fl, fr)) rfl ?_
        refine gp_of (fun _ k9 => g_getI (x := 0) rfl (Or.inr rfl) rfl (by decide) (z8) k9) ?_
        refine gp_of (fun _ k9 => g_iff rfl (show ¬ (¬ (0 : Int32) = (0 : Int32)) from by decide) k9) ?_
        refine gp_n 1 (j' := 17) (lv' := [some (.ref 13), some (.int (nI p))]) (st' := [.ref 13]) (h' := (shT, fi, fl, fr)) rfl ?_
        refine gp_of (fun _ k9 => g_getR (q' := 1) rfl rfl (by decide) c12 k9) ?_
        refine gp_n 1 (j' := 19) (lv' := [some (.ref 13), some (.int (nI p))]) (st' := [.ref 13, .ref 1]) (h' := (shT, fi, fl, fr)) rfl ?_
        refine gp_of (fun _ k9 => g_getR (q' := 14) rfl rfl (by decide) k0 k9) ?_
        refine gp_of (fun _ k9 => g_getR (q' := 15) rfl rfl (by decide) kB k9) ?_
        refine gp_n 1 (j' := 22) (lv' := [some (.ref 13), some (.int (nI p))]) (st' := [.int (nI p), .ref 15, .ref 1]) (h' := (shT, fi, fl, fr)) rfl ?_
        refine gp_of (fun _ k9 => g_lald (k := p) (x := w) rfl rfl (rfl) (by omega) (by decide) (bp) k9) ?_
        refine gp_of (fun _ k9 => g_call (y := 106) (as := [.ref 1, .long w]) (st' := []) rfl rfl (dp) k9) ?_
        refine gp_of (fun _ k9 => g_iff rfl (show ¬ ((1 : Int32) = (0 : Int32)) from by decide) k9) ?_
        refine gp_n 2 (j' := 27) (lv' := [some (.ref 13), some (.int (nI p))]) (st' := [.int (nI p), .ref 13]) (h' := (shT, fi, fl, fr)) rfl ?_
        refine gp_of (fun _ k9 => g_putI rfl (Or.inl rfl) rfl (by decide) k9) ?_
        refine gp_n 2 (j' := 30) (lv' := [some (.ref 13), some (.int (nI p))]) (st' := [.int 1, .ref 13]) (h' := (shT, pm_u2 fi 13 7 (nI p), fl, fr)) rfl ?_
        refine gp_of (fun _ k9 => g_putI rfl (Or.inr ⟨rfl, by decide⟩) rfl (by decide) k9) ?_
        refine gp_n 2 (j' := 8) (lv' := [some (.ref 13), some (.int ((nI p) + 1))]) (st' := []) (h' := (shT, pm_u2 (pm_u2 fi 13 7 (nI p)) 13 8 1, fl, fr)) rfl ?_
        rw [nI_1]
        refine gp_n 2 (j' := 10) (lv' := [some (.ref 13), some (.int (nI (p + 1)))]) (st' := [.ref 13, .int (nI (p + 1))]) (h' := (shT, pm_u2 (pm_u2 fi 13 7 (nI p)) 13 8 1, fl, fr)) rfl ?_
        refine gp_of (fun _ k9 => g_getR (q' := 14) rfl rfl (by decide) k0 k9) ?_
        refine gp_of (fun _ k9 => g_getI (x := nI P) rfl (Or.inl rfl) rfl (by decide) (cP) k9) ?_
        refine gp_of (fun _ k9 => g_icf rfl (show ¬ ((nI P) ≤ (nI (p + 1))) from nI_ge (by omega) (by omega)) k9) ?_
        refine gp_n 1 (j' := 14) (lv' := [some (.ref 13), some (.int (nI (p + 1)))]) (st' := [.ref 13]) (h' := (shT, pm_u2 (pm_u2 fi 13 7 (nI p)) 13 8 1, fl, fr)) rfl ?_
        refine gp_of (fun _ k9 => g_getI (x := 1) rfl (Or.inr rfl) rfl (by decide) (rfl) k9) ?_
        refine gp_of (fun _ k9 => g_ift rfl (show ¬ (1 : Int32) = (0 : Int32) from by decide) k9) ?_
        refine gp_done (g_vret rfl) ?_
        rfl
theorem cho_18 {P : Nat} {D : Nat → Bool} {B : Nat → Int64} {fi : Nat → Nat → Int32} {fl : Nat → Nat → Int64} {fr : Nat → Nat → Option Nat} (hP : P ≤ 8) (k0 : fr 13 0 = some 18) (kB : fr 18 1 = some 19) (c12 : fr 13 12 = some 1) (cP : fi 18 0 = nI P) (hB : ∀ p, p < P → fl 19 p = B p) (z7 : fi 13 7 = 0) (z8 : fi 13 8 = 0) (hD : ∀ p, p < P → Ev pmT 106 [.ref 1, .long (B p)] (shT, fi, fl, fr) (some (.int (b01 (D p)))) (shT, fi, fl, fr)) : ∀ (n p : Nat), p + n = P → fhN D p = none → ∃ fi', fi' 13 7 = nI (chN D P) ∧ fi' 13 8 = b01 (hoN D P) ∧ (∀ q s, ¬ (q = 13 ∧ (s = 7 ∨ s = 8)) → fi' q s = fi q s) ∧ Go pmT none cd_105 8 [some (.ref 13), some (.int (nI p))] [] (shT, fi, fl, fr) (none, (shT, fi', fl, fr)) := by
  intro n
  induction n with
  | zero =>
    intro p hp hn
    have hp : p = P := by omega
    subst hp
    refine ⟨fi, ?_, ?_, fun _ _ _ => rfl, ?_⟩
    · unfold chN
      rw [hn]
      exact z7
    · unfold hoN
      rw [hn]
      exact z8
    refine go_of ?_
    refine gp_n 2 (j' := 10) (lv' := [some (.ref 13), some (.int (nI p))]) (st' := [.ref 13, .int (nI p)]) (h' := (shT, fi, fl, fr)) rfl ?_
    refine gp_of (fun _ k9 => g_getR (q' := 18) rfl rfl (by decide) k0 k9) ?_
    refine gp_of (fun _ k9 => g_getI (x := nI p) rfl (Or.inl rfl) rfl (by decide) (cP) k9) ?_
    refine gp_of (fun _ k9 => g_ict rfl (show (nI p) ≤ (nI p) from Int32.le_refl _) k9) ?_
    refine gp_done (g_vret rfl) ?_
    rfl
  | succ n ih =>
    intro p hp hn
    have bp := hB p (by omega)
    have dp := hD p (by omega)
    cases hd : D p
    · rw [hd] at dp
      have dp : Ev pmT 106 [.ref 1, .long (B p)] (shT, fi, fl, fr) (some (.int 0)) (shT, fi, fl, fr) := dp
      obtain ⟨fi', a1, a2, a3, a4⟩ := ih (p + 1) (by omega) (by rw [fhN, hn]; show (if D p = true then some p else none) = none; rw [hd, if_neg (by decide)])
      refine ⟨fi', a1, a2, a3, ?_⟩
      generalize B p = w at *
      refine go_of ?_
      refine gp_n 2 (j' := 10) (lv' := [some (.ref 13), some (.int (nI p))]) (st' := [.ref 13, .int (nI p)]) (h' := (shT, fi, fl, fr)) rfl ?_
      refine gp_of (fun _ k9 => g_getR (q' := 18) rfl rfl (by decide) k0 k9) ?_
      refine gp_of (fun _ k9 => g_getI (x := nI P) rfl (Or.inl rfl) rfl (by decide) (cP) k9) ?_
      refine gp_of (fun _ k9 => g_icf rfl (show ¬ ((nI P) ≤ (nI p)) from nI_ge (by omega) (by omega)) k9) ?_
      refine gp_n 1 (j' := 14) (lv' := [some (.ref 13), some (.int (nI p))]) (st' := [.ref 13]) (h' := (shT, fi, fl, fr)) rfl ?_
      refine gp_of (fun _ k9 => g_getI (x := 0) rfl (Or.inr rfl) rfl (by decide) (z8) k9) ?_
      refine gp_of (fun _ k9 => g_iff rfl (show ¬ (¬ (0 : Int32) = (0 : Int32)) from by decide) k9) ?_
      refine gp_n 1 (j' := 17) (lv' := [some (.ref 13), some (.int (nI p))]) (st' := [.ref 13]) (h' := (shT, fi, fl, fr)) rfl ?_
      refine gp_of (fun _ k9 => g_getR (q' := 1) rfl rfl (by decide) c12 k9) ?_
      refine gp_n 1 (j' := 19) (lv' := [some (.ref 13), some (.int (nI p))]) (st' := [.ref 13, .ref 1]) (h' := (shT, fi, fl, fr)) rfl ?_
      refine gp_of (fun _ k9 => g_getR (q' := 18) rfl rfl (by decide) k0 k9) ?_
      refine gp_of (fun _ k9 => g_getR (q' := 19) rfl rfl (by decide) kB k9) ?_
      refine gp_n 1 (j' := 22) (lv' := [some (.ref 13), some (.int (nI p))]) (st' := [.int (nI p), .ref 19, .ref 1]) (h' := (shT, fi, fl, fr)) rfl ?_
      refine gp_of (fun _ k9 => g_lald (k := p) (x := w) rfl rfl (rfl) (by omega) (by decide) (bp) k9) ?_
      refine gp_of (fun _ k9 => g_call (y := 106) (as := [.ref 1, .long w]) (st' := []) rfl rfl (dp) k9) ?_
      refine gp_of (fun _ k9 => g_ift rfl (show (0 : Int32) = (0 : Int32) from by decide) k9) ?_
      refine gp_n 2 (j' := 8) (lv' := [some (.ref 13), some (.int ((nI p) + 1))]) (st' := []) (h' := (shT, fi, fl, fr)) rfl ?_
      rw [nI_1]
      exact gp_done a4 rfl
    · rw [hd] at dp
      have dp : Ev pmT 106 [.ref 1, .long (B p)] (shT, fi, fl, fr) (some (.int 1)) (shT, fi, fl, fr) := dp
      have e1 : fhN D (p + 1) = some p := by
        rw [fhN, hn]
        show (if D p = true then some p else none) = some p
        rw [hd, if_pos rfl]
      have e2 := fhN_st e1 n
      rw [show p + 1 + n = P by omega] at e2
      refine ⟨pm_u2 (pm_u2 fi 13 7 (nI p)) 13 8 1, ?_, ?_, fun q s hq => (wl_ne (by omega)).trans (wl_ne (by omega)), ?_⟩
      · unfold chN
        rw [e2]
        exact (wl_ne (by decide)).trans u2_eq
      · unfold hoN
        rw [e2]
        exact u2_eq
      have cP2 : pm_u2 (pm_u2 fi 13 7 (nI p)) 13 8 1 18 0 = nI P := cP
      have z88 : pm_u2 (pm_u2 fi 13 7 (nI p)) 13 8 1 13 8 = 1 := u2_eq
      generalize B p = w at *
      refine go_of ?_
      by_cases hl : p + 1 = P
      ·
        refine gp_n 2 (j' := 10) (lv' := [some (.ref 13), some (.int (nI p))]) (st' := [.ref 13, .int (nI p)]) (h' := (shT, fi, fl, fr)) rfl ?_
        refine gp_of (fun _ k9 => g_getR (q' := 18) rfl rfl (by decide) k0 k9) ?_
        refine gp_of (fun _ k9 => g_getI (x := nI P) rfl (Or.inl rfl) rfl (by decide) (cP) k9) ?_
        refine gp_of (fun _ k9 => g_icf rfl (show ¬ ((nI P) ≤ (nI p)) from nI_ge (by omega) (by omega)) k9) ?_
        refine gp_n 1 (j' := 14) (lv' := [some (.ref 13), some (.int (nI p))]) (st' := [.ref 13]) (h' := (shT, fi, fl, fr)) rfl ?_
        refine gp_of (fun _ k9 => g_getI (x := 0) rfl (Or.inr rfl) rfl (by decide) (z8) k9) ?_
        refine gp_of (fun _ k9 => g_iff rfl (show ¬ (¬ (0 : Int32) = (0 : Int32)) from by decide) k9) ?_
        refine gp_n 1 (j' := 17) (lv' := [some (.ref 13), some (.int (nI p))]) (st' := [.ref 13]) (h' := (shT, fi, fl, fr)) rfl ?_
        refine gp_of (fun _ k9 => g_getR (q' := 1) rfl rfl (by decide) c12 k9) ?_
        refine gp_n 1 (j' := 19) (lv' := [some (.ref 13), some (.int (nI p))]) (st' := [.ref 13, .ref 1]) (h' := (shT, fi, fl, fr)) rfl ?_
        refine gp_of (fun _ k9 => g_getR (q' := 18) rfl rfl (by decide) k0 k9) ?_
        refine gp_of (fun _ k9 => g_getR (q' := 19) rfl rfl (by decide) kB k9) ?_
        refine gp_n 1 (j' := 22) (lv' := [some (.ref 13), some (.int (nI p))]) (st' := [.int (nI p), .ref 19, .ref 1]) (h' := (shT, fi, fl, fr)) rfl ?_
        refine gp_of (fun _ k9 => g_lald (k := p) (x := w) rfl rfl (rfl) (by omega) (by decide) (bp) k9) ?_
        refine gp_of (fun _ k9 => g_call (y := 106) (as := [.ref 1, .long w]) (st' := []) rfl rfl (dp) k9) ?_
        refine gp_of (fun _ k9 => g_iff rfl (show ¬ ((1 : Int32) = (0 : Int32)) from by decide) k9) ?_
        refine gp_n 2 (j' := 27) (lv' := [some (.ref 13), some (.int (nI p))]) (st' := [.int (nI p), .ref 13]) (h' := (shT, fi, fl, fr)) rfl ?_
        refine gp_of (fun _ k9 => g_putI rfl (Or.inl rfl) rfl (by decide) k9) ?_
        refine gp_n 2 (j' := 30) (lv' := [some (.ref 13), some (.int (nI p))]) (st' := [.int 1, .ref 13]) (h' := (shT, pm_u2 fi 13 7 (nI p), fl, fr)) rfl ?_
        refine gp_of (fun _ k9 => g_putI rfl (Or.inr ⟨rfl, by decide⟩) rfl (by decide) k9) ?_
        refine gp_n 2 (j' := 8) (lv' := [some (.ref 13), some (.int ((nI p) + 1))]) (st' := []) (h' := (shT, pm_u2 (pm_u2 fi 13 7 (nI p)) 13 8 1, fl, fr)) rfl ?_
        rw [nI_1]
        refine gp_n 2 (j' := 10) (lv' := [some (.ref 13), some (.int (nI (p + 1)))]) (st' := [.ref 13, .int (nI (p + 1))]) (h' := (shT, pm_u2 (pm_u2 fi 13 7 (nI p)) 13 8 1, fl, fr)) rfl ?_
        refine gp_of (fun _ k9 => g_getR (q' := 18) rfl rfl (by decide) k0 k9) ?_
        refine gp_of (fun _ k9 => g_getI (x := nI P) rfl (Or.inl rfl) rfl (by decide) (cP) k9) ?_
        refine gp_of (fun _ k9 => g_ict rfl (show (nI P) ≤ (nI (p + 1)) from nI_le (by omega) (by omega)) k9) ?_
        refine gp_done (g_vret rfl) ?_
        rfl
      ·
        refine gp_n 2 (j' := 10) (lv' := [some (.ref 13), some (.int (nI p))]) (st' := [.ref 13, .int (nI p)]) (h' := (shT, fi, fl, fr)) rfl ?_
        refine gp_of (fun _ k9 => g_getR (q' := 18) rfl rfl (by decide) k0 k9) ?_
        refine gp_of (fun _ k9 => g_getI (x := nI P) rfl (Or.inl rfl) rfl (by decide) (cP) k9) ?_
        refine gp_of (fun _ k9 => g_icf rfl (show ¬ ((nI P) ≤ (nI p)) from nI_ge (by omega) (by omega)) k9) ?_
        refine gp_n 1 (j' := 14) (lv' := [some (.ref 13), some (.int (nI p))]) (st' := [.ref 13]) (h' := (shT, fi, fl, fr)) rfl ?_
        refine gp_of (fun _ k9 => g_getI (x := 0) rfl (Or.inr rfl) rfl (by decide) (z8) k9) ?_
        refine gp_of (fun _ k9 => g_iff rfl (show ¬ (¬ (0 : Int32) = (0 : Int32)) from by decide) k9) ?_
        refine gp_n 1 (j' := 17) (lv' := [some (.ref 13), some (.int (nI p))]) (st' := [.ref 13]) (h' := (shT, fi, fl, fr)) rfl ?_
        refine gp_of (fun _ k9 => g_getR (q' := 1) rfl rfl (by decide) c12 k9) ?_
        refine gp_n 1 (j' := 19) (lv' := [some (.ref 13), some (.int (nI p))]) (st' := [.ref 13, .ref 1]) (h' := (shT, fi, fl, fr)) rfl ?_
        refine gp_of (fun _ k9 => g_getR (q' := 18) rfl rfl (by decide) k0 k9) ?_
        refine gp_of (fun _ k9 => g_getR (q' := 19) rfl rfl (by decide) kB k9) ?_
        refine gp_n 1 (j' := 22) (lv' := [some (.ref 13), some (.int (nI p))]) (st' := [.int (nI p), .ref 19, .ref 1]) (h' := (shT, fi, fl, fr)) rfl ?_
        refine gp_of (fun _ k9 => g_lald (k := p) (x := w) rfl rfl (rfl) (by omega) (by decide) (bp) k9) ?_
        refine gp_of (fun _ k9 => g_call (y := 106) (as := [.ref 1, .long w]) (st' := []) rfl rfl (dp) k9) ?_
        refine gp_of (fun _ k9 => g_iff rfl (show ¬ ((1 : Int32) = (0 : Int32)) from by decide) k9) ?_
        refine gp_n 2 (j' := 27) (lv' := [some (.ref 13), some (.int (nI p))]) (st' := [.int (nI p), .ref 13]) (h' := (shT, fi, fl, fr)) rfl ?_
        refine gp_of (fun _ k9 => g_putI rfl (Or.inl rfl) rfl (by decide) k9) ?_
        refine gp_n 2 (j' := 30) (lv' := [some (.ref 13), some (.int (nI p))]) (st' := [.int 1, .ref 13]) (h' := (shT, pm_u2 fi 13 7 (nI p), fl, fr)) rfl ?_
        refine gp_of (fun _ k9 => g_putI rfl (Or.inr ⟨rfl, by decide⟩) rfl (by decide) k9) ?_
        refine gp_n 2 (j' := 8) (lv' := [some (.ref 13), some (.int ((nI p) + 1))]) (st' := []) (h' := (shT, pm_u2 (pm_u2 fi 13 7 (nI p)) 13 8 1, fl, fr)) rfl ?_
        rw [nI_1]
        refine gp_n 2 (j' := 10) (lv' := [some (.ref 13), some (.int (nI (p + 1)))]) (st' := [.ref 13, .int (nI (p + 1))]) (h' := (shT, pm_u2 (pm_u2 fi 13 7 (nI p)) 13 8 1, fl, fr)) rfl ?_
        refine gp_of (fun _ k9 => g_getR (q' := 18) rfl rfl (by decide) k0 k9) ?_
        refine gp_of (fun _ k9 => g_getI (x := nI P) rfl (Or.inl rfl) rfl (by decide) (cP) k9) ?_
        refine gp_of (fun _ k9 => g_icf rfl (show ¬ ((nI P) ≤ (nI (p + 1))) from nI_ge (by omega) (by omega)) k9) ?_
        refine gp_n 1 (j' := 14) (lv' := [some (.ref 13), some (.int (nI (p + 1)))]) (st' := [.ref 13]) (h' := (shT, pm_u2 (pm_u2 fi 13 7 (nI p)) 13 8 1, fl, fr)) rfl ?_
        refine gp_of (fun _ k9 => g_getI (x := 1) rfl (Or.inr rfl) rfl (by decide) (rfl) k9) ?_
        refine gp_of (fun _ k9 => g_ift rfl (show ¬ (1 : Int32) = (0 : Int32) from by decide) k9) ?_
        refine gp_done (g_vret rfl) ?_
        rfl
theorem af_go_14 {fl : Nat → Nat → Int64} {fr : Nat → Nat → Option Nat} (k3 : fr 14 3 = some 17) : ∀ (n l : Nat) (fi : Nat → Nat → Int32), l + n = 7 → ∃ fi', (∀ l', l ≤ l' → l' < 7 → fi' 17 (8 * l') = 0) ∧ (∀ q s, ¬ q = 17 → fi' q s = fi q s) ∧ (∀ s, s < 8 * l → fi' 17 s = fi 17 s) ∧ Go pmT none cd_83 15 [some (.ref 14), some (.int (nI l))] [] (shT, fi, fl, fr) (none, (shT, fi', fl, fr)) := by
  intro n
  induction n with
  | zero =>
    intro l fi hl
    have hl : l = 7 := by omega
    subst hl
    refine ⟨fi, fun l' h1 h2 => absurd h2 (by omega), fun _ _ _ => rfl, fun _ _ => rfl, ?_⟩
    refine go_of ?_
    refine gp_n 2 (j' := 17) (lv' := [some (.ref 14), some (.int (nI 7))]) (st' := [.int 6, .int (nI 7)]) (h' := (shT, fi, fl, fr)) rfl ?_
    refine gp_of (fun _ k9 => g_ict rfl (show (6 : Int32) < (nI 7) from by decide) k9) ?_
    refine gp_done (g_vret rfl) ?_
    rfl
  | succ n ih =>
    intro l fi hl
    have i8 : nI l * 8 = nI (8 * l) := by
      have := ix8_e l (by omega) 0 (by decide)
      rw [nI_0, Int32.add_zero] at this
      exact this
    obtain ⟨fi', a1, a2, a3, a4⟩ := ih (l + 1) (pm_u2 fi 17 (8 * l) 0) (by omega)
    refine ⟨fi', fun l' h1 h2 => ?_, fun q s hq => (a2 q s hq).trans (wl_ne (by omega)), fun s hs => (a3 s (by omega)).trans (wl_ne (by omega)), ?_⟩
    · by_cases e : l' = l
      · subst e
        exact (a3 _ (by omega)).trans u2_eq
      · exact a1 l' (by omega) h2
    refine go_of ?_
    refine gp_n 2 (j' := 17) (lv' := [some (.ref 14), some (.int (nI l))]) (st' := [.int 6, .int (nI l)]) (h' := (shT, fi, fl, fr)) rfl ?_
    refine gp_of (fun _ k9 => g_icf rfl (show ¬ ((6 : Int32) < (nI l)) from nI_nlt (a := 6) (by omega) (by omega)) k9) ?_
    refine gp_n 1 (j' := 19) (lv' := [some (.ref 14), some (.int (nI l))]) (st' := [.ref 14]) (h' := (shT, fi, fl, fr)) rfl ?_
    refine gp_of (fun _ k9 => g_getR (q' := 17) rfl rfl (by decide) k3 k9) ?_
    refine gp_n 4 (j' := 24) (lv' := [some (.ref 14), some (.int (nI l))]) (st' := [.int 0, .int ((nI l) * 8), .ref 17]) (h' := (shT, fi, fl, fr)) rfl ?_
    refine gp_of (fun _ k9 => g_iast (k := 8 * l) rfl rfl (i8) (by omega) (by decide) k9) ?_
    refine gp_n 2 (j' := 15) (lv' := [some (.ref 14), some (.int ((nI l) + 1))]) (st' := []) (h' := (shT, pm_u2 fi 17 (8 * l) 0, fl, fr)) rfl ?_
    rw [nI_1]
    exact gp_done a4 rfl
theorem af_ev_14 {fi : Nat → Nat → Int32} {fl : Nat → Nat → Int64} {fr : Nat → Nat → Option Nat} (k1 : fr 14 1 = some 15) (k2 : fr 14 2 = some 16) (k3 : fr 14 3 = some 17) : ∃ fi', fi' 14 0 = nI 1 ∧ fi' 16 0 = 0 ∧ (∀ l, l < 7 → fi' 17 (8 * l) = nI 0) ∧ (∀ q s, ¬ q = 14 → ¬ q = 16 → ¬ q = 17 → fi' q s = fi q s) ∧ Ev pmT 83 [.ref 14] (shT, fi, fl, fr) none (shT, fi', pm_u2 fl 15 0 0, fr) := by
  obtain ⟨fi', a1, a2, a3, a4⟩ := af_go_14 (fl := pm_u2 fl 15 0 0) (fr := fr) k3 7 0 (pm_u2 (pm_u2 fi 14 0 1) 16 0 0) (by omega)
  refine ⟨fi', (a2 _ _ (by decide)).trans ((wl_ne (by decide)).trans u2_eq), (a2 _ _ (by decide)).trans u2_eq, fun l hl => a1 l (Nat.zero_le l) hl, fun q s z1 z2 z3 => (a2 q s z3).trans ((wl_ne (fun z => z2 z.1)).trans (wl_ne (fun z => z1 z.1))), ?_⟩
  refine Ev.of (es := cd_83) (ml := 2) (lv := [some (.ref 14), none]) rfl rfl rfl ?_
  refine go_of ?_
  refine gp_n 2 (j' := 2) (lv' := [some (.ref 14), none]) (st' := [.int 1, .ref 14]) (h' := (shT, fi, fl, fr)) rfl ?_
  refine gp_of (fun _ k9 => g_putI rfl (Or.inl rfl) rfl (by decide) k9) ?_
  refine gp_n 1 (j' := 4) (lv' := [some (.ref 14), none]) (st' := [.ref 14]) (h' := (shT, pm_u2 fi 14 0 1, fl, fr)) rfl ?_
  refine gp_of (fun _ k9 => g_getR (q' := 15) rfl rfl (by decide) k1 k9) ?_
  refine gp_n 2 (j' := 7) (lv' := [some (.ref 14), none]) (st' := [.long 0, .int 0, .ref 15]) (h' := (shT, pm_u2 fi 14 0 1, fl, fr)) rfl ?_
  refine gp_of (fun _ k9 => g_last (k := 0) rfl rfl (rfl) (by decide) (by decide) k9) ?_
  refine gp_n 1 (j' := 9) (lv' := [some (.ref 14), none]) (st' := [.ref 14]) (h' := (shT, pm_u2 fi 14 0 1, pm_u2 fl 15 0 0, fr)) rfl ?_
  refine gp_of (fun _ k9 => g_getR (q' := 16) rfl rfl (by decide) k2 k9) ?_
  refine gp_n 2 (j' := 12) (lv' := [some (.ref 14), none]) (st' := [.int 0, .int 0, .ref 16]) (h' := (shT, pm_u2 fi 14 0 1, pm_u2 fl 15 0 0, fr)) rfl ?_
  refine gp_of (fun _ k9 => g_iast (k := 0) rfl rfl (rfl) (by decide) (by decide) k9) ?_
  refine gp_n 2 (j' := 15) (lv' := [some (.ref 14), some (.int (nI 0))]) (st' := []) (h' := (shT, pm_u2 (pm_u2 fi 14 0 1) 16 0 0, pm_u2 fl 15 0 0, fr)) rfl ?_
  exact gp_done a4 rfl
theorem af_go_18 {fl : Nat → Nat → Int64} {fr : Nat → Nat → Option Nat} (k3 : fr 18 3 = some 21) : ∀ (n l : Nat) (fi : Nat → Nat → Int32), l + n = 7 → ∃ fi', (∀ l', l ≤ l' → l' < 7 → fi' 21 (8 * l') = 0) ∧ (∀ q s, ¬ q = 21 → fi' q s = fi q s) ∧ (∀ s, s < 8 * l → fi' 21 s = fi 21 s) ∧ Go pmT none cd_83 15 [some (.ref 18), some (.int (nI l))] [] (shT, fi, fl, fr) (none, (shT, fi', fl, fr)) := by
  intro n
  induction n with
  | zero =>
    intro l fi hl
    have hl : l = 7 := by omega
    subst hl
    refine ⟨fi, fun l' h1 h2 => absurd h2 (by omega), fun _ _ _ => rfl, fun _ _ => rfl, ?_⟩
    refine go_of ?_
    refine gp_n 2 (j' := 17) (lv' := [some (.ref 18), some (.int (nI 7))]) (st' := [.int 6, .int (nI 7)]) (h' := (shT, fi, fl, fr)) rfl ?_
    refine gp_of (fun _ k9 => g_ict rfl (show (6 : Int32) < (nI 7) from by decide) k9) ?_
    refine gp_done (g_vret rfl) ?_
    rfl
  | succ n ih =>
    intro l fi hl
    have i8 : nI l * 8 = nI (8 * l) := by
      have := ix8_e l (by omega) 0 (by decide)
      rw [nI_0, Int32.add_zero] at this
      exact this
    obtain ⟨fi', a1, a2, a3, a4⟩ := ih (l + 1) (pm_u2 fi 21 (8 * l) 0) (by omega)
    refine ⟨fi', fun l' h1 h2 => ?_, fun q s hq => (a2 q s hq).trans (wl_ne (by omega)), fun s hs => (a3 s (by omega)).trans (wl_ne (by omega)), ?_⟩
    · by_cases e : l' = l
      · subst e
        exact (a3 _ (by omega)).trans u2_eq
      · exact a1 l' (by omega) h2
    refine go_of ?_
    refine gp_n 2 (j' := 17) (lv' := [some (.ref 18), some (.int (nI l))]) (st' := [.int 6, .int (nI l)]) (h' := (shT, fi, fl, fr)) rfl ?_
    refine gp_of (fun _ k9 => g_icf rfl (show ¬ ((6 : Int32) < (nI l)) from nI_nlt (a := 6) (by omega) (by omega)) k9) ?_
    refine gp_n 1 (j' := 19) (lv' := [some (.ref 18), some (.int (nI l))]) (st' := [.ref 18]) (h' := (shT, fi, fl, fr)) rfl ?_
    refine gp_of (fun _ k9 => g_getR (q' := 21) rfl rfl (by decide) k3 k9) ?_
    refine gp_n 4 (j' := 24) (lv' := [some (.ref 18), some (.int (nI l))]) (st' := [.int 0, .int ((nI l) * 8), .ref 21]) (h' := (shT, fi, fl, fr)) rfl ?_
    refine gp_of (fun _ k9 => g_iast (k := 8 * l) rfl rfl (i8) (by omega) (by decide) k9) ?_
    refine gp_n 2 (j' := 15) (lv' := [some (.ref 18), some (.int ((nI l) + 1))]) (st' := []) (h' := (shT, pm_u2 fi 21 (8 * l) 0, fl, fr)) rfl ?_
    rw [nI_1]
    exact gp_done a4 rfl
theorem af_ev_18 {fi : Nat → Nat → Int32} {fl : Nat → Nat → Int64} {fr : Nat → Nat → Option Nat} (k1 : fr 18 1 = some 19) (k2 : fr 18 2 = some 20) (k3 : fr 18 3 = some 21) : ∃ fi', fi' 18 0 = nI 1 ∧ fi' 20 0 = 0 ∧ (∀ l, l < 7 → fi' 21 (8 * l) = nI 0) ∧ (∀ q s, ¬ q = 18 → ¬ q = 20 → ¬ q = 21 → fi' q s = fi q s) ∧ Ev pmT 83 [.ref 18] (shT, fi, fl, fr) none (shT, fi', pm_u2 fl 19 0 0, fr) := by
  obtain ⟨fi', a1, a2, a3, a4⟩ := af_go_18 (fl := pm_u2 fl 19 0 0) (fr := fr) k3 7 0 (pm_u2 (pm_u2 fi 18 0 1) 20 0 0) (by omega)
  refine ⟨fi', (a2 _ _ (by decide)).trans ((wl_ne (by decide)).trans u2_eq), (a2 _ _ (by decide)).trans u2_eq, fun l hl => a1 l (Nat.zero_le l) hl, fun q s z1 z2 z3 => (a2 q s z3).trans ((wl_ne (fun z => z2 z.1)).trans (wl_ne (fun z => z1 z.1))), ?_⟩
  refine Ev.of (es := cd_83) (ml := 2) (lv := [some (.ref 18), none]) rfl rfl rfl ?_
  refine go_of ?_
  refine gp_n 2 (j' := 2) (lv' := [some (.ref 18), none]) (st' := [.int 1, .ref 18]) (h' := (shT, fi, fl, fr)) rfl ?_
  refine gp_of (fun _ k9 => g_putI rfl (Or.inl rfl) rfl (by decide) k9) ?_
  refine gp_n 1 (j' := 4) (lv' := [some (.ref 18), none]) (st' := [.ref 18]) (h' := (shT, pm_u2 fi 18 0 1, fl, fr)) rfl ?_
  refine gp_of (fun _ k9 => g_getR (q' := 19) rfl rfl (by decide) k1 k9) ?_
  refine gp_n 2 (j' := 7) (lv' := [some (.ref 18), none]) (st' := [.long 0, .int 0, .ref 19]) (h' := (shT, pm_u2 fi 18 0 1, fl, fr)) rfl ?_
  refine gp_of (fun _ k9 => g_last (k := 0) rfl rfl (rfl) (by decide) (by decide) k9) ?_
  refine gp_n 1 (j' := 9) (lv' := [some (.ref 18), none]) (st' := [.ref 18]) (h' := (shT, pm_u2 fi 18 0 1, pm_u2 fl 19 0 0, fr)) rfl ?_
  refine gp_of (fun _ k9 => g_getR (q' := 20) rfl rfl (by decide) k2 k9) ?_
  refine gp_n 2 (j' := 12) (lv' := [some (.ref 18), none]) (st' := [.int 0, .int 0, .ref 20]) (h' := (shT, pm_u2 fi 18 0 1, pm_u2 fl 19 0 0, fr)) rfl ?_
  refine gp_of (fun _ k9 => g_iast (k := 0) rfl rfl (rfl) (by decide) (by decide) k9) ?_
  refine gp_n 2 (j' := 15) (lv' := [some (.ref 18), some (.int (nI 0))]) (st' := []) (h' := (shT, pm_u2 (pm_u2 fi 18 0 1) 20 0 0, pm_u2 fl 19 0 0, fr)) rfl ?_
  exact gp_done a4 rfl
theorem g_cpyN {T : List PmM} {xs : PmX} {es : List PmI} {j : Nat} {lv : PmL} {S : List (Nat × Nat)} {fi : Nat → Nat → Int32} {fl : Nat → Nat → Int64} {fr : Nat → Nat → Option Nat} {r : Option Value × PmH} {pc n idx a c q : Nat} {v : Int} {ts : List Nat} {p p' n0 n1 N d : Nat} (he : es[j]? = some (pc, n, .invokestatic idx, a, c, 7, q, v, ts)) (hp : S[p]? = some (0, n0)) (hq : S[p']? = some (0, n1)) (h1 : N ≤ n0) (h2 : d + N ≤ n1) (h3 : n0 ≤ 1016) (h4 : n1 ≤ 1016) (k : Go T xs es (j + 1) lv [] (S, pm_uf fi p' (va_cpy (fi p) (fi p') 0 d N), fl, fr) r) : Go T xs es j lv [.int (nI N), .int (nI d), .ref p', .int 0, .ref p] (S, fi, fl, fr) r := by
  refine Go.step he ?_ k
  simp only [pm_x, pm_cpy, hp, hq]
  have e1 : (nI N).toNatClampNeg = N := nI_clamp (by omega)
  have e2 : (nI d).toNatClampNeg = d := nI_clamp (by omega)
  have e3 : (0 : Int32).toNatClampNeg = 0 := rfl
  have e4 : ¬ nI N < 0 := nI_pos (by omega)
  have e5 : ¬ nI d < 0 := nI_pos (by omega)
  rw [e1, e2, e3, if_neg (by
    rintro (z | z | z | z | z | z)
    · exact absurd z (by decide)
    · exact e5 z
    · exact e4 z
    · omega
    · omega
    · exact absurd z (by decide))]
  rfl
def lwS (K : Int64) (m : Nat) (S : Nat → Int32) (most : Nat) : Nat → Nat
  | 0 => 0
  | c + 1 => lwS K m S most c + lwk (rdN K m S most c).1 m c
def rwS (K : Int64) (m : Nat) (S : Nat → Int32) (most : Nat) : Nat → Nat
  | 0 => 0
  | c + 1 => rwS K m S most c + rwk (rdN K m S most c).1 c
/-- the works of a reading up to a channel -/
def wkI (K : Int64) (m : Nat) (S : Nat → Int32) (most c : Nat) (h : PmH) : Prop := ph_i h 13 4 = nI (lwS K m S most c) ∧ ph_i h 13 5 = nI (rwS K m S most c) ∧ ph_i h 13 6 = nI c
/-- all that a reading is at a channel -/
def rgI (K : Int64) (m : Nat) (S : Nat → Int32) (most c : Nat) (h : PmH) : Prop := ((c = 0 ∧ RDs m S (rdN K m S most c) 0 m h) ∨ (0 < c ∧ RDs m S (rdN K m S most c) (c - 1) 0 h)) ∧ (∀ i, i < c → chI K m S most (rdN K m S most i) i h) ∧ wkI K m S most c h
theorem chI_fr {K : Int64} {m most c i : Nat} {S : Nat → Int32} {x : RSt} {h h' : PmH} (hP : (rdS (bl K i) m S most i x).1 ≤ 8) (hi : ¬ i = c) (hf : trF c h h') (hc : chI K m S most x i h) : chI K m S most x i h' := by
  obtain ⟨a1, a2, a3⟩ := hc
  refine ⟨fun r hr => ⟨(hf.1 _ (by omega)).1.trans (a1 r hr).1, (hf.1 _ (by omega)).2.trans (a1 r hr).2⟩, (hf.2 i hi).1.trans a2, (hf.2 i hi).2.trans a3⟩
theorem rg_st {m c most : Nat} {K : Int64} {F : Int32} {S : Nat → Int32} {h : PmH} (hmo1 : 1 ≤ most) (hmo : most ≤ 8) (hF : ¬ nI c = F) (hm : m ≤ 6) (hc : c < 2 ^ m) (hS : ∀ s, s < 64 → -127 ≤ (S s).toInt ∧ (S s).toInt ≤ 127) (hI : HI hdT shT h) (hx : rgI K m S most c h) (hn : cnI K m most F h) : ∃ h', Ev pmT 85 [.ref 13, .int (nI c)] h (some (.int 1)) h' ∧ rgI K m S most (c + 1) h' ∧ cnI K m most F h' ∧ HI hdT shT h' ∧ fram (in_w iN_107) h h' := by
  have hP := rd_P (K := K) (m := m) (S := S) hmo1 c
  obtain ⟨x1, x2, x3⟩ := hx
  obtain ⟨h', e1, q1, q2, q3, q4, q5, q6, I1, F1⟩ := rn_ev hP.1 (by omega) hF hmo hm hc hS hI x1 hn
  refine ⟨h', e1, ⟨Or.inr ⟨Nat.succ_pos c, q1⟩, fun i hi => ?_, ?_, ?_, ?_⟩, cnI_fr (by decide) F1 hn, I1, F1⟩
  · by_cases e : i = c
    · subst e
      exact q2
    · have := rd_P (K := K) (m := m) (S := S) hmo1 (i + 1)
      have : (rdS (bl K i) m S most i (rdN K m S most i)).1 ≤ most := this.2
      exact chI_fr (by omega) e q3 (x2 i (by omega))
  · rw [q5, x3.1, nI_add]
    rfl
  · rw [q6, x3.2.1, nI_add]
    rfl
  · rw [q4, x3.2.2, nI_1]
theorem ru_go_2 {m most : Nat} {K : Int64} {F : Int32} {S : Nat → Int32} (hmo1 : 1 ≤ most) (hmo : most ≤ 8) (hF : ∀ c, c < 64 → ¬ nI c = F) (hm : m ≤ 6) (hS : ∀ s, s < 64 → -127 ≤ (S s).toInt ∧ (S s).toInt ≤ 127) : ∀ (n c : Nat) (h : PmH), c + n = 2 ^ m → HI hdT shT h → rgI K m S most c h → cnI K m most F h → ∃ h', rgI K m S most (2 ^ m) h' ∧ cnI K m most F h' ∧ HI hdT shT h' ∧ fram (in_w iN_107) h h' ∧ ∀ r, Go pmT none cd_82 57 [some (.ref 13), some (.ref 1), some (.ref 2), some (.int (nI most)), some (.int 0), some (.int F), some (.int (nI (2 ^ m))), some (.int (nI (2 ^ m)))] [] h' r → Go pmT none cd_82 41 [some (.ref 13), some (.ref 1), some (.ref 2), some (.int (nI most)), some (.int 0), some (.int F), some (.int (nI c)), some (.int (nI c))] [] h r := by
  intro n
  have p6 := pw_6 m (by omega)
  induction n with
  | zero =>
    intro c h hc hI hx hn
    have hc : c = 2 ^ m := by omega
    subst hc
    refine ⟨h, hx, hn, hI, fram.rf _ _, fun r k => ?_⟩
    have c12 := hn.1
    have cN := hn.2.2.2.2.2.2
    generalize 2 ^ m = N at *
    clear hx hn
    obtain ⟨S, fi, fl, fr⟩ := h
    have hS : S = shT := hI.1
    subst hS
    have c12 : fr 13 12 = some 1 := c12
    have cN : fi 1 1 = nI N := cN
    refine go_of ?_
    by_cases h64 : N = 64
    · 
      refine gp_n 2 (j' := 43) (lv' := [some (.ref 13), some (.ref 1), some (.ref 2), some (.int (nI most)), some (.int 0), some (.int F), some (.int (nI N)), some (.int (nI N))]) (st' := [.int 64, .int (nI N)]) (h' := (shT, fi, fl, fr)) rfl ?_
      refine gp_of (fun _ k9 => g_ict rfl (show (64 : Int32) ≤ (nI N) from nI_le (a := 64) (by omega) (by omega)) k9) ?_
      exact gp_done k rfl
    · 
      refine gp_n 2 (j' := 43) (lv' := [some (.ref 13), some (.ref 1), some (.ref 2), some (.int (nI most)), some (.int 0), some (.int F), some (.int (nI N)), some (.int (nI N))]) (st' := [.int 64, .int (nI N)]) (h' := (shT, fi, fl, fr)) rfl ?_
      refine gp_of (fun _ k9 => g_icf rfl (show ¬ ((64 : Int32) ≤ (nI N)) from nI_ge (b := 64) (by omega) (by omega)) k9) ?_
      refine gp_n 2 (j' := 46) (lv' := [some (.ref 13), some (.ref 1), some (.ref 2), some (.int (nI most)), some (.int 0), some (.int F), some (.int (nI N)), some (.int (nI N))]) (st' := [.ref 13, .int (nI N)]) (h' := (shT, fi, fl, fr)) rfl ?_
      refine gp_of (fun _ k9 => g_getR (q' := 1) rfl rfl (by decide) c12 k9) ?_
      refine gp_of (fun _ k9 => g_getI (x := nI N) rfl (Or.inl rfl) rfl (by decide) (cN) k9) ?_
      refine gp_of (fun _ k9 => g_ict rfl (show (nI N) ≤ (nI N) from Int32.le_refl _) k9) ?_
      exact gp_done k rfl
  | succ n ih =>
    intro c h hc hI hx hn
    obtain ⟨h1, e1, x1, n1, I1, F1⟩ := rg_st hmo1 hmo (hF c (by omega)) hm (by omega) hS hI hx hn
    obtain ⟨h2, x2, n2, I2, F2, g0⟩ := ih (c + 1) h1 (by omega) I1 x1 n1
    refine ⟨h2, x2, n2, I2, fram.tr F1 F2, fun r k => ?_⟩
    have g := g0 r k
    clear g0
    have c12 := hn.1
    have cN := hn.2.2.2.2.2.2
    generalize 2 ^ m = N at *
    clear hx hn x1 n1 x2 n2 F1 F2 ih
    obtain ⟨S1, fi1, fl1, fr1⟩ := h1
    have s1 : S1 = shT := I1.1
    subst s1
    obtain ⟨S, fi, fl, fr⟩ := h
    have hS : S = shT := hI.1
    subst hS
    have c12 : fr 13 12 = some 1 := c12
    have cN : fi 1 1 = nI N := cN
    refine go_of ?_
    refine gp_n 2 (j' := 43) (lv' := [some (.ref 13), some (.ref 1), some (.ref 2), some (.int (nI most)), some (.int 0), some (.int F), some (.int (nI c)), some (.int (nI c))]) (st' := [.int 64, .int (nI c)]) (h' := (shT, fi, fl, fr)) rfl ?_
    refine gp_of (fun _ k9 => g_icf rfl (show ¬ ((64 : Int32) ≤ (nI c)) from nI_ge (b := 64) (by omega) (by omega)) k9) ?_
    refine gp_n 2 (j' := 46) (lv' := [some (.ref 13), some (.ref 1), some (.ref 2), some (.int (nI most)), some (.int 0), some (.int F), some (.int (nI c)), some (.int (nI c))]) (st' := [.ref 13, .int (nI c)]) (h' := (shT, fi, fl, fr)) rfl ?_
    refine gp_of (fun _ k9 => g_getR (q' := 1) rfl rfl (by decide) c12 k9) ?_
    refine gp_of (fun _ k9 => g_getI (x := nI N) rfl (Or.inl rfl) rfl (by decide) (cN) k9) ?_
    refine gp_of (fun _ k9 => g_icf rfl (show ¬ ((nI N) ≤ (nI c)) from nI_ge (by omega) (by omega)) k9) ?_
    refine gp_n 3 (j' := 52) (lv' := [some (.ref 13), some (.ref 1), some (.ref 2), some (.int (nI most)), some (.int 0), some (.int F), some (.int (nI c)), some (.int (nI c))]) (st' := [.int (nI c), .ref 13, .int (nI c)]) (h' := (shT, fi, fl, fr)) rfl ?_
    refine gp_of (fun _ k9 => g_call (y := 85) (as := [.ref 13, .int (nI c)]) (st' := [.int (nI c)]) rfl rfl (e1) k9) ?_
    refine gp_n 4 (j' := 41) (lv' := [some (.ref 13), some (.ref 1), some (.ref 2), some (.int (nI most)), some (.int 0), some (.int F), some (.int ((nI c) + 1)), some (.int ((nI c) + 1))]) (st' := []) (h' := (shT, fi1, fl1, fr1)) rfl ?_
    rw [nI_1]
    exact gp_done g rfl
theorem ru_go_41 {m most : Nat} {K : Int64} {F : Int32} {S : Nat → Int32} (hmo1 : 1 ≤ most) (hmo : most ≤ 8) (hF : ∀ c, c < 64 → ¬ nI c = F) (hm : m ≤ 6) (hS : ∀ s, s < 64 → -127 ≤ (S s).toInt ∧ (S s).toInt ≤ 127) : ∀ (n c : Nat) (h : PmH), c + n = 2 ^ m → HI hdT shT h → rgI K m S most c h → cnI K m most F h → ∃ h', rgI K m S most (2 ^ m) h' ∧ cnI K m most F h' ∧ HI hdT shT h' ∧ fram (in_w iN_107) h h' ∧ ∀ r, Go pmT none cd_82 57 [some (.ref 13), some (.ref 1), some (.ref 41), some (.int (nI most)), some (.int 0), some (.int F), some (.int (nI (2 ^ m))), some (.int (nI (2 ^ m)))] [] h' r → Go pmT none cd_82 41 [some (.ref 13), some (.ref 1), some (.ref 41), some (.int (nI most)), some (.int 0), some (.int F), some (.int (nI c)), some (.int (nI c))] [] h r := by
  intro n
  have p6 := pw_6 m (by omega)
  induction n with
  | zero =>
    intro c h hc hI hx hn
    have hc : c = 2 ^ m := by omega
    subst hc
    refine ⟨h, hx, hn, hI, fram.rf _ _, fun r k => ?_⟩
    have c12 := hn.1
    have cN := hn.2.2.2.2.2.2
    generalize 2 ^ m = N at *
    clear hx hn
    obtain ⟨S, fi, fl, fr⟩ := h
    have hS : S = shT := hI.1
    subst hS
    have c12 : fr 13 12 = some 1 := c12
    have cN : fi 1 1 = nI N := cN
    refine go_of ?_
    by_cases h64 : N = 64
    · 
      refine gp_n 2 (j' := 43) (lv' := [some (.ref 13), some (.ref 1), some (.ref 41), some (.int (nI most)), some (.int 0), some (.int F), some (.int (nI N)), some (.int (nI N))]) (st' := [.int 64, .int (nI N)]) (h' := (shT, fi, fl, fr)) rfl ?_
      refine gp_of (fun _ k9 => g_ict rfl (show (64 : Int32) ≤ (nI N) from nI_le (a := 64) (by omega) (by omega)) k9) ?_
      exact gp_done k rfl
    · 
      refine gp_n 2 (j' := 43) (lv' := [some (.ref 13), some (.ref 1), some (.ref 41), some (.int (nI most)), some (.int 0), some (.int F), some (.int (nI N)), some (.int (nI N))]) (st' := [.int 64, .int (nI N)]) (h' := (shT, fi, fl, fr)) rfl ?_
      refine gp_of (fun _ k9 => g_icf rfl (show ¬ ((64 : Int32) ≤ (nI N)) from nI_ge (b := 64) (by omega) (by omega)) k9) ?_
      refine gp_n 2 (j' := 46) (lv' := [some (.ref 13), some (.ref 1), some (.ref 41), some (.int (nI most)), some (.int 0), some (.int F), some (.int (nI N)), some (.int (nI N))]) (st' := [.ref 13, .int (nI N)]) (h' := (shT, fi, fl, fr)) rfl ?_
      refine gp_of (fun _ k9 => g_getR (q' := 1) rfl rfl (by decide) c12 k9) ?_
      refine gp_of (fun _ k9 => g_getI (x := nI N) rfl (Or.inl rfl) rfl (by decide) (cN) k9) ?_
      refine gp_of (fun _ k9 => g_ict rfl (show (nI N) ≤ (nI N) from Int32.le_refl _) k9) ?_
      exact gp_done k rfl
  | succ n ih =>
    intro c h hc hI hx hn
    obtain ⟨h1, e1, x1, n1, I1, F1⟩ := rg_st hmo1 hmo (hF c (by omega)) hm (by omega) hS hI hx hn
    obtain ⟨h2, x2, n2, I2, F2, g0⟩ := ih (c + 1) h1 (by omega) I1 x1 n1
    refine ⟨h2, x2, n2, I2, fram.tr F1 F2, fun r k => ?_⟩
    have g := g0 r k
    clear g0
    have c12 := hn.1
    have cN := hn.2.2.2.2.2.2
    generalize 2 ^ m = N at *
    clear hx hn x1 n1 x2 n2 F1 F2 ih
    obtain ⟨S1, fi1, fl1, fr1⟩ := h1
    have s1 : S1 = shT := I1.1
    subst s1
    obtain ⟨S, fi, fl, fr⟩ := h
    have hS : S = shT := hI.1
    subst hS
    have c12 : fr 13 12 = some 1 := c12
    have cN : fi 1 1 = nI N := cN
    refine go_of ?_
    refine gp_n 2 (j' := 43) (lv' := [some (.ref 13), some (.ref 1), some (.ref 41), some (.int (nI most)), some (.int 0), some (.int F), some (.int (nI c)), some (.int (nI c))]) (st' := [.int 64, .int (nI c)]) (h' := (shT, fi, fl, fr)) rfl ?_
    refine gp_of (fun _ k9 => g_icf rfl (show ¬ ((64 : Int32) ≤ (nI c)) from nI_ge (b := 64) (by omega) (by omega)) k9) ?_
    refine gp_n 2 (j' := 46) (lv' := [some (.ref 13), some (.ref 1), some (.ref 41), some (.int (nI most)), some (.int 0), some (.int F), some (.int (nI c)), some (.int (nI c))]) (st' := [.ref 13, .int (nI c)]) (h' := (shT, fi, fl, fr)) rfl ?_
    refine gp_of (fun _ k9 => g_getR (q' := 1) rfl rfl (by decide) c12 k9) ?_
    refine gp_of (fun _ k9 => g_getI (x := nI N) rfl (Or.inl rfl) rfl (by decide) (cN) k9) ?_
    refine gp_of (fun _ k9 => g_icf rfl (show ¬ ((nI N) ≤ (nI c)) from nI_ge (by omega) (by omega)) k9) ?_
    refine gp_n 3 (j' := 52) (lv' := [some (.ref 13), some (.ref 1), some (.ref 41), some (.int (nI most)), some (.int 0), some (.int F), some (.int (nI c)), some (.int (nI c))]) (st' := [.int (nI c), .ref 13, .int (nI c)]) (h' := (shT, fi, fl, fr)) rfl ?_
    refine gp_of (fun _ k9 => g_call (y := 85) (as := [.ref 13, .int (nI c)]) (st' := [.int (nI c)]) rfl rfl (e1) k9) ?_
    refine gp_n 4 (j' := 41) (lv' := [some (.ref 13), some (.ref 1), some (.ref 41), some (.int (nI most)), some (.int 0), some (.int F), some (.int ((nI c) + 1)), some (.int ((nI c) + 1))]) (st' := []) (h' := (shT, fi1, fl1, fr1)) rfl ?_
    rw [nI_1]
    exact gp_done g rfl
theorem hd27 (s : Nat) : hd_at hdT shT 27 s = (9, 0, 0, []) := rfl
theorem HI_uf27 {fi : Nat → Nat → Int32} {fl : Nat → Nat → Int64} {fr : Nat → Nat → Option Nat} {g : Nat → Int32} (hI : HI hdT shT (shT, fi, fl, fr)) : HI hdT shT (shT, pm_uf fi 27 g, fl, fr) := by
  refine ⟨rfl, fun p s t n hp hs => ?_⟩
  by_cases e : p = 27
  · subst e
    rw [hd27]
    trivial
  · have := hI.2 p s t n hp hs
    have ei : ph_i (shT, pm_uf fi 27 g, fl, fr) p s = ph_i (shT, fi, fl, fr) p s := by
      show pm_uf fi 27 g p s = fi p s
      unfold pm_uf
      rw [if_neg e]
    unfold hd_ok at this ⊢
    rw [ei]
    exact this
def RD (h : PmH) : Prop := ∃ A, (A = 14 ∨ A = 18) ∧ ph_r h 13 0 = some A ∧ ph_r h 13 1 = some (32 - A)
/-- what a reading leaves -/
def roI (K : Int64) (m k c : Nat) (po : Int32) (S : Nat → Int32) (most : Nat) (h : PmH) : Prop := ∃ A, (A = 14 ∨ A = 18) ∧ rdI A (rdN K m S most (2 ^ m)) h ∧ (∀ i, i < 2 ^ m → chI K m S most (rdN K m S most i) i h) ∧ wkI K m S most (2 ^ m) h ∧ ph_i h 13 7 = nI (chN (fun p => decide (hdP K (2 ^ m) k c po ((rdN K m S most (2 ^ m)).2.1 p))) (rdN K m S most (2 ^ m)).1) ∧ ph_i h 13 8 = b01 (hoN (fun p => decide (hdP K (2 ^ m) k c po ((rdN K m S most (2 ^ m)).2.1 p))) (rdN K m S most (2 ^ m)).1)
theorem rgI_cg {K : Int64} {m most c : Nat} {S : Nat → Int32} {h h' : PmH} (e : ∀ p s, 14 ≤ p → p ≤ 29 → ph_i h' p s = ph_i h p s ∧ ph_l h' p s = ph_l h p s) (er : ∀ s, s < 7 → ph_r h' 13 s = ph_r h 13 s) (e4 : ∀ s, s < 7 → ph_i h' 13 s = ph_i h 13 s) (hx : rgI K m S most c h) : rgI K m S most c h' := by
  obtain ⟨x1, x2, x3⟩ := hx
  have tr : ∀ x c lo, RDs m S x c lo h → RDs m S x c lo h' := fun x c lo ⟨A, hA, a1, a2⟩ => ⟨A, hA, rdI_cg hA (fun p s z1 z2 => e p s z1 (by omega)) (er 0 (by decide)) (er 1 (by decide)) a1, rwI_cg hA (fun p s z1 z2 => (e p s z1 (by omega)).1) (fun s => (e 27 s (by decide) (by decide)).1) a2⟩
  refine ⟨?_, fun i hi => ?_, ⟨(e4 4 (by decide)).trans x3.1, (e4 5 (by decide)).trans x3.2.1, (e4 6 (by decide)).trans x3.2.2⟩⟩
  · rcases x1 with ⟨z1, z2⟩ | ⟨z1, z2⟩
    · exact Or.inl ⟨z1, tr _ _ _ z2⟩
    · exact Or.inr ⟨z1, tr _ _ _ z2⟩
  · obtain ⟨a1, a2, a3⟩ := x2 i hi
    exact ⟨fun r hr => ⟨(e 24 _ (by decide) (by decide)).1.trans (a1 r hr).1, (e 25 _ (by decide) (by decide)).1.trans (a1 r hr).2⟩, (e 23 _ (by decide) (by decide)).1.trans a2, (e 26 _ (by decide) (by decide)).1.trans a3⟩
theorem chs_14 {h : PmH} {m most k c : Nat} {K : Int64} {po F : Int32} {S : Nat → Int32} (hI : HI hdT shT h) (hm : m ≤ 6) (hmo1 : 1 ≤ most) (hmo : most ≤ 8) (hp : popc K = k + c) (hc8 : c ≤ 8) (hK : ∀ i, 2 ^ m ≤ i → i < 64 → bl K i = false) (hx : rdI 14 (rdN K m S most (2 ^ m)) h) (hn : cnI K m most F h) (c2 : ph_i h 1 2 = nI k) (c3 : ph_i h 1 3 = nI c) (c4 : ph_i h 1 4 = po) : ∃ h', Ev pmT 105 [.ref 13] h none h' ∧ ph_i h' 13 7 = nI (chN (fun p => decide (hdP K (2 ^ m) k c po ((rdN K m S most (2 ^ m)).2.1 p))) (rdN K m S most (2 ^ m)).1) ∧ ph_i h' 13 8 = b01 (hoN (fun p => decide (hdP K (2 ^ m) k c po ((rdN K m S most (2 ^ m)).2.1 p))) (rdN K m S most (2 ^ m)).1) ∧ HI hdT shT h' ∧ fram (in_w iN_112) h h' := by
  have kB : ph_r h 14 1 = some 15 := hi_r hI rfl rfl (by decide)
  have hP := rd_P (K := K) (m := m) (S := S) hmo1 (2 ^ m)
  have p6 := pw_6 m (by omega)
  have iv1 := fun h' e => iv_s (v := none) (h' := h') (as := [.ref 13]) vN_112 rfl (fun _ _ => gz_c (gz_r (by decide)) gz_n) hI e
  obtain ⟨k0, kn, cP, hM⟩ := hx
  obtain ⟨S, fi, fl, fr⟩ := h
  have hS : S = shT := hI.1
  subst hS
  have J1 : HI hdT shT (shT, pm_u2 fi 13 7 0, fl, fr) := HI_wi hI (fun _ => by decide)
  have J1 : HI hdT shT (shT, pm_u2 (pm_u2 fi 13 7 0) 13 8 0, fl, fr) := HI_wi J1 (fun _ => by decide)
  obtain ⟨f2, b1, b2, b3, b4⟩ := cho_14 (P := (rdN K m S most (2 ^ m)).1) (D := fun p => decide (hdP K (2 ^ m) k c po ((rdN K m S most (2 ^ m)).2.1 p))) (B := (rdN K m S most (2 ^ m)).2.1) (fi := pm_u2 (pm_u2 fi 13 7 0) 13 8 0) (fl := fl) (fr := fr) (by omega) k0 kB hn.1 cP (fun p hp => (hM p hp).1) ((wl_ne (by decide)).trans u2_eq) u2_eq (fun p hp2 => hd_C J1 p6.2 hp hc8 hK (fun j hj hb => rd_B (2 ^ m) p6.2 p j hj hb) hn.2.2.2.2.2.2 c2 c3 c4 hn.2.2.2.2.1) (rdN K m S most (2 ^ m)).1 0 (by omega) rfl
  have ev : Ev pmT 105 [.ref 13] (shT, fi, fl, fr) none (shT, f2, fl, fr) := by
    clear iv1 hM b1 b2 b3 hn
    refine Ev.of (es := cd_105) (ml := 2) (lv := [some (.ref 13), none]) rfl rfl rfl ?_
    refine go_of ?_
    refine gp_n 2 (j' := 2) (lv' := [some (.ref 13), none]) (st' := [.int 0, .ref 13]) (h' := (shT, fi, fl, fr)) rfl ?_
    refine gp_of (fun _ k9 => g_putI rfl (Or.inl rfl) rfl (by decide) k9) ?_
    refine gp_n 2 (j' := 5) (lv' := [some (.ref 13), none]) (st' := [.int 0, .ref 13]) (h' := (shT, pm_u2 fi 13 7 0, fl, fr)) rfl ?_
    refine gp_of (fun _ k9 => g_putI rfl (Or.inr ⟨rfl, by decide⟩) rfl (by decide) k9) ?_
    refine gp_n 2 (j' := 8) (lv' := [some (.ref 13), some (.int (nI 0))]) (st' := []) (h' := (shT, pm_u2 (pm_u2 fi 13 7 0) 13 8 0, fl, fr)) rfl ?_
    exact gp_done b4 rfl
  exact ⟨_, ev, b1, b2, iv1 _ ev⟩
theorem chs_18 {h : PmH} {m most k c : Nat} {K : Int64} {po F : Int32} {S : Nat → Int32} (hI : HI hdT shT h) (hm : m ≤ 6) (hmo1 : 1 ≤ most) (hmo : most ≤ 8) (hp : popc K = k + c) (hc8 : c ≤ 8) (hK : ∀ i, 2 ^ m ≤ i → i < 64 → bl K i = false) (hx : rdI 18 (rdN K m S most (2 ^ m)) h) (hn : cnI K m most F h) (c2 : ph_i h 1 2 = nI k) (c3 : ph_i h 1 3 = nI c) (c4 : ph_i h 1 4 = po) : ∃ h', Ev pmT 105 [.ref 13] h none h' ∧ ph_i h' 13 7 = nI (chN (fun p => decide (hdP K (2 ^ m) k c po ((rdN K m S most (2 ^ m)).2.1 p))) (rdN K m S most (2 ^ m)).1) ∧ ph_i h' 13 8 = b01 (hoN (fun p => decide (hdP K (2 ^ m) k c po ((rdN K m S most (2 ^ m)).2.1 p))) (rdN K m S most (2 ^ m)).1) ∧ HI hdT shT h' ∧ fram (in_w iN_112) h h' := by
  have kB : ph_r h 18 1 = some 19 := hi_r hI rfl rfl (by decide)
  have hP := rd_P (K := K) (m := m) (S := S) hmo1 (2 ^ m)
  have p6 := pw_6 m (by omega)
  have iv1 := fun h' e => iv_s (v := none) (h' := h') (as := [.ref 13]) vN_112 rfl (fun _ _ => gz_c (gz_r (by decide)) gz_n) hI e
  obtain ⟨k0, kn, cP, hM⟩ := hx
  obtain ⟨S, fi, fl, fr⟩ := h
  have hS : S = shT := hI.1
  subst hS
  have J1 : HI hdT shT (shT, pm_u2 fi 13 7 0, fl, fr) := HI_wi hI (fun _ => by decide)
  have J1 : HI hdT shT (shT, pm_u2 (pm_u2 fi 13 7 0) 13 8 0, fl, fr) := HI_wi J1 (fun _ => by decide)
  obtain ⟨f2, b1, b2, b3, b4⟩ := cho_18 (P := (rdN K m S most (2 ^ m)).1) (D := fun p => decide (hdP K (2 ^ m) k c po ((rdN K m S most (2 ^ m)).2.1 p))) (B := (rdN K m S most (2 ^ m)).2.1) (fi := pm_u2 (pm_u2 fi 13 7 0) 13 8 0) (fl := fl) (fr := fr) (by omega) k0 kB hn.1 cP (fun p hp => (hM p hp).1) ((wl_ne (by decide)).trans u2_eq) u2_eq (fun p hp2 => hd_C J1 p6.2 hp hc8 hK (fun j hj hb => rd_B (2 ^ m) p6.2 p j hj hb) hn.2.2.2.2.2.2 c2 c3 c4 hn.2.2.2.2.1) (rdN K m S most (2 ^ m)).1 0 (by omega) rfl
  have ev : Ev pmT 105 [.ref 13] (shT, fi, fl, fr) none (shT, f2, fl, fr) := by
    clear iv1 hM b1 b2 b3 hn
    refine Ev.of (es := cd_105) (ml := 2) (lv := [some (.ref 13), none]) rfl rfl rfl ?_
    refine go_of ?_
    refine gp_n 2 (j' := 2) (lv' := [some (.ref 13), none]) (st' := [.int 0, .ref 13]) (h' := (shT, fi, fl, fr)) rfl ?_
    refine gp_of (fun _ k9 => g_putI rfl (Or.inl rfl) rfl (by decide) k9) ?_
    refine gp_n 2 (j' := 5) (lv' := [some (.ref 13), none]) (st' := [.int 0, .ref 13]) (h' := (shT, pm_u2 fi 13 7 0, fl, fr)) rfl ?_
    refine gp_of (fun _ k9 => g_putI rfl (Or.inr ⟨rfl, by decide⟩) rfl (by decide) k9) ?_
    refine gp_n 2 (j' := 8) (lv' := [some (.ref 13), some (.int (nI 0))]) (st' := []) (h' := (shT, pm_u2 (pm_u2 fi 13 7 0) 13 8 0, fl, fr)) rfl ?_
    exact gp_done b4 rfl
  exact ⟨_, ev, b1, b2, iv1 _ ev⟩
theorem chs {h : PmH} {m most k c : Nat} {K : Int64} {po F : Int32} {S : Nat → Int32} (hI : HI hdT shT h) (hm : m ≤ 6) (hmo1 : 1 ≤ most) (hmo : most ≤ 8) (hp : popc K = k + c) (hc8 : c ≤ 8) (hK : ∀ i, 2 ^ m ≤ i → i < 64 → bl K i = false) (hx : rgI K m S most (2 ^ m) h) (hn : cnI K m most F h) (c2 : ph_i h 1 2 = nI k) (c3 : ph_i h 1 3 = nI c) (c4 : ph_i h 1 4 = po) : ∃ h', Ev pmT 105 [.ref 13] h none h' ∧ roI K m k c po S most h' ∧ HI hdT shT h' ∧ fram (in_w iN_112) h h' := by
  have p6 := pw_6 m (by omega)
  have e7 : ∀ s, s < 7 → inW (in_w iN_112) 13 s = false := by decide
  have key : ∀ h', fram (in_w iN_112) h h' → rgI K m S most (2 ^ m) h' := fun h' hf => rgI_cg (fun p s z1 z2 => by
      have : inW (in_w iN_112) p s = false := inW_all (f := fun q => decide (q.1 = 13)) (by decide) (fun c hc => decide_eq_false (show ¬ p = 13 by omega))
      exact ⟨(hf p s this).1, (hf p s this).2.1⟩) (fun s hs => (hf 13 s (e7 s hs)).2.2) (fun s hs => (hf 13 s (e7 s hs)).1) hx
  rcases hx.1 with ⟨z1, -⟩ | ⟨-, A, hA, a1, a2⟩
  · omega
  · obtain ⟨h', e1, b1, b2, I1, F1⟩ : ∃ h', Ev pmT 105 [.ref 13] h none h' ∧ ph_i h' 13 7 = nI (chN (fun p => decide (hdP K (2 ^ m) k c po ((rdN K m S most (2 ^ m)).2.1 p))) (rdN K m S most (2 ^ m)).1) ∧ ph_i h' 13 8 = b01 (hoN (fun p => decide (hdP K (2 ^ m) k c po ((rdN K m S most (2 ^ m)).2.1 p))) (rdN K m S most (2 ^ m)).1) ∧ HI hdT shT h' ∧ fram (in_w iN_112) h h' := by
      rcases hA with rfl | rfl
      · exact chs_14 hI hm hmo1 hmo hp hc8 hK a1 hn c2 c3 c4
      · exact chs_18 hI hm hmo1 hmo hp hc8 hK a1 hn c2 c3 c4
    obtain ⟨x1, x2, x3⟩ := key h' F1
    refine ⟨h', e1, ?_, I1, F1⟩
    rcases x1 with ⟨z1, -⟩ | ⟨-, A', hA', a1', -⟩
    · omega
    · exact ⟨A', hA', a1', x2, x3, b1, b2⟩
theorem ru_ev_2_14 {h : PmH} {m most k c : Nat} {K : Int64} {po F : Int32} {S : Nat → Int32} (hI : HI hdT shT h) (k0 : ph_r h 13 0 = some 14) (kn : ph_r h 13 1 = some (32 - 14)) (hm : m ≤ 6) (hmo1 : 1 ≤ most) (hmo : most ≤ 8) (hF : ∀ c, c < 64 → ¬ nI c = F) (hp : popc K = k + c) (hc8 : c ≤ 8) (hK : ∀ i, 2 ^ m ≤ i → i < 64 → bl K i = false) (hH : ∀ s, s < 2 ^ m → ph_i h 2 s = S s) (hS : ∀ s, s < 64 → -127 ≤ (S s).toInt ∧ (S s).toInt ≤ 127) (c0 : ph_i h 1 0 = nI m) (c1 : ph_i h 1 1 = nI (2 ^ m)) (c2 : ph_i h 1 2 = nI k) (c3 : ph_i h 1 3 = nI c) (c4 : ph_i h 1 4 = po) (c7 : ph_l h 1 7 = K) : ∃ h', Ev pmT 82 [.ref 13, .ref 1, .ref 2, .int (nI most), .int 0, .int F] h none h' ∧ roI K m k c po S most h' ∧ HI hdT shT h' ∧ fram (in_w iN_113) h h' := by
  have k1 : ph_r h 14 1 = some 15 := hi_r hI rfl rfl (by decide)
  have k2 : ph_r h 14 2 = some 16 := hi_r hI rfl rfl (by decide)
  have k3 : ph_r h 14 3 = some 17 := hi_r hI rfl rfl (by decide)
  have kS : ph_r h 13 9 = some 27 := hi_r hI rfl rfl (by decide)
  have p6 := pw_6 m (by omega)
  have iv1 := fun h' e => iv_s (v := none) (h' := h') (as := [.ref 13, .ref 1, .ref 2, .int (nI most), .int 0, .int F]) vN_113 rfl (fun _ _ => gz_c (gz_r (by decide)) (gz_c (gz_r (by decide)) (gz_c (gz_r (by decide)) (gz_c (gz_i (by rw [nI_toInt (by omega)]; omega) (by rw [nI_toInt (by omega)]; omega)) (gz_c (gz_i (by decide) (by decide)) (gz_c (gz_a _) gz_n)))))) hI e
  obtain ⟨S, fi, fl, fr⟩ := h
  have hS : S = shT := hI.1
  subst hS
  have k0 : fr 13 0 = some 14 := k0
  have kn : fr 13 1 = some 18 := kn
  have kS : fr 13 9 = some 27 := kS
  have c0 : fi 1 0 = nI m := c0
  have c1 : fi 1 1 = nI (2 ^ m) := c1
  have J : HI hdT shT (shT, fi, fl, pm_u2 fr 13 12 (some 1)) := HI_wr hI (fun _ => by decide)
  have J : HI hdT shT (shT, pm_u2 fi 13 13 (nI most), fl, pm_u2 fr 13 12 (some 1)) := HI_wi J (fun _ => by rw [nI_toInt (by omega)]; exact ⟨show (0 : Int) ≤ (most : Int) by omega, show (most : Int) ≤ 8 by omega⟩)
  have J : HI hdT shT (shT, pm_u2 (pm_u2 fi 13 13 (nI most)) 13 14 0, fl, pm_u2 fr 13 12 (some 1)) := HI_wi J (fun _ => by decide)
  have J : HI hdT shT (shT, pm_u2 (pm_u2 (pm_u2 fi 13 13 (nI most)) 13 14 0) 13 15 F, fl, pm_u2 fr 13 12 (some 1)) := HI_wi J (fun z => absurd z (by decide))
  have J : HI hdT shT (shT, pm_u2 (pm_u2 (pm_u2 (pm_u2 fi 13 13 (nI most)) 13 14 0) 13 15 F) 13 4 0, fl, pm_u2 fr 13 12 (some 1)) := HI_wi J (fun z => absurd z (by decide))
  have J : HI hdT shT (shT, pm_u2 (pm_u2 (pm_u2 (pm_u2 (pm_u2 fi 13 13 (nI most)) 13 14 0) 13 15 F) 13 4 0) 13 5 0, fl, pm_u2 fr 13 12 (some 1)) := HI_wi J (fun z => absurd z (by decide))
  have J : HI hdT shT (shT, pm_u2 (pm_u2 (pm_u2 (pm_u2 (pm_u2 (pm_u2 fi 13 13 (nI most)) 13 14 0) 13 15 F) 13 4 0) 13 5 0) 13 6 0, fl, pm_u2 fr 13 12 (some 1)) := HI_wi J (fun z => absurd z (by decide))
  have w6 : pm_u2 (pm_u2 (pm_u2 (pm_u2 (pm_u2 (pm_u2 fi 13 13 (nI most)) 13 14 0) 13 15 F) 13 4 0) 13 5 0) 13 6 0 13 6 = 0 := rfl
  have w5 : pm_u2 (pm_u2 (pm_u2 (pm_u2 (pm_u2 (pm_u2 fi 13 13 (nI most)) 13 14 0) 13 15 F) 13 4 0) 13 5 0) 13 6 0 13 5 = 0 := rfl
  have w4 : pm_u2 (pm_u2 (pm_u2 (pm_u2 (pm_u2 (pm_u2 fi 13 13 (nI most)) 13 14 0) 13 15 F) 13 4 0) 13 5 0) 13 6 0 13 4 = 0 := rfl
  have w15 : pm_u2 (pm_u2 (pm_u2 (pm_u2 (pm_u2 (pm_u2 fi 13 13 (nI most)) 13 14 0) 13 15 F) 13 4 0) 13 5 0) 13 6 0 13 15 = F := rfl
  have w14 : pm_u2 (pm_u2 (pm_u2 (pm_u2 (pm_u2 (pm_u2 fi 13 13 (nI most)) 13 14 0) 13 15 F) 13 4 0) 13 5 0) 13 6 0 13 14 = 0 := rfl
  have w13 : pm_u2 (pm_u2 (pm_u2 (pm_u2 (pm_u2 (pm_u2 fi 13 13 (nI most)) 13 14 0) 13 15 F) 13 4 0) 13 5 0) 13 6 0 13 13 = nI most := rfl
  have wO : ∀ p s, ¬ p = 13 → pm_u2 (pm_u2 (pm_u2 (pm_u2 (pm_u2 (pm_u2 fi 13 13 (nI most)) 13 14 0) 13 15 F) 13 4 0) 13 5 0) 13 6 0 p s = fi p s := fun p s z => (wl_ne (by omega)).trans ((wl_ne (by omega)).trans ((wl_ne (by omega)).trans ((wl_ne (by omega)).trans ((wl_ne (by omega)).trans (wl_ne (by omega))))))
  generalize hF1 : pm_u2 (pm_u2 (pm_u2 (pm_u2 (pm_u2 (pm_u2 fi 13 13 (nI most)) 13 14 0) 13 15 F) 13 4 0) 13 5 0) 13 6 0 = f1 at *
  obtain ⟨f2, a1, a2, a3, a4, a5⟩ := af_ev_14 (fi := f1) (fl := fl) (fr := pm_u2 fr 13 12 (some 1)) k1 k2 k3
  have J2 := (iv_s (v := none) (as := [.ref 14]) vN_53 rfl (fun _ _ => gz_c (gz_r (by decide)) gz_n) J a5).1
  have ow := ow_ev (l := m) (p := 0) (h := (shT, f2, pm_u2 fl 15 0 0, pm_u2 fr 13 12 (some 1))) (by omega) (by decide)
  have tp := ixS_top (l := m) (r := 0) hm (by decide)
  have J3 := HI_uf27 (g := va_cpy (f2 2) (f2 27) 0 (ixS m 0) (2 ^ m)) J2
  have wQ : ∀ p s, ¬ p = 13 → ¬ p = 14 → ¬ p = 16 → ¬ p = 17 → f2 p s = fi p s := fun p s z1 z2 z3 z4 => (a4 p s z2 z3 z4).trans (wO p s z1)
  have wP : ∀ p s, ¬ p = 27 → pm_uf f2 27 (va_cpy (f2 2) (f2 27) 0 (ixS m 0) (2 ^ m)) p s = f2 p s := fun p s z => by
    unfold pm_uf
    rw [if_neg z]
  have w27 : ∀ j, j < 2 ^ m → pm_uf f2 27 (va_cpy (f2 2) (f2 27) 0 (ixS m 0) (2 ^ m)) 27 (ixS m 0 + j) = S j := fun j hj => by
    unfold pm_uf va_cpy
    rw [if_pos rfl, if_pos (by omega), show 0 + (ixS m 0 + j - ixS m 0) = j by omega]
    exact (wQ _ _ (by decide) (by decide) (by decide) (by decide)).trans (hH j hj)
  generalize hF3 : pm_uf f2 27 (va_cpy (f2 2) (f2 27) 0 (ixS m 0) (2 ^ m)) = f3 at *
  have a4' : ∀ s, f2 13 s = f1 13 s := fun s => a4 13 s (by decide) (by decide) (by decide)
  have hx : rgI K m S most 0 (shT, f3, pm_u2 fl 15 0 0, pm_u2 fr 13 12 (some 1)) := by
    refine ⟨Or.inl ⟨rfl, 14, by decide, ⟨k0, kn, (wP _ _ (by decide)).trans a1, fun p hp => ?_⟩, fun l l1 l2 p hp => ?_⟩, fun i hi => absurd hi (Nat.not_lt_zero i), ⟨(wP _ _ (by decide)).trans ((a4' 4).trans w4), (wP _ _ (by decide)).trans ((a4' 5).trans w5), (wP _ _ (by decide)).trans ((a4' 6).trans w6)⟩⟩
    · have hp : p < 1 := hp
      have hp : p = 0 := by omega
      subst hp
      exact ⟨show pm_u2 fl 15 0 0 15 0 = 0 from u2_eq, (wP _ _ (by decide)).trans a2⟩
    · have hp : p < 1 := hp
      have hp : p = 0 := by omega
      subst hp
      have hl : l = m := by omega
      subst hl
      refine ⟨0, by decide, (wP _ _ (by decide)).trans (a3 l (by omega)), fun j hj => ?_⟩
      rw [ndL_m]
      exact w27 j hj
  have hn : cnI K m most F (shT, f3, pm_u2 fl 15 0 0, pm_u2 fr 13 12 (some 1)) := ⟨show pm_u2 fr 13 12 (some 1) 13 12 = some 1 from u2_eq, (wP _ _ (by decide)).trans ((a4' 13).trans w13), (wP _ _ (by decide)).trans ((a4' 14).trans w14), (wP _ _ (by decide)).trans ((a4' 15).trans w15), c7, (wP _ _ (by decide)).trans ((wQ _ _ (by decide) (by decide) (by decide) (by decide)).trans c0), (wP _ _ (by decide)).trans ((wQ _ _ (by decide) (by decide) (by decide) (by decide)).trans c1)⟩
  have d1 : ∀ s, f3 1 s = fi 1 s := fun s => (wP _ _ (by decide)).trans (wQ _ _ (by decide) (by decide) (by decide) (by decide))
  obtain ⟨h4, x4, n4, I4, F4, g⟩ := ru_go_2 hmo1 hmo hF hm hS (2 ^ m) 0 _ (by omega) J3 hx hn
  have e4 : ∀ s, ph_i h4 1 s = fi 1 s := fun s => ((F4 1 s rfl).1).trans (d1 s)
  obtain ⟨h5, e5, x5, I5, F5⟩ := chs I4 hm hmo1 hmo hp hc8 hK x4 n4 ((e4 2).trans c2) ((e4 3).trans c3) ((e4 4).trans c4)
  have ev : Ev pmT 82 [.ref 13, .ref 1, .ref 2, .int (nI most), .int 0, .int F] (shT, fi, fl, fr) none h5 := by
    have g := g (none, h5)
    have c0f : f2 1 0 = nI m := (wQ _ _ (by decide) (by decide) (by decide) (by decide)).trans c0
    have c1f : f2 1 1 = nI (2 ^ m) := (wQ _ _ (by decide) (by decide) (by decide) (by decide)).trans c1
    have t64 : 2 ^ m ≤ 64 := p6.2
    clear x5 F5 x4 n4 F4 e4 hx hn w27 wQ wO a1 a2 a3 a4 iv1 J J2 J3 d1 a4' w4 w5 w6 w13 w14 w15 p6 wP hH
    generalize ixS m 0 = ix at *
    generalize 2 ^ m = N at *
    subst hF3
    subst hF1
    obtain ⟨S4, fi4, fl4, fr4⟩ := h4
    have s4 : S4 = shT := I4.1
    subst s4
    obtain ⟨S5, fi5, fl5, fr5⟩ := h5
    have s5 : S5 = shT := I5.1
    subst s5
    have g := g (by
      refine go_of ?_
      refine gp_n 1 (j' := 58) (lv' := [some (.ref 13), some (.ref 1), some (.ref 2), some (.int (nI most)), some (.int 0), some (.int F), some (.int (nI N)), some (.int (nI N))]) (st' := [.ref 13]) (h' := (shT, fi4, fl4, fr4)) rfl ?_
      refine gp_of (fun _ k9 => g_callv (y := 105) (as := [.ref 13]) (st' := []) rfl rfl (e5) k9) ?_
      refine gp_done (g_vret rfl) ?_
      rfl)
    refine Ev.of (es := cd_82) (ml := 8) (lv := [some (.ref 13), some (.ref 1), some (.ref 2), some (.int (nI most)), some (.int 0), some (.int F), none, none]) rfl rfl rfl ?_
    refine go_of ?_
    refine gp_n 2 (j' := 2) (lv' := [some (.ref 13), some (.ref 1), some (.ref 2), some (.int (nI most)), some (.int 0), some (.int F), none, none]) (st' := [.ref 1, .ref 13]) (h' := (shT, fi, fl, fr)) rfl ?_
    refine gp_of (fun _ k9 => g_putR rfl rfl (by decide) k9) ?_
    refine gp_n 2 (j' := 5) (lv' := [some (.ref 13), some (.ref 1), some (.ref 2), some (.int (nI most)), some (.int 0), some (.int F), none, none]) (st' := [.int (nI most), .ref 13]) (h' := (shT, fi, fl, pm_u2 fr 13 12 (some 1))) rfl ?_
    refine gp_of (fun _ k9 => g_putI rfl (Or.inl rfl) rfl (by decide) k9) ?_
    refine gp_n 2 (j' := 8) (lv' := [some (.ref 13), some (.ref 1), some (.ref 2), some (.int (nI most)), some (.int 0), some (.int F), none, none]) (st' := [.int 0, .ref 13]) (h' := (shT, pm_u2 fi 13 13 (nI most), fl, pm_u2 fr 13 12 (some 1))) rfl ?_
    refine gp_of (fun _ k9 => g_putI rfl (Or.inr ⟨rfl, by decide⟩) rfl (by decide) k9) ?_
    refine gp_n 2 (j' := 11) (lv' := [some (.ref 13), some (.ref 1), some (.ref 2), some (.int (nI most)), some (.int 0), some (.int F), none, none]) (st' := [.int F, .ref 13]) (h' := (shT, pm_u2 (pm_u2 fi 13 13 (nI most)) 13 14 0, fl, pm_u2 fr 13 12 (some 1))) rfl ?_
    refine gp_of (fun _ k9 => g_putI rfl (Or.inl rfl) rfl (by decide) k9) ?_
    refine gp_n 2 (j' := 14) (lv' := [some (.ref 13), some (.ref 1), some (.ref 2), some (.int (nI most)), some (.int 0), some (.int F), none, none]) (st' := [.int 0, .ref 13]) (h' := (shT, pm_u2 (pm_u2 (pm_u2 fi 13 13 (nI most)) 13 14 0) 13 15 F, fl, pm_u2 fr 13 12 (some 1))) rfl ?_
    refine gp_of (fun _ k9 => g_putI rfl (Or.inl rfl) rfl (by decide) k9) ?_
    refine gp_n 2 (j' := 17) (lv' := [some (.ref 13), some (.ref 1), some (.ref 2), some (.int (nI most)), some (.int 0), some (.int F), none, none]) (st' := [.int 0, .ref 13]) (h' := (shT, pm_u2 (pm_u2 (pm_u2 (pm_u2 fi 13 13 (nI most)) 13 14 0) 13 15 F) 13 4 0, fl, pm_u2 fr 13 12 (some 1))) rfl ?_
    refine gp_of (fun _ k9 => g_putI rfl (Or.inl rfl) rfl (by decide) k9) ?_
    refine gp_n 2 (j' := 20) (lv' := [some (.ref 13), some (.ref 1), some (.ref 2), some (.int (nI most)), some (.int 0), some (.int F), none, none]) (st' := [.int 0, .ref 13]) (h' := (shT, pm_u2 (pm_u2 (pm_u2 (pm_u2 (pm_u2 fi 13 13 (nI most)) 13 14 0) 13 15 F) 13 4 0) 13 5 0, fl, pm_u2 fr 13 12 (some 1))) rfl ?_
    refine gp_of (fun _ k9 => g_putI rfl (Or.inl rfl) rfl (by decide) k9) ?_
    refine gp_n 1 (j' := 22) (lv' := [some (.ref 13), some (.ref 1), some (.ref 2), some (.int (nI most)), some (.int 0), some (.int F), none, none]) (st' := [.ref 13]) (h' := (shT, pm_u2 (pm_u2 (pm_u2 (pm_u2 (pm_u2 (pm_u2 fi 13 13 (nI most)) 13 14 0) 13 15 F) 13 4 0) 13 5 0) 13 6 0, fl, pm_u2 fr 13 12 (some 1))) rfl ?_
    refine gp_of (fun _ k9 => g_getR (q' := 14) rfl rfl (by decide) k0 k9) ?_
    refine gp_of (fun _ k9 => g_callv (y := 83) (as := [.ref 14]) (st' := []) rfl rfl (a5) k9) ?_
    refine gp_n 3 (j' := 27) (lv' := [some (.ref 13), some (.ref 1), some (.ref 2), some (.int (nI most)), some (.int 0), some (.int F), none, none]) (st' := [.ref 13, .int 0, .ref 2]) (h' := (shT, f2, (pm_u2 fl 15 0 0), (pm_u2 fr 13 12 (some 1)))) rfl ?_
    refine gp_of (fun _ k9 => g_getR (q' := 27) rfl rfl (by decide) kS k9) ?_
    refine gp_n 1 (j' := 29) (lv' := [some (.ref 13), some (.ref 1), some (.ref 2), some (.int (nI most)), some (.int 0), some (.int F), none, none]) (st' := [.ref 13, .ref 27, .int 0, .ref 2]) (h' := (shT, f2, (pm_u2 fl 15 0 0), (pm_u2 fr 13 12 (some 1)))) rfl ?_
    refine gp_of (fun _ k9 => g_getR (q' := 1) rfl rfl (by decide) rfl k9) ?_
    refine gp_of (fun _ k9 => g_getI (x := nI m) rfl (Or.inl rfl) rfl (by decide) (c0f) k9) ?_
    refine gp_n 1 (j' := 32) (lv' := [some (.ref 13), some (.ref 1), some (.ref 2), some (.int (nI most)), some (.int 0), some (.int F), none, none]) (st' := [.int 0, .int (nI m), .ref 27, .int 0, .ref 2]) (h' := (shT, f2, (pm_u2 fl 15 0 0), (pm_u2 fr 13 12 (some 1)))) rfl ?_
    refine gp_of (fun _ k9 => g_call (y := 84) (as := [.int (nI m), .int 0]) (st' := [.ref 27, .int 0, .ref 2]) rfl rfl (ow) k9) ?_
    refine gp_n 1 (j' := 34) (lv' := [some (.ref 13), some (.ref 1), some (.ref 2), some (.int (nI most)), some (.int 0), some (.int F), none, none]) (st' := [.ref 13, .int (nI ix), .ref 27, .int 0, .ref 2]) (h' := (shT, f2, (pm_u2 fl 15 0 0), (pm_u2 fr 13 12 (some 1)))) rfl ?_
    refine gp_of (fun _ k9 => g_getR (q' := 1) rfl rfl (by decide) rfl k9) ?_
    refine gp_of (fun _ k9 => g_getI (x := nI N) rfl (Or.inl rfl) rfl (by decide) (c1f) k9) ?_
    refine gp_of (fun _ k9 => g_cpyN (n0 := 64) (n1 := 1016) rfl rfl rfl (by omega) (by omega) (by decide) (by decide) k9) ?_
    refine gp_n 4 (j' := 41) (lv' := [some (.ref 13), some (.ref 1), some (.ref 2), some (.int (nI most)), some (.int 0), some (.int F), some (.int (nI 0)), some (.int (nI 0))]) (st' := []) (h' := (shT, (pm_uf f2 27 (va_cpy (f2 2) (f2 27) 0 ix N)), (pm_u2 fl 15 0 0), (pm_u2 fr 13 12 (some 1)))) rfl ?_
    exact gp_done g rfl
  exact ⟨h5, ev, x5, iv1 _ ev⟩
theorem ru_ev_2_18 {h : PmH} {m most k c : Nat} {K : Int64} {po F : Int32} {S : Nat → Int32} (hI : HI hdT shT h) (k0 : ph_r h 13 0 = some 18) (kn : ph_r h 13 1 = some (32 - 18)) (hm : m ≤ 6) (hmo1 : 1 ≤ most) (hmo : most ≤ 8) (hF : ∀ c, c < 64 → ¬ nI c = F) (hp : popc K = k + c) (hc8 : c ≤ 8) (hK : ∀ i, 2 ^ m ≤ i → i < 64 → bl K i = false) (hH : ∀ s, s < 2 ^ m → ph_i h 2 s = S s) (hS : ∀ s, s < 64 → -127 ≤ (S s).toInt ∧ (S s).toInt ≤ 127) (c0 : ph_i h 1 0 = nI m) (c1 : ph_i h 1 1 = nI (2 ^ m)) (c2 : ph_i h 1 2 = nI k) (c3 : ph_i h 1 3 = nI c) (c4 : ph_i h 1 4 = po) (c7 : ph_l h 1 7 = K) : ∃ h', Ev pmT 82 [.ref 13, .ref 1, .ref 2, .int (nI most), .int 0, .int F] h none h' ∧ roI K m k c po S most h' ∧ HI hdT shT h' ∧ fram (in_w iN_113) h h' := by
  have k1 : ph_r h 18 1 = some 19 := hi_r hI rfl rfl (by decide)
  have k2 : ph_r h 18 2 = some 20 := hi_r hI rfl rfl (by decide)
  have k3 : ph_r h 18 3 = some 21 := hi_r hI rfl rfl (by decide)
  have kS : ph_r h 13 9 = some 27 := hi_r hI rfl rfl (by decide)
  have p6 := pw_6 m (by omega)
  have iv1 := fun h' e => iv_s (v := none) (h' := h') (as := [.ref 13, .ref 1, .ref 2, .int (nI most), .int 0, .int F]) vN_113 rfl (fun _ _ => gz_c (gz_r (by decide)) (gz_c (gz_r (by decide)) (gz_c (gz_r (by decide)) (gz_c (gz_i (by rw [nI_toInt (by omega)]; omega) (by rw [nI_toInt (by omega)]; omega)) (gz_c (gz_i (by decide) (by decide)) (gz_c (gz_a _) gz_n)))))) hI e
  obtain ⟨S, fi, fl, fr⟩ := h
  have hS : S = shT := hI.1
  subst hS
  have k0 : fr 13 0 = some 18 := k0
  have kn : fr 13 1 = some 14 := kn
  have kS : fr 13 9 = some 27 := kS
  have c0 : fi 1 0 = nI m := c0
  have c1 : fi 1 1 = nI (2 ^ m) := c1
  have J : HI hdT shT (shT, fi, fl, pm_u2 fr 13 12 (some 1)) := HI_wr hI (fun _ => by decide)
  have J : HI hdT shT (shT, pm_u2 fi 13 13 (nI most), fl, pm_u2 fr 13 12 (some 1)) := HI_wi J (fun _ => by rw [nI_toInt (by omega)]; exact ⟨show (0 : Int) ≤ (most : Int) by omega, show (most : Int) ≤ 8 by omega⟩)
  have J : HI hdT shT (shT, pm_u2 (pm_u2 fi 13 13 (nI most)) 13 14 0, fl, pm_u2 fr 13 12 (some 1)) := HI_wi J (fun _ => by decide)
  have J : HI hdT shT (shT, pm_u2 (pm_u2 (pm_u2 fi 13 13 (nI most)) 13 14 0) 13 15 F, fl, pm_u2 fr 13 12 (some 1)) := HI_wi J (fun z => absurd z (by decide))
  have J : HI hdT shT (shT, pm_u2 (pm_u2 (pm_u2 (pm_u2 fi 13 13 (nI most)) 13 14 0) 13 15 F) 13 4 0, fl, pm_u2 fr 13 12 (some 1)) := HI_wi J (fun z => absurd z (by decide))
  have J : HI hdT shT (shT, pm_u2 (pm_u2 (pm_u2 (pm_u2 (pm_u2 fi 13 13 (nI most)) 13 14 0) 13 15 F) 13 4 0) 13 5 0, fl, pm_u2 fr 13 12 (some 1)) := HI_wi J (fun z => absurd z (by decide))
  have J : HI hdT shT (shT, pm_u2 (pm_u2 (pm_u2 (pm_u2 (pm_u2 (pm_u2 fi 13 13 (nI most)) 13 14 0) 13 15 F) 13 4 0) 13 5 0) 13 6 0, fl, pm_u2 fr 13 12 (some 1)) := HI_wi J (fun z => absurd z (by decide))
  have w6 : pm_u2 (pm_u2 (pm_u2 (pm_u2 (pm_u2 (pm_u2 fi 13 13 (nI most)) 13 14 0) 13 15 F) 13 4 0) 13 5 0) 13 6 0 13 6 = 0 := rfl
  have w5 : pm_u2 (pm_u2 (pm_u2 (pm_u2 (pm_u2 (pm_u2 fi 13 13 (nI most)) 13 14 0) 13 15 F) 13 4 0) 13 5 0) 13 6 0 13 5 = 0 := rfl
  have w4 : pm_u2 (pm_u2 (pm_u2 (pm_u2 (pm_u2 (pm_u2 fi 13 13 (nI most)) 13 14 0) 13 15 F) 13 4 0) 13 5 0) 13 6 0 13 4 = 0 := rfl
  have w15 : pm_u2 (pm_u2 (pm_u2 (pm_u2 (pm_u2 (pm_u2 fi 13 13 (nI most)) 13 14 0) 13 15 F) 13 4 0) 13 5 0) 13 6 0 13 15 = F := rfl
  have w14 : pm_u2 (pm_u2 (pm_u2 (pm_u2 (pm_u2 (pm_u2 fi 13 13 (nI most)) 13 14 0) 13 15 F) 13 4 0) 13 5 0) 13 6 0 13 14 = 0 := rfl
  have w13 : pm_u2 (pm_u2 (pm_u2 (pm_u2 (pm_u2 (pm_u2 fi 13 13 (nI most)) 13 14 0) 13 15 F) 13 4 0) 13 5 0) 13 6 0 13 13 = nI most := rfl
  have wO : ∀ p s, ¬ p = 13 → pm_u2 (pm_u2 (pm_u2 (pm_u2 (pm_u2 (pm_u2 fi 13 13 (nI most)) 13 14 0) 13 15 F) 13 4 0) 13 5 0) 13 6 0 p s = fi p s := fun p s z => (wl_ne (by omega)).trans ((wl_ne (by omega)).trans ((wl_ne (by omega)).trans ((wl_ne (by omega)).trans ((wl_ne (by omega)).trans (wl_ne (by omega))))))
  generalize hF1 : pm_u2 (pm_u2 (pm_u2 (pm_u2 (pm_u2 (pm_u2 fi 13 13 (nI most)) 13 14 0) 13 15 F) 13 4 0) 13 5 0) 13 6 0 = f1 at *
  obtain ⟨f2, a1, a2, a3, a4, a5⟩ := af_ev_18 (fi := f1) (fl := fl) (fr := pm_u2 fr 13 12 (some 1)) k1 k2 k3
  have J2 := (iv_s (v := none) (as := [.ref 18]) vN_53 rfl (fun _ _ => gz_c (gz_r (by decide)) gz_n) J a5).1
  have ow := ow_ev (l := m) (p := 0) (h := (shT, f2, pm_u2 fl 19 0 0, pm_u2 fr 13 12 (some 1))) (by omega) (by decide)
  have tp := ixS_top (l := m) (r := 0) hm (by decide)
  have J3 := HI_uf27 (g := va_cpy (f2 2) (f2 27) 0 (ixS m 0) (2 ^ m)) J2
  have wQ : ∀ p s, ¬ p = 13 → ¬ p = 18 → ¬ p = 20 → ¬ p = 21 → f2 p s = fi p s := fun p s z1 z2 z3 z4 => (a4 p s z2 z3 z4).trans (wO p s z1)
  have wP : ∀ p s, ¬ p = 27 → pm_uf f2 27 (va_cpy (f2 2) (f2 27) 0 (ixS m 0) (2 ^ m)) p s = f2 p s := fun p s z => by
    unfold pm_uf
    rw [if_neg z]
  have w27 : ∀ j, j < 2 ^ m → pm_uf f2 27 (va_cpy (f2 2) (f2 27) 0 (ixS m 0) (2 ^ m)) 27 (ixS m 0 + j) = S j := fun j hj => by
    unfold pm_uf va_cpy
    rw [if_pos rfl, if_pos (by omega), show 0 + (ixS m 0 + j - ixS m 0) = j by omega]
    exact (wQ _ _ (by decide) (by decide) (by decide) (by decide)).trans (hH j hj)
  generalize hF3 : pm_uf f2 27 (va_cpy (f2 2) (f2 27) 0 (ixS m 0) (2 ^ m)) = f3 at *
  have a4' : ∀ s, f2 13 s = f1 13 s := fun s => a4 13 s (by decide) (by decide) (by decide)
  have hx : rgI K m S most 0 (shT, f3, pm_u2 fl 19 0 0, pm_u2 fr 13 12 (some 1)) := by
    refine ⟨Or.inl ⟨rfl, 18, by decide, ⟨k0, kn, (wP _ _ (by decide)).trans a1, fun p hp => ?_⟩, fun l l1 l2 p hp => ?_⟩, fun i hi => absurd hi (Nat.not_lt_zero i), ⟨(wP _ _ (by decide)).trans ((a4' 4).trans w4), (wP _ _ (by decide)).trans ((a4' 5).trans w5), (wP _ _ (by decide)).trans ((a4' 6).trans w6)⟩⟩
    · have hp : p < 1 := hp
      have hp : p = 0 := by omega
      subst hp
      exact ⟨show pm_u2 fl 19 0 0 19 0 = 0 from u2_eq, (wP _ _ (by decide)).trans a2⟩
    · have hp : p < 1 := hp
      have hp : p = 0 := by omega
      subst hp
      have hl : l = m := by omega
      subst hl
      refine ⟨0, by decide, (wP _ _ (by decide)).trans (a3 l (by omega)), fun j hj => ?_⟩
      rw [ndL_m]
      exact w27 j hj
  have hn : cnI K m most F (shT, f3, pm_u2 fl 19 0 0, pm_u2 fr 13 12 (some 1)) := ⟨show pm_u2 fr 13 12 (some 1) 13 12 = some 1 from u2_eq, (wP _ _ (by decide)).trans ((a4' 13).trans w13), (wP _ _ (by decide)).trans ((a4' 14).trans w14), (wP _ _ (by decide)).trans ((a4' 15).trans w15), c7, (wP _ _ (by decide)).trans ((wQ _ _ (by decide) (by decide) (by decide) (by decide)).trans c0), (wP _ _ (by decide)).trans ((wQ _ _ (by decide) (by decide) (by decide) (by decide)).trans c1)⟩
  have d1 : ∀ s, f3 1 s = fi 1 s := fun s => (wP _ _ (by decide)).trans (wQ _ _ (by decide) (by decide) (by decide) (by decide))
  obtain ⟨h4, x4, n4, I4, F4, g⟩ := ru_go_2 hmo1 hmo hF hm hS (2 ^ m) 0 _ (by omega) J3 hx hn
  have e4 : ∀ s, ph_i h4 1 s = fi 1 s := fun s => ((F4 1 s rfl).1).trans (d1 s)
  obtain ⟨h5, e5, x5, I5, F5⟩ := chs I4 hm hmo1 hmo hp hc8 hK x4 n4 ((e4 2).trans c2) ((e4 3).trans c3) ((e4 4).trans c4)
  have ev : Ev pmT 82 [.ref 13, .ref 1, .ref 2, .int (nI most), .int 0, .int F] (shT, fi, fl, fr) none h5 := by
    have g := g (none, h5)
    have c0f : f2 1 0 = nI m := (wQ _ _ (by decide) (by decide) (by decide) (by decide)).trans c0
    have c1f : f2 1 1 = nI (2 ^ m) := (wQ _ _ (by decide) (by decide) (by decide) (by decide)).trans c1
    have t64 : 2 ^ m ≤ 64 := p6.2
    clear x5 F5 x4 n4 F4 e4 hx hn w27 wQ wO a1 a2 a3 a4 iv1 J J2 J3 d1 a4' w4 w5 w6 w13 w14 w15 p6 wP hH
    generalize ixS m 0 = ix at *
    generalize 2 ^ m = N at *
    subst hF3
    subst hF1
    obtain ⟨S4, fi4, fl4, fr4⟩ := h4
    have s4 : S4 = shT := I4.1
    subst s4
    obtain ⟨S5, fi5, fl5, fr5⟩ := h5
    have s5 : S5 = shT := I5.1
    subst s5
    have g := g (by
      refine go_of ?_
      refine gp_n 1 (j' := 58) (lv' := [some (.ref 13), some (.ref 1), some (.ref 2), some (.int (nI most)), some (.int 0), some (.int F), some (.int (nI N)), some (.int (nI N))]) (st' := [.ref 13]) (h' := (shT, fi4, fl4, fr4)) rfl ?_
      refine gp_of (fun _ k9 => g_callv (y := 105) (as := [.ref 13]) (st' := []) rfl rfl (e5) k9) ?_
      refine gp_done (g_vret rfl) ?_
      rfl)
    refine Ev.of (es := cd_82) (ml := 8) (lv := [some (.ref 13), some (.ref 1), some (.ref 2), some (.int (nI most)), some (.int 0), some (.int F), none, none]) rfl rfl rfl ?_
    refine go_of ?_
    refine gp_n 2 (j' := 2) (lv' := [some (.ref 13), some (.ref 1), some (.ref 2), some (.int (nI most)), some (.int 0), some (.int F), none, none]) (st' := [.ref 1, .ref 13]) (h' := (shT, fi, fl, fr)) rfl ?_
    refine gp_of (fun _ k9 => g_putR rfl rfl (by decide) k9) ?_
    refine gp_n 2 (j' := 5) (lv' := [some (.ref 13), some (.ref 1), some (.ref 2), some (.int (nI most)), some (.int 0), some (.int F), none, none]) (st' := [.int (nI most), .ref 13]) (h' := (shT, fi, fl, pm_u2 fr 13 12 (some 1))) rfl ?_
    refine gp_of (fun _ k9 => g_putI rfl (Or.inl rfl) rfl (by decide) k9) ?_
    refine gp_n 2 (j' := 8) (lv' := [some (.ref 13), some (.ref 1), some (.ref 2), some (.int (nI most)), some (.int 0), some (.int F), none, none]) (st' := [.int 0, .ref 13]) (h' := (shT, pm_u2 fi 13 13 (nI most), fl, pm_u2 fr 13 12 (some 1))) rfl ?_
    refine gp_of (fun _ k9 => g_putI rfl (Or.inr ⟨rfl, by decide⟩) rfl (by decide) k9) ?_
    refine gp_n 2 (j' := 11) (lv' := [some (.ref 13), some (.ref 1), some (.ref 2), some (.int (nI most)), some (.int 0), some (.int F), none, none]) (st' := [.int F, .ref 13]) (h' := (shT, pm_u2 (pm_u2 fi 13 13 (nI most)) 13 14 0, fl, pm_u2 fr 13 12 (some 1))) rfl ?_
    refine gp_of (fun _ k9 => g_putI rfl (Or.inl rfl) rfl (by decide) k9) ?_
    refine gp_n 2 (j' := 14) (lv' := [some (.ref 13), some (.ref 1), some (.ref 2), some (.int (nI most)), some (.int 0), some (.int F), none, none]) (st' := [.int 0, .ref 13]) (h' := (shT, pm_u2 (pm_u2 (pm_u2 fi 13 13 (nI most)) 13 14 0) 13 15 F, fl, pm_u2 fr 13 12 (some 1))) rfl ?_
    refine gp_of (fun _ k9 => g_putI rfl (Or.inl rfl) rfl (by decide) k9) ?_
    refine gp_n 2 (j' := 17) (lv' := [some (.ref 13), some (.ref 1), some (.ref 2), some (.int (nI most)), some (.int 0), some (.int F), none, none]) (st' := [.int 0, .ref 13]) (h' := (shT, pm_u2 (pm_u2 (pm_u2 (pm_u2 fi 13 13 (nI most)) 13 14 0) 13 15 F) 13 4 0, fl, pm_u2 fr 13 12 (some 1))) rfl ?_
    refine gp_of (fun _ k9 => g_putI rfl (Or.inl rfl) rfl (by decide) k9) ?_
    refine gp_n 2 (j' := 20) (lv' := [some (.ref 13), some (.ref 1), some (.ref 2), some (.int (nI most)), some (.int 0), some (.int F), none, none]) (st' := [.int 0, .ref 13]) (h' := (shT, pm_u2 (pm_u2 (pm_u2 (pm_u2 (pm_u2 fi 13 13 (nI most)) 13 14 0) 13 15 F) 13 4 0) 13 5 0, fl, pm_u2 fr 13 12 (some 1))) rfl ?_
    refine gp_of (fun _ k9 => g_putI rfl (Or.inl rfl) rfl (by decide) k9) ?_
    refine gp_n 1 (j' := 22) (lv' := [some (.ref 13), some (.ref 1), some (.ref 2), some (.int (nI most)), some (.int 0), some (.int F), none, none]) (st' := [.ref 13]) (h' := (shT, pm_u2 (pm_u2 (pm_u2 (pm_u2 (pm_u2 (pm_u2 fi 13 13 (nI most)) 13 14 0) 13 15 F) 13 4 0) 13 5 0) 13 6 0, fl, pm_u2 fr 13 12 (some 1))) rfl ?_
    refine gp_of (fun _ k9 => g_getR (q' := 18) rfl rfl (by decide) k0 k9) ?_
    refine gp_of (fun _ k9 => g_callv (y := 83) (as := [.ref 18]) (st' := []) rfl rfl (a5) k9) ?_
    refine gp_n 3 (j' := 27) (lv' := [some (.ref 13), some (.ref 1), some (.ref 2), some (.int (nI most)), some (.int 0), some (.int F), none, none]) (st' := [.ref 13, .int 0, .ref 2]) (h' := (shT, f2, (pm_u2 fl 19 0 0), (pm_u2 fr 13 12 (some 1)))) rfl ?_
    refine gp_of (fun _ k9 => g_getR (q' := 27) rfl rfl (by decide) kS k9) ?_
    refine gp_n 1 (j' := 29) (lv' := [some (.ref 13), some (.ref 1), some (.ref 2), some (.int (nI most)), some (.int 0), some (.int F), none, none]) (st' := [.ref 13, .ref 27, .int 0, .ref 2]) (h' := (shT, f2, (pm_u2 fl 19 0 0), (pm_u2 fr 13 12 (some 1)))) rfl ?_
    refine gp_of (fun _ k9 => g_getR (q' := 1) rfl rfl (by decide) rfl k9) ?_
    refine gp_of (fun _ k9 => g_getI (x := nI m) rfl (Or.inl rfl) rfl (by decide) (c0f) k9) ?_
    refine gp_n 1 (j' := 32) (lv' := [some (.ref 13), some (.ref 1), some (.ref 2), some (.int (nI most)), some (.int 0), some (.int F), none, none]) (st' := [.int 0, .int (nI m), .ref 27, .int 0, .ref 2]) (h' := (shT, f2, (pm_u2 fl 19 0 0), (pm_u2 fr 13 12 (some 1)))) rfl ?_
    refine gp_of (fun _ k9 => g_call (y := 84) (as := [.int (nI m), .int 0]) (st' := [.ref 27, .int 0, .ref 2]) rfl rfl (ow) k9) ?_
    refine gp_n 1 (j' := 34) (lv' := [some (.ref 13), some (.ref 1), some (.ref 2), some (.int (nI most)), some (.int 0), some (.int F), none, none]) (st' := [.ref 13, .int (nI ix), .ref 27, .int 0, .ref 2]) (h' := (shT, f2, (pm_u2 fl 19 0 0), (pm_u2 fr 13 12 (some 1)))) rfl ?_
    refine gp_of (fun _ k9 => g_getR (q' := 1) rfl rfl (by decide) rfl k9) ?_
    refine gp_of (fun _ k9 => g_getI (x := nI N) rfl (Or.inl rfl) rfl (by decide) (c1f) k9) ?_
    refine gp_of (fun _ k9 => g_cpyN (n0 := 64) (n1 := 1016) rfl rfl rfl (by omega) (by omega) (by decide) (by decide) k9) ?_
    refine gp_n 4 (j' := 41) (lv' := [some (.ref 13), some (.ref 1), some (.ref 2), some (.int (nI most)), some (.int 0), some (.int F), some (.int (nI 0)), some (.int (nI 0))]) (st' := []) (h' := (shT, (pm_uf f2 27 (va_cpy (f2 2) (f2 27) 0 ix N)), (pm_u2 fl 19 0 0), (pm_u2 fr 13 12 (some 1)))) rfl ?_
    exact gp_done g rfl
  exact ⟨h5, ev, x5, iv1 _ ev⟩
theorem ru_ev_2 {h : PmH} {m most k c : Nat} {K : Int64} {po F : Int32} {S : Nat → Int32} (hI : HI hdT shT h) (hr : RD h) (hm : m ≤ 6) (hmo1 : 1 ≤ most) (hmo : most ≤ 8) (hF : ∀ c, c < 64 → ¬ nI c = F) (hp : popc K = k + c) (hc8 : c ≤ 8) (hK : ∀ i, 2 ^ m ≤ i → i < 64 → bl K i = false) (hH : ∀ s, s < 2 ^ m → ph_i h 2 s = S s) (hS : ∀ s, s < 64 → -127 ≤ (S s).toInt ∧ (S s).toInt ≤ 127) (c0 : ph_i h 1 0 = nI m) (c1 : ph_i h 1 1 = nI (2 ^ m)) (c2 : ph_i h 1 2 = nI k) (c3 : ph_i h 1 3 = nI c) (c4 : ph_i h 1 4 = po) (c7 : ph_l h 1 7 = K) : ∃ h', Ev pmT 82 [.ref 13, .ref 1, .ref 2, .int (nI most), .int 0, .int F] h none h' ∧ roI K m k c po S most h' ∧ HI hdT shT h' ∧ fram (in_w iN_113) h h' := by
  obtain ⟨A, rfl | rfl, a1, a2⟩ := hr
  · exact ru_ev_2_14 hI a1 a2 hm hmo1 hmo hF hp hc8 hK hH hS c0 c1 c2 c3 c4 c7
  · exact ru_ev_2_18 hI a1 a2 hm hmo1 hmo hF hp hc8 hK hH hS c0 c1 c2 c3 c4 c7
theorem roI_RD2 {K : Int64} {m k c most : Nat} {po : Int32} {S : Nat → Int32} {h : PmH} (hr : roI K m k c po S most h) : RD h := by
  obtain ⟨A, hA, a1, -⟩ := hr
  exact ⟨A, hA, a1.1, a1.2.1⟩
theorem ru_ev_41_14 {h : PmH} {m most k c : Nat} {K : Int64} {po F : Int32} {S : Nat → Int32} (hI : HI hdT shT h) (k0 : ph_r h 13 0 = some 14) (kn : ph_r h 13 1 = some (32 - 14)) (hm : m ≤ 6) (hmo1 : 1 ≤ most) (hmo : most ≤ 8) (hF : ∀ c, c < 64 → ¬ nI c = F) (hp : popc K = k + c) (hc8 : c ≤ 8) (hK : ∀ i, 2 ^ m ≤ i → i < 64 → bl K i = false) (hH : ∀ s, s < 2 ^ m → ph_i h 41 s = S s) (hS : ∀ s, s < 64 → -127 ≤ (S s).toInt ∧ (S s).toInt ≤ 127) (c0 : ph_i h 1 0 = nI m) (c1 : ph_i h 1 1 = nI (2 ^ m)) (c2 : ph_i h 1 2 = nI k) (c3 : ph_i h 1 3 = nI c) (c4 : ph_i h 1 4 = po) (c7 : ph_l h 1 7 = K) : ∃ h', Ev pmT 82 [.ref 13, .ref 1, .ref 41, .int (nI most), .int 0, .int F] h none h' ∧ roI K m k c po S most h' ∧ HI hdT shT h' ∧ fram (in_w iN_152) h h' := by
  have k1 : ph_r h 14 1 = some 15 := hi_r hI rfl rfl (by decide)
  have k2 : ph_r h 14 2 = some 16 := hi_r hI rfl rfl (by decide)
  have k3 : ph_r h 14 3 = some 17 := hi_r hI rfl rfl (by decide)
  have kS : ph_r h 13 9 = some 27 := hi_r hI rfl rfl (by decide)
  have p6 := pw_6 m (by omega)
  have iv1 := fun h' e => iv_s (v := none) (h' := h') (as := [.ref 13, .ref 1, .ref 41, .int (nI most), .int 0, .int F]) vN_152 rfl (fun _ _ => gz_c (gz_r (by decide)) (gz_c (gz_r (by decide)) (gz_c (gz_r (by decide)) (gz_c (gz_i (by rw [nI_toInt (by omega)]; omega) (by rw [nI_toInt (by omega)]; omega)) (gz_c (gz_i (by decide) (by decide)) (gz_c (gz_a _) gz_n)))))) hI e
  obtain ⟨S, fi, fl, fr⟩ := h
  have hS : S = shT := hI.1
  subst hS
  have k0 : fr 13 0 = some 14 := k0
  have kn : fr 13 1 = some 18 := kn
  have kS : fr 13 9 = some 27 := kS
  have c0 : fi 1 0 = nI m := c0
  have c1 : fi 1 1 = nI (2 ^ m) := c1
  have J : HI hdT shT (shT, fi, fl, pm_u2 fr 13 12 (some 1)) := HI_wr hI (fun _ => by decide)
  have J : HI hdT shT (shT, pm_u2 fi 13 13 (nI most), fl, pm_u2 fr 13 12 (some 1)) := HI_wi J (fun _ => by rw [nI_toInt (by omega)]; exact ⟨show (0 : Int) ≤ (most : Int) by omega, show (most : Int) ≤ 8 by omega⟩)
  have J : HI hdT shT (shT, pm_u2 (pm_u2 fi 13 13 (nI most)) 13 14 0, fl, pm_u2 fr 13 12 (some 1)) := HI_wi J (fun _ => by decide)
  have J : HI hdT shT (shT, pm_u2 (pm_u2 (pm_u2 fi 13 13 (nI most)) 13 14 0) 13 15 F, fl, pm_u2 fr 13 12 (some 1)) := HI_wi J (fun z => absurd z (by decide))
  have J : HI hdT shT (shT, pm_u2 (pm_u2 (pm_u2 (pm_u2 fi 13 13 (nI most)) 13 14 0) 13 15 F) 13 4 0, fl, pm_u2 fr 13 12 (some 1)) := HI_wi J (fun z => absurd z (by decide))
  have J : HI hdT shT (shT, pm_u2 (pm_u2 (pm_u2 (pm_u2 (pm_u2 fi 13 13 (nI most)) 13 14 0) 13 15 F) 13 4 0) 13 5 0, fl, pm_u2 fr 13 12 (some 1)) := HI_wi J (fun z => absurd z (by decide))
  have J : HI hdT shT (shT, pm_u2 (pm_u2 (pm_u2 (pm_u2 (pm_u2 (pm_u2 fi 13 13 (nI most)) 13 14 0) 13 15 F) 13 4 0) 13 5 0) 13 6 0, fl, pm_u2 fr 13 12 (some 1)) := HI_wi J (fun z => absurd z (by decide))
  have w6 : pm_u2 (pm_u2 (pm_u2 (pm_u2 (pm_u2 (pm_u2 fi 13 13 (nI most)) 13 14 0) 13 15 F) 13 4 0) 13 5 0) 13 6 0 13 6 = 0 := rfl
  have w5 : pm_u2 (pm_u2 (pm_u2 (pm_u2 (pm_u2 (pm_u2 fi 13 13 (nI most)) 13 14 0) 13 15 F) 13 4 0) 13 5 0) 13 6 0 13 5 = 0 := rfl
  have w4 : pm_u2 (pm_u2 (pm_u2 (pm_u2 (pm_u2 (pm_u2 fi 13 13 (nI most)) 13 14 0) 13 15 F) 13 4 0) 13 5 0) 13 6 0 13 4 = 0 := rfl
  have w15 : pm_u2 (pm_u2 (pm_u2 (pm_u2 (pm_u2 (pm_u2 fi 13 13 (nI most)) 13 14 0) 13 15 F) 13 4 0) 13 5 0) 13 6 0 13 15 = F := rfl
  have w14 : pm_u2 (pm_u2 (pm_u2 (pm_u2 (pm_u2 (pm_u2 fi 13 13 (nI most)) 13 14 0) 13 15 F) 13 4 0) 13 5 0) 13 6 0 13 14 = 0 := rfl
  have w13 : pm_u2 (pm_u2 (pm_u2 (pm_u2 (pm_u2 (pm_u2 fi 13 13 (nI most)) 13 14 0) 13 15 F) 13 4 0) 13 5 0) 13 6 0 13 13 = nI most := rfl
  have wO : ∀ p s, ¬ p = 13 → pm_u2 (pm_u2 (pm_u2 (pm_u2 (pm_u2 (pm_u2 fi 13 13 (nI most)) 13 14 0) 13 15 F) 13 4 0) 13 5 0) 13 6 0 p s = fi p s := fun p s z => (wl_ne (by omega)).trans ((wl_ne (by omega)).trans ((wl_ne (by omega)).trans ((wl_ne (by omega)).trans ((wl_ne (by omega)).trans (wl_ne (by omega))))))
  generalize hF1 : pm_u2 (pm_u2 (pm_u2 (pm_u2 (pm_u2 (pm_u2 fi 13 13 (nI most)) 13 14 0) 13 15 F) 13 4 0) 13 5 0) 13 6 0 = f1 at *
  obtain ⟨f2, a1, a2, a3, a4, a5⟩ := af_ev_14 (fi := f1) (fl := fl) (fr := pm_u2 fr 13 12 (some 1)) k1 k2 k3
  have J2 := (iv_s (v := none) (as := [.ref 14]) vN_53 rfl (fun _ _ => gz_c (gz_r (by decide)) gz_n) J a5).1
  have ow := ow_ev (l := m) (p := 0) (h := (shT, f2, pm_u2 fl 15 0 0, pm_u2 fr 13 12 (some 1))) (by omega) (by decide)
  have tp := ixS_top (l := m) (r := 0) hm (by decide)
  have J3 := HI_uf27 (g := va_cpy (f2 41) (f2 27) 0 (ixS m 0) (2 ^ m)) J2
  have wQ : ∀ p s, ¬ p = 13 → ¬ p = 14 → ¬ p = 16 → ¬ p = 17 → f2 p s = fi p s := fun p s z1 z2 z3 z4 => (a4 p s z2 z3 z4).trans (wO p s z1)
  have wP : ∀ p s, ¬ p = 27 → pm_uf f2 27 (va_cpy (f2 41) (f2 27) 0 (ixS m 0) (2 ^ m)) p s = f2 p s := fun p s z => by
    unfold pm_uf
    rw [if_neg z]
  have w27 : ∀ j, j < 2 ^ m → pm_uf f2 27 (va_cpy (f2 41) (f2 27) 0 (ixS m 0) (2 ^ m)) 27 (ixS m 0 + j) = S j := fun j hj => by
    unfold pm_uf va_cpy
    rw [if_pos rfl, if_pos (by omega), show 0 + (ixS m 0 + j - ixS m 0) = j by omega]
    exact (wQ _ _ (by decide) (by decide) (by decide) (by decide)).trans (hH j hj)
  generalize hF3 : pm_uf f2 27 (va_cpy (f2 41) (f2 27) 0 (ixS m 0) (2 ^ m)) = f3 at *
  have a4' : ∀ s, f2 13 s = f1 13 s := fun s => a4 13 s (by decide) (by decide) (by decide)
  have hx : rgI K m S most 0 (shT, f3, pm_u2 fl 15 0 0, pm_u2 fr 13 12 (some 1)) := by
    refine ⟨Or.inl ⟨rfl, 14, by decide, ⟨k0, kn, (wP _ _ (by decide)).trans a1, fun p hp => ?_⟩, fun l l1 l2 p hp => ?_⟩, fun i hi => absurd hi (Nat.not_lt_zero i), ⟨(wP _ _ (by decide)).trans ((a4' 4).trans w4), (wP _ _ (by decide)).trans ((a4' 5).trans w5), (wP _ _ (by decide)).trans ((a4' 6).trans w6)⟩⟩
    · have hp : p < 1 := hp
      have hp : p = 0 := by omega
      subst hp
      exact ⟨show pm_u2 fl 15 0 0 15 0 = 0 from u2_eq, (wP _ _ (by decide)).trans a2⟩
    · have hp : p < 1 := hp
      have hp : p = 0 := by omega
      subst hp
      have hl : l = m := by omega
      subst hl
      refine ⟨0, by decide, (wP _ _ (by decide)).trans (a3 l (by omega)), fun j hj => ?_⟩
      rw [ndL_m]
      exact w27 j hj
  have hn : cnI K m most F (shT, f3, pm_u2 fl 15 0 0, pm_u2 fr 13 12 (some 1)) := ⟨show pm_u2 fr 13 12 (some 1) 13 12 = some 1 from u2_eq, (wP _ _ (by decide)).trans ((a4' 13).trans w13), (wP _ _ (by decide)).trans ((a4' 14).trans w14), (wP _ _ (by decide)).trans ((a4' 15).trans w15), c7, (wP _ _ (by decide)).trans ((wQ _ _ (by decide) (by decide) (by decide) (by decide)).trans c0), (wP _ _ (by decide)).trans ((wQ _ _ (by decide) (by decide) (by decide) (by decide)).trans c1)⟩
  have d1 : ∀ s, f3 1 s = fi 1 s := fun s => (wP _ _ (by decide)).trans (wQ _ _ (by decide) (by decide) (by decide) (by decide))
  obtain ⟨h4, x4, n4, I4, F4, g⟩ := ru_go_41 hmo1 hmo hF hm hS (2 ^ m) 0 _ (by omega) J3 hx hn
  have e4 : ∀ s, ph_i h4 1 s = fi 1 s := fun s => ((F4 1 s rfl).1).trans (d1 s)
  obtain ⟨h5, e5, x5, I5, F5⟩ := chs I4 hm hmo1 hmo hp hc8 hK x4 n4 ((e4 2).trans c2) ((e4 3).trans c3) ((e4 4).trans c4)
  have ev : Ev pmT 82 [.ref 13, .ref 1, .ref 41, .int (nI most), .int 0, .int F] (shT, fi, fl, fr) none h5 := by
    have g := g (none, h5)
    have c0f : f2 1 0 = nI m := (wQ _ _ (by decide) (by decide) (by decide) (by decide)).trans c0
    have c1f : f2 1 1 = nI (2 ^ m) := (wQ _ _ (by decide) (by decide) (by decide) (by decide)).trans c1
    have t64 : 2 ^ m ≤ 64 := p6.2
    clear x5 F5 x4 n4 F4 e4 hx hn w27 wQ wO a1 a2 a3 a4 iv1 J J2 J3 d1 a4' w4 w5 w6 w13 w14 w15 p6 wP hH
    generalize ixS m 0 = ix at *
    generalize 2 ^ m = N at *
    subst hF3
    subst hF1
    obtain ⟨S4, fi4, fl4, fr4⟩ := h4
    have s4 : S4 = shT := I4.1
    subst s4
    obtain ⟨S5, fi5, fl5, fr5⟩ := h5
    have s5 : S5 = shT := I5.1
    subst s5
    have g := g (by
      refine go_of ?_
      refine gp_n 1 (j' := 58) (lv' := [some (.ref 13), some (.ref 1), some (.ref 41), some (.int (nI most)), some (.int 0), some (.int F), some (.int (nI N)), some (.int (nI N))]) (st' := [.ref 13]) (h' := (shT, fi4, fl4, fr4)) rfl ?_
      refine gp_of (fun _ k9 => g_callv (y := 105) (as := [.ref 13]) (st' := []) rfl rfl (e5) k9) ?_
      refine gp_done (g_vret rfl) ?_
      rfl)
    refine Ev.of (es := cd_82) (ml := 8) (lv := [some (.ref 13), some (.ref 1), some (.ref 41), some (.int (nI most)), some (.int 0), some (.int F), none, none]) rfl rfl rfl ?_
    refine go_of ?_
    refine gp_n 2 (j' := 2) (lv' := [some (.ref 13), some (.ref 1), some (.ref 41), some (.int (nI most)), some (.int 0), some (.int F), none, none]) (st' := [.ref 1, .ref 13]) (h' := (shT, fi, fl, fr)) rfl ?_
    refine gp_of (fun _ k9 => g_putR rfl rfl (by decide) k9) ?_
    refine gp_n 2 (j' := 5) (lv' := [some (.ref 13), some (.ref 1), some (.ref 41), some (.int (nI most)), some (.int 0), some (.int F), none, none]) (st' := [.int (nI most), .ref 13]) (h' := (shT, fi, fl, pm_u2 fr 13 12 (some 1))) rfl ?_
    refine gp_of (fun _ k9 => g_putI rfl (Or.inl rfl) rfl (by decide) k9) ?_
    refine gp_n 2 (j' := 8) (lv' := [some (.ref 13), some (.ref 1), some (.ref 41), some (.int (nI most)), some (.int 0), some (.int F), none, none]) (st' := [.int 0, .ref 13]) (h' := (shT, pm_u2 fi 13 13 (nI most), fl, pm_u2 fr 13 12 (some 1))) rfl ?_
    refine gp_of (fun _ k9 => g_putI rfl (Or.inr ⟨rfl, by decide⟩) rfl (by decide) k9) ?_
    refine gp_n 2 (j' := 11) (lv' := [some (.ref 13), some (.ref 1), some (.ref 41), some (.int (nI most)), some (.int 0), some (.int F), none, none]) (st' := [.int F, .ref 13]) (h' := (shT, pm_u2 (pm_u2 fi 13 13 (nI most)) 13 14 0, fl, pm_u2 fr 13 12 (some 1))) rfl ?_
    refine gp_of (fun _ k9 => g_putI rfl (Or.inl rfl) rfl (by decide) k9) ?_
    refine gp_n 2 (j' := 14) (lv' := [some (.ref 13), some (.ref 1), some (.ref 41), some (.int (nI most)), some (.int 0), some (.int F), none, none]) (st' := [.int 0, .ref 13]) (h' := (shT, pm_u2 (pm_u2 (pm_u2 fi 13 13 (nI most)) 13 14 0) 13 15 F, fl, pm_u2 fr 13 12 (some 1))) rfl ?_
    refine gp_of (fun _ k9 => g_putI rfl (Or.inl rfl) rfl (by decide) k9) ?_
    refine gp_n 2 (j' := 17) (lv' := [some (.ref 13), some (.ref 1), some (.ref 41), some (.int (nI most)), some (.int 0), some (.int F), none, none]) (st' := [.int 0, .ref 13]) (h' := (shT, pm_u2 (pm_u2 (pm_u2 (pm_u2 fi 13 13 (nI most)) 13 14 0) 13 15 F) 13 4 0, fl, pm_u2 fr 13 12 (some 1))) rfl ?_
    refine gp_of (fun _ k9 => g_putI rfl (Or.inl rfl) rfl (by decide) k9) ?_
    refine gp_n 2 (j' := 20) (lv' := [some (.ref 13), some (.ref 1), some (.ref 41), some (.int (nI most)), some (.int 0), some (.int F), none, none]) (st' := [.int 0, .ref 13]) (h' := (shT, pm_u2 (pm_u2 (pm_u2 (pm_u2 (pm_u2 fi 13 13 (nI most)) 13 14 0) 13 15 F) 13 4 0) 13 5 0, fl, pm_u2 fr 13 12 (some 1))) rfl ?_
    refine gp_of (fun _ k9 => g_putI rfl (Or.inl rfl) rfl (by decide) k9) ?_
    refine gp_n 1 (j' := 22) (lv' := [some (.ref 13), some (.ref 1), some (.ref 41), some (.int (nI most)), some (.int 0), some (.int F), none, none]) (st' := [.ref 13]) (h' := (shT, pm_u2 (pm_u2 (pm_u2 (pm_u2 (pm_u2 (pm_u2 fi 13 13 (nI most)) 13 14 0) 13 15 F) 13 4 0) 13 5 0) 13 6 0, fl, pm_u2 fr 13 12 (some 1))) rfl ?_
    refine gp_of (fun _ k9 => g_getR (q' := 14) rfl rfl (by decide) k0 k9) ?_
    refine gp_of (fun _ k9 => g_callv (y := 83) (as := [.ref 14]) (st' := []) rfl rfl (a5) k9) ?_
    refine gp_n 3 (j' := 27) (lv' := [some (.ref 13), some (.ref 1), some (.ref 41), some (.int (nI most)), some (.int 0), some (.int F), none, none]) (st' := [.ref 13, .int 0, .ref 41]) (h' := (shT, f2, (pm_u2 fl 15 0 0), (pm_u2 fr 13 12 (some 1)))) rfl ?_
    refine gp_of (fun _ k9 => g_getR (q' := 27) rfl rfl (by decide) kS k9) ?_
    refine gp_n 1 (j' := 29) (lv' := [some (.ref 13), some (.ref 1), some (.ref 41), some (.int (nI most)), some (.int 0), some (.int F), none, none]) (st' := [.ref 13, .ref 27, .int 0, .ref 41]) (h' := (shT, f2, (pm_u2 fl 15 0 0), (pm_u2 fr 13 12 (some 1)))) rfl ?_
    refine gp_of (fun _ k9 => g_getR (q' := 1) rfl rfl (by decide) rfl k9) ?_
    refine gp_of (fun _ k9 => g_getI (x := nI m) rfl (Or.inl rfl) rfl (by decide) (c0f) k9) ?_
    refine gp_n 1 (j' := 32) (lv' := [some (.ref 13), some (.ref 1), some (.ref 41), some (.int (nI most)), some (.int 0), some (.int F), none, none]) (st' := [.int 0, .int (nI m), .ref 27, .int 0, .ref 41]) (h' := (shT, f2, (pm_u2 fl 15 0 0), (pm_u2 fr 13 12 (some 1)))) rfl ?_
    refine gp_of (fun _ k9 => g_call (y := 84) (as := [.int (nI m), .int 0]) (st' := [.ref 27, .int 0, .ref 41]) rfl rfl (ow) k9) ?_
    refine gp_n 1 (j' := 34) (lv' := [some (.ref 13), some (.ref 1), some (.ref 41), some (.int (nI most)), some (.int 0), some (.int F), none, none]) (st' := [.ref 13, .int (nI ix), .ref 27, .int 0, .ref 41]) (h' := (shT, f2, (pm_u2 fl 15 0 0), (pm_u2 fr 13 12 (some 1)))) rfl ?_
    refine gp_of (fun _ k9 => g_getR (q' := 1) rfl rfl (by decide) rfl k9) ?_
    refine gp_of (fun _ k9 => g_getI (x := nI N) rfl (Or.inl rfl) rfl (by decide) (c1f) k9) ?_
    refine gp_of (fun _ k9 => g_cpyN (n0 := 64) (n1 := 1016) rfl rfl rfl (by omega) (by omega) (by decide) (by decide) k9) ?_
    refine gp_n 4 (j' := 41) (lv' := [some (.ref 13), some (.ref 1), some (.ref 41), some (.int (nI most)), some (.int 0), some (.int F), some (.int (nI 0)), some (.int (nI 0))]) (st' := []) (h' := (shT, (pm_uf f2 27 (va_cpy (f2 41) (f2 27) 0 ix N)), (pm_u2 fl 15 0 0), (pm_u2 fr 13 12 (some 1)))) rfl ?_
    exact gp_done g rfl
  exact ⟨h5, ev, x5, iv1 _ ev⟩
theorem ru_ev_41_18 {h : PmH} {m most k c : Nat} {K : Int64} {po F : Int32} {S : Nat → Int32} (hI : HI hdT shT h) (k0 : ph_r h 13 0 = some 18) (kn : ph_r h 13 1 = some (32 - 18)) (hm : m ≤ 6) (hmo1 : 1 ≤ most) (hmo : most ≤ 8) (hF : ∀ c, c < 64 → ¬ nI c = F) (hp : popc K = k + c) (hc8 : c ≤ 8) (hK : ∀ i, 2 ^ m ≤ i → i < 64 → bl K i = false) (hH : ∀ s, s < 2 ^ m → ph_i h 41 s = S s) (hS : ∀ s, s < 64 → -127 ≤ (S s).toInt ∧ (S s).toInt ≤ 127) (c0 : ph_i h 1 0 = nI m) (c1 : ph_i h 1 1 = nI (2 ^ m)) (c2 : ph_i h 1 2 = nI k) (c3 : ph_i h 1 3 = nI c) (c4 : ph_i h 1 4 = po) (c7 : ph_l h 1 7 = K) : ∃ h', Ev pmT 82 [.ref 13, .ref 1, .ref 41, .int (nI most), .int 0, .int F] h none h' ∧ roI K m k c po S most h' ∧ HI hdT shT h' ∧ fram (in_w iN_152) h h' := by
  have k1 : ph_r h 18 1 = some 19 := hi_r hI rfl rfl (by decide)
  have k2 : ph_r h 18 2 = some 20 := hi_r hI rfl rfl (by decide)
  have k3 : ph_r h 18 3 = some 21 := hi_r hI rfl rfl (by decide)
  have kS : ph_r h 13 9 = some 27 := hi_r hI rfl rfl (by decide)
  have p6 := pw_6 m (by omega)
  have iv1 := fun h' e => iv_s (v := none) (h' := h') (as := [.ref 13, .ref 1, .ref 41, .int (nI most), .int 0, .int F]) vN_152 rfl (fun _ _ => gz_c (gz_r (by decide)) (gz_c (gz_r (by decide)) (gz_c (gz_r (by decide)) (gz_c (gz_i (by rw [nI_toInt (by omega)]; omega) (by rw [nI_toInt (by omega)]; omega)) (gz_c (gz_i (by decide) (by decide)) (gz_c (gz_a _) gz_n)))))) hI e
  obtain ⟨S, fi, fl, fr⟩ := h
  have hS : S = shT := hI.1
  subst hS
  have k0 : fr 13 0 = some 18 := k0
  have kn : fr 13 1 = some 14 := kn
  have kS : fr 13 9 = some 27 := kS
  have c0 : fi 1 0 = nI m := c0
  have c1 : fi 1 1 = nI (2 ^ m) := c1
  have J : HI hdT shT (shT, fi, fl, pm_u2 fr 13 12 (some 1)) := HI_wr hI (fun _ => by decide)
  have J : HI hdT shT (shT, pm_u2 fi 13 13 (nI most), fl, pm_u2 fr 13 12 (some 1)) := HI_wi J (fun _ => by rw [nI_toInt (by omega)]; exact ⟨show (0 : Int) ≤ (most : Int) by omega, show (most : Int) ≤ 8 by omega⟩)
  have J : HI hdT shT (shT, pm_u2 (pm_u2 fi 13 13 (nI most)) 13 14 0, fl, pm_u2 fr 13 12 (some 1)) := HI_wi J (fun _ => by decide)
  have J : HI hdT shT (shT, pm_u2 (pm_u2 (pm_u2 fi 13 13 (nI most)) 13 14 0) 13 15 F, fl, pm_u2 fr 13 12 (some 1)) := HI_wi J (fun z => absurd z (by decide))
  have J : HI hdT shT (shT, pm_u2 (pm_u2 (pm_u2 (pm_u2 fi 13 13 (nI most)) 13 14 0) 13 15 F) 13 4 0, fl, pm_u2 fr 13 12 (some 1)) := HI_wi J (fun z => absurd z (by decide))
  have J : HI hdT shT (shT, pm_u2 (pm_u2 (pm_u2 (pm_u2 (pm_u2 fi 13 13 (nI most)) 13 14 0) 13 15 F) 13 4 0) 13 5 0, fl, pm_u2 fr 13 12 (some 1)) := HI_wi J (fun z => absurd z (by decide))
  have J : HI hdT shT (shT, pm_u2 (pm_u2 (pm_u2 (pm_u2 (pm_u2 (pm_u2 fi 13 13 (nI most)) 13 14 0) 13 15 F) 13 4 0) 13 5 0) 13 6 0, fl, pm_u2 fr 13 12 (some 1)) := HI_wi J (fun z => absurd z (by decide))
  have w6 : pm_u2 (pm_u2 (pm_u2 (pm_u2 (pm_u2 (pm_u2 fi 13 13 (nI most)) 13 14 0) 13 15 F) 13 4 0) 13 5 0) 13 6 0 13 6 = 0 := rfl
  have w5 : pm_u2 (pm_u2 (pm_u2 (pm_u2 (pm_u2 (pm_u2 fi 13 13 (nI most)) 13 14 0) 13 15 F) 13 4 0) 13 5 0) 13 6 0 13 5 = 0 := rfl
  have w4 : pm_u2 (pm_u2 (pm_u2 (pm_u2 (pm_u2 (pm_u2 fi 13 13 (nI most)) 13 14 0) 13 15 F) 13 4 0) 13 5 0) 13 6 0 13 4 = 0 := rfl
  have w15 : pm_u2 (pm_u2 (pm_u2 (pm_u2 (pm_u2 (pm_u2 fi 13 13 (nI most)) 13 14 0) 13 15 F) 13 4 0) 13 5 0) 13 6 0 13 15 = F := rfl
  have w14 : pm_u2 (pm_u2 (pm_u2 (pm_u2 (pm_u2 (pm_u2 fi 13 13 (nI most)) 13 14 0) 13 15 F) 13 4 0) 13 5 0) 13 6 0 13 14 = 0 := rfl
  have w13 : pm_u2 (pm_u2 (pm_u2 (pm_u2 (pm_u2 (pm_u2 fi 13 13 (nI most)) 13 14 0) 13 15 F) 13 4 0) 13 5 0) 13 6 0 13 13 = nI most := rfl
  have wO : ∀ p s, ¬ p = 13 → pm_u2 (pm_u2 (pm_u2 (pm_u2 (pm_u2 (pm_u2 fi 13 13 (nI most)) 13 14 0) 13 15 F) 13 4 0) 13 5 0) 13 6 0 p s = fi p s := fun p s z => (wl_ne (by omega)).trans ((wl_ne (by omega)).trans ((wl_ne (by omega)).trans ((wl_ne (by omega)).trans ((wl_ne (by omega)).trans (wl_ne (by omega))))))
  generalize hF1 : pm_u2 (pm_u2 (pm_u2 (pm_u2 (pm_u2 (pm_u2 fi 13 13 (nI most)) 13 14 0) 13 15 F) 13 4 0) 13 5 0) 13 6 0 = f1 at *
  obtain ⟨f2, a1, a2, a3, a4, a5⟩ := af_ev_18 (fi := f1) (fl := fl) (fr := pm_u2 fr 13 12 (some 1)) k1 k2 k3
  have J2 := (iv_s (v := none) (as := [.ref 18]) vN_53 rfl (fun _ _ => gz_c (gz_r (by decide)) gz_n) J a5).1
  have ow := ow_ev (l := m) (p := 0) (h := (shT, f2, pm_u2 fl 19 0 0, pm_u2 fr 13 12 (some 1))) (by omega) (by decide)
  have tp := ixS_top (l := m) (r := 0) hm (by decide)
  have J3 := HI_uf27 (g := va_cpy (f2 41) (f2 27) 0 (ixS m 0) (2 ^ m)) J2
  have wQ : ∀ p s, ¬ p = 13 → ¬ p = 18 → ¬ p = 20 → ¬ p = 21 → f2 p s = fi p s := fun p s z1 z2 z3 z4 => (a4 p s z2 z3 z4).trans (wO p s z1)
  have wP : ∀ p s, ¬ p = 27 → pm_uf f2 27 (va_cpy (f2 41) (f2 27) 0 (ixS m 0) (2 ^ m)) p s = f2 p s := fun p s z => by
    unfold pm_uf
    rw [if_neg z]
  have w27 : ∀ j, j < 2 ^ m → pm_uf f2 27 (va_cpy (f2 41) (f2 27) 0 (ixS m 0) (2 ^ m)) 27 (ixS m 0 + j) = S j := fun j hj => by
    unfold pm_uf va_cpy
    rw [if_pos rfl, if_pos (by omega), show 0 + (ixS m 0 + j - ixS m 0) = j by omega]
    exact (wQ _ _ (by decide) (by decide) (by decide) (by decide)).trans (hH j hj)
  generalize hF3 : pm_uf f2 27 (va_cpy (f2 41) (f2 27) 0 (ixS m 0) (2 ^ m)) = f3 at *
  have a4' : ∀ s, f2 13 s = f1 13 s := fun s => a4 13 s (by decide) (by decide) (by decide)
  have hx : rgI K m S most 0 (shT, f3, pm_u2 fl 19 0 0, pm_u2 fr 13 12 (some 1)) := by
    refine ⟨Or.inl ⟨rfl, 18, by decide, ⟨k0, kn, (wP _ _ (by decide)).trans a1, fun p hp => ?_⟩, fun l l1 l2 p hp => ?_⟩, fun i hi => absurd hi (Nat.not_lt_zero i), ⟨(wP _ _ (by decide)).trans ((a4' 4).trans w4), (wP _ _ (by decide)).trans ((a4' 5).trans w5), (wP _ _ (by decide)).trans ((a4' 6).trans w6)⟩⟩
    · have hp : p < 1 := hp
      have hp : p = 0 := by omega
      subst hp
      exact ⟨show pm_u2 fl 19 0 0 19 0 = 0 from u2_eq, (wP _ _ (by decide)).trans a2⟩
    · have hp : p < 1 := hp
      have hp : p = 0 := by omega
      subst hp
      have hl : l = m := by omega
      subst hl
      refine ⟨0, by decide, (wP _ _ (by decide)).trans (a3 l (by omega)), fun j hj => ?_⟩
      rw [ndL_m]
      exact w27 j hj
  have hn : cnI K m most F (shT, f3, pm_u2 fl 19 0 0, pm_u2 fr 13 12 (some 1)) := ⟨show pm_u2 fr 13 12 (some 1) 13 12 = some 1 from u2_eq, (wP _ _ (by decide)).trans ((a4' 13).trans w13), (wP _ _ (by decide)).trans ((a4' 14).trans w14), (wP _ _ (by decide)).trans ((a4' 15).trans w15), c7, (wP _ _ (by decide)).trans ((wQ _ _ (by decide) (by decide) (by decide) (by decide)).trans c0), (wP _ _ (by decide)).trans ((wQ _ _ (by decide) (by decide) (by decide) (by decide)).trans c1)⟩
  have d1 : ∀ s, f3 1 s = fi 1 s := fun s => (wP _ _ (by decide)).trans (wQ _ _ (by decide) (by decide) (by decide) (by decide))
  obtain ⟨h4, x4, n4, I4, F4, g⟩ := ru_go_41 hmo1 hmo hF hm hS (2 ^ m) 0 _ (by omega) J3 hx hn
  have e4 : ∀ s, ph_i h4 1 s = fi 1 s := fun s => ((F4 1 s rfl).1).trans (d1 s)
  obtain ⟨h5, e5, x5, I5, F5⟩ := chs I4 hm hmo1 hmo hp hc8 hK x4 n4 ((e4 2).trans c2) ((e4 3).trans c3) ((e4 4).trans c4)
  have ev : Ev pmT 82 [.ref 13, .ref 1, .ref 41, .int (nI most), .int 0, .int F] (shT, fi, fl, fr) none h5 := by
    have g := g (none, h5)
    have c0f : f2 1 0 = nI m := (wQ _ _ (by decide) (by decide) (by decide) (by decide)).trans c0
    have c1f : f2 1 1 = nI (2 ^ m) := (wQ _ _ (by decide) (by decide) (by decide) (by decide)).trans c1
    have t64 : 2 ^ m ≤ 64 := p6.2
    clear x5 F5 x4 n4 F4 e4 hx hn w27 wQ wO a1 a2 a3 a4 iv1 J J2 J3 d1 a4' w4 w5 w6 w13 w14 w15 p6 wP hH
    generalize ixS m 0 = ix at *
    generalize 2 ^ m = N at *
    subst hF3
    subst hF1
    obtain ⟨S4, fi4, fl4, fr4⟩ := h4
    have s4 : S4 = shT := I4.1
    subst s4
    obtain ⟨S5, fi5, fl5, fr5⟩ := h5
    have s5 : S5 = shT := I5.1
    subst s5
    have g := g (by
      refine go_of ?_
      refine gp_n 1 (j' := 58) (lv' := [some (.ref 13), some (.ref 1), some (.ref 41), some (.int (nI most)), some (.int 0), some (.int F), some (.int (nI N)), some (.int (nI N))]) (st' := [.ref 13]) (h' := (shT, fi4, fl4, fr4)) rfl ?_
      refine gp_of (fun _ k9 => g_callv (y := 105) (as := [.ref 13]) (st' := []) rfl rfl (e5) k9) ?_
      refine gp_done (g_vret rfl) ?_
      rfl)
    refine Ev.of (es := cd_82) (ml := 8) (lv := [some (.ref 13), some (.ref 1), some (.ref 41), some (.int (nI most)), some (.int 0), some (.int F), none, none]) rfl rfl rfl ?_
    refine go_of ?_
    refine gp_n 2 (j' := 2) (lv' := [some (.ref 13), some (.ref 1), some (.ref 41), some (.int (nI most)), some (.int 0), some (.int F), none, none]) (st' := [.ref 1, .ref 13]) (h' := (shT, fi, fl, fr)) rfl ?_
    refine gp_of (fun _ k9 => g_putR rfl rfl (by decide) k9) ?_
    refine gp_n 2 (j' := 5) (lv' := [some (.ref 13), some (.ref 1), some (.ref 41), some (.int (nI most)), some (.int 0), some (.int F), none, none]) (st' := [.int (nI most), .ref 13]) (h' := (shT, fi, fl, pm_u2 fr 13 12 (some 1))) rfl ?_
    refine gp_of (fun _ k9 => g_putI rfl (Or.inl rfl) rfl (by decide) k9) ?_
    refine gp_n 2 (j' := 8) (lv' := [some (.ref 13), some (.ref 1), some (.ref 41), some (.int (nI most)), some (.int 0), some (.int F), none, none]) (st' := [.int 0, .ref 13]) (h' := (shT, pm_u2 fi 13 13 (nI most), fl, pm_u2 fr 13 12 (some 1))) rfl ?_
    refine gp_of (fun _ k9 => g_putI rfl (Or.inr ⟨rfl, by decide⟩) rfl (by decide) k9) ?_
    refine gp_n 2 (j' := 11) (lv' := [some (.ref 13), some (.ref 1), some (.ref 41), some (.int (nI most)), some (.int 0), some (.int F), none, none]) (st' := [.int F, .ref 13]) (h' := (shT, pm_u2 (pm_u2 fi 13 13 (nI most)) 13 14 0, fl, pm_u2 fr 13 12 (some 1))) rfl ?_
    refine gp_of (fun _ k9 => g_putI rfl (Or.inl rfl) rfl (by decide) k9) ?_
    refine gp_n 2 (j' := 14) (lv' := [some (.ref 13), some (.ref 1), some (.ref 41), some (.int (nI most)), some (.int 0), some (.int F), none, none]) (st' := [.int 0, .ref 13]) (h' := (shT, pm_u2 (pm_u2 (pm_u2 fi 13 13 (nI most)) 13 14 0) 13 15 F, fl, pm_u2 fr 13 12 (some 1))) rfl ?_
    refine gp_of (fun _ k9 => g_putI rfl (Or.inl rfl) rfl (by decide) k9) ?_
    refine gp_n 2 (j' := 17) (lv' := [some (.ref 13), some (.ref 1), some (.ref 41), some (.int (nI most)), some (.int 0), some (.int F), none, none]) (st' := [.int 0, .ref 13]) (h' := (shT, pm_u2 (pm_u2 (pm_u2 (pm_u2 fi 13 13 (nI most)) 13 14 0) 13 15 F) 13 4 0, fl, pm_u2 fr 13 12 (some 1))) rfl ?_
    refine gp_of (fun _ k9 => g_putI rfl (Or.inl rfl) rfl (by decide) k9) ?_
    refine gp_n 2 (j' := 20) (lv' := [some (.ref 13), some (.ref 1), some (.ref 41), some (.int (nI most)), some (.int 0), some (.int F), none, none]) (st' := [.int 0, .ref 13]) (h' := (shT, pm_u2 (pm_u2 (pm_u2 (pm_u2 (pm_u2 fi 13 13 (nI most)) 13 14 0) 13 15 F) 13 4 0) 13 5 0, fl, pm_u2 fr 13 12 (some 1))) rfl ?_
    refine gp_of (fun _ k9 => g_putI rfl (Or.inl rfl) rfl (by decide) k9) ?_
    refine gp_n 1 (j' := 22) (lv' := [some (.ref 13), some (.ref 1), some (.ref 41), some (.int (nI most)), some (.int 0), some (.int F), none, none]) (st' := [.ref 13]) (h' := (shT, pm_u2 (pm_u2 (pm_u2 (pm_u2 (pm_u2 (pm_u2 fi 13 13 (nI most)) 13 14 0) 13 15 F) 13 4 0) 13 5 0) 13 6 0, fl, pm_u2 fr 13 12 (some 1))) rfl ?_
    refine gp_of (fun _ k9 => g_getR (q' := 18) rfl rfl (by decide) k0 k9) ?_
    refine gp_of (fun _ k9 => g_callv (y := 83) (as := [.ref 18]) (st' := []) rfl rfl (a5) k9) ?_
    refine gp_n 3 (j' := 27) (lv' := [some (.ref 13), some (.ref 1), some (.ref 41), some (.int (nI most)), some (.int 0), some (.int F), none, none]) (st' := [.ref 13, .int 0, .ref 41]) (h' := (shT, f2, (pm_u2 fl 19 0 0), (pm_u2 fr 13 12 (some 1)))) rfl ?_
    refine gp_of (fun _ k9 => g_getR (q' := 27) rfl rfl (by decide) kS k9) ?_
    refine gp_n 1 (j' := 29) (lv' := [some (.ref 13), some (.ref 1), some (.ref 41), some (.int (nI most)), some (.int 0), some (.int F), none, none]) (st' := [.ref 13, .ref 27, .int 0, .ref 41]) (h' := (shT, f2, (pm_u2 fl 19 0 0), (pm_u2 fr 13 12 (some 1)))) rfl ?_
    refine gp_of (fun _ k9 => g_getR (q' := 1) rfl rfl (by decide) rfl k9) ?_
    refine gp_of (fun _ k9 => g_getI (x := nI m) rfl (Or.inl rfl) rfl (by decide) (c0f) k9) ?_
    refine gp_n 1 (j' := 32) (lv' := [some (.ref 13), some (.ref 1), some (.ref 41), some (.int (nI most)), some (.int 0), some (.int F), none, none]) (st' := [.int 0, .int (nI m), .ref 27, .int 0, .ref 41]) (h' := (shT, f2, (pm_u2 fl 19 0 0), (pm_u2 fr 13 12 (some 1)))) rfl ?_
    refine gp_of (fun _ k9 => g_call (y := 84) (as := [.int (nI m), .int 0]) (st' := [.ref 27, .int 0, .ref 41]) rfl rfl (ow) k9) ?_
    refine gp_n 1 (j' := 34) (lv' := [some (.ref 13), some (.ref 1), some (.ref 41), some (.int (nI most)), some (.int 0), some (.int F), none, none]) (st' := [.ref 13, .int (nI ix), .ref 27, .int 0, .ref 41]) (h' := (shT, f2, (pm_u2 fl 19 0 0), (pm_u2 fr 13 12 (some 1)))) rfl ?_
    refine gp_of (fun _ k9 => g_getR (q' := 1) rfl rfl (by decide) rfl k9) ?_
    refine gp_of (fun _ k9 => g_getI (x := nI N) rfl (Or.inl rfl) rfl (by decide) (c1f) k9) ?_
    refine gp_of (fun _ k9 => g_cpyN (n0 := 64) (n1 := 1016) rfl rfl rfl (by omega) (by omega) (by decide) (by decide) k9) ?_
    refine gp_n 4 (j' := 41) (lv' := [some (.ref 13), some (.ref 1), some (.ref 41), some (.int (nI most)), some (.int 0), some (.int F), some (.int (nI 0)), some (.int (nI 0))]) (st' := []) (h' := (shT, (pm_uf f2 27 (va_cpy (f2 41) (f2 27) 0 ix N)), (pm_u2 fl 19 0 0), (pm_u2 fr 13 12 (some 1)))) rfl ?_
    exact gp_done g rfl
  exact ⟨h5, ev, x5, iv1 _ ev⟩
theorem ru_ev_41 {h : PmH} {m most k c : Nat} {K : Int64} {po F : Int32} {S : Nat → Int32} (hI : HI hdT shT h) (hr : RD h) (hm : m ≤ 6) (hmo1 : 1 ≤ most) (hmo : most ≤ 8) (hF : ∀ c, c < 64 → ¬ nI c = F) (hp : popc K = k + c) (hc8 : c ≤ 8) (hK : ∀ i, 2 ^ m ≤ i → i < 64 → bl K i = false) (hH : ∀ s, s < 2 ^ m → ph_i h 41 s = S s) (hS : ∀ s, s < 64 → -127 ≤ (S s).toInt ∧ (S s).toInt ≤ 127) (c0 : ph_i h 1 0 = nI m) (c1 : ph_i h 1 1 = nI (2 ^ m)) (c2 : ph_i h 1 2 = nI k) (c3 : ph_i h 1 3 = nI c) (c4 : ph_i h 1 4 = po) (c7 : ph_l h 1 7 = K) : ∃ h', Ev pmT 82 [.ref 13, .ref 1, .ref 41, .int (nI most), .int 0, .int F] h none h' ∧ roI K m k c po S most h' ∧ HI hdT shT h' ∧ fram (in_w iN_152) h h' := by
  obtain ⟨A, rfl | rfl, a1, a2⟩ := hr
  · exact ru_ev_41_14 hI a1 a2 hm hmo1 hmo hF hp hc8 hK hH hS c0 c1 c2 c3 c4 c7
  · exact ru_ev_41_18 hI a1 a2 hm hmo1 hmo hF hp hc8 hK hH hS c0 c1 c2 c3 c4 c7
theorem roI_RD41 {K : Int64} {m k c most : Nat} {po : Int32} {S : Nat → Int32} {h : PmH} (hr : roI K m k c po S most h) : RD h := by
  obtain ⟨A, hA, a1, -⟩ := hr
  exact ⟨A, hA, a1.1, a1.2.1⟩
