theorem pny_ev2 {S : Int32} {t : Bool} {h : PmH} (hS : inB 8128 S) : Ev pmT 77 [.int S, .int (b01 t)] h (some (.int (coS S t))) h := by
  have hn : -S ≤ 0 ↔ ¬ S < 0 := by
    unfold inB at hS
    rw [Int32.le_iff_toInt_le, Int32.lt_iff_toInt_lt, i_neg (by omega), show (0 : Int32).toInt = 0 from rfl]
    omega
  refine Ev.of (es := cd_77) (ml := 3) (lv := [some (.int S), some (.int (b01 t)), none]) rfl rfl rfl ?_
  refine go_of ?_
  unfold coS
  cases t
  · rw [if_neg (by decide)]
    show GoP pmT none cd_77 0 [some (.int S), some (.int 0), none] _ _ _
    by_cases h0 : S < 0
    · rw [if_pos h0]
      refine gp_n 1 (j' := 1) (lv' := [some (.int S), some (.int 0), none]) (st' := [.int 0]) (h' := h) rfl ?_
      refine gp_of (fun _ k9 => g_iff rfl (show ¬ (¬ (0 : Int32) = (0 : Int32)) from by decide) k9) ?_
      refine gp_n 5 (j' := 8) (lv' := [some (.int S), some (.int 0), some (.int (-S))]) (st' := [.int (-S)]) (h' := h) rfl ?_
      refine gp_of (fun _ k9 => g_iff rfl (show ¬ ((-S) ≤ (0 : Int32)) from fun z => hn.mp z h0) k9) ?_
      refine gp_n 2 (j' := 12) (lv' := [some (.int S), some (.int 0), some (.int (-S))]) (st' := [.int (-S)]) (h' := h) rfl ?_
      refine gp_done (g_ret rfl) ?_
      rfl
    · rw [if_neg h0]
      refine gp_n 1 (j' := 1) (lv' := [some (.int S), some (.int 0), none]) (st' := [.int 0]) (h' := h) rfl ?_
      refine gp_of (fun _ k9 => g_iff rfl (show ¬ (¬ (0 : Int32) = (0 : Int32)) from by decide) k9) ?_
      refine gp_n 5 (j' := 8) (lv' := [some (.int S), some (.int 0), some (.int (-S))]) (st' := [.int (-S)]) (h' := h) rfl ?_
      refine gp_of (fun _ k9 => g_ift rfl (show (-S) ≤ (0 : Int32) from hn.mpr h0) k9) ?_
      refine gp_n 1 (j' := 12) (lv' := [some (.int S), some (.int 0), some (.int (-S))]) (st' := [.int 0]) (h' := h) rfl ?_
      refine gp_done (g_ret rfl) ?_
      rfl
  · rw [if_pos rfl]
    show GoP pmT none cd_77 0 [some (.int S), some (.int 1), none] _ _ _
    by_cases h0 : 0 < S
    · rw [if_pos h0]
      refine gp_n 1 (j' := 1) (lv' := [some (.int S), some (.int 1), none]) (st' := [.int 1]) (h' := h) rfl ?_
      refine gp_of (fun _ k9 => g_ift rfl (show ¬ (1 : Int32) = (0 : Int32) from by decide) k9) ?_
      refine gp_n 3 (j' := 8) (lv' := [some (.int S), some (.int 1), some (.int S)]) (st' := [.int S]) (h' := h) rfl ?_
      refine gp_of (fun _ k9 => g_iff rfl (show ¬ (S ≤ (0 : Int32)) from Int32.not_le.mpr h0) k9) ?_
      refine gp_n 2 (j' := 12) (lv' := [some (.int S), some (.int 1), some (.int S)]) (st' := [.int S]) (h' := h) rfl ?_
      refine gp_done (g_ret rfl) ?_
      rfl
    · rw [if_neg h0]
      refine gp_n 1 (j' := 1) (lv' := [some (.int S), some (.int 1), none]) (st' := [.int 1]) (h' := h) rfl ?_
      refine gp_of (fun _ k9 => g_ift rfl (show ¬ (1 : Int32) = (0 : Int32) from by decide) k9) ?_
      refine gp_n 3 (j' := 8) (lv' := [some (.int S), some (.int 1), some (.int S)]) (st' := [.int S]) (h' := h) rfl ?_
      refine gp_of (fun _ k9 => g_ift rfl (show S ≤ (0 : Int32) from Int32.not_lt.mp h0) k9) ?_
      refine gp_n 1 (j' := 12) (lv' := [some (.int S), some (.int 1), some (.int S)]) (st' := [.int 0]) (h' := h) rfl ?_
      refine gp_done (g_ret rfl) ?_
      rfl
theorem nI_dec (a : Nat) : nI (a + 1) + (-1) = nI a := by
  have := nI_pred a
  rw [Int32.sub_eq_add_neg] at this
  exact this
theorem so2_go {q : Nat} {Kc : Nat → Int32} {o : Nat → Nat} {fl : Nat → Nat → Int64} {fr : Nat → Nat → Option Nat} (hq : q < 16) (ho : ∀ a, a < q → o a < q) (k10 : fr 13 10 = some 28) (k11 : fr 13 11 = some 29) : ∀ (a : Nat) (fi : Nat → Nat → Int32), a ≤ q → (∀ x, x < a → fi 29 x = nI (o x)) → (∀ x, a < x → x ≤ q → fi 29 x = nI (o (x - 1))) → (∀ x, x ≤ q → fi 28 x = Kc x) → ∃ fi', (∀ x, x ≤ q → fi' 29 x = nI (if x < insAt (fun t => (Kc t).toInt) o q a then o x else if x = insAt (fun t => (Kc t).toInt) o q a then q else o (x - 1))) ∧ (∀ p s, ¬ (p = 29) → fi' p s = fi p s) ∧ Go pmT none cd_102 2 [some (.ref 13), some (.int (nI q)), some (.int (nI a))] [] (shT, fi, fl, fr) (none, (shT, fi', fl, fr)) := by
  intro a
  induction a with
  | zero =>
    intro fi ha h1 h2 h3
    refine ⟨pm_u2 fi 29 0 (nI q), fun x hx => ?_, fun p s hp => wl_ne (by omega), ?_⟩
    · rw [insAt, if_neg (by omega)]
      by_cases e : x = 0
      · rw [if_pos e, e]
        exact u2_eq
      · rw [if_neg e]
        exact (show pm_u2 fi 29 0 (nI q) 29 x = fi 29 x from wl_ne (by omega)).trans (h2 x (by omega) hx)
    refine go_of ?_
    refine gp_n 1 (j' := 3) (lv' := [some (.ref 13), some (.int (nI q)), some (.int (nI 0))]) (st' := [.int (nI 0)]) (h' := (shT, fi, fl, fr)) rfl ?_
    refine gp_of (fun _ k9 => g_ift rfl (show (nI 0) ≤ (0 : Int32) from Int32.le_refl _) k9) ?_
    refine gp_n 1 (j' := 31) (lv' := [some (.ref 13), some (.int (nI q)), some (.int (nI 0))]) (st' := [.ref 13]) (h' := (shT, fi, fl, fr)) rfl ?_
    refine gp_of (fun _ k9 => g_getR (q' := 29) rfl rfl (by decide) k11 k9) ?_
    refine gp_n 2 (j' := 34) (lv' := [some (.ref 13), some (.int (nI q)), some (.int (nI 0))]) (st' := [.int (nI q), .int (nI 0), .ref 29]) (h' := (shT, fi, fl, fr)) rfl ?_
    refine gp_of (fun _ k9 => g_iast (k := 0) rfl rfl (rfl) (by decide) (by decide) k9) ?_
    refine gp_done (g_vret rfl) ?_
    rfl
  | succ a ih =>
    intro fi ha h1 h2 h3
    have oa := h1 a (by omega)
    have ob := ho a (by omega)
    have ka := h3 (o a) (by omega)
    have kq := h3 q (Nat.le_refl _)
    have np : nI (a + 1) - 1 = nI a := nI_pred a
    rw [insAt]
    by_cases hc : (Kc q).toInt < (Kc (o a)).toInt
    · rw [if_pos hc]
      obtain ⟨fi', a1, a2, a3⟩ := ih (pm_u2 fi 29 (a + 1) (nI (o a))) (by omega) (fun x hx => (show pm_u2 fi 29 (a + 1) (nI (o a)) 29 x = fi 29 x from wl_ne (by omega)).trans (h1 x (by omega))) (fun x x1 x2 => by
        by_cases e : x = a + 1
        · rw [e, Nat.add_sub_cancel]
          exact u2_eq
        · exact (show pm_u2 fi 29 (a + 1) (nI (o a)) 29 x = fi 29 x from wl_ne (by omega)).trans (h2 x (by omega) x2)) h3
      refine ⟨fi', a1, fun p s hp => (a2 p s hp).trans (wl_ne (by omega)), ?_⟩
      have hc : Kc q < Kc (o a) := Int32.lt_iff_toInt_lt.mpr hc
      generalize Kc (o a) = x at *
      generalize Kc q = y at *
      generalize o a = oa1 at *
      refine go_of ?_
      refine gp_n 1 (j' := 3) (lv' := [some (.ref 13), some (.int (nI q)), some (.int (nI (a + 1)))]) (st' := [.int (nI (a + 1))]) (h' := (shT, fi, fl, fr)) rfl ?_
      refine gp_of (fun _ k9 => g_iff rfl (show ¬ ((nI (a + 1)) ≤ (0 : Int32)) from nI_nle (by omega) (by omega)) k9) ?_
      refine gp_n 1 (j' := 5) (lv' := [some (.ref 13), some (.int (nI q)), some (.int (nI (a + 1)))]) (st' := [.ref 13]) (h' := (shT, fi, fl, fr)) rfl ?_
      refine gp_of (fun _ k9 => g_getR (q' := 28) rfl rfl (by decide) k10 k9) ?_
      refine gp_n 1 (j' := 7) (lv' := [some (.ref 13), some (.int (nI q)), some (.int (nI (a + 1)))]) (st' := [.ref 13, .ref 28]) (h' := (shT, fi, fl, fr)) rfl ?_
      refine gp_of (fun _ k9 => g_getR (q' := 29) rfl rfl (by decide) k11 k9) ?_
      refine gp_n 3 (j' := 11) (lv' := [some (.ref 13), some (.int (nI q)), some (.int (nI (a + 1)))]) (st' := [.int ((nI (a + 1)) - 1), .ref 29, .ref 28]) (h' := (shT, fi, fl, fr)) rfl ?_
      refine gp_of (fun _ k9 => g_iald (k := a) (x := nI oa1) rfl rfl (np) (by omega) (by decide) (oa) k9) ?_
      refine gp_of (fun _ k9 => g_iald (k := oa1) (x := x) rfl rfl (rfl) (by omega) (by decide) (ka) k9) ?_
      refine gp_n 1 (j' := 14) (lv' := [some (.ref 13), some (.int (nI q)), some (.int (nI (a + 1)))]) (st' := [.ref 13, .int x]) (h' := (shT, fi, fl, fr)) rfl ?_
      refine gp_of (fun _ k9 => g_getR (q' := 28) rfl rfl (by decide) k10 k9) ?_
      refine gp_n 1 (j' := 16) (lv' := [some (.ref 13), some (.int (nI q)), some (.int (nI (a + 1)))]) (st' := [.int (nI q), .ref 28, .int x]) (h' := (shT, fi, fl, fr)) rfl ?_
      refine gp_of (fun _ k9 => g_iald (k := q) (x := y) rfl rfl (rfl) (by omega) (by decide) (kq) k9) ?_
      refine gp_of (fun _ k9 => g_icf rfl (show ¬ (x ≤ y) from Int32.not_le.mpr hc) k9) ?_
      refine gp_n 1 (j' := 19) (lv' := [some (.ref 13), some (.int (nI q)), some (.int (nI (a + 1)))]) (st' := [.ref 13]) (h' := (shT, fi, fl, fr)) rfl ?_
      refine gp_of (fun _ k9 => g_getR (q' := 29) rfl rfl (by decide) k11 k9) ?_
      refine gp_n 2 (j' := 22) (lv' := [some (.ref 13), some (.int (nI q)), some (.int (nI (a + 1)))]) (st' := [.ref 13, .int (nI (a + 1)), .ref 29]) (h' := (shT, fi, fl, fr)) rfl ?_
      refine gp_of (fun _ k9 => g_getR (q' := 29) rfl rfl (by decide) k11 k9) ?_
      refine gp_n 3 (j' := 26) (lv' := [some (.ref 13), some (.int (nI q)), some (.int (nI (a + 1)))]) (st' := [.int ((nI (a + 1)) - 1), .ref 29, .int (nI (a + 1)), .ref 29]) (h' := (shT, fi, fl, fr)) rfl ?_
      refine gp_of (fun _ k9 => g_iald (k := a) (x := nI oa1) rfl rfl (np) (by omega) (by decide) (oa) k9) ?_
      refine gp_of (fun _ k9 => g_iast (k := a + 1) rfl rfl (rfl) (by omega) (by decide) k9) ?_
      refine gp_n 2 (j' := 2) (lv' := [some (.ref 13), some (.int (nI q)), some (.int ((nI (a + 1)) + (-1)))]) (st' := []) (h' := (shT, pm_u2 fi 29 (a + 1) (nI oa1), fl, fr)) rfl ?_
      rw [nI_dec a]
      exact gp_done a3 rfl
    · rw [if_neg hc]
      refine ⟨pm_u2 fi 29 (a + 1) (nI q), fun x hx => ?_, fun p s hp => wl_ne (by omega), ?_⟩
      · by_cases c1 : x < a + 1
        · rw [if_pos c1]
          exact (show pm_u2 fi 29 (a + 1) (nI q) 29 x = fi 29 x from wl_ne (by omega)).trans (h1 x c1)
        · rw [if_neg c1]
          by_cases e : x = a + 1
          · rw [if_pos e, e]
            exact u2_eq
          · rw [if_neg e]
            exact (show pm_u2 fi 29 (a + 1) (nI q) 29 x = fi 29 x from wl_ne (by omega)).trans (h2 x (by omega) hx)
      have hc : Kc (o a) ≤ Kc q := Int32.le_iff_toInt_le.mpr (by omega)
      generalize Kc (o a) = x at *
      generalize Kc q = y at *
      generalize o a = oa1 at *
      refine go_of ?_
      refine gp_n 1 (j' := 3) (lv' := [some (.ref 13), some (.int (nI q)), some (.int (nI (a + 1)))]) (st' := [.int (nI (a + 1))]) (h' := (shT, fi, fl, fr)) rfl ?_
      refine gp_of (fun _ k9 => g_iff rfl (show ¬ ((nI (a + 1)) ≤ (0 : Int32)) from nI_nle (by omega) (by omega)) k9) ?_
      refine gp_n 1 (j' := 5) (lv' := [some (.ref 13), some (.int (nI q)), some (.int (nI (a + 1)))]) (st' := [.ref 13]) (h' := (shT, fi, fl, fr)) rfl ?_
      refine gp_of (fun _ k9 => g_getR (q' := 28) rfl rfl (by decide) k10 k9) ?_
      refine gp_n 1 (j' := 7) (lv' := [some (.ref 13), some (.int (nI q)), some (.int (nI (a + 1)))]) (st' := [.ref 13, .ref 28]) (h' := (shT, fi, fl, fr)) rfl ?_
      refine gp_of (fun _ k9 => g_getR (q' := 29) rfl rfl (by decide) k11 k9) ?_
      refine gp_n 3 (j' := 11) (lv' := [some (.ref 13), some (.int (nI q)), some (.int (nI (a + 1)))]) (st' := [.int ((nI (a + 1)) - 1), .ref 29, .ref 28]) (h' := (shT, fi, fl, fr)) rfl ?_
      refine gp_of (fun _ k9 => g_iald (k := a) (x := nI oa1) rfl rfl (np) (by omega) (by decide) (oa) k9) ?_
      refine gp_of (fun _ k9 => g_iald (k := oa1) (x := x) rfl rfl (rfl) (by omega) (by decide) (ka) k9) ?_
      refine gp_n 1 (j' := 14) (lv' := [some (.ref 13), some (.int (nI q)), some (.int (nI (a + 1)))]) (st' := [.ref 13, .int x]) (h' := (shT, fi, fl, fr)) rfl ?_
      refine gp_of (fun _ k9 => g_getR (q' := 28) rfl rfl (by decide) k10 k9) ?_
      refine gp_n 1 (j' := 16) (lv' := [some (.ref 13), some (.int (nI q)), some (.int (nI (a + 1)))]) (st' := [.int (nI q), .ref 28, .int x]) (h' := (shT, fi, fl, fr)) rfl ?_
      refine gp_of (fun _ k9 => g_iald (k := q) (x := y) rfl rfl (rfl) (by omega) (by decide) (kq) k9) ?_
      refine gp_of (fun _ k9 => g_ict rfl (show x ≤ y from hc) k9) ?_
      refine gp_n 1 (j' := 31) (lv' := [some (.ref 13), some (.int (nI q)), some (.int (nI (a + 1)))]) (st' := [.ref 13]) (h' := (shT, fi, fl, fr)) rfl ?_
      refine gp_of (fun _ k9 => g_getR (q' := 29) rfl rfl (by decide) k11 k9) ?_
      refine gp_n 2 (j' := 34) (lv' := [some (.ref 13), some (.int (nI q)), some (.int (nI (a + 1)))]) (st' := [.int (nI q), .int (nI (a + 1)), .ref 29]) (h' := (shT, fi, fl, fr)) rfl ?_
      refine gp_of (fun _ k9 => g_iast (k := a + 1) rfl rfl (rfl) (by omega) (by decide) k9) ?_
      refine gp_done (g_vret rfl) ?_
      rfl
theorem so2_ev {q : Nat} {Kc : Nat → Int32} {o : Nat → Nat} {fi : Nat → Nat → Int32} {fl : Nat → Nat → Int64} {fr : Nat → Nat → Option Nat} (hq : q < 16) (ho : ∀ a, a < q → o a < q) (k10 : fr 13 10 = some 28) (k11 : fr 13 11 = some 29) (h1 : ∀ x, x < q → fi 29 x = nI (o x)) (h3 : ∀ x, x ≤ q → fi 28 x = Kc x) : ∃ fi', (∀ x, x < q + 1 → fi' 29 x = nI (insO (fun t => (Kc t).toInt) o q x)) ∧ (∀ p s, ¬ (p = 29) → fi' p s = fi p s) ∧ Ev pmT 102 [.ref 13, .int (nI q)] (shT, fi, fl, fr) none (shT, fi', fl, fr) := by
  obtain ⟨fi', a1, a2, a3⟩ := so2_go (fl := fl) hq ho k10 k11 q fi (Nat.le_refl _) h1 (fun x h1 h2 => absurd h1 (by omega)) h3
  refine ⟨fi', fun x hx => a1 x (by omega), a2, ?_⟩
  refine Ev.of (es := cd_102) (ml := 3) (lv := [some (.ref 13), some (.int (nI q)), none]) rfl rfl rfl ?_
  refine go_of ?_
  refine gp_n 2 (j' := 2) (lv' := [some (.ref 13), some (.int (nI q)), some (.int (nI q))]) (st' := []) (h' := (shT, fi, fl, fr)) rfl ?_
  exact gp_done a3 rfl
theorem pt_ev {c p : Nat} {x y : Int32} {fi : Nat → Nat → Int32} {fl : Nat → Nat → Int64} {fr : Nat → Nat → Option Nat} (hc : c < 64) (hp : p < 8) (k1 : fr 22 1 = some 24) (k2 : fr 22 2 = some 25) : Ev pmT 99 [.ref 22, .int (nI c), .int (nI p), .int x, .int y] (shT, fi, fl, fr) none (shT, pm_u2 (pm_u2 fi 24 (8 * c + p) x) 25 (8 * c + p) y, fl, fr) := by
  have i8 := ix8_e c hc p hp
  refine Ev.of (es := cd_99) (ml := 6) (lv := [some (.ref 22), some (.int (nI c)), some (.int (nI p)), some (.int x), some (.int y), none]) rfl rfl rfl ?_
  refine go_of ?_
  refine gp_n 5 (j' := 5) (lv' := [some (.ref 22), some (.int (nI c)), some (.int (nI p)), some (.int x), some (.int y), none]) (st' := [.int (((nI c) * 8) + (nI p))]) (h' := (shT, fi, fl, fr)) rfl ?_
  rw [i8]
  refine gp_n 2 (j' := 7) (lv' := [some (.ref 22), some (.int (nI c)), some (.int (nI p)), some (.int x), some (.int y), some (.int (nI (8 * c + p)))]) (st' := [.ref 22]) (h' := (shT, fi, fl, fr)) rfl ?_
  refine gp_of (fun _ k9 => g_getR (q' := 24) rfl rfl (by decide) k1 k9) ?_
  refine gp_n 2 (j' := 10) (lv' := [some (.ref 22), some (.int (nI c)), some (.int (nI p)), some (.int x), some (.int y), some (.int (nI (8 * c + p)))]) (st' := [.int x, .int (nI (8 * c + p)), .ref 24]) (h' := (shT, fi, fl, fr)) rfl ?_
  refine gp_of (fun _ k9 => g_iast (k := 8 * c + p) rfl rfl (rfl) (by omega) (by decide) k9) ?_
  refine gp_n 1 (j' := 12) (lv' := [some (.ref 22), some (.int (nI c)), some (.int (nI p)), some (.int x), some (.int y), some (.int (nI (8 * c + p)))]) (st' := [.ref 22]) (h' := (shT, pm_u2 fi 24 (8 * c + p) x, fl, fr)) rfl ?_
  refine gp_of (fun _ k9 => g_getR (q' := 25) rfl rfl (by decide) k2 k9) ?_
  refine gp_n 2 (j' := 15) (lv' := [some (.ref 22), some (.int (nI c)), some (.int (nI p)), some (.int x), some (.int y), some (.int (nI (8 * c + p)))]) (st' := [.int y, .int (nI (8 * c + p)), .ref 25]) (h' := (shT, pm_u2 fi 24 (8 * c + p) x, fl, fr)) rfl ?_
  refine gp_of (fun _ k9 => g_iast (k := 8 * c + p) rfl rfl (rfl) (by omega) (by decide) k9) ?_
  refine gp_done (g_vret rfl) ?_
  rfl
theorem ac_go_14 {p t : Nat} {w : Int64} {x : Int32} {fl : Nat → Nat → Int64} {fr : Nat → Nat → Option Nat} (hp : p < 8) (ht : t < 8) (kA : fr 14 3 = some 17) (kN : fr 18 3 = some 21) : ∀ (n l : Nat) (fi : Nat → Nat → Int32) (l7 : Option Value), l + n = 7 → fi 18 0 = nI t → ∃ fi', (∀ l', l ≤ l' → l' < 7 → fi' 21 (8 * l' + t) = fi 17 (8 * l' + p)) ∧ (∀ q s, ¬ (q = 21 ∧ ∃ l', l ≤ l' ∧ s = 8 * l' + t) → fi' q s = fi q s) ∧ ∀ r, (∀ l7, Go pmT none cd_104 41 [some (.ref 18), some (.ref 14), some (.int (nI p)), some (.long w), none, some (.int x), some (.int (nI 7)), l7] [] (shT, fi', fl, fr) r) → Go pmT none cd_104 19 [some (.ref 18), some (.ref 14), some (.int (nI p)), some (.long w), none, some (.int x), some (.int (nI l)), l7] [] (shT, fi, fl, fr) r := by
  intro n
  induction n with
  | zero =>
    intro l fi l7 hl ct
    have hl : l = 7 := by omega
    subst hl
    refine ⟨fi, fun l' h1 h2 => absurd h2 (by omega), fun _ _ _ => rfl, fun r k => ?_⟩
    refine go_of ?_
    refine gp_n 2 (j' := 21) (lv' := [some (.ref 18), some (.ref 14), some (.int (nI p)), some (.long w), none, some (.int x), some (.int (nI 7)), l7]) (st' := [.int 6, .int (nI 7)]) (h' := (shT, fi, fl, fr)) rfl ?_
    refine gp_of (fun _ k9 => g_ict rfl (show (6 : Int32) < (nI 7) from by decide) k9) ?_
    exact gp_done (k _) rfl
  | succ n ih =>
    intro l fi l7 hl ct
    have i8 := ix8_e l (by omega) t ht
    have j8 := ix8_e l (by omega) p hp
    obtain ⟨fi', a1, a2, a3⟩ := ih (l + 1) (pm_u2 fi 21 (8 * l + t) (fi 17 (8 * l + p))) (some (.int (nI l * 8))) (by omega) ct
    refine ⟨fi', fun l' h1 h2 => ?_, fun q s hq => (a2 q s (fun ⟨z1, l', z2, z3⟩ => hq ⟨z1, l', by omega, z3⟩)).trans (wl_ne (fun ⟨z1, z2⟩ => hq ⟨z1, l, Nat.le_refl _, z2⟩)), fun r k => ?_⟩
    · by_cases e : l' = l
      · subst e
        exact (a2 21 _ (fun ⟨_, l2, z2, z3⟩ => by omega)).trans u2_eq
      · exact (a1 l' (by omega) h2).trans (wl_ne (by omega))
    have g := a3 r k
    refine go_of ?_
    refine gp_n 2 (j' := 21) (lv' := [some (.ref 18), some (.ref 14), some (.int (nI p)), some (.long w), none, some (.int x), some (.int (nI l)), l7]) (st' := [.int 6, .int (nI l)]) (h' := (shT, fi, fl, fr)) rfl ?_
    refine gp_of (fun _ k9 => g_icf rfl (show ¬ ((6 : Int32) < (nI l)) from nI_nlt (a := 6) (by omega) (by omega)) k9) ?_
    refine gp_n 5 (j' := 27) (lv' := [some (.ref 18), some (.ref 14), some (.int (nI p)), some (.long w), none, some (.int x), some (.int (nI l)), some (.int ((nI l) * 8))]) (st' := [.ref 18]) (h' := (shT, fi, fl, fr)) rfl ?_
    refine gp_of (fun _ k9 => g_getR (q' := 21) rfl rfl (by decide) kN k9) ?_
    refine gp_n 2 (j' := 30) (lv' := [some (.ref 18), some (.ref 14), some (.int (nI p)), some (.long w), none, some (.int x), some (.int (nI l)), some (.int ((nI l) * 8))]) (st' := [.ref 18, .int ((nI l) * 8), .ref 21]) (h' := (shT, fi, fl, fr)) rfl ?_
    refine gp_of (fun _ k9 => g_getI (x := nI t) rfl (Or.inl rfl) rfl (by decide) (ct) k9) ?_
    refine gp_n 2 (j' := 33) (lv' := [some (.ref 18), some (.ref 14), some (.int (nI p)), some (.long w), none, some (.int x), some (.int (nI l)), some (.int ((nI l) * 8))]) (st' := [.ref 14, .int (((nI l) * 8) + (nI t)), .ref 21]) (h' := (shT, fi, fl, fr)) rfl ?_
    refine gp_of (fun _ k9 => g_getR (q' := 17) rfl rfl (by decide) kA k9) ?_
    refine gp_n 3 (j' := 37) (lv' := [some (.ref 18), some (.ref 14), some (.int (nI p)), some (.long w), none, some (.int x), some (.int (nI l)), some (.int ((nI l) * 8))]) (st' := [.int (((nI l) * 8) + (nI p)), .ref 17, .int (((nI l) * 8) + (nI t)), .ref 21]) (h' := (shT, fi, fl, fr)) rfl ?_
    refine gp_of (fun _ k9 => g_iald (k := 8 * l + p) (x := fi 17 (8 * l + p)) rfl rfl (j8) (by omega) (by decide) (rfl) k9) ?_
    refine gp_of (fun _ k9 => g_iast (k := 8 * l + t) rfl rfl (i8) (by omega) (by decide) k9) ?_
    refine gp_n 2 (j' := 19) (lv' := [some (.ref 18), some (.ref 14), some (.int (nI p)), some (.long w), none, some (.int x), some (.int ((nI l) + 1)), some (.int ((nI l) * 8))]) (st' := []) (h' := (shT, pm_u2 fi 21 (8 * l + t) (fi 17 (8 * l + p)), fl, fr)) rfl ?_
    rw [nI_1]
    exact gp_done g rfl
theorem ac_ev_14 {p t : Nat} {w : Int64} {x : Int32} {fi : Nat → Nat → Int32} {fl : Nat → Nat → Int64} {fr : Nat → Nat → Option Nat} (hp : p < 8) (ht : t < 8) (kA : fr 14 3 = some 17) (kN : fr 18 3 = some 21) (k1 : fr 18 1 = some 19) (k2 : fr 18 2 = some 20) (ct : fi 18 0 = nI t) : ∃ fi', (fi' 18 0 = nI (t + 1) ∧ fi' 20 t = x ∧ ∀ l, l < 7 → fi' 21 (8 * l + t) = fi 17 (8 * l + p)) ∧ (∀ q s, ¬ (q = 21 ∧ ∃ l', s = 8 * l' + t) → ¬ (q = 20 ∧ s = t) → ¬ (q = 18 ∧ s = 0) → fi' q s = fi q s) ∧ Ev pmT 104 [.ref 18, .ref 14, .int (nI p), .long w, .int x] (shT, fi, fl, fr) none (shT, fi', pm_u2 fl 19 t w, fr) := by
  obtain ⟨fi', a1, a2, a3⟩ := ac_go_14 (w := w) (x := x) (fl := pm_u2 fl 19 t w) (fr := fr) hp ht kA kN 7 0 (pm_u2 fi 20 t x) none (by omega) ((show pm_u2 fi 20 t x 18 0 = fi 18 0 from wl_ne (by omega)).trans ct)
  refine ⟨pm_u2 fi' 18 0 (nI (t + 1)), ⟨u2_eq, (show pm_u2 fi' 18 0 (nI (t + 1)) 20 t = fi' 20 t from wl_ne (by omega)).trans ((a2 20 t (fun z => absurd z.1 (by decide))).trans u2_eq), fun l hl => (show pm_u2 fi' 18 0 (nI (t + 1)) 21 (8 * l + t) = fi' 21 (8 * l + t) from wl_ne (by omega)).trans ((a1 l (Nat.zero_le l) hl).trans (wl_ne (by omega)))⟩, fun q s z1 z2 z3 => (show pm_u2 fi' 18 0 (nI (t + 1)) q s = fi' q s from wl_ne z3).trans ((a2 q s (fun ⟨y1, l', _, y3⟩ => z1 ⟨y1, l', y3⟩)).trans (wl_ne z2)), ?_⟩
  have ct2 : fi' 18 0 = nI t := (a2 18 0 (fun z => absurd z.1 (by decide))).trans ((show pm_u2 fi 20 t x 18 0 = fi 18 0 from wl_ne (by omega)).trans ct)
  have g := a3 (none, (shT, pm_u2 fi' 18 0 (nI (t + 1)), pm_u2 fl 19 t w, fr)) (fun l7 => by
    refine go_of ?_
    refine gp_n 2 (j' := 43) (lv' := [some (.ref 18), some (.ref 14), some (.int (nI p)), some (.long w), none, some (.int x), some (.int (nI 7)), l7]) (st' := [.ref 18, .ref 18]) (h' := (shT, fi', (pm_u2 fl 19 t w), fr)) rfl ?_
    refine gp_of (fun _ k9 => g_getI (x := nI t) rfl (Or.inl rfl) rfl (by decide) (ct2) k9) ?_
    refine gp_n 2 (j' := 46) (lv' := [some (.ref 18), some (.ref 14), some (.int (nI p)), some (.long w), none, some (.int x), some (.int (nI 7)), l7]) (st' := [.int ((nI t) + 1), .ref 18]) (h' := (shT, fi', (pm_u2 fl 19 t w), fr)) rfl ?_
    rw [nI_1]
    refine gp_of (fun _ k9 => g_putI rfl (Or.inl rfl) rfl (by decide) k9) ?_
    refine gp_done (g_vret rfl) ?_
    rfl)
  refine Ev.of (es := cd_104) (ml := 8) (lv := [some (.ref 18), some (.ref 14), some (.int (nI p)), some (.long w), none, some (.int x), none, none]) rfl rfl rfl ?_
  refine go_of ?_
  refine gp_n 1 (j' := 1) (lv' := [some (.ref 18), some (.ref 14), some (.int (nI p)), some (.long w), none, some (.int x), none, none]) (st' := [.ref 18]) (h' := (shT, fi, fl, fr)) rfl ?_
  refine gp_of (fun _ k9 => g_getI (x := nI t) rfl (Or.inl rfl) rfl (by decide) (ct) k9) ?_
  refine gp_n 1 (j' := 3) (lv' := [some (.ref 18), some (.ref 14), some (.int (nI p)), some (.long w), none, some (.int x), none, none]) (st' := [.int 8, .int (nI t)]) (h' := (shT, fi, fl, fr)) rfl ?_
  refine gp_of (fun _ k9 => g_ict rfl (show (nI t) < (8 : Int32) from nI_lt (b := 8) (by omega) (by omega)) k9) ?_
  refine gp_n 1 (j' := 6) (lv' := [some (.ref 18), some (.ref 14), some (.int (nI p)), some (.long w), none, some (.int x), none, none]) (st' := [.ref 18]) (h' := (shT, fi, fl, fr)) rfl ?_
  refine gp_of (fun _ k9 => g_getR (q' := 19) rfl rfl (by decide) k1 k9) ?_
  refine gp_n 1 (j' := 8) (lv' := [some (.ref 18), some (.ref 14), some (.int (nI p)), some (.long w), none, some (.int x), none, none]) (st' := [.ref 18, .ref 19]) (h' := (shT, fi, fl, fr)) rfl ?_
  refine gp_of (fun _ k9 => g_getI (x := nI t) rfl (Or.inl rfl) rfl (by decide) (ct) k9) ?_
  refine gp_n 1 (j' := 10) (lv' := [some (.ref 18), some (.ref 14), some (.int (nI p)), some (.long w), none, some (.int x), none, none]) (st' := [.long w, .int (nI t), .ref 19]) (h' := (shT, fi, fl, fr)) rfl ?_
  refine gp_of (fun _ k9 => g_last (k := t) rfl rfl (rfl) (by omega) (by decide) k9) ?_
  refine gp_n 1 (j' := 12) (lv' := [some (.ref 18), some (.ref 14), some (.int (nI p)), some (.long w), none, some (.int x), none, none]) (st' := [.ref 18]) (h' := (shT, fi, pm_u2 fl 19 t w, fr)) rfl ?_
  refine gp_of (fun _ k9 => g_getR (q' := 20) rfl rfl (by decide) k2 k9) ?_
  refine gp_n 1 (j' := 14) (lv' := [some (.ref 18), some (.ref 14), some (.int (nI p)), some (.long w), none, some (.int x), none, none]) (st' := [.ref 18, .ref 20]) (h' := (shT, fi, pm_u2 fl 19 t w, fr)) rfl ?_
  refine gp_of (fun _ k9 => g_getI (x := nI t) rfl (Or.inl rfl) rfl (by decide) (ct) k9) ?_
  refine gp_n 1 (j' := 16) (lv' := [some (.ref 18), some (.ref 14), some (.int (nI p)), some (.long w), none, some (.int x), none, none]) (st' := [.int x, .int (nI t), .ref 20]) (h' := (shT, fi, pm_u2 fl 19 t w, fr)) rfl ?_
  refine gp_of (fun _ k9 => g_iast (k := t) rfl rfl (rfl) (by omega) (by decide) k9) ?_
  refine gp_n 2 (j' := 19) (lv' := [some (.ref 18), some (.ref 14), some (.int (nI p)), some (.long w), none, some (.int x), some (.int (nI 0)), none]) (st' := []) (h' := (shT, pm_u2 fi 20 t x, pm_u2 fl 19 t w, fr)) rfl ?_
  exact gp_done g rfl
theorem ac_go_18 {p t : Nat} {w : Int64} {x : Int32} {fl : Nat → Nat → Int64} {fr : Nat → Nat → Option Nat} (hp : p < 8) (ht : t < 8) (kA : fr 18 3 = some 21) (kN : fr 14 3 = some 17) : ∀ (n l : Nat) (fi : Nat → Nat → Int32) (l7 : Option Value), l + n = 7 → fi 14 0 = nI t → ∃ fi', (∀ l', l ≤ l' → l' < 7 → fi' 17 (8 * l' + t) = fi 21 (8 * l' + p)) ∧ (∀ q s, ¬ (q = 17 ∧ ∃ l', l ≤ l' ∧ s = 8 * l' + t) → fi' q s = fi q s) ∧ ∀ r, (∀ l7, Go pmT none cd_104 41 [some (.ref 14), some (.ref 18), some (.int (nI p)), some (.long w), none, some (.int x), some (.int (nI 7)), l7] [] (shT, fi', fl, fr) r) → Go pmT none cd_104 19 [some (.ref 14), some (.ref 18), some (.int (nI p)), some (.long w), none, some (.int x), some (.int (nI l)), l7] [] (shT, fi, fl, fr) r := by
  intro n
  induction n with
  | zero =>
    intro l fi l7 hl ct
    have hl : l = 7 := by omega
    subst hl
    refine ⟨fi, fun l' h1 h2 => absurd h2 (by omega), fun _ _ _ => rfl, fun r k => ?_⟩
    refine go_of ?_
    refine gp_n 2 (j' := 21) (lv' := [some (.ref 14), some (.ref 18), some (.int (nI p)), some (.long w), none, some (.int x), some (.int (nI 7)), l7]) (st' := [.int 6, .int (nI 7)]) (h' := (shT, fi, fl, fr)) rfl ?_
    refine gp_of (fun _ k9 => g_ict rfl (show (6 : Int32) < (nI 7) from by decide) k9) ?_
    exact gp_done (k _) rfl
  | succ n ih =>
    intro l fi l7 hl ct
    have i8 := ix8_e l (by omega) t ht
    have j8 := ix8_e l (by omega) p hp
    obtain ⟨fi', a1, a2, a3⟩ := ih (l + 1) (pm_u2 fi 17 (8 * l + t) (fi 21 (8 * l + p))) (some (.int (nI l * 8))) (by omega) ct
    refine ⟨fi', fun l' h1 h2 => ?_, fun q s hq => (a2 q s (fun ⟨z1, l', z2, z3⟩ => hq ⟨z1, l', by omega, z3⟩)).trans (wl_ne (fun ⟨z1, z2⟩ => hq ⟨z1, l, Nat.le_refl _, z2⟩)), fun r k => ?_⟩
    · by_cases e : l' = l
      · subst e
        exact (a2 17 _ (fun ⟨_, l2, z2, z3⟩ => by omega)).trans u2_eq
      · exact (a1 l' (by omega) h2).trans (wl_ne (by omega))
    have g := a3 r k
    refine go_of ?_
    refine gp_n 2 (j' := 21) (lv' := [some (.ref 14), some (.ref 18), some (.int (nI p)), some (.long w), none, some (.int x), some (.int (nI l)), l7]) (st' := [.int 6, .int (nI l)]) (h' := (shT, fi, fl, fr)) rfl ?_
    refine gp_of (fun _ k9 => g_icf rfl (show ¬ ((6 : Int32) < (nI l)) from nI_nlt (a := 6) (by omega) (by omega)) k9) ?_
    refine gp_n 5 (j' := 27) (lv' := [some (.ref 14), some (.ref 18), some (.int (nI p)), some (.long w), none, some (.int x), some (.int (nI l)), some (.int ((nI l) * 8))]) (st' := [.ref 14]) (h' := (shT, fi, fl, fr)) rfl ?_
    refine gp_of (fun _ k9 => g_getR (q' := 17) rfl rfl (by decide) kN k9) ?_
    refine gp_n 2 (j' := 30) (lv' := [some (.ref 14), some (.ref 18), some (.int (nI p)), some (.long w), none, some (.int x), some (.int (nI l)), some (.int ((nI l) * 8))]) (st' := [.ref 14, .int ((nI l) * 8), .ref 17]) (h' := (shT, fi, fl, fr)) rfl ?_
    refine gp_of (fun _ k9 => g_getI (x := nI t) rfl (Or.inl rfl) rfl (by decide) (ct) k9) ?_
    refine gp_n 2 (j' := 33) (lv' := [some (.ref 14), some (.ref 18), some (.int (nI p)), some (.long w), none, some (.int x), some (.int (nI l)), some (.int ((nI l) * 8))]) (st' := [.ref 18, .int (((nI l) * 8) + (nI t)), .ref 17]) (h' := (shT, fi, fl, fr)) rfl ?_
    refine gp_of (fun _ k9 => g_getR (q' := 21) rfl rfl (by decide) kA k9) ?_
    refine gp_n 3 (j' := 37) (lv' := [some (.ref 14), some (.ref 18), some (.int (nI p)), some (.long w), none, some (.int x), some (.int (nI l)), some (.int ((nI l) * 8))]) (st' := [.int (((nI l) * 8) + (nI p)), .ref 21, .int (((nI l) * 8) + (nI t)), .ref 17]) (h' := (shT, fi, fl, fr)) rfl ?_
    refine gp_of (fun _ k9 => g_iald (k := 8 * l + p) (x := fi 21 (8 * l + p)) rfl rfl (j8) (by omega) (by decide) (rfl) k9) ?_
    refine gp_of (fun _ k9 => g_iast (k := 8 * l + t) rfl rfl (i8) (by omega) (by decide) k9) ?_
    refine gp_n 2 (j' := 19) (lv' := [some (.ref 14), some (.ref 18), some (.int (nI p)), some (.long w), none, some (.int x), some (.int ((nI l) + 1)), some (.int ((nI l) * 8))]) (st' := []) (h' := (shT, pm_u2 fi 17 (8 * l + t) (fi 21 (8 * l + p)), fl, fr)) rfl ?_
    rw [nI_1]
    exact gp_done g rfl
theorem ac_ev_18 {p t : Nat} {w : Int64} {x : Int32} {fi : Nat → Nat → Int32} {fl : Nat → Nat → Int64} {fr : Nat → Nat → Option Nat} (hp : p < 8) (ht : t < 8) (kA : fr 18 3 = some 21) (kN : fr 14 3 = some 17) (k1 : fr 14 1 = some 15) (k2 : fr 14 2 = some 16) (ct : fi 14 0 = nI t) : ∃ fi', (fi' 14 0 = nI (t + 1) ∧ fi' 16 t = x ∧ ∀ l, l < 7 → fi' 17 (8 * l + t) = fi 21 (8 * l + p)) ∧ (∀ q s, ¬ (q = 17 ∧ ∃ l', s = 8 * l' + t) → ¬ (q = 16 ∧ s = t) → ¬ (q = 14 ∧ s = 0) → fi' q s = fi q s) ∧ Ev pmT 104 [.ref 14, .ref 18, .int (nI p), .long w, .int x] (shT, fi, fl, fr) none (shT, fi', pm_u2 fl 15 t w, fr) := by
  obtain ⟨fi', a1, a2, a3⟩ := ac_go_18 (w := w) (x := x) (fl := pm_u2 fl 15 t w) (fr := fr) hp ht kA kN 7 0 (pm_u2 fi 16 t x) none (by omega) ((show pm_u2 fi 16 t x 14 0 = fi 14 0 from wl_ne (by omega)).trans ct)
  refine ⟨pm_u2 fi' 14 0 (nI (t + 1)), ⟨u2_eq, (show pm_u2 fi' 14 0 (nI (t + 1)) 16 t = fi' 16 t from wl_ne (by omega)).trans ((a2 16 t (fun z => absurd z.1 (by decide))).trans u2_eq), fun l hl => (show pm_u2 fi' 14 0 (nI (t + 1)) 17 (8 * l + t) = fi' 17 (8 * l + t) from wl_ne (by omega)).trans ((a1 l (Nat.zero_le l) hl).trans (wl_ne (by omega)))⟩, fun q s z1 z2 z3 => (show pm_u2 fi' 14 0 (nI (t + 1)) q s = fi' q s from wl_ne z3).trans ((a2 q s (fun ⟨y1, l', _, y3⟩ => z1 ⟨y1, l', y3⟩)).trans (wl_ne z2)), ?_⟩
  have ct2 : fi' 14 0 = nI t := (a2 14 0 (fun z => absurd z.1 (by decide))).trans ((show pm_u2 fi 16 t x 14 0 = fi 14 0 from wl_ne (by omega)).trans ct)
  have g := a3 (none, (shT, pm_u2 fi' 14 0 (nI (t + 1)), pm_u2 fl 15 t w, fr)) (fun l7 => by
    refine go_of ?_
    refine gp_n 2 (j' := 43) (lv' := [some (.ref 14), some (.ref 18), some (.int (nI p)), some (.long w), none, some (.int x), some (.int (nI 7)), l7]) (st' := [.ref 14, .ref 14]) (h' := (shT, fi', (pm_u2 fl 15 t w), fr)) rfl ?_
    refine gp_of (fun _ k9 => g_getI (x := nI t) rfl (Or.inl rfl) rfl (by decide) (ct2) k9) ?_
    refine gp_n 2 (j' := 46) (lv' := [some (.ref 14), some (.ref 18), some (.int (nI p)), some (.long w), none, some (.int x), some (.int (nI 7)), l7]) (st' := [.int ((nI t) + 1), .ref 14]) (h' := (shT, fi', (pm_u2 fl 15 t w), fr)) rfl ?_
    rw [nI_1]
    refine gp_of (fun _ k9 => g_putI rfl (Or.inl rfl) rfl (by decide) k9) ?_
    refine gp_done (g_vret rfl) ?_
    rfl)
  refine Ev.of (es := cd_104) (ml := 8) (lv := [some (.ref 14), some (.ref 18), some (.int (nI p)), some (.long w), none, some (.int x), none, none]) rfl rfl rfl ?_
  refine go_of ?_
  refine gp_n 1 (j' := 1) (lv' := [some (.ref 14), some (.ref 18), some (.int (nI p)), some (.long w), none, some (.int x), none, none]) (st' := [.ref 14]) (h' := (shT, fi, fl, fr)) rfl ?_
  refine gp_of (fun _ k9 => g_getI (x := nI t) rfl (Or.inl rfl) rfl (by decide) (ct) k9) ?_
  refine gp_n 1 (j' := 3) (lv' := [some (.ref 14), some (.ref 18), some (.int (nI p)), some (.long w), none, some (.int x), none, none]) (st' := [.int 8, .int (nI t)]) (h' := (shT, fi, fl, fr)) rfl ?_
  refine gp_of (fun _ k9 => g_ict rfl (show (nI t) < (8 : Int32) from nI_lt (b := 8) (by omega) (by omega)) k9) ?_
  refine gp_n 1 (j' := 6) (lv' := [some (.ref 14), some (.ref 18), some (.int (nI p)), some (.long w), none, some (.int x), none, none]) (st' := [.ref 14]) (h' := (shT, fi, fl, fr)) rfl ?_
  refine gp_of (fun _ k9 => g_getR (q' := 15) rfl rfl (by decide) k1 k9) ?_
  refine gp_n 1 (j' := 8) (lv' := [some (.ref 14), some (.ref 18), some (.int (nI p)), some (.long w), none, some (.int x), none, none]) (st' := [.ref 14, .ref 15]) (h' := (shT, fi, fl, fr)) rfl ?_
  refine gp_of (fun _ k9 => g_getI (x := nI t) rfl (Or.inl rfl) rfl (by decide) (ct) k9) ?_
  refine gp_n 1 (j' := 10) (lv' := [some (.ref 14), some (.ref 18), some (.int (nI p)), some (.long w), none, some (.int x), none, none]) (st' := [.long w, .int (nI t), .ref 15]) (h' := (shT, fi, fl, fr)) rfl ?_
  refine gp_of (fun _ k9 => g_last (k := t) rfl rfl (rfl) (by omega) (by decide) k9) ?_
  refine gp_n 1 (j' := 12) (lv' := [some (.ref 14), some (.ref 18), some (.int (nI p)), some (.long w), none, some (.int x), none, none]) (st' := [.ref 14]) (h' := (shT, fi, pm_u2 fl 15 t w, fr)) rfl ?_
  refine gp_of (fun _ k9 => g_getR (q' := 16) rfl rfl (by decide) k2 k9) ?_
  refine gp_n 1 (j' := 14) (lv' := [some (.ref 14), some (.ref 18), some (.int (nI p)), some (.long w), none, some (.int x), none, none]) (st' := [.ref 14, .ref 16]) (h' := (shT, fi, pm_u2 fl 15 t w, fr)) rfl ?_
  refine gp_of (fun _ k9 => g_getI (x := nI t) rfl (Or.inl rfl) rfl (by decide) (ct) k9) ?_
  refine gp_n 1 (j' := 16) (lv' := [some (.ref 14), some (.ref 18), some (.int (nI p)), some (.long w), none, some (.int x), none, none]) (st' := [.int x, .int (nI t), .ref 16]) (h' := (shT, fi, pm_u2 fl 15 t w, fr)) rfl ?_
  refine gp_of (fun _ k9 => g_iast (k := t) rfl rfl (rfl) (by omega) (by decide) k9) ?_
  refine gp_n 2 (j' := 19) (lv' := [some (.ref 14), some (.ref 18), some (.int (nI p)), some (.long w), none, some (.int x), some (.int (nI 0)), none]) (st' := []) (h' := (shT, pm_u2 fi 16 t x, pm_u2 fl 15 t w, fr)) rfl ?_
  exact gp_done g rfl
