theorem rt_ev {h : PmH} {K : Int64} {m F : Nat} {S : Nat → Int32} (hm : m ≤ 6) (hF6 : F < 64) (hI : HI hdT shT h) (hc : mcI K m S h) : ∃ h', Ev pmT 216 [.ref 70, .int (nI F)] h none h' ∧ HI hdT shT h' ∧ mcI K m S h' ∧ ph_l h' 70 40 = (tuN K m S F (2 ^ m)).1 ∧ ph_i h' 70 41 = (tuN K m S F (2 ^ m)).2 ∧ fram (in_w iN_232) h h' := by
  have J0 : HI hdT shT (ph_s h, ph_i h, pm_u2 (ph_l h) 70 40 0, ph_r h) := HI_wl hI
  have J : HI hdT shT (ph_s h, pm_u2 (ph_i h) 70 41 0, pm_u2 (ph_l h) 70 40 0, ph_r h) := HI_wi J0 (fun z => absurd z (by decide))
  obtain ⟨h1, I1, m1, b1, b2, g⟩ := rt_go (F := F) (h0 := h) hm hF6 (2 ^ m) 0 (ph_s h, pm_u2 (ph_i h) 70 41 0, pm_u2 (ph_l h) 70 40 0, ph_r h) none none (by omega) J ⟨(show pm_u2 (ph_i h) 70 41 0 70 14 = ph_i h 70 14 from wl_ne (by decide)).trans hc.1, (show pm_u2 (ph_l h) 70 40 0 70 21 = ph_l h 70 21 from wl_ne (by decide)).trans hc.2.1, fun s hs => (show pm_u2 (ph_i h) 70 41 0 74 s = ph_i h 74 s from wl_ne (by omega)).trans (hc.2.2 s hs)⟩ (show pm_u2 (ph_l h) 70 40 0 70 40 = 0 from u2_eq) (show pm_u2 (ph_i h) 70 41 0 70 41 = 0 from u2_eq)
  obtain ⟨v, h', e2, I2, F2, -⟩ := iv_ev vN_232 (as := [.ref 70, .int (nI F)]) rfl (fun _ _ => gz_c (gz_r (by decide)) (gz_c (gz_a _) gz_n)) hI
  have e1 : Ev pmT 216 [.ref 70, .int (nI F)] h none h1 := by
    clear m1 b1 b2 J J0 e2 hc
    refine Ev.of (es := cd_216) (ml := 5) (lv := [some (.ref 70), some (.int (nI F)), none, none, none]) rfl rfl rfl ?_
    obtain ⟨S, fi, fl, fr⟩ := h
    have hS : S = shT := hI.1
    subst hS
    refine go_of ?_
    refine gp_n 2 (j' := 2) (lv' := [some (.ref 70), some (.int (nI F)), none, none, none]) (st' := [.long 0, .ref 70]) (h' := (shT, fi, fl, fr)) rfl ?_
    refine gp_of (fun _ k9 => g_putL rfl rfl (by decide) k9) ?_
    refine gp_n 2 (j' := 5) (lv' := [some (.ref 70), some (.int (nI F)), none, none, none]) (st' := [.int 0, .ref 70]) (h' := (shT, fi, pm_u2 fl 70 40 0, fr)) rfl ?_
    refine gp_of (fun _ k9 => g_putI rfl (Or.inl rfl) rfl (by decide) k9) ?_
    refine gp_n 2 (j' := 8) (lv' := [some (.ref 70), some (.int (nI F)), some (.int (nI 0)), none, none]) (st' := []) (h' := (shT, pm_u2 fi 70 41 0, pm_u2 fl 70 40 0, fr)) rfl ?_
    exact gp_done g rfl
  obtain ⟨y1, y2⟩ := ev_det e1 e2
  subst y1 y2
  exact ⟨h1, e1, I1, m1, b1, b2, F2⟩
def mfI (a : AB) (m k c : Nat) (h : PmH) : Prop := mcI (a_v a).2.1 m (a_v a).2.2 h ∧ ph_i h 70 16 = nI k ∧ ph_i h 70 17 = nI c ∧ ph_i h 70 18 = (a_v a).1 4 ∧ ∀ i, i < 2 ^ m → ph_i h 86 i = rsm m (a_v a).2.2 (rdN (a_v a).2.1 m (a_v a).2.2 1 i) i 0
theorem lsM_go {su : Nat → Int32} {K T : Int64} {N : Nat} {fi : Nat → Nat → Int32} {fl : Nat → Nat → Int64} {fr : Nat → Nat → Option Nat} (hN : N ≤ 64) (c14 : fi 70 14 = nI N) (c21 : fl 70 21 = K) (k39 : fr 70 39 = some 86) (hs : ∀ i, i < N → fi 86 i = su i) : ∀ (n i : Nat), i + n = N → Go pmT none cd_215 4 [some (.ref 70), some (.long T), none, some (.int (oI (bst (fun i => (abS (su i)).toInt) (fun i => bl K i && !bl T i) i))), some (.int (nI i))] [] (shT, fi, fl, fr) (some (.int (oI (bst (fun i => (abS (su i)).toInt) (fun i => bl K i && !bl T i) N))), (shT, fi, fl, fr)) := by
  intro n
  induction n with
  | zero =>
    intro i hi
    have hi : i = N := by omega
    subst hi
    generalize oI (bst (fun i => (abS (su i)).toInt) (fun i => bl K i && !bl T i) i) = e at *
    refine go_of ?_
    refine gp_n 2 (j' := 6) (lv' := [some (.ref 70), some (.long T), none, some (.int e), some (.int (nI i))]) (st' := [.ref 70, .int (nI i)]) (h' := (shT, fi, fl, fr)) rfl ?_
    refine gp_of (fun _ k9 => g_getI (x := nI i) rfl (Or.inl rfl) rfl (by decide) (c14) k9) ?_
    refine gp_of (fun _ k9 => g_ict rfl (show (nI i) ≤ (nI i) from Int32.le_refl _) k9) ?_
    refine gp_n 1 (j' := 35) (lv' := [some (.ref 70), some (.long T), none, some (.int e), some (.int (nI i))]) (st' := [.int e]) (h' := (shT, fi, fl, fr)) rfl ?_
    refine gp_done (g_ret rfl) ?_
    rfl
  | succ n ih =>
    intro i hi
    have g := ih (i + 1) (by omega)
    have bp := bst_p (K := fun i => (abS (su i)).toInt) (L := fun i => bl K i && !bl T i) i
    have si := hs i (by omega)
    have h1 := fun h => has_ev (v := K) (i := nI i) (h := h)
    have h2 := fun h => has_ev (v := T) (i := nI i) (h := h)
    rw [hasf_bit (by omega)] at h1 h2
    have ab := fun (a : Int32) => abM_ev (a := a) (h := (shT, fi, fl, fr))
    rw [bst] at g
    have le : ¬ nI N ≤ nI i := nI_ge (by omega) (by omega)
    clear ih
    generalize oI (bst (fun i => (abS (su i)).toInt) (fun i => bl K i && !bl T i) N) = r at *
    cases hk : bl K i
    · rw [hk, if_neg (by decide)] at h1
      rw [hk, Bool.false_and, if_neg (by decide)] at g
      have h1 := h1 (shT, fi, fl, fr)
      generalize oI (bst (fun i => (abS (su i)).toInt) (fun i => bl K i && !bl T i) i) = e at *
      refine go_of ?_
      refine gp_n 2 (j' := 6) (lv' := [some (.ref 70), some (.long T), none, some (.int e), some (.int (nI i))]) (st' := [.ref 70, .int (nI i)]) (h' := (shT, fi, fl, fr)) rfl ?_
      refine gp_of (fun _ k9 => g_getI (x := nI N) rfl (Or.inl rfl) rfl (by decide) (c14) k9) ?_
      refine gp_of (fun _ k9 => g_icf rfl (show ¬ ((nI N) ≤ (nI i)) from le) k9) ?_
      refine gp_n 1 (j' := 9) (lv' := [some (.ref 70), some (.long T), none, some (.int e), some (.int (nI i))]) (st' := [.ref 70]) (h' := (shT, fi, fl, fr)) rfl ?_
      refine gp_of (fun _ k9 => g_getL (x := K) rfl rfl (by decide) (c21) k9) ?_
      refine gp_n 1 (j' := 11) (lv' := [some (.ref 70), some (.long T), none, some (.int e), some (.int (nI i))]) (st' := [.int (nI i), .long K]) (h' := (shT, fi, fl, fr)) rfl ?_
      refine gp_of (fun _ k9 => g_call (y := 161) (as := [.long K, .int (nI i)]) (st' := []) rfl rfl (h1) k9) ?_
      refine gp_of (fun _ k9 => g_ift rfl (show (0 : Int32) = (0 : Int32) from by decide) k9) ?_
      refine gp_n 2 (j' := 4) (lv' := [some (.ref 70), some (.long T), none, some (.int e), some (.int ((nI i) + 1))]) (st' := []) (h' := (shT, fi, fl, fr)) rfl ?_
      rw [nI_1]
      exact gp_done g rfl
    · rw [hk, if_pos rfl] at h1
      rw [hk, Bool.true_and] at g
      have h1 := h1 (shT, fi, fl, fr)
      cases ht : bl T i
      · rw [ht, if_neg (by decide)] at h2
        rw [ht, Bool.not_false, if_pos rfl] at g
        have h2 := h2 (shT, fi, fl, fr)
        cases hb : bst (fun i => (abS (su i)).toInt) (fun i => bl K i && !bl T i) i with
        | none =>
          rw [hb] at g
          have g : Go pmT none cd_215 4 [some (.ref 70), some (.long T), none, some (.int (nI i)), some (.int (nI (i + 1)))] [] (shT, fi, fl, fr) (some (.int r), (shT, fi, fl, fr)) := g
          show Go pmT none cd_215 4 [some (.ref 70), some (.long T), none, some (.int (-1)), some (.int (nI i))] [] _ _
          refine go_of ?_
          refine gp_n 2 (j' := 6) (lv' := [some (.ref 70), some (.long T), none, some (.int (-1)), some (.int (nI i))]) (st' := [.ref 70, .int (nI i)]) (h' := (shT, fi, fl, fr)) rfl ?_
          refine gp_of (fun _ k9 => g_getI (x := nI N) rfl (Or.inl rfl) rfl (by decide) (c14) k9) ?_
          refine gp_of (fun _ k9 => g_icf rfl (show ¬ ((nI N) ≤ (nI i)) from le) k9) ?_
          refine gp_n 1 (j' := 9) (lv' := [some (.ref 70), some (.long T), none, some (.int (-1)), some (.int (nI i))]) (st' := [.ref 70]) (h' := (shT, fi, fl, fr)) rfl ?_
          refine gp_of (fun _ k9 => g_getL (x := K) rfl rfl (by decide) (c21) k9) ?_
          refine gp_n 1 (j' := 11) (lv' := [some (.ref 70), some (.long T), none, some (.int (-1)), some (.int (nI i))]) (st' := [.int (nI i), .long K]) (h' := (shT, fi, fl, fr)) rfl ?_
          refine gp_of (fun _ k9 => g_call (y := 161) (as := [.long K, .int (nI i)]) (st' := []) rfl rfl (h1) k9) ?_
          refine gp_of (fun _ k9 => g_iff rfl (show ¬ ((1 : Int32) = (0 : Int32)) from by decide) k9) ?_
          refine gp_n 2 (j' := 15) (lv' := [some (.ref 70), some (.long T), none, some (.int (-1)), some (.int (nI i))]) (st' := [.int (nI i), .long T]) (h' := (shT, fi, fl, fr)) rfl ?_
          refine gp_of (fun _ k9 => g_call (y := 161) (as := [.long T, .int (nI i)]) (st' := []) rfl rfl (h2) k9) ?_
          refine gp_of (fun _ k9 => g_iff rfl (show ¬ (¬ (0 : Int32) = (0 : Int32)) from by decide) k9) ?_
          refine gp_n 1 (j' := 18) (lv' := [some (.ref 70), some (.long T), none, some (.int (-1)), some (.int (nI i))]) (st' := [.int (-1)]) (h' := (shT, fi, fl, fr)) rfl ?_
          refine gp_of (fun _ k9 => g_ift rfl (show ((-1) : Int32) < (0 : Int32) from by decide) k9) ?_
          refine gp_n 4 (j' := 4) (lv' := [some (.ref 70), some (.long T), none, some (.int (nI i)), some (.int ((nI i) + 1))]) (st' := []) (h' := (shT, fi, fl, fr)) rfl ?_
          rw [nI_1]
          exact gp_done g rfl
        | some b =>
          rw [hb] at g bp
          have b1 : b < i := bp.1
          have sb := hs b (by omega)
          have ne : ¬ nI b < 0 := nI_pos (by omega)
          have g5 : Go pmT none cd_215 4 [some (.ref 70), some (.long T), none, some (.int (oI (if (abS (su i)).toInt < (abS (su b)).toInt then some i else some b))), some (.int (nI (i + 1)))] [] (shT, fi, fl, fr) (some (.int r), (shT, fi, fl, fr)) := g
          clear g hb
          show Go pmT none cd_215 4 [some (.ref 70), some (.long T), none, some (.int (nI b)), some (.int (nI i))] [] _ _
          by_cases hc : (abS (su i)).toInt < (abS (su b)).toInt
          · rw [if_pos hc] at g5
            have hc : ¬ abS (su b) ≤ abS (su i) := Int32.not_le.mpr (Int32.lt_iff_toInt_lt.mpr hc)
            have g : Go pmT none cd_215 4 [some (.ref 70), some (.long T), none, some (.int (nI i)), some (.int (nI (i + 1)))] [] (shT, fi, fl, fr) (some (.int r), (shT, fi, fl, fr)) := g5
            clear g5
            generalize su i = x at *
            generalize su b = y at *
            refine go_of ?_
            refine gp_n 2 (j' := 6) (lv' := [some (.ref 70), some (.long T), none, some (.int (nI b)), some (.int (nI i))]) (st' := [.ref 70, .int (nI i)]) (h' := (shT, fi, fl, fr)) rfl ?_
            refine gp_of (fun _ k9 => g_getI (x := nI N) rfl (Or.inl rfl) rfl (by decide) (c14) k9) ?_
            refine gp_of (fun _ k9 => g_icf rfl (show ¬ ((nI N) ≤ (nI i)) from le) k9) ?_
            refine gp_n 1 (j' := 9) (lv' := [some (.ref 70), some (.long T), none, some (.int (nI b)), some (.int (nI i))]) (st' := [.ref 70]) (h' := (shT, fi, fl, fr)) rfl ?_
            refine gp_of (fun _ k9 => g_getL (x := K) rfl rfl (by decide) (c21) k9) ?_
            refine gp_n 1 (j' := 11) (lv' := [some (.ref 70), some (.long T), none, some (.int (nI b)), some (.int (nI i))]) (st' := [.int (nI i), .long K]) (h' := (shT, fi, fl, fr)) rfl ?_
            refine gp_of (fun _ k9 => g_call (y := 161) (as := [.long K, .int (nI i)]) (st' := []) rfl rfl (h1) k9) ?_
            refine gp_of (fun _ k9 => g_iff rfl (show ¬ ((1 : Int32) = (0 : Int32)) from by decide) k9) ?_
            refine gp_n 2 (j' := 15) (lv' := [some (.ref 70), some (.long T), none, some (.int (nI b)), some (.int (nI i))]) (st' := [.int (nI i), .long T]) (h' := (shT, fi, fl, fr)) rfl ?_
            refine gp_of (fun _ k9 => g_call (y := 161) (as := [.long T, .int (nI i)]) (st' := []) rfl rfl (h2) k9) ?_
            refine gp_of (fun _ k9 => g_iff rfl (show ¬ (¬ (0 : Int32) = (0 : Int32)) from by decide) k9) ?_
            refine gp_n 1 (j' := 18) (lv' := [some (.ref 70), some (.long T), none, some (.int (nI b)), some (.int (nI i))]) (st' := [.int (nI b)]) (h' := (shT, fi, fl, fr)) rfl ?_
            refine gp_of (fun _ k9 => g_iff rfl (show ¬ ((nI b) < (0 : Int32)) from ne) k9) ?_
            refine gp_n 1 (j' := 20) (lv' := [some (.ref 70), some (.long T), none, some (.int (nI b)), some (.int (nI i))]) (st' := [.ref 70]) (h' := (shT, fi, fl, fr)) rfl ?_
            refine gp_of (fun _ k9 => g_getR (q' := 86) rfl rfl (by decide) k39 k9) ?_
            refine gp_n 1 (j' := 22) (lv' := [some (.ref 70), some (.long T), none, some (.int (nI b)), some (.int (nI i))]) (st' := [.int (nI i), .ref 86]) (h' := (shT, fi, fl, fr)) rfl ?_
            refine gp_of (fun _ k9 => g_iald (k := i) (x := x) rfl rfl (rfl) (by omega) (by decide) (si) k9) ?_
            refine gp_of (fun _ k9 => g_call (y := 195) (as := [.int x]) (st' := []) rfl rfl (ab _) k9) ?_
            refine gp_n 1 (j' := 25) (lv' := [some (.ref 70), some (.long T), none, some (.int (nI b)), some (.int (nI i))]) (st' := [.ref 70, .int (abS x)]) (h' := (shT, fi, fl, fr)) rfl ?_
            refine gp_of (fun _ k9 => g_getR (q' := 86) rfl rfl (by decide) k39 k9) ?_
            refine gp_n 1 (j' := 27) (lv' := [some (.ref 70), some (.long T), none, some (.int (nI b)), some (.int (nI i))]) (st' := [.int (nI b), .ref 86, .int (abS x)]) (h' := (shT, fi, fl, fr)) rfl ?_
            refine gp_of (fun _ k9 => g_iald (k := b) (x := y) rfl rfl (rfl) (by omega) (by decide) (sb) k9) ?_
            refine gp_of (fun _ k9 => g_call (y := 195) (as := [.int y]) (st' := [.int (abS x)]) rfl rfl (ab _) k9) ?_
            refine gp_of (fun _ k9 => g_icf rfl (show ¬ ((abS y) ≤ (abS x)) from hc) k9) ?_
            refine gp_n 4 (j' := 4) (lv' := [some (.ref 70), some (.long T), none, some (.int (nI i)), some (.int ((nI i) + 1))]) (st' := []) (h' := (shT, fi, fl, fr)) rfl ?_
            rw [nI_1]
            exact gp_done g rfl
          · rw [if_neg hc] at g5
            have hc : abS (su b) ≤ abS (su i) := Int32.le_iff_toInt_le.mpr (by omega)
            have g : Go pmT none cd_215 4 [some (.ref 70), some (.long T), none, some (.int (nI b)), some (.int (nI (i + 1)))] [] (shT, fi, fl, fr) (some (.int r), (shT, fi, fl, fr)) := g5
            clear g5
            generalize su i = x at *
            generalize su b = y at *
            refine go_of ?_
            refine gp_n 2 (j' := 6) (lv' := [some (.ref 70), some (.long T), none, some (.int (nI b)), some (.int (nI i))]) (st' := [.ref 70, .int (nI i)]) (h' := (shT, fi, fl, fr)) rfl ?_
            refine gp_of (fun _ k9 => g_getI (x := nI N) rfl (Or.inl rfl) rfl (by decide) (c14) k9) ?_
            refine gp_of (fun _ k9 => g_icf rfl (show ¬ ((nI N) ≤ (nI i)) from le) k9) ?_
            refine gp_n 1 (j' := 9) (lv' := [some (.ref 70), some (.long T), none, some (.int (nI b)), some (.int (nI i))]) (st' := [.ref 70]) (h' := (shT, fi, fl, fr)) rfl ?_
            refine gp_of (fun _ k9 => g_getL (x := K) rfl rfl (by decide) (c21) k9) ?_
            refine gp_n 1 (j' := 11) (lv' := [some (.ref 70), some (.long T), none, some (.int (nI b)), some (.int (nI i))]) (st' := [.int (nI i), .long K]) (h' := (shT, fi, fl, fr)) rfl ?_
            refine gp_of (fun _ k9 => g_call (y := 161) (as := [.long K, .int (nI i)]) (st' := []) rfl rfl (h1) k9) ?_
            refine gp_of (fun _ k9 => g_iff rfl (show ¬ ((1 : Int32) = (0 : Int32)) from by decide) k9) ?_
            refine gp_n 2 (j' := 15) (lv' := [some (.ref 70), some (.long T), none, some (.int (nI b)), some (.int (nI i))]) (st' := [.int (nI i), .long T]) (h' := (shT, fi, fl, fr)) rfl ?_
            refine gp_of (fun _ k9 => g_call (y := 161) (as := [.long T, .int (nI i)]) (st' := []) rfl rfl (h2) k9) ?_
            refine gp_of (fun _ k9 => g_iff rfl (show ¬ (¬ (0 : Int32) = (0 : Int32)) from by decide) k9) ?_
            refine gp_n 1 (j' := 18) (lv' := [some (.ref 70), some (.long T), none, some (.int (nI b)), some (.int (nI i))]) (st' := [.int (nI b)]) (h' := (shT, fi, fl, fr)) rfl ?_
            refine gp_of (fun _ k9 => g_iff rfl (show ¬ ((nI b) < (0 : Int32)) from ne) k9) ?_
            refine gp_n 1 (j' := 20) (lv' := [some (.ref 70), some (.long T), none, some (.int (nI b)), some (.int (nI i))]) (st' := [.ref 70]) (h' := (shT, fi, fl, fr)) rfl ?_
            refine gp_of (fun _ k9 => g_getR (q' := 86) rfl rfl (by decide) k39 k9) ?_
            refine gp_n 1 (j' := 22) (lv' := [some (.ref 70), some (.long T), none, some (.int (nI b)), some (.int (nI i))]) (st' := [.int (nI i), .ref 86]) (h' := (shT, fi, fl, fr)) rfl ?_
            refine gp_of (fun _ k9 => g_iald (k := i) (x := x) rfl rfl (rfl) (by omega) (by decide) (si) k9) ?_
            refine gp_of (fun _ k9 => g_call (y := 195) (as := [.int x]) (st' := []) rfl rfl (ab _) k9) ?_
            refine gp_n 1 (j' := 25) (lv' := [some (.ref 70), some (.long T), none, some (.int (nI b)), some (.int (nI i))]) (st' := [.ref 70, .int (abS x)]) (h' := (shT, fi, fl, fr)) rfl ?_
            refine gp_of (fun _ k9 => g_getR (q' := 86) rfl rfl (by decide) k39 k9) ?_
            refine gp_n 1 (j' := 27) (lv' := [some (.ref 70), some (.long T), none, some (.int (nI b)), some (.int (nI i))]) (st' := [.int (nI b), .ref 86, .int (abS x)]) (h' := (shT, fi, fl, fr)) rfl ?_
            refine gp_of (fun _ k9 => g_iald (k := b) (x := y) rfl rfl (rfl) (by omega) (by decide) (sb) k9) ?_
            refine gp_of (fun _ k9 => g_call (y := 195) (as := [.int y]) (st' := [.int (abS x)]) rfl rfl (ab _) k9) ?_
            refine gp_of (fun _ k9 => g_ict rfl (show (abS y) ≤ (abS x) from hc) k9) ?_
            refine gp_n 2 (j' := 4) (lv' := [some (.ref 70), some (.long T), none, some (.int (nI b)), some (.int ((nI i) + 1))]) (st' := []) (h' := (shT, fi, fl, fr)) rfl ?_
            rw [nI_1]
            exact gp_done g rfl
      · rw [ht, if_pos rfl] at h2
        rw [ht, Bool.not_true, if_neg (by decide)] at g
        have h2 := h2 (shT, fi, fl, fr)
        generalize oI (bst (fun i => (abS (su i)).toInt) (fun i => bl K i && !bl T i) i) = e at *
        refine go_of ?_
        refine gp_n 2 (j' := 6) (lv' := [some (.ref 70), some (.long T), none, some (.int e), some (.int (nI i))]) (st' := [.ref 70, .int (nI i)]) (h' := (shT, fi, fl, fr)) rfl ?_
        refine gp_of (fun _ k9 => g_getI (x := nI N) rfl (Or.inl rfl) rfl (by decide) (c14) k9) ?_
        refine gp_of (fun _ k9 => g_icf rfl (show ¬ ((nI N) ≤ (nI i)) from le) k9) ?_
        refine gp_n 1 (j' := 9) (lv' := [some (.ref 70), some (.long T), none, some (.int e), some (.int (nI i))]) (st' := [.ref 70]) (h' := (shT, fi, fl, fr)) rfl ?_
        refine gp_of (fun _ k9 => g_getL (x := K) rfl rfl (by decide) (c21) k9) ?_
        refine gp_n 1 (j' := 11) (lv' := [some (.ref 70), some (.long T), none, some (.int e), some (.int (nI i))]) (st' := [.int (nI i), .long K]) (h' := (shT, fi, fl, fr)) rfl ?_
        refine gp_of (fun _ k9 => g_call (y := 161) (as := [.long K, .int (nI i)]) (st' := []) rfl rfl (h1) k9) ?_
        refine gp_of (fun _ k9 => g_iff rfl (show ¬ ((1 : Int32) = (0 : Int32)) from by decide) k9) ?_
        refine gp_n 2 (j' := 15) (lv' := [some (.ref 70), some (.long T), none, some (.int e), some (.int (nI i))]) (st' := [.int (nI i), .long T]) (h' := (shT, fi, fl, fr)) rfl ?_
        refine gp_of (fun _ k9 => g_call (y := 161) (as := [.long T, .int (nI i)]) (st' := []) rfl rfl (h2) k9) ?_
        refine gp_of (fun _ k9 => g_ift rfl (show ¬ (1 : Int32) = (0 : Int32) from by decide) k9) ?_
        refine gp_n 2 (j' := 4) (lv' := [some (.ref 70), some (.long T), none, some (.int e), some (.int ((nI i) + 1))]) (st' := []) (h' := (shT, fi, fl, fr)) rfl ?_
        rw [nI_1]
        exact gp_done g rfl
theorem lsM_ev {h : PmH} {a : AB} {m k c : Nat} {T : Int64} (hm : m ≤ 6) (hI : HI hdT shT h) (hf : mfI a m k c h) : Ev pmT 215 [.ref 70, .long T] h (some (.int (oI (nxt (flS a m) (a_v a).2.1 T (2 ^ m))))) h := by
  have p6 := pw_6 m (by omega)
  have k39 : ph_r h 70 39 = some 86 := hi_r hI rfl rfl (by decide)
  obtain ⟨S, fi, fl, fr⟩ := h
  have hS : S = shT := hI.1
  subst hS
  have g := lsM_go (su := fun i => rsm m (a_v a).2.2 (rdN (a_v a).2.1 m (a_v a).2.2 1 i) i 0) (K := (a_v a).2.1) (T := T) (N := 2 ^ m) (fi := fi) (fl := fl) (fr := fr) p6.2 hf.1.1 hf.1.2.1 k39 hf.2.2.2.2 (2 ^ m) 0 (by omega)
  have g : Go pmT none cd_215 4 [some (.ref 70), some (.long T), none, some (.int (-1)), some (.int (nI 0))] [] (shT, fi, fl, fr) (some (.int (oI (nxt (flS a m) (a_v a).2.1 T (2 ^ m)))), (shT, fi, fl, fr)) := g
  generalize oI (nxt (flS a m) (a_v a).2.1 T (2 ^ m)) = r at *
  refine Ev.of (es := cd_215) (ml := 5) (lv := [some (.ref 70), some (.long T), none, none, none]) rfl rfl rfl ?_
  refine go_of ?_
  refine gp_n 4 (j' := 4) (lv' := [some (.ref 70), some (.long T), none, some (.int (-1)), some (.int (nI 0))]) (st' := []) (h' := (shT, fi, fl, fr)) rfl ?_
  exact gp_done g rfl
theorem cpM_go {a : AB} {m k c : Nat} {w it : Int32} (hm : m ≤ 6) : ∀ (n i : Nat) (h : PmH), i + n = 2 ^ m → HI hdT shT h → mcI (a_v a).2.1 m (a_v a).2.2 h → ph_i h 70 16 = nI k → ph_i h 70 17 = nI c → ph_i h 70 18 = (a_v a).1 4 → (∀ j, j < 2 ^ m → ph_i h 85 j = rsm m (a_v a).2.2 (rdN (a_v a).2.1 m (a_v a).2.2 1 j) j 0) → (∀ j, j < i → ph_i h 86 j = rsm m (a_v a).2.2 (rdN (a_v a).2.1 m (a_v a).2.2 1 j) j 0) → ∃ h', HI hdT shT h' ∧ mfI a m k c h' ∧ ∀ r, Go pmT none cd_214 58 [some (.ref 70), some (.int w), some (.int it), some (.int (nI (2 ^ m))), none, none, none] [] h' r → Go pmT none cd_214 44 [some (.ref 70), some (.int w), some (.int it), some (.int (nI i)), none, none, none] [] h r := by
  intro n
  have p6 := pw_6 m (by omega)
  induction n with
  | zero =>
    intro i h hi hI hc c1 c2 c3 s5 s6
    have hi : i = 2 ^ m := by omega
    rw [hi] at s6 ⊢
    refine ⟨h, hI, ⟨hc, c1, c2, c3, s6⟩, fun r kk => ?_⟩
    have cN := hc.1
    clear hc c1 c2 c3 s5 s6
    generalize nI (2 ^ m) = N at *
    obtain ⟨S, fi, fl, fr⟩ := h
    have hS : S = shT := hI.1
    subst hS
    have cN : fi 70 14 = N := cN
    refine go_of ?_
    refine gp_n 2 (j' := 46) (lv' := [some (.ref 70), some (.int w), some (.int it), some (.int N), none, none, none]) (st' := [.ref 70, .int N]) (h' := (shT, fi, fl, fr)) rfl ?_
    refine gp_of (fun _ k9 => g_getI (x := N) rfl (Or.inl rfl) rfl (by decide) (cN) k9) ?_
    refine gp_of (fun _ k9 => g_ict rfl (show N ≤ N from Int32.le_refl _) k9) ?_
    exact gp_done kk rfl
  | succ n ih =>
    intro i h hi hI hc c1 c2 c3 s5 s6
    have k39 : ph_r h 70 39 = some 86 := hi_r hI rfl rfl (by decide)
    have k35 : ph_r h 70 35 = some 85 := hi_r hI rfl rfl (by decide)
    have le : ¬ nI (2 ^ m) ≤ nI i := nI_ge (by omega) (by omega)
    have si := s5 i (by omega)
    have cN := hc.1
    generalize hv : rsm m (a_v a).2.2 (rdN (a_v a).2.1 m (a_v a).2.2 1 i) i 0 = v at *
    have J : HI hdT shT (ph_s h, pm_u2 (ph_i h) 86 i v, ph_l h, ph_r h) := HI_wi hI (fun z => by
      have : hd_at hdT shT 86 i = (9, 0, 0, []) := rfl
      rw [this] at z
      cases z)
    have wu : ∀ p s, ¬ p = 86 → pm_u2 (ph_i h) 86 i v p s = ph_i h p s := fun p s z => wl_ne (fun y => z y.1)
    obtain ⟨h2, I2, f2, g⟩ := ih (i + 1) (ph_s h, pm_u2 (ph_i h) 86 i v, ph_l h, ph_r h) (by omega) J ⟨(wu 70 14 (by decide)).trans hc.1, hc.2.1, fun s hs => (wu 74 s (by decide)).trans (hc.2.2 s hs)⟩ ((wu 70 16 (by decide)).trans c1) ((wu 70 17 (by decide)).trans c2) ((wu 70 18 (by decide)).trans c3) (fun j hj => (wu 85 j (by decide)).trans (s5 j hj)) (fun j hj => by
      by_cases e : j = i
      · subst e
        rw [hv]
        exact u2_i
      · exact (show pm_u2 (ph_i h) 86 i v 86 j = ph_i h 86 j from wl_ne (fun y => e y.2)).trans (s6 j (by omega)))
    refine ⟨h2, I2, f2, fun r kk => ?_⟩
    have g7 := g r kk
    clear g ih f2 hc s5 s6 wu J c1 c2 c3 kk hv
    generalize nI (2 ^ m) = N at *
    obtain ⟨S, fi, fl, fr⟩ := h
    have hS : S = shT := hI.1
    subst hS
    have cN : fi 70 14 = N := cN
    have k39 : fr 70 39 = some 86 := k39
    have k35 : fr 70 35 = some 85 := k35
    have si : fi 85 i = v := si
    refine go_of ?_
    refine gp_n 2 (j' := 46) (lv' := [some (.ref 70), some (.int w), some (.int it), some (.int (nI i)), none, none, none]) (st' := [.ref 70, .int (nI i)]) (h' := (shT, fi, fl, fr)) rfl ?_
    refine gp_of (fun _ k9 => g_getI (x := N) rfl (Or.inl rfl) rfl (by decide) (cN) k9) ?_
    refine gp_of (fun _ k9 => g_icf rfl (show ¬ (N ≤ (nI i)) from le) k9) ?_
    refine gp_n 1 (j' := 49) (lv' := [some (.ref 70), some (.int w), some (.int it), some (.int (nI i)), none, none, none]) (st' := [.ref 70]) (h' := (shT, fi, fl, fr)) rfl ?_
    refine gp_of (fun _ k9 => g_getR (q' := 86) rfl rfl (by decide) k39 k9) ?_
    refine gp_n 2 (j' := 52) (lv' := [some (.ref 70), some (.int w), some (.int it), some (.int (nI i)), none, none, none]) (st' := [.ref 70, .int (nI i), .ref 86]) (h' := (shT, fi, fl, fr)) rfl ?_
    refine gp_of (fun _ k9 => g_getR (q' := 85) rfl rfl (by decide) k35 k9) ?_
    refine gp_n 1 (j' := 54) (lv' := [some (.ref 70), some (.int w), some (.int it), some (.int (nI i)), none, none, none]) (st' := [.int (nI i), .ref 85, .int (nI i), .ref 86]) (h' := (shT, fi, fl, fr)) rfl ?_
    refine gp_of (fun _ k9 => g_iald (k := i) (x := v) rfl rfl (rfl) (by omega) (by decide) (si) k9) ?_
    refine gp_of (fun _ k9 => g_iast (k := i) rfl rfl (rfl) (by omega) (by decide) k9) ?_
    refine gp_n 2 (j' := 44) (lv' := [some (.ref 70), some (.int w), some (.int it), some (.int ((nI i) + 1)), none, none, none]) (st' := []) (h' := (shT, pm_u2 fi 86 i v, fl, fr)) rfl ?_
    rw [nI_1]
    exact gp_done g7 rfl
def flQ (a : AB) (m w : Nat) (it : Int32) (R : Nat × Option Nat) : Int32 := if w = 0 then nI R.1 else if w = 1 then oI R.2 else if w = 2 then (match R.2 with
  | none => it
  | some F => flM a m F) else b01 R.2.isSome
theorem mf_fr {a : AB} {m k c : Nat} {h h' : PmH} (hc : mcI (a_v a).2.1 m (a_v a).2.2 h') (hF : fram (in_w iN_232) h h') (hf : mfI a m k c h) : mfI a m k c h' := ⟨hc, ((hF 70 16 rfl).1).trans hf.2.1, ((hF 70 17 rfl).1).trans hf.2.2.1, ((hF 70 18 rfl).1).trans hf.2.2.2.1, fun i hi => ((hF 86 i rfl).1).trans (hf.2.2.2.2 i hi)⟩
theorem flM_go {a : AB} {m k c w : Nat} {it : Int32} (hw : w < 4) (vk : VK (a_v a) m k c) (hB : ∀ s, s < 64 → -127 ≤ ((a_v a).2.2 s).toInt ∧ ((a_v a).2.2 s).toInt ≤ 127) : ∀ (n t : Nat) (T : Int64) (h : PmH), t + n = 12 → HI hdT shT h → mfI a m k c h → ∃ h', Go pmT none cd_214 66 [some (.ref 70), some (.int (nI w)), some (.int it), some (.long T), none, some (.int (nI t)), some (.int (oI (nxt (flS a m) (a_v a).2.1 T (2 ^ m))))] [] h (some (.int (flQ a m w it (flR a m k c n T t))), h') := by
  intro n
  have p6 := pw_6 m (by have := vk.1; omega)
  have hw4 : w = 0 ∨ w = 1 ∨ w = 2 ∨ w = 3 := by omega
  have fin : ∀ (t : Nat) (T : Int64) (e : Int32) (h : PmH), HI hdT shT h → Go pmT none cd_214 108 [some (.ref 70), some (.int (nI w)), some (.int it), some (.long T), none, some (.int (nI t)), some (.int e)] [] h (some (.int (flQ a m w it (t, none))), h) := fun t T e h hI => by
    obtain ⟨S, fi, fl, fr⟩ := h
    have hS : S = shT := hI.1
    subst hS
    rcases hw4 with rfl | rfl | rfl | rfl
    · show Go pmT none cd_214 108 [some (.ref 70), some (.int 0), some (.int it), some (.long T), none, some (.int (nI t)), some (.int e)] [] _ (some (.int (nI t)), _)
      refine go_of ?_
      refine gp_n 1 (j' := 109) (lv' := [some (.ref 70), some (.int 0), some (.int it), some (.long T), none, some (.int (nI t)), some (.int e)]) (st' := [.int 0]) (h' := (shT, fi, fl, fr)) rfl ?_
      refine gp_of (fun _ k9 => g_iff rfl (show ¬ (¬ (0 : Int32) = (0 : Int32)) from by decide) k9) ?_
      refine gp_n 2 (j' := 123) (lv' := [some (.ref 70), some (.int 0), some (.int it), some (.long T), none, some (.int (nI t)), some (.int e)]) (st' := [.int (nI t)]) (h' := (shT, fi, fl, fr)) rfl ?_
      refine gp_done (g_ret rfl) ?_
      rfl
    · show Go pmT none cd_214 108 [some (.ref 70), some (.int 1), some (.int it), some (.long T), none, some (.int (nI t)), some (.int e)] [] _ (some (.int (-1)), _)
      refine go_of ?_
      refine gp_n 1 (j' := 109) (lv' := [some (.ref 70), some (.int 1), some (.int it), some (.long T), none, some (.int (nI t)), some (.int e)]) (st' := [.int 1]) (h' := (shT, fi, fl, fr)) rfl ?_
      refine gp_of (fun _ k9 => g_ift rfl (show ¬ (1 : Int32) = (0 : Int32) from by decide) k9) ?_
      refine gp_n 2 (j' := 114) (lv' := [some (.ref 70), some (.int 1), some (.int it), some (.long T), none, some (.int (nI t)), some (.int e)]) (st' := [.int 1, .int 1]) (h' := (shT, fi, fl, fr)) rfl ?_
      refine gp_of (fun _ k9 => g_icf rfl (show ¬ (¬ (1 : Int32) = (1 : Int32)) from by decide) k9) ?_
      refine gp_n 2 (j' := 123) (lv' := [some (.ref 70), some (.int 1), some (.int it), some (.long T), none, some (.int (nI t)), some (.int e)]) (st' := [.int (-1)]) (h' := (shT, fi, fl, fr)) rfl ?_
      refine gp_done (g_ret rfl) ?_
      rfl
    · show Go pmT none cd_214 108 [some (.ref 70), some (.int 2), some (.int it), some (.long T), none, some (.int (nI t)), some (.int e)] [] _ (some (.int (it)), _)
      refine go_of ?_
      refine gp_n 1 (j' := 109) (lv' := [some (.ref 70), some (.int 2), some (.int it), some (.long T), none, some (.int (nI t)), some (.int e)]) (st' := [.int 2]) (h' := (shT, fi, fl, fr)) rfl ?_
      refine gp_of (fun _ k9 => g_ift rfl (show ¬ (2 : Int32) = (0 : Int32) from by decide) k9) ?_
      refine gp_n 2 (j' := 114) (lv' := [some (.ref 70), some (.int 2), some (.int it), some (.long T), none, some (.int (nI t)), some (.int e)]) (st' := [.int 1, .int 2]) (h' := (shT, fi, fl, fr)) rfl ?_
      refine gp_of (fun _ k9 => g_ict rfl (show ¬ (2 : Int32) = (1 : Int32) from by decide) k9) ?_
      refine gp_n 2 (j' := 119) (lv' := [some (.ref 70), some (.int 2), some (.int it), some (.long T), none, some (.int (nI t)), some (.int e)]) (st' := [.int 2, .int 2]) (h' := (shT, fi, fl, fr)) rfl ?_
      refine gp_of (fun _ k9 => g_icf rfl (show ¬ (¬ (2 : Int32) = (2 : Int32)) from by decide) k9) ?_
      refine gp_n 2 (j' := 123) (lv' := [some (.ref 70), some (.int 2), some (.int it), some (.long T), none, some (.int (nI t)), some (.int e)]) (st' := [.int it]) (h' := (shT, fi, fl, fr)) rfl ?_
      refine gp_done (g_ret rfl) ?_
      rfl
    · show Go pmT none cd_214 108 [some (.ref 70), some (.int 3), some (.int it), some (.long T), none, some (.int (nI t)), some (.int e)] [] _ (some (.int (0)), _)
      refine go_of ?_
      refine gp_n 1 (j' := 109) (lv' := [some (.ref 70), some (.int 3), some (.int it), some (.long T), none, some (.int (nI t)), some (.int e)]) (st' := [.int 3]) (h' := (shT, fi, fl, fr)) rfl ?_
      refine gp_of (fun _ k9 => g_ift rfl (show ¬ (3 : Int32) = (0 : Int32) from by decide) k9) ?_
      refine gp_n 2 (j' := 114) (lv' := [some (.ref 70), some (.int 3), some (.int it), some (.long T), none, some (.int (nI t)), some (.int e)]) (st' := [.int 1, .int 3]) (h' := (shT, fi, fl, fr)) rfl ?_
      refine gp_of (fun _ k9 => g_ict rfl (show ¬ (3 : Int32) = (1 : Int32) from by decide) k9) ?_
      refine gp_n 2 (j' := 119) (lv' := [some (.ref 70), some (.int 3), some (.int it), some (.long T), none, some (.int (nI t)), some (.int e)]) (st' := [.int 2, .int 3]) (h' := (shT, fi, fl, fr)) rfl ?_
      refine gp_of (fun _ k9 => g_ict rfl (show ¬ (3 : Int32) = (2 : Int32) from by decide) k9) ?_
      refine gp_n 1 (j' := 123) (lv' := [some (.ref 70), some (.int 3), some (.int it), some (.long T), none, some (.int (nI t)), some (.int e)]) (st' := [.int 0]) (h' := (shT, fi, fl, fr)) rfl ?_
      refine gp_done (g_ret rfl) ?_
      rfl
  induction n with
  | zero =>
    intro t T h ht hI hf
    have ht : t = 12 := by omega
    subst ht
    refine ⟨h, ?_⟩
    have fin := fun e => fin 12 T e h hI
    have eR : flR a m k c 0 T 12 = (12, none) := rfl
    rw [eR]
    generalize flQ a m w it (12, none) = q at *
    generalize nI w = w0 at *
    cases hn : nxt (flS a m) (a_v a).2.1 T (2 ^ m) with
    | none =>
      show Go pmT none cd_214 66 [some (.ref 70), some (.int w0), some (.int it), some (.long T), none, some (.int 12), some (.int (-1))] [] h _
      clear hf
      obtain ⟨S, fi, fl, fr⟩ := h
      have hS : S = shT := hI.1
      subst hS
      refine go_of ?_
      refine gp_n 1 (j' := 67) (lv' := [some (.ref 70), some (.int w0), some (.int it), some (.long T), none, some (.int 12), some (.int (-1))]) (st' := [.int (-1)]) (h' := (shT, fi, fl, fr)) rfl ?_
      refine gp_of (fun _ k9 => g_ift rfl (show ((-1) : Int32) < (0 : Int32) from by decide) k9) ?_
      exact gp_done (fin _) rfl
    | some F =>
      have F1 := (nxt_p hn).1
      have ge : ¬ nI F < 0 := nI_pos (by omega)
      show Go pmT none cd_214 66 [some (.ref 70), some (.int w0), some (.int it), some (.long T), none, some (.int 12), some (.int (nI F))] [] h _
      clear hf
      obtain ⟨S, fi, fl, fr⟩ := h
      have hS : S = shT := hI.1
      subst hS
      refine go_of ?_
      refine gp_n 1 (j' := 67) (lv' := [some (.ref 70), some (.int w0), some (.int it), some (.long T), none, some (.int 12), some (.int (nI F))]) (st' := [.int (nI F)]) (h' := (shT, fi, fl, fr)) rfl ?_
      refine gp_of (fun _ k9 => g_iff rfl (show ¬ ((nI F) < (0 : Int32)) from ge) k9) ?_
      refine gp_n 2 (j' := 70) (lv' := [some (.ref 70), some (.int w0), some (.int it), some (.long T), none, some (.int 12), some (.int (nI F))]) (st' := [.int 12, .int 12]) (h' := (shT, fi, fl, fr)) rfl ?_
      refine gp_of (fun _ k9 => g_ict rfl (show (12 : Int32) ≤ (12 : Int32) from by decide) k9) ?_
      exact gp_done (fin _) rfl
  | succ n ih =>
    intro t T h ht hI hf
    have eR : flR a m k c (n + 1) T t = match nxt (flS a m) (a_v a).2.1 T (2 ^ m) with
      | none => (t, none)
      | some F => if flK a m k c F = true then (t + 1, some F) else flR a m k c n (T ||| bitAt F) (t + 1) := rfl
    have lt : ¬ (12 : Int32) ≤ nI t := nI_ge (b := 12) (by omega) (by omega)
    cases hn : nxt (flS a m) (a_v a).2.1 T (2 ^ m) with
    | none =>
      rw [hn] at eR
      have eR : flR a m k c (n + 1) T t = (t, none) := eR
      rw [eR]
      refine ⟨h, ?_⟩
      have fin := fun e => fin t T e h hI
      generalize flQ a m w it (t, none) = q at *
      generalize nI w = w0 at *
      show Go pmT none cd_214 66 [some (.ref 70), some (.int w0), some (.int it), some (.long T), none, some (.int (nI t)), some (.int (-1))] [] h _
      clear hf ih
      obtain ⟨S, fi, fl, fr⟩ := h
      have hS : S = shT := hI.1
      subst hS
      refine go_of ?_
      refine gp_n 1 (j' := 67) (lv' := [some (.ref 70), some (.int w0), some (.int it), some (.long T), none, some (.int (nI t)), some (.int (-1))]) (st' := [.int (-1)]) (h' := (shT, fi, fl, fr)) rfl ?_
      refine gp_of (fun _ k9 => g_ift rfl (show ((-1) : Int32) < (0 : Int32) from by decide) k9) ?_
      exact gp_done (fin _) rfl
    | some F =>
      rw [hn] at eR
      have eR : flR a m k c (n + 1) T t = if flK a m k c F = true then (t + 1, some F) else flR a m k c n (T ||| bitAt F) (t + 1) := eR
      obtain ⟨F1, F2, F3⟩ := nxt_p hn
      have ge : ¬ nI F < 0 := nI_pos (by omega)
      obtain ⟨h1, e1, I1, m1, b1, b2, G1⟩ := rt_ev (F := F) vk.1 (by omega) hI hf.1
      have f1 := mf_fr m1 G1 hf
      have tu := rdF_tu (F := F) vk.1 F2 hB (2 ^ m) p6.2
      have hd := hd_M (ch := (tuN (a_v a).2.1 m (a_v a).2.2 F (2 ^ m)).1) I1 p6.2 vk.2.2.2.2.2.2.1 vk.2.1 f1.1.1 f1.2.1 f1.2.2.1 f1.2.2.2.1 f1.1.2.1
      rw [← tu.1] at hd b1
      rw [← tu.2] at b2
      have hd : Ev pmT 201 [.ref 70, .long ((rdF (a_v a).2.1 m (a_v a).2.2 F (2 ^ m)).2.1 0)] h1 (some (.int (b01 (flK a m k c F)))) h1 := hd
      have b2 : ph_i h1 70 41 = flM a m F := b2
      rw [eR]
      cases hk : flK a m k c F
      · rw [hk] at hd
        have hd : Ev pmT 201 [.ref 70, .long ((rdF (a_v a).2.1 m (a_v a).2.2 F (2 ^ m)).2.1 0)] h1 (some (.int 0)) h1 := hd
        rw [if_neg (by decide)]
        obtain ⟨h2, g⟩ := ih (t + 1) (T ||| bitAt F) h1 (by omega) I1 f1
        refine ⟨h2, ?_⟩
        have ls := lsM_ev (T := T ||| bitAt F) vk.1 I1 f1
        have ls : Ev pmT 215 [.ref 70, .long (T ||| (1 <<< ((nI F : Int32).toInt64 &&& 63)))] h1 (some (.int (oI (nxt (flS a m) (a_v a).2.1 (T ||| bitAt F) (2 ^ m))))) h1 := ls
        have g : Go pmT none cd_214 66 [some (.ref 70), some (.int (nI w)), some (.int it), some (.long (T ||| (1 <<< ((nI F : Int32).toInt64 &&& 63)))), none, some (.int (nI (t + 1))), some (.int (oI (nxt (flS a m) (a_v a).2.1 (T ||| bitAt F) (2 ^ m))))] [] h1 (some (.int (flQ a m w it (flR a m k c n (T ||| bitAt F) (t + 1)))), h2) := g
        show Go pmT none cd_214 66 [some (.ref 70), some (.int (nI w)), some (.int it), some (.long T), none, some (.int (nI t)), some (.int (nI F))] [] h _
        clear ih f1 m1 G1 hf eR fin
        generalize flQ a m w it (flR a m k c n (T ||| bitAt F) (t + 1)) = q at *
        generalize oI (nxt (flS a m) (a_v a).2.1 (T ||| bitAt F) (2 ^ m)) = e at *
        generalize (rdF (a_v a).2.1 m (a_v a).2.2 F (2 ^ m)).2.1 0 = y at *
        generalize nI w = w0 at *
        obtain ⟨S1, fi1, fl1, fr1⟩ := h1
        have s1 : S1 = shT := I1.1
        subst s1
        have b1 : fl1 70 40 = y := b1
        obtain ⟨S, fi, fl, fr⟩ := h
        have hS : S = shT := hI.1
        subst hS
        refine go_of ?_
        refine gp_n 1 (j' := 67) (lv' := [some (.ref 70), some (.int w0), some (.int it), some (.long T), none, some (.int (nI t)), some (.int (nI F))]) (st' := [.int (nI F)]) (h' := (shT, fi, fl, fr)) rfl ?_
        refine gp_of (fun _ k9 => g_iff rfl (show ¬ ((nI F) < (0 : Int32)) from ge) k9) ?_
        refine gp_n 2 (j' := 70) (lv' := [some (.ref 70), some (.int w0), some (.int it), some (.long T), none, some (.int (nI t)), some (.int (nI F))]) (st' := [.int 12, .int (nI t)]) (h' := (shT, fi, fl, fr)) rfl ?_
        refine gp_of (fun _ k9 => g_icf rfl (show ¬ ((12 : Int32) ≤ (nI t)) from lt) k9) ?_
        refine gp_n 1 (j' := 72) (lv' := [some (.ref 70), some (.int w0), some (.int it), some (.long T), none, some (.int ((nI t) + 1)), some (.int (nI F))]) (st' := []) (h' := (shT, fi, fl, fr)) rfl ?_
        rw [nI_1]
        refine gp_n 2 (j' := 74) (lv' := [some (.ref 70), some (.int w0), some (.int it), some (.long T), none, some (.int (nI (t + 1))), some (.int (nI F))]) (st' := [.int (nI F), .ref 70]) (h' := (shT, fi, fl, fr)) rfl ?_
        refine gp_of (fun _ k9 => g_callv (y := 216) (as := [.ref 70, .int (nI F)]) (st' := []) rfl rfl (e1) k9) ?_
        refine gp_n 2 (j' := 77) (lv' := [some (.ref 70), some (.int w0), some (.int it), some (.long T), none, some (.int (nI (t + 1))), some (.int (nI F))]) (st' := [.ref 70, .ref 70]) (h' := (shT, fi1, fl1, fr1)) rfl ?_
        refine gp_of (fun _ k9 => g_getL (x := y) rfl rfl (by decide) (b1) k9) ?_
        refine gp_of (fun _ k9 => g_call (y := 201) (as := [.ref 70, .long y]) (st' := []) rfl rfl (hd) k9) ?_
        refine gp_of (fun _ k9 => g_ift rfl (show (0 : Int32) = (0 : Int32) from by decide) k9) ?_
        refine gp_n 8 (j' := 105) (lv' := [some (.ref 70), some (.int w0), some (.int it), some (.long (T ||| ((1 : Int64) <<< ((nI F : Int32).toInt64 &&& 63)))), none, some (.int (nI (t + 1))), some (.int (nI F))]) (st' := [.long (T ||| ((1 : Int64) <<< ((nI F : Int32).toInt64 &&& 63))), .ref 70]) (h' := (shT, fi1, fl1, fr1)) rfl ?_
        refine gp_of (fun _ k9 => g_call (y := 215) (as := [.ref 70, .long (T ||| ((1 : Int64) <<< ((nI F : Int32).toInt64 &&& 63)))]) (st' := []) rfl rfl (ls) k9) ?_
        refine gp_n 2 (j' := 66) (lv' := [some (.ref 70), some (.int w0), some (.int it), some (.long (T ||| ((1 : Int64) <<< ((nI F : Int32).toInt64 &&& 63)))), none, some (.int (nI (t + 1))), some (.int e)]) (st' := []) (h' := (shT, fi1, fl1, fr1)) rfl ?_
        exact gp_done g rfl
      · rw [hk] at hd
        have hd : Ev pmT 201 [.ref 70, .long ((rdF (a_v a).2.1 m (a_v a).2.2 F (2 ^ m)).2.1 0)] h1 (some (.int 1)) h1 := hd
        rw [if_pos rfl]
        refine ⟨h1, ?_⟩
        show Go pmT none cd_214 66 [some (.ref 70), some (.int (nI w)), some (.int it), some (.long T), none, some (.int (nI t)), some (.int (nI F))] [] h _
        clear ih f1 m1 G1 hf eR fin
        have q2 : flQ a m 2 it (t + 1, some F) = flM a m F := rfl
        generalize hf2 : flM a m F = mf at *
        generalize (rdF (a_v a).2.1 m (a_v a).2.2 F (2 ^ m)).2.1 0 = y at *
        obtain ⟨S1, fi1, fl1, fr1⟩ := h1
        have s1 : S1 = shT := I1.1
        subst s1
        have b1 : fl1 70 40 = y := b1
        have b2 : fi1 70 41 = mf := b2
        obtain ⟨S, fi, fl, fr⟩ := h
        have hS : S = shT := hI.1
        subst hS
        rcases hw4 with rfl | rfl | rfl | rfl
        · show Go pmT none cd_214 66 _ _ _ (some (.int (nI (t + 1))), _)
          refine go_of ?_
          refine gp_n 1 (j' := 67) (lv' := [some (.ref 70), some (.int 0), some (.int it), some (.long T), none, some (.int (nI t)), some (.int (nI F))]) (st' := [.int (nI F)]) (h' := (shT, fi, fl, fr)) rfl ?_
          refine gp_of (fun _ k9 => g_iff rfl (show ¬ ((nI F) < (0 : Int32)) from ge) k9) ?_
          refine gp_n 2 (j' := 70) (lv' := [some (.ref 70), some (.int 0), some (.int it), some (.long T), none, some (.int (nI t)), some (.int (nI F))]) (st' := [.int 12, .int (nI t)]) (h' := (shT, fi, fl, fr)) rfl ?_
          refine gp_of (fun _ k9 => g_icf rfl (show ¬ ((12 : Int32) ≤ (nI t)) from lt) k9) ?_
          refine gp_n 1 (j' := 72) (lv' := [some (.ref 70), some (.int 0), some (.int it), some (.long T), none, some (.int ((nI t) + 1)), some (.int (nI F))]) (st' := []) (h' := (shT, fi, fl, fr)) rfl ?_
          rw [nI_1]
          refine gp_n 2 (j' := 74) (lv' := [some (.ref 70), some (.int 0), some (.int it), some (.long T), none, some (.int (nI (t + 1))), some (.int (nI F))]) (st' := [.int (nI F), .ref 70]) (h' := (shT, fi, fl, fr)) rfl ?_
          refine gp_of (fun _ k9 => g_callv (y := 216) (as := [.ref 70, .int (nI F)]) (st' := []) rfl rfl (e1) k9) ?_
          refine gp_n 2 (j' := 77) (lv' := [some (.ref 70), some (.int 0), some (.int it), some (.long T), none, some (.int (nI (t + 1))), some (.int (nI F))]) (st' := [.ref 70, .ref 70]) (h' := (shT, fi1, fl1, fr1)) rfl ?_
          refine gp_of (fun _ k9 => g_getL (x := y) rfl rfl (by decide) (b1) k9) ?_
          refine gp_of (fun _ k9 => g_call (y := 201) (as := [.ref 70, .long y]) (st' := []) rfl rfl (hd) k9) ?_
          refine gp_of (fun _ k9 => g_iff rfl (show ¬ ((1 : Int32) = (0 : Int32)) from by decide) k9) ?_
          refine gp_n 1 (j' := 81) (lv' := [some (.ref 70), some (.int 0), some (.int it), some (.long T), none, some (.int (nI (t + 1))), some (.int (nI F))]) (st' := [.int 0]) (h' := (shT, fi1, fl1, fr1)) rfl ?_
          refine gp_of (fun _ k9 => g_iff rfl (show ¬ (¬ (0 : Int32) = (0 : Int32)) from by decide) k9) ?_
          refine gp_n 2 (j' := 96) (lv' := [some (.ref 70), some (.int 0), some (.int it), some (.long T), none, some (.int (nI (t + 1))), some (.int (nI F))]) (st' := [.int (nI (t + 1))]) (h' := (shT, fi1, fl1, fr1)) rfl ?_
          refine gp_done (g_ret rfl) ?_
          rfl
        · show Go pmT none cd_214 66 _ _ _ (some (.int (nI F)), _)
          refine go_of ?_
          refine gp_n 1 (j' := 67) (lv' := [some (.ref 70), some (.int 1), some (.int it), some (.long T), none, some (.int (nI t)), some (.int (nI F))]) (st' := [.int (nI F)]) (h' := (shT, fi, fl, fr)) rfl ?_
          refine gp_of (fun _ k9 => g_iff rfl (show ¬ ((nI F) < (0 : Int32)) from ge) k9) ?_
          refine gp_n 2 (j' := 70) (lv' := [some (.ref 70), some (.int 1), some (.int it), some (.long T), none, some (.int (nI t)), some (.int (nI F))]) (st' := [.int 12, .int (nI t)]) (h' := (shT, fi, fl, fr)) rfl ?_
          refine gp_of (fun _ k9 => g_icf rfl (show ¬ ((12 : Int32) ≤ (nI t)) from lt) k9) ?_
          refine gp_n 1 (j' := 72) (lv' := [some (.ref 70), some (.int 1), some (.int it), some (.long T), none, some (.int ((nI t) + 1)), some (.int (nI F))]) (st' := []) (h' := (shT, fi, fl, fr)) rfl ?_
          rw [nI_1]
          refine gp_n 2 (j' := 74) (lv' := [some (.ref 70), some (.int 1), some (.int it), some (.long T), none, some (.int (nI (t + 1))), some (.int (nI F))]) (st' := [.int (nI F), .ref 70]) (h' := (shT, fi, fl, fr)) rfl ?_
          refine gp_of (fun _ k9 => g_callv (y := 216) (as := [.ref 70, .int (nI F)]) (st' := []) rfl rfl (e1) k9) ?_
          refine gp_n 2 (j' := 77) (lv' := [some (.ref 70), some (.int 1), some (.int it), some (.long T), none, some (.int (nI (t + 1))), some (.int (nI F))]) (st' := [.ref 70, .ref 70]) (h' := (shT, fi1, fl1, fr1)) rfl ?_
          refine gp_of (fun _ k9 => g_getL (x := y) rfl rfl (by decide) (b1) k9) ?_
          refine gp_of (fun _ k9 => g_call (y := 201) (as := [.ref 70, .long y]) (st' := []) rfl rfl (hd) k9) ?_
          refine gp_of (fun _ k9 => g_iff rfl (show ¬ ((1 : Int32) = (0 : Int32)) from by decide) k9) ?_
          refine gp_n 1 (j' := 81) (lv' := [some (.ref 70), some (.int 1), some (.int it), some (.long T), none, some (.int (nI (t + 1))), some (.int (nI F))]) (st' := [.int 1]) (h' := (shT, fi1, fl1, fr1)) rfl ?_
          refine gp_of (fun _ k9 => g_ift rfl (show ¬ (1 : Int32) = (0 : Int32) from by decide) k9) ?_
          refine gp_n 2 (j' := 86) (lv' := [some (.ref 70), some (.int 1), some (.int it), some (.long T), none, some (.int (nI (t + 1))), some (.int (nI F))]) (st' := [.int 1, .int 1]) (h' := (shT, fi1, fl1, fr1)) rfl ?_
          refine gp_of (fun _ k9 => g_icf rfl (show ¬ (¬ (1 : Int32) = (1 : Int32)) from by decide) k9) ?_
          refine gp_n 2 (j' := 96) (lv' := [some (.ref 70), some (.int 1), some (.int it), some (.long T), none, some (.int (nI (t + 1))), some (.int (nI F))]) (st' := [.int (nI F)]) (h' := (shT, fi1, fl1, fr1)) rfl ?_
          refine gp_done (g_ret rfl) ?_
          rfl
        · rw [q2]
          refine go_of ?_
          refine gp_n 1 (j' := 67) (lv' := [some (.ref 70), some (.int 2), some (.int it), some (.long T), none, some (.int (nI t)), some (.int (nI F))]) (st' := [.int (nI F)]) (h' := (shT, fi, fl, fr)) rfl ?_
          refine gp_of (fun _ k9 => g_iff rfl (show ¬ ((nI F) < (0 : Int32)) from ge) k9) ?_
          refine gp_n 2 (j' := 70) (lv' := [some (.ref 70), some (.int 2), some (.int it), some (.long T), none, some (.int (nI t)), some (.int (nI F))]) (st' := [.int 12, .int (nI t)]) (h' := (shT, fi, fl, fr)) rfl ?_
          refine gp_of (fun _ k9 => g_icf rfl (show ¬ ((12 : Int32) ≤ (nI t)) from lt) k9) ?_
          refine gp_n 1 (j' := 72) (lv' := [some (.ref 70), some (.int 2), some (.int it), some (.long T), none, some (.int ((nI t) + 1)), some (.int (nI F))]) (st' := []) (h' := (shT, fi, fl, fr)) rfl ?_
          rw [nI_1]
          refine gp_n 2 (j' := 74) (lv' := [some (.ref 70), some (.int 2), some (.int it), some (.long T), none, some (.int (nI (t + 1))), some (.int (nI F))]) (st' := [.int (nI F), .ref 70]) (h' := (shT, fi, fl, fr)) rfl ?_
          refine gp_of (fun _ k9 => g_callv (y := 216) (as := [.ref 70, .int (nI F)]) (st' := []) rfl rfl (e1) k9) ?_
          refine gp_n 2 (j' := 77) (lv' := [some (.ref 70), some (.int 2), some (.int it), some (.long T), none, some (.int (nI (t + 1))), some (.int (nI F))]) (st' := [.ref 70, .ref 70]) (h' := (shT, fi1, fl1, fr1)) rfl ?_
          refine gp_of (fun _ k9 => g_getL (x := y) rfl rfl (by decide) (b1) k9) ?_
          refine gp_of (fun _ k9 => g_call (y := 201) (as := [.ref 70, .long y]) (st' := []) rfl rfl (hd) k9) ?_
          refine gp_of (fun _ k9 => g_iff rfl (show ¬ ((1 : Int32) = (0 : Int32)) from by decide) k9) ?_
          refine gp_n 1 (j' := 81) (lv' := [some (.ref 70), some (.int 2), some (.int it), some (.long T), none, some (.int (nI (t + 1))), some (.int (nI F))]) (st' := [.int 2]) (h' := (shT, fi1, fl1, fr1)) rfl ?_
          refine gp_of (fun _ k9 => g_ift rfl (show ¬ (2 : Int32) = (0 : Int32) from by decide) k9) ?_
          refine gp_n 2 (j' := 86) (lv' := [some (.ref 70), some (.int 2), some (.int it), some (.long T), none, some (.int (nI (t + 1))), some (.int (nI F))]) (st' := [.int 1, .int 2]) (h' := (shT, fi1, fl1, fr1)) rfl ?_
          refine gp_of (fun _ k9 => g_ict rfl (show ¬ (2 : Int32) = (1 : Int32) from by decide) k9) ?_
          refine gp_n 2 (j' := 91) (lv' := [some (.ref 70), some (.int 2), some (.int it), some (.long T), none, some (.int (nI (t + 1))), some (.int (nI F))]) (st' := [.int 2, .int 2]) (h' := (shT, fi1, fl1, fr1)) rfl ?_
          refine gp_of (fun _ k9 => g_icf rfl (show ¬ (¬ (2 : Int32) = (2 : Int32)) from by decide) k9) ?_
          refine gp_n 1 (j' := 93) (lv' := [some (.ref 70), some (.int 2), some (.int it), some (.long T), none, some (.int (nI (t + 1))), some (.int (nI F))]) (st' := [.ref 70]) (h' := (shT, fi1, fl1, fr1)) rfl ?_
          refine gp_of (fun _ k9 => g_getI (x := mf) rfl (Or.inl rfl) rfl (by decide) (b2) k9) ?_
          refine gp_n 1 (j' := 96) (lv' := [some (.ref 70), some (.int 2), some (.int it), some (.long T), none, some (.int (nI (t + 1))), some (.int (nI F))]) (st' := [.int mf]) (h' := (shT, fi1, fl1, fr1)) rfl ?_
          refine gp_done (g_ret rfl) ?_
          rfl
        · show Go pmT none cd_214 66 _ _ _ (some (.int (1)), _)
          refine go_of ?_
          refine gp_n 1 (j' := 67) (lv' := [some (.ref 70), some (.int 3), some (.int it), some (.long T), none, some (.int (nI t)), some (.int (nI F))]) (st' := [.int (nI F)]) (h' := (shT, fi, fl, fr)) rfl ?_
          refine gp_of (fun _ k9 => g_iff rfl (show ¬ ((nI F) < (0 : Int32)) from ge) k9) ?_
          refine gp_n 2 (j' := 70) (lv' := [some (.ref 70), some (.int 3), some (.int it), some (.long T), none, some (.int (nI t)), some (.int (nI F))]) (st' := [.int 12, .int (nI t)]) (h' := (shT, fi, fl, fr)) rfl ?_
          refine gp_of (fun _ k9 => g_icf rfl (show ¬ ((12 : Int32) ≤ (nI t)) from lt) k9) ?_
          refine gp_n 1 (j' := 72) (lv' := [some (.ref 70), some (.int 3), some (.int it), some (.long T), none, some (.int ((nI t) + 1)), some (.int (nI F))]) (st' := []) (h' := (shT, fi, fl, fr)) rfl ?_
          rw [nI_1]
          refine gp_n 2 (j' := 74) (lv' := [some (.ref 70), some (.int 3), some (.int it), some (.long T), none, some (.int (nI (t + 1))), some (.int (nI F))]) (st' := [.int (nI F), .ref 70]) (h' := (shT, fi, fl, fr)) rfl ?_
          refine gp_of (fun _ k9 => g_callv (y := 216) (as := [.ref 70, .int (nI F)]) (st' := []) rfl rfl (e1) k9) ?_
          refine gp_n 2 (j' := 77) (lv' := [some (.ref 70), some (.int 3), some (.int it), some (.long T), none, some (.int (nI (t + 1))), some (.int (nI F))]) (st' := [.ref 70, .ref 70]) (h' := (shT, fi1, fl1, fr1)) rfl ?_
          refine gp_of (fun _ k9 => g_getL (x := y) rfl rfl (by decide) (b1) k9) ?_
          refine gp_of (fun _ k9 => g_call (y := 201) (as := [.ref 70, .long y]) (st' := []) rfl rfl (hd) k9) ?_
          refine gp_of (fun _ k9 => g_iff rfl (show ¬ ((1 : Int32) = (0 : Int32)) from by decide) k9) ?_
          refine gp_n 1 (j' := 81) (lv' := [some (.ref 70), some (.int 3), some (.int it), some (.long T), none, some (.int (nI (t + 1))), some (.int (nI F))]) (st' := [.int 3]) (h' := (shT, fi1, fl1, fr1)) rfl ?_
          refine gp_of (fun _ k9 => g_ift rfl (show ¬ (3 : Int32) = (0 : Int32) from by decide) k9) ?_
          refine gp_n 2 (j' := 86) (lv' := [some (.ref 70), some (.int 3), some (.int it), some (.long T), none, some (.int (nI (t + 1))), some (.int (nI F))]) (st' := [.int 1, .int 3]) (h' := (shT, fi1, fl1, fr1)) rfl ?_
          refine gp_of (fun _ k9 => g_ict rfl (show ¬ (3 : Int32) = (1 : Int32) from by decide) k9) ?_
          refine gp_n 2 (j' := 91) (lv' := [some (.ref 70), some (.int 3), some (.int it), some (.long T), none, some (.int (nI (t + 1))), some (.int (nI F))]) (st' := [.int 2, .int 3]) (h' := (shT, fi1, fl1, fr1)) rfl ?_
          refine gp_of (fun _ k9 => g_ict rfl (show ¬ (3 : Int32) = (2 : Int32) from by decide) k9) ?_
          refine gp_n 1 (j' := 96) (lv' := [some (.ref 70), some (.int 3), some (.int it), some (.long T), none, some (.int (nI (t + 1))), some (.int (nI F))]) (st' := [.int 1]) (h' := (shT, fi1, fl1, fr1)) rfl ?_
          refine gp_done (g_ret rfl) ?_
          rfl
theorem fl_M {h : PmH} {a : AB} {m k c l w : Nat} (hr : REL2 h a) (h0 : 0 < (a_v a).1 1) (vk : VK (a_v a) m k c) (hB : ∀ s, s < 64 → -127 ≤ ((a_v a).2.2 s).toInt ∧ ((a_v a).2.2 s).toInt ≤ 127) (hw : w < 4) : ∃ h', Ev pmT 214 [.ref 70, .int (nI w)] h (some (.int (flV a m k c w))) h' := by
  have hI := hr.1.1
  have p6 := pw_6 m (by have := vk.1; omega)
  have c0 : ph_i h 70 14 = (a_v a).1 1 := hr.1.2.2.1.2.2.2.2.1.1 0 (by decide)
  have t1 := isc1 hI c0 h0
  obtain ⟨h1, e1, I1, x1, F1⟩ := run_M (most := 1) hr vk (by decide) (by decide)
  have r1 : REL2 h1 a := q_fr (by decide) (by decide) I1 F1 hr
  have f := r1.1.2.2.1.2.2.2.2.1
  have P1 : (rdX a m 1).1 = 1 := by
    have := rd_P (K := (a_v a).2.1) (m := m) (S := (a_v a).2.2) (most := 1) (by decide) (2 ^ m)
    exact Nat.le_antisymm this.2 this.1
  have d1 := x1.1.2 0 (show 0 < (rdX a m 1).1 by omega)
  have hd := hd_M (ch := (rdX a m 1).2.1 0) I1 p6.2 vk.2.2.2.2.2.2.1 vk.2.1 ((f.1 0 (by decide)).trans vk.2.2.2.1) ((f.1 2 (by decide)).trans vk.2.2.2.2.1) ((f.1 3 (by decide)).trans vk.2.2.2.2.2.1) (f.1 4 (by decide)) (f.2 rfl).1
  have hd : Ev pmT 201 [.ref 70, .long ((rdX a m 1).2.1 0)] h1 (some (.int (b01 (rdD a m k c 1 0)))) h1 := hd
  have e1 : Ev pmT 191 [.ref 70, .int 1] h none h1 := e1
  have q27 : ph_r h1 70 27 = some 77 := hi_r I1 rfl rfl (by decide)
  have q26 : ph_r h1 70 26 = some 76 := hi_r I1 rfl rfl (by decide)
  have d1a : ph_l h1 76 0 = (rdX a m 1).2.1 0 := d1.1
  have d1b : ph_i h1 77 0 = (rdX a m 1).2.2 0 := d1.2
  have hw4 : w = 0 ∨ w = 1 ∨ w = 2 ∨ w = 3 := by omega
  have eV : flV a m k c w = if rdD a m k c 1 0 = true then (if w = 0 then 0 else if w = 1 then -1 else if w = 2 then (rdX a m 1).2.2 0 else 1) else flQ a m w ((rdX a m 1).2.2 0) (flR a m k c 12 0 0) := rfl
  have isi := fun (x : Int32) h => isin_1 (x := x) 0 3 (l1 := 0) (l2 := 3) (h := h) (by decide) (by decide)
  rw [eV]
  cases hh : rdD a m k c 1 0
  · rw [hh] at hd
    have hd : Ev pmT 201 [.ref 70, .long ((rdX a m 1).2.1 0)] h1 (some (.int 0)) h1 := hd
    rw [if_neg (by decide)]
    obtain ⟨h2, I2, f2, g⟩ := cpM_go (a := a) (k := k) (c := c) (w := nI w) (it := (rdX a m 1).2.2 0) vk.1 (2 ^ m) 0 h1 (by omega) I1 x1.2.1 ((f.1 2 (by decide)).trans vk.2.2.2.2.1) ((f.1 3 (by decide)).trans vk.2.2.2.2.2.1) (f.1 4 (by decide)) (fun j hj => (x1.2.2 j hj).2.2) (fun j hj => absurd hj (Nat.not_lt_zero j))
    obtain ⟨h3, g3⟩ := flM_go (it := (rdX a m 1).2.2 0) hw vk hB 12 0 0 h2 (by decide) I2 f2
    have ls := lsM_ev (T := 0) vk.1 I2 f2
    refine ⟨h3, ?_⟩
    have isw : Ev pmT 148 [.long (nI w).toInt64, .long 0, .long 3] h (some (.int 1)) h := isi (nI w) h (by rcases hw4 with rfl | rfl | rfl | rfl <;> decide)
    clear f2 x1 r1 F1 hr f eV d1 hh isi
    generalize flQ a m w ((rdX a m 1).2.2 0) (flR a m k c 12 0 0) = q at *
    generalize oI (nxt (flS a m) (a_v a).2.1 0 (2 ^ m)) = e at *
    generalize (rdX a m 1).2.2 0 = it at *
    generalize (rdX a m 1).2.1 0 = y at *
    generalize nI (2 ^ m) = N at *
    generalize nI w = w0 at *
    obtain ⟨S2, fi2, fl2, fr2⟩ := h2
    have s2 : S2 = shT := I2.1
    subst s2
    have g := g (some (.int q), h3) (by
      refine go_of ?_
      refine gp_n 6 (j' := 64) (lv' := [some (.ref 70), some (.int w0), some (.int it), some (.long 0), none, some (.int 0), none]) (st' := [.long 0, .ref 70]) (h' := (shT, fi2, fl2, fr2)) rfl ?_
      refine gp_of (fun _ k9 => g_call (y := 215) (as := [.ref 70, .long 0]) (st' := []) rfl rfl (ls) k9) ?_
      refine gp_n 1 (j' := 66) (lv' := [some (.ref 70), some (.int w0), some (.int it), some (.long 0), none, some (.int (nI 0)), some (.int e)]) (st' := []) (h' := (shT, fi2, fl2, fr2)) rfl ?_
      exact gp_done g3 rfl)
    obtain ⟨S1, fi1, fl1, fr1⟩ := h1
    have s1 : S1 = shT := I1.1
    subst s1
    have q27 : fr1 70 27 = some 77 := q27
    have q26 : fr1 70 26 = some 76 := q26
    have d1a : fl1 76 0 = y := d1a
    have d1b : fi1 77 0 = it := d1b
    obtain ⟨S, fi, fl, fr⟩ := h
    have hS : S = shT := hI.1
    subst hS
    refine Ev.of (es := cd_214) (ml := 7) (lv := [some (.ref 70), some (.int w0), none, none, none, none, none]) rfl rfl rfl ?_
    refine go_of ?_
    refine gp_n 1 (j' := 1) (lv' := [some (.ref 70), some (.int w0), none, none, none, none, none]) (st' := [.ref 70]) (h' := (shT, fi, fl, fr)) rfl ?_
    refine gp_of (fun _ k9 => g_call (y := 172) (as := [.ref 70]) (st' := []) rfl rfl (t1) k9) ?_
    refine gp_of (fun _ k9 => g_iff rfl (show ¬ ((1 : Int32) = (0 : Int32)) from by decide) k9) ?_
    refine gp_n 4 (j' := 7) (lv' := [some (.ref 70), some (.int w0), none, none, none, none, none]) (st' := [.long 3, .long 0, .long w0.toInt64]) (h' := (shT, fi, fl, fr)) rfl ?_
    refine gp_of (fun _ k9 => g_call (y := 148) (as := [.long w0.toInt64, .long 0, .long 3]) (st' := []) rfl rfl (isw) k9) ?_
    refine gp_of (fun _ k9 => g_ift rfl (show ¬ (1 : Int32) = (0 : Int32) from by decide) k9) ?_
    refine gp_n 2 (j' := 13) (lv' := [some (.ref 70), some (.int w0), none, none, none, none, none]) (st' := [.int 1, .ref 70]) (h' := (shT, fi, fl, fr)) rfl ?_
    refine gp_of (fun _ k9 => g_callv (y := 191) (as := [.ref 70, .int 1]) (st' := []) rfl rfl (e1) k9) ?_
    refine gp_n 1 (j' := 15) (lv' := [some (.ref 70), some (.int w0), none, none, none, none, none]) (st' := [.ref 70]) (h' := (shT, fi1, fl1, fr1)) rfl ?_
    refine gp_of (fun _ k9 => g_getR (q' := 77) rfl rfl (by decide) q27 k9) ?_
    refine gp_n 1 (j' := 17) (lv' := [some (.ref 70), some (.int w0), none, none, none, none, none]) (st' := [.int 0, .ref 77]) (h' := (shT, fi1, fl1, fr1)) rfl ?_
    refine gp_of (fun _ k9 => g_iald (k := 0) (x := it) rfl rfl (rfl) (by decide) (by decide) (d1b) k9) ?_
    refine gp_n 3 (j' := 21) (lv' := [some (.ref 70), some (.int w0), some (.int it), none, none, none, none]) (st' := [.ref 70, .ref 70]) (h' := (shT, fi1, fl1, fr1)) rfl ?_
    refine gp_of (fun _ k9 => g_getR (q' := 76) rfl rfl (by decide) q26 k9) ?_
    refine gp_n 1 (j' := 23) (lv' := [some (.ref 70), some (.int w0), some (.int it), none, none, none, none]) (st' := [.int 0, .ref 76, .ref 70]) (h' := (shT, fi1, fl1, fr1)) rfl ?_
    refine gp_of (fun _ k9 => g_lald (k := 0) (x := y) rfl rfl (rfl) (by decide) (by decide) (d1a) k9) ?_
    refine gp_of (fun _ k9 => g_call (y := 201) (as := [.ref 70, .long y]) (st' := []) rfl rfl (hd) k9) ?_
    refine gp_of (fun _ k9 => g_ift rfl (show (0 : Int32) = (0 : Int32) from by decide) k9) ?_
    refine gp_n 2 (j' := 44) (lv' := [some (.ref 70), some (.int w0), some (.int it), some (.int (nI 0)), none, none, none]) (st' := []) (h' := (shT, fi1, fl1, fr1)) rfl ?_
    exact gp_done g rfl
  · rw [hh] at hd
    have hd : Ev pmT 201 [.ref 70, .long ((rdX a m 1).2.1 0)] h1 (some (.int 1)) h1 := hd
    rw [if_pos rfl]
    refine ⟨h1, ?_⟩
    clear x1 r1 F1 hr f eV d1 hh
    generalize (rdX a m 1).2.2 0 = it at *
    generalize (rdX a m 1).2.1 0 = y at *
    obtain ⟨S1, fi1, fl1, fr1⟩ := h1
    have s1 : S1 = shT := I1.1
    subst s1
    have q27 : fr1 70 27 = some 77 := q27
    have q26 : fr1 70 26 = some 76 := q26
    have d1a : fl1 76 0 = y := d1a
    have d1b : fi1 77 0 = it := d1b
    obtain ⟨S, fi, fl, fr⟩ := h
    have hS : S = shT := hI.1
    subst hS
    rcases hw4 with rfl | rfl | rfl | rfl
    · show Ev pmT 214 [.ref 70, .int 0] _ (some (.int (0))) _
      have isw := isi 0 (shT, fi, fl, fr) (by decide)
      refine Ev.of (es := cd_214) (ml := 7) (lv := [some (.ref 70), some (.int 0), none, none, none, none, none]) rfl rfl rfl ?_
      refine go_of ?_
      refine gp_n 1 (j' := 1) (lv' := [some (.ref 70), some (.int 0), none, none, none, none, none]) (st' := [.ref 70]) (h' := (shT, fi, fl, fr)) rfl ?_
      refine gp_of (fun _ k9 => g_call (y := 172) (as := [.ref 70]) (st' := []) rfl rfl (t1) k9) ?_
      refine gp_of (fun _ k9 => g_iff rfl (show ¬ ((1 : Int32) = (0 : Int32)) from by decide) k9) ?_
      refine gp_n 4 (j' := 7) (lv' := [some (.ref 70), some (.int 0), none, none, none, none, none]) (st' := [.long 3, .long 0, .long 0]) (h' := (shT, fi, fl, fr)) rfl ?_
      refine gp_of (fun _ k9 => g_call (y := 148) (as := [.long 0, .long 0, .long 3]) (st' := []) rfl rfl (isw) k9) ?_
      refine gp_of (fun _ k9 => g_ift rfl (show ¬ (1 : Int32) = (0 : Int32) from by decide) k9) ?_
      refine gp_n 2 (j' := 13) (lv' := [some (.ref 70), some (.int 0), none, none, none, none, none]) (st' := [.int 1, .ref 70]) (h' := (shT, fi, fl, fr)) rfl ?_
      refine gp_of (fun _ k9 => g_callv (y := 191) (as := [.ref 70, .int 1]) (st' := []) rfl rfl (e1) k9) ?_
      refine gp_n 1 (j' := 15) (lv' := [some (.ref 70), some (.int 0), none, none, none, none, none]) (st' := [.ref 70]) (h' := (shT, fi1, fl1, fr1)) rfl ?_
      refine gp_of (fun _ k9 => g_getR (q' := 77) rfl rfl (by decide) q27 k9) ?_
      refine gp_n 1 (j' := 17) (lv' := [some (.ref 70), some (.int 0), none, none, none, none, none]) (st' := [.int 0, .ref 77]) (h' := (shT, fi1, fl1, fr1)) rfl ?_
      refine gp_of (fun _ k9 => g_iald (k := 0) (x := it) rfl rfl (rfl) (by decide) (by decide) (d1b) k9) ?_
      refine gp_n 3 (j' := 21) (lv' := [some (.ref 70), some (.int 0), some (.int it), none, none, none, none]) (st' := [.ref 70, .ref 70]) (h' := (shT, fi1, fl1, fr1)) rfl ?_
      refine gp_of (fun _ k9 => g_getR (q' := 76) rfl rfl (by decide) q26 k9) ?_
      refine gp_n 1 (j' := 23) (lv' := [some (.ref 70), some (.int 0), some (.int it), none, none, none, none]) (st' := [.int 0, .ref 76, .ref 70]) (h' := (shT, fi1, fl1, fr1)) rfl ?_
      refine gp_of (fun _ k9 => g_lald (k := 0) (x := y) rfl rfl (rfl) (by decide) (by decide) (d1a) k9) ?_
      refine gp_of (fun _ k9 => g_call (y := 201) (as := [.ref 70, .long y]) (st' := []) rfl rfl (hd) k9) ?_
      refine gp_of (fun _ k9 => g_iff rfl (show ¬ ((1 : Int32) = (0 : Int32)) from by decide) k9) ?_
      refine gp_n 1 (j' := 27) (lv' := [some (.ref 70), some (.int 0), some (.int it), none, none, none, none]) (st' := [.int 0]) (h' := (shT, fi1, fl1, fr1)) rfl ?_
      refine gp_of (fun _ k9 => g_iff rfl (show ¬ (¬ (0 : Int32) = (0 : Int32)) from by decide) k9) ?_
      refine gp_n 2 (j' := 41) (lv' := [some (.ref 70), some (.int 0), some (.int it), none, none, none, none]) (st' := [.int 0]) (h' := (shT, fi1, fl1, fr1)) rfl ?_
      refine gp_done (g_ret rfl) ?_
      rfl
    · show Ev pmT 214 [.ref 70, .int 1] _ (some (.int (-1))) _
      have isw := isi 1 (shT, fi, fl, fr) (by decide)
      refine Ev.of (es := cd_214) (ml := 7) (lv := [some (.ref 70), some (.int 1), none, none, none, none, none]) rfl rfl rfl ?_
      refine go_of ?_
      refine gp_n 1 (j' := 1) (lv' := [some (.ref 70), some (.int 1), none, none, none, none, none]) (st' := [.ref 70]) (h' := (shT, fi, fl, fr)) rfl ?_
      refine gp_of (fun _ k9 => g_call (y := 172) (as := [.ref 70]) (st' := []) rfl rfl (t1) k9) ?_
      refine gp_of (fun _ k9 => g_iff rfl (show ¬ ((1 : Int32) = (0 : Int32)) from by decide) k9) ?_
      refine gp_n 4 (j' := 7) (lv' := [some (.ref 70), some (.int 1), none, none, none, none, none]) (st' := [.long 3, .long 0, .long 1]) (h' := (shT, fi, fl, fr)) rfl ?_
      refine gp_of (fun _ k9 => g_call (y := 148) (as := [.long 1, .long 0, .long 3]) (st' := []) rfl rfl (isw) k9) ?_
      refine gp_of (fun _ k9 => g_ift rfl (show ¬ (1 : Int32) = (0 : Int32) from by decide) k9) ?_
      refine gp_n 2 (j' := 13) (lv' := [some (.ref 70), some (.int 1), none, none, none, none, none]) (st' := [.int 1, .ref 70]) (h' := (shT, fi, fl, fr)) rfl ?_
      refine gp_of (fun _ k9 => g_callv (y := 191) (as := [.ref 70, .int 1]) (st' := []) rfl rfl (e1) k9) ?_
      refine gp_n 1 (j' := 15) (lv' := [some (.ref 70), some (.int 1), none, none, none, none, none]) (st' := [.ref 70]) (h' := (shT, fi1, fl1, fr1)) rfl ?_
      refine gp_of (fun _ k9 => g_getR (q' := 77) rfl rfl (by decide) q27 k9) ?_
      refine gp_n 1 (j' := 17) (lv' := [some (.ref 70), some (.int 1), none, none, none, none, none]) (st' := [.int 0, .ref 77]) (h' := (shT, fi1, fl1, fr1)) rfl ?_
      refine gp_of (fun _ k9 => g_iald (k := 0) (x := it) rfl rfl (rfl) (by decide) (by decide) (d1b) k9) ?_
      refine gp_n 3 (j' := 21) (lv' := [some (.ref 70), some (.int 1), some (.int it), none, none, none, none]) (st' := [.ref 70, .ref 70]) (h' := (shT, fi1, fl1, fr1)) rfl ?_
      refine gp_of (fun _ k9 => g_getR (q' := 76) rfl rfl (by decide) q26 k9) ?_
      refine gp_n 1 (j' := 23) (lv' := [some (.ref 70), some (.int 1), some (.int it), none, none, none, none]) (st' := [.int 0, .ref 76, .ref 70]) (h' := (shT, fi1, fl1, fr1)) rfl ?_
      refine gp_of (fun _ k9 => g_lald (k := 0) (x := y) rfl rfl (rfl) (by decide) (by decide) (d1a) k9) ?_
      refine gp_of (fun _ k9 => g_call (y := 201) (as := [.ref 70, .long y]) (st' := []) rfl rfl (hd) k9) ?_
      refine gp_of (fun _ k9 => g_iff rfl (show ¬ ((1 : Int32) = (0 : Int32)) from by decide) k9) ?_
      refine gp_n 1 (j' := 27) (lv' := [some (.ref 70), some (.int 1), some (.int it), none, none, none, none]) (st' := [.int 1]) (h' := (shT, fi1, fl1, fr1)) rfl ?_
      refine gp_of (fun _ k9 => g_ift rfl (show ¬ (1 : Int32) = (0 : Int32) from by decide) k9) ?_
      refine gp_n 2 (j' := 32) (lv' := [some (.ref 70), some (.int 1), some (.int it), none, none, none, none]) (st' := [.int 1, .int 1]) (h' := (shT, fi1, fl1, fr1)) rfl ?_
      refine gp_of (fun _ k9 => g_icf rfl (show ¬ (¬ (1 : Int32) = (1 : Int32)) from by decide) k9) ?_
      refine gp_n 2 (j' := 41) (lv' := [some (.ref 70), some (.int 1), some (.int it), none, none, none, none]) (st' := [.int (-1)]) (h' := (shT, fi1, fl1, fr1)) rfl ?_
      refine gp_done (g_ret rfl) ?_
      rfl
    · show Ev pmT 214 [.ref 70, .int 2] _ (some (.int (it))) _
      have isw := isi 2 (shT, fi, fl, fr) (by decide)
      refine Ev.of (es := cd_214) (ml := 7) (lv := [some (.ref 70), some (.int 2), none, none, none, none, none]) rfl rfl rfl ?_
      refine go_of ?_
      refine gp_n 1 (j' := 1) (lv' := [some (.ref 70), some (.int 2), none, none, none, none, none]) (st' := [.ref 70]) (h' := (shT, fi, fl, fr)) rfl ?_
      refine gp_of (fun _ k9 => g_call (y := 172) (as := [.ref 70]) (st' := []) rfl rfl (t1) k9) ?_
      refine gp_of (fun _ k9 => g_iff rfl (show ¬ ((1 : Int32) = (0 : Int32)) from by decide) k9) ?_
      refine gp_n 4 (j' := 7) (lv' := [some (.ref 70), some (.int 2), none, none, none, none, none]) (st' := [.long 3, .long 0, .long 2]) (h' := (shT, fi, fl, fr)) rfl ?_
      refine gp_of (fun _ k9 => g_call (y := 148) (as := [.long 2, .long 0, .long 3]) (st' := []) rfl rfl (isw) k9) ?_
      refine gp_of (fun _ k9 => g_ift rfl (show ¬ (1 : Int32) = (0 : Int32) from by decide) k9) ?_
      refine gp_n 2 (j' := 13) (lv' := [some (.ref 70), some (.int 2), none, none, none, none, none]) (st' := [.int 1, .ref 70]) (h' := (shT, fi, fl, fr)) rfl ?_
      refine gp_of (fun _ k9 => g_callv (y := 191) (as := [.ref 70, .int 1]) (st' := []) rfl rfl (e1) k9) ?_
      refine gp_n 1 (j' := 15) (lv' := [some (.ref 70), some (.int 2), none, none, none, none, none]) (st' := [.ref 70]) (h' := (shT, fi1, fl1, fr1)) rfl ?_
      refine gp_of (fun _ k9 => g_getR (q' := 77) rfl rfl (by decide) q27 k9) ?_
      refine gp_n 1 (j' := 17) (lv' := [some (.ref 70), some (.int 2), none, none, none, none, none]) (st' := [.int 0, .ref 77]) (h' := (shT, fi1, fl1, fr1)) rfl ?_
      refine gp_of (fun _ k9 => g_iald (k := 0) (x := it) rfl rfl (rfl) (by decide) (by decide) (d1b) k9) ?_
      refine gp_n 3 (j' := 21) (lv' := [some (.ref 70), some (.int 2), some (.int it), none, none, none, none]) (st' := [.ref 70, .ref 70]) (h' := (shT, fi1, fl1, fr1)) rfl ?_
      refine gp_of (fun _ k9 => g_getR (q' := 76) rfl rfl (by decide) q26 k9) ?_
      refine gp_n 1 (j' := 23) (lv' := [some (.ref 70), some (.int 2), some (.int it), none, none, none, none]) (st' := [.int 0, .ref 76, .ref 70]) (h' := (shT, fi1, fl1, fr1)) rfl ?_
      refine gp_of (fun _ k9 => g_lald (k := 0) (x := y) rfl rfl (rfl) (by decide) (by decide) (d1a) k9) ?_
      refine gp_of (fun _ k9 => g_call (y := 201) (as := [.ref 70, .long y]) (st' := []) rfl rfl (hd) k9) ?_
      refine gp_of (fun _ k9 => g_iff rfl (show ¬ ((1 : Int32) = (0 : Int32)) from by decide) k9) ?_
      refine gp_n 1 (j' := 27) (lv' := [some (.ref 70), some (.int 2), some (.int it), none, none, none, none]) (st' := [.int 2]) (h' := (shT, fi1, fl1, fr1)) rfl ?_
      refine gp_of (fun _ k9 => g_ift rfl (show ¬ (2 : Int32) = (0 : Int32) from by decide) k9) ?_
      refine gp_n 2 (j' := 32) (lv' := [some (.ref 70), some (.int 2), some (.int it), none, none, none, none]) (st' := [.int 1, .int 2]) (h' := (shT, fi1, fl1, fr1)) rfl ?_
      refine gp_of (fun _ k9 => g_ict rfl (show ¬ (2 : Int32) = (1 : Int32) from by decide) k9) ?_
      refine gp_n 2 (j' := 37) (lv' := [some (.ref 70), some (.int 2), some (.int it), none, none, none, none]) (st' := [.int 2, .int 2]) (h' := (shT, fi1, fl1, fr1)) rfl ?_
      refine gp_of (fun _ k9 => g_icf rfl (show ¬ (¬ (2 : Int32) = (2 : Int32)) from by decide) k9) ?_
      refine gp_n 2 (j' := 41) (lv' := [some (.ref 70), some (.int 2), some (.int it), none, none, none, none]) (st' := [.int it]) (h' := (shT, fi1, fl1, fr1)) rfl ?_
      refine gp_done (g_ret rfl) ?_
      rfl
    · show Ev pmT 214 [.ref 70, .int 3] _ (some (.int (1))) _
      have isw := isi 3 (shT, fi, fl, fr) (by decide)
      refine Ev.of (es := cd_214) (ml := 7) (lv := [some (.ref 70), some (.int 3), none, none, none, none, none]) rfl rfl rfl ?_
      refine go_of ?_
      refine gp_n 1 (j' := 1) (lv' := [some (.ref 70), some (.int 3), none, none, none, none, none]) (st' := [.ref 70]) (h' := (shT, fi, fl, fr)) rfl ?_
      refine gp_of (fun _ k9 => g_call (y := 172) (as := [.ref 70]) (st' := []) rfl rfl (t1) k9) ?_
      refine gp_of (fun _ k9 => g_iff rfl (show ¬ ((1 : Int32) = (0 : Int32)) from by decide) k9) ?_
      refine gp_n 4 (j' := 7) (lv' := [some (.ref 70), some (.int 3), none, none, none, none, none]) (st' := [.long 3, .long 0, .long 3]) (h' := (shT, fi, fl, fr)) rfl ?_
      refine gp_of (fun _ k9 => g_call (y := 148) (as := [.long 3, .long 0, .long 3]) (st' := []) rfl rfl (isw) k9) ?_
      refine gp_of (fun _ k9 => g_ift rfl (show ¬ (1 : Int32) = (0 : Int32) from by decide) k9) ?_
      refine gp_n 2 (j' := 13) (lv' := [some (.ref 70), some (.int 3), none, none, none, none, none]) (st' := [.int 1, .ref 70]) (h' := (shT, fi, fl, fr)) rfl ?_
      refine gp_of (fun _ k9 => g_callv (y := 191) (as := [.ref 70, .int 1]) (st' := []) rfl rfl (e1) k9) ?_
      refine gp_n 1 (j' := 15) (lv' := [some (.ref 70), some (.int 3), none, none, none, none, none]) (st' := [.ref 70]) (h' := (shT, fi1, fl1, fr1)) rfl ?_
      refine gp_of (fun _ k9 => g_getR (q' := 77) rfl rfl (by decide) q27 k9) ?_
      refine gp_n 1 (j' := 17) (lv' := [some (.ref 70), some (.int 3), none, none, none, none, none]) (st' := [.int 0, .ref 77]) (h' := (shT, fi1, fl1, fr1)) rfl ?_
      refine gp_of (fun _ k9 => g_iald (k := 0) (x := it) rfl rfl (rfl) (by decide) (by decide) (d1b) k9) ?_
      refine gp_n 3 (j' := 21) (lv' := [some (.ref 70), some (.int 3), some (.int it), none, none, none, none]) (st' := [.ref 70, .ref 70]) (h' := (shT, fi1, fl1, fr1)) rfl ?_
      refine gp_of (fun _ k9 => g_getR (q' := 76) rfl rfl (by decide) q26 k9) ?_
      refine gp_n 1 (j' := 23) (lv' := [some (.ref 70), some (.int 3), some (.int it), none, none, none, none]) (st' := [.int 0, .ref 76, .ref 70]) (h' := (shT, fi1, fl1, fr1)) rfl ?_
      refine gp_of (fun _ k9 => g_lald (k := 0) (x := y) rfl rfl (rfl) (by decide) (by decide) (d1a) k9) ?_
      refine gp_of (fun _ k9 => g_call (y := 201) (as := [.ref 70, .long y]) (st' := []) rfl rfl (hd) k9) ?_
      refine gp_of (fun _ k9 => g_iff rfl (show ¬ ((1 : Int32) = (0 : Int32)) from by decide) k9) ?_
      refine gp_n 1 (j' := 27) (lv' := [some (.ref 70), some (.int 3), some (.int it), none, none, none, none]) (st' := [.int 3]) (h' := (shT, fi1, fl1, fr1)) rfl ?_
      refine gp_of (fun _ k9 => g_ift rfl (show ¬ (3 : Int32) = (0 : Int32) from by decide) k9) ?_
      refine gp_n 2 (j' := 32) (lv' := [some (.ref 70), some (.int 3), some (.int it), none, none, none, none]) (st' := [.int 1, .int 3]) (h' := (shT, fi1, fl1, fr1)) rfl ?_
      refine gp_of (fun _ k9 => g_ict rfl (show ¬ (3 : Int32) = (1 : Int32) from by decide) k9) ?_
      refine gp_n 2 (j' := 37) (lv' := [some (.ref 70), some (.int 3), some (.int it), none, none, none, none]) (st' := [.int 2, .int 3]) (h' := (shT, fi1, fl1, fr1)) rfl ?_
      refine gp_of (fun _ k9 => g_ict rfl (show ¬ (3 : Int32) = (2 : Int32) from by decide) k9) ?_
      refine gp_n 1 (j' := 41) (lv' := [some (.ref 70), some (.int 3), some (.int it), none, none, none, none]) (st' := [.int 1]) (h' := (shT, fi1, fl1, fr1)) rfl ?_
      refine gp_done (g_ret rfl) ?_
      rfl
theorem fl_M0 {h : PmH} {a : AB} {x : Int32} (hr : REL2 h a) (hn : ¬ (0 < (a_v a).1 1 ∧ (0 ≤ x ∧ x ≤ 3))) : Ev pmT 214 [.ref 70, .int x] h (some (.int (-1))) h := by
  have hI := hr.1.1
  have c14 : ph_i h 70 14 = (a_v a).1 1 := hr.1.2.2.1.2.2.2.2.1.1 0 (by decide)
  have t1 := isc1 hI c14
  have t0 := isc0 hI c14
  clear hr
  refine Ev.of (es := cd_214) (ml := 7) (lv := [some (.ref 70), some (.int x), none, none, none, none, none]) rfl rfl rfl ?_
  obtain ⟨S, fi, fl, fr⟩ := h
  have hS : S = shT := hI.1
  subst hS
  refine go_of ?_
  by_cases h0 : 0 < (a_v a).1 1
  · have t1 := t1 h0
    have is := isin_0 (x := x) 0 3 (l1 := 0) (l2 := 3) (h := (shT, fi, fl, fr)) (by decide) (by decide) (fun z => hn ⟨h0, z⟩)
    refine gp_n 1 (j' := 1) (lv' := [some (.ref 70), some (.int x), none, none, none, none, none]) (st' := [.ref 70]) (h' := (shT, fi, fl, fr)) rfl ?_
    refine gp_of (fun _ k9 => g_call (y := 172) (as := [.ref 70]) (st' := []) rfl rfl (t1) k9) ?_
    refine gp_of (fun _ k9 => g_iff rfl (show ¬ ((1 : Int32) = (0 : Int32)) from by decide) k9) ?_
    refine gp_n 4 (j' := 7) (lv' := [some (.ref 70), some (.int x), none, none, none, none, none]) (st' := [.long 3, .long 0, .long x.toInt64]) (h' := (shT, fi, fl, fr)) rfl ?_
    refine gp_of (fun _ k9 => g_call (y := 148) (as := [.long x.toInt64, .long 0, .long 3]) (st' := []) rfl rfl (is) k9) ?_
    refine gp_of (fun _ k9 => g_iff rfl (show ¬ (¬ (0 : Int32) = (0 : Int32)) from by decide) k9) ?_
    refine gp_n 1 (j' := 10) (lv' := [some (.ref 70), some (.int x), none, none, none, none, none]) (st' := [.int (-1)]) (h' := (shT, fi, fl, fr)) rfl ?_
    refine gp_done (g_ret rfl) ?_
    rfl
  · have t0 := t0 h0
    refine gp_n 1 (j' := 1) (lv' := [some (.ref 70), some (.int x), none, none, none, none, none]) (st' := [.ref 70]) (h' := (shT, fi, fl, fr)) rfl ?_
    refine gp_of (fun _ k9 => g_call (y := 172) (as := [.ref 70]) (st' := []) rfl rfl (t0) k9) ?_
    refine gp_of (fun _ k9 => g_ift rfl (show (0 : Int32) = (0 : Int32) from by decide) k9) ?_
    refine gp_n 1 (j' := 10) (lv' := [some (.ref 70), some (.int x), none, none, none, none, none]) (st' := [.int (-1)]) (h' := (shT, fi, fl, fr)) rfl ?_
    refine gp_done (g_ret rfl) ?_
    rfl
theorem p4_flipped {h : PmH} {a : AB} (x : Int32) (hr : REL3 h a) : PI3 114 214 [.int x] h (fun x y => x = y) := by
  by_cases hn : 0 < (a_v a).1 1 ∧ (0 ≤ x ∧ x ≤ 3)
  · obtain ⟨h0, hw⟩ := id hn
    obtain ⟨m, k, c, l, vk, hl, l1, l8⟩ := rd_get hr h0
    have hB := hr.1.2.1.2.1
    obtain ⟨n, n1, rfl⟩ := nI_of2 (n := 3) (M := 3) rfl (Int32.not_lt.mpr hw.1) hw.2
    exact p4I vN_126 rfl rfl (fun _ _ => gz_c (gz_r (by decide)) (gz_c (gz_a _) gz_n)) (by decide) (by decide) hr (p3_flipped _ hr) (fl_C hr h0 vk hl hB (by omega)) (fun h1 r1 => fl_M (l := l) r1 h0 vk hB (by omega))
  · exact p4I vN_126 rfl rfl (fun _ _ => gz_c (gz_r (by decide)) (gz_c (gz_a _) gz_n)) (by decide) (by decide) hr (p3_flipped _ hr) ⟨h, fl_C0 hr hn⟩ (fun h1 r1 => ⟨h1, fl_M0 r1 hn⟩)
