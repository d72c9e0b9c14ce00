theorem isW_1 {F : Nat → Int32} {b e : Nat} {w : List Int32} (h0 : 0 < w.length) (h : isW F b e w = true) : F b = w.getD 0 0 := by
  unfold isW at h
  rw [Bool.and_eq_true] at h
  have h2 := h.2
  obtain ⟨n, hn⟩ : ∃ n, w.length = n + 1 := ⟨w.length - 1, by omega⟩
  rw [hn, isn] at h2
  split at h2
  · rename_i z
    exact z
  · cases h2
theorem wh_s {F : Nat → Int32} {b e : Nat} (h : isW F b e (wd 0) = true) : whW F b e = 0 := by
  have e0 := isW_1 (by decide) h
  have n : ∀ k, k < 6 → ¬ k = 0 → ¬ isW F b e (wd k) = true := fun k hk h0 z => by
    have e1 := isW_1 (w := wd k) (by have : ∀ k, k < 6 → 0 < (wd k).length := by decide
                                     exact this k hk) z
    rw [e0] at e1
    have : ∀ k, k < 6 → ¬ k = 0 → ¬ (wd 0).getD 0 0 = (wd k).getD 0 0 := by decide +kernel
    exact this k hk h0 e1
  unfold whW
  rw [if_neg (n 1 (by decide) (by decide)), if_neg (n 2 (by decide) (by decide)), if_neg (n 3 (by decide) (by decide)), if_neg (n 4 (by decide) (by decide)), if_neg (n 5 (by decide) (by decide))]
theorem rl_ev {F : Nat → Int32} {t p : Nat} {R : RC} {h : PmH} (ht : t ≤ 200) (hF : ∀ s, byR (F s)) (hm : R.2.1 ≤ 6) (hW : R.1 < 64) (hS : mp_S F t p R h) : EvP 151 [.ref 70, .int 0] h (mo_O F t h (lineS F t R p)) := by
  have wv := wh_ev ht hF hS.2.2.2 hS.1
  have B1 : sk F t cB p ≤ t := sk_le _ _ hS.2.2.2
  have P1 := mpl_P (q := sk F t cB p) hS.1
  have E1 : sk F t cL (sk F t cB p) ≤ t := sk_le _ _ B1
  have f1 : fram lW h (mpl h (sk F t cB p)) := fram_wi (by decide)
  have r1 : mr_h R (mpl h (sk F t cB p)) := mr_fr hS.2.1 (W := [(70, 2)]) (fram_wi (by decide)) (by decide)
  have i1 : mi_h 1 R.1 (mpl h (sk F t cB p)) := mi_fr hS.2.2.1 (W := [(70, 2)]) (fram_wi (by decide)) (by decide)
  unfold lineS
  have pref : ∀ Q, GoP pmT none cd_151 3 [some (.ref 70), some (.int 0), some (.int (wH F (sk F t cB p) (sk F t cL (sk F t cB p))))] [] (mpl h (sk F t cB p)) Q → EvP 151 [.ref 70, .int 0] h Q := by
    intro Q g
    refine EvP.of (es := cd_151) (ml := 3) (lv := [some (.ref 70), some (.int 0), none]) rfl rfl rfl ?_
    have hI := hS.1.1
    clear hS P1 f1 r1 i1
    generalize sk F t cL (sk F t cB p) = E at *
    generalize sk F t cB p = B at *
    obtain ⟨S, fi, fl, fr⟩ := h
    have hS : S = shT := hI.1
    subst hS
    refine gp_n 1 (j' := 1) (lv' := [some (.ref 70), some (.int 0), none]) (st' := [.ref 70]) (h' := (shT, fi, fl, fr)) rfl ?_
    refine gp_of (fun _ k9 => g_call (y := 152) (as := [.ref 70]) (st' := []) rfl rfl (wv) k9) ?_
    refine gp_n 1 (j' := 3) (lv' := [some (.ref 70), some (.int 0), some (.int (wH F B E))]) (st' := []) (h' := (mpl (shT, fi, fl, fr) B)) rfl ?_
    exact g
  refine pref _ ?_
  clear pref wv
  have skE := rfl (a := sk F t cL (sk F t cB p))
  have loop := fun l1 l2 r => ml_go (l1 := l1) (l2 := l2) (r := r) ht hF
  generalize hE : sk F t cL (sk F t cB p) = E at *
  generalize sk F t cB p = B at *
  refine gp_mono (fun r => mo_tr f1) ?_
  have I1 := P1.1
  have e2 : ph_i (mpl h B) 70 2 = nI B := h_e
  have k5 : ph_r (mpl h B) 70 5 = some 73 := hi_r I1 rfl rfl (by decide)
  have z0 := i1.1
  have fa1 := fa_ev (x := 1) (y := nI B) I1
  have fa3 := fa_ev (x := 3) (y := nI B) I1
  have J1 : HI hdT shT (h_i (mpl h B) 70 3 (8 * nI B + 1)) := hd70 I1 rfl
  have J3 : HI hdT shT (h_i (mpl h B) 70 3 (8 * nI B + 3)) := hd70 I1 rfl
  have out0 : ∀ x : Int32, HI hdT shT (h_i (mpl h B) 70 3 x) → mo_O F t (mpl h B) none (some (.int 0), h_i (mpl h B) 70 3 x) := fun x J => Or.inr ⟨rfl, rfl, J, fram_wi (by decide)⟩
  clear hS f1
  generalize mpl h B = h1 at *
  unfold wH
  by_cases hs : isW F B E (wd 0) = true
  · rw [if_pos hs, if_pos (Or.inl (wh_s hs))]
    refine gp_mono (fun r (z : r = (some (.int 0), h_i h1 70 3 (8 * nI B + 3))) => by rw [z]; exact out0 _ J3) ?_
    clear out0 J1 J3 P1 r1 i1
    obtain ⟨S, fi, fl, fr⟩ := h1
    have hS : S = shT := I1.1
    subst hS
    have e2 : fi 70 2 = nI B := e2
    have k5 : fr 70 5 = some 73 := k5
    have z0 : fi 73 0 = 1 := z0
    refine gp_n 1 (j' := 4) (lv' := [some (.ref 70), some (.int 0), some (.int 0)]) (st' := [.int 0]) (h' := (shT, fi, fl, fr)) rfl ?_
    refine gp_of (fun _ k9 => g_iff rfl (show ¬ ((0 : Int32) < (0 : Int32)) from by decide) k9) ?_
    refine gp_n 2 (j' := 7) (lv' := [some (.ref 70), some (.int 0), some (.int 0)]) (st' := [.int 0, .int 0]) (h' := (shT, fi, fl, fr)) rfl ?_
    refine gp_of (fun _ k9 => g_iff rfl (show ¬ (¬ (0 : Int32) = (0 : Int32)) from by decide) k9) ?_
    refine gp_n 2 (j' := 11) (lv' := [some (.ref 70), some (.int 0), some (.int 0)]) (st' := [.int 1, .int 0]) (h' := (shT, fi, fl, fr)) rfl ?_
    refine gp_of (fun _ k9 => g_icf rfl (show ¬ ((0 : Int32) = (1 : Int32)) from by decide) k9) ?_
    refine gp_n 1 (j' := 13) (lv' := [some (.ref 70), some (.int 0), some (.int 0)]) (st' := [.ref 70]) (h' := (shT, fi, fl, fr)) rfl ?_
    refine gp_of (fun _ k9 => g_getR (q' := 73) rfl rfl (by decide) k5 k9) ?_
    refine gp_n 1 (j' := 15) (lv' := [some (.ref 70), some (.int 0), some (.int 0)]) (st' := [.int 0, .ref 73]) (h' := (shT, fi, fl, fr)) rfl ?_
    refine gp_of (fun _ k9 => g_bald (k := 0) (x := 1) rfl rfl (by decide) (rfl) (by decide) (by decide) (z0) k9) ?_
    refine gp_of (fun _ k9 => g_ift rfl (show ¬ (1 : Int32) = (0 : Int32) from by decide) k9) ?_
    refine gp_n 1 (j' := 24) (lv' := [some (.ref 70), some (.int 0), some (.int 0)]) (st' := [.ref 70]) (h' := (shT, fi, fl, fr)) rfl ?_
    refine gp_of (fun _ k9 => g_getR (q' := 73) rfl rfl (by decide) k5 k9) ?_
    refine gp_n 1 (j' := 26) (lv' := [some (.ref 70), some (.int 0), some (.int 0)]) (st' := [.int 0, .ref 73]) (h' := (shT, fi, fl, fr)) rfl ?_
    refine gp_of (fun _ k9 => g_bald (k := 0) (x := 1) rfl rfl (by decide) (rfl) (by decide) (by decide) (z0) k9) ?_
    refine gp_of (fun _ k9 => g_ift rfl (show ¬ (1 : Int32) = (0 : Int32) from by decide) k9) ?_
    refine gp_n 3 (j' := 47) (lv' := [some (.ref 70), some (.int 0), some (.int 0)]) (st' := [.ref 70, .int 3, .ref 70]) (h' := (shT, fi, fl, fr)) rfl ?_
    refine gp_of (fun _ k9 => g_getI (x := nI B) rfl (Or.inl rfl) rfl (by decide) (e2) k9) ?_
    refine gp_of (fun _ k9 => g_call (y := 156) (as := [.ref 70, .int 3, .int (nI B)]) (st' := []) rfl rfl (fa3) k9) ?_
    refine gp_done (g_retz rfl (by decide)) ?_
    rfl
  · rw [if_neg hs]
    by_cases hw0 : whW F B E = 0
    · rw [if_pos hw0, if_pos (Or.inl hw0)]
      refine gp_mono (fun r (z : r = (some (.int 0), h_i h1 70 3 (8 * nI B + 1))) => by rw [z]; exact out0 _ J1) ?_
      clear out0 J1 J3 P1 r1 i1
      obtain ⟨S, fi, fl, fr⟩ := h1
      have hS : S = shT := I1.1
      subst hS
      have e2 : fi 70 2 = nI B := e2
      have k5 : fr 70 5 = some 73 := k5
      have z0 : fi 73 0 = 1 := z0
      refine gp_n 1 (j' := 4) (lv' := [some (.ref 70), some (.int 0), some (.int (-1))]) (st' := [.int (-1)]) (h' := (shT, fi, fl, fr)) rfl ?_
      refine gp_of (fun _ k9 => g_ift rfl (show ((-1) : Int32) < (0 : Int32) from by decide) k9) ?_
      refine gp_n 3 (j' := 20) (lv' := [some (.ref 70), some (.int 0), some (.int (-1))]) (st' := [.ref 70, .int 1, .ref 70]) (h' := (shT, fi, fl, fr)) rfl ?_
      refine gp_of (fun _ k9 => g_getI (x := nI B) rfl (Or.inl rfl) rfl (by decide) (e2) k9) ?_
      refine gp_of (fun _ k9 => g_call (y := 156) (as := [.ref 70, .int 1, .int (nI B)]) (st' := []) rfl rfl (fa1) k9) ?_
      refine gp_done (g_retz rfl (by decide)) ?_
      rfl
    · rw [if_neg hw0]
      have hw6 : whW F B E < 6 := whW_lt
      generalize whW F B E = w at *
      have iw := i1.2
      -- from the word on
      have tail : ∀ (l1 : Option Value), exc R.1 w = false → mo_O F t (hz h1 w) (numsS F t (rcw R w) E w) = mo_O F t (hz h1 w) (numsS F t (rcw R w) E w) → GoP pmT none cd_151 55 [some (.ref 70), l1, some (.int (nI w))] [] (hz h1 w) (mo_O F t h1 (numsS F t (rcw R w) E w)) := by
        intro l1 hx _
        have P2 : mp_P F t B (hz h1 w) := hz_P P1
        have S2 : mp_S F t E (rcw R w) (mpl (hz h1 w) E) := ⟨mpl_P P2, mr_fr (hz_r r1) (W := [(70, 2)]) (fram_wi (by decide)) (by decide), mi_fr (hz_i hW (by omega) hw6 i1) (W := [(70, 2)]) (fram_wi (by decide)) (by decide), E1⟩
        have f2 : fram lW h1 (mpl (hz h1 w) E) := fram.tr (fram_wi (by simp [inW, lW])) (fram_wi (by decide))
        have main : GoP pmT none cd_151 68 [some (.ref 70), l1, some (.int (nI w))] [] (mpl (hz h1 w) E) (mo_O F t (mpl (hz h1 w) E) (numsS F t (rcw R w) E w)) := by
          match w, hw0, hw6 with
          | 1, _, _ => exact mn_1 ht hF S2
          | 2, _, _ => exact mn_2 ht hF hm S2
          | 3, _, _ => exact mn_3 ht hF S2
          | 4, _, _ => exact mn_4 ht hF S2
          | 5, _, _ => exact mn_5 ht hF S2
          | 0, h0, _ => exact absurd rfl h0
          | _ + 6, _, h6 => exact absurd h6 (by omega)
        obtain ⟨r, g, q⟩ := main
        refine ⟨r, ?_, mo_tr f2 q⟩
        have := loop l1 (some (.int (nI w))) r (t - B) B (hz h1 w) rfl B1 P2
        rw [hE] at this
        exact this g
      have fin3 : exc R.1 w = true → ∀ r : Option Value × PmH, r = (some (.int 0), h_i h1 70 3 (8 * nI B + 3)) → mo_O F t h1 (if w = 0 ∨ exc R.1 w = true then none else numsS F t (rcw R w) E w) r := fun hx r z => by
        rw [z, if_pos (Or.inr hx)]
        exact out0 _ J3
      have finT : exc R.1 w = false → ∀ l1, GoP pmT none cd_151 55 [some (.ref 70), l1, some (.int (nI w))] [] (hz h1 w) (mo_O F t h1 (if w = 0 ∨ exc R.1 w = true then none else numsS F t (rcw R w) E w)) := fun hx l1 => by
        rw [if_neg (by rw [hx]; simp [hw0])]
        exact tail l1 hx rfl
      clear tail out0 J1 J3 P1 r1 loop i1
      have hwc : w = 1 ∨ w = 2 ∨ w = 3 ∨ w = 4 ∨ w = 5 := by omega
      rcases hwc with rfl | rfl | rfl | rfl | rfl
      · have t0 : ph_i h1 73 1 = b01 (R.1.testBit 1) := iw 1 (by decide) (by decide)
        have t1 : ph_i h1 73 2 = b01 (R.1.testBit 2) := iw 2 (by decide) (by decide)
        cases c0 : R.1.testBit 1
        · rw [c0] at t0
          cases c1 : R.1.testBit 2
          · rw [c1] at t1
            obtain ⟨S, fi, fl, fr⟩ := h1
            have hS : S = shT := I1.1
            subst hS
            have e2 : fi 70 2 = nI B := e2
            have k5 : fr 70 5 = some 73 := k5
            have z0 : fi 73 0 = 1 := z0
            have t0 : fi 73 1 = 0 := t0
            have t1 : fi 73 2 = 0 := t1
            refine gp_n 1 (j' := 4) (lv' := [some (.ref 70), some (.int 0), some (.int 1)]) (st' := [.int 1]) (h' := (shT, fi, fl, fr)) rfl ?_
            refine gp_of (fun _ k9 => g_iff rfl (show ¬ ((1 : Int32) < (0 : Int32)) from by decide) k9) ?_
            refine gp_n 2 (j' := 7) (lv' := [some (.ref 70), some (.int 0), some (.int 1)]) (st' := [.int 1, .int 0]) (h' := (shT, fi, fl, fr)) rfl ?_
            refine gp_of (fun _ k9 => g_ift rfl (show ¬ (1 : Int32) = (0 : Int32) from by decide) k9) ?_
            refine gp_n 1 (j' := 11) (lv' := [some (.ref 70), some (.int 0), some (.int 1)]) (st' := [.int 0, .int 0]) (h' := (shT, fi, fl, fr)) rfl ?_
            refine gp_of (fun _ k9 => g_ict rfl (show (0 : Int32) = (0 : Int32) from by decide) k9) ?_
            refine gp_n 1 (j' := 24) (lv' := [some (.ref 70), some (.int 0), some (.int 1)]) (st' := [.ref 70]) (h' := (shT, fi, fl, fr)) rfl ?_
            refine gp_of (fun _ k9 => g_getR (q' := 73) rfl rfl (by decide) k5 k9) ?_
            refine gp_n 1 (j' := 26) (lv' := [some (.ref 70), some (.int 0), some (.int 1)]) (st' := [.int 1, .ref 73]) (h' := (shT, fi, fl, fr)) rfl ?_
            refine gp_of (fun _ k9 => g_bald (k := 1) (x := 0) rfl rfl (by decide) (rfl) (by decide) (by decide) (t0) k9) ?_
            refine gp_of (fun _ k9 => g_iff rfl (show ¬ (¬ (0 : Int32) = (0 : Int32)) from by decide) k9) ?_
            refine gp_n 2 (j' := 30) (lv' := [some (.ref 70), some (.int 0), some (.int 1)]) (st' := [.int 1, .int 1]) (h' := (shT, fi, fl, fr)) rfl ?_
            refine gp_of (fun _ k9 => g_icf rfl (show ¬ (¬ (1 : Int32) = (1 : Int32)) from by decide) k9) ?_
            refine gp_n 1 (j' := 32) (lv' := [some (.ref 70), some (.int 0), some (.int 1)]) (st' := [.ref 70]) (h' := (shT, fi, fl, fr)) rfl ?_
            refine gp_of (fun _ k9 => g_getR (q' := 73) rfl rfl (by decide) k5 k9) ?_
            refine gp_n 1 (j' := 34) (lv' := [some (.ref 70), some (.int 0), some (.int 1)]) (st' := [.int 2, .ref 73]) (h' := (shT, fi, fl, fr)) rfl ?_
            refine gp_of (fun _ k9 => g_bald (k := 2) (x := 0) rfl rfl (by decide) (rfl) (by decide) (by decide) (t1) k9) ?_
            refine gp_of (fun _ k9 => g_iff rfl (show ¬ (¬ (0 : Int32) = (0 : Int32)) from by decide) k9) ?_
            refine gp_n 2 (j' := 38) (lv' := [some (.ref 70), some (.int 0), some (.int 1)]) (st' := [.int 2, .int 1]) (h' := (shT, fi, fl, fr)) rfl ?_
            refine gp_of (fun _ k9 => g_ict rfl (show ¬ (1 : Int32) = (2 : Int32) from by decide) k9) ?_
            refine gp_n 1 (j' := 51) (lv' := [some (.ref 70), some (.int 0), some (.int 1)]) (st' := [.ref 70]) (h' := (shT, fi, fl, fr)) rfl ?_
            refine gp_of (fun _ k9 => g_getR (q' := 73) rfl rfl (by decide) k5 k9) ?_
            refine gp_n 2 (j' := 54) (lv' := [some (.ref 70), some (.int 0), some (.int 1)]) (st' := [.int 1, .int 1, .ref 73]) (h' := (shT, fi, fl, fr)) rfl ?_
            refine gp_of (fun _ k9 => g_zast (k := 1) rfl rfl (rfl) (by decide) (by decide) k9) ?_
            exact finT (by unfold exc; rw [c0, c1]; simp) _
          · rw [c1] at t1
            obtain ⟨S, fi, fl, fr⟩ := h1
            have hS : S = shT := I1.1
            subst hS
            have e2 : fi 70 2 = nI B := e2
            have k5 : fr 70 5 = some 73 := k5
            have z0 : fi 73 0 = 1 := z0
            have t0 : fi 73 1 = 0 := t0
            have t1 : fi 73 2 = 1 := t1
            refine gp_n 1 (j' := 4) (lv' := [some (.ref 70), some (.int 0), some (.int 1)]) (st' := [.int 1]) (h' := (shT, fi, fl, fr)) rfl ?_
            refine gp_of (fun _ k9 => g_iff rfl (show ¬ ((1 : Int32) < (0 : Int32)) from by decide) k9) ?_
            refine gp_n 2 (j' := 7) (lv' := [some (.ref 70), some (.int 0), some (.int 1)]) (st' := [.int 1, .int 0]) (h' := (shT, fi, fl, fr)) rfl ?_
            refine gp_of (fun _ k9 => g_ift rfl (show ¬ (1 : Int32) = (0 : Int32) from by decide) k9) ?_
            refine gp_n 1 (j' := 11) (lv' := [some (.ref 70), some (.int 0), some (.int 1)]) (st' := [.int 0, .int 0]) (h' := (shT, fi, fl, fr)) rfl ?_
            refine gp_of (fun _ k9 => g_ict rfl (show (0 : Int32) = (0 : Int32) from by decide) k9) ?_
            refine gp_n 1 (j' := 24) (lv' := [some (.ref 70), some (.int 0), some (.int 1)]) (st' := [.ref 70]) (h' := (shT, fi, fl, fr)) rfl ?_
            refine gp_of (fun _ k9 => g_getR (q' := 73) rfl rfl (by decide) k5 k9) ?_
            refine gp_n 1 (j' := 26) (lv' := [some (.ref 70), some (.int 0), some (.int 1)]) (st' := [.int 1, .ref 73]) (h' := (shT, fi, fl, fr)) rfl ?_
            refine gp_of (fun _ k9 => g_bald (k := 1) (x := 0) rfl rfl (by decide) (rfl) (by decide) (by decide) (t0) k9) ?_
            refine gp_of (fun _ k9 => g_iff rfl (show ¬ (¬ (0 : Int32) = (0 : Int32)) from by decide) k9) ?_
            refine gp_n 2 (j' := 30) (lv' := [some (.ref 70), some (.int 0), some (.int 1)]) (st' := [.int 1, .int 1]) (h' := (shT, fi, fl, fr)) rfl ?_
            refine gp_of (fun _ k9 => g_icf rfl (show ¬ (¬ (1 : Int32) = (1 : Int32)) from by decide) k9) ?_
            refine gp_n 1 (j' := 32) (lv' := [some (.ref 70), some (.int 0), some (.int 1)]) (st' := [.ref 70]) (h' := (shT, fi, fl, fr)) rfl ?_
            refine gp_of (fun _ k9 => g_getR (q' := 73) rfl rfl (by decide) k5 k9) ?_
            refine gp_n 1 (j' := 34) (lv' := [some (.ref 70), some (.int 0), some (.int 1)]) (st' := [.int 2, .ref 73]) (h' := (shT, fi, fl, fr)) rfl ?_
            refine gp_of (fun _ k9 => g_bald (k := 2) (x := 1) rfl rfl (by decide) (rfl) (by decide) (by decide) (t1) k9) ?_
            refine gp_of (fun _ k9 => g_ift rfl (show ¬ (1 : Int32) = (0 : Int32) from by decide) k9) ?_
            refine gp_n 3 (j' := 47) (lv' := [some (.ref 70), some (.int 0), some (.int 1)]) (st' := [.ref 70, .int 3, .ref 70]) (h' := (shT, fi, fl, fr)) rfl ?_
            refine gp_of (fun _ k9 => g_getI (x := nI B) rfl (Or.inl rfl) rfl (by decide) (e2) k9) ?_
            refine gp_of (fun _ k9 => g_call (y := 156) (as := [.ref 70, .int 3, .int (nI B)]) (st' := []) rfl rfl (fa3) k9) ?_
            refine gp_done (g_retz rfl (by decide)) ?_
            exact fin3 (by unfold exc; rw [c0, c1]; simp) _ rfl
        · rw [c0] at t0
          obtain ⟨S, fi, fl, fr⟩ := h1
          have hS : S = shT := I1.1
          subst hS
          have e2 : fi 70 2 = nI B := e2
          have k5 : fr 70 5 = some 73 := k5
          have z0 : fi 73 0 = 1 := z0
          have t0 : fi 73 1 = 1 := t0
          refine gp_n 1 (j' := 4) (lv' := [some (.ref 70), some (.int 0), some (.int 1)]) (st' := [.int 1]) (h' := (shT, fi, fl, fr)) rfl ?_
          refine gp_of (fun _ k9 => g_iff rfl (show ¬ ((1 : Int32) < (0 : Int32)) from by decide) k9) ?_
          refine gp_n 2 (j' := 7) (lv' := [some (.ref 70), some (.int 0), some (.int 1)]) (st' := [.int 1, .int 0]) (h' := (shT, fi, fl, fr)) rfl ?_
          refine gp_of (fun _ k9 => g_ift rfl (show ¬ (1 : Int32) = (0 : Int32) from by decide) k9) ?_
          refine gp_n 1 (j' := 11) (lv' := [some (.ref 70), some (.int 0), some (.int 1)]) (st' := [.int 0, .int 0]) (h' := (shT, fi, fl, fr)) rfl ?_
          refine gp_of (fun _ k9 => g_ict rfl (show (0 : Int32) = (0 : Int32) from by decide) k9) ?_
          refine gp_n 1 (j' := 24) (lv' := [some (.ref 70), some (.int 0), some (.int 1)]) (st' := [.ref 70]) (h' := (shT, fi, fl, fr)) rfl ?_
          refine gp_of (fun _ k9 => g_getR (q' := 73) rfl rfl (by decide) k5 k9) ?_
          refine gp_n 1 (j' := 26) (lv' := [some (.ref 70), some (.int 0), some (.int 1)]) (st' := [.int 1, .ref 73]) (h' := (shT, fi, fl, fr)) rfl ?_
          refine gp_of (fun _ k9 => g_bald (k := 1) (x := 1) rfl rfl (by decide) (rfl) (by decide) (by decide) (t0) k9) ?_
          refine gp_of (fun _ k9 => g_ift rfl (show ¬ (1 : Int32) = (0 : Int32) from by decide) k9) ?_
          refine gp_n 3 (j' := 47) (lv' := [some (.ref 70), some (.int 0), some (.int 1)]) (st' := [.ref 70, .int 3, .ref 70]) (h' := (shT, fi, fl, fr)) rfl ?_
          refine gp_of (fun _ k9 => g_getI (x := nI B) rfl (Or.inl rfl) rfl (by decide) (e2) k9) ?_
          refine gp_of (fun _ k9 => g_call (y := 156) (as := [.ref 70, .int 3, .int (nI B)]) (st' := []) rfl rfl (fa3) k9) ?_
          refine gp_done (g_retz rfl (by decide)) ?_
          exact fin3 (by unfold exc; rw [c0]; simp) _ rfl
      · have t0 : ph_i h1 73 2 = b01 (R.1.testBit 2) := iw 2 (by decide) (by decide)
        have t1 : ph_i h1 73 1 = b01 (R.1.testBit 1) := iw 1 (by decide) (by decide)
        cases c0 : R.1.testBit 2
        · rw [c0] at t0
          cases c1 : R.1.testBit 1
          · rw [c1] at t1
            obtain ⟨S, fi, fl, fr⟩ := h1
            have hS : S = shT := I1.1
            subst hS
            have e2 : fi 70 2 = nI B := e2
            have k5 : fr 70 5 = some 73 := k5
            have z0 : fi 73 0 = 1 := z0
            have t0 : fi 73 2 = 0 := t0
            have t1 : fi 73 1 = 0 := t1
            refine gp_n 1 (j' := 4) (lv' := [some (.ref 70), some (.int 0), some (.int 2)]) (st' := [.int 2]) (h' := (shT, fi, fl, fr)) rfl ?_
            refine gp_of (fun _ k9 => g_iff rfl (show ¬ ((2 : Int32) < (0 : Int32)) from by decide) k9) ?_
            refine gp_n 2 (j' := 7) (lv' := [some (.ref 70), some (.int 0), some (.int 2)]) (st' := [.int 2, .int 0]) (h' := (shT, fi, fl, fr)) rfl ?_
            refine gp_of (fun _ k9 => g_ift rfl (show ¬ (2 : Int32) = (0 : Int32) from by decide) k9) ?_
            refine gp_n 1 (j' := 11) (lv' := [some (.ref 70), some (.int 0), some (.int 2)]) (st' := [.int 0, .int 0]) (h' := (shT, fi, fl, fr)) rfl ?_
            refine gp_of (fun _ k9 => g_ict rfl (show (0 : Int32) = (0 : Int32) from by decide) k9) ?_
            refine gp_n 1 (j' := 24) (lv' := [some (.ref 70), some (.int 0), some (.int 2)]) (st' := [.ref 70]) (h' := (shT, fi, fl, fr)) rfl ?_
            refine gp_of (fun _ k9 => g_getR (q' := 73) rfl rfl (by decide) k5 k9) ?_
            refine gp_n 1 (j' := 26) (lv' := [some (.ref 70), some (.int 0), some (.int 2)]) (st' := [.int 2, .ref 73]) (h' := (shT, fi, fl, fr)) rfl ?_
            refine gp_of (fun _ k9 => g_bald (k := 2) (x := 0) rfl rfl (by decide) (rfl) (by decide) (by decide) (t0) k9) ?_
            refine gp_of (fun _ k9 => g_iff rfl (show ¬ (¬ (0 : Int32) = (0 : Int32)) from by decide) k9) ?_
            refine gp_n 2 (j' := 30) (lv' := [some (.ref 70), some (.int 0), some (.int 2)]) (st' := [.int 1, .int 2]) (h' := (shT, fi, fl, fr)) rfl ?_
            refine gp_of (fun _ k9 => g_ict rfl (show ¬ (2 : Int32) = (1 : Int32) from by decide) k9) ?_
            refine gp_n 2 (j' := 38) (lv' := [some (.ref 70), some (.int 0), some (.int 2)]) (st' := [.int 2, .int 2]) (h' := (shT, fi, fl, fr)) rfl ?_
            refine gp_of (fun _ k9 => g_icf rfl (show ¬ (¬ (2 : Int32) = (2 : Int32)) from by decide) k9) ?_
            refine gp_n 1 (j' := 40) (lv' := [some (.ref 70), some (.int 0), some (.int 2)]) (st' := [.ref 70]) (h' := (shT, fi, fl, fr)) rfl ?_
            refine gp_of (fun _ k9 => g_getR (q' := 73) rfl rfl (by decide) k5 k9) ?_
            refine gp_n 1 (j' := 42) (lv' := [some (.ref 70), some (.int 0), some (.int 2)]) (st' := [.int 1, .ref 73]) (h' := (shT, fi, fl, fr)) rfl ?_
            refine gp_of (fun _ k9 => g_bald (k := 1) (x := 0) rfl rfl (by decide) (rfl) (by decide) (by decide) (t1) k9) ?_
            refine gp_of (fun _ k9 => g_ift rfl (show (0 : Int32) = (0 : Int32) from by decide) k9) ?_
            refine gp_n 1 (j' := 51) (lv' := [some (.ref 70), some (.int 0), some (.int 2)]) (st' := [.ref 70]) (h' := (shT, fi, fl, fr)) rfl ?_
            refine gp_of (fun _ k9 => g_getR (q' := 73) rfl rfl (by decide) k5 k9) ?_
            refine gp_n 2 (j' := 54) (lv' := [some (.ref 70), some (.int 0), some (.int 2)]) (st' := [.int 1, .int 2, .ref 73]) (h' := (shT, fi, fl, fr)) rfl ?_
            refine gp_of (fun _ k9 => g_zast (k := 2) rfl rfl (rfl) (by decide) (by decide) k9) ?_
            exact finT (by unfold exc; rw [c0, c1]; simp) _
          · rw [c1] at t1
            obtain ⟨S, fi, fl, fr⟩ := h1
            have hS : S = shT := I1.1
            subst hS
            have e2 : fi 70 2 = nI B := e2
            have k5 : fr 70 5 = some 73 := k5
            have z0 : fi 73 0 = 1 := z0
            have t0 : fi 73 2 = 0 := t0
            have t1 : fi 73 1 = 1 := t1
            refine gp_n 1 (j' := 4) (lv' := [some (.ref 70), some (.int 0), some (.int 2)]) (st' := [.int 2]) (h' := (shT, fi, fl, fr)) rfl ?_
            refine gp_of (fun _ k9 => g_iff rfl (show ¬ ((2 : Int32) < (0 : Int32)) from by decide) k9) ?_
            refine gp_n 2 (j' := 7) (lv' := [some (.ref 70), some (.int 0), some (.int 2)]) (st' := [.int 2, .int 0]) (h' := (shT, fi, fl, fr)) rfl ?_
            refine gp_of (fun _ k9 => g_ift rfl (show ¬ (2 : Int32) = (0 : Int32) from by decide) k9) ?_
            refine gp_n 1 (j' := 11) (lv' := [some (.ref 70), some (.int 0), some (.int 2)]) (st' := [.int 0, .int 0]) (h' := (shT, fi, fl, fr)) rfl ?_
            refine gp_of (fun _ k9 => g_ict rfl (show (0 : Int32) = (0 : Int32) from by decide) k9) ?_
            refine gp_n 1 (j' := 24) (lv' := [some (.ref 70), some (.int 0), some (.int 2)]) (st' := [.ref 70]) (h' := (shT, fi, fl, fr)) rfl ?_
            refine gp_of (fun _ k9 => g_getR (q' := 73) rfl rfl (by decide) k5 k9) ?_
            refine gp_n 1 (j' := 26) (lv' := [some (.ref 70), some (.int 0), some (.int 2)]) (st' := [.int 2, .ref 73]) (h' := (shT, fi, fl, fr)) rfl ?_
            refine gp_of (fun _ k9 => g_bald (k := 2) (x := 0) rfl rfl (by decide) (rfl) (by decide) (by decide) (t0) k9) ?_
            refine gp_of (fun _ k9 => g_iff rfl (show ¬ (¬ (0 : Int32) = (0 : Int32)) from by decide) k9) ?_
            refine gp_n 2 (j' := 30) (lv' := [some (.ref 70), some (.int 0), some (.int 2)]) (st' := [.int 1, .int 2]) (h' := (shT, fi, fl, fr)) rfl ?_
            refine gp_of (fun _ k9 => g_ict rfl (show ¬ (2 : Int32) = (1 : Int32) from by decide) k9) ?_
            refine gp_n 2 (j' := 38) (lv' := [some (.ref 70), some (.int 0), some (.int 2)]) (st' := [.int 2, .int 2]) (h' := (shT, fi, fl, fr)) rfl ?_
            refine gp_of (fun _ k9 => g_icf rfl (show ¬ (¬ (2 : Int32) = (2 : Int32)) from by decide) k9) ?_
            refine gp_n 1 (j' := 40) (lv' := [some (.ref 70), some (.int 0), some (.int 2)]) (st' := [.ref 70]) (h' := (shT, fi, fl, fr)) rfl ?_
            refine gp_of (fun _ k9 => g_getR (q' := 73) rfl rfl (by decide) k5 k9) ?_
            refine gp_n 1 (j' := 42) (lv' := [some (.ref 70), some (.int 0), some (.int 2)]) (st' := [.int 1, .ref 73]) (h' := (shT, fi, fl, fr)) rfl ?_
            refine gp_of (fun _ k9 => g_bald (k := 1) (x := 1) rfl rfl (by decide) (rfl) (by decide) (by decide) (t1) k9) ?_
            refine gp_of (fun _ k9 => g_iff rfl (show ¬ ((1 : Int32) = (0 : Int32)) from by decide) k9) ?_
            refine gp_n 3 (j' := 47) (lv' := [some (.ref 70), some (.int 0), some (.int 2)]) (st' := [.ref 70, .int 3, .ref 70]) (h' := (shT, fi, fl, fr)) rfl ?_
            refine gp_of (fun _ k9 => g_getI (x := nI B) rfl (Or.inl rfl) rfl (by decide) (e2) k9) ?_
            refine gp_of (fun _ k9 => g_call (y := 156) (as := [.ref 70, .int 3, .int (nI B)]) (st' := []) rfl rfl (fa3) k9) ?_
            refine gp_done (g_retz rfl (by decide)) ?_
            exact fin3 (by unfold exc; rw [c0, c1]; simp) _ rfl
        · rw [c0] at t0
          obtain ⟨S, fi, fl, fr⟩ := h1
          have hS : S = shT := I1.1
          subst hS
          have e2 : fi 70 2 = nI B := e2
          have k5 : fr 70 5 = some 73 := k5
          have z0 : fi 73 0 = 1 := z0
          have t0 : fi 73 2 = 1 := t0
          refine gp_n 1 (j' := 4) (lv' := [some (.ref 70), some (.int 0), some (.int 2)]) (st' := [.int 2]) (h' := (shT, fi, fl, fr)) rfl ?_
          refine gp_of (fun _ k9 => g_iff rfl (show ¬ ((2 : Int32) < (0 : Int32)) from by decide) k9) ?_
          refine gp_n 2 (j' := 7) (lv' := [some (.ref 70), some (.int 0), some (.int 2)]) (st' := [.int 2, .int 0]) (h' := (shT, fi, fl, fr)) rfl ?_
          refine gp_of (fun _ k9 => g_ift rfl (show ¬ (2 : Int32) = (0 : Int32) from by decide) k9) ?_
          refine gp_n 1 (j' := 11) (lv' := [some (.ref 70), some (.int 0), some (.int 2)]) (st' := [.int 0, .int 0]) (h' := (shT, fi, fl, fr)) rfl ?_
          refine gp_of (fun _ k9 => g_ict rfl (show (0 : Int32) = (0 : Int32) from by decide) k9) ?_
          refine gp_n 1 (j' := 24) (lv' := [some (.ref 70), some (.int 0), some (.int 2)]) (st' := [.ref 70]) (h' := (shT, fi, fl, fr)) rfl ?_
          refine gp_of (fun _ k9 => g_getR (q' := 73) rfl rfl (by decide) k5 k9) ?_
          refine gp_n 1 (j' := 26) (lv' := [some (.ref 70), some (.int 0), some (.int 2)]) (st' := [.int 2, .ref 73]) (h' := (shT, fi, fl, fr)) rfl ?_
          refine gp_of (fun _ k9 => g_bald (k := 2) (x := 1) rfl rfl (by decide) (rfl) (by decide) (by decide) (t0) k9) ?_
          refine gp_of (fun _ k9 => g_ift rfl (show ¬ (1 : Int32) = (0 : Int32) from by decide) k9) ?_
          refine gp_n 3 (j' := 47) (lv' := [some (.ref 70), some (.int 0), some (.int 2)]) (st' := [.ref 70, .int 3, .ref 70]) (h' := (shT, fi, fl, fr)) rfl ?_
          refine gp_of (fun _ k9 => g_getI (x := nI B) rfl (Or.inl rfl) rfl (by decide) (e2) k9) ?_
          refine gp_of (fun _ k9 => g_call (y := 156) (as := [.ref 70, .int 3, .int (nI B)]) (st' := []) rfl rfl (fa3) k9) ?_
          refine gp_done (g_retz rfl (by decide)) ?_
          exact fin3 (by unfold exc; rw [c0]; simp) _ rfl
      · have t0 : ph_i h1 73 3 = b01 (R.1.testBit 3) := iw 3 (by decide) (by decide)
        cases c0 : R.1.testBit 3
        · rw [c0] at t0
          obtain ⟨S, fi, fl, fr⟩ := h1
          have hS : S = shT := I1.1
          subst hS
          have e2 : fi 70 2 = nI B := e2
          have k5 : fr 70 5 = some 73 := k5
          have z0 : fi 73 0 = 1 := z0
          have t0 : fi 73 3 = 0 := t0
          refine gp_n 1 (j' := 4) (lv' := [some (.ref 70), some (.int 0), some (.int 3)]) (st' := [.int 3]) (h' := (shT, fi, fl, fr)) rfl ?_
          refine gp_of (fun _ k9 => g_iff rfl (show ¬ ((3 : Int32) < (0 : Int32)) from by decide) k9) ?_
          refine gp_n 2 (j' := 7) (lv' := [some (.ref 70), some (.int 0), some (.int 3)]) (st' := [.int 3, .int 0]) (h' := (shT, fi, fl, fr)) rfl ?_
          refine gp_of (fun _ k9 => g_ift rfl (show ¬ (3 : Int32) = (0 : Int32) from by decide) k9) ?_
          refine gp_n 1 (j' := 11) (lv' := [some (.ref 70), some (.int 0), some (.int 3)]) (st' := [.int 0, .int 0]) (h' := (shT, fi, fl, fr)) rfl ?_
          refine gp_of (fun _ k9 => g_ict rfl (show (0 : Int32) = (0 : Int32) from by decide) k9) ?_
          refine gp_n 1 (j' := 24) (lv' := [some (.ref 70), some (.int 0), some (.int 3)]) (st' := [.ref 70]) (h' := (shT, fi, fl, fr)) rfl ?_
          refine gp_of (fun _ k9 => g_getR (q' := 73) rfl rfl (by decide) k5 k9) ?_
          refine gp_n 1 (j' := 26) (lv' := [some (.ref 70), some (.int 0), some (.int 3)]) (st' := [.int 3, .ref 73]) (h' := (shT, fi, fl, fr)) rfl ?_
          refine gp_of (fun _ k9 => g_bald (k := 3) (x := 0) rfl rfl (by decide) (rfl) (by decide) (by decide) (t0) k9) ?_
          refine gp_of (fun _ k9 => g_iff rfl (show ¬ (¬ (0 : Int32) = (0 : Int32)) from by decide) k9) ?_
          refine gp_n 2 (j' := 30) (lv' := [some (.ref 70), some (.int 0), some (.int 3)]) (st' := [.int 1, .int 3]) (h' := (shT, fi, fl, fr)) rfl ?_
          refine gp_of (fun _ k9 => g_ict rfl (show ¬ (3 : Int32) = (1 : Int32) from by decide) k9) ?_
          refine gp_n 2 (j' := 38) (lv' := [some (.ref 70), some (.int 0), some (.int 3)]) (st' := [.int 2, .int 3]) (h' := (shT, fi, fl, fr)) rfl ?_
          refine gp_of (fun _ k9 => g_ict rfl (show ¬ (3 : Int32) = (2 : Int32) from by decide) k9) ?_
          refine gp_n 1 (j' := 51) (lv' := [some (.ref 70), some (.int 0), some (.int 3)]) (st' := [.ref 70]) (h' := (shT, fi, fl, fr)) rfl ?_
          refine gp_of (fun _ k9 => g_getR (q' := 73) rfl rfl (by decide) k5 k9) ?_
          refine gp_n 2 (j' := 54) (lv' := [some (.ref 70), some (.int 0), some (.int 3)]) (st' := [.int 1, .int 3, .ref 73]) (h' := (shT, fi, fl, fr)) rfl ?_
          refine gp_of (fun _ k9 => g_zast (k := 3) rfl rfl (rfl) (by decide) (by decide) k9) ?_
          exact finT (by unfold exc; rw [c0]; simp) _
        · rw [c0] at t0
          obtain ⟨S, fi, fl, fr⟩ := h1
          have hS : S = shT := I1.1
          subst hS
          have e2 : fi 70 2 = nI B := e2
          have k5 : fr 70 5 = some 73 := k5
          have z0 : fi 73 0 = 1 := z0
          have t0 : fi 73 3 = 1 := t0
          refine gp_n 1 (j' := 4) (lv' := [some (.ref 70), some (.int 0), some (.int 3)]) (st' := [.int 3]) (h' := (shT, fi, fl, fr)) rfl ?_
          refine gp_of (fun _ k9 => g_iff rfl (show ¬ ((3 : Int32) < (0 : Int32)) from by decide) k9) ?_
          refine gp_n 2 (j' := 7) (lv' := [some (.ref 70), some (.int 0), some (.int 3)]) (st' := [.int 3, .int 0]) (h' := (shT, fi, fl, fr)) rfl ?_
          refine gp_of (fun _ k9 => g_ift rfl (show ¬ (3 : Int32) = (0 : Int32) from by decide) k9) ?_
          refine gp_n 1 (j' := 11) (lv' := [some (.ref 70), some (.int 0), some (.int 3)]) (st' := [.int 0, .int 0]) (h' := (shT, fi, fl, fr)) rfl ?_
          refine gp_of (fun _ k9 => g_ict rfl (show (0 : Int32) = (0 : Int32) from by decide) k9) ?_
          refine gp_n 1 (j' := 24) (lv' := [some (.ref 70), some (.int 0), some (.int 3)]) (st' := [.ref 70]) (h' := (shT, fi, fl, fr)) rfl ?_
          refine gp_of (fun _ k9 => g_getR (q' := 73) rfl rfl (by decide) k5 k9) ?_
          refine gp_n 1 (j' := 26) (lv' := [some (.ref 70), some (.int 0), some (.int 3)]) (st' := [.int 3, .ref 73]) (h' := (shT, fi, fl, fr)) rfl ?_
          refine gp_of (fun _ k9 => g_bald (k := 3) (x := 1) rfl rfl (by decide) (rfl) (by decide) (by decide) (t0) k9) ?_
          refine gp_of (fun _ k9 => g_ift rfl (show ¬ (1 : Int32) = (0 : Int32) from by decide) k9) ?_
          refine gp_n 3 (j' := 47) (lv' := [some (.ref 70), some (.int 0), some (.int 3)]) (st' := [.ref 70, .int 3, .ref 70]) (h' := (shT, fi, fl, fr)) rfl ?_
          refine gp_of (fun _ k9 => g_getI (x := nI B) rfl (Or.inl rfl) rfl (by decide) (e2) k9) ?_
          refine gp_of (fun _ k9 => g_call (y := 156) (as := [.ref 70, .int 3, .int (nI B)]) (st' := []) rfl rfl (fa3) k9) ?_
          refine gp_done (g_retz rfl (by decide)) ?_
          exact fin3 (by unfold exc; rw [c0]; simp) _ rfl
      · have t0 : ph_i h1 73 4 = b01 (R.1.testBit 4) := iw 4 (by decide) (by decide)
        cases c0 : R.1.testBit 4
        · rw [c0] at t0
          obtain ⟨S, fi, fl, fr⟩ := h1
          have hS : S = shT := I1.1
          subst hS
          have e2 : fi 70 2 = nI B := e2
          have k5 : fr 70 5 = some 73 := k5
          have z0 : fi 73 0 = 1 := z0
          have t0 : fi 73 4 = 0 := t0
          refine gp_n 1 (j' := 4) (lv' := [some (.ref 70), some (.int 0), some (.int 4)]) (st' := [.int 4]) (h' := (shT, fi, fl, fr)) rfl ?_
          refine gp_of (fun _ k9 => g_iff rfl (show ¬ ((4 : Int32) < (0 : Int32)) from by decide) k9) ?_
          refine gp_n 2 (j' := 7) (lv' := [some (.ref 70), some (.int 0), some (.int 4)]) (st' := [.int 4, .int 0]) (h' := (shT, fi, fl, fr)) rfl ?_
          refine gp_of (fun _ k9 => g_ift rfl (show ¬ (4 : Int32) = (0 : Int32) from by decide) k9) ?_
          refine gp_n 1 (j' := 11) (lv' := [some (.ref 70), some (.int 0), some (.int 4)]) (st' := [.int 0, .int 0]) (h' := (shT, fi, fl, fr)) rfl ?_
          refine gp_of (fun _ k9 => g_ict rfl (show (0 : Int32) = (0 : Int32) from by decide) k9) ?_
          refine gp_n 1 (j' := 24) (lv' := [some (.ref 70), some (.int 0), some (.int 4)]) (st' := [.ref 70]) (h' := (shT, fi, fl, fr)) rfl ?_
          refine gp_of (fun _ k9 => g_getR (q' := 73) rfl rfl (by decide) k5 k9) ?_
          refine gp_n 1 (j' := 26) (lv' := [some (.ref 70), some (.int 0), some (.int 4)]) (st' := [.int 4, .ref 73]) (h' := (shT, fi, fl, fr)) rfl ?_
          refine gp_of (fun _ k9 => g_bald (k := 4) (x := 0) rfl rfl (by decide) (rfl) (by decide) (by decide) (t0) k9) ?_
          refine gp_of (fun _ k9 => g_iff rfl (show ¬ (¬ (0 : Int32) = (0 : Int32)) from by decide) k9) ?_
          refine gp_n 2 (j' := 30) (lv' := [some (.ref 70), some (.int 0), some (.int 4)]) (st' := [.int 1, .int 4]) (h' := (shT, fi, fl, fr)) rfl ?_
          refine gp_of (fun _ k9 => g_ict rfl (show ¬ (4 : Int32) = (1 : Int32) from by decide) k9) ?_
          refine gp_n 2 (j' := 38) (lv' := [some (.ref 70), some (.int 0), some (.int 4)]) (st' := [.int 2, .int 4]) (h' := (shT, fi, fl, fr)) rfl ?_
          refine gp_of (fun _ k9 => g_ict rfl (show ¬ (4 : Int32) = (2 : Int32) from by decide) k9) ?_
          refine gp_n 1 (j' := 51) (lv' := [some (.ref 70), some (.int 0), some (.int 4)]) (st' := [.ref 70]) (h' := (shT, fi, fl, fr)) rfl ?_
          refine gp_of (fun _ k9 => g_getR (q' := 73) rfl rfl (by decide) k5 k9) ?_
          refine gp_n 2 (j' := 54) (lv' := [some (.ref 70), some (.int 0), some (.int 4)]) (st' := [.int 1, .int 4, .ref 73]) (h' := (shT, fi, fl, fr)) rfl ?_
          refine gp_of (fun _ k9 => g_zast (k := 4) rfl rfl (rfl) (by decide) (by decide) k9) ?_
          exact finT (by unfold exc; rw [c0]; simp) _
        · rw [c0] at t0
          obtain ⟨S, fi, fl, fr⟩ := h1
          have hS : S = shT := I1.1
          subst hS
          have e2 : fi 70 2 = nI B := e2
          have k5 : fr 70 5 = some 73 := k5
          have z0 : fi 73 0 = 1 := z0
          have t0 : fi 73 4 = 1 := t0
          refine gp_n 1 (j' := 4) (lv' := [some (.ref 70), some (.int 0), some (.int 4)]) (st' := [.int 4]) (h' := (shT, fi, fl, fr)) rfl ?_
          refine gp_of (fun _ k9 => g_iff rfl (show ¬ ((4 : Int32) < (0 : Int32)) from by decide) k9) ?_
          refine gp_n 2 (j' := 7) (lv' := [some (.ref 70), some (.int 0), some (.int 4)]) (st' := [.int 4, .int 0]) (h' := (shT, fi, fl, fr)) rfl ?_
          refine gp_of (fun _ k9 => g_ift rfl (show ¬ (4 : Int32) = (0 : Int32) from by decide) k9) ?_
          refine gp_n 1 (j' := 11) (lv' := [some (.ref 70), some (.int 0), some (.int 4)]) (st' := [.int 0, .int 0]) (h' := (shT, fi, fl, fr)) rfl ?_
          refine gp_of (fun _ k9 => g_ict rfl (show (0 : Int32) = (0 : Int32) from by decide) k9) ?_
          refine gp_n 1 (j' := 24) (lv' := [some (.ref 70), some (.int 0), some (.int 4)]) (st' := [.ref 70]) (h' := (shT, fi, fl, fr)) rfl ?_
          refine gp_of (fun _ k9 => g_getR (q' := 73) rfl rfl (by decide) k5 k9) ?_
          refine gp_n 1 (j' := 26) (lv' := [some (.ref 70), some (.int 0), some (.int 4)]) (st' := [.int 4, .ref 73]) (h' := (shT, fi, fl, fr)) rfl ?_
          refine gp_of (fun _ k9 => g_bald (k := 4) (x := 1) rfl rfl (by decide) (rfl) (by decide) (by decide) (t0) k9) ?_
          refine gp_of (fun _ k9 => g_ift rfl (show ¬ (1 : Int32) = (0 : Int32) from by decide) k9) ?_
          refine gp_n 3 (j' := 47) (lv' := [some (.ref 70), some (.int 0), some (.int 4)]) (st' := [.ref 70, .int 3, .ref 70]) (h' := (shT, fi, fl, fr)) rfl ?_
          refine gp_of (fun _ k9 => g_getI (x := nI B) rfl (Or.inl rfl) rfl (by decide) (e2) k9) ?_
          refine gp_of (fun _ k9 => g_call (y := 156) (as := [.ref 70, .int 3, .int (nI B)]) (st' := []) rfl rfl (fa3) k9) ?_
          refine gp_done (g_retz rfl (by decide)) ?_
          exact fin3 (by unfold exc; rw [c0]; simp) _ rfl
      · have t0 : ph_i h1 73 5 = b01 (R.1.testBit 5) := iw 5 (by decide) (by decide)
        cases c0 : R.1.testBit 5
        · rw [c0] at t0
          obtain ⟨S, fi, fl, fr⟩ := h1
          have hS : S = shT := I1.1
          subst hS
          have e2 : fi 70 2 = nI B := e2
          have k5 : fr 70 5 = some 73 := k5
          have z0 : fi 73 0 = 1 := z0
          have t0 : fi 73 5 = 0 := t0
          refine gp_n 1 (j' := 4) (lv' := [some (.ref 70), some (.int 0), some (.int 5)]) (st' := [.int 5]) (h' := (shT, fi, fl, fr)) rfl ?_
          refine gp_of (fun _ k9 => g_iff rfl (show ¬ ((5 : Int32) < (0 : Int32)) from by decide) k9) ?_
          refine gp_n 2 (j' := 7) (lv' := [some (.ref 70), some (.int 0), some (.int 5)]) (st' := [.int 5, .int 0]) (h' := (shT, fi, fl, fr)) rfl ?_
          refine gp_of (fun _ k9 => g_ift rfl (show ¬ (5 : Int32) = (0 : Int32) from by decide) k9) ?_
          refine gp_n 1 (j' := 11) (lv' := [some (.ref 70), some (.int 0), some (.int 5)]) (st' := [.int 0, .int 0]) (h' := (shT, fi, fl, fr)) rfl ?_
          refine gp_of (fun _ k9 => g_ict rfl (show (0 : Int32) = (0 : Int32) from by decide) k9) ?_
          refine gp_n 1 (j' := 24) (lv' := [some (.ref 70), some (.int 0), some (.int 5)]) (st' := [.ref 70]) (h' := (shT, fi, fl, fr)) rfl ?_
          refine gp_of (fun _ k9 => g_getR (q' := 73) rfl rfl (by decide) k5 k9) ?_
          refine gp_n 1 (j' := 26) (lv' := [some (.ref 70), some (.int 0), some (.int 5)]) (st' := [.int 5, .ref 73]) (h' := (shT, fi, fl, fr)) rfl ?_
          refine gp_of (fun _ k9 => g_bald (k := 5) (x := 0) rfl rfl (by decide) (rfl) (by decide) (by decide) (t0) k9) ?_
          refine gp_of (fun _ k9 => g_iff rfl (show ¬ (¬ (0 : Int32) = (0 : Int32)) from by decide) k9) ?_
          refine gp_n 2 (j' := 30) (lv' := [some (.ref 70), some (.int 0), some (.int 5)]) (st' := [.int 1, .int 5]) (h' := (shT, fi, fl, fr)) rfl ?_
          refine gp_of (fun _ k9 => g_ict rfl (show ¬ (5 : Int32) = (1 : Int32) from by decide) k9) ?_
          refine gp_n 2 (j' := 38) (lv' := [some (.ref 70), some (.int 0), some (.int 5)]) (st' := [.int 2, .int 5]) (h' := (shT, fi, fl, fr)) rfl ?_
          refine gp_of (fun _ k9 => g_ict rfl (show ¬ (5 : Int32) = (2 : Int32) from by decide) k9) ?_
          refine gp_n 1 (j' := 51) (lv' := [some (.ref 70), some (.int 0), some (.int 5)]) (st' := [.ref 70]) (h' := (shT, fi, fl, fr)) rfl ?_
          refine gp_of (fun _ k9 => g_getR (q' := 73) rfl rfl (by decide) k5 k9) ?_
          refine gp_n 2 (j' := 54) (lv' := [some (.ref 70), some (.int 0), some (.int 5)]) (st' := [.int 1, .int 5, .ref 73]) (h' := (shT, fi, fl, fr)) rfl ?_
          refine gp_of (fun _ k9 => g_zast (k := 5) rfl rfl (rfl) (by decide) (by decide) k9) ?_
          exact finT (by unfold exc; rw [c0]; simp) _
        · rw [c0] at t0
          obtain ⟨S, fi, fl, fr⟩ := h1
          have hS : S = shT := I1.1
          subst hS
          have e2 : fi 70 2 = nI B := e2
          have k5 : fr 70 5 = some 73 := k5
          have z0 : fi 73 0 = 1 := z0
          have t0 : fi 73 5 = 1 := t0
          refine gp_n 1 (j' := 4) (lv' := [some (.ref 70), some (.int 0), some (.int 5)]) (st' := [.int 5]) (h' := (shT, fi, fl, fr)) rfl ?_
          refine gp_of (fun _ k9 => g_iff rfl (show ¬ ((5 : Int32) < (0 : Int32)) from by decide) k9) ?_
          refine gp_n 2 (j' := 7) (lv' := [some (.ref 70), some (.int 0), some (.int 5)]) (st' := [.int 5, .int 0]) (h' := (shT, fi, fl, fr)) rfl ?_
          refine gp_of (fun _ k9 => g_ift rfl (show ¬ (5 : Int32) = (0 : Int32) from by decide) k9) ?_
          refine gp_n 1 (j' := 11) (lv' := [some (.ref 70), some (.int 0), some (.int 5)]) (st' := [.int 0, .int 0]) (h' := (shT, fi, fl, fr)) rfl ?_
          refine gp_of (fun _ k9 => g_ict rfl (show (0 : Int32) = (0 : Int32) from by decide) k9) ?_
          refine gp_n 1 (j' := 24) (lv' := [some (.ref 70), some (.int 0), some (.int 5)]) (st' := [.ref 70]) (h' := (shT, fi, fl, fr)) rfl ?_
          refine gp_of (fun _ k9 => g_getR (q' := 73) rfl rfl (by decide) k5 k9) ?_
          refine gp_n 1 (j' := 26) (lv' := [some (.ref 70), some (.int 0), some (.int 5)]) (st' := [.int 5, .ref 73]) (h' := (shT, fi, fl, fr)) rfl ?_
          refine gp_of (fun _ k9 => g_bald (k := 5) (x := 1) rfl rfl (by decide) (rfl) (by decide) (by decide) (t0) k9) ?_
          refine gp_of (fun _ k9 => g_ift rfl (show ¬ (1 : Int32) = (0 : Int32) from by decide) k9) ?_
          refine gp_n 3 (j' := 47) (lv' := [some (.ref 70), some (.int 0), some (.int 5)]) (st' := [.ref 70, .int 3, .ref 70]) (h' := (shT, fi, fl, fr)) rfl ?_
          refine gp_of (fun _ k9 => g_getI (x := nI B) rfl (Or.inl rfl) rfl (by decide) (e2) k9) ?_
          refine gp_of (fun _ k9 => g_call (y := 156) (as := [.ref 70, .int 3, .int (nI B)]) (st' := []) rfl rfl (fa3) k9) ?_
          refine gp_done (g_retz rfl (by decide)) ?_
          exact fin3 (by unfold exc; rw [c0]; simp) _ rfl
def mp_0 (F : Nat → Int32) (t p : Nat) (h : PmH) : Prop := mp_P F t p h ∧ (ph_i h 70 7 = nI 0 ∧ ph_l h 70 8 = 0 ∧ ph_i h 70 9 = nI 0 ∧ ph_i h 70 10 = nI 0 ∧ ph_i h 70 11 = nI 500 ∧ ph_i h 70 12 = nI 4) ∧ mi_h 0 0 h ∧ p ≤ t
theorem rs_ev {F : Nat → Int32} {t p : Nat} {h : PmH} (ht : t ≤ 200) (hF : ∀ s, byR (F s)) (hS : mp_0 F t p h) : EvP 151 [.ref 70, .int 1] h (mo_O F t h (sizeS F t p)) := by
  have wv := wh_ev ht hF hS.2.2.2 hS.1
  have B1 : sk F t cB p ≤ t := sk_le _ _ hS.2.2.2
  have P1 := mpl_P (q := sk F t cB p) hS.1
  have E1 : sk F t cL (sk F t cB p) ≤ t := sk_le _ _ B1
  have f1 : fram lW h (mpl h (sk F t cB p)) := fram_wi (by decide)
  have i1 : mi_h 0 0 (mpl h (sk F t cB p)) := mi_fr hS.2.2.1 (W := [(70, 2)]) (fram_wi (by decide)) (by decide)
  obtain ⟨y1, y2, y3, y4, y5, y6⟩ := hS.2.1
  have x1 : ph_i (mpl h (sk F t cB p)) 70 7 = nI 0 := (h_n (by decide)).trans y1
  have x2 : ph_l (mpl h (sk F t cB p)) 70 8 = 0 := y2
  have x3 : ph_i (mpl h (sk F t cB p)) 70 9 = nI 0 := (h_n (by decide)).trans y3
  have x4 : ph_i (mpl h (sk F t cB p)) 70 10 = nI 0 := (h_n (by decide)).trans y4
  have x5 : ph_i (mpl h (sk F t cB p)) 70 11 = nI 500 := (h_n (by decide)).trans y5
  have x6 : ph_i (mpl h (sk F t cB p)) 70 12 = nI 4 := (h_n (by decide)).trans y6
  unfold sizeS
  have pref : ∀ Q, GoP pmT none cd_151 3 [some (.ref 70), some (.int 1), some (.int (wH F (sk F t cB p) (sk F t cL (sk F t cB p))))] [] (mpl h (sk F t cB p)) Q → EvP 151 [.ref 70, .int 1] h Q := by
    intro Q g
    refine EvP.of (es := cd_151) (ml := 3) (lv := [some (.ref 70), some (.int 1), none]) rfl rfl rfl ?_
    have hI := hS.1.1
    clear hS P1 f1 i1 x1 x2 x3 x4 x5 x6 y1 y2 y3 y4 y5 y6
    generalize sk F t cL (sk F t cB p) = E at *
    generalize sk F t cB p = B at *
    obtain ⟨S, fi, fl, fr⟩ := h
    have hS : S = shT := hI.1
    subst hS
    refine gp_n 1 (j' := 1) (lv' := [some (.ref 70), some (.int 1), none]) (st' := [.ref 70]) (h' := (shT, fi, fl, fr)) rfl ?_
    refine gp_of (fun _ k9 => g_call (y := 152) (as := [.ref 70]) (st' := []) rfl rfl (wv) k9) ?_
    refine gp_n 1 (j' := 3) (lv' := [some (.ref 70), some (.int 1), some (.int (wH F B E))]) (st' := []) (h' := (mpl (shT, fi, fl, fr) B)) rfl ?_
    exact g
  refine pref _ ?_
  clear pref wv y1 y2 y3 y4 y5 y6
  have loop := fun l1 l2 r => ml_go (l1 := l1) (l2 := l2) (r := r) ht hF
  generalize hE : sk F t cL (sk F t cB p) = E at *
  generalize sk F t cB p = B at *
  refine gp_mono (fun r => mo_tr f1) ?_
  have I1 := P1.1
  have e2 : ph_i (mpl h B) 70 2 = nI B := h_e
  have k5 : ph_r (mpl h B) 70 5 = some 73 := hi_r I1 rfl rfl (by decide)
  have z0 := i1.1
  have fa1 := fa_ev (x := 1) (y := nI B) I1
  have J1 : HI hdT shT (h_i (mpl h B) 70 3 (8 * nI B + 1)) := hd70 I1 rfl
  clear hS f1
  generalize mpl h B = h1 at *
  unfold wH
  by_cases hs : isW F B E (wd 0) = true
  · rw [if_pos hs, if_pos hs]
    have P2 : mp_P F t B (hz h1 0) := hz_P P1
    have P3 : mp_P F t E (mpl (hz h1 0) E) := mpl_P P2
    have f3 : fram lW h1 (mpl (hz h1 0) E) := fram.tr (fram_wi (by decide)) (fram_wi (by decide))
    have i3 : mi_h 1 0 (mpl (hz h1 0) E) := ⟨(h_n (by decide)).trans h_e, fun w w1 w2 => (h_n (by omega)).trans ((h_n (by omega)).trans (i1.2 w w1 w2))⟩
    have v1 : ph_i (mpl (hz h1 0) E) 70 7 = nI 0 := (h_n (by decide)).trans ((h_n (by decide)).trans x1)
    have v2 : ph_l (mpl (hz h1 0) E) 70 8 = 0 := x2
    have v3 : ph_i (mpl (hz h1 0) E) 70 9 = nI 0 := (h_n (by decide)).trans ((h_n (by decide)).trans x3)
    have v4 : ph_i (mpl (hz h1 0) E) 70 10 = nI 0 := (h_n (by decide)).trans ((h_n (by decide)).trans x4)
    have v5 : ph_i (mpl (hz h1 0) E) 70 11 = nI 500 := (h_n (by decide)).trans ((h_n (by decide)).trans x5)
    have v6 : ph_i (mpl (hz h1 0) E) 70 12 = nI 4 := (h_n (by decide)).trans ((h_n (by decide)).trans x6)
    have lp := fun r => loop (some (.int 1)) (some (.int 0)) r (t - B) B (hz h1 0) rfl B1 P2
    rw [hE] at lp
    have pre2 : ∀ Q, GoP pmT none cd_151 68 [some (.ref 70), some (.int 1), some (.int 0)] [] (mpl (hz h1 0) E) Q → GoP pmT none cd_151 3 [some (.ref 70), some (.int 1), some (.int 0)] [] h1 Q := by
      rintro Q ⟨r, g, q⟩
      refine ⟨r, ?_, q⟩
      have g2 := lp r g
      clear lp loop P1 P2 P3 f3 i3 i1 v1 v2 v3 v4 v5 v6 x1 x2 x3 x4 x5 x6 J1 fa1
      obtain ⟨S, fi, fl, fr⟩ := h1
      have hS : S = shT := I1.1
      subst hS
      have e2 : fi 70 2 = nI B := e2
      have k5 : fr 70 5 = some 73 := k5
      have z0 : fi 73 0 = 0 := z0
      refine go_of ?_
      refine gp_n 1 (j' := 4) (lv' := [some (.ref 70), some (.int 1), some (.int 0)]) (st' := [.int 0]) (h' := (shT, fi, fl, fr)) rfl ?_
      refine gp_of (fun _ k9 => g_iff rfl (show ¬ ((0 : Int32) < (0 : Int32)) from by decide) k9) ?_
      refine gp_n 2 (j' := 7) (lv' := [some (.ref 70), some (.int 1), some (.int 0)]) (st' := [.int 0, .int 1]) (h' := (shT, fi, fl, fr)) rfl ?_
      refine gp_of (fun _ k9 => g_iff rfl (show ¬ (¬ (0 : Int32) = (0 : Int32)) from by decide) k9) ?_
      refine gp_n 2 (j' := 11) (lv' := [some (.ref 70), some (.int 1), some (.int 0)]) (st' := [.int 1, .int 1]) (h' := (shT, fi, fl, fr)) rfl ?_
      refine gp_of (fun _ k9 => g_ict rfl (show (1 : Int32) = (1 : Int32) from by decide) k9) ?_
      refine gp_n 1 (j' := 24) (lv' := [some (.ref 70), some (.int 1), some (.int 0)]) (st' := [.ref 70]) (h' := (shT, fi, fl, fr)) rfl ?_
      refine gp_of (fun _ k9 => g_getR (q' := 73) rfl rfl (by decide) k5 k9) ?_
      refine gp_n 1 (j' := 26) (lv' := [some (.ref 70), some (.int 1), some (.int 0)]) (st' := [.int 0, .ref 73]) (h' := (shT, fi, fl, fr)) rfl ?_
      refine gp_of (fun _ k9 => g_bald (k := 0) (x := 0) rfl rfl (by decide) (rfl) (by decide) (by decide) (z0) k9) ?_
      refine gp_of (fun _ k9 => g_iff rfl (show ¬ (¬ (0 : Int32) = (0 : Int32)) from by decide) k9) ?_
      refine gp_n 2 (j' := 30) (lv' := [some (.ref 70), some (.int 1), some (.int 0)]) (st' := [.int 1, .int 0]) (h' := (shT, fi, fl, fr)) rfl ?_
      refine gp_of (fun _ k9 => g_ict rfl (show ¬ (0 : Int32) = (1 : Int32) from by decide) k9) ?_
      refine gp_n 2 (j' := 38) (lv' := [some (.ref 70), some (.int 1), some (.int 0)]) (st' := [.int 2, .int 0]) (h' := (shT, fi, fl, fr)) rfl ?_
      refine gp_of (fun _ k9 => g_ict rfl (show ¬ (0 : Int32) = (2 : Int32) from by decide) k9) ?_
      refine gp_n 1 (j' := 51) (lv' := [some (.ref 70), some (.int 1), some (.int 0)]) (st' := [.ref 70]) (h' := (shT, fi, fl, fr)) rfl ?_
      refine gp_of (fun _ k9 => g_getR (q' := 73) rfl rfl (by decide) k5 k9) ?_
      refine gp_n 2 (j' := 54) (lv' := [some (.ref 70), some (.int 1), some (.int 0)]) (st' := [.int 1, .int 0, .ref 73]) (h' := (shT, fi, fl, fr)) rfl ?_
      refine gp_of (fun _ k9 => g_zast (k := 0) rfl rfl (rfl) (by decide) (by decide) k9) ?_
      exact gp_done g2 rfl
    refine pre2 _ (gp_mono (fun r => mo_tr f3) ?_)
    clear pre2 lp loop f3 P1 P2 i1 x1 x2 x3 x4 x5 x6 J1 fa1 z0 k5 e2 I1
    generalize mpl (hz h1 0) E = h3 at *
    rcases rd_ev (lo := 2) (hi := 6) ht hF E1 P3 (by decide) (by decide) with ⟨v, e, h', q1, q2, q3, q4, q5, q6⟩ | ⟨q1, h', q2, q3, q4⟩
    · rw [q1]
      refine gp_mono (fun r (z : r = (some (.int 1), h_i h' 70 6 (nI v))) => Or.inl ⟨R0 v, e, rfl, by rw [z], ?_, by rw [z]; exact fram.tr (fram.up (by decide) q6) (fram_wi (by decide))⟩) ?_
      · rw [z]
        have fq : ∀ c, inW rW 70 c = false → ph_i h' 70 c = ph_i h3 70 c ∧ ph_l h' 70 c = ph_l h3 70 c := fun c hc => ⟨(q6 70 c hc).1, (q6 70 c hc).2.1⟩
        exact ⟨h70_P q4 rfl (by decide) (by decide), ⟨h_e, (h_n (by decide)).trans (((fq 7 (by decide)).1).trans v1), ((fq 8 (by decide)).2).trans v2, (h_n (by decide)).trans (((fq 9 (by decide)).1).trans v3), (h_n (by decide)).trans (((fq 10 (by decide)).1).trans v4), (h_n (by decide)).trans (((fq 11 (by decide)).1).trans v5), (h_n (by decide)).trans (((fq 12 (by decide)).1).trans v6)⟩, mi_fr (mi_fr i3 q6 (by decide)) (W := [(70, 6)]) (fram_wi (by decide)) (by decide), q2⟩
      have I2 := q4.1
      have hI := P3.1
      clear q4 q6 i3 P3 v1 v2 v3 v4 v5 v6
      obtain ⟨S1, fi1, fl1, fr1⟩ := h'
      have s1 : S1 = shT := I2.1
      subst s1
      have q5 : fi1 70 13 = nI v := q5
      obtain ⟨S, fi, fl, fr⟩ := h3
      have hS : S = shT := hI.1
      subst hS
      refine gp_n 5 (j' := 73) (lv' := [some (.ref 70), some (.int 1), some (.int 0)]) (st' := [.int (nI 6), .int (nI 2), .ref 70]) (h' := (shT, fi, fl, fr)) rfl ?_
      refine gp_of (fun _ k9 => g_call (y := 157) (as := [.ref 70, .int (nI 2), .int (nI 6)]) (st' := []) rfl rfl (q3) k9) ?_
      refine gp_of (fun _ k9 => g_ift rfl (show ¬ (1 : Int32) = (0 : Int32) from by decide) k9) ?_
      refine gp_n 2 (j' := 79) (lv' := [some (.ref 70), some (.int 1), some (.int 0)]) (st' := [.ref 70, .ref 70]) (h' := (shT, fi1, fl1, fr1)) rfl ?_
      refine gp_of (fun _ k9 => g_getI (x := nI v) rfl (Or.inl rfl) rfl (by decide) (q5) k9) ?_
      refine gp_of (fun _ k9 => g_putI rfl (Or.inl rfl) rfl (by decide) k9) ?_
      refine gp_n 1 (j' := 82) (lv' := [some (.ref 70), some (.int 1), some (.int 0)]) (st' := [.int 1]) (h' := (shT, pm_u2 fi1 70 6 (nI v), fl1, fr1)) rfl ?_
      refine gp_done (g_retz rfl (by decide)) ?_
      rfl
    · rw [q1]
      refine gp_mono (fun r (z : r = (some (.int 0), h')) => Or.inr ⟨rfl, by rw [z], by rw [z]; exact q3, by rw [z]; exact fram.up (by decide) q4⟩) ?_
      have I2 := q3
      have hI := P3.1
      clear q3 q4 i3 P3 v1 v2 v3 v4 v5 v6
      obtain ⟨S1, fi1, fl1, fr1⟩ := h'
      have s1 : S1 = shT := I2.1
      subst s1
      obtain ⟨S, fi, fl, fr⟩ := h3
      have hS : S = shT := hI.1
      subst hS
      refine gp_n 5 (j' := 73) (lv' := [some (.ref 70), some (.int 1), some (.int 0)]) (st' := [.int (nI 6), .int (nI 2), .ref 70]) (h' := (shT, fi, fl, fr)) rfl ?_
      refine gp_of (fun _ k9 => g_call (y := 157) (as := [.ref 70, .int (nI 2), .int (nI 6)]) (st' := []) rfl rfl (q2) k9) ?_
      refine gp_of (fun _ k9 => g_iff rfl (show ¬ (¬ (0 : Int32) = (0 : Int32)) from by decide) k9) ?_
      refine gp_n 1 (j' := 76) (lv' := [some (.ref 70), some (.int 1), some (.int 0)]) (st' := [.int 0]) (h' := (shT, fi1, fl1, fr1)) rfl ?_
      refine gp_done (g_retz rfl (by decide)) ?_
      rfl
  · rw [if_neg hs, if_neg hs]
    refine gp_mono (fun r (z : r = (some (.int 0), h_i h1 70 3 (8 * nI B + 1))) => Or.inr ⟨rfl, by rw [z], by rw [z]; exact J1, by rw [z]; exact fram_wi (by decide)⟩) ?_
    clear J1 P1 i1 loop x1 x2 x3 x4 x5 x6
    by_cases hw0 : whW F B E = 0
    · rw [if_pos hw0]
      obtain ⟨S, fi, fl, fr⟩ := h1
      have hS : S = shT := I1.1
      subst hS
      have e2 : fi 70 2 = nI B := e2
      have k5 : fr 70 5 = some 73 := k5
      have z0 : fi 73 0 = 0 := z0
      refine gp_n 1 (j' := 4) (lv' := [some (.ref 70), some (.int 1), some (.int (-1))]) (st' := [.int (-1)]) (h' := (shT, fi, fl, fr)) rfl ?_
      refine gp_of (fun _ k9 => g_ift rfl (show ((-1) : Int32) < (0 : Int32) from by decide) k9) ?_
      refine gp_n 3 (j' := 20) (lv' := [some (.ref 70), some (.int 1), some (.int (-1))]) (st' := [.ref 70, .int 1, .ref 70]) (h' := (shT, fi, fl, fr)) rfl ?_
      refine gp_of (fun _ k9 => g_getI (x := nI B) rfl (Or.inl rfl) rfl (by decide) (e2) k9) ?_
      refine gp_of (fun _ k9 => g_call (y := 156) (as := [.ref 70, .int 1, .int (nI B)]) (st' := []) rfl rfl (fa1) k9) ?_
      refine gp_done (g_retz rfl (by decide)) ?_
      rfl
    · rw [if_neg hw0]
      have hw6 : whW F B E < 6 := whW_lt
      generalize whW F B E = w at *
      obtain ⟨S, fi, fl, fr⟩ := h1
      have hS : S = shT := I1.1
      subst hS
      have e2 : fi 70 2 = nI B := e2
      have k5 : fr 70 5 = some 73 := k5
      have z0 : fi 73 0 = 0 := z0
      refine gp_n 1 (j' := 4) (lv' := [some (.ref 70), some (.int 1), some (.int (nI w))]) (st' := [.int (nI w)]) (h' := (shT, fi, fl, fr)) rfl ?_
      refine gp_of (fun _ k9 => g_iff rfl (show ¬ ((nI w) < (0 : Int32)) from nI_pos (by omega)) k9) ?_
      refine gp_n 2 (j' := 7) (lv' := [some (.ref 70), some (.int 1), some (.int (nI w))]) (st' := [.int (nI w), .int 1]) (h' := (shT, fi, fl, fr)) rfl ?_
      refine gp_of (fun _ k9 => g_ift rfl (show ¬ (nI w) = (0 : Int32) from nI_ne0 (by omega) (by omega)) k9) ?_
      refine gp_n 1 (j' := 11) (lv' := [some (.ref 70), some (.int 1), some (.int (nI w))]) (st' := [.int 0, .int 1]) (h' := (shT, fi, fl, fr)) rfl ?_
      refine gp_of (fun _ k9 => g_icf rfl (show ¬ ((1 : Int32) = (0 : Int32)) from by decide) k9) ?_
      refine gp_n 1 (j' := 13) (lv' := [some (.ref 70), some (.int 1), some (.int (nI w))]) (st' := [.ref 70]) (h' := (shT, fi, fl, fr)) rfl ?_
      refine gp_of (fun _ k9 => g_getR (q' := 73) rfl rfl (by decide) k5 k9) ?_
      refine gp_n 1 (j' := 15) (lv' := [some (.ref 70), some (.int 1), some (.int (nI w))]) (st' := [.int 0, .ref 73]) (h' := (shT, fi, fl, fr)) rfl ?_
      refine gp_of (fun _ k9 => g_bald (k := 0) (x := 0) rfl rfl (by decide) (rfl) (by decide) (by decide) (z0) k9) ?_
      refine gp_of (fun _ k9 => g_iff rfl (show ¬ (¬ (0 : Int32) = (0 : Int32)) from by decide) k9) ?_
      refine gp_n 3 (j' := 20) (lv' := [some (.ref 70), some (.int 1), some (.int (nI w))]) (st' := [.ref 70, .int 1, .ref 70]) (h' := (shT, fi, fl, fr)) rfl ?_
      refine gp_of (fun _ k9 => g_getI (x := nI B) rfl (Or.inl rfl) rfl (by decide) (e2) k9) ?_
      refine gp_of (fun _ k9 => g_call (y := 156) (as := [.ref 70, .int 1, .int (nI B)]) (st' := []) rfl rfl (fa1) k9) ?_
      refine gp_done (g_retz rfl (by decide)) ?_
      rfl
