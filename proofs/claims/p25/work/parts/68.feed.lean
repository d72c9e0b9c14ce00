def bt (x : Int32) (j : Nat) : Int32 := (x >>> ((nI (24 - 8 * j)) &&& 31)).toInt8.toInt32
theorem bt_in (x : Int32) (j : Nat) : -128 ≤ (bt x j).toInt ∧ (bt x j).toInt ≤ 127 := by
  unfold bt
  generalize (x >>> ((nI (24 - 8 * j)) &&& 31)).toInt8 = y
  rw [Int8.toInt_toInt32]
  have h1 := Int8.minValue_le_toInt y
  have h2 := Int8.toInt_le y
  rw [show Int8.minValue.toInt = -128 from by decide] at h1
  rw [show Int8.maxValue.toInt = 127 from by decide] at h2
  exact ⟨h1, h2⟩
theorem bt_nar (x : Int32) (j : Nat) : vp_nar .byte (bt x j) = bt x j := pk_vb _
theorem g_bastn {T : List PmM} {xs : PmX} {es : List PmI} {j : Nat} {lv : PmL} {st : List Value} {S : List (Nat × Nat)} {fi : Nat → Nat → Int32} {fl : Nat → Nat → Int64} {fr : Nat → Nat → Option Nat} {r : Option Value × PmH} {pc n a c d q : Nat} {v : Int} {ts : List Nat} {p N k : Nat} {i x : Int32} (he : es[j]? = some (pc, n, .bastore, a, c, d, q, v, ts)) (hs : S[p]? = some (2, N)) (hi : i = nI k) (hk : k < N) (hN : N < 2 ^ 31) (hx : vp_nar .byte x = x) (kk : Go T xs es (j + 1) lv st (S, pm_u2 fi p k x, fl, fr) r) : Go T xs es j lv (.int x :: .int i :: .ref p :: st) (S, fi, fl, fr) r := g_bast he hs hi hk hN (by rw [hx]; exact kk)
/-- the tape has m bytes more -/
def tpx (P Q : Nat × Nat) (t m : Nat) (g : Nat → Int32) (h h' : PmH) : Prop := ph_s h' = shT ∧ ph_i h' P.1 P.2 = nI (t + m) ∧ (∀ s, s < m → ph_i h' Q.1 (t + s) = g s) ∧ (∀ p s, ¬ (p = P.1 ∧ s = P.2) → ¬ (p = Q.1 ∧ t ≤ s ∧ s < t + m) → ph_i h' p s = ph_i h p s) ∧ (∀ s, s < t → ph_i h' Q.1 s = ph_i h Q.1 s) ∧ (∀ p s, ph_l h' p s = ph_l h p s) ∧ ∀ p s, ph_r h' p s = ph_r h p s
theorem app_ev {h : PmH} {t : Nat} {x : Int32} (hS : ph_s h = shT) (k7 : ph_r h 6 0 = some 7) (e : ph_i h 6 1 = nI t) (ht : t + 4 ≤ 200) : ∃ h', Ev pmT 11 [.ref 6, .int x] h none h' ∧ tpx (6, 1) (7, 0) t 4 (bt x) h h' := by
  obtain ⟨S, fi, fl, fr⟩ := h
  have hS : S = shT := hS
  subst hS
  have k7 : fr 6 0 = some 7 := k7
  have e : fi 6 1 = nI t := e
  have main : GoP pmT none cd_11 0 [some (.ref 6), some (.int x), none] [] (shT, fi, fl, fr) (fun r => r = (none, (shT, pm_u2 (pm_u2 (pm_u2 (pm_u2 (pm_u2 (pm_u2 (pm_u2 (pm_u2 fi 7 (t + 0) (bt x 0)) 6 1 (nI (t + 1))) 7 (t + 1) (bt x 1)) 6 1 (nI (t + 2))) 7 (t + 2) (bt x 2)) 6 1 (nI (t + 3))) 7 (t + 3) (bt x 3)) 6 1 (nI (t + 4)), fl, fr))) := by
    refine gp_n 3 (j' := 3) (lv' := [some (.ref 6), some (.int x), some (.int 24)]) (st' := [.int 24]) (h' := (shT, fi, fl, fr)) rfl ?_
    refine gp_of (fun _ k9 => g_iff rfl (show ¬ ((24 : Int32) < (0 : Int32)) from by decide) k9) ?_
    refine gp_n 1 (j' := 5) (lv' := [some (.ref 6), some (.int x), some (.int 24)]) (st' := [.ref 6]) (h' := (shT, fi, fl, fr)) rfl ?_
    refine gp_of (fun _ k9 => g_getI (x := nI t) rfl (Or.inl rfl) rfl (by decide) (e) k9) ?_
    refine gp_n 1 (j' := 7) (lv' := [some (.ref 6), some (.int x), some (.int 24)]) (st' := [.int 200, .int (nI t)]) (h' := (shT, fi, fl, fr)) rfl ?_
    refine gp_of (fun _ k9 => g_icf rfl (show ¬ ((200 : Int32) ≤ (nI t)) from nI_ge (b := 200) (by omega) (by decide)) k9) ?_
    refine gp_n 1 (j' := 9) (lv' := [some (.ref 6), some (.int x), some (.int 24)]) (st' := [.ref 6]) (h' := (shT, fi, fl, fr)) rfl ?_
    refine gp_of (fun _ k9 => g_getR (q' := 7) rfl rfl (by decide) k7 k9) ?_
    refine gp_n 1 (j' := 11) (lv' := [some (.ref 6), some (.int x), some (.int 24)]) (st' := [.ref 6, .ref 7]) (h' := (shT, fi, fl, fr)) rfl ?_
    refine gp_of (fun _ k9 => g_getI (x := nI t) rfl (Or.inl rfl) rfl (by decide) (e) k9) ?_
    refine gp_n 4 (j' := 16) (lv' := [some (.ref 6), some (.int x), some (.int 24)]) (st' := [.int ((x >>> (24 &&& 31)).toInt8.toInt32), .int (nI t), .ref 7]) (h' := (shT, fi, fl, fr)) rfl ?_
    show GoP pmT none cd_11 _ _ [.int (bt x 0), _, _] _ _
    refine gp_of (fun _ k9 => g_bastn (k := t + 0) rfl rfl (rfl) (by omega) (by decide) (bt_nar _ _) k9) ?_
    refine gp_n 2 (j' := 19) (lv' := [some (.ref 6), some (.int x), some (.int 24)]) (st' := [.ref 6, .ref 6]) (h' := (shT, pm_u2 fi 7 (t + 0) (bt x 0), fl, fr)) rfl ?_
    refine gp_of (fun _ k9 => g_getI (x := nI t) rfl (Or.inl rfl) rfl (by decide) (e) k9) ?_
    refine gp_n 2 (j' := 22) (lv' := [some (.ref 6), some (.int x), some (.int 24)]) (st' := [.int ((nI t) + 1), .ref 6]) (h' := (shT, pm_u2 fi 7 (t + 0) (bt x 0), fl, fr)) rfl ?_
    rw [nI_1]
    refine gp_of (fun _ k9 => g_putI rfl (Or.inl rfl) rfl (by decide) k9) ?_
    refine gp_n 3 (j' := 3) (lv' := [some (.ref 6), some (.int x), some (.int 16)]) (st' := [.int 16]) (h' := (shT, pm_u2 (pm_u2 fi 7 (t + 0) (bt x 0)) 6 1 (nI (t + 1)), fl, fr)) rfl ?_
    refine gp_of (fun _ k9 => g_iff rfl (show ¬ ((16 : Int32) < (0 : Int32)) from by decide) k9) ?_
    refine gp_n 1 (j' := 5) (lv' := [some (.ref 6), some (.int x), some (.int 16)]) (st' := [.ref 6]) (h' := (shT, pm_u2 (pm_u2 fi 7 (t + 0) (bt x 0)) 6 1 (nI (t + 1)), fl, fr)) rfl ?_
    refine gp_of (fun _ k9 => g_getI (x := nI (t + 1)) rfl (Or.inl rfl) rfl (by decide) (rfl) k9) ?_
    refine gp_n 1 (j' := 7) (lv' := [some (.ref 6), some (.int x), some (.int 16)]) (st' := [.int 200, .int (nI (t + 1))]) (h' := (shT, pm_u2 (pm_u2 fi 7 (t + 0) (bt x 0)) 6 1 (nI (t + 1)), fl, fr)) rfl ?_
    refine gp_of (fun _ k9 => g_icf rfl (show ¬ ((200 : Int32) ≤ (nI (t + 1))) from nI_ge (b := 200) (by omega) (by decide)) k9) ?_
    refine gp_n 1 (j' := 9) (lv' := [some (.ref 6), some (.int x), some (.int 16)]) (st' := [.ref 6]) (h' := (shT, pm_u2 (pm_u2 fi 7 (t + 0) (bt x 0)) 6 1 (nI (t + 1)), fl, fr)) rfl ?_
    refine gp_of (fun _ k9 => g_getR (q' := 7) rfl rfl (by decide) k7 k9) ?_
    refine gp_n 1 (j' := 11) (lv' := [some (.ref 6), some (.int x), some (.int 16)]) (st' := [.ref 6, .ref 7]) (h' := (shT, pm_u2 (pm_u2 fi 7 (t + 0) (bt x 0)) 6 1 (nI (t + 1)), fl, fr)) rfl ?_
    refine gp_of (fun _ k9 => g_getI (x := nI (t + 1)) rfl (Or.inl rfl) rfl (by decide) (rfl) k9) ?_
    refine gp_n 4 (j' := 16) (lv' := [some (.ref 6), some (.int x), some (.int 16)]) (st' := [.int ((x >>> (16 &&& 31)).toInt8.toInt32), .int (nI (t + 1)), .ref 7]) (h' := (shT, pm_u2 (pm_u2 fi 7 (t + 0) (bt x 0)) 6 1 (nI (t + 1)), fl, fr)) rfl ?_
    show GoP pmT none cd_11 _ _ [.int (bt x 1), _, _] _ _
    refine gp_of (fun _ k9 => g_bastn (k := t + 1) rfl rfl (rfl) (by omega) (by decide) (bt_nar _ _) k9) ?_
    refine gp_n 2 (j' := 19) (lv' := [some (.ref 6), some (.int x), some (.int 16)]) (st' := [.ref 6, .ref 6]) (h' := (shT, pm_u2 (pm_u2 (pm_u2 fi 7 (t + 0) (bt x 0)) 6 1 (nI (t + 1))) 7 (t + 1) (bt x 1), fl, fr)) rfl ?_
    refine gp_of (fun _ k9 => g_getI (x := nI (t + 1)) rfl (Or.inl rfl) rfl (by decide) (rfl) k9) ?_
    refine gp_n 2 (j' := 22) (lv' := [some (.ref 6), some (.int x), some (.int 16)]) (st' := [.int ((nI (t + 1)) + 1), .ref 6]) (h' := (shT, pm_u2 (pm_u2 (pm_u2 fi 7 (t + 0) (bt x 0)) 6 1 (nI (t + 1))) 7 (t + 1) (bt x 1), fl, fr)) rfl ?_
    rw [nI_1]
    refine gp_of (fun _ k9 => g_putI rfl (Or.inl rfl) rfl (by decide) k9) ?_
    refine gp_n 3 (j' := 3) (lv' := [some (.ref 6), some (.int x), some (.int 8)]) (st' := [.int 8]) (h' := (shT, pm_u2 (pm_u2 (pm_u2 (pm_u2 fi 7 (t + 0) (bt x 0)) 6 1 (nI (t + 1))) 7 (t + 1) (bt x 1)) 6 1 (nI (t + 2)), fl, fr)) rfl ?_
    refine gp_of (fun _ k9 => g_iff rfl (show ¬ ((8 : Int32) < (0 : Int32)) from by decide) k9) ?_
    refine gp_n 1 (j' := 5) (lv' := [some (.ref 6), some (.int x), some (.int 8)]) (st' := [.ref 6]) (h' := (shT, pm_u2 (pm_u2 (pm_u2 (pm_u2 fi 7 (t + 0) (bt x 0)) 6 1 (nI (t + 1))) 7 (t + 1) (bt x 1)) 6 1 (nI (t + 2)), fl, fr)) rfl ?_
    refine gp_of (fun _ k9 => g_getI (x := nI (t + 2)) rfl (Or.inl rfl) rfl (by decide) (rfl) k9) ?_
    refine gp_n 1 (j' := 7) (lv' := [some (.ref 6), some (.int x), some (.int 8)]) (st' := [.int 200, .int (nI (t + 2))]) (h' := (shT, pm_u2 (pm_u2 (pm_u2 (pm_u2 fi 7 (t + 0) (bt x 0)) 6 1 (nI (t + 1))) 7 (t + 1) (bt x 1)) 6 1 (nI (t + 2)), fl, fr)) rfl ?_
    refine gp_of (fun _ k9 => g_icf rfl (show ¬ ((200 : Int32) ≤ (nI (t + 2))) from nI_ge (b := 200) (by omega) (by decide)) k9) ?_
    refine gp_n 1 (j' := 9) (lv' := [some (.ref 6), some (.int x), some (.int 8)]) (st' := [.ref 6]) (h' := (shT, pm_u2 (pm_u2 (pm_u2 (pm_u2 fi 7 (t + 0) (bt x 0)) 6 1 (nI (t + 1))) 7 (t + 1) (bt x 1)) 6 1 (nI (t + 2)), fl, fr)) rfl ?_
    refine gp_of (fun _ k9 => g_getR (q' := 7) rfl rfl (by decide) k7 k9) ?_
    refine gp_n 1 (j' := 11) (lv' := [some (.ref 6), some (.int x), some (.int 8)]) (st' := [.ref 6, .ref 7]) (h' := (shT, pm_u2 (pm_u2 (pm_u2 (pm_u2 fi 7 (t + 0) (bt x 0)) 6 1 (nI (t + 1))) 7 (t + 1) (bt x 1)) 6 1 (nI (t + 2)), fl, fr)) rfl ?_
    refine gp_of (fun _ k9 => g_getI (x := nI (t + 2)) rfl (Or.inl rfl) rfl (by decide) (rfl) k9) ?_
    refine gp_n 4 (j' := 16) (lv' := [some (.ref 6), some (.int x), some (.int 8)]) (st' := [.int ((x >>> (8 &&& 31)).toInt8.toInt32), .int (nI (t + 2)), .ref 7]) (h' := (shT, pm_u2 (pm_u2 (pm_u2 (pm_u2 fi 7 (t + 0) (bt x 0)) 6 1 (nI (t + 1))) 7 (t + 1) (bt x 1)) 6 1 (nI (t + 2)), fl, fr)) rfl ?_
    show GoP pmT none cd_11 _ _ [.int (bt x 2), _, _] _ _
    refine gp_of (fun _ k9 => g_bastn (k := t + 2) rfl rfl (rfl) (by omega) (by decide) (bt_nar _ _) k9) ?_
    refine gp_n 2 (j' := 19) (lv' := [some (.ref 6), some (.int x), some (.int 8)]) (st' := [.ref 6, .ref 6]) (h' := (shT, pm_u2 (pm_u2 (pm_u2 (pm_u2 (pm_u2 fi 7 (t + 0) (bt x 0)) 6 1 (nI (t + 1))) 7 (t + 1) (bt x 1)) 6 1 (nI (t + 2))) 7 (t + 2) (bt x 2), fl, fr)) rfl ?_
    refine gp_of (fun _ k9 => g_getI (x := nI (t + 2)) rfl (Or.inl rfl) rfl (by decide) (rfl) k9) ?_
    refine gp_n 2 (j' := 22) (lv' := [some (.ref 6), some (.int x), some (.int 8)]) (st' := [.int ((nI (t + 2)) + 1), .ref 6]) (h' := (shT, pm_u2 (pm_u2 (pm_u2 (pm_u2 (pm_u2 fi 7 (t + 0) (bt x 0)) 6 1 (nI (t + 1))) 7 (t + 1) (bt x 1)) 6 1 (nI (t + 2))) 7 (t + 2) (bt x 2), fl, fr)) rfl ?_
    rw [nI_1]
    refine gp_of (fun _ k9 => g_putI rfl (Or.inl rfl) rfl (by decide) k9) ?_
    refine gp_n 3 (j' := 3) (lv' := [some (.ref 6), some (.int x), some (.int 0)]) (st' := [.int 0]) (h' := (shT, pm_u2 (pm_u2 (pm_u2 (pm_u2 (pm_u2 (pm_u2 fi 7 (t + 0) (bt x 0)) 6 1 (nI (t + 1))) 7 (t + 1) (bt x 1)) 6 1 (nI (t + 2))) 7 (t + 2) (bt x 2)) 6 1 (nI (t + 3)), fl, fr)) rfl ?_
    refine gp_of (fun _ k9 => g_iff rfl (show ¬ ((0 : Int32) < (0 : Int32)) from by decide) k9) ?_
    refine gp_n 1 (j' := 5) (lv' := [some (.ref 6), some (.int x), some (.int 0)]) (st' := [.ref 6]) (h' := (shT, pm_u2 (pm_u2 (pm_u2 (pm_u2 (pm_u2 (pm_u2 fi 7 (t + 0) (bt x 0)) 6 1 (nI (t + 1))) 7 (t + 1) (bt x 1)) 6 1 (nI (t + 2))) 7 (t + 2) (bt x 2)) 6 1 (nI (t + 3)), fl, fr)) rfl ?_
    refine gp_of (fun _ k9 => g_getI (x := nI (t + 3)) rfl (Or.inl rfl) rfl (by decide) (rfl) k9) ?_
    refine gp_n 1 (j' := 7) (lv' := [some (.ref 6), some (.int x), some (.int 0)]) (st' := [.int 200, .int (nI (t + 3))]) (h' := (shT, pm_u2 (pm_u2 (pm_u2 (pm_u2 (pm_u2 (pm_u2 fi 7 (t + 0) (bt x 0)) 6 1 (nI (t + 1))) 7 (t + 1) (bt x 1)) 6 1 (nI (t + 2))) 7 (t + 2) (bt x 2)) 6 1 (nI (t + 3)), fl, fr)) rfl ?_
    refine gp_of (fun _ k9 => g_icf rfl (show ¬ ((200 : Int32) ≤ (nI (t + 3))) from nI_ge (b := 200) (by omega) (by decide)) k9) ?_
    refine gp_n 1 (j' := 9) (lv' := [some (.ref 6), some (.int x), some (.int 0)]) (st' := [.ref 6]) (h' := (shT, pm_u2 (pm_u2 (pm_u2 (pm_u2 (pm_u2 (pm_u2 fi 7 (t + 0) (bt x 0)) 6 1 (nI (t + 1))) 7 (t + 1) (bt x 1)) 6 1 (nI (t + 2))) 7 (t + 2) (bt x 2)) 6 1 (nI (t + 3)), fl, fr)) rfl ?_
    refine gp_of (fun _ k9 => g_getR (q' := 7) rfl rfl (by decide) k7 k9) ?_
    refine gp_n 1 (j' := 11) (lv' := [some (.ref 6), some (.int x), some (.int 0)]) (st' := [.ref 6, .ref 7]) (h' := (shT, pm_u2 (pm_u2 (pm_u2 (pm_u2 (pm_u2 (pm_u2 fi 7 (t + 0) (bt x 0)) 6 1 (nI (t + 1))) 7 (t + 1) (bt x 1)) 6 1 (nI (t + 2))) 7 (t + 2) (bt x 2)) 6 1 (nI (t + 3)), fl, fr)) rfl ?_
    refine gp_of (fun _ k9 => g_getI (x := nI (t + 3)) rfl (Or.inl rfl) rfl (by decide) (rfl) k9) ?_
    refine gp_n 4 (j' := 16) (lv' := [some (.ref 6), some (.int x), some (.int 0)]) (st' := [.int ((x >>> (0 &&& 31)).toInt8.toInt32), .int (nI (t + 3)), .ref 7]) (h' := (shT, pm_u2 (pm_u2 (pm_u2 (pm_u2 (pm_u2 (pm_u2 fi 7 (t + 0) (bt x 0)) 6 1 (nI (t + 1))) 7 (t + 1) (bt x 1)) 6 1 (nI (t + 2))) 7 (t + 2) (bt x 2)) 6 1 (nI (t + 3)), fl, fr)) rfl ?_
    show GoP pmT none cd_11 _ _ [.int (bt x 3), _, _] _ _
    refine gp_of (fun _ k9 => g_bastn (k := t + 3) rfl rfl (rfl) (by omega) (by decide) (bt_nar _ _) k9) ?_
    refine gp_n 2 (j' := 19) (lv' := [some (.ref 6), some (.int x), some (.int 0)]) (st' := [.ref 6, .ref 6]) (h' := (shT, pm_u2 (pm_u2 (pm_u2 (pm_u2 (pm_u2 (pm_u2 (pm_u2 fi 7 (t + 0) (bt x 0)) 6 1 (nI (t + 1))) 7 (t + 1) (bt x 1)) 6 1 (nI (t + 2))) 7 (t + 2) (bt x 2)) 6 1 (nI (t + 3))) 7 (t + 3) (bt x 3), fl, fr)) rfl ?_
    refine gp_of (fun _ k9 => g_getI (x := nI (t + 3)) rfl (Or.inl rfl) rfl (by decide) (rfl) k9) ?_
    refine gp_n 2 (j' := 22) (lv' := [some (.ref 6), some (.int x), some (.int 0)]) (st' := [.int ((nI (t + 3)) + 1), .ref 6]) (h' := (shT, pm_u2 (pm_u2 (pm_u2 (pm_u2 (pm_u2 (pm_u2 (pm_u2 fi 7 (t + 0) (bt x 0)) 6 1 (nI (t + 1))) 7 (t + 1) (bt x 1)) 6 1 (nI (t + 2))) 7 (t + 2) (bt x 2)) 6 1 (nI (t + 3))) 7 (t + 3) (bt x 3), fl, fr)) rfl ?_
    rw [nI_1]
    refine gp_of (fun _ k9 => g_putI rfl (Or.inl rfl) rfl (by decide) k9) ?_
    refine gp_n 3 (j' := 3) (lv' := [some (.ref 6), some (.int x), some (.int (-8))]) (st' := [.int (-8)]) (h' := (shT, pm_u2 (pm_u2 (pm_u2 (pm_u2 (pm_u2 (pm_u2 (pm_u2 (pm_u2 fi 7 (t + 0) (bt x 0)) 6 1 (nI (t + 1))) 7 (t + 1) (bt x 1)) 6 1 (nI (t + 2))) 7 (t + 2) (bt x 2)) 6 1 (nI (t + 3))) 7 (t + 3) (bt x 3)) 6 1 (nI (t + 4)), fl, fr)) rfl ?_
    refine gp_of (fun _ k9 => g_ift rfl (show ((-8) : Int32) < (0 : Int32) from by decide) k9) ?_
    refine gp_done (g_vret rfl) ?_
    rfl
  obtain ⟨r, g, hr⟩ := main
  subst hr
  refine ⟨_, Ev.of (es := cd_11) (ml := 3) (lv := [some (.ref 6), some (.int x), none]) rfl rfl rfl g, rfl, u2_i, fun s hs => ?_, fun p s h1 h2 => ?_, fun s hs => ?_, fun _ _ => rfl, fun _ _ => rfl⟩
  · rw [phi_mk]
    have : s = 0 ∨ s = 1 ∨ s = 2 ∨ s = 3 := by omega
    rcases this with rfl | rfl | rfl | rfl <;> simp [pm_u2]
  · have h1 : ¬ (p = 6 ∧ s = 1) := h1
    have h2 : ¬ (p = 7 ∧ t ≤ s ∧ s < t + 4) := h2
    rw [phi_mk, phi_mk]
    rw [u2_ne h1, u2_ne (by omega), u2_ne h1, u2_ne (by omega), u2_ne h1, u2_ne (by omega), u2_ne h1, u2_ne (by omega)]
  · rw [phi_mk, phi_mk]
    show _ = fi 7 s
    rw [u2_ne (by omega), u2_ne (by omega), u2_ne (by omega), u2_ne (by omega), u2_ne (by omega), u2_ne (by omega), u2_ne (by omega), u2_ne (by omega)]
theorem tpx_tr {P Q : Nat × Nat} {t m : Nat} {g g' : Nat → Int32} {h h1 h2 : PmH} (hp : ¬ P.1 = Q.1) (a : tpx P Q t m g h h1) (b : tpx P Q (t + m) 4 g' h1 h2) (hg : ∀ s, s < 4 → g (m + s) = g' s) : tpx P Q t (m + 4) g h h2 := by
  obtain ⟨a0, a1, a2, a3, a4, a5, a6⟩ := a
  obtain ⟨b0, b1, b2, b3, b4, b5, b6⟩ := b
  refine ⟨b0, by rw [b1, Nat.add_assoc], fun s hs => ?_, fun p s h1 h2 => (b3 p s h1 (by omega)).trans (a3 p s h1 (by omega)), fun s hs => (b4 s (by omega)).trans (a4 s hs), fun p s => (b5 p s).trans (a5 p s), fun p s => (b6 p s).trans (a6 p s)⟩
  by_cases h9 : s < m
  · rw [b4 _ (by omega)]
    exact a2 s h9
  · have := b2 (s - m) (by omega)
    rw [← hg _ (by omega), show m + (s - m) = s by omega, show t + m + (s - m) = t + s by omega] at this
    exact this
def fd (a b c d e : Int32) (s : Nat) : Int32 := if s < 4 then bt a s else if s < 8 then bt b (s - 4) else if s < 12 then bt c (s - 8) else if s < 16 then bt d (s - 12) else bt e (s - 16)
def a_feed (g : Nat → Int32) (a : AB) : AB := (a_tl a + 20, (fun s => if a_tl a ≤ s ∧ s < a_tl a + 20 then g (s - a_tl a) else a_tb a s), a_x a, a_v a, a_q a, a_p a, a_m a)
theorem QC_f {L : Bool} {h h' : PmH} {a : AB} {g : Nat → Int32} (hr : QC L h a) (hx : tpx (6, 1) (7, 0) (a_tl a) 20 g h h') : QC L h' (a_feed g a) := by
  obtain ⟨x0, x1, x2, x3, x4, x5, x6⟩ := hx
  obtain ⟨⟨a1, a2, a3⟩, b, c, d, f, gq, ⟨e, q1, q2, q3⟩, i⟩ := hr
  have e1 : ∀ p s, ¬ p = 6 → ¬ p = 7 → ph_i h' p s = ph_i h p s := fun p s h6 h7 => x3 p s (by show ¬ (p = 6 ∧ s = 1); omega) (by show ¬ (p = 7 ∧ _); omega)
  have cd : ∀ o v, ¬ o = 5 → ¬ o = 6 → ¬ o = 7 → csC L h o v → csC L h' o v := fun o v ho h6 h7 hc => csC_fr hc (fun i _ => e1 _ _ (by omega) (by omega)) (x5 _ _) (fun s _ => e1 _ _ (by omega) (by omega))
  refine ⟨⟨fun j hj => (x6 3 j).trans (a1 j hj), fun j hj => (x6 4 j).trans (a2 j hj), fun s hs => (e1 10 s (by omega) (by omega)).trans (a3 s hs)⟩, x1, fun s => ?_, fun hL => (e1 0 13 (by omega) (by omega)).trans (d hL), cd 1 _ (by omega) (by omega) (by omega) f, (e1 0 3 (by omega) (by omega)).trans gq, ⟨e, q1, (e1 0 2 (by omega) (by omega)).trans q2, fun k hk => cd _ _ (by have := pst_in (e := e) (i := k); omega) (by have := pst_in (e := e) (i := k); omega) (by have := pst_in (e := e) (i := k); omega) (q3 k hk)⟩, fun k hk => ?_⟩
  · show ph_i h' 7 s = if a_tl a ≤ s ∧ s < a_tl a + 20 then g (s - a_tl a) else a_tb a s
    by_cases h9 : a_tl a ≤ s ∧ s < a_tl a + 20
    · rw [if_pos h9]
      have := x2 (s - a_tl a) (by omega)
      rw [show a_tl a + (s - a_tl a) = s by omega] at this
      exact this
    · rw [if_neg h9]
      refine (x3 7 s ?_ ?_).trans (c s)
      · show ¬ (7 = 6 ∧ s = 1)
        omega
      · show ¬ (7 = 7 ∧ a_tl a ≤ s ∧ s < a_tl a + 20)
        omega
  · have ik := i k hk
    show match a_m a k with
      | none => _
      | some v => _
    cases hm : a_m a k with
    | none =>
      rw [hm] at ik
      exact (e1 5 k (by omega) (by omega)).trans ik
    | some v =>
      rw [hm] at ik
      exact ⟨(e1 5 k (by omega) (by omega)).trans ik.1, cd _ _ (by omega) (by omega) (by omega) ik.2⟩
theorem QM_f {L : Bool} {h h' : PmH} {a : AB} {g : Nat → Int32} (hr : QM L h a) (hx : tpx (70, 1) (71, 0) (a_tl a) 20 g h h') : QM L h' (a_feed g a) := by
  obtain ⟨x0, x1, x2, x3, x4, x5, x6⟩ := hx
  obtain ⟨a1, b, c, d, f, gq, q, i⟩ := hr
  have e1 : ∀ p s, ¬ (p = 70 ∧ s = 1) → ¬ p = 71 → ph_i h' p s = ph_i h p s := fun p s h6 h7 => x3 p s h6 (by show ¬ (p = 71 ∧ _); omega)
  have ch : ∀ r v, csH L h r v → csH L h' r v := fun r v hc => csH_fr hc (fun j _ => e1 _ _ (by omega) (by omega)) (x5 _ _) (fun s _ => e1 _ _ (by omega) (by omega))
  refine ⟨fun j hj => (e1 _ _ (by omega) (by omega)).trans (a1 j hj), x1, fun s => ?_, fun hL => (e1 _ _ (by omega) (by omega)).trans (d hL), csM_fr f (fun j _ => e1 _ _ (by omega) (by omega)) (x5 _ _) (fun s _ => e1 _ _ (by omega) (by omega)), (e1 _ _ (by omega) (by omega)).trans gq, fun k hk => ch _ _ (q k hk), fun k hk => ?_⟩
  · show ph_i h' 71 s = if a_tl a ≤ s ∧ s < a_tl a + 20 then g (s - a_tl a) else a_tb a s
    by_cases h9 : a_tl a ≤ s ∧ s < a_tl a + 20
    · rw [if_pos h9]
      have := x2 (s - a_tl a) (by omega)
      rw [show a_tl a + (s - a_tl a) = s by omega] at this
      exact this
    · rw [if_neg h9]
      refine (x3 71 s ?_ ?_).trans (c s)
      · show ¬ (71 = 70 ∧ s = 1)
        omega
      · show ¬ (71 = 71 ∧ a_tl a ≤ s ∧ s < a_tl a + 20)
        omega
  · have ik := i k hk
    show match a_m a k with
      | none => _
      | some v => _
    cases hm : a_m a k with
    | none =>
      rw [hm] at ik
      exact (e1 _ _ (by omega) (by omega)).trans ik
    | some v =>
      rw [hm] at ik
      exact ⟨(e1 _ _ (by omega) (by omega)).trans ik.1, ch _ _ ik.2⟩
theorem fed_C0 {L : Bool} {h : PmH} {a : AB} {a1 a2 a3 a4 a5 : Int32} (hI : HI hdT shT h) (hR : QC L h a) (hl : a_tl a ≤ 200) (hP : 180 < a_tl a) : Ev pmT 10 [.ref 0, .int a1, .int a2, .int a3, .int a4, .int a5] h (some (.int (-1))) h := by
  have b := hR.2.1
  have k6 : ph_r h 0 6 = some 6 := hi_r hI rfl rfl (by decide)
  refine Ev.of (es := cd_10) (ml := 6) (lv := [some (.ref 0), some (.int a1), some (.int a2), some (.int a3), some (.int a4), some (.int a5)]) rfl rfl rfl ?_
  obtain ⟨S, fi, fl, fr⟩ := h
  have hS : S = shT := hI.1
  subst hS
  have k6 : fr 0 6 = some 6 := k6
  have b : fi 6 1 = nI (a_tl a) := b
  refine go_of ?_
  refine gp_n 1 (j' := 1) (lv' := [some (.ref 0), some (.int a1), some (.int a2), some (.int a3), some (.int a4), some (.int a5)]) (st' := [.ref 0]) (h' := (shT, fi, fl, fr)) rfl ?_
  refine gp_of (fun _ k9 => g_getR (q' := 6) rfl rfl (by decide) k6 k9) ?_
  refine gp_of (fun _ k9 => g_getI (x := nI (a_tl a)) rfl (Or.inl rfl) rfl (by decide) (b) k9) ?_
  refine gp_n 3 (j' := 6) (lv' := [some (.ref 0), some (.int a1), some (.int a2), some (.int a3), some (.int a4), some (.int a5)]) (st' := [.int 200, .int ((nI (a_tl a)) + 20)]) (h' := (shT, fi, fl, fr)) rfl ?_
  refine gp_of (fun _ k9 => g_icf rfl (show ¬ (((nI (a_tl a)) + 20) ≤ (200 : Int32)) from (by rw [show nI (a_tl a) + 20 = nI (a_tl a + 20) from nI_add _ 20]; exact nI_ge (a := 200) (by omega) (by omega))) k9) ?_
  refine gp_n 1 (j' := 8) (lv' := [some (.ref 0), some (.int a1), some (.int a2), some (.int a3), some (.int a4), some (.int a5)]) (st' := [.int (-1)]) (h' := (shT, fi, fl, fr)) rfl ?_
  refine gp_done (g_ret rfl) ?_
  rfl
theorem fed_C {L : Bool} {h : PmH} {a : AB} {a1 a2 a3 a4 a5 : Int32} (hI : HI hdT shT h) (hR : QC L h a) (hP : a_tl a ≤ 180) : ∃ h', Ev pmT 10 [.ref 0, .int a1, .int a2, .int a3, .int a4, .int a5] h (some (.int (nI (a_tl a + 20)))) h' ∧ QC L h' (a_feed (fd a1 a2 a3 a4 a5) a) ∧ HI hdT shT h' ∧ fram (in_w iN_1) h h' := by
  have b := hR.2.1
  have k6 : ph_r h 0 6 = some 6 := hi_r hI rfl rfl (by decide)
  have k7 : ph_r h 6 0 = some 7 := hi_r hI rfl rfl (by decide)
  obtain ⟨h1, ev1, x1⟩ := app_ev (x := a1) hI.1 k7 b (by omega)
  obtain ⟨h2, ev2, x2⟩ := app_ev (x := a2) x1.1 ((x1.2.2.2.2.2.2 6 0).trans k7) x1.2.1 (by omega)
  obtain ⟨h3, ev3, x3⟩ := app_ev (x := a3) x2.1 ((x2.2.2.2.2.2.2 6 0).trans ((x1.2.2.2.2.2.2 6 0).trans k7)) x2.2.1 (by omega)
  obtain ⟨h4, ev4, x4⟩ := app_ev (x := a4) x3.1 ((x3.2.2.2.2.2.2 6 0).trans ((x2.2.2.2.2.2.2 6 0).trans ((x1.2.2.2.2.2.2 6 0).trans k7))) x3.2.1 (by omega)
  obtain ⟨h5, ev5, x5⟩ := app_ev (x := a5) x4.1 ((x4.2.2.2.2.2.2 6 0).trans ((x3.2.2.2.2.2.2 6 0).trans ((x2.2.2.2.2.2.2 6 0).trans ((x1.2.2.2.2.2.2 6 0).trans k7)))) x4.2.1 (by omega)
  have g1 : tpx (6, 1) (7, 0) (a_tl a) 4 (fd a1 a2 a3 a4 a5) h h1 := ⟨x1.1, x1.2.1, fun s hs => (x1.2.2.1 s hs).trans (if_pos hs).symm, x1.2.2.2⟩
  have g2 := tpx_tr (by decide) g1 x2 (fun s hs => by unfold fd; rw [if_neg (by omega), if_pos (by omega), show 4 + s - 4 = s by omega])
  have g3 := tpx_tr (by decide) g2 x3 (fun s hs => by unfold fd; rw [if_neg (by omega), if_neg (by omega), if_pos (by omega), show 4 + 4 + s - 8 = s by omega])
  have g4 := tpx_tr (by decide) g3 x4 (fun s hs => by unfold fd; rw [if_neg (by omega), if_neg (by omega), if_neg (by omega), if_pos (by omega), show 4 + 4 + 4 + s - 12 = s by omega])
  have g5 := tpx_tr (by decide) g4 x5 (fun s hs => by unfold fd; rw [if_neg (by omega), if_neg (by omega), if_neg (by omega), if_neg (by omega), show 4 + 4 + 4 + 4 + s - 16 = s by omega])
  have l1 : ph_r h1 0 6 = some 6 := (x1.2.2.2.2.2.2 0 6).trans k6
  have l2 : ph_r h2 0 6 = some 6 := (x2.2.2.2.2.2.2 0 6).trans l1
  have l3 : ph_r h3 0 6 = some 6 := (x3.2.2.2.2.2.2 0 6).trans l2
  have l4 : ph_r h4 0 6 = some 6 := (x4.2.2.2.2.2.2 0 6).trans l3
  have l5 : ph_r h5 0 6 = some 6 := (x5.2.2.2.2.2.2 0 6).trans l4
  have z5 : ph_i h5 6 1 = nI (a_tl a + 20) := g5.2.1
  have ev : Ev pmT 10 [.ref 0, .int a1, .int a2, .int a3, .int a4, .int a5] h (some (.int (nI (a_tl a + 20)))) h5 := by
    refine Ev.of (es := cd_10) (ml := 6) (lv := [some (.ref 0), some (.int a1), some (.int a2), some (.int a3), some (.int a4), some (.int a5)]) rfl rfl rfl ?_
    obtain ⟨S1, fi1, fl1, fr1⟩ := h1
    have s1 : S1 = shT := x1.1
    subst s1
    have l1 : fr1 0 6 = some 6 := l1
    obtain ⟨S2, fi2, fl2, fr2⟩ := h2
    have s2 : S2 = shT := x2.1
    subst s2
    have l2 : fr2 0 6 = some 6 := l2
    obtain ⟨S3, fi3, fl3, fr3⟩ := h3
    have s3 : S3 = shT := x3.1
    subst s3
    have l3 : fr3 0 6 = some 6 := l3
    obtain ⟨S4, fi4, fl4, fr4⟩ := h4
    have s4 : S4 = shT := x4.1
    subst s4
    have l4 : fr4 0 6 = some 6 := l4
    obtain ⟨S5, fi5, fl5, fr5⟩ := h5
    have s5 : S5 = shT := x5.1
    subst s5
    have l5 : fr5 0 6 = some 6 := l5
    have z5 : fi5 6 1 = nI (a_tl a + 20) := z5
    obtain ⟨S, fi, fl, fr⟩ := h
    have hS : S = shT := hI.1
    subst hS
    have k6 : fr 0 6 = some 6 := k6
    have b : fi 6 1 = nI (a_tl a) := b
    refine go_of ?_
    refine gp_n 1 (j' := 1) (lv' := [some (.ref 0), some (.int a1), some (.int a2), some (.int a3), some (.int a4), some (.int a5)]) (st' := [.ref 0]) (h' := (shT, fi, fl, fr)) rfl ?_
    refine gp_of (fun _ k9 => g_getR (q' := 6) rfl rfl (by decide) k6 k9) ?_
    refine gp_of (fun _ k9 => g_getI (x := nI (a_tl a)) rfl (Or.inl rfl) rfl (by decide) (b) k9) ?_
    refine gp_n 3 (j' := 6) (lv' := [some (.ref 0), some (.int a1), some (.int a2), some (.int a3), some (.int a4), some (.int a5)]) (st' := [.int 200, .int ((nI (a_tl a)) + 20)]) (h' := (shT, fi, fl, fr)) rfl ?_
    refine gp_of (fun _ k9 => g_ict rfl (show ((nI (a_tl a)) + 20) ≤ (200 : Int32) from (by rw [show nI (a_tl a) + 20 = nI (a_tl a + 20) from nI_add _ 20]; exact nI_le (b := 200) (by omega) (by decide))) k9) ?_
    refine gp_n 1 (j' := 10) (lv' := [some (.ref 0), some (.int a1), some (.int a2), some (.int a3), some (.int a4), some (.int a5)]) (st' := [.ref 0]) (h' := (shT, fi, fl, fr)) rfl ?_
    refine gp_of (fun _ k9 => g_getR (q' := 6) rfl rfl (by decide) k6 k9) ?_
    refine gp_n 1 (j' := 12) (lv' := [some (.ref 0), some (.int a1), some (.int a2), some (.int a3), some (.int a4), some (.int a5)]) (st' := [.int a1, .ref 6]) (h' := (shT, fi, fl, fr)) rfl ?_
    refine gp_of (fun _ k9 => g_callv (y := 11) (as := [.ref 6, .int a1]) (st' := []) rfl rfl (ev1) k9) ?_
    refine gp_n 1 (j' := 14) (lv' := [some (.ref 0), some (.int a1), some (.int a2), some (.int a3), some (.int a4), some (.int a5)]) (st' := [.ref 0]) (h' := (shT, fi1, fl1, fr1)) rfl ?_
    refine gp_of (fun _ k9 => g_getR (q' := 6) rfl rfl (by decide) l1 k9) ?_
    refine gp_n 1 (j' := 16) (lv' := [some (.ref 0), some (.int a1), some (.int a2), some (.int a3), some (.int a4), some (.int a5)]) (st' := [.int a2, .ref 6]) (h' := (shT, fi1, fl1, fr1)) rfl ?_
    refine gp_of (fun _ k9 => g_callv (y := 11) (as := [.ref 6, .int a2]) (st' := []) rfl rfl (ev2) k9) ?_
    refine gp_n 1 (j' := 18) (lv' := [some (.ref 0), some (.int a1), some (.int a2), some (.int a3), some (.int a4), some (.int a5)]) (st' := [.ref 0]) (h' := (shT, fi2, fl2, fr2)) rfl ?_
    refine gp_of (fun _ k9 => g_getR (q' := 6) rfl rfl (by decide) l2 k9) ?_
    refine gp_n 1 (j' := 20) (lv' := [some (.ref 0), some (.int a1), some (.int a2), some (.int a3), some (.int a4), some (.int a5)]) (st' := [.int a3, .ref 6]) (h' := (shT, fi2, fl2, fr2)) rfl ?_
    refine gp_of (fun _ k9 => g_callv (y := 11) (as := [.ref 6, .int a3]) (st' := []) rfl rfl (ev3) k9) ?_
    refine gp_n 1 (j' := 22) (lv' := [some (.ref 0), some (.int a1), some (.int a2), some (.int a3), some (.int a4), some (.int a5)]) (st' := [.ref 0]) (h' := (shT, fi3, fl3, fr3)) rfl ?_
    refine gp_of (fun _ k9 => g_getR (q' := 6) rfl rfl (by decide) l3 k9) ?_
    refine gp_n 1 (j' := 24) (lv' := [some (.ref 0), some (.int a1), some (.int a2), some (.int a3), some (.int a4), some (.int a5)]) (st' := [.int a4, .ref 6]) (h' := (shT, fi3, fl3, fr3)) rfl ?_
    refine gp_of (fun _ k9 => g_callv (y := 11) (as := [.ref 6, .int a4]) (st' := []) rfl rfl (ev4) k9) ?_
    refine gp_n 1 (j' := 26) (lv' := [some (.ref 0), some (.int a1), some (.int a2), some (.int a3), some (.int a4), some (.int a5)]) (st' := [.ref 0]) (h' := (shT, fi4, fl4, fr4)) rfl ?_
    refine gp_of (fun _ k9 => g_getR (q' := 6) rfl rfl (by decide) l4 k9) ?_
    refine gp_n 1 (j' := 28) (lv' := [some (.ref 0), some (.int a1), some (.int a2), some (.int a3), some (.int a4), some (.int a5)]) (st' := [.int a5, .ref 6]) (h' := (shT, fi4, fl4, fr4)) rfl ?_
    refine gp_of (fun _ k9 => g_callv (y := 11) (as := [.ref 6, .int a5]) (st' := []) rfl rfl (ev5) k9) ?_
    refine gp_n 1 (j' := 30) (lv' := [some (.ref 0), some (.int a1), some (.int a2), some (.int a3), some (.int a4), some (.int a5)]) (st' := [.ref 0]) (h' := (shT, fi5, fl5, fr5)) rfl ?_
    refine gp_of (fun _ k9 => g_getR (q' := 6) rfl rfl (by decide) l5 k9) ?_
    refine gp_of (fun _ k9 => g_getI (x := nI (a_tl a + 20)) rfl (Or.inl rfl) rfl (by decide) (z5) k9) ?_
    refine gp_done (g_ret rfl) ?_
    rfl
  obtain ⟨J1, J2⟩ := iv_s vN_1 (as := [.ref 0, .int a1, .int a2, .int a3, .int a4, .int a5]) rfl (fun _ _ => gz_c (gz_r (by decide)) (gz_c (gz_a _) (gz_c (gz_a _) (gz_c (gz_a _) (gz_c (gz_a _) (gz_c (gz_a _) gz_n)))))) hI ev
  exact ⟨h5, ev, QC_f hR g5, J1, J2⟩
theorem fed_M0 {L : Bool} {h : PmH} {a : AB} {a1 a2 a3 a4 a5 : Int32} (hI : HI hdT shT h) (hR : QM L h a) (hl : a_tl a ≤ 200) (hP : 180 < a_tl a) : Ev pmT 146 [.ref 70, .int a1, .int a2, .int a3, .int a4, .int a5] h (some (.int (-1))) h := by
  have b := hR.2.1
  refine Ev.of (es := cd_146) (ml := 8) (lv := [some (.ref 70), some (.int a1), some (.int a2), some (.int a3), some (.int a4), some (.int a5), none, none]) rfl rfl rfl ?_
  obtain ⟨S, fi, fl, fr⟩ := h
  have hS : S = shT := hI.1
  subst hS
  have b : fi 70 1 = nI (a_tl a) := b
  refine go_of ?_
  refine gp_n 1 (j' := 1) (lv' := [some (.ref 70), some (.int a1), some (.int a2), some (.int a3), some (.int a4), some (.int a5), none, none]) (st' := [.ref 70]) (h' := (shT, fi, fl, fr)) rfl ?_
  refine gp_of (fun _ k9 => g_getI (x := nI (a_tl a)) rfl (Or.inl rfl) rfl (by decide) (b) k9) ?_
  refine gp_n 1 (j' := 3) (lv' := [some (.ref 70), some (.int a1), some (.int a2), some (.int a3), some (.int a4), some (.int a5), none, none]) (st' := [.int 180, .int (nI (a_tl a))]) (h' := (shT, fi, fl, fr)) rfl ?_
  refine gp_of (fun _ k9 => g_icf rfl (show ¬ ((nI (a_tl a)) ≤ (180 : Int32)) from nI_ge (a := 180) (by omega) (by omega)) k9) ?_
  refine gp_n 1 (j' := 5) (lv' := [some (.ref 70), some (.int a1), some (.int a2), some (.int a3), some (.int a4), some (.int a5), none, none]) (st' := [.int (-1)]) (h' := (shT, fi, fl, fr)) rfl ?_
  refine gp_done (g_ret rfl) ?_
  rfl
theorem fdM_go {t : Nat} {a1 a2 a3 a4 a5 : Int32} {fi : Nat → Nat → Int32} {fl : Nat → Nat → Int64} {fr : Nat → Nat → Option Nat} (k0 : fr 70 0 = some 71) (b : fi 70 1 = nI t) (ht : t ≤ 180) : GoP pmT none cd_146 0 [some (.ref 70), some (.int a1), some (.int a2), some (.int a3), some (.int a4), some (.int a5), none, none] [] (shT, fi, fl, fr) (fun r => r = (some (.int (nI (t + 20))), (shT, pm_u2 (pm_u2 (pm_u2 (pm_u2 (pm_u2 (pm_u2 (pm_u2 (pm_u2 (pm_u2 (pm_u2 (pm_u2 (pm_u2 (pm_u2 (pm_u2 (pm_u2 (pm_u2 (pm_u2 (pm_u2 (pm_u2 (pm_u2 (pm_u2 fi 71 (t + 0) (bt a1 0)) 71 (t + 1) (bt a1 1)) 71 (t + 2) (bt a1 2)) 71 (t + 3) (bt a1 3)) 71 (t + 4) (bt a2 0)) 71 (t + 5) (bt a2 1)) 71 (t + 6) (bt a2 2)) 71 (t + 7) (bt a2 3)) 71 (t + 8) (bt a3 0)) 71 (t + 9) (bt a3 1)) 71 (t + 10) (bt a3 2)) 71 (t + 11) (bt a3 3)) 71 (t + 12) (bt a4 0)) 71 (t + 13) (bt a4 1)) 71 (t + 14) (bt a4 2)) 71 (t + 15) (bt a4 3)) 71 (t + 16) (bt a5 0)) 71 (t + 17) (bt a5 1)) 71 (t + 18) (bt a5 2)) 71 (t + 19) (bt a5 3)) 70 1 (nI (t + 20)), fl, fr))) := by
  refine gp_n 1 (j' := 1) (lv' := [some (.ref 70), some (.int a1), some (.int a2), some (.int a3), some (.int a4), some (.int a5), none, none]) (st' := [.ref 70]) (h' := (shT, fi, fl, fr)) rfl ?_
  refine gp_of (fun _ k9 => g_getI (x := nI t) rfl (Or.inl rfl) rfl (by decide) (b) k9) ?_
  refine gp_n 1 (j' := 3) (lv' := [some (.ref 70), some (.int a1), some (.int a2), some (.int a3), some (.int a4), some (.int a5), none, none]) (st' := [.int 180, .int (nI t)]) (h' := (shT, fi, fl, fr)) rfl ?_
  refine gp_of (fun _ k9 => g_ict rfl (show (nI t) ≤ (180 : Int32) from nI_le (b := 180) ht (by decide)) k9) ?_
  refine gp_n 4 (j' := 10) (lv' := [some (.ref 70), some (.int a1), some (.int a2), some (.int a3), some (.int a4), some (.int a5), some (.int 0), none]) (st' := [.int 20, .int 0]) (h' := (shT, fi, fl, fr)) rfl ?_
  refine gp_of (fun _ k9 => g_icf rfl (show ¬ ((20 : Int32) ≤ (0 : Int32)) from by decide) k9) ?_
  refine gp_n 2 (j' := 13) (lv' := [some (.ref 70), some (.int a1), some (.int a2), some (.int a3), some (.int a4), some (.int a5), some (.int 0), none]) (st' := [.int 4, .int 0]) (h' := (shT, fi, fl, fr)) rfl ?_
  refine gp_of (fun _ k9 => g_icf rfl (show ¬ ((4 : Int32) ≤ (0 : Int32)) from by decide) k9) ?_
  refine gp_n 4 (j' := 34) (lv' := [some (.ref 70), some (.int a1), some (.int a2), some (.int a3), some (.int a4), some (.int a5), some (.int 0), some (.int a1)]) (st' := [.ref 70]) (h' := (shT, fi, fl, fr)) rfl ?_
  refine gp_of (fun _ k9 => g_getR (q' := 71) rfl rfl (by decide) k0 k9) ?_
  refine gp_n 1 (j' := 36) (lv' := [some (.ref 70), some (.int a1), some (.int a2), some (.int a3), some (.int a4), some (.int a5), some (.int 0), some (.int a1)]) (st' := [.ref 70, .ref 71]) (h' := (shT, fi, fl, fr)) rfl ?_
  refine gp_of (fun _ k9 => g_getI (x := nI t) rfl (Or.inl rfl) rfl (by decide) (b) k9) ?_
  refine gp_n 12 (j' := 49) (lv' := [some (.ref 70), some (.int a1), some (.int a2), some (.int a3), some (.int a4), some (.int a5), some (.int 0), some (.int a1)]) (st' := [.int ((a1 >>> (24 &&& 31)).toInt8.toInt32), .int ((nI t) + 0), .ref 71]) (h' := (shT, fi, fl, fr)) rfl ?_
  show GoP pmT none cd_146 _ _ [.int (bt a1 0), _, _] _ _
  refine gp_of (fun _ k9 => g_bastn (k := t + 0) rfl rfl (nadd t 0) (by omega) (by decide) (bt_nar _ _) k9) ?_
  refine gp_n 4 (j' := 10) (lv' := [some (.ref 70), some (.int a1), some (.int a2), some (.int a3), some (.int a4), some (.int a5), some (.int 1), some (.int a1)]) (st' := [.int 20, .int 1]) (h' := (shT, pm_u2 fi 71 (t + 0) (bt a1 0), fl, fr)) rfl ?_
  refine gp_of (fun _ k9 => g_icf rfl (show ¬ ((20 : Int32) ≤ (1 : Int32)) from by decide) k9) ?_
  refine gp_n 2 (j' := 13) (lv' := [some (.ref 70), some (.int a1), some (.int a2), some (.int a3), some (.int a4), some (.int a5), some (.int 1), some (.int a1)]) (st' := [.int 4, .int 1]) (h' := (shT, pm_u2 fi 71 (t + 0) (bt a1 0), fl, fr)) rfl ?_
  refine gp_of (fun _ k9 => g_icf rfl (show ¬ ((4 : Int32) ≤ (1 : Int32)) from by decide) k9) ?_
  refine gp_n 4 (j' := 34) (lv' := [some (.ref 70), some (.int a1), some (.int a2), some (.int a3), some (.int a4), some (.int a5), some (.int 1), some (.int a1)]) (st' := [.ref 70]) (h' := (shT, pm_u2 fi 71 (t + 0) (bt a1 0), fl, fr)) rfl ?_
  refine gp_of (fun _ k9 => g_getR (q' := 71) rfl rfl (by decide) k0 k9) ?_
  refine gp_n 1 (j' := 36) (lv' := [some (.ref 70), some (.int a1), some (.int a2), some (.int a3), some (.int a4), some (.int a5), some (.int 1), some (.int a1)]) (st' := [.ref 70, .ref 71]) (h' := (shT, pm_u2 fi 71 (t + 0) (bt a1 0), fl, fr)) rfl ?_
  refine gp_of (fun _ k9 => g_getI (x := nI t) rfl (Or.inl rfl) rfl (by decide) (b) k9) ?_
  refine gp_n 12 (j' := 49) (lv' := [some (.ref 70), some (.int a1), some (.int a2), some (.int a3), some (.int a4), some (.int a5), some (.int 1), some (.int a1)]) (st' := [.int ((a1 >>> (16 &&& 31)).toInt8.toInt32), .int ((nI t) + 1), .ref 71]) (h' := (shT, pm_u2 fi 71 (t + 0) (bt a1 0), fl, fr)) rfl ?_
  show GoP pmT none cd_146 _ _ [.int (bt a1 1), _, _] _ _
  refine gp_of (fun _ k9 => g_bastn (k := t + 1) rfl rfl (nadd t 1) (by omega) (by decide) (bt_nar _ _) k9) ?_
  refine gp_n 4 (j' := 10) (lv' := [some (.ref 70), some (.int a1), some (.int a2), some (.int a3), some (.int a4), some (.int a5), some (.int 2), some (.int a1)]) (st' := [.int 20, .int 2]) (h' := (shT, pm_u2 (pm_u2 fi 71 (t + 0) (bt a1 0)) 71 (t + 1) (bt a1 1), fl, fr)) rfl ?_
  refine gp_of (fun _ k9 => g_icf rfl (show ¬ ((20 : Int32) ≤ (2 : Int32)) from by decide) k9) ?_
  refine gp_n 2 (j' := 13) (lv' := [some (.ref 70), some (.int a1), some (.int a2), some (.int a3), some (.int a4), some (.int a5), some (.int 2), some (.int a1)]) (st' := [.int 4, .int 2]) (h' := (shT, pm_u2 (pm_u2 fi 71 (t + 0) (bt a1 0)) 71 (t + 1) (bt a1 1), fl, fr)) rfl ?_
  refine gp_of (fun _ k9 => g_icf rfl (show ¬ ((4 : Int32) ≤ (2 : Int32)) from by decide) k9) ?_
  refine gp_n 4 (j' := 34) (lv' := [some (.ref 70), some (.int a1), some (.int a2), some (.int a3), some (.int a4), some (.int a5), some (.int 2), some (.int a1)]) (st' := [.ref 70]) (h' := (shT, pm_u2 (pm_u2 fi 71 (t + 0) (bt a1 0)) 71 (t + 1) (bt a1 1), fl, fr)) rfl ?_
  refine gp_of (fun _ k9 => g_getR (q' := 71) rfl rfl (by decide) k0 k9) ?_
  refine gp_n 1 (j' := 36) (lv' := [some (.ref 70), some (.int a1), some (.int a2), some (.int a3), some (.int a4), some (.int a5), some (.int 2), some (.int a1)]) (st' := [.ref 70, .ref 71]) (h' := (shT, pm_u2 (pm_u2 fi 71 (t + 0) (bt a1 0)) 71 (t + 1) (bt a1 1), fl, fr)) rfl ?_
  refine gp_of (fun _ k9 => g_getI (x := nI t) rfl (Or.inl rfl) rfl (by decide) (b) k9) ?_
  refine gp_n 12 (j' := 49) (lv' := [some (.ref 70), some (.int a1), some (.int a2), some (.int a3), some (.int a4), some (.int a5), some (.int 2), some (.int a1)]) (st' := [.int ((a1 >>> (8 &&& 31)).toInt8.toInt32), .int ((nI t) + 2), .ref 71]) (h' := (shT, pm_u2 (pm_u2 fi 71 (t + 0) (bt a1 0)) 71 (t + 1) (bt a1 1), fl, fr)) rfl ?_
  show GoP pmT none cd_146 _ _ [.int (bt a1 2), _, _] _ _
  refine gp_of (fun _ k9 => g_bastn (k := t + 2) rfl rfl (nadd t 2) (by omega) (by decide) (bt_nar _ _) k9) ?_
  refine gp_n 4 (j' := 10) (lv' := [some (.ref 70), some (.int a1), some (.int a2), some (.int a3), some (.int a4), some (.int a5), some (.int 3), some (.int a1)]) (st' := [.int 20, .int 3]) (h' := (shT, pm_u2 (pm_u2 (pm_u2 fi 71 (t + 0) (bt a1 0)) 71 (t + 1) (bt a1 1)) 71 (t + 2) (bt a1 2), fl, fr)) rfl ?_
  refine gp_of (fun _ k9 => g_icf rfl (show ¬ ((20 : Int32) ≤ (3 : Int32)) from by decide) k9) ?_
  refine gp_n 2 (j' := 13) (lv' := [some (.ref 70), some (.int a1), some (.int a2), some (.int a3), some (.int a4), some (.int a5), some (.int 3), some (.int a1)]) (st' := [.int 4, .int 3]) (h' := (shT, pm_u2 (pm_u2 (pm_u2 fi 71 (t + 0) (bt a1 0)) 71 (t + 1) (bt a1 1)) 71 (t + 2) (bt a1 2), fl, fr)) rfl ?_
  refine gp_of (fun _ k9 => g_icf rfl (show ¬ ((4 : Int32) ≤ (3 : Int32)) from by decide) k9) ?_
  refine gp_n 4 (j' := 34) (lv' := [some (.ref 70), some (.int a1), some (.int a2), some (.int a3), some (.int a4), some (.int a5), some (.int 3), some (.int a1)]) (st' := [.ref 70]) (h' := (shT, pm_u2 (pm_u2 (pm_u2 fi 71 (t + 0) (bt a1 0)) 71 (t + 1) (bt a1 1)) 71 (t + 2) (bt a1 2), fl, fr)) rfl ?_
  refine gp_of (fun _ k9 => g_getR (q' := 71) rfl rfl (by decide) k0 k9) ?_
  refine gp_n 1 (j' := 36) (lv' := [some (.ref 70), some (.int a1), some (.int a2), some (.int a3), some (.int a4), some (.int a5), some (.int 3), some (.int a1)]) (st' := [.ref 70, .ref 71]) (h' := (shT, pm_u2 (pm_u2 (pm_u2 fi 71 (t + 0) (bt a1 0)) 71 (t + 1) (bt a1 1)) 71 (t + 2) (bt a1 2), fl, fr)) rfl ?_
  refine gp_of (fun _ k9 => g_getI (x := nI t) rfl (Or.inl rfl) rfl (by decide) (b) k9) ?_
  refine gp_n 12 (j' := 49) (lv' := [some (.ref 70), some (.int a1), some (.int a2), some (.int a3), some (.int a4), some (.int a5), some (.int 3), some (.int a1)]) (st' := [.int ((a1 >>> (0 &&& 31)).toInt8.toInt32), .int ((nI t) + 3), .ref 71]) (h' := (shT, pm_u2 (pm_u2 (pm_u2 fi 71 (t + 0) (bt a1 0)) 71 (t + 1) (bt a1 1)) 71 (t + 2) (bt a1 2), fl, fr)) rfl ?_
  show GoP pmT none cd_146 _ _ [.int (bt a1 3), _, _] _ _
  refine gp_of (fun _ k9 => g_bastn (k := t + 3) rfl rfl (nadd t 3) (by omega) (by decide) (bt_nar _ _) k9) ?_
  refine gp_n 4 (j' := 10) (lv' := [some (.ref 70), some (.int a1), some (.int a2), some (.int a3), some (.int a4), some (.int a5), some (.int 4), some (.int a1)]) (st' := [.int 20, .int 4]) (h' := (shT, pm_u2 (pm_u2 (pm_u2 (pm_u2 fi 71 (t + 0) (bt a1 0)) 71 (t + 1) (bt a1 1)) 71 (t + 2) (bt a1 2)) 71 (t + 3) (bt a1 3), fl, fr)) rfl ?_
  refine gp_of (fun _ k9 => g_icf rfl (show ¬ ((20 : Int32) ≤ (4 : Int32)) from by decide) k9) ?_
  refine gp_n 2 (j' := 13) (lv' := [some (.ref 70), some (.int a1), some (.int a2), some (.int a3), some (.int a4), some (.int a5), some (.int 4), some (.int a1)]) (st' := [.int 4, .int 4]) (h' := (shT, pm_u2 (pm_u2 (pm_u2 (pm_u2 fi 71 (t + 0) (bt a1 0)) 71 (t + 1) (bt a1 1)) 71 (t + 2) (bt a1 2)) 71 (t + 3) (bt a1 3), fl, fr)) rfl ?_
  refine gp_of (fun _ k9 => g_ict rfl (show (4 : Int32) ≤ (4 : Int32) from by decide) k9) ?_
  refine gp_n 2 (j' := 18) (lv' := [some (.ref 70), some (.int a1), some (.int a2), some (.int a3), some (.int a4), some (.int a5), some (.int 4), some (.int a1)]) (st' := [.int 8, .int 4]) (h' := (shT, pm_u2 (pm_u2 (pm_u2 (pm_u2 fi 71 (t + 0) (bt a1 0)) 71 (t + 1) (bt a1 1)) 71 (t + 2) (bt a1 2)) 71 (t + 3) (bt a1 3), fl, fr)) rfl ?_
  refine gp_of (fun _ k9 => g_icf rfl (show ¬ ((8 : Int32) ≤ (4 : Int32)) from by decide) k9) ?_
  refine gp_n 4 (j' := 34) (lv' := [some (.ref 70), some (.int a1), some (.int a2), some (.int a3), some (.int a4), some (.int a5), some (.int 4), some (.int a2)]) (st' := [.ref 70]) (h' := (shT, pm_u2 (pm_u2 (pm_u2 (pm_u2 fi 71 (t + 0) (bt a1 0)) 71 (t + 1) (bt a1 1)) 71 (t + 2) (bt a1 2)) 71 (t + 3) (bt a1 3), fl, fr)) rfl ?_
  refine gp_of (fun _ k9 => g_getR (q' := 71) rfl rfl (by decide) k0 k9) ?_
  refine gp_n 1 (j' := 36) (lv' := [some (.ref 70), some (.int a1), some (.int a2), some (.int a3), some (.int a4), some (.int a5), some (.int 4), some (.int a2)]) (st' := [.ref 70, .ref 71]) (h' := (shT, pm_u2 (pm_u2 (pm_u2 (pm_u2 fi 71 (t + 0) (bt a1 0)) 71 (t + 1) (bt a1 1)) 71 (t + 2) (bt a1 2)) 71 (t + 3) (bt a1 3), fl, fr)) rfl ?_
  refine gp_of (fun _ k9 => g_getI (x := nI t) rfl (Or.inl rfl) rfl (by decide) (b) k9) ?_
  refine gp_n 12 (j' := 49) (lv' := [some (.ref 70), some (.int a1), some (.int a2), some (.int a3), some (.int a4), some (.int a5), some (.int 4), some (.int a2)]) (st' := [.int ((a2 >>> (24 &&& 31)).toInt8.toInt32), .int ((nI t) + 4), .ref 71]) (h' := (shT, pm_u2 (pm_u2 (pm_u2 (pm_u2 fi 71 (t + 0) (bt a1 0)) 71 (t + 1) (bt a1 1)) 71 (t + 2) (bt a1 2)) 71 (t + 3) (bt a1 3), fl, fr)) rfl ?_
  show GoP pmT none cd_146 _ _ [.int (bt a2 0), _, _] _ _
  refine gp_of (fun _ k9 => g_bastn (k := t + 4) rfl rfl (nadd t 4) (by omega) (by decide) (bt_nar _ _) k9) ?_
  refine gp_n 4 (j' := 10) (lv' := [some (.ref 70), some (.int a1), some (.int a2), some (.int a3), some (.int a4), some (.int a5), some (.int 5), some (.int a2)]) (st' := [.int 20, .int 5]) (h' := (shT, pm_u2 (pm_u2 (pm_u2 (pm_u2 (pm_u2 fi 71 (t + 0) (bt a1 0)) 71 (t + 1) (bt a1 1)) 71 (t + 2) (bt a1 2)) 71 (t + 3) (bt a1 3)) 71 (t + 4) (bt a2 0), fl, fr)) rfl ?_
  refine gp_of (fun _ k9 => g_icf rfl (show ¬ ((20 : Int32) ≤ (5 : Int32)) from by decide) k9) ?_
  refine gp_n 2 (j' := 13) (lv' := [some (.ref 70), some (.int a1), some (.int a2), some (.int a3), some (.int a4), some (.int a5), some (.int 5), some (.int a2)]) (st' := [.int 4, .int 5]) (h' := (shT, pm_u2 (pm_u2 (pm_u2 (pm_u2 (pm_u2 fi 71 (t + 0) (bt a1 0)) 71 (t + 1) (bt a1 1)) 71 (t + 2) (bt a1 2)) 71 (t + 3) (bt a1 3)) 71 (t + 4) (bt a2 0), fl, fr)) rfl ?_
  refine gp_of (fun _ k9 => g_ict rfl (show (4 : Int32) ≤ (5 : Int32) from by decide) k9) ?_
  refine gp_n 2 (j' := 18) (lv' := [some (.ref 70), some (.int a1), some (.int a2), some (.int a3), some (.int a4), some (.int a5), some (.int 5), some (.int a2)]) (st' := [.int 8, .int 5]) (h' := (shT, pm_u2 (pm_u2 (pm_u2 (pm_u2 (pm_u2 fi 71 (t + 0) (bt a1 0)) 71 (t + 1) (bt a1 1)) 71 (t + 2) (bt a1 2)) 71 (t + 3) (bt a1 3)) 71 (t + 4) (bt a2 0), fl, fr)) rfl ?_
  refine gp_of (fun _ k9 => g_icf rfl (show ¬ ((8 : Int32) ≤ (5 : Int32)) from by decide) k9) ?_
  refine gp_n 4 (j' := 34) (lv' := [some (.ref 70), some (.int a1), some (.int a2), some (.int a3), some (.int a4), some (.int a5), some (.int 5), some (.int a2)]) (st' := [.ref 70]) (h' := (shT, pm_u2 (pm_u2 (pm_u2 (pm_u2 (pm_u2 fi 71 (t + 0) (bt a1 0)) 71 (t + 1) (bt a1 1)) 71 (t + 2) (bt a1 2)) 71 (t + 3) (bt a1 3)) 71 (t + 4) (bt a2 0), fl, fr)) rfl ?_
  refine gp_of (fun _ k9 => g_getR (q' := 71) rfl rfl (by decide) k0 k9) ?_
  refine gp_n 1 (j' := 36) (lv' := [some (.ref 70), some (.int a1), some (.int a2), some (.int a3), some (.int a4), some (.int a5), some (.int 5), some (.int a2)]) (st' := [.ref 70, .ref 71]) (h' := (shT, pm_u2 (pm_u2 (pm_u2 (pm_u2 (pm_u2 fi 71 (t + 0) (bt a1 0)) 71 (t + 1) (bt a1 1)) 71 (t + 2) (bt a1 2)) 71 (t + 3) (bt a1 3)) 71 (t + 4) (bt a2 0), fl, fr)) rfl ?_
  refine gp_of (fun _ k9 => g_getI (x := nI t) rfl (Or.inl rfl) rfl (by decide) (b) k9) ?_
  refine gp_n 12 (j' := 49) (lv' := [some (.ref 70), some (.int a1), some (.int a2), some (.int a3), some (.int a4), some (.int a5), some (.int 5), some (.int a2)]) (st' := [.int ((a2 >>> (16 &&& 31)).toInt8.toInt32), .int ((nI t) + 5), .ref 71]) (h' := (shT, pm_u2 (pm_u2 (pm_u2 (pm_u2 (pm_u2 fi 71 (t + 0) (bt a1 0)) 71 (t + 1) (bt a1 1)) 71 (t + 2) (bt a1 2)) 71 (t + 3) (bt a1 3)) 71 (t + 4) (bt a2 0), fl, fr)) rfl ?_
  show GoP pmT none cd_146 _ _ [.int (bt a2 1), _, _] _ _
  refine gp_of (fun _ k9 => g_bastn (k := t + 5) rfl rfl (nadd t 5) (by omega) (by decide) (bt_nar _ _) k9) ?_
  refine gp_n 4 (j' := 10) (lv' := [some (.ref 70), some (.int a1), some (.int a2), some (.int a3), some (.int a4), some (.int a5), some (.int 6), some (.int a2)]) (st' := [.int 20, .int 6]) (h' := (shT, pm_u2 (pm_u2 (pm_u2 (pm_u2 (pm_u2 (pm_u2 fi 71 (t + 0) (bt a1 0)) 71 (t + 1) (bt a1 1)) 71 (t + 2) (bt a1 2)) 71 (t + 3) (bt a1 3)) 71 (t + 4) (bt a2 0)) 71 (t + 5) (bt a2 1), fl, fr)) rfl ?_
  refine gp_of (fun _ k9 => g_icf rfl (show ¬ ((20 : Int32) ≤ (6 : Int32)) from by decide) k9) ?_
  refine gp_n 2 (j' := 13) (lv' := [some (.ref 70), some (.int a1), some (.int a2), some (.int a3), some (.int a4), some (.int a5), some (.int 6), some (.int a2)]) (st' := [.int 4, .int 6]) (h' := (shT, pm_u2 (pm_u2 (pm_u2 (pm_u2 (pm_u2 (pm_u2 fi 71 (t + 0) (bt a1 0)) 71 (t + 1) (bt a1 1)) 71 (t + 2) (bt a1 2)) 71 (t + 3) (bt a1 3)) 71 (t + 4) (bt a2 0)) 71 (t + 5) (bt a2 1), fl, fr)) rfl ?_
  refine gp_of (fun _ k9 => g_ict rfl (show (4 : Int32) ≤ (6 : Int32) from by decide) k9) ?_
  refine gp_n 2 (j' := 18) (lv' := [some (.ref 70), some (.int a1), some (.int a2), some (.int a3), some (.int a4), some (.int a5), some (.int 6), some (.int a2)]) (st' := [.int 8, .int 6]) (h' := (shT, pm_u2 (pm_u2 (pm_u2 (pm_u2 (pm_u2 (pm_u2 fi 71 (t + 0) (bt a1 0)) 71 (t + 1) (bt a1 1)) 71 (t + 2) (bt a1 2)) 71 (t + 3) (bt a1 3)) 71 (t + 4) (bt a2 0)) 71 (t + 5) (bt a2 1), fl, fr)) rfl ?_
  refine gp_of (fun _ k9 => g_icf rfl (show ¬ ((8 : Int32) ≤ (6 : Int32)) from by decide) k9) ?_
  refine gp_n 4 (j' := 34) (lv' := [some (.ref 70), some (.int a1), some (.int a2), some (.int a3), some (.int a4), some (.int a5), some (.int 6), some (.int a2)]) (st' := [.ref 70]) (h' := (shT, pm_u2 (pm_u2 (pm_u2 (pm_u2 (pm_u2 (pm_u2 fi 71 (t + 0) (bt a1 0)) 71 (t + 1) (bt a1 1)) 71 (t + 2) (bt a1 2)) 71 (t + 3) (bt a1 3)) 71 (t + 4) (bt a2 0)) 71 (t + 5) (bt a2 1), fl, fr)) rfl ?_
  refine gp_of (fun _ k9 => g_getR (q' := 71) rfl rfl (by decide) k0 k9) ?_
  refine gp_n 1 (j' := 36) (lv' := [some (.ref 70), some (.int a1), some (.int a2), some (.int a3), some (.int a4), some (.int a5), some (.int 6), some (.int a2)]) (st' := [.ref 70, .ref 71]) (h' := (shT, pm_u2 (pm_u2 (pm_u2 (pm_u2 (pm_u2 (pm_u2 fi 71 (t + 0) (bt a1 0)) 71 (t + 1) (bt a1 1)) 71 (t + 2) (bt a1 2)) 71 (t + 3) (bt a1 3)) 71 (t + 4) (bt a2 0)) 71 (t + 5) (bt a2 1), fl, fr)) rfl ?_
  refine gp_of (fun _ k9 => g_getI (x := nI t) rfl (Or.inl rfl) rfl (by decide) (b) k9) ?_
  refine gp_n 12 (j' := 49) (lv' := [some (.ref 70), some (.int a1), some (.int a2), some (.int a3), some (.int a4), some (.int a5), some (.int 6), some (.int a2)]) (st' := [.int ((a2 >>> (8 &&& 31)).toInt8.toInt32), .int ((nI t) + 6), .ref 71]) (h' := (shT, pm_u2 (pm_u2 (pm_u2 (pm_u2 (pm_u2 (pm_u2 fi 71 (t + 0) (bt a1 0)) 71 (t + 1) (bt a1 1)) 71 (t + 2) (bt a1 2)) 71 (t + 3) (bt a1 3)) 71 (t + 4) (bt a2 0)) 71 (t + 5) (bt a2 1), fl, fr)) rfl ?_
  show GoP pmT none cd_146 _ _ [.int (bt a2 2), _, _] _ _
  refine gp_of (fun _ k9 => g_bastn (k := t + 6) rfl rfl (nadd t 6) (by omega) (by decide) (bt_nar _ _) k9) ?_
  refine gp_n 4 (j' := 10) (lv' := [some (.ref 70), some (.int a1), some (.int a2), some (.int a3), some (.int a4), some (.int a5), some (.int 7), some (.int a2)]) (st' := [.int 20, .int 7]) (h' := (shT, pm_u2 (pm_u2 (pm_u2 (pm_u2 (pm_u2 (pm_u2 (pm_u2 fi 71 (t + 0) (bt a1 0)) 71 (t + 1) (bt a1 1)) 71 (t + 2) (bt a1 2)) 71 (t + 3) (bt a1 3)) 71 (t + 4) (bt a2 0)) 71 (t + 5) (bt a2 1)) 71 (t + 6) (bt a2 2), fl, fr)) rfl ?_
  refine gp_of (fun _ k9 => g_icf rfl (show ¬ ((20 : Int32) ≤ (7 : Int32)) from by decide) k9) ?_
  refine gp_n 2 (j' := 13) (lv' := [some (.ref 70), some (.int a1), some (.int a2), some (.int a3), some (.int a4), some (.int a5), some (.int 7), some (.int a2)]) (st' := [.int 4, .int 7]) (h' := (shT, pm_u2 (pm_u2 (pm_u2 (pm_u2 (pm_u2 (pm_u2 (pm_u2 fi 71 (t + 0) (bt a1 0)) 71 (t + 1) (bt a1 1)) 71 (t + 2) (bt a1 2)) 71 (t + 3) (bt a1 3)) 71 (t + 4) (bt a2 0)) 71 (t + 5) (bt a2 1)) 71 (t + 6) (bt a2 2), fl, fr)) rfl ?_
  refine gp_of (fun _ k9 => g_ict rfl (show (4 : Int32) ≤ (7 : Int32) from by decide) k9) ?_
  refine gp_n 2 (j' := 18) (lv' := [some (.ref 70), some (.int a1), some (.int a2), some (.int a3), some (.int a4), some (.int a5), some (.int 7), some (.int a2)]) (st' := [.int 8, .int 7]) (h' := (shT, pm_u2 (pm_u2 (pm_u2 (pm_u2 (pm_u2 (pm_u2 (pm_u2 fi 71 (t + 0) (bt a1 0)) 71 (t + 1) (bt a1 1)) 71 (t + 2) (bt a1 2)) 71 (t + 3) (bt a1 3)) 71 (t + 4) (bt a2 0)) 71 (t + 5) (bt a2 1)) 71 (t + 6) (bt a2 2), fl, fr)) rfl ?_
  refine gp_of (fun _ k9 => g_icf rfl (show ¬ ((8 : Int32) ≤ (7 : Int32)) from by decide) k9) ?_
  refine gp_n 4 (j' := 34) (lv' := [some (.ref 70), some (.int a1), some (.int a2), some (.int a3), some (.int a4), some (.int a5), some (.int 7), some (.int a2)]) (st' := [.ref 70]) (h' := (shT, pm_u2 (pm_u2 (pm_u2 (pm_u2 (pm_u2 (pm_u2 (pm_u2 fi 71 (t + 0) (bt a1 0)) 71 (t + 1) (bt a1 1)) 71 (t + 2) (bt a1 2)) 71 (t + 3) (bt a1 3)) 71 (t + 4) (bt a2 0)) 71 (t + 5) (bt a2 1)) 71 (t + 6) (bt a2 2), fl, fr)) rfl ?_
  refine gp_of (fun _ k9 => g_getR (q' := 71) rfl rfl (by decide) k0 k9) ?_
  refine gp_n 1 (j' := 36) (lv' := [some (.ref 70), some (.int a1), some (.int a2), some (.int a3), some (.int a4), some (.int a5), some (.int 7), some (.int a2)]) (st' := [.ref 70, .ref 71]) (h' := (shT, pm_u2 (pm_u2 (pm_u2 (pm_u2 (pm_u2 (pm_u2 (pm_u2 fi 71 (t + 0) (bt a1 0)) 71 (t + 1) (bt a1 1)) 71 (t + 2) (bt a1 2)) 71 (t + 3) (bt a1 3)) 71 (t + 4) (bt a2 0)) 71 (t + 5) (bt a2 1)) 71 (t + 6) (bt a2 2), fl, fr)) rfl ?_
  refine gp_of (fun _ k9 => g_getI (x := nI t) rfl (Or.inl rfl) rfl (by decide) (b) k9) ?_
  refine gp_n 12 (j' := 49) (lv' := [some (.ref 70), some (.int a1), some (.int a2), some (.int a3), some (.int a4), some (.int a5), some (.int 7), some (.int a2)]) (st' := [.int ((a2 >>> (0 &&& 31)).toInt8.toInt32), .int ((nI t) + 7), .ref 71]) (h' := (shT, pm_u2 (pm_u2 (pm_u2 (pm_u2 (pm_u2 (pm_u2 (pm_u2 fi 71 (t + 0) (bt a1 0)) 71 (t + 1) (bt a1 1)) 71 (t + 2) (bt a1 2)) 71 (t + 3) (bt a1 3)) 71 (t + 4) (bt a2 0)) 71 (t + 5) (bt a2 1)) 71 (t + 6) (bt a2 2), fl, fr)) rfl ?_
  show GoP pmT none cd_146 _ _ [.int (bt a2 3), _, _] _ _
  refine gp_of (fun _ k9 => g_bastn (k := t + 7) rfl rfl (nadd t 7) (by omega) (by decide) (bt_nar _ _) k9) ?_
  refine gp_n 4 (j' := 10) (lv' := [some (.ref 70), some (.int a1), some (.int a2), some (.int a3), some (.int a4), some (.int a5), some (.int 8), some (.int a2)]) (st' := [.int 20, .int 8]) (h' := (shT, pm_u2 (pm_u2 (pm_u2 (pm_u2 (pm_u2 (pm_u2 (pm_u2 (pm_u2 fi 71 (t + 0) (bt a1 0)) 71 (t + 1) (bt a1 1)) 71 (t + 2) (bt a1 2)) 71 (t + 3) (bt a1 3)) 71 (t + 4) (bt a2 0)) 71 (t + 5) (bt a2 1)) 71 (t + 6) (bt a2 2)) 71 (t + 7) (bt a2 3), fl, fr)) rfl ?_
  refine gp_of (fun _ k9 => g_icf rfl (show ¬ ((20 : Int32) ≤ (8 : Int32)) from by decide) k9) ?_
  refine gp_n 2 (j' := 13) (lv' := [some (.ref 70), some (.int a1), some (.int a2), some (.int a3), some (.int a4), some (.int a5), some (.int 8), some (.int a2)]) (st' := [.int 4, .int 8]) (h' := (shT, pm_u2 (pm_u2 (pm_u2 (pm_u2 (pm_u2 (pm_u2 (pm_u2 (pm_u2 fi 71 (t + 0) (bt a1 0)) 71 (t + 1) (bt a1 1)) 71 (t + 2) (bt a1 2)) 71 (t + 3) (bt a1 3)) 71 (t + 4) (bt a2 0)) 71 (t + 5) (bt a2 1)) 71 (t + 6) (bt a2 2)) 71 (t + 7) (bt a2 3), fl, fr)) rfl ?_
  refine gp_of (fun _ k9 => g_ict rfl (show (4 : Int32) ≤ (8 : Int32) from by decide) k9) ?_
  refine gp_n 2 (j' := 18) (lv' := [some (.ref 70), some (.int a1), some (.int a2), some (.int a3), some (.int a4), some (.int a5), some (.int 8), some (.int a2)]) (st' := [.int 8, .int 8]) (h' := (shT, pm_u2 (pm_u2 (pm_u2 (pm_u2 (pm_u2 (pm_u2 (pm_u2 (pm_u2 fi 71 (t + 0) (bt a1 0)) 71 (t + 1) (bt a1 1)) 71 (t + 2) (bt a1 2)) 71 (t + 3) (bt a1 3)) 71 (t + 4) (bt a2 0)) 71 (t + 5) (bt a2 1)) 71 (t + 6) (bt a2 2)) 71 (t + 7) (bt a2 3), fl, fr)) rfl ?_
  refine gp_of (fun _ k9 => g_ict rfl (show (8 : Int32) ≤ (8 : Int32) from by decide) k9) ?_
  refine gp_n 2 (j' := 23) (lv' := [some (.ref 70), some (.int a1), some (.int a2), some (.int a3), some (.int a4), some (.int a5), some (.int 8), some (.int a2)]) (st' := [.int 12, .int 8]) (h' := (shT, pm_u2 (pm_u2 (pm_u2 (pm_u2 (pm_u2 (pm_u2 (pm_u2 (pm_u2 fi 71 (t + 0) (bt a1 0)) 71 (t + 1) (bt a1 1)) 71 (t + 2) (bt a1 2)) 71 (t + 3) (bt a1 3)) 71 (t + 4) (bt a2 0)) 71 (t + 5) (bt a2 1)) 71 (t + 6) (bt a2 2)) 71 (t + 7) (bt a2 3), fl, fr)) rfl ?_
  refine gp_of (fun _ k9 => g_icf rfl (show ¬ ((12 : Int32) ≤ (8 : Int32)) from by decide) k9) ?_
  refine gp_n 4 (j' := 34) (lv' := [some (.ref 70), some (.int a1), some (.int a2), some (.int a3), some (.int a4), some (.int a5), some (.int 8), some (.int a3)]) (st' := [.ref 70]) (h' := (shT, pm_u2 (pm_u2 (pm_u2 (pm_u2 (pm_u2 (pm_u2 (pm_u2 (pm_u2 fi 71 (t + 0) (bt a1 0)) 71 (t + 1) (bt a1 1)) 71 (t + 2) (bt a1 2)) 71 (t + 3) (bt a1 3)) 71 (t + 4) (bt a2 0)) 71 (t + 5) (bt a2 1)) 71 (t + 6) (bt a2 2)) 71 (t + 7) (bt a2 3), fl, fr)) rfl ?_
  refine gp_of (fun _ k9 => g_getR (q' := 71) rfl rfl (by decide) k0 k9) ?_
  refine gp_n 1 (j' := 36) (lv' := [some (.ref 70), some (.int a1), some (.int a2), some (.int a3), some (.int a4), some (.int a5), some (.int 8), some (.int a3)]) (st' := [.ref 70, .ref 71]) (h' := (shT, pm_u2 (pm_u2 (pm_u2 (pm_u2 (pm_u2 (pm_u2 (pm_u2 (pm_u2 fi 71 (t + 0) (bt a1 0)) 71 (t + 1) (bt a1 1)) 71 (t + 2) (bt a1 2)) 71 (t + 3) (bt a1 3)) 71 (t + 4) (bt a2 0)) 71 (t + 5) (bt a2 1)) 71 (t + 6) (bt a2 2)) 71 (t + 7) (bt a2 3), fl, fr)) rfl ?_
  refine gp_of (fun _ k9 => g_getI (x := nI t) rfl (Or.inl rfl) rfl (by decide) (b) k9) ?_
  refine gp_n 12 (j' := 49) (lv' := [some (.ref 70), some (.int a1), some (.int a2), some (.int a3), some (.int a4), some (.int a5), some (.int 8), some (.int a3)]) (st' := [.int ((a3 >>> (24 &&& 31)).toInt8.toInt32), .int ((nI t) + 8), .ref 71]) (h' := (shT, pm_u2 (pm_u2 (pm_u2 (pm_u2 (pm_u2 (pm_u2 (pm_u2 (pm_u2 fi 71 (t + 0) (bt a1 0)) 71 (t + 1) (bt a1 1)) 71 (t + 2) (bt a1 2)) 71 (t + 3) (bt a1 3)) 71 (t + 4) (bt a2 0)) 71 (t + 5) (bt a2 1)) 71 (t + 6) (bt a2 2)) 71 (t + 7) (bt a2 3), fl, fr)) rfl ?_
  show GoP pmT none cd_146 _ _ [.int (bt a3 0), _, _] _ _
  refine gp_of (fun _ k9 => g_bastn (k := t + 8) rfl rfl (nadd t 8) (by omega) (by decide) (bt_nar _ _) k9) ?_
  refine gp_n 4 (j' := 10) (lv' := [some (.ref 70), some (.int a1), some (.int a2), some (.int a3), some (.int a4), some (.int a5), some (.int 9), some (.int a3)]) (st' := [.int 20, .int 9]) (h' := (shT, pm_u2 (pm_u2 (pm_u2 (pm_u2 (pm_u2 (pm_u2 (pm_u2 (pm_u2 (pm_u2 fi 71 (t + 0) (bt a1 0)) 71 (t + 1) (bt a1 1)) 71 (t + 2) (bt a1 2)) 71 (t + 3) (bt a1 3)) 71 (t + 4) (bt a2 0)) 71 (t + 5) (bt a2 1)) 71 (t + 6) (bt a2 2)) 71 (t + 7) (bt a2 3)) 71 (t + 8) (bt a3 0), fl, fr)) rfl ?_
  refine gp_of (fun _ k9 => g_icf rfl (show ¬ ((20 : Int32) ≤ (9 : Int32)) from by decide) k9) ?_
  refine gp_n 2 (j' := 13) (lv' := [some (.ref 70), some (.int a1), some (.int a2), some (.int a3), some (.int a4), some (.int a5), some (.int 9), some (.int a3)]) (st' := [.int 4, .int 9]) (h' := (shT, pm_u2 (pm_u2 (pm_u2 (pm_u2 (pm_u2 (pm_u2 (pm_u2 (pm_u2 (pm_u2 fi 71 (t + 0) (bt a1 0)) 71 (t + 1) (bt a1 1)) 71 (t + 2) (bt a1 2)) 71 (t + 3) (bt a1 3)) 71 (t + 4) (bt a2 0)) 71 (t + 5) (bt a2 1)) 71 (t + 6) (bt a2 2)) 71 (t + 7) (bt a2 3)) 71 (t + 8) (bt a3 0), fl, fr)) rfl ?_
  refine gp_of (fun _ k9 => g_ict rfl (show (4 : Int32) ≤ (9 : Int32) from by decide) k9) ?_
  refine gp_n 2 (j' := 18) (lv' := [some (.ref 70), some (.int a1), some (.int a2), some (.int a3), some (.int a4), some (.int a5), some (.int 9), some (.int a3)]) (st' := [.int 8, .int 9]) (h' := (shT, pm_u2 (pm_u2 (pm_u2 (pm_u2 (pm_u2 (pm_u2 (pm_u2 (pm_u2 (pm_u2 fi 71 (t + 0) (bt a1 0)) 71 (t + 1) (bt a1 1)) 71 (t + 2) (bt a1 2)) 71 (t + 3) (bt a1 3)) 71 (t + 4) (bt a2 0)) 71 (t + 5) (bt a2 1)) 71 (t + 6) (bt a2 2)) 71 (t + 7) (bt a2 3)) 71 (t + 8) (bt a3 0), fl, fr)) rfl ?_
  refine gp_of (fun _ k9 => g_ict rfl (show (8 : Int32) ≤ (9 : Int32) from by decide) k9) ?_
  refine gp_n 2 (j' := 23) (lv' := [some (.ref 70), some (.int a1), some (.int a2), some (.int a3), some (.int a4), some (.int a5), some (.int 9), some (.int a3)]) (st' := [.int 12, .int 9]) (h' := (shT, pm_u2 (pm_u2 (pm_u2 (pm_u2 (pm_u2 (pm_u2 (pm_u2 (pm_u2 (pm_u2 fi 71 (t + 0) (bt a1 0)) 71 (t + 1) (bt a1 1)) 71 (t + 2) (bt a1 2)) 71 (t + 3) (bt a1 3)) 71 (t + 4) (bt a2 0)) 71 (t + 5) (bt a2 1)) 71 (t + 6) (bt a2 2)) 71 (t + 7) (bt a2 3)) 71 (t + 8) (bt a3 0), fl, fr)) rfl ?_
  refine gp_of (fun _ k9 => g_icf rfl (show ¬ ((12 : Int32) ≤ (9 : Int32)) from by decide) k9) ?_
  refine gp_n 4 (j' := 34) (lv' := [some (.ref 70), some (.int a1), some (.int a2), some (.int a3), some (.int a4), some (.int a5), some (.int 9), some (.int a3)]) (st' := [.ref 70]) (h' := (shT, pm_u2 (pm_u2 (pm_u2 (pm_u2 (pm_u2 (pm_u2 (pm_u2 (pm_u2 (pm_u2 fi 71 (t + 0) (bt a1 0)) 71 (t + 1) (bt a1 1)) 71 (t + 2) (bt a1 2)) 71 (t + 3) (bt a1 3)) 71 (t + 4) (bt a2 0)) 71 (t + 5) (bt a2 1)) 71 (t + 6) (bt a2 2)) 71 (t + 7) (bt a2 3)) 71 (t + 8) (bt a3 0), fl, fr)) rfl ?_
  refine gp_of (fun _ k9 => g_getR (q' := 71) rfl rfl (by decide) k0 k9) ?_
  refine gp_n 1 (j' := 36) (lv' := [some (.ref 70), some (.int a1), some (.int a2), some (.int a3), some (.int a4), some (.int a5), some (.int 9), some (.int a3)]) (st' := [.ref 70, .ref 71]) (h' := (shT, pm_u2 (pm_u2 (pm_u2 (pm_u2 (pm_u2 (pm_u2 (pm_u2 (pm_u2 (pm_u2 fi 71 (t + 0) (bt a1 0)) 71 (t + 1) (bt a1 1)) 71 (t + 2) (bt a1 2)) 71 (t + 3) (bt a1 3)) 71 (t + 4) (bt a2 0)) 71 (t + 5) (bt a2 1)) 71 (t + 6) (bt a2 2)) 71 (t + 7) (bt a2 3)) 71 (t + 8) (bt a3 0), fl, fr)) rfl ?_
  refine gp_of (fun _ k9 => g_getI (x := nI t) rfl (Or.inl rfl) rfl (by decide) (b) k9) ?_
  refine gp_n 12 (j' := 49) (lv' := [some (.ref 70), some (.int a1), some (.int a2), some (.int a3), some (.int a4), some (.int a5), some (.int 9), some (.int a3)]) (st' := [.int ((a3 >>> (16 &&& 31)).toInt8.toInt32), .int ((nI t) + 9), .ref 71]) (h' := (shT, pm_u2 (pm_u2 (pm_u2 (pm_u2 (pm_u2 (pm_u2 (pm_u2 (pm_u2 (pm_u2 fi 71 (t + 0) (bt a1 0)) 71 (t + 1) (bt a1 1)) 71 (t + 2) (bt a1 2)) 71 (t + 3) (bt a1 3)) 71 (t + 4) (bt a2 0)) 71 (t + 5) (bt a2 1)) 71 (t + 6) (bt a2 2)) 71 (t + 7) (bt a2 3)) 71 (t + 8) (bt a3 0), fl, fr)) rfl ?_
  show GoP pmT none cd_146 _ _ [.int (bt a3 1), _, _] _ _
  refine gp_of (fun _ k9 => g_bastn (k := t + 9) rfl rfl (nadd t 9) (by omega) (by decide) (bt_nar _ _) k9) ?_
  refine gp_n 4 (j' := 10) (lv' := [some (.ref 70), some (.int a1), some (.int a2), some (.int a3), some (.int a4), some (.int a5), some (.int 10), some (.int a3)]) (st' := [.int 20, .int 10]) (h' := (shT, pm_u2 (pm_u2 (pm_u2 (pm_u2 (pm_u2 (pm_u2 (pm_u2 (pm_u2 (pm_u2 (pm_u2 fi 71 (t + 0) (bt a1 0)) 71 (t + 1) (bt a1 1)) 71 (t + 2) (bt a1 2)) 71 (t + 3) (bt a1 3)) 71 (t + 4) (bt a2 0)) 71 (t + 5) (bt a2 1)) 71 (t + 6) (bt a2 2)) 71 (t + 7) (bt a2 3)) 71 (t + 8) (bt a3 0)) 71 (t + 9) (bt a3 1), fl, fr)) rfl ?_
  refine gp_of (fun _ k9 => g_icf rfl (show ¬ ((20 : Int32) ≤ (10 : Int32)) from by decide) k9) ?_
  refine gp_n 2 (j' := 13) (lv' := [some (.ref 70), some (.int a1), some (.int a2), some (.int a3), some (.int a4), some (.int a5), some (.int 10), some (.int a3)]) (st' := [.int 4, .int 10]) (h' := (shT, pm_u2 (pm_u2 (pm_u2 (pm_u2 (pm_u2 (pm_u2 (pm_u2 (pm_u2 (pm_u2 (pm_u2 fi 71 (t + 0) (bt a1 0)) 71 (t + 1) (bt a1 1)) 71 (t + 2) (bt a1 2)) 71 (t + 3) (bt a1 3)) 71 (t + 4) (bt a2 0)) 71 (t + 5) (bt a2 1)) 71 (t + 6) (bt a2 2)) 71 (t + 7) (bt a2 3)) 71 (t + 8) (bt a3 0)) 71 (t + 9) (bt a3 1), fl, fr)) rfl ?_
  refine gp_of (fun _ k9 => g_ict rfl (show (4 : Int32) ≤ (10 : Int32) from by decide) k9) ?_
  refine gp_n 2 (j' := 18) (lv' := [some (.ref 70), some (.int a1), some (.int a2), some (.int a3), some (.int a4), some (.int a5), some (.int 10), some (.int a3)]) (st' := [.int 8, .int 10]) (h' := (shT, pm_u2 (pm_u2 (pm_u2 (pm_u2 (pm_u2 (pm_u2 (pm_u2 (pm_u2 (pm_u2 (pm_u2 fi 71 (t + 0) (bt a1 0)) 71 (t + 1) (bt a1 1)) 71 (t + 2) (bt a1 2)) 71 (t + 3) (bt a1 3)) 71 (t + 4) (bt a2 0)) 71 (t + 5) (bt a2 1)) 71 (t + 6) (bt a2 2)) 71 (t + 7) (bt a2 3)) 71 (t + 8) (bt a3 0)) 71 (t + 9) (bt a3 1), fl, fr)) rfl ?_
  refine gp_of (fun _ k9 => g_ict rfl (show (8 : Int32) ≤ (10 : Int32) from by decide) k9) ?_
  refine gp_n 2 (j' := 23) (lv' := [some (.ref 70), some (.int a1), some (.int a2), some (.int a3), some (.int a4), some (.int a5), some (.int 10), some (.int a3)]) (st' := [.int 12, .int 10]) (h' := (shT, pm_u2 (pm_u2 (pm_u2 (pm_u2 (pm_u2 (pm_u2 (pm_u2 (pm_u2 (pm_u2 (pm_u2 fi 71 (t + 0) (bt a1 0)) 71 (t + 1) (bt a1 1)) 71 (t + 2) (bt a1 2)) 71 (t + 3) (bt a1 3)) 71 (t + 4) (bt a2 0)) 71 (t + 5) (bt a2 1)) 71 (t + 6) (bt a2 2)) 71 (t + 7) (bt a2 3)) 71 (t + 8) (bt a3 0)) 71 (t + 9) (bt a3 1), fl, fr)) rfl ?_
  refine gp_of (fun _ k9 => g_icf rfl (show ¬ ((12 : Int32) ≤ (10 : Int32)) from by decide) k9) ?_
  refine gp_n 4 (j' := 34) (lv' := [some (.ref 70), some (.int a1), some (.int a2), some (.int a3), some (.int a4), some (.int a5), some (.int 10), some (.int a3)]) (st' := [.ref 70]) (h' := (shT, pm_u2 (pm_u2 (pm_u2 (pm_u2 (pm_u2 (pm_u2 (pm_u2 (pm_u2 (pm_u2 (pm_u2 fi 71 (t + 0) (bt a1 0)) 71 (t + 1) (bt a1 1)) 71 (t + 2) (bt a1 2)) 71 (t + 3) (bt a1 3)) 71 (t + 4) (bt a2 0)) 71 (t + 5) (bt a2 1)) 71 (t + 6) (bt a2 2)) 71 (t + 7) (bt a2 3)) 71 (t + 8) (bt a3 0)) 71 (t + 9) (bt a3 1), fl, fr)) rfl ?_
  refine gp_of (fun _ k9 => g_getR (q' := 71) rfl rfl (by decide) k0 k9) ?_
  refine gp_n 1 (j' := 36) (lv' := [some (.ref 70), some (.int a1), some (.int a2), some (.int a3), some (.int a4), some (.int a5), some (.int 10), some (.int a3)]) (st' := [.ref 70, .ref 71]) (h' := (shT, pm_u2 (pm_u2 (pm_u2 (pm_u2 (pm_u2 (pm_u2 (pm_u2 (pm_u2 (pm_u2 (pm_u2 fi 71 (t + 0) (bt a1 0)) 71 (t + 1) (bt a1 1)) 71 (t + 2) (bt a1 2)) 71 (t + 3) (bt a1 3)) 71 (t + 4) (bt a2 0)) 71 (t + 5) (bt a2 1)) 71 (t + 6) (bt a2 2)) 71 (t + 7) (bt a2 3)) 71 (t + 8) (bt a3 0)) 71 (t + 9) (bt a3 1), fl, fr)) rfl ?_
  refine gp_of (fun _ k9 => g_getI (x := nI t) rfl (Or.inl rfl) rfl (by decide) (b) k9) ?_
  refine gp_n 12 (j' := 49) (lv' := [some (.ref 70), some (.int a1), some (.int a2), some (.int a3), some (.int a4), some (.int a5), some (.int 10), some (.int a3)]) (st' := [.int ((a3 >>> (8 &&& 31)).toInt8.toInt32), .int ((nI t) + 10), .ref 71]) (h' := (shT, pm_u2 (pm_u2 (pm_u2 (pm_u2 (pm_u2 (pm_u2 (pm_u2 (pm_u2 (pm_u2 (pm_u2 fi 71 (t + 0) (bt a1 0)) 71 (t + 1) (bt a1 1)) 71 (t + 2) (bt a1 2)) 71 (t + 3) (bt a1 3)) 71 (t + 4) (bt a2 0)) 71 (t + 5) (bt a2 1)) 71 (t + 6) (bt a2 2)) 71 (t + 7) (bt a2 3)) 71 (t + 8) (bt a3 0)) 71 (t + 9) (bt a3 1), fl, fr)) rfl ?_
  show GoP pmT none cd_146 _ _ [.int (bt a3 2), _, _] _ _
  refine gp_of (fun _ k9 => g_bastn (k := t + 10) rfl rfl (nadd t 10) (by omega) (by decide) (bt_nar _ _) k9) ?_
  refine gp_n 4 (j' := 10) (lv' := [some (.ref 70), some (.int a1), some (.int a2), some (.int a3), some (.int a4), some (.int a5), some (.int 11), some (.int a3)]) (st' := [.int 20, .int 11]) (h' := (shT, pm_u2 (pm_u2 (pm_u2 (pm_u2 (pm_u2 (pm_u2 (pm_u2 (pm_u2 (pm_u2 (pm_u2 (pm_u2 fi 71 (t + 0) (bt a1 0)) 71 (t + 1) (bt a1 1)) 71 (t + 2) (bt a1 2)) 71 (t + 3) (bt a1 3)) 71 (t + 4) (bt a2 0)) 71 (t + 5) (bt a2 1)) 71 (t + 6) (bt a2 2)) 71 (t + 7) (bt a2 3)) 71 (t + 8) (bt a3 0)) 71 (t + 9) (bt a3 1)) 71 (t + 10) (bt a3 2), fl, fr)) rfl ?_
  refine gp_of (fun _ k9 => g_icf rfl (show ¬ ((20 : Int32) ≤ (11 : Int32)) from by decide) k9) ?_
  refine gp_n 2 (j' := 13) (lv' := [some (.ref 70), some (.int a1), some (.int a2), some (.int a3), some (.int a4), some (.int a5), some (.int 11), some (.int a3)]) (st' := [.int 4, .int 11]) (h' := (shT, pm_u2 (pm_u2 (pm_u2 (pm_u2 (pm_u2 (pm_u2 (pm_u2 (pm_u2 (pm_u2 (pm_u2 (pm_u2 fi 71 (t + 0) (bt a1 0)) 71 (t + 1) (bt a1 1)) 71 (t + 2) (bt a1 2)) 71 (t + 3) (bt a1 3)) 71 (t + 4) (bt a2 0)) 71 (t + 5) (bt a2 1)) 71 (t + 6) (bt a2 2)) 71 (t + 7) (bt a2 3)) 71 (t + 8) (bt a3 0)) 71 (t + 9) (bt a3 1)) 71 (t + 10) (bt a3 2), fl, fr)) rfl ?_
  refine gp_of (fun _ k9 => g_ict rfl (show (4 : Int32) ≤ (11 : Int32) from by decide) k9) ?_
  refine gp_n 2 (j' := 18) (lv' := [some (.ref 70), some (.int a1), some (.int a2), some (.int a3), some (.int a4), some (.int a5), some (.int 11), some (.int a3)]) (st' := [.int 8, .int 11]) (h' := (shT, pm_u2 (pm_u2 (pm_u2 (pm_u2 (pm_u2 (pm_u2 (pm_u2 (pm_u2 (pm_u2 (pm_u2 (pm_u2 fi 71 (t + 0) (bt a1 0)) 71 (t + 1) (bt a1 1)) 71 (t + 2) (bt a1 2)) 71 (t + 3) (bt a1 3)) 71 (t + 4) (bt a2 0)) 71 (t + 5) (bt a2 1)) 71 (t + 6) (bt a2 2)) 71 (t + 7) (bt a2 3)) 71 (t + 8) (bt a3 0)) 71 (t + 9) (bt a3 1)) 71 (t + 10) (bt a3 2), fl, fr)) rfl ?_
  refine gp_of (fun _ k9 => g_ict rfl (show (8 : Int32) ≤ (11 : Int32) from by decide) k9) ?_
  refine gp_n 2 (j' := 23) (lv' := [some (.ref 70), some (.int a1), some (.int a2), some (.int a3), some (.int a4), some (.int a5), some (.int 11), some (.int a3)]) (st' := [.int 12, .int 11]) (h' := (shT, pm_u2 (pm_u2 (pm_u2 (pm_u2 (pm_u2 (pm_u2 (pm_u2 (pm_u2 (pm_u2 (pm_u2 (pm_u2 fi 71 (t + 0) (bt a1 0)) 71 (t + 1) (bt a1 1)) 71 (t + 2) (bt a1 2)) 71 (t + 3) (bt a1 3)) 71 (t + 4) (bt a2 0)) 71 (t + 5) (bt a2 1)) 71 (t + 6) (bt a2 2)) 71 (t + 7) (bt a2 3)) 71 (t + 8) (bt a3 0)) 71 (t + 9) (bt a3 1)) 71 (t + 10) (bt a3 2), fl, fr)) rfl ?_
  refine gp_of (fun _ k9 => g_icf rfl (show ¬ ((12 : Int32) ≤ (11 : Int32)) from by decide) k9) ?_
  refine gp_n 4 (j' := 34) (lv' := [some (.ref 70), some (.int a1), some (.int a2), some (.int a3), some (.int a4), some (.int a5), some (.int 11), some (.int a3)]) (st' := [.ref 70]) (h' := (shT, pm_u2 (pm_u2 (pm_u2 (pm_u2 (pm_u2 (pm_u2 (pm_u2 (pm_u2 (pm_u2 (pm_u2 (pm_u2 fi 71 (t + 0) (bt a1 0)) 71 (t + 1) (bt a1 1)) 71 (t + 2) (bt a1 2)) 71 (t + 3) (bt a1 3)) 71 (t + 4) (bt a2 0)) 71 (t + 5) (bt a2 1)) 71 (t + 6) (bt a2 2)) 71 (t + 7) (bt a2 3)) 71 (t + 8) (bt a3 0)) 71 (t + 9) (bt a3 1)) 71 (t + 10) (bt a3 2), fl, fr)) rfl ?_
  refine gp_of (fun _ k9 => g_getR (q' := 71) rfl rfl (by decide) k0 k9) ?_
  refine gp_n 1 (j' := 36) (lv' := [some (.ref 70), some (.int a1), some (.int a2), some (.int a3), some (.int a4), some (.int a5), some (.int 11), some (.int a3)]) (st' := [.ref 70, .ref 71]) (h' := (shT, pm_u2 (pm_u2 (pm_u2 (pm_u2 (pm_u2 (pm_u2 (pm_u2 (pm_u2 (pm_u2 (pm_u2 (pm_u2 fi 71 (t + 0) (bt a1 0)) 71 (t + 1) (bt a1 1)) 71 (t + 2) (bt a1 2)) 71 (t + 3) (bt a1 3)) 71 (t + 4) (bt a2 0)) 71 (t + 5) (bt a2 1)) 71 (t + 6) (bt a2 2)) 71 (t + 7) (bt a2 3)) 71 (t + 8) (bt a3 0)) 71 (t + 9) (bt a3 1)) 71 (t + 10) (bt a3 2), fl, fr)) rfl ?_
  refine gp_of (fun _ k9 => g_getI (x := nI t) rfl (Or.inl rfl) rfl (by decide) (b) k9) ?_
  refine gp_n 12 (j' := 49) (lv' := [some (.ref 70), some (.int a1), some (.int a2), some (.int a3), some (.int a4), some (.int a5), some (.int 11), some (.int a3)]) (st' := [.int ((a3 >>> (0 &&& 31)).toInt8.toInt32), .int ((nI t) + 11), .ref 71]) (h' := (shT, pm_u2 (pm_u2 (pm_u2 (pm_u2 (pm_u2 (pm_u2 (pm_u2 (pm_u2 (pm_u2 (pm_u2 (pm_u2 fi 71 (t + 0) (bt a1 0)) 71 (t + 1) (bt a1 1)) 71 (t + 2) (bt a1 2)) 71 (t + 3) (bt a1 3)) 71 (t + 4) (bt a2 0)) 71 (t + 5) (bt a2 1)) 71 (t + 6) (bt a2 2)) 71 (t + 7) (bt a2 3)) 71 (t + 8) (bt a3 0)) 71 (t + 9) (bt a3 1)) 71 (t + 10) (bt a3 2), fl, fr)) rfl ?_
  show GoP pmT none cd_146 _ _ [.int (bt a3 3), _, _] _ _
  refine gp_of (fun _ k9 => g_bastn (k := t + 11) rfl rfl (nadd t 11) (by omega) (by decide) (bt_nar _ _) k9) ?_
  refine gp_n 4 (j' := 10) (lv' := [some (.ref 70), some (.int a1), some (.int a2), some (.int a3), some (.int a4), some (.int a5), some (.int 12), some (.int a3)]) (st' := [.int 20, .int 12]) (h' := (shT, pm_u2 (pm_u2 (pm_u2 (pm_u2 (pm_u2 (pm_u2 (pm_u2 (pm_u2 (pm_u2 (pm_u2 (pm_u2 (pm_u2 fi 71 (t + 0) (bt a1 0)) 71 (t + 1) (bt a1 1)) 71 (t + 2) (bt a1 2)) 71 (t + 3) (bt a1 3)) 71 (t + 4) (bt a2 0)) 71 (t + 5) (bt a2 1)) 71 (t + 6) (bt a2 2)) 71 (t + 7) (bt a2 3)) 71 (t + 8) (bt a3 0)) 71 (t + 9) (bt a3 1)) 71 (t + 10) (bt a3 2)) 71 (t + 11) (bt a3 3), fl, fr)) rfl ?_
  refine gp_of (fun _ k9 => g_icf rfl (show ¬ ((20 : Int32) ≤ (12 : Int32)) from by decide) k9) ?_
  refine gp_n 2 (j' := 13) (lv' := [some (.ref 70), some (.int a1), some (.int a2), some (.int a3), some (.int a4), some (.int a5), some (.int 12), some (.int a3)]) (st' := [.int 4, .int 12]) (h' := (shT, pm_u2 (pm_u2 (pm_u2 (pm_u2 (pm_u2 (pm_u2 (pm_u2 (pm_u2 (pm_u2 (pm_u2 (pm_u2 (pm_u2 fi 71 (t + 0) (bt a1 0)) 71 (t + 1) (bt a1 1)) 71 (t + 2) (bt a1 2)) 71 (t + 3) (bt a1 3)) 71 (t + 4) (bt a2 0)) 71 (t + 5) (bt a2 1)) 71 (t + 6) (bt a2 2)) 71 (t + 7) (bt a2 3)) 71 (t + 8) (bt a3 0)) 71 (t + 9) (bt a3 1)) 71 (t + 10) (bt a3 2)) 71 (t + 11) (bt a3 3), fl, fr)) rfl ?_
  refine gp_of (fun _ k9 => g_ict rfl (show (4 : Int32) ≤ (12 : Int32) from by decide) k9) ?_
  refine gp_n 2 (j' := 18) (lv' := [some (.ref 70), some (.int a1), some (.int a2), some (.int a3), some (.int a4), some (.int a5), some (.int 12), some (.int a3)]) (st' := [.int 8, .int 12]) (h' := (shT, pm_u2 (pm_u2 (pm_u2 (pm_u2 (pm_u2 (pm_u2 (pm_u2 (pm_u2 (pm_u2 (pm_u2 (pm_u2 (pm_u2 fi 71 (t + 0) (bt a1 0)) 71 (t + 1) (bt a1 1)) 71 (t + 2) (bt a1 2)) 71 (t + 3) (bt a1 3)) 71 (t + 4) (bt a2 0)) 71 (t + 5) (bt a2 1)) 71 (t + 6) (bt a2 2)) 71 (t + 7) (bt a2 3)) 71 (t + 8) (bt a3 0)) 71 (t + 9) (bt a3 1)) 71 (t + 10) (bt a3 2)) 71 (t + 11) (bt a3 3), fl, fr)) rfl ?_
  refine gp_of (fun _ k9 => g_ict rfl (show (8 : Int32) ≤ (12 : Int32) from by decide) k9) ?_
  refine gp_n 2 (j' := 23) (lv' := [some (.ref 70), some (.int a1), some (.int a2), some (.int a3), some (.int a4), some (.int a5), some (.int 12), some (.int a3)]) (st' := [.int 12, .int 12]) (h' := (shT, pm_u2 (pm_u2 (pm_u2 (pm_u2 (pm_u2 (pm_u2 (pm_u2 (pm_u2 (pm_u2 (pm_u2 (pm_u2 (pm_u2 fi 71 (t + 0) (bt a1 0)) 71 (t + 1) (bt a1 1)) 71 (t + 2) (bt a1 2)) 71 (t + 3) (bt a1 3)) 71 (t + 4) (bt a2 0)) 71 (t + 5) (bt a2 1)) 71 (t + 6) (bt a2 2)) 71 (t + 7) (bt a2 3)) 71 (t + 8) (bt a3 0)) 71 (t + 9) (bt a3 1)) 71 (t + 10) (bt a3 2)) 71 (t + 11) (bt a3 3), fl, fr)) rfl ?_
  refine gp_of (fun _ k9 => g_ict rfl (show (12 : Int32) ≤ (12 : Int32) from by decide) k9) ?_
  refine gp_n 2 (j' := 28) (lv' := [some (.ref 70), some (.int a1), some (.int a2), some (.int a3), some (.int a4), some (.int a5), some (.int 12), some (.int a3)]) (st' := [.int 16, .int 12]) (h' := (shT, pm_u2 (pm_u2 (pm_u2 (pm_u2 (pm_u2 (pm_u2 (pm_u2 (pm_u2 (pm_u2 (pm_u2 (pm_u2 (pm_u2 fi 71 (t + 0) (bt a1 0)) 71 (t + 1) (bt a1 1)) 71 (t + 2) (bt a1 2)) 71 (t + 3) (bt a1 3)) 71 (t + 4) (bt a2 0)) 71 (t + 5) (bt a2 1)) 71 (t + 6) (bt a2 2)) 71 (t + 7) (bt a2 3)) 71 (t + 8) (bt a3 0)) 71 (t + 9) (bt a3 1)) 71 (t + 10) (bt a3 2)) 71 (t + 11) (bt a3 3), fl, fr)) rfl ?_
  refine gp_of (fun _ k9 => g_icf rfl (show ¬ ((16 : Int32) ≤ (12 : Int32)) from by decide) k9) ?_
  refine gp_n 4 (j' := 34) (lv' := [some (.ref 70), some (.int a1), some (.int a2), some (.int a3), some (.int a4), some (.int a5), some (.int 12), some (.int a4)]) (st' := [.ref 70]) (h' := (shT, pm_u2 (pm_u2 (pm_u2 (pm_u2 (pm_u2 (pm_u2 (pm_u2 (pm_u2 (pm_u2 (pm_u2 (pm_u2 (pm_u2 fi 71 (t + 0) (bt a1 0)) 71 (t + 1) (bt a1 1)) 71 (t + 2) (bt a1 2)) 71 (t + 3) (bt a1 3)) 71 (t + 4) (bt a2 0)) 71 (t + 5) (bt a2 1)) 71 (t + 6) (bt a2 2)) 71 (t + 7) (bt a2 3)) 71 (t + 8) (bt a3 0)) 71 (t + 9) (bt a3 1)) 71 (t + 10) (bt a3 2)) 71 (t + 11) (bt a3 3), fl, fr)) rfl ?_
  refine gp_of (fun _ k9 => g_getR (q' := 71) rfl rfl (by decide) k0 k9) ?_
  refine gp_n 1 (j' := 36) (lv' := [some (.ref 70), some (.int a1), some (.int a2), some (.int a3), some (.int a4), some (.int a5), some (.int 12), some (.int a4)]) (st' := [.ref 70, .ref 71]) (h' := (shT, pm_u2 (pm_u2 (pm_u2 (pm_u2 (pm_u2 (pm_u2 (pm_u2 (pm_u2 (pm_u2 (pm_u2 (pm_u2 (pm_u2 fi 71 (t + 0) (bt a1 0)) 71 (t + 1) (bt a1 1)) 71 (t + 2) (bt a1 2)) 71 (t + 3) (bt a1 3)) 71 (t + 4) (bt a2 0)) 71 (t + 5) (bt a2 1)) 71 (t + 6) (bt a2 2)) 71 (t + 7) (bt a2 3)) 71 (t + 8) (bt a3 0)) 71 (t + 9) (bt a3 1)) 71 (t + 10) (bt a3 2)) 71 (t + 11) (bt a3 3), fl, fr)) rfl ?_
  refine gp_of (fun _ k9 => g_getI (x := nI t) rfl (Or.inl rfl) rfl (by decide) (b) k9) ?_
  refine gp_n 12 (j' := 49) (lv' := [some (.ref 70), some (.int a1), some (.int a2), some (.int a3), some (.int a4), some (.int a5), some (.int 12), some (.int a4)]) (st' := [.int ((a4 >>> (24 &&& 31)).toInt8.toInt32), .int ((nI t) + 12), .ref 71]) (h' := (shT, pm_u2 (pm_u2 (pm_u2 (pm_u2 (pm_u2 (pm_u2 (pm_u2 (pm_u2 (pm_u2 (pm_u2 (pm_u2 (pm_u2 fi 71 (t + 0) (bt a1 0)) 71 (t + 1) (bt a1 1)) 71 (t + 2) (bt a1 2)) 71 (t + 3) (bt a1 3)) 71 (t + 4) (bt a2 0)) 71 (t + 5) (bt a2 1)) 71 (t + 6) (bt a2 2)) 71 (t + 7) (bt a2 3)) 71 (t + 8) (bt a3 0)) 71 (t + 9) (bt a3 1)) 71 (t + 10) (bt a3 2)) 71 (t + 11) (bt a3 3), fl, fr)) rfl ?_
  show GoP pmT none cd_146 _ _ [.int (bt a4 0), _, _] _ _
  refine gp_of (fun _ k9 => g_bastn (k := t + 12) rfl rfl (nadd t 12) (by omega) (by decide) (bt_nar _ _) k9) ?_
  refine gp_n 4 (j' := 10) (lv' := [some (.ref 70), some (.int a1), some (.int a2), some (.int a3), some (.int a4), some (.int a5), some (.int 13), some (.int a4)]) (st' := [.int 20, .int 13]) (h' := (shT, pm_u2 (pm_u2 (pm_u2 (pm_u2 (pm_u2 (pm_u2 (pm_u2 (pm_u2 (pm_u2 (pm_u2 (pm_u2 (pm_u2 (pm_u2 fi 71 (t + 0) (bt a1 0)) 71 (t + 1) (bt a1 1)) 71 (t + 2) (bt a1 2)) 71 (t + 3) (bt a1 3)) 71 (t + 4) (bt a2 0)) 71 (t + 5) (bt a2 1)) 71 (t + 6) (bt a2 2)) 71 (t + 7) (bt a2 3)) 71 (t + 8) (bt a3 0)) 71 (t + 9) (bt a3 1)) 71 (t + 10) (bt a3 2)) 71 (t + 11) (bt a3 3)) 71 (t + 12) (bt a4 0), fl, fr)) rfl ?_
  refine gp_of (fun _ k9 => g_icf rfl (show ¬ ((20 : Int32) ≤ (13 : Int32)) from by decide) k9) ?_
  refine gp_n 2 (j' := 13) (lv' := [some (.ref 70), some (.int a1), some (.int a2), some (.int a3), some (.int a4), some (.int a5), some (.int 13), some (.int a4)]) (st' := [.int 4, .int 13]) (h' := (shT, pm_u2 (pm_u2 (pm_u2 (pm_u2 (pm_u2 (pm_u2 (pm_u2 (pm_u2 (pm_u2 (pm_u2 (pm_u2 (pm_u2 (pm_u2 fi 71 (t + 0) (bt a1 0)) 71 (t + 1) (bt a1 1)) 71 (t + 2) (bt a1 2)) 71 (t + 3) (bt a1 3)) 71 (t + 4) (bt a2 0)) 71 (t + 5) (bt a2 1)) 71 (t + 6) (bt a2 2)) 71 (t + 7) (bt a2 3)) 71 (t + 8) (bt a3 0)) 71 (t + 9) (bt a3 1)) 71 (t + 10) (bt a3 2)) 71 (t + 11) (bt a3 3)) 71 (t + 12) (bt a4 0), fl, fr)) rfl ?_
  refine gp_of (fun _ k9 => g_ict rfl (show (4 : Int32) ≤ (13 : Int32) from by decide) k9) ?_
  refine gp_n 2 (j' := 18) (lv' := [some (.ref 70), some (.int a1), some (.int a2), some (.int a3), some (.int a4), some (.int a5), some (.int 13), some (.int a4)]) (st' := [.int 8, .int 13]) (h' := (shT, pm_u2 (pm_u2 (pm_u2 (pm_u2 (pm_u2 (pm_u2 (pm_u2 (pm_u2 (pm_u2 (pm_u2 (pm_u2 (pm_u2 (pm_u2 fi 71 (t + 0) (bt a1 0)) 71 (t + 1) (bt a1 1)) 71 (t + 2) (bt a1 2)) 71 (t + 3) (bt a1 3)) 71 (t + 4) (bt a2 0)) 71 (t + 5) (bt a2 1)) 71 (t + 6) (bt a2 2)) 71 (t + 7) (bt a2 3)) 71 (t + 8) (bt a3 0)) 71 (t + 9) (bt a3 1)) 71 (t + 10) (bt a3 2)) 71 (t + 11) (bt a3 3)) 71 (t + 12) (bt a4 0), fl, fr)) rfl ?_
  refine gp_of (fun _ k9 => g_ict rfl (show (8 : Int32) ≤ (13 : Int32) from by decide) k9) ?_
  refine gp_n 2 (j' := 23) (lv' := [some (.ref 70), some (.int a1), some (.int a2), some (.int a3), some (.int a4), some (.int a5), some (.int 13), some (.int a4)]) (st' := [.int 12, .int 13]) (h' := (shT, pm_u2 (pm_u2 (pm_u2 (pm_u2 (pm_u2 (pm_u2 (pm_u2 (pm_u2 (pm_u2 (pm_u2 (pm_u2 (pm_u2 (pm_u2 fi 71 (t + 0) (bt a1 0)) 71 (t + 1) (bt a1 1)) 71 (t + 2) (bt a1 2)) 71 (t + 3) (bt a1 3)) 71 (t + 4) (bt a2 0)) 71 (t + 5) (bt a2 1)) 71 (t + 6) (bt a2 2)) 71 (t + 7) (bt a2 3)) 71 (t + 8) (bt a3 0)) 71 (t + 9) (bt a3 1)) 71 (t + 10) (bt a3 2)) 71 (t + 11) (bt a3 3)) 71 (t + 12) (bt a4 0), fl, fr)) rfl ?_
  refine gp_of (fun _ k9 => g_ict rfl (show (12 : Int32) ≤ (13 : Int32) from by decide) k9) ?_
  refine gp_n 2 (j' := 28) (lv' := [some (.ref 70), some (.int a1), some (.int a2), some (.int a3), some (.int a4), some (.int a5), some (.int 13), some (.int a4)]) (st' := [.int 16, .int 13]) (h' := (shT, pm_u2 (pm_u2 (pm_u2 (pm_u2 (pm_u2 (pm_u2 (pm_u2 (pm_u2 (pm_u2 (pm_u2 (pm_u2 (pm_u2 (pm_u2 fi 71 (t + 0) (bt a1 0)) 71 (t + 1) (bt a1 1)) 71 (t + 2) (bt a1 2)) 71 (t + 3) (bt a1 3)) 71 (t + 4) (bt a2 0)) 71 (t + 5) (bt a2 1)) 71 (t + 6) (bt a2 2)) 71 (t + 7) (bt a2 3)) 71 (t + 8) (bt a3 0)) 71 (t + 9) (bt a3 1)) 71 (t + 10) (bt a3 2)) 71 (t + 11) (bt a3 3)) 71 (t + 12) (bt a4 0), fl, fr)) rfl ?_
  refine gp_of (fun _ k9 => g_icf rfl (show ¬ ((16 : Int32) ≤ (13 : Int32)) from by decide) k9) ?_
  refine gp_n 4 (j' := 34) (lv' := [some (.ref 70), some (.int a1), some (.int a2), some (.int a3), some (.int a4), some (.int a5), some (.int 13), some (.int a4)]) (st' := [.ref 70]) (h' := (shT, pm_u2 (pm_u2 (pm_u2 (pm_u2 (pm_u2 (pm_u2 (pm_u2 (pm_u2 (pm_u2 (pm_u2 (pm_u2 (pm_u2 (pm_u2 fi 71 (t + 0) (bt a1 0)) 71 (t + 1) (bt a1 1)) 71 (t + 2) (bt a1 2)) 71 (t + 3) (bt a1 3)) 71 (t + 4) (bt a2 0)) 71 (t + 5) (bt a2 1)) 71 (t + 6) (bt a2 2)) 71 (t + 7) (bt a2 3)) 71 (t + 8) (bt a3 0)) 71 (t + 9) (bt a3 1)) 71 (t + 10) (bt a3 2)) 71 (t + 11) (bt a3 3)) 71 (t + 12) (bt a4 0), fl, fr)) rfl ?_
  refine gp_of (fun _ k9 => g_getR (q' := 71) rfl rfl (by decide) k0 k9) ?_
  refine gp_n 1 (j' := 36) (lv' := [some (.ref 70), some (.int a1), some (.int a2), some (.int a3), some (.int a4), some (.int a5), some (.int 13), some (.int a4)]) (st' := [.ref 70, .ref 71]) (h' := (shT, pm_u2 (pm_u2 (pm_u2 (pm_u2 (pm_u2 (pm_u2 (pm_u2 (pm_u2 (pm_u2 (pm_u2 (pm_u2 (pm_u2 (pm_u2 fi 71 (t + 0) (bt a1 0)) 71 (t + 1) (bt a1 1)) 71 (t + 2) (bt a1 2)) 71 (t + 3) (bt a1 3)) 71 (t + 4) (bt a2 0)) 71 (t + 5) (bt a2 1)) 71 (t + 6) (bt a2 2)) 71 (t + 7) (bt a2 3)) 71 (t + 8) (bt a3 0)) 71 (t + 9) (bt a3 1)) 71 (t + 10) (bt a3 2)) 71 (t + 11) (bt a3 3)) 71 (t + 12) (bt a4 0), fl, fr)) rfl ?_
  refine gp_of (fun _ k9 => g_getI (x := nI t) rfl (Or.inl rfl) rfl (by decide) (b) k9) ?_
  refine gp_n 12 (j' := 49) (lv' := [some (.ref 70), some (.int a1), some (.int a2), some (.int a3), some (.int a4), some (.int a5), some (.int 13), some (.int a4)]) (st' := [.int ((a4 >>> (16 &&& 31)).toInt8.toInt32), .int ((nI t) + 13), .ref 71]) (h' := (shT, pm_u2 (pm_u2 (pm_u2 (pm_u2 (pm_u2 (pm_u2 (pm_u2 (pm_u2 (pm_u2 (pm_u2 (pm_u2 (pm_u2 (pm_u2 fi 71 (t + 0) (bt a1 0)) 71 (t + 1) (bt a1 1)) 71 (t + 2) (bt a1 2)) 71 (t + 3) (bt a1 3)) 71 (t + 4) (bt a2 0)) 71 (t + 5) (bt a2 1)) 71 (t + 6) (bt a2 2)) 71 (t + 7) (bt a2 3)) 71 (t + 8) (bt a3 0)) 71 (t + 9) (bt a3 1)) 71 (t + 10) (bt a3 2)) 71 (t + 11) (bt a3 3)) 71 (t + 12) (bt a4 0), fl, fr)) rfl ?_
  show GoP pmT none cd_146 _ _ [.int (bt a4 1), _, _] _ _
  refine gp_of (fun _ k9 => g_bastn (k := t + 13) rfl rfl (nadd t 13) (by omega) (by decide) (bt_nar _ _) k9) ?_
  refine gp_n 4 (j' := 10) (lv' := [some (.ref 70), some (.int a1), some (.int a2), some (.int a3), some (.int a4), some (.int a5), some (.int 14), some (.int a4)]) (st' := [.int 20, .int 14]) (h' := (shT, pm_u2 (pm_u2 (pm_u2 (pm_u2 (pm_u2 (pm_u2 (pm_u2 (pm_u2 (pm_u2 (pm_u2 (pm_u2 (pm_u2 (pm_u2 (pm_u2 fi 71 (t + 0) (bt a1 0)) 71 (t + 1) (bt a1 1)) 71 (t + 2) (bt a1 2)) 71 (t + 3) (bt a1 3)) 71 (t + 4) (bt a2 0)) 71 (t + 5) (bt a2 1)) 71 (t + 6) (bt a2 2)) 71 (t + 7) (bt a2 3)) 71 (t + 8) (bt a3 0)) 71 (t + 9) (bt a3 1)) 71 (t + 10) (bt a3 2)) 71 (t + 11) (bt a3 3)) 71 (t + 12) (bt a4 0)) 71 (t + 13) (bt a4 1), fl, fr)) rfl ?_
  refine gp_of (fun _ k9 => g_icf rfl (show ¬ ((20 : Int32) ≤ (14 : Int32)) from by decide) k9) ?_
  refine gp_n 2 (j' := 13) (lv' := [some (.ref 70), some (.int a1), some (.int a2), some (.int a3), some (.int a4), some (.int a5), some (.int 14), some (.int a4)]) (st' := [.int 4, .int 14]) (h' := (shT, pm_u2 (pm_u2 (pm_u2 (pm_u2 (pm_u2 (pm_u2 (pm_u2 (pm_u2 (pm_u2 (pm_u2 (pm_u2 (pm_u2 (pm_u2 (pm_u2 fi 71 (t + 0) (bt a1 0)) 71 (t + 1) (bt a1 1)) 71 (t + 2) (bt a1 2)) 71 (t + 3) (bt a1 3)) 71 (t + 4) (bt a2 0)) 71 (t + 5) (bt a2 1)) 71 (t + 6) (bt a2 2)) 71 (t + 7) (bt a2 3)) 71 (t + 8) (bt a3 0)) 71 (t + 9) (bt a3 1)) 71 (t + 10) (bt a3 2)) 71 (t + 11) (bt a3 3)) 71 (t + 12) (bt a4 0)) 71 (t + 13) (bt a4 1), fl, fr)) rfl ?_
  refine gp_of (fun _ k9 => g_ict rfl (show (4 : Int32) ≤ (14 : Int32) from by decide) k9) ?_
  refine gp_n 2 (j' := 18) (lv' := [some (.ref 70), some (.int a1), some (.int a2), some (.int a3), some (.int a4), some (.int a5), some (.int 14), some (.int a4)]) (st' := [.int 8, .int 14]) (h' := (shT, pm_u2 (pm_u2 (pm_u2 (pm_u2 (pm_u2 (pm_u2 (pm_u2 (pm_u2 (pm_u2 (pm_u2 (pm_u2 (pm_u2 (pm_u2 (pm_u2 fi 71 (t + 0) (bt a1 0)) 71 (t + 1) (bt a1 1)) 71 (t + 2) (bt a1 2)) 71 (t + 3) (bt a1 3)) 71 (t + 4) (bt a2 0)) 71 (t + 5) (bt a2 1)) 71 (t + 6) (bt a2 2)) 71 (t + 7) (bt a2 3)) 71 (t + 8) (bt a3 0)) 71 (t + 9) (bt a3 1)) 71 (t + 10) (bt a3 2)) 71 (t + 11) (bt a3 3)) 71 (t + 12) (bt a4 0)) 71 (t + 13) (bt a4 1), fl, fr)) rfl ?_
  refine gp_of (fun _ k9 => g_ict rfl (show (8 : Int32) ≤ (14 : Int32) from by decide) k9) ?_
  refine gp_n 2 (j' := 23) (lv' := [some (.ref 70), some (.int a1), some (.int a2), some (.int a3), some (.int a4), some (.int a5), some (.int 14), some (.int a4)]) (st' := [.int 12, .int 14]) (h' := (shT, pm_u2 (pm_u2 (pm_u2 (pm_u2 (pm_u2 (pm_u2 (pm_u2 (pm_u2 (pm_u2 (pm_u2 (pm_u2 (pm_u2 (pm_u2 (pm_u2 fi 71 (t + 0) (bt a1 0)) 71 (t + 1) (bt a1 1)) 71 (t + 2) (bt a1 2)) 71 (t + 3) (bt a1 3)) 71 (t + 4) (bt a2 0)) 71 (t + 5) (bt a2 1)) 71 (t + 6) (bt a2 2)) 71 (t + 7) (bt a2 3)) 71 (t + 8) (bt a3 0)) 71 (t + 9) (bt a3 1)) 71 (t + 10) (bt a3 2)) 71 (t + 11) (bt a3 3)) 71 (t + 12) (bt a4 0)) 71 (t + 13) (bt a4 1), fl, fr)) rfl ?_
  refine gp_of (fun _ k9 => g_ict rfl (show (12 : Int32) ≤ (14 : Int32) from by decide) k9) ?_
  refine gp_n 2 (j' := 28) (lv' := [some (.ref 70), some (.int a1), some (.int a2), some (.int a3), some (.int a4), some (.int a5), some (.int 14), some (.int a4)]) (st' := [.int 16, .int 14]) (h' := (shT, pm_u2 (pm_u2 (pm_u2 (pm_u2 (pm_u2 (pm_u2 (pm_u2 (pm_u2 (pm_u2 (pm_u2 (pm_u2 (pm_u2 (pm_u2 (pm_u2 fi 71 (t + 0) (bt a1 0)) 71 (t + 1) (bt a1 1)) 71 (t + 2) (bt a1 2)) 71 (t + 3) (bt a1 3)) 71 (t + 4) (bt a2 0)) 71 (t + 5) (bt a2 1)) 71 (t + 6) (bt a2 2)) 71 (t + 7) (bt a2 3)) 71 (t + 8) (bt a3 0)) 71 (t + 9) (bt a3 1)) 71 (t + 10) (bt a3 2)) 71 (t + 11) (bt a3 3)) 71 (t + 12) (bt a4 0)) 71 (t + 13) (bt a4 1), fl, fr)) rfl ?_
  refine gp_of (fun _ k9 => g_icf rfl (show ¬ ((16 : Int32) ≤ (14 : Int32)) from by decide) k9) ?_
  refine gp_n 4 (j' := 34) (lv' := [some (.ref 70), some (.int a1), some (.int a2), some (.int a3), some (.int a4), some (.int a5), some (.int 14), some (.int a4)]) (st' := [.ref 70]) (h' := (shT, pm_u2 (pm_u2 (pm_u2 (pm_u2 (pm_u2 (pm_u2 (pm_u2 (pm_u2 (pm_u2 (pm_u2 (pm_u2 (pm_u2 (pm_u2 (pm_u2 fi 71 (t + 0) (bt a1 0)) 71 (t + 1) (bt a1 1)) 71 (t + 2) (bt a1 2)) 71 (t + 3) (bt a1 3)) 71 (t + 4) (bt a2 0)) 71 (t + 5) (bt a2 1)) 71 (t + 6) (bt a2 2)) 71 (t + 7) (bt a2 3)) 71 (t + 8) (bt a3 0)) 71 (t + 9) (bt a3 1)) 71 (t + 10) (bt a3 2)) 71 (t + 11) (bt a3 3)) 71 (t + 12) (bt a4 0)) 71 (t + 13) (bt a4 1), fl, fr)) rfl ?_
  refine gp_of (fun _ k9 => g_getR (q' := 71) rfl rfl (by decide) k0 k9) ?_
  refine gp_n 1 (j' := 36) (lv' := [some (.ref 70), some (.int a1), some (.int a2), some (.int a3), some (.int a4), some (.int a5), some (.int 14), some (.int a4)]) (st' := [.ref 70, .ref 71]) (h' := (shT, pm_u2 (pm_u2 (pm_u2 (pm_u2 (pm_u2 (pm_u2 (pm_u2 (pm_u2 (pm_u2 (pm_u2 (pm_u2 (pm_u2 (pm_u2 (pm_u2 fi 71 (t + 0) (bt a1 0)) 71 (t + 1) (bt a1 1)) 71 (t + 2) (bt a1 2)) 71 (t + 3) (bt a1 3)) 71 (t + 4) (bt a2 0)) 71 (t + 5) (bt a2 1)) 71 (t + 6) (bt a2 2)) 71 (t + 7) (bt a2 3)) 71 (t + 8) (bt a3 0)) 71 (t + 9) (bt a3 1)) 71 (t + 10) (bt a3 2)) 71 (t + 11) (bt a3 3)) 71 (t + 12) (bt a4 0)) 71 (t + 13) (bt a4 1), fl, fr)) rfl ?_
  refine gp_of (fun _ k9 => g_getI (x := nI t) rfl (Or.inl rfl) rfl (by decide) (b) k9) ?_
  refine gp_n 12 (j' := 49) (lv' := [some (.ref 70), some (.int a1), some (.int a2), some (.int a3), some (.int a4), some (.int a5), some (.int 14), some (.int a4)]) (st' := [.int ((a4 >>> (8 &&& 31)).toInt8.toInt32), .int ((nI t) + 14), .ref 71]) (h' := (shT, pm_u2 (pm_u2 (pm_u2 (pm_u2 (pm_u2 (pm_u2 (pm_u2 (pm_u2 (pm_u2 (pm_u2 (pm_u2 (pm_u2 (pm_u2 (pm_u2 fi 71 (t + 0) (bt a1 0)) 71 (t + 1) (bt a1 1)) 71 (t + 2) (bt a1 2)) 71 (t + 3) (bt a1 3)) 71 (t + 4) (bt a2 0)) 71 (t + 5) (bt a2 1)) 71 (t + 6) (bt a2 2)) 71 (t + 7) (bt a2 3)) 71 (t + 8) (bt a3 0)) 71 (t + 9) (bt a3 1)) 71 (t + 10) (bt a3 2)) 71 (t + 11) (bt a3 3)) 71 (t + 12) (bt a4 0)) 71 (t + 13) (bt a4 1), fl, fr)) rfl ?_
  show GoP pmT none cd_146 _ _ [.int (bt a4 2), _, _] _ _
  refine gp_of (fun _ k9 => g_bastn (k := t + 14) rfl rfl (nadd t 14) (by omega) (by decide) (bt_nar _ _) k9) ?_
  refine gp_n 4 (j' := 10) (lv' := [some (.ref 70), some (.int a1), some (.int a2), some (.int a3), some (.int a4), some (.int a5), some (.int 15), some (.int a4)]) (st' := [.int 20, .int 15]) (h' := (shT, pm_u2 (pm_u2 (pm_u2 (pm_u2 (pm_u2 (pm_u2 (pm_u2 (pm_u2 (pm_u2 (pm_u2 (pm_u2 (pm_u2 (pm_u2 (pm_u2 (pm_u2 fi 71 (t + 0) (bt a1 0)) 71 (t + 1) (bt a1 1)) 71 (t + 2) (bt a1 2)) 71 (t + 3) (bt a1 3)) 71 (t + 4) (bt a2 0)) 71 (t + 5) (bt a2 1)) 71 (t + 6) (bt a2 2)) 71 (t + 7) (bt a2 3)) 71 (t + 8) (bt a3 0)) 71 (t + 9) (bt a3 1)) 71 (t + 10) (bt a3 2)) 71 (t + 11) (bt a3 3)) 71 (t + 12) (bt a4 0)) 71 (t + 13) (bt a4 1)) 71 (t + 14) (bt a4 2), fl, fr)) rfl ?_
  refine gp_of (fun _ k9 => g_icf rfl (show ¬ ((20 : Int32) ≤ (15 : Int32)) from by decide) k9) ?_
  refine gp_n 2 (j' := 13) (lv' := [some (.ref 70), some (.int a1), some (.int a2), some (.int a3), some (.int a4), some (.int a5), some (.int 15), some (.int a4)]) (st' := [.int 4, .int 15]) (h' := (shT, pm_u2 (pm_u2 (pm_u2 (pm_u2 (pm_u2 (pm_u2 (pm_u2 (pm_u2 (pm_u2 (pm_u2 (pm_u2 (pm_u2 (pm_u2 (pm_u2 (pm_u2 fi 71 (t + 0) (bt a1 0)) 71 (t + 1) (bt a1 1)) 71 (t + 2) (bt a1 2)) 71 (t + 3) (bt a1 3)) 71 (t + 4) (bt a2 0)) 71 (t + 5) (bt a2 1)) 71 (t + 6) (bt a2 2)) 71 (t + 7) (bt a2 3)) 71 (t + 8) (bt a3 0)) 71 (t + 9) (bt a3 1)) 71 (t + 10) (bt a3 2)) 71 (t + 11) (bt a3 3)) 71 (t + 12) (bt a4 0)) 71 (t + 13) (bt a4 1)) 71 (t + 14) (bt a4 2), fl, fr)) rfl ?_
  refine gp_of (fun _ k9 => g_ict rfl (show (4 : Int32) ≤ (15 : Int32) from by decide) k9) ?_
  refine gp_n 2 (j' := 18) (lv' := [some (.ref 70), some (.int a1), some (.int a2), some (.int a3), some (.int a4), some (.int a5), some (.int 15), some (.int a4)]) (st' := [.int 8, .int 15]) (h' := (shT, pm_u2 (pm_u2 (pm_u2 (pm_u2 (pm_u2 (pm_u2 (pm_u2 (pm_u2 (pm_u2 (pm_u2 (pm_u2 (pm_u2 (pm_u2 (pm_u2 (pm_u2 fi 71 (t + 0) (bt a1 0)) 71 (t + 1) (bt a1 1)) 71 (t + 2) (bt a1 2)) 71 (t + 3) (bt a1 3)) 71 (t + 4) (bt a2 0)) 71 (t + 5) (bt a2 1)) 71 (t + 6) (bt a2 2)) 71 (t + 7) (bt a2 3)) 71 (t + 8) (bt a3 0)) 71 (t + 9) (bt a3 1)) 71 (t + 10) (bt a3 2)) 71 (t + 11) (bt a3 3)) 71 (t + 12) (bt a4 0)) 71 (t + 13) (bt a4 1)) 71 (t + 14) (bt a4 2), fl, fr)) rfl ?_
  refine gp_of (fun _ k9 => g_ict rfl (show (8 : Int32) ≤ (15 : Int32) from by decide) k9) ?_
  refine gp_n 2 (j' := 23) (lv' := [some (.ref 70), some (.int a1), some (.int a2), some (.int a3), some (.int a4), some (.int a5), some (.int 15), some (.int a4)]) (st' := [.int 12, .int 15]) (h' := (shT, pm_u2 (pm_u2 (pm_u2 (pm_u2 (pm_u2 (pm_u2 (pm_u2 (pm_u2 (pm_u2 (pm_u2 (pm_u2 (pm_u2 (pm_u2 (pm_u2 (pm_u2 fi 71 (t + 0) (bt a1 0)) 71 (t + 1) (bt a1 1)) 71 (t + 2) (bt a1 2)) 71 (t + 3) (bt a1 3)) 71 (t + 4) (bt a2 0)) 71 (t + 5) (bt a2 1)) 71 (t + 6) (bt a2 2)) 71 (t + 7) (bt a2 3)) 71 (t + 8) (bt a3 0)) 71 (t + 9) (bt a3 1)) 71 (t + 10) (bt a3 2)) 71 (t + 11) (bt a3 3)) 71 (t + 12) (bt a4 0)) 71 (t + 13) (bt a4 1)) 71 (t + 14) (bt a4 2), fl, fr)) rfl ?_
  refine gp_of (fun _ k9 => g_ict rfl (show (12 : Int32) ≤ (15 : Int32) from by decide) k9) ?_
  refine gp_n 2 (j' := 28) (lv' := [some (.ref 70), some (.int a1), some (.int a2), some (.int a3), some (.int a4), some (.int a5), some (.int 15), some (.int a4)]) (st' := [.int 16, .int 15]) (h' := (shT, pm_u2 (pm_u2 (pm_u2 (pm_u2 (pm_u2 (pm_u2 (pm_u2 (pm_u2 (pm_u2 (pm_u2 (pm_u2 (pm_u2 (pm_u2 (pm_u2 (pm_u2 fi 71 (t + 0) (bt a1 0)) 71 (t + 1) (bt a1 1)) 71 (t + 2) (bt a1 2)) 71 (t + 3) (bt a1 3)) 71 (t + 4) (bt a2 0)) 71 (t + 5) (bt a2 1)) 71 (t + 6) (bt a2 2)) 71 (t + 7) (bt a2 3)) 71 (t + 8) (bt a3 0)) 71 (t + 9) (bt a3 1)) 71 (t + 10) (bt a3 2)) 71 (t + 11) (bt a3 3)) 71 (t + 12) (bt a4 0)) 71 (t + 13) (bt a4 1)) 71 (t + 14) (bt a4 2), fl, fr)) rfl ?_
  refine gp_of (fun _ k9 => g_icf rfl (show ¬ ((16 : Int32) ≤ (15 : Int32)) from by decide) k9) ?_
  refine gp_n 4 (j' := 34) (lv' := [some (.ref 70), some (.int a1), some (.int a2), some (.int a3), some (.int a4), some (.int a5), some (.int 15), some (.int a4)]) (st' := [.ref 70]) (h' := (shT, pm_u2 (pm_u2 (pm_u2 (pm_u2 (pm_u2 (pm_u2 (pm_u2 (pm_u2 (pm_u2 (pm_u2 (pm_u2 (pm_u2 (pm_u2 (pm_u2 (pm_u2 fi 71 (t + 0) (bt a1 0)) 71 (t + 1) (bt a1 1)) 71 (t + 2) (bt a1 2)) 71 (t + 3) (bt a1 3)) 71 (t + 4) (bt a2 0)) 71 (t + 5) (bt a2 1)) 71 (t + 6) (bt a2 2)) 71 (t + 7) (bt a2 3)) 71 (t + 8) (bt a3 0)) 71 (t + 9) (bt a3 1)) 71 (t + 10) (bt a3 2)) 71 (t + 11) (bt a3 3)) 71 (t + 12) (bt a4 0)) 71 (t + 13) (bt a4 1)) 71 (t + 14) (bt a4 2), fl, fr)) rfl ?_
  refine gp_of (fun _ k9 => g_getR (q' := 71) rfl rfl (by decide) k0 k9) ?_
  refine gp_n 1 (j' := 36) (lv' := [some (.ref 70), some (.int a1), some (.int a2), some (.int a3), some (.int a4), some (.int a5), some (.int 15), some (.int a4)]) (st' := [.ref 70, .ref 71]) (h' := (shT, pm_u2 (pm_u2 (pm_u2 (pm_u2 (pm_u2 (pm_u2 (pm_u2 (pm_u2 (pm_u2 (pm_u2 (pm_u2 (pm_u2 (pm_u2 (pm_u2 (pm_u2 fi 71 (t + 0) (bt a1 0)) 71 (t + 1) (bt a1 1)) 71 (t + 2) (bt a1 2)) 71 (t + 3) (bt a1 3)) 71 (t + 4) (bt a2 0)) 71 (t + 5) (bt a2 1)) 71 (t + 6) (bt a2 2)) 71 (t + 7) (bt a2 3)) 71 (t + 8) (bt a3 0)) 71 (t + 9) (bt a3 1)) 71 (t + 10) (bt a3 2)) 71 (t + 11) (bt a3 3)) 71 (t + 12) (bt a4 0)) 71 (t + 13) (bt a4 1)) 71 (t + 14) (bt a4 2), fl, fr)) rfl ?_
  refine gp_of (fun _ k9 => g_getI (x := nI t) rfl (Or.inl rfl) rfl (by decide) (b) k9) ?_
  refine gp_n 12 (j' := 49) (lv' := [some (.ref 70), some (.int a1), some (.int a2), some (.int a3), some (.int a4), some (.int a5), some (.int 15), some (.int a4)]) (st' := [.int ((a4 >>> (0 &&& 31)).toInt8.toInt32), .int ((nI t) + 15), .ref 71]) (h' := (shT, pm_u2 (pm_u2 (pm_u2 (pm_u2 (pm_u2 (pm_u2 (pm_u2 (pm_u2 (pm_u2 (pm_u2 (pm_u2 (pm_u2 (pm_u2 (pm_u2 (pm_u2 fi 71 (t + 0) (bt a1 0)) 71 (t + 1) (bt a1 1)) 71 (t + 2) (bt a1 2)) 71 (t + 3) (bt a1 3)) 71 (t + 4) (bt a2 0)) 71 (t + 5) (bt a2 1)) 71 (t + 6) (bt a2 2)) 71 (t + 7) (bt a2 3)) 71 (t + 8) (bt a3 0)) 71 (t + 9) (bt a3 1)) 71 (t + 10) (bt a3 2)) 71 (t + 11) (bt a3 3)) 71 (t + 12) (bt a4 0)) 71 (t + 13) (bt a4 1)) 71 (t + 14) (bt a4 2), fl, fr)) rfl ?_
  show GoP pmT none cd_146 _ _ [.int (bt a4 3), _, _] _ _
  refine gp_of (fun _ k9 => g_bastn (k := t + 15) rfl rfl (nadd t 15) (by omega) (by decide) (bt_nar _ _) k9) ?_
  refine gp_n 4 (j' := 10) (lv' := [some (.ref 70), some (.int a1), some (.int a2), some (.int a3), some (.int a4), some (.int a5), some (.int 16), some (.int a4)]) (st' := [.int 20, .int 16]) (h' := (shT, pm_u2 (pm_u2 (pm_u2 (pm_u2 (pm_u2 (pm_u2 (pm_u2 (pm_u2 (pm_u2 (pm_u2 (pm_u2 (pm_u2 (pm_u2 (pm_u2 (pm_u2 (pm_u2 fi 71 (t + 0) (bt a1 0)) 71 (t + 1) (bt a1 1)) 71 (t + 2) (bt a1 2)) 71 (t + 3) (bt a1 3)) 71 (t + 4) (bt a2 0)) 71 (t + 5) (bt a2 1)) 71 (t + 6) (bt a2 2)) 71 (t + 7) (bt a2 3)) 71 (t + 8) (bt a3 0)) 71 (t + 9) (bt a3 1)) 71 (t + 10) (bt a3 2)) 71 (t + 11) (bt a3 3)) 71 (t + 12) (bt a4 0)) 71 (t + 13) (bt a4 1)) 71 (t + 14) (bt a4 2)) 71 (t + 15) (bt a4 3), fl, fr)) rfl ?_
  refine gp_of (fun _ k9 => g_icf rfl (show ¬ ((20 : Int32) ≤ (16 : Int32)) from by decide) k9) ?_
  refine gp_n 2 (j' := 13) (lv' := [some (.ref 70), some (.int a1), some (.int a2), some (.int a3), some (.int a4), some (.int a5), some (.int 16), some (.int a4)]) (st' := [.int 4, .int 16]) (h' := (shT, pm_u2 (pm_u2 (pm_u2 (pm_u2 (pm_u2 (pm_u2 (pm_u2 (pm_u2 (pm_u2 (pm_u2 (pm_u2 (pm_u2 (pm_u2 (pm_u2 (pm_u2 (pm_u2 fi 71 (t + 0) (bt a1 0)) 71 (t + 1) (bt a1 1)) 71 (t + 2) (bt a1 2)) 71 (t + 3) (bt a1 3)) 71 (t + 4) (bt a2 0)) 71 (t + 5) (bt a2 1)) 71 (t + 6) (bt a2 2)) 71 (t + 7) (bt a2 3)) 71 (t + 8) (bt a3 0)) 71 (t + 9) (bt a3 1)) 71 (t + 10) (bt a3 2)) 71 (t + 11) (bt a3 3)) 71 (t + 12) (bt a4 0)) 71 (t + 13) (bt a4 1)) 71 (t + 14) (bt a4 2)) 71 (t + 15) (bt a4 3), fl, fr)) rfl ?_
  refine gp_of (fun _ k9 => g_ict rfl (show (4 : Int32) ≤ (16 : Int32) from by decide) k9) ?_
  refine gp_n 2 (j' := 18) (lv' := [some (.ref 70), some (.int a1), some (.int a2), some (.int a3), some (.int a4), some (.int a5), some (.int 16), some (.int a4)]) (st' := [.int 8, .int 16]) (h' := (shT, pm_u2 (pm_u2 (pm_u2 (pm_u2 (pm_u2 (pm_u2 (pm_u2 (pm_u2 (pm_u2 (pm_u2 (pm_u2 (pm_u2 (pm_u2 (pm_u2 (pm_u2 (pm_u2 fi 71 (t + 0) (bt a1 0)) 71 (t + 1) (bt a1 1)) 71 (t + 2) (bt a1 2)) 71 (t + 3) (bt a1 3)) 71 (t + 4) (bt a2 0)) 71 (t + 5) (bt a2 1)) 71 (t + 6) (bt a2 2)) 71 (t + 7) (bt a2 3)) 71 (t + 8) (bt a3 0)) 71 (t + 9) (bt a3 1)) 71 (t + 10) (bt a3 2)) 71 (t + 11) (bt a3 3)) 71 (t + 12) (bt a4 0)) 71 (t + 13) (bt a4 1)) 71 (t + 14) (bt a4 2)) 71 (t + 15) (bt a4 3), fl, fr)) rfl ?_
  refine gp_of (fun _ k9 => g_ict rfl (show (8 : Int32) ≤ (16 : Int32) from by decide) k9) ?_
  refine gp_n 2 (j' := 23) (lv' := [some (.ref 70), some (.int a1), some (.int a2), some (.int a3), some (.int a4), some (.int a5), some (.int 16), some (.int a4)]) (st' := [.int 12, .int 16]) (h' := (shT, pm_u2 (pm_u2 (pm_u2 (pm_u2 (pm_u2 (pm_u2 (pm_u2 (pm_u2 (pm_u2 (pm_u2 (pm_u2 (pm_u2 (pm_u2 (pm_u2 (pm_u2 (pm_u2 fi 71 (t + 0) (bt a1 0)) 71 (t + 1) (bt a1 1)) 71 (t + 2) (bt a1 2)) 71 (t + 3) (bt a1 3)) 71 (t + 4) (bt a2 0)) 71 (t + 5) (bt a2 1)) 71 (t + 6) (bt a2 2)) 71 (t + 7) (bt a2 3)) 71 (t + 8) (bt a3 0)) 71 (t + 9) (bt a3 1)) 71 (t + 10) (bt a3 2)) 71 (t + 11) (bt a3 3)) 71 (t + 12) (bt a4 0)) 71 (t + 13) (bt a4 1)) 71 (t + 14) (bt a4 2)) 71 (t + 15) (bt a4 3), fl, fr)) rfl ?_
  refine gp_of (fun _ k9 => g_ict rfl (show (12 : Int32) ≤ (16 : Int32) from by decide) k9) ?_
  refine gp_n 2 (j' := 28) (lv' := [some (.ref 70), some (.int a1), some (.int a2), some (.int a3), some (.int a4), some (.int a5), some (.int 16), some (.int a4)]) (st' := [.int 16, .int 16]) (h' := (shT, pm_u2 (pm_u2 (pm_u2 (pm_u2 (pm_u2 (pm_u2 (pm_u2 (pm_u2 (pm_u2 (pm_u2 (pm_u2 (pm_u2 (pm_u2 (pm_u2 (pm_u2 (pm_u2 fi 71 (t + 0) (bt a1 0)) 71 (t + 1) (bt a1 1)) 71 (t + 2) (bt a1 2)) 71 (t + 3) (bt a1 3)) 71 (t + 4) (bt a2 0)) 71 (t + 5) (bt a2 1)) 71 (t + 6) (bt a2 2)) 71 (t + 7) (bt a2 3)) 71 (t + 8) (bt a3 0)) 71 (t + 9) (bt a3 1)) 71 (t + 10) (bt a3 2)) 71 (t + 11) (bt a3 3)) 71 (t + 12) (bt a4 0)) 71 (t + 13) (bt a4 1)) 71 (t + 14) (bt a4 2)) 71 (t + 15) (bt a4 3), fl, fr)) rfl ?_
  refine gp_of (fun _ k9 => g_ict rfl (show (16 : Int32) ≤ (16 : Int32) from by decide) k9) ?_
  refine gp_n 3 (j' := 34) (lv' := [some (.ref 70), some (.int a1), some (.int a2), some (.int a3), some (.int a4), some (.int a5), some (.int 16), some (.int a5)]) (st' := [.ref 70]) (h' := (shT, pm_u2 (pm_u2 (pm_u2 (pm_u2 (pm_u2 (pm_u2 (pm_u2 (pm_u2 (pm_u2 (pm_u2 (pm_u2 (pm_u2 (pm_u2 (pm_u2 (pm_u2 (pm_u2 fi 71 (t + 0) (bt a1 0)) 71 (t + 1) (bt a1 1)) 71 (t + 2) (bt a1 2)) 71 (t + 3) (bt a1 3)) 71 (t + 4) (bt a2 0)) 71 (t + 5) (bt a2 1)) 71 (t + 6) (bt a2 2)) 71 (t + 7) (bt a2 3)) 71 (t + 8) (bt a3 0)) 71 (t + 9) (bt a3 1)) 71 (t + 10) (bt a3 2)) 71 (t + 11) (bt a3 3)) 71 (t + 12) (bt a4 0)) 71 (t + 13) (bt a4 1)) 71 (t + 14) (bt a4 2)) 71 (t + 15) (bt a4 3), fl, fr)) rfl ?_
  refine gp_of (fun _ k9 => g_getR (q' := 71) rfl rfl (by decide) k0 k9) ?_
  refine gp_n 1 (j' := 36) (lv' := [some (.ref 70), some (.int a1), some (.int a2), some (.int a3), some (.int a4), some (.int a5), some (.int 16), some (.int a5)]) (st' := [.ref 70, .ref 71]) (h' := (shT, pm_u2 (pm_u2 (pm_u2 (pm_u2 (pm_u2 (pm_u2 (pm_u2 (pm_u2 (pm_u2 (pm_u2 (pm_u2 (pm_u2 (pm_u2 (pm_u2 (pm_u2 (pm_u2 fi 71 (t + 0) (bt a1 0)) 71 (t + 1) (bt a1 1)) 71 (t + 2) (bt a1 2)) 71 (t + 3) (bt a1 3)) 71 (t + 4) (bt a2 0)) 71 (t + 5) (bt a2 1)) 71 (t + 6) (bt a2 2)) 71 (t + 7) (bt a2 3)) 71 (t + 8) (bt a3 0)) 71 (t + 9) (bt a3 1)) 71 (t + 10) (bt a3 2)) 71 (t + 11) (bt a3 3)) 71 (t + 12) (bt a4 0)) 71 (t + 13) (bt a4 1)) 71 (t + 14) (bt a4 2)) 71 (t + 15) (bt a4 3), fl, fr)) rfl ?_
  refine gp_of (fun _ k9 => g_getI (x := nI t) rfl (Or.inl rfl) rfl (by decide) (b) k9) ?_
  refine gp_n 12 (j' := 49) (lv' := [some (.ref 70), some (.int a1), some (.int a2), some (.int a3), some (.int a4), some (.int a5), some (.int 16), some (.int a5)]) (st' := [.int ((a5 >>> (24 &&& 31)).toInt8.toInt32), .int ((nI t) + 16), .ref 71]) (h' := (shT, pm_u2 (pm_u2 (pm_u2 (pm_u2 (pm_u2 (pm_u2 (pm_u2 (pm_u2 (pm_u2 (pm_u2 (pm_u2 (pm_u2 (pm_u2 (pm_u2 (pm_u2 (pm_u2 fi 71 (t + 0) (bt a1 0)) 71 (t + 1) (bt a1 1)) 71 (t + 2) (bt a1 2)) 71 (t + 3) (bt a1 3)) 71 (t + 4) (bt a2 0)) 71 (t + 5) (bt a2 1)) 71 (t + 6) (bt a2 2)) 71 (t + 7) (bt a2 3)) 71 (t + 8) (bt a3 0)) 71 (t + 9) (bt a3 1)) 71 (t + 10) (bt a3 2)) 71 (t + 11) (bt a3 3)) 71 (t + 12) (bt a4 0)) 71 (t + 13) (bt a4 1)) 71 (t + 14) (bt a4 2)) 71 (t + 15) (bt a4 3), fl, fr)) rfl ?_
  show GoP pmT none cd_146 _ _ [.int (bt a5 0), _, _] _ _
  refine gp_of (fun _ k9 => g_bastn (k := t + 16) rfl rfl (nadd t 16) (by omega) (by decide) (bt_nar _ _) k9) ?_
  refine gp_n 4 (j' := 10) (lv' := [some (.ref 70), some (.int a1), some (.int a2), some (.int a3), some (.int a4), some (.int a5), some (.int 17), some (.int a5)]) (st' := [.int 20, .int 17]) (h' := (shT, pm_u2 (pm_u2 (pm_u2 (pm_u2 (pm_u2 (pm_u2 (pm_u2 (pm_u2 (pm_u2 (pm_u2 (pm_u2 (pm_u2 (pm_u2 (pm_u2 (pm_u2 (pm_u2 (pm_u2 fi 71 (t + 0) (bt a1 0)) 71 (t + 1) (bt a1 1)) 71 (t + 2) (bt a1 2)) 71 (t + 3) (bt a1 3)) 71 (t + 4) (bt a2 0)) 71 (t + 5) (bt a2 1)) 71 (t + 6) (bt a2 2)) 71 (t + 7) (bt a2 3)) 71 (t + 8) (bt a3 0)) 71 (t + 9) (bt a3 1)) 71 (t + 10) (bt a3 2)) 71 (t + 11) (bt a3 3)) 71 (t + 12) (bt a4 0)) 71 (t + 13) (bt a4 1)) 71 (t + 14) (bt a4 2)) 71 (t + 15) (bt a4 3)) 71 (t + 16) (bt a5 0), fl, fr)) rfl ?_
  refine gp_of (fun _ k9 => g_icf rfl (show ¬ ((20 : Int32) ≤ (17 : Int32)) from by decide) k9) ?_
  refine gp_n 2 (j' := 13) (lv' := [some (.ref 70), some (.int a1), some (.int a2), some (.int a3), some (.int a4), some (.int a5), some (.int 17), some (.int a5)]) (st' := [.int 4, .int 17]) (h' := (shT, pm_u2 (pm_u2 (pm_u2 (pm_u2 (pm_u2 (pm_u2 (pm_u2 (pm_u2 (pm_u2 (pm_u2 (pm_u2 (pm_u2 (pm_u2 (pm_u2 (pm_u2 (pm_u2 (pm_u2 fi 71 (t + 0) (bt a1 0)) 71 (t + 1) (bt a1 1)) 71 (t + 2) (bt a1 2)) 71 (t + 3) (bt a1 3)) 71 (t + 4) (bt a2 0)) 71 (t + 5) (bt a2 1)) 71 (t + 6) (bt a2 2)) 71 (t + 7) (bt a2 3)) 71 (t + 8) (bt a3 0)) 71 (t + 9) (bt a3 1)) 71 (t + 10) (bt a3 2)) 71 (t + 11) (bt a3 3)) 71 (t + 12) (bt a4 0)) 71 (t + 13) (bt a4 1)) 71 (t + 14) (bt a4 2)) 71 (t + 15) (bt a4 3)) 71 (t + 16) (bt a5 0), fl, fr)) rfl ?_
  refine gp_of (fun _ k9 => g_ict rfl (show (4 : Int32) ≤ (17 : Int32) from by decide) k9) ?_
  refine gp_n 2 (j' := 18) (lv' := [some (.ref 70), some (.int a1), some (.int a2), some (.int a3), some (.int a4), some (.int a5), some (.int 17), some (.int a5)]) (st' := [.int 8, .int 17]) (h' := (shT, pm_u2 (pm_u2 (pm_u2 (pm_u2 (pm_u2 (pm_u2 (pm_u2 (pm_u2 (pm_u2 (pm_u2 (pm_u2 (pm_u2 (pm_u2 (pm_u2 (pm_u2 (pm_u2 (pm_u2 fi 71 (t + 0) (bt a1 0)) 71 (t + 1) (bt a1 1)) 71 (t + 2) (bt a1 2)) 71 (t + 3) (bt a1 3)) 71 (t + 4) (bt a2 0)) 71 (t + 5) (bt a2 1)) 71 (t + 6) (bt a2 2)) 71 (t + 7) (bt a2 3)) 71 (t + 8) (bt a3 0)) 71 (t + 9) (bt a3 1)) 71 (t + 10) (bt a3 2)) 71 (t + 11) (bt a3 3)) 71 (t + 12) (bt a4 0)) 71 (t + 13) (bt a4 1)) 71 (t + 14) (bt a4 2)) 71 (t + 15) (bt a4 3)) 71 (t + 16) (bt a5 0), fl, fr)) rfl ?_
  refine gp_of (fun _ k9 => g_ict rfl (show (8 : Int32) ≤ (17 : Int32) from by decide) k9) ?_
  refine gp_n 2 (j' := 23) (lv' := [some (.ref 70), some (.int a1), some (.int a2), some (.int a3), some (.int a4), some (.int a5), some (.int 17), some (.int a5)]) (st' := [.int 12, .int 17]) (h' := (shT, pm_u2 (pm_u2 (pm_u2 (pm_u2 (pm_u2 (pm_u2 (pm_u2 (pm_u2 (pm_u2 (pm_u2 (pm_u2 (pm_u2 (pm_u2 (pm_u2 (pm_u2 (pm_u2 (pm_u2 fi 71 (t + 0) (bt a1 0)) 71 (t + 1) (bt a1 1)) 71 (t + 2) (bt a1 2)) 71 (t + 3) (bt a1 3)) 71 (t + 4) (bt a2 0)) 71 (t + 5) (bt a2 1)) 71 (t + 6) (bt a2 2)) 71 (t + 7) (bt a2 3)) 71 (t + 8) (bt a3 0)) 71 (t + 9) (bt a3 1)) 71 (t + 10) (bt a3 2)) 71 (t + 11) (bt a3 3)) 71 (t + 12) (bt a4 0)) 71 (t + 13) (bt a4 1)) 71 (t + 14) (bt a4 2)) 71 (t + 15) (bt a4 3)) 71 (t + 16) (bt a5 0), fl, fr)) rfl ?_
  refine gp_of (fun _ k9 => g_ict rfl (show (12 : Int32) ≤ (17 : Int32) from by decide) k9) ?_
  refine gp_n 2 (j' := 28) (lv' := [some (.ref 70), some (.int a1), some (.int a2), some (.int a3), some (.int a4), some (.int a5), some (.int 17), some (.int a5)]) (st' := [.int 16, .int 17]) (h' := (shT, pm_u2 (pm_u2 (pm_u2 (pm_u2 (pm_u2 (pm_u2 (pm_u2 (pm_u2 (pm_u2 (pm_u2 (pm_u2 (pm_u2 (pm_u2 (pm_u2 (pm_u2 (pm_u2 (pm_u2 fi 71 (t + 0) (bt a1 0)) 71 (t + 1) (bt a1 1)) 71 (t + 2) (bt a1 2)) 71 (t + 3) (bt a1 3)) 71 (t + 4) (bt a2 0)) 71 (t + 5) (bt a2 1)) 71 (t + 6) (bt a2 2)) 71 (t + 7) (bt a2 3)) 71 (t + 8) (bt a3 0)) 71 (t + 9) (bt a3 1)) 71 (t + 10) (bt a3 2)) 71 (t + 11) (bt a3 3)) 71 (t + 12) (bt a4 0)) 71 (t + 13) (bt a4 1)) 71 (t + 14) (bt a4 2)) 71 (t + 15) (bt a4 3)) 71 (t + 16) (bt a5 0), fl, fr)) rfl ?_
  refine gp_of (fun _ k9 => g_ict rfl (show (16 : Int32) ≤ (17 : Int32) from by decide) k9) ?_
  refine gp_n 3 (j' := 34) (lv' := [some (.ref 70), some (.int a1), some (.int a2), some (.int a3), some (.int a4), some (.int a5), some (.int 17), some (.int a5)]) (st' := [.ref 70]) (h' := (shT, pm_u2 (pm_u2 (pm_u2 (pm_u2 (pm_u2 (pm_u2 (pm_u2 (pm_u2 (pm_u2 (pm_u2 (pm_u2 (pm_u2 (pm_u2 (pm_u2 (pm_u2 (pm_u2 (pm_u2 fi 71 (t + 0) (bt a1 0)) 71 (t + 1) (bt a1 1)) 71 (t + 2) (bt a1 2)) 71 (t + 3) (bt a1 3)) 71 (t + 4) (bt a2 0)) 71 (t + 5) (bt a2 1)) 71 (t + 6) (bt a2 2)) 71 (t + 7) (bt a2 3)) 71 (t + 8) (bt a3 0)) 71 (t + 9) (bt a3 1)) 71 (t + 10) (bt a3 2)) 71 (t + 11) (bt a3 3)) 71 (t + 12) (bt a4 0)) 71 (t + 13) (bt a4 1)) 71 (t + 14) (bt a4 2)) 71 (t + 15) (bt a4 3)) 71 (t + 16) (bt a5 0), fl, fr)) rfl ?_
  refine gp_of (fun _ k9 => g_getR (q' := 71) rfl rfl (by decide) k0 k9) ?_
  refine gp_n 1 (j' := 36) (lv' := [some (.ref 70), some (.int a1), some (.int a2), some (.int a3), some (.int a4), some (.int a5), some (.int 17), some (.int a5)]) (st' := [.ref 70, .ref 71]) (h' := (shT, pm_u2 (pm_u2 (pm_u2 (pm_u2 (pm_u2 (pm_u2 (pm_u2 (pm_u2 (pm_u2 (pm_u2 (pm_u2 (pm_u2 (pm_u2 (pm_u2 (pm_u2 (pm_u2 (pm_u2 fi 71 (t + 0) (bt a1 0)) 71 (t + 1) (bt a1 1)) 71 (t + 2) (bt a1 2)) 71 (t + 3) (bt a1 3)) 71 (t + 4) (bt a2 0)) 71 (t + 5) (bt a2 1)) 71 (t + 6) (bt a2 2)) 71 (t + 7) (bt a2 3)) 71 (t + 8) (bt a3 0)) 71 (t + 9) (bt a3 1)) 71 (t + 10) (bt a3 2)) 71 (t + 11) (bt a3 3)) 71 (t + 12) (bt a4 0)) 71 (t + 13) (bt a4 1)) 71 (t + 14) (bt a4 2)) 71 (t + 15) (bt a4 3)) 71 (t + 16) (bt a5 0), fl, fr)) rfl ?_
  refine gp_of (fun _ k9 => g_getI (x := nI t) rfl (Or.inl rfl) rfl (by decide) (b) k9) ?_
  refine gp_n 12 (j' := 49) (lv' := [some (.ref 70), some (.int a1), some (.int a2), some (.int a3), some (.int a4), some (.int a5), some (.int 17), some (.int a5)]) (st' := [.int ((a5 >>> (16 &&& 31)).toInt8.toInt32), .int ((nI t) + 17), .ref 71]) (h' := (shT, pm_u2 (pm_u2 (pm_u2 (pm_u2 (pm_u2 (pm_u2 (pm_u2 (pm_u2 (pm_u2 (pm_u2 (pm_u2 (pm_u2 (pm_u2 (pm_u2 (pm_u2 (pm_u2 (pm_u2 fi 71 (t + 0) (bt a1 0)) 71 (t + 1) (bt a1 1)) 71 (t + 2) (bt a1 2)) 71 (t + 3) (bt a1 3)) 71 (t + 4) (bt a2 0)) 71 (t + 5) (bt a2 1)) 71 (t + 6) (bt a2 2)) 71 (t + 7) (bt a2 3)) 71 (t + 8) (bt a3 0)) 71 (t + 9) (bt a3 1)) 71 (t + 10) (bt a3 2)) 71 (t + 11) (bt a3 3)) 71 (t + 12) (bt a4 0)) 71 (t + 13) (bt a4 1)) 71 (t + 14) (bt a4 2)) 71 (t + 15) (bt a4 3)) 71 (t + 16) (bt a5 0), fl, fr)) rfl ?_
  show GoP pmT none cd_146 _ _ [.int (bt a5 1), _, _] _ _
  refine gp_of (fun _ k9 => g_bastn (k := t + 17) rfl rfl (nadd t 17) (by omega) (by decide) (bt_nar _ _) k9) ?_
  refine gp_n 4 (j' := 10) (lv' := [some (.ref 70), some (.int a1), some (.int a2), some (.int a3), some (.int a4), some (.int a5), some (.int 18), some (.int a5)]) (st' := [.int 20, .int 18]) (h' := (shT, pm_u2 (pm_u2 (pm_u2 (pm_u2 (pm_u2 (pm_u2 (pm_u2 (pm_u2 (pm_u2 (pm_u2 (pm_u2 (pm_u2 (pm_u2 (pm_u2 (pm_u2 (pm_u2 (pm_u2 (pm_u2 fi 71 (t + 0) (bt a1 0)) 71 (t + 1) (bt a1 1)) 71 (t + 2) (bt a1 2)) 71 (t + 3) (bt a1 3)) 71 (t + 4) (bt a2 0)) 71 (t + 5) (bt a2 1)) 71 (t + 6) (bt a2 2)) 71 (t + 7) (bt a2 3)) 71 (t + 8) (bt a3 0)) 71 (t + 9) (bt a3 1)) 71 (t + 10) (bt a3 2)) 71 (t + 11) (bt a3 3)) 71 (t + 12) (bt a4 0)) 71 (t + 13) (bt a4 1)) 71 (t + 14) (bt a4 2)) 71 (t + 15) (bt a4 3)) 71 (t + 16) (bt a5 0)) 71 (t + 17) (bt a5 1), fl, fr)) rfl ?_
  refine gp_of (fun _ k9 => g_icf rfl (show ¬ ((20 : Int32) ≤ (18 : Int32)) from by decide) k9) ?_
  refine gp_n 2 (j' := 13) (lv' := [some (.ref 70), some (.int a1), some (.int a2), some (.int a3), some (.int a4), some (.int a5), some (.int 18), some (.int a5)]) (st' := [.int 4, .int 18]) (h' := (shT, pm_u2 (pm_u2 (pm_u2 (pm_u2 (pm_u2 (pm_u2 (pm_u2 (pm_u2 (pm_u2 (pm_u2 (pm_u2 (pm_u2 (pm_u2 (pm_u2 (pm_u2 (pm_u2 (pm_u2 (pm_u2 fi 71 (t + 0) (bt a1 0)) 71 (t + 1) (bt a1 1)) 71 (t + 2) (bt a1 2)) 71 (t + 3) (bt a1 3)) 71 (t + 4) (bt a2 0)) 71 (t + 5) (bt a2 1)) 71 (t + 6) (bt a2 2)) 71 (t + 7) (bt a2 3)) 71 (t + 8) (bt a3 0)) 71 (t + 9) (bt a3 1)) 71 (t + 10) (bt a3 2)) 71 (t + 11) (bt a3 3)) 71 (t + 12) (bt a4 0)) 71 (t + 13) (bt a4 1)) 71 (t + 14) (bt a4 2)) 71 (t + 15) (bt a4 3)) 71 (t + 16) (bt a5 0)) 71 (t + 17) (bt a5 1), fl, fr)) rfl ?_
  refine gp_of (fun _ k9 => g_ict rfl (show (4 : Int32) ≤ (18 : Int32) from by decide) k9) ?_
  refine gp_n 2 (j' := 18) (lv' := [some (.ref 70), some (.int a1), some (.int a2), some (.int a3), some (.int a4), some (.int a5), some (.int 18), some (.int a5)]) (st' := [.int 8, .int 18]) (h' := (shT, pm_u2 (pm_u2 (pm_u2 (pm_u2 (pm_u2 (pm_u2 (pm_u2 (pm_u2 (pm_u2 (pm_u2 (pm_u2 (pm_u2 (pm_u2 (pm_u2 (pm_u2 (pm_u2 (pm_u2 (pm_u2 fi 71 (t + 0) (bt a1 0)) 71 (t + 1) (bt a1 1)) 71 (t + 2) (bt a1 2)) 71 (t + 3) (bt a1 3)) 71 (t + 4) (bt a2 0)) 71 (t + 5) (bt a2 1)) 71 (t + 6) (bt a2 2)) 71 (t + 7) (bt a2 3)) 71 (t + 8) (bt a3 0)) 71 (t + 9) (bt a3 1)) 71 (t + 10) (bt a3 2)) 71 (t + 11) (bt a3 3)) 71 (t + 12) (bt a4 0)) 71 (t + 13) (bt a4 1)) 71 (t + 14) (bt a4 2)) 71 (t + 15) (bt a4 3)) 71 (t + 16) (bt a5 0)) 71 (t + 17) (bt a5 1), fl, fr)) rfl ?_
  refine gp_of (fun _ k9 => g_ict rfl (show (8 : Int32) ≤ (18 : Int32) from by decide) k9) ?_
  refine gp_n 2 (j' := 23) (lv' := [some (.ref 70), some (.int a1), some (.int a2), some (.int a3), some (.int a4), some (.int a5), some (.int 18), some (.int a5)]) (st' := [.int 12, .int 18]) (h' := (shT, pm_u2 (pm_u2 (pm_u2 (pm_u2 (pm_u2 (pm_u2 (pm_u2 (pm_u2 (pm_u2 (pm_u2 (pm_u2 (pm_u2 (pm_u2 (pm_u2 (pm_u2 (pm_u2 (pm_u2 (pm_u2 fi 71 (t + 0) (bt a1 0)) 71 (t + 1) (bt a1 1)) 71 (t + 2) (bt a1 2)) 71 (t + 3) (bt a1 3)) 71 (t + 4) (bt a2 0)) 71 (t + 5) (bt a2 1)) 71 (t + 6) (bt a2 2)) 71 (t + 7) (bt a2 3)) 71 (t + 8) (bt a3 0)) 71 (t + 9) (bt a3 1)) 71 (t + 10) (bt a3 2)) 71 (t + 11) (bt a3 3)) 71 (t + 12) (bt a4 0)) 71 (t + 13) (bt a4 1)) 71 (t + 14) (bt a4 2)) 71 (t + 15) (bt a4 3)) 71 (t + 16) (bt a5 0)) 71 (t + 17) (bt a5 1), fl, fr)) rfl ?_
  refine gp_of (fun _ k9 => g_ict rfl (show (12 : Int32) ≤ (18 : Int32) from by decide) k9) ?_
  refine gp_n 2 (j' := 28) (lv' := [some (.ref 70), some (.int a1), some (.int a2), some (.int a3), some (.int a4), some (.int a5), some (.int 18), some (.int a5)]) (st' := [.int 16, .int 18]) (h' := (shT, pm_u2 (pm_u2 (pm_u2 (pm_u2 (pm_u2 (pm_u2 (pm_u2 (pm_u2 (pm_u2 (pm_u2 (pm_u2 (pm_u2 (pm_u2 (pm_u2 (pm_u2 (pm_u2 (pm_u2 (pm_u2 fi 71 (t + 0) (bt a1 0)) 71 (t + 1) (bt a1 1)) 71 (t + 2) (bt a1 2)) 71 (t + 3) (bt a1 3)) 71 (t + 4) (bt a2 0)) 71 (t + 5) (bt a2 1)) 71 (t + 6) (bt a2 2)) 71 (t + 7) (bt a2 3)) 71 (t + 8) (bt a3 0)) 71 (t + 9) (bt a3 1)) 71 (t + 10) (bt a3 2)) 71 (t + 11) (bt a3 3)) 71 (t + 12) (bt a4 0)) 71 (t + 13) (bt a4 1)) 71 (t + 14) (bt a4 2)) 71 (t + 15) (bt a4 3)) 71 (t + 16) (bt a5 0)) 71 (t + 17) (bt a5 1), fl, fr)) rfl ?_
  refine gp_of (fun _ k9 => g_ict rfl (show (16 : Int32) ≤ (18 : Int32) from by decide) k9) ?_
  refine gp_n 3 (j' := 34) (lv' := [some (.ref 70), some (.int a1), some (.int a2), some (.int a3), some (.int a4), some (.int a5), some (.int 18), some (.int a5)]) (st' := [.ref 70]) (h' := (shT, pm_u2 (pm_u2 (pm_u2 (pm_u2 (pm_u2 (pm_u2 (pm_u2 (pm_u2 (pm_u2 (pm_u2 (pm_u2 (pm_u2 (pm_u2 (pm_u2 (pm_u2 (pm_u2 (pm_u2 (pm_u2 fi 71 (t + 0) (bt a1 0)) 71 (t + 1) (bt a1 1)) 71 (t + 2) (bt a1 2)) 71 (t + 3) (bt a1 3)) 71 (t + 4) (bt a2 0)) 71 (t + 5) (bt a2 1)) 71 (t + 6) (bt a2 2)) 71 (t + 7) (bt a2 3)) 71 (t + 8) (bt a3 0)) 71 (t + 9) (bt a3 1)) 71 (t + 10) (bt a3 2)) 71 (t + 11) (bt a3 3)) 71 (t + 12) (bt a4 0)) 71 (t + 13) (bt a4 1)) 71 (t + 14) (bt a4 2)) 71 (t + 15) (bt a4 3)) 71 (t + 16) (bt a5 0)) 71 (t + 17) (bt a5 1), fl, fr)) rfl ?_
  refine gp_of (fun _ k9 => g_getR (q' := 71) rfl rfl (by decide) k0 k9) ?_
  refine gp_n 1 (j' := 36) (lv' := [some (.ref 70), some (.int a1), some (.int a2), some (.int a3), some (.int a4), some (.int a5), some (.int 18), some (.int a5)]) (st' := [.ref 70, .ref 71]) (h' := (shT, pm_u2 (pm_u2 (pm_u2 (pm_u2 (pm_u2 (pm_u2 (pm_u2 (pm_u2 (pm_u2 (pm_u2 (pm_u2 (pm_u2 (pm_u2 (pm_u2 (pm_u2 (pm_u2 (pm_u2 (pm_u2 fi 71 (t + 0) (bt a1 0)) 71 (t + 1) (bt a1 1)) 71 (t + 2) (bt a1 2)) 71 (t + 3) (bt a1 3)) 71 (t + 4) (bt a2 0)) 71 (t + 5) (bt a2 1)) 71 (t + 6) (bt a2 2)) 71 (t + 7) (bt a2 3)) 71 (t + 8) (bt a3 0)) 71 (t + 9) (bt a3 1)) 71 (t + 10) (bt a3 2)) 71 (t + 11) (bt a3 3)) 71 (t + 12) (bt a4 0)) 71 (t + 13) (bt a4 1)) 71 (t + 14) (bt a4 2)) 71 (t + 15) (bt a4 3)) 71 (t + 16) (bt a5 0)) 71 (t + 17) (bt a5 1), fl, fr)) rfl ?_
  refine gp_of (fun _ k9 => g_getI (x := nI t) rfl (Or.inl rfl) rfl (by decide) (b) k9) ?_
  refine gp_n 12 (j' := 49) (lv' := [some (.ref 70), some (.int a1), some (.int a2), some (.int a3), some (.int a4), some (.int a5), some (.int 18), some (.int a5)]) (st' := [.int ((a5 >>> (8 &&& 31)).toInt8.toInt32), .int ((nI t) + 18), .ref 71]) (h' := (shT, pm_u2 (pm_u2 (pm_u2 (pm_u2 (pm_u2 (pm_u2 (pm_u2 (pm_u2 (pm_u2 (pm_u2 (pm_u2 (pm_u2 (pm_u2 (pm_u2 (pm_u2 (pm_u2 (pm_u2 (pm_u2 fi 71 (t + 0) (bt a1 0)) 71 (t + 1) (bt a1 1)) 71 (t + 2) (bt a1 2)) 71 (t + 3) (bt a1 3)) 71 (t + 4) (bt a2 0)) 71 (t + 5) (bt a2 1)) 71 (t + 6) (bt a2 2)) 71 (t + 7) (bt a2 3)) 71 (t + 8) (bt a3 0)) 71 (t + 9) (bt a3 1)) 71 (t + 10) (bt a3 2)) 71 (t + 11) (bt a3 3)) 71 (t + 12) (bt a4 0)) 71 (t + 13) (bt a4 1)) 71 (t + 14) (bt a4 2)) 71 (t + 15) (bt a4 3)) 71 (t + 16) (bt a5 0)) 71 (t + 17) (bt a5 1), fl, fr)) rfl ?_
  show GoP pmT none cd_146 _ _ [.int (bt a5 2), _, _] _ _
  refine gp_of (fun _ k9 => g_bastn (k := t + 18) rfl rfl (nadd t 18) (by omega) (by decide) (bt_nar _ _) k9) ?_
  refine gp_n 4 (j' := 10) (lv' := [some (.ref 70), some (.int a1), some (.int a2), some (.int a3), some (.int a4), some (.int a5), some (.int 19), some (.int a5)]) (st' := [.int 20, .int 19]) (h' := (shT, pm_u2 (pm_u2 (pm_u2 (pm_u2 (pm_u2 (pm_u2 (pm_u2 (pm_u2 (pm_u2 (pm_u2 (pm_u2 (pm_u2 (pm_u2 (pm_u2 (pm_u2 (pm_u2 (pm_u2 (pm_u2 (pm_u2 fi 71 (t + 0) (bt a1 0)) 71 (t + 1) (bt a1 1)) 71 (t + 2) (bt a1 2)) 71 (t + 3) (bt a1 3)) 71 (t + 4) (bt a2 0)) 71 (t + 5) (bt a2 1)) 71 (t + 6) (bt a2 2)) 71 (t + 7) (bt a2 3)) 71 (t + 8) (bt a3 0)) 71 (t + 9) (bt a3 1)) 71 (t + 10) (bt a3 2)) 71 (t + 11) (bt a3 3)) 71 (t + 12) (bt a4 0)) 71 (t + 13) (bt a4 1)) 71 (t + 14) (bt a4 2)) 71 (t + 15) (bt a4 3)) 71 (t + 16) (bt a5 0)) 71 (t + 17) (bt a5 1)) 71 (t + 18) (bt a5 2), fl, fr)) rfl ?_
  refine gp_of (fun _ k9 => g_icf rfl (show ¬ ((20 : Int32) ≤ (19 : Int32)) from by decide) k9) ?_
  refine gp_n 2 (j' := 13) (lv' := [some (.ref 70), some (.int a1), some (.int a2), some (.int a3), some (.int a4), some (.int a5), some (.int 19), some (.int a5)]) (st' := [.int 4, .int 19]) (h' := (shT, pm_u2 (pm_u2 (pm_u2 (pm_u2 (pm_u2 (pm_u2 (pm_u2 (pm_u2 (pm_u2 (pm_u2 (pm_u2 (pm_u2 (pm_u2 (pm_u2 (pm_u2 (pm_u2 (pm_u2 (pm_u2 (pm_u2 fi 71 (t + 0) (bt a1 0)) 71 (t + 1) (bt a1 1)) 71 (t + 2) (bt a1 2)) 71 (t + 3) (bt a1 3)) 71 (t + 4) (bt a2 0)) 71 (t + 5) (bt a2 1)) 71 (t + 6) (bt a2 2)) 71 (t + 7) (bt a2 3)) 71 (t + 8) (bt a3 0)) 71 (t + 9) (bt a3 1)) 71 (t + 10) (bt a3 2)) 71 (t + 11) (bt a3 3)) 71 (t + 12) (bt a4 0)) 71 (t + 13) (bt a4 1)) 71 (t + 14) (bt a4 2)) 71 (t + 15) (bt a4 3)) 71 (t + 16) (bt a5 0)) 71 (t + 17) (bt a5 1)) 71 (t + 18) (bt a5 2), fl, fr)) rfl ?_
  refine gp_of (fun _ k9 => g_ict rfl (show (4 : Int32) ≤ (19 : Int32) from by decide) k9) ?_
  refine gp_n 2 (j' := 18) (lv' := [some (.ref 70), some (.int a1), some (.int a2), some (.int a3), some (.int a4), some (.int a5), some (.int 19), some (.int a5)]) (st' := [.int 8, .int 19]) (h' := (shT, pm_u2 (pm_u2 (pm_u2 (pm_u2 (pm_u2 (pm_u2 (pm_u2 (pm_u2 (pm_u2 (pm_u2 (pm_u2 (pm_u2 (pm_u2 (pm_u2 (pm_u2 (pm_u2 (pm_u2 (pm_u2 (pm_u2 fi 71 (t + 0) (bt a1 0)) 71 (t + 1) (bt a1 1)) 71 (t + 2) (bt a1 2)) 71 (t + 3) (bt a1 3)) 71 (t + 4) (bt a2 0)) 71 (t + 5) (bt a2 1)) 71 (t + 6) (bt a2 2)) 71 (t + 7) (bt a2 3)) 71 (t + 8) (bt a3 0)) 71 (t + 9) (bt a3 1)) 71 (t + 10) (bt a3 2)) 71 (t + 11) (bt a3 3)) 71 (t + 12) (bt a4 0)) 71 (t + 13) (bt a4 1)) 71 (t + 14) (bt a4 2)) 71 (t + 15) (bt a4 3)) 71 (t + 16) (bt a5 0)) 71 (t + 17) (bt a5 1)) 71 (t + 18) (bt a5 2), fl, fr)) rfl ?_
  refine gp_of (fun _ k9 => g_ict rfl (show (8 : Int32) ≤ (19 : Int32) from by decide) k9) ?_
  refine gp_n 2 (j' := 23) (lv' := [some (.ref 70), some (.int a1), some (.int a2), some (.int a3), some (.int a4), some (.int a5), some (.int 19), some (.int a5)]) (st' := [.int 12, .int 19]) (h' := (shT, pm_u2 (pm_u2 (pm_u2 (pm_u2 (pm_u2 (pm_u2 (pm_u2 (pm_u2 (pm_u2 (pm_u2 (pm_u2 (pm_u2 (pm_u2 (pm_u2 (pm_u2 (pm_u2 (pm_u2 (pm_u2 (pm_u2 fi 71 (t + 0) (bt a1 0)) 71 (t + 1) (bt a1 1)) 71 (t + 2) (bt a1 2)) 71 (t + 3) (bt a1 3)) 71 (t + 4) (bt a2 0)) 71 (t + 5) (bt a2 1)) 71 (t + 6) (bt a2 2)) 71 (t + 7) (bt a2 3)) 71 (t + 8) (bt a3 0)) 71 (t + 9) (bt a3 1)) 71 (t + 10) (bt a3 2)) 71 (t + 11) (bt a3 3)) 71 (t + 12) (bt a4 0)) 71 (t + 13) (bt a4 1)) 71 (t + 14) (bt a4 2)) 71 (t + 15) (bt a4 3)) 71 (t + 16) (bt a5 0)) 71 (t + 17) (bt a5 1)) 71 (t + 18) (bt a5 2), fl, fr)) rfl ?_
  refine gp_of (fun _ k9 => g_ict rfl (show (12 : Int32) ≤ (19 : Int32) from by decide) k9) ?_
  refine gp_n 2 (j' := 28) (lv' := [some (.ref 70), some (.int a1), some (.int a2), some (.int a3), some (.int a4), some (.int a5), some (.int 19), some (.int a5)]) (st' := [.int 16, .int 19]) (h' := (shT, pm_u2 (pm_u2 (pm_u2 (pm_u2 (pm_u2 (pm_u2 (pm_u2 (pm_u2 (pm_u2 (pm_u2 (pm_u2 (pm_u2 (pm_u2 (pm_u2 (pm_u2 (pm_u2 (pm_u2 (pm_u2 (pm_u2 fi 71 (t + 0) (bt a1 0)) 71 (t + 1) (bt a1 1)) 71 (t + 2) (bt a1 2)) 71 (t + 3) (bt a1 3)) 71 (t + 4) (bt a2 0)) 71 (t + 5) (bt a2 1)) 71 (t + 6) (bt a2 2)) 71 (t + 7) (bt a2 3)) 71 (t + 8) (bt a3 0)) 71 (t + 9) (bt a3 1)) 71 (t + 10) (bt a3 2)) 71 (t + 11) (bt a3 3)) 71 (t + 12) (bt a4 0)) 71 (t + 13) (bt a4 1)) 71 (t + 14) (bt a4 2)) 71 (t + 15) (bt a4 3)) 71 (t + 16) (bt a5 0)) 71 (t + 17) (bt a5 1)) 71 (t + 18) (bt a5 2), fl, fr)) rfl ?_
  refine gp_of (fun _ k9 => g_ict rfl (show (16 : Int32) ≤ (19 : Int32) from by decide) k9) ?_
  refine gp_n 3 (j' := 34) (lv' := [some (.ref 70), some (.int a1), some (.int a2), some (.int a3), some (.int a4), some (.int a5), some (.int 19), some (.int a5)]) (st' := [.ref 70]) (h' := (shT, pm_u2 (pm_u2 (pm_u2 (pm_u2 (pm_u2 (pm_u2 (pm_u2 (pm_u2 (pm_u2 (pm_u2 (pm_u2 (pm_u2 (pm_u2 (pm_u2 (pm_u2 (pm_u2 (pm_u2 (pm_u2 (pm_u2 fi 71 (t + 0) (bt a1 0)) 71 (t + 1) (bt a1 1)) 71 (t + 2) (bt a1 2)) 71 (t + 3) (bt a1 3)) 71 (t + 4) (bt a2 0)) 71 (t + 5) (bt a2 1)) 71 (t + 6) (bt a2 2)) 71 (t + 7) (bt a2 3)) 71 (t + 8) (bt a3 0)) 71 (t + 9) (bt a3 1)) 71 (t + 10) (bt a3 2)) 71 (t + 11) (bt a3 3)) 71 (t + 12) (bt a4 0)) 71 (t + 13) (bt a4 1)) 71 (t + 14) (bt a4 2)) 71 (t + 15) (bt a4 3)) 71 (t + 16) (bt a5 0)) 71 (t + 17) (bt a5 1)) 71 (t + 18) (bt a5 2), fl, fr)) rfl ?_
  refine gp_of (fun _ k9 => g_getR (q' := 71) rfl rfl (by decide) k0 k9) ?_
  refine gp_n 1 (j' := 36) (lv' := [some (.ref 70), some (.int a1), some (.int a2), some (.int a3), some (.int a4), some (.int a5), some (.int 19), some (.int a5)]) (st' := [.ref 70, .ref 71]) (h' := (shT, pm_u2 (pm_u2 (pm_u2 (pm_u2 (pm_u2 (pm_u2 (pm_u2 (pm_u2 (pm_u2 (pm_u2 (pm_u2 (pm_u2 (pm_u2 (pm_u2 (pm_u2 (pm_u2 (pm_u2 (pm_u2 (pm_u2 fi 71 (t + 0) (bt a1 0)) 71 (t + 1) (bt a1 1)) 71 (t + 2) (bt a1 2)) 71 (t + 3) (bt a1 3)) 71 (t + 4) (bt a2 0)) 71 (t + 5) (bt a2 1)) 71 (t + 6) (bt a2 2)) 71 (t + 7) (bt a2 3)) 71 (t + 8) (bt a3 0)) 71 (t + 9) (bt a3 1)) 71 (t + 10) (bt a3 2)) 71 (t + 11) (bt a3 3)) 71 (t + 12) (bt a4 0)) 71 (t + 13) (bt a4 1)) 71 (t + 14) (bt a4 2)) 71 (t + 15) (bt a4 3)) 71 (t + 16) (bt a5 0)) 71 (t + 17) (bt a5 1)) 71 (t + 18) (bt a5 2), fl, fr)) rfl ?_
  refine gp_of (fun _ k9 => g_getI (x := nI t) rfl (Or.inl rfl) rfl (by decide) (b) k9) ?_
  refine gp_n 12 (j' := 49) (lv' := [some (.ref 70), some (.int a1), some (.int a2), some (.int a3), some (.int a4), some (.int a5), some (.int 19), some (.int a5)]) (st' := [.int ((a5 >>> (0 &&& 31)).toInt8.toInt32), .int ((nI t) + 19), .ref 71]) (h' := (shT, pm_u2 (pm_u2 (pm_u2 (pm_u2 (pm_u2 (pm_u2 (pm_u2 (pm_u2 (pm_u2 (pm_u2 (pm_u2 (pm_u2 (pm_u2 (pm_u2 (pm_u2 (pm_u2 (pm_u2 (pm_u2 (pm_u2 fi 71 (t + 0) (bt a1 0)) 71 (t + 1) (bt a1 1)) 71 (t + 2) (bt a1 2)) 71 (t + 3) (bt a1 3)) 71 (t + 4) (bt a2 0)) 71 (t + 5) (bt a2 1)) 71 (t + 6) (bt a2 2)) 71 (t + 7) (bt a2 3)) 71 (t + 8) (bt a3 0)) 71 (t + 9) (bt a3 1)) 71 (t + 10) (bt a3 2)) 71 (t + 11) (bt a3 3)) 71 (t + 12) (bt a4 0)) 71 (t + 13) (bt a4 1)) 71 (t + 14) (bt a4 2)) 71 (t + 15) (bt a4 3)) 71 (t + 16) (bt a5 0)) 71 (t + 17) (bt a5 1)) 71 (t + 18) (bt a5 2), fl, fr)) rfl ?_
  show GoP pmT none cd_146 _ _ [.int (bt a5 3), _, _] _ _
  refine gp_of (fun _ k9 => g_bastn (k := t + 19) rfl rfl (nadd t 19) (by omega) (by decide) (bt_nar _ _) k9) ?_
  refine gp_n 4 (j' := 10) (lv' := [some (.ref 70), some (.int a1), some (.int a2), some (.int a3), some (.int a4), some (.int a5), some (.int 20), some (.int a5)]) (st' := [.int 20, .int 20]) (h' := (shT, pm_u2 (pm_u2 (pm_u2 (pm_u2 (pm_u2 (pm_u2 (pm_u2 (pm_u2 (pm_u2 (pm_u2 (pm_u2 (pm_u2 (pm_u2 (pm_u2 (pm_u2 (pm_u2 (pm_u2 (pm_u2 (pm_u2 (pm_u2 fi 71 (t + 0) (bt a1 0)) 71 (t + 1) (bt a1 1)) 71 (t + 2) (bt a1 2)) 71 (t + 3) (bt a1 3)) 71 (t + 4) (bt a2 0)) 71 (t + 5) (bt a2 1)) 71 (t + 6) (bt a2 2)) 71 (t + 7) (bt a2 3)) 71 (t + 8) (bt a3 0)) 71 (t + 9) (bt a3 1)) 71 (t + 10) (bt a3 2)) 71 (t + 11) (bt a3 3)) 71 (t + 12) (bt a4 0)) 71 (t + 13) (bt a4 1)) 71 (t + 14) (bt a4 2)) 71 (t + 15) (bt a4 3)) 71 (t + 16) (bt a5 0)) 71 (t + 17) (bt a5 1)) 71 (t + 18) (bt a5 2)) 71 (t + 19) (bt a5 3), fl, fr)) rfl ?_
  refine gp_of (fun _ k9 => g_ict rfl (show (20 : Int32) ≤ (20 : Int32) from by decide) k9) ?_
  refine gp_n 2 (j' := 54) (lv' := [some (.ref 70), some (.int a1), some (.int a2), some (.int a3), some (.int a4), some (.int a5), some (.int 20), some (.int a5)]) (st' := [.ref 70, .ref 70]) (h' := (shT, pm_u2 (pm_u2 (pm_u2 (pm_u2 (pm_u2 (pm_u2 (pm_u2 (pm_u2 (pm_u2 (pm_u2 (pm_u2 (pm_u2 (pm_u2 (pm_u2 (pm_u2 (pm_u2 (pm_u2 (pm_u2 (pm_u2 (pm_u2 fi 71 (t + 0) (bt a1 0)) 71 (t + 1) (bt a1 1)) 71 (t + 2) (bt a1 2)) 71 (t + 3) (bt a1 3)) 71 (t + 4) (bt a2 0)) 71 (t + 5) (bt a2 1)) 71 (t + 6) (bt a2 2)) 71 (t + 7) (bt a2 3)) 71 (t + 8) (bt a3 0)) 71 (t + 9) (bt a3 1)) 71 (t + 10) (bt a3 2)) 71 (t + 11) (bt a3 3)) 71 (t + 12) (bt a4 0)) 71 (t + 13) (bt a4 1)) 71 (t + 14) (bt a4 2)) 71 (t + 15) (bt a4 3)) 71 (t + 16) (bt a5 0)) 71 (t + 17) (bt a5 1)) 71 (t + 18) (bt a5 2)) 71 (t + 19) (bt a5 3), fl, fr)) rfl ?_
  refine gp_of (fun _ k9 => g_getI (x := nI t) rfl (Or.inl rfl) rfl (by decide) (b) k9) ?_
  refine gp_n 2 (j' := 57) (lv' := [some (.ref 70), some (.int a1), some (.int a2), some (.int a3), some (.int a4), some (.int a5), some (.int 20), some (.int a5)]) (st' := [.int ((nI t) + 20), .ref 70]) (h' := (shT, pm_u2 (pm_u2 (pm_u2 (pm_u2 (pm_u2 (pm_u2 (pm_u2 (pm_u2 (pm_u2 (pm_u2 (pm_u2 (pm_u2 (pm_u2 (pm_u2 (pm_u2 (pm_u2 (pm_u2 (pm_u2 (pm_u2 (pm_u2 fi 71 (t + 0) (bt a1 0)) 71 (t + 1) (bt a1 1)) 71 (t + 2) (bt a1 2)) 71 (t + 3) (bt a1 3)) 71 (t + 4) (bt a2 0)) 71 (t + 5) (bt a2 1)) 71 (t + 6) (bt a2 2)) 71 (t + 7) (bt a2 3)) 71 (t + 8) (bt a3 0)) 71 (t + 9) (bt a3 1)) 71 (t + 10) (bt a3 2)) 71 (t + 11) (bt a3 3)) 71 (t + 12) (bt a4 0)) 71 (t + 13) (bt a4 1)) 71 (t + 14) (bt a4 2)) 71 (t + 15) (bt a4 3)) 71 (t + 16) (bt a5 0)) 71 (t + 17) (bt a5 1)) 71 (t + 18) (bt a5 2)) 71 (t + 19) (bt a5 3), fl, fr)) rfl ?_
  rw [show nI t + 20 = nI (t + 20) from nI_add _ 20]
  refine gp_of (fun _ k9 => g_putI rfl (Or.inl rfl) rfl (by decide) k9) ?_
  refine gp_n 1 (j' := 59) (lv' := [some (.ref 70), some (.int a1), some (.int a2), some (.int a3), some (.int a4), some (.int a5), some (.int 20), some (.int a5)]) (st' := [.ref 70]) (h' := (shT, pm_u2 (pm_u2 (pm_u2 (pm_u2 (pm_u2 (pm_u2 (pm_u2 (pm_u2 (pm_u2 (pm_u2 (pm_u2 (pm_u2 (pm_u2 (pm_u2 (pm_u2 (pm_u2 (pm_u2 (pm_u2 (pm_u2 (pm_u2 (pm_u2 fi 71 (t + 0) (bt a1 0)) 71 (t + 1) (bt a1 1)) 71 (t + 2) (bt a1 2)) 71 (t + 3) (bt a1 3)) 71 (t + 4) (bt a2 0)) 71 (t + 5) (bt a2 1)) 71 (t + 6) (bt a2 2)) 71 (t + 7) (bt a2 3)) 71 (t + 8) (bt a3 0)) 71 (t + 9) (bt a3 1)) 71 (t + 10) (bt a3 2)) 71 (t + 11) (bt a3 3)) 71 (t + 12) (bt a4 0)) 71 (t + 13) (bt a4 1)) 71 (t + 14) (bt a4 2)) 71 (t + 15) (bt a4 3)) 71 (t + 16) (bt a5 0)) 71 (t + 17) (bt a5 1)) 71 (t + 18) (bt a5 2)) 71 (t + 19) (bt a5 3)) 70 1 (nI (t + 20)), fl, fr)) rfl ?_
  refine gp_of (fun _ k9 => g_getI (x := nI (t + 20)) rfl (Or.inl rfl) rfl (by decide) (rfl) k9) ?_
  refine gp_done (g_ret rfl) ?_
  rfl
theorem fed_M {L : Bool} {h : PmH} {a : AB} {a1 a2 a3 a4 a5 : Int32} (hI : HI hdT shT h) (hR : QM L h a) (hP : a_tl a ≤ 180) : ∃ h', Ev pmT 146 [.ref 70, .int a1, .int a2, .int a3, .int a4, .int a5] h (some (.int (nI (a_tl a + 20)))) h' ∧ QM L h' (a_feed (fd a1 a2 a3 a4 a5) a) ∧ HI hdT shT h' ∧ fram (in_w iN_163) h h' := by
  have b := hR.2.1
  have k0 : ph_r h 70 0 = some 71 := hi_r hI rfl rfl (by decide)
  have hSS := hI.1
  obtain ⟨S, fi, fl, fr⟩ := h
  have hS : S = shT := hSS
  subst hS
  obtain ⟨r, g, hr⟩ := fdM_go (t := a_tl a) (a1 := a1) (a2 := a2) (a3 := a3) (a4 := a4) (a5 := a5) (fl := fl) k0 b hP
  subst hr
  have ev : Ev pmT 146 [.ref 70, .int a1, .int a2, .int a3, .int a4, .int a5] (shT, fi, fl, fr) _ _ := Ev.of (es := cd_146) (ml := 8) (lv := [some (.ref 70), some (.int a1), some (.int a2), some (.int a3), some (.int a4), some (.int a5), none, none]) rfl rfl rfl g
  obtain ⟨J1, J2⟩ := iv_s vN_163 (as := [.ref 70, .int a1, .int a2, .int a3, .int a4, .int a5]) rfl (fun _ _ => gz_c (gz_r (by decide)) (gz_c (gz_a _) (gz_c (gz_a _) (gz_c (gz_a _) (gz_c (gz_a _) (gz_c (gz_a _) gz_n)))))) hI ev
  refine ⟨_, ev, QM_f hR ⟨rfl, u2_i, fun s hs => ?_, fun p s h1 h2 => ?_, fun s hs => ?_, fun _ _ => rfl, fun _ _ => rfl⟩, J1, J2⟩
  · rw [phi_mk]
    show _ = fd a1 a2 a3 a4 a5 s
    rw [u2_ne (by simp)]
    match s, hs with
    | 0, _ =>
      show _ = bt a1 0
      simp [pm_u2]
    | 1, _ =>
      show _ = bt a1 1
      simp [pm_u2]
    | 2, _ =>
      show _ = bt a1 2
      simp [pm_u2]
    | 3, _ =>
      show _ = bt a1 3
      simp [pm_u2]
    | 4, _ =>
      show _ = bt a2 0
      simp [pm_u2]
    | 5, _ =>
      show _ = bt a2 1
      simp [pm_u2]
    | 6, _ =>
      show _ = bt a2 2
      simp [pm_u2]
    | 7, _ =>
      show _ = bt a2 3
      simp [pm_u2]
    | 8, _ =>
      show _ = bt a3 0
      simp [pm_u2]
    | 9, _ =>
      show _ = bt a3 1
      simp [pm_u2]
    | 10, _ =>
      show _ = bt a3 2
      simp [pm_u2]
    | 11, _ =>
      show _ = bt a3 3
      simp [pm_u2]
    | 12, _ =>
      show _ = bt a4 0
      simp [pm_u2]
    | 13, _ =>
      show _ = bt a4 1
      simp [pm_u2]
    | 14, _ =>
      show _ = bt a4 2
      simp [pm_u2]
    | 15, _ =>
      show _ = bt a4 3
      simp [pm_u2]
    | 16, _ =>
      show _ = bt a5 0
      simp [pm_u2]
    | 17, _ =>
      show _ = bt a5 1
      simp [pm_u2]
    | 18, _ =>
      show _ = bt a5 2
      simp [pm_u2]
    | 19, _ =>
      show _ = bt a5 3
      simp [pm_u2]
    | _ + 20, h => exact absurd h (by omega)
  · have h1 : ¬ (p = 70 ∧ s = 1) := h1
    have h2 : ¬ (p = 71 ∧ a_tl a ≤ s ∧ s < a_tl a + 20) := h2
    rw [phi_mk, phi_mk, u2_ne h1]
    rw [u2_ne (by omega), u2_ne (by omega), u2_ne (by omega), u2_ne (by omega), u2_ne (by omega), u2_ne (by omega), u2_ne (by omega), u2_ne (by omega), u2_ne (by omega), u2_ne (by omega), u2_ne (by omega), u2_ne (by omega), u2_ne (by omega), u2_ne (by omega), u2_ne (by omega), u2_ne (by omega), u2_ne (by omega), u2_ne (by omega), u2_ne (by omega), u2_ne (by omega)]
  · rw [phi_mk, phi_mk]
    show _ = fi 71 s
    rw [u2_ne (by omega)]
    rw [u2_ne (by omega), u2_ne (by omega), u2_ne (by omega), u2_ne (by omega), u2_ne (by omega), u2_ne (by omega), u2_ne (by omega), u2_ne (by omega), u2_ne (by omega), u2_ne (by omega), u2_ne (by omega), u2_ne (by omega), u2_ne (by omega), u2_ne (by omega), u2_ne (by omega), u2_ne (by omega), u2_ne (by omega), u2_ne (by omega), u2_ne (by omega), u2_ne (by omega)]
