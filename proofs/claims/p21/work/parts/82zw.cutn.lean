/-! CUT SHORT: down the nodes -/
def cnJ (K : Int64) (m most : Nat) (F : Int32) (h : PmH) : Prop := ph_r h 13 12 = some 1 ∧ ph_i h 13 13 = nI most ∧ ph_i h 13 14 = 1 ∧ ph_i h 13 15 = F ∧ ph_l h 1 7 = K ∧ ph_i h 1 0 = nI m ∧ ph_i h 1 1 = nI (2 ^ m)
theorem cnJ_fr {K : Int64} {m most : Nat} {F : Int32} {W : WSt} {h h' : PmH} (hw : cnW W = true) (hf : fram W h h') (hc : cnJ K m most F h) : cnJ K m most F h' := by
  have i1 : ∀ s, inW W 1 s = false := fun s => inW_all hw (fun c hc => by simp only [Bool.and_eq_false_iff, decide_eq_false_iff_not]; exact Or.inl (by omega))
  have i2 : ∀ s, 12 ≤ s → s < 9999 → inW W 13 s = false := fun s hs hs2 => inW_all hw (fun c hc => by simp only [Bool.and_eq_false_iff, Bool.or_eq_false_iff, decide_eq_false_iff_not]; exact Or.inr ⟨by omega, by omega⟩)
  obtain ⟨a1, a2, a3, a4, a5, a6, a7⟩ := hc
  exact ⟨(hf 13 12 (i2 12 (by decide) (by decide))).2.2.trans a1, (hf 13 13 (i2 13 (by decide) (by decide))).1.trans a2, (hf 13 14 (i2 14 (by decide) (by decide))).1.trans a3, (hf 13 15 (i2 15 (by decide) (by decide))).1.trans a4, (hf 1 7 (i1 7)).2.1.trans a5, (hf 1 0 (i1 0)).1.trans a6, (hf 1 1 (i1 1)).1.trans a7⟩
theorem tb_md {c l : Nat} (h : c % 2 ^ (l + 1) = 0) : c.testBit l = false := by
  obtain ⟨b, rfl⟩ := Nat.dvd_of_mod_eq_zero h
  exact tbm.1
theorem cdn_le {ct : Nat → Nat → Bool} {P c : Nat} : ∀ j, (cdn ct P c j).2.2 ≤ j
  | 0 => by
    rw [cdn]
    split <;> exact Nat.le_refl _
  | j + 1 => by
    rw [cdn]
    split
    · exact Nat.le_refl _
    · exact Nat.le_succ_of_le (cdn_le j)
theorem cw_go {m c most : Nat} {K : Int64} {F : Int32} {S : Nat → Int32} (hmo1 : 1 ≤ most) (hmo : most ≤ 8) (hm : m ≤ 6) (hF : ¬ nI c = F) (hS : ∀ s, s < 64 → -127 ≤ (S s).toInt ∧ (S s).toInt ≤ 127) : ∀ (l : Nat) (h : PmH), l ≤ m → c % 2 ^ l = 0 → c + 2 ^ l ≤ 2 ^ m → HI hdT shT h → RDs m S (rdN K m S most c) c l h → cnJ K m most F h → ∃ h', Go pmT none cd_85 13 [some (.ref 13), some (.int (nI c)), some (.int (nI l))] [] h (some (.int (nI (2 ^ (cdn (ctF K m S most) (rdN K m S most c).1 c l).2.2))), h') ∧ RDs m S (rdN K m S most (c + 2 ^ (cdn (ctF K m S most) (rdN K m S most c).1 c l).2.2)) c (cdn (ctF K m S most) (rdN K m S most c).1 c l).2.2 h' ∧ ph_i h' 13 6 = ph_i h 13 6 + nI (cdn (ctF K m S most) (rdN K m S most c).1 c l).2.1 ∧ ph_i h' 13 4 = ph_i h 13 4 + nI (cdn (ctF K m S most) (rdN K m S most c).1 c l).1 ∧ ph_i h' 13 5 = ph_i h 13 5 ∧ HI hdT shT h' ∧ fram (in_w iN_107) h h' := by
  intro l
  have p6 := pw_6 m (by omega)
  have hP := rd_P (K := K) (m := m) (S := S) hmo1 c
  induction l with
  | zero =>
    intro h hl hd hc hI hx hn
    have pl : 2 ^ 0 = 1 := rfl
    obtain ⟨h1, e1, x1, y1, I1, F1⟩ := ic_ev hI hx hmo1 hmo hm hl hc hd hS hn.1 hn.2.1 hn.2.2.2.2.1
    cases hct : ctF K m S most 0 c
    · obtain rfl := y1 hct
      rw [hct] at e1
      have e1 : Ev pmT 90 [.ref 13, .int (nI c), .int 0] h1 (some (.int 0)) h1 := e1
      have ec : cdn (ctF K m S most) (rdN K m S most c).1 c 0 = (0, 1, 0) := by
        rw [cdn, hct]
        rfl
      obtain ⟨h', e2, q1, q2, q3, q4, q5, I2, F2⟩ := de_ev hI hx hP.1 (by omega) hn.1 hn.2.1 hn.2.2.2.1 hF hn.2.2.2.2.1 hmo hm (by omega) hS
      have q1 : RDs m S (rdN K m S most (c + 1)) c 0 h' := q1
      rw [ec]
      refine ⟨h', ?_, q1, q5, ?_, (F2 13 5 (by decide)).1, I2, fram.up (by decide) F2⟩
      · have c14 := hn.2.2.1
        clear q1 q2 q3 q4 q5 F2 F1 x1 y1 hx hn ec hct I1
        obtain ⟨S2, fi2, fl2, fr2⟩ := h'
        have s2 : S2 = shT := I2.1
        subst s2
        obtain ⟨S, fi, fl, fr⟩ := h1
        have hS : S = shT := hI.1
        subst hS
        have c14 : fi 13 14 = 1 := c14
        refine go_of ?_
        refine gp_n 1 (j' := 14) (lv' := [some (.ref 13), some (.int (nI c)), some (.int (nI 0))]) (st' := [.int (nI 0)]) (h' := (shT, fi, fl, fr)) rfl ?_
        refine gp_of (fun _ k9 => g_ift rfl (show (nI 0) ≤ (0 : Int32) from Int32.le_refl _) k9) ?_
        refine gp_n 1 (j' := 35) (lv' := [some (.ref 13), some (.int (nI c)), some (.int (nI 0))]) (st' := [.ref 13]) (h' := (shT, fi, fl, fr)) rfl ?_
        refine gp_of (fun _ k9 => g_getI (x := 1) rfl (Or.inr rfl) rfl (by decide) (c14) k9) ?_
        refine gp_of (fun _ k9 => g_iff rfl (show ¬ ((1 : Int32) = (0 : Int32)) from by decide) k9) ?_
        refine gp_n 3 (j' := 40) (lv' := [some (.ref 13), some (.int (nI c)), some (.int (nI 0))]) (st' := [.int 0, .int (nI c), .ref 13]) (h' := (shT, fi, fl, fr)) rfl ?_
        refine gp_of (fun _ k9 => g_call (y := 90) (as := [.ref 13, .int (nI c), .int 0]) (st' := []) rfl rfl (e1) k9) ?_
        refine gp_of (fun _ k9 => g_iff rfl (show ¬ (¬ (0 : Int32) = (0 : Int32)) from by decide) k9) ?_
        refine gp_n 2 (j' := 44) (lv' := [some (.ref 13), some (.int (nI c)), some (.int (nI 0))]) (st' := [.int (nI c), .ref 13]) (h' := (shT, fi, fl, fr)) rfl ?_
        refine gp_of (fun _ k9 => g_callv (y := 97) (as := [.ref 13, .int (nI c)]) (st' := []) rfl rfl (e2) k9) ?_
        refine gp_n 1 (j' := 46) (lv' := [some (.ref 13), some (.int (nI c)), some (.int (nI 0))]) (st' := [.int 1]) (h' := (shT, fi2, fl2, fr2)) rfl ?_
        refine gp_done (g_ret rfl) ?_
        rfl
      · rw [(F2 13 4 (by decide)).1]
        exact (Int32.add_zero _).symm
    · rw [hct] at e1
      have e1 : Ev pmT 90 [.ref 13, .int (nI c), .int 0] h (some (.int 1)) h1 := e1
      have ec : cdn (ctF K m S most) (rdN K m S most c).1 c 0 = (0, 0, 0) := by
        rw [cdn, hct]
        rfl
      rw [ec]
      refine ⟨h1, ?_, x1 hct, ?_, ?_, (F1 13 5 (by decide)).1, I1, fram.up (by decide) F1⟩
      · have c14 := hn.2.2.1
        clear F1 x1 y1 hx hn ec hct
        obtain ⟨S2, fi2, fl2, fr2⟩ := h1
        have s2 : S2 = shT := I1.1
        subst s2
        obtain ⟨S, fi, fl, fr⟩ := h
        have hS : S = shT := hI.1
        subst hS
        have c14 : fi 13 14 = 1 := c14
        refine go_of ?_
        refine gp_n 1 (j' := 14) (lv' := [some (.ref 13), some (.int (nI c)), some (.int (nI 0))]) (st' := [.int (nI 0)]) (h' := (shT, fi, fl, fr)) rfl ?_
        refine gp_of (fun _ k9 => g_ift rfl (show (nI 0) ≤ (0 : Int32) from Int32.le_refl _) k9) ?_
        refine gp_n 1 (j' := 35) (lv' := [some (.ref 13), some (.int (nI c)), some (.int (nI 0))]) (st' := [.ref 13]) (h' := (shT, fi, fl, fr)) rfl ?_
        refine gp_of (fun _ k9 => g_getI (x := 1) rfl (Or.inr rfl) rfl (by decide) (c14) k9) ?_
        refine gp_of (fun _ k9 => g_iff rfl (show ¬ ((1 : Int32) = (0 : Int32)) from by decide) k9) ?_
        refine gp_n 3 (j' := 40) (lv' := [some (.ref 13), some (.int (nI c)), some (.int (nI 0))]) (st' := [.int 0, .int (nI c), .ref 13]) (h' := (shT, fi, fl, fr)) rfl ?_
        refine gp_of (fun _ k9 => g_call (y := 90) (as := [.ref 13, .int (nI c), .int 0]) (st' := []) rfl rfl (e1) k9) ?_
        refine gp_of (fun _ k9 => g_ift rfl (show ¬ (1 : Int32) = (0 : Int32) from by decide) k9) ?_
        refine gp_n 1 (j' := 46) (lv' := [some (.ref 13), some (.int (nI c)), some (.int (nI 0))]) (st' := [.int 1]) (h' := (shT, fi2, fl2, fr2)) rfl ?_
        refine gp_done (g_ret rfl) ?_
        rfl
      · rw [(F1 13 6 (by decide)).1]
        exact (Int32.add_zero _).symm
      · rw [(F1 13 4 (by decide)).1]
        exact (Int32.add_zero _).symm
  | succ l ih =>
    intro h hl hd hc hI hx hn
    have e3 : 2 ^ (l + 1) = 2 * 2 ^ l := by rw [Nat.pow_succ]; omega
    obtain ⟨h1, e1, x1, y1, I1, F1⟩ := ic_ev hI hx hmo1 hmo hm hl hc hd hS hn.1 hn.2.1 hn.2.2.2.2.1
    cases hct : ctF K m S most (l + 1) c
    · obtain rfl := y1 hct
      rw [hct] at e1
      have e1 : Ev pmT 90 [.ref 13, .int (nI c), .int (nI (l + 1))] h1 (some (.int 0)) h1 := e1
      have ec : cdn (ctF K m S most) (rdN K m S most c).1 c (l + 1) = ((rdN K m S most c).1 * 2 ^ l + (cdn (ctF K m S most) (rdN K m S most c).1 c l).1, (cdn (ctF K m S most) (rdN K m S most c).1 c l).2.1, (cdn (ctF K m S most) (rdN K m S most c).1 c l).2.2) := by
        rw [cdn, hct]
        rfl
      obtain ⟨h2, e2, x2, w2, I2, F2⟩ := rl_evE hI hx (by omega) hm (by omega) (tb_md hd)
      obtain ⟨h3, e4, q1, q2, q3, q4, I3, F3⟩ := ih h2 (by omega) (md_le hd (by omega)) (by omega) I2 x2 (cnJ_fr (by decide) F2 hn)
      rw [ec]
      refine ⟨h3, ?_, q1, ?_, ?_, ?_, I3, fram.tr (fram.up (by decide) F2) F3⟩
      · have c14 := hn.2.2.1
        have np : nI (l + 1) - 1 = nI l := nI_pred l
        have nd := nI_dec l
        have g : Go pmT none cd_85 13 [some (.ref 13), some (.int (nI c)), some (.int (nI l))] [] h2 (some (.int (nI (2 ^ (cdn (ctF K m S most) (rdN K m S most c).1 c l).2.2))), h3) := e4
        clear q1 q2 q3 q4 F1 F2 F3 x1 x2 y1 w2 hx hn ih ec hct I1 e4
        show Go pmT none cd_85 13 [some (.ref 13), some (.int (nI c)), some (.int (nI (l + 1)))] [] h1 (some (.int (nI (2 ^ (cdn (ctF K m S most) (rdN K m S most c).1 c l).2.2))), h3)
        generalize nI (2 ^ (cdn (ctF K m S most) (rdN K m S most c).1 c l).2.2) = res at *
        obtain ⟨S2, fi2, fl2, fr2⟩ := h2
        have s2 : S2 = shT := I2.1
        subst s2
        obtain ⟨S, fi, fl, fr⟩ := h1
        have hS : S = shT := hI.1
        subst hS
        have c14 : fi 13 14 = 1 := c14
        refine go_of ?_
        refine gp_n 1 (j' := 14) (lv' := [some (.ref 13), some (.int (nI c)), some (.int (nI (l + 1)))]) (st' := [.int (nI (l + 1))]) (h' := (shT, fi, fl, fr)) rfl ?_
        refine gp_of (fun _ k9 => g_iff rfl (show ¬ ((nI (l + 1)) ≤ (0 : Int32)) from nI_nle (by omega) (by omega)) k9) ?_
        refine gp_n 1 (j' := 16) (lv' := [some (.ref 13), some (.int (nI c)), some (.int (nI (l + 1)))]) (st' := [.ref 13]) (h' := (shT, fi, fl, fr)) rfl ?_
        refine gp_of (fun _ k9 => g_getI (x := 1) rfl (Or.inr rfl) rfl (by decide) (c14) k9) ?_
        refine gp_of (fun _ k9 => g_iff rfl (show ¬ ((1 : Int32) = (0 : Int32)) from by decide) k9) ?_
        refine gp_n 3 (j' := 21) (lv' := [some (.ref 13), some (.int (nI c)), some (.int (nI (l + 1)))]) (st' := [.int (nI (l + 1)), .int (nI c), .ref 13]) (h' := (shT, fi, fl, fr)) rfl ?_
        refine gp_of (fun _ k9 => g_call (y := 90) (as := [.ref 13, .int (nI c), .int (nI (l + 1))]) (st' := []) rfl rfl (e1) k9) ?_
        refine gp_of (fun _ k9 => g_ift rfl (show (0 : Int32) = (0 : Int32) from by decide) k9) ?_
        refine gp_n 4 (j' := 31) (lv' := [some (.ref 13), some (.int (nI c)), some (.int (nI (l + 1)))]) (st' := [.int ((nI (l + 1)) - 1), .ref 13]) (h' := (shT, fi, fl, fr)) rfl ?_
        rw [np]
        refine gp_of (fun _ k9 => g_callv (y := 94) (as := [.ref 13, .int (nI l)]) (st' := []) rfl rfl (e2) k9) ?_
        refine gp_n 2 (j' := 13) (lv' := [some (.ref 13), some (.int (nI c)), some (.int ((nI (l + 1)) + (-1)))]) (st' := []) (h' := (shT, fi2, fl2, fr2)) rfl ?_
        rw [nd]
        exact gp_done g rfl
      · rw [q2, (F2 13 6 (by decide)).1]
      · rw [q3, w2, Int32.add_assoc, nI_add]
      · rw [q4, (F2 13 5 (by decide)).1]
    · rw [hct] at e1
      have e1 : Ev pmT 90 [.ref 13, .int (nI c), .int (nI (l + 1))] h (some (.int 1)) h1 := e1
      have ec : cdn (ctF K m S most) (rdN K m S most c).1 c (l + 1) = (0, 0, l + 1) := by
        rw [cdn, hct]
        rfl
      rw [ec]
      refine ⟨h1, ?_, x1 hct, ?_, ?_, (F1 13 5 (by decide)).1, I1, fram.up (by decide) F1⟩
      · have c14 := hn.2.2.1
        have sh := shI (l + 1) (by omega)
        clear F1 x1 y1 hx hn ec hct ih
        show Go pmT none cd_85 13 [some (.ref 13), some (.int (nI c)), some (.int (nI (l + 1)))] [] h (some (.int (nI (2 ^ (l + 1)))), h1)
        generalize hres : nI (2 ^ (l + 1)) = res at *
        obtain ⟨S2, fi2, fl2, fr2⟩ := h1
        have s2 : S2 = shT := I1.1
        subst s2
        obtain ⟨S, fi, fl, fr⟩ := h
        have hS : S = shT := hI.1
        subst hS
        have c14 : fi 13 14 = 1 := c14
        refine go_of ?_
        refine gp_n 1 (j' := 14) (lv' := [some (.ref 13), some (.int (nI c)), some (.int (nI (l + 1)))]) (st' := [.int (nI (l + 1))]) (h' := (shT, fi, fl, fr)) rfl ?_
        refine gp_of (fun _ k9 => g_iff rfl (show ¬ ((nI (l + 1)) ≤ (0 : Int32)) from nI_nle (by omega) (by omega)) k9) ?_
        refine gp_n 1 (j' := 16) (lv' := [some (.ref 13), some (.int (nI c)), some (.int (nI (l + 1)))]) (st' := [.ref 13]) (h' := (shT, fi, fl, fr)) rfl ?_
        refine gp_of (fun _ k9 => g_getI (x := 1) rfl (Or.inr rfl) rfl (by decide) (c14) k9) ?_
        refine gp_of (fun _ k9 => g_iff rfl (show ¬ ((1 : Int32) = (0 : Int32)) from by decide) k9) ?_
        refine gp_n 3 (j' := 21) (lv' := [some (.ref 13), some (.int (nI c)), some (.int (nI (l + 1)))]) (st' := [.int (nI (l + 1)), .int (nI c), .ref 13]) (h' := (shT, fi, fl, fr)) rfl ?_
        refine gp_of (fun _ k9 => g_call (y := 90) (as := [.ref 13, .int (nI c), .int (nI (l + 1))]) (st' := []) rfl rfl (e1) k9) ?_
        refine gp_of (fun _ k9 => g_iff rfl (show ¬ ((1 : Int32) = (0 : Int32)) from by decide) k9) ?_
        refine gp_n 3 (j' := 26) (lv' := [some (.ref 13), some (.int (nI c)), some (.int (nI (l + 1)))]) (st' := [.int ((1 : Int32) <<< ((nI (l + 1)) &&& 31))]) (h' := (shT, fi2, fl2, fr2)) rfl ?_
        rw [sh]
        refine gp_done (g_ret rfl) ?_
        rfl
      · rw [(F1 13 6 (by decide)).1]
        exact (Int32.add_zero _).symm
      · rw [(F1 13 4 (by decide)).1]
        exact (Int32.add_zero _).symm
/-- what a cut reading is at a channel -/
def ctI (m : Nat) (S : Nat → Int32) (x : RSt) (c : Nat) (h : PmH) : Prop := ∃ A, (A = 14 ∨ A = 18) ∧ rdI A x h ∧ (c < 2 ^ m → rwI A m S x c (if c = 0 then m else tzN c + 1) h)
theorem tp_f : ∀ m, m < 7 → ∀ c, c < 2 ^ m → 1 ≤ c → c + 2 ^ tzN c ≤ 2 ^ m := by decide +kernel
theorem top_b {m c : Nat} (hm : m ≤ 6) (hc : c < 2 ^ m) : topL m c ≤ m ∧ c % 2 ^ topL m c = 0 ∧ c + 2 ^ topL m c ≤ 2 ^ m := by
  unfold topL
  by_cases z : c = 0
  · subst z
    rw [if_pos rfl]
    exact ⟨Nat.le_refl _, Nat.zero_mod _, by omega⟩
  · rw [if_neg z]
    obtain ⟨t1, t2, -⟩ := tp_0 (m := m) (by omega) c hc (by omega)
    exact ⟨by omega, t2, tp_f m (by omega) c hc (by omega)⟩
theorem ct_nx {m c e : Nat} {S : Nat → Int32} {x : RSt} {h : PmH} (hm : m ≤ 6) (he : e ≤ m) (hd : c % 2 ^ e = 0) (hx : RDs m S x c e h) : ctI m S x (c + 2 ^ e) h := by
  have p6 := pw_6 m (by omega)
  have pe := Nat.two_pow_pos e
  obtain ⟨A, hA, a1, a2⟩ := hx
  refine ⟨A, hA, a1, fun hc => ?_⟩
  obtain ⟨t1, t2, t3, t4⟩ := tp_0 (m := m) (by omega) (c + 2 ^ e) hc (by omega)
  have c2 : (c + 2 ^ e) % 2 ^ e = 0 := by rw [Nat.add_mod_right]; exact hd
  have te : e ≤ tzN (c + 2 ^ e) := Nat.le_of_not_lt (fun z => (t4 e (by omega)).1 z c2)
  rw [if_neg (by omega)]
  intro l l1 l2 p hp
  obtain ⟨r, r1, r2, r3⟩ := a2 l (by omega) l2 p hp
  refine ⟨r, r1, r2, fun j hj => (r3 j hj).trans ?_⟩
  have k := tp_1 e (by omega) (c + 2 ^ e) (by omega) l (by omega) (by omega) c2 (by omega)
  rw [Nat.add_sub_cancel] at k
  rw [ndL_cg (u' := bl (x.2.1 p)) (c' := c + 2 ^ e) (m - l) l (by omega) k (fun _ _ => rfl)]
theorem cw_ev {m c most : Nat} {K : Int64} {F : Int32} {S : Nat → Int32} {h : PmH} (hmo1 : 1 ≤ most) (hmo : most ≤ 8) (hm : m ≤ 6) (hc : c < 2 ^ m) (hF : ¬ nI c = F) (hS : ∀ s, s < 64 → -127 ≤ (S s).toInt ∧ (S s).toInt ≤ 127) (hI : HI hdT shT h) (hx : ctI m S (rdN K m S most c) c h) (hn : cnJ K m most F h) : ∃ h', Ev pmT 85 [.ref 13, .int (nI c)] h (some (.int (nI (2 ^ (cdn (ctF K m S most) (rdN K m S most c).1 c (topL m c)).2.2)))) h' ∧ ctI m S (rdN K m S most (c + 2 ^ (cdn (ctF K m S most) (rdN K m S most c).1 c (topL m c)).2.2)) (c + 2 ^ (cdn (ctF K m S most) (rdN K m S most c).1 c (topL m c)).2.2) h' ∧ ph_i h' 13 6 = ph_i h 13 6 + nI (cdn (ctF K m S most) (rdN K m S most c).1 c (topL m c)).2.1 ∧ ph_i h' 13 4 = ph_i h 13 4 + nI (cdn (ctF K m S most) (rdN K m S most c).1 c (topL m c)).1 ∧ ph_i h' 13 5 = ph_i h 13 5 + nI (if c = 0 then 0 else (rdN K m S most c).1 * 2 ^ tzN c) ∧ HI hdT shT h' ∧ fram (in_w iN_107) h h' := by
  have p6 := pw_6 m (by omega)
  have hP := rd_P (K := K) (m := m) (S := S) hmo1 c
  obtain ⟨b1, b2, b3⟩ := top_b hm hc
  have c12 := hn.1
  have cm := hn.2.2.2.2.2.1
  have le := cdn_le (ct := ctF K m S most) (P := (rdN K m S most c).1) (c := c) (topL m c)
  obtain ⟨A, hA, a1, a2⟩ := hx
  have a2 := a2 hc
  by_cases z : c = 0
  · have et : topL m c = m := by unfold topL; exact if_pos z
    rw [if_pos z] at a2
    obtain ⟨h', e1, q1, q2, q3, q4, I1, F1⟩ := cw_go hmo1 hmo hm hF hS (topL m c) h b1 b2 b3 hI ⟨A, hA, a1, by rw [et]; exact a2⟩ hn
    refine ⟨h', ?_, ct_nx hm (by omega) (md_le b2 le) q1, q2, q3, ?_, I1, F1⟩
    · rw [et] at e1 ⊢
      subst z
      clear q1 q2 q3 q4 F1 a1 a2 hn le
      generalize nI (2 ^ (cdn (ctF K m S most) (rdN K m S most 0).1 0 m).2.2) = res at *
      refine Ev.of (es := cd_85) (ml := 3) (lv := [some (.ref 13), some (.int (nI 0)), none]) rfl rfl rfl ?_
      obtain ⟨S, fi, fl, fr⟩ := h
      have hS : S = shT := hI.1
      subst hS
      have c12 : fr 13 12 = some 1 := c12
      have cm : fi 1 0 = nI m := cm
      refine go_of ?_
      refine gp_n 1 (j' := 1) (lv' := [some (.ref 13), some (.int (nI 0)), none]) (st' := [.ref 13]) (h' := (shT, fi, fl, fr)) rfl ?_
      refine gp_of (fun _ k9 => g_getR (q' := 1) rfl rfl (by decide) c12 k9) ?_
      refine gp_of (fun _ k9 => g_getI (x := nI m) rfl (Or.inl rfl) rfl (by decide) (cm) k9) ?_
      refine gp_n 2 (j' := 5) (lv' := [some (.ref 13), some (.int (nI 0)), some (.int (nI m))]) (st' := [.int (nI 0)]) (h' := (shT, fi, fl, fr)) rfl ?_
      refine gp_of (fun _ k9 => g_ift rfl (show (nI 0) = (0 : Int32) from rfl) k9) ?_
      exact gp_done e1 rfl
    · rw [q4, if_pos z]
      exact (Int32.add_zero _).symm
  · have h0 : 1 ≤ c := by omega
    have et : topL m c = tzN c := by unfold topL; exact if_neg z
    rw [if_neg z] at a2
    obtain ⟨t1, t2, t3, t4, t5, t6⟩ := tz_1 c (by omega) h0
    have tm : tzN c < m := (tp_0 (m := m) (by omega) c hc h0).1
    obtain ⟨h1, e1, x1, w1, I1, F1⟩ := rr_evE hI ⟨A, hA, a1, a2⟩ (by omega) hm tm t3 t5 (by omega)
    obtain ⟨h2, e2, q1, q2, q3, q4, I2, F2⟩ := cw_go hmo1 hmo hm hF hS (topL m c) h1 b1 b2 b3 I1 (by rw [et]; exact x1) (cnJ_fr (by decide) F1 hn)
    refine ⟨h2, ?_, ct_nx hm (by omega) (md_le b2 le) q1, q2.trans (by rw [(F1 13 6 (by decide)).1]), q3.trans (by rw [(F1 13 4 (by decide)).1]), ?_, I2, fram.tr (fram.up (by decide) F1) F2⟩
    · have nz : Ev pmT 86 [.int (nI c)] h (some (.int (nI (tzN c)))) h := by
        rw [← t2]
        exact nzf_ev
      have nc : ¬ nI c = 0 := nI_ne0 h0 (by omega)
      rw [et] at e2 ⊢
      clear q1 q2 q3 q4 F1 F2 x1 w1 a1 a2 hn le
      generalize nI (2 ^ (cdn (ctF K m S most) (rdN K m S most c).1 c (tzN c)).2.2) = res at *
      refine Ev.of (es := cd_85) (ml := 3) (lv := [some (.ref 13), some (.int (nI c)), none]) rfl rfl rfl ?_
      obtain ⟨S2, fi2, fl2, fr2⟩ := h1
      have s2 : S2 = shT := I1.1
      subst s2
      obtain ⟨S, fi, fl, fr⟩ := h
      have hS : S = shT := hI.1
      subst hS
      have c12 : fr 13 12 = some 1 := c12
      have cm : fi 1 0 = nI m := cm
      refine go_of ?_
      refine gp_n 1 (j' := 1) (lv' := [some (.ref 13), some (.int (nI c)), none]) (st' := [.ref 13]) (h' := (shT, fi, fl, fr)) rfl ?_
      refine gp_of (fun _ k9 => g_getR (q' := 1) rfl rfl (by decide) c12 k9) ?_
      refine gp_of (fun _ k9 => g_getI (x := nI m) rfl (Or.inl rfl) rfl (by decide) (cm) k9) ?_
      refine gp_n 2 (j' := 5) (lv' := [some (.ref 13), some (.int (nI c)), some (.int (nI m))]) (st' := [.int (nI c)]) (h' := (shT, fi, fl, fr)) rfl ?_
      refine gp_of (fun _ k9 => g_iff rfl (show ¬ ((nI c) = (0 : Int32)) from nc) k9) ?_
      refine gp_n 1 (j' := 7) (lv' := [some (.ref 13), some (.int (nI c)), some (.int (nI m))]) (st' := [.int (nI c)]) (h' := (shT, fi, fl, fr)) rfl ?_
      refine gp_of (fun _ k9 => g_call (y := 86) (as := [.int (nI c)]) (st' := []) rfl rfl (nz) k9) ?_
      refine gp_n 4 (j' := 12) (lv' := [some (.ref 13), some (.int (nI c)), some (.int (nI (tzN c)))]) (st' := [.int (nI c), .int (nI (tzN c)), .ref 13]) (h' := (shT, fi, fl, fr)) rfl ?_
      refine gp_of (fun _ k9 => g_callv (y := 87) (as := [.ref 13, .int (nI (tzN c)), .int (nI c)]) (st' := []) rfl rfl (e1) k9) ?_
      exact gp_done e2 rfl
    · rw [q4, w1, if_neg z]
