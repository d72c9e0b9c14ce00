/-- what a text has told so far: words, levels, keep, check's two numbers, erase, list, info -/
abbrev RC : Type := Nat × Nat × Nat × Nat × Nat × Nat × Nat × Int64
def rc_h (R : RC) (h : PmH) : Prop := ph_i h 8 6 = nI R.1 ∧ ph_i h 9 0 = nI R.2.1 ∧ ph_i h 9 1 = nI (2 ^ R.2.1) ∧ ph_i h 9 2 = nI R.2.2.1 ∧ ph_i h 9 3 = nI R.2.2.2.1 ∧ ph_i h 9 4 = nI R.2.2.2.2.1 ∧ ph_i h 9 5 = nI R.2.2.2.2.2.1 ∧ ph_i h 9 6 = nI R.2.2.2.2.2.2.1 ∧ ph_l h 9 7 = R.2.2.2.2.2.2.2
theorem rc_fr {R : RC} {W : WSt} {h h' : PmH} (hr : rc_h R h) (hf : fram W h h') (hw : inW W 8 6 = false ∧ inW W 9 0 = false ∧ inW W 9 1 = false ∧ inW W 9 2 = false ∧ inW W 9 3 = false ∧ inW W 9 4 = false ∧ inW W 9 5 = false ∧ inW W 9 6 = false ∧ inW W 9 7 = false) : rc_h R h' := by
  obtain ⟨a0, a1, a2, a3, a4, a5, a6, a7, a8⟩ := hr
  obtain ⟨w0, w1, w2, w3, w4, w5, w6, w7, w8⟩ := hw
  exact ⟨((hf 8 6 w0).1).trans a0, ((hf 9 0 w1).1).trans a1, ((hf 9 1 w2).1).trans a2, ((hf 9 2 w3).1).trans a3, ((hf 9 3 w4).1).trans a4, ((hf 9 4 w5).1).trans a5, ((hf 9 5 w6).1).trans a6, ((hf 9 6 w7).1).trans a7, ((hf 9 7 w8).2.1).trans a8⟩
def pc_W : WSt := [(8, 4), (8, 5), (8, 6), (9, 0), (9, 1), (9, 2), (9, 3), (9, 4), (9, 5), (9, 6), (9, 7)]
def pc_S (F : Nat → Int32) (t p : Nat) (R : RC) (h : PmH) : Prop := pc_P F t p h ∧ ph_i h 8 5 = 0 ∧ rc_h R h ∧ p ≤ t
theorem u_eq {f : Nat → Nat → Int32} {p s : Nat} {x : Int32} : pm_u2 f p s x p s = x := by simp [pm_u2]
theorem hpl_S {F : Nat → Int32} {t p q : Nat} {R : RC} {h : PmH} (hS : pc_S F t p R h) (hq : q ≤ t) : pc_S F t q R (hpl h q) := ⟨hpl_P hS.1, ft_hpl.trans hS.2.1, rc_fr hS.2.2.1 hpl_fr (by decide), hq⟩
def h9 (h : PmH) (c : Nat) (x : Int32) : PmH := (ph_s h, pm_u2 (ph_i h) 9 c x, ph_l h, ph_r h)
theorem h9_ne {h : PmH} {c p s : Nat} {x : Int32} (hn : ¬ (p = 9 ∧ s = c)) : ph_i (h9 h c x) p s = ph_i h p s := wl_ne hn
theorem h9_eq {h : PmH} {c : Nat} {x : Int32} : ph_i (h9 h c x) 9 c = x := by
  show pm_u2 (ph_i h) 9 c x 9 c = x
  exact u_eq
theorem h9_P {F : Nat → Int32} {t p c : Nat} {x : Int32} {h : PmH} (hP : pc_P F t p h) (hI : HI hdT shT (h9 h c x)) : pc_P F t p (h9 h c x) := ⟨hI, hP.2.1, (h9_ne (fun z => absurd z.1 (by decide))).trans hP.2.2.1, (h9_ne (fun z => absurd z.1 (by decide))).trans hP.2.2.2.1, fun s => (h9_ne (fun z => absurd z.1 (by decide))).trans (hP.2.2.2.2 s)⟩
theorem h9_I {h : PmH} {c : Nat} {x : Int32} (hI : HI hdT shT h) (hd : (hd_at hdT shT 9 c).1 = 9) : HI hdT shT (h9 h c x) := HI_wi hI (fun z => by rw [hd] at z; cases z)
theorem h9_fr {h : PmH} {c : Nat} {x : Int32} (hc : inW pc_W 9 c = true) : fram pc_W h (h9 h c x) := fram_wi hc
theorem h9_5 {h : PmH} {c : Nat} {x : Int32} : ph_i (h9 h c x) 8 5 = ph_i h 8 5 := h9_ne (fun z => absurd z.1 (by decide))
/-- bits of the words told -/
theorem wt_bit : ∀ W, W < 64 → ∀ w, w < 6 → (nI W >>> (nI w &&& 31)) &&& 1 = if W.testBit w = true then 1 else 0 := by decide +kernel
theorem wt_or : ∀ W, W < 64 → ∀ w, w < 6 → nI W ||| ((1 : Int32) <<< (nI w &&& 31)) = nI (W ||| 2 ^ w) ∧ W ||| 2 ^ w < 64 := by decide +kernel
theorem was_ev {h : PmH} (hI : HI hdT shT h) {W w : Nat} (e6 : ph_i h 8 6 = nI W) (hW : W < 64) (hw : w < 6) : Ev pmT 39 [.ref 8, .int (nI w)] h (some (.int (b01 (W.testBit w)))) h := by
  refine Ev.of (es := cd_39) (ml := 2) (lv := [some (.ref 8), some (.int (nI w))]) rfl rfl rfl ?_
  have hb := wt_bit W hW w hw
  obtain ⟨S, fi, fl, fr⟩ := h
  have hS : S = shT := hI.1
  subst hS
  have e6 : fi 8 6 = nI W := e6
  unfold b01
  by_cases hc : W.testBit w = true
  · rw [if_pos hc] at hb ⊢
    refine g_n 1 (j' := 1) (lv' := [some (.ref 8), some (.int (nI w))]) (st' := [.ref 8]) (h' := (shT, fi, fl, fr)) rfl ?_
    refine g_getI (x := nI W) rfl (Or.inl rfl) rfl (by decide) (e6) ?_
    refine g_n 4 (j' := 6) (lv' := [some (.ref 8), some (.int (nI w))]) (st' := [.int (((nI W) >>> ((nI w) &&& 31)) &&& 1)]) (h' := (shT, fi, fl, fr)) rfl ?_
    rw [hb]
    refine g_iff rfl (show ¬ ((1 : Int32) = (0 : Int32)) from by decide) ?_
    refine g_n 2 (j' := 10) (lv' := [some (.ref 8), some (.int (nI w))]) (st' := [.int 1]) (h' := (shT, fi, fl, fr)) rfl ?_
    exact g_retz rfl (by decide)
  · rw [if_neg hc] at hb ⊢
    refine g_n 1 (j' := 1) (lv' := [some (.ref 8), some (.int (nI w))]) (st' := [.ref 8]) (h' := (shT, fi, fl, fr)) rfl ?_
    refine g_getI (x := nI W) rfl (Or.inl rfl) rfl (by decide) (e6) ?_
    refine g_n 4 (j' := 6) (lv' := [some (.ref 8), some (.int (nI w))]) (st' := [.int (((nI W) >>> ((nI w) &&& 31)) &&& 1)]) (h' := (shT, fi, fl, fr)) rfl ?_
    rw [hb]
    refine g_ift rfl (show (0 : Int32) = (0 : Int32) from rfl) ?_
    refine g_n 1 (j' := 10) (lv' := [some (.ref 8), some (.int (nI w))]) (st' := [.int 0]) (h' := (shT, fi, fl, fr)) rfl ?_
    exact g_retz rfl (by decide)
def exc (W w : Nat) : Bool := W.testBit w || ((decide (w = 1) && W.testBit 2) || (decide (w = 2) && W.testBit 1))
theorem exc_ev {h : PmH} (hI : HI hdT shT h) {W w : Nat} (e6 : ph_i h 8 6 = nI W) (hW : W < 64) (h1 : 1 ≤ w) (hw : w < 6) : Ev pmT 38 [.ref 8, .int (nI w)] h (some (.int (b01 (exc W w)))) h := by
  refine Ev.of (es := cd_38) (ml := 2) (lv := [some (.ref 8), some (.int (nI w))]) rfl rfl rfl ?_
  have w0 := was_ev hI e6 hW hw
  have w1 := was_ev (w := 1) hI e6 hW (by decide)
  have w2 := was_ev (w := 2) hI e6 hW (by decide)
  obtain ⟨S, fi, fl, fr⟩ := h
  have hS : S = shT := hI.1
  subst hS
  unfold exc
  cases c0 : W.testBit w
  · rw [c0] at w0
    by_cases a1 : w = 1
    · subst a1
      cases c2 : W.testBit 2
      · rw [c2] at w2
        refine g_n 2 (j' := 2) (lv' := [some (.ref 8), some (.int (nI 1))]) (st' := [.int (nI 1), .ref 8]) (h' := (shT, fi, fl, fr)) rfl ?_
        refine g_call (y := 39) (as := [.ref 8, .int (nI 1)]) (st' := []) rfl rfl (w0) ?_
        refine g_iff rfl (show ¬ (¬ (0 : Int32) = (0 : Int32)) from fun z => z rfl) ?_
        refine g_n 2 (j' := 6) (lv' := [some (.ref 8), some (.int (nI 1))]) (st' := [.int 1, .int (nI 1)]) (h' := (shT, fi, fl, fr)) rfl ?_
        refine g_icf rfl (show ¬ (¬ (nI 1) = (1 : Int32)) from fun z => z rfl) ?_
        refine g_n 2 (j' := 9) (lv' := [some (.ref 8), some (.int (nI 1))]) (st' := [.int (nI 2), .ref 8]) (h' := (shT, fi, fl, fr)) rfl ?_
        refine g_call (y := 39) (as := [.ref 8, .int (nI 2)]) (st' := []) rfl rfl (w2) ?_
        refine g_iff rfl (show ¬ (¬ (0 : Int32) = (0 : Int32)) from fun z => z rfl) ?_
        refine g_n 2 (j' := 13) (lv' := [some (.ref 8), some (.int (nI 1))]) (st' := [.int 2, .int (nI 1)]) (h' := (shT, fi, fl, fr)) rfl ?_
        refine g_ict rfl (show ¬ (nI 1) = (2 : Int32) from by decide) ?_
        refine g_n 1 (j' := 21) (lv' := [some (.ref 8), some (.int (nI 1))]) (st' := [.int 0]) (h' := (shT, fi, fl, fr)) rfl ?_
        exact g_retz rfl (by decide)
      · rw [c2] at w2
        refine g_n 2 (j' := 2) (lv' := [some (.ref 8), some (.int (nI 1))]) (st' := [.int (nI 1), .ref 8]) (h' := (shT, fi, fl, fr)) rfl ?_
        refine g_call (y := 39) (as := [.ref 8, .int (nI 1)]) (st' := []) rfl rfl (w0) ?_
        refine g_iff rfl (show ¬ (¬ (0 : Int32) = (0 : Int32)) from fun z => z rfl) ?_
        refine g_n 2 (j' := 6) (lv' := [some (.ref 8), some (.int (nI 1))]) (st' := [.int 1, .int (nI 1)]) (h' := (shT, fi, fl, fr)) rfl ?_
        refine g_icf rfl (show ¬ (¬ (nI 1) = (1 : Int32)) from fun z => z rfl) ?_
        refine g_n 2 (j' := 9) (lv' := [some (.ref 8), some (.int (nI 1))]) (st' := [.int (nI 2), .ref 8]) (h' := (shT, fi, fl, fr)) rfl ?_
        refine g_call (y := 39) (as := [.ref 8, .int (nI 2)]) (st' := []) rfl rfl (w2) ?_
        refine g_ift rfl (show ¬ (1 : Int32) = (0 : Int32) from by decide) ?_
        refine g_n 2 (j' := 21) (lv' := [some (.ref 8), some (.int (nI 1))]) (st' := [.int 1]) (h' := (shT, fi, fl, fr)) rfl ?_
        exact g_retz rfl (by decide)
    · by_cases a2 : w = 2
      · subst a2
        cases c1 : W.testBit 1
        · rw [c1] at w1
          refine g_n 2 (j' := 2) (lv' := [some (.ref 8), some (.int (nI 2))]) (st' := [.int (nI 2), .ref 8]) (h' := (shT, fi, fl, fr)) rfl ?_
          refine g_call (y := 39) (as := [.ref 8, .int (nI 2)]) (st' := []) rfl rfl (w0) ?_
          refine g_iff rfl (show ¬ (¬ (0 : Int32) = (0 : Int32)) from fun z => z rfl) ?_
          refine g_n 2 (j' := 6) (lv' := [some (.ref 8), some (.int (nI 2))]) (st' := [.int 1, .int (nI 2)]) (h' := (shT, fi, fl, fr)) rfl ?_
          refine g_ict rfl (show ¬ (nI 2) = (1 : Int32) from by decide) ?_
          refine g_n 2 (j' := 13) (lv' := [some (.ref 8), some (.int (nI 2))]) (st' := [.int 2, .int (nI 2)]) (h' := (shT, fi, fl, fr)) rfl ?_
          refine g_icf rfl (show ¬ (¬ (nI 2) = (2 : Int32)) from fun z => z rfl) ?_
          refine g_n 2 (j' := 16) (lv' := [some (.ref 8), some (.int (nI 2))]) (st' := [.int (nI 1), .ref 8]) (h' := (shT, fi, fl, fr)) rfl ?_
          refine g_call (y := 39) (as := [.ref 8, .int (nI 1)]) (st' := []) rfl rfl (w1) ?_
          refine g_ift rfl (show (0 : Int32) = (0 : Int32) from rfl) ?_
          refine g_n 1 (j' := 21) (lv' := [some (.ref 8), some (.int (nI 2))]) (st' := [.int 0]) (h' := (shT, fi, fl, fr)) rfl ?_
          exact g_retz rfl (by decide)
        · rw [c1] at w1
          refine g_n 2 (j' := 2) (lv' := [some (.ref 8), some (.int (nI 2))]) (st' := [.int (nI 2), .ref 8]) (h' := (shT, fi, fl, fr)) rfl ?_
          refine g_call (y := 39) (as := [.ref 8, .int (nI 2)]) (st' := []) rfl rfl (w0) ?_
          refine g_iff rfl (show ¬ (¬ (0 : Int32) = (0 : Int32)) from fun z => z rfl) ?_
          refine g_n 2 (j' := 6) (lv' := [some (.ref 8), some (.int (nI 2))]) (st' := [.int 1, .int (nI 2)]) (h' := (shT, fi, fl, fr)) rfl ?_
          refine g_ict rfl (show ¬ (nI 2) = (1 : Int32) from by decide) ?_
          refine g_n 2 (j' := 13) (lv' := [some (.ref 8), some (.int (nI 2))]) (st' := [.int 2, .int (nI 2)]) (h' := (shT, fi, fl, fr)) rfl ?_
          refine g_icf rfl (show ¬ (¬ (nI 2) = (2 : Int32)) from fun z => z rfl) ?_
          refine g_n 2 (j' := 16) (lv' := [some (.ref 8), some (.int (nI 2))]) (st' := [.int (nI 1), .ref 8]) (h' := (shT, fi, fl, fr)) rfl ?_
          refine g_call (y := 39) (as := [.ref 8, .int (nI 1)]) (st' := []) rfl rfl (w1) ?_
          refine g_iff rfl (show ¬ ((1 : Int32) = (0 : Int32)) from by decide) ?_
          refine g_n 2 (j' := 21) (lv' := [some (.ref 8), some (.int (nI 2))]) (st' := [.int 1]) (h' := (shT, fi, fl, fr)) rfl ?_
          exact g_retz rfl (by decide)
      · have n1 : ¬ nI w = 1 := fun z => a1 ((nI_eq (b := 1) (by omega) (by decide)).mp z)
        have n2 : ¬ nI w = 2 := fun z => a2 ((nI_eq (b := 2) (by omega) (by decide)).mp z)
        rw [decide_eq_false a1, decide_eq_false a2]
        refine g_n 2 (j' := 2) (lv' := [some (.ref 8), some (.int (nI w))]) (st' := [.int (nI w), .ref 8]) (h' := (shT, fi, fl, fr)) rfl ?_
        refine g_call (y := 39) (as := [.ref 8, .int (nI w)]) (st' := []) rfl rfl (w0) ?_
        refine g_iff rfl (show ¬ (¬ (0 : Int32) = (0 : Int32)) from fun z => z rfl) ?_
        refine g_n 2 (j' := 6) (lv' := [some (.ref 8), some (.int (nI w))]) (st' := [.int 1, .int (nI w)]) (h' := (shT, fi, fl, fr)) rfl ?_
        refine g_ict rfl (show ¬ (nI w) = (1 : Int32) from n1) ?_
        refine g_n 2 (j' := 13) (lv' := [some (.ref 8), some (.int (nI w))]) (st' := [.int 2, .int (nI w)]) (h' := (shT, fi, fl, fr)) rfl ?_
        refine g_ict rfl (show ¬ (nI w) = (2 : Int32) from n2) ?_
        refine g_n 1 (j' := 21) (lv' := [some (.ref 8), some (.int (nI w))]) (st' := [.int 0]) (h' := (shT, fi, fl, fr)) rfl ?_
        exact g_retz rfl (by decide)
  · rw [c0] at w0
    refine g_n 2 (j' := 2) (lv' := [some (.ref 8), some (.int (nI w))]) (st' := [.int (nI w), .ref 8]) (h' := (shT, fi, fl, fr)) rfl ?_
    refine g_call (y := 39) (as := [.ref 8, .int (nI w)]) (st' := []) rfl rfl (w0) ?_
    refine g_ift rfl (show ¬ (1 : Int32) = (0 : Int32) from by decide) ?_
    refine g_n 2 (j' := 21) (lv' := [some (.ref 8), some (.int (nI w))]) (st' := [.int 1]) (h' := (shT, fi, fl, fr)) rfl ?_
    exact g_retz rfl (by decide)
/-- the outcome of a stretch of the parser -/
def pc_O (F : Nat → Int32) (t : Nat) (h : PmH) (q : Option (RC × Nat)) (y : Nat) (as : List Value) : Prop := (∃ R e h', q = some (R, e) ∧ Ev pmT y as h none h' ∧ pc_S F t e R h' ∧ fram pc_W h h') ∨ (q = none ∧ ∃ h', Ev pmT y as h none h' ∧ pc_X F t h h' pc_W)
theorem pc_Xup {F : Nat → Int32} {t : Nat} {h h' : PmH} {W W' : WSt} (hx : pc_X F t h h' W) (hw : subW W W' = true) : pc_X F t h h' W' := ⟨hx.1, fram.up hw hx.2.1, hx.2.2⟩
theorem pn_1 {F : Nat → Int32} {t p : Nat} {R : RC} {h : PmH} (ht : t ≤ 200) (hS : pc_S F t p R h) : pc_O F t h ((num F t 1 64 p).map (fun q => ((R.1, R.2.1, q.1, R.2.2.2.1, R.2.2.2.2.1, R.2.2.2.2.2.1, R.2.2.2.2.2.2.1, R.2.2.2.2.2.2.2), q.2))) 40 [.ref 8, .int (nI 1)] := by
  have r_8_0 : ph_r h 8 0 = some 9 := hi_r hS.1.1 rfl rfl (by decide)
  rcases nb_ev (lo := 1) (hi := 64) ht hS.2.2.2 hS.1 hS.2.1 (by decide) (by decide) with ⟨v, e, q1, q2, q3, q4, q5, q6⟩ | ⟨q1, x, h', q2, q3⟩
  · left
    have S2 := hpl_S (q := e) hS q4
    have I2 : HI hdT shT (h9 (hpl h e) 2 (nI v)) := h9_I S2.1.1 rfl
    refine ⟨(R.1, R.2.1, v, R.2.2.2.1, R.2.2.2.2.1, R.2.2.2.2.2.1, R.2.2.2.2.2.2.1, R.2.2.2.2.2.2.2), e, h9 (hpl h e) 2 (nI v), by rw [q1]; rfl, Ev.of (es := cd_40) (ml := 2) (lv := [some (.ref 8), some (.int (nI 1))]) rfl rfl rfl ?_, ⟨h9_P S2.1 I2, h9_5.trans S2.2.1, ?_, S2.2.2.2⟩, fram.tr (fram.up (by decide) hpl_fr) (h9_fr (by decide))⟩
    · obtain ⟨S, fi, fl, fr⟩ := h
      have hSS : S = shT := hS.1.1.1
      subst hSS
      have r_8_0 : fr 8 0 = some 9 := r_8_0
      refine g_n 3 (j' := 3) (lv' := [some (.ref 8), some (.int 1)]) (st' := [.ref 8]) (h' := (shT, fi, fl, fr)) rfl ?_
      refine g_getR (q' := 9) rfl rfl (by decide) r_8_0 ?_
      refine g_n 3 (j' := 7) (lv' := [some (.ref 8), some (.int 1)]) (st' := [.int (nI 64), .int (nI 1), .ref 8, .ref 9]) (h' := (shT, fi, fl, fr)) rfl ?_
      refine g_call (y := 33) (as := [.ref 8, .int (nI 1), .int (nI 64)]) (st' := [.ref 9]) rfl rfl (q6) ?_
      refine g_putI rfl (Or.inl rfl) rfl (by decide) ?_
      refine g_n 1 (j' := 43) (lv' := [some (.ref 8), some (.int 1)]) (st' := []) (h' := (shT, pm_u2 (pm_u2 fi 8 4 (nI e)) 9 2 (nI v), fl, fr)) rfl ?_
      exact g_vret rfl
    · obtain ⟨a0, a1, a2, a3, a4, a5, a6, a7, a8⟩ := S2.2.2.1
      exact ⟨(h9_ne (by decide)).trans a0, (h9_ne (by decide)).trans a1, (h9_ne (by decide)).trans a2, h9_eq, (h9_ne (by decide)).trans a4, (h9_ne (by decide)).trans a5, (h9_ne (by decide)).trans a6, (h9_ne (by decide)).trans a7, a8⟩
  · right
    have r9 : ph_r h' 8 0 = some 9 := hi_r (Exists.elim q3.2.2 (fun _ z => z.2.1)) rfl rfl (by decide)
    obtain ⟨p', p1, p2⟩ := q3.2.2
    have I2 : HI hdT shT (h9 h' 2 x) := h9_I p2.1 rfl
    refine ⟨by rw [q1]; rfl, h9 h' 2 x, Ev.of (es := cd_40) (ml := 2) (lv := [some (.ref 8), some (.int (nI 1))]) rfl rfl rfl ?_, ⟨fun z => q3.1 (h9_5.symm.trans z), fram.tr (fram.up (by decide) q3.2.1) (h9_fr (by decide)), p', p1, h9_P p2 I2⟩⟩
    obtain ⟨S, fi, fl, fr⟩ := h
    have hSS : S = shT := hS.1.1.1
    subst hSS
    obtain ⟨S', fi', fl', fr'⟩ := h'
    have hSS' : S' = shT := p2.1.1
    subst hSS'
    have r_8_0 : fr 8 0 = some 9 := r_8_0
    refine g_n 3 (j' := 3) (lv' := [some (.ref 8), some (.int 1)]) (st' := [.ref 8]) (h' := (shT, fi, fl, fr)) rfl ?_
    refine g_getR (q' := 9) rfl rfl (by decide) r_8_0 ?_
    refine g_n 3 (j' := 7) (lv' := [some (.ref 8), some (.int 1)]) (st' := [.int (nI 64), .int (nI 1), .ref 8, .ref 9]) (h' := (shT, fi, fl, fr)) rfl ?_
    refine g_call (y := 33) (as := [.ref 8, .int (nI 1), .int (nI 64)]) (st' := [.ref 9]) rfl rfl (q2) ?_
    refine g_putI rfl (Or.inl rfl) rfl (by decide) ?_
    refine g_n 1 (j' := 43) (lv' := [some (.ref 8), some (.int 1)]) (st' := []) (h' := (shT, pm_u2 fi' 9 2 x, fl', fr')) rfl ?_
    exact g_vret rfl
theorem pn_4 {F : Nat → Int32} {t p : Nat} {R : RC} {h : PmH} (ht : t ≤ 200) (hS : pc_S F t p R h) : pc_O F t h ((num F t 1 999 p).map (fun q => ((R.1, R.2.1, R.2.2.1, R.2.2.2.1, R.2.2.2.2.1, q.1, R.2.2.2.2.2.2.1, R.2.2.2.2.2.2.2), q.2))) 40 [.ref 8, .int (nI 4)] := by
  have r_8_0 : ph_r h 8 0 = some 9 := hi_r hS.1.1 rfl rfl (by decide)
  rcases nb_ev (lo := 1) (hi := 999) ht hS.2.2.2 hS.1 hS.2.1 (by decide) (by decide) with ⟨v, e, q1, q2, q3, q4, q5, q6⟩ | ⟨q1, x, h', q2, q3⟩
  · left
    have S2 := hpl_S (q := e) hS q4
    have I2 : HI hdT shT (h9 (hpl h e) 5 (nI v)) := h9_I S2.1.1 rfl
    refine ⟨(R.1, R.2.1, R.2.2.1, R.2.2.2.1, R.2.2.2.2.1, v, R.2.2.2.2.2.2.1, R.2.2.2.2.2.2.2), e, h9 (hpl h e) 5 (nI v), by rw [q1]; rfl, Ev.of (es := cd_40) (ml := 2) (lv := [some (.ref 8), some (.int (nI 4))]) rfl rfl rfl ?_, ⟨h9_P S2.1 I2, h9_5.trans S2.2.1, ?_, S2.2.2.2⟩, fram.tr (fram.up (by decide) hpl_fr) (h9_fr (by decide))⟩
    · obtain ⟨S, fi, fl, fr⟩ := h
      have hSS : S = shT := hS.1.1.1
      subst hSS
      have r_8_0 : fr 8 0 = some 9 := r_8_0
      refine g_n 3 (j' := 29) (lv' := [some (.ref 8), some (.int 4)]) (st' := [.ref 8]) (h' := (shT, fi, fl, fr)) rfl ?_
      refine g_getR (q' := 9) rfl rfl (by decide) r_8_0 ?_
      refine g_n 3 (j' := 33) (lv' := [some (.ref 8), some (.int 4)]) (st' := [.int (nI 999), .int (nI 1), .ref 8, .ref 9]) (h' := (shT, fi, fl, fr)) rfl ?_
      refine g_call (y := 33) (as := [.ref 8, .int (nI 1), .int (nI 999)]) (st' := [.ref 9]) rfl rfl (q6) ?_
      refine g_putI rfl (Or.inl rfl) rfl (by decide) ?_
      refine g_n 1 (j' := 43) (lv' := [some (.ref 8), some (.int 4)]) (st' := []) (h' := (shT, pm_u2 (pm_u2 fi 8 4 (nI e)) 9 5 (nI v), fl, fr)) rfl ?_
      exact g_vret rfl
    · obtain ⟨a0, a1, a2, a3, a4, a5, a6, a7, a8⟩ := S2.2.2.1
      exact ⟨(h9_ne (by decide)).trans a0, (h9_ne (by decide)).trans a1, (h9_ne (by decide)).trans a2, (h9_ne (by decide)).trans a3, (h9_ne (by decide)).trans a4, (h9_ne (by decide)).trans a5, h9_eq, (h9_ne (by decide)).trans a7, a8⟩
  · right
    have r9 : ph_r h' 8 0 = some 9 := hi_r (Exists.elim q3.2.2 (fun _ z => z.2.1)) rfl rfl (by decide)
    obtain ⟨p', p1, p2⟩ := q3.2.2
    have I2 : HI hdT shT (h9 h' 5 x) := h9_I p2.1 rfl
    refine ⟨by rw [q1]; rfl, h9 h' 5 x, Ev.of (es := cd_40) (ml := 2) (lv := [some (.ref 8), some (.int (nI 4))]) rfl rfl rfl ?_, ⟨fun z => q3.1 (h9_5.symm.trans z), fram.tr (fram.up (by decide) q3.2.1) (h9_fr (by decide)), p', p1, h9_P p2 I2⟩⟩
    obtain ⟨S, fi, fl, fr⟩ := h
    have hSS : S = shT := hS.1.1.1
    subst hSS
    obtain ⟨S', fi', fl', fr'⟩ := h'
    have hSS' : S' = shT := p2.1.1
    subst hSS'
    have r_8_0 : fr 8 0 = some 9 := r_8_0
    refine g_n 3 (j' := 29) (lv' := [some (.ref 8), some (.int 4)]) (st' := [.ref 8]) (h' := (shT, fi, fl, fr)) rfl ?_
    refine g_getR (q' := 9) rfl rfl (by decide) r_8_0 ?_
    refine g_n 3 (j' := 33) (lv' := [some (.ref 8), some (.int 4)]) (st' := [.int (nI 999), .int (nI 1), .ref 8, .ref 9]) (h' := (shT, fi, fl, fr)) rfl ?_
    refine g_call (y := 33) (as := [.ref 8, .int (nI 1), .int (nI 999)]) (st' := [.ref 9]) rfl rfl (q2) ?_
    refine g_putI rfl (Or.inl rfl) rfl (by decide) ?_
    refine g_n 1 (j' := 43) (lv' := [some (.ref 8), some (.int 4)]) (st' := []) (h' := (shT, pm_u2 fi' 9 5 x, fl', fr')) rfl ?_
    exact g_vret rfl
theorem pn_5 {F : Nat → Int32} {t p : Nat} {R : RC} {h : PmH} (ht : t ≤ 200) (hS : pc_S F t p R h) : pc_O F t h ((num F t 1 8 p).map (fun q => ((R.1, R.2.1, R.2.2.1, R.2.2.2.1, R.2.2.2.2.1, R.2.2.2.2.2.1, q.1, R.2.2.2.2.2.2.2), q.2))) 40 [.ref 8, .int (nI 5)] := by
  have r_8_0 : ph_r h 8 0 = some 9 := hi_r hS.1.1 rfl rfl (by decide)
  rcases nb_ev (lo := 1) (hi := 8) ht hS.2.2.2 hS.1 hS.2.1 (by decide) (by decide) with ⟨v, e, q1, q2, q3, q4, q5, q6⟩ | ⟨q1, x, h', q2, q3⟩
  · left
    have S2 := hpl_S (q := e) hS q4
    have I2 : HI hdT shT (h9 (hpl h e) 6 (nI v)) := h9_I S2.1.1 rfl
    refine ⟨(R.1, R.2.1, R.2.2.1, R.2.2.2.1, R.2.2.2.2.1, R.2.2.2.2.2.1, v, R.2.2.2.2.2.2.2), e, h9 (hpl h e) 6 (nI v), by rw [q1]; rfl, Ev.of (es := cd_40) (ml := 2) (lv := [some (.ref 8), some (.int (nI 5))]) rfl rfl rfl ?_, ⟨h9_P S2.1 I2, h9_5.trans S2.2.1, ?_, S2.2.2.2⟩, fram.tr (fram.up (by decide) hpl_fr) (h9_fr (by decide))⟩
    · obtain ⟨S, fi, fl, fr⟩ := h
      have hSS : S = shT := hS.1.1.1
      subst hSS
      have r_8_0 : fr 8 0 = some 9 := r_8_0
      refine g_n 3 (j' := 37) (lv' := [some (.ref 8), some (.int 5)]) (st' := [.ref 8]) (h' := (shT, fi, fl, fr)) rfl ?_
      refine g_getR (q' := 9) rfl rfl (by decide) r_8_0 ?_
      refine g_n 3 (j' := 41) (lv' := [some (.ref 8), some (.int 5)]) (st' := [.int (nI 8), .int (nI 1), .ref 8, .ref 9]) (h' := (shT, fi, fl, fr)) rfl ?_
      refine g_call (y := 33) (as := [.ref 8, .int (nI 1), .int (nI 8)]) (st' := [.ref 9]) rfl rfl (q6) ?_
      refine g_putI rfl (Or.inl rfl) rfl (by decide) ?_
      exact g_vret rfl
    · obtain ⟨a0, a1, a2, a3, a4, a5, a6, a7, a8⟩ := S2.2.2.1
      exact ⟨(h9_ne (by decide)).trans a0, (h9_ne (by decide)).trans a1, (h9_ne (by decide)).trans a2, (h9_ne (by decide)).trans a3, (h9_ne (by decide)).trans a4, (h9_ne (by decide)).trans a5, (h9_ne (by decide)).trans a6, h9_eq, a8⟩
  · right
    have r9 : ph_r h' 8 0 = some 9 := hi_r (Exists.elim q3.2.2 (fun _ z => z.2.1)) rfl rfl (by decide)
    obtain ⟨p', p1, p2⟩ := q3.2.2
    have I2 : HI hdT shT (h9 h' 6 x) := h9_I p2.1 rfl
    refine ⟨by rw [q1]; rfl, h9 h' 6 x, Ev.of (es := cd_40) (ml := 2) (lv := [some (.ref 8), some (.int (nI 5))]) rfl rfl rfl ?_, ⟨fun z => q3.1 (h9_5.symm.trans z), fram.tr (fram.up (by decide) q3.2.1) (h9_fr (by decide)), p', p1, h9_P p2 I2⟩⟩
    obtain ⟨S, fi, fl, fr⟩ := h
    have hSS : S = shT := hS.1.1.1
    subst hSS
    obtain ⟨S', fi', fl', fr'⟩ := h'
    have hSS' : S' = shT := p2.1.1
    subst hSS'
    have r_8_0 : fr 8 0 = some 9 := r_8_0
    refine g_n 3 (j' := 37) (lv' := [some (.ref 8), some (.int 5)]) (st' := [.ref 8]) (h' := (shT, fi, fl, fr)) rfl ?_
    refine g_getR (q' := 9) rfl rfl (by decide) r_8_0 ?_
    refine g_n 3 (j' := 41) (lv' := [some (.ref 8), some (.int 5)]) (st' := [.int (nI 8), .int (nI 1), .ref 8, .ref 9]) (h' := (shT, fi, fl, fr)) rfl ?_
    refine g_call (y := 33) (as := [.ref 8, .int (nI 1), .int (nI 8)]) (st' := [.ref 9]) rfl rfl (q2) ?_
    refine g_putI rfl (Or.inl rfl) rfl (by decide) ?_
    exact g_vret rfl
