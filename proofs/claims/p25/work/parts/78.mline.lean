def lW : WSt := [(70, 2), (70, 3), (70, 6), (70, 7), (70, 8), (70, 9), (70, 10), (70, 11), (70, 12), (70, 13), (73, 9999)]
/-- what the model's parser holds behind the size -/
def mr_h (R : RC) (h : PmH) : Prop := ph_i h 70 6 = nI R.2.1 ∧ ph_i h 70 7 = nI R.2.2.1 ∧ ph_l h 70 8 = R.2.2.2.2.2.2.2 ∧ ph_i h 70 9 = nI R.2.2.2.1 ∧ ph_i h 70 10 = nI R.2.2.2.2.1 ∧ ph_i h 70 11 = nI R.2.2.2.2.2.1 ∧ ph_i h 70 12 = nI R.2.2.2.2.2.2.1
def mi_h (z : Int32) (W : Nat) (h : PmH) : Prop := ph_i h 73 0 = z ∧ ∀ w, 1 ≤ w → w < 6 → ph_i h 73 w = b01 (W.testBit w)
def mp_S (F : Nat → Int32) (t p : Nat) (R : RC) (h : PmH) : Prop := mp_P F t p h ∧ mr_h R h ∧ mi_h 1 R.1 h ∧ p ≤ t
def mo_O (F : Nat → Int32) (t : Nat) (h : PmH) (q : Option (RC × Nat)) (r : Option Value × PmH) : Prop := (∃ R e, q = some (R, e) ∧ r.1 = some (.int 1) ∧ mp_S F t e R r.2 ∧ fram lW h r.2) ∨ (q = none ∧ r.1 = some (.int 0) ∧ HI hdT shT r.2 ∧ fram lW h r.2)
theorem mr_fr {R : RC} {W : WSt} {h h' : PmH} (hr : mr_h R h) (hf : fram W h h') (hw : ([6, 7, 8, 9, 10, 11, 12].all (fun c => !inW W 70 c)) = true) : mr_h R h' := by
  obtain ⟨a0, a1, a2, a3, a4, a5, a6⟩ := hr
  have e : ∀ c, c ∈ [6, 7, 8, 9, 10, 11, 12] → inW W 70 c = false := fun c hc => by
    have := List.all_eq_true.mp hw c hc
    simpa using this
  exact ⟨((hf 70 6 (e 6 (by decide))).1).trans a0, ((hf 70 7 (e 7 (by decide))).1).trans a1, ((hf 70 8 (e 8 (by decide))).2.1).trans a2, ((hf 70 9 (e 9 (by decide))).1).trans a3, ((hf 70 10 (e 10 (by decide))).1).trans a4, ((hf 70 11 (e 11 (by decide))).1).trans a5, ((hf 70 12 (e 12 (by decide))).1).trans a6⟩
theorem mi_fr {z : Int32} {V : Nat} {W : WSt} {h h' : PmH} (hr : mi_h z V h) (hf : fram W h h') (hw : W.all (fun q => decide (¬ q.1 = 73)) = true) : mi_h z V h' := by
  have e : ∀ s, inW W 73 s = false := fun s => inW_all hw (fun c _ => rfl)
  exact ⟨((hf 73 0 (e 0)).1).trans hr.1, fun w h1 h2 => ((hf 73 w (e w)).1).trans (hr.2 w h1 h2)⟩
theorem wt_w : ∀ W, W < 64 → ∀ w, w < 6 → ∀ v, v < 6 → (W ||| 2 ^ w).testBit v = (W.testBit v || decide (w = v)) := by decide +kernel
def hz (h : PmH) (w : Nat) : PmH := h_i h 73 w 1
theorem hz_I {h : PmH} {w : Nat} {x : Int32} (hI : HI hdT shT h) : HI hdT shT (h_i h 73 w x) := HI_wi hI (fun z => by
  have : hd_at hdT shT 73 w = (9, 0, 0, []) := rfl
  rw [this] at z
  cases z)
theorem hz_P {F : Nat → Int32} {t p w : Nat} {x : Int32} {h : PmH} (hP : mp_P F t p h) : mp_P F t p (h_i h 73 w x) := ⟨hz_I hP.1, (h_n (by omega)).trans hP.2.1, (h_n (by omega)).trans hP.2.2.1, fun s => (h_n (by omega)).trans (hP.2.2.2.1 s), fun i hi => (h_n (by omega)).trans (hP.2.2.2.2 i hi)⟩
theorem hz_i {W w : Nat} {h : PmH} (hW : W < 64) (h1 : 1 ≤ w) (h2 : w < 6) (hi : mi_h 1 W h) : mi_h 1 (W ||| 2 ^ w) (hz h w) := by
  refine ⟨(h_n (by omega)).trans hi.1, fun v v1 v2 => ?_⟩
  rw [wt_w W hW w h2 v v2]
  by_cases hv : w = v
  · subst hv
    rw [decide_eq_true rfl, Bool.or_true]
    exact h_e
  · rw [decide_eq_false hv, Bool.or_false]
    exact (h_n (by omega)).trans (hi.2 v v1 v2)
theorem hz_r {R : RC} {w : Nat} {x : Int32} {h : PmH} (hr : mr_h R h) : mr_h R (h_i h 73 w x) := mr_fr hr (W := [(73, w)]) (fram_wi (by simp [inW])) (by simp [inW])
/-- letters go by -/
theorem ml_go {F : Nat → Int32} {t : Nat} {l1 l2 : Option Value} {r : Option Value × PmH} (ht : t ≤ 200) (hF : ∀ s, byR (F s)) : ∀ (n p : Nat) (h : PmH), t - p = n → p ≤ t → mp_P F t p h → Go pmT none cd_151 68 [some (.ref 70), l1, l2] [] (mpl h (sk F t cL p)) r → Go pmT none cd_151 55 [some (.ref 70), l1, l2] [] h r := by
  intro n
  induction n with
  | zero =>
    intro p h hn hpt hP k
    rw [sk_out (by omega), mpl_id hP.2.2.1] at k
    have b1 := ba_ev ht (show p ≤ 1000 by omega) hP
    have d0 := isL0 (x := bA F t p) hP.1 (by rw [bA_L hF]; omega)
    have e2 := hP.2.2.1
    have hI := hP.1
    clear hP
    obtain ⟨S, fi, fl, fr⟩ := h
    have hS : S = shT := hI.1
    subst hS
    have e2 : fi 70 2 = nI p := e2
    refine go_of ?_
    refine gp_n 2 (j' := 57) (lv' := [some (.ref 70), l1, l2]) (st' := [.ref 70, .ref 70]) (h' := (shT, fi, fl, fr)) rfl ?_
    refine gp_of (fun _ k9 => g_getI (x := nI p) rfl (Or.inl rfl) rfl (by decide) (e2) k9) ?_
    refine gp_of (fun _ k9 => g_call (y := 154) (as := [.ref 70, .int (nI p)]) (st' := []) rfl rfl (b1) k9) ?_
    refine gp_of (fun _ k9 => g_call (y := 155) (as := [.int (bA F t p)]) (st' := []) rfl rfl (d0) k9) ?_
    refine gp_of (fun _ k9 => g_ift rfl (show (0 : Int32) = (0 : Int32) from by decide) k9) ?_
    exact gp_done k rfl
  | succ n ih =>
    intro p h hn hpt hP k
    have b1 := ba_ev ht (show p ≤ 1000 by omega) hP
    have e2 := hP.2.2.1
    have hI := hP.1
    by_cases hc : p < t ∧ cL (F p) = true
    · have d1 := isL1 (x := bA F t p) hP.1 ((bA_L hF).mpr hc)
      rw [sk_in hc.1 hc.2] at k
      have g := ih (p + 1) (mpl h (p + 1)) (by omega) (by omega) (mpl_P hP) (by rw [mpl_2]; exact k)
      clear hP
      obtain ⟨S, fi, fl, fr⟩ := h
      have hS : S = shT := hI.1
      subst hS
      have e2 : fi 70 2 = nI p := e2
      refine go_of ?_
      refine gp_n 2 (j' := 57) (lv' := [some (.ref 70), l1, l2]) (st' := [.ref 70, .ref 70]) (h' := (shT, fi, fl, fr)) rfl ?_
      refine gp_of (fun _ k9 => g_getI (x := nI p) rfl (Or.inl rfl) rfl (by decide) (e2) k9) ?_
      refine gp_of (fun _ k9 => g_call (y := 154) (as := [.ref 70, .int (nI p)]) (st' := []) rfl rfl (b1) k9) ?_
      refine gp_of (fun _ k9 => g_call (y := 155) (as := [.int (bA F t p)]) (st' := []) rfl rfl (d1) k9) ?_
      refine gp_of (fun _ k9 => g_iff rfl (show ¬ ((1 : Int32) = (0 : Int32)) from by decide) k9) ?_
      refine gp_n 2 (j' := 63) (lv' := [some (.ref 70), l1, l2]) (st' := [.ref 70, .ref 70]) (h' := (shT, fi, fl, fr)) rfl ?_
      refine gp_of (fun _ k9 => g_getI (x := nI p) rfl (Or.inl rfl) rfl (by decide) (e2) k9) ?_
      refine gp_n 2 (j' := 66) (lv' := [some (.ref 70), l1, l2]) (st' := [.int ((nI p) + 1), .ref 70]) (h' := (shT, fi, fl, fr)) rfl ?_
      rw [nI_1 p]
      refine gp_of (fun _ k9 => g_putI rfl (Or.inl rfl) rfl (by decide) k9) ?_
      refine gp_n 1 (j' := 55) (lv' := [some (.ref 70), l1, l2]) (st' := []) (h' := (shT, pm_u2 fi 70 2 (nI (p + 1)), fl, fr)) rfl ?_
      exact gp_done g rfl
    · have d0 := isL0 (x := bA F t p) hP.1 (fun z => hc ((bA_L hF).mp z))
      rw [sk_out hc, mpl_id e2] at k
      clear hP
      obtain ⟨S, fi, fl, fr⟩ := h
      have hS : S = shT := hI.1
      subst hS
      have e2 : fi 70 2 = nI p := e2
      refine go_of ?_
      refine gp_n 2 (j' := 57) (lv' := [some (.ref 70), l1, l2]) (st' := [.ref 70, .ref 70]) (h' := (shT, fi, fl, fr)) rfl ?_
      refine gp_of (fun _ k9 => g_getI (x := nI p) rfl (Or.inl rfl) rfl (by decide) (e2) k9) ?_
      refine gp_of (fun _ k9 => g_call (y := 154) (as := [.ref 70, .int (nI p)]) (st' := []) rfl rfl (b1) k9) ?_
      refine gp_of (fun _ k9 => g_call (y := 155) (as := [.int (bA F t p)]) (st' := []) rfl rfl (d0) k9) ?_
      refine gp_of (fun _ k9 => g_ift rfl (show (0 : Int32) = (0 : Int32) from by decide) k9) ?_
      exact gp_done k rfl
theorem mo_tr {F : Nat → Int32} {t : Nat} {h h1 : PmH} {q : Option (RC × Nat)} {r : Option Value × PmH} (hf : fram lW h h1) (ho : mo_O F t h1 q r) : mo_O F t h q r := by
  rcases ho with ⟨R, e, a1, a2, a3, a4⟩ | ⟨a1, a2, a3, a4⟩
  · exact Or.inl ⟨R, e, a1, a2, a3, fram.tr hf a4⟩
  · exact Or.inr ⟨a1, a2, a3, fram.tr hf a4⟩
theorem mn_1 {F : Nat → Int32} {t p : Nat} {R : RC} {h : PmH} {l1 : Option Value} (ht : t ≤ 200) (hF : ∀ s, byR (F s)) (hS : mp_S F t p R h) : GoP pmT none cd_151 68 [some (.ref 70), l1, some (.int 1)] [] h (mo_O F t h (numsS F t R p 1)) := by
  rcases rd_ev (lo := 1) (hi := 64) ht hF hS.2.2.2 hS.1 (by decide) (by decide) with ⟨v, e, h', q1, q2, q3, q4, q5, q6⟩ | ⟨q1, h', q2, q3, q4⟩
  · have i' : mi_h 1 R.1 h' := mi_fr hS.2.2.1 q6 (by decide)
    obtain ⟨a0, a1, a2, a3, a4, a5, a6⟩ := mr_fr hS.2.1 q6 (by decide)
    have hr : numsS F t R p 1 = some ((R.1, R.2.1, v, R.2.2.2.1, R.2.2.2.2.1, R.2.2.2.2.2.1, R.2.2.2.2.2.2.1, R.2.2.2.2.2.2.2), e) := by
      show (num F t 1 64 p).map _ = _
      rw [q1]
      rfl
    rw [hr]
    refine gp_mono (fun r (z : r = (some (.int 1), h_i h' 70 7 (nI v))) => Or.inl ⟨_, e, rfl, by rw [z], ?_, by rw [z]; exact fram.tr (fram.up (by decide) q6) (fram_wi (by decide))⟩) ?_
    · rw [z]
      exact ⟨h70_P q4 rfl (by decide) (by decide), ⟨(h_n (by decide)).trans a0, h_e, a2, (h_n (by decide)).trans a3, (h_n (by decide)).trans a4, (h_n (by decide)).trans a5, (h_n (by decide)).trans a6⟩, mi_fr i' (W := [(70, 7)]) (fram_wi (by decide)) (by decide), q2⟩
    have I1 := q4.1
    have hI := hS.1.1
    clear q4 q6 i' a0 a1 a2 a3 a4 a5 a6 hS
    obtain ⟨S1, fi1, fl1, fr1⟩ := h'
    have s1 : S1 = shT := I1.1
    subst s1
    have q5 : fi1 70 13 = nI v := q5
    obtain ⟨S, fi, fl, fr⟩ := h
    have hS : S = shT := hI.1
    subst hS
    refine gp_n 5 (j' := 86) (lv' := [some (.ref 70), l1, some (.int 1)]) (st' := [.int (nI 64), .int (nI 1), .ref 70]) (h' := (shT, fi, fl, fr)) rfl ?_
    refine gp_of (fun _ k9 => g_call (y := 157) (as := [.ref 70, .int (nI 1), .int (nI 64)]) (st' := []) rfl rfl (q3) k9) ?_
    refine gp_of (fun _ k9 => g_ift rfl (show ¬ (1 : Int32) = (0 : Int32) from by decide) k9) ?_
    refine gp_n 2 (j' := 92) (lv' := [some (.ref 70), l1, some (.int 1)]) (st' := [.ref 70, .ref 70]) (h' := (shT, fi1, fl1, fr1)) rfl ?_
    refine gp_of (fun _ k9 => g_getI (x := nI v) rfl (Or.inl rfl) rfl (by decide) (q5) k9) ?_
    refine gp_of (fun _ k9 => g_putI rfl (Or.inl rfl) rfl (by decide) k9) ?_
    refine gp_n 1 (j' := 95) (lv' := [some (.ref 70), l1, some (.int 1)]) (st' := [.int 1]) (h' := (shT, pm_u2 fi1 70 7 (nI v), fl1, fr1)) rfl ?_
    refine gp_done (g_retz rfl (by decide)) ?_
    rfl
  · have hr : numsS F t R p 1 = none := by
      show (num F t 1 64 p).map _ = _
      rw [q1]
      rfl
    rw [hr]
    refine gp_mono (fun r (z : r = (some (.int 0), h')) => Or.inr ⟨rfl, by rw [z], by rw [z]; exact q3, by rw [z]; exact fram.up (by decide) q4⟩) ?_
    have I1 := q3
    have hI := hS.1.1
    clear q3 q4 hS
    obtain ⟨S1, fi1, fl1, fr1⟩ := h'
    have s1 : S1 = shT := I1.1
    subst s1
    obtain ⟨S, fi, fl, fr⟩ := h
    have hS : S = shT := hI.1
    subst hS
    refine gp_n 5 (j' := 86) (lv' := [some (.ref 70), l1, some (.int 1)]) (st' := [.int (nI 64), .int (nI 1), .ref 70]) (h' := (shT, fi, fl, fr)) rfl ?_
    refine gp_of (fun _ k9 => g_call (y := 157) (as := [.ref 70, .int (nI 1), .int (nI 64)]) (st' := []) rfl rfl (q2) k9) ?_
    refine gp_of (fun _ k9 => g_iff rfl (show ¬ (¬ (0 : Int32) = (0 : Int32)) from by decide) k9) ?_
    refine gp_n 1 (j' := 89) (lv' := [some (.ref 70), l1, some (.int 1)]) (st' := [.int 0]) (h' := (shT, fi1, fl1, fr1)) rfl ?_
    refine gp_done (g_retz rfl (by decide)) ?_
    rfl
theorem mn_4 {F : Nat → Int32} {t p : Nat} {R : RC} {h : PmH} {l1 : Option Value} (ht : t ≤ 200) (hF : ∀ s, byR (F s)) (hS : mp_S F t p R h) : GoP pmT none cd_151 68 [some (.ref 70), l1, some (.int 4)] [] h (mo_O F t h (numsS F t R p 4)) := by
  rcases rd_ev (lo := 1) (hi := 999) ht hF hS.2.2.2 hS.1 (by decide) (by decide) with ⟨v, e, h', q1, q2, q3, q4, q5, q6⟩ | ⟨q1, h', q2, q3, q4⟩
  · have i' : mi_h 1 R.1 h' := mi_fr hS.2.2.1 q6 (by decide)
    obtain ⟨a0, a1, a2, a3, a4, a5, a6⟩ := mr_fr hS.2.1 q6 (by decide)
    have hr : numsS F t R p 4 = some ((R.1, R.2.1, R.2.2.1, R.2.2.2.1, R.2.2.2.2.1, v, R.2.2.2.2.2.2.1, R.2.2.2.2.2.2.2), e) := by
      show (num F t 1 999 p).map _ = _
      rw [q1]
      rfl
    rw [hr]
    refine gp_mono (fun r (z : r = (some (.int 1), h_i h' 70 11 (nI v))) => Or.inl ⟨_, e, rfl, by rw [z], ?_, by rw [z]; exact fram.tr (fram.up (by decide) q6) (fram_wi (by decide))⟩) ?_
    · rw [z]
      exact ⟨h70_P q4 rfl (by decide) (by decide), ⟨(h_n (by decide)).trans a0, (h_n (by decide)).trans a1, a2, (h_n (by decide)).trans a3, (h_n (by decide)).trans a4, h_e, (h_n (by decide)).trans a6⟩, mi_fr i' (W := [(70, 11)]) (fram_wi (by decide)) (by decide), q2⟩
    have I1 := q4.1
    have hI := hS.1.1
    clear q4 q6 i' a0 a1 a2 a3 a4 a5 a6 hS
    obtain ⟨S1, fi1, fl1, fr1⟩ := h'
    have s1 : S1 = shT := I1.1
    subst s1
    have q5 : fi1 70 13 = nI v := q5
    obtain ⟨S, fi, fl, fr⟩ := h
    have hS : S = shT := hI.1
    subst hS
    refine gp_n 5 (j' := 126) (lv' := [some (.ref 70), l1, some (.int 4)]) (st' := [.int (nI 999), .int (nI 1), .ref 70]) (h' := (shT, fi, fl, fr)) rfl ?_
    refine gp_of (fun _ k9 => g_call (y := 157) (as := [.ref 70, .int (nI 1), .int (nI 999)]) (st' := []) rfl rfl (q3) k9) ?_
    refine gp_of (fun _ k9 => g_ift rfl (show ¬ (1 : Int32) = (0 : Int32) from by decide) k9) ?_
    refine gp_n 2 (j' := 132) (lv' := [some (.ref 70), l1, some (.int 4)]) (st' := [.ref 70, .ref 70]) (h' := (shT, fi1, fl1, fr1)) rfl ?_
    refine gp_of (fun _ k9 => g_getI (x := nI v) rfl (Or.inl rfl) rfl (by decide) (q5) k9) ?_
    refine gp_of (fun _ k9 => g_putI rfl (Or.inl rfl) rfl (by decide) k9) ?_
    refine gp_n 1 (j' := 135) (lv' := [some (.ref 70), l1, some (.int 4)]) (st' := [.int 1]) (h' := (shT, pm_u2 fi1 70 11 (nI v), fl1, fr1)) rfl ?_
    refine gp_done (g_retz rfl (by decide)) ?_
    rfl
  · have hr : numsS F t R p 4 = none := by
      show (num F t 1 999 p).map _ = _
      rw [q1]
      rfl
    rw [hr]
    refine gp_mono (fun r (z : r = (some (.int 0), h')) => Or.inr ⟨rfl, by rw [z], by rw [z]; exact q3, by rw [z]; exact fram.up (by decide) q4⟩) ?_
    have I1 := q3
    have hI := hS.1.1
    clear q3 q4 hS
    obtain ⟨S1, fi1, fl1, fr1⟩ := h'
    have s1 : S1 = shT := I1.1
    subst s1
    obtain ⟨S, fi, fl, fr⟩ := h
    have hS : S = shT := hI.1
    subst hS
    refine gp_n 5 (j' := 126) (lv' := [some (.ref 70), l1, some (.int 4)]) (st' := [.int (nI 999), .int (nI 1), .ref 70]) (h' := (shT, fi, fl, fr)) rfl ?_
    refine gp_of (fun _ k9 => g_call (y := 157) (as := [.ref 70, .int (nI 1), .int (nI 999)]) (st' := []) rfl rfl (q2) k9) ?_
    refine gp_of (fun _ k9 => g_iff rfl (show ¬ (¬ (0 : Int32) = (0 : Int32)) from by decide) k9) ?_
    refine gp_n 1 (j' := 129) (lv' := [some (.ref 70), l1, some (.int 4)]) (st' := [.int 0]) (h' := (shT, fi1, fl1, fr1)) rfl ?_
    refine gp_done (g_retz rfl (by decide)) ?_
    rfl
theorem mn_5 {F : Nat → Int32} {t p : Nat} {R : RC} {h : PmH} {l1 : Option Value} (ht : t ≤ 200) (hF : ∀ s, byR (F s)) (hS : mp_S F t p R h) : GoP pmT none cd_151 68 [some (.ref 70), l1, some (.int 5)] [] h (mo_O F t h (numsS F t R p 5)) := by
  rcases rd_ev (lo := 1) (hi := 8) ht hF hS.2.2.2 hS.1 (by decide) (by decide) with ⟨v, e, h', q1, q2, q3, q4, q5, q6⟩ | ⟨q1, h', q2, q3, q4⟩
  · have i' : mi_h 1 R.1 h' := mi_fr hS.2.2.1 q6 (by decide)
    obtain ⟨a0, a1, a2, a3, a4, a5, a6⟩ := mr_fr hS.2.1 q6 (by decide)
    have hr : numsS F t R p 5 = some ((R.1, R.2.1, R.2.2.1, R.2.2.2.1, R.2.2.2.2.1, R.2.2.2.2.2.1, v, R.2.2.2.2.2.2.2), e) := by
      show (num F t 1 8 p).map _ = _
      rw [q1]
      rfl
    rw [hr]
    refine gp_mono (fun r (z : r = (some (.int 1), h_i h' 70 12 (nI v))) => Or.inl ⟨_, e, rfl, by rw [z], ?_, by rw [z]; exact fram.tr (fram.up (by decide) q6) (fram_wi (by decide))⟩) ?_
    · rw [z]
      exact ⟨h70_P q4 rfl (by decide) (by decide), ⟨(h_n (by decide)).trans a0, (h_n (by decide)).trans a1, a2, (h_n (by decide)).trans a3, (h_n (by decide)).trans a4, (h_n (by decide)).trans a5, h_e⟩, mi_fr i' (W := [(70, 12)]) (fram_wi (by decide)) (by decide), q2⟩
    have I1 := q4.1
    have hI := hS.1.1
    clear q4 q6 i' a0 a1 a2 a3 a4 a5 a6 hS
    obtain ⟨S1, fi1, fl1, fr1⟩ := h'
    have s1 : S1 = shT := I1.1
    subst s1
    have q5 : fi1 70 13 = nI v := q5
    obtain ⟨S, fi, fl, fr⟩ := h
    have hS : S = shT := hI.1
    subst hS
    refine gp_n 5 (j' := 139) (lv' := [some (.ref 70), l1, some (.int 5)]) (st' := [.int (nI 8), .int (nI 1), .ref 70]) (h' := (shT, fi, fl, fr)) rfl ?_
    refine gp_of (fun _ k9 => g_call (y := 157) (as := [.ref 70, .int (nI 1), .int (nI 8)]) (st' := []) rfl rfl (q3) k9) ?_
    refine gp_of (fun _ k9 => g_ift rfl (show ¬ (1 : Int32) = (0 : Int32) from by decide) k9) ?_
    refine gp_n 2 (j' := 145) (lv' := [some (.ref 70), l1, some (.int 5)]) (st' := [.ref 70, .ref 70]) (h' := (shT, fi1, fl1, fr1)) rfl ?_
    refine gp_of (fun _ k9 => g_getI (x := nI v) rfl (Or.inl rfl) rfl (by decide) (q5) k9) ?_
    refine gp_of (fun _ k9 => g_putI rfl (Or.inl rfl) rfl (by decide) k9) ?_
    refine gp_n 1 (j' := 148) (lv' := [some (.ref 70), l1, some (.int 5)]) (st' := [.int 1]) (h' := (shT, pm_u2 fi1 70 12 (nI v), fl1, fr1)) rfl ?_
    refine gp_done (g_retz rfl (by decide)) ?_
    rfl
  · have hr : numsS F t R p 5 = none := by
      show (num F t 1 8 p).map _ = _
      rw [q1]
      rfl
    rw [hr]
    refine gp_mono (fun r (z : r = (some (.int 0), h')) => Or.inr ⟨rfl, by rw [z], by rw [z]; exact q3, by rw [z]; exact fram.up (by decide) q4⟩) ?_
    have I1 := q3
    have hI := hS.1.1
    clear q3 q4 hS
    obtain ⟨S1, fi1, fl1, fr1⟩ := h'
    have s1 : S1 = shT := I1.1
    subst s1
    obtain ⟨S, fi, fl, fr⟩ := h
    have hS : S = shT := hI.1
    subst hS
    refine gp_n 5 (j' := 139) (lv' := [some (.ref 70), l1, some (.int 5)]) (st' := [.int (nI 8), .int (nI 1), .ref 70]) (h' := (shT, fi, fl, fr)) rfl ?_
    refine gp_of (fun _ k9 => g_call (y := 157) (as := [.ref 70, .int (nI 1), .int (nI 8)]) (st' := []) rfl rfl (q2) k9) ?_
    refine gp_of (fun _ k9 => g_iff rfl (show ¬ (¬ (0 : Int32) = (0 : Int32)) from by decide) k9) ?_
    refine gp_n 1 (j' := 142) (lv' := [some (.ref 70), l1, some (.int 5)]) (st' := [.int 0]) (h' := (shT, fi1, fl1, fr1)) rfl ?_
    refine gp_done (g_retz rfl (by decide)) ?_
    rfl
theorem mn_3 {F : Nat → Int32} {t p : Nat} {R : RC} {h : PmH} {l1 : Option Value} (ht : t ≤ 200) (hF : ∀ s, byR (F s)) (hS : mp_S F t p R h) : GoP pmT none cd_151 68 [some (.ref 70), l1, some (.int 3)] [] h (mo_O F t h (numsS F t R p 3)) := by
  rcases rd_ev (lo := 0) (hi := 8) ht hF hS.2.2.2 hS.1 (by decide) (by decide) with ⟨v, e, h', q1, q2, q3, q4, q5, q6⟩ | ⟨q1, h', q2, q3, q4⟩
  · have P2 : mp_P F t e (h_i h' 70 9 (nI v)) := h70_P q4 rfl (by decide) (by decide)
    have f2 : fram lW h (h_i h' 70 9 (nI v)) := fram.tr (fram.up (by decide) q6) (fram_wi (by decide))
    have i' : mi_h 1 R.1 (h_i h' 70 9 (nI v)) := mi_fr (mi_fr hS.2.2.1 q6 (by decide)) (W := [(70, 9)]) (fram_wi (by decide)) (by decide)
    obtain ⟨a0, a1, a2, a3, a4, a5, a6⟩ := mr_fr hS.2.1 q6 (by decide)
    have r' : mr_h (R.1, R.2.1, R.2.2.1, v, R.2.2.2.2) (h_i h' 70 9 (nI v)) := ⟨(h_n (by decide)).trans a0, (h_n (by decide)).trans a1, a2, h_e, (h_n (by decide)).trans a4, (h_n (by decide)).trans a5, (h_n (by decide)).trans a6⟩
    have pref : ∀ Q, GoP pmT none cd_151 110 [some (.ref 70), l1, some (.int 3)] [] (h_i h' 70 9 (nI v)) Q → GoP pmT none cd_151 68 [some (.ref 70), l1, some (.int 3)] [] h Q := by
      intro Q g
      have I1 := q4.1
      have hI := hS.1.1
      clear q4 q6 i' r' a0 a1 a2 a3 a4 a5 a6 hS P2 f2
      obtain ⟨S1, fi1, fl1, fr1⟩ := h'
      have s1 : S1 = shT := I1.1
      subst s1
      have q5 : fi1 70 13 = nI v := q5
      obtain ⟨S, fi, fl, fr⟩ := h
      have hS : S = shT := hI.1
      subst hS
      refine gp_n 5 (j' := 102) (lv' := [some (.ref 70), l1, some (.int 3)]) (st' := [.int (nI 8), .int (nI 0), .ref 70]) (h' := (shT, fi, fl, fr)) rfl ?_
      refine gp_of (fun _ k9 => g_call (y := 157) (as := [.ref 70, .int (nI 0), .int (nI 8)]) (st' := []) rfl rfl (q3) k9) ?_
      refine gp_of (fun _ k9 => g_ift rfl (show ¬ (1 : Int32) = (0 : Int32) from by decide) k9) ?_
      refine gp_n 2 (j' := 108) (lv' := [some (.ref 70), l1, some (.int 3)]) (st' := [.ref 70, .ref 70]) (h' := (shT, fi1, fl1, fr1)) rfl ?_
      refine gp_of (fun _ k9 => g_getI (x := nI v) rfl (Or.inl rfl) rfl (by decide) (q5) k9) ?_
      refine gp_of (fun _ k9 => g_putI rfl (Or.inl rfl) rfl (by decide) k9) ?_
      exact g
    refine pref _ (gp_mono (fun r => mo_tr f2) ?_)
    rcases rd_ev (lo := 0) (hi := 255) ht hF q2 P2 (by decide) (by decide) with ⟨v2, e2, h2, y1, y2, y3, y4, y5, y6⟩ | ⟨y1, h2, y2, y3, y4⟩
    · have hr : numsS F t R p 3 = some ((R.1, R.2.1, R.2.2.1, v, v2, R.2.2.2.2.2.1, R.2.2.2.2.2.2.1, R.2.2.2.2.2.2.2), e2) := by
        show (num F t 0 8 p).bind _ = _
        rw [q1]
        show (num F t 0 255 e).map _ = _
        rw [y1]
        rfl
      rw [hr]
      have i2 := mi_fr i' y6 (by decide)
      obtain ⟨c0, c1, c2, c3, c4, c5, c6⟩ := mr_fr r' y6 (by decide)
      refine gp_mono (fun r (z : r = (some (.int 1), h_i h2 70 10 (nI v2))) => Or.inl ⟨_, e2, rfl, by rw [z], ?_, by rw [z]; exact fram.tr (fram.up (by decide) y6) (fram_wi (by decide))⟩) ?_
      · rw [z]
        exact ⟨h70_P y4 rfl (by decide) (by decide), ⟨(h_n (by decide)).trans c0, (h_n (by decide)).trans c1, c2, (h_n (by decide)).trans c3, h_e, (h_n (by decide)).trans c5, (h_n (by decide)).trans c6⟩, mi_fr i2 (W := [(70, 10)]) (fram_wi (by decide)) (by decide), y2⟩
      have I1 := y4.1
      have hI := P2.1
      clear y4 y6 i2 i' r' c0 c1 c2 c3 c4 c5 c6 a0 a1 a2 a3 a4 a5 a6 hS P2 f2 pref q3 q4 q6
      generalize h_i h' 70 9 (nI v) = h1 at *
      obtain ⟨S2, fi2, fl2, fr2⟩ := h2
      have s2 : S2 = shT := I1.1
      subst s2
      have y5 : fi2 70 13 = nI v2 := y5
      obtain ⟨S, fi, fl, fr⟩ := h1
      have hS : S = shT := hI.1
      subst hS
      refine gp_n 3 (j' := 113) (lv' := [some (.ref 70), l1, some (.int 3)]) (st' := [.int (nI 255), .int (nI 0), .ref 70]) (h' := (shT, fi, fl, fr)) rfl ?_
      refine gp_of (fun _ k9 => g_call (y := 157) (as := [.ref 70, .int (nI 0), .int (nI 255)]) (st' := []) rfl rfl (y3) k9) ?_
      refine gp_of (fun _ k9 => g_ift rfl (show ¬ (1 : Int32) = (0 : Int32) from by decide) k9) ?_
      refine gp_n 2 (j' := 119) (lv' := [some (.ref 70), l1, some (.int 3)]) (st' := [.ref 70, .ref 70]) (h' := (shT, fi2, fl2, fr2)) rfl ?_
      refine gp_of (fun _ k9 => g_getI (x := nI v2) rfl (Or.inl rfl) rfl (by decide) (y5) k9) ?_
      refine gp_of (fun _ k9 => g_putI rfl (Or.inl rfl) rfl (by decide) k9) ?_
      refine gp_n 1 (j' := 122) (lv' := [some (.ref 70), l1, some (.int 3)]) (st' := [.int 1]) (h' := (shT, pm_u2 fi2 70 10 (nI v2), fl2, fr2)) rfl ?_
      refine gp_done (g_retz rfl (by decide)) ?_
      rfl
    · have hr : numsS F t R p 3 = none := by
        show (num F t 0 8 p).bind _ = _
        rw [q1]
        show (num F t 0 255 e).map _ = _
        rw [y1]
        rfl
      rw [hr]
      refine gp_mono (fun r (z : r = (some (.int 0), h2)) => Or.inr ⟨rfl, by rw [z], by rw [z]; exact y3, by rw [z]; exact fram.up (by decide) y4⟩) ?_
      have I1 := y3
      have hI := P2.1
      clear y3 y4 i' r' a0 a1 a2 a3 a4 a5 a6 hS P2 f2 pref q3 q4 q6
      generalize h_i h' 70 9 (nI v) = h1 at *
      obtain ⟨S2, fi2, fl2, fr2⟩ := h2
      have s2 : S2 = shT := I1.1
      subst s2
      obtain ⟨S, fi, fl, fr⟩ := h1
      have hS : S = shT := hI.1
      subst hS
      refine gp_n 3 (j' := 113) (lv' := [some (.ref 70), l1, some (.int 3)]) (st' := [.int (nI 255), .int (nI 0), .ref 70]) (h' := (shT, fi, fl, fr)) rfl ?_
      refine gp_of (fun _ k9 => g_call (y := 157) (as := [.ref 70, .int (nI 0), .int (nI 255)]) (st' := []) rfl rfl (y2) k9) ?_
      refine gp_of (fun _ k9 => g_iff rfl (show ¬ (¬ (0 : Int32) = (0 : Int32)) from by decide) k9) ?_
      refine gp_n 1 (j' := 116) (lv' := [some (.ref 70), l1, some (.int 3)]) (st' := [.int 0]) (h' := (shT, fi2, fl2, fr2)) rfl ?_
      refine gp_done (g_retz rfl (by decide)) ?_
      rfl
  · have hr : numsS F t R p 3 = none := by
      show (num F t 0 8 p).bind _ = _
      rw [q1]
      rfl
    rw [hr]
    refine gp_mono (fun r (z : r = (some (.int 0), h')) => Or.inr ⟨rfl, by rw [z], by rw [z]; exact q3, by rw [z]; exact fram.up (by decide) q4⟩) ?_
    have I1 := q3
    have hI := hS.1.1
    clear q3 q4 hS
    obtain ⟨S1, fi1, fl1, fr1⟩ := h'
    have s1 : S1 = shT := I1.1
    subst s1
    obtain ⟨S, fi, fl, fr⟩ := h
    have hS : S = shT := hI.1
    subst hS
    refine gp_n 5 (j' := 102) (lv' := [some (.ref 70), l1, some (.int 3)]) (st' := [.int (nI 8), .int (nI 0), .ref 70]) (h' := (shT, fi, fl, fr)) rfl ?_
    refine gp_of (fun _ k9 => g_call (y := 157) (as := [.ref 70, .int (nI 0), .int (nI 8)]) (st' := []) rfl rfl (q2) k9) ?_
    refine gp_of (fun _ k9 => g_iff rfl (show ¬ (¬ (0 : Int32) = (0 : Int32)) from by decide) k9) ?_
    refine gp_n 1 (j' := 105) (lv' := [some (.ref 70), l1, some (.int 3)]) (st' := [.int 0]) (h' := (shT, fi1, fl1, fr1)) rfl ?_
    refine gp_done (g_retz rfl (by decide)) ?_
    rfl
theorem mn_2 {F : Nat → Int32} {t p : Nat} {R : RC} {h : PmH} {l1 : Option Value} (ht : t ≤ 200) (hF : ∀ s, byR (F s)) (hm : R.2.1 ≤ 6) (hS : mp_S F t p R h) : GoP pmT none cd_151 68 [some (.ref 70), l1, some (.int 2)] [] h (mo_O F t h (numsS F t R p 2)) := by
  obtain ⟨a0, a1, a2, a3, a4, a5, a6⟩ := hS.2.1
  obtain ⟨r, g, z⟩ := inf_M ht hF hm 65 0 0 p R.2.2.2.2.2.2.2 h (by omega) (by omega) (by omega) ⟨hS.1, a0, a2, hS.2.2.2⟩
  obtain ⟨v, h'⟩ := r
  have e9 : Ev pmT 159 [.ref 70] h v h' := by
    refine Ev.of (es := cd_159) (ml := 3) (lv := [some (.ref 70), none, none]) rfl rfl rfl ?_
    have hI := hS.1.1
    clear z a0 a1 a2 a3 a4 a5 a6 hS
    obtain ⟨S, fi, fl, fr⟩ := h
    have hS : S = shT := hI.1
    subst hS
    refine go_of ?_
    refine gp_n 4 (j' := 4) (lv' := [some (.ref 70), some (.int (nI 0)), some (.int 1)]) (st' := []) (h' := (shT, fi, fl, fr)) rfl ?_
    exact gp_done g rfl
  have main : ∀ x : Int32, (x = 0 ∨ x = 1) → v = some (.int x) → GoP pmT none cd_151 68 [some (.ref 70), l1, some (.int 2)] [] h (fun r => r = (some (.int x), h')) := by
    intro x hx hv
    subst hv
    have hI := hS.1.1
    clear z a0 a1 a2 a3 a4 a5 a6 hS g
    obtain ⟨S, fi, fl, fr⟩ := h
    have hS : S = shT := hI.1
    subst hS
    refine gp_n 3 (j' := 97) (lv' := [some (.ref 70), l1, some (.int 2)]) (st' := [.ref 70]) (h' := (shT, fi, fl, fr)) rfl ?_
    refine gp_of (fun _ k9 => g_call (y := 159) (as := [.ref 70]) (st' := []) rfl rfl (e9) k9) ?_
    refine gp_done (g_retz rfl (hx)) ?_
    rfl
  rcases z with ⟨K', e, z1, z2, z3, z4⟩ | ⟨z1, z2, z3, z4⟩
  · have z2 : v = some (.int 1) := z2
    have hr : numsS F t R p 2 = some (rcK R K', e) := by
      show (infoS F t (2 ^ R.2.1) 65 0 p R.2.2.2.2.2.2.2).map _ = _
      rw [z1]
      rfl
    rw [hr]
    refine gp_mono (fun r z => Or.inl ⟨_, e, rfl, by rw [z], ?_, by rw [z]; exact fram.up (by decide) z4⟩) (main 1 (Or.inr rfl) z2)
    rw [z]
    exact ⟨z3.1, ⟨z3.2.1, ((z4 70 7 (by decide)).1).trans a1, z3.2.2.1, ((z4 70 9 (by decide)).1).trans a3, ((z4 70 10 (by decide)).1).trans a4, ((z4 70 11 (by decide)).1).trans a5, ((z4 70 12 (by decide)).1).trans a6⟩, mi_fr hS.2.2.1 z4 (by decide), z3.2.2.2⟩
  · have z2 : v = some (.int 0) := z2
    have hr : numsS F t R p 2 = none := by
      show (infoS F t (2 ^ R.2.1) 65 0 p R.2.2.2.2.2.2.2).map _ = _
      rw [z1]
      rfl
    rw [hr]
    refine gp_mono (fun r z => Or.inr ⟨rfl, by rw [z], by rw [z]; exact z3, by rw [z]; exact fram.up (by decide) z4⟩) (main 0 (Or.inl rfl) z2)
