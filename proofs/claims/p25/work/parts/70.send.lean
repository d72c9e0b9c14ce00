def lwb (k : Nat) : Int64 := if k = 64 then -1 else ((1 : Int64) <<< ((nI k : Int32).toInt64 &&& 63)) - 1
theorem lwb_bl : ∀ k, k < 65 → ∀ i, i < 64 → bl (lwb k) i = decide (i < k) := by decide +kernel
theorem lwb_ev {k : Nat} (hk : k ≤ 64) {h : PmH} : Ev pmT 54 [.int (nI k)] h (some (.long (lwb k))) h := by
  refine Ev.of (es := cd_54) (ml := 1) (lv := [some (.int (nI k))]) rfl rfl rfl ?_
  refine go_of ?_
  by_cases h64 : k = 64
  · subst h64
    refine gp_n 2 (j' := 2) (lv' := [some (.int (nI 64))]) (st' := [.int 64, .int (nI 64)]) (h' := h) rfl ?_
    refine gp_of (fun _ k9 => g_icf rfl (show ¬ ((nI 64) < (64 : Int32)) from by decide) k9) ?_
    refine gp_n 2 (j' := 10) (lv' := [some (.int (nI 64))]) (st' := [.long (-1)]) (h' := h) rfl ?_
    refine gp_done (g_lret rfl) ?_
    rfl
  · have e : lwb k = ((1 : Int64) <<< ((nI k : Int32).toInt64 &&& 63)) - 1 := if_neg h64
    rw [e]
    refine gp_n 2 (j' := 2) (lv' := [some (.int (nI k))]) (st' := [.int 64, .int (nI k)]) (h' := h) rfl ?_
    refine gp_of (fun _ k9 => g_ict rfl (show (nI k) < (64 : Int32) from nI_lt (b := 64) (by omega) (by decide)) k9) ?_
    refine gp_n 5 (j' := 10) (lv' := [some (.int (nI k))]) (st' := [.long (((1 : Int64) <<< ((nI k : Int32).toInt64 &&& 63)) - 1)]) (h' := h) rfl ?_
    refine gp_done (g_lret rfl) ?_
    rfl
/-- no bits beyond k -/
def fitP (k : Nat) (w : Int64) : Prop := ∀ i, k ≤ i → i < 64 → bl w i = false
theorem bl_m1 : ∀ i, i < 64 → bl (-1) i = true := by decide +kernel
theorem fit_C {k : Nat} (hk : k ≤ 64) {w : Int64} : w &&& (lwb k ^^^ -1) = 0 ↔ fitP k w := by
  have e : ∀ i, i < 64 → bl (w &&& (lwb k ^^^ -1)) i = (bl w i && !decide (i < k)) := fun i hi => by
    rw [bl_and, bl_xor, lwb_bl k (by omega) i hi, bl_m1 i hi]
    simp
  constructor
  · intro h i h1 h2
    have := e i h2
    rw [h, bl_0 i h2, decide_eq_false (by omega)] at this
    simpa using this.symm
  · intro h
    refine bl_ext (fun i hi => ?_)
    rw [e i hi, bl_0 i hi]
    by_cases h9 : i < k
    · simp [h9]
    · rw [h i (by omega) hi]
      rfl
theorem bl_63 (w : Int64) : bl w 63 = false ↔ ¬ w < 0 := by
  have e : bl w 63 = decide (w.toInt < 0) := by
    unfold bl
    rw [show w.toInt = w.toBitVec.toInt from rfl, ← BitVec.msb_eq_toInt, BitVec.msb_eq_getLsbD_last]
  rw [e, decide_eq_false_iff_not, Int64.lt_iff_toInt_lt]
  exact Iff.rfl
theorem fit_M {k : Nat} (hk : k < 64) {w : Int64} : (¬ w < 0 ∧ w >>> ((nI k : Int32).toInt64 &&& 63) = 0) ↔ fitP k w := by
  constructor
  · rintro ⟨-, h⟩ i h1 h2
    have := bl_sshr k hk w (i := i - k) (by omega)
    rw [h, bl_0 _ (by omega), if_pos (by omega), show k + (i - k) = i by omega] at this
    exact this.symm
  · intro h
    refine ⟨(bl_63 w).mp (h 63 (by omega) (by decide)), bl_ext (fun i hi => ?_)⟩
    rw [bl_sshr k hk w hi, bl_0 i hi]
    split
    · exact h _ (by omega) (by omega)
    · exact h 63 (by omega) (by decide)
theorem fit1 {h : PmH} (hI : HI hdT shT h) {n : Int32} {k : Nat} {w : Int64} (c1 : ph_i h 1 1 = n) (c2 : ph_i h 1 2 = nI k) (hk : k ≤ 64) (hc : 0 < n) (hf : fitP k w) : Ev pmT 56 [.ref 1, .long w] h (some (.int 1)) h := by
  have t1 := told1 hI c1 hc
  have lw := lwb_ev hk (h := h)
  refine Ev.of (es := cd_56) (ml := 3) (lv := [some (.ref 1), some (.long w), none]) rfl rfl rfl ?_
  obtain ⟨S, fi, fl, fr⟩ := h
  have hS : S = shT := hI.1
  subst hS
  have c2 : fi 1 2 = nI k := c2
  refine go_of ?_
  refine gp_n 1 (j' := 1) (lv' := [some (.ref 1), some (.long w), none]) (st' := [.ref 1]) (h' := (shT, fi, fl, fr)) rfl ?_
  refine gp_of (fun _ k9 => g_call (y := 57) (as := [.ref 1]) (st' := []) rfl rfl (t1) k9) ?_
  refine gp_of (fun _ k9 => g_iff rfl (show ¬ ((1 : Int32) = (0 : Int32)) from by decide) k9) ?_
  refine gp_n 2 (j' := 5) (lv' := [some (.ref 1), some (.long w), none]) (st' := [.ref 1, .long w]) (h' := (shT, fi, fl, fr)) rfl ?_
  refine gp_of (fun _ k9 => g_getI (x := nI k) rfl (Or.inl rfl) rfl (by decide) (c2) k9) ?_
  refine gp_of (fun _ k9 => g_call (y := 54) (as := [.int (nI k)]) (st' := [.long w]) rfl rfl (lw) k9) ?_
  refine gp_n 5 (j' := 12) (lv' := [some (.ref 1), some (.long w), none]) (st' := [.int (lg_cmp (w &&& ((lwb k) ^^^ (-1))) 0)]) (h' := (shT, fi, fl, fr)) rfl ?_
  refine gp_of (fun _ k9 => g_iff rfl (show ¬ (¬ (lg_cmp (w &&& ((lwb k) ^^^ (-1))) 0) = (0 : Int32)) from (by rw [lg_cmp_eq, fit_C hk]; exact fun z => z hf)) k9) ?_
  refine gp_n 2 (j' := 16) (lv' := [some (.ref 1), some (.long w), none]) (st' := [.int 1]) (h' := (shT, fi, fl, fr)) rfl ?_
  refine gp_done (g_retz rfl (by decide)) ?_
  rfl
theorem fit0 {h : PmH} (hI : HI hdT shT h) {n : Int32} {k : Nat} {w : Int64} (c1 : ph_i h 1 1 = n) (c2 : ph_i h 1 2 = nI k) (hk : k ≤ 64) (hc : ¬ (0 < n ∧ fitP k w)) : Ev pmT 56 [.ref 1, .long w] h (some (.int 0)) h := by
  have t1 := told1 hI c1
  have t0 := told0 hI c1
  have lw := lwb_ev hk (h := h)
  refine Ev.of (es := cd_56) (ml := 3) (lv := [some (.ref 1), some (.long w), none]) rfl rfl rfl ?_
  obtain ⟨S, fi, fl, fr⟩ := h
  have hS : S = shT := hI.1
  subst hS
  have c2 : fi 1 2 = nI k := c2
  refine go_of ?_
  by_cases p1 : 0 < n
  · have p2 : ¬ fitP k w := fun z => hc ⟨p1, z⟩
    refine gp_n 1 (j' := 1) (lv' := [some (.ref 1), some (.long w), none]) (st' := [.ref 1]) (h' := (shT, fi, fl, fr)) rfl ?_
    refine gp_of (fun _ k9 => g_call (y := 57) (as := [.ref 1]) (st' := []) rfl rfl (t1 p1) k9) ?_
    refine gp_of (fun _ k9 => g_iff rfl (show ¬ ((1 : Int32) = (0 : Int32)) from by decide) k9) ?_
    refine gp_n 2 (j' := 5) (lv' := [some (.ref 1), some (.long w), none]) (st' := [.ref 1, .long w]) (h' := (shT, fi, fl, fr)) rfl ?_
    refine gp_of (fun _ k9 => g_getI (x := nI k) rfl (Or.inl rfl) rfl (by decide) (c2) k9) ?_
    refine gp_of (fun _ k9 => g_call (y := 54) (as := [.int (nI k)]) (st' := [.long w]) rfl rfl (lw) k9) ?_
    refine gp_n 5 (j' := 12) (lv' := [some (.ref 1), some (.long w), none]) (st' := [.int (lg_cmp (w &&& ((lwb k) ^^^ (-1))) 0)]) (h' := (shT, fi, fl, fr)) rfl ?_
    refine gp_of (fun _ k9 => g_ift rfl (show ¬ (lg_cmp (w &&& ((lwb k) ^^^ (-1))) 0) = (0 : Int32) from (by rw [lg_cmp_eq, fit_C hk]; exact p2)) k9) ?_
    refine gp_n 1 (j' := 16) (lv' := [some (.ref 1), some (.long w), none]) (st' := [.int 0]) (h' := (shT, fi, fl, fr)) rfl ?_
    refine gp_done (g_retz rfl (by decide)) ?_
    rfl
  · refine gp_n 1 (j' := 1) (lv' := [some (.ref 1), some (.long w), none]) (st' := [.ref 1]) (h' := (shT, fi, fl, fr)) rfl ?_
    refine gp_of (fun _ k9 => g_call (y := 57) (as := [.ref 1]) (st' := []) rfl rfl (t0 p1) k9) ?_
    refine gp_of (fun _ k9 => g_ift rfl (show (0 : Int32) = (0 : Int32) from by decide) k9) ?_
    refine gp_n 1 (j' := 16) (lv' := [some (.ref 1), some (.long w), none]) (st' := [.int 0]) (h' := (shT, fi, fl, fr)) rfl ?_
    refine gp_done (g_retz rfl (by decide)) ?_
    rfl
theorem fitM1 {h : PmH} (hI : HI hdT shT h) {n : Int32} {k : Nat} {w : Int64} (c1 : ph_i h 70 14 = n) (c2 : ph_i h 70 16 = nI k) (hk : k ≤ 64) (hc : 0 < n) (hf : fitP k w) : Ev pmT 171 [.ref 70, .long w] h (some (.int 1)) h := by
  have t1 := isc1 hI c1 hc
  refine Ev.of (es := cd_171) (ml := 3) (lv := [some (.ref 70), some (.long w), none]) rfl rfl rfl ?_
  obtain ⟨S, fi, fl, fr⟩ := h
  have hS : S = shT := hI.1
  subst hS
  have c2 : fi 70 16 = nI k := c2
  refine go_of ?_
  by_cases h64 : k = 64
  · subst h64
    refine gp_n 1 (j' := 1) (lv' := [some (.ref 70), some (.long w), none]) (st' := [.ref 70]) (h' := (shT, fi, fl, fr)) rfl ?_
    refine gp_of (fun _ k9 => g_call (y := 172) (as := [.ref 70]) (st' := []) rfl rfl (t1) k9) ?_
    refine gp_of (fun _ k9 => g_iff rfl (show ¬ ((1 : Int32) = (0 : Int32)) from by decide) k9) ?_
    refine gp_n 1 (j' := 4) (lv' := [some (.ref 70), some (.long w), none]) (st' := [.ref 70]) (h' := (shT, fi, fl, fr)) rfl ?_
    refine gp_of (fun _ k9 => g_getI (x := nI 64) rfl (Or.inl rfl) rfl (by decide) (c2) k9) ?_
    refine gp_n 1 (j' := 6) (lv' := [some (.ref 70), some (.long w), none]) (st' := [.int 64, .int (nI 64)]) (h' := (shT, fi, fl, fr)) rfl ?_
    refine gp_of (fun _ k9 => g_ict rfl (show (nI 64) = (64 : Int32) from rfl) k9) ?_
    refine gp_n 2 (j' := 21) (lv' := [some (.ref 70), some (.long w), none]) (st' := [.int 1]) (h' := (shT, fi, fl, fr)) rfl ?_
    refine gp_done (g_retz rfl (by decide)) ?_
    rfl
  · have hf := (fit_M (show k < 64 by omega)).mpr hf
    refine gp_n 1 (j' := 1) (lv' := [some (.ref 70), some (.long w), none]) (st' := [.ref 70]) (h' := (shT, fi, fl, fr)) rfl ?_
    refine gp_of (fun _ k9 => g_call (y := 172) (as := [.ref 70]) (st' := []) rfl rfl (t1) k9) ?_
    refine gp_of (fun _ k9 => g_iff rfl (show ¬ ((1 : Int32) = (0 : Int32)) from by decide) k9) ?_
    refine gp_n 1 (j' := 4) (lv' := [some (.ref 70), some (.long w), none]) (st' := [.ref 70]) (h' := (shT, fi, fl, fr)) rfl ?_
    refine gp_of (fun _ k9 => g_getI (x := nI k) rfl (Or.inl rfl) rfl (by decide) (c2) k9) ?_
    refine gp_n 1 (j' := 6) (lv' := [some (.ref 70), some (.long w), none]) (st' := [.int 64, .int (nI k)]) (h' := (shT, fi, fl, fr)) rfl ?_
    refine gp_of (fun _ k9 => g_icf rfl (show ¬ ((nI k) = (64 : Int32)) from fun z => h64 ((nI_eq (b := 64) (by omega) (by decide)).mp z)) k9) ?_
    refine gp_n 3 (j' := 10) (lv' := [some (.ref 70), some (.long w), none]) (st' := [.int (lg_cmp w 0)]) (h' := (shT, fi, fl, fr)) rfl ?_
    refine gp_of (fun _ k9 => g_iff rfl (show ¬ ((lg_cmp w 0) < (0 : Int32)) from (by rw [lg_cmp_lt]; exact hf.1)) k9) ?_
    refine gp_n 2 (j' := 13) (lv' := [some (.ref 70), some (.long w), none]) (st' := [.ref 70, .long w]) (h' := (shT, fi, fl, fr)) rfl ?_
    refine gp_of (fun _ k9 => g_getI (x := nI k) rfl (Or.inl rfl) rfl (by decide) (c2) k9) ?_
    refine gp_n 3 (j' := 17) (lv' := [some (.ref 70), some (.long w), none]) (st' := [.int (lg_cmp (w >>> ((nI k : Int32).toInt64 &&& 63)) 0)]) (h' := (shT, fi, fl, fr)) rfl ?_
    refine gp_of (fun _ k9 => g_iff rfl (show ¬ (¬ (lg_cmp (w >>> ((nI k : Int32).toInt64 &&& 63)) 0) = (0 : Int32)) from (by rw [lg_cmp_eq]; exact fun z => z hf.2)) k9) ?_
    refine gp_n 2 (j' := 21) (lv' := [some (.ref 70), some (.long w), none]) (st' := [.int 1]) (h' := (shT, fi, fl, fr)) rfl ?_
    refine gp_done (g_retz rfl (by decide)) ?_
    rfl
theorem fitM0 {h : PmH} (hI : HI hdT shT h) {n : Int32} {k : Nat} {w : Int64} (c1 : ph_i h 70 14 = n) (c2 : ph_i h 70 16 = nI k) (hk : k ≤ 64) (hc : ¬ (0 < n ∧ fitP k w)) : Ev pmT 171 [.ref 70, .long w] h (some (.int 0)) h := by
  have t1 := isc1 hI c1
  have t0 := isc0 hI c1
  refine Ev.of (es := cd_171) (ml := 3) (lv := [some (.ref 70), some (.long w), none]) rfl rfl rfl ?_
  obtain ⟨S, fi, fl, fr⟩ := h
  have hS : S = shT := hI.1
  subst hS
  have c2 : fi 70 16 = nI k := c2
  refine go_of ?_
  by_cases p1 : 0 < n
  · have p2 : ¬ fitP k w := fun z => hc ⟨p1, z⟩
    have h64 : ¬ k = 64 := fun z => p2 (fun i h1 h2 => absurd h2 (by omega))
    have hf := mt (fit_M (w := w) (show k < 64 by omega)).mp p2
    refine gp_n 1 (j' := 1) (lv' := [some (.ref 70), some (.long w), none]) (st' := [.ref 70]) (h' := (shT, fi, fl, fr)) rfl ?_
    refine gp_of (fun _ k9 => g_call (y := 172) (as := [.ref 70]) (st' := []) rfl rfl (t1 p1) k9) ?_
    refine gp_of (fun _ k9 => g_iff rfl (show ¬ ((1 : Int32) = (0 : Int32)) from by decide) k9) ?_
    refine gp_n 1 (j' := 4) (lv' := [some (.ref 70), some (.long w), none]) (st' := [.ref 70]) (h' := (shT, fi, fl, fr)) rfl ?_
    refine gp_of (fun _ k9 => g_getI (x := nI k) rfl (Or.inl rfl) rfl (by decide) (c2) k9) ?_
    refine gp_n 1 (j' := 6) (lv' := [some (.ref 70), some (.long w), none]) (st' := [.int 64, .int (nI k)]) (h' := (shT, fi, fl, fr)) rfl ?_
    refine gp_of (fun _ k9 => g_icf rfl (show ¬ ((nI k) = (64 : Int32)) from fun z => h64 ((nI_eq (b := 64) (by omega) (by decide)).mp z)) k9) ?_
    refine gp_n 3 (j' := 10) (lv' := [some (.ref 70), some (.long w), none]) (st' := [.int (lg_cmp w 0)]) (h' := (shT, fi, fl, fr)) rfl ?_
    refine gp_if rfl (fun hd => ?_) (fun hd => ?_)
    · replace hd : (lg_cmp w 0) < (0 : Int32) := hd
      refine gp_n 1 (j' := 21) (lv' := [some (.ref 70), some (.long w), none]) (st' := [.int 0]) (h' := (shT, fi, fl, fr)) rfl ?_
      refine gp_done (g_retz rfl (by decide)) ?_
      rfl
    · replace hd : ¬ ((lg_cmp w 0) < (0 : Int32)) := hd
      refine gp_n 2 (j' := 13) (lv' := [some (.ref 70), some (.long w), none]) (st' := [.ref 70, .long w]) (h' := (shT, fi, fl, fr)) rfl ?_
      refine gp_of (fun _ k9 => g_getI (x := nI k) rfl (Or.inl rfl) rfl (by decide) (c2) k9) ?_
      refine gp_n 3 (j' := 17) (lv' := [some (.ref 70), some (.long w), none]) (st' := [.int (lg_cmp (w >>> ((nI k : Int32).toInt64 &&& 63)) 0)]) (h' := (shT, fi, fl, fr)) rfl ?_
      refine gp_of (fun _ k9 => g_ift rfl (show ¬ (lg_cmp (w >>> ((nI k : Int32).toInt64 &&& 63)) 0) = (0 : Int32) from (by rw [lg_cmp_lt] at hd; rw [lg_cmp_eq]; exact fun z => hf ⟨hd, z⟩)) k9) ?_
      refine gp_n 1 (j' := 21) (lv' := [some (.ref 70), some (.long w), none]) (st' := [.int 0]) (h' := (shT, fi, fl, fr)) rfl ?_
      refine gp_done (g_retz rfl (by decide)) ?_
      rfl
  · refine gp_n 1 (j' := 1) (lv' := [some (.ref 70), some (.long w), none]) (st' := [.ref 70]) (h' := (shT, fi, fl, fr)) rfl ?_
    refine gp_of (fun _ k9 => g_call (y := 172) (as := [.ref 70]) (st' := []) rfl rfl (t0 p1) k9) ?_
    refine gp_of (fun _ k9 => g_ift rfl (show (0 : Int32) = (0 : Int32) from by decide) k9) ?_
    refine gp_n 1 (j' := 21) (lv' := [some (.ref 70), some (.long w), none]) (st' := [.int 0]) (h' := (shT, fi, fl, fr)) rfl ?_
    refine gp_done (g_retz rfl (by decide)) ?_
    rfl
def irC0 (W : WSt) : Bool := W.all (fun q => decide (70 ≤ q.1) || ((decide (8 ≤ q.1) && (decide (q.1 < 42) && decide (q.1 ≠ 10))) || (decide (q.1 = 2) || (decide (q.1 = 0) && decide (q.2 = 13)))))
def irM0 (W : WSt) : Bool := W.all (fun q => decide (q.1 < 70) || ((decide (74 ≤ q.1) && decide (q.1 ≤ 90)) || (decide (q.1 = 73) || (decide (q.1 = 70) && (decide (q.2 = 0) || ((decide (2 ≤ q.2) && decide (q.2 ≤ 13)) || (decide (22 ≤ q.2) && decide (q.2 ≤ 52))))))))
theorem irC0_in {W : WSt} (hw : irC0 W = true) {p s : Nat} (hp : (p < 8 ∧ ¬ p = 2 ∧ ¬ (p = 0 ∧ ¬ s < 13)) ∨ p = 10 ∨ (42 ≤ p ∧ p < 70)) : inW W p s = false := by
  refine inW_all hw (fun c hc => ?_)
  simp only [Bool.or_eq_false_iff, Bool.and_eq_false_iff, decide_eq_false_iff_not]
  refine ⟨by omega, ?_, by omega, ?_⟩
  · by_cases h1 : 8 ≤ p
    · exact Or.inr (by by_cases h2 : p < 42; exact Or.inr (by omega); exact Or.inl h2)
    · exact Or.inl h1
  · by_cases h1 : p = 0
    · exact Or.inr (by omega)
    · exact Or.inl h1
theorem irM0_in {W : WSt} (hw : irM0 W = true) {p s : Nat} (hp : p = 71 ∨ p = 72 ∨ (91 ≤ p) ∨ (p = 70 ∧ (s = 1 ∨ (14 ≤ s ∧ s < 22) ∨ s = 53))) : inW W p s = false := by
  refine inW_all hw (fun c hc => ?_)
  simp only [Bool.or_eq_false_iff, Bool.and_eq_false_iff, decide_eq_false_iff_not]
  refine ⟨by omega, ?_, by omega, ?_⟩
  · by_cases h1 : 74 ≤ p
    · exact Or.inr (by omega)
    · exact Or.inl h1
  · by_cases h1 : p = 70
    · refine Or.inr ⟨by omega, ?_, ?_⟩
      · by_cases h2 : 2 ≤ c
        · exact Or.inr (by omega)
        · exact Or.inl h2
      · by_cases h2 : 22 ≤ c
        · exact Or.inr (by omega)
        · exact Or.inl h2
    · exact Or.inl h1
theorem csC_f0 {h h' : PmH} {o : Nat} {v : VS} (hc : csC false h o v) (e1 : ∀ i, i < 7 → ph_i h' o i = ph_i h o i) : csC false h' o v := ⟨fun i hi => (e1 i hi).trans (hc.1 i hi), (fun hL => nomatch hL)⟩
theorem QC_fr0 {W : WSt} {h h' : PmH} {a : AB} (hw : irC0 W = true) (hf : fram W h h') (hr : QC false h a) : QC false h' a := by
  have e : ∀ p s, ((p < 8 ∧ ¬ p = 2 ∧ ¬ (p = 0 ∧ ¬ s < 13)) ∨ p = 10 ∨ (42 ≤ p ∧ p < 70)) → ph_i h' p s = ph_i h p s ∧ ph_l h' p s = ph_l h p s ∧ ph_r h' p s = ph_r h p s := fun p s hp => hf p s (irC0_in hw hp)
  have cc : ∀ o v, ((o < 8 ∧ ¬ o = 0 ∧ ¬ o = 2) ∨ (42 ≤ o ∧ o < 70)) → csC false h o v → csC false h' o v := fun o v ho hc => csC_f0 hc (fun i _ => (e o i (by omega)).1)
  obtain ⟨⟨a1, a2, a3⟩, b, c, d, f, g, ⟨q, q1, q2, q3⟩, i⟩ := hr
  refine ⟨⟨fun j hj => ((e 3 j (by omega)).2.2).trans (a1 j hj), fun j hj => ((e 4 j (by omega)).2.2).trans (a2 j hj), fun s hs => ((e 10 s (by omega)).1).trans (a3 s hs)⟩, ((e 6 1 (by omega)).1).trans b, fun s => ((e 7 s (by omega)).1).trans (c s), (fun hL => nomatch hL), cc 1 _ (by omega) f, ((e 0 3 (by omega)).1).trans g, ⟨q, q1, ((e 0 2 (by omega)).1).trans q2, fun k hk => cc _ _ (Or.inr ⟨pst_in.1, by have := pst_in (e := q) (i := k); omega⟩) (q3 k hk)⟩, fun k hk => ?_⟩
  have ik := i k hk
  cases hm : a_m a k with
  | none =>
    rw [hm] at ik
    exact ((e 5 k (by omega)).1).trans ik
  | some v =>
    rw [hm] at ik
    exact ⟨((e 5 k (by omega)).1).trans ik.1, cc _ _ (by omega) ik.2⟩
theorem csM_f0 {h h' : PmH} {v : VS} (hc : csM false h v) (e1 : ∀ i, i < 7 → ph_i h' 70 (14 + i) = ph_i h 70 (14 + i)) : csM false h' v := ⟨fun i hi => (e1 i hi).trans (hc.1 i hi), (fun hL => nomatch hL)⟩
theorem csH_f0 {h h' : PmH} {r : Nat} {v : VS} (hc : csH false h r v) (e1 : ∀ i, i < 7 → ph_i h' 91 (72 * r + i) = ph_i h 91 (72 * r + i)) : csH false h' r v := ⟨fun i hi => (e1 i hi).trans (hc.1 i hi), (fun hL => nomatch hL)⟩
theorem QM_fr0 {W : WSt} {h h' : PmH} {a : AB} (hw : irM0 W = true) (hf : fram W h h') (hr : QM false h a) : QM false h' a := by
  have e : ∀ p s, (p = 71 ∨ p = 72 ∨ (91 ≤ p) ∨ (p = 70 ∧ (s = 1 ∨ (14 ≤ s ∧ s < 22) ∨ s = 53))) → ph_i h' p s = ph_i h p s ∧ ph_l h' p s = ph_l h p s ∧ ph_r h' p s = ph_r h p s := fun p s hp => hf p s (irM0_in hw hp)
  obtain ⟨a1, b, c, d, f, g, q, i⟩ := hr
  have ch : ∀ r v, csH false h r v → csH false h' r v := fun r v hc => csH_f0 hc (fun j _ => (e 91 _ (by omega)).1)
  refine ⟨fun j hj => ((e 72 j (by omega)).1).trans (a1 j hj), ((e 70 1 (by omega)).1).trans b, fun s => ((e 71 s (by omega)).1).trans (c s), (fun hL => nomatch hL), csM_f0 f (fun j hj => (e 70 (14 + j) (by omega)).1), ((e 70 53 (by omega)).1).trans g, fun k hk => ch _ _ (q k hk), fun k hk => ?_⟩
  have ik := i k hk
  cases hm : a_m a k with
  | none =>
    rw [hm] at ik
    exact ((e 93 k (by omega)).1).trans ik
  | some v =>
    rw [hm] at ik
    exact ⟨((e 93 k (by omega)).1).trans ik.1, ch _ _ ik.2⟩
theorem pv_l {v : Option Value} {I : Inst} (hp : in_p I = [(some zl, [], [])]) (h : ∃ P ∈ in_p I, pv P.1 v) : ∃ w, v = some (.long w) := by
  obtain ⟨P, h1, h2⟩ := h
  rw [hp, List.mem_singleton] at h1
  subst h1
  obtain ⟨w, e1, e2⟩ := h2
  obtain ⟨x, e3⟩ := e2 [] pm_h0
  exact ⟨x, by rw [e1, e3]⟩
theorem pv_n {v : Option Value} {I : Inst} (hp : in_p I = [(none, [], [])]) (h : ∃ P ∈ in_p I, pv P.1 v) : v = none := by
  obtain ⟨P, h1, h2⟩ := h
  rw [hp, List.mem_singleton] at h1
  subst h1
  exact h2
def P_send (w : Int64) (x y : Int32) (k : Nat) (a : AB) : Prop := (0 < (a_v a).1 1 ∧ fitP k w) ∧ (0 ≤ x ∧ x ≤ 100) ∧ (0 ≤ y ∧ y ≤ 100)
theorem snd_C0 {L : Bool} {h : PmH} {a : AB} {w : Int64} {x y : Int32} {k : Nat} (hI : HI hdT shT h) (hR : QC L h a) (hk : k ≤ 64) (e2 : (a_v a).1 2 = nI k) (hP : ¬ P_send w x y k a) : Ev pmT 70 [.ref 0, .long w, .int x, .int y] h (some (.int (-1))) h := by
  have f := hR.2.2.2.2.1
  have c1 := f.1 1 (by decide)
  have c2 := (f.1 2 (by decide)).trans e2
  have k0 : ph_r h 0 0 = some 1 := hi_r hI rfl rfl (by decide)
  have t1 := fit1 (w := w) hI c1 c2 hk
  have t0 := fit0 (w := w) hI c1 c2 hk
  have x1 := iss1 (x := x) hI
  have x0 := iss0 (x := x) hI
  have y0 := iss0 (x := y) hI
  refine Ev.of (es := cd_70) (ml := 5) (lv := [some (.ref 0), some (.long w), none, some (.int x), some (.int y)]) rfl rfl rfl ?_
  obtain ⟨S, fi, fl, fr⟩ := h
  have hS : S = shT := hI.1
  subst hS
  have k0 : fr 0 0 = some 1 := k0
  refine go_of ?_
  by_cases p1 : 0 < (a_v a).1 1 ∧ fitP k w
  · by_cases p2 : 0 ≤ x ∧ x ≤ 100
    · have p3 : ¬ (0 ≤ y ∧ y ≤ 100) := fun z => hP ⟨p1, p2, z⟩
      refine gp_n 1 (j' := 1) (lv' := [some (.ref 0), some (.long w), none, some (.int x), some (.int y)]) (st' := [.ref 0]) (h' := (shT, fi, fl, fr)) rfl ?_
      refine gp_of (fun _ k9 => g_getR (q' := 1) rfl rfl (by decide) k0 k9) ?_
      refine gp_n 1 (j' := 3) (lv' := [some (.ref 0), some (.long w), none, some (.int x), some (.int y)]) (st' := [.long w, .ref 1]) (h' := (shT, fi, fl, fr)) rfl ?_
      refine gp_of (fun _ k9 => g_call (y := 56) (as := [.ref 1, .long w]) (st' := []) rfl rfl (t1 p1.1 p1.2) k9) ?_
      refine gp_of (fun _ k9 => g_iff rfl (show ¬ ((1 : Int32) = (0 : Int32)) from by decide) k9) ?_
      refine gp_n 1 (j' := 6) (lv' := [some (.ref 0), some (.long w), none, some (.int x), some (.int y)]) (st' := [.int x]) (h' := (shT, fi, fl, fr)) rfl ?_
      refine gp_of (fun _ k9 => g_call (y := 71) (as := [.int x]) (st' := []) rfl rfl (x1 p2) k9) ?_
      refine gp_of (fun _ k9 => g_iff rfl (show ¬ ((1 : Int32) = (0 : Int32)) from by decide) k9) ?_
      refine gp_n 1 (j' := 9) (lv' := [some (.ref 0), some (.long w), none, some (.int x), some (.int y)]) (st' := [.int y]) (h' := (shT, fi, fl, fr)) rfl ?_
      refine gp_of (fun _ k9 => g_call (y := 71) (as := [.int y]) (st' := []) rfl rfl (y0 p3) k9) ?_
      refine gp_of (fun _ k9 => g_iff rfl (show ¬ (¬ (0 : Int32) = (0 : Int32)) from by decide) k9) ?_
      refine gp_n 1 (j' := 12) (lv' := [some (.ref 0), some (.long w), none, some (.int x), some (.int y)]) (st' := [.int (-1)]) (h' := (shT, fi, fl, fr)) rfl ?_
      refine gp_done (g_ret rfl) ?_
      rfl
    · refine gp_n 1 (j' := 1) (lv' := [some (.ref 0), some (.long w), none, some (.int x), some (.int y)]) (st' := [.ref 0]) (h' := (shT, fi, fl, fr)) rfl ?_
      refine gp_of (fun _ k9 => g_getR (q' := 1) rfl rfl (by decide) k0 k9) ?_
      refine gp_n 1 (j' := 3) (lv' := [some (.ref 0), some (.long w), none, some (.int x), some (.int y)]) (st' := [.long w, .ref 1]) (h' := (shT, fi, fl, fr)) rfl ?_
      refine gp_of (fun _ k9 => g_call (y := 56) (as := [.ref 1, .long w]) (st' := []) rfl rfl (t1 p1.1 p1.2) k9) ?_
      refine gp_of (fun _ k9 => g_iff rfl (show ¬ ((1 : Int32) = (0 : Int32)) from by decide) k9) ?_
      refine gp_n 1 (j' := 6) (lv' := [some (.ref 0), some (.long w), none, some (.int x), some (.int y)]) (st' := [.int x]) (h' := (shT, fi, fl, fr)) rfl ?_
      refine gp_of (fun _ k9 => g_call (y := 71) (as := [.int x]) (st' := []) rfl rfl (x0 p2) k9) ?_
      refine gp_of (fun _ k9 => g_ift rfl (show (0 : Int32) = (0 : Int32) from by decide) k9) ?_
      refine gp_n 1 (j' := 12) (lv' := [some (.ref 0), some (.long w), none, some (.int x), some (.int y)]) (st' := [.int (-1)]) (h' := (shT, fi, fl, fr)) rfl ?_
      refine gp_done (g_ret rfl) ?_
      rfl
  · refine gp_n 1 (j' := 1) (lv' := [some (.ref 0), some (.long w), none, some (.int x), some (.int y)]) (st' := [.ref 0]) (h' := (shT, fi, fl, fr)) rfl ?_
    refine gp_of (fun _ k9 => g_getR (q' := 1) rfl rfl (by decide) k0 k9) ?_
    refine gp_n 1 (j' := 3) (lv' := [some (.ref 0), some (.long w), none, some (.int x), some (.int y)]) (st' := [.long w, .ref 1]) (h' := (shT, fi, fl, fr)) rfl ?_
    refine gp_of (fun _ k9 => g_call (y := 56) (as := [.ref 1, .long w]) (st' := []) rfl rfl (t0 p1) k9) ?_
    refine gp_of (fun _ k9 => g_ift rfl (show (0 : Int32) = (0 : Int32) from by decide) k9) ?_
    refine gp_n 1 (j' := 12) (lv' := [some (.ref 0), some (.long w), none, some (.int x), some (.int y)]) (st' := [.int (-1)]) (h' := (shT, fi, fl, fr)) rfl ?_
    refine gp_done (g_ret rfl) ?_
    rfl
theorem i32_bd {x lo hi : Int32} (h : lo ≤ x ∧ x ≤ hi) : lo.toInt ≤ x.toInt ∧ x.toInt ≤ hi.toInt := ⟨Int32.le_iff_toInt_le.mp h.1, Int32.le_iff_toInt_le.mp h.2⟩
theorem snd_C {h : PmH} {a : AB} {w : Int64} {x y : Int32} {k : Nat} (hI : HI hdT shT h) (hR : QC false h a) (hq : a_q a ≤ 12) (hk : k ≤ 64) (e2 : (a_v a).1 2 = nI k) (hP : P_send w x y k a) : ∃ h', Ev pmT 70 [.ref 0, .long w, .int x, .int y] h (some (.int ((a_v a).1 1))) h' ∧ QC false h' (a_push a) ∧ HI hdT shT h' ∧ fram (in_w iN_42) h h' := by
  have f := hR.2.2.2.2.1
  have c1 := f.1 1 (by decide)
  have c2 := (f.1 2 (by decide)).trans e2
  have k0 : ph_r h 0 0 = some 1 := hi_r hI rfl rfl (by decide)
  have t1 := fit1 (w := w) hI c1 c2 hk hP.1.1 hP.1.2
  have x1 := iss1 (x := x) hI hP.2.1
  have y1 := iss1 (x := y) hI hP.2.2
  obtain ⟨h1, ev1, R1, I1, F1⟩ := rem_ev hI hR hq
  obtain ⟨v2, h2, ev2, I2, F2, p2⟩ := iv_ev vN_20 (as := [.ref 1, .long w]) rfl (fun _ _ => gz_c (gz_r (by decide)) (gz_c (gz_l _) gz_n)) I1
  obtain ⟨w2, rfl⟩ := pv_l rfl p2
  have xb := i32_bd hP.2.1
  have yb := i32_bd hP.2.2
  obtain ⟨v3, h3, ev3, I3, F3, p3⟩ := iv_ev vN_41 (as := [.ref 0, .long w2, .int x, .int y, .ref 2]) rfl (fun _ _ => gz_c (gz_r (by decide)) (gz_c (gz_l _) (gz_c (gz_i xb.1 xb.2) (gz_c (gz_i yb.1 yb.2) (gz_c (gz_r (by decide)) gz_n))))) I2
  have := pv_n rfl p3
  subst this
  have R2 := QC_fr0 (show irC0 (in_w iN_20) = true by decide) F2 R1
  have R3 := QC_fr0 (show irC0 (in_w iN_41) = true by decide) F3 R2
  have m1 : ph_r h1 0 0 = some 1 := hi_r I1 rfl rfl (by decide)
  have m2 : ph_r h2 0 0 = some 1 := hi_r I2 rfl rfl (by decide)
  have m3 : ph_r h3 0 0 = some 1 := hi_r I3 rfl rfl (by decide)
  have m8 : ph_r h2 1 8 = some 2 := hi_r I2 rfl rfl (by decide)
  have d1 : ph_i h3 1 1 = (a_v a).1 1 := R3.2.2.2.2.1.1 1 (by decide)
  have ev : Ev pmT 70 [.ref 0, .long w, .int x, .int y] h (some (.int ((a_v a).1 1))) h3 := by
    refine Ev.of (es := cd_70) (ml := 5) (lv := [some (.ref 0), some (.long w), none, some (.int x), some (.int y)]) rfl rfl rfl ?_
    obtain ⟨S1, fi1, fl1, fr1⟩ := h1
    have s1 : S1 = shT := I1.1
    subst s1
    have m1 : fr1 0 0 = some 1 := m1
    obtain ⟨S2, fi2, fl2, fr2⟩ := h2
    have s2 : S2 = shT := I2.1
    subst s2
    have m2 : fr2 0 0 = some 1 := m2
    obtain ⟨S3, fi3, fl3, fr3⟩ := h3
    have s3 : S3 = shT := I3.1
    subst s3
    have m3 : fr3 0 0 = some 1 := m3
    have m8 : fr2 1 8 = some 2 := m8
    have d1 : fi3 1 1 = (a_v a).1 1 := d1
    obtain ⟨S, fi, fl, fr⟩ := h
    have hS : S = shT := hI.1
    subst hS
    have k0 : fr 0 0 = some 1 := k0
    refine go_of ?_
    refine gp_n 1 (j' := 1) (lv' := [some (.ref 0), some (.long w), none, some (.int x), some (.int y)]) (st' := [.ref 0]) (h' := (shT, fi, fl, fr)) rfl ?_
    refine gp_of (fun _ k9 => g_getR (q' := 1) rfl rfl (by decide) k0 k9) ?_
    refine gp_n 1 (j' := 3) (lv' := [some (.ref 0), some (.long w), none, some (.int x), some (.int y)]) (st' := [.long w, .ref 1]) (h' := (shT, fi, fl, fr)) rfl ?_
    refine gp_of (fun _ k9 => g_call (y := 56) (as := [.ref 1, .long w]) (st' := []) rfl rfl (t1) k9) ?_
    refine gp_of (fun _ k9 => g_iff rfl (show ¬ ((1 : Int32) = (0 : Int32)) from by decide) k9) ?_
    refine gp_n 1 (j' := 6) (lv' := [some (.ref 0), some (.long w), none, some (.int x), some (.int y)]) (st' := [.int x]) (h' := (shT, fi, fl, fr)) rfl ?_
    refine gp_of (fun _ k9 => g_call (y := 71) (as := [.int x]) (st' := []) rfl rfl (x1) k9) ?_
    refine gp_of (fun _ k9 => g_iff rfl (show ¬ ((1 : Int32) = (0 : Int32)) from by decide) k9) ?_
    refine gp_n 1 (j' := 9) (lv' := [some (.ref 0), some (.long w), none, some (.int x), some (.int y)]) (st' := [.int y]) (h' := (shT, fi, fl, fr)) rfl ?_
    refine gp_of (fun _ k9 => g_call (y := 71) (as := [.int y]) (st' := []) rfl rfl (y1) k9) ?_
    refine gp_of (fun _ k9 => g_ift rfl (show ¬ (1 : Int32) = (0 : Int32) from by decide) k9) ?_
    refine gp_n 1 (j' := 14) (lv' := [some (.ref 0), some (.long w), none, some (.int x), some (.int y)]) (st' := [.ref 0]) (h' := (shT, fi, fl, fr)) rfl ?_
    refine gp_of (fun _ k9 => g_callv (y := 49) (as := [.ref 0]) (st' := []) rfl rfl (ev1) k9) ?_
    refine gp_n 2 (j' := 17) (lv' := [some (.ref 0), some (.long w), none, some (.int x), some (.int y)]) (st' := [.ref 0, .ref 0]) (h' := (shT, fi1, fl1, fr1)) rfl ?_
    refine gp_of (fun _ k9 => g_getR (q' := 1) rfl rfl (by decide) m1 k9) ?_
    refine gp_n 1 (j' := 19) (lv' := [some (.ref 0), some (.long w), none, some (.int x), some (.int y)]) (st' := [.long w, .ref 1, .ref 0]) (h' := (shT, fi1, fl1, fr1)) rfl ?_
    refine gp_of (fun _ k9 => g_call (y := 58) (as := [.ref 1, .long w]) (st' := [.ref 0]) rfl rfl (ev2) k9) ?_
    refine gp_n 3 (j' := 23) (lv' := [some (.ref 0), some (.long w), none, some (.int x), some (.int y)]) (st' := [.ref 0, .int y, .int x, .long w2, .ref 0]) (h' := (shT, fi2, fl2, fr2)) rfl ?_
    refine gp_of (fun _ k9 => g_getR (q' := 1) rfl rfl (by decide) m2 k9) ?_
    refine gp_of (fun _ k9 => g_getR (q' := 2) rfl rfl (by decide) m8 k9) ?_
    refine gp_of (fun _ k9 => g_callv (y := 72) (as := [.ref 0, .long w2, .int x, .int y, .ref 2]) (st' := []) rfl rfl (ev3) k9) ?_
    refine gp_n 1 (j' := 27) (lv' := [some (.ref 0), some (.long w), none, some (.int x), some (.int y)]) (st' := [.ref 0]) (h' := (shT, fi3, fl3, fr3)) rfl ?_
    refine gp_of (fun _ k9 => g_getR (q' := 1) rfl rfl (by decide) m3 k9) ?_
    refine gp_of (fun _ k9 => g_getI (x := (a_v a).1 1) rfl (Or.inl rfl) rfl (by decide) (d1) k9) ?_
    refine gp_done (g_ret rfl) ?_
    rfl
  obtain ⟨J1, J2⟩ := iv_s vN_42 (as := [.ref 0, .long w, .int x, .int y]) rfl (fun _ _ => gz_c (gz_r (by decide)) (gz_c (gz_l _) (gz_c (gz_a _) (gz_c (gz_a _) gz_n)))) hI ev
  exact ⟨h3, ev, R3, J1, J2⟩
theorem snd_M0 {L : Bool} {h : PmH} {a : AB} {w : Int64} {x y : Int32} {k : Nat} (hI : HI hdT shT h) (hR : QM L h a) (hk : k ≤ 64) (e2 : (a_v a).1 2 = nI k) (hP : ¬ P_send w x y k a) : Ev pmT 182 [.ref 70, .long w, .int x, .int y] h (some (.int (-1))) h := by
  have f := hR.2.2.2.2.1
  have c1 : ph_i h 70 14 = (a_v a).1 1 := f.1 0 (by decide)
  have c2 : ph_i h 70 16 = nI k := (f.1 2 (by decide)).trans e2
  have t1 := fitM1 (w := w) hI c1 c2 hk
  have t0 := fitM0 (w := w) hI c1 c2 hk
  have x0 := nse0 (x := x) (y := y) hI
  have y0 := nse2 (x := x) (y := y) hI
  refine Ev.of (es := cd_182) (ml := 5) (lv := [some (.ref 70), some (.long w), none, some (.int x), some (.int y)]) rfl rfl rfl ?_
  obtain ⟨S, fi, fl, fr⟩ := h
  have hS : S = shT := hI.1
  subst hS
  refine go_of ?_
  by_cases p1 : 0 < (a_v a).1 1 ∧ fitP k w
  · by_cases p2 : 0 ≤ x ∧ x ≤ 100
    · have p3 : ¬ (0 ≤ y ∧ y ≤ 100) := fun z => hP ⟨p1, p2, z⟩
      refine gp_n 2 (j' := 2) (lv' := [some (.ref 70), some (.long w), none, some (.int x), some (.int y)]) (st' := [.long w, .ref 70]) (h' := (shT, fi, fl, fr)) rfl ?_
      refine gp_of (fun _ k9 => g_call (y := 171) (as := [.ref 70, .long w]) (st' := []) rfl rfl (t1 p1.1 p1.2) k9) ?_
      refine gp_of (fun _ k9 => g_iff rfl (show ¬ ((1 : Int32) = (0 : Int32)) from by decide) k9) ?_
      refine gp_n 2 (j' := 6) (lv' := [some (.ref 70), some (.long w), none, some (.int x), some (.int y)]) (st' := [.int y, .int x]) (h' := (shT, fi, fl, fr)) rfl ?_
      refine gp_of (fun _ k9 => g_call (y := 183) (as := [.int x, .int y]) (st' := []) rfl rfl (y0 p2 p3) k9) ?_
      refine gp_of (fun _ k9 => g_iff rfl (show ¬ (¬ (0 : Int32) = (0 : Int32)) from by decide) k9) ?_
      refine gp_n 1 (j' := 9) (lv' := [some (.ref 70), some (.long w), none, some (.int x), some (.int y)]) (st' := [.int (-1)]) (h' := (shT, fi, fl, fr)) rfl ?_
      refine gp_done (g_ret rfl) ?_
      rfl
    · refine gp_n 2 (j' := 2) (lv' := [some (.ref 70), some (.long w), none, some (.int x), some (.int y)]) (st' := [.long w, .ref 70]) (h' := (shT, fi, fl, fr)) rfl ?_
      refine gp_of (fun _ k9 => g_call (y := 171) (as := [.ref 70, .long w]) (st' := []) rfl rfl (t1 p1.1 p1.2) k9) ?_
      refine gp_of (fun _ k9 => g_iff rfl (show ¬ ((1 : Int32) = (0 : Int32)) from by decide) k9) ?_
      refine gp_n 2 (j' := 6) (lv' := [some (.ref 70), some (.long w), none, some (.int x), some (.int y)]) (st' := [.int y, .int x]) (h' := (shT, fi, fl, fr)) rfl ?_
      refine gp_of (fun _ k9 => g_call (y := 183) (as := [.int x, .int y]) (st' := []) rfl rfl (x0 p2) k9) ?_
      refine gp_of (fun _ k9 => g_iff rfl (show ¬ (¬ (0 : Int32) = (0 : Int32)) from by decide) k9) ?_
      refine gp_n 1 (j' := 9) (lv' := [some (.ref 70), some (.long w), none, some (.int x), some (.int y)]) (st' := [.int (-1)]) (h' := (shT, fi, fl, fr)) rfl ?_
      refine gp_done (g_ret rfl) ?_
      rfl
  · refine gp_n 2 (j' := 2) (lv' := [some (.ref 70), some (.long w), none, some (.int x), some (.int y)]) (st' := [.long w, .ref 70]) (h' := (shT, fi, fl, fr)) rfl ?_
    refine gp_of (fun _ k9 => g_call (y := 171) (as := [.ref 70, .long w]) (st' := []) rfl rfl (t0 p1) k9) ?_
    refine gp_of (fun _ k9 => g_ift rfl (show (0 : Int32) = (0 : Int32) from by decide) k9) ?_
    refine gp_n 1 (j' := 9) (lv' := [some (.ref 70), some (.long w), none, some (.int x), some (.int y)]) (st' := [.int (-1)]) (h' := (shT, fi, fl, fr)) rfl ?_
    refine gp_done (g_ret rfl) ?_
    rfl
theorem snd_M {h : PmH} {a : AB} {w : Int64} {x y : Int32} {k : Nat} (hI : HI hdT shT h) (hR : QM false h a) (hq : a_q a ≤ 12) (hk : k ≤ 64) (e2 : (a_v a).1 2 = nI k) (hP : P_send w x y k a) : ∃ h', Ev pmT 182 [.ref 70, .long w, .int x, .int y] h (some (.int ((a_v a).1 1))) h' ∧ QM false h' (a_push a) ∧ HI hdT shT h' ∧ fram (in_w iN_206) h h' := by
  have f := hR.2.2.2.2.1
  have c1 : ph_i h 70 14 = (a_v a).1 1 := f.1 0 (by decide)
  have c2 : ph_i h 70 16 = nI k := (f.1 2 (by decide)).trans e2
  have t1 := fitM1 (w := w) hI c1 c2 hk hP.1.1 hP.1.2
  have y1 := nse1 (x := x) (y := y) hI hP.2
  obtain ⟨h1, ev1, R1, I1, F1⟩ := ka_ev hI hR hq
  obtain ⟨v2, h2, ev2, I2, F2, p2⟩ := iv_ev vN_177 (as := [.ref 70, .long w]) rfl (fun _ _ => gz_c (gz_r (by decide)) (gz_c (gz_l _) gz_n)) I1
  obtain ⟨w2, rfl⟩ := pv_l rfl p2
  have R2 := QM_fr0 (show irM0 (in_w iN_177) = true by decide) F2 R1
  have d2 : ph_i h2 70 14 = (a_v a).1 1 := R2.2.2.2.2.1.1 0 (by decide)
  have nb := hi_i (lo := 0) (hi := 64) I2 (p := 70) (c := 14) rfl rfl (by decide)
  rw [d2] at nb
  obtain ⟨v3, h3, ev3, I3, F3, p3⟩ := iv_ev vN_178 (as := [.long w2, .int ((a_v a).1 1)]) rfl (fun _ _ => gz_c (gz_l _) (gz_c (gz_i nb.1 nb.2) gz_n)) I2
  obtain ⟨w3, rfl⟩ := pv_l rfl p3
  have R3 := QM_fr0 (show irM0 (in_w iN_178) = true by decide) F3 R2
  have xb := i32_bd hP.2.1
  have yb := i32_bd hP.2.2
  obtain ⟨v4, h4, ev4, I4, F4, p4⟩ := iv_ev vN_205 (as := [.ref 70, .long w3, .int x, .int y]) rfl (fun _ _ => gz_c (gz_r (by decide)) (gz_c (gz_l _) (gz_c (gz_i xb.1 xb.2) (gz_c (gz_i yb.1 yb.2) gz_n)))) I3
  have := pv_n rfl p4
  subst this
  have R4 := QM_fr0 (show irM0 (in_w iN_205) = true by decide) F4 R3
  have d4 : ph_i h4 70 14 = (a_v a).1 1 := R4.2.2.2.2.1.1 0 (by decide)
  have ev : Ev pmT 182 [.ref 70, .long w, .int x, .int y] h (some (.int ((a_v a).1 1))) h4 := by
    refine Ev.of (es := cd_182) (ml := 5) (lv := [some (.ref 70), some (.long w), none, some (.int x), some (.int y)]) rfl rfl rfl ?_
    obtain ⟨S1, fi1, fl1, fr1⟩ := h1
    have s1 : S1 = shT := I1.1
    subst s1
    obtain ⟨S2, fi2, fl2, fr2⟩ := h2
    have s2 : S2 = shT := I2.1
    subst s2
    obtain ⟨S3, fi3, fl3, fr3⟩ := h3
    have s3 : S3 = shT := I3.1
    subst s3
    obtain ⟨S4, fi4, fl4, fr4⟩ := h4
    have s4 : S4 = shT := I4.1
    subst s4
    have d2 : fi2 70 14 = (a_v a).1 1 := d2
    have d4 : fi4 70 14 = (a_v a).1 1 := d4
    obtain ⟨S, fi, fl, fr⟩ := h
    have hS : S = shT := hI.1
    subst hS
    refine go_of ?_
    refine gp_n 2 (j' := 2) (lv' := [some (.ref 70), some (.long w), none, some (.int x), some (.int y)]) (st' := [.long w, .ref 70]) (h' := (shT, fi, fl, fr)) rfl ?_
    refine gp_of (fun _ k9 => g_call (y := 171) (as := [.ref 70, .long w]) (st' := []) rfl rfl (t1) k9) ?_
    refine gp_of (fun _ k9 => g_iff rfl (show ¬ ((1 : Int32) = (0 : Int32)) from by decide) k9) ?_
    refine gp_n 2 (j' := 6) (lv' := [some (.ref 70), some (.long w), none, some (.int x), some (.int y)]) (st' := [.int y, .int x]) (h' := (shT, fi, fl, fr)) rfl ?_
    refine gp_of (fun _ k9 => g_call (y := 183) (as := [.int x, .int y]) (st' := []) rfl rfl (y1) k9) ?_
    refine gp_of (fun _ k9 => g_ift rfl (show ¬ (1 : Int32) = (0 : Int32) from by decide) k9) ?_
    refine gp_n 1 (j' := 11) (lv' := [some (.ref 70), some (.long w), none, some (.int x), some (.int y)]) (st' := [.ref 70]) (h' := (shT, fi, fl, fr)) rfl ?_
    refine gp_of (fun _ k9 => g_callv (y := 162) (as := [.ref 70]) (st' := []) rfl rfl (ev1) k9) ?_
    refine gp_n 3 (j' := 15) (lv' := [some (.ref 70), some (.long w), none, some (.int x), some (.int y)]) (st' := [.long w, .ref 70, .ref 70]) (h' := (shT, fi1, fl1, fr1)) rfl ?_
    refine gp_of (fun _ k9 => g_call (y := 173) (as := [.ref 70, .long w]) (st' := [.ref 70]) rfl rfl (ev2) k9) ?_
    refine gp_n 1 (j' := 17) (lv' := [some (.ref 70), some (.long w), none, some (.int x), some (.int y)]) (st' := [.ref 70, .long w2, .ref 70]) (h' := (shT, fi2, fl2, fr2)) rfl ?_
    refine gp_of (fun _ k9 => g_getI (x := (a_v a).1 1) rfl (Or.inl rfl) rfl (by decide) (d2) k9) ?_
    refine gp_of (fun _ k9 => g_call (y := 175) (as := [.long w2, .int ((a_v a).1 1)]) (st' := [.ref 70]) rfl rfl (ev3) k9) ?_
    refine gp_n 2 (j' := 21) (lv' := [some (.ref 70), some (.long w), none, some (.int x), some (.int y)]) (st' := [.int y, .int x, .long w3, .ref 70]) (h' := (shT, fi3, fl3, fr3)) rfl ?_
    refine gp_of (fun _ k9 => g_callv (y := 184) (as := [.ref 70, .long w3, .int x, .int y]) (st' := []) rfl rfl (ev4) k9) ?_
    refine gp_n 1 (j' := 23) (lv' := [some (.ref 70), some (.long w), none, some (.int x), some (.int y)]) (st' := [.ref 70]) (h' := (shT, fi4, fl4, fr4)) rfl ?_
    refine gp_of (fun _ k9 => g_getI (x := (a_v a).1 1) rfl (Or.inl rfl) rfl (by decide) (d4) k9) ?_
    refine gp_done (g_ret rfl) ?_
    rfl
  obtain ⟨J1, J2⟩ := iv_s vN_206 (as := [.ref 70, .long w, .int x, .int y]) rfl (fun _ _ => gz_c (gz_r (by decide)) (gz_c (gz_l _) (gz_c (gz_a _) (gz_c (gz_a _) gz_n)))) hI ev
  exact ⟨h4, ev, R4, J1, J2⟩
