theorem and31 (x : Int32) : ∃ k, k < 32 ∧ x &&& 31 = nI k := by
  refine ⟨(x &&& 31).toBitVec.toNat, ?_, ?_⟩
  · have : (x &&& 31).toBitVec = x.toBitVec &&& 31#32 := rfl
    rw [this, BitVec.toNat_and]
    exact Nat.lt_of_le_of_lt Nat.and_le_right (by decide)
  · apply Int32.toBitVec_inj.mp
    show _ = BitVec.ofNat 32 _
    rw [BitVec.ofNat_toNat]
    simp
section LAW
variable {h : PmH} {a : AB} {L i : Nat} {f : Nat → Int32} {Q : Option Value × PmH → Prop}
set_option maxRecDepth 100000 in
theorem law_0 (hL : L ≤ 3072) (hi : i + 6 ≤ L) (hr : REL3 h a) (k : ∀ h' a', REL3 h' a' → GoP pmT (some (L, f)) cd_law 785 [some (.retAddr 41), some (.ref 0), some (.ref 70), some (.int (nI i))] [] h' Q) : GoP pmT (some (L, f)) cd_law 22 [some (.retAddr 41), some (.ref 0), some (.ref 70), some (.int (nI i))] [] h Q := by
  obtain ⟨x, y, h1, h2, a', e1, e2, hr2, I1, hE⟩ := p3_feed (f (i + 1)) (f (i + 2)) (f (i + 3)) (f (i + 4)) (f (i + 5)) hr
  have k2 := k h2 a' hr2
  have I0 := hr.1.1.1
  have I2 := hr2.1.1.1
  clear hr hr2 k
  obtain ⟨S1, fi1, fl1, fr1⟩ := h1
  have s1 : S1 = shT := I1.1
  subst s1
  obtain ⟨S2, fi2, fl2, fr2⟩ := h2
  have s2 : S2 = shT := I2.1
  subst s2
  obtain ⟨S, fi, fl, fr⟩ := h
  have hS : S = shT := I0.1
  subst hS
  refine gp_n 5 (j' := 27) (lv' := [some (.retAddr 41), some (.ref 0), some (.ref 70), some (.int (nI i))]) (st' := [.int ((nI i) + 1), .retAddr 41, .ref 0]) (h' := (shT, fi, fl, fr)) rfl ?_
  refine gp_of (fun _ k9 => g_sld (k := i + 1) rfl (nI_add i 1) (by omega) (by omega) k9) ?_
  refine gp_n 4 (j' := 32) (lv' := [some (.retAddr 41), some (.ref 0), some (.ref 70), some (.int (nI i))]) (st' := [.int ((nI i) + 2), .retAddr 41, .int (f (i + 1)), .ref 0]) (h' := (shT, fi, fl, fr)) rfl ?_
  refine gp_of (fun _ k9 => g_sld (k := i + 2) rfl (nI_add i 2) (by omega) (by omega) k9) ?_
  refine gp_n 4 (j' := 37) (lv' := [some (.retAddr 41), some (.ref 0), some (.ref 70), some (.int (nI i))]) (st' := [.int ((nI i) + 3), .retAddr 41, .int (f (i + 2)), .int (f (i + 1)), .ref 0]) (h' := (shT, fi, fl, fr)) rfl ?_
  refine gp_of (fun _ k9 => g_sld (k := i + 3) rfl (nI_add i 3) (by omega) (by omega) k9) ?_
  refine gp_n 4 (j' := 42) (lv' := [some (.retAddr 41), some (.ref 0), some (.ref 70), some (.int (nI i))]) (st' := [.int ((nI i) + 4), .retAddr 41, .int (f (i + 3)), .int (f (i + 2)), .int (f (i + 1)), .ref 0]) (h' := (shT, fi, fl, fr)) rfl ?_
  refine gp_of (fun _ k9 => g_sld (k := i + 4) rfl (nI_add i 4) (by omega) (by omega) k9) ?_
  refine gp_n 4 (j' := 47) (lv' := [some (.retAddr 41), some (.ref 0), some (.ref 70), some (.int (nI i))]) (st' := [.int ((nI i) + 5), .retAddr 41, .int (f (i + 4)), .int (f (i + 3)), .int (f (i + 2)), .int (f (i + 1)), .ref 0]) (h' := (shT, fi, fl, fr)) rfl ?_
  refine gp_of (fun _ k9 => g_sld (k := i + 5) rfl (nI_add i 5) (by omega) (by omega) k9) ?_
  refine gp_of (fun _ k9 => g_call (y := 10) (as := [.ref 0, .int (f (i + 1)), .int (f (i + 2)), .int (f (i + 3)), .int (f (i + 4)), .int (f (i + 5))]) (st' := []) rfl rfl (e1) k9) ?_
  refine gp_n 6 (j' := 55) (lv' := [some (.retAddr 41), some (.ref 0), some (.ref 70), some (.int (nI i))]) (st' := [.int ((nI i) + 1), .retAddr 41, .ref 70]) (h' := (shT, fi1, fl1, fr1)) rfl ?_
  refine gp_of (fun _ k9 => g_sld (k := i + 1) rfl (nI_add i 1) (by omega) (by omega) k9) ?_
  refine gp_n 4 (j' := 60) (lv' := [some (.retAddr 41), some (.ref 0), some (.ref 70), some (.int (nI i))]) (st' := [.int ((nI i) + 2), .retAddr 41, .int (f (i + 1)), .ref 70]) (h' := (shT, fi1, fl1, fr1)) rfl ?_
  refine gp_of (fun _ k9 => g_sld (k := i + 2) rfl (nI_add i 2) (by omega) (by omega) k9) ?_
  refine gp_n 4 (j' := 65) (lv' := [some (.retAddr 41), some (.ref 0), some (.ref 70), some (.int (nI i))]) (st' := [.int ((nI i) + 3), .retAddr 41, .int (f (i + 2)), .int (f (i + 1)), .ref 70]) (h' := (shT, fi1, fl1, fr1)) rfl ?_
  refine gp_of (fun _ k9 => g_sld (k := i + 3) rfl (nI_add i 3) (by omega) (by omega) k9) ?_
  refine gp_n 4 (j' := 70) (lv' := [some (.retAddr 41), some (.ref 0), some (.ref 70), some (.int (nI i))]) (st' := [.int ((nI i) + 4), .retAddr 41, .int (f (i + 3)), .int (f (i + 2)), .int (f (i + 1)), .ref 70]) (h' := (shT, fi1, fl1, fr1)) rfl ?_
  refine gp_of (fun _ k9 => g_sld (k := i + 4) rfl (nI_add i 4) (by omega) (by omega) k9) ?_
  refine gp_n 4 (j' := 75) (lv' := [some (.retAddr 41), some (.ref 0), some (.ref 70), some (.int (nI i))]) (st' := [.int ((nI i) + 5), .retAddr 41, .int (f (i + 4)), .int (f (i + 3)), .int (f (i + 2)), .int (f (i + 1)), .ref 70]) (h' := (shT, fi1, fl1, fr1)) rfl ?_
  refine gp_of (fun _ k9 => g_sld (k := i + 5) rfl (nI_add i 5) (by omega) (by omega) k9) ?_
  refine gp_of (fun _ k9 => g_call (y := 146) (as := [.ref 70, .int (f (i + 1)), .int (f (i + 2)), .int (f (i + 3)), .int (f (i + 4)), .int (f (i + 5))]) (st' := []) rfl rfl (e2) k9) ?_
  refine gp_n 2 (j' := 785) (lv' := [some (.retAddr 41), some (.ref 0), some (.ref 70), some (.int (nI i))]) (st' := []) (h' := (shT, fi2, fl2, fr2)) rfl ?_
  exact k2
set_option maxRecDepth 100000 in
theorem law_1 (hL : L ≤ 3072) (hi : i + 6 ≤ L) (hr : REL3 h a) (k : ∀ h' a', REL3 h' a' → GoP pmT (some (L, f)) cd_law 785 [some (.retAddr 41), some (.ref 0), some (.ref 70), some (.int (nI i))] [] h' Q) : GoP pmT (some (L, f)) cd_law 79 [some (.retAddr 41), some (.ref 0), some (.ref 70), some (.int (nI i))] [] h Q := by
  obtain ⟨x, y, h1, h2, a', e1, e2, hr2, I1, hE⟩ := p3_end (f (i + 1)) hr
  have k2 := k h2 a' hr2
  have I0 := hr.1.1.1
  have I2 := hr2.1.1.1
  clear hr hr2 k
  obtain ⟨S1, fi1, fl1, fr1⟩ := h1
  have s1 : S1 = shT := I1.1
  subst s1
  obtain ⟨S2, fi2, fl2, fr2⟩ := h2
  have s2 : S2 = shT := I2.1
  subst s2
  obtain ⟨S, fi, fl, fr⟩ := h
  have hS : S = shT := I0.1
  subst hS
  refine gp_n 5 (j' := 84) (lv' := [some (.retAddr 41), some (.ref 0), some (.ref 70), some (.int (nI i))]) (st' := [.int ((nI i) + 1), .retAddr 41, .ref 0]) (h' := (shT, fi, fl, fr)) rfl ?_
  refine gp_of (fun _ k9 => g_sld (k := i + 1) rfl (nI_add i 1) (by omega) (by omega) k9) ?_
  refine gp_of (fun _ k9 => g_call (y := 12) (as := [.ref 0, .int (f (i + 1))]) (st' := []) rfl rfl (e1) k9) ?_
  refine gp_n 6 (j' := 92) (lv' := [some (.retAddr 41), some (.ref 0), some (.ref 70), some (.int (nI i))]) (st' := [.int ((nI i) + 1), .retAddr 41, .ref 70]) (h' := (shT, fi1, fl1, fr1)) rfl ?_
  refine gp_of (fun _ k9 => g_sld (k := i + 1) rfl (nI_add i 1) (by omega) (by omega) k9) ?_
  refine gp_of (fun _ k9 => g_call (y := 147) (as := [.ref 70, .int (f (i + 1))]) (st' := []) rfl rfl (e2) k9) ?_
  refine gp_n 2 (j' := 785) (lv' := [some (.retAddr 41), some (.ref 0), some (.ref 70), some (.int (nI i))]) (st' := []) (h' := (shT, fi2, fl2, fr2)) rfl ?_
  exact k2
set_option maxRecDepth 100000 in
theorem law_2 (hL : L ≤ 3072) (hi : i + 6 ≤ L) (hr : REL3 h a) (k : ∀ h' a', REL3 h' a' → GoP pmT (some (L, f)) cd_law 785 [some (.retAddr 41), some (.ref 0), some (.ref 70), some (.int (nI i))] [] h' Q) : GoP pmT (some (L, f)) cd_law 96 [some (.retAddr 41), some (.ref 0), some (.ref 70), some (.int (nI i))] [] h Q := by
  obtain ⟨x, y, h1, h2, a', e1, e2, hr2, I1, hE⟩ := p3_code hr
  have k2 := k h2 a' hr2
  have I0 := hr.1.1.1
  have I2 := hr2.1.1.1
  clear hr hr2 k
  obtain ⟨S1, fi1, fl1, fr1⟩ := h1
  have s1 : S1 = shT := I1.1
  subst s1
  obtain ⟨S2, fi2, fl2, fr2⟩ := h2
  have s2 : S2 = shT := I2.1
  subst s2
  obtain ⟨S, fi, fl, fr⟩ := h
  have hS : S = shT := I0.1
  subst hS
  refine gp_n 1 (j' := 97) (lv' := [some (.retAddr 41), some (.ref 0), some (.ref 70), some (.int (nI i))]) (st' := [.ref 0]) (h' := (shT, fi, fl, fr)) rfl ?_
  refine gp_of (fun _ k9 => g_call (y := 13) (as := [.ref 0]) (st' := []) rfl rfl (e1) k9) ?_
  refine gp_n 2 (j' := 100) (lv' := [some (.retAddr 41), some (.ref 0), some (.ref 70), some (.int (nI i))]) (st' := [.ref 70]) (h' := (shT, fi1, fl1, fr1)) rfl ?_
  refine gp_of (fun _ k9 => g_call (y := 149) (as := [.ref 70]) (st' := []) rfl rfl (e2) k9) ?_
  refine gp_n 2 (j' := 785) (lv' := [some (.retAddr 41), some (.ref 0), some (.ref 70), some (.int (nI i))]) (st' := []) (h' := (shT, fi2, fl2, fr2)) rfl ?_
  exact k2
set_option maxRecDepth 100000 in
theorem law_3 (hL : L ≤ 3072) (hi : i + 6 ≤ L) (hr : REL3 h a) (k : ∀ h' a', REL3 h' a' → GoP pmT (some (L, f)) cd_law 785 [some (.retAddr 41), some (.ref 0), some (.ref 70), some (.int (nI i))] [] h' Q) : GoP pmT (some (L, f)) cd_law 103 [some (.retAddr 41), some (.ref 0), some (.ref 70), some (.int (nI i))] [] h Q := by
  obtain ⟨x, y, h1, h2, a', e1, e2, hr2, I1, hE⟩ := p3_goodness (f (i + 1)) hr
  have k2 := k h2 a' hr2
  have I0 := hr.1.1.1
  have I2 := hr2.1.1.1
  clear hr hr2 k
  obtain ⟨S1, fi1, fl1, fr1⟩ := h1
  have s1 : S1 = shT := I1.1
  subst s1
  obtain ⟨S2, fi2, fl2, fr2⟩ := h2
  have s2 : S2 = shT := I2.1
  subst s2
  obtain ⟨S, fi, fl, fr⟩ := h
  have hS : S = shT := I0.1
  subst hS
  refine gp_n 5 (j' := 108) (lv' := [some (.retAddr 41), some (.ref 0), some (.ref 70), some (.int (nI i))]) (st' := [.int ((nI i) + 1), .retAddr 41, .ref 0]) (h' := (shT, fi, fl, fr)) rfl ?_
  refine gp_of (fun _ k9 => g_sld (k := i + 1) rfl (nI_add i 1) (by omega) (by omega) k9) ?_
  refine gp_of (fun _ k9 => g_call (y := 51) (as := [.ref 0, .int (f (i + 1))]) (st' := []) rfl rfl (e1) k9) ?_
  refine gp_n 6 (j' := 116) (lv' := [some (.retAddr 41), some (.ref 0), some (.ref 70), some (.int (nI i))]) (st' := [.int ((nI i) + 1), .retAddr 41, .ref 70]) (h' := (shT, fi1, fl1, fr1)) rfl ?_
  refine gp_of (fun _ k9 => g_sld (k := i + 1) rfl (nI_add i 1) (by omega) (by omega) k9) ?_
  refine gp_of (fun _ k9 => g_call (y := 167) (as := [.ref 70, .int (f (i + 1))]) (st' := []) rfl rfl (e2) k9) ?_
  refine gp_n 2 (j' := 785) (lv' := [some (.retAddr 41), some (.ref 0), some (.ref 70), some (.int (nI i))]) (st' := []) (h' := (shT, fi2, fl2, fr2)) rfl ?_
  exact k2
set_option maxRecDepth 100000 in
theorem law_4 (hL : L ≤ 3072) (hi : i + 6 ≤ L) (hr : REL3 h a) (k : ∀ h' a', REL3 h' a' → GoP pmT (some (L, f)) cd_law 785 [some (.retAddr 41), some (.ref 0), some (.ref 70), some (.int (nI i))] [] h' Q) : GoP pmT (some (L, f)) cd_law 120 [some (.retAddr 41), some (.ref 0), some (.ref 70), some (.int (nI i))] [] h Q := by
  obtain ⟨x, y, h1, h2, a', e1, e2, hr2, I1, hE⟩ := p3_kept (f (i + 1)) hr
  have k2 := k h2 a' hr2
  have I0 := hr.1.1.1
  have I2 := hr2.1.1.1
  clear hr hr2 k
  obtain ⟨S1, fi1, fl1, fr1⟩ := h1
  have s1 : S1 = shT := I1.1
  subst s1
  obtain ⟨S2, fi2, fl2, fr2⟩ := h2
  have s2 : S2 = shT := I2.1
  subst s2
  obtain ⟨S, fi, fl, fr⟩ := h
  have hS : S = shT := I0.1
  subst hS
  refine gp_n 5 (j' := 125) (lv' := [some (.retAddr 41), some (.ref 0), some (.ref 70), some (.int (nI i))]) (st' := [.int ((nI i) + 1), .retAddr 41, .ref 0]) (h' := (shT, fi, fl, fr)) rfl ?_
  refine gp_of (fun _ k9 => g_sld (k := i + 1) rfl (nI_add i 1) (by omega) (by omega) k9) ?_
  refine gp_of (fun _ k9 => g_call (y := 53) (as := [.ref 0, .int (f (i + 1))]) (st' := []) rfl rfl (e1) k9) ?_
  refine gp_n 6 (j' := 133) (lv' := [some (.retAddr 41), some (.ref 0), some (.ref 70), some (.int (nI i))]) (st' := [.int ((nI i) + 1), .retAddr 41, .ref 70]) (h' := (shT, fi1, fl1, fr1)) rfl ?_
  refine gp_of (fun _ k9 => g_sld (k := i + 1) rfl (nI_add i 1) (by omega) (by omega) k9) ?_
  refine gp_of (fun _ k9 => g_call (y := 169) (as := [.ref 70, .int (f (i + 1))]) (st' := []) rfl rfl (e2) k9) ?_
  refine gp_n 2 (j' := 785) (lv' := [some (.retAddr 41), some (.ref 0), some (.ref 70), some (.int (nI i))]) (st' := []) (h' := (shT, fi2, fl2, fr2)) rfl ?_
  exact k2
set_option maxRecDepth 100000 in
theorem law_5 (hL : L ≤ 3072) (hi : i + 6 ≤ L) (hr : REL3 h a) (k : ∀ h' a', REL3 h' a' → GoP pmT (some (L, f)) cd_law 785 [some (.retAddr 41), some (.ref 0), some (.ref 70), some (.int (nI i))] [] h' Q) : GoP pmT (some (L, f)) cd_law 137 [some (.retAddr 41), some (.ref 0), some (.ref 70), some (.int (nI i))] [] h Q := by
  obtain ⟨x, y, h1, h2, a', e1, e2, hr2, I1, hE⟩ := p3_word ((((f (i + 1)).toInt64) <<< ((32 : Int32).toInt64 &&& 63)) ||| (((f (i + 2)).toInt64) &&& 4294967295)) hr
  have k2 := k h2 a' hr2
  have I0 := hr.1.1.1
  have I2 := hr2.1.1.1
  clear hr hr2 k
  obtain ⟨S1, fi1, fl1, fr1⟩ := h1
  have s1 : S1 = shT := I1.1
  subst s1
  obtain ⟨S2, fi2, fl2, fr2⟩ := h2
  have s2 : S2 = shT := I2.1
  subst s2
  obtain ⟨S, fi, fl, fr⟩ := h
  have hS : S = shT := I0.1
  subst hS
  refine gp_n 5 (j' := 142) (lv' := [some (.retAddr 41), some (.ref 0), some (.ref 70), some (.int (nI i))]) (st' := [.int ((nI i) + 1), .retAddr 41, .ref 0]) (h' := (shT, fi, fl, fr)) rfl ?_
  refine gp_of (fun _ k9 => g_sld (k := i + 1) rfl (nI_add i 1) (by omega) (by omega) k9) ?_
  refine gp_n 7 (j' := 150) (lv' := [some (.retAddr 41), some (.ref 0), some (.ref 70), some (.int (nI i))]) (st' := [.int ((nI i) + 2), .retAddr 41, .long (((f (i + 1)).toInt64) <<< ((32 : Int32).toInt64 &&& 63)), .ref 0]) (h' := (shT, fi, fl, fr)) rfl ?_
  refine gp_of (fun _ k9 => g_sld (k := i + 2) rfl (nI_add i 2) (by omega) (by omega) k9) ?_
  refine gp_n 4 (j' := 155) (lv' := [some (.retAddr 41), some (.ref 0), some (.ref 70), some (.int (nI i))]) (st' := [.long ((((f (i + 1)).toInt64) <<< ((32 : Int32).toInt64 &&& 63)) ||| (((f (i + 2)).toInt64) &&& 4294967295)), .ref 0]) (h' := (shT, fi, fl, fr)) rfl ?_
  refine gp_of (fun _ k9 => g_call (y := 55) (as := [.ref 0, .long ((((f (i + 1)).toInt64) <<< ((32 : Int32).toInt64 &&& 63)) ||| (((f (i + 2)).toInt64) &&& 4294967295))]) (st' := []) rfl rfl (e1) k9) ?_
  refine gp_n 6 (j' := 162) (lv' := [some (.retAddr 41), some (.ref 0), some (.ref 70), some (.int (nI i))]) (st' := [.int ((nI i) + 1), .retAddr 41, .ref 70]) (h' := (shT, fi1, fl1, fr1)) rfl ?_
  refine gp_of (fun _ k9 => g_sld (k := i + 1) rfl (nI_add i 1) (by omega) (by omega) k9) ?_
  refine gp_n 7 (j' := 170) (lv' := [some (.retAddr 41), some (.ref 0), some (.ref 70), some (.int (nI i))]) (st' := [.int ((nI i) + 2), .retAddr 41, .long (((f (i + 1)).toInt64) <<< ((32 : Int32).toInt64 &&& 63)), .ref 70]) (h' := (shT, fi1, fl1, fr1)) rfl ?_
  refine gp_of (fun _ k9 => g_sld (k := i + 2) rfl (nI_add i 2) (by omega) (by omega) k9) ?_
  refine gp_n 4 (j' := 175) (lv' := [some (.retAddr 41), some (.ref 0), some (.ref 70), some (.int (nI i))]) (st' := [.long ((((f (i + 1)).toInt64) <<< ((32 : Int32).toInt64 &&& 63)) ||| (((f (i + 2)).toInt64) &&& 4294967295)), .ref 70]) (h' := (shT, fi1, fl1, fr1)) rfl ?_
  refine gp_of (fun _ k9 => g_call (y := 170) (as := [.ref 70, .long ((((f (i + 1)).toInt64) <<< ((32 : Int32).toInt64 &&& 63)) ||| (((f (i + 2)).toInt64) &&& 4294967295))]) (st' := []) rfl rfl (e2) k9) ?_
  refine gp_n 2 (j' := 785) (lv' := [some (.retAddr 41), some (.ref 0), some (.ref 70), some (.int (nI i))]) (st' := []) (h' := (shT, fi2, fl2, fr2)) rfl ?_
  exact k2
set_option maxRecDepth 100000 in
theorem law_6 (hL : L ≤ 3072) (hi : i + 6 ≤ L) (hr : REL3 h a) (k : ∀ h' a', REL3 h' a' → GoP pmT (some (L, f)) cd_law 785 [some (.retAddr 41), some (.ref 0), some (.ref 70), some (.int (nI i))] [] h' Q) : GoP pmT (some (L, f)) cd_law 178 [some (.retAddr 41), some (.ref 0), some (.ref 70), some (.int (nI i))] [] h Q := by
  obtain ⟨x, y, h1, h2, a', e1, e2, hr2, I1, hE⟩ := p3_check ((((f (i + 1)).toInt64) <<< ((32 : Int32).toInt64 &&& 63)) ||| (((f (i + 2)).toInt64) &&& 4294967295)) hr
  have k2 := k h2 a' hr2
  have I0 := hr.1.1.1
  have I2 := hr2.1.1.1
  clear hr hr2 k
  obtain ⟨S1, fi1, fl1, fr1⟩ := h1
  have s1 : S1 = shT := I1.1
  subst s1
  obtain ⟨S2, fi2, fl2, fr2⟩ := h2
  have s2 : S2 = shT := I2.1
  subst s2
  obtain ⟨S, fi, fl, fr⟩ := h
  have hS : S = shT := I0.1
  subst hS
  refine gp_n 5 (j' := 183) (lv' := [some (.retAddr 41), some (.ref 0), some (.ref 70), some (.int (nI i))]) (st' := [.int ((nI i) + 1), .retAddr 41, .ref 0]) (h' := (shT, fi, fl, fr)) rfl ?_
  refine gp_of (fun _ k9 => g_sld (k := i + 1) rfl (nI_add i 1) (by omega) (by omega) k9) ?_
  refine gp_n 7 (j' := 191) (lv' := [some (.retAddr 41), some (.ref 0), some (.ref 70), some (.int (nI i))]) (st' := [.int ((nI i) + 2), .retAddr 41, .long (((f (i + 1)).toInt64) <<< ((32 : Int32).toInt64 &&& 63)), .ref 0]) (h' := (shT, fi, fl, fr)) rfl ?_
  refine gp_of (fun _ k9 => g_sld (k := i + 2) rfl (nI_add i 2) (by omega) (by omega) k9) ?_
  refine gp_n 4 (j' := 196) (lv' := [some (.retAddr 41), some (.ref 0), some (.ref 70), some (.int (nI i))]) (st' := [.long ((((f (i + 1)).toInt64) <<< ((32 : Int32).toInt64 &&& 63)) ||| (((f (i + 2)).toInt64) &&& 4294967295)), .ref 0]) (h' := (shT, fi, fl, fr)) rfl ?_
  refine gp_of (fun _ k9 => g_call (y := 63) (as := [.ref 0, .long ((((f (i + 1)).toInt64) <<< ((32 : Int32).toInt64 &&& 63)) ||| (((f (i + 2)).toInt64) &&& 4294967295))]) (st' := []) rfl rfl (e1) k9) ?_
  refine gp_n 6 (j' := 203) (lv' := [some (.retAddr 41), some (.ref 0), some (.ref 70), some (.int (nI i))]) (st' := [.int ((nI i) + 1), .retAddr 41, .ref 70]) (h' := (shT, fi1, fl1, fr1)) rfl ?_
  refine gp_of (fun _ k9 => g_sld (k := i + 1) rfl (nI_add i 1) (by omega) (by omega) k9) ?_
  refine gp_n 7 (j' := 211) (lv' := [some (.retAddr 41), some (.ref 0), some (.ref 70), some (.int (nI i))]) (st' := [.int ((nI i) + 2), .retAddr 41, .long (((f (i + 1)).toInt64) <<< ((32 : Int32).toInt64 &&& 63)), .ref 70]) (h' := (shT, fi1, fl1, fr1)) rfl ?_
  refine gp_of (fun _ k9 => g_sld (k := i + 2) rfl (nI_add i 2) (by omega) (by omega) k9) ?_
  refine gp_n 4 (j' := 216) (lv' := [some (.retAddr 41), some (.ref 0), some (.ref 70), some (.int (nI i))]) (st' := [.long ((((f (i + 1)).toInt64) <<< ((32 : Int32).toInt64 &&& 63)) ||| (((f (i + 2)).toInt64) &&& 4294967295)), .ref 70]) (h' := (shT, fi1, fl1, fr1)) rfl ?_
  refine gp_of (fun _ k9 => g_call (y := 176) (as := [.ref 70, .long ((((f (i + 1)).toInt64) <<< ((32 : Int32).toInt64 &&& 63)) ||| (((f (i + 2)).toInt64) &&& 4294967295))]) (st' := []) rfl rfl (e2) k9) ?_
  refine gp_n 2 (j' := 785) (lv' := [some (.retAddr 41), some (.ref 0), some (.ref 70), some (.int (nI i))]) (st' := []) (h' := (shT, fi2, fl2, fr2)) rfl ?_
  exact k2
set_option maxRecDepth 100000 in
theorem law_7 (hL : L ≤ 3072) (hi : i + 6 ≤ L) (hr : REL3 h a) (k : ∀ h' a', REL3 h' a' → GoP pmT (some (L, f)) cd_law 785 [some (.retAddr 41), some (.ref 0), some (.ref 70), some (.int (nI i))] [] h' Q) : GoP pmT (some (L, f)) cd_law 219 [some (.retAddr 41), some (.ref 0), some (.ref 70), some (.int (nI i))] [] h Q := by
  obtain ⟨x, y, h1, h2, a', e1, e2, hr2, I1, hE⟩ := p3_systematic ((((f (i + 1)).toInt64) <<< ((32 : Int32).toInt64 &&& 63)) ||| (((f (i + 2)).toInt64) &&& 4294967295)) hr
  have k2 := k h2 a' hr2
  have I0 := hr.1.1.1
  have I2 := hr2.1.1.1
  clear hr hr2 k
  obtain ⟨S1, fi1, fl1, fr1⟩ := h1
  have s1 : S1 = shT := I1.1
  subst s1
  obtain ⟨S2, fi2, fl2, fr2⟩ := h2
  have s2 : S2 = shT := I2.1
  subst s2
  obtain ⟨S, fi, fl, fr⟩ := h
  have hS : S = shT := I0.1
  subst hS
  refine gp_n 5 (j' := 224) (lv' := [some (.retAddr 41), some (.ref 0), some (.ref 70), some (.int (nI i))]) (st' := [.int ((nI i) + 1), .retAddr 41, .ref 0]) (h' := (shT, fi, fl, fr)) rfl ?_
  refine gp_of (fun _ k9 => g_sld (k := i + 1) rfl (nI_add i 1) (by omega) (by omega) k9) ?_
  refine gp_n 7 (j' := 232) (lv' := [some (.retAddr 41), some (.ref 0), some (.ref 70), some (.int (nI i))]) (st' := [.int ((nI i) + 2), .retAddr 41, .long (((f (i + 1)).toInt64) <<< ((32 : Int32).toInt64 &&& 63)), .ref 0]) (h' := (shT, fi, fl, fr)) rfl ?_
  refine gp_of (fun _ k9 => g_sld (k := i + 2) rfl (nI_add i 2) (by omega) (by omega) k9) ?_
  refine gp_n 4 (j' := 237) (lv' := [some (.retAddr 41), some (.ref 0), some (.ref 70), some (.int (nI i))]) (st' := [.long ((((f (i + 1)).toInt64) <<< ((32 : Int32).toInt64 &&& 63)) ||| (((f (i + 2)).toInt64) &&& 4294967295)), .ref 0]) (h' := (shT, fi, fl, fr)) rfl ?_
  refine gp_of (fun _ k9 => g_call (y := 64) (as := [.ref 0, .long ((((f (i + 1)).toInt64) <<< ((32 : Int32).toInt64 &&& 63)) ||| (((f (i + 2)).toInt64) &&& 4294967295))]) (st' := []) rfl rfl (e1) k9) ?_
  refine gp_n 6 (j' := 244) (lv' := [some (.retAddr 41), some (.ref 0), some (.ref 70), some (.int (nI i))]) (st' := [.int ((nI i) + 1), .retAddr 41, .ref 70]) (h' := (shT, fi1, fl1, fr1)) rfl ?_
  refine gp_of (fun _ k9 => g_sld (k := i + 1) rfl (nI_add i 1) (by omega) (by omega) k9) ?_
  refine gp_n 7 (j' := 252) (lv' := [some (.retAddr 41), some (.ref 0), some (.ref 70), some (.int (nI i))]) (st' := [.int ((nI i) + 2), .retAddr 41, .long (((f (i + 1)).toInt64) <<< ((32 : Int32).toInt64 &&& 63)), .ref 70]) (h' := (shT, fi1, fl1, fr1)) rfl ?_
  refine gp_of (fun _ k9 => g_sld (k := i + 2) rfl (nI_add i 2) (by omega) (by omega) k9) ?_
  refine gp_n 4 (j' := 257) (lv' := [some (.retAddr 41), some (.ref 0), some (.ref 70), some (.int (nI i))]) (st' := [.long ((((f (i + 1)).toInt64) <<< ((32 : Int32).toInt64 &&& 63)) ||| (((f (i + 2)).toInt64) &&& 4294967295)), .ref 70]) (h' := (shT, fi1, fl1, fr1)) rfl ?_
  refine gp_of (fun _ k9 => g_call (y := 177) (as := [.ref 70, .long ((((f (i + 1)).toInt64) <<< ((32 : Int32).toInt64 &&& 63)) ||| (((f (i + 2)).toInt64) &&& 4294967295))]) (st' := []) rfl rfl (e2) k9) ?_
  refine gp_n 2 (j' := 785) (lv' := [some (.retAddr 41), some (.ref 0), some (.ref 70), some (.int (nI i))]) (st' := []) (h' := (shT, fi2, fl2, fr2)) rfl ?_
  exact k2
set_option maxRecDepth 100000 in
theorem law_8 (hL : L ≤ 3072) (hi : i + 6 ≤ L) (hr : REL3 h a) (k : ∀ h' a', REL3 h' a' → GoP pmT (some (L, f)) cd_law 785 [some (.retAddr 41), some (.ref 0), some (.ref 70), some (.int (nI i))] [] h' Q) : GoP pmT (some (L, f)) cd_law 260 [some (.retAddr 41), some (.ref 0), some (.ref 70), some (.int (nI i))] [] h Q := by
  obtain ⟨x, y, h1, h2, a', e1, e2, hr2, I1, hE⟩ := p3_row (f (i + 1)) hr
  have k2 := k h2 a' hr2
  have I0 := hr.1.1.1
  have I2 := hr2.1.1.1
  clear hr hr2 k
  obtain ⟨S1, fi1, fl1, fr1⟩ := h1
  have s1 : S1 = shT := I1.1
  subst s1
  obtain ⟨S2, fi2, fl2, fr2⟩ := h2
  have s2 : S2 = shT := I2.1
  subst s2
  obtain ⟨S, fi, fl, fr⟩ := h
  have hS : S = shT := I0.1
  subst hS
  refine gp_n 5 (j' := 265) (lv' := [some (.retAddr 41), some (.ref 0), some (.ref 70), some (.int (nI i))]) (st' := [.int ((nI i) + 1), .retAddr 41, .ref 0]) (h' := (shT, fi, fl, fr)) rfl ?_
  refine gp_of (fun _ k9 => g_sld (k := i + 1) rfl (nI_add i 1) (by omega) (by omega) k9) ?_
  refine gp_of (fun _ k9 => g_call (y := 65) (as := [.ref 0, .int (f (i + 1))]) (st' := []) rfl rfl (e1) k9) ?_
  refine gp_n 6 (j' := 273) (lv' := [some (.retAddr 41), some (.ref 0), some (.ref 70), some (.int (nI i))]) (st' := [.int ((nI i) + 1), .retAddr 41, .ref 70]) (h' := (shT, fi1, fl1, fr1)) rfl ?_
  refine gp_of (fun _ k9 => g_sld (k := i + 1) rfl (nI_add i 1) (by omega) (by omega) k9) ?_
  refine gp_of (fun _ k9 => g_call (y := 179) (as := [.ref 70, .int (f (i + 1))]) (st' := []) rfl rfl (e2) k9) ?_
  refine gp_n 2 (j' := 785) (lv' := [some (.retAddr 41), some (.ref 0), some (.ref 70), some (.int (nI i))]) (st' := []) (h' := (shT, fi2, fl2, fr2)) rfl ?_
  exact k2
set_option maxRecDepth 100000 in
theorem law_9 (hL : L ≤ 3072) (hi : i + 6 ≤ L) (hr : REL3 h a) (k : ∀ h' a', REL3 h' a' → GoP pmT (some (L, f)) cd_law 785 [some (.retAddr 41), some (.ref 0), some (.ref 70), some (.int (nI i))] [] h' Q) : GoP pmT (some (L, f)) cd_law 277 [some (.retAddr 41), some (.ref 0), some (.ref 70), some (.int (nI i))] [] h Q := by
  obtain ⟨x, y, h1, h2, a', e1, e2, hr2, I1, hE⟩ := p3_hear hr
  have k2 := k h2 a' hr2
  have I0 := hr.1.1.1
  have I2 := hr2.1.1.1
  clear hr hr2 k
  obtain ⟨S1, fi1, fl1, fr1⟩ := h1
  have s1 : S1 = shT := I1.1
  subst s1
  obtain ⟨S2, fi2, fl2, fr2⟩ := h2
  have s2 : S2 = shT := I2.1
  subst s2
  obtain ⟨S, fi, fl, fr⟩ := h
  have hS : S = shT := I0.1
  subst hS
  refine gp_n 1 (j' := 278) (lv' := [some (.retAddr 41), some (.ref 0), some (.ref 70), some (.int (nI i))]) (st' := [.ref 0]) (h' := (shT, fi, fl, fr)) rfl ?_
  refine gp_of (fun _ k9 => g_call (y := 68) (as := [.ref 0]) (st' := []) rfl rfl (e1) k9) ?_
  refine gp_n 2 (j' := 281) (lv' := [some (.retAddr 41), some (.ref 0), some (.ref 70), some (.int (nI i))]) (st' := [.ref 70]) (h' := (shT, fi1, fl1, fr1)) rfl ?_
  refine gp_of (fun _ k9 => g_call (y := 180) (as := [.ref 70]) (st' := []) rfl rfl (e2) k9) ?_
  refine gp_n 2 (j' := 785) (lv' := [some (.retAddr 41), some (.ref 0), some (.ref 70), some (.int (nI i))]) (st' := []) (h' := (shT, fi2, fl2, fr2)) rfl ?_
  exact k2
set_option maxRecDepth 100000 in
theorem law_10 (hL : L ≤ 3072) (hi : i + 6 ≤ L) (hr : REL3 h a) (k : ∀ h' a', REL3 h' a' → GoP pmT (some (L, f)) cd_law 785 [some (.retAddr 41), some (.ref 0), some (.ref 70), some (.int (nI i))] [] h' Q) : GoP pmT (some (L, f)) cd_law 284 [some (.retAddr 41), some (.ref 0), some (.ref 70), some (.int (nI i))] [] h Q := by
  obtain ⟨x, y, h1, h2, a', e1, e2, hr2, I1, hE⟩ := p3_tell (f (i + 1)) (f (i + 2)) hr
  have k2 := k h2 a' hr2
  have I0 := hr.1.1.1
  have I2 := hr2.1.1.1
  clear hr hr2 k
  obtain ⟨S1, fi1, fl1, fr1⟩ := h1
  have s1 : S1 = shT := I1.1
  subst s1
  obtain ⟨S2, fi2, fl2, fr2⟩ := h2
  have s2 : S2 = shT := I2.1
  subst s2
  obtain ⟨S, fi, fl, fr⟩ := h
  have hS : S = shT := I0.1
  subst hS
  refine gp_n 5 (j' := 289) (lv' := [some (.retAddr 41), some (.ref 0), some (.ref 70), some (.int (nI i))]) (st' := [.int ((nI i) + 1), .retAddr 41, .ref 0]) (h' := (shT, fi, fl, fr)) rfl ?_
  refine gp_of (fun _ k9 => g_sld (k := i + 1) rfl (nI_add i 1) (by omega) (by omega) k9) ?_
  refine gp_n 4 (j' := 294) (lv' := [some (.retAddr 41), some (.ref 0), some (.ref 70), some (.int (nI i))]) (st' := [.int ((nI i) + 2), .retAddr 41, .int (f (i + 1)), .ref 0]) (h' := (shT, fi, fl, fr)) rfl ?_
  refine gp_of (fun _ k9 => g_sld (k := i + 2) rfl (nI_add i 2) (by omega) (by omega) k9) ?_
  refine gp_of (fun _ k9 => g_call (y := 69) (as := [.ref 0, .int (f (i + 1)), .int (f (i + 2))]) (st' := []) rfl rfl (e1) k9) ?_
  refine gp_n 6 (j' := 302) (lv' := [some (.retAddr 41), some (.ref 0), some (.ref 70), some (.int (nI i))]) (st' := [.int ((nI i) + 1), .retAddr 41, .ref 70]) (h' := (shT, fi1, fl1, fr1)) rfl ?_
  refine gp_of (fun _ k9 => g_sld (k := i + 1) rfl (nI_add i 1) (by omega) (by omega) k9) ?_
  refine gp_n 4 (j' := 307) (lv' := [some (.retAddr 41), some (.ref 0), some (.ref 70), some (.int (nI i))]) (st' := [.int ((nI i) + 2), .retAddr 41, .int (f (i + 1)), .ref 70]) (h' := (shT, fi1, fl1, fr1)) rfl ?_
  refine gp_of (fun _ k9 => g_sld (k := i + 2) rfl (nI_add i 2) (by omega) (by omega) k9) ?_
  refine gp_of (fun _ k9 => g_call (y := 181) (as := [.ref 70, .int (f (i + 1)), .int (f (i + 2))]) (st' := []) rfl rfl (e2) k9) ?_
  refine gp_n 2 (j' := 785) (lv' := [some (.retAddr 41), some (.ref 0), some (.ref 70), some (.int (nI i))]) (st' := []) (h' := (shT, fi2, fl2, fr2)) rfl ?_
  exact k2
set_option maxRecDepth 100000 in
theorem law_11 (hL : L ≤ 3072) (hi : i + 6 ≤ L) (hr : REL3 h a) (k : ∀ h' a', REL3 h' a' → GoP pmT (some (L, f)) cd_law 785 [some (.retAddr 41), some (.ref 0), some (.ref 70), some (.int (nI i))] [] h' Q) : GoP pmT (some (L, f)) cd_law 311 [some (.retAddr 41), some (.ref 0), some (.ref 70), some (.int (nI i))] [] h Q := by
  obtain ⟨x, y, h1, h2, a', e1, e2, hr2, I1, hE⟩ := p3_send ((((f (i + 1)).toInt64) <<< ((32 : Int32).toInt64 &&& 63)) ||| (((f (i + 2)).toInt64) &&& 4294967295)) (f (i + 3)) (f (i + 4)) hr
  have k2 := k h2 a' hr2
  have I0 := hr.1.1.1
  have I2 := hr2.1.1.1
  clear hr hr2 k
  obtain ⟨S1, fi1, fl1, fr1⟩ := h1
  have s1 : S1 = shT := I1.1
  subst s1
  obtain ⟨S2, fi2, fl2, fr2⟩ := h2
  have s2 : S2 = shT := I2.1
  subst s2
  obtain ⟨S, fi, fl, fr⟩ := h
  have hS : S = shT := I0.1
  subst hS
  refine gp_n 5 (j' := 316) (lv' := [some (.retAddr 41), some (.ref 0), some (.ref 70), some (.int (nI i))]) (st' := [.int ((nI i) + 1), .retAddr 41, .ref 0]) (h' := (shT, fi, fl, fr)) rfl ?_
  refine gp_of (fun _ k9 => g_sld (k := i + 1) rfl (nI_add i 1) (by omega) (by omega) k9) ?_
  refine gp_n 7 (j' := 324) (lv' := [some (.retAddr 41), some (.ref 0), some (.ref 70), some (.int (nI i))]) (st' := [.int ((nI i) + 2), .retAddr 41, .long (((f (i + 1)).toInt64) <<< ((32 : Int32).toInt64 &&& 63)), .ref 0]) (h' := (shT, fi, fl, fr)) rfl ?_
  refine gp_of (fun _ k9 => g_sld (k := i + 2) rfl (nI_add i 2) (by omega) (by omega) k9) ?_
  refine gp_n 8 (j' := 333) (lv' := [some (.retAddr 41), some (.ref 0), some (.ref 70), some (.int (nI i))]) (st' := [.int ((nI i) + 3), .retAddr 41, .long ((((f (i + 1)).toInt64) <<< ((32 : Int32).toInt64 &&& 63)) ||| (((f (i + 2)).toInt64) &&& 4294967295)), .ref 0]) (h' := (shT, fi, fl, fr)) rfl ?_
  refine gp_of (fun _ k9 => g_sld (k := i + 3) rfl (nI_add i 3) (by omega) (by omega) k9) ?_
  refine gp_n 4 (j' := 338) (lv' := [some (.retAddr 41), some (.ref 0), some (.ref 70), some (.int (nI i))]) (st' := [.int ((nI i) + 4), .retAddr 41, .int (f (i + 3)), .long ((((f (i + 1)).toInt64) <<< ((32 : Int32).toInt64 &&& 63)) ||| (((f (i + 2)).toInt64) &&& 4294967295)), .ref 0]) (h' := (shT, fi, fl, fr)) rfl ?_
  refine gp_of (fun _ k9 => g_sld (k := i + 4) rfl (nI_add i 4) (by omega) (by omega) k9) ?_
  refine gp_of (fun _ k9 => g_call (y := 70) (as := [.ref 0, .long ((((f (i + 1)).toInt64) <<< ((32 : Int32).toInt64 &&& 63)) ||| (((f (i + 2)).toInt64) &&& 4294967295)), .int (f (i + 3)), .int (f (i + 4))]) (st' := []) rfl rfl (e1) k9) ?_
  refine gp_n 6 (j' := 346) (lv' := [some (.retAddr 41), some (.ref 0), some (.ref 70), some (.int (nI i))]) (st' := [.int ((nI i) + 1), .retAddr 41, .ref 70]) (h' := (shT, fi1, fl1, fr1)) rfl ?_
  refine gp_of (fun _ k9 => g_sld (k := i + 1) rfl (nI_add i 1) (by omega) (by omega) k9) ?_
  refine gp_n 7 (j' := 354) (lv' := [some (.retAddr 41), some (.ref 0), some (.ref 70), some (.int (nI i))]) (st' := [.int ((nI i) + 2), .retAddr 41, .long (((f (i + 1)).toInt64) <<< ((32 : Int32).toInt64 &&& 63)), .ref 70]) (h' := (shT, fi1, fl1, fr1)) rfl ?_
  refine gp_of (fun _ k9 => g_sld (k := i + 2) rfl (nI_add i 2) (by omega) (by omega) k9) ?_
  refine gp_n 8 (j' := 363) (lv' := [some (.retAddr 41), some (.ref 0), some (.ref 70), some (.int (nI i))]) (st' := [.int ((nI i) + 3), .retAddr 41, .long ((((f (i + 1)).toInt64) <<< ((32 : Int32).toInt64 &&& 63)) ||| (((f (i + 2)).toInt64) &&& 4294967295)), .ref 70]) (h' := (shT, fi1, fl1, fr1)) rfl ?_
  refine gp_of (fun _ k9 => g_sld (k := i + 3) rfl (nI_add i 3) (by omega) (by omega) k9) ?_
  refine gp_n 4 (j' := 368) (lv' := [some (.retAddr 41), some (.ref 0), some (.ref 70), some (.int (nI i))]) (st' := [.int ((nI i) + 4), .retAddr 41, .int (f (i + 3)), .long ((((f (i + 1)).toInt64) <<< ((32 : Int32).toInt64 &&& 63)) ||| (((f (i + 2)).toInt64) &&& 4294967295)), .ref 70]) (h' := (shT, fi1, fl1, fr1)) rfl ?_
  refine gp_of (fun _ k9 => g_sld (k := i + 4) rfl (nI_add i 4) (by omega) (by omega) k9) ?_
  refine gp_of (fun _ k9 => g_call (y := 182) (as := [.ref 70, .long ((((f (i + 1)).toInt64) <<< ((32 : Int32).toInt64 &&& 63)) ||| (((f (i + 2)).toInt64) &&& 4294967295)), .int (f (i + 3)), .int (f (i + 4))]) (st' := []) rfl rfl (e2) k9) ?_
  refine gp_n 2 (j' := 785) (lv' := [some (.retAddr 41), some (.ref 0), some (.ref 70), some (.int (nI i))]) (st' := []) (h' := (shT, fi2, fl2, fr2)) rfl ?_
  exact k2
set_option maxRecDepth 100000 in
theorem law_12 (hL : L ≤ 3072) (hi : i + 6 ≤ L) (hr : REL3 h a) (k : ∀ h' a', REL3 h' a' → GoP pmT (some (L, f)) cd_law 785 [some (.retAddr 41), some (.ref 0), some (.ref 70), some (.int (nI i))] [] h' Q) : GoP pmT (some (L, f)) cd_law 372 [some (.retAddr 41), some (.ref 0), some (.ref 70), some (.int (nI i))] [] h Q := by
  obtain ⟨x, y, h1, h2, a', e1, e2, hr2, I1, hE⟩ := p3_sum (f (i + 1)) hr
  have k2 := k h2 a' hr2
  have I0 := hr.1.1.1
  have I2 := hr2.1.1.1
  clear hr hr2 k
  obtain ⟨S1, fi1, fl1, fr1⟩ := h1
  have s1 : S1 = shT := I1.1
  subst s1
  obtain ⟨S2, fi2, fl2, fr2⟩ := h2
  have s2 : S2 = shT := I2.1
  subst s2
  obtain ⟨S, fi, fl, fr⟩ := h
  have hS : S = shT := I0.1
  subst hS
  refine gp_n 5 (j' := 377) (lv' := [some (.retAddr 41), some (.ref 0), some (.ref 70), some (.int (nI i))]) (st' := [.int ((nI i) + 1), .retAddr 41, .ref 0]) (h' := (shT, fi, fl, fr)) rfl ?_
  refine gp_of (fun _ k9 => g_sld (k := i + 1) rfl (nI_add i 1) (by omega) (by omega) k9) ?_
  refine gp_of (fun _ k9 => g_call (y := 74) (as := [.ref 0, .int (f (i + 1))]) (st' := []) rfl rfl (e1) k9) ?_
  refine gp_n 6 (j' := 385) (lv' := [some (.retAddr 41), some (.ref 0), some (.ref 70), some (.int (nI i))]) (st' := [.int ((nI i) + 1), .retAddr 41, .ref 70]) (h' := (shT, fi1, fl1, fr1)) rfl ?_
  refine gp_of (fun _ k9 => g_sld (k := i + 1) rfl (nI_add i 1) (by omega) (by omega) k9) ?_
  refine gp_of (fun _ k9 => g_call (y := 186) (as := [.ref 70, .int (f (i + 1))]) (st' := []) rfl rfl (e2) k9) ?_
  refine gp_n 2 (j' := 785) (lv' := [some (.retAddr 41), some (.ref 0), some (.ref 70), some (.int (nI i))]) (st' := []) (h' := (shT, fi2, fl2, fr2)) rfl ?_
  exact k2
set_option maxRecDepth 100000 in
theorem law_13 (hL : L ≤ 3072) (hi : i + 6 ≤ L) (hr : REL3 h a) (k : ∀ h' a', REL3 h' a' → GoP pmT (some (L, f)) cd_law 785 [some (.retAddr 41), some (.ref 0), some (.ref 70), some (.int (nI i))] [] h' Q) : GoP pmT (some (L, f)) cd_law 389 [some (.retAddr 41), some (.ref 0), some (.ref 70), some (.int (nI i))] [] h Q := by
  obtain ⟨x, y, h1, h2, a', e1, e2, hr2, I1, hE⟩ := p3_distance ((((f (i + 1)).toInt64) <<< ((32 : Int32).toInt64 &&& 63)) ||| (((f (i + 2)).toInt64) &&& 4294967295)) hr
  have k2 := k h2 a' hr2
  have I0 := hr.1.1.1
  have I2 := hr2.1.1.1
  clear hr hr2 k
  obtain ⟨S1, fi1, fl1, fr1⟩ := h1
  have s1 : S1 = shT := I1.1
  subst s1
  obtain ⟨S2, fi2, fl2, fr2⟩ := h2
  have s2 : S2 = shT := I2.1
  subst s2
  obtain ⟨S, fi, fl, fr⟩ := h
  have hS : S = shT := I0.1
  subst hS
  refine gp_n 5 (j' := 394) (lv' := [some (.retAddr 41), some (.ref 0), some (.ref 70), some (.int (nI i))]) (st' := [.int ((nI i) + 1), .retAddr 41, .ref 0]) (h' := (shT, fi, fl, fr)) rfl ?_
  refine gp_of (fun _ k9 => g_sld (k := i + 1) rfl (nI_add i 1) (by omega) (by omega) k9) ?_
  refine gp_n 7 (j' := 402) (lv' := [some (.retAddr 41), some (.ref 0), some (.ref 70), some (.int (nI i))]) (st' := [.int ((nI i) + 2), .retAddr 41, .long (((f (i + 1)).toInt64) <<< ((32 : Int32).toInt64 &&& 63)), .ref 0]) (h' := (shT, fi, fl, fr)) rfl ?_
  refine gp_of (fun _ k9 => g_sld (k := i + 2) rfl (nI_add i 2) (by omega) (by omega) k9) ?_
  refine gp_n 4 (j' := 407) (lv' := [some (.retAddr 41), some (.ref 0), some (.ref 70), some (.int (nI i))]) (st' := [.long ((((f (i + 1)).toInt64) <<< ((32 : Int32).toInt64 &&& 63)) ||| (((f (i + 2)).toInt64) &&& 4294967295)), .ref 0]) (h' := (shT, fi, fl, fr)) rfl ?_
  refine gp_of (fun _ k9 => g_call (y := 75) (as := [.ref 0, .long ((((f (i + 1)).toInt64) <<< ((32 : Int32).toInt64 &&& 63)) ||| (((f (i + 2)).toInt64) &&& 4294967295))]) (st' := []) rfl rfl (e1) k9) ?_
  refine gp_n 6 (j' := 414) (lv' := [some (.retAddr 41), some (.ref 0), some (.ref 70), some (.int (nI i))]) (st' := [.int ((nI i) + 1), .retAddr 41, .ref 70]) (h' := (shT, fi1, fl1, fr1)) rfl ?_
  refine gp_of (fun _ k9 => g_sld (k := i + 1) rfl (nI_add i 1) (by omega) (by omega) k9) ?_
  refine gp_n 7 (j' := 422) (lv' := [some (.retAddr 41), some (.ref 0), some (.ref 70), some (.int (nI i))]) (st' := [.int ((nI i) + 2), .retAddr 41, .long (((f (i + 1)).toInt64) <<< ((32 : Int32).toInt64 &&& 63)), .ref 70]) (h' := (shT, fi1, fl1, fr1)) rfl ?_
  refine gp_of (fun _ k9 => g_sld (k := i + 2) rfl (nI_add i 2) (by omega) (by omega) k9) ?_
  refine gp_n 4 (j' := 427) (lv' := [some (.retAddr 41), some (.ref 0), some (.ref 70), some (.int (nI i))]) (st' := [.long ((((f (i + 1)).toInt64) <<< ((32 : Int32).toInt64 &&& 63)) ||| (((f (i + 2)).toInt64) &&& 4294967295)), .ref 70]) (h' := (shT, fi1, fl1, fr1)) rfl ?_
  refine gp_of (fun _ k9 => g_call (y := 187) (as := [.ref 70, .long ((((f (i + 1)).toInt64) <<< ((32 : Int32).toInt64 &&& 63)) ||| (((f (i + 2)).toInt64) &&& 4294967295))]) (st' := []) rfl rfl (e2) k9) ?_
  refine gp_n 2 (j' := 785) (lv' := [some (.retAddr 41), some (.ref 0), some (.ref 70), some (.int (nI i))]) (st' := []) (h' := (shT, fi2, fl2, fr2)) rfl ?_
  exact k2
set_option maxRecDepth 100000 in
theorem law_14 (hL : L ≤ 3072) (hi : i + 6 ≤ L) (hr : REL3 h a) (k : ∀ h' a', REL3 h' a' → GoP pmT (some (L, f)) cd_law 785 [some (.retAddr 41), some (.ref 0), some (.ref 70), some (.int (nI i))] [] h' Q) : GoP pmT (some (L, f)) cd_law 430 [some (.retAddr 41), some (.ref 0), some (.ref 70), some (.int (nI i))] [] h Q := by
  obtain ⟨x, y, h1, h2, a', e1, e2, hr2, I1, hE⟩ := p3_list (f (i + 1)) hr
  have k2 := k h2 a' hr2
  have I0 := hr.1.1.1
  have I2 := hr2.1.1.1
  clear hr hr2 k
  obtain ⟨S1, fi1, fl1, fr1⟩ := h1
  have s1 : S1 = shT := I1.1
  subst s1
  obtain ⟨S2, fi2, fl2, fr2⟩ := h2
  have s2 : S2 = shT := I2.1
  subst s2
  obtain ⟨S, fi, fl, fr⟩ := h
  have hS : S = shT := I0.1
  subst hS
  refine gp_n 5 (j' := 435) (lv' := [some (.retAddr 41), some (.ref 0), some (.ref 70), some (.int (nI i))]) (st' := [.int ((nI i) + 1), .retAddr 41, .ref 0]) (h' := (shT, fi, fl, fr)) rfl ?_
  refine gp_of (fun _ k9 => g_sld (k := i + 1) rfl (nI_add i 1) (by omega) (by omega) k9) ?_
  refine gp_of (fun _ k9 => g_call (y := 78) (as := [.ref 0, .int (f (i + 1))]) (st' := []) rfl rfl (e1) k9) ?_
  refine gp_n 6 (j' := 443) (lv' := [some (.retAddr 41), some (.ref 0), some (.ref 70), some (.int (nI i))]) (st' := [.int ((nI i) + 1), .retAddr 41, .ref 70]) (h' := (shT, fi1, fl1, fr1)) rfl ?_
  refine gp_of (fun _ k9 => g_sld (k := i + 1) rfl (nI_add i 1) (by omega) (by omega) k9) ?_
  refine gp_of (fun _ k9 => g_call (y := 189) (as := [.ref 70, .int (f (i + 1))]) (st' := []) rfl rfl (e2) k9) ?_
  refine gp_n 2 (j' := 785) (lv' := [some (.retAddr 41), some (.ref 0), some (.ref 70), some (.int (nI i))]) (st' := []) (h' := (shT, fi2, fl2, fr2)) rfl ?_
  exact k2
set_option maxRecDepth 100000 in
theorem law_15 (hL : L ≤ 3072) (hi : i + 6 ≤ L) (hr : REL3 h a) (k : ∀ h' a', REL3 h' a' → GoP pmT (some (L, f)) cd_law 785 [some (.retAddr 41), some (.ref 0), some (.ref 70), some (.int (nI i))] [] h' Q) : GoP pmT (some (L, f)) cd_law 447 [some (.retAddr 41), some (.ref 0), some (.ref 70), some (.int (nI i))] [] h Q := by
  obtain ⟨x, y, h1, h2, a', e1, e2, hr2, I1, hE⟩ := p3_read hr
  have k2 := k h2 a' hr2
  have I0 := hr.1.1.1
  have I2 := hr2.1.1.1
  clear hr hr2 k
  obtain ⟨S1, fi1, fl1, fr1⟩ := h1
  have s1 : S1 = shT := I1.1
  subst s1
  obtain ⟨S2, fi2, fl2, fr2⟩ := h2
  have s2 : S2 = shT := I2.1
  subst s2
  obtain ⟨S, fi, fl, fr⟩ := h
  have hS : S = shT := I0.1
  subst hS
  refine gp_n 1 (j' := 448) (lv' := [some (.retAddr 41), some (.ref 0), some (.ref 70), some (.int (nI i))]) (st' := [.ref 0]) (h' := (shT, fi, fl, fr)) rfl ?_
  refine gp_of (fun _ k9 => g_call (y := 80) (as := [.ref 0]) (st' := []) rfl rfl (e1) k9) ?_
  refine gp_n 2 (j' := 451) (lv' := [some (.retAddr 41), some (.ref 0), some (.ref 70), some (.int (nI i))]) (st' := [.ref 70]) (h' := (shT, fi1, fl1, fr1)) rfl ?_
  refine gp_of (fun _ k9 => g_call (y := 190) (as := [.ref 70]) (st' := []) rfl rfl (e2) k9) ?_
  refine gp_n 2 (j' := 785) (lv' := [some (.retAddr 41), some (.ref 0), some (.ref 70), some (.int (nI i))]) (st' := []) (h' := (shT, fi2, fl2, fr2)) rfl ?_
  exact k2
set_option maxRecDepth 100000 in
theorem law_16 (hL : L ≤ 3072) (hi : i + 6 ≤ L) (hr : REL3 h a) (k : ∀ h' a', REL3 h' a' → GoP pmT (some (L, f)) cd_law 785 [some (.retAddr 41), some (.ref 0), some (.ref 70), some (.int (nI i))] [] h' Q) : GoP pmT (some (L, f)) cd_law 454 [some (.retAddr 41), some (.ref 0), some (.ref 70), some (.int (nI i))] [] h Q := by
  obtain ⟨x, y, h1, h2, a', e1, e2, hr2, I1, hE⟩ := p3_told (f (i + 1)) hr
  have k2 := k h2 a' hr2
  have I0 := hr.1.1.1
  have I2 := hr2.1.1.1
  clear hr hr2 k
  obtain ⟨S1, fi1, fl1, fr1⟩ := h1
  have s1 : S1 = shT := I1.1
  subst s1
  obtain ⟨S2, fi2, fl2, fr2⟩ := h2
  have s2 : S2 = shT := I2.1
  subst s2
  obtain ⟨S, fi, fl, fr⟩ := h
  have hS : S = shT := I0.1
  subst hS
  refine gp_n 5 (j' := 459) (lv' := [some (.retAddr 41), some (.ref 0), some (.ref 70), some (.int (nI i))]) (st' := [.int ((nI i) + 1), .retAddr 41, .ref 0]) (h' := (shT, fi, fl, fr)) rfl ?_
  refine gp_of (fun _ k9 => g_sld (k := i + 1) rfl (nI_add i 1) (by omega) (by omega) k9) ?_
  refine gp_of (fun _ k9 => g_call (y := 109) (as := [.ref 0, .int (f (i + 1))]) (st' := []) rfl rfl (e1) k9) ?_
  refine gp_n 6 (j' := 467) (lv' := [some (.retAddr 41), some (.ref 0), some (.ref 70), some (.int (nI i))]) (st' := [.int ((nI i) + 1), .retAddr 41, .ref 70]) (h' := (shT, fi1, fl1, fr1)) rfl ?_
  refine gp_of (fun _ k9 => g_sld (k := i + 1) rfl (nI_add i 1) (by omega) (by omega) k9) ?_
  refine gp_of (fun _ k9 => g_call (y := 203) (as := [.ref 70, .int (f (i + 1))]) (st' := []) rfl rfl (e2) k9) ?_
  refine gp_n 2 (j' := 785) (lv' := [some (.retAddr 41), some (.ref 0), some (.ref 70), some (.int (nI i))]) (st' := []) (h' := (shT, fi2, fl2, fr2)) rfl ?_
  exact k2
set_option maxRecDepth 100000 in
theorem law_17 (hL : L ≤ 3072) (hi : i + 6 ≤ L) (hr : REL3 h a) (k : ∀ h' a', REL3 h' a' → GoP pmT (some (L, f)) cd_law 785 [some (.retAddr 41), some (.ref 0), some (.ref 70), some (.int (nI i))] [] h' Q) : GoP pmT (some (L, f)) cd_law 471 [some (.retAddr 41), some (.ref 0), some (.ref 70), some (.int (nI i))] [] h Q := by
  obtain ⟨x, y, h1, h2, a', e1, e2, hr2, I1, hE⟩ := p3_path (f (i + 1)) (f (i + 2)) (f (i + 3)) hr
  have k2 := k h2 a' hr2
  have I0 := hr.1.1.1
  have I2 := hr2.1.1.1
  clear hr hr2 k
  obtain ⟨S1, fi1, fl1, fr1⟩ := h1
  have s1 : S1 = shT := I1.1
  subst s1
  obtain ⟨S2, fi2, fl2, fr2⟩ := h2
  have s2 : S2 = shT := I2.1
  subst s2
  obtain ⟨S, fi, fl, fr⟩ := h
  have hS : S = shT := I0.1
  subst hS
  refine gp_n 5 (j' := 476) (lv' := [some (.retAddr 41), some (.ref 0), some (.ref 70), some (.int (nI i))]) (st' := [.int ((nI i) + 1), .retAddr 41, .ref 0]) (h' := (shT, fi, fl, fr)) rfl ?_
  refine gp_of (fun _ k9 => g_sld (k := i + 1) rfl (nI_add i 1) (by omega) (by omega) k9) ?_
  refine gp_n 4 (j' := 481) (lv' := [some (.retAddr 41), some (.ref 0), some (.ref 70), some (.int (nI i))]) (st' := [.int ((nI i) + 2), .retAddr 41, .int (f (i + 1)), .ref 0]) (h' := (shT, fi, fl, fr)) rfl ?_
  refine gp_of (fun _ k9 => g_sld (k := i + 2) rfl (nI_add i 2) (by omega) (by omega) k9) ?_
  refine gp_n 4 (j' := 486) (lv' := [some (.retAddr 41), some (.ref 0), some (.ref 70), some (.int (nI i))]) (st' := [.int ((nI i) + 3), .retAddr 41, .int (f (i + 2)), .int (f (i + 1)), .ref 0]) (h' := (shT, fi, fl, fr)) rfl ?_
  refine gp_of (fun _ k9 => g_sld (k := i + 3) rfl (nI_add i 3) (by omega) (by omega) k9) ?_
  refine gp_of (fun _ k9 => g_call (y := 110) (as := [.ref 0, .int (f (i + 1)), .int (f (i + 2)), .int (f (i + 3))]) (st' := []) rfl rfl (e1) k9) ?_
  refine gp_n 6 (j' := 494) (lv' := [some (.retAddr 41), some (.ref 0), some (.ref 70), some (.int (nI i))]) (st' := [.int ((nI i) + 1), .retAddr 41, .ref 70]) (h' := (shT, fi1, fl1, fr1)) rfl ?_
  refine gp_of (fun _ k9 => g_sld (k := i + 1) rfl (nI_add i 1) (by omega) (by omega) k9) ?_
  refine gp_n 4 (j' := 499) (lv' := [some (.retAddr 41), some (.ref 0), some (.ref 70), some (.int (nI i))]) (st' := [.int ((nI i) + 2), .retAddr 41, .int (f (i + 1)), .ref 70]) (h' := (shT, fi1, fl1, fr1)) rfl ?_
  refine gp_of (fun _ k9 => g_sld (k := i + 2) rfl (nI_add i 2) (by omega) (by omega) k9) ?_
  refine gp_n 4 (j' := 504) (lv' := [some (.retAddr 41), some (.ref 0), some (.ref 70), some (.int (nI i))]) (st' := [.int ((nI i) + 3), .retAddr 41, .int (f (i + 2)), .int (f (i + 1)), .ref 70]) (h' := (shT, fi1, fl1, fr1)) rfl ?_
  refine gp_of (fun _ k9 => g_sld (k := i + 3) rfl (nI_add i 3) (by omega) (by omega) k9) ?_
  refine gp_of (fun _ k9 => g_call (y := 204) (as := [.ref 70, .int (f (i + 1)), .int (f (i + 2)), .int (f (i + 3))]) (st' := []) rfl rfl (e2) k9) ?_
  refine gp_n 2 (j' := 785) (lv' := [some (.retAddr 41), some (.ref 0), some (.ref 70), some (.int (nI i))]) (st' := []) (h' := (shT, fi2, fl2, fr2)) rfl ?_
  exact k2
set_option maxRecDepth 100000 in
theorem law_18 (hL : L ≤ 3072) (hi : i + 6 ≤ L) (hr : REL3 h a) (k : ∀ h' a', REL3 h' a' → GoP pmT (some (L, f)) cd_law 785 [some (.retAddr 41), some (.ref 0), some (.ref 70), some (.int (nI i))] [] h' Q) : GoP pmT (some (L, f)) cd_law 508 [some (.retAddr 41), some (.ref 0), some (.ref 70), some (.int (nI i))] [] h Q := by
  obtain ⟨x, y, h1, h2, a', e1, e2, hr2, I1, hE⟩ := p3_message (f (i + 1)) hr
  have k2 := k h2 a' hr2
  have I0 := hr.1.1.1
  have I2 := hr2.1.1.1
  clear hr hr2 k
  obtain ⟨S1, fi1, fl1, fr1⟩ := h1
  have s1 : S1 = shT := I1.1
  subst s1
  obtain ⟨S2, fi2, fl2, fr2⟩ := h2
  have s2 : S2 = shT := I2.1
  subst s2
  obtain ⟨S, fi, fl, fr⟩ := h
  have hS : S = shT := I0.1
  subst hS
  refine gp_n 5 (j' := 513) (lv' := [some (.retAddr 41), some (.ref 0), some (.ref 70), some (.int (nI i))]) (st' := [.int ((nI i) + 1), .retAddr 41, .ref 0]) (h' := (shT, fi, fl, fr)) rfl ?_
  refine gp_of (fun _ k9 => g_sld (k := i + 1) rfl (nI_add i 1) (by omega) (by omega) k9) ?_
  refine gp_of (fun _ k9 => g_call (y := 111) (as := [.ref 0, .int (f (i + 1))]) (st' := []) rfl rfl (e1) k9) ?_
  refine gp_n 6 (j' := 521) (lv' := [some (.retAddr 41), some (.ref 0), some (.ref 70), some (.int (nI i))]) (st' := [.int ((nI i) + 1), .retAddr 41, .ref 70]) (h' := (shT, fi1, fl1, fr1)) rfl ?_
  refine gp_of (fun _ k9 => g_sld (k := i + 1) rfl (nI_add i 1) (by omega) (by omega) k9) ?_
  refine gp_of (fun _ k9 => g_call (y := 205) (as := [.ref 70, .int (f (i + 1))]) (st' := []) rfl rfl (e2) k9) ?_
  refine gp_n 2 (j' := 785) (lv' := [some (.retAddr 41), some (.ref 0), some (.ref 70), some (.int (nI i))]) (st' := []) (h' := (shT, fi2, fl2, fr2)) rfl ?_
  exact k2
set_option maxRecDepth 100000 in
theorem law_19 (hL : L ≤ 3072) (hi : i + 6 ≤ L) (hr : REL3 h a) (k : ∀ h' a', REL3 h' a' → GoP pmT (some (L, f)) cd_law 785 [some (.retAddr 41), some (.ref 0), some (.ref 70), some (.int (nI i))] [] h' Q) : GoP pmT (some (L, f)) cd_law 525 [some (.retAddr 41), some (.ref 0), some (.ref 70), some (.int (nI i))] [] h Q := by
  by_cases cz : f (i + 2) = 0
  · obtain ⟨x, y, h1, h2, a', e1, e2, hr2, I1, hE⟩ := p3_work (f (i + 1)) 0 (f (i + 3)) (Or.inl rfl) hr
    have k2 := k h2 a' hr2
    have I0 := hr.1.1.1
    have I2 := hr2.1.1.1
    clear hr hr2 k
    obtain ⟨S1, fi1, fl1, fr1⟩ := h1
    have s1 : S1 = shT := I1.1
    subst s1
    obtain ⟨S2, fi2, fl2, fr2⟩ := h2
    have s2 : S2 = shT := I2.1
    subst s2
    obtain ⟨S, fi, fl, fr⟩ := h
    have hS : S = shT := I0.1
    subst hS
    refine gp_n 5 (j' := 530) (lv' := [some (.retAddr 41), some (.ref 0), some (.ref 70), some (.int (nI i))]) (st' := [.int ((nI i) + 1), .retAddr 41, .ref 0]) (h' := (shT, fi, fl, fr)) rfl ?_
    refine gp_of (fun _ k9 => g_sld (k := i + 1) rfl (nI_add i 1) (by omega) (by omega) k9) ?_
    refine gp_n 4 (j' := 535) (lv' := [some (.retAddr 41), some (.ref 0), some (.ref 70), some (.int (nI i))]) (st' := [.int ((nI i) + 2), .retAddr 41, .int (f (i + 1)), .ref 0]) (h' := (shT, fi, fl, fr)) rfl ?_
    refine gp_of (fun _ k9 => g_sld (k := i + 2) rfl (nI_add i 2) (by omega) (by omega) k9) ?_
    refine gp_of (fun _ k9 => g_ift rfl (show (f (i + 2)) = (0 : Int32) from cz) k9) ?_
    refine gp_n 5 (j' := 544) (lv' := [some (.retAddr 41), some (.ref 0), some (.ref 70), some (.int (nI i))]) (st' := [.int ((nI i) + 3), .retAddr 41, .int 0, .int (f (i + 1)), .ref 0]) (h' := (shT, fi, fl, fr)) rfl ?_
    refine gp_of (fun _ k9 => g_sld (k := i + 3) rfl (nI_add i 3) (by omega) (by omega) k9) ?_
    refine gp_of (fun _ k9 => g_call (y := 112) (as := [.ref 0, .int (f (i + 1)), .int 0, .int (f (i + 3))]) (st' := []) rfl rfl (e1) k9) ?_
    refine gp_n 6 (j' := 552) (lv' := [some (.retAddr 41), some (.ref 0), some (.ref 70), some (.int (nI i))]) (st' := [.int ((nI i) + 1), .retAddr 41, .ref 70]) (h' := (shT, fi1, fl1, fr1)) rfl ?_
    refine gp_of (fun _ k9 => g_sld (k := i + 1) rfl (nI_add i 1) (by omega) (by omega) k9) ?_
    refine gp_n 4 (j' := 557) (lv' := [some (.retAddr 41), some (.ref 0), some (.ref 70), some (.int (nI i))]) (st' := [.int ((nI i) + 2), .retAddr 41, .int (f (i + 1)), .ref 70]) (h' := (shT, fi1, fl1, fr1)) rfl ?_
    refine gp_of (fun _ k9 => g_sld (k := i + 2) rfl (nI_add i 2) (by omega) (by omega) k9) ?_
    refine gp_of (fun _ k9 => g_ift rfl (show (f (i + 2)) = (0 : Int32) from cz) k9) ?_
    refine gp_n 5 (j' := 566) (lv' := [some (.retAddr 41), some (.ref 0), some (.ref 70), some (.int (nI i))]) (st' := [.int ((nI i) + 3), .retAddr 41, .int 0, .int (f (i + 1)), .ref 70]) (h' := (shT, fi1, fl1, fr1)) rfl ?_
    refine gp_of (fun _ k9 => g_sld (k := i + 3) rfl (nI_add i 3) (by omega) (by omega) k9) ?_
    refine gp_of (fun _ k9 => g_call (y := 206) (as := [.ref 70, .int (f (i + 1)), .int 0, .int (f (i + 3))]) (st' := []) rfl rfl (e2) k9) ?_
    refine gp_n 2 (j' := 785) (lv' := [some (.retAddr 41), some (.ref 0), some (.ref 70), some (.int (nI i))]) (st' := []) (h' := (shT, fi2, fl2, fr2)) rfl ?_
    exact k2
  · obtain ⟨x, y, h1, h2, a', e1, e2, hr2, I1, hE⟩ := p3_work (f (i + 1)) 1 (f (i + 3)) (Or.inr rfl) hr
    have k2 := k h2 a' hr2
    have I0 := hr.1.1.1
    have I2 := hr2.1.1.1
    clear hr hr2 k
    obtain ⟨S1, fi1, fl1, fr1⟩ := h1
    have s1 : S1 = shT := I1.1
    subst s1
    obtain ⟨S2, fi2, fl2, fr2⟩ := h2
    have s2 : S2 = shT := I2.1
    subst s2
    obtain ⟨S, fi, fl, fr⟩ := h
    have hS : S = shT := I0.1
    subst hS
    refine gp_n 5 (j' := 530) (lv' := [some (.retAddr 41), some (.ref 0), some (.ref 70), some (.int (nI i))]) (st' := [.int ((nI i) + 1), .retAddr 41, .ref 0]) (h' := (shT, fi, fl, fr)) rfl ?_
    refine gp_of (fun _ k9 => g_sld (k := i + 1) rfl (nI_add i 1) (by omega) (by omega) k9) ?_
    refine gp_n 4 (j' := 535) (lv' := [some (.retAddr 41), some (.ref 0), some (.ref 70), some (.int (nI i))]) (st' := [.int ((nI i) + 2), .retAddr 41, .int (f (i + 1)), .ref 0]) (h' := (shT, fi, fl, fr)) rfl ?_
    refine gp_of (fun _ k9 => g_sld (k := i + 2) rfl (nI_add i 2) (by omega) (by omega) k9) ?_
    refine gp_of (fun _ k9 => g_iff rfl (show ¬ ((f (i + 2)) = (0 : Int32)) from cz) k9) ?_
    refine gp_n 6 (j' := 544) (lv' := [some (.retAddr 41), some (.ref 0), some (.ref 70), some (.int (nI i))]) (st' := [.int ((nI i) + 3), .retAddr 41, .int 1, .int (f (i + 1)), .ref 0]) (h' := (shT, fi, fl, fr)) rfl ?_
    refine gp_of (fun _ k9 => g_sld (k := i + 3) rfl (nI_add i 3) (by omega) (by omega) k9) ?_
    refine gp_of (fun _ k9 => g_call (y := 112) (as := [.ref 0, .int (f (i + 1)), .int 1, .int (f (i + 3))]) (st' := []) rfl rfl (e1) k9) ?_
    refine gp_n 6 (j' := 552) (lv' := [some (.retAddr 41), some (.ref 0), some (.ref 70), some (.int (nI i))]) (st' := [.int ((nI i) + 1), .retAddr 41, .ref 70]) (h' := (shT, fi1, fl1, fr1)) rfl ?_
    refine gp_of (fun _ k9 => g_sld (k := i + 1) rfl (nI_add i 1) (by omega) (by omega) k9) ?_
    refine gp_n 4 (j' := 557) (lv' := [some (.retAddr 41), some (.ref 0), some (.ref 70), some (.int (nI i))]) (st' := [.int ((nI i) + 2), .retAddr 41, .int (f (i + 1)), .ref 70]) (h' := (shT, fi1, fl1, fr1)) rfl ?_
    refine gp_of (fun _ k9 => g_sld (k := i + 2) rfl (nI_add i 2) (by omega) (by omega) k9) ?_
    refine gp_of (fun _ k9 => g_iff rfl (show ¬ ((f (i + 2)) = (0 : Int32)) from cz) k9) ?_
    refine gp_n 6 (j' := 566) (lv' := [some (.retAddr 41), some (.ref 0), some (.ref 70), some (.int (nI i))]) (st' := [.int ((nI i) + 3), .retAddr 41, .int 1, .int (f (i + 1)), .ref 70]) (h' := (shT, fi1, fl1, fr1)) rfl ?_
    refine gp_of (fun _ k9 => g_sld (k := i + 3) rfl (nI_add i 3) (by omega) (by omega) k9) ?_
    refine gp_of (fun _ k9 => g_call (y := 206) (as := [.ref 70, .int (f (i + 1)), .int 1, .int (f (i + 3))]) (st' := []) rfl rfl (e2) k9) ?_
    refine gp_n 2 (j' := 785) (lv' := [some (.retAddr 41), some (.ref 0), some (.ref 70), some (.int (nI i))]) (st' := []) (h' := (shT, fi2, fl2, fr2)) rfl ?_
    exact k2
set_option maxRecDepth 100000 in
theorem law_20 (hL : L ≤ 3072) (hi : i + 6 ≤ L) (hr : REL3 h a) (k : ∀ h' a', REL3 h' a' → GoP pmT (some (L, f)) cd_law 785 [some (.retAddr 41), some (.ref 0), some (.ref 70), some (.int (nI i))] [] h' Q) : GoP pmT (some (L, f)) cd_law 570 [some (.retAddr 41), some (.ref 0), some (.ref 70), some (.int (nI i))] [] h Q := by
  obtain ⟨x, y, h1, h2, a', e1, e2, hr2, I1, hE⟩ := p3_grown (f (i + 1)) hr
  have k2 := k h2 a' hr2
  have I0 := hr.1.1.1
  have I2 := hr2.1.1.1
  clear hr hr2 k
  obtain ⟨S1, fi1, fl1, fr1⟩ := h1
  have s1 : S1 = shT := I1.1
  subst s1
  obtain ⟨S2, fi2, fl2, fr2⟩ := h2
  have s2 : S2 = shT := I2.1
  subst s2
  obtain ⟨S, fi, fl, fr⟩ := h
  have hS : S = shT := I0.1
  subst hS
  refine gp_n 5 (j' := 575) (lv' := [some (.retAddr 41), some (.ref 0), some (.ref 70), some (.int (nI i))]) (st' := [.int ((nI i) + 1), .retAddr 41, .ref 0]) (h' := (shT, fi, fl, fr)) rfl ?_
  refine gp_of (fun _ k9 => g_sld (k := i + 1) rfl (nI_add i 1) (by omega) (by omega) k9) ?_
  refine gp_of (fun _ k9 => g_call (y := 113) (as := [.ref 0, .int (f (i + 1))]) (st' := []) rfl rfl (e1) k9) ?_
  refine gp_n 6 (j' := 583) (lv' := [some (.retAddr 41), some (.ref 0), some (.ref 70), some (.int (nI i))]) (st' := [.int ((nI i) + 1), .retAddr 41, .ref 70]) (h' := (shT, fi1, fl1, fr1)) rfl ?_
  refine gp_of (fun _ k9 => g_sld (k := i + 1) rfl (nI_add i 1) (by omega) (by omega) k9) ?_
  refine gp_of (fun _ k9 => g_call (y := 213) (as := [.ref 70, .int (f (i + 1))]) (st' := []) rfl rfl (e2) k9) ?_
  refine gp_n 2 (j' := 785) (lv' := [some (.retAddr 41), some (.ref 0), some (.ref 70), some (.int (nI i))]) (st' := []) (h' := (shT, fi2, fl2, fr2)) rfl ?_
  exact k2
set_option maxRecDepth 100000 in
theorem law_21 (hL : L ≤ 3072) (hi : i + 6 ≤ L) (hr : REL3 h a) (k : ∀ h' a', REL3 h' a' → GoP pmT (some (L, f)) cd_law 785 [some (.retAddr 41), some (.ref 0), some (.ref 70), some (.int (nI i))] [] h' Q) : GoP pmT (some (L, f)) cd_law 587 [some (.retAddr 41), some (.ref 0), some (.ref 70), some (.int (nI i))] [] h Q := by
  obtain ⟨x, y, h1, h2, a', e1, e2, hr2, I1, hE⟩ := p3_flipped (f (i + 1)) hr
  have k2 := k h2 a' hr2
  have I0 := hr.1.1.1
  have I2 := hr2.1.1.1
  clear hr hr2 k
  obtain ⟨S1, fi1, fl1, fr1⟩ := h1
  have s1 : S1 = shT := I1.1
  subst s1
  obtain ⟨S2, fi2, fl2, fr2⟩ := h2
  have s2 : S2 = shT := I2.1
  subst s2
  obtain ⟨S, fi, fl, fr⟩ := h
  have hS : S = shT := I0.1
  subst hS
  refine gp_n 5 (j' := 592) (lv' := [some (.retAddr 41), some (.ref 0), some (.ref 70), some (.int (nI i))]) (st' := [.int ((nI i) + 1), .retAddr 41, .ref 0]) (h' := (shT, fi, fl, fr)) rfl ?_
  refine gp_of (fun _ k9 => g_sld (k := i + 1) rfl (nI_add i 1) (by omega) (by omega) k9) ?_
  refine gp_of (fun _ k9 => g_call (y := 114) (as := [.ref 0, .int (f (i + 1))]) (st' := []) rfl rfl (e1) k9) ?_
  refine gp_n 6 (j' := 600) (lv' := [some (.retAddr 41), some (.ref 0), some (.ref 70), some (.int (nI i))]) (st' := [.int ((nI i) + 1), .retAddr 41, .ref 70]) (h' := (shT, fi1, fl1, fr1)) rfl ?_
  refine gp_of (fun _ k9 => g_sld (k := i + 1) rfl (nI_add i 1) (by omega) (by omega) k9) ?_
  refine gp_of (fun _ k9 => g_call (y := 214) (as := [.ref 70, .int (f (i + 1))]) (st' := []) rfl rfl (e2) k9) ?_
  refine gp_n 2 (j' := 785) (lv' := [some (.retAddr 41), some (.ref 0), some (.ref 70), some (.int (nI i))]) (st' := []) (h' := (shT, fi2, fl2, fr2)) rfl ?_
  exact k2
set_option maxRecDepth 100000 in
theorem law_22 (hL : L ≤ 3072) (hi : i + 6 ≤ L) (hr : REL3 h a) (k : ∀ h' a', REL3 h' a' → GoP pmT (some (L, f)) cd_law 785 [some (.retAddr 41), some (.ref 0), some (.ref 70), some (.int (nI i))] [] h' Q) : GoP pmT (some (L, f)) cd_law 604 [some (.retAddr 41), some (.ref 0), some (.ref 70), some (.int (nI i))] [] h Q := by
  obtain ⟨x, y, h1, h2, a', e1, e2, hr2, I1, hE⟩ := p3_sought (f (i + 1)) hr
  have k2 := k h2 a' hr2
  have I0 := hr.1.1.1
  have I2 := hr2.1.1.1
  clear hr hr2 k
  obtain ⟨S1, fi1, fl1, fr1⟩ := h1
  have s1 : S1 = shT := I1.1
  subst s1
  obtain ⟨S2, fi2, fl2, fr2⟩ := h2
  have s2 : S2 = shT := I2.1
  subst s2
  obtain ⟨S, fi, fl, fr⟩ := h
  have hS : S = shT := I0.1
  subst hS
  refine gp_n 5 (j' := 609) (lv' := [some (.retAddr 41), some (.ref 0), some (.ref 70), some (.int (nI i))]) (st' := [.int ((nI i) + 1), .retAddr 41, .ref 0]) (h' := (shT, fi, fl, fr)) rfl ?_
  refine gp_of (fun _ k9 => g_sld (k := i + 1) rfl (nI_add i 1) (by omega) (by omega) k9) ?_
  refine gp_of (fun _ k9 => g_call (y := 117) (as := [.ref 0, .int (f (i + 1))]) (st' := []) rfl rfl (e1) k9) ?_
  refine gp_n 6 (j' := 617) (lv' := [some (.retAddr 41), some (.ref 0), some (.ref 70), some (.int (nI i))]) (st' := [.int ((nI i) + 1), .retAddr 41, .ref 70]) (h' := (shT, fi1, fl1, fr1)) rfl ?_
  refine gp_of (fun _ k9 => g_sld (k := i + 1) rfl (nI_add i 1) (by omega) (by omega) k9) ?_
  refine gp_of (fun _ k9 => g_call (y := 217) (as := [.ref 70, .int (f (i + 1))]) (st' := []) rfl rfl (e2) k9) ?_
  refine gp_n 2 (j' := 785) (lv' := [some (.retAddr 41), some (.ref 0), some (.ref 70), some (.int (nI i))]) (st' := []) (h' := (shT, fi2, fl2, fr2)) rfl ?_
  exact k2
set_option maxRecDepth 100000 in
theorem law_23 (hL : L ≤ 3072) (hi : i + 6 ≤ L) (hr : REL3 h a) (k : ∀ h' a', REL3 h' a' → GoP pmT (some (L, f)) cd_law 785 [some (.retAddr 41), some (.ref 0), some (.ref 70), some (.int (nI i))] [] h' Q) : GoP pmT (some (L, f)) cd_law 621 [some (.retAddr 41), some (.ref 0), some (.ref 70), some (.int (nI i))] [] h Q := by
  obtain ⟨x, y, h1, h2, a', e1, e2, hr2, I1, hE⟩ := p4_soughtMessage hr
  have k2 := k h2 a' hr2
  have I0 := hr.1.1.1
  have I2 := hr2.1.1.1
  clear hr hr2 k
  obtain ⟨S1, fi1, fl1, fr1⟩ := h1
  have s1 : S1 = shT := I1.1
  subst s1
  obtain ⟨S2, fi2, fl2, fr2⟩ := h2
  have s2 : S2 = shT := I2.1
  subst s2
  obtain ⟨S, fi, fl, fr⟩ := h
  have hS : S = shT := I0.1
  subst hS
  refine gp_n 1 (j' := 622) (lv' := [some (.retAddr 41), some (.ref 0), some (.ref 70), some (.int (nI i))]) (st' := [.ref 0]) (h' := (shT, fi, fl, fr)) rfl ?_
  refine gp_of (fun _ k9 => g_call (y := 127) (as := [.ref 0]) (st' := []) rfl rfl (e1) k9) ?_
  refine gp_n 1 (j' := 624) (lv' := [some (.retAddr 41), some (.ref 0), some (.ref 70), some (.int (nI i))]) (st' := [.ref 70, .long x]) (h' := (shT, fi1, fl1, fr1)) rfl ?_
  refine gp_of (fun _ k9 => g_call (y := 223) (as := [.ref 70]) (st' := [.long x]) rfl rfl (e2) k9) ?_
  refine gp_n 1 (j' := 626) (lv' := [some (.retAddr 41), some (.ref 0), some (.ref 70), some (.int (nI i))]) (st' := [.int (lg_cmp x y)]) (h' := (shT, fi2, fl2, fr2)) rfl ?_
  refine gp_of (fun _ k9 => g_ift rfl (show (lg_cmp x y) = (0 : Int32) from (by rw [lg_cmp_eq]; exact hE)) k9) ?_
  exact k2
set_option maxRecDepth 100000 in
theorem law_24 (hL : L ≤ 3072) (hi : i + 6 ≤ L) (hr : REL3 h a) (k : ∀ h' a', REL3 h' a' → GoP pmT (some (L, f)) cd_law 785 [some (.retAddr 41), some (.ref 0), some (.ref 70), some (.int (nI i))] [] h' Q) : GoP pmT (some (L, f)) cd_law 629 [some (.retAddr 41), some (.ref 0), some (.ref 70), some (.int (nI i))] [] h Q := by
  obtain ⟨x, y, h1, h2, a', e1, e2, hr2, I1, hE⟩ := p3_nearest (f (i + 1)) hr
  have k2 := k h2 a' hr2
  have I0 := hr.1.1.1
  have I2 := hr2.1.1.1
  clear hr hr2 k
  obtain ⟨S1, fi1, fl1, fr1⟩ := h1
  have s1 : S1 = shT := I1.1
  subst s1
  obtain ⟨S2, fi2, fl2, fr2⟩ := h2
  have s2 : S2 = shT := I2.1
  subst s2
  obtain ⟨S, fi, fl, fr⟩ := h
  have hS : S = shT := I0.1
  subst hS
  refine gp_n 5 (j' := 634) (lv' := [some (.retAddr 41), some (.ref 0), some (.ref 70), some (.int (nI i))]) (st' := [.int ((nI i) + 1), .retAddr 41, .ref 0]) (h' := (shT, fi, fl, fr)) rfl ?_
  refine gp_of (fun _ k9 => g_sld (k := i + 1) rfl (nI_add i 1) (by omega) (by omega) k9) ?_
  refine gp_of (fun _ k9 => g_call (y := 128) (as := [.ref 0, .int (f (i + 1))]) (st' := []) rfl rfl (e1) k9) ?_
  refine gp_n 6 (j' := 642) (lv' := [some (.retAddr 41), some (.ref 0), some (.ref 70), some (.int (nI i))]) (st' := [.int ((nI i) + 1), .retAddr 41, .ref 70]) (h' := (shT, fi1, fl1, fr1)) rfl ?_
  refine gp_of (fun _ k9 => g_sld (k := i + 1) rfl (nI_add i 1) (by omega) (by omega) k9) ?_
  refine gp_of (fun _ k9 => g_call (y := 224) (as := [.ref 70, .int (f (i + 1))]) (st' := []) rfl rfl (e2) k9) ?_
  refine gp_n 2 (j' := 785) (lv' := [some (.retAddr 41), some (.ref 0), some (.ref 70), some (.int (nI i))]) (st' := []) (h' := (shT, fi2, fl2, fr2)) rfl ?_
  exact k2
set_option maxRecDepth 100000 in
theorem law_25 (hL : L ≤ 3072) (hi : i + 6 ≤ L) (hr : REL3 h a) (k : ∀ h' a', REL3 h' a' → GoP pmT (some (L, f)) cd_law 785 [some (.retAddr 41), some (.ref 0), some (.ref 70), some (.int (nI i))] [] h' Q) : GoP pmT (some (L, f)) cd_law 646 [some (.retAddr 41), some (.ref 0), some (.ref 70), some (.int (nI i))] [] h Q := by
  obtain ⟨x, y, h1, h2, a', e1, e2, hr2, I1, hE⟩ := p3_weights (f (i + 1)) hr
  have k2 := k h2 a' hr2
  have I0 := hr.1.1.1
  have I2 := hr2.1.1.1
  clear hr hr2 k
  obtain ⟨S1, fi1, fl1, fr1⟩ := h1
  have s1 : S1 = shT := I1.1
  subst s1
  obtain ⟨S2, fi2, fl2, fr2⟩ := h2
  have s2 : S2 = shT := I2.1
  subst s2
  obtain ⟨S, fi, fl, fr⟩ := h
  have hS : S = shT := I0.1
  subst hS
  refine gp_n 5 (j' := 651) (lv' := [some (.retAddr 41), some (.ref 0), some (.ref 70), some (.int (nI i))]) (st' := [.int ((nI i) + 1), .retAddr 41, .ref 0]) (h' := (shT, fi, fl, fr)) rfl ?_
  refine gp_of (fun _ k9 => g_sld (k := i + 1) rfl (nI_add i 1) (by omega) (by omega) k9) ?_
  refine gp_of (fun _ k9 => g_call (y := 135) (as := [.ref 0, .int (f (i + 1))]) (st' := []) rfl rfl (e1) k9) ?_
  refine gp_n 6 (j' := 659) (lv' := [some (.retAddr 41), some (.ref 0), some (.ref 70), some (.int (nI i))]) (st' := [.int ((nI i) + 1), .retAddr 41, .ref 70]) (h' := (shT, fi1, fl1, fr1)) rfl ?_
  refine gp_of (fun _ k9 => g_sld (k := i + 1) rfl (nI_add i 1) (by omega) (by omega) k9) ?_
  refine gp_of (fun _ k9 => g_call (y := 225) (as := [.ref 70, .int (f (i + 1))]) (st' := []) rfl rfl (e2) k9) ?_
  refine gp_n 2 (j' := 785) (lv' := [some (.retAddr 41), some (.ref 0), some (.ref 70), some (.int (nI i))]) (st' := []) (h' := (shT, fi2, fl2, fr2)) rfl ?_
  exact k2
set_option maxRecDepth 100000 in
theorem law_26 (hL : L ≤ 3072) (hi : i + 6 ≤ L) (hr : REL3 h a) (k : ∀ h' a', REL3 h' a' → GoP pmT (some (L, f)) cd_law 785 [some (.retAddr 41), some (.ref 0), some (.ref 70), some (.int (nI i))] [] h' Q) : GoP pmT (some (L, f)) cd_law 663 [some (.retAddr 41), some (.ref 0), some (.ref 70), some (.int (nI i))] [] h Q := by
  obtain ⟨x, y, h1, h2, a', e1, e2, hr2, I1, hE⟩ := p3_draws (f (i + 1)) hr
  have k2 := k h2 a' hr2
  have I0 := hr.1.1.1
  have I2 := hr2.1.1.1
  clear hr hr2 k
  obtain ⟨S1, fi1, fl1, fr1⟩ := h1
  have s1 : S1 = shT := I1.1
  subst s1
  obtain ⟨S2, fi2, fl2, fr2⟩ := h2
  have s2 : S2 = shT := I2.1
  subst s2
  obtain ⟨S, fi, fl, fr⟩ := h
  have hS : S = shT := I0.1
  subst hS
  refine gp_n 5 (j' := 668) (lv' := [some (.retAddr 41), some (.ref 0), some (.ref 70), some (.int (nI i))]) (st' := [.int ((nI i) + 1), .retAddr 41, .ref 0]) (h' := (shT, fi, fl, fr)) rfl ?_
  refine gp_of (fun _ k9 => g_sld (k := i + 1) rfl (nI_add i 1) (by omega) (by omega) k9) ?_
  refine gp_of (fun _ k9 => g_call (y := 137) (as := [.ref 0, .int (f (i + 1))]) (st' := []) rfl rfl (e1) k9) ?_
  refine gp_n 6 (j' := 676) (lv' := [some (.retAddr 41), some (.ref 0), some (.ref 70), some (.int (nI i))]) (st' := [.int ((nI i) + 1), .retAddr 41, .ref 70]) (h' := (shT, fi1, fl1, fr1)) rfl ?_
  refine gp_of (fun _ k9 => g_sld (k := i + 1) rfl (nI_add i 1) (by omega) (by omega) k9) ?_
  refine gp_of (fun _ k9 => g_call (y := 226) (as := [.ref 70, .int (f (i + 1))]) (st' := []) rfl rfl (e2) k9) ?_
  refine gp_n 2 (j' := 785) (lv' := [some (.retAddr 41), some (.ref 0), some (.ref 70), some (.int (nI i))]) (st' := []) (h' := (shT, fi2, fl2, fr2)) rfl ?_
  exact k2
set_option maxRecDepth 100000 in
theorem law_27 (hL : L ≤ 3072) (hi : i + 6 ≤ L) (hr : REL3 h a) (k : ∀ h' a', REL3 h' a' → GoP pmT (some (L, f)) cd_law 785 [some (.retAddr 41), some (.ref 0), some (.ref 70), some (.int (nI i))] [] h' Q) : GoP pmT (some (L, f)) cd_law 680 [some (.retAddr 41), some (.ref 0), some (.ref 70), some (.int (nI i))] [] h Q := by
  obtain ⟨x, y, h1, h2, a', e1, e2, hr2, I1, hE⟩ := p3_frames (f (i + 1)) (f (i + 2)) (f (i + 3)) (f (i + 4)) hr
  have k2 := k h2 a' hr2
  have I0 := hr.1.1.1
  have I2 := hr2.1.1.1
  clear hr hr2 k
  obtain ⟨S1, fi1, fl1, fr1⟩ := h1
  have s1 : S1 = shT := I1.1
  subst s1
  obtain ⟨S2, fi2, fl2, fr2⟩ := h2
  have s2 : S2 = shT := I2.1
  subst s2
  obtain ⟨S, fi, fl, fr⟩ := h
  have hS : S = shT := I0.1
  subst hS
  refine gp_n 5 (j' := 685) (lv' := [some (.retAddr 41), some (.ref 0), some (.ref 70), some (.int (nI i))]) (st' := [.int ((nI i) + 1), .retAddr 41, .ref 0]) (h' := (shT, fi, fl, fr)) rfl ?_
  refine gp_of (fun _ k9 => g_sld (k := i + 1) rfl (nI_add i 1) (by omega) (by omega) k9) ?_
  refine gp_n 4 (j' := 690) (lv' := [some (.retAddr 41), some (.ref 0), some (.ref 70), some (.int (nI i))]) (st' := [.int ((nI i) + 2), .retAddr 41, .int (f (i + 1)), .ref 0]) (h' := (shT, fi, fl, fr)) rfl ?_
  refine gp_of (fun _ k9 => g_sld (k := i + 2) rfl (nI_add i 2) (by omega) (by omega) k9) ?_
  refine gp_n 4 (j' := 695) (lv' := [some (.retAddr 41), some (.ref 0), some (.ref 70), some (.int (nI i))]) (st' := [.int ((nI i) + 3), .retAddr 41, .int (f (i + 2)), .int (f (i + 1)), .ref 0]) (h' := (shT, fi, fl, fr)) rfl ?_
  refine gp_of (fun _ k9 => g_sld (k := i + 3) rfl (nI_add i 3) (by omega) (by omega) k9) ?_
  refine gp_n 4 (j' := 700) (lv' := [some (.retAddr 41), some (.ref 0), some (.ref 70), some (.int (nI i))]) (st' := [.int ((nI i) + 4), .retAddr 41, .int (f (i + 3)), .int (f (i + 2)), .int (f (i + 1)), .ref 0]) (h' := (shT, fi, fl, fr)) rfl ?_
  refine gp_of (fun _ k9 => g_sld (k := i + 4) rfl (nI_add i 4) (by omega) (by omega) k9) ?_
  refine gp_of (fun _ k9 => g_call (y := 138) (as := [.ref 0, .int (f (i + 1)), .int (f (i + 2)), .int (f (i + 3)), .int (f (i + 4))]) (st' := []) rfl rfl (e1) k9) ?_
  refine gp_n 6 (j' := 708) (lv' := [some (.retAddr 41), some (.ref 0), some (.ref 70), some (.int (nI i))]) (st' := [.int ((nI i) + 1), .retAddr 41, .ref 70]) (h' := (shT, fi1, fl1, fr1)) rfl ?_
  refine gp_of (fun _ k9 => g_sld (k := i + 1) rfl (nI_add i 1) (by omega) (by omega) k9) ?_
  refine gp_n 4 (j' := 713) (lv' := [some (.retAddr 41), some (.ref 0), some (.ref 70), some (.int (nI i))]) (st' := [.int ((nI i) + 2), .retAddr 41, .int (f (i + 1)), .ref 70]) (h' := (shT, fi1, fl1, fr1)) rfl ?_
  refine gp_of (fun _ k9 => g_sld (k := i + 2) rfl (nI_add i 2) (by omega) (by omega) k9) ?_
  refine gp_n 4 (j' := 718) (lv' := [some (.retAddr 41), some (.ref 0), some (.ref 70), some (.int (nI i))]) (st' := [.int ((nI i) + 3), .retAddr 41, .int (f (i + 2)), .int (f (i + 1)), .ref 70]) (h' := (shT, fi1, fl1, fr1)) rfl ?_
  refine gp_of (fun _ k9 => g_sld (k := i + 3) rfl (nI_add i 3) (by omega) (by omega) k9) ?_
  refine gp_n 4 (j' := 723) (lv' := [some (.retAddr 41), some (.ref 0), some (.ref 70), some (.int (nI i))]) (st' := [.int ((nI i) + 4), .retAddr 41, .int (f (i + 3)), .int (f (i + 2)), .int (f (i + 1)), .ref 70]) (h' := (shT, fi1, fl1, fr1)) rfl ?_
  refine gp_of (fun _ k9 => g_sld (k := i + 4) rfl (nI_add i 4) (by omega) (by omega) k9) ?_
  refine gp_of (fun _ k9 => g_call (y := 227) (as := [.ref 70, .int (f (i + 1)), .int (f (i + 2)), .int (f (i + 3)), .int (f (i + 4))]) (st' := []) rfl rfl (e2) k9) ?_
  refine gp_n 2 (j' := 785) (lv' := [some (.retAddr 41), some (.ref 0), some (.ref 70), some (.int (nI i))]) (st' := []) (h' := (shT, fi2, fl2, fr2)) rfl ?_
  exact k2
set_option maxRecDepth 100000 in
theorem law_28 (hL : L ≤ 3072) (hi : i + 6 ≤ L) (hr : REL3 h a) (k : ∀ h' a', REL3 h' a' → GoP pmT (some (L, f)) cd_law 785 [some (.retAddr 41), some (.ref 0), some (.ref 70), some (.int (nI i))] [] h' Q) : GoP pmT (some (L, f)) cd_law 727 [some (.retAddr 41), some (.ref 0), some (.ref 70), some (.int (nI i))] [] h Q := by
  obtain ⟨x, y, h1, h2, a', e1, e2, hr2, I1, hE⟩ := p3_undo hr
  have k2 := k h2 a' hr2
  have I0 := hr.1.1.1
  have I2 := hr2.1.1.1
  clear hr hr2 k
  obtain ⟨S1, fi1, fl1, fr1⟩ := h1
  have s1 : S1 = shT := I1.1
  subst s1
  obtain ⟨S2, fi2, fl2, fr2⟩ := h2
  have s2 : S2 = shT := I2.1
  subst s2
  obtain ⟨S, fi, fl, fr⟩ := h
  have hS : S = shT := I0.1
  subst hS
  refine gp_n 1 (j' := 728) (lv' := [some (.retAddr 41), some (.ref 0), some (.ref 70), some (.int (nI i))]) (st' := [.ref 0]) (h' := (shT, fi, fl, fr)) rfl ?_
  refine gp_of (fun _ k9 => g_call (y := 140) (as := [.ref 0]) (st' := []) rfl rfl (e1) k9) ?_
  refine gp_n 2 (j' := 731) (lv' := [some (.retAddr 41), some (.ref 0), some (.ref 70), some (.int (nI i))]) (st' := [.ref 70]) (h' := (shT, fi1, fl1, fr1)) rfl ?_
  refine gp_of (fun _ k9 => g_call (y := 228) (as := [.ref 70]) (st' := []) rfl rfl (e2) k9) ?_
  refine gp_n 2 (j' := 785) (lv' := [some (.retAddr 41), some (.ref 0), some (.ref 70), some (.int (nI i))]) (st' := []) (h' := (shT, fi2, fl2, fr2)) rfl ?_
  exact k2
set_option maxRecDepth 100000 in
theorem law_29 (hL : L ≤ 3072) (hi : i + 6 ≤ L) (hr : REL3 h a) (k : ∀ h' a', REL3 h' a' → GoP pmT (some (L, f)) cd_law 785 [some (.retAddr 41), some (.ref 0), some (.ref 70), some (.int (nI i))] [] h' Q) : GoP pmT (some (L, f)) cd_law 734 [some (.retAddr 41), some (.ref 0), some (.ref 70), some (.int (nI i))] [] h Q := by
  obtain ⟨x, y, h1, h2, a', e1, e2, hr2, I1, hE⟩ := p3_image (f (i + 1)) hr
  have k2 := k h2 a' hr2
  have I0 := hr.1.1.1
  have I2 := hr2.1.1.1
  clear hr hr2 k
  obtain ⟨S1, fi1, fl1, fr1⟩ := h1
  have s1 : S1 = shT := I1.1
  subst s1
  obtain ⟨S2, fi2, fl2, fr2⟩ := h2
  have s2 : S2 = shT := I2.1
  subst s2
  obtain ⟨S, fi, fl, fr⟩ := h
  have hS : S = shT := I0.1
  subst hS
  refine gp_n 5 (j' := 739) (lv' := [some (.retAddr 41), some (.ref 0), some (.ref 70), some (.int (nI i))]) (st' := [.int ((nI i) + 1), .retAddr 41, .ref 0]) (h' := (shT, fi, fl, fr)) rfl ?_
  refine gp_of (fun _ k9 => g_sld (k := i + 1) rfl (nI_add i 1) (by omega) (by omega) k9) ?_
  refine gp_of (fun _ k9 => g_call (y := 141) (as := [.ref 0, .int (f (i + 1))]) (st' := []) rfl rfl (e1) k9) ?_
  refine gp_n 6 (j' := 747) (lv' := [some (.retAddr 41), some (.ref 0), some (.ref 70), some (.int (nI i))]) (st' := [.int ((nI i) + 1), .retAddr 41, .ref 70]) (h' := (shT, fi1, fl1, fr1)) rfl ?_
  refine gp_of (fun _ k9 => g_sld (k := i + 1) rfl (nI_add i 1) (by omega) (by omega) k9) ?_
  refine gp_of (fun _ k9 => g_call (y := 230) (as := [.ref 70, .int (f (i + 1))]) (st' := []) rfl rfl (e2) k9) ?_
  refine gp_n 2 (j' := 785) (lv' := [some (.retAddr 41), some (.ref 0), some (.ref 70), some (.int (nI i))]) (st' := []) (h' := (shT, fi2, fl2, fr2)) rfl ?_
  exact k2
set_option maxRecDepth 100000 in
theorem law_30 (hL : L ≤ 3072) (hi : i + 6 ≤ L) (hr : REL3 h a) (k : ∀ h' a', REL3 h' a' → GoP pmT (some (L, f)) cd_law 785 [some (.retAddr 41), some (.ref 0), some (.ref 70), some (.int (nI i))] [] h' Q) : GoP pmT (some (L, f)) cd_law 751 [some (.retAddr 41), some (.ref 0), some (.ref 70), some (.int (nI i))] [] h Q := by
  obtain ⟨x, y, h1, h2, a', e1, e2, hr2, I1, hE⟩ := p3_back (f (i + 1)) hr
  have k2 := k h2 a' hr2
  have I0 := hr.1.1.1
  have I2 := hr2.1.1.1
  clear hr hr2 k
  obtain ⟨S1, fi1, fl1, fr1⟩ := h1
  have s1 : S1 = shT := I1.1
  subst s1
  obtain ⟨S2, fi2, fl2, fr2⟩ := h2
  have s2 : S2 = shT := I2.1
  subst s2
  obtain ⟨S, fi, fl, fr⟩ := h
  have hS : S = shT := I0.1
  subst hS
  refine gp_n 5 (j' := 756) (lv' := [some (.retAddr 41), some (.ref 0), some (.ref 70), some (.int (nI i))]) (st' := [.int ((nI i) + 1), .retAddr 41, .ref 0]) (h' := (shT, fi, fl, fr)) rfl ?_
  refine gp_of (fun _ k9 => g_sld (k := i + 1) rfl (nI_add i 1) (by omega) (by omega) k9) ?_
  refine gp_of (fun _ k9 => g_call (y := 142) (as := [.ref 0, .int (f (i + 1))]) (st' := []) rfl rfl (e1) k9) ?_
  refine gp_n 6 (j' := 764) (lv' := [some (.retAddr 41), some (.ref 0), some (.ref 70), some (.int (nI i))]) (st' := [.int ((nI i) + 1), .retAddr 41, .ref 70]) (h' := (shT, fi1, fl1, fr1)) rfl ?_
  refine gp_of (fun _ k9 => g_sld (k := i + 1) rfl (nI_add i 1) (by omega) (by omega) k9) ?_
  refine gp_of (fun _ k9 => g_call (y := 231) (as := [.ref 70, .int (f (i + 1))]) (st' := []) rfl rfl (e2) k9) ?_
  refine gp_n 2 (j' := 785) (lv' := [some (.retAddr 41), some (.ref 0), some (.ref 70), some (.int (nI i))]) (st' := []) (h' := (shT, fi2, fl2, fr2)) rfl ?_
  exact k2
set_option maxRecDepth 100000 in
theorem law_31 (hL : L ≤ 3072) (hi : i + 6 ≤ L) (hr : REL3 h a) (k : ∀ h' a', REL3 h' a' → GoP pmT (some (L, f)) cd_law 785 [some (.retAddr 41), some (.ref 0), some (.ref 70), some (.int (nI i))] [] h' Q) : GoP pmT (some (L, f)) cd_law 768 [some (.retAddr 41), some (.ref 0), some (.ref 70), some (.int (nI i))] [] h Q := by
  obtain ⟨x, y, h1, h2, a', e1, e2, hr2, I1, hE⟩ := p3_count (f (i + 1)) hr
  have k2 := k h2 a' hr2
  have I0 := hr.1.1.1
  have I2 := hr2.1.1.1
  clear hr hr2 k
  obtain ⟨S1, fi1, fl1, fr1⟩ := h1
  have s1 : S1 = shT := I1.1
  subst s1
  obtain ⟨S2, fi2, fl2, fr2⟩ := h2
  have s2 : S2 = shT := I2.1
  subst s2
  obtain ⟨S, fi, fl, fr⟩ := h
  have hS : S = shT := I0.1
  subst hS
  refine gp_n 5 (j' := 773) (lv' := [some (.retAddr 41), some (.ref 0), some (.ref 70), some (.int (nI i))]) (st' := [.int ((nI i) + 1), .retAddr 41, .ref 0]) (h' := (shT, fi, fl, fr)) rfl ?_
  refine gp_of (fun _ k9 => g_sld (k := i + 1) rfl (nI_add i 1) (by omega) (by omega) k9) ?_
  refine gp_of (fun _ k9 => g_call (y := 143) (as := [.ref 0, .int (f (i + 1))]) (st' := []) rfl rfl (e1) k9) ?_
  refine gp_n 6 (j' := 781) (lv' := [some (.retAddr 41), some (.ref 0), some (.ref 70), some (.int (nI i))]) (st' := [.int ((nI i) + 1), .retAddr 41, .ref 70]) (h' := (shT, fi1, fl1, fr1)) rfl ?_
  refine gp_of (fun _ k9 => g_sld (k := i + 1) rfl (nI_add i 1) (by omega) (by omega) k9) ?_
  refine gp_of (fun _ k9 => g_call (y := 232) (as := [.ref 70, .int (f (i + 1))]) (st' := []) rfl rfl (e2) k9) ?_
  refine gp_n 2 (j' := 785) (lv' := [some (.retAddr 41), some (.ref 0), some (.ref 70), some (.int (nI i))]) (st' := []) (h' := (shT, fi2, fl2, fr2)) rfl ?_
  exact k2
set_option maxRecDepth 100000 in
theorem law_sw (hL : L ≤ 3072) (hi : i + 6 ≤ L) (hr : REL3 h a) (k : ∀ h' a', REL3 h' a' → GoP pmT (some (L, f)) cd_law 785 [some (.retAddr 41), some (.ref 0), some (.ref 70), some (.int (nI i))] [] h' Q) : GoP pmT (some (L, f)) cd_law 21 [some (.retAddr 41), some (.ref 0), some (.ref 70), some (.int (nI i))] [.int (f i &&& 31)] h Q := by
  obtain ⟨n, hn, hv⟩ := and31 (f i)
  rw [hv]
  match n, hn with
  | 0, _ => exact gp_n 1 (j' := 22) (lv' := [some (.retAddr 41), some (.ref 0), some (.ref 70), some (.int (nI i))]) (st' := []) (h' := h) rfl (law_0 hL hi hr k)
  | 1, _ => exact gp_n 1 (j' := 79) (lv' := [some (.retAddr 41), some (.ref 0), some (.ref 70), some (.int (nI i))]) (st' := []) (h' := h) rfl (law_1 hL hi hr k)
  | 2, _ => exact gp_n 1 (j' := 96) (lv' := [some (.retAddr 41), some (.ref 0), some (.ref 70), some (.int (nI i))]) (st' := []) (h' := h) rfl (law_2 hL hi hr k)
  | 3, _ => exact gp_n 1 (j' := 103) (lv' := [some (.retAddr 41), some (.ref 0), some (.ref 70), some (.int (nI i))]) (st' := []) (h' := h) rfl (law_3 hL hi hr k)
  | 4, _ => exact gp_n 1 (j' := 120) (lv' := [some (.retAddr 41), some (.ref 0), some (.ref 70), some (.int (nI i))]) (st' := []) (h' := h) rfl (law_4 hL hi hr k)
  | 5, _ => exact gp_n 1 (j' := 137) (lv' := [some (.retAddr 41), some (.ref 0), some (.ref 70), some (.int (nI i))]) (st' := []) (h' := h) rfl (law_5 hL hi hr k)
  | 6, _ => exact gp_n 1 (j' := 178) (lv' := [some (.retAddr 41), some (.ref 0), some (.ref 70), some (.int (nI i))]) (st' := []) (h' := h) rfl (law_6 hL hi hr k)
  | 7, _ => exact gp_n 1 (j' := 219) (lv' := [some (.retAddr 41), some (.ref 0), some (.ref 70), some (.int (nI i))]) (st' := []) (h' := h) rfl (law_7 hL hi hr k)
  | 8, _ => exact gp_n 1 (j' := 260) (lv' := [some (.retAddr 41), some (.ref 0), some (.ref 70), some (.int (nI i))]) (st' := []) (h' := h) rfl (law_8 hL hi hr k)
  | 9, _ => exact gp_n 1 (j' := 277) (lv' := [some (.retAddr 41), some (.ref 0), some (.ref 70), some (.int (nI i))]) (st' := []) (h' := h) rfl (law_9 hL hi hr k)
  | 10, _ => exact gp_n 1 (j' := 284) (lv' := [some (.retAddr 41), some (.ref 0), some (.ref 70), some (.int (nI i))]) (st' := []) (h' := h) rfl (law_10 hL hi hr k)
  | 11, _ => exact gp_n 1 (j' := 311) (lv' := [some (.retAddr 41), some (.ref 0), some (.ref 70), some (.int (nI i))]) (st' := []) (h' := h) rfl (law_11 hL hi hr k)
  | 12, _ => exact gp_n 1 (j' := 372) (lv' := [some (.retAddr 41), some (.ref 0), some (.ref 70), some (.int (nI i))]) (st' := []) (h' := h) rfl (law_12 hL hi hr k)
  | 13, _ => exact gp_n 1 (j' := 389) (lv' := [some (.retAddr 41), some (.ref 0), some (.ref 70), some (.int (nI i))]) (st' := []) (h' := h) rfl (law_13 hL hi hr k)
  | 14, _ => exact gp_n 1 (j' := 430) (lv' := [some (.retAddr 41), some (.ref 0), some (.ref 70), some (.int (nI i))]) (st' := []) (h' := h) rfl (law_14 hL hi hr k)
  | 15, _ => exact gp_n 1 (j' := 447) (lv' := [some (.retAddr 41), some (.ref 0), some (.ref 70), some (.int (nI i))]) (st' := []) (h' := h) rfl (law_15 hL hi hr k)
  | 16, _ => exact gp_n 1 (j' := 454) (lv' := [some (.retAddr 41), some (.ref 0), some (.ref 70), some (.int (nI i))]) (st' := []) (h' := h) rfl (law_16 hL hi hr k)
  | 17, _ => exact gp_n 1 (j' := 471) (lv' := [some (.retAddr 41), some (.ref 0), some (.ref 70), some (.int (nI i))]) (st' := []) (h' := h) rfl (law_17 hL hi hr k)
  | 18, _ => exact gp_n 1 (j' := 508) (lv' := [some (.retAddr 41), some (.ref 0), some (.ref 70), some (.int (nI i))]) (st' := []) (h' := h) rfl (law_18 hL hi hr k)
  | 19, _ => exact gp_n 1 (j' := 525) (lv' := [some (.retAddr 41), some (.ref 0), some (.ref 70), some (.int (nI i))]) (st' := []) (h' := h) rfl (law_19 hL hi hr k)
  | 20, _ => exact gp_n 1 (j' := 570) (lv' := [some (.retAddr 41), some (.ref 0), some (.ref 70), some (.int (nI i))]) (st' := []) (h' := h) rfl (law_20 hL hi hr k)
  | 21, _ => exact gp_n 1 (j' := 587) (lv' := [some (.retAddr 41), some (.ref 0), some (.ref 70), some (.int (nI i))]) (st' := []) (h' := h) rfl (law_21 hL hi hr k)
  | 22, _ => exact gp_n 1 (j' := 604) (lv' := [some (.retAddr 41), some (.ref 0), some (.ref 70), some (.int (nI i))]) (st' := []) (h' := h) rfl (law_22 hL hi hr k)
  | 23, _ => exact gp_n 1 (j' := 621) (lv' := [some (.retAddr 41), some (.ref 0), some (.ref 70), some (.int (nI i))]) (st' := []) (h' := h) rfl (law_23 hL hi hr k)
  | 24, _ => exact gp_n 1 (j' := 629) (lv' := [some (.retAddr 41), some (.ref 0), some (.ref 70), some (.int (nI i))]) (st' := []) (h' := h) rfl (law_24 hL hi hr k)
  | 25, _ => exact gp_n 1 (j' := 646) (lv' := [some (.retAddr 41), some (.ref 0), some (.ref 70), some (.int (nI i))]) (st' := []) (h' := h) rfl (law_25 hL hi hr k)
  | 26, _ => exact gp_n 1 (j' := 663) (lv' := [some (.retAddr 41), some (.ref 0), some (.ref 70), some (.int (nI i))]) (st' := []) (h' := h) rfl (law_26 hL hi hr k)
  | 27, _ => exact gp_n 1 (j' := 680) (lv' := [some (.retAddr 41), some (.ref 0), some (.ref 70), some (.int (nI i))]) (st' := []) (h' := h) rfl (law_27 hL hi hr k)
  | 28, _ => exact gp_n 1 (j' := 727) (lv' := [some (.retAddr 41), some (.ref 0), some (.ref 70), some (.int (nI i))]) (st' := []) (h' := h) rfl (law_28 hL hi hr k)
  | 29, _ => exact gp_n 1 (j' := 734) (lv' := [some (.retAddr 41), some (.ref 0), some (.ref 70), some (.int (nI i))]) (st' := []) (h' := h) rfl (law_29 hL hi hr k)
  | 30, _ => exact gp_n 1 (j' := 751) (lv' := [some (.retAddr 41), some (.ref 0), some (.ref 70), some (.int (nI i))]) (st' := []) (h' := h) rfl (law_30 hL hi hr k)
  | 31, _ => exact gp_n 1 (j' := 768) (lv' := [some (.retAddr 41), some (.ref 0), some (.ref 70), some (.int (nI i))]) (st' := []) (h' := h) rfl (law_31 hL hi hr k)
  | _ + 32, h => exact absurd h (by omega)
set_option maxRecDepth 100000 in
theorem law_loop (hL : L ≤ 3072) : ∀ (n i : Nat) (h : PmH) (a : AB), L ≤ i + 6 * n → i ≤ L + 6 → REL3 h a → GoP pmT (some (L, f)) cd_law 10 [some (.retAddr 41), some (.ref 0), some (.ref 70), some (.int (nI i))] [] h (fun r => r.1 = some (.int 1) ∧ ph_s r.2 = shT) := by
  intro n
  have fin : ∀ (i : Nat) (h : PmH) (a : AB), L < i + 6 → i ≤ L + 6 → REL3 h a → GoP pmT (some (L, f)) cd_law 10 [some (.retAddr 41), some (.ref 0), some (.ref 70), some (.int (nI i))] [] h (fun r => r.1 = some (.int 1) ∧ ph_s r.2 = shT) := by
    intro i h a h1 h2 hr
    refine gp_n 5 (j' := 15) (lv' := [some (.retAddr 41), some (.ref 0), some (.ref 70), some (.int (nI i))]) (st' := [.int (nI L - nI 6), .int (nI i)]) (h' := h) rfl ?_
    refine gp_of (fun _ k9 => g_ict rfl (show nI L - nI 6 < nI i from ?_) k9) ?_
    · rw [Int32.lt_iff_toInt_lt, pk_sub_toInt (by omega) (by decide), nI_toInt (by omega)]
      omega
    refine gp_n 1 (j' := 788) (lv' := [some (.retAddr 41), some (.ref 0), some (.ref 70), some (.int (nI i))]) (st' := [.int 1]) (h' := h) rfl ?_
    refine gp_done (g_retz rfl (by decide)) ?_
    exact ⟨rfl, hr.1.1.1.1⟩
  induction n with
  | zero =>
    intro i h a h1 h2 hr
    exact fin i h a (by omega) h2 hr
  | succ n ih =>
    intro i h a h1 h2 hr
    by_cases hc : i + 6 ≤ L
    · refine gp_n 5 (j' := 15) (lv' := [some (.retAddr 41), some (.ref 0), some (.ref 70), some (.int (nI i))]) (st' := [.int (nI L - nI 6), .int (nI i)]) (h' := h) rfl ?_
      refine gp_of (fun _ k9 => g_icf rfl (show ¬ (nI L - nI 6 < nI i) from ?_) k9) ?_
      · rw [Int32.lt_iff_toInt_lt, pk_sub_toInt (by omega) (by decide), nI_toInt (by omega)]
        omega
      refine gp_n 2 (j' := 18) (lv' := [some (.retAddr 41), some (.ref 0), some (.ref 70), some (.int (nI i))]) (st' := [.int (nI i), .retAddr 41]) (h' := h) rfl ?_
      refine gp_of (fun _ k9 => g_sld (k := i) rfl rfl (by omega) (by omega) k9) ?_
      refine gp_n 2 (j' := 21) (lv' := [some (.retAddr 41), some (.ref 0), some (.ref 70), some (.int (nI i))]) (st' := [.int (f i &&& 31)]) (h' := h) rfl ?_
      refine law_sw hL hc hr (fun h' a' hr' => ?_)
      refine gp_n 2 (j' := 10) (lv' := [some (.retAddr 41), some (.ref 0), some (.ref 70), some (.int (nI i + nI 6))]) (st' := []) (h' := h') rfl ?_
      rw [nI_add]
      exact ih (i + 6) h' a' (by omega) (by omega) hr'
    · exact fin i h a (by omega) h2 hr
end LAW
