theorem and31 (x : Int32) : ∃ k, k < 32 ∧ x &&& 31 = nI k := by
  refine ⟨(x &&& 31).toBitVec.toNat, ?_, ?_⟩
  · have : (x &&& 31).toBitVec = x.toBitVec &&& 31#32 := rfl
    rw [this, BitVec.toNat_and]
    exact Nat.lt_of_le_of_lt Nat.and_le_right (by decide)
  · apply Int32.toBitVec_inj.mp
    show _ = BitVec.ofNat 32 _
    rw [BitVec.ofNat_toNat]
    simp
set_option maxRecDepth 100000 in
theorem law_body (xs : Nat → Int32) : ∃ fi' fl' fr', Go pmT (some (6, xs)) cd_law 21 [some (.retAddr 41), some (.ref 0), some (.ref 70), some (.int 0)] [.int (xs 0 &&& 31)] (SH, ph_i hY1, ph_l hY1, ph_r hY1) (some (.int 1), (SH, fi', fl', fr')) := by
  obtain ⟨k, hk, hv⟩ := and31 (xs 0)
  rw [hv]
  match k, hk with
  | 0, _ =>
    have key : ∃ fi' fl' fr', Go pmT (some (6, xs)) cd_law 22 [some (.retAddr 41), some (.ref 0), some (.ref 70), some (.int 0)] [] (SH, ph_i hY1, ph_l hY1, ph_r hY1) (some (.int 1), (SH, fi', fl', fr')) := law_0 (fi := ph_i hY1) (fl := ph_l hY1) (fr := ph_r hY1) (fI_ok _ (List.mem_of_getElem? (i := 11) rfl)) (fI_ok _ (List.mem_of_getElem? (i := 12) rfl)) (fR_ok _ (List.mem_of_getElem? (i := 3) rfl)) (fR_ok _ (List.mem_of_getElem? (i := 8) rfl)) (fR_ok _ (List.mem_of_getElem? (i := 12) rfl)) xs
    obtain ⟨f1, f2, f3, g⟩ := key
    exact ⟨f1, f2, f3, g_n 1 (j' := 22) (lv' := [some (.retAddr 41), some (.ref 0), some (.ref 70), some (.int 0)]) (st' := []) (h' := (SH, ph_i hY1, ph_l hY1, ph_r hY1)) rfl g⟩
  | 1, _ =>
    have key : ∃ fi' fl' fr', Go pmT (some (6, xs)) cd_law 79 [some (.retAddr 41), some (.ref 0), some (.ref 70), some (.int 0)] [] (SH, ph_i hY1, ph_l hY1, ph_r hY1) (some (.int 1), (SH, fi', fl', fr')) := by
      by_cases hv : xs 1 = 0
      · exact law_1_0 (fi := ph_i hY1) (fl := ph_l hY1) (fr := ph_r hY1) (fI_ok _ (List.mem_of_getElem? (i := 11) rfl)) (fI_ok _ (List.mem_of_getElem? (i := 12) rfl)) (fR_ok _ (List.mem_of_getElem? (i := 3) rfl)) xs hv
      · exact law_1_n (fi := ph_i hY1) (fl := ph_l hY1) (fr := ph_r hY1) (fI_ok _ (List.mem_of_getElem? (i := 11) rfl)) (fI_ok _ (List.mem_of_getElem? (i := 12) rfl)) (fR_ok _ (List.mem_of_getElem? (i := 3) rfl)) xs hv
    obtain ⟨f1, f2, f3, g⟩ := key
    exact ⟨f1, f2, f3, g_n 1 (j' := 79) (lv' := [some (.retAddr 41), some (.ref 0), some (.ref 70), some (.int 0)]) (st' := []) (h' := (SH, ph_i hY1, ph_l hY1, ph_r hY1)) rfl g⟩
  | 2, _ =>
    have key : ∃ fi' fl' fr', Go pmT (some (6, xs)) cd_law 96 [some (.retAddr 41), some (.ref 0), some (.ref 70), some (.int 0)] [] (SH, ph_i hY1, ph_l hY1, ph_r hY1) (some (.int 1), (SH, fi', fl', fr')) := law_2 (fi := ph_i hY1) (fl := ph_l hY1) (fr := ph_r hY1) (fI_ok _ (List.mem_of_getElem? (i := 11) rfl)) (fI_ok _ (List.mem_of_getElem? (i := 12) rfl)) (fI_ok _ (List.mem_of_getElem? (i := 22) rfl)) (fI_ok _ (List.mem_of_getElem? (i := 23) rfl)) (fI_ok _ (List.mem_of_getElem? (i := 24) rfl)) (fI_ok _ (List.mem_of_getElem? (i := 25) rfl)) (fI_ok _ (List.mem_of_getElem? (i := 26) rfl)) (fI_ok _ (List.mem_of_getElem? (i := 27) rfl)) (fR_ok _ (List.mem_of_getElem? (i := 3) rfl)) (fR_ok _ (List.mem_of_getElem? (i := 4) rfl)) (fR_ok _ (List.mem_of_getElem? (i := 8) rfl)) (fR_ok _ (List.mem_of_getElem? (i := 9) rfl)) (fR_ok _ (List.mem_of_getElem? (i := 13) rfl)) (fR_ok _ (List.mem_of_getElem? (i := 14) rfl)) xs
    obtain ⟨f1, f2, f3, g⟩ := key
    exact ⟨f1, f2, f3, g_n 1 (j' := 96) (lv' := [some (.retAddr 41), some (.ref 0), some (.ref 70), some (.int 0)]) (st' := []) (h' := (SH, ph_i hY1, ph_l hY1, ph_r hY1)) rfl g⟩
  | 3, _ =>
    have key : ∃ fi' fl' fr', Go pmT (some (6, xs)) cd_law 103 [some (.retAddr 41), some (.ref 0), some (.ref 70), some (.int 0)] [] (SH, ph_i hY1, ph_l hY1, ph_r hY1) (some (.int 1), (SH, fi', fl', fr')) := law_3 (fi := ph_i hY1) (fl := ph_l hY1) (fr := ph_r hY1) (fI_ok _ (List.mem_of_getElem? (i := 3) rfl)) (fI_ok _ (List.mem_of_getElem? (i := 13) rfl)) (fR_ok _ (List.mem_of_getElem? (i := 0) rfl)) xs
    obtain ⟨f1, f2, f3, g⟩ := key
    exact ⟨f1, f2, f3, g_n 1 (j' := 103) (lv' := [some (.retAddr 41), some (.ref 0), some (.ref 70), some (.int 0)]) (st' := []) (h' := (SH, ph_i hY1, ph_l hY1, ph_r hY1)) rfl g⟩
  | 4, _ =>
    have key : ∃ fi' fl' fr', Go pmT (some (6, xs)) cd_law 121 [some (.retAddr 41), some (.ref 0), some (.ref 70), some (.int 0)] [] (SH, ph_i hY1, ph_l hY1, ph_r hY1) (some (.int 1), (SH, fi', fl', fr')) := law_4 (fi := ph_i hY1) (fl := ph_l hY1) (fr := ph_r hY1) (fI_ok _ (List.mem_of_getElem? (i := 3) rfl)) (fI_ok _ (List.mem_of_getElem? (i := 13) rfl)) (fR_ok _ (List.mem_of_getElem? (i := 0) rfl)) xs
    obtain ⟨f1, f2, f3, g⟩ := key
    exact ⟨f1, f2, f3, g_n 1 (j' := 121) (lv' := [some (.retAddr 41), some (.ref 0), some (.ref 70), some (.int 0)]) (st' := []) (h' := (SH, ph_i hY1, ph_l hY1, ph_r hY1)) rfl g⟩
  | 5, _ =>
    have key : ∃ fi' fl' fr', Go pmT (some (6, xs)) cd_law 138 [some (.retAddr 41), some (.ref 0), some (.ref 70), some (.int 0)] [] (SH, ph_i hY1, ph_l hY1, ph_r hY1) (some (.int 1), (SH, fi', fl', fr')) := law_5 (fi := ph_i hY1) (fl := ph_l hY1) (fr := ph_r hY1) (fI_ok _ (List.mem_of_getElem? (i := 3) rfl)) (fI_ok _ (List.mem_of_getElem? (i := 13) rfl)) (fR_ok _ (List.mem_of_getElem? (i := 0) rfl)) xs
    obtain ⟨f1, f2, f3, g⟩ := key
    exact ⟨f1, f2, f3, g_n 1 (j' := 138) (lv' := [some (.retAddr 41), some (.ref 0), some (.ref 70), some (.int 0)]) (st' := []) (h' := (SH, ph_i hY1, ph_l hY1, ph_r hY1)) rfl g⟩
  | 6, _ =>
    have key : ∃ fi' fl' fr', Go pmT (some (6, xs)) cd_law 180 [some (.retAddr 41), some (.ref 0), some (.ref 70), some (.int 0)] [] (SH, ph_i hY1, ph_l hY1, ph_r hY1) (some (.int 1), (SH, fi', fl', fr')) := law_6 (fi := ph_i hY1) (fl := ph_l hY1) (fr := ph_r hY1) (fI_ok _ (List.mem_of_getElem? (i := 3) rfl)) (fI_ok _ (List.mem_of_getElem? (i := 13) rfl)) (fR_ok _ (List.mem_of_getElem? (i := 0) rfl)) xs
    obtain ⟨f1, f2, f3, g⟩ := key
    exact ⟨f1, f2, f3, g_n 1 (j' := 180) (lv' := [some (.retAddr 41), some (.ref 0), some (.ref 70), some (.int 0)]) (st' := []) (h' := (SH, ph_i hY1, ph_l hY1, ph_r hY1)) rfl g⟩
  | 7, _ =>
    have key : ∃ fi' fl' fr', Go pmT (some (6, xs)) cd_law 221 [some (.retAddr 41), some (.ref 0), some (.ref 70), some (.int 0)] [] (SH, ph_i hY1, ph_l hY1, ph_r hY1) (some (.int 1), (SH, fi', fl', fr')) := law_7 (fi := ph_i hY1) (fl := ph_l hY1) (fr := ph_r hY1) (fI_ok _ (List.mem_of_getElem? (i := 3) rfl)) (fI_ok _ (List.mem_of_getElem? (i := 13) rfl)) (fR_ok _ (List.mem_of_getElem? (i := 0) rfl)) xs
    obtain ⟨f1, f2, f3, g⟩ := key
    exact ⟨f1, f2, f3, g_n 1 (j' := 221) (lv' := [some (.retAddr 41), some (.ref 0), some (.ref 70), some (.int 0)]) (st' := []) (h' := (SH, ph_i hY1, ph_l hY1, ph_r hY1)) rfl g⟩
  | 8, _ =>
    have key : ∃ fi' fl' fr', Go pmT (some (6, xs)) cd_law 263 [some (.retAddr 41), some (.ref 0), some (.ref 70), some (.int 0)] [] (SH, ph_i hY1, ph_l hY1, ph_r hY1) (some (.int 1), (SH, fi', fl', fr')) := law_8 (fi := ph_i hY1) (fl := ph_l hY1) (fr := ph_r hY1) (fI_ok _ (List.mem_of_getElem? (i := 3) rfl)) (fI_ok _ (List.mem_of_getElem? (i := 13) rfl)) (fR_ok _ (List.mem_of_getElem? (i := 0) rfl)) xs
    obtain ⟨f1, f2, f3, g⟩ := key
    exact ⟨f1, f2, f3, g_n 1 (j' := 263) (lv' := [some (.retAddr 41), some (.ref 0), some (.ref 70), some (.int 0)]) (st' := []) (h' := (SH, ph_i hY1, ph_l hY1, ph_r hY1)) rfl g⟩
  | 9, _ =>
    have key : ∃ fi' fl' fr', Go pmT (some (6, xs)) cd_law 280 [some (.retAddr 41), some (.ref 0), some (.ref 70), some (.int 0)] [] (SH, ph_i hY1, ph_l hY1, ph_r hY1) (some (.int 1), (SH, fi', fl', fr')) := law_9 (fi := ph_i hY1) (fl := ph_l hY1) (fr := ph_r hY1) (fI_ok _ (List.mem_of_getElem? (i := 3) rfl)) (fI_ok _ (List.mem_of_getElem? (i := 13) rfl)) (fR_ok _ (List.mem_of_getElem? (i := 0) rfl)) xs
    obtain ⟨f1, f2, f3, g⟩ := key
    exact ⟨f1, f2, f3, g_n 1 (j' := 280) (lv' := [some (.retAddr 41), some (.ref 0), some (.ref 70), some (.int 0)]) (st' := []) (h' := (SH, ph_i hY1, ph_l hY1, ph_r hY1)) rfl g⟩
  | 10, _ =>
    have key : ∃ fi' fl' fr', Go pmT (some (6, xs)) cd_law 287 [some (.retAddr 41), some (.ref 0), some (.ref 70), some (.int 0)] [] (SH, ph_i hY1, ph_l hY1, ph_r hY1) (some (.int 1), (SH, fi', fl', fr')) := law_10 (fi := ph_i hY1) (fl := ph_l hY1) (fr := ph_r hY1) (fI_ok _ (List.mem_of_getElem? (i := 3) rfl)) (fI_ok _ (List.mem_of_getElem? (i := 13) rfl)) (fR_ok _ (List.mem_of_getElem? (i := 0) rfl)) xs
    obtain ⟨f1, f2, f3, g⟩ := key
    exact ⟨f1, f2, f3, g_n 1 (j' := 287) (lv' := [some (.retAddr 41), some (.ref 0), some (.ref 70), some (.int 0)]) (st' := []) (h' := (SH, ph_i hY1, ph_l hY1, ph_r hY1)) rfl g⟩
  | 11, _ =>
    have key : ∃ fi' fl' fr', Go pmT (some (6, xs)) cd_law 314 [some (.retAddr 41), some (.ref 0), some (.ref 70), some (.int 0)] [] (SH, ph_i hY1, ph_l hY1, ph_r hY1) (some (.int 1), (SH, fi', fl', fr')) := law_11 (fi := ph_i hY1) (fl := ph_l hY1) (fr := ph_r hY1) (fI_ok _ (List.mem_of_getElem? (i := 3) rfl)) (fI_ok _ (List.mem_of_getElem? (i := 13) rfl)) (fR_ok _ (List.mem_of_getElem? (i := 0) rfl)) xs
    obtain ⟨f1, f2, f3, g⟩ := key
    exact ⟨f1, f2, f3, g_n 1 (j' := 314) (lv' := [some (.retAddr 41), some (.ref 0), some (.ref 70), some (.int 0)]) (st' := []) (h' := (SH, ph_i hY1, ph_l hY1, ph_r hY1)) rfl g⟩
  | 12, _ =>
    have key : ∃ fi' fl' fr', Go pmT (some (6, xs)) cd_law 375 [some (.retAddr 41), some (.ref 0), some (.ref 70), some (.int 0)] [] (SH, ph_i hY1, ph_l hY1, ph_r hY1) (some (.int 1), (SH, fi', fl', fr')) := law_12 (fi := ph_i hY1) (fl := ph_l hY1) (fr := ph_r hY1) (fI_ok _ (List.mem_of_getElem? (i := 3) rfl)) (fI_ok _ (List.mem_of_getElem? (i := 13) rfl)) (fR_ok _ (List.mem_of_getElem? (i := 0) rfl)) xs
    obtain ⟨f1, f2, f3, g⟩ := key
    exact ⟨f1, f2, f3, g_n 1 (j' := 375) (lv' := [some (.retAddr 41), some (.ref 0), some (.ref 70), some (.int 0)]) (st' := []) (h' := (SH, ph_i hY1, ph_l hY1, ph_r hY1)) rfl g⟩
  | 13, _ =>
    have key : ∃ fi' fl' fr', Go pmT (some (6, xs)) cd_law 392 [some (.retAddr 41), some (.ref 0), some (.ref 70), some (.int 0)] [] (SH, ph_i hY1, ph_l hY1, ph_r hY1) (some (.int 1), (SH, fi', fl', fr')) := law_13 (fi := ph_i hY1) (fl := ph_l hY1) (fr := ph_r hY1) (fI_ok _ (List.mem_of_getElem? (i := 3) rfl)) (fI_ok _ (List.mem_of_getElem? (i := 13) rfl)) (fR_ok _ (List.mem_of_getElem? (i := 0) rfl)) xs
    obtain ⟨f1, f2, f3, g⟩ := key
    exact ⟨f1, f2, f3, g_n 1 (j' := 392) (lv' := [some (.retAddr 41), some (.ref 0), some (.ref 70), some (.int 0)]) (st' := []) (h' := (SH, ph_i hY1, ph_l hY1, ph_r hY1)) rfl g⟩
  | 14, _ =>
    have key : ∃ fi' fl' fr', Go pmT (some (6, xs)) cd_law 433 [some (.retAddr 41), some (.ref 0), some (.ref 70), some (.int 0)] [] (SH, ph_i hY1, ph_l hY1, ph_r hY1) (some (.int 1), (SH, fi', fl', fr')) := law_14 (fi := ph_i hY1) (fl := ph_l hY1) (fr := ph_r hY1) (fI_ok _ (List.mem_of_getElem? (i := 3) rfl)) (fI_ok _ (List.mem_of_getElem? (i := 13) rfl)) (fR_ok _ (List.mem_of_getElem? (i := 0) rfl)) xs
    obtain ⟨f1, f2, f3, g⟩ := key
    exact ⟨f1, f2, f3, g_n 1 (j' := 433) (lv' := [some (.retAddr 41), some (.ref 0), some (.ref 70), some (.int 0)]) (st' := []) (h' := (SH, ph_i hY1, ph_l hY1, ph_r hY1)) rfl g⟩
  | 15, _ =>
    have key : ∃ fi' fl' fr', Go pmT (some (6, xs)) cd_law 450 [some (.retAddr 41), some (.ref 0), some (.ref 70), some (.int 0)] [] (SH, ph_i hY1, ph_l hY1, ph_r hY1) (some (.int 1), (SH, fi', fl', fr')) := law_15 (fi := ph_i hY1) (fl := ph_l hY1) (fr := ph_r hY1) (fI_ok _ (List.mem_of_getElem? (i := 3) rfl)) (fI_ok _ (List.mem_of_getElem? (i := 13) rfl)) (fR_ok _ (List.mem_of_getElem? (i := 0) rfl)) xs
    obtain ⟨f1, f2, f3, g⟩ := key
    exact ⟨f1, f2, f3, g_n 1 (j' := 450) (lv' := [some (.retAddr 41), some (.ref 0), some (.ref 70), some (.int 0)]) (st' := []) (h' := (SH, ph_i hY1, ph_l hY1, ph_r hY1)) rfl g⟩
  | 16, _ =>
    have key : ∃ fi' fl' fr', Go pmT (some (6, xs)) cd_law 458 [some (.retAddr 41), some (.ref 0), some (.ref 70), some (.int 0)] [] (SH, ph_i hY1, ph_l hY1, ph_r hY1) (some (.int 1), (SH, fi', fl', fr')) := law_16 (fi := ph_i hY1) (fl := ph_l hY1) (fr := ph_r hY1) (fI_ok _ (List.mem_of_getElem? (i := 3) rfl)) (fI_ok _ (List.mem_of_getElem? (i := 13) rfl)) (fR_ok _ (List.mem_of_getElem? (i := 0) rfl)) xs
    obtain ⟨f1, f2, f3, g⟩ := key
    exact ⟨f1, f2, f3, g_n 1 (j' := 458) (lv' := [some (.retAddr 41), some (.ref 0), some (.ref 70), some (.int 0)]) (st' := []) (h' := (SH, ph_i hY1, ph_l hY1, ph_r hY1)) rfl g⟩
  | 17, _ =>
    have key : ∃ fi' fl' fr', Go pmT (some (6, xs)) cd_law 475 [some (.retAddr 41), some (.ref 0), some (.ref 70), some (.int 0)] [] (SH, ph_i hY1, ph_l hY1, ph_r hY1) (some (.int 1), (SH, fi', fl', fr')) := law_17 (fi := ph_i hY1) (fl := ph_l hY1) (fr := ph_r hY1) (fI_ok _ (List.mem_of_getElem? (i := 3) rfl)) (fI_ok _ (List.mem_of_getElem? (i := 13) rfl)) (fR_ok _ (List.mem_of_getElem? (i := 0) rfl)) xs
    obtain ⟨f1, f2, f3, g⟩ := key
    exact ⟨f1, f2, f3, g_n 1 (j' := 475) (lv' := [some (.retAddr 41), some (.ref 0), some (.ref 70), some (.int 0)]) (st' := []) (h' := (SH, ph_i hY1, ph_l hY1, ph_r hY1)) rfl g⟩
  | 18, _ =>
    have key : ∃ fi' fl' fr', Go pmT (some (6, xs)) cd_law 512 [some (.retAddr 41), some (.ref 0), some (.ref 70), some (.int 0)] [] (SH, ph_i hY1, ph_l hY1, ph_r hY1) (some (.int 1), (SH, fi', fl', fr')) := law_18 (fi := ph_i hY1) (fl := ph_l hY1) (fr := ph_r hY1) (fI_ok _ (List.mem_of_getElem? (i := 3) rfl)) (fI_ok _ (List.mem_of_getElem? (i := 13) rfl)) (fR_ok _ (List.mem_of_getElem? (i := 0) rfl)) xs
    obtain ⟨f1, f2, f3, g⟩ := key
    exact ⟨f1, f2, f3, g_n 1 (j' := 512) (lv' := [some (.retAddr 41), some (.ref 0), some (.ref 70), some (.int 0)]) (st' := []) (h' := (SH, ph_i hY1, ph_l hY1, ph_r hY1)) rfl g⟩
  | 19, _ =>
    have key : ∃ fi' fl' fr', Go pmT (some (6, xs)) cd_law 530 [some (.retAddr 41), some (.ref 0), some (.ref 70), some (.int 0)] [] (SH, ph_i hY1, ph_l hY1, ph_r hY1) (some (.int 1), (SH, fi', fl', fr')) := law_19 (fi := ph_i hY1) (fl := ph_l hY1) (fr := ph_r hY1) (fI_ok _ (List.mem_of_getElem? (i := 3) rfl)) (fI_ok _ (List.mem_of_getElem? (i := 13) rfl)) (fR_ok _ (List.mem_of_getElem? (i := 0) rfl)) xs
    obtain ⟨f1, f2, f3, g⟩ := key
    exact ⟨f1, f2, f3, g_n 1 (j' := 530) (lv' := [some (.retAddr 41), some (.ref 0), some (.ref 70), some (.int 0)]) (st' := []) (h' := (SH, ph_i hY1, ph_l hY1, ph_r hY1)) rfl g⟩
  | 20, _ =>
    have key : ∃ fi' fl' fr', Go pmT (some (6, xs)) cd_law 575 [some (.retAddr 41), some (.ref 0), some (.ref 70), some (.int 0)] [] (SH, ph_i hY1, ph_l hY1, ph_r hY1) (some (.int 1), (SH, fi', fl', fr')) := law_20 (fi := ph_i hY1) (fl := ph_l hY1) (fr := ph_r hY1) (fI_ok _ (List.mem_of_getElem? (i := 3) rfl)) (fI_ok _ (List.mem_of_getElem? (i := 13) rfl)) (fR_ok _ (List.mem_of_getElem? (i := 0) rfl)) xs
    obtain ⟨f1, f2, f3, g⟩ := key
    exact ⟨f1, f2, f3, g_n 1 (j' := 575) (lv' := [some (.retAddr 41), some (.ref 0), some (.ref 70), some (.int 0)]) (st' := []) (h' := (SH, ph_i hY1, ph_l hY1, ph_r hY1)) rfl g⟩
  | 21, _ =>
    have key : ∃ fi' fl' fr', Go pmT (some (6, xs)) cd_law 592 [some (.retAddr 41), some (.ref 0), some (.ref 70), some (.int 0)] [] (SH, ph_i hY1, ph_l hY1, ph_r hY1) (some (.int 1), (SH, fi', fl', fr')) := law_21 (fi := ph_i hY1) (fl := ph_l hY1) (fr := ph_r hY1) (fI_ok _ (List.mem_of_getElem? (i := 3) rfl)) (fI_ok _ (List.mem_of_getElem? (i := 13) rfl)) (fR_ok _ (List.mem_of_getElem? (i := 0) rfl)) xs
    obtain ⟨f1, f2, f3, g⟩ := key
    exact ⟨f1, f2, f3, g_n 1 (j' := 592) (lv' := [some (.retAddr 41), some (.ref 0), some (.ref 70), some (.int 0)]) (st' := []) (h' := (SH, ph_i hY1, ph_l hY1, ph_r hY1)) rfl g⟩
  | 22, _ =>
    have key : ∃ fi' fl' fr', Go pmT (some (6, xs)) cd_law 609 [some (.retAddr 41), some (.ref 0), some (.ref 70), some (.int 0)] [] (SH, ph_i hY1, ph_l hY1, ph_r hY1) (some (.int 1), (SH, fi', fl', fr')) := law_22 (fi := ph_i hY1) (fl := ph_l hY1) (fr := ph_r hY1) (fI_ok _ (List.mem_of_getElem? (i := 3) rfl)) (fI_ok _ (List.mem_of_getElem? (i := 13) rfl)) (fR_ok _ (List.mem_of_getElem? (i := 0) rfl)) xs
    obtain ⟨f1, f2, f3, g⟩ := key
    exact ⟨f1, f2, f3, g_n 1 (j' := 609) (lv' := [some (.retAddr 41), some (.ref 0), some (.ref 70), some (.int 0)]) (st' := []) (h' := (SH, ph_i hY1, ph_l hY1, ph_r hY1)) rfl g⟩
  | 23, _ =>
    have key : ∃ fi' fl' fr', Go pmT (some (6, xs)) cd_law 626 [some (.retAddr 41), some (.ref 0), some (.ref 70), some (.int 0)] [] (SH, ph_i hY1, ph_l hY1, ph_r hY1) (some (.int 1), (SH, fi', fl', fr')) := law_23 (fi := ph_i hY1) (fl := ph_l hY1) (fr := ph_r hY1) (fI_ok _ (List.mem_of_getElem? (i := 3) rfl)) (fI_ok _ (List.mem_of_getElem? (i := 13) rfl)) (fR_ok _ (List.mem_of_getElem? (i := 0) rfl)) xs
    obtain ⟨f1, f2, f3, g⟩ := key
    exact ⟨f1, f2, f3, g_n 1 (j' := 626) (lv' := [some (.retAddr 41), some (.ref 0), some (.ref 70), some (.int 0)]) (st' := []) (h' := (SH, ph_i hY1, ph_l hY1, ph_r hY1)) rfl g⟩
  | 24, _ =>
    have key : ∃ fi' fl' fr', Go pmT (some (6, xs)) cd_law 634 [some (.retAddr 41), some (.ref 0), some (.ref 70), some (.int 0)] [] (SH, ph_i hY1, ph_l hY1, ph_r hY1) (some (.int 1), (SH, fi', fl', fr')) := law_24 (fi := ph_i hY1) (fl := ph_l hY1) (fr := ph_r hY1) (fI_ok _ (List.mem_of_getElem? (i := 3) rfl)) (fI_ok _ (List.mem_of_getElem? (i := 13) rfl)) (fR_ok _ (List.mem_of_getElem? (i := 0) rfl)) xs
    obtain ⟨f1, f2, f3, g⟩ := key
    exact ⟨f1, f2, f3, g_n 1 (j' := 634) (lv' := [some (.retAddr 41), some (.ref 0), some (.ref 70), some (.int 0)]) (st' := []) (h' := (SH, ph_i hY1, ph_l hY1, ph_r hY1)) rfl g⟩
  | 25, _ =>
    have key : ∃ fi' fl' fr', Go pmT (some (6, xs)) cd_law 651 [some (.retAddr 41), some (.ref 0), some (.ref 70), some (.int 0)] [] (SH, ph_i hY1, ph_l hY1, ph_r hY1) (some (.int 1), (SH, fi', fl', fr')) := law_25 (fi := ph_i hY1) (fl := ph_l hY1) (fr := ph_r hY1) (fI_ok _ (List.mem_of_getElem? (i := 3) rfl)) (fI_ok _ (List.mem_of_getElem? (i := 13) rfl)) (fR_ok _ (List.mem_of_getElem? (i := 0) rfl)) xs
    obtain ⟨f1, f2, f3, g⟩ := key
    exact ⟨f1, f2, f3, g_n 1 (j' := 651) (lv' := [some (.retAddr 41), some (.ref 0), some (.ref 70), some (.int 0)]) (st' := []) (h' := (SH, ph_i hY1, ph_l hY1, ph_r hY1)) rfl g⟩
  | 26, _ =>
    have key : ∃ fi' fl' fr', Go pmT (some (6, xs)) cd_law 668 [some (.retAddr 41), some (.ref 0), some (.ref 70), some (.int 0)] [] (SH, ph_i hY1, ph_l hY1, ph_r hY1) (some (.int 1), (SH, fi', fl', fr')) := by
      by_cases hv : xs 1 < 0
      · exact law_26_0 (fi := ph_i hY1) (fl := ph_l hY1) (fr := ph_r hY1)  xs hv
      · exact law_26_n (fi := ph_i hY1) (fl := ph_l hY1) (fr := ph_r hY1) (fI_ok _ (List.mem_of_getElem? (i := 1) rfl)) (fI_ok _ (List.mem_of_getElem? (i := 20) rfl)) xs hv
    obtain ⟨f1, f2, f3, g⟩ := key
    exact ⟨f1, f2, f3, g_n 1 (j' := 668) (lv' := [some (.retAddr 41), some (.ref 0), some (.ref 70), some (.int 0)]) (st' := []) (h' := (SH, ph_i hY1, ph_l hY1, ph_r hY1)) rfl g⟩
  | 27, _ =>
    have key : ∃ fi' fl' fr', Go pmT (some (6, xs)) cd_law 685 [some (.retAddr 41), some (.ref 0), some (.ref 70), some (.int 0)] [] (SH, ph_i hY1, ph_l hY1, ph_r hY1) (some (.int 1), (SH, fi', fl', fr')) := law_27 (fi := ph_i hY1) (fl := ph_l hY1) (fr := ph_r hY1) (fI_ok _ (List.mem_of_getElem? (i := 3) rfl)) (fI_ok _ (List.mem_of_getElem? (i := 13) rfl)) (fR_ok _ (List.mem_of_getElem? (i := 0) rfl)) xs
    obtain ⟨f1, f2, f3, g⟩ := key
    exact ⟨f1, f2, f3, g_n 1 (j' := 685) (lv' := [some (.retAddr 41), some (.ref 0), some (.ref 70), some (.int 0)]) (st' := []) (h' := (SH, ph_i hY1, ph_l hY1, ph_r hY1)) rfl g⟩
  | 28, _ =>
    have key : ∃ fi' fl' fr', Go pmT (some (6, xs)) cd_law 732 [some (.retAddr 41), some (.ref 0), some (.ref 70), some (.int 0)] [] (SH, ph_i hY1, ph_l hY1, ph_r hY1) (some (.int 1), (SH, fi', fl', fr')) := law_28 (fi := ph_i hY1) (fl := ph_l hY1) (fr := ph_r hY1) (fI_ok _ (List.mem_of_getElem? (i := 0) rfl)) (fI_ok _ (List.mem_of_getElem? (i := 21) rfl)) xs
    obtain ⟨f1, f2, f3, g⟩ := key
    exact ⟨f1, f2, f3, g_n 1 (j' := 732) (lv' := [some (.retAddr 41), some (.ref 0), some (.ref 70), some (.int 0)]) (st' := []) (h' := (SH, ph_i hY1, ph_l hY1, ph_r hY1)) rfl g⟩
  | 29, _ =>
    have key : ∃ fi' fl' fr', Go pmT (some (6, xs)) cd_law 739 [some (.retAddr 41), some (.ref 0), some (.ref 70), some (.int 0)] [] (SH, ph_i hY1, ph_l hY1, ph_r hY1) (some (.int 1), (SH, fi', fl', fr')) := by
      by_cases hv : xs 1 = 0
      · exact law_29_0 (fi := ph_i hY1) (fl := ph_l hY1) (fr := ph_r hY1) (fI_ok _ (List.mem_of_getElem? (i := 2) rfl)) (fI_ok _ (List.mem_of_getElem? (i := 3) rfl)) (fI_ok _ (List.mem_of_getElem? (i := 4) rfl)) (fI_ok _ (List.mem_of_getElem? (i := 5) rfl)) (fI_ok _ (List.mem_of_getElem? (i := 6) rfl)) (fI_ok _ (List.mem_of_getElem? (i := 7) rfl)) (fI_ok _ (List.mem_of_getElem? (i := 8) rfl)) (fI_ok _ (List.mem_of_getElem? (i := 13) rfl)) (fI_ok _ (List.mem_of_getElem? (i := 14) rfl)) (fI_ok _ (List.mem_of_getElem? (i := 15) rfl)) (fI_ok _ (List.mem_of_getElem? (i := 16) rfl)) (fI_ok _ (List.mem_of_getElem? (i := 17) rfl)) (fI_ok _ (List.mem_of_getElem? (i := 18) rfl)) (fI_ok _ (List.mem_of_getElem? (i := 19) rfl)) (fI_ok _ (List.mem_of_getElem? (i := 28) rfl)) (fI_ok _ (List.mem_of_getElem? (i := 29) rfl)) (fI_ok _ (List.mem_of_getElem? (i := 30) rfl)) (fI_ok _ (List.mem_of_getElem? (i := 31) rfl)) (fI_ok _ (List.mem_of_getElem? (i := 32) rfl)) (fI_ok _ (List.mem_of_getElem? (i := 33) rfl)) (fI_ok _ (List.mem_of_getElem? (i := 34) rfl)) (fI_ok _ (List.mem_of_getElem? (i := 35) rfl)) (fI_ok _ (List.mem_of_getElem? (i := 36) rfl)) (fI_ok _ (List.mem_of_getElem? (i := 37) rfl)) (fI_ok _ (List.mem_of_getElem? (i := 38) rfl)) (fI_ok _ (List.mem_of_getElem? (i := 39) rfl)) (fI_ok _ (List.mem_of_getElem? (i := 40) rfl)) (fI_ok _ (List.mem_of_getElem? (i := 41) rfl)) (fI_ok _ (List.mem_of_getElem? (i := 42) rfl)) (fI_ok _ (List.mem_of_getElem? (i := 43) rfl)) (fI_ok _ (List.mem_of_getElem? (i := 44) rfl)) (fI_ok _ (List.mem_of_getElem? (i := 45) rfl)) (fI_ok _ (List.mem_of_getElem? (i := 46) rfl)) (fI_ok _ (List.mem_of_getElem? (i := 47) rfl)) (fI_ok _ (List.mem_of_getElem? (i := 48) rfl)) (fI_ok _ (List.mem_of_getElem? (i := 49) rfl)) (fI_ok _ (List.mem_of_getElem? (i := 50) rfl)) (fI_ok _ (List.mem_of_getElem? (i := 51) rfl)) (fI_ok _ (List.mem_of_getElem? (i := 52) rfl)) (fI_ok _ (List.mem_of_getElem? (i := 53) rfl)) (fI_ok _ (List.mem_of_getElem? (i := 54) rfl)) (fI_ok _ (List.mem_of_getElem? (i := 55) rfl)) (fI_ok _ (List.mem_of_getElem? (i := 56) rfl)) (fI_ok _ (List.mem_of_getElem? (i := 57) rfl)) (fI_ok _ (List.mem_of_getElem? (i := 58) rfl)) (fI_ok _ (List.mem_of_getElem? (i := 59) rfl)) (fI_ok _ (List.mem_of_getElem? (i := 60) rfl)) (fI_ok _ (List.mem_of_getElem? (i := 61) rfl)) (fI_ok _ (List.mem_of_getElem? (i := 62) rfl)) (fI_ok _ (List.mem_of_getElem? (i := 63) rfl)) (fI_ok _ (List.mem_of_getElem? (i := 64) rfl)) (fI_ok _ (List.mem_of_getElem? (i := 65) rfl)) (fI_ok _ (List.mem_of_getElem? (i := 66) rfl)) (fI_ok _ (List.mem_of_getElem? (i := 67) rfl)) (fI_ok _ (List.mem_of_getElem? (i := 68) rfl)) (fI_ok _ (List.mem_of_getElem? (i := 69) rfl)) (fI_ok _ (List.mem_of_getElem? (i := 70) rfl)) (fI_ok _ (List.mem_of_getElem? (i := 71) rfl)) (fI_ok _ (List.mem_of_getElem? (i := 72) rfl)) (fI_ok _ (List.mem_of_getElem? (i := 73) rfl)) (fI_ok _ (List.mem_of_getElem? (i := 74) rfl)) (fI_ok _ (List.mem_of_getElem? (i := 75) rfl)) (fI_ok _ (List.mem_of_getElem? (i := 76) rfl)) (fI_ok _ (List.mem_of_getElem? (i := 77) rfl)) (fI_ok _ (List.mem_of_getElem? (i := 78) rfl)) (fI_ok _ (List.mem_of_getElem? (i := 79) rfl)) (fI_ok _ (List.mem_of_getElem? (i := 80) rfl)) (fI_ok _ (List.mem_of_getElem? (i := 81) rfl)) (fI_ok _ (List.mem_of_getElem? (i := 82) rfl)) (fI_ok _ (List.mem_of_getElem? (i := 83) rfl)) (fI_ok _ (List.mem_of_getElem? (i := 84) rfl)) (fI_ok _ (List.mem_of_getElem? (i := 85) rfl)) (fI_ok _ (List.mem_of_getElem? (i := 86) rfl)) (fI_ok _ (List.mem_of_getElem? (i := 87) rfl)) (fI_ok _ (List.mem_of_getElem? (i := 88) rfl)) (fI_ok _ (List.mem_of_getElem? (i := 89) rfl)) (fI_ok _ (List.mem_of_getElem? (i := 90) rfl)) (fI_ok _ (List.mem_of_getElem? (i := 91) rfl)) (fL_ok _ (List.mem_of_getElem? (i := 0) rfl)) (fL_ok _ (List.mem_of_getElem? (i := 1) rfl)) (fR_ok _ (List.mem_of_getElem? (i := 0) rfl)) (fR_ok _ (List.mem_of_getElem? (i := 1) rfl)) (fR_ok _ (List.mem_of_getElem? (i := 2) rfl)) (fR_ok _ (List.mem_of_getElem? (i := 5) rfl)) (fR_ok _ (List.mem_of_getElem? (i := 6) rfl)) (fR_ok _ (List.mem_of_getElem? (i := 10) rfl)) (fR_ok _ (List.mem_of_getElem? (i := 15) rfl)) (fR_ok _ (List.mem_of_getElem? (i := 16) rfl)) (fR_ok _ (List.mem_of_getElem? (i := 17) rfl)) (fR_ok _ (List.mem_of_getElem? (i := 18) rfl)) xs hv
      · by_cases hw : xs 1 = 1
        · exact law_29_1 (fi := ph_i hY1) (fl := ph_l hY1) (fr := ph_r hY1) (fI_ok _ (List.mem_of_getElem? (i := 2) rfl)) (fI_ok _ (List.mem_of_getElem? (i := 3) rfl)) (fI_ok _ (List.mem_of_getElem? (i := 4) rfl)) (fI_ok _ (List.mem_of_getElem? (i := 5) rfl)) (fI_ok _ (List.mem_of_getElem? (i := 6) rfl)) (fI_ok _ (List.mem_of_getElem? (i := 7) rfl)) (fI_ok _ (List.mem_of_getElem? (i := 8) rfl)) (fI_ok _ (List.mem_of_getElem? (i := 13) rfl)) (fI_ok _ (List.mem_of_getElem? (i := 14) rfl)) (fI_ok _ (List.mem_of_getElem? (i := 15) rfl)) (fI_ok _ (List.mem_of_getElem? (i := 16) rfl)) (fI_ok _ (List.mem_of_getElem? (i := 17) rfl)) (fI_ok _ (List.mem_of_getElem? (i := 18) rfl)) (fI_ok _ (List.mem_of_getElem? (i := 19) rfl)) (fI_ok _ (List.mem_of_getElem? (i := 28) rfl)) (fI_ok _ (List.mem_of_getElem? (i := 29) rfl)) (fI_ok _ (List.mem_of_getElem? (i := 30) rfl)) (fI_ok _ (List.mem_of_getElem? (i := 31) rfl)) (fI_ok _ (List.mem_of_getElem? (i := 32) rfl)) (fI_ok _ (List.mem_of_getElem? (i := 33) rfl)) (fI_ok _ (List.mem_of_getElem? (i := 34) rfl)) (fI_ok _ (List.mem_of_getElem? (i := 35) rfl)) (fI_ok _ (List.mem_of_getElem? (i := 36) rfl)) (fI_ok _ (List.mem_of_getElem? (i := 37) rfl)) (fI_ok _ (List.mem_of_getElem? (i := 38) rfl)) (fI_ok _ (List.mem_of_getElem? (i := 39) rfl)) (fI_ok _ (List.mem_of_getElem? (i := 40) rfl)) (fI_ok _ (List.mem_of_getElem? (i := 41) rfl)) (fI_ok _ (List.mem_of_getElem? (i := 42) rfl)) (fI_ok _ (List.mem_of_getElem? (i := 43) rfl)) (fI_ok _ (List.mem_of_getElem? (i := 44) rfl)) (fI_ok _ (List.mem_of_getElem? (i := 45) rfl)) (fI_ok _ (List.mem_of_getElem? (i := 46) rfl)) (fI_ok _ (List.mem_of_getElem? (i := 47) rfl)) (fI_ok _ (List.mem_of_getElem? (i := 48) rfl)) (fI_ok _ (List.mem_of_getElem? (i := 49) rfl)) (fI_ok _ (List.mem_of_getElem? (i := 50) rfl)) (fI_ok _ (List.mem_of_getElem? (i := 51) rfl)) (fI_ok _ (List.mem_of_getElem? (i := 52) rfl)) (fI_ok _ (List.mem_of_getElem? (i := 53) rfl)) (fI_ok _ (List.mem_of_getElem? (i := 54) rfl)) (fI_ok _ (List.mem_of_getElem? (i := 55) rfl)) (fI_ok _ (List.mem_of_getElem? (i := 56) rfl)) (fI_ok _ (List.mem_of_getElem? (i := 57) rfl)) (fI_ok _ (List.mem_of_getElem? (i := 58) rfl)) (fI_ok _ (List.mem_of_getElem? (i := 59) rfl)) (fI_ok _ (List.mem_of_getElem? (i := 60) rfl)) (fI_ok _ (List.mem_of_getElem? (i := 61) rfl)) (fI_ok _ (List.mem_of_getElem? (i := 62) rfl)) (fI_ok _ (List.mem_of_getElem? (i := 63) rfl)) (fI_ok _ (List.mem_of_getElem? (i := 64) rfl)) (fI_ok _ (List.mem_of_getElem? (i := 65) rfl)) (fI_ok _ (List.mem_of_getElem? (i := 66) rfl)) (fI_ok _ (List.mem_of_getElem? (i := 67) rfl)) (fI_ok _ (List.mem_of_getElem? (i := 68) rfl)) (fI_ok _ (List.mem_of_getElem? (i := 69) rfl)) (fI_ok _ (List.mem_of_getElem? (i := 70) rfl)) (fI_ok _ (List.mem_of_getElem? (i := 71) rfl)) (fI_ok _ (List.mem_of_getElem? (i := 72) rfl)) (fI_ok _ (List.mem_of_getElem? (i := 73) rfl)) (fI_ok _ (List.mem_of_getElem? (i := 74) rfl)) (fI_ok _ (List.mem_of_getElem? (i := 75) rfl)) (fI_ok _ (List.mem_of_getElem? (i := 76) rfl)) (fI_ok _ (List.mem_of_getElem? (i := 77) rfl)) (fI_ok _ (List.mem_of_getElem? (i := 78) rfl)) (fI_ok _ (List.mem_of_getElem? (i := 79) rfl)) (fI_ok _ (List.mem_of_getElem? (i := 80) rfl)) (fI_ok _ (List.mem_of_getElem? (i := 81) rfl)) (fI_ok _ (List.mem_of_getElem? (i := 82) rfl)) (fI_ok _ (List.mem_of_getElem? (i := 83) rfl)) (fI_ok _ (List.mem_of_getElem? (i := 84) rfl)) (fI_ok _ (List.mem_of_getElem? (i := 85) rfl)) (fI_ok _ (List.mem_of_getElem? (i := 86) rfl)) (fI_ok _ (List.mem_of_getElem? (i := 87) rfl)) (fI_ok _ (List.mem_of_getElem? (i := 88) rfl)) (fI_ok _ (List.mem_of_getElem? (i := 89) rfl)) (fI_ok _ (List.mem_of_getElem? (i := 90) rfl)) (fI_ok _ (List.mem_of_getElem? (i := 91) rfl)) (fL_ok _ (List.mem_of_getElem? (i := 0) rfl)) (fL_ok _ (List.mem_of_getElem? (i := 1) rfl)) (fR_ok _ (List.mem_of_getElem? (i := 0) rfl)) (fR_ok _ (List.mem_of_getElem? (i := 1) rfl)) (fR_ok _ (List.mem_of_getElem? (i := 2) rfl)) (fR_ok _ (List.mem_of_getElem? (i := 5) rfl)) (fR_ok _ (List.mem_of_getElem? (i := 7) rfl)) (fR_ok _ (List.mem_of_getElem? (i := 11) rfl)) (fR_ok _ (List.mem_of_getElem? (i := 15) rfl)) (fR_ok _ (List.mem_of_getElem? (i := 16) rfl)) (fR_ok _ (List.mem_of_getElem? (i := 17) rfl)) (fR_ok _ (List.mem_of_getElem? (i := 18) rfl)) xs hw
        · exact law_29_n (fi := ph_i hY1) (fl := ph_l hY1) (fr := ph_r hY1)  xs hv hw
    obtain ⟨f1, f2, f3, g⟩ := key
    exact ⟨f1, f2, f3, g_n 1 (j' := 739) (lv' := [some (.retAddr 41), some (.ref 0), some (.ref 70), some (.int 0)]) (st' := []) (h' := (SH, ph_i hY1, ph_l hY1, ph_r hY1)) rfl g⟩
  | 30, _ =>
    have key : ∃ fi' fl' fr', Go pmT (some (6, xs)) cd_law 756 [some (.retAddr 41), some (.ref 0), some (.ref 70), some (.int 0)] [] (SH, ph_i hY1, ph_l hY1, ph_r hY1) (some (.int 1), (SH, fi', fl', fr')) := by
      by_cases hv : xs 1 = 0
      · exact law_30_0 (fi := ph_i hY1) (fl := ph_l hY1) (fr := ph_r hY1) (fI_ok _ (List.mem_of_getElem? (i := 9) rfl)) (fI_ok _ (List.mem_of_getElem? (i := 92) rfl)) (fR_ok _ (List.mem_of_getElem? (i := 2) rfl)) (fR_ok _ (List.mem_of_getElem? (i := 18) rfl)) xs hv
      · by_cases hw : xs 1 = 1
        · exact law_30_1 (fi := ph_i hY1) (fl := ph_l hY1) (fr := ph_r hY1) (fI_ok _ (List.mem_of_getElem? (i := 10) rfl)) (fI_ok _ (List.mem_of_getElem? (i := 93) rfl)) (fR_ok _ (List.mem_of_getElem? (i := 2) rfl)) (fR_ok _ (List.mem_of_getElem? (i := 18) rfl)) xs hw
        · exact law_30_n (fi := ph_i hY1) (fl := ph_l hY1) (fr := ph_r hY1)  xs hv hw
    obtain ⟨f1, f2, f3, g⟩ := key
    exact ⟨f1, f2, f3, g_n 1 (j' := 756) (lv' := [some (.retAddr 41), some (.ref 0), some (.ref 70), some (.int 0)]) (st' := []) (h' := (SH, ph_i hY1, ph_l hY1, ph_r hY1)) rfl g⟩
  | 31, _ =>
    have key : ∃ fi' fl' fr', Go pmT (some (6, xs)) cd_law 773 [some (.retAddr 41), some (.ref 0), some (.ref 70), some (.int 0)] [] (SH, ph_i hY1, ph_l hY1, ph_r hY1) (some (.int 1), (SH, fi', fl', fr')) := by
      by_cases hv : (xs 1).toInt < 0 ∨ 9 < (xs 1).toInt
      · exact law_31_n (fi := ph_i hY1) (fl := ph_l hY1) (fr := ph_r hY1)  xs hv
      · have h1 : ¬ xs 1 < 0 := by
          simp only [Int32.lt_iff_toInt_lt, show (0 : Int32).toInt = 0 from rfl]
          omega
        have h2 : xs 1 ≤ 9 := by
          simp only [Int32.le_iff_toInt_le, show (9 : Int32).toInt = 9 from rfl]
          omega
        obtain ⟨q, hq, hv⟩ := nI_of2 (n := 9) rfl h1 h2
        match q, hq with
        | 0, _ => exact law_31_0 (fi := ph_i hY1) (fl := ph_l hY1) (fr := ph_r hY1) (fI_ok _ (List.mem_of_getElem? (i := 3) rfl)) (fI_ok _ (List.mem_of_getElem? (i := 13) rfl)) (fR_ok _ (List.mem_of_getElem? (i := 0) rfl)) xs hv
        | 1, _ => exact law_31_1 (fi := ph_i hY1) (fl := ph_l hY1) (fr := ph_r hY1) (fI_ok _ (List.mem_of_getElem? (i := 4) rfl)) (fI_ok _ (List.mem_of_getElem? (i := 15) rfl)) (fR_ok _ (List.mem_of_getElem? (i := 0) rfl)) xs hv
        | 2, _ => exact law_31_2 (fi := ph_i hY1) (fl := ph_l hY1) (fr := ph_r hY1) (fI_ok _ (List.mem_of_getElem? (i := 5) rfl)) (fI_ok _ (List.mem_of_getElem? (i := 16) rfl)) (fR_ok _ (List.mem_of_getElem? (i := 0) rfl)) xs hv
        | 3, _ => exact law_31_3 (fi := ph_i hY1) (fl := ph_l hY1) (fr := ph_r hY1) (fI_ok _ (List.mem_of_getElem? (i := 6) rfl)) (fI_ok _ (List.mem_of_getElem? (i := 17) rfl)) (fR_ok _ (List.mem_of_getElem? (i := 0) rfl)) xs hv
        | 4, _ => exact law_31_4 (fi := ph_i hY1) (fl := ph_l hY1) (fr := ph_r hY1) (fI_ok _ (List.mem_of_getElem? (i := 7) rfl)) (fI_ok _ (List.mem_of_getElem? (i := 18) rfl)) (fR_ok _ (List.mem_of_getElem? (i := 0) rfl)) xs hv
        | 5, _ => exact law_31_5 (fi := ph_i hY1) (fl := ph_l hY1) (fr := ph_r hY1) (fI_ok _ (List.mem_of_getElem? (i := 8) rfl)) (fI_ok _ (List.mem_of_getElem? (i := 19) rfl)) (fR_ok _ (List.mem_of_getElem? (i := 0) rfl)) xs hv
        | 6, _ => exact law_31_6 (fi := ph_i hY1) (fl := ph_l hY1) (fr := ph_r hY1) (fI_ok _ (List.mem_of_getElem? (i := 0) rfl)) (fI_ok _ (List.mem_of_getElem? (i := 21) rfl)) xs hv
        | 7, _ => exact law_31_7 (fi := ph_i hY1) (fl := ph_l hY1) (fr := ph_r hY1) (fI_ok _ (List.mem_of_getElem? (i := 1) rfl)) (fI_ok _ (List.mem_of_getElem? (i := 20) rfl)) xs hv
        | 8, _ => exact law_31_8 (fi := ph_i hY1) (fl := ph_l hY1) (fr := ph_r hY1) (fI_ok _ (List.mem_of_getElem? (i := 11) rfl)) (fI_ok _ (List.mem_of_getElem? (i := 12) rfl)) (fR_ok _ (List.mem_of_getElem? (i := 3) rfl)) xs hv
        | 9, _ => exact law_31_9 (fi := ph_i hY1) (fl := ph_l hY1) (fr := ph_r hY1) (fI_ok _ (List.mem_of_getElem? (i := 3) rfl)) (fI_ok _ (List.mem_of_getElem? (i := 13) rfl)) (fR_ok _ (List.mem_of_getElem? (i := 0) rfl)) xs hv
        | q + 10, hq => omega
    obtain ⟨f1, f2, f3, g⟩ := key
    exact ⟨f1, f2, f3, g_n 1 (j' := 773) (lv' := [some (.retAddr 41), some (.ref 0), some (.ref 70), some (.int 0)]) (st' := []) (h' := (SH, ph_i hY1, ph_l hY1, ph_r hY1)) rfl g⟩
  | k + 32, hk => omega
set_option maxRecDepth 100000 in
theorem law_go {L : Nat} (hL : L ≤ 6) (xs : Nat → Int32) : ∃ fi' fl' fr', Go pmT (some (L, xs)) cd_law 0 (pm_en 4 [.retAddr 41]) [] pm_h0 (some (.int 1), (SH, fi', fl', fr')) := by
  have e1 : hY1 = (SH, ph_i hY1, ph_l hY1, ph_r hY1) := by
    rw [← shY]
  have key : ∃ fi' fl' fr', Go pmT (some (L, xs)) cd_law 10 [some (.retAddr 41), some (.ref 0), some (.ref 70), some (.int 0)] [] (SH, ph_i hY1, ph_l hY1, ph_r hY1) (some (.int 1), (SH, fi', fl', fr')) := by
    have step : ∀ r, Go pmT (some (L, xs)) cd_law 15 [some (.retAddr 41), some (.ref 0), some (.ref 70), some (.int 0)] [.int (Int32.ofNat L - (Int8.ofInt 6).toInt32), .int 0] (SH, ph_i hY1, ph_l hY1, ph_r hY1) r → Go pmT (some (L, xs)) cd_law 10 [some (.retAddr 41), some (.ref 0), some (.ref 70), some (.int 0)] [] (SH, ph_i hY1, ph_l hY1, ph_r hY1) r := fun r g => g_n 5 (j' := 15) (lv' := [some (.retAddr 41), some (.ref 0), some (.ref 70), some (.int 0)]) (st' := [.int (Int32.ofNat L - (Int8.ofInt 6).toInt32), .int 0]) (h' := (SH, ph_i hY1, ph_l hY1, ph_r hY1)) rfl g
    by_cases h6 : L = 6
    · subst h6
      obtain ⟨f1, f2, f3, g⟩ := law_body xs
      refine ⟨f1, f2, f3, step _ ?_⟩
      refine g_icf rfl (by show ¬ ((Int32.ofNat 6 - (Int8.ofInt 6).toInt32 : Int32) < 0); decide) ?_
      refine g_n 2 (j' := 18) (lv' := [some (.retAddr 41), some (.ref 0), some (.ref 70), some (.int 0)]) (st' := [.int 0, .retAddr 41]) (h' := (SH, ph_i hY1, ph_l hY1, ph_r hY1)) rfl ?_
      refine g_sld (k := 0) rfl rfl (by decide) (by decide) ?_
      exact g_n 2 (j' := 21) (lv' := [some (.retAddr 41), some (.ref 0), some (.ref 70), some (.int 0)]) (st' := [.int (xs 0 &&& 31)]) (h' := (SH, ph_i hY1, ph_l hY1, ph_r hY1)) rfl g
    · refine ⟨ph_i hY1, ph_l hY1, ph_r hY1, step _ ?_⟩
      refine g_ict rfl ?_ law_end
      show (Int32.ofNat L - (Int8.ofInt 6).toInt32 : Int32) < 0
      have h7 : L < 6 := by omega
      match L, h7 with
      | 0, _ => decide
      | 1, _ => decide
      | 2, _ => decide
      | 3, _ => decide
      | 4, _ => decide
      | 5, _ => decide
      | k + 6, h => omega
  obtain ⟨f1, f2, f3, g⟩ := key
  refine ⟨f1, f2, f3, ?_⟩
  refine g_new (k := 0) rfl rfl ?_
  refine g_n 1 (j' := 2) (lv' := [some (.retAddr 41), none, none, none]) (st' := [.ref 0, .ref 0]) (h' := hX0) rfl ?_
  refine g_callv (y := 0) (as := [.ref 0]) (st' := [.ref 0]) rfl rfl evX ?_
  refine g_n 1 (j' := 4) (lv' := [some (.retAddr 41), some (.ref 0), none, none]) (st' := []) (h' := hX1) rfl ?_
  refine g_new (k := 70) rfl (by rw [shX]; rfl) ?_
  refine g_n 1 (j' := 6) (lv' := [some (.retAddr 41), some (.ref 0), none, none]) (st' := [.ref 70, .ref 70]) (h' := hY0) rfl ?_
  refine g_callv (y := 145) (as := [.ref 70]) (st' := [.ref 70]) rfl rfl evY ?_
  rw [e1]
  exact g_n 3 (j' := 10) (lv' := [some (.retAddr 41), some (.ref 0), some (.ref 70), some (.int 0)]) (st' := []) (h' := (SH, ph_i hY1, ph_l hY1, ph_r hY1)) rfl g
theorem whole_start {p : Program} {e : Env} {s : State} {m : MethodId} {below : List Frame} {meth : Method} {c : Code} (l : Launch) (hflags : l.flags = flags0) {b L : Nat} {xs : Nat → Int32} (hL : L ≤ 6) (C0 : lw_At p s m meth c b L xs) : W p l e room_1 s m #[Value.ref b] below meth c s.heap [] 0 0 (lw_Z below #[Value.ref b] s) (entryFrame m ([Value.ref b] : List Value).toArray 4) := by
  obtain ⟨f1, f2, f3, f, hf⟩ := law_go hL xs
  exact pm_whole l C0 hf ⟨by show SH.length ≤ _; decide, by show (SH.map (fun q => q.2)).sum ≤ _; decide⟩
-- ===== YOUR PART ENDS =====
set_option maxHeartbeats 4000000 in
theorem lw_walk (l : Launch) (hflags : l.flags = flags0) (b : Addr) (xs : List Int32) : MetFree l x (headSpec (Jvm.Cond.code x code maxLocals ret :: tables_1) room_1) (lw_P b xs) (fun _ _ _ _ _ => True) lw_Q := by
  refine MetFree.of_bodyS (code := code) (maxLocals := maxLocals) (ret := ret) (by decide) ?_ ?_
  · intro args s m h hn
    obtain ⟨meth, c, h1, h2, h3, h4, h5, h6, -, -⟩ := Cond.code_spec hn (atoms_spec (ws := Jvm.Cond.code x code maxLocals ret :: tables_1) h _ List.mem_cons_self)
    exact ⟨meth, c, h1, h2, h3, h4, h5, h6⟩
  · intro p e s m args below meth c s₁ B hml0 hP _
    obtain ⟨rfl, hx, hbd, hgv⟩ := hP
    obtain ⟨scr, harrAt, hlist, hof, hsmall⟩ := hx
    obtain ⟨hcb, hkn, -, -⟩ := State.arrayAt?_spec harrAt
    have hown : s.vm.findClass R_law = some m.cls := findClass_of_methodNamed B.named
    have hts0 : ∀ c ∈ (Jvm.Cond.code x code maxLocals ret :: tables_1), c.before #[Value.ref b] s = true := atoms_spec (ws := Jvm.Cond.code x code maxLocals ret :: tables_1) B.pre
    have hts : ∀ w ∈ lw_tbl, w.before #[Value.ref b] s = true := k2_hts_sels lw_privs (fun w hw => hts0 w (List.mem_cons_of_mem _ hw)) lw_privs_ok
    have hml : c.maxLocals = 4 := B.maxLocals_eq (hts0 _ List.mem_cons_self)
    have X₀ : Stand p l e room_1 s m #[Value.ref b] below meth c s₁ [] 0 0 := Stand.of_body B
    have hh0 : s₁.heap = s.heap := by rw [B.state]; rfl
    have hsz : scr.slots.size = xs.length := by rw [← Array.length_toList, hlist, List.length_map]
    have hval : ∀ j : Nat, j < xs.length → scr.slots[j]? = some (.int (xs.getD j 0)) := fun j hj => by
      rw [← Array.getElem?_toList, hlist]
      simp [hj]
    have hbl : b < s.heap.size := (Array.getElem?_eq_some_iff.mp hcb).1
    have hX : va_X b xs.length (fun j => xs.getD j 0) s s.heap := ⟨scr, hcb, hof, hkn, hsz, hval⟩
    have K : W p l e room_1 s m #[Value.ref b] below meth c s₁.heap [] 0 0 (lw_Z below #[Value.ref b] s) (entryFrame m ([Value.ref b] : List Value).toArray 4) := by
      rw [hh0]
      exact whole_start l hflags hbd ⟨B.exec, B.bytes, B.returns, hml, hown, hts, hX, hbl, B.notSynchronized, hgv⟩
    obtain ⟨t, a1, o, b1, b2, b3⟩ := K s₁ rfl X₀
    exact ⟨t, o, a1, b1, b2, b3⟩
theorem lw_pre_spec {args : Array Value} {s : State} (h : (Jvm.Cond.and given_1 narrow_1).before args s = true) (hr : rest_1_c.before args s = true) : ∃ (b : Addr) (xs : List Int32), lw_P b xs args s := by
  have hs := flat_of_before _ h
  have hq := flat_of_before _ hr
  have hc : (Cond.count 1).before args s = true := hs _ (by decide +kernel)
  have harr : (Cond.arrayOf (.arg 0) .int).before args s = true := hs _ (by decide +kernel)
  have hle : (Cond.le (.length (.arg 0)) (.int 6)).before args s = true := hs _ (by decide +kernel)
  have hlen : (Cond.isInt (.length (.arg 0))).before args s = true := hq _ (by decide +kernel)
  have hall : (Cond.all (.arg 0) (.isInt (.elem (.arg 0) (.index 0)))).before args s = true := hq _ (by decide +kernel)
  obtain ⟨b, xs, hb, hx⟩ := State.ints_of_pre rfl harr hlen hall
  have hsm : xs.length < 2 ^ 31 := hx.choose_spec.2.2.2
  have hev : (Term.length (.arg 0)).eval args s none [] s = some (.int xs.length.toInt32) := hx.length_eval hb
  have hv := Cond.le_ints hev (show (Term.int 6).eval args s none [] s = some (.int 6) from rfl)
  have hd : xs.length.toInt32 ≤ 6 := by
    simpa [Cond.before, Cond.holds, hv] using hle
  have hN : xs.length ≤ 6 := (Int32.ofNat_le_ofNat hsm (by decide)).mp (show Int32.ofNat xs.length ≤ Int32.ofNat 6 from hd)
  exact ⟨b, xs, Cond.one_arg hc (show args[0]? = some (.ref b) from hb), hx, hN, h⟩
theorem lw_comes (l : Launch) (hflags : l.flags = flags0) : Comes l x (Jvm.Cond.code x code maxLocals ret :: tables_1) room_1 (fun tb e args s => Calls_1 tb e args s ∧ rest_1 tb e args s ∧ Pre_1 tb e args s)
    (fun _ _ args s o t => lw_Q args s o t) := by
  intro p e ha hc hk s m args below hf hfit hheap happ hpre
  obtain ⟨b, xs, hP⟩ := lw_pre_spec hpre.2.2 hpre.2.1
  obtain ⟨k, o, h1, h2, h3, hQ⟩ := lw_walk l hflags b xs p e ha hc hk s m args below hf ((Spec.applies_iff_loose hf).mp happ).1 hP trivial
  exact ⟨k, o, h1, h2, h3, hQ⟩
theorem lw_frame {s t : State} {o : Outcome} {args : Array Value} (h : Framed s o t [] 600000 7302249) :
    Framed s o t (fieldLocs frame_1_writes args s ++ arrayLocs frame_1_arrays args s ++ staticLocs frame_1_statics s) 600000 7302249 := h
theorem lw_limb (L : Cond) (hL : ∀ (args : Array Value) (s t : State), L.after args s (.returned (some (.int 1))) t = true) :
    ArmFor flags0 classFile x code maxLocals ret World_1 tables_1 room_1 Calls_1 rest_1 Pre_1
      (fun tb e a s o t => postC L tb e a s o t ∧ Framed s o t (fieldLocs frame_1_writes a s ++ arrayLocs frame_1_arrays a s ++ staticLocs frame_1_statics s) 600000 7302249) := by
  intro l hflags _ _ p e ha hc hk s m args below hf hfit hheap happ hpre
  obtain ⟨k, o, h1, h2, h3, rfl, hF⟩ := lw_comes l hflags p e ha hc hk s m args below hf hfit hheap happ hpre
  exact ⟨k, _, h1, h2, h3, hL args s _, lw_frame hF⟩
theorem i_vc : Claimed_1_1 ∧ Claimed_1_2 := ⟨lw_limb limb_1_1 (fun args s t => by simp [limb_1_1, Cond.after, Cond.holds, Cond.value]), lw_limb limb_1_2 (fun args s t => Cond.after_iff.mpr (by
  first | (rw [show limb_1_2 = Cond.eq .result (.int 1) from rfl, Cond.eq_ints (x := 1) (y := 1) rfl rfl]; simp; done) | (simp [limb_1_2, Cond.value, Term.eval]; done)))⟩
