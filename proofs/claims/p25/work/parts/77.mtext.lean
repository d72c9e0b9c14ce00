theorem sk_stop {F : Nat → Int32} {t : Nat} {c : Int32 → Bool} : ∀ (n p : Nat), t - p ≤ n → ¬ (skb F t c n p < t ∧ c (F (skb F t c n p)) = true)
  | 0, p, h => by
    show ¬ (p < t ∧ _)
    omega
  | n + 1, p, h => by
    rw [skb]
    split
    · exact sk_stop n (p + 1) (by omega)
    · rename_i hq
      exact hq
theorem sk_st {F : Nat → Int32} {t p : Nat} {c : Int32 → Bool} : ¬ (sk F t c p < t ∧ c (F (sk F t c p)) = true) := sk_stop _ _ (Nat.le_refl _)
theorem sk_id {F : Nat → Int32} {t p : Nat} {c : Int32 → Bool} : sk F t c (sk F t c p) = sk F t c p := sk_out sk_st
/-- all of a word from b on, then no letter -/
def mt (F : Nat → Int32) (t b : Nat) (w : List Int32) : Nat → Nat → Bool
  | 0, i => !(decide (b + i < t) && cL (F (b + i)))
  | n + 1, i => if b + i < t ∧ F (b + i) = w.getD i 0 then mt F t b w n (i + 1) else false
theorem mt_isn {F : Nat → Int32} {t b : Nat} {w : List Int32} (hw : ∀ i, i < w.length → cL (w.getD i 0) = true) : ∀ (n i : Nat), i + n = w.length → (mt F t b w n i = true ↔ (isn F b w n i = true ∧ sk F t cL (b + i) = b + w.length))
  | 0, i, h => by
    have hi : i = w.length := by omega
    subst hi
    rw [mt, isn]
    constructor
    · intro z
      refine ⟨rfl, sk_out (fun y => ?_)⟩
      rw [decide_eq_true y.1, y.2] at z
      cases z
    · rintro ⟨-, z⟩
      have := sk_st (F := F) (t := t) (c := cL) (p := b + w.length)
      rw [z] at this
      cases h1 : decide (b + w.length < t)
      · rfl
      · cases h2 : cL (F (b + w.length))
        · rfl
        · exact absurd ⟨of_decide_eq_true h1, h2⟩ this
  | n + 1, i, h => by
    rw [mt, isn]
    by_cases hc : F (b + i) = w.getD i 0
    · rw [if_pos hc]
      by_cases hb : b + i < t
      · rw [if_pos ⟨hb, hc⟩, mt_isn hw n (i + 1) (by omega), sk_in (c := cL) hb (by rw [hc]; exact hw i (by omega))]
        rfl
      · rw [if_neg (fun z => hb z.1)]
        constructor
        · intro z
          cases z
        · rintro ⟨-, z⟩
          rw [sk_out (fun y => hb y.1)] at z
          omega
    · rw [if_neg hc, if_neg (fun z => hc z.2)]
      constructor
      · intro z
        cases z
      · rintro ⟨z, -⟩
        cases z
theorem mt_isW {F : Nat → Int32} {t b : Nat} {w : List Int32} (hb : b ≤ t) (hw : ∀ i, i < w.length → cL (w.getD i 0) = true) (h0 : 0 < w.length) : mt F t b w w.length 0 = isW F b (sk F t cL b) w := by
  have h1 := mt_isn (F := F) (t := t) (b := b) hw w.length 0 (by omega)
  have h2 : b ≤ sk F t cL b := sk_ge _ _
  rw [Nat.add_zero] at h1
  unfold isW
  cases hm : mt F t b w w.length 0
  · cases hd : decide (sk F t cL b - b = w.length)
    · rfl
    · cases hi : isn F b w w.length 0
      · rfl
      · rw [hm] at h1
        have := h1.mpr ⟨hi, by have := of_decide_eq_true hd; omega⟩
        cases this
  · obtain ⟨a1, a2⟩ := h1.mp hm
    rw [a1, decide_eq_true (by omega)]
    rfl
theorem wd_L : ∀ k, k < 6 → ∀ i, i < (wd k).length → cL ((wd k).getD i 0) = true := by decide +kernel
theorem wh_0 {F : Nat → Int32} {t b : Nat} {h : PmH} {l : Option Value} {Q : Option Value × PmH → Prop} (ht : t ≤ 200) (hF : ∀ s, byR (F s)) (hb : b ≤ t) (hP : mp_P F t b h) (k1 : mt F t b (wd 0) 4 0 = true → Q (some (.int 0), h)) (k2 : mt F t b (wd 0) 4 0 = false → ∀ l', GoP pmT none cd_152 5 [some (.ref 70), some (.int 1), l'] [] h Q) : GoP pmT none cd_152 5 [some (.ref 70), some (.int 0), l] [] h Q := by
  have k4 : ph_r h 70 4 = some 72 := hi_r hP.1 rfl rfl (by decide)
  have e2 := hP.2.2.1
  have w0 : ph_i h 72 0 = 115 := hP.2.2.2.2 0 (by decide)
  have w1 : ph_i h 72 1 = 105 := hP.2.2.2.2 1 (by decide)
  have w2 : ph_i h 72 2 = 122 := hP.2.2.2.2 2 (by decide)
  have w3 : ph_i h 72 3 = 101 := hP.2.2.2.2 3 (by decide)
  have w4 : ph_i h 72 4 = 0 := hP.2.2.2.2 4 (by decide)
  have b0 := ba_ev (k := b + 0) ht (by omega) hP
  have b1 := ba_ev (k := b + 1) ht (by omega) hP
  have b2 := ba_ev (k := b + 2) ht (by omega) hP
  have b3 := ba_ev (k := b + 3) ht (by omega) hP
  have b4 := ba_ev (k := b + 4) ht (by omega) hP
  have hI := hP.1
  have q0 : bA F t (b + 0) = 115 ↔ (b + 0 < t ∧ F (b + 0) = 115) := bA_eq hF (by decide) (by decide)
  have q1 : bA F t (b + 1) = 105 ↔ (b + 1 < t ∧ F (b + 1) = 105) := bA_eq hF (by decide) (by decide)
  have q2 : bA F t (b + 2) = 122 ↔ (b + 2 < t ∧ F (b + 2) = 122) := bA_eq hF (by decide) (by decide)
  have q3 : bA F t (b + 3) = 101 ↔ (b + 3 < t ∧ F (b + 3) = 101) := bA_eq hF (by decide) (by decide)
  have qL : (97 ≤ bA F t (b + 4) ∧ bA F t (b + 4) ≤ 122) ↔ (b + 4 < t ∧ cL (F (b + 4)) = true) := bA_L hF
  have l1 := isL1 (x := bA F t (b + 4)) hI
  have l0 := isL0 (x := bA F t (b + 4)) hI
  clear hP
  obtain ⟨S, fi, fl, fr⟩ := h
  have hS : S = shT := hI.1
  subst hS
  have k4 : fr 70 4 = some 72 := k4
  have e2 : fi 70 2 = nI b := e2
  have w0 : fi 72 0 = 115 := w0
  have w1 : fi 72 1 = 105 := w1
  have w2 : fi 72 2 = 122 := w2
  have w3 : fi 72 3 = 101 := w3
  have w4 : fi 72 4 = 0 := w4
  by_cases c0 : b + 0 < t ∧ F (b + 0) = 115
  rotate_left
  · have k2 := k2 (by simp only [mt]; rw [if_neg (show ¬ (b + 0 < t ∧ F (b + 0) = (wd 0).getD 0 0) from c0)]) (some (.int 0))
    refine gp_n 2 (j' := 7) (lv' := [some (.ref 70), some (.int 0), l]) (st' := [.int 6, .int 0]) (h' := (shT, fi, fl, fr)) rfl ?_
    refine gp_of (fun _ k9 => g_icf rfl (show ¬ ((6 : Int32) ≤ (0 : Int32)) from by decide) k9) ?_
    refine gp_n 4 (j' := 12) (lv' := [some (.ref 70), some (.int 0), some (.int 0)]) (st' := [.int 5, .int 0]) (h' := (shT, fi, fl, fr)) rfl ?_
    refine gp_of (fun _ k9 => g_icf rfl (show ¬ ((5 : Int32) ≤ (0 : Int32)) from by decide) k9) ?_
    refine gp_n 1 (j' := 14) (lv' := [some (.ref 70), some (.int 0), some (.int 0)]) (st' := [.ref 70]) (h' := (shT, fi, fl, fr)) rfl ?_
    refine gp_of (fun _ k9 => g_getR (q' := 72) rfl rfl (by decide) k4 k9) ?_
    refine gp_n 5 (j' := 20) (lv' := [some (.ref 70), some (.int 0), some (.int 0)]) (st' := [.int 0, .ref 72]) (h' := (shT, fi, fl, fr)) rfl ?_
    refine gp_of (fun _ k9 => g_bald (k := 0) (x := 115) rfl rfl (by decide) (rfl) (by decide) (by decide) (w0) k9) ?_
    refine gp_of (fun _ k9 => g_iff rfl (show ¬ ((115 : Int32) = (0 : Int32)) from by decide) k9) ?_
    refine gp_n 2 (j' := 24) (lv' := [some (.ref 70), some (.int 0), some (.int 0)]) (st' := [.ref 70, .ref 70]) (h' := (shT, fi, fl, fr)) rfl ?_
    refine gp_of (fun _ k9 => g_getI (x := nI b) rfl (Or.inl rfl) rfl (by decide) (e2) k9) ?_
    refine gp_n 2 (j' := 27) (lv' := [some (.ref 70), some (.int 0), some (.int 0)]) (st' := [.int ((nI b) + 0), .ref 70]) (h' := (shT, fi, fl, fr)) rfl ?_
    rw [show nI b + 0 = nI (b + 0) from nI_add b 0]
    refine gp_of (fun _ k9 => g_call (y := 154) (as := [.ref 70, .int (nI (b + 0))]) (st' := []) rfl rfl (b0) k9) ?_
    refine gp_n 1 (j' := 29) (lv' := [some (.ref 70), some (.int 0), some (.int 0)]) (st' := [.ref 70, .int (bA F t (b + 0))]) (h' := (shT, fi, fl, fr)) rfl ?_
    refine gp_of (fun _ k9 => g_getR (q' := 72) rfl rfl (by decide) k4 k9) ?_
    refine gp_n 5 (j' := 35) (lv' := [some (.ref 70), some (.int 0), some (.int 0)]) (st' := [.int 0, .ref 72, .int (bA F t (b + 0))]) (h' := (shT, fi, fl, fr)) rfl ?_
    refine gp_of (fun _ k9 => g_bald (k := 0) (x := 115) rfl rfl (by decide) (rfl) (by decide) (by decide) (w0) k9) ?_
    refine gp_of (fun _ k9 => g_ict rfl (show ¬ (bA F t (b + 0)) = (115 : Int32) from fun z => c0 (q0.mp z)) k9) ?_
    refine gp_n 2 (j' := 41) (lv' := [some (.ref 70), some (.int 0), some (.int 0)]) (st' := [.int 5, .int 0]) (h' := (shT, fi, fl, fr)) rfl ?_
    refine gp_of (fun _ k9 => g_icf rfl (show ¬ ((0 : Int32) = (5 : Int32)) from by decide) k9) ?_
    refine gp_n 1 (j' := 43) (lv' := [some (.ref 70), some (.int 0), some (.int 0)]) (st' := [.ref 70]) (h' := (shT, fi, fl, fr)) rfl ?_
    refine gp_of (fun _ k9 => g_getR (q' := 72) rfl rfl (by decide) k4 k9) ?_
    refine gp_n 5 (j' := 49) (lv' := [some (.ref 70), some (.int 0), some (.int 0)]) (st' := [.int 0, .ref 72]) (h' := (shT, fi, fl, fr)) rfl ?_
    refine gp_of (fun _ k9 => g_bald (k := 0) (x := 115) rfl rfl (by decide) (rfl) (by decide) (by decide) (w0) k9) ?_
    refine gp_of (fun _ k9 => g_ift rfl (show ¬ (115 : Int32) = (0 : Int32) from by decide) k9) ?_
    refine gp_n 2 (j' := 5) (lv' := [some (.ref 70), some (.int 1), some (.int 0)]) (st' := []) (h' := (shT, fi, fl, fr)) rfl ?_
    exact k2
  by_cases c1 : b + 1 < t ∧ F (b + 1) = 105
  rotate_left
  · have k2 := k2 (by simp only [mt]; rw [if_pos (show b + 0 < t ∧ F (b + 0) = (wd 0).getD 0 0 from c0)]; rw [if_neg (show ¬ (b + 1 < t ∧ F (b + 1) = (wd 0).getD 1 0) from c1)]) (some (.int 1))
    refine gp_n 2 (j' := 7) (lv' := [some (.ref 70), some (.int 0), l]) (st' := [.int 6, .int 0]) (h' := (shT, fi, fl, fr)) rfl ?_
    refine gp_of (fun _ k9 => g_icf rfl (show ¬ ((6 : Int32) ≤ (0 : Int32)) from by decide) k9) ?_
    refine gp_n 4 (j' := 12) (lv' := [some (.ref 70), some (.int 0), some (.int 0)]) (st' := [.int 5, .int 0]) (h' := (shT, fi, fl, fr)) rfl ?_
    refine gp_of (fun _ k9 => g_icf rfl (show ¬ ((5 : Int32) ≤ (0 : Int32)) from by decide) k9) ?_
    refine gp_n 1 (j' := 14) (lv' := [some (.ref 70), some (.int 0), some (.int 0)]) (st' := [.ref 70]) (h' := (shT, fi, fl, fr)) rfl ?_
    refine gp_of (fun _ k9 => g_getR (q' := 72) rfl rfl (by decide) k4 k9) ?_
    refine gp_n 5 (j' := 20) (lv' := [some (.ref 70), some (.int 0), some (.int 0)]) (st' := [.int 0, .ref 72]) (h' := (shT, fi, fl, fr)) rfl ?_
    refine gp_of (fun _ k9 => g_bald (k := 0) (x := 115) rfl rfl (by decide) (rfl) (by decide) (by decide) (w0) k9) ?_
    refine gp_of (fun _ k9 => g_iff rfl (show ¬ ((115 : Int32) = (0 : Int32)) from by decide) k9) ?_
    refine gp_n 2 (j' := 24) (lv' := [some (.ref 70), some (.int 0), some (.int 0)]) (st' := [.ref 70, .ref 70]) (h' := (shT, fi, fl, fr)) rfl ?_
    refine gp_of (fun _ k9 => g_getI (x := nI b) rfl (Or.inl rfl) rfl (by decide) (e2) k9) ?_
    refine gp_n 2 (j' := 27) (lv' := [some (.ref 70), some (.int 0), some (.int 0)]) (st' := [.int ((nI b) + 0), .ref 70]) (h' := (shT, fi, fl, fr)) rfl ?_
    rw [show nI b + 0 = nI (b + 0) from nI_add b 0]
    refine gp_of (fun _ k9 => g_call (y := 154) (as := [.ref 70, .int (nI (b + 0))]) (st' := []) rfl rfl (b0) k9) ?_
    refine gp_n 1 (j' := 29) (lv' := [some (.ref 70), some (.int 0), some (.int 0)]) (st' := [.ref 70, .int (bA F t (b + 0))]) (h' := (shT, fi, fl, fr)) rfl ?_
    refine gp_of (fun _ k9 => g_getR (q' := 72) rfl rfl (by decide) k4 k9) ?_
    refine gp_n 5 (j' := 35) (lv' := [some (.ref 70), some (.int 0), some (.int 0)]) (st' := [.int 0, .ref 72, .int (bA F t (b + 0))]) (h' := (shT, fi, fl, fr)) rfl ?_
    refine gp_of (fun _ k9 => g_bald (k := 0) (x := 115) rfl rfl (by decide) (rfl) (by decide) (by decide) (w0) k9) ?_
    refine gp_of (fun _ k9 => g_icf rfl (show ¬ (¬ (bA F t (b + 0)) = (115 : Int32)) from fun z => z (q0.mpr c0)) k9) ?_
    refine gp_n 4 (j' := 12) (lv' := [some (.ref 70), some (.int 0), some (.int 1)]) (st' := [.int 5, .int 1]) (h' := (shT, fi, fl, fr)) rfl ?_
    refine gp_of (fun _ k9 => g_icf rfl (show ¬ ((5 : Int32) ≤ (1 : Int32)) from by decide) k9) ?_
    refine gp_n 1 (j' := 14) (lv' := [some (.ref 70), some (.int 0), some (.int 1)]) (st' := [.ref 70]) (h' := (shT, fi, fl, fr)) rfl ?_
    refine gp_of (fun _ k9 => g_getR (q' := 72) rfl rfl (by decide) k4 k9) ?_
    refine gp_n 5 (j' := 20) (lv' := [some (.ref 70), some (.int 0), some (.int 1)]) (st' := [.int 1, .ref 72]) (h' := (shT, fi, fl, fr)) rfl ?_
    refine gp_of (fun _ k9 => g_bald (k := 1) (x := 105) rfl rfl (by decide) (rfl) (by decide) (by decide) (w1) k9) ?_
    refine gp_of (fun _ k9 => g_iff rfl (show ¬ ((105 : Int32) = (0 : Int32)) from by decide) k9) ?_
    refine gp_n 2 (j' := 24) (lv' := [some (.ref 70), some (.int 0), some (.int 1)]) (st' := [.ref 70, .ref 70]) (h' := (shT, fi, fl, fr)) rfl ?_
    refine gp_of (fun _ k9 => g_getI (x := nI b) rfl (Or.inl rfl) rfl (by decide) (e2) k9) ?_
    refine gp_n 2 (j' := 27) (lv' := [some (.ref 70), some (.int 0), some (.int 1)]) (st' := [.int ((nI b) + 1), .ref 70]) (h' := (shT, fi, fl, fr)) rfl ?_
    rw [show nI b + 1 = nI (b + 1) from nI_add b 1]
    refine gp_of (fun _ k9 => g_call (y := 154) (as := [.ref 70, .int (nI (b + 1))]) (st' := []) rfl rfl (b1) k9) ?_
    refine gp_n 1 (j' := 29) (lv' := [some (.ref 70), some (.int 0), some (.int 1)]) (st' := [.ref 70, .int (bA F t (b + 1))]) (h' := (shT, fi, fl, fr)) rfl ?_
    refine gp_of (fun _ k9 => g_getR (q' := 72) rfl rfl (by decide) k4 k9) ?_
    refine gp_n 5 (j' := 35) (lv' := [some (.ref 70), some (.int 0), some (.int 1)]) (st' := [.int 1, .ref 72, .int (bA F t (b + 1))]) (h' := (shT, fi, fl, fr)) rfl ?_
    refine gp_of (fun _ k9 => g_bald (k := 1) (x := 105) rfl rfl (by decide) (rfl) (by decide) (by decide) (w1) k9) ?_
    refine gp_of (fun _ k9 => g_ict rfl (show ¬ (bA F t (b + 1)) = (105 : Int32) from fun z => c1 (q1.mp z)) k9) ?_
    refine gp_n 2 (j' := 41) (lv' := [some (.ref 70), some (.int 0), some (.int 1)]) (st' := [.int 5, .int 1]) (h' := (shT, fi, fl, fr)) rfl ?_
    refine gp_of (fun _ k9 => g_icf rfl (show ¬ ((1 : Int32) = (5 : Int32)) from by decide) k9) ?_
    refine gp_n 1 (j' := 43) (lv' := [some (.ref 70), some (.int 0), some (.int 1)]) (st' := [.ref 70]) (h' := (shT, fi, fl, fr)) rfl ?_
    refine gp_of (fun _ k9 => g_getR (q' := 72) rfl rfl (by decide) k4 k9) ?_
    refine gp_n 5 (j' := 49) (lv' := [some (.ref 70), some (.int 0), some (.int 1)]) (st' := [.int 1, .ref 72]) (h' := (shT, fi, fl, fr)) rfl ?_
    refine gp_of (fun _ k9 => g_bald (k := 1) (x := 105) rfl rfl (by decide) (rfl) (by decide) (by decide) (w1) k9) ?_
    refine gp_of (fun _ k9 => g_ift rfl (show ¬ (105 : Int32) = (0 : Int32) from by decide) k9) ?_
    refine gp_n 2 (j' := 5) (lv' := [some (.ref 70), some (.int 1), some (.int 1)]) (st' := []) (h' := (shT, fi, fl, fr)) rfl ?_
    exact k2
  by_cases c2 : b + 2 < t ∧ F (b + 2) = 122
  rotate_left
  · have k2 := k2 (by simp only [mt]; rw [if_pos (show b + 0 < t ∧ F (b + 0) = (wd 0).getD 0 0 from c0)]; rw [if_pos (show b + 1 < t ∧ F (b + 1) = (wd 0).getD 1 0 from c1)]; rw [if_neg (show ¬ (b + 2 < t ∧ F (b + 2) = (wd 0).getD 2 0) from c2)]) (some (.int 2))
    refine gp_n 2 (j' := 7) (lv' := [some (.ref 70), some (.int 0), l]) (st' := [.int 6, .int 0]) (h' := (shT, fi, fl, fr)) rfl ?_
    refine gp_of (fun _ k9 => g_icf rfl (show ¬ ((6 : Int32) ≤ (0 : Int32)) from by decide) k9) ?_
    refine gp_n 4 (j' := 12) (lv' := [some (.ref 70), some (.int 0), some (.int 0)]) (st' := [.int 5, .int 0]) (h' := (shT, fi, fl, fr)) rfl ?_
    refine gp_of (fun _ k9 => g_icf rfl (show ¬ ((5 : Int32) ≤ (0 : Int32)) from by decide) k9) ?_
    refine gp_n 1 (j' := 14) (lv' := [some (.ref 70), some (.int 0), some (.int 0)]) (st' := [.ref 70]) (h' := (shT, fi, fl, fr)) rfl ?_
    refine gp_of (fun _ k9 => g_getR (q' := 72) rfl rfl (by decide) k4 k9) ?_
    refine gp_n 5 (j' := 20) (lv' := [some (.ref 70), some (.int 0), some (.int 0)]) (st' := [.int 0, .ref 72]) (h' := (shT, fi, fl, fr)) rfl ?_
    refine gp_of (fun _ k9 => g_bald (k := 0) (x := 115) rfl rfl (by decide) (rfl) (by decide) (by decide) (w0) k9) ?_
    refine gp_of (fun _ k9 => g_iff rfl (show ¬ ((115 : Int32) = (0 : Int32)) from by decide) k9) ?_
    refine gp_n 2 (j' := 24) (lv' := [some (.ref 70), some (.int 0), some (.int 0)]) (st' := [.ref 70, .ref 70]) (h' := (shT, fi, fl, fr)) rfl ?_
    refine gp_of (fun _ k9 => g_getI (x := nI b) rfl (Or.inl rfl) rfl (by decide) (e2) k9) ?_
    refine gp_n 2 (j' := 27) (lv' := [some (.ref 70), some (.int 0), some (.int 0)]) (st' := [.int ((nI b) + 0), .ref 70]) (h' := (shT, fi, fl, fr)) rfl ?_
    rw [show nI b + 0 = nI (b + 0) from nI_add b 0]
    refine gp_of (fun _ k9 => g_call (y := 154) (as := [.ref 70, .int (nI (b + 0))]) (st' := []) rfl rfl (b0) k9) ?_
    refine gp_n 1 (j' := 29) (lv' := [some (.ref 70), some (.int 0), some (.int 0)]) (st' := [.ref 70, .int (bA F t (b + 0))]) (h' := (shT, fi, fl, fr)) rfl ?_
    refine gp_of (fun _ k9 => g_getR (q' := 72) rfl rfl (by decide) k4 k9) ?_
    refine gp_n 5 (j' := 35) (lv' := [some (.ref 70), some (.int 0), some (.int 0)]) (st' := [.int 0, .ref 72, .int (bA F t (b + 0))]) (h' := (shT, fi, fl, fr)) rfl ?_
    refine gp_of (fun _ k9 => g_bald (k := 0) (x := 115) rfl rfl (by decide) (rfl) (by decide) (by decide) (w0) k9) ?_
    refine gp_of (fun _ k9 => g_icf rfl (show ¬ (¬ (bA F t (b + 0)) = (115 : Int32)) from fun z => z (q0.mpr c0)) k9) ?_
    refine gp_n 4 (j' := 12) (lv' := [some (.ref 70), some (.int 0), some (.int 1)]) (st' := [.int 5, .int 1]) (h' := (shT, fi, fl, fr)) rfl ?_
    refine gp_of (fun _ k9 => g_icf rfl (show ¬ ((5 : Int32) ≤ (1 : Int32)) from by decide) k9) ?_
    refine gp_n 1 (j' := 14) (lv' := [some (.ref 70), some (.int 0), some (.int 1)]) (st' := [.ref 70]) (h' := (shT, fi, fl, fr)) rfl ?_
    refine gp_of (fun _ k9 => g_getR (q' := 72) rfl rfl (by decide) k4 k9) ?_
    refine gp_n 5 (j' := 20) (lv' := [some (.ref 70), some (.int 0), some (.int 1)]) (st' := [.int 1, .ref 72]) (h' := (shT, fi, fl, fr)) rfl ?_
    refine gp_of (fun _ k9 => g_bald (k := 1) (x := 105) rfl rfl (by decide) (rfl) (by decide) (by decide) (w1) k9) ?_
    refine gp_of (fun _ k9 => g_iff rfl (show ¬ ((105 : Int32) = (0 : Int32)) from by decide) k9) ?_
    refine gp_n 2 (j' := 24) (lv' := [some (.ref 70), some (.int 0), some (.int 1)]) (st' := [.ref 70, .ref 70]) (h' := (shT, fi, fl, fr)) rfl ?_
    refine gp_of (fun _ k9 => g_getI (x := nI b) rfl (Or.inl rfl) rfl (by decide) (e2) k9) ?_
    refine gp_n 2 (j' := 27) (lv' := [some (.ref 70), some (.int 0), some (.int 1)]) (st' := [.int ((nI b) + 1), .ref 70]) (h' := (shT, fi, fl, fr)) rfl ?_
    rw [show nI b + 1 = nI (b + 1) from nI_add b 1]
    refine gp_of (fun _ k9 => g_call (y := 154) (as := [.ref 70, .int (nI (b + 1))]) (st' := []) rfl rfl (b1) k9) ?_
    refine gp_n 1 (j' := 29) (lv' := [some (.ref 70), some (.int 0), some (.int 1)]) (st' := [.ref 70, .int (bA F t (b + 1))]) (h' := (shT, fi, fl, fr)) rfl ?_
    refine gp_of (fun _ k9 => g_getR (q' := 72) rfl rfl (by decide) k4 k9) ?_
    refine gp_n 5 (j' := 35) (lv' := [some (.ref 70), some (.int 0), some (.int 1)]) (st' := [.int 1, .ref 72, .int (bA F t (b + 1))]) (h' := (shT, fi, fl, fr)) rfl ?_
    refine gp_of (fun _ k9 => g_bald (k := 1) (x := 105) rfl rfl (by decide) (rfl) (by decide) (by decide) (w1) k9) ?_
    refine gp_of (fun _ k9 => g_icf rfl (show ¬ (¬ (bA F t (b + 1)) = (105 : Int32)) from fun z => z (q1.mpr c1)) k9) ?_
    refine gp_n 4 (j' := 12) (lv' := [some (.ref 70), some (.int 0), some (.int 2)]) (st' := [.int 5, .int 2]) (h' := (shT, fi, fl, fr)) rfl ?_
    refine gp_of (fun _ k9 => g_icf rfl (show ¬ ((5 : Int32) ≤ (2 : Int32)) from by decide) k9) ?_
    refine gp_n 1 (j' := 14) (lv' := [some (.ref 70), some (.int 0), some (.int 2)]) (st' := [.ref 70]) (h' := (shT, fi, fl, fr)) rfl ?_
    refine gp_of (fun _ k9 => g_getR (q' := 72) rfl rfl (by decide) k4 k9) ?_
    refine gp_n 5 (j' := 20) (lv' := [some (.ref 70), some (.int 0), some (.int 2)]) (st' := [.int 2, .ref 72]) (h' := (shT, fi, fl, fr)) rfl ?_
    refine gp_of (fun _ k9 => g_bald (k := 2) (x := 122) rfl rfl (by decide) (rfl) (by decide) (by decide) (w2) k9) ?_
    refine gp_of (fun _ k9 => g_iff rfl (show ¬ ((122 : Int32) = (0 : Int32)) from by decide) k9) ?_
    refine gp_n 2 (j' := 24) (lv' := [some (.ref 70), some (.int 0), some (.int 2)]) (st' := [.ref 70, .ref 70]) (h' := (shT, fi, fl, fr)) rfl ?_
    refine gp_of (fun _ k9 => g_getI (x := nI b) rfl (Or.inl rfl) rfl (by decide) (e2) k9) ?_
    refine gp_n 2 (j' := 27) (lv' := [some (.ref 70), some (.int 0), some (.int 2)]) (st' := [.int ((nI b) + 2), .ref 70]) (h' := (shT, fi, fl, fr)) rfl ?_
    rw [show nI b + 2 = nI (b + 2) from nI_add b 2]
    refine gp_of (fun _ k9 => g_call (y := 154) (as := [.ref 70, .int (nI (b + 2))]) (st' := []) rfl rfl (b2) k9) ?_
    refine gp_n 1 (j' := 29) (lv' := [some (.ref 70), some (.int 0), some (.int 2)]) (st' := [.ref 70, .int (bA F t (b + 2))]) (h' := (shT, fi, fl, fr)) rfl ?_
    refine gp_of (fun _ k9 => g_getR (q' := 72) rfl rfl (by decide) k4 k9) ?_
    refine gp_n 5 (j' := 35) (lv' := [some (.ref 70), some (.int 0), some (.int 2)]) (st' := [.int 2, .ref 72, .int (bA F t (b + 2))]) (h' := (shT, fi, fl, fr)) rfl ?_
    refine gp_of (fun _ k9 => g_bald (k := 2) (x := 122) rfl rfl (by decide) (rfl) (by decide) (by decide) (w2) k9) ?_
    refine gp_of (fun _ k9 => g_ict rfl (show ¬ (bA F t (b + 2)) = (122 : Int32) from fun z => c2 (q2.mp z)) k9) ?_
    refine gp_n 2 (j' := 41) (lv' := [some (.ref 70), some (.int 0), some (.int 2)]) (st' := [.int 5, .int 2]) (h' := (shT, fi, fl, fr)) rfl ?_
    refine gp_of (fun _ k9 => g_icf rfl (show ¬ ((2 : Int32) = (5 : Int32)) from by decide) k9) ?_
    refine gp_n 1 (j' := 43) (lv' := [some (.ref 70), some (.int 0), some (.int 2)]) (st' := [.ref 70]) (h' := (shT, fi, fl, fr)) rfl ?_
    refine gp_of (fun _ k9 => g_getR (q' := 72) rfl rfl (by decide) k4 k9) ?_
    refine gp_n 5 (j' := 49) (lv' := [some (.ref 70), some (.int 0), some (.int 2)]) (st' := [.int 2, .ref 72]) (h' := (shT, fi, fl, fr)) rfl ?_
    refine gp_of (fun _ k9 => g_bald (k := 2) (x := 122) rfl rfl (by decide) (rfl) (by decide) (by decide) (w2) k9) ?_
    refine gp_of (fun _ k9 => g_ift rfl (show ¬ (122 : Int32) = (0 : Int32) from by decide) k9) ?_
    refine gp_n 2 (j' := 5) (lv' := [some (.ref 70), some (.int 1), some (.int 2)]) (st' := []) (h' := (shT, fi, fl, fr)) rfl ?_
    exact k2
  by_cases c3 : b + 3 < t ∧ F (b + 3) = 101
  rotate_left
  · have k2 := k2 (by simp only [mt]; rw [if_pos (show b + 0 < t ∧ F (b + 0) = (wd 0).getD 0 0 from c0)]; rw [if_pos (show b + 1 < t ∧ F (b + 1) = (wd 0).getD 1 0 from c1)]; rw [if_pos (show b + 2 < t ∧ F (b + 2) = (wd 0).getD 2 0 from c2)]; rw [if_neg (show ¬ (b + 3 < t ∧ F (b + 3) = (wd 0).getD 3 0) from c3)]) (some (.int 3))
    refine gp_n 2 (j' := 7) (lv' := [some (.ref 70), some (.int 0), l]) (st' := [.int 6, .int 0]) (h' := (shT, fi, fl, fr)) rfl ?_
    refine gp_of (fun _ k9 => g_icf rfl (show ¬ ((6 : Int32) ≤ (0 : Int32)) from by decide) k9) ?_
    refine gp_n 4 (j' := 12) (lv' := [some (.ref 70), some (.int 0), some (.int 0)]) (st' := [.int 5, .int 0]) (h' := (shT, fi, fl, fr)) rfl ?_
    refine gp_of (fun _ k9 => g_icf rfl (show ¬ ((5 : Int32) ≤ (0 : Int32)) from by decide) k9) ?_
    refine gp_n 1 (j' := 14) (lv' := [some (.ref 70), some (.int 0), some (.int 0)]) (st' := [.ref 70]) (h' := (shT, fi, fl, fr)) rfl ?_
    refine gp_of (fun _ k9 => g_getR (q' := 72) rfl rfl (by decide) k4 k9) ?_
    refine gp_n 5 (j' := 20) (lv' := [some (.ref 70), some (.int 0), some (.int 0)]) (st' := [.int 0, .ref 72]) (h' := (shT, fi, fl, fr)) rfl ?_
    refine gp_of (fun _ k9 => g_bald (k := 0) (x := 115) rfl rfl (by decide) (rfl) (by decide) (by decide) (w0) k9) ?_
    refine gp_of (fun _ k9 => g_iff rfl (show ¬ ((115 : Int32) = (0 : Int32)) from by decide) k9) ?_
    refine gp_n 2 (j' := 24) (lv' := [some (.ref 70), some (.int 0), some (.int 0)]) (st' := [.ref 70, .ref 70]) (h' := (shT, fi, fl, fr)) rfl ?_
    refine gp_of (fun _ k9 => g_getI (x := nI b) rfl (Or.inl rfl) rfl (by decide) (e2) k9) ?_
    refine gp_n 2 (j' := 27) (lv' := [some (.ref 70), some (.int 0), some (.int 0)]) (st' := [.int ((nI b) + 0), .ref 70]) (h' := (shT, fi, fl, fr)) rfl ?_
    rw [show nI b + 0 = nI (b + 0) from nI_add b 0]
    refine gp_of (fun _ k9 => g_call (y := 154) (as := [.ref 70, .int (nI (b + 0))]) (st' := []) rfl rfl (b0) k9) ?_
    refine gp_n 1 (j' := 29) (lv' := [some (.ref 70), some (.int 0), some (.int 0)]) (st' := [.ref 70, .int (bA F t (b + 0))]) (h' := (shT, fi, fl, fr)) rfl ?_
    refine gp_of (fun _ k9 => g_getR (q' := 72) rfl rfl (by decide) k4 k9) ?_
    refine gp_n 5 (j' := 35) (lv' := [some (.ref 70), some (.int 0), some (.int 0)]) (st' := [.int 0, .ref 72, .int (bA F t (b + 0))]) (h' := (shT, fi, fl, fr)) rfl ?_
    refine gp_of (fun _ k9 => g_bald (k := 0) (x := 115) rfl rfl (by decide) (rfl) (by decide) (by decide) (w0) k9) ?_
    refine gp_of (fun _ k9 => g_icf rfl (show ¬ (¬ (bA F t (b + 0)) = (115 : Int32)) from fun z => z (q0.mpr c0)) k9) ?_
    refine gp_n 4 (j' := 12) (lv' := [some (.ref 70), some (.int 0), some (.int 1)]) (st' := [.int 5, .int 1]) (h' := (shT, fi, fl, fr)) rfl ?_
    refine gp_of (fun _ k9 => g_icf rfl (show ¬ ((5 : Int32) ≤ (1 : Int32)) from by decide) k9) ?_
    refine gp_n 1 (j' := 14) (lv' := [some (.ref 70), some (.int 0), some (.int 1)]) (st' := [.ref 70]) (h' := (shT, fi, fl, fr)) rfl ?_
    refine gp_of (fun _ k9 => g_getR (q' := 72) rfl rfl (by decide) k4 k9) ?_
    refine gp_n 5 (j' := 20) (lv' := [some (.ref 70), some (.int 0), some (.int 1)]) (st' := [.int 1, .ref 72]) (h' := (shT, fi, fl, fr)) rfl ?_
    refine gp_of (fun _ k9 => g_bald (k := 1) (x := 105) rfl rfl (by decide) (rfl) (by decide) (by decide) (w1) k9) ?_
    refine gp_of (fun _ k9 => g_iff rfl (show ¬ ((105 : Int32) = (0 : Int32)) from by decide) k9) ?_
    refine gp_n 2 (j' := 24) (lv' := [some (.ref 70), some (.int 0), some (.int 1)]) (st' := [.ref 70, .ref 70]) (h' := (shT, fi, fl, fr)) rfl ?_
    refine gp_of (fun _ k9 => g_getI (x := nI b) rfl (Or.inl rfl) rfl (by decide) (e2) k9) ?_
    refine gp_n 2 (j' := 27) (lv' := [some (.ref 70), some (.int 0), some (.int 1)]) (st' := [.int ((nI b) + 1), .ref 70]) (h' := (shT, fi, fl, fr)) rfl ?_
    rw [show nI b + 1 = nI (b + 1) from nI_add b 1]
    refine gp_of (fun _ k9 => g_call (y := 154) (as := [.ref 70, .int (nI (b + 1))]) (st' := []) rfl rfl (b1) k9) ?_
    refine gp_n 1 (j' := 29) (lv' := [some (.ref 70), some (.int 0), some (.int 1)]) (st' := [.ref 70, .int (bA F t (b + 1))]) (h' := (shT, fi, fl, fr)) rfl ?_
    refine gp_of (fun _ k9 => g_getR (q' := 72) rfl rfl (by decide) k4 k9) ?_
    refine gp_n 5 (j' := 35) (lv' := [some (.ref 70), some (.int 0), some (.int 1)]) (st' := [.int 1, .ref 72, .int (bA F t (b + 1))]) (h' := (shT, fi, fl, fr)) rfl ?_
    refine gp_of (fun _ k9 => g_bald (k := 1) (x := 105) rfl rfl (by decide) (rfl) (by decide) (by decide) (w1) k9) ?_
    refine gp_of (fun _ k9 => g_icf rfl (show ¬ (¬ (bA F t (b + 1)) = (105 : Int32)) from fun z => z (q1.mpr c1)) k9) ?_
    refine gp_n 4 (j' := 12) (lv' := [some (.ref 70), some (.int 0), some (.int 2)]) (st' := [.int 5, .int 2]) (h' := (shT, fi, fl, fr)) rfl ?_
    refine gp_of (fun _ k9 => g_icf rfl (show ¬ ((5 : Int32) ≤ (2 : Int32)) from by decide) k9) ?_
    refine gp_n 1 (j' := 14) (lv' := [some (.ref 70), some (.int 0), some (.int 2)]) (st' := [.ref 70]) (h' := (shT, fi, fl, fr)) rfl ?_
    refine gp_of (fun _ k9 => g_getR (q' := 72) rfl rfl (by decide) k4 k9) ?_
    refine gp_n 5 (j' := 20) (lv' := [some (.ref 70), some (.int 0), some (.int 2)]) (st' := [.int 2, .ref 72]) (h' := (shT, fi, fl, fr)) rfl ?_
    refine gp_of (fun _ k9 => g_bald (k := 2) (x := 122) rfl rfl (by decide) (rfl) (by decide) (by decide) (w2) k9) ?_
    refine gp_of (fun _ k9 => g_iff rfl (show ¬ ((122 : Int32) = (0 : Int32)) from by decide) k9) ?_
    refine gp_n 2 (j' := 24) (lv' := [some (.ref 70), some (.int 0), some (.int 2)]) (st' := [.ref 70, .ref 70]) (h' := (shT, fi, fl, fr)) rfl ?_
    refine gp_of (fun _ k9 => g_getI (x := nI b) rfl (Or.inl rfl) rfl (by decide) (e2) k9) ?_
    refine gp_n 2 (j' := 27) (lv' := [some (.ref 70), some (.int 0), some (.int 2)]) (st' := [.int ((nI b) + 2), .ref 70]) (h' := (shT, fi, fl, fr)) rfl ?_
    rw [show nI b + 2 = nI (b + 2) from nI_add b 2]
    refine gp_of (fun _ k9 => g_call (y := 154) (as := [.ref 70, .int (nI (b + 2))]) (st' := []) rfl rfl (b2) k9) ?_
    refine gp_n 1 (j' := 29) (lv' := [some (.ref 70), some (.int 0), some (.int 2)]) (st' := [.ref 70, .int (bA F t (b + 2))]) (h' := (shT, fi, fl, fr)) rfl ?_
    refine gp_of (fun _ k9 => g_getR (q' := 72) rfl rfl (by decide) k4 k9) ?_
    refine gp_n 5 (j' := 35) (lv' := [some (.ref 70), some (.int 0), some (.int 2)]) (st' := [.int 2, .ref 72, .int (bA F t (b + 2))]) (h' := (shT, fi, fl, fr)) rfl ?_
    refine gp_of (fun _ k9 => g_bald (k := 2) (x := 122) rfl rfl (by decide) (rfl) (by decide) (by decide) (w2) k9) ?_
    refine gp_of (fun _ k9 => g_icf rfl (show ¬ (¬ (bA F t (b + 2)) = (122 : Int32)) from fun z => z (q2.mpr c2)) k9) ?_
    refine gp_n 4 (j' := 12) (lv' := [some (.ref 70), some (.int 0), some (.int 3)]) (st' := [.int 5, .int 3]) (h' := (shT, fi, fl, fr)) rfl ?_
    refine gp_of (fun _ k9 => g_icf rfl (show ¬ ((5 : Int32) ≤ (3 : Int32)) from by decide) k9) ?_
    refine gp_n 1 (j' := 14) (lv' := [some (.ref 70), some (.int 0), some (.int 3)]) (st' := [.ref 70]) (h' := (shT, fi, fl, fr)) rfl ?_
    refine gp_of (fun _ k9 => g_getR (q' := 72) rfl rfl (by decide) k4 k9) ?_
    refine gp_n 5 (j' := 20) (lv' := [some (.ref 70), some (.int 0), some (.int 3)]) (st' := [.int 3, .ref 72]) (h' := (shT, fi, fl, fr)) rfl ?_
    refine gp_of (fun _ k9 => g_bald (k := 3) (x := 101) rfl rfl (by decide) (rfl) (by decide) (by decide) (w3) k9) ?_
    refine gp_of (fun _ k9 => g_iff rfl (show ¬ ((101 : Int32) = (0 : Int32)) from by decide) k9) ?_
    refine gp_n 2 (j' := 24) (lv' := [some (.ref 70), some (.int 0), some (.int 3)]) (st' := [.ref 70, .ref 70]) (h' := (shT, fi, fl, fr)) rfl ?_
    refine gp_of (fun _ k9 => g_getI (x := nI b) rfl (Or.inl rfl) rfl (by decide) (e2) k9) ?_
    refine gp_n 2 (j' := 27) (lv' := [some (.ref 70), some (.int 0), some (.int 3)]) (st' := [.int ((nI b) + 3), .ref 70]) (h' := (shT, fi, fl, fr)) rfl ?_
    rw [show nI b + 3 = nI (b + 3) from nI_add b 3]
    refine gp_of (fun _ k9 => g_call (y := 154) (as := [.ref 70, .int (nI (b + 3))]) (st' := []) rfl rfl (b3) k9) ?_
    refine gp_n 1 (j' := 29) (lv' := [some (.ref 70), some (.int 0), some (.int 3)]) (st' := [.ref 70, .int (bA F t (b + 3))]) (h' := (shT, fi, fl, fr)) rfl ?_
    refine gp_of (fun _ k9 => g_getR (q' := 72) rfl rfl (by decide) k4 k9) ?_
    refine gp_n 5 (j' := 35) (lv' := [some (.ref 70), some (.int 0), some (.int 3)]) (st' := [.int 3, .ref 72, .int (bA F t (b + 3))]) (h' := (shT, fi, fl, fr)) rfl ?_
    refine gp_of (fun _ k9 => g_bald (k := 3) (x := 101) rfl rfl (by decide) (rfl) (by decide) (by decide) (w3) k9) ?_
    refine gp_of (fun _ k9 => g_ict rfl (show ¬ (bA F t (b + 3)) = (101 : Int32) from fun z => c3 (q3.mp z)) k9) ?_
    refine gp_n 2 (j' := 41) (lv' := [some (.ref 70), some (.int 0), some (.int 3)]) (st' := [.int 5, .int 3]) (h' := (shT, fi, fl, fr)) rfl ?_
    refine gp_of (fun _ k9 => g_icf rfl (show ¬ ((3 : Int32) = (5 : Int32)) from by decide) k9) ?_
    refine gp_n 1 (j' := 43) (lv' := [some (.ref 70), some (.int 0), some (.int 3)]) (st' := [.ref 70]) (h' := (shT, fi, fl, fr)) rfl ?_
    refine gp_of (fun _ k9 => g_getR (q' := 72) rfl rfl (by decide) k4 k9) ?_
    refine gp_n 5 (j' := 49) (lv' := [some (.ref 70), some (.int 0), some (.int 3)]) (st' := [.int 3, .ref 72]) (h' := (shT, fi, fl, fr)) rfl ?_
    refine gp_of (fun _ k9 => g_bald (k := 3) (x := 101) rfl rfl (by decide) (rfl) (by decide) (by decide) (w3) k9) ?_
    refine gp_of (fun _ k9 => g_ift rfl (show ¬ (101 : Int32) = (0 : Int32) from by decide) k9) ?_
    refine gp_n 2 (j' := 5) (lv' := [some (.ref 70), some (.int 1), some (.int 3)]) (st' := []) (h' := (shT, fi, fl, fr)) rfl ?_
    exact k2
  by_cases cz : b + 4 < t ∧ cL (F (b + 4)) = true
  · have k2 := k2 (by simp only [mt]; rw [if_pos (show b + 0 < t ∧ F (b + 0) = (wd 0).getD 0 0 from c0)]; rw [if_pos (show b + 1 < t ∧ F (b + 1) = (wd 0).getD 1 0 from c1)]; rw [if_pos (show b + 2 < t ∧ F (b + 2) = (wd 0).getD 2 0 from c2)]; rw [if_pos (show b + 3 < t ∧ F (b + 3) = (wd 0).getD 3 0 from c3)]; rw [decide_eq_true cz.1, cz.2]; rfl) (some (.int 4))
    have l1 := l1 (qL.mpr cz)
    refine gp_n 2 (j' := 7) (lv' := [some (.ref 70), some (.int 0), l]) (st' := [.int 6, .int 0]) (h' := (shT, fi, fl, fr)) rfl ?_
    refine gp_of (fun _ k9 => g_icf rfl (show ¬ ((6 : Int32) ≤ (0 : Int32)) from by decide) k9) ?_
    refine gp_n 4 (j' := 12) (lv' := [some (.ref 70), some (.int 0), some (.int 0)]) (st' := [.int 5, .int 0]) (h' := (shT, fi, fl, fr)) rfl ?_
    refine gp_of (fun _ k9 => g_icf rfl (show ¬ ((5 : Int32) ≤ (0 : Int32)) from by decide) k9) ?_
    refine gp_n 1 (j' := 14) (lv' := [some (.ref 70), some (.int 0), some (.int 0)]) (st' := [.ref 70]) (h' := (shT, fi, fl, fr)) rfl ?_
    refine gp_of (fun _ k9 => g_getR (q' := 72) rfl rfl (by decide) k4 k9) ?_
    refine gp_n 5 (j' := 20) (lv' := [some (.ref 70), some (.int 0), some (.int 0)]) (st' := [.int 0, .ref 72]) (h' := (shT, fi, fl, fr)) rfl ?_
    refine gp_of (fun _ k9 => g_bald (k := 0) (x := 115) rfl rfl (by decide) (rfl) (by decide) (by decide) (w0) k9) ?_
    refine gp_of (fun _ k9 => g_iff rfl (show ¬ ((115 : Int32) = (0 : Int32)) from by decide) k9) ?_
    refine gp_n 2 (j' := 24) (lv' := [some (.ref 70), some (.int 0), some (.int 0)]) (st' := [.ref 70, .ref 70]) (h' := (shT, fi, fl, fr)) rfl ?_
    refine gp_of (fun _ k9 => g_getI (x := nI b) rfl (Or.inl rfl) rfl (by decide) (e2) k9) ?_
    refine gp_n 2 (j' := 27) (lv' := [some (.ref 70), some (.int 0), some (.int 0)]) (st' := [.int ((nI b) + 0), .ref 70]) (h' := (shT, fi, fl, fr)) rfl ?_
    rw [show nI b + 0 = nI (b + 0) from nI_add b 0]
    refine gp_of (fun _ k9 => g_call (y := 154) (as := [.ref 70, .int (nI (b + 0))]) (st' := []) rfl rfl (b0) k9) ?_
    refine gp_n 1 (j' := 29) (lv' := [some (.ref 70), some (.int 0), some (.int 0)]) (st' := [.ref 70, .int (bA F t (b + 0))]) (h' := (shT, fi, fl, fr)) rfl ?_
    refine gp_of (fun _ k9 => g_getR (q' := 72) rfl rfl (by decide) k4 k9) ?_
    refine gp_n 5 (j' := 35) (lv' := [some (.ref 70), some (.int 0), some (.int 0)]) (st' := [.int 0, .ref 72, .int (bA F t (b + 0))]) (h' := (shT, fi, fl, fr)) rfl ?_
    refine gp_of (fun _ k9 => g_bald (k := 0) (x := 115) rfl rfl (by decide) (rfl) (by decide) (by decide) (w0) k9) ?_
    refine gp_of (fun _ k9 => g_icf rfl (show ¬ (¬ (bA F t (b + 0)) = (115 : Int32)) from fun z => z (q0.mpr c0)) k9) ?_
    refine gp_n 4 (j' := 12) (lv' := [some (.ref 70), some (.int 0), some (.int 1)]) (st' := [.int 5, .int 1]) (h' := (shT, fi, fl, fr)) rfl ?_
    refine gp_of (fun _ k9 => g_icf rfl (show ¬ ((5 : Int32) ≤ (1 : Int32)) from by decide) k9) ?_
    refine gp_n 1 (j' := 14) (lv' := [some (.ref 70), some (.int 0), some (.int 1)]) (st' := [.ref 70]) (h' := (shT, fi, fl, fr)) rfl ?_
    refine gp_of (fun _ k9 => g_getR (q' := 72) rfl rfl (by decide) k4 k9) ?_
    refine gp_n 5 (j' := 20) (lv' := [some (.ref 70), some (.int 0), some (.int 1)]) (st' := [.int 1, .ref 72]) (h' := (shT, fi, fl, fr)) rfl ?_
    refine gp_of (fun _ k9 => g_bald (k := 1) (x := 105) rfl rfl (by decide) (rfl) (by decide) (by decide) (w1) k9) ?_
    refine gp_of (fun _ k9 => g_iff rfl (show ¬ ((105 : Int32) = (0 : Int32)) from by decide) k9) ?_
    refine gp_n 2 (j' := 24) (lv' := [some (.ref 70), some (.int 0), some (.int 1)]) (st' := [.ref 70, .ref 70]) (h' := (shT, fi, fl, fr)) rfl ?_
    refine gp_of (fun _ k9 => g_getI (x := nI b) rfl (Or.inl rfl) rfl (by decide) (e2) k9) ?_
    refine gp_n 2 (j' := 27) (lv' := [some (.ref 70), some (.int 0), some (.int 1)]) (st' := [.int ((nI b) + 1), .ref 70]) (h' := (shT, fi, fl, fr)) rfl ?_
    rw [show nI b + 1 = nI (b + 1) from nI_add b 1]
    refine gp_of (fun _ k9 => g_call (y := 154) (as := [.ref 70, .int (nI (b + 1))]) (st' := []) rfl rfl (b1) k9) ?_
    refine gp_n 1 (j' := 29) (lv' := [some (.ref 70), some (.int 0), some (.int 1)]) (st' := [.ref 70, .int (bA F t (b + 1))]) (h' := (shT, fi, fl, fr)) rfl ?_
    refine gp_of (fun _ k9 => g_getR (q' := 72) rfl rfl (by decide) k4 k9) ?_
    refine gp_n 5 (j' := 35) (lv' := [some (.ref 70), some (.int 0), some (.int 1)]) (st' := [.int 1, .ref 72, .int (bA F t (b + 1))]) (h' := (shT, fi, fl, fr)) rfl ?_
    refine gp_of (fun _ k9 => g_bald (k := 1) (x := 105) rfl rfl (by decide) (rfl) (by decide) (by decide) (w1) k9) ?_
    refine gp_of (fun _ k9 => g_icf rfl (show ¬ (¬ (bA F t (b + 1)) = (105 : Int32)) from fun z => z (q1.mpr c1)) k9) ?_
    refine gp_n 4 (j' := 12) (lv' := [some (.ref 70), some (.int 0), some (.int 2)]) (st' := [.int 5, .int 2]) (h' := (shT, fi, fl, fr)) rfl ?_
    refine gp_of (fun _ k9 => g_icf rfl (show ¬ ((5 : Int32) ≤ (2 : Int32)) from by decide) k9) ?_
    refine gp_n 1 (j' := 14) (lv' := [some (.ref 70), some (.int 0), some (.int 2)]) (st' := [.ref 70]) (h' := (shT, fi, fl, fr)) rfl ?_
    refine gp_of (fun _ k9 => g_getR (q' := 72) rfl rfl (by decide) k4 k9) ?_
    refine gp_n 5 (j' := 20) (lv' := [some (.ref 70), some (.int 0), some (.int 2)]) (st' := [.int 2, .ref 72]) (h' := (shT, fi, fl, fr)) rfl ?_
    refine gp_of (fun _ k9 => g_bald (k := 2) (x := 122) rfl rfl (by decide) (rfl) (by decide) (by decide) (w2) k9) ?_
    refine gp_of (fun _ k9 => g_iff rfl (show ¬ ((122 : Int32) = (0 : Int32)) from by decide) k9) ?_
    refine gp_n 2 (j' := 24) (lv' := [some (.ref 70), some (.int 0), some (.int 2)]) (st' := [.ref 70, .ref 70]) (h' := (shT, fi, fl, fr)) rfl ?_
    refine gp_of (fun _ k9 => g_getI (x := nI b) rfl (Or.inl rfl) rfl (by decide) (e2) k9) ?_
    refine gp_n 2 (j' := 27) (lv' := [some (.ref 70), some (.int 0), some (.int 2)]) (st' := [.int ((nI b) + 2), .ref 70]) (h' := (shT, fi, fl, fr)) rfl ?_
    rw [show nI b + 2 = nI (b + 2) from nI_add b 2]
    refine gp_of (fun _ k9 => g_call (y := 154) (as := [.ref 70, .int (nI (b + 2))]) (st' := []) rfl rfl (b2) k9) ?_
    refine gp_n 1 (j' := 29) (lv' := [some (.ref 70), some (.int 0), some (.int 2)]) (st' := [.ref 70, .int (bA F t (b + 2))]) (h' := (shT, fi, fl, fr)) rfl ?_
    refine gp_of (fun _ k9 => g_getR (q' := 72) rfl rfl (by decide) k4 k9) ?_
    refine gp_n 5 (j' := 35) (lv' := [some (.ref 70), some (.int 0), some (.int 2)]) (st' := [.int 2, .ref 72, .int (bA F t (b + 2))]) (h' := (shT, fi, fl, fr)) rfl ?_
    refine gp_of (fun _ k9 => g_bald (k := 2) (x := 122) rfl rfl (by decide) (rfl) (by decide) (by decide) (w2) k9) ?_
    refine gp_of (fun _ k9 => g_icf rfl (show ¬ (¬ (bA F t (b + 2)) = (122 : Int32)) from fun z => z (q2.mpr c2)) k9) ?_
    refine gp_n 4 (j' := 12) (lv' := [some (.ref 70), some (.int 0), some (.int 3)]) (st' := [.int 5, .int 3]) (h' := (shT, fi, fl, fr)) rfl ?_
    refine gp_of (fun _ k9 => g_icf rfl (show ¬ ((5 : Int32) ≤ (3 : Int32)) from by decide) k9) ?_
    refine gp_n 1 (j' := 14) (lv' := [some (.ref 70), some (.int 0), some (.int 3)]) (st' := [.ref 70]) (h' := (shT, fi, fl, fr)) rfl ?_
    refine gp_of (fun _ k9 => g_getR (q' := 72) rfl rfl (by decide) k4 k9) ?_
    refine gp_n 5 (j' := 20) (lv' := [some (.ref 70), some (.int 0), some (.int 3)]) (st' := [.int 3, .ref 72]) (h' := (shT, fi, fl, fr)) rfl ?_
    refine gp_of (fun _ k9 => g_bald (k := 3) (x := 101) rfl rfl (by decide) (rfl) (by decide) (by decide) (w3) k9) ?_
    refine gp_of (fun _ k9 => g_iff rfl (show ¬ ((101 : Int32) = (0 : Int32)) from by decide) k9) ?_
    refine gp_n 2 (j' := 24) (lv' := [some (.ref 70), some (.int 0), some (.int 3)]) (st' := [.ref 70, .ref 70]) (h' := (shT, fi, fl, fr)) rfl ?_
    refine gp_of (fun _ k9 => g_getI (x := nI b) rfl (Or.inl rfl) rfl (by decide) (e2) k9) ?_
    refine gp_n 2 (j' := 27) (lv' := [some (.ref 70), some (.int 0), some (.int 3)]) (st' := [.int ((nI b) + 3), .ref 70]) (h' := (shT, fi, fl, fr)) rfl ?_
    rw [show nI b + 3 = nI (b + 3) from nI_add b 3]
    refine gp_of (fun _ k9 => g_call (y := 154) (as := [.ref 70, .int (nI (b + 3))]) (st' := []) rfl rfl (b3) k9) ?_
    refine gp_n 1 (j' := 29) (lv' := [some (.ref 70), some (.int 0), some (.int 3)]) (st' := [.ref 70, .int (bA F t (b + 3))]) (h' := (shT, fi, fl, fr)) rfl ?_
    refine gp_of (fun _ k9 => g_getR (q' := 72) rfl rfl (by decide) k4 k9) ?_
    refine gp_n 5 (j' := 35) (lv' := [some (.ref 70), some (.int 0), some (.int 3)]) (st' := [.int 3, .ref 72, .int (bA F t (b + 3))]) (h' := (shT, fi, fl, fr)) rfl ?_
    refine gp_of (fun _ k9 => g_bald (k := 3) (x := 101) rfl rfl (by decide) (rfl) (by decide) (by decide) (w3) k9) ?_
    refine gp_of (fun _ k9 => g_icf rfl (show ¬ (¬ (bA F t (b + 3)) = (101 : Int32)) from fun z => z (q3.mpr c3)) k9) ?_
    refine gp_n 4 (j' := 12) (lv' := [some (.ref 70), some (.int 0), some (.int 4)]) (st' := [.int 5, .int 4]) (h' := (shT, fi, fl, fr)) rfl ?_
    refine gp_of (fun _ k9 => g_icf rfl (show ¬ ((5 : Int32) ≤ (4 : Int32)) from by decide) k9) ?_
    refine gp_n 1 (j' := 14) (lv' := [some (.ref 70), some (.int 0), some (.int 4)]) (st' := [.ref 70]) (h' := (shT, fi, fl, fr)) rfl ?_
    refine gp_of (fun _ k9 => g_getR (q' := 72) rfl rfl (by decide) k4 k9) ?_
    refine gp_n 5 (j' := 20) (lv' := [some (.ref 70), some (.int 0), some (.int 4)]) (st' := [.int 4, .ref 72]) (h' := (shT, fi, fl, fr)) rfl ?_
    refine gp_of (fun _ k9 => g_bald (k := 4) (x := 0) rfl rfl (by decide) (rfl) (by decide) (by decide) (w4) k9) ?_
    refine gp_of (fun _ k9 => g_ift rfl (show (0 : Int32) = (0 : Int32) from by decide) k9) ?_
    refine gp_n 2 (j' := 41) (lv' := [some (.ref 70), some (.int 0), some (.int 4)]) (st' := [.int 5, .int 4]) (h' := (shT, fi, fl, fr)) rfl ?_
    refine gp_of (fun _ k9 => g_icf rfl (show ¬ ((4 : Int32) = (5 : Int32)) from by decide) k9) ?_
    refine gp_n 1 (j' := 43) (lv' := [some (.ref 70), some (.int 0), some (.int 4)]) (st' := [.ref 70]) (h' := (shT, fi, fl, fr)) rfl ?_
    refine gp_of (fun _ k9 => g_getR (q' := 72) rfl rfl (by decide) k4 k9) ?_
    refine gp_n 5 (j' := 49) (lv' := [some (.ref 70), some (.int 0), some (.int 4)]) (st' := [.int 4, .ref 72]) (h' := (shT, fi, fl, fr)) rfl ?_
    refine gp_of (fun _ k9 => g_bald (k := 4) (x := 0) rfl rfl (by decide) (rfl) (by decide) (by decide) (w4) k9) ?_
    refine gp_of (fun _ k9 => g_iff rfl (show ¬ (¬ (0 : Int32) = (0 : Int32)) from by decide) k9) ?_
    refine gp_n 2 (j' := 53) (lv' := [some (.ref 70), some (.int 0), some (.int 4)]) (st' := [.ref 70, .ref 70]) (h' := (shT, fi, fl, fr)) rfl ?_
    refine gp_of (fun _ k9 => g_getI (x := nI b) rfl (Or.inl rfl) rfl (by decide) (e2) k9) ?_
    refine gp_n 2 (j' := 56) (lv' := [some (.ref 70), some (.int 0), some (.int 4)]) (st' := [.int ((nI b) + 4), .ref 70]) (h' := (shT, fi, fl, fr)) rfl ?_
    rw [show nI b + 4 = nI (b + 4) from nI_add b 4]
    refine gp_of (fun _ k9 => g_call (y := 154) (as := [.ref 70, .int (nI (b + 4))]) (st' := []) rfl rfl (b4) k9) ?_
    refine gp_of (fun _ k9 => g_call (y := 155) (as := [.int (bA F t (b + 4))]) (st' := []) rfl rfl (l1) k9) ?_
    refine gp_of (fun _ k9 => g_ift rfl (show ¬ (1 : Int32) = (0 : Int32) from by decide) k9) ?_
    refine gp_n 2 (j' := 5) (lv' := [some (.ref 70), some (.int 1), some (.int 4)]) (st' := []) (h' := (shT, fi, fl, fr)) rfl ?_
    exact k2
  · have k1 := k1 (by simp only [mt]; rw [if_pos (show b + 0 < t ∧ F (b + 0) = (wd 0).getD 0 0 from c0)]; rw [if_pos (show b + 1 < t ∧ F (b + 1) = (wd 0).getD 1 0 from c1)]; rw [if_pos (show b + 2 < t ∧ F (b + 2) = (wd 0).getD 2 0 from c2)]; rw [if_pos (show b + 3 < t ∧ F (b + 3) = (wd 0).getD 3 0 from c3)]; cases d1 : decide (b + 4 < t); rfl; cases d2 : cL (F (b + 4)); rfl; exact absurd ⟨of_decide_eq_true d1, d2⟩ cz)
    have l0 := l0 (fun z => cz (qL.mp z))
    refine gp_n 2 (j' := 7) (lv' := [some (.ref 70), some (.int 0), l]) (st' := [.int 6, .int 0]) (h' := (shT, fi, fl, fr)) rfl ?_
    refine gp_of (fun _ k9 => g_icf rfl (show ¬ ((6 : Int32) ≤ (0 : Int32)) from by decide) k9) ?_
    refine gp_n 4 (j' := 12) (lv' := [some (.ref 70), some (.int 0), some (.int 0)]) (st' := [.int 5, .int 0]) (h' := (shT, fi, fl, fr)) rfl ?_
    refine gp_of (fun _ k9 => g_icf rfl (show ¬ ((5 : Int32) ≤ (0 : Int32)) from by decide) k9) ?_
    refine gp_n 1 (j' := 14) (lv' := [some (.ref 70), some (.int 0), some (.int 0)]) (st' := [.ref 70]) (h' := (shT, fi, fl, fr)) rfl ?_
    refine gp_of (fun _ k9 => g_getR (q' := 72) rfl rfl (by decide) k4 k9) ?_
    refine gp_n 5 (j' := 20) (lv' := [some (.ref 70), some (.int 0), some (.int 0)]) (st' := [.int 0, .ref 72]) (h' := (shT, fi, fl, fr)) rfl ?_
    refine gp_of (fun _ k9 => g_bald (k := 0) (x := 115) rfl rfl (by decide) (rfl) (by decide) (by decide) (w0) k9) ?_
    refine gp_of (fun _ k9 => g_iff rfl (show ¬ ((115 : Int32) = (0 : Int32)) from by decide) k9) ?_
    refine gp_n 2 (j' := 24) (lv' := [some (.ref 70), some (.int 0), some (.int 0)]) (st' := [.ref 70, .ref 70]) (h' := (shT, fi, fl, fr)) rfl ?_
    refine gp_of (fun _ k9 => g_getI (x := nI b) rfl (Or.inl rfl) rfl (by decide) (e2) k9) ?_
    refine gp_n 2 (j' := 27) (lv' := [some (.ref 70), some (.int 0), some (.int 0)]) (st' := [.int ((nI b) + 0), .ref 70]) (h' := (shT, fi, fl, fr)) rfl ?_
    rw [show nI b + 0 = nI (b + 0) from nI_add b 0]
    refine gp_of (fun _ k9 => g_call (y := 154) (as := [.ref 70, .int (nI (b + 0))]) (st' := []) rfl rfl (b0) k9) ?_
    refine gp_n 1 (j' := 29) (lv' := [some (.ref 70), some (.int 0), some (.int 0)]) (st' := [.ref 70, .int (bA F t (b + 0))]) (h' := (shT, fi, fl, fr)) rfl ?_
    refine gp_of (fun _ k9 => g_getR (q' := 72) rfl rfl (by decide) k4 k9) ?_
    refine gp_n 5 (j' := 35) (lv' := [some (.ref 70), some (.int 0), some (.int 0)]) (st' := [.int 0, .ref 72, .int (bA F t (b + 0))]) (h' := (shT, fi, fl, fr)) rfl ?_
    refine gp_of (fun _ k9 => g_bald (k := 0) (x := 115) rfl rfl (by decide) (rfl) (by decide) (by decide) (w0) k9) ?_
    refine gp_of (fun _ k9 => g_icf rfl (show ¬ (¬ (bA F t (b + 0)) = (115 : Int32)) from fun z => z (q0.mpr c0)) k9) ?_
    refine gp_n 4 (j' := 12) (lv' := [some (.ref 70), some (.int 0), some (.int 1)]) (st' := [.int 5, .int 1]) (h' := (shT, fi, fl, fr)) rfl ?_
    refine gp_of (fun _ k9 => g_icf rfl (show ¬ ((5 : Int32) ≤ (1 : Int32)) from by decide) k9) ?_
    refine gp_n 1 (j' := 14) (lv' := [some (.ref 70), some (.int 0), some (.int 1)]) (st' := [.ref 70]) (h' := (shT, fi, fl, fr)) rfl ?_
    refine gp_of (fun _ k9 => g_getR (q' := 72) rfl rfl (by decide) k4 k9) ?_
    refine gp_n 5 (j' := 20) (lv' := [some (.ref 70), some (.int 0), some (.int 1)]) (st' := [.int 1, .ref 72]) (h' := (shT, fi, fl, fr)) rfl ?_
    refine gp_of (fun _ k9 => g_bald (k := 1) (x := 105) rfl rfl (by decide) (rfl) (by decide) (by decide) (w1) k9) ?_
    refine gp_of (fun _ k9 => g_iff rfl (show ¬ ((105 : Int32) = (0 : Int32)) from by decide) k9) ?_
    refine gp_n 2 (j' := 24) (lv' := [some (.ref 70), some (.int 0), some (.int 1)]) (st' := [.ref 70, .ref 70]) (h' := (shT, fi, fl, fr)) rfl ?_
    refine gp_of (fun _ k9 => g_getI (x := nI b) rfl (Or.inl rfl) rfl (by decide) (e2) k9) ?_
    refine gp_n 2 (j' := 27) (lv' := [some (.ref 70), some (.int 0), some (.int 1)]) (st' := [.int ((nI b) + 1), .ref 70]) (h' := (shT, fi, fl, fr)) rfl ?_
    rw [show nI b + 1 = nI (b + 1) from nI_add b 1]
    refine gp_of (fun _ k9 => g_call (y := 154) (as := [.ref 70, .int (nI (b + 1))]) (st' := []) rfl rfl (b1) k9) ?_
    refine gp_n 1 (j' := 29) (lv' := [some (.ref 70), some (.int 0), some (.int 1)]) (st' := [.ref 70, .int (bA F t (b + 1))]) (h' := (shT, fi, fl, fr)) rfl ?_
    refine gp_of (fun _ k9 => g_getR (q' := 72) rfl rfl (by decide) k4 k9) ?_
    refine gp_n 5 (j' := 35) (lv' := [some (.ref 70), some (.int 0), some (.int 1)]) (st' := [.int 1, .ref 72, .int (bA F t (b + 1))]) (h' := (shT, fi, fl, fr)) rfl ?_
    refine gp_of (fun _ k9 => g_bald (k := 1) (x := 105) rfl rfl (by decide) (rfl) (by decide) (by decide) (w1) k9) ?_
    refine gp_of (fun _ k9 => g_icf rfl (show ¬ (¬ (bA F t (b + 1)) = (105 : Int32)) from fun z => z (q1.mpr c1)) k9) ?_
    refine gp_n 4 (j' := 12) (lv' := [some (.ref 70), some (.int 0), some (.int 2)]) (st' := [.int 5, .int 2]) (h' := (shT, fi, fl, fr)) rfl ?_
    refine gp_of (fun _ k9 => g_icf rfl (show ¬ ((5 : Int32) ≤ (2 : Int32)) from by decide) k9) ?_
    refine gp_n 1 (j' := 14) (lv' := [some (.ref 70), some (.int 0), some (.int 2)]) (st' := [.ref 70]) (h' := (shT, fi, fl, fr)) rfl ?_
    refine gp_of (fun _ k9 => g_getR (q' := 72) rfl rfl (by decide) k4 k9) ?_
    refine gp_n 5 (j' := 20) (lv' := [some (.ref 70), some (.int 0), some (.int 2)]) (st' := [.int 2, .ref 72]) (h' := (shT, fi, fl, fr)) rfl ?_
    refine gp_of (fun _ k9 => g_bald (k := 2) (x := 122) rfl rfl (by decide) (rfl) (by decide) (by decide) (w2) k9) ?_
    refine gp_of (fun _ k9 => g_iff rfl (show ¬ ((122 : Int32) = (0 : Int32)) from by decide) k9) ?_
    refine gp_n 2 (j' := 24) (lv' := [some (.ref 70), some (.int 0), some (.int 2)]) (st' := [.ref 70, .ref 70]) (h' := (shT, fi, fl, fr)) rfl ?_
    refine gp_of (fun _ k9 => g_getI (x := nI b) rfl (Or.inl rfl) rfl (by decide) (e2) k9) ?_
    refine gp_n 2 (j' := 27) (lv' := [some (.ref 70), some (.int 0), some (.int 2)]) (st' := [.int ((nI b) + 2), .ref 70]) (h' := (shT, fi, fl, fr)) rfl ?_
    rw [show nI b + 2 = nI (b + 2) from nI_add b 2]
    refine gp_of (fun _ k9 => g_call (y := 154) (as := [.ref 70, .int (nI (b + 2))]) (st' := []) rfl rfl (b2) k9) ?_
    refine gp_n 1 (j' := 29) (lv' := [some (.ref 70), some (.int 0), some (.int 2)]) (st' := [.ref 70, .int (bA F t (b + 2))]) (h' := (shT, fi, fl, fr)) rfl ?_
    refine gp_of (fun _ k9 => g_getR (q' := 72) rfl rfl (by decide) k4 k9) ?_
    refine gp_n 5 (j' := 35) (lv' := [some (.ref 70), some (.int 0), some (.int 2)]) (st' := [.int 2, .ref 72, .int (bA F t (b + 2))]) (h' := (shT, fi, fl, fr)) rfl ?_
    refine gp_of (fun _ k9 => g_bald (k := 2) (x := 122) rfl rfl (by decide) (rfl) (by decide) (by decide) (w2) k9) ?_
    refine gp_of (fun _ k9 => g_icf rfl (show ¬ (¬ (bA F t (b + 2)) = (122 : Int32)) from fun z => z (q2.mpr c2)) k9) ?_
    refine gp_n 4 (j' := 12) (lv' := [some (.ref 70), some (.int 0), some (.int 3)]) (st' := [.int 5, .int 3]) (h' := (shT, fi, fl, fr)) rfl ?_
    refine gp_of (fun _ k9 => g_icf rfl (show ¬ ((5 : Int32) ≤ (3 : Int32)) from by decide) k9) ?_
    refine gp_n 1 (j' := 14) (lv' := [some (.ref 70), some (.int 0), some (.int 3)]) (st' := [.ref 70]) (h' := (shT, fi, fl, fr)) rfl ?_
    refine gp_of (fun _ k9 => g_getR (q' := 72) rfl rfl (by decide) k4 k9) ?_
    refine gp_n 5 (j' := 20) (lv' := [some (.ref 70), some (.int 0), some (.int 3)]) (st' := [.int 3, .ref 72]) (h' := (shT, fi, fl, fr)) rfl ?_
    refine gp_of (fun _ k9 => g_bald (k := 3) (x := 101) rfl rfl (by decide) (rfl) (by decide) (by decide) (w3) k9) ?_
    refine gp_of (fun _ k9 => g_iff rfl (show ¬ ((101 : Int32) = (0 : Int32)) from by decide) k9) ?_
    refine gp_n 2 (j' := 24) (lv' := [some (.ref 70), some (.int 0), some (.int 3)]) (st' := [.ref 70, .ref 70]) (h' := (shT, fi, fl, fr)) rfl ?_
    refine gp_of (fun _ k9 => g_getI (x := nI b) rfl (Or.inl rfl) rfl (by decide) (e2) k9) ?_
    refine gp_n 2 (j' := 27) (lv' := [some (.ref 70), some (.int 0), some (.int 3)]) (st' := [.int ((nI b) + 3), .ref 70]) (h' := (shT, fi, fl, fr)) rfl ?_
    rw [show nI b + 3 = nI (b + 3) from nI_add b 3]
    refine gp_of (fun _ k9 => g_call (y := 154) (as := [.ref 70, .int (nI (b + 3))]) (st' := []) rfl rfl (b3) k9) ?_
    refine gp_n 1 (j' := 29) (lv' := [some (.ref 70), some (.int 0), some (.int 3)]) (st' := [.ref 70, .int (bA F t (b + 3))]) (h' := (shT, fi, fl, fr)) rfl ?_
    refine gp_of (fun _ k9 => g_getR (q' := 72) rfl rfl (by decide) k4 k9) ?_
    refine gp_n 5 (j' := 35) (lv' := [some (.ref 70), some (.int 0), some (.int 3)]) (st' := [.int 3, .ref 72, .int (bA F t (b + 3))]) (h' := (shT, fi, fl, fr)) rfl ?_
    refine gp_of (fun _ k9 => g_bald (k := 3) (x := 101) rfl rfl (by decide) (rfl) (by decide) (by decide) (w3) k9) ?_
    refine gp_of (fun _ k9 => g_icf rfl (show ¬ (¬ (bA F t (b + 3)) = (101 : Int32)) from fun z => z (q3.mpr c3)) k9) ?_
    refine gp_n 4 (j' := 12) (lv' := [some (.ref 70), some (.int 0), some (.int 4)]) (st' := [.int 5, .int 4]) (h' := (shT, fi, fl, fr)) rfl ?_
    refine gp_of (fun _ k9 => g_icf rfl (show ¬ ((5 : Int32) ≤ (4 : Int32)) from by decide) k9) ?_
    refine gp_n 1 (j' := 14) (lv' := [some (.ref 70), some (.int 0), some (.int 4)]) (st' := [.ref 70]) (h' := (shT, fi, fl, fr)) rfl ?_
    refine gp_of (fun _ k9 => g_getR (q' := 72) rfl rfl (by decide) k4 k9) ?_
    refine gp_n 5 (j' := 20) (lv' := [some (.ref 70), some (.int 0), some (.int 4)]) (st' := [.int 4, .ref 72]) (h' := (shT, fi, fl, fr)) rfl ?_
    refine gp_of (fun _ k9 => g_bald (k := 4) (x := 0) rfl rfl (by decide) (rfl) (by decide) (by decide) (w4) k9) ?_
    refine gp_of (fun _ k9 => g_ift rfl (show (0 : Int32) = (0 : Int32) from by decide) k9) ?_
    refine gp_n 2 (j' := 41) (lv' := [some (.ref 70), some (.int 0), some (.int 4)]) (st' := [.int 5, .int 4]) (h' := (shT, fi, fl, fr)) rfl ?_
    refine gp_of (fun _ k9 => g_icf rfl (show ¬ ((4 : Int32) = (5 : Int32)) from by decide) k9) ?_
    refine gp_n 1 (j' := 43) (lv' := [some (.ref 70), some (.int 0), some (.int 4)]) (st' := [.ref 70]) (h' := (shT, fi, fl, fr)) rfl ?_
    refine gp_of (fun _ k9 => g_getR (q' := 72) rfl rfl (by decide) k4 k9) ?_
    refine gp_n 5 (j' := 49) (lv' := [some (.ref 70), some (.int 0), some (.int 4)]) (st' := [.int 4, .ref 72]) (h' := (shT, fi, fl, fr)) rfl ?_
    refine gp_of (fun _ k9 => g_bald (k := 4) (x := 0) rfl rfl (by decide) (rfl) (by decide) (by decide) (w4) k9) ?_
    refine gp_of (fun _ k9 => g_iff rfl (show ¬ (¬ (0 : Int32) = (0 : Int32)) from by decide) k9) ?_
    refine gp_n 2 (j' := 53) (lv' := [some (.ref 70), some (.int 0), some (.int 4)]) (st' := [.ref 70, .ref 70]) (h' := (shT, fi, fl, fr)) rfl ?_
    refine gp_of (fun _ k9 => g_getI (x := nI b) rfl (Or.inl rfl) rfl (by decide) (e2) k9) ?_
    refine gp_n 2 (j' := 56) (lv' := [some (.ref 70), some (.int 0), some (.int 4)]) (st' := [.int ((nI b) + 4), .ref 70]) (h' := (shT, fi, fl, fr)) rfl ?_
    rw [show nI b + 4 = nI (b + 4) from nI_add b 4]
    refine gp_of (fun _ k9 => g_call (y := 154) (as := [.ref 70, .int (nI (b + 4))]) (st' := []) rfl rfl (b4) k9) ?_
    refine gp_of (fun _ k9 => g_call (y := 155) (as := [.int (bA F t (b + 4))]) (st' := []) rfl rfl (l0) k9) ?_
    refine gp_of (fun _ k9 => g_iff rfl (show ¬ (¬ (0 : Int32) = (0 : Int32)) from by decide) k9) ?_
    refine gp_n 1 (j' := 60) (lv' := [some (.ref 70), some (.int 0), some (.int 4)]) (st' := [.int 0]) (h' := (shT, fi, fl, fr)) rfl ?_
    refine gp_done (g_ret rfl) ?_
    exact k1
theorem wh_1 {F : Nat → Int32} {t b : Nat} {h : PmH} {l : Option Value} {Q : Option Value × PmH → Prop} (ht : t ≤ 200) (hF : ∀ s, byR (F s)) (hb : b ≤ t) (hP : mp_P F t b h) (k1 : mt F t b (wd 1) 4 0 = true → Q (some (.int 1), h)) (k2 : mt F t b (wd 1) 4 0 = false → ∀ l', GoP pmT none cd_152 5 [some (.ref 70), some (.int 2), l'] [] h Q) : GoP pmT none cd_152 5 [some (.ref 70), some (.int 1), l] [] h Q := by
  have k4 : ph_r h 70 4 = some 72 := hi_r hP.1 rfl rfl (by decide)
  have e2 := hP.2.2.1
  have w0 : ph_i h 72 5 = 107 := hP.2.2.2.2 5 (by decide)
  have w1 : ph_i h 72 6 = 101 := hP.2.2.2.2 6 (by decide)
  have w2 : ph_i h 72 7 = 101 := hP.2.2.2.2 7 (by decide)
  have w3 : ph_i h 72 8 = 112 := hP.2.2.2.2 8 (by decide)
  have w4 : ph_i h 72 9 = 0 := hP.2.2.2.2 9 (by decide)
  have b0 := ba_ev (k := b + 0) ht (by omega) hP
  have b1 := ba_ev (k := b + 1) ht (by omega) hP
  have b2 := ba_ev (k := b + 2) ht (by omega) hP
  have b3 := ba_ev (k := b + 3) ht (by omega) hP
  have b4 := ba_ev (k := b + 4) ht (by omega) hP
  have hI := hP.1
  have q0 : bA F t (b + 0) = 107 ↔ (b + 0 < t ∧ F (b + 0) = 107) := bA_eq hF (by decide) (by decide)
  have q1 : bA F t (b + 1) = 101 ↔ (b + 1 < t ∧ F (b + 1) = 101) := bA_eq hF (by decide) (by decide)
  have q2 : bA F t (b + 2) = 101 ↔ (b + 2 < t ∧ F (b + 2) = 101) := bA_eq hF (by decide) (by decide)
  have q3 : bA F t (b + 3) = 112 ↔ (b + 3 < t ∧ F (b + 3) = 112) := bA_eq hF (by decide) (by decide)
  have qL : (97 ≤ bA F t (b + 4) ∧ bA F t (b + 4) ≤ 122) ↔ (b + 4 < t ∧ cL (F (b + 4)) = true) := bA_L hF
  have l1 := isL1 (x := bA F t (b + 4)) hI
  have l0 := isL0 (x := bA F t (b + 4)) hI
  clear hP
  obtain ⟨S, fi, fl, fr⟩ := h
  have hS : S = shT := hI.1
  subst hS
  have k4 : fr 70 4 = some 72 := k4
  have e2 : fi 70 2 = nI b := e2
  have w0 : fi 72 5 = 107 := w0
  have w1 : fi 72 6 = 101 := w1
  have w2 : fi 72 7 = 101 := w2
  have w3 : fi 72 8 = 112 := w3
  have w4 : fi 72 9 = 0 := w4
  by_cases c0 : b + 0 < t ∧ F (b + 0) = 107
  rotate_left
  · have k2 := k2 (by simp only [mt]; rw [if_neg (show ¬ (b + 0 < t ∧ F (b + 0) = (wd 1).getD 0 0) from c0)]) (some (.int 0))
    refine gp_n 2 (j' := 7) (lv' := [some (.ref 70), some (.int 1), l]) (st' := [.int 6, .int 1]) (h' := (shT, fi, fl, fr)) rfl ?_
    refine gp_of (fun _ k9 => g_icf rfl (show ¬ ((6 : Int32) ≤ (1 : Int32)) from by decide) k9) ?_
    refine gp_n 4 (j' := 12) (lv' := [some (.ref 70), some (.int 1), some (.int 0)]) (st' := [.int 5, .int 0]) (h' := (shT, fi, fl, fr)) rfl ?_
    refine gp_of (fun _ k9 => g_icf rfl (show ¬ ((5 : Int32) ≤ (0 : Int32)) from by decide) k9) ?_
    refine gp_n 1 (j' := 14) (lv' := [some (.ref 70), some (.int 1), some (.int 0)]) (st' := [.ref 70]) (h' := (shT, fi, fl, fr)) rfl ?_
    refine gp_of (fun _ k9 => g_getR (q' := 72) rfl rfl (by decide) k4 k9) ?_
    refine gp_n 5 (j' := 20) (lv' := [some (.ref 70), some (.int 1), some (.int 0)]) (st' := [.int 5, .ref 72]) (h' := (shT, fi, fl, fr)) rfl ?_
    refine gp_of (fun _ k9 => g_bald (k := 5) (x := 107) rfl rfl (by decide) (rfl) (by decide) (by decide) (w0) k9) ?_
    refine gp_of (fun _ k9 => g_iff rfl (show ¬ ((107 : Int32) = (0 : Int32)) from by decide) k9) ?_
    refine gp_n 2 (j' := 24) (lv' := [some (.ref 70), some (.int 1), some (.int 0)]) (st' := [.ref 70, .ref 70]) (h' := (shT, fi, fl, fr)) rfl ?_
    refine gp_of (fun _ k9 => g_getI (x := nI b) rfl (Or.inl rfl) rfl (by decide) (e2) k9) ?_
    refine gp_n 2 (j' := 27) (lv' := [some (.ref 70), some (.int 1), some (.int 0)]) (st' := [.int ((nI b) + 0), .ref 70]) (h' := (shT, fi, fl, fr)) rfl ?_
    rw [show nI b + 0 = nI (b + 0) from nI_add b 0]
    refine gp_of (fun _ k9 => g_call (y := 154) (as := [.ref 70, .int (nI (b + 0))]) (st' := []) rfl rfl (b0) k9) ?_
    refine gp_n 1 (j' := 29) (lv' := [some (.ref 70), some (.int 1), some (.int 0)]) (st' := [.ref 70, .int (bA F t (b + 0))]) (h' := (shT, fi, fl, fr)) rfl ?_
    refine gp_of (fun _ k9 => g_getR (q' := 72) rfl rfl (by decide) k4 k9) ?_
    refine gp_n 5 (j' := 35) (lv' := [some (.ref 70), some (.int 1), some (.int 0)]) (st' := [.int 5, .ref 72, .int (bA F t (b + 0))]) (h' := (shT, fi, fl, fr)) rfl ?_
    refine gp_of (fun _ k9 => g_bald (k := 5) (x := 107) rfl rfl (by decide) (rfl) (by decide) (by decide) (w0) k9) ?_
    refine gp_of (fun _ k9 => g_ict rfl (show ¬ (bA F t (b + 0)) = (107 : Int32) from fun z => c0 (q0.mp z)) k9) ?_
    refine gp_n 2 (j' := 41) (lv' := [some (.ref 70), some (.int 1), some (.int 0)]) (st' := [.int 5, .int 0]) (h' := (shT, fi, fl, fr)) rfl ?_
    refine gp_of (fun _ k9 => g_icf rfl (show ¬ ((0 : Int32) = (5 : Int32)) from by decide) k9) ?_
    refine gp_n 1 (j' := 43) (lv' := [some (.ref 70), some (.int 1), some (.int 0)]) (st' := [.ref 70]) (h' := (shT, fi, fl, fr)) rfl ?_
    refine gp_of (fun _ k9 => g_getR (q' := 72) rfl rfl (by decide) k4 k9) ?_
    refine gp_n 5 (j' := 49) (lv' := [some (.ref 70), some (.int 1), some (.int 0)]) (st' := [.int 5, .ref 72]) (h' := (shT, fi, fl, fr)) rfl ?_
    refine gp_of (fun _ k9 => g_bald (k := 5) (x := 107) rfl rfl (by decide) (rfl) (by decide) (by decide) (w0) k9) ?_
    refine gp_of (fun _ k9 => g_ift rfl (show ¬ (107 : Int32) = (0 : Int32) from by decide) k9) ?_
    refine gp_n 2 (j' := 5) (lv' := [some (.ref 70), some (.int 2), some (.int 0)]) (st' := []) (h' := (shT, fi, fl, fr)) rfl ?_
    exact k2
  by_cases c1 : b + 1 < t ∧ F (b + 1) = 101
  rotate_left
  · have k2 := k2 (by simp only [mt]; rw [if_pos (show b + 0 < t ∧ F (b + 0) = (wd 1).getD 0 0 from c0)]; rw [if_neg (show ¬ (b + 1 < t ∧ F (b + 1) = (wd 1).getD 1 0) from c1)]) (some (.int 1))
    refine gp_n 2 (j' := 7) (lv' := [some (.ref 70), some (.int 1), l]) (st' := [.int 6, .int 1]) (h' := (shT, fi, fl, fr)) rfl ?_
    refine gp_of (fun _ k9 => g_icf rfl (show ¬ ((6 : Int32) ≤ (1 : Int32)) from by decide) k9) ?_
    refine gp_n 4 (j' := 12) (lv' := [some (.ref 70), some (.int 1), some (.int 0)]) (st' := [.int 5, .int 0]) (h' := (shT, fi, fl, fr)) rfl ?_
    refine gp_of (fun _ k9 => g_icf rfl (show ¬ ((5 : Int32) ≤ (0 : Int32)) from by decide) k9) ?_
    refine gp_n 1 (j' := 14) (lv' := [some (.ref 70), some (.int 1), some (.int 0)]) (st' := [.ref 70]) (h' := (shT, fi, fl, fr)) rfl ?_
    refine gp_of (fun _ k9 => g_getR (q' := 72) rfl rfl (by decide) k4 k9) ?_
    refine gp_n 5 (j' := 20) (lv' := [some (.ref 70), some (.int 1), some (.int 0)]) (st' := [.int 5, .ref 72]) (h' := (shT, fi, fl, fr)) rfl ?_
    refine gp_of (fun _ k9 => g_bald (k := 5) (x := 107) rfl rfl (by decide) (rfl) (by decide) (by decide) (w0) k9) ?_
    refine gp_of (fun _ k9 => g_iff rfl (show ¬ ((107 : Int32) = (0 : Int32)) from by decide) k9) ?_
    refine gp_n 2 (j' := 24) (lv' := [some (.ref 70), some (.int 1), some (.int 0)]) (st' := [.ref 70, .ref 70]) (h' := (shT, fi, fl, fr)) rfl ?_
    refine gp_of (fun _ k9 => g_getI (x := nI b) rfl (Or.inl rfl) rfl (by decide) (e2) k9) ?_
    refine gp_n 2 (j' := 27) (lv' := [some (.ref 70), some (.int 1), some (.int 0)]) (st' := [.int ((nI b) + 0), .ref 70]) (h' := (shT, fi, fl, fr)) rfl ?_
    rw [show nI b + 0 = nI (b + 0) from nI_add b 0]
    refine gp_of (fun _ k9 => g_call (y := 154) (as := [.ref 70, .int (nI (b + 0))]) (st' := []) rfl rfl (b0) k9) ?_
    refine gp_n 1 (j' := 29) (lv' := [some (.ref 70), some (.int 1), some (.int 0)]) (st' := [.ref 70, .int (bA F t (b + 0))]) (h' := (shT, fi, fl, fr)) rfl ?_
    refine gp_of (fun _ k9 => g_getR (q' := 72) rfl rfl (by decide) k4 k9) ?_
    refine gp_n 5 (j' := 35) (lv' := [some (.ref 70), some (.int 1), some (.int 0)]) (st' := [.int 5, .ref 72, .int (bA F t (b + 0))]) (h' := (shT, fi, fl, fr)) rfl ?_
    refine gp_of (fun _ k9 => g_bald (k := 5) (x := 107) rfl rfl (by decide) (rfl) (by decide) (by decide) (w0) k9) ?_
    refine gp_of (fun _ k9 => g_icf rfl (show ¬ (¬ (bA F t (b + 0)) = (107 : Int32)) from fun z => z (q0.mpr c0)) k9) ?_
    refine gp_n 4 (j' := 12) (lv' := [some (.ref 70), some (.int 1), some (.int 1)]) (st' := [.int 5, .int 1]) (h' := (shT, fi, fl, fr)) rfl ?_
    refine gp_of (fun _ k9 => g_icf rfl (show ¬ ((5 : Int32) ≤ (1 : Int32)) from by decide) k9) ?_
    refine gp_n 1 (j' := 14) (lv' := [some (.ref 70), some (.int 1), some (.int 1)]) (st' := [.ref 70]) (h' := (shT, fi, fl, fr)) rfl ?_
    refine gp_of (fun _ k9 => g_getR (q' := 72) rfl rfl (by decide) k4 k9) ?_
    refine gp_n 5 (j' := 20) (lv' := [some (.ref 70), some (.int 1), some (.int 1)]) (st' := [.int 6, .ref 72]) (h' := (shT, fi, fl, fr)) rfl ?_
    refine gp_of (fun _ k9 => g_bald (k := 6) (x := 101) rfl rfl (by decide) (rfl) (by decide) (by decide) (w1) k9) ?_
    refine gp_of (fun _ k9 => g_iff rfl (show ¬ ((101 : Int32) = (0 : Int32)) from by decide) k9) ?_
    refine gp_n 2 (j' := 24) (lv' := [some (.ref 70), some (.int 1), some (.int 1)]) (st' := [.ref 70, .ref 70]) (h' := (shT, fi, fl, fr)) rfl ?_
    refine gp_of (fun _ k9 => g_getI (x := nI b) rfl (Or.inl rfl) rfl (by decide) (e2) k9) ?_
    refine gp_n 2 (j' := 27) (lv' := [some (.ref 70), some (.int 1), some (.int 1)]) (st' := [.int ((nI b) + 1), .ref 70]) (h' := (shT, fi, fl, fr)) rfl ?_
    rw [show nI b + 1 = nI (b + 1) from nI_add b 1]
    refine gp_of (fun _ k9 => g_call (y := 154) (as := [.ref 70, .int (nI (b + 1))]) (st' := []) rfl rfl (b1) k9) ?_
    refine gp_n 1 (j' := 29) (lv' := [some (.ref 70), some (.int 1), some (.int 1)]) (st' := [.ref 70, .int (bA F t (b + 1))]) (h' := (shT, fi, fl, fr)) rfl ?_
    refine gp_of (fun _ k9 => g_getR (q' := 72) rfl rfl (by decide) k4 k9) ?_
    refine gp_n 5 (j' := 35) (lv' := [some (.ref 70), some (.int 1), some (.int 1)]) (st' := [.int 6, .ref 72, .int (bA F t (b + 1))]) (h' := (shT, fi, fl, fr)) rfl ?_
    refine gp_of (fun _ k9 => g_bald (k := 6) (x := 101) rfl rfl (by decide) (rfl) (by decide) (by decide) (w1) k9) ?_
    refine gp_of (fun _ k9 => g_ict rfl (show ¬ (bA F t (b + 1)) = (101 : Int32) from fun z => c1 (q1.mp z)) k9) ?_
    refine gp_n 2 (j' := 41) (lv' := [some (.ref 70), some (.int 1), some (.int 1)]) (st' := [.int 5, .int 1]) (h' := (shT, fi, fl, fr)) rfl ?_
    refine gp_of (fun _ k9 => g_icf rfl (show ¬ ((1 : Int32) = (5 : Int32)) from by decide) k9) ?_
    refine gp_n 1 (j' := 43) (lv' := [some (.ref 70), some (.int 1), some (.int 1)]) (st' := [.ref 70]) (h' := (shT, fi, fl, fr)) rfl ?_
    refine gp_of (fun _ k9 => g_getR (q' := 72) rfl rfl (by decide) k4 k9) ?_
    refine gp_n 5 (j' := 49) (lv' := [some (.ref 70), some (.int 1), some (.int 1)]) (st' := [.int 6, .ref 72]) (h' := (shT, fi, fl, fr)) rfl ?_
    refine gp_of (fun _ k9 => g_bald (k := 6) (x := 101) rfl rfl (by decide) (rfl) (by decide) (by decide) (w1) k9) ?_
    refine gp_of (fun _ k9 => g_ift rfl (show ¬ (101 : Int32) = (0 : Int32) from by decide) k9) ?_
    refine gp_n 2 (j' := 5) (lv' := [some (.ref 70), some (.int 2), some (.int 1)]) (st' := []) (h' := (shT, fi, fl, fr)) rfl ?_
    exact k2
  by_cases c2 : b + 2 < t ∧ F (b + 2) = 101
  rotate_left
  · have k2 := k2 (by simp only [mt]; rw [if_pos (show b + 0 < t ∧ F (b + 0) = (wd 1).getD 0 0 from c0)]; rw [if_pos (show b + 1 < t ∧ F (b + 1) = (wd 1).getD 1 0 from c1)]; rw [if_neg (show ¬ (b + 2 < t ∧ F (b + 2) = (wd 1).getD 2 0) from c2)]) (some (.int 2))
    refine gp_n 2 (j' := 7) (lv' := [some (.ref 70), some (.int 1), l]) (st' := [.int 6, .int 1]) (h' := (shT, fi, fl, fr)) rfl ?_
    refine gp_of (fun _ k9 => g_icf rfl (show ¬ ((6 : Int32) ≤ (1 : Int32)) from by decide) k9) ?_
    refine gp_n 4 (j' := 12) (lv' := [some (.ref 70), some (.int 1), some (.int 0)]) (st' := [.int 5, .int 0]) (h' := (shT, fi, fl, fr)) rfl ?_
    refine gp_of (fun _ k9 => g_icf rfl (show ¬ ((5 : Int32) ≤ (0 : Int32)) from by decide) k9) ?_
    refine gp_n 1 (j' := 14) (lv' := [some (.ref 70), some (.int 1), some (.int 0)]) (st' := [.ref 70]) (h' := (shT, fi, fl, fr)) rfl ?_
    refine gp_of (fun _ k9 => g_getR (q' := 72) rfl rfl (by decide) k4 k9) ?_
    refine gp_n 5 (j' := 20) (lv' := [some (.ref 70), some (.int 1), some (.int 0)]) (st' := [.int 5, .ref 72]) (h' := (shT, fi, fl, fr)) rfl ?_
    refine gp_of (fun _ k9 => g_bald (k := 5) (x := 107) rfl rfl (by decide) (rfl) (by decide) (by decide) (w0) k9) ?_
    refine gp_of (fun _ k9 => g_iff rfl (show ¬ ((107 : Int32) = (0 : Int32)) from by decide) k9) ?_
    refine gp_n 2 (j' := 24) (lv' := [some (.ref 70), some (.int 1), some (.int 0)]) (st' := [.ref 70, .ref 70]) (h' := (shT, fi, fl, fr)) rfl ?_
    refine gp_of (fun _ k9 => g_getI (x := nI b) rfl (Or.inl rfl) rfl (by decide) (e2) k9) ?_
    refine gp_n 2 (j' := 27) (lv' := [some (.ref 70), some (.int 1), some (.int 0)]) (st' := [.int ((nI b) + 0), .ref 70]) (h' := (shT, fi, fl, fr)) rfl ?_
    rw [show nI b + 0 = nI (b + 0) from nI_add b 0]
    refine gp_of (fun _ k9 => g_call (y := 154) (as := [.ref 70, .int (nI (b + 0))]) (st' := []) rfl rfl (b0) k9) ?_
    refine gp_n 1 (j' := 29) (lv' := [some (.ref 70), some (.int 1), some (.int 0)]) (st' := [.ref 70, .int (bA F t (b + 0))]) (h' := (shT, fi, fl, fr)) rfl ?_
    refine gp_of (fun _ k9 => g_getR (q' := 72) rfl rfl (by decide) k4 k9) ?_
    refine gp_n 5 (j' := 35) (lv' := [some (.ref 70), some (.int 1), some (.int 0)]) (st' := [.int 5, .ref 72, .int (bA F t (b + 0))]) (h' := (shT, fi, fl, fr)) rfl ?_
    refine gp_of (fun _ k9 => g_bald (k := 5) (x := 107) rfl rfl (by decide) (rfl) (by decide) (by decide) (w0) k9) ?_
    refine gp_of (fun _ k9 => g_icf rfl (show ¬ (¬ (bA F t (b + 0)) = (107 : Int32)) from fun z => z (q0.mpr c0)) k9) ?_
    refine gp_n 4 (j' := 12) (lv' := [some (.ref 70), some (.int 1), some (.int 1)]) (st' := [.int 5, .int 1]) (h' := (shT, fi, fl, fr)) rfl ?_
    refine gp_of (fun _ k9 => g_icf rfl (show ¬ ((5 : Int32) ≤ (1 : Int32)) from by decide) k9) ?_
    refine gp_n 1 (j' := 14) (lv' := [some (.ref 70), some (.int 1), some (.int 1)]) (st' := [.ref 70]) (h' := (shT, fi, fl, fr)) rfl ?_
    refine gp_of (fun _ k9 => g_getR (q' := 72) rfl rfl (by decide) k4 k9) ?_
    refine gp_n 5 (j' := 20) (lv' := [some (.ref 70), some (.int 1), some (.int 1)]) (st' := [.int 6, .ref 72]) (h' := (shT, fi, fl, fr)) rfl ?_
    refine gp_of (fun _ k9 => g_bald (k := 6) (x := 101) rfl rfl (by decide) (rfl) (by decide) (by decide) (w1) k9) ?_
    refine gp_of (fun _ k9 => g_iff rfl (show ¬ ((101 : Int32) = (0 : Int32)) from by decide) k9) ?_
    refine gp_n 2 (j' := 24) (lv' := [some (.ref 70), some (.int 1), some (.int 1)]) (st' := [.ref 70, .ref 70]) (h' := (shT, fi, fl, fr)) rfl ?_
    refine gp_of (fun _ k9 => g_getI (x := nI b) rfl (Or.inl rfl) rfl (by decide) (e2) k9) ?_
    refine gp_n 2 (j' := 27) (lv' := [some (.ref 70), some (.int 1), some (.int 1)]) (st' := [.int ((nI b) + 1), .ref 70]) (h' := (shT, fi, fl, fr)) rfl ?_
    rw [show nI b + 1 = nI (b + 1) from nI_add b 1]
    refine gp_of (fun _ k9 => g_call (y := 154) (as := [.ref 70, .int (nI (b + 1))]) (st' := []) rfl rfl (b1) k9) ?_
    refine gp_n 1 (j' := 29) (lv' := [some (.ref 70), some (.int 1), some (.int 1)]) (st' := [.ref 70, .int (bA F t (b + 1))]) (h' := (shT, fi, fl, fr)) rfl ?_
    refine gp_of (fun _ k9 => g_getR (q' := 72) rfl rfl (by decide) k4 k9) ?_
    refine gp_n 5 (j' := 35) (lv' := [some (.ref 70), some (.int 1), some (.int 1)]) (st' := [.int 6, .ref 72, .int (bA F t (b + 1))]) (h' := (shT, fi, fl, fr)) rfl ?_
    refine gp_of (fun _ k9 => g_bald (k := 6) (x := 101) rfl rfl (by decide) (rfl) (by decide) (by decide) (w1) k9) ?_
    refine gp_of (fun _ k9 => g_icf rfl (show ¬ (¬ (bA F t (b + 1)) = (101 : Int32)) from fun z => z (q1.mpr c1)) k9) ?_
    refine gp_n 4 (j' := 12) (lv' := [some (.ref 70), some (.int 1), some (.int 2)]) (st' := [.int 5, .int 2]) (h' := (shT, fi, fl, fr)) rfl ?_
    refine gp_of (fun _ k9 => g_icf rfl (show ¬ ((5 : Int32) ≤ (2 : Int32)) from by decide) k9) ?_
    refine gp_n 1 (j' := 14) (lv' := [some (.ref 70), some (.int 1), some (.int 2)]) (st' := [.ref 70]) (h' := (shT, fi, fl, fr)) rfl ?_
    refine gp_of (fun _ k9 => g_getR (q' := 72) rfl rfl (by decide) k4 k9) ?_
    refine gp_n 5 (j' := 20) (lv' := [some (.ref 70), some (.int 1), some (.int 2)]) (st' := [.int 7, .ref 72]) (h' := (shT, fi, fl, fr)) rfl ?_
    refine gp_of (fun _ k9 => g_bald (k := 7) (x := 101) rfl rfl (by decide) (rfl) (by decide) (by decide) (w2) k9) ?_
    refine gp_of (fun _ k9 => g_iff rfl (show ¬ ((101 : Int32) = (0 : Int32)) from by decide) k9) ?_
    refine gp_n 2 (j' := 24) (lv' := [some (.ref 70), some (.int 1), some (.int 2)]) (st' := [.ref 70, .ref 70]) (h' := (shT, fi, fl, fr)) rfl ?_
    refine gp_of (fun _ k9 => g_getI (x := nI b) rfl (Or.inl rfl) rfl (by decide) (e2) k9) ?_
    refine gp_n 2 (j' := 27) (lv' := [some (.ref 70), some (.int 1), some (.int 2)]) (st' := [.int ((nI b) + 2), .ref 70]) (h' := (shT, fi, fl, fr)) rfl ?_
    rw [show nI b + 2 = nI (b + 2) from nI_add b 2]
    refine gp_of (fun _ k9 => g_call (y := 154) (as := [.ref 70, .int (nI (b + 2))]) (st' := []) rfl rfl (b2) k9) ?_
    refine gp_n 1 (j' := 29) (lv' := [some (.ref 70), some (.int 1), some (.int 2)]) (st' := [.ref 70, .int (bA F t (b + 2))]) (h' := (shT, fi, fl, fr)) rfl ?_
    refine gp_of (fun _ k9 => g_getR (q' := 72) rfl rfl (by decide) k4 k9) ?_
    refine gp_n 5 (j' := 35) (lv' := [some (.ref 70), some (.int 1), some (.int 2)]) (st' := [.int 7, .ref 72, .int (bA F t (b + 2))]) (h' := (shT, fi, fl, fr)) rfl ?_
    refine gp_of (fun _ k9 => g_bald (k := 7) (x := 101) rfl rfl (by decide) (rfl) (by decide) (by decide) (w2) k9) ?_
    refine gp_of (fun _ k9 => g_ict rfl (show ¬ (bA F t (b + 2)) = (101 : Int32) from fun z => c2 (q2.mp z)) k9) ?_
    refine gp_n 2 (j' := 41) (lv' := [some (.ref 70), some (.int 1), some (.int 2)]) (st' := [.int 5, .int 2]) (h' := (shT, fi, fl, fr)) rfl ?_
    refine gp_of (fun _ k9 => g_icf rfl (show ¬ ((2 : Int32) = (5 : Int32)) from by decide) k9) ?_
    refine gp_n 1 (j' := 43) (lv' := [some (.ref 70), some (.int 1), some (.int 2)]) (st' := [.ref 70]) (h' := (shT, fi, fl, fr)) rfl ?_
    refine gp_of (fun _ k9 => g_getR (q' := 72) rfl rfl (by decide) k4 k9) ?_
    refine gp_n 5 (j' := 49) (lv' := [some (.ref 70), some (.int 1), some (.int 2)]) (st' := [.int 7, .ref 72]) (h' := (shT, fi, fl, fr)) rfl ?_
    refine gp_of (fun _ k9 => g_bald (k := 7) (x := 101) rfl rfl (by decide) (rfl) (by decide) (by decide) (w2) k9) ?_
    refine gp_of (fun _ k9 => g_ift rfl (show ¬ (101 : Int32) = (0 : Int32) from by decide) k9) ?_
    refine gp_n 2 (j' := 5) (lv' := [some (.ref 70), some (.int 2), some (.int 2)]) (st' := []) (h' := (shT, fi, fl, fr)) rfl ?_
    exact k2
  by_cases c3 : b + 3 < t ∧ F (b + 3) = 112
  rotate_left
  · have k2 := k2 (by simp only [mt]; rw [if_pos (show b + 0 < t ∧ F (b + 0) = (wd 1).getD 0 0 from c0)]; rw [if_pos (show b + 1 < t ∧ F (b + 1) = (wd 1).getD 1 0 from c1)]; rw [if_pos (show b + 2 < t ∧ F (b + 2) = (wd 1).getD 2 0 from c2)]; rw [if_neg (show ¬ (b + 3 < t ∧ F (b + 3) = (wd 1).getD 3 0) from c3)]) (some (.int 3))
    refine gp_n 2 (j' := 7) (lv' := [some (.ref 70), some (.int 1), l]) (st' := [.int 6, .int 1]) (h' := (shT, fi, fl, fr)) rfl ?_
    refine gp_of (fun _ k9 => g_icf rfl (show ¬ ((6 : Int32) ≤ (1 : Int32)) from by decide) k9) ?_
    refine gp_n 4 (j' := 12) (lv' := [some (.ref 70), some (.int 1), some (.int 0)]) (st' := [.int 5, .int 0]) (h' := (shT, fi, fl, fr)) rfl ?_
    refine gp_of (fun _ k9 => g_icf rfl (show ¬ ((5 : Int32) ≤ (0 : Int32)) from by decide) k9) ?_
    refine gp_n 1 (j' := 14) (lv' := [some (.ref 70), some (.int 1), some (.int 0)]) (st' := [.ref 70]) (h' := (shT, fi, fl, fr)) rfl ?_
    refine gp_of (fun _ k9 => g_getR (q' := 72) rfl rfl (by decide) k4 k9) ?_
    refine gp_n 5 (j' := 20) (lv' := [some (.ref 70), some (.int 1), some (.int 0)]) (st' := [.int 5, .ref 72]) (h' := (shT, fi, fl, fr)) rfl ?_
    refine gp_of (fun _ k9 => g_bald (k := 5) (x := 107) rfl rfl (by decide) (rfl) (by decide) (by decide) (w0) k9) ?_
    refine gp_of (fun _ k9 => g_iff rfl (show ¬ ((107 : Int32) = (0 : Int32)) from by decide) k9) ?_
    refine gp_n 2 (j' := 24) (lv' := [some (.ref 70), some (.int 1), some (.int 0)]) (st' := [.ref 70, .ref 70]) (h' := (shT, fi, fl, fr)) rfl ?_
    refine gp_of (fun _ k9 => g_getI (x := nI b) rfl (Or.inl rfl) rfl (by decide) (e2) k9) ?_
    refine gp_n 2 (j' := 27) (lv' := [some (.ref 70), some (.int 1), some (.int 0)]) (st' := [.int ((nI b) + 0), .ref 70]) (h' := (shT, fi, fl, fr)) rfl ?_
    rw [show nI b + 0 = nI (b + 0) from nI_add b 0]
    refine gp_of (fun _ k9 => g_call (y := 154) (as := [.ref 70, .int (nI (b + 0))]) (st' := []) rfl rfl (b0) k9) ?_
    refine gp_n 1 (j' := 29) (lv' := [some (.ref 70), some (.int 1), some (.int 0)]) (st' := [.ref 70, .int (bA F t (b + 0))]) (h' := (shT, fi, fl, fr)) rfl ?_
    refine gp_of (fun _ k9 => g_getR (q' := 72) rfl rfl (by decide) k4 k9) ?_
    refine gp_n 5 (j' := 35) (lv' := [some (.ref 70), some (.int 1), some (.int 0)]) (st' := [.int 5, .ref 72, .int (bA F t (b + 0))]) (h' := (shT, fi, fl, fr)) rfl ?_
    refine gp_of (fun _ k9 => g_bald (k := 5) (x := 107) rfl rfl (by decide) (rfl) (by decide) (by decide) (w0) k9) ?_
    refine gp_of (fun _ k9 => g_icf rfl (show ¬ (¬ (bA F t (b + 0)) = (107 : Int32)) from fun z => z (q0.mpr c0)) k9) ?_
    refine gp_n 4 (j' := 12) (lv' := [some (.ref 70), some (.int 1), some (.int 1)]) (st' := [.int 5, .int 1]) (h' := (shT, fi, fl, fr)) rfl ?_
    refine gp_of (fun _ k9 => g_icf rfl (show ¬ ((5 : Int32) ≤ (1 : Int32)) from by decide) k9) ?_
    refine gp_n 1 (j' := 14) (lv' := [some (.ref 70), some (.int 1), some (.int 1)]) (st' := [.ref 70]) (h' := (shT, fi, fl, fr)) rfl ?_
    refine gp_of (fun _ k9 => g_getR (q' := 72) rfl rfl (by decide) k4 k9) ?_
    refine gp_n 5 (j' := 20) (lv' := [some (.ref 70), some (.int 1), some (.int 1)]) (st' := [.int 6, .ref 72]) (h' := (shT, fi, fl, fr)) rfl ?_
    refine gp_of (fun _ k9 => g_bald (k := 6) (x := 101) rfl rfl (by decide) (rfl) (by decide) (by decide) (w1) k9) ?_
    refine gp_of (fun _ k9 => g_iff rfl (show ¬ ((101 : Int32) = (0 : Int32)) from by decide) k9) ?_
    refine gp_n 2 (j' := 24) (lv' := [some (.ref 70), some (.int 1), some (.int 1)]) (st' := [.ref 70, .ref 70]) (h' := (shT, fi, fl, fr)) rfl ?_
    refine gp_of (fun _ k9 => g_getI (x := nI b) rfl (Or.inl rfl) rfl (by decide) (e2) k9) ?_
    refine gp_n 2 (j' := 27) (lv' := [some (.ref 70), some (.int 1), some (.int 1)]) (st' := [.int ((nI b) + 1), .ref 70]) (h' := (shT, fi, fl, fr)) rfl ?_
    rw [show nI b + 1 = nI (b + 1) from nI_add b 1]
    refine gp_of (fun _ k9 => g_call (y := 154) (as := [.ref 70, .int (nI (b + 1))]) (st' := []) rfl rfl (b1) k9) ?_
    refine gp_n 1 (j' := 29) (lv' := [some (.ref 70), some (.int 1), some (.int 1)]) (st' := [.ref 70, .int (bA F t (b + 1))]) (h' := (shT, fi, fl, fr)) rfl ?_
    refine gp_of (fun _ k9 => g_getR (q' := 72) rfl rfl (by decide) k4 k9) ?_
    refine gp_n 5 (j' := 35) (lv' := [some (.ref 70), some (.int 1), some (.int 1)]) (st' := [.int 6, .ref 72, .int (bA F t (b + 1))]) (h' := (shT, fi, fl, fr)) rfl ?_
    refine gp_of (fun _ k9 => g_bald (k := 6) (x := 101) rfl rfl (by decide) (rfl) (by decide) (by decide) (w1) k9) ?_
    refine gp_of (fun _ k9 => g_icf rfl (show ¬ (¬ (bA F t (b + 1)) = (101 : Int32)) from fun z => z (q1.mpr c1)) k9) ?_
    refine gp_n 4 (j' := 12) (lv' := [some (.ref 70), some (.int 1), some (.int 2)]) (st' := [.int 5, .int 2]) (h' := (shT, fi, fl, fr)) rfl ?_
    refine gp_of (fun _ k9 => g_icf rfl (show ¬ ((5 : Int32) ≤ (2 : Int32)) from by decide) k9) ?_
    refine gp_n 1 (j' := 14) (lv' := [some (.ref 70), some (.int 1), some (.int 2)]) (st' := [.ref 70]) (h' := (shT, fi, fl, fr)) rfl ?_
    refine gp_of (fun _ k9 => g_getR (q' := 72) rfl rfl (by decide) k4 k9) ?_
    refine gp_n 5 (j' := 20) (lv' := [some (.ref 70), some (.int 1), some (.int 2)]) (st' := [.int 7, .ref 72]) (h' := (shT, fi, fl, fr)) rfl ?_
    refine gp_of (fun _ k9 => g_bald (k := 7) (x := 101) rfl rfl (by decide) (rfl) (by decide) (by decide) (w2) k9) ?_
    refine gp_of (fun _ k9 => g_iff rfl (show ¬ ((101 : Int32) = (0 : Int32)) from by decide) k9) ?_
    refine gp_n 2 (j' := 24) (lv' := [some (.ref 70), some (.int 1), some (.int 2)]) (st' := [.ref 70, .ref 70]) (h' := (shT, fi, fl, fr)) rfl ?_
    refine gp_of (fun _ k9 => g_getI (x := nI b) rfl (Or.inl rfl) rfl (by decide) (e2) k9) ?_
    refine gp_n 2 (j' := 27) (lv' := [some (.ref 70), some (.int 1), some (.int 2)]) (st' := [.int ((nI b) + 2), .ref 70]) (h' := (shT, fi, fl, fr)) rfl ?_
    rw [show nI b + 2 = nI (b + 2) from nI_add b 2]
    refine gp_of (fun _ k9 => g_call (y := 154) (as := [.ref 70, .int (nI (b + 2))]) (st' := []) rfl rfl (b2) k9) ?_
    refine gp_n 1 (j' := 29) (lv' := [some (.ref 70), some (.int 1), some (.int 2)]) (st' := [.ref 70, .int (bA F t (b + 2))]) (h' := (shT, fi, fl, fr)) rfl ?_
    refine gp_of (fun _ k9 => g_getR (q' := 72) rfl rfl (by decide) k4 k9) ?_
    refine gp_n 5 (j' := 35) (lv' := [some (.ref 70), some (.int 1), some (.int 2)]) (st' := [.int 7, .ref 72, .int (bA F t (b + 2))]) (h' := (shT, fi, fl, fr)) rfl ?_
    refine gp_of (fun _ k9 => g_bald (k := 7) (x := 101) rfl rfl (by decide) (rfl) (by decide) (by decide) (w2) k9) ?_
    refine gp_of (fun _ k9 => g_icf rfl (show ¬ (¬ (bA F t (b + 2)) = (101 : Int32)) from fun z => z (q2.mpr c2)) k9) ?_
    refine gp_n 4 (j' := 12) (lv' := [some (.ref 70), some (.int 1), some (.int 3)]) (st' := [.int 5, .int 3]) (h' := (shT, fi, fl, fr)) rfl ?_
    refine gp_of (fun _ k9 => g_icf rfl (show ¬ ((5 : Int32) ≤ (3 : Int32)) from by decide) k9) ?_
    refine gp_n 1 (j' := 14) (lv' := [some (.ref 70), some (.int 1), some (.int 3)]) (st' := [.ref 70]) (h' := (shT, fi, fl, fr)) rfl ?_
    refine gp_of (fun _ k9 => g_getR (q' := 72) rfl rfl (by decide) k4 k9) ?_
    refine gp_n 5 (j' := 20) (lv' := [some (.ref 70), some (.int 1), some (.int 3)]) (st' := [.int 8, .ref 72]) (h' := (shT, fi, fl, fr)) rfl ?_
    refine gp_of (fun _ k9 => g_bald (k := 8) (x := 112) rfl rfl (by decide) (rfl) (by decide) (by decide) (w3) k9) ?_
    refine gp_of (fun _ k9 => g_iff rfl (show ¬ ((112 : Int32) = (0 : Int32)) from by decide) k9) ?_
    refine gp_n 2 (j' := 24) (lv' := [some (.ref 70), some (.int 1), some (.int 3)]) (st' := [.ref 70, .ref 70]) (h' := (shT, fi, fl, fr)) rfl ?_
    refine gp_of (fun _ k9 => g_getI (x := nI b) rfl (Or.inl rfl) rfl (by decide) (e2) k9) ?_
    refine gp_n 2 (j' := 27) (lv' := [some (.ref 70), some (.int 1), some (.int 3)]) (st' := [.int ((nI b) + 3), .ref 70]) (h' := (shT, fi, fl, fr)) rfl ?_
    rw [show nI b + 3 = nI (b + 3) from nI_add b 3]
    refine gp_of (fun _ k9 => g_call (y := 154) (as := [.ref 70, .int (nI (b + 3))]) (st' := []) rfl rfl (b3) k9) ?_
    refine gp_n 1 (j' := 29) (lv' := [some (.ref 70), some (.int 1), some (.int 3)]) (st' := [.ref 70, .int (bA F t (b + 3))]) (h' := (shT, fi, fl, fr)) rfl ?_
    refine gp_of (fun _ k9 => g_getR (q' := 72) rfl rfl (by decide) k4 k9) ?_
    refine gp_n 5 (j' := 35) (lv' := [some (.ref 70), some (.int 1), some (.int 3)]) (st' := [.int 8, .ref 72, .int (bA F t (b + 3))]) (h' := (shT, fi, fl, fr)) rfl ?_
    refine gp_of (fun _ k9 => g_bald (k := 8) (x := 112) rfl rfl (by decide) (rfl) (by decide) (by decide) (w3) k9) ?_
    refine gp_of (fun _ k9 => g_ict rfl (show ¬ (bA F t (b + 3)) = (112 : Int32) from fun z => c3 (q3.mp z)) k9) ?_
    refine gp_n 2 (j' := 41) (lv' := [some (.ref 70), some (.int 1), some (.int 3)]) (st' := [.int 5, .int 3]) (h' := (shT, fi, fl, fr)) rfl ?_
    refine gp_of (fun _ k9 => g_icf rfl (show ¬ ((3 : Int32) = (5 : Int32)) from by decide) k9) ?_
    refine gp_n 1 (j' := 43) (lv' := [some (.ref 70), some (.int 1), some (.int 3)]) (st' := [.ref 70]) (h' := (shT, fi, fl, fr)) rfl ?_
    refine gp_of (fun _ k9 => g_getR (q' := 72) rfl rfl (by decide) k4 k9) ?_
    refine gp_n 5 (j' := 49) (lv' := [some (.ref 70), some (.int 1), some (.int 3)]) (st' := [.int 8, .ref 72]) (h' := (shT, fi, fl, fr)) rfl ?_
    refine gp_of (fun _ k9 => g_bald (k := 8) (x := 112) rfl rfl (by decide) (rfl) (by decide) (by decide) (w3) k9) ?_
    refine gp_of (fun _ k9 => g_ift rfl (show ¬ (112 : Int32) = (0 : Int32) from by decide) k9) ?_
    refine gp_n 2 (j' := 5) (lv' := [some (.ref 70), some (.int 2), some (.int 3)]) (st' := []) (h' := (shT, fi, fl, fr)) rfl ?_
    exact k2
  by_cases cz : b + 4 < t ∧ cL (F (b + 4)) = true
  · have k2 := k2 (by simp only [mt]; rw [if_pos (show b + 0 < t ∧ F (b + 0) = (wd 1).getD 0 0 from c0)]; rw [if_pos (show b + 1 < t ∧ F (b + 1) = (wd 1).getD 1 0 from c1)]; rw [if_pos (show b + 2 < t ∧ F (b + 2) = (wd 1).getD 2 0 from c2)]; rw [if_pos (show b + 3 < t ∧ F (b + 3) = (wd 1).getD 3 0 from c3)]; rw [decide_eq_true cz.1, cz.2]; rfl) (some (.int 4))
    have l1 := l1 (qL.mpr cz)
    refine gp_n 2 (j' := 7) (lv' := [some (.ref 70), some (.int 1), l]) (st' := [.int 6, .int 1]) (h' := (shT, fi, fl, fr)) rfl ?_
    refine gp_of (fun _ k9 => g_icf rfl (show ¬ ((6 : Int32) ≤ (1 : Int32)) from by decide) k9) ?_
    refine gp_n 4 (j' := 12) (lv' := [some (.ref 70), some (.int 1), some (.int 0)]) (st' := [.int 5, .int 0]) (h' := (shT, fi, fl, fr)) rfl ?_
    refine gp_of (fun _ k9 => g_icf rfl (show ¬ ((5 : Int32) ≤ (0 : Int32)) from by decide) k9) ?_
    refine gp_n 1 (j' := 14) (lv' := [some (.ref 70), some (.int 1), some (.int 0)]) (st' := [.ref 70]) (h' := (shT, fi, fl, fr)) rfl ?_
    refine gp_of (fun _ k9 => g_getR (q' := 72) rfl rfl (by decide) k4 k9) ?_
    refine gp_n 5 (j' := 20) (lv' := [some (.ref 70), some (.int 1), some (.int 0)]) (st' := [.int 5, .ref 72]) (h' := (shT, fi, fl, fr)) rfl ?_
    refine gp_of (fun _ k9 => g_bald (k := 5) (x := 107) rfl rfl (by decide) (rfl) (by decide) (by decide) (w0) k9) ?_
    refine gp_of (fun _ k9 => g_iff rfl (show ¬ ((107 : Int32) = (0 : Int32)) from by decide) k9) ?_
    refine gp_n 2 (j' := 24) (lv' := [some (.ref 70), some (.int 1), some (.int 0)]) (st' := [.ref 70, .ref 70]) (h' := (shT, fi, fl, fr)) rfl ?_
    refine gp_of (fun _ k9 => g_getI (x := nI b) rfl (Or.inl rfl) rfl (by decide) (e2) k9) ?_
    refine gp_n 2 (j' := 27) (lv' := [some (.ref 70), some (.int 1), some (.int 0)]) (st' := [.int ((nI b) + 0), .ref 70]) (h' := (shT, fi, fl, fr)) rfl ?_
    rw [show nI b + 0 = nI (b + 0) from nI_add b 0]
    refine gp_of (fun _ k9 => g_call (y := 154) (as := [.ref 70, .int (nI (b + 0))]) (st' := []) rfl rfl (b0) k9) ?_
    refine gp_n 1 (j' := 29) (lv' := [some (.ref 70), some (.int 1), some (.int 0)]) (st' := [.ref 70, .int (bA F t (b + 0))]) (h' := (shT, fi, fl, fr)) rfl ?_
    refine gp_of (fun _ k9 => g_getR (q' := 72) rfl rfl (by decide) k4 k9) ?_
    refine gp_n 5 (j' := 35) (lv' := [some (.ref 70), some (.int 1), some (.int 0)]) (st' := [.int 5, .ref 72, .int (bA F t (b + 0))]) (h' := (shT, fi, fl, fr)) rfl ?_
    refine gp_of (fun _ k9 => g_bald (k := 5) (x := 107) rfl rfl (by decide) (rfl) (by decide) (by decide) (w0) k9) ?_
    refine gp_of (fun _ k9 => g_icf rfl (show ¬ (¬ (bA F t (b + 0)) = (107 : Int32)) from fun z => z (q0.mpr c0)) k9) ?_
    refine gp_n 4 (j' := 12) (lv' := [some (.ref 70), some (.int 1), some (.int 1)]) (st' := [.int 5, .int 1]) (h' := (shT, fi, fl, fr)) rfl ?_
    refine gp_of (fun _ k9 => g_icf rfl (show ¬ ((5 : Int32) ≤ (1 : Int32)) from by decide) k9) ?_
    refine gp_n 1 (j' := 14) (lv' := [some (.ref 70), some (.int 1), some (.int 1)]) (st' := [.ref 70]) (h' := (shT, fi, fl, fr)) rfl ?_
    refine gp_of (fun _ k9 => g_getR (q' := 72) rfl rfl (by decide) k4 k9) ?_
    refine gp_n 5 (j' := 20) (lv' := [some (.ref 70), some (.int 1), some (.int 1)]) (st' := [.int 6, .ref 72]) (h' := (shT, fi, fl, fr)) rfl ?_
    refine gp_of (fun _ k9 => g_bald (k := 6) (x := 101) rfl rfl (by decide) (rfl) (by decide) (by decide) (w1) k9) ?_
    refine gp_of (fun _ k9 => g_iff rfl (show ¬ ((101 : Int32) = (0 : Int32)) from by decide) k9) ?_
    refine gp_n 2 (j' := 24) (lv' := [some (.ref 70), some (.int 1), some (.int 1)]) (st' := [.ref 70, .ref 70]) (h' := (shT, fi, fl, fr)) rfl ?_
    refine gp_of (fun _ k9 => g_getI (x := nI b) rfl (Or.inl rfl) rfl (by decide) (e2) k9) ?_
    refine gp_n 2 (j' := 27) (lv' := [some (.ref 70), some (.int 1), some (.int 1)]) (st' := [.int ((nI b) + 1), .ref 70]) (h' := (shT, fi, fl, fr)) rfl ?_
    rw [show nI b + 1 = nI (b + 1) from nI_add b 1]
    refine gp_of (fun _ k9 => g_call (y := 154) (as := [.ref 70, .int (nI (b + 1))]) (st' := []) rfl rfl (b1) k9) ?_
    refine gp_n 1 (j' := 29) (lv' := [some (.ref 70), some (.int 1), some (.int 1)]) (st' := [.ref 70, .int (bA F t (b + 1))]) (h' := (shT, fi, fl, fr)) rfl ?_
    refine gp_of (fun _ k9 => g_getR (q' := 72) rfl rfl (by decide) k4 k9) ?_
    refine gp_n 5 (j' := 35) (lv' := [some (.ref 70), some (.int 1), some (.int 1)]) (st' := [.int 6, .ref 72, .int (bA F t (b + 1))]) (h' := (shT, fi, fl, fr)) rfl ?_
    refine gp_of (fun _ k9 => g_bald (k := 6) (x := 101) rfl rfl (by decide) (rfl) (by decide) (by decide) (w1) k9) ?_
    refine gp_of (fun _ k9 => g_icf rfl (show ¬ (¬ (bA F t (b + 1)) = (101 : Int32)) from fun z => z (q1.mpr c1)) k9) ?_
    refine gp_n 4 (j' := 12) (lv' := [some (.ref 70), some (.int 1), some (.int 2)]) (st' := [.int 5, .int 2]) (h' := (shT, fi, fl, fr)) rfl ?_
    refine gp_of (fun _ k9 => g_icf rfl (show ¬ ((5 : Int32) ≤ (2 : Int32)) from by decide) k9) ?_
    refine gp_n 1 (j' := 14) (lv' := [some (.ref 70), some (.int 1), some (.int 2)]) (st' := [.ref 70]) (h' := (shT, fi, fl, fr)) rfl ?_
    refine gp_of (fun _ k9 => g_getR (q' := 72) rfl rfl (by decide) k4 k9) ?_
    refine gp_n 5 (j' := 20) (lv' := [some (.ref 70), some (.int 1), some (.int 2)]) (st' := [.int 7, .ref 72]) (h' := (shT, fi, fl, fr)) rfl ?_
    refine gp_of (fun _ k9 => g_bald (k := 7) (x := 101) rfl rfl (by decide) (rfl) (by decide) (by decide) (w2) k9) ?_
    refine gp_of (fun _ k9 => g_iff rfl (show ¬ ((101 : Int32) = (0 : Int32)) from by decide) k9) ?_
    refine gp_n 2 (j' := 24) (lv' := [some (.ref 70), some (.int 1), some (.int 2)]) (st' := [.ref 70, .ref 70]) (h' := (shT, fi, fl, fr)) rfl ?_
    refine gp_of (fun _ k9 => g_getI (x := nI b) rfl (Or.inl rfl) rfl (by decide) (e2) k9) ?_
    refine gp_n 2 (j' := 27) (lv' := [some (.ref 70), some (.int 1), some (.int 2)]) (st' := [.int ((nI b) + 2), .ref 70]) (h' := (shT, fi, fl, fr)) rfl ?_
    rw [show nI b + 2 = nI (b + 2) from nI_add b 2]
    refine gp_of (fun _ k9 => g_call (y := 154) (as := [.ref 70, .int (nI (b + 2))]) (st' := []) rfl rfl (b2) k9) ?_
    refine gp_n 1 (j' := 29) (lv' := [some (.ref 70), some (.int 1), some (.int 2)]) (st' := [.ref 70, .int (bA F t (b + 2))]) (h' := (shT, fi, fl, fr)) rfl ?_
    refine gp_of (fun _ k9 => g_getR (q' := 72) rfl rfl (by decide) k4 k9) ?_
    refine gp_n 5 (j' := 35) (lv' := [some (.ref 70), some (.int 1), some (.int 2)]) (st' := [.int 7, .ref 72, .int (bA F t (b + 2))]) (h' := (shT, fi, fl, fr)) rfl ?_
    refine gp_of (fun _ k9 => g_bald (k := 7) (x := 101) rfl rfl (by decide) (rfl) (by decide) (by decide) (w2) k9) ?_
    refine gp_of (fun _ k9 => g_icf rfl (show ¬ (¬ (bA F t (b + 2)) = (101 : Int32)) from fun z => z (q2.mpr c2)) k9) ?_
    refine gp_n 4 (j' := 12) (lv' := [some (.ref 70), some (.int 1), some (.int 3)]) (st' := [.int 5, .int 3]) (h' := (shT, fi, fl, fr)) rfl ?_
    refine gp_of (fun _ k9 => g_icf rfl (show ¬ ((5 : Int32) ≤ (3 : Int32)) from by decide) k9) ?_
    refine gp_n 1 (j' := 14) (lv' := [some (.ref 70), some (.int 1), some (.int 3)]) (st' := [.ref 70]) (h' := (shT, fi, fl, fr)) rfl ?_
    refine gp_of (fun _ k9 => g_getR (q' := 72) rfl rfl (by decide) k4 k9) ?_
    refine gp_n 5 (j' := 20) (lv' := [some (.ref 70), some (.int 1), some (.int 3)]) (st' := [.int 8, .ref 72]) (h' := (shT, fi, fl, fr)) rfl ?_
    refine gp_of (fun _ k9 => g_bald (k := 8) (x := 112) rfl rfl (by decide) (rfl) (by decide) (by decide) (w3) k9) ?_
    refine gp_of (fun _ k9 => g_iff rfl (show ¬ ((112 : Int32) = (0 : Int32)) from by decide) k9) ?_
    refine gp_n 2 (j' := 24) (lv' := [some (.ref 70), some (.int 1), some (.int 3)]) (st' := [.ref 70, .ref 70]) (h' := (shT, fi, fl, fr)) rfl ?_
    refine gp_of (fun _ k9 => g_getI (x := nI b) rfl (Or.inl rfl) rfl (by decide) (e2) k9) ?_
    refine gp_n 2 (j' := 27) (lv' := [some (.ref 70), some (.int 1), some (.int 3)]) (st' := [.int ((nI b) + 3), .ref 70]) (h' := (shT, fi, fl, fr)) rfl ?_
    rw [show nI b + 3 = nI (b + 3) from nI_add b 3]
    refine gp_of (fun _ k9 => g_call (y := 154) (as := [.ref 70, .int (nI (b + 3))]) (st' := []) rfl rfl (b3) k9) ?_
    refine gp_n 1 (j' := 29) (lv' := [some (.ref 70), some (.int 1), some (.int 3)]) (st' := [.ref 70, .int (bA F t (b + 3))]) (h' := (shT, fi, fl, fr)) rfl ?_
    refine gp_of (fun _ k9 => g_getR (q' := 72) rfl rfl (by decide) k4 k9) ?_
    refine gp_n 5 (j' := 35) (lv' := [some (.ref 70), some (.int 1), some (.int 3)]) (st' := [.int 8, .ref 72, .int (bA F t (b + 3))]) (h' := (shT, fi, fl, fr)) rfl ?_
    refine gp_of (fun _ k9 => g_bald (k := 8) (x := 112) rfl rfl (by decide) (rfl) (by decide) (by decide) (w3) k9) ?_
    refine gp_of (fun _ k9 => g_icf rfl (show ¬ (¬ (bA F t (b + 3)) = (112 : Int32)) from fun z => z (q3.mpr c3)) k9) ?_
    refine gp_n 4 (j' := 12) (lv' := [some (.ref 70), some (.int 1), some (.int 4)]) (st' := [.int 5, .int 4]) (h' := (shT, fi, fl, fr)) rfl ?_
    refine gp_of (fun _ k9 => g_icf rfl (show ¬ ((5 : Int32) ≤ (4 : Int32)) from by decide) k9) ?_
    refine gp_n 1 (j' := 14) (lv' := [some (.ref 70), some (.int 1), some (.int 4)]) (st' := [.ref 70]) (h' := (shT, fi, fl, fr)) rfl ?_
    refine gp_of (fun _ k9 => g_getR (q' := 72) rfl rfl (by decide) k4 k9) ?_
    refine gp_n 5 (j' := 20) (lv' := [some (.ref 70), some (.int 1), some (.int 4)]) (st' := [.int 9, .ref 72]) (h' := (shT, fi, fl, fr)) rfl ?_
    refine gp_of (fun _ k9 => g_bald (k := 9) (x := 0) rfl rfl (by decide) (rfl) (by decide) (by decide) (w4) k9) ?_
    refine gp_of (fun _ k9 => g_ift rfl (show (0 : Int32) = (0 : Int32) from by decide) k9) ?_
    refine gp_n 2 (j' := 41) (lv' := [some (.ref 70), some (.int 1), some (.int 4)]) (st' := [.int 5, .int 4]) (h' := (shT, fi, fl, fr)) rfl ?_
    refine gp_of (fun _ k9 => g_icf rfl (show ¬ ((4 : Int32) = (5 : Int32)) from by decide) k9) ?_
    refine gp_n 1 (j' := 43) (lv' := [some (.ref 70), some (.int 1), some (.int 4)]) (st' := [.ref 70]) (h' := (shT, fi, fl, fr)) rfl ?_
    refine gp_of (fun _ k9 => g_getR (q' := 72) rfl rfl (by decide) k4 k9) ?_
    refine gp_n 5 (j' := 49) (lv' := [some (.ref 70), some (.int 1), some (.int 4)]) (st' := [.int 9, .ref 72]) (h' := (shT, fi, fl, fr)) rfl ?_
    refine gp_of (fun _ k9 => g_bald (k := 9) (x := 0) rfl rfl (by decide) (rfl) (by decide) (by decide) (w4) k9) ?_
    refine gp_of (fun _ k9 => g_iff rfl (show ¬ (¬ (0 : Int32) = (0 : Int32)) from by decide) k9) ?_
    refine gp_n 2 (j' := 53) (lv' := [some (.ref 70), some (.int 1), some (.int 4)]) (st' := [.ref 70, .ref 70]) (h' := (shT, fi, fl, fr)) rfl ?_
    refine gp_of (fun _ k9 => g_getI (x := nI b) rfl (Or.inl rfl) rfl (by decide) (e2) k9) ?_
    refine gp_n 2 (j' := 56) (lv' := [some (.ref 70), some (.int 1), some (.int 4)]) (st' := [.int ((nI b) + 4), .ref 70]) (h' := (shT, fi, fl, fr)) rfl ?_
    rw [show nI b + 4 = nI (b + 4) from nI_add b 4]
    refine gp_of (fun _ k9 => g_call (y := 154) (as := [.ref 70, .int (nI (b + 4))]) (st' := []) rfl rfl (b4) k9) ?_
    refine gp_of (fun _ k9 => g_call (y := 155) (as := [.int (bA F t (b + 4))]) (st' := []) rfl rfl (l1) k9) ?_
    refine gp_of (fun _ k9 => g_ift rfl (show ¬ (1 : Int32) = (0 : Int32) from by decide) k9) ?_
    refine gp_n 2 (j' := 5) (lv' := [some (.ref 70), some (.int 2), some (.int 4)]) (st' := []) (h' := (shT, fi, fl, fr)) rfl ?_
    exact k2
  · have k1 := k1 (by simp only [mt]; rw [if_pos (show b + 0 < t ∧ F (b + 0) = (wd 1).getD 0 0 from c0)]; rw [if_pos (show b + 1 < t ∧ F (b + 1) = (wd 1).getD 1 0 from c1)]; rw [if_pos (show b + 2 < t ∧ F (b + 2) = (wd 1).getD 2 0 from c2)]; rw [if_pos (show b + 3 < t ∧ F (b + 3) = (wd 1).getD 3 0 from c3)]; cases d1 : decide (b + 4 < t); rfl; cases d2 : cL (F (b + 4)); rfl; exact absurd ⟨of_decide_eq_true d1, d2⟩ cz)
    have l0 := l0 (fun z => cz (qL.mp z))
    refine gp_n 2 (j' := 7) (lv' := [some (.ref 70), some (.int 1), l]) (st' := [.int 6, .int 1]) (h' := (shT, fi, fl, fr)) rfl ?_
    refine gp_of (fun _ k9 => g_icf rfl (show ¬ ((6 : Int32) ≤ (1 : Int32)) from by decide) k9) ?_
    refine gp_n 4 (j' := 12) (lv' := [some (.ref 70), some (.int 1), some (.int 0)]) (st' := [.int 5, .int 0]) (h' := (shT, fi, fl, fr)) rfl ?_
    refine gp_of (fun _ k9 => g_icf rfl (show ¬ ((5 : Int32) ≤ (0 : Int32)) from by decide) k9) ?_
    refine gp_n 1 (j' := 14) (lv' := [some (.ref 70), some (.int 1), some (.int 0)]) (st' := [.ref 70]) (h' := (shT, fi, fl, fr)) rfl ?_
    refine gp_of (fun _ k9 => g_getR (q' := 72) rfl rfl (by decide) k4 k9) ?_
    refine gp_n 5 (j' := 20) (lv' := [some (.ref 70), some (.int 1), some (.int 0)]) (st' := [.int 5, .ref 72]) (h' := (shT, fi, fl, fr)) rfl ?_
    refine gp_of (fun _ k9 => g_bald (k := 5) (x := 107) rfl rfl (by decide) (rfl) (by decide) (by decide) (w0) k9) ?_
    refine gp_of (fun _ k9 => g_iff rfl (show ¬ ((107 : Int32) = (0 : Int32)) from by decide) k9) ?_
    refine gp_n 2 (j' := 24) (lv' := [some (.ref 70), some (.int 1), some (.int 0)]) (st' := [.ref 70, .ref 70]) (h' := (shT, fi, fl, fr)) rfl ?_
    refine gp_of (fun _ k9 => g_getI (x := nI b) rfl (Or.inl rfl) rfl (by decide) (e2) k9) ?_
    refine gp_n 2 (j' := 27) (lv' := [some (.ref 70), some (.int 1), some (.int 0)]) (st' := [.int ((nI b) + 0), .ref 70]) (h' := (shT, fi, fl, fr)) rfl ?_
    rw [show nI b + 0 = nI (b + 0) from nI_add b 0]
    refine gp_of (fun _ k9 => g_call (y := 154) (as := [.ref 70, .int (nI (b + 0))]) (st' := []) rfl rfl (b0) k9) ?_
    refine gp_n 1 (j' := 29) (lv' := [some (.ref 70), some (.int 1), some (.int 0)]) (st' := [.ref 70, .int (bA F t (b + 0))]) (h' := (shT, fi, fl, fr)) rfl ?_
    refine gp_of (fun _ k9 => g_getR (q' := 72) rfl rfl (by decide) k4 k9) ?_
    refine gp_n 5 (j' := 35) (lv' := [some (.ref 70), some (.int 1), some (.int 0)]) (st' := [.int 5, .ref 72, .int (bA F t (b + 0))]) (h' := (shT, fi, fl, fr)) rfl ?_
    refine gp_of (fun _ k9 => g_bald (k := 5) (x := 107) rfl rfl (by decide) (rfl) (by decide) (by decide) (w0) k9) ?_
    refine gp_of (fun _ k9 => g_icf rfl (show ¬ (¬ (bA F t (b + 0)) = (107 : Int32)) from fun z => z (q0.mpr c0)) k9) ?_
    refine gp_n 4 (j' := 12) (lv' := [some (.ref 70), some (.int 1), some (.int 1)]) (st' := [.int 5, .int 1]) (h' := (shT, fi, fl, fr)) rfl ?_
    refine gp_of (fun _ k9 => g_icf rfl (show ¬ ((5 : Int32) ≤ (1 : Int32)) from by decide) k9) ?_
    refine gp_n 1 (j' := 14) (lv' := [some (.ref 70), some (.int 1), some (.int 1)]) (st' := [.ref 70]) (h' := (shT, fi, fl, fr)) rfl ?_
    refine gp_of (fun _ k9 => g_getR (q' := 72) rfl rfl (by decide) k4 k9) ?_
    refine gp_n 5 (j' := 20) (lv' := [some (.ref 70), some (.int 1), some (.int 1)]) (st' := [.int 6, .ref 72]) (h' := (shT, fi, fl, fr)) rfl ?_
    refine gp_of (fun _ k9 => g_bald (k := 6) (x := 101) rfl rfl (by decide) (rfl) (by decide) (by decide) (w1) k9) ?_
    refine gp_of (fun _ k9 => g_iff rfl (show ¬ ((101 : Int32) = (0 : Int32)) from by decide) k9) ?_
    refine gp_n 2 (j' := 24) (lv' := [some (.ref 70), some (.int 1), some (.int 1)]) (st' := [.ref 70, .ref 70]) (h' := (shT, fi, fl, fr)) rfl ?_
    refine gp_of (fun _ k9 => g_getI (x := nI b) rfl (Or.inl rfl) rfl (by decide) (e2) k9) ?_
    refine gp_n 2 (j' := 27) (lv' := [some (.ref 70), some (.int 1), some (.int 1)]) (st' := [.int ((nI b) + 1), .ref 70]) (h' := (shT, fi, fl, fr)) rfl ?_
    rw [show nI b + 1 = nI (b + 1) from nI_add b 1]
    refine gp_of (fun _ k9 => g_call (y := 154) (as := [.ref 70, .int (nI (b + 1))]) (st' := []) rfl rfl (b1) k9) ?_
    refine gp_n 1 (j' := 29) (lv' := [some (.ref 70), some (.int 1), some (.int 1)]) (st' := [.ref 70, .int (bA F t (b + 1))]) (h' := (shT, fi, fl, fr)) rfl ?_
    refine gp_of (fun _ k9 => g_getR (q' := 72) rfl rfl (by decide) k4 k9) ?_
    refine gp_n 5 (j' := 35) (lv' := [some (.ref 70), some (.int 1), some (.int 1)]) (st' := [.int 6, .ref 72, .int (bA F t (b + 1))]) (h' := (shT, fi, fl, fr)) rfl ?_
    refine gp_of (fun _ k9 => g_bald (k := 6) (x := 101) rfl rfl (by decide) (rfl) (by decide) (by decide) (w1) k9) ?_
    refine gp_of (fun _ k9 => g_icf rfl (show ¬ (¬ (bA F t (b + 1)) = (101 : Int32)) from fun z => z (q1.mpr c1)) k9) ?_
    refine gp_n 4 (j' := 12) (lv' := [some (.ref 70), some (.int 1), some (.int 2)]) (st' := [.int 5, .int 2]) (h' := (shT, fi, fl, fr)) rfl ?_
    refine gp_of (fun _ k9 => g_icf rfl (show ¬ ((5 : Int32) ≤ (2 : Int32)) from by decide) k9) ?_
    refine gp_n 1 (j' := 14) (lv' := [some (.ref 70), some (.int 1), some (.int 2)]) (st' := [.ref 70]) (h' := (shT, fi, fl, fr)) rfl ?_
    refine gp_of (fun _ k9 => g_getR (q' := 72) rfl rfl (by decide) k4 k9) ?_
    refine gp_n 5 (j' := 20) (lv' := [some (.ref 70), some (.int 1), some (.int 2)]) (st' := [.int 7, .ref 72]) (h' := (shT, fi, fl, fr)) rfl ?_
    refine gp_of (fun _ k9 => g_bald (k := 7) (x := 101) rfl rfl (by decide) (rfl) (by decide) (by decide) (w2) k9) ?_
    refine gp_of (fun _ k9 => g_iff rfl (show ¬ ((101 : Int32) = (0 : Int32)) from by decide) k9) ?_
    refine gp_n 2 (j' := 24) (lv' := [some (.ref 70), some (.int 1), some (.int 2)]) (st' := [.ref 70, .ref 70]) (h' := (shT, fi, fl, fr)) rfl ?_
    refine gp_of (fun _ k9 => g_getI (x := nI b) rfl (Or.inl rfl) rfl (by decide) (e2) k9) ?_
    refine gp_n 2 (j' := 27) (lv' := [some (.ref 70), some (.int 1), some (.int 2)]) (st' := [.int ((nI b) + 2), .ref 70]) (h' := (shT, fi, fl, fr)) rfl ?_
    rw [show nI b + 2 = nI (b + 2) from nI_add b 2]
    refine gp_of (fun _ k9 => g_call (y := 154) (as := [.ref 70, .int (nI (b + 2))]) (st' := []) rfl rfl (b2) k9) ?_
    refine gp_n 1 (j' := 29) (lv' := [some (.ref 70), some (.int 1), some (.int 2)]) (st' := [.ref 70, .int (bA F t (b + 2))]) (h' := (shT, fi, fl, fr)) rfl ?_
    refine gp_of (fun _ k9 => g_getR (q' := 72) rfl rfl (by decide) k4 k9) ?_
    refine gp_n 5 (j' := 35) (lv' := [some (.ref 70), some (.int 1), some (.int 2)]) (st' := [.int 7, .ref 72, .int (bA F t (b + 2))]) (h' := (shT, fi, fl, fr)) rfl ?_
    refine gp_of (fun _ k9 => g_bald (k := 7) (x := 101) rfl rfl (by decide) (rfl) (by decide) (by decide) (w2) k9) ?_
    refine gp_of (fun _ k9 => g_icf rfl (show ¬ (¬ (bA F t (b + 2)) = (101 : Int32)) from fun z => z (q2.mpr c2)) k9) ?_
    refine gp_n 4 (j' := 12) (lv' := [some (.ref 70), some (.int 1), some (.int 3)]) (st' := [.int 5, .int 3]) (h' := (shT, fi, fl, fr)) rfl ?_
    refine gp_of (fun _ k9 => g_icf rfl (show ¬ ((5 : Int32) ≤ (3 : Int32)) from by decide) k9) ?_
    refine gp_n 1 (j' := 14) (lv' := [some (.ref 70), some (.int 1), some (.int 3)]) (st' := [.ref 70]) (h' := (shT, fi, fl, fr)) rfl ?_
    refine gp_of (fun _ k9 => g_getR (q' := 72) rfl rfl (by decide) k4 k9) ?_
    refine gp_n 5 (j' := 20) (lv' := [some (.ref 70), some (.int 1), some (.int 3)]) (st' := [.int 8, .ref 72]) (h' := (shT, fi, fl, fr)) rfl ?_
    refine gp_of (fun _ k9 => g_bald (k := 8) (x := 112) rfl rfl (by decide) (rfl) (by decide) (by decide) (w3) k9) ?_
    refine gp_of (fun _ k9 => g_iff rfl (show ¬ ((112 : Int32) = (0 : Int32)) from by decide) k9) ?_
    refine gp_n 2 (j' := 24) (lv' := [some (.ref 70), some (.int 1), some (.int 3)]) (st' := [.ref 70, .ref 70]) (h' := (shT, fi, fl, fr)) rfl ?_
    refine gp_of (fun _ k9 => g_getI (x := nI b) rfl (Or.inl rfl) rfl (by decide) (e2) k9) ?_
    refine gp_n 2 (j' := 27) (lv' := [some (.ref 70), some (.int 1), some (.int 3)]) (st' := [.int ((nI b) + 3), .ref 70]) (h' := (shT, fi, fl, fr)) rfl ?_
    rw [show nI b + 3 = nI (b + 3) from nI_add b 3]
    refine gp_of (fun _ k9 => g_call (y := 154) (as := [.ref 70, .int (nI (b + 3))]) (st' := []) rfl rfl (b3) k9) ?_
    refine gp_n 1 (j' := 29) (lv' := [some (.ref 70), some (.int 1), some (.int 3)]) (st' := [.ref 70, .int (bA F t (b + 3))]) (h' := (shT, fi, fl, fr)) rfl ?_
    refine gp_of (fun _ k9 => g_getR (q' := 72) rfl rfl (by decide) k4 k9) ?_
    refine gp_n 5 (j' := 35) (lv' := [some (.ref 70), some (.int 1), some (.int 3)]) (st' := [.int 8, .ref 72, .int (bA F t (b + 3))]) (h' := (shT, fi, fl, fr)) rfl ?_
    refine gp_of (fun _ k9 => g_bald (k := 8) (x := 112) rfl rfl (by decide) (rfl) (by decide) (by decide) (w3) k9) ?_
    refine gp_of (fun _ k9 => g_icf rfl (show ¬ (¬ (bA F t (b + 3)) = (112 : Int32)) from fun z => z (q3.mpr c3)) k9) ?_
    refine gp_n 4 (j' := 12) (lv' := [some (.ref 70), some (.int 1), some (.int 4)]) (st' := [.int 5, .int 4]) (h' := (shT, fi, fl, fr)) rfl ?_
    refine gp_of (fun _ k9 => g_icf rfl (show ¬ ((5 : Int32) ≤ (4 : Int32)) from by decide) k9) ?_
    refine gp_n 1 (j' := 14) (lv' := [some (.ref 70), some (.int 1), some (.int 4)]) (st' := [.ref 70]) (h' := (shT, fi, fl, fr)) rfl ?_
    refine gp_of (fun _ k9 => g_getR (q' := 72) rfl rfl (by decide) k4 k9) ?_
    refine gp_n 5 (j' := 20) (lv' := [some (.ref 70), some (.int 1), some (.int 4)]) (st' := [.int 9, .ref 72]) (h' := (shT, fi, fl, fr)) rfl ?_
    refine gp_of (fun _ k9 => g_bald (k := 9) (x := 0) rfl rfl (by decide) (rfl) (by decide) (by decide) (w4) k9) ?_
    refine gp_of (fun _ k9 => g_ift rfl (show (0 : Int32) = (0 : Int32) from by decide) k9) ?_
    refine gp_n 2 (j' := 41) (lv' := [some (.ref 70), some (.int 1), some (.int 4)]) (st' := [.int 5, .int 4]) (h' := (shT, fi, fl, fr)) rfl ?_
    refine gp_of (fun _ k9 => g_icf rfl (show ¬ ((4 : Int32) = (5 : Int32)) from by decide) k9) ?_
    refine gp_n 1 (j' := 43) (lv' := [some (.ref 70), some (.int 1), some (.int 4)]) (st' := [.ref 70]) (h' := (shT, fi, fl, fr)) rfl ?_
    refine gp_of (fun _ k9 => g_getR (q' := 72) rfl rfl (by decide) k4 k9) ?_
    refine gp_n 5 (j' := 49) (lv' := [some (.ref 70), some (.int 1), some (.int 4)]) (st' := [.int 9, .ref 72]) (h' := (shT, fi, fl, fr)) rfl ?_
    refine gp_of (fun _ k9 => g_bald (k := 9) (x := 0) rfl rfl (by decide) (rfl) (by decide) (by decide) (w4) k9) ?_
    refine gp_of (fun _ k9 => g_iff rfl (show ¬ (¬ (0 : Int32) = (0 : Int32)) from by decide) k9) ?_
    refine gp_n 2 (j' := 53) (lv' := [some (.ref 70), some (.int 1), some (.int 4)]) (st' := [.ref 70, .ref 70]) (h' := (shT, fi, fl, fr)) rfl ?_
    refine gp_of (fun _ k9 => g_getI (x := nI b) rfl (Or.inl rfl) rfl (by decide) (e2) k9) ?_
    refine gp_n 2 (j' := 56) (lv' := [some (.ref 70), some (.int 1), some (.int 4)]) (st' := [.int ((nI b) + 4), .ref 70]) (h' := (shT, fi, fl, fr)) rfl ?_
    rw [show nI b + 4 = nI (b + 4) from nI_add b 4]
    refine gp_of (fun _ k9 => g_call (y := 154) (as := [.ref 70, .int (nI (b + 4))]) (st' := []) rfl rfl (b4) k9) ?_
    refine gp_of (fun _ k9 => g_call (y := 155) (as := [.int (bA F t (b + 4))]) (st' := []) rfl rfl (l0) k9) ?_
    refine gp_of (fun _ k9 => g_iff rfl (show ¬ (¬ (0 : Int32) = (0 : Int32)) from by decide) k9) ?_
    refine gp_n 1 (j' := 60) (lv' := [some (.ref 70), some (.int 1), some (.int 4)]) (st' := [.int 1]) (h' := (shT, fi, fl, fr)) rfl ?_
    refine gp_done (g_ret rfl) ?_
    exact k1
theorem wh_2 {F : Nat → Int32} {t b : Nat} {h : PmH} {l : Option Value} {Q : Option Value × PmH → Prop} (ht : t ≤ 200) (hF : ∀ s, byR (F s)) (hb : b ≤ t) (hP : mp_P F t b h) (k1 : mt F t b (wd 2) 4 0 = true → Q (some (.int 2), h)) (k2 : mt F t b (wd 2) 4 0 = false → ∀ l', GoP pmT none cd_152 5 [some (.ref 70), some (.int 3), l'] [] h Q) : GoP pmT none cd_152 5 [some (.ref 70), some (.int 2), l] [] h Q := by
  have k4 : ph_r h 70 4 = some 72 := hi_r hP.1 rfl rfl (by decide)
  have e2 := hP.2.2.1
  have w0 : ph_i h 72 10 = 105 := hP.2.2.2.2 10 (by decide)
  have w1 : ph_i h 72 11 = 110 := hP.2.2.2.2 11 (by decide)
  have w2 : ph_i h 72 12 = 102 := hP.2.2.2.2 12 (by decide)
  have w3 : ph_i h 72 13 = 111 := hP.2.2.2.2 13 (by decide)
  have w4 : ph_i h 72 14 = 0 := hP.2.2.2.2 14 (by decide)
  have b0 := ba_ev (k := b + 0) ht (by omega) hP
  have b1 := ba_ev (k := b + 1) ht (by omega) hP
  have b2 := ba_ev (k := b + 2) ht (by omega) hP
  have b3 := ba_ev (k := b + 3) ht (by omega) hP
  have b4 := ba_ev (k := b + 4) ht (by omega) hP
  have hI := hP.1
  have q0 : bA F t (b + 0) = 105 ↔ (b + 0 < t ∧ F (b + 0) = 105) := bA_eq hF (by decide) (by decide)
  have q1 : bA F t (b + 1) = 110 ↔ (b + 1 < t ∧ F (b + 1) = 110) := bA_eq hF (by decide) (by decide)
  have q2 : bA F t (b + 2) = 102 ↔ (b + 2 < t ∧ F (b + 2) = 102) := bA_eq hF (by decide) (by decide)
  have q3 : bA F t (b + 3) = 111 ↔ (b + 3 < t ∧ F (b + 3) = 111) := bA_eq hF (by decide) (by decide)
  have qL : (97 ≤ bA F t (b + 4) ∧ bA F t (b + 4) ≤ 122) ↔ (b + 4 < t ∧ cL (F (b + 4)) = true) := bA_L hF
  have l1 := isL1 (x := bA F t (b + 4)) hI
  have l0 := isL0 (x := bA F t (b + 4)) hI
  clear hP
  obtain ⟨S, fi, fl, fr⟩ := h
  have hS : S = shT := hI.1
  subst hS
  have k4 : fr 70 4 = some 72 := k4
  have e2 : fi 70 2 = nI b := e2
  have w0 : fi 72 10 = 105 := w0
  have w1 : fi 72 11 = 110 := w1
  have w2 : fi 72 12 = 102 := w2
  have w3 : fi 72 13 = 111 := w3
  have w4 : fi 72 14 = 0 := w4
  by_cases c0 : b + 0 < t ∧ F (b + 0) = 105
  rotate_left
  · have k2 := k2 (by simp only [mt]; rw [if_neg (show ¬ (b + 0 < t ∧ F (b + 0) = (wd 2).getD 0 0) from c0)]) (some (.int 0))
    refine gp_n 2 (j' := 7) (lv' := [some (.ref 70), some (.int 2), l]) (st' := [.int 6, .int 2]) (h' := (shT, fi, fl, fr)) rfl ?_
    refine gp_of (fun _ k9 => g_icf rfl (show ¬ ((6 : Int32) ≤ (2 : Int32)) from by decide) k9) ?_
    refine gp_n 4 (j' := 12) (lv' := [some (.ref 70), some (.int 2), some (.int 0)]) (st' := [.int 5, .int 0]) (h' := (shT, fi, fl, fr)) rfl ?_
    refine gp_of (fun _ k9 => g_icf rfl (show ¬ ((5 : Int32) ≤ (0 : Int32)) from by decide) k9) ?_
    refine gp_n 1 (j' := 14) (lv' := [some (.ref 70), some (.int 2), some (.int 0)]) (st' := [.ref 70]) (h' := (shT, fi, fl, fr)) rfl ?_
    refine gp_of (fun _ k9 => g_getR (q' := 72) rfl rfl (by decide) k4 k9) ?_
    refine gp_n 5 (j' := 20) (lv' := [some (.ref 70), some (.int 2), some (.int 0)]) (st' := [.int 10, .ref 72]) (h' := (shT, fi, fl, fr)) rfl ?_
    refine gp_of (fun _ k9 => g_bald (k := 10) (x := 105) rfl rfl (by decide) (rfl) (by decide) (by decide) (w0) k9) ?_
    refine gp_of (fun _ k9 => g_iff rfl (show ¬ ((105 : Int32) = (0 : Int32)) from by decide) k9) ?_
    refine gp_n 2 (j' := 24) (lv' := [some (.ref 70), some (.int 2), some (.int 0)]) (st' := [.ref 70, .ref 70]) (h' := (shT, fi, fl, fr)) rfl ?_
    refine gp_of (fun _ k9 => g_getI (x := nI b) rfl (Or.inl rfl) rfl (by decide) (e2) k9) ?_
    refine gp_n 2 (j' := 27) (lv' := [some (.ref 70), some (.int 2), some (.int 0)]) (st' := [.int ((nI b) + 0), .ref 70]) (h' := (shT, fi, fl, fr)) rfl ?_
    rw [show nI b + 0 = nI (b + 0) from nI_add b 0]
    refine gp_of (fun _ k9 => g_call (y := 154) (as := [.ref 70, .int (nI (b + 0))]) (st' := []) rfl rfl (b0) k9) ?_
    refine gp_n 1 (j' := 29) (lv' := [some (.ref 70), some (.int 2), some (.int 0)]) (st' := [.ref 70, .int (bA F t (b + 0))]) (h' := (shT, fi, fl, fr)) rfl ?_
    refine gp_of (fun _ k9 => g_getR (q' := 72) rfl rfl (by decide) k4 k9) ?_
    refine gp_n 5 (j' := 35) (lv' := [some (.ref 70), some (.int 2), some (.int 0)]) (st' := [.int 10, .ref 72, .int (bA F t (b + 0))]) (h' := (shT, fi, fl, fr)) rfl ?_
    refine gp_of (fun _ k9 => g_bald (k := 10) (x := 105) rfl rfl (by decide) (rfl) (by decide) (by decide) (w0) k9) ?_
    refine gp_of (fun _ k9 => g_ict rfl (show ¬ (bA F t (b + 0)) = (105 : Int32) from fun z => c0 (q0.mp z)) k9) ?_
    refine gp_n 2 (j' := 41) (lv' := [some (.ref 70), some (.int 2), some (.int 0)]) (st' := [.int 5, .int 0]) (h' := (shT, fi, fl, fr)) rfl ?_
    refine gp_of (fun _ k9 => g_icf rfl (show ¬ ((0 : Int32) = (5 : Int32)) from by decide) k9) ?_
    refine gp_n 1 (j' := 43) (lv' := [some (.ref 70), some (.int 2), some (.int 0)]) (st' := [.ref 70]) (h' := (shT, fi, fl, fr)) rfl ?_
    refine gp_of (fun _ k9 => g_getR (q' := 72) rfl rfl (by decide) k4 k9) ?_
    refine gp_n 5 (j' := 49) (lv' := [some (.ref 70), some (.int 2), some (.int 0)]) (st' := [.int 10, .ref 72]) (h' := (shT, fi, fl, fr)) rfl ?_
    refine gp_of (fun _ k9 => g_bald (k := 10) (x := 105) rfl rfl (by decide) (rfl) (by decide) (by decide) (w0) k9) ?_
    refine gp_of (fun _ k9 => g_ift rfl (show ¬ (105 : Int32) = (0 : Int32) from by decide) k9) ?_
    refine gp_n 2 (j' := 5) (lv' := [some (.ref 70), some (.int 3), some (.int 0)]) (st' := []) (h' := (shT, fi, fl, fr)) rfl ?_
    exact k2
  by_cases c1 : b + 1 < t ∧ F (b + 1) = 110
  rotate_left
  · have k2 := k2 (by simp only [mt]; rw [if_pos (show b + 0 < t ∧ F (b + 0) = (wd 2).getD 0 0 from c0)]; rw [if_neg (show ¬ (b + 1 < t ∧ F (b + 1) = (wd 2).getD 1 0) from c1)]) (some (.int 1))
    refine gp_n 2 (j' := 7) (lv' := [some (.ref 70), some (.int 2), l]) (st' := [.int 6, .int 2]) (h' := (shT, fi, fl, fr)) rfl ?_
    refine gp_of (fun _ k9 => g_icf rfl (show ¬ ((6 : Int32) ≤ (2 : Int32)) from by decide) k9) ?_
    refine gp_n 4 (j' := 12) (lv' := [some (.ref 70), some (.int 2), some (.int 0)]) (st' := [.int 5, .int 0]) (h' := (shT, fi, fl, fr)) rfl ?_
    refine gp_of (fun _ k9 => g_icf rfl (show ¬ ((5 : Int32) ≤ (0 : Int32)) from by decide) k9) ?_
    refine gp_n 1 (j' := 14) (lv' := [some (.ref 70), some (.int 2), some (.int 0)]) (st' := [.ref 70]) (h' := (shT, fi, fl, fr)) rfl ?_
    refine gp_of (fun _ k9 => g_getR (q' := 72) rfl rfl (by decide) k4 k9) ?_
    refine gp_n 5 (j' := 20) (lv' := [some (.ref 70), some (.int 2), some (.int 0)]) (st' := [.int 10, .ref 72]) (h' := (shT, fi, fl, fr)) rfl ?_
    refine gp_of (fun _ k9 => g_bald (k := 10) (x := 105) rfl rfl (by decide) (rfl) (by decide) (by decide) (w0) k9) ?_
    refine gp_of (fun _ k9 => g_iff rfl (show ¬ ((105 : Int32) = (0 : Int32)) from by decide) k9) ?_
    refine gp_n 2 (j' := 24) (lv' := [some (.ref 70), some (.int 2), some (.int 0)]) (st' := [.ref 70, .ref 70]) (h' := (shT, fi, fl, fr)) rfl ?_
    refine gp_of (fun _ k9 => g_getI (x := nI b) rfl (Or.inl rfl) rfl (by decide) (e2) k9) ?_
    refine gp_n 2 (j' := 27) (lv' := [some (.ref 70), some (.int 2), some (.int 0)]) (st' := [.int ((nI b) + 0), .ref 70]) (h' := (shT, fi, fl, fr)) rfl ?_
    rw [show nI b + 0 = nI (b + 0) from nI_add b 0]
    refine gp_of (fun _ k9 => g_call (y := 154) (as := [.ref 70, .int (nI (b + 0))]) (st' := []) rfl rfl (b0) k9) ?_
    refine gp_n 1 (j' := 29) (lv' := [some (.ref 70), some (.int 2), some (.int 0)]) (st' := [.ref 70, .int (bA F t (b + 0))]) (h' := (shT, fi, fl, fr)) rfl ?_
    refine gp_of (fun _ k9 => g_getR (q' := 72) rfl rfl (by decide) k4 k9) ?_
    refine gp_n 5 (j' := 35) (lv' := [some (.ref 70), some (.int 2), some (.int 0)]) (st' := [.int 10, .ref 72, .int (bA F t (b + 0))]) (h' := (shT, fi, fl, fr)) rfl ?_
    refine gp_of (fun _ k9 => g_bald (k := 10) (x := 105) rfl rfl (by decide) (rfl) (by decide) (by decide) (w0) k9) ?_
    refine gp_of (fun _ k9 => g_icf rfl (show ¬ (¬ (bA F t (b + 0)) = (105 : Int32)) from fun z => z (q0.mpr c0)) k9) ?_
    refine gp_n 4 (j' := 12) (lv' := [some (.ref 70), some (.int 2), some (.int 1)]) (st' := [.int 5, .int 1]) (h' := (shT, fi, fl, fr)) rfl ?_
    refine gp_of (fun _ k9 => g_icf rfl (show ¬ ((5 : Int32) ≤ (1 : Int32)) from by decide) k9) ?_
    refine gp_n 1 (j' := 14) (lv' := [some (.ref 70), some (.int 2), some (.int 1)]) (st' := [.ref 70]) (h' := (shT, fi, fl, fr)) rfl ?_
    refine gp_of (fun _ k9 => g_getR (q' := 72) rfl rfl (by decide) k4 k9) ?_
    refine gp_n 5 (j' := 20) (lv' := [some (.ref 70), some (.int 2), some (.int 1)]) (st' := [.int 11, .ref 72]) (h' := (shT, fi, fl, fr)) rfl ?_
    refine gp_of (fun _ k9 => g_bald (k := 11) (x := 110) rfl rfl (by decide) (rfl) (by decide) (by decide) (w1) k9) ?_
    refine gp_of (fun _ k9 => g_iff rfl (show ¬ ((110 : Int32) = (0 : Int32)) from by decide) k9) ?_
    refine gp_n 2 (j' := 24) (lv' := [some (.ref 70), some (.int 2), some (.int 1)]) (st' := [.ref 70, .ref 70]) (h' := (shT, fi, fl, fr)) rfl ?_
    refine gp_of (fun _ k9 => g_getI (x := nI b) rfl (Or.inl rfl) rfl (by decide) (e2) k9) ?_
    refine gp_n 2 (j' := 27) (lv' := [some (.ref 70), some (.int 2), some (.int 1)]) (st' := [.int ((nI b) + 1), .ref 70]) (h' := (shT, fi, fl, fr)) rfl ?_
    rw [show nI b + 1 = nI (b + 1) from nI_add b 1]
    refine gp_of (fun _ k9 => g_call (y := 154) (as := [.ref 70, .int (nI (b + 1))]) (st' := []) rfl rfl (b1) k9) ?_
    refine gp_n 1 (j' := 29) (lv' := [some (.ref 70), some (.int 2), some (.int 1)]) (st' := [.ref 70, .int (bA F t (b + 1))]) (h' := (shT, fi, fl, fr)) rfl ?_
    refine gp_of (fun _ k9 => g_getR (q' := 72) rfl rfl (by decide) k4 k9) ?_
    refine gp_n 5 (j' := 35) (lv' := [some (.ref 70), some (.int 2), some (.int 1)]) (st' := [.int 11, .ref 72, .int (bA F t (b + 1))]) (h' := (shT, fi, fl, fr)) rfl ?_
    refine gp_of (fun _ k9 => g_bald (k := 11) (x := 110) rfl rfl (by decide) (rfl) (by decide) (by decide) (w1) k9) ?_
    refine gp_of (fun _ k9 => g_ict rfl (show ¬ (bA F t (b + 1)) = (110 : Int32) from fun z => c1 (q1.mp z)) k9) ?_
    refine gp_n 2 (j' := 41) (lv' := [some (.ref 70), some (.int 2), some (.int 1)]) (st' := [.int 5, .int 1]) (h' := (shT, fi, fl, fr)) rfl ?_
    refine gp_of (fun _ k9 => g_icf rfl (show ¬ ((1 : Int32) = (5 : Int32)) from by decide) k9) ?_
    refine gp_n 1 (j' := 43) (lv' := [some (.ref 70), some (.int 2), some (.int 1)]) (st' := [.ref 70]) (h' := (shT, fi, fl, fr)) rfl ?_
    refine gp_of (fun _ k9 => g_getR (q' := 72) rfl rfl (by decide) k4 k9) ?_
    refine gp_n 5 (j' := 49) (lv' := [some (.ref 70), some (.int 2), some (.int 1)]) (st' := [.int 11, .ref 72]) (h' := (shT, fi, fl, fr)) rfl ?_
    refine gp_of (fun _ k9 => g_bald (k := 11) (x := 110) rfl rfl (by decide) (rfl) (by decide) (by decide) (w1) k9) ?_
    refine gp_of (fun _ k9 => g_ift rfl (show ¬ (110 : Int32) = (0 : Int32) from by decide) k9) ?_
    refine gp_n 2 (j' := 5) (lv' := [some (.ref 70), some (.int 3), some (.int 1)]) (st' := []) (h' := (shT, fi, fl, fr)) rfl ?_
    exact k2
  by_cases c2 : b + 2 < t ∧ F (b + 2) = 102
  rotate_left
  · have k2 := k2 (by simp only [mt]; rw [if_pos (show b + 0 < t ∧ F (b + 0) = (wd 2).getD 0 0 from c0)]; rw [if_pos (show b + 1 < t ∧ F (b + 1) = (wd 2).getD 1 0 from c1)]; rw [if_neg (show ¬ (b + 2 < t ∧ F (b + 2) = (wd 2).getD 2 0) from c2)]) (some (.int 2))
    refine gp_n 2 (j' := 7) (lv' := [some (.ref 70), some (.int 2), l]) (st' := [.int 6, .int 2]) (h' := (shT, fi, fl, fr)) rfl ?_
    refine gp_of (fun _ k9 => g_icf rfl (show ¬ ((6 : Int32) ≤ (2 : Int32)) from by decide) k9) ?_
    refine gp_n 4 (j' := 12) (lv' := [some (.ref 70), some (.int 2), some (.int 0)]) (st' := [.int 5, .int 0]) (h' := (shT, fi, fl, fr)) rfl ?_
    refine gp_of (fun _ k9 => g_icf rfl (show ¬ ((5 : Int32) ≤ (0 : Int32)) from by decide) k9) ?_
    refine gp_n 1 (j' := 14) (lv' := [some (.ref 70), some (.int 2), some (.int 0)]) (st' := [.ref 70]) (h' := (shT, fi, fl, fr)) rfl ?_
    refine gp_of (fun _ k9 => g_getR (q' := 72) rfl rfl (by decide) k4 k9) ?_
    refine gp_n 5 (j' := 20) (lv' := [some (.ref 70), some (.int 2), some (.int 0)]) (st' := [.int 10, .ref 72]) (h' := (shT, fi, fl, fr)) rfl ?_
    refine gp_of (fun _ k9 => g_bald (k := 10) (x := 105) rfl rfl (by decide) (rfl) (by decide) (by decide) (w0) k9) ?_
    refine gp_of (fun _ k9 => g_iff rfl (show ¬ ((105 : Int32) = (0 : Int32)) from by decide) k9) ?_
    refine gp_n 2 (j' := 24) (lv' := [some (.ref 70), some (.int 2), some (.int 0)]) (st' := [.ref 70, .ref 70]) (h' := (shT, fi, fl, fr)) rfl ?_
    refine gp_of (fun _ k9 => g_getI (x := nI b) rfl (Or.inl rfl) rfl (by decide) (e2) k9) ?_
    refine gp_n 2 (j' := 27) (lv' := [some (.ref 70), some (.int 2), some (.int 0)]) (st' := [.int ((nI b) + 0), .ref 70]) (h' := (shT, fi, fl, fr)) rfl ?_
    rw [show nI b + 0 = nI (b + 0) from nI_add b 0]
    refine gp_of (fun _ k9 => g_call (y := 154) (as := [.ref 70, .int (nI (b + 0))]) (st' := []) rfl rfl (b0) k9) ?_
    refine gp_n 1 (j' := 29) (lv' := [some (.ref 70), some (.int 2), some (.int 0)]) (st' := [.ref 70, .int (bA F t (b + 0))]) (h' := (shT, fi, fl, fr)) rfl ?_
    refine gp_of (fun _ k9 => g_getR (q' := 72) rfl rfl (by decide) k4 k9) ?_
    refine gp_n 5 (j' := 35) (lv' := [some (.ref 70), some (.int 2), some (.int 0)]) (st' := [.int 10, .ref 72, .int (bA F t (b + 0))]) (h' := (shT, fi, fl, fr)) rfl ?_
    refine gp_of (fun _ k9 => g_bald (k := 10) (x := 105) rfl rfl (by decide) (rfl) (by decide) (by decide) (w0) k9) ?_
    refine gp_of (fun _ k9 => g_icf rfl (show ¬ (¬ (bA F t (b + 0)) = (105 : Int32)) from fun z => z (q0.mpr c0)) k9) ?_
    refine gp_n 4 (j' := 12) (lv' := [some (.ref 70), some (.int 2), some (.int 1)]) (st' := [.int 5, .int 1]) (h' := (shT, fi, fl, fr)) rfl ?_
    refine gp_of (fun _ k9 => g_icf rfl (show ¬ ((5 : Int32) ≤ (1 : Int32)) from by decide) k9) ?_
    refine gp_n 1 (j' := 14) (lv' := [some (.ref 70), some (.int 2), some (.int 1)]) (st' := [.ref 70]) (h' := (shT, fi, fl, fr)) rfl ?_
    refine gp_of (fun _ k9 => g_getR (q' := 72) rfl rfl (by decide) k4 k9) ?_
    refine gp_n 5 (j' := 20) (lv' := [some (.ref 70), some (.int 2), some (.int 1)]) (st' := [.int 11, .ref 72]) (h' := (shT, fi, fl, fr)) rfl ?_
    refine gp_of (fun _ k9 => g_bald (k := 11) (x := 110) rfl rfl (by decide) (rfl) (by decide) (by decide) (w1) k9) ?_
    refine gp_of (fun _ k9 => g_iff rfl (show ¬ ((110 : Int32) = (0 : Int32)) from by decide) k9) ?_
    refine gp_n 2 (j' := 24) (lv' := [some (.ref 70), some (.int 2), some (.int 1)]) (st' := [.ref 70, .ref 70]) (h' := (shT, fi, fl, fr)) rfl ?_
    refine gp_of (fun _ k9 => g_getI (x := nI b) rfl (Or.inl rfl) rfl (by decide) (e2) k9) ?_
    refine gp_n 2 (j' := 27) (lv' := [some (.ref 70), some (.int 2), some (.int 1)]) (st' := [.int ((nI b) + 1), .ref 70]) (h' := (shT, fi, fl, fr)) rfl ?_
    rw [show nI b + 1 = nI (b + 1) from nI_add b 1]
    refine gp_of (fun _ k9 => g_call (y := 154) (as := [.ref 70, .int (nI (b + 1))]) (st' := []) rfl rfl (b1) k9) ?_
    refine gp_n 1 (j' := 29) (lv' := [some (.ref 70), some (.int 2), some (.int 1)]) (st' := [.ref 70, .int (bA F t (b + 1))]) (h' := (shT, fi, fl, fr)) rfl ?_
    refine gp_of (fun _ k9 => g_getR (q' := 72) rfl rfl (by decide) k4 k9) ?_
    refine gp_n 5 (j' := 35) (lv' := [some (.ref 70), some (.int 2), some (.int 1)]) (st' := [.int 11, .ref 72, .int (bA F t (b + 1))]) (h' := (shT, fi, fl, fr)) rfl ?_
    refine gp_of (fun _ k9 => g_bald (k := 11) (x := 110) rfl rfl (by decide) (rfl) (by decide) (by decide) (w1) k9) ?_
    refine gp_of (fun _ k9 => g_icf rfl (show ¬ (¬ (bA F t (b + 1)) = (110 : Int32)) from fun z => z (q1.mpr c1)) k9) ?_
    refine gp_n 4 (j' := 12) (lv' := [some (.ref 70), some (.int 2), some (.int 2)]) (st' := [.int 5, .int 2]) (h' := (shT, fi, fl, fr)) rfl ?_
    refine gp_of (fun _ k9 => g_icf rfl (show ¬ ((5 : Int32) ≤ (2 : Int32)) from by decide) k9) ?_
    refine gp_n 1 (j' := 14) (lv' := [some (.ref 70), some (.int 2), some (.int 2)]) (st' := [.ref 70]) (h' := (shT, fi, fl, fr)) rfl ?_
    refine gp_of (fun _ k9 => g_getR (q' := 72) rfl rfl (by decide) k4 k9) ?_
    refine gp_n 5 (j' := 20) (lv' := [some (.ref 70), some (.int 2), some (.int 2)]) (st' := [.int 12, .ref 72]) (h' := (shT, fi, fl, fr)) rfl ?_
    refine gp_of (fun _ k9 => g_bald (k := 12) (x := 102) rfl rfl (by decide) (rfl) (by decide) (by decide) (w2) k9) ?_
    refine gp_of (fun _ k9 => g_iff rfl (show ¬ ((102 : Int32) = (0 : Int32)) from by decide) k9) ?_
    refine gp_n 2 (j' := 24) (lv' := [some (.ref 70), some (.int 2), some (.int 2)]) (st' := [.ref 70, .ref 70]) (h' := (shT, fi, fl, fr)) rfl ?_
    refine gp_of (fun _ k9 => g_getI (x := nI b) rfl (Or.inl rfl) rfl (by decide) (e2) k9) ?_
    refine gp_n 2 (j' := 27) (lv' := [some (.ref 70), some (.int 2), some (.int 2)]) (st' := [.int ((nI b) + 2), .ref 70]) (h' := (shT, fi, fl, fr)) rfl ?_
    rw [show nI b + 2 = nI (b + 2) from nI_add b 2]
    refine gp_of (fun _ k9 => g_call (y := 154) (as := [.ref 70, .int (nI (b + 2))]) (st' := []) rfl rfl (b2) k9) ?_
    refine gp_n 1 (j' := 29) (lv' := [some (.ref 70), some (.int 2), some (.int 2)]) (st' := [.ref 70, .int (bA F t (b + 2))]) (h' := (shT, fi, fl, fr)) rfl ?_
    refine gp_of (fun _ k9 => g_getR (q' := 72) rfl rfl (by decide) k4 k9) ?_
    refine gp_n 5 (j' := 35) (lv' := [some (.ref 70), some (.int 2), some (.int 2)]) (st' := [.int 12, .ref 72, .int (bA F t (b + 2))]) (h' := (shT, fi, fl, fr)) rfl ?_
    refine gp_of (fun _ k9 => g_bald (k := 12) (x := 102) rfl rfl (by decide) (rfl) (by decide) (by decide) (w2) k9) ?_
    refine gp_of (fun _ k9 => g_ict rfl (show ¬ (bA F t (b + 2)) = (102 : Int32) from fun z => c2 (q2.mp z)) k9) ?_
    refine gp_n 2 (j' := 41) (lv' := [some (.ref 70), some (.int 2), some (.int 2)]) (st' := [.int 5, .int 2]) (h' := (shT, fi, fl, fr)) rfl ?_
    refine gp_of (fun _ k9 => g_icf rfl (show ¬ ((2 : Int32) = (5 : Int32)) from by decide) k9) ?_
    refine gp_n 1 (j' := 43) (lv' := [some (.ref 70), some (.int 2), some (.int 2)]) (st' := [.ref 70]) (h' := (shT, fi, fl, fr)) rfl ?_
    refine gp_of (fun _ k9 => g_getR (q' := 72) rfl rfl (by decide) k4 k9) ?_
    refine gp_n 5 (j' := 49) (lv' := [some (.ref 70), some (.int 2), some (.int 2)]) (st' := [.int 12, .ref 72]) (h' := (shT, fi, fl, fr)) rfl ?_
    refine gp_of (fun _ k9 => g_bald (k := 12) (x := 102) rfl rfl (by decide) (rfl) (by decide) (by decide) (w2) k9) ?_
    refine gp_of (fun _ k9 => g_ift rfl (show ¬ (102 : Int32) = (0 : Int32) from by decide) k9) ?_
    refine gp_n 2 (j' := 5) (lv' := [some (.ref 70), some (.int 3), some (.int 2)]) (st' := []) (h' := (shT, fi, fl, fr)) rfl ?_
    exact k2
  by_cases c3 : b + 3 < t ∧ F (b + 3) = 111
  rotate_left
  · have k2 := k2 (by simp only [mt]; rw [if_pos (show b + 0 < t ∧ F (b + 0) = (wd 2).getD 0 0 from c0)]; rw [if_pos (show b + 1 < t ∧ F (b + 1) = (wd 2).getD 1 0 from c1)]; rw [if_pos (show b + 2 < t ∧ F (b + 2) = (wd 2).getD 2 0 from c2)]; rw [if_neg (show ¬ (b + 3 < t ∧ F (b + 3) = (wd 2).getD 3 0) from c3)]) (some (.int 3))
    refine gp_n 2 (j' := 7) (lv' := [some (.ref 70), some (.int 2), l]) (st' := [.int 6, .int 2]) (h' := (shT, fi, fl, fr)) rfl ?_
    refine gp_of (fun _ k9 => g_icf rfl (show ¬ ((6 : Int32) ≤ (2 : Int32)) from by decide) k9) ?_
    refine gp_n 4 (j' := 12) (lv' := [some (.ref 70), some (.int 2), some (.int 0)]) (st' := [.int 5, .int 0]) (h' := (shT, fi, fl, fr)) rfl ?_
    refine gp_of (fun _ k9 => g_icf rfl (show ¬ ((5 : Int32) ≤ (0 : Int32)) from by decide) k9) ?_
    refine gp_n 1 (j' := 14) (lv' := [some (.ref 70), some (.int 2), some (.int 0)]) (st' := [.ref 70]) (h' := (shT, fi, fl, fr)) rfl ?_
    refine gp_of (fun _ k9 => g_getR (q' := 72) rfl rfl (by decide) k4 k9) ?_
    refine gp_n 5 (j' := 20) (lv' := [some (.ref 70), some (.int 2), some (.int 0)]) (st' := [.int 10, .ref 72]) (h' := (shT, fi, fl, fr)) rfl ?_
    refine gp_of (fun _ k9 => g_bald (k := 10) (x := 105) rfl rfl (by decide) (rfl) (by decide) (by decide) (w0) k9) ?_
    refine gp_of (fun _ k9 => g_iff rfl (show ¬ ((105 : Int32) = (0 : Int32)) from by decide) k9) ?_
    refine gp_n 2 (j' := 24) (lv' := [some (.ref 70), some (.int 2), some (.int 0)]) (st' := [.ref 70, .ref 70]) (h' := (shT, fi, fl, fr)) rfl ?_
    refine gp_of (fun _ k9 => g_getI (x := nI b) rfl (Or.inl rfl) rfl (by decide) (e2) k9) ?_
    refine gp_n 2 (j' := 27) (lv' := [some (.ref 70), some (.int 2), some (.int 0)]) (st' := [.int ((nI b) + 0), .ref 70]) (h' := (shT, fi, fl, fr)) rfl ?_
    rw [show nI b + 0 = nI (b + 0) from nI_add b 0]
    refine gp_of (fun _ k9 => g_call (y := 154) (as := [.ref 70, .int (nI (b + 0))]) (st' := []) rfl rfl (b0) k9) ?_
    refine gp_n 1 (j' := 29) (lv' := [some (.ref 70), some (.int 2), some (.int 0)]) (st' := [.ref 70, .int (bA F t (b + 0))]) (h' := (shT, fi, fl, fr)) rfl ?_
    refine gp_of (fun _ k9 => g_getR (q' := 72) rfl rfl (by decide) k4 k9) ?_
    refine gp_n 5 (j' := 35) (lv' := [some (.ref 70), some (.int 2), some (.int 0)]) (st' := [.int 10, .ref 72, .int (bA F t (b + 0))]) (h' := (shT, fi, fl, fr)) rfl ?_
    refine gp_of (fun _ k9 => g_bald (k := 10) (x := 105) rfl rfl (by decide) (rfl) (by decide) (by decide) (w0) k9) ?_
    refine gp_of (fun _ k9 => g_icf rfl (show ¬ (¬ (bA F t (b + 0)) = (105 : Int32)) from fun z => z (q0.mpr c0)) k9) ?_
    refine gp_n 4 (j' := 12) (lv' := [some (.ref 70), some (.int 2), some (.int 1)]) (st' := [.int 5, .int 1]) (h' := (shT, fi, fl, fr)) rfl ?_
    refine gp_of (fun _ k9 => g_icf rfl (show ¬ ((5 : Int32) ≤ (1 : Int32)) from by decide) k9) ?_
    refine gp_n 1 (j' := 14) (lv' := [some (.ref 70), some (.int 2), some (.int 1)]) (st' := [.ref 70]) (h' := (shT, fi, fl, fr)) rfl ?_
    refine gp_of (fun _ k9 => g_getR (q' := 72) rfl rfl (by decide) k4 k9) ?_
    refine gp_n 5 (j' := 20) (lv' := [some (.ref 70), some (.int 2), some (.int 1)]) (st' := [.int 11, .ref 72]) (h' := (shT, fi, fl, fr)) rfl ?_
    refine gp_of (fun _ k9 => g_bald (k := 11) (x := 110) rfl rfl (by decide) (rfl) (by decide) (by decide) (w1) k9) ?_
    refine gp_of (fun _ k9 => g_iff rfl (show ¬ ((110 : Int32) = (0 : Int32)) from by decide) k9) ?_
    refine gp_n 2 (j' := 24) (lv' := [some (.ref 70), some (.int 2), some (.int 1)]) (st' := [.ref 70, .ref 70]) (h' := (shT, fi, fl, fr)) rfl ?_
    refine gp_of (fun _ k9 => g_getI (x := nI b) rfl (Or.inl rfl) rfl (by decide) (e2) k9) ?_
    refine gp_n 2 (j' := 27) (lv' := [some (.ref 70), some (.int 2), some (.int 1)]) (st' := [.int ((nI b) + 1), .ref 70]) (h' := (shT, fi, fl, fr)) rfl ?_
    rw [show nI b + 1 = nI (b + 1) from nI_add b 1]
    refine gp_of (fun _ k9 => g_call (y := 154) (as := [.ref 70, .int (nI (b + 1))]) (st' := []) rfl rfl (b1) k9) ?_
    refine gp_n 1 (j' := 29) (lv' := [some (.ref 70), some (.int 2), some (.int 1)]) (st' := [.ref 70, .int (bA F t (b + 1))]) (h' := (shT, fi, fl, fr)) rfl ?_
    refine gp_of (fun _ k9 => g_getR (q' := 72) rfl rfl (by decide) k4 k9) ?_
    refine gp_n 5 (j' := 35) (lv' := [some (.ref 70), some (.int 2), some (.int 1)]) (st' := [.int 11, .ref 72, .int (bA F t (b + 1))]) (h' := (shT, fi, fl, fr)) rfl ?_
    refine gp_of (fun _ k9 => g_bald (k := 11) (x := 110) rfl rfl (by decide) (rfl) (by decide) (by decide) (w1) k9) ?_
    refine gp_of (fun _ k9 => g_icf rfl (show ¬ (¬ (bA F t (b + 1)) = (110 : Int32)) from fun z => z (q1.mpr c1)) k9) ?_
    refine gp_n 4 (j' := 12) (lv' := [some (.ref 70), some (.int 2), some (.int 2)]) (st' := [.int 5, .int 2]) (h' := (shT, fi, fl, fr)) rfl ?_
    refine gp_of (fun _ k9 => g_icf rfl (show ¬ ((5 : Int32) ≤ (2 : Int32)) from by decide) k9) ?_
    refine gp_n 1 (j' := 14) (lv' := [some (.ref 70), some (.int 2), some (.int 2)]) (st' := [.ref 70]) (h' := (shT, fi, fl, fr)) rfl ?_
    refine gp_of (fun _ k9 => g_getR (q' := 72) rfl rfl (by decide) k4 k9) ?_
    refine gp_n 5 (j' := 20) (lv' := [some (.ref 70), some (.int 2), some (.int 2)]) (st' := [.int 12, .ref 72]) (h' := (shT, fi, fl, fr)) rfl ?_
    refine gp_of (fun _ k9 => g_bald (k := 12) (x := 102) rfl rfl (by decide) (rfl) (by decide) (by decide) (w2) k9) ?_
    refine gp_of (fun _ k9 => g_iff rfl (show ¬ ((102 : Int32) = (0 : Int32)) from by decide) k9) ?_
    refine gp_n 2 (j' := 24) (lv' := [some (.ref 70), some (.int 2), some (.int 2)]) (st' := [.ref 70, .ref 70]) (h' := (shT, fi, fl, fr)) rfl ?_
    refine gp_of (fun _ k9 => g_getI (x := nI b) rfl (Or.inl rfl) rfl (by decide) (e2) k9) ?_
    refine gp_n 2 (j' := 27) (lv' := [some (.ref 70), some (.int 2), some (.int 2)]) (st' := [.int ((nI b) + 2), .ref 70]) (h' := (shT, fi, fl, fr)) rfl ?_
    rw [show nI b + 2 = nI (b + 2) from nI_add b 2]
    refine gp_of (fun _ k9 => g_call (y := 154) (as := [.ref 70, .int (nI (b + 2))]) (st' := []) rfl rfl (b2) k9) ?_
    refine gp_n 1 (j' := 29) (lv' := [some (.ref 70), some (.int 2), some (.int 2)]) (st' := [.ref 70, .int (bA F t (b + 2))]) (h' := (shT, fi, fl, fr)) rfl ?_
    refine gp_of (fun _ k9 => g_getR (q' := 72) rfl rfl (by decide) k4 k9) ?_
    refine gp_n 5 (j' := 35) (lv' := [some (.ref 70), some (.int 2), some (.int 2)]) (st' := [.int 12, .ref 72, .int (bA F t (b + 2))]) (h' := (shT, fi, fl, fr)) rfl ?_
    refine gp_of (fun _ k9 => g_bald (k := 12) (x := 102) rfl rfl (by decide) (rfl) (by decide) (by decide) (w2) k9) ?_
    refine gp_of (fun _ k9 => g_icf rfl (show ¬ (¬ (bA F t (b + 2)) = (102 : Int32)) from fun z => z (q2.mpr c2)) k9) ?_
    refine gp_n 4 (j' := 12) (lv' := [some (.ref 70), some (.int 2), some (.int 3)]) (st' := [.int 5, .int 3]) (h' := (shT, fi, fl, fr)) rfl ?_
    refine gp_of (fun _ k9 => g_icf rfl (show ¬ ((5 : Int32) ≤ (3 : Int32)) from by decide) k9) ?_
    refine gp_n 1 (j' := 14) (lv' := [some (.ref 70), some (.int 2), some (.int 3)]) (st' := [.ref 70]) (h' := (shT, fi, fl, fr)) rfl ?_
    refine gp_of (fun _ k9 => g_getR (q' := 72) rfl rfl (by decide) k4 k9) ?_
    refine gp_n 5 (j' := 20) (lv' := [some (.ref 70), some (.int 2), some (.int 3)]) (st' := [.int 13, .ref 72]) (h' := (shT, fi, fl, fr)) rfl ?_
    refine gp_of (fun _ k9 => g_bald (k := 13) (x := 111) rfl rfl (by decide) (rfl) (by decide) (by decide) (w3) k9) ?_
    refine gp_of (fun _ k9 => g_iff rfl (show ¬ ((111 : Int32) = (0 : Int32)) from by decide) k9) ?_
    refine gp_n 2 (j' := 24) (lv' := [some (.ref 70), some (.int 2), some (.int 3)]) (st' := [.ref 70, .ref 70]) (h' := (shT, fi, fl, fr)) rfl ?_
    refine gp_of (fun _ k9 => g_getI (x := nI b) rfl (Or.inl rfl) rfl (by decide) (e2) k9) ?_
    refine gp_n 2 (j' := 27) (lv' := [some (.ref 70), some (.int 2), some (.int 3)]) (st' := [.int ((nI b) + 3), .ref 70]) (h' := (shT, fi, fl, fr)) rfl ?_
    rw [show nI b + 3 = nI (b + 3) from nI_add b 3]
    refine gp_of (fun _ k9 => g_call (y := 154) (as := [.ref 70, .int (nI (b + 3))]) (st' := []) rfl rfl (b3) k9) ?_
    refine gp_n 1 (j' := 29) (lv' := [some (.ref 70), some (.int 2), some (.int 3)]) (st' := [.ref 70, .int (bA F t (b + 3))]) (h' := (shT, fi, fl, fr)) rfl ?_
    refine gp_of (fun _ k9 => g_getR (q' := 72) rfl rfl (by decide) k4 k9) ?_
    refine gp_n 5 (j' := 35) (lv' := [some (.ref 70), some (.int 2), some (.int 3)]) (st' := [.int 13, .ref 72, .int (bA F t (b + 3))]) (h' := (shT, fi, fl, fr)) rfl ?_
    refine gp_of (fun _ k9 => g_bald (k := 13) (x := 111) rfl rfl (by decide) (rfl) (by decide) (by decide) (w3) k9) ?_
    refine gp_of (fun _ k9 => g_ict rfl (show ¬ (bA F t (b + 3)) = (111 : Int32) from fun z => c3 (q3.mp z)) k9) ?_
    refine gp_n 2 (j' := 41) (lv' := [some (.ref 70), some (.int 2), some (.int 3)]) (st' := [.int 5, .int 3]) (h' := (shT, fi, fl, fr)) rfl ?_
    refine gp_of (fun _ k9 => g_icf rfl (show ¬ ((3 : Int32) = (5 : Int32)) from by decide) k9) ?_
    refine gp_n 1 (j' := 43) (lv' := [some (.ref 70), some (.int 2), some (.int 3)]) (st' := [.ref 70]) (h' := (shT, fi, fl, fr)) rfl ?_
    refine gp_of (fun _ k9 => g_getR (q' := 72) rfl rfl (by decide) k4 k9) ?_
    refine gp_n 5 (j' := 49) (lv' := [some (.ref 70), some (.int 2), some (.int 3)]) (st' := [.int 13, .ref 72]) (h' := (shT, fi, fl, fr)) rfl ?_
    refine gp_of (fun _ k9 => g_bald (k := 13) (x := 111) rfl rfl (by decide) (rfl) (by decide) (by decide) (w3) k9) ?_
    refine gp_of (fun _ k9 => g_ift rfl (show ¬ (111 : Int32) = (0 : Int32) from by decide) k9) ?_
    refine gp_n 2 (j' := 5) (lv' := [some (.ref 70), some (.int 3), some (.int 3)]) (st' := []) (h' := (shT, fi, fl, fr)) rfl ?_
    exact k2
  by_cases cz : b + 4 < t ∧ cL (F (b + 4)) = true
  · have k2 := k2 (by simp only [mt]; rw [if_pos (show b + 0 < t ∧ F (b + 0) = (wd 2).getD 0 0 from c0)]; rw [if_pos (show b + 1 < t ∧ F (b + 1) = (wd 2).getD 1 0 from c1)]; rw [if_pos (show b + 2 < t ∧ F (b + 2) = (wd 2).getD 2 0 from c2)]; rw [if_pos (show b + 3 < t ∧ F (b + 3) = (wd 2).getD 3 0 from c3)]; rw [decide_eq_true cz.1, cz.2]; rfl) (some (.int 4))
    have l1 := l1 (qL.mpr cz)
    refine gp_n 2 (j' := 7) (lv' := [some (.ref 70), some (.int 2), l]) (st' := [.int 6, .int 2]) (h' := (shT, fi, fl, fr)) rfl ?_
    refine gp_of (fun _ k9 => g_icf rfl (show ¬ ((6 : Int32) ≤ (2 : Int32)) from by decide) k9) ?_
    refine gp_n 4 (j' := 12) (lv' := [some (.ref 70), some (.int 2), some (.int 0)]) (st' := [.int 5, .int 0]) (h' := (shT, fi, fl, fr)) rfl ?_
    refine gp_of (fun _ k9 => g_icf rfl (show ¬ ((5 : Int32) ≤ (0 : Int32)) from by decide) k9) ?_
    refine gp_n 1 (j' := 14) (lv' := [some (.ref 70), some (.int 2), some (.int 0)]) (st' := [.ref 70]) (h' := (shT, fi, fl, fr)) rfl ?_
    refine gp_of (fun _ k9 => g_getR (q' := 72) rfl rfl (by decide) k4 k9) ?_
    refine gp_n 5 (j' := 20) (lv' := [some (.ref 70), some (.int 2), some (.int 0)]) (st' := [.int 10, .ref 72]) (h' := (shT, fi, fl, fr)) rfl ?_
    refine gp_of (fun _ k9 => g_bald (k := 10) (x := 105) rfl rfl (by decide) (rfl) (by decide) (by decide) (w0) k9) ?_
    refine gp_of (fun _ k9 => g_iff rfl (show ¬ ((105 : Int32) = (0 : Int32)) from by decide) k9) ?_
    refine gp_n 2 (j' := 24) (lv' := [some (.ref 70), some (.int 2), some (.int 0)]) (st' := [.ref 70, .ref 70]) (h' := (shT, fi, fl, fr)) rfl ?_
    refine gp_of (fun _ k9 => g_getI (x := nI b) rfl (Or.inl rfl) rfl (by decide) (e2) k9) ?_
    refine gp_n 2 (j' := 27) (lv' := [some (.ref 70), some (.int 2), some (.int 0)]) (st' := [.int ((nI b) + 0), .ref 70]) (h' := (shT, fi, fl, fr)) rfl ?_
    rw [show nI b + 0 = nI (b + 0) from nI_add b 0]
    refine gp_of (fun _ k9 => g_call (y := 154) (as := [.ref 70, .int (nI (b + 0))]) (st' := []) rfl rfl (b0) k9) ?_
    refine gp_n 1 (j' := 29) (lv' := [some (.ref 70), some (.int 2), some (.int 0)]) (st' := [.ref 70, .int (bA F t (b + 0))]) (h' := (shT, fi, fl, fr)) rfl ?_
    refine gp_of (fun _ k9 => g_getR (q' := 72) rfl rfl (by decide) k4 k9) ?_
    refine gp_n 5 (j' := 35) (lv' := [some (.ref 70), some (.int 2), some (.int 0)]) (st' := [.int 10, .ref 72, .int (bA F t (b + 0))]) (h' := (shT, fi, fl, fr)) rfl ?_
    refine gp_of (fun _ k9 => g_bald (k := 10) (x := 105) rfl rfl (by decide) (rfl) (by decide) (by decide) (w0) k9) ?_
    refine gp_of (fun _ k9 => g_icf rfl (show ¬ (¬ (bA F t (b + 0)) = (105 : Int32)) from fun z => z (q0.mpr c0)) k9) ?_
    refine gp_n 4 (j' := 12) (lv' := [some (.ref 70), some (.int 2), some (.int 1)]) (st' := [.int 5, .int 1]) (h' := (shT, fi, fl, fr)) rfl ?_
    refine gp_of (fun _ k9 => g_icf rfl (show ¬ ((5 : Int32) ≤ (1 : Int32)) from by decide) k9) ?_
    refine gp_n 1 (j' := 14) (lv' := [some (.ref 70), some (.int 2), some (.int 1)]) (st' := [.ref 70]) (h' := (shT, fi, fl, fr)) rfl ?_
    refine gp_of (fun _ k9 => g_getR (q' := 72) rfl rfl (by decide) k4 k9) ?_
    refine gp_n 5 (j' := 20) (lv' := [some (.ref 70), some (.int 2), some (.int 1)]) (st' := [.int 11, .ref 72]) (h' := (shT, fi, fl, fr)) rfl ?_
    refine gp_of (fun _ k9 => g_bald (k := 11) (x := 110) rfl rfl (by decide) (rfl) (by decide) (by decide) (w1) k9) ?_
    refine gp_of (fun _ k9 => g_iff rfl (show ¬ ((110 : Int32) = (0 : Int32)) from by decide) k9) ?_
    refine gp_n 2 (j' := 24) (lv' := [some (.ref 70), some (.int 2), some (.int 1)]) (st' := [.ref 70, .ref 70]) (h' := (shT, fi, fl, fr)) rfl ?_
    refine gp_of (fun _ k9 => g_getI (x := nI b) rfl (Or.inl rfl) rfl (by decide) (e2) k9) ?_
    refine gp_n 2 (j' := 27) (lv' := [some (.ref 70), some (.int 2), some (.int 1)]) (st' := [.int ((nI b) + 1), .ref 70]) (h' := (shT, fi, fl, fr)) rfl ?_
    rw [show nI b + 1 = nI (b + 1) from nI_add b 1]
    refine gp_of (fun _ k9 => g_call (y := 154) (as := [.ref 70, .int (nI (b + 1))]) (st' := []) rfl rfl (b1) k9) ?_
    refine gp_n 1 (j' := 29) (lv' := [some (.ref 70), some (.int 2), some (.int 1)]) (st' := [.ref 70, .int (bA F t (b + 1))]) (h' := (shT, fi, fl, fr)) rfl ?_
    refine gp_of (fun _ k9 => g_getR (q' := 72) rfl rfl (by decide) k4 k9) ?_
    refine gp_n 5 (j' := 35) (lv' := [some (.ref 70), some (.int 2), some (.int 1)]) (st' := [.int 11, .ref 72, .int (bA F t (b + 1))]) (h' := (shT, fi, fl, fr)) rfl ?_
    refine gp_of (fun _ k9 => g_bald (k := 11) (x := 110) rfl rfl (by decide) (rfl) (by decide) (by decide) (w1) k9) ?_
    refine gp_of (fun _ k9 => g_icf rfl (show ¬ (¬ (bA F t (b + 1)) = (110 : Int32)) from fun z => z (q1.mpr c1)) k9) ?_
    refine gp_n 4 (j' := 12) (lv' := [some (.ref 70), some (.int 2), some (.int 2)]) (st' := [.int 5, .int 2]) (h' := (shT, fi, fl, fr)) rfl ?_
    refine gp_of (fun _ k9 => g_icf rfl (show ¬ ((5 : Int32) ≤ (2 : Int32)) from by decide) k9) ?_
    refine gp_n 1 (j' := 14) (lv' := [some (.ref 70), some (.int 2), some (.int 2)]) (st' := [.ref 70]) (h' := (shT, fi, fl, fr)) rfl ?_
    refine gp_of (fun _ k9 => g_getR (q' := 72) rfl rfl (by decide) k4 k9) ?_
    refine gp_n 5 (j' := 20) (lv' := [some (.ref 70), some (.int 2), some (.int 2)]) (st' := [.int 12, .ref 72]) (h' := (shT, fi, fl, fr)) rfl ?_
    refine gp_of (fun _ k9 => g_bald (k := 12) (x := 102) rfl rfl (by decide) (rfl) (by decide) (by decide) (w2) k9) ?_
    refine gp_of (fun _ k9 => g_iff rfl (show ¬ ((102 : Int32) = (0 : Int32)) from by decide) k9) ?_
    refine gp_n 2 (j' := 24) (lv' := [some (.ref 70), some (.int 2), some (.int 2)]) (st' := [.ref 70, .ref 70]) (h' := (shT, fi, fl, fr)) rfl ?_
    refine gp_of (fun _ k9 => g_getI (x := nI b) rfl (Or.inl rfl) rfl (by decide) (e2) k9) ?_
    refine gp_n 2 (j' := 27) (lv' := [some (.ref 70), some (.int 2), some (.int 2)]) (st' := [.int ((nI b) + 2), .ref 70]) (h' := (shT, fi, fl, fr)) rfl ?_
    rw [show nI b + 2 = nI (b + 2) from nI_add b 2]
    refine gp_of (fun _ k9 => g_call (y := 154) (as := [.ref 70, .int (nI (b + 2))]) (st' := []) rfl rfl (b2) k9) ?_
    refine gp_n 1 (j' := 29) (lv' := [some (.ref 70), some (.int 2), some (.int 2)]) (st' := [.ref 70, .int (bA F t (b + 2))]) (h' := (shT, fi, fl, fr)) rfl ?_
    refine gp_of (fun _ k9 => g_getR (q' := 72) rfl rfl (by decide) k4 k9) ?_
    refine gp_n 5 (j' := 35) (lv' := [some (.ref 70), some (.int 2), some (.int 2)]) (st' := [.int 12, .ref 72, .int (bA F t (b + 2))]) (h' := (shT, fi, fl, fr)) rfl ?_
    refine gp_of (fun _ k9 => g_bald (k := 12) (x := 102) rfl rfl (by decide) (rfl) (by decide) (by decide) (w2) k9) ?_
    refine gp_of (fun _ k9 => g_icf rfl (show ¬ (¬ (bA F t (b + 2)) = (102 : Int32)) from fun z => z (q2.mpr c2)) k9) ?_
    refine gp_n 4 (j' := 12) (lv' := [some (.ref 70), some (.int 2), some (.int 3)]) (st' := [.int 5, .int 3]) (h' := (shT, fi, fl, fr)) rfl ?_
    refine gp_of (fun _ k9 => g_icf rfl (show ¬ ((5 : Int32) ≤ (3 : Int32)) from by decide) k9) ?_
    refine gp_n 1 (j' := 14) (lv' := [some (.ref 70), some (.int 2), some (.int 3)]) (st' := [.ref 70]) (h' := (shT, fi, fl, fr)) rfl ?_
    refine gp_of (fun _ k9 => g_getR (q' := 72) rfl rfl (by decide) k4 k9) ?_
    refine gp_n 5 (j' := 20) (lv' := [some (.ref 70), some (.int 2), some (.int 3)]) (st' := [.int 13, .ref 72]) (h' := (shT, fi, fl, fr)) rfl ?_
    refine gp_of (fun _ k9 => g_bald (k := 13) (x := 111) rfl rfl (by decide) (rfl) (by decide) (by decide) (w3) k9) ?_
    refine gp_of (fun _ k9 => g_iff rfl (show ¬ ((111 : Int32) = (0 : Int32)) from by decide) k9) ?_
    refine gp_n 2 (j' := 24) (lv' := [some (.ref 70), some (.int 2), some (.int 3)]) (st' := [.ref 70, .ref 70]) (h' := (shT, fi, fl, fr)) rfl ?_
    refine gp_of (fun _ k9 => g_getI (x := nI b) rfl (Or.inl rfl) rfl (by decide) (e2) k9) ?_
    refine gp_n 2 (j' := 27) (lv' := [some (.ref 70), some (.int 2), some (.int 3)]) (st' := [.int ((nI b) + 3), .ref 70]) (h' := (shT, fi, fl, fr)) rfl ?_
    rw [show nI b + 3 = nI (b + 3) from nI_add b 3]
    refine gp_of (fun _ k9 => g_call (y := 154) (as := [.ref 70, .int (nI (b + 3))]) (st' := []) rfl rfl (b3) k9) ?_
    refine gp_n 1 (j' := 29) (lv' := [some (.ref 70), some (.int 2), some (.int 3)]) (st' := [.ref 70, .int (bA F t (b + 3))]) (h' := (shT, fi, fl, fr)) rfl ?_
    refine gp_of (fun _ k9 => g_getR (q' := 72) rfl rfl (by decide) k4 k9) ?_
    refine gp_n 5 (j' := 35) (lv' := [some (.ref 70), some (.int 2), some (.int 3)]) (st' := [.int 13, .ref 72, .int (bA F t (b + 3))]) (h' := (shT, fi, fl, fr)) rfl ?_
    refine gp_of (fun _ k9 => g_bald (k := 13) (x := 111) rfl rfl (by decide) (rfl) (by decide) (by decide) (w3) k9) ?_
    refine gp_of (fun _ k9 => g_icf rfl (show ¬ (¬ (bA F t (b + 3)) = (111 : Int32)) from fun z => z (q3.mpr c3)) k9) ?_
    refine gp_n 4 (j' := 12) (lv' := [some (.ref 70), some (.int 2), some (.int 4)]) (st' := [.int 5, .int 4]) (h' := (shT, fi, fl, fr)) rfl ?_
    refine gp_of (fun _ k9 => g_icf rfl (show ¬ ((5 : Int32) ≤ (4 : Int32)) from by decide) k9) ?_
    refine gp_n 1 (j' := 14) (lv' := [some (.ref 70), some (.int 2), some (.int 4)]) (st' := [.ref 70]) (h' := (shT, fi, fl, fr)) rfl ?_
    refine gp_of (fun _ k9 => g_getR (q' := 72) rfl rfl (by decide) k4 k9) ?_
    refine gp_n 5 (j' := 20) (lv' := [some (.ref 70), some (.int 2), some (.int 4)]) (st' := [.int 14, .ref 72]) (h' := (shT, fi, fl, fr)) rfl ?_
    refine gp_of (fun _ k9 => g_bald (k := 14) (x := 0) rfl rfl (by decide) (rfl) (by decide) (by decide) (w4) k9) ?_
    refine gp_of (fun _ k9 => g_ift rfl (show (0 : Int32) = (0 : Int32) from by decide) k9) ?_
    refine gp_n 2 (j' := 41) (lv' := [some (.ref 70), some (.int 2), some (.int 4)]) (st' := [.int 5, .int 4]) (h' := (shT, fi, fl, fr)) rfl ?_
    refine gp_of (fun _ k9 => g_icf rfl (show ¬ ((4 : Int32) = (5 : Int32)) from by decide) k9) ?_
    refine gp_n 1 (j' := 43) (lv' := [some (.ref 70), some (.int 2), some (.int 4)]) (st' := [.ref 70]) (h' := (shT, fi, fl, fr)) rfl ?_
    refine gp_of (fun _ k9 => g_getR (q' := 72) rfl rfl (by decide) k4 k9) ?_
    refine gp_n 5 (j' := 49) (lv' := [some (.ref 70), some (.int 2), some (.int 4)]) (st' := [.int 14, .ref 72]) (h' := (shT, fi, fl, fr)) rfl ?_
    refine gp_of (fun _ k9 => g_bald (k := 14) (x := 0) rfl rfl (by decide) (rfl) (by decide) (by decide) (w4) k9) ?_
    refine gp_of (fun _ k9 => g_iff rfl (show ¬ (¬ (0 : Int32) = (0 : Int32)) from by decide) k9) ?_
    refine gp_n 2 (j' := 53) (lv' := [some (.ref 70), some (.int 2), some (.int 4)]) (st' := [.ref 70, .ref 70]) (h' := (shT, fi, fl, fr)) rfl ?_
    refine gp_of (fun _ k9 => g_getI (x := nI b) rfl (Or.inl rfl) rfl (by decide) (e2) k9) ?_
    refine gp_n 2 (j' := 56) (lv' := [some (.ref 70), some (.int 2), some (.int 4)]) (st' := [.int ((nI b) + 4), .ref 70]) (h' := (shT, fi, fl, fr)) rfl ?_
    rw [show nI b + 4 = nI (b + 4) from nI_add b 4]
    refine gp_of (fun _ k9 => g_call (y := 154) (as := [.ref 70, .int (nI (b + 4))]) (st' := []) rfl rfl (b4) k9) ?_
    refine gp_of (fun _ k9 => g_call (y := 155) (as := [.int (bA F t (b + 4))]) (st' := []) rfl rfl (l1) k9) ?_
    refine gp_of (fun _ k9 => g_ift rfl (show ¬ (1 : Int32) = (0 : Int32) from by decide) k9) ?_
    refine gp_n 2 (j' := 5) (lv' := [some (.ref 70), some (.int 3), some (.int 4)]) (st' := []) (h' := (shT, fi, fl, fr)) rfl ?_
    exact k2
  · have k1 := k1 (by simp only [mt]; rw [if_pos (show b + 0 < t ∧ F (b + 0) = (wd 2).getD 0 0 from c0)]; rw [if_pos (show b + 1 < t ∧ F (b + 1) = (wd 2).getD 1 0 from c1)]; rw [if_pos (show b + 2 < t ∧ F (b + 2) = (wd 2).getD 2 0 from c2)]; rw [if_pos (show b + 3 < t ∧ F (b + 3) = (wd 2).getD 3 0 from c3)]; cases d1 : decide (b + 4 < t); rfl; cases d2 : cL (F (b + 4)); rfl; exact absurd ⟨of_decide_eq_true d1, d2⟩ cz)
    have l0 := l0 (fun z => cz (qL.mp z))
    refine gp_n 2 (j' := 7) (lv' := [some (.ref 70), some (.int 2), l]) (st' := [.int 6, .int 2]) (h' := (shT, fi, fl, fr)) rfl ?_
    refine gp_of (fun _ k9 => g_icf rfl (show ¬ ((6 : Int32) ≤ (2 : Int32)) from by decide) k9) ?_
    refine gp_n 4 (j' := 12) (lv' := [some (.ref 70), some (.int 2), some (.int 0)]) (st' := [.int 5, .int 0]) (h' := (shT, fi, fl, fr)) rfl ?_
    refine gp_of (fun _ k9 => g_icf rfl (show ¬ ((5 : Int32) ≤ (0 : Int32)) from by decide) k9) ?_
    refine gp_n 1 (j' := 14) (lv' := [some (.ref 70), some (.int 2), some (.int 0)]) (st' := [.ref 70]) (h' := (shT, fi, fl, fr)) rfl ?_
    refine gp_of (fun _ k9 => g_getR (q' := 72) rfl rfl (by decide) k4 k9) ?_
    refine gp_n 5 (j' := 20) (lv' := [some (.ref 70), some (.int 2), some (.int 0)]) (st' := [.int 10, .ref 72]) (h' := (shT, fi, fl, fr)) rfl ?_
    refine gp_of (fun _ k9 => g_bald (k := 10) (x := 105) rfl rfl (by decide) (rfl) (by decide) (by decide) (w0) k9) ?_
    refine gp_of (fun _ k9 => g_iff rfl (show ¬ ((105 : Int32) = (0 : Int32)) from by decide) k9) ?_
    refine gp_n 2 (j' := 24) (lv' := [some (.ref 70), some (.int 2), some (.int 0)]) (st' := [.ref 70, .ref 70]) (h' := (shT, fi, fl, fr)) rfl ?_
    refine gp_of (fun _ k9 => g_getI (x := nI b) rfl (Or.inl rfl) rfl (by decide) (e2) k9) ?_
    refine gp_n 2 (j' := 27) (lv' := [some (.ref 70), some (.int 2), some (.int 0)]) (st' := [.int ((nI b) + 0), .ref 70]) (h' := (shT, fi, fl, fr)) rfl ?_
    rw [show nI b + 0 = nI (b + 0) from nI_add b 0]
    refine gp_of (fun _ k9 => g_call (y := 154) (as := [.ref 70, .int (nI (b + 0))]) (st' := []) rfl rfl (b0) k9) ?_
    refine gp_n 1 (j' := 29) (lv' := [some (.ref 70), some (.int 2), some (.int 0)]) (st' := [.ref 70, .int (bA F t (b + 0))]) (h' := (shT, fi, fl, fr)) rfl ?_
    refine gp_of (fun _ k9 => g_getR (q' := 72) rfl rfl (by decide) k4 k9) ?_
    refine gp_n 5 (j' := 35) (lv' := [some (.ref 70), some (.int 2), some (.int 0)]) (st' := [.int 10, .ref 72, .int (bA F t (b + 0))]) (h' := (shT, fi, fl, fr)) rfl ?_
    refine gp_of (fun _ k9 => g_bald (k := 10) (x := 105) rfl rfl (by decide) (rfl) (by decide) (by decide) (w0) k9) ?_
    refine gp_of (fun _ k9 => g_icf rfl (show ¬ (¬ (bA F t (b + 0)) = (105 : Int32)) from fun z => z (q0.mpr c0)) k9) ?_
    refine gp_n 4 (j' := 12) (lv' := [some (.ref 70), some (.int 2), some (.int 1)]) (st' := [.int 5, .int 1]) (h' := (shT, fi, fl, fr)) rfl ?_
    refine gp_of (fun _ k9 => g_icf rfl (show ¬ ((5 : Int32) ≤ (1 : Int32)) from by decide) k9) ?_
    refine gp_n 1 (j' := 14) (lv' := [some (.ref 70), some (.int 2), some (.int 1)]) (st' := [.ref 70]) (h' := (shT, fi, fl, fr)) rfl ?_
    refine gp_of (fun _ k9 => g_getR (q' := 72) rfl rfl (by decide) k4 k9) ?_
    refine gp_n 5 (j' := 20) (lv' := [some (.ref 70), some (.int 2), some (.int 1)]) (st' := [.int 11, .ref 72]) (h' := (shT, fi, fl, fr)) rfl ?_
    refine gp_of (fun _ k9 => g_bald (k := 11) (x := 110) rfl rfl (by decide) (rfl) (by decide) (by decide) (w1) k9) ?_
    refine gp_of (fun _ k9 => g_iff rfl (show ¬ ((110 : Int32) = (0 : Int32)) from by decide) k9) ?_
    refine gp_n 2 (j' := 24) (lv' := [some (.ref 70), some (.int 2), some (.int 1)]) (st' := [.ref 70, .ref 70]) (h' := (shT, fi, fl, fr)) rfl ?_
    refine gp_of (fun _ k9 => g_getI (x := nI b) rfl (Or.inl rfl) rfl (by decide) (e2) k9) ?_
    refine gp_n 2 (j' := 27) (lv' := [some (.ref 70), some (.int 2), some (.int 1)]) (st' := [.int ((nI b) + 1), .ref 70]) (h' := (shT, fi, fl, fr)) rfl ?_
    rw [show nI b + 1 = nI (b + 1) from nI_add b 1]
    refine gp_of (fun _ k9 => g_call (y := 154) (as := [.ref 70, .int (nI (b + 1))]) (st' := []) rfl rfl (b1) k9) ?_
    refine gp_n 1 (j' := 29) (lv' := [some (.ref 70), some (.int 2), some (.int 1)]) (st' := [.ref 70, .int (bA F t (b + 1))]) (h' := (shT, fi, fl, fr)) rfl ?_
    refine gp_of (fun _ k9 => g_getR (q' := 72) rfl rfl (by decide) k4 k9) ?_
    refine gp_n 5 (j' := 35) (lv' := [some (.ref 70), some (.int 2), some (.int 1)]) (st' := [.int 11, .ref 72, .int (bA F t (b + 1))]) (h' := (shT, fi, fl, fr)) rfl ?_
    refine gp_of (fun _ k9 => g_bald (k := 11) (x := 110) rfl rfl (by decide) (rfl) (by decide) (by decide) (w1) k9) ?_
    refine gp_of (fun _ k9 => g_icf rfl (show ¬ (¬ (bA F t (b + 1)) = (110 : Int32)) from fun z => z (q1.mpr c1)) k9) ?_
    refine gp_n 4 (j' := 12) (lv' := [some (.ref 70), some (.int 2), some (.int 2)]) (st' := [.int 5, .int 2]) (h' := (shT, fi, fl, fr)) rfl ?_
    refine gp_of (fun _ k9 => g_icf rfl (show ¬ ((5 : Int32) ≤ (2 : Int32)) from by decide) k9) ?_
    refine gp_n 1 (j' := 14) (lv' := [some (.ref 70), some (.int 2), some (.int 2)]) (st' := [.ref 70]) (h' := (shT, fi, fl, fr)) rfl ?_
    refine gp_of (fun _ k9 => g_getR (q' := 72) rfl rfl (by decide) k4 k9) ?_
    refine gp_n 5 (j' := 20) (lv' := [some (.ref 70), some (.int 2), some (.int 2)]) (st' := [.int 12, .ref 72]) (h' := (shT, fi, fl, fr)) rfl ?_
    refine gp_of (fun _ k9 => g_bald (k := 12) (x := 102) rfl rfl (by decide) (rfl) (by decide) (by decide) (w2) k9) ?_
    refine gp_of (fun _ k9 => g_iff rfl (show ¬ ((102 : Int32) = (0 : Int32)) from by decide) k9) ?_
    refine gp_n 2 (j' := 24) (lv' := [some (.ref 70), some (.int 2), some (.int 2)]) (st' := [.ref 70, .ref 70]) (h' := (shT, fi, fl, fr)) rfl ?_
    refine gp_of (fun _ k9 => g_getI (x := nI b) rfl (Or.inl rfl) rfl (by decide) (e2) k9) ?_
    refine gp_n 2 (j' := 27) (lv' := [some (.ref 70), some (.int 2), some (.int 2)]) (st' := [.int ((nI b) + 2), .ref 70]) (h' := (shT, fi, fl, fr)) rfl ?_
    rw [show nI b + 2 = nI (b + 2) from nI_add b 2]
    refine gp_of (fun _ k9 => g_call (y := 154) (as := [.ref 70, .int (nI (b + 2))]) (st' := []) rfl rfl (b2) k9) ?_
    refine gp_n 1 (j' := 29) (lv' := [some (.ref 70), some (.int 2), some (.int 2)]) (st' := [.ref 70, .int (bA F t (b + 2))]) (h' := (shT, fi, fl, fr)) rfl ?_
    refine gp_of (fun _ k9 => g_getR (q' := 72) rfl rfl (by decide) k4 k9) ?_
    refine gp_n 5 (j' := 35) (lv' := [some (.ref 70), some (.int 2), some (.int 2)]) (st' := [.int 12, .ref 72, .int (bA F t (b + 2))]) (h' := (shT, fi, fl, fr)) rfl ?_
    refine gp_of (fun _ k9 => g_bald (k := 12) (x := 102) rfl rfl (by decide) (rfl) (by decide) (by decide) (w2) k9) ?_
    refine gp_of (fun _ k9 => g_icf rfl (show ¬ (¬ (bA F t (b + 2)) = (102 : Int32)) from fun z => z (q2.mpr c2)) k9) ?_
    refine gp_n 4 (j' := 12) (lv' := [some (.ref 70), some (.int 2), some (.int 3)]) (st' := [.int 5, .int 3]) (h' := (shT, fi, fl, fr)) rfl ?_
    refine gp_of (fun _ k9 => g_icf rfl (show ¬ ((5 : Int32) ≤ (3 : Int32)) from by decide) k9) ?_
    refine gp_n 1 (j' := 14) (lv' := [some (.ref 70), some (.int 2), some (.int 3)]) (st' := [.ref 70]) (h' := (shT, fi, fl, fr)) rfl ?_
    refine gp_of (fun _ k9 => g_getR (q' := 72) rfl rfl (by decide) k4 k9) ?_
    refine gp_n 5 (j' := 20) (lv' := [some (.ref 70), some (.int 2), some (.int 3)]) (st' := [.int 13, .ref 72]) (h' := (shT, fi, fl, fr)) rfl ?_
    refine gp_of (fun _ k9 => g_bald (k := 13) (x := 111) rfl rfl (by decide) (rfl) (by decide) (by decide) (w3) k9) ?_
    refine gp_of (fun _ k9 => g_iff rfl (show ¬ ((111 : Int32) = (0 : Int32)) from by decide) k9) ?_
    refine gp_n 2 (j' := 24) (lv' := [some (.ref 70), some (.int 2), some (.int 3)]) (st' := [.ref 70, .ref 70]) (h' := (shT, fi, fl, fr)) rfl ?_
    refine gp_of (fun _ k9 => g_getI (x := nI b) rfl (Or.inl rfl) rfl (by decide) (e2) k9) ?_
    refine gp_n 2 (j' := 27) (lv' := [some (.ref 70), some (.int 2), some (.int 3)]) (st' := [.int ((nI b) + 3), .ref 70]) (h' := (shT, fi, fl, fr)) rfl ?_
    rw [show nI b + 3 = nI (b + 3) from nI_add b 3]
    refine gp_of (fun _ k9 => g_call (y := 154) (as := [.ref 70, .int (nI (b + 3))]) (st' := []) rfl rfl (b3) k9) ?_
    refine gp_n 1 (j' := 29) (lv' := [some (.ref 70), some (.int 2), some (.int 3)]) (st' := [.ref 70, .int (bA F t (b + 3))]) (h' := (shT, fi, fl, fr)) rfl ?_
    refine gp_of (fun _ k9 => g_getR (q' := 72) rfl rfl (by decide) k4 k9) ?_
    refine gp_n 5 (j' := 35) (lv' := [some (.ref 70), some (.int 2), some (.int 3)]) (st' := [.int 13, .ref 72, .int (bA F t (b + 3))]) (h' := (shT, fi, fl, fr)) rfl ?_
    refine gp_of (fun _ k9 => g_bald (k := 13) (x := 111) rfl rfl (by decide) (rfl) (by decide) (by decide) (w3) k9) ?_
    refine gp_of (fun _ k9 => g_icf rfl (show ¬ (¬ (bA F t (b + 3)) = (111 : Int32)) from fun z => z (q3.mpr c3)) k9) ?_
    refine gp_n 4 (j' := 12) (lv' := [some (.ref 70), some (.int 2), some (.int 4)]) (st' := [.int 5, .int 4]) (h' := (shT, fi, fl, fr)) rfl ?_
    refine gp_of (fun _ k9 => g_icf rfl (show ¬ ((5 : Int32) ≤ (4 : Int32)) from by decide) k9) ?_
    refine gp_n 1 (j' := 14) (lv' := [some (.ref 70), some (.int 2), some (.int 4)]) (st' := [.ref 70]) (h' := (shT, fi, fl, fr)) rfl ?_
    refine gp_of (fun _ k9 => g_getR (q' := 72) rfl rfl (by decide) k4 k9) ?_
    refine gp_n 5 (j' := 20) (lv' := [some (.ref 70), some (.int 2), some (.int 4)]) (st' := [.int 14, .ref 72]) (h' := (shT, fi, fl, fr)) rfl ?_
    refine gp_of (fun _ k9 => g_bald (k := 14) (x := 0) rfl rfl (by decide) (rfl) (by decide) (by decide) (w4) k9) ?_
    refine gp_of (fun _ k9 => g_ift rfl (show (0 : Int32) = (0 : Int32) from by decide) k9) ?_
    refine gp_n 2 (j' := 41) (lv' := [some (.ref 70), some (.int 2), some (.int 4)]) (st' := [.int 5, .int 4]) (h' := (shT, fi, fl, fr)) rfl ?_
    refine gp_of (fun _ k9 => g_icf rfl (show ¬ ((4 : Int32) = (5 : Int32)) from by decide) k9) ?_
    refine gp_n 1 (j' := 43) (lv' := [some (.ref 70), some (.int 2), some (.int 4)]) (st' := [.ref 70]) (h' := (shT, fi, fl, fr)) rfl ?_
    refine gp_of (fun _ k9 => g_getR (q' := 72) rfl rfl (by decide) k4 k9) ?_
    refine gp_n 5 (j' := 49) (lv' := [some (.ref 70), some (.int 2), some (.int 4)]) (st' := [.int 14, .ref 72]) (h' := (shT, fi, fl, fr)) rfl ?_
    refine gp_of (fun _ k9 => g_bald (k := 14) (x := 0) rfl rfl (by decide) (rfl) (by decide) (by decide) (w4) k9) ?_
    refine gp_of (fun _ k9 => g_iff rfl (show ¬ (¬ (0 : Int32) = (0 : Int32)) from by decide) k9) ?_
    refine gp_n 2 (j' := 53) (lv' := [some (.ref 70), some (.int 2), some (.int 4)]) (st' := [.ref 70, .ref 70]) (h' := (shT, fi, fl, fr)) rfl ?_
    refine gp_of (fun _ k9 => g_getI (x := nI b) rfl (Or.inl rfl) rfl (by decide) (e2) k9) ?_
    refine gp_n 2 (j' := 56) (lv' := [some (.ref 70), some (.int 2), some (.int 4)]) (st' := [.int ((nI b) + 4), .ref 70]) (h' := (shT, fi, fl, fr)) rfl ?_
    rw [show nI b + 4 = nI (b + 4) from nI_add b 4]
    refine gp_of (fun _ k9 => g_call (y := 154) (as := [.ref 70, .int (nI (b + 4))]) (st' := []) rfl rfl (b4) k9) ?_
    refine gp_of (fun _ k9 => g_call (y := 155) (as := [.int (bA F t (b + 4))]) (st' := []) rfl rfl (l0) k9) ?_
    refine gp_of (fun _ k9 => g_iff rfl (show ¬ (¬ (0 : Int32) = (0 : Int32)) from by decide) k9) ?_
    refine gp_n 1 (j' := 60) (lv' := [some (.ref 70), some (.int 2), some (.int 4)]) (st' := [.int 2]) (h' := (shT, fi, fl, fr)) rfl ?_
    refine gp_done (g_ret rfl) ?_
    exact k1
theorem wh_3 {F : Nat → Int32} {t b : Nat} {h : PmH} {l : Option Value} {Q : Option Value × PmH → Prop} (ht : t ≤ 200) (hF : ∀ s, byR (F s)) (hb : b ≤ t) (hP : mp_P F t b h) (k1 : mt F t b (wd 3) 5 0 = true → Q (some (.int 3), h)) (k2 : mt F t b (wd 3) 5 0 = false → ∀ l', GoP pmT none cd_152 5 [some (.ref 70), some (.int 4), l'] [] h Q) : GoP pmT none cd_152 5 [some (.ref 70), some (.int 3), l] [] h Q := by
  have k4 : ph_r h 70 4 = some 72 := hi_r hP.1 rfl rfl (by decide)
  have e2 := hP.2.2.1
  have w0 : ph_i h 72 15 = 99 := hP.2.2.2.2 15 (by decide)
  have w1 : ph_i h 72 16 = 104 := hP.2.2.2.2 16 (by decide)
  have w2 : ph_i h 72 17 = 101 := hP.2.2.2.2 17 (by decide)
  have w3 : ph_i h 72 18 = 99 := hP.2.2.2.2 18 (by decide)
  have w4 : ph_i h 72 19 = 107 := hP.2.2.2.2 19 (by decide)
  have b0 := ba_ev (k := b + 0) ht (by omega) hP
  have b1 := ba_ev (k := b + 1) ht (by omega) hP
  have b2 := ba_ev (k := b + 2) ht (by omega) hP
  have b3 := ba_ev (k := b + 3) ht (by omega) hP
  have b4 := ba_ev (k := b + 4) ht (by omega) hP
  have b5 := ba_ev (k := b + 5) ht (by omega) hP
  have hI := hP.1
  have q0 : bA F t (b + 0) = 99 ↔ (b + 0 < t ∧ F (b + 0) = 99) := bA_eq hF (by decide) (by decide)
  have q1 : bA F t (b + 1) = 104 ↔ (b + 1 < t ∧ F (b + 1) = 104) := bA_eq hF (by decide) (by decide)
  have q2 : bA F t (b + 2) = 101 ↔ (b + 2 < t ∧ F (b + 2) = 101) := bA_eq hF (by decide) (by decide)
  have q3 : bA F t (b + 3) = 99 ↔ (b + 3 < t ∧ F (b + 3) = 99) := bA_eq hF (by decide) (by decide)
  have q4 : bA F t (b + 4) = 107 ↔ (b + 4 < t ∧ F (b + 4) = 107) := bA_eq hF (by decide) (by decide)
  have qL : (97 ≤ bA F t (b + 5) ∧ bA F t (b + 5) ≤ 122) ↔ (b + 5 < t ∧ cL (F (b + 5)) = true) := bA_L hF
  have l1 := isL1 (x := bA F t (b + 5)) hI
  have l0 := isL0 (x := bA F t (b + 5)) hI
  clear hP
  obtain ⟨S, fi, fl, fr⟩ := h
  have hS : S = shT := hI.1
  subst hS
  have k4 : fr 70 4 = some 72 := k4
  have e2 : fi 70 2 = nI b := e2
  have w0 : fi 72 15 = 99 := w0
  have w1 : fi 72 16 = 104 := w1
  have w2 : fi 72 17 = 101 := w2
  have w3 : fi 72 18 = 99 := w3
  have w4 : fi 72 19 = 107 := w4
  by_cases c0 : b + 0 < t ∧ F (b + 0) = 99
  rotate_left
  · have k2 := k2 (by simp only [mt]; rw [if_neg (show ¬ (b + 0 < t ∧ F (b + 0) = (wd 3).getD 0 0) from c0)]) (some (.int 0))
    refine gp_n 2 (j' := 7) (lv' := [some (.ref 70), some (.int 3), l]) (st' := [.int 6, .int 3]) (h' := (shT, fi, fl, fr)) rfl ?_
    refine gp_of (fun _ k9 => g_icf rfl (show ¬ ((6 : Int32) ≤ (3 : Int32)) from by decide) k9) ?_
    refine gp_n 4 (j' := 12) (lv' := [some (.ref 70), some (.int 3), some (.int 0)]) (st' := [.int 5, .int 0]) (h' := (shT, fi, fl, fr)) rfl ?_
    refine gp_of (fun _ k9 => g_icf rfl (show ¬ ((5 : Int32) ≤ (0 : Int32)) from by decide) k9) ?_
    refine gp_n 1 (j' := 14) (lv' := [some (.ref 70), some (.int 3), some (.int 0)]) (st' := [.ref 70]) (h' := (shT, fi, fl, fr)) rfl ?_
    refine gp_of (fun _ k9 => g_getR (q' := 72) rfl rfl (by decide) k4 k9) ?_
    refine gp_n 5 (j' := 20) (lv' := [some (.ref 70), some (.int 3), some (.int 0)]) (st' := [.int 15, .ref 72]) (h' := (shT, fi, fl, fr)) rfl ?_
    refine gp_of (fun _ k9 => g_bald (k := 15) (x := 99) rfl rfl (by decide) (rfl) (by decide) (by decide) (w0) k9) ?_
    refine gp_of (fun _ k9 => g_iff rfl (show ¬ ((99 : Int32) = (0 : Int32)) from by decide) k9) ?_
    refine gp_n 2 (j' := 24) (lv' := [some (.ref 70), some (.int 3), some (.int 0)]) (st' := [.ref 70, .ref 70]) (h' := (shT, fi, fl, fr)) rfl ?_
    refine gp_of (fun _ k9 => g_getI (x := nI b) rfl (Or.inl rfl) rfl (by decide) (e2) k9) ?_
    refine gp_n 2 (j' := 27) (lv' := [some (.ref 70), some (.int 3), some (.int 0)]) (st' := [.int ((nI b) + 0), .ref 70]) (h' := (shT, fi, fl, fr)) rfl ?_
    rw [show nI b + 0 = nI (b + 0) from nI_add b 0]
    refine gp_of (fun _ k9 => g_call (y := 154) (as := [.ref 70, .int (nI (b + 0))]) (st' := []) rfl rfl (b0) k9) ?_
    refine gp_n 1 (j' := 29) (lv' := [some (.ref 70), some (.int 3), some (.int 0)]) (st' := [.ref 70, .int (bA F t (b + 0))]) (h' := (shT, fi, fl, fr)) rfl ?_
    refine gp_of (fun _ k9 => g_getR (q' := 72) rfl rfl (by decide) k4 k9) ?_
    refine gp_n 5 (j' := 35) (lv' := [some (.ref 70), some (.int 3), some (.int 0)]) (st' := [.int 15, .ref 72, .int (bA F t (b + 0))]) (h' := (shT, fi, fl, fr)) rfl ?_
    refine gp_of (fun _ k9 => g_bald (k := 15) (x := 99) rfl rfl (by decide) (rfl) (by decide) (by decide) (w0) k9) ?_
    refine gp_of (fun _ k9 => g_ict rfl (show ¬ (bA F t (b + 0)) = (99 : Int32) from fun z => c0 (q0.mp z)) k9) ?_
    refine gp_n 2 (j' := 41) (lv' := [some (.ref 70), some (.int 3), some (.int 0)]) (st' := [.int 5, .int 0]) (h' := (shT, fi, fl, fr)) rfl ?_
    refine gp_of (fun _ k9 => g_icf rfl (show ¬ ((0 : Int32) = (5 : Int32)) from by decide) k9) ?_
    refine gp_n 1 (j' := 43) (lv' := [some (.ref 70), some (.int 3), some (.int 0)]) (st' := [.ref 70]) (h' := (shT, fi, fl, fr)) rfl ?_
    refine gp_of (fun _ k9 => g_getR (q' := 72) rfl rfl (by decide) k4 k9) ?_
    refine gp_n 5 (j' := 49) (lv' := [some (.ref 70), some (.int 3), some (.int 0)]) (st' := [.int 15, .ref 72]) (h' := (shT, fi, fl, fr)) rfl ?_
    refine gp_of (fun _ k9 => g_bald (k := 15) (x := 99) rfl rfl (by decide) (rfl) (by decide) (by decide) (w0) k9) ?_
    refine gp_of (fun _ k9 => g_ift rfl (show ¬ (99 : Int32) = (0 : Int32) from by decide) k9) ?_
    refine gp_n 2 (j' := 5) (lv' := [some (.ref 70), some (.int 4), some (.int 0)]) (st' := []) (h' := (shT, fi, fl, fr)) rfl ?_
    exact k2
  by_cases c1 : b + 1 < t ∧ F (b + 1) = 104
  rotate_left
  · have k2 := k2 (by simp only [mt]; rw [if_pos (show b + 0 < t ∧ F (b + 0) = (wd 3).getD 0 0 from c0)]; rw [if_neg (show ¬ (b + 1 < t ∧ F (b + 1) = (wd 3).getD 1 0) from c1)]) (some (.int 1))
    refine gp_n 2 (j' := 7) (lv' := [some (.ref 70), some (.int 3), l]) (st' := [.int 6, .int 3]) (h' := (shT, fi, fl, fr)) rfl ?_
    refine gp_of (fun _ k9 => g_icf rfl (show ¬ ((6 : Int32) ≤ (3 : Int32)) from by decide) k9) ?_
    refine gp_n 4 (j' := 12) (lv' := [some (.ref 70), some (.int 3), some (.int 0)]) (st' := [.int 5, .int 0]) (h' := (shT, fi, fl, fr)) rfl ?_
    refine gp_of (fun _ k9 => g_icf rfl (show ¬ ((5 : Int32) ≤ (0 : Int32)) from by decide) k9) ?_
    refine gp_n 1 (j' := 14) (lv' := [some (.ref 70), some (.int 3), some (.int 0)]) (st' := [.ref 70]) (h' := (shT, fi, fl, fr)) rfl ?_
    refine gp_of (fun _ k9 => g_getR (q' := 72) rfl rfl (by decide) k4 k9) ?_
    refine gp_n 5 (j' := 20) (lv' := [some (.ref 70), some (.int 3), some (.int 0)]) (st' := [.int 15, .ref 72]) (h' := (shT, fi, fl, fr)) rfl ?_
    refine gp_of (fun _ k9 => g_bald (k := 15) (x := 99) rfl rfl (by decide) (rfl) (by decide) (by decide) (w0) k9) ?_
    refine gp_of (fun _ k9 => g_iff rfl (show ¬ ((99 : Int32) = (0 : Int32)) from by decide) k9) ?_
    refine gp_n 2 (j' := 24) (lv' := [some (.ref 70), some (.int 3), some (.int 0)]) (st' := [.ref 70, .ref 70]) (h' := (shT, fi, fl, fr)) rfl ?_
    refine gp_of (fun _ k9 => g_getI (x := nI b) rfl (Or.inl rfl) rfl (by decide) (e2) k9) ?_
    refine gp_n 2 (j' := 27) (lv' := [some (.ref 70), some (.int 3), some (.int 0)]) (st' := [.int ((nI b) + 0), .ref 70]) (h' := (shT, fi, fl, fr)) rfl ?_
    rw [show nI b + 0 = nI (b + 0) from nI_add b 0]
    refine gp_of (fun _ k9 => g_call (y := 154) (as := [.ref 70, .int (nI (b + 0))]) (st' := []) rfl rfl (b0) k9) ?_
    refine gp_n 1 (j' := 29) (lv' := [some (.ref 70), some (.int 3), some (.int 0)]) (st' := [.ref 70, .int (bA F t (b + 0))]) (h' := (shT, fi, fl, fr)) rfl ?_
    refine gp_of (fun _ k9 => g_getR (q' := 72) rfl rfl (by decide) k4 k9) ?_
    refine gp_n 5 (j' := 35) (lv' := [some (.ref 70), some (.int 3), some (.int 0)]) (st' := [.int 15, .ref 72, .int (bA F t (b + 0))]) (h' := (shT, fi, fl, fr)) rfl ?_
    refine gp_of (fun _ k9 => g_bald (k := 15) (x := 99) rfl rfl (by decide) (rfl) (by decide) (by decide) (w0) k9) ?_
    refine gp_of (fun _ k9 => g_icf rfl (show ¬ (¬ (bA F t (b + 0)) = (99 : Int32)) from fun z => z (q0.mpr c0)) k9) ?_
    refine gp_n 4 (j' := 12) (lv' := [some (.ref 70), some (.int 3), some (.int 1)]) (st' := [.int 5, .int 1]) (h' := (shT, fi, fl, fr)) rfl ?_
    refine gp_of (fun _ k9 => g_icf rfl (show ¬ ((5 : Int32) ≤ (1 : Int32)) from by decide) k9) ?_
    refine gp_n 1 (j' := 14) (lv' := [some (.ref 70), some (.int 3), some (.int 1)]) (st' := [.ref 70]) (h' := (shT, fi, fl, fr)) rfl ?_
    refine gp_of (fun _ k9 => g_getR (q' := 72) rfl rfl (by decide) k4 k9) ?_
    refine gp_n 5 (j' := 20) (lv' := [some (.ref 70), some (.int 3), some (.int 1)]) (st' := [.int 16, .ref 72]) (h' := (shT, fi, fl, fr)) rfl ?_
    refine gp_of (fun _ k9 => g_bald (k := 16) (x := 104) rfl rfl (by decide) (rfl) (by decide) (by decide) (w1) k9) ?_
    refine gp_of (fun _ k9 => g_iff rfl (show ¬ ((104 : Int32) = (0 : Int32)) from by decide) k9) ?_
    refine gp_n 2 (j' := 24) (lv' := [some (.ref 70), some (.int 3), some (.int 1)]) (st' := [.ref 70, .ref 70]) (h' := (shT, fi, fl, fr)) rfl ?_
    refine gp_of (fun _ k9 => g_getI (x := nI b) rfl (Or.inl rfl) rfl (by decide) (e2) k9) ?_
    refine gp_n 2 (j' := 27) (lv' := [some (.ref 70), some (.int 3), some (.int 1)]) (st' := [.int ((nI b) + 1), .ref 70]) (h' := (shT, fi, fl, fr)) rfl ?_
    rw [show nI b + 1 = nI (b + 1) from nI_add b 1]
    refine gp_of (fun _ k9 => g_call (y := 154) (as := [.ref 70, .int (nI (b + 1))]) (st' := []) rfl rfl (b1) k9) ?_
    refine gp_n 1 (j' := 29) (lv' := [some (.ref 70), some (.int 3), some (.int 1)]) (st' := [.ref 70, .int (bA F t (b + 1))]) (h' := (shT, fi, fl, fr)) rfl ?_
    refine gp_of (fun _ k9 => g_getR (q' := 72) rfl rfl (by decide) k4 k9) ?_
    refine gp_n 5 (j' := 35) (lv' := [some (.ref 70), some (.int 3), some (.int 1)]) (st' := [.int 16, .ref 72, .int (bA F t (b + 1))]) (h' := (shT, fi, fl, fr)) rfl ?_
    refine gp_of (fun _ k9 => g_bald (k := 16) (x := 104) rfl rfl (by decide) (rfl) (by decide) (by decide) (w1) k9) ?_
    refine gp_of (fun _ k9 => g_ict rfl (show ¬ (bA F t (b + 1)) = (104 : Int32) from fun z => c1 (q1.mp z)) k9) ?_
    refine gp_n 2 (j' := 41) (lv' := [some (.ref 70), some (.int 3), some (.int 1)]) (st' := [.int 5, .int 1]) (h' := (shT, fi, fl, fr)) rfl ?_
    refine gp_of (fun _ k9 => g_icf rfl (show ¬ ((1 : Int32) = (5 : Int32)) from by decide) k9) ?_
    refine gp_n 1 (j' := 43) (lv' := [some (.ref 70), some (.int 3), some (.int 1)]) (st' := [.ref 70]) (h' := (shT, fi, fl, fr)) rfl ?_
    refine gp_of (fun _ k9 => g_getR (q' := 72) rfl rfl (by decide) k4 k9) ?_
    refine gp_n 5 (j' := 49) (lv' := [some (.ref 70), some (.int 3), some (.int 1)]) (st' := [.int 16, .ref 72]) (h' := (shT, fi, fl, fr)) rfl ?_
    refine gp_of (fun _ k9 => g_bald (k := 16) (x := 104) rfl rfl (by decide) (rfl) (by decide) (by decide) (w1) k9) ?_
    refine gp_of (fun _ k9 => g_ift rfl (show ¬ (104 : Int32) = (0 : Int32) from by decide) k9) ?_
    refine gp_n 2 (j' := 5) (lv' := [some (.ref 70), some (.int 4), some (.int 1)]) (st' := []) (h' := (shT, fi, fl, fr)) rfl ?_
    exact k2
  by_cases c2 : b + 2 < t ∧ F (b + 2) = 101
  rotate_left
  · have k2 := k2 (by simp only [mt]; rw [if_pos (show b + 0 < t ∧ F (b + 0) = (wd 3).getD 0 0 from c0)]; rw [if_pos (show b + 1 < t ∧ F (b + 1) = (wd 3).getD 1 0 from c1)]; rw [if_neg (show ¬ (b + 2 < t ∧ F (b + 2) = (wd 3).getD 2 0) from c2)]) (some (.int 2))
    refine gp_n 2 (j' := 7) (lv' := [some (.ref 70), some (.int 3), l]) (st' := [.int 6, .int 3]) (h' := (shT, fi, fl, fr)) rfl ?_
    refine gp_of (fun _ k9 => g_icf rfl (show ¬ ((6 : Int32) ≤ (3 : Int32)) from by decide) k9) ?_
    refine gp_n 4 (j' := 12) (lv' := [some (.ref 70), some (.int 3), some (.int 0)]) (st' := [.int 5, .int 0]) (h' := (shT, fi, fl, fr)) rfl ?_
    refine gp_of (fun _ k9 => g_icf rfl (show ¬ ((5 : Int32) ≤ (0 : Int32)) from by decide) k9) ?_
    refine gp_n 1 (j' := 14) (lv' := [some (.ref 70), some (.int 3), some (.int 0)]) (st' := [.ref 70]) (h' := (shT, fi, fl, fr)) rfl ?_
    refine gp_of (fun _ k9 => g_getR (q' := 72) rfl rfl (by decide) k4 k9) ?_
    refine gp_n 5 (j' := 20) (lv' := [some (.ref 70), some (.int 3), some (.int 0)]) (st' := [.int 15, .ref 72]) (h' := (shT, fi, fl, fr)) rfl ?_
    refine gp_of (fun _ k9 => g_bald (k := 15) (x := 99) rfl rfl (by decide) (rfl) (by decide) (by decide) (w0) k9) ?_
    refine gp_of (fun _ k9 => g_iff rfl (show ¬ ((99 : Int32) = (0 : Int32)) from by decide) k9) ?_
    refine gp_n 2 (j' := 24) (lv' := [some (.ref 70), some (.int 3), some (.int 0)]) (st' := [.ref 70, .ref 70]) (h' := (shT, fi, fl, fr)) rfl ?_
    refine gp_of (fun _ k9 => g_getI (x := nI b) rfl (Or.inl rfl) rfl (by decide) (e2) k9) ?_
    refine gp_n 2 (j' := 27) (lv' := [some (.ref 70), some (.int 3), some (.int 0)]) (st' := [.int ((nI b) + 0), .ref 70]) (h' := (shT, fi, fl, fr)) rfl ?_
    rw [show nI b + 0 = nI (b + 0) from nI_add b 0]
    refine gp_of (fun _ k9 => g_call (y := 154) (as := [.ref 70, .int (nI (b + 0))]) (st' := []) rfl rfl (b0) k9) ?_
    refine gp_n 1 (j' := 29) (lv' := [some (.ref 70), some (.int 3), some (.int 0)]) (st' := [.ref 70, .int (bA F t (b + 0))]) (h' := (shT, fi, fl, fr)) rfl ?_
    refine gp_of (fun _ k9 => g_getR (q' := 72) rfl rfl (by decide) k4 k9) ?_
    refine gp_n 5 (j' := 35) (lv' := [some (.ref 70), some (.int 3), some (.int 0)]) (st' := [.int 15, .ref 72, .int (bA F t (b + 0))]) (h' := (shT, fi, fl, fr)) rfl ?_
    refine gp_of (fun _ k9 => g_bald (k := 15) (x := 99) rfl rfl (by decide) (rfl) (by decide) (by decide) (w0) k9) ?_
    refine gp_of (fun _ k9 => g_icf rfl (show ¬ (¬ (bA F t (b + 0)) = (99 : Int32)) from fun z => z (q0.mpr c0)) k9) ?_
    refine gp_n 4 (j' := 12) (lv' := [some (.ref 70), some (.int 3), some (.int 1)]) (st' := [.int 5, .int 1]) (h' := (shT, fi, fl, fr)) rfl ?_
    refine gp_of (fun _ k9 => g_icf rfl (show ¬ ((5 : Int32) ≤ (1 : Int32)) from by decide) k9) ?_
    refine gp_n 1 (j' := 14) (lv' := [some (.ref 70), some (.int 3), some (.int 1)]) (st' := [.ref 70]) (h' := (shT, fi, fl, fr)) rfl ?_
    refine gp_of (fun _ k9 => g_getR (q' := 72) rfl rfl (by decide) k4 k9) ?_
    refine gp_n 5 (j' := 20) (lv' := [some (.ref 70), some (.int 3), some (.int 1)]) (st' := [.int 16, .ref 72]) (h' := (shT, fi, fl, fr)) rfl ?_
    refine gp_of (fun _ k9 => g_bald (k := 16) (x := 104) rfl rfl (by decide) (rfl) (by decide) (by decide) (w1) k9) ?_
    refine gp_of (fun _ k9 => g_iff rfl (show ¬ ((104 : Int32) = (0 : Int32)) from by decide) k9) ?_
    refine gp_n 2 (j' := 24) (lv' := [some (.ref 70), some (.int 3), some (.int 1)]) (st' := [.ref 70, .ref 70]) (h' := (shT, fi, fl, fr)) rfl ?_
    refine gp_of (fun _ k9 => g_getI (x := nI b) rfl (Or.inl rfl) rfl (by decide) (e2) k9) ?_
    refine gp_n 2 (j' := 27) (lv' := [some (.ref 70), some (.int 3), some (.int 1)]) (st' := [.int ((nI b) + 1), .ref 70]) (h' := (shT, fi, fl, fr)) rfl ?_
    rw [show nI b + 1 = nI (b + 1) from nI_add b 1]
    refine gp_of (fun _ k9 => g_call (y := 154) (as := [.ref 70, .int (nI (b + 1))]) (st' := []) rfl rfl (b1) k9) ?_
    refine gp_n 1 (j' := 29) (lv' := [some (.ref 70), some (.int 3), some (.int 1)]) (st' := [.ref 70, .int (bA F t (b + 1))]) (h' := (shT, fi, fl, fr)) rfl ?_
    refine gp_of (fun _ k9 => g_getR (q' := 72) rfl rfl (by decide) k4 k9) ?_
    refine gp_n 5 (j' := 35) (lv' := [some (.ref 70), some (.int 3), some (.int 1)]) (st' := [.int 16, .ref 72, .int (bA F t (b + 1))]) (h' := (shT, fi, fl, fr)) rfl ?_
    refine gp_of (fun _ k9 => g_bald (k := 16) (x := 104) rfl rfl (by decide) (rfl) (by decide) (by decide) (w1) k9) ?_
    refine gp_of (fun _ k9 => g_icf rfl (show ¬ (¬ (bA F t (b + 1)) = (104 : Int32)) from fun z => z (q1.mpr c1)) k9) ?_
    refine gp_n 4 (j' := 12) (lv' := [some (.ref 70), some (.int 3), some (.int 2)]) (st' := [.int 5, .int 2]) (h' := (shT, fi, fl, fr)) rfl ?_
    refine gp_of (fun _ k9 => g_icf rfl (show ¬ ((5 : Int32) ≤ (2 : Int32)) from by decide) k9) ?_
    refine gp_n 1 (j' := 14) (lv' := [some (.ref 70), some (.int 3), some (.int 2)]) (st' := [.ref 70]) (h' := (shT, fi, fl, fr)) rfl ?_
    refine gp_of (fun _ k9 => g_getR (q' := 72) rfl rfl (by decide) k4 k9) ?_
    refine gp_n 5 (j' := 20) (lv' := [some (.ref 70), some (.int 3), some (.int 2)]) (st' := [.int 17, .ref 72]) (h' := (shT, fi, fl, fr)) rfl ?_
    refine gp_of (fun _ k9 => g_bald (k := 17) (x := 101) rfl rfl (by decide) (rfl) (by decide) (by decide) (w2) k9) ?_
    refine gp_of (fun _ k9 => g_iff rfl (show ¬ ((101 : Int32) = (0 : Int32)) from by decide) k9) ?_
    refine gp_n 2 (j' := 24) (lv' := [some (.ref 70), some (.int 3), some (.int 2)]) (st' := [.ref 70, .ref 70]) (h' := (shT, fi, fl, fr)) rfl ?_
    refine gp_of (fun _ k9 => g_getI (x := nI b) rfl (Or.inl rfl) rfl (by decide) (e2) k9) ?_
    refine gp_n 2 (j' := 27) (lv' := [some (.ref 70), some (.int 3), some (.int 2)]) (st' := [.int ((nI b) + 2), .ref 70]) (h' := (shT, fi, fl, fr)) rfl ?_
    rw [show nI b + 2 = nI (b + 2) from nI_add b 2]
    refine gp_of (fun _ k9 => g_call (y := 154) (as := [.ref 70, .int (nI (b + 2))]) (st' := []) rfl rfl (b2) k9) ?_
    refine gp_n 1 (j' := 29) (lv' := [some (.ref 70), some (.int 3), some (.int 2)]) (st' := [.ref 70, .int (bA F t (b + 2))]) (h' := (shT, fi, fl, fr)) rfl ?_
    refine gp_of (fun _ k9 => g_getR (q' := 72) rfl rfl (by decide) k4 k9) ?_
    refine gp_n 5 (j' := 35) (lv' := [some (.ref 70), some (.int 3), some (.int 2)]) (st' := [.int 17, .ref 72, .int (bA F t (b + 2))]) (h' := (shT, fi, fl, fr)) rfl ?_
    refine gp_of (fun _ k9 => g_bald (k := 17) (x := 101) rfl rfl (by decide) (rfl) (by decide) (by decide) (w2) k9) ?_
    refine gp_of (fun _ k9 => g_ict rfl (show ¬ (bA F t (b + 2)) = (101 : Int32) from fun z => c2 (q2.mp z)) k9) ?_
    refine gp_n 2 (j' := 41) (lv' := [some (.ref 70), some (.int 3), some (.int 2)]) (st' := [.int 5, .int 2]) (h' := (shT, fi, fl, fr)) rfl ?_
    refine gp_of (fun _ k9 => g_icf rfl (show ¬ ((2 : Int32) = (5 : Int32)) from by decide) k9) ?_
    refine gp_n 1 (j' := 43) (lv' := [some (.ref 70), some (.int 3), some (.int 2)]) (st' := [.ref 70]) (h' := (shT, fi, fl, fr)) rfl ?_
    refine gp_of (fun _ k9 => g_getR (q' := 72) rfl rfl (by decide) k4 k9) ?_
    refine gp_n 5 (j' := 49) (lv' := [some (.ref 70), some (.int 3), some (.int 2)]) (st' := [.int 17, .ref 72]) (h' := (shT, fi, fl, fr)) rfl ?_
    refine gp_of (fun _ k9 => g_bald (k := 17) (x := 101) rfl rfl (by decide) (rfl) (by decide) (by decide) (w2) k9) ?_
    refine gp_of (fun _ k9 => g_ift rfl (show ¬ (101 : Int32) = (0 : Int32) from by decide) k9) ?_
    refine gp_n 2 (j' := 5) (lv' := [some (.ref 70), some (.int 4), some (.int 2)]) (st' := []) (h' := (shT, fi, fl, fr)) rfl ?_
    exact k2
  by_cases c3 : b + 3 < t ∧ F (b + 3) = 99
  rotate_left
  · have k2 := k2 (by simp only [mt]; rw [if_pos (show b + 0 < t ∧ F (b + 0) = (wd 3).getD 0 0 from c0)]; rw [if_pos (show b + 1 < t ∧ F (b + 1) = (wd 3).getD 1 0 from c1)]; rw [if_pos (show b + 2 < t ∧ F (b + 2) = (wd 3).getD 2 0 from c2)]; rw [if_neg (show ¬ (b + 3 < t ∧ F (b + 3) = (wd 3).getD 3 0) from c3)]) (some (.int 3))
    refine gp_n 2 (j' := 7) (lv' := [some (.ref 70), some (.int 3), l]) (st' := [.int 6, .int 3]) (h' := (shT, fi, fl, fr)) rfl ?_
    refine gp_of (fun _ k9 => g_icf rfl (show ¬ ((6 : Int32) ≤ (3 : Int32)) from by decide) k9) ?_
    refine gp_n 4 (j' := 12) (lv' := [some (.ref 70), some (.int 3), some (.int 0)]) (st' := [.int 5, .int 0]) (h' := (shT, fi, fl, fr)) rfl ?_
    refine gp_of (fun _ k9 => g_icf rfl (show ¬ ((5 : Int32) ≤ (0 : Int32)) from by decide) k9) ?_
    refine gp_n 1 (j' := 14) (lv' := [some (.ref 70), some (.int 3), some (.int 0)]) (st' := [.ref 70]) (h' := (shT, fi, fl, fr)) rfl ?_
    refine gp_of (fun _ k9 => g_getR (q' := 72) rfl rfl (by decide) k4 k9) ?_
    refine gp_n 5 (j' := 20) (lv' := [some (.ref 70), some (.int 3), some (.int 0)]) (st' := [.int 15, .ref 72]) (h' := (shT, fi, fl, fr)) rfl ?_
    refine gp_of (fun _ k9 => g_bald (k := 15) (x := 99) rfl rfl (by decide) (rfl) (by decide) (by decide) (w0) k9) ?_
    refine gp_of (fun _ k9 => g_iff rfl (show ¬ ((99 : Int32) = (0 : Int32)) from by decide) k9) ?_
    refine gp_n 2 (j' := 24) (lv' := [some (.ref 70), some (.int 3), some (.int 0)]) (st' := [.ref 70, .ref 70]) (h' := (shT, fi, fl, fr)) rfl ?_
    refine gp_of (fun _ k9 => g_getI (x := nI b) rfl (Or.inl rfl) rfl (by decide) (e2) k9) ?_
    refine gp_n 2 (j' := 27) (lv' := [some (.ref 70), some (.int 3), some (.int 0)]) (st' := [.int ((nI b) + 0), .ref 70]) (h' := (shT, fi, fl, fr)) rfl ?_
    rw [show nI b + 0 = nI (b + 0) from nI_add b 0]
    refine gp_of (fun _ k9 => g_call (y := 154) (as := [.ref 70, .int (nI (b + 0))]) (st' := []) rfl rfl (b0) k9) ?_
    refine gp_n 1 (j' := 29) (lv' := [some (.ref 70), some (.int 3), some (.int 0)]) (st' := [.ref 70, .int (bA F t (b + 0))]) (h' := (shT, fi, fl, fr)) rfl ?_
    refine gp_of (fun _ k9 => g_getR (q' := 72) rfl rfl (by decide) k4 k9) ?_
    refine gp_n 5 (j' := 35) (lv' := [some (.ref 70), some (.int 3), some (.int 0)]) (st' := [.int 15, .ref 72, .int (bA F t (b + 0))]) (h' := (shT, fi, fl, fr)) rfl ?_
    refine gp_of (fun _ k9 => g_bald (k := 15) (x := 99) rfl rfl (by decide) (rfl) (by decide) (by decide) (w0) k9) ?_
    refine gp_of (fun _ k9 => g_icf rfl (show ¬ (¬ (bA F t (b + 0)) = (99 : Int32)) from fun z => z (q0.mpr c0)) k9) ?_
    refine gp_n 4 (j' := 12) (lv' := [some (.ref 70), some (.int 3), some (.int 1)]) (st' := [.int 5, .int 1]) (h' := (shT, fi, fl, fr)) rfl ?_
    refine gp_of (fun _ k9 => g_icf rfl (show ¬ ((5 : Int32) ≤ (1 : Int32)) from by decide) k9) ?_
    refine gp_n 1 (j' := 14) (lv' := [some (.ref 70), some (.int 3), some (.int 1)]) (st' := [.ref 70]) (h' := (shT, fi, fl, fr)) rfl ?_
    refine gp_of (fun _ k9 => g_getR (q' := 72) rfl rfl (by decide) k4 k9) ?_
    refine gp_n 5 (j' := 20) (lv' := [some (.ref 70), some (.int 3), some (.int 1)]) (st' := [.int 16, .ref 72]) (h' := (shT, fi, fl, fr)) rfl ?_
    refine gp_of (fun _ k9 => g_bald (k := 16) (x := 104) rfl rfl (by decide) (rfl) (by decide) (by decide) (w1) k9) ?_
    refine gp_of (fun _ k9 => g_iff rfl (show ¬ ((104 : Int32) = (0 : Int32)) from by decide) k9) ?_
    refine gp_n 2 (j' := 24) (lv' := [some (.ref 70), some (.int 3), some (.int 1)]) (st' := [.ref 70, .ref 70]) (h' := (shT, fi, fl, fr)) rfl ?_
    refine gp_of (fun _ k9 => g_getI (x := nI b) rfl (Or.inl rfl) rfl (by decide) (e2) k9) ?_
    refine gp_n 2 (j' := 27) (lv' := [some (.ref 70), some (.int 3), some (.int 1)]) (st' := [.int ((nI b) + 1), .ref 70]) (h' := (shT, fi, fl, fr)) rfl ?_
    rw [show nI b + 1 = nI (b + 1) from nI_add b 1]
    refine gp_of (fun _ k9 => g_call (y := 154) (as := [.ref 70, .int (nI (b + 1))]) (st' := []) rfl rfl (b1) k9) ?_
    refine gp_n 1 (j' := 29) (lv' := [some (.ref 70), some (.int 3), some (.int 1)]) (st' := [.ref 70, .int (bA F t (b + 1))]) (h' := (shT, fi, fl, fr)) rfl ?_
    refine gp_of (fun _ k9 => g_getR (q' := 72) rfl rfl (by decide) k4 k9) ?_
    refine gp_n 5 (j' := 35) (lv' := [some (.ref 70), some (.int 3), some (.int 1)]) (st' := [.int 16, .ref 72, .int (bA F t (b + 1))]) (h' := (shT, fi, fl, fr)) rfl ?_
    refine gp_of (fun _ k9 => g_bald (k := 16) (x := 104) rfl rfl (by decide) (rfl) (by decide) (by decide) (w1) k9) ?_
    refine gp_of (fun _ k9 => g_icf rfl (show ¬ (¬ (bA F t (b + 1)) = (104 : Int32)) from fun z => z (q1.mpr c1)) k9) ?_
    refine gp_n 4 (j' := 12) (lv' := [some (.ref 70), some (.int 3), some (.int 2)]) (st' := [.int 5, .int 2]) (h' := (shT, fi, fl, fr)) rfl ?_
    refine gp_of (fun _ k9 => g_icf rfl (show ¬ ((5 : Int32) ≤ (2 : Int32)) from by decide) k9) ?_
    refine gp_n 1 (j' := 14) (lv' := [some (.ref 70), some (.int 3), some (.int 2)]) (st' := [.ref 70]) (h' := (shT, fi, fl, fr)) rfl ?_
    refine gp_of (fun _ k9 => g_getR (q' := 72) rfl rfl (by decide) k4 k9) ?_
    refine gp_n 5 (j' := 20) (lv' := [some (.ref 70), some (.int 3), some (.int 2)]) (st' := [.int 17, .ref 72]) (h' := (shT, fi, fl, fr)) rfl ?_
    refine gp_of (fun _ k9 => g_bald (k := 17) (x := 101) rfl rfl (by decide) (rfl) (by decide) (by decide) (w2) k9) ?_
    refine gp_of (fun _ k9 => g_iff rfl (show ¬ ((101 : Int32) = (0 : Int32)) from by decide) k9) ?_
    refine gp_n 2 (j' := 24) (lv' := [some (.ref 70), some (.int 3), some (.int 2)]) (st' := [.ref 70, .ref 70]) (h' := (shT, fi, fl, fr)) rfl ?_
    refine gp_of (fun _ k9 => g_getI (x := nI b) rfl (Or.inl rfl) rfl (by decide) (e2) k9) ?_
    refine gp_n 2 (j' := 27) (lv' := [some (.ref 70), some (.int 3), some (.int 2)]) (st' := [.int ((nI b) + 2), .ref 70]) (h' := (shT, fi, fl, fr)) rfl ?_
    rw [show nI b + 2 = nI (b + 2) from nI_add b 2]
    refine gp_of (fun _ k9 => g_call (y := 154) (as := [.ref 70, .int (nI (b + 2))]) (st' := []) rfl rfl (b2) k9) ?_
    refine gp_n 1 (j' := 29) (lv' := [some (.ref 70), some (.int 3), some (.int 2)]) (st' := [.ref 70, .int (bA F t (b + 2))]) (h' := (shT, fi, fl, fr)) rfl ?_
    refine gp_of (fun _ k9 => g_getR (q' := 72) rfl rfl (by decide) k4 k9) ?_
    refine gp_n 5 (j' := 35) (lv' := [some (.ref 70), some (.int 3), some (.int 2)]) (st' := [.int 17, .ref 72, .int (bA F t (b + 2))]) (h' := (shT, fi, fl, fr)) rfl ?_
    refine gp_of (fun _ k9 => g_bald (k := 17) (x := 101) rfl rfl (by decide) (rfl) (by decide) (by decide) (w2) k9) ?_
    refine gp_of (fun _ k9 => g_icf rfl (show ¬ (¬ (bA F t (b + 2)) = (101 : Int32)) from fun z => z (q2.mpr c2)) k9) ?_
    refine gp_n 4 (j' := 12) (lv' := [some (.ref 70), some (.int 3), some (.int 3)]) (st' := [.int 5, .int 3]) (h' := (shT, fi, fl, fr)) rfl ?_
    refine gp_of (fun _ k9 => g_icf rfl (show ¬ ((5 : Int32) ≤ (3 : Int32)) from by decide) k9) ?_
    refine gp_n 1 (j' := 14) (lv' := [some (.ref 70), some (.int 3), some (.int 3)]) (st' := [.ref 70]) (h' := (shT, fi, fl, fr)) rfl ?_
    refine gp_of (fun _ k9 => g_getR (q' := 72) rfl rfl (by decide) k4 k9) ?_
    refine gp_n 5 (j' := 20) (lv' := [some (.ref 70), some (.int 3), some (.int 3)]) (st' := [.int 18, .ref 72]) (h' := (shT, fi, fl, fr)) rfl ?_
    refine gp_of (fun _ k9 => g_bald (k := 18) (x := 99) rfl rfl (by decide) (rfl) (by decide) (by decide) (w3) k9) ?_
    refine gp_of (fun _ k9 => g_iff rfl (show ¬ ((99 : Int32) = (0 : Int32)) from by decide) k9) ?_
    refine gp_n 2 (j' := 24) (lv' := [some (.ref 70), some (.int 3), some (.int 3)]) (st' := [.ref 70, .ref 70]) (h' := (shT, fi, fl, fr)) rfl ?_
    refine gp_of (fun _ k9 => g_getI (x := nI b) rfl (Or.inl rfl) rfl (by decide) (e2) k9) ?_
    refine gp_n 2 (j' := 27) (lv' := [some (.ref 70), some (.int 3), some (.int 3)]) (st' := [.int ((nI b) + 3), .ref 70]) (h' := (shT, fi, fl, fr)) rfl ?_
    rw [show nI b + 3 = nI (b + 3) from nI_add b 3]
    refine gp_of (fun _ k9 => g_call (y := 154) (as := [.ref 70, .int (nI (b + 3))]) (st' := []) rfl rfl (b3) k9) ?_
    refine gp_n 1 (j' := 29) (lv' := [some (.ref 70), some (.int 3), some (.int 3)]) (st' := [.ref 70, .int (bA F t (b + 3))]) (h' := (shT, fi, fl, fr)) rfl ?_
    refine gp_of (fun _ k9 => g_getR (q' := 72) rfl rfl (by decide) k4 k9) ?_
    refine gp_n 5 (j' := 35) (lv' := [some (.ref 70), some (.int 3), some (.int 3)]) (st' := [.int 18, .ref 72, .int (bA F t (b + 3))]) (h' := (shT, fi, fl, fr)) rfl ?_
    refine gp_of (fun _ k9 => g_bald (k := 18) (x := 99) rfl rfl (by decide) (rfl) (by decide) (by decide) (w3) k9) ?_
    refine gp_of (fun _ k9 => g_ict rfl (show ¬ (bA F t (b + 3)) = (99 : Int32) from fun z => c3 (q3.mp z)) k9) ?_
    refine gp_n 2 (j' := 41) (lv' := [some (.ref 70), some (.int 3), some (.int 3)]) (st' := [.int 5, .int 3]) (h' := (shT, fi, fl, fr)) rfl ?_
    refine gp_of (fun _ k9 => g_icf rfl (show ¬ ((3 : Int32) = (5 : Int32)) from by decide) k9) ?_
    refine gp_n 1 (j' := 43) (lv' := [some (.ref 70), some (.int 3), some (.int 3)]) (st' := [.ref 70]) (h' := (shT, fi, fl, fr)) rfl ?_
    refine gp_of (fun _ k9 => g_getR (q' := 72) rfl rfl (by decide) k4 k9) ?_
    refine gp_n 5 (j' := 49) (lv' := [some (.ref 70), some (.int 3), some (.int 3)]) (st' := [.int 18, .ref 72]) (h' := (shT, fi, fl, fr)) rfl ?_
    refine gp_of (fun _ k9 => g_bald (k := 18) (x := 99) rfl rfl (by decide) (rfl) (by decide) (by decide) (w3) k9) ?_
    refine gp_of (fun _ k9 => g_ift rfl (show ¬ (99 : Int32) = (0 : Int32) from by decide) k9) ?_
    refine gp_n 2 (j' := 5) (lv' := [some (.ref 70), some (.int 4), some (.int 3)]) (st' := []) (h' := (shT, fi, fl, fr)) rfl ?_
    exact k2
  by_cases c4 : b + 4 < t ∧ F (b + 4) = 107
  rotate_left
  · have k2 := k2 (by simp only [mt]; rw [if_pos (show b + 0 < t ∧ F (b + 0) = (wd 3).getD 0 0 from c0)]; rw [if_pos (show b + 1 < t ∧ F (b + 1) = (wd 3).getD 1 0 from c1)]; rw [if_pos (show b + 2 < t ∧ F (b + 2) = (wd 3).getD 2 0 from c2)]; rw [if_pos (show b + 3 < t ∧ F (b + 3) = (wd 3).getD 3 0 from c3)]; rw [if_neg (show ¬ (b + 4 < t ∧ F (b + 4) = (wd 3).getD 4 0) from c4)]) (some (.int 4))
    refine gp_n 2 (j' := 7) (lv' := [some (.ref 70), some (.int 3), l]) (st' := [.int 6, .int 3]) (h' := (shT, fi, fl, fr)) rfl ?_
    refine gp_of (fun _ k9 => g_icf rfl (show ¬ ((6 : Int32) ≤ (3 : Int32)) from by decide) k9) ?_
    refine gp_n 4 (j' := 12) (lv' := [some (.ref 70), some (.int 3), some (.int 0)]) (st' := [.int 5, .int 0]) (h' := (shT, fi, fl, fr)) rfl ?_
    refine gp_of (fun _ k9 => g_icf rfl (show ¬ ((5 : Int32) ≤ (0 : Int32)) from by decide) k9) ?_
    refine gp_n 1 (j' := 14) (lv' := [some (.ref 70), some (.int 3), some (.int 0)]) (st' := [.ref 70]) (h' := (shT, fi, fl, fr)) rfl ?_
    refine gp_of (fun _ k9 => g_getR (q' := 72) rfl rfl (by decide) k4 k9) ?_
    refine gp_n 5 (j' := 20) (lv' := [some (.ref 70), some (.int 3), some (.int 0)]) (st' := [.int 15, .ref 72]) (h' := (shT, fi, fl, fr)) rfl ?_
    refine gp_of (fun _ k9 => g_bald (k := 15) (x := 99) rfl rfl (by decide) (rfl) (by decide) (by decide) (w0) k9) ?_
    refine gp_of (fun _ k9 => g_iff rfl (show ¬ ((99 : Int32) = (0 : Int32)) from by decide) k9) ?_
    refine gp_n 2 (j' := 24) (lv' := [some (.ref 70), some (.int 3), some (.int 0)]) (st' := [.ref 70, .ref 70]) (h' := (shT, fi, fl, fr)) rfl ?_
    refine gp_of (fun _ k9 => g_getI (x := nI b) rfl (Or.inl rfl) rfl (by decide) (e2) k9) ?_
    refine gp_n 2 (j' := 27) (lv' := [some (.ref 70), some (.int 3), some (.int 0)]) (st' := [.int ((nI b) + 0), .ref 70]) (h' := (shT, fi, fl, fr)) rfl ?_
    rw [show nI b + 0 = nI (b + 0) from nI_add b 0]
    refine gp_of (fun _ k9 => g_call (y := 154) (as := [.ref 70, .int (nI (b + 0))]) (st' := []) rfl rfl (b0) k9) ?_
    refine gp_n 1 (j' := 29) (lv' := [some (.ref 70), some (.int 3), some (.int 0)]) (st' := [.ref 70, .int (bA F t (b + 0))]) (h' := (shT, fi, fl, fr)) rfl ?_
    refine gp_of (fun _ k9 => g_getR (q' := 72) rfl rfl (by decide) k4 k9) ?_
    refine gp_n 5 (j' := 35) (lv' := [some (.ref 70), some (.int 3), some (.int 0)]) (st' := [.int 15, .ref 72, .int (bA F t (b + 0))]) (h' := (shT, fi, fl, fr)) rfl ?_
    refine gp_of (fun _ k9 => g_bald (k := 15) (x := 99) rfl rfl (by decide) (rfl) (by decide) (by decide) (w0) k9) ?_
    refine gp_of (fun _ k9 => g_icf rfl (show ¬ (¬ (bA F t (b + 0)) = (99 : Int32)) from fun z => z (q0.mpr c0)) k9) ?_
    refine gp_n 4 (j' := 12) (lv' := [some (.ref 70), some (.int 3), some (.int 1)]) (st' := [.int 5, .int 1]) (h' := (shT, fi, fl, fr)) rfl ?_
    refine gp_of (fun _ k9 => g_icf rfl (show ¬ ((5 : Int32) ≤ (1 : Int32)) from by decide) k9) ?_
    refine gp_n 1 (j' := 14) (lv' := [some (.ref 70), some (.int 3), some (.int 1)]) (st' := [.ref 70]) (h' := (shT, fi, fl, fr)) rfl ?_
    refine gp_of (fun _ k9 => g_getR (q' := 72) rfl rfl (by decide) k4 k9) ?_
    refine gp_n 5 (j' := 20) (lv' := [some (.ref 70), some (.int 3), some (.int 1)]) (st' := [.int 16, .ref 72]) (h' := (shT, fi, fl, fr)) rfl ?_
    refine gp_of (fun _ k9 => g_bald (k := 16) (x := 104) rfl rfl (by decide) (rfl) (by decide) (by decide) (w1) k9) ?_
    refine gp_of (fun _ k9 => g_iff rfl (show ¬ ((104 : Int32) = (0 : Int32)) from by decide) k9) ?_
    refine gp_n 2 (j' := 24) (lv' := [some (.ref 70), some (.int 3), some (.int 1)]) (st' := [.ref 70, .ref 70]) (h' := (shT, fi, fl, fr)) rfl ?_
    refine gp_of (fun _ k9 => g_getI (x := nI b) rfl (Or.inl rfl) rfl (by decide) (e2) k9) ?_
    refine gp_n 2 (j' := 27) (lv' := [some (.ref 70), some (.int 3), some (.int 1)]) (st' := [.int ((nI b) + 1), .ref 70]) (h' := (shT, fi, fl, fr)) rfl ?_
    rw [show nI b + 1 = nI (b + 1) from nI_add b 1]
    refine gp_of (fun _ k9 => g_call (y := 154) (as := [.ref 70, .int (nI (b + 1))]) (st' := []) rfl rfl (b1) k9) ?_
    refine gp_n 1 (j' := 29) (lv' := [some (.ref 70), some (.int 3), some (.int 1)]) (st' := [.ref 70, .int (bA F t (b + 1))]) (h' := (shT, fi, fl, fr)) rfl ?_
    refine gp_of (fun _ k9 => g_getR (q' := 72) rfl rfl (by decide) k4 k9) ?_
    refine gp_n 5 (j' := 35) (lv' := [some (.ref 70), some (.int 3), some (.int 1)]) (st' := [.int 16, .ref 72, .int (bA F t (b + 1))]) (h' := (shT, fi, fl, fr)) rfl ?_
    refine gp_of (fun _ k9 => g_bald (k := 16) (x := 104) rfl rfl (by decide) (rfl) (by decide) (by decide) (w1) k9) ?_
    refine gp_of (fun _ k9 => g_icf rfl (show ¬ (¬ (bA F t (b + 1)) = (104 : Int32)) from fun z => z (q1.mpr c1)) k9) ?_
    refine gp_n 4 (j' := 12) (lv' := [some (.ref 70), some (.int 3), some (.int 2)]) (st' := [.int 5, .int 2]) (h' := (shT, fi, fl, fr)) rfl ?_
    refine gp_of (fun _ k9 => g_icf rfl (show ¬ ((5 : Int32) ≤ (2 : Int32)) from by decide) k9) ?_
    refine gp_n 1 (j' := 14) (lv' := [some (.ref 70), some (.int 3), some (.int 2)]) (st' := [.ref 70]) (h' := (shT, fi, fl, fr)) rfl ?_
    refine gp_of (fun _ k9 => g_getR (q' := 72) rfl rfl (by decide) k4 k9) ?_
    refine gp_n 5 (j' := 20) (lv' := [some (.ref 70), some (.int 3), some (.int 2)]) (st' := [.int 17, .ref 72]) (h' := (shT, fi, fl, fr)) rfl ?_
    refine gp_of (fun _ k9 => g_bald (k := 17) (x := 101) rfl rfl (by decide) (rfl) (by decide) (by decide) (w2) k9) ?_
    refine gp_of (fun _ k9 => g_iff rfl (show ¬ ((101 : Int32) = (0 : Int32)) from by decide) k9) ?_
    refine gp_n 2 (j' := 24) (lv' := [some (.ref 70), some (.int 3), some (.int 2)]) (st' := [.ref 70, .ref 70]) (h' := (shT, fi, fl, fr)) rfl ?_
    refine gp_of (fun _ k9 => g_getI (x := nI b) rfl (Or.inl rfl) rfl (by decide) (e2) k9) ?_
    refine gp_n 2 (j' := 27) (lv' := [some (.ref 70), some (.int 3), some (.int 2)]) (st' := [.int ((nI b) + 2), .ref 70]) (h' := (shT, fi, fl, fr)) rfl ?_
    rw [show nI b + 2 = nI (b + 2) from nI_add b 2]
    refine gp_of (fun _ k9 => g_call (y := 154) (as := [.ref 70, .int (nI (b + 2))]) (st' := []) rfl rfl (b2) k9) ?_
    refine gp_n 1 (j' := 29) (lv' := [some (.ref 70), some (.int 3), some (.int 2)]) (st' := [.ref 70, .int (bA F t (b + 2))]) (h' := (shT, fi, fl, fr)) rfl ?_
    refine gp_of (fun _ k9 => g_getR (q' := 72) rfl rfl (by decide) k4 k9) ?_
    refine gp_n 5 (j' := 35) (lv' := [some (.ref 70), some (.int 3), some (.int 2)]) (st' := [.int 17, .ref 72, .int (bA F t (b + 2))]) (h' := (shT, fi, fl, fr)) rfl ?_
    refine gp_of (fun _ k9 => g_bald (k := 17) (x := 101) rfl rfl (by decide) (rfl) (by decide) (by decide) (w2) k9) ?_
    refine gp_of (fun _ k9 => g_icf rfl (show ¬ (¬ (bA F t (b + 2)) = (101 : Int32)) from fun z => z (q2.mpr c2)) k9) ?_
    refine gp_n 4 (j' := 12) (lv' := [some (.ref 70), some (.int 3), some (.int 3)]) (st' := [.int 5, .int 3]) (h' := (shT, fi, fl, fr)) rfl ?_
    refine gp_of (fun _ k9 => g_icf rfl (show ¬ ((5 : Int32) ≤ (3 : Int32)) from by decide) k9) ?_
    refine gp_n 1 (j' := 14) (lv' := [some (.ref 70), some (.int 3), some (.int 3)]) (st' := [.ref 70]) (h' := (shT, fi, fl, fr)) rfl ?_
    refine gp_of (fun _ k9 => g_getR (q' := 72) rfl rfl (by decide) k4 k9) ?_
    refine gp_n 5 (j' := 20) (lv' := [some (.ref 70), some (.int 3), some (.int 3)]) (st' := [.int 18, .ref 72]) (h' := (shT, fi, fl, fr)) rfl ?_
    refine gp_of (fun _ k9 => g_bald (k := 18) (x := 99) rfl rfl (by decide) (rfl) (by decide) (by decide) (w3) k9) ?_
    refine gp_of (fun _ k9 => g_iff rfl (show ¬ ((99 : Int32) = (0 : Int32)) from by decide) k9) ?_
    refine gp_n 2 (j' := 24) (lv' := [some (.ref 70), some (.int 3), some (.int 3)]) (st' := [.ref 70, .ref 70]) (h' := (shT, fi, fl, fr)) rfl ?_
    refine gp_of (fun _ k9 => g_getI (x := nI b) rfl (Or.inl rfl) rfl (by decide) (e2) k9) ?_
    refine gp_n 2 (j' := 27) (lv' := [some (.ref 70), some (.int 3), some (.int 3)]) (st' := [.int ((nI b) + 3), .ref 70]) (h' := (shT, fi, fl, fr)) rfl ?_
    rw [show nI b + 3 = nI (b + 3) from nI_add b 3]
    refine gp_of (fun _ k9 => g_call (y := 154) (as := [.ref 70, .int (nI (b + 3))]) (st' := []) rfl rfl (b3) k9) ?_
    refine gp_n 1 (j' := 29) (lv' := [some (.ref 70), some (.int 3), some (.int 3)]) (st' := [.ref 70, .int (bA F t (b + 3))]) (h' := (shT, fi, fl, fr)) rfl ?_
    refine gp_of (fun _ k9 => g_getR (q' := 72) rfl rfl (by decide) k4 k9) ?_
    refine gp_n 5 (j' := 35) (lv' := [some (.ref 70), some (.int 3), some (.int 3)]) (st' := [.int 18, .ref 72, .int (bA F t (b + 3))]) (h' := (shT, fi, fl, fr)) rfl ?_
    refine gp_of (fun _ k9 => g_bald (k := 18) (x := 99) rfl rfl (by decide) (rfl) (by decide) (by decide) (w3) k9) ?_
    refine gp_of (fun _ k9 => g_icf rfl (show ¬ (¬ (bA F t (b + 3)) = (99 : Int32)) from fun z => z (q3.mpr c3)) k9) ?_
    refine gp_n 4 (j' := 12) (lv' := [some (.ref 70), some (.int 3), some (.int 4)]) (st' := [.int 5, .int 4]) (h' := (shT, fi, fl, fr)) rfl ?_
    refine gp_of (fun _ k9 => g_icf rfl (show ¬ ((5 : Int32) ≤ (4 : Int32)) from by decide) k9) ?_
    refine gp_n 1 (j' := 14) (lv' := [some (.ref 70), some (.int 3), some (.int 4)]) (st' := [.ref 70]) (h' := (shT, fi, fl, fr)) rfl ?_
    refine gp_of (fun _ k9 => g_getR (q' := 72) rfl rfl (by decide) k4 k9) ?_
    refine gp_n 5 (j' := 20) (lv' := [some (.ref 70), some (.int 3), some (.int 4)]) (st' := [.int 19, .ref 72]) (h' := (shT, fi, fl, fr)) rfl ?_
    refine gp_of (fun _ k9 => g_bald (k := 19) (x := 107) rfl rfl (by decide) (rfl) (by decide) (by decide) (w4) k9) ?_
    refine gp_of (fun _ k9 => g_iff rfl (show ¬ ((107 : Int32) = (0 : Int32)) from by decide) k9) ?_
    refine gp_n 2 (j' := 24) (lv' := [some (.ref 70), some (.int 3), some (.int 4)]) (st' := [.ref 70, .ref 70]) (h' := (shT, fi, fl, fr)) rfl ?_
    refine gp_of (fun _ k9 => g_getI (x := nI b) rfl (Or.inl rfl) rfl (by decide) (e2) k9) ?_
    refine gp_n 2 (j' := 27) (lv' := [some (.ref 70), some (.int 3), some (.int 4)]) (st' := [.int ((nI b) + 4), .ref 70]) (h' := (shT, fi, fl, fr)) rfl ?_
    rw [show nI b + 4 = nI (b + 4) from nI_add b 4]
    refine gp_of (fun _ k9 => g_call (y := 154) (as := [.ref 70, .int (nI (b + 4))]) (st' := []) rfl rfl (b4) k9) ?_
    refine gp_n 1 (j' := 29) (lv' := [some (.ref 70), some (.int 3), some (.int 4)]) (st' := [.ref 70, .int (bA F t (b + 4))]) (h' := (shT, fi, fl, fr)) rfl ?_
    refine gp_of (fun _ k9 => g_getR (q' := 72) rfl rfl (by decide) k4 k9) ?_
    refine gp_n 5 (j' := 35) (lv' := [some (.ref 70), some (.int 3), some (.int 4)]) (st' := [.int 19, .ref 72, .int (bA F t (b + 4))]) (h' := (shT, fi, fl, fr)) rfl ?_
    refine gp_of (fun _ k9 => g_bald (k := 19) (x := 107) rfl rfl (by decide) (rfl) (by decide) (by decide) (w4) k9) ?_
    refine gp_of (fun _ k9 => g_ict rfl (show ¬ (bA F t (b + 4)) = (107 : Int32) from fun z => c4 (q4.mp z)) k9) ?_
    refine gp_n 2 (j' := 41) (lv' := [some (.ref 70), some (.int 3), some (.int 4)]) (st' := [.int 5, .int 4]) (h' := (shT, fi, fl, fr)) rfl ?_
    refine gp_of (fun _ k9 => g_icf rfl (show ¬ ((4 : Int32) = (5 : Int32)) from by decide) k9) ?_
    refine gp_n 1 (j' := 43) (lv' := [some (.ref 70), some (.int 3), some (.int 4)]) (st' := [.ref 70]) (h' := (shT, fi, fl, fr)) rfl ?_
    refine gp_of (fun _ k9 => g_getR (q' := 72) rfl rfl (by decide) k4 k9) ?_
    refine gp_n 5 (j' := 49) (lv' := [some (.ref 70), some (.int 3), some (.int 4)]) (st' := [.int 19, .ref 72]) (h' := (shT, fi, fl, fr)) rfl ?_
    refine gp_of (fun _ k9 => g_bald (k := 19) (x := 107) rfl rfl (by decide) (rfl) (by decide) (by decide) (w4) k9) ?_
    refine gp_of (fun _ k9 => g_ift rfl (show ¬ (107 : Int32) = (0 : Int32) from by decide) k9) ?_
    refine gp_n 2 (j' := 5) (lv' := [some (.ref 70), some (.int 4), some (.int 4)]) (st' := []) (h' := (shT, fi, fl, fr)) rfl ?_
    exact k2
  by_cases cz : b + 5 < t ∧ cL (F (b + 5)) = true
  · have k2 := k2 (by simp only [mt]; rw [if_pos (show b + 0 < t ∧ F (b + 0) = (wd 3).getD 0 0 from c0)]; rw [if_pos (show b + 1 < t ∧ F (b + 1) = (wd 3).getD 1 0 from c1)]; rw [if_pos (show b + 2 < t ∧ F (b + 2) = (wd 3).getD 2 0 from c2)]; rw [if_pos (show b + 3 < t ∧ F (b + 3) = (wd 3).getD 3 0 from c3)]; rw [if_pos (show b + 4 < t ∧ F (b + 4) = (wd 3).getD 4 0 from c4)]; rw [decide_eq_true cz.1, cz.2]; rfl) (some (.int 5))
    have l1 := l1 (qL.mpr cz)
    refine gp_n 2 (j' := 7) (lv' := [some (.ref 70), some (.int 3), l]) (st' := [.int 6, .int 3]) (h' := (shT, fi, fl, fr)) rfl ?_
    refine gp_of (fun _ k9 => g_icf rfl (show ¬ ((6 : Int32) ≤ (3 : Int32)) from by decide) k9) ?_
    refine gp_n 4 (j' := 12) (lv' := [some (.ref 70), some (.int 3), some (.int 0)]) (st' := [.int 5, .int 0]) (h' := (shT, fi, fl, fr)) rfl ?_
    refine gp_of (fun _ k9 => g_icf rfl (show ¬ ((5 : Int32) ≤ (0 : Int32)) from by decide) k9) ?_
    refine gp_n 1 (j' := 14) (lv' := [some (.ref 70), some (.int 3), some (.int 0)]) (st' := [.ref 70]) (h' := (shT, fi, fl, fr)) rfl ?_
    refine gp_of (fun _ k9 => g_getR (q' := 72) rfl rfl (by decide) k4 k9) ?_
    refine gp_n 5 (j' := 20) (lv' := [some (.ref 70), some (.int 3), some (.int 0)]) (st' := [.int 15, .ref 72]) (h' := (shT, fi, fl, fr)) rfl ?_
    refine gp_of (fun _ k9 => g_bald (k := 15) (x := 99) rfl rfl (by decide) (rfl) (by decide) (by decide) (w0) k9) ?_
    refine gp_of (fun _ k9 => g_iff rfl (show ¬ ((99 : Int32) = (0 : Int32)) from by decide) k9) ?_
    refine gp_n 2 (j' := 24) (lv' := [some (.ref 70), some (.int 3), some (.int 0)]) (st' := [.ref 70, .ref 70]) (h' := (shT, fi, fl, fr)) rfl ?_
    refine gp_of (fun _ k9 => g_getI (x := nI b) rfl (Or.inl rfl) rfl (by decide) (e2) k9) ?_
    refine gp_n 2 (j' := 27) (lv' := [some (.ref 70), some (.int 3), some (.int 0)]) (st' := [.int ((nI b) + 0), .ref 70]) (h' := (shT, fi, fl, fr)) rfl ?_
    rw [show nI b + 0 = nI (b + 0) from nI_add b 0]
    refine gp_of (fun _ k9 => g_call (y := 154) (as := [.ref 70, .int (nI (b + 0))]) (st' := []) rfl rfl (b0) k9) ?_
    refine gp_n 1 (j' := 29) (lv' := [some (.ref 70), some (.int 3), some (.int 0)]) (st' := [.ref 70, .int (bA F t (b + 0))]) (h' := (shT, fi, fl, fr)) rfl ?_
    refine gp_of (fun _ k9 => g_getR (q' := 72) rfl rfl (by decide) k4 k9) ?_
    refine gp_n 5 (j' := 35) (lv' := [some (.ref 70), some (.int 3), some (.int 0)]) (st' := [.int 15, .ref 72, .int (bA F t (b + 0))]) (h' := (shT, fi, fl, fr)) rfl ?_
    refine gp_of (fun _ k9 => g_bald (k := 15) (x := 99) rfl rfl (by decide) (rfl) (by decide) (by decide) (w0) k9) ?_
    refine gp_of (fun _ k9 => g_icf rfl (show ¬ (¬ (bA F t (b + 0)) = (99 : Int32)) from fun z => z (q0.mpr c0)) k9) ?_
    refine gp_n 4 (j' := 12) (lv' := [some (.ref 70), some (.int 3), some (.int 1)]) (st' := [.int 5, .int 1]) (h' := (shT, fi, fl, fr)) rfl ?_
    refine gp_of (fun _ k9 => g_icf rfl (show ¬ ((5 : Int32) ≤ (1 : Int32)) from by decide) k9) ?_
    refine gp_n 1 (j' := 14) (lv' := [some (.ref 70), some (.int 3), some (.int 1)]) (st' := [.ref 70]) (h' := (shT, fi, fl, fr)) rfl ?_
    refine gp_of (fun _ k9 => g_getR (q' := 72) rfl rfl (by decide) k4 k9) ?_
    refine gp_n 5 (j' := 20) (lv' := [some (.ref 70), some (.int 3), some (.int 1)]) (st' := [.int 16, .ref 72]) (h' := (shT, fi, fl, fr)) rfl ?_
    refine gp_of (fun _ k9 => g_bald (k := 16) (x := 104) rfl rfl (by decide) (rfl) (by decide) (by decide) (w1) k9) ?_
    refine gp_of (fun _ k9 => g_iff rfl (show ¬ ((104 : Int32) = (0 : Int32)) from by decide) k9) ?_
    refine gp_n 2 (j' := 24) (lv' := [some (.ref 70), some (.int 3), some (.int 1)]) (st' := [.ref 70, .ref 70]) (h' := (shT, fi, fl, fr)) rfl ?_
    refine gp_of (fun _ k9 => g_getI (x := nI b) rfl (Or.inl rfl) rfl (by decide) (e2) k9) ?_
    refine gp_n 2 (j' := 27) (lv' := [some (.ref 70), some (.int 3), some (.int 1)]) (st' := [.int ((nI b) + 1), .ref 70]) (h' := (shT, fi, fl, fr)) rfl ?_
    rw [show nI b + 1 = nI (b + 1) from nI_add b 1]
    refine gp_of (fun _ k9 => g_call (y := 154) (as := [.ref 70, .int (nI (b + 1))]) (st' := []) rfl rfl (b1) k9) ?_
    refine gp_n 1 (j' := 29) (lv' := [some (.ref 70), some (.int 3), some (.int 1)]) (st' := [.ref 70, .int (bA F t (b + 1))]) (h' := (shT, fi, fl, fr)) rfl ?_
    refine gp_of (fun _ k9 => g_getR (q' := 72) rfl rfl (by decide) k4 k9) ?_
    refine gp_n 5 (j' := 35) (lv' := [some (.ref 70), some (.int 3), some (.int 1)]) (st' := [.int 16, .ref 72, .int (bA F t (b + 1))]) (h' := (shT, fi, fl, fr)) rfl ?_
    refine gp_of (fun _ k9 => g_bald (k := 16) (x := 104) rfl rfl (by decide) (rfl) (by decide) (by decide) (w1) k9) ?_
    refine gp_of (fun _ k9 => g_icf rfl (show ¬ (¬ (bA F t (b + 1)) = (104 : Int32)) from fun z => z (q1.mpr c1)) k9) ?_
    refine gp_n 4 (j' := 12) (lv' := [some (.ref 70), some (.int 3), some (.int 2)]) (st' := [.int 5, .int 2]) (h' := (shT, fi, fl, fr)) rfl ?_
    refine gp_of (fun _ k9 => g_icf rfl (show ¬ ((5 : Int32) ≤ (2 : Int32)) from by decide) k9) ?_
    refine gp_n 1 (j' := 14) (lv' := [some (.ref 70), some (.int 3), some (.int 2)]) (st' := [.ref 70]) (h' := (shT, fi, fl, fr)) rfl ?_
    refine gp_of (fun _ k9 => g_getR (q' := 72) rfl rfl (by decide) k4 k9) ?_
    refine gp_n 5 (j' := 20) (lv' := [some (.ref 70), some (.int 3), some (.int 2)]) (st' := [.int 17, .ref 72]) (h' := (shT, fi, fl, fr)) rfl ?_
    refine gp_of (fun _ k9 => g_bald (k := 17) (x := 101) rfl rfl (by decide) (rfl) (by decide) (by decide) (w2) k9) ?_
    refine gp_of (fun _ k9 => g_iff rfl (show ¬ ((101 : Int32) = (0 : Int32)) from by decide) k9) ?_
    refine gp_n 2 (j' := 24) (lv' := [some (.ref 70), some (.int 3), some (.int 2)]) (st' := [.ref 70, .ref 70]) (h' := (shT, fi, fl, fr)) rfl ?_
    refine gp_of (fun _ k9 => g_getI (x := nI b) rfl (Or.inl rfl) rfl (by decide) (e2) k9) ?_
    refine gp_n 2 (j' := 27) (lv' := [some (.ref 70), some (.int 3), some (.int 2)]) (st' := [.int ((nI b) + 2), .ref 70]) (h' := (shT, fi, fl, fr)) rfl ?_
    rw [show nI b + 2 = nI (b + 2) from nI_add b 2]
    refine gp_of (fun _ k9 => g_call (y := 154) (as := [.ref 70, .int (nI (b + 2))]) (st' := []) rfl rfl (b2) k9) ?_
    refine gp_n 1 (j' := 29) (lv' := [some (.ref 70), some (.int 3), some (.int 2)]) (st' := [.ref 70, .int (bA F t (b + 2))]) (h' := (shT, fi, fl, fr)) rfl ?_
    refine gp_of (fun _ k9 => g_getR (q' := 72) rfl rfl (by decide) k4 k9) ?_
    refine gp_n 5 (j' := 35) (lv' := [some (.ref 70), some (.int 3), some (.int 2)]) (st' := [.int 17, .ref 72, .int (bA F t (b + 2))]) (h' := (shT, fi, fl, fr)) rfl ?_
    refine gp_of (fun _ k9 => g_bald (k := 17) (x := 101) rfl rfl (by decide) (rfl) (by decide) (by decide) (w2) k9) ?_
    refine gp_of (fun _ k9 => g_icf rfl (show ¬ (¬ (bA F t (b + 2)) = (101 : Int32)) from fun z => z (q2.mpr c2)) k9) ?_
    refine gp_n 4 (j' := 12) (lv' := [some (.ref 70), some (.int 3), some (.int 3)]) (st' := [.int 5, .int 3]) (h' := (shT, fi, fl, fr)) rfl ?_
    refine gp_of (fun _ k9 => g_icf rfl (show ¬ ((5 : Int32) ≤ (3 : Int32)) from by decide) k9) ?_
    refine gp_n 1 (j' := 14) (lv' := [some (.ref 70), some (.int 3), some (.int 3)]) (st' := [.ref 70]) (h' := (shT, fi, fl, fr)) rfl ?_
    refine gp_of (fun _ k9 => g_getR (q' := 72) rfl rfl (by decide) k4 k9) ?_
    refine gp_n 5 (j' := 20) (lv' := [some (.ref 70), some (.int 3), some (.int 3)]) (st' := [.int 18, .ref 72]) (h' := (shT, fi, fl, fr)) rfl ?_
    refine gp_of (fun _ k9 => g_bald (k := 18) (x := 99) rfl rfl (by decide) (rfl) (by decide) (by decide) (w3) k9) ?_
    refine gp_of (fun _ k9 => g_iff rfl (show ¬ ((99 : Int32) = (0 : Int32)) from by decide) k9) ?_
    refine gp_n 2 (j' := 24) (lv' := [some (.ref 70), some (.int 3), some (.int 3)]) (st' := [.ref 70, .ref 70]) (h' := (shT, fi, fl, fr)) rfl ?_
    refine gp_of (fun _ k9 => g_getI (x := nI b) rfl (Or.inl rfl) rfl (by decide) (e2) k9) ?_
    refine gp_n 2 (j' := 27) (lv' := [some (.ref 70), some (.int 3), some (.int 3)]) (st' := [.int ((nI b) + 3), .ref 70]) (h' := (shT, fi, fl, fr)) rfl ?_
    rw [show nI b + 3 = nI (b + 3) from nI_add b 3]
    refine gp_of (fun _ k9 => g_call (y := 154) (as := [.ref 70, .int (nI (b + 3))]) (st' := []) rfl rfl (b3) k9) ?_
    refine gp_n 1 (j' := 29) (lv' := [some (.ref 70), some (.int 3), some (.int 3)]) (st' := [.ref 70, .int (bA F t (b + 3))]) (h' := (shT, fi, fl, fr)) rfl ?_
    refine gp_of (fun _ k9 => g_getR (q' := 72) rfl rfl (by decide) k4 k9) ?_
    refine gp_n 5 (j' := 35) (lv' := [some (.ref 70), some (.int 3), some (.int 3)]) (st' := [.int 18, .ref 72, .int (bA F t (b + 3))]) (h' := (shT, fi, fl, fr)) rfl ?_
    refine gp_of (fun _ k9 => g_bald (k := 18) (x := 99) rfl rfl (by decide) (rfl) (by decide) (by decide) (w3) k9) ?_
    refine gp_of (fun _ k9 => g_icf rfl (show ¬ (¬ (bA F t (b + 3)) = (99 : Int32)) from fun z => z (q3.mpr c3)) k9) ?_
    refine gp_n 4 (j' := 12) (lv' := [some (.ref 70), some (.int 3), some (.int 4)]) (st' := [.int 5, .int 4]) (h' := (shT, fi, fl, fr)) rfl ?_
    refine gp_of (fun _ k9 => g_icf rfl (show ¬ ((5 : Int32) ≤ (4 : Int32)) from by decide) k9) ?_
    refine gp_n 1 (j' := 14) (lv' := [some (.ref 70), some (.int 3), some (.int 4)]) (st' := [.ref 70]) (h' := (shT, fi, fl, fr)) rfl ?_
    refine gp_of (fun _ k9 => g_getR (q' := 72) rfl rfl (by decide) k4 k9) ?_
    refine gp_n 5 (j' := 20) (lv' := [some (.ref 70), some (.int 3), some (.int 4)]) (st' := [.int 19, .ref 72]) (h' := (shT, fi, fl, fr)) rfl ?_
    refine gp_of (fun _ k9 => g_bald (k := 19) (x := 107) rfl rfl (by decide) (rfl) (by decide) (by decide) (w4) k9) ?_
    refine gp_of (fun _ k9 => g_iff rfl (show ¬ ((107 : Int32) = (0 : Int32)) from by decide) k9) ?_
    refine gp_n 2 (j' := 24) (lv' := [some (.ref 70), some (.int 3), some (.int 4)]) (st' := [.ref 70, .ref 70]) (h' := (shT, fi, fl, fr)) rfl ?_
    refine gp_of (fun _ k9 => g_getI (x := nI b) rfl (Or.inl rfl) rfl (by decide) (e2) k9) ?_
    refine gp_n 2 (j' := 27) (lv' := [some (.ref 70), some (.int 3), some (.int 4)]) (st' := [.int ((nI b) + 4), .ref 70]) (h' := (shT, fi, fl, fr)) rfl ?_
    rw [show nI b + 4 = nI (b + 4) from nI_add b 4]
    refine gp_of (fun _ k9 => g_call (y := 154) (as := [.ref 70, .int (nI (b + 4))]) (st' := []) rfl rfl (b4) k9) ?_
    refine gp_n 1 (j' := 29) (lv' := [some (.ref 70), some (.int 3), some (.int 4)]) (st' := [.ref 70, .int (bA F t (b + 4))]) (h' := (shT, fi, fl, fr)) rfl ?_
    refine gp_of (fun _ k9 => g_getR (q' := 72) rfl rfl (by decide) k4 k9) ?_
    refine gp_n 5 (j' := 35) (lv' := [some (.ref 70), some (.int 3), some (.int 4)]) (st' := [.int 19, .ref 72, .int (bA F t (b + 4))]) (h' := (shT, fi, fl, fr)) rfl ?_
    refine gp_of (fun _ k9 => g_bald (k := 19) (x := 107) rfl rfl (by decide) (rfl) (by decide) (by decide) (w4) k9) ?_
    refine gp_of (fun _ k9 => g_icf rfl (show ¬ (¬ (bA F t (b + 4)) = (107 : Int32)) from fun z => z (q4.mpr c4)) k9) ?_
    refine gp_n 4 (j' := 12) (lv' := [some (.ref 70), some (.int 3), some (.int 5)]) (st' := [.int 5, .int 5]) (h' := (shT, fi, fl, fr)) rfl ?_
    refine gp_of (fun _ k9 => g_ict rfl (show (5 : Int32) ≤ (5 : Int32) from by decide) k9) ?_
    refine gp_n 2 (j' := 41) (lv' := [some (.ref 70), some (.int 3), some (.int 5)]) (st' := [.int 5, .int 5]) (h' := (shT, fi, fl, fr)) rfl ?_
    refine gp_of (fun _ k9 => g_ict rfl (show (5 : Int32) = (5 : Int32) from by decide) k9) ?_
    refine gp_n 2 (j' := 53) (lv' := [some (.ref 70), some (.int 3), some (.int 5)]) (st' := [.ref 70, .ref 70]) (h' := (shT, fi, fl, fr)) rfl ?_
    refine gp_of (fun _ k9 => g_getI (x := nI b) rfl (Or.inl rfl) rfl (by decide) (e2) k9) ?_
    refine gp_n 2 (j' := 56) (lv' := [some (.ref 70), some (.int 3), some (.int 5)]) (st' := [.int ((nI b) + 5), .ref 70]) (h' := (shT, fi, fl, fr)) rfl ?_
    rw [show nI b + 5 = nI (b + 5) from nI_add b 5]
    refine gp_of (fun _ k9 => g_call (y := 154) (as := [.ref 70, .int (nI (b + 5))]) (st' := []) rfl rfl (b5) k9) ?_
    refine gp_of (fun _ k9 => g_call (y := 155) (as := [.int (bA F t (b + 5))]) (st' := []) rfl rfl (l1) k9) ?_
    refine gp_of (fun _ k9 => g_ift rfl (show ¬ (1 : Int32) = (0 : Int32) from by decide) k9) ?_
    refine gp_n 2 (j' := 5) (lv' := [some (.ref 70), some (.int 4), some (.int 5)]) (st' := []) (h' := (shT, fi, fl, fr)) rfl ?_
    exact k2
  · have k1 := k1 (by simp only [mt]; rw [if_pos (show b + 0 < t ∧ F (b + 0) = (wd 3).getD 0 0 from c0)]; rw [if_pos (show b + 1 < t ∧ F (b + 1) = (wd 3).getD 1 0 from c1)]; rw [if_pos (show b + 2 < t ∧ F (b + 2) = (wd 3).getD 2 0 from c2)]; rw [if_pos (show b + 3 < t ∧ F (b + 3) = (wd 3).getD 3 0 from c3)]; rw [if_pos (show b + 4 < t ∧ F (b + 4) = (wd 3).getD 4 0 from c4)]; cases d1 : decide (b + 5 < t); rfl; cases d2 : cL (F (b + 5)); rfl; exact absurd ⟨of_decide_eq_true d1, d2⟩ cz)
    have l0 := l0 (fun z => cz (qL.mp z))
    refine gp_n 2 (j' := 7) (lv' := [some (.ref 70), some (.int 3), l]) (st' := [.int 6, .int 3]) (h' := (shT, fi, fl, fr)) rfl ?_
    refine gp_of (fun _ k9 => g_icf rfl (show ¬ ((6 : Int32) ≤ (3 : Int32)) from by decide) k9) ?_
    refine gp_n 4 (j' := 12) (lv' := [some (.ref 70), some (.int 3), some (.int 0)]) (st' := [.int 5, .int 0]) (h' := (shT, fi, fl, fr)) rfl ?_
    refine gp_of (fun _ k9 => g_icf rfl (show ¬ ((5 : Int32) ≤ (0 : Int32)) from by decide) k9) ?_
    refine gp_n 1 (j' := 14) (lv' := [some (.ref 70), some (.int 3), some (.int 0)]) (st' := [.ref 70]) (h' := (shT, fi, fl, fr)) rfl ?_
    refine gp_of (fun _ k9 => g_getR (q' := 72) rfl rfl (by decide) k4 k9) ?_
    refine gp_n 5 (j' := 20) (lv' := [some (.ref 70), some (.int 3), some (.int 0)]) (st' := [.int 15, .ref 72]) (h' := (shT, fi, fl, fr)) rfl ?_
    refine gp_of (fun _ k9 => g_bald (k := 15) (x := 99) rfl rfl (by decide) (rfl) (by decide) (by decide) (w0) k9) ?_
    refine gp_of (fun _ k9 => g_iff rfl (show ¬ ((99 : Int32) = (0 : Int32)) from by decide) k9) ?_
    refine gp_n 2 (j' := 24) (lv' := [some (.ref 70), some (.int 3), some (.int 0)]) (st' := [.ref 70, .ref 70]) (h' := (shT, fi, fl, fr)) rfl ?_
    refine gp_of (fun _ k9 => g_getI (x := nI b) rfl (Or.inl rfl) rfl (by decide) (e2) k9) ?_
    refine gp_n 2 (j' := 27) (lv' := [some (.ref 70), some (.int 3), some (.int 0)]) (st' := [.int ((nI b) + 0), .ref 70]) (h' := (shT, fi, fl, fr)) rfl ?_
    rw [show nI b + 0 = nI (b + 0) from nI_add b 0]
    refine gp_of (fun _ k9 => g_call (y := 154) (as := [.ref 70, .int (nI (b + 0))]) (st' := []) rfl rfl (b0) k9) ?_
    refine gp_n 1 (j' := 29) (lv' := [some (.ref 70), some (.int 3), some (.int 0)]) (st' := [.ref 70, .int (bA F t (b + 0))]) (h' := (shT, fi, fl, fr)) rfl ?_
    refine gp_of (fun _ k9 => g_getR (q' := 72) rfl rfl (by decide) k4 k9) ?_
    refine gp_n 5 (j' := 35) (lv' := [some (.ref 70), some (.int 3), some (.int 0)]) (st' := [.int 15, .ref 72, .int (bA F t (b + 0))]) (h' := (shT, fi, fl, fr)) rfl ?_
    refine gp_of (fun _ k9 => g_bald (k := 15) (x := 99) rfl rfl (by decide) (rfl) (by decide) (by decide) (w0) k9) ?_
    refine gp_of (fun _ k9 => g_icf rfl (show ¬ (¬ (bA F t (b + 0)) = (99 : Int32)) from fun z => z (q0.mpr c0)) k9) ?_
    refine gp_n 4 (j' := 12) (lv' := [some (.ref 70), some (.int 3), some (.int 1)]) (st' := [.int 5, .int 1]) (h' := (shT, fi, fl, fr)) rfl ?_
    refine gp_of (fun _ k9 => g_icf rfl (show ¬ ((5 : Int32) ≤ (1 : Int32)) from by decide) k9) ?_
    refine gp_n 1 (j' := 14) (lv' := [some (.ref 70), some (.int 3), some (.int 1)]) (st' := [.ref 70]) (h' := (shT, fi, fl, fr)) rfl ?_
    refine gp_of (fun _ k9 => g_getR (q' := 72) rfl rfl (by decide) k4 k9) ?_
    refine gp_n 5 (j' := 20) (lv' := [some (.ref 70), some (.int 3), some (.int 1)]) (st' := [.int 16, .ref 72]) (h' := (shT, fi, fl, fr)) rfl ?_
    refine gp_of (fun _ k9 => g_bald (k := 16) (x := 104) rfl rfl (by decide) (rfl) (by decide) (by decide) (w1) k9) ?_
    refine gp_of (fun _ k9 => g_iff rfl (show ¬ ((104 : Int32) = (0 : Int32)) from by decide) k9) ?_
    refine gp_n 2 (j' := 24) (lv' := [some (.ref 70), some (.int 3), some (.int 1)]) (st' := [.ref 70, .ref 70]) (h' := (shT, fi, fl, fr)) rfl ?_
    refine gp_of (fun _ k9 => g_getI (x := nI b) rfl (Or.inl rfl) rfl (by decide) (e2) k9) ?_
    refine gp_n 2 (j' := 27) (lv' := [some (.ref 70), some (.int 3), some (.int 1)]) (st' := [.int ((nI b) + 1), .ref 70]) (h' := (shT, fi, fl, fr)) rfl ?_
    rw [show nI b + 1 = nI (b + 1) from nI_add b 1]
    refine gp_of (fun _ k9 => g_call (y := 154) (as := [.ref 70, .int (nI (b + 1))]) (st' := []) rfl rfl (b1) k9) ?_
    refine gp_n 1 (j' := 29) (lv' := [some (.ref 70), some (.int 3), some (.int 1)]) (st' := [.ref 70, .int (bA F t (b + 1))]) (h' := (shT, fi, fl, fr)) rfl ?_
    refine gp_of (fun _ k9 => g_getR (q' := 72) rfl rfl (by decide) k4 k9) ?_
    refine gp_n 5 (j' := 35) (lv' := [some (.ref 70), some (.int 3), some (.int 1)]) (st' := [.int 16, .ref 72, .int (bA F t (b + 1))]) (h' := (shT, fi, fl, fr)) rfl ?_
    refine gp_of (fun _ k9 => g_bald (k := 16) (x := 104) rfl rfl (by decide) (rfl) (by decide) (by decide) (w1) k9) ?_
    refine gp_of (fun _ k9 => g_icf rfl (show ¬ (¬ (bA F t (b + 1)) = (104 : Int32)) from fun z => z (q1.mpr c1)) k9) ?_
    refine gp_n 4 (j' := 12) (lv' := [some (.ref 70), some (.int 3), some (.int 2)]) (st' := [.int 5, .int 2]) (h' := (shT, fi, fl, fr)) rfl ?_
    refine gp_of (fun _ k9 => g_icf rfl (show ¬ ((5 : Int32) ≤ (2 : Int32)) from by decide) k9) ?_
    refine gp_n 1 (j' := 14) (lv' := [some (.ref 70), some (.int 3), some (.int 2)]) (st' := [.ref 70]) (h' := (shT, fi, fl, fr)) rfl ?_
    refine gp_of (fun _ k9 => g_getR (q' := 72) rfl rfl (by decide) k4 k9) ?_
    refine gp_n 5 (j' := 20) (lv' := [some (.ref 70), some (.int 3), some (.int 2)]) (st' := [.int 17, .ref 72]) (h' := (shT, fi, fl, fr)) rfl ?_
    refine gp_of (fun _ k9 => g_bald (k := 17) (x := 101) rfl rfl (by decide) (rfl) (by decide) (by decide) (w2) k9) ?_
    refine gp_of (fun _ k9 => g_iff rfl (show ¬ ((101 : Int32) = (0 : Int32)) from by decide) k9) ?_
    refine gp_n 2 (j' := 24) (lv' := [some (.ref 70), some (.int 3), some (.int 2)]) (st' := [.ref 70, .ref 70]) (h' := (shT, fi, fl, fr)) rfl ?_
    refine gp_of (fun _ k9 => g_getI (x := nI b) rfl (Or.inl rfl) rfl (by decide) (e2) k9) ?_
    refine gp_n 2 (j' := 27) (lv' := [some (.ref 70), some (.int 3), some (.int 2)]) (st' := [.int ((nI b) + 2), .ref 70]) (h' := (shT, fi, fl, fr)) rfl ?_
    rw [show nI b + 2 = nI (b + 2) from nI_add b 2]
    refine gp_of (fun _ k9 => g_call (y := 154) (as := [.ref 70, .int (nI (b + 2))]) (st' := []) rfl rfl (b2) k9) ?_
    refine gp_n 1 (j' := 29) (lv' := [some (.ref 70), some (.int 3), some (.int 2)]) (st' := [.ref 70, .int (bA F t (b + 2))]) (h' := (shT, fi, fl, fr)) rfl ?_
    refine gp_of (fun _ k9 => g_getR (q' := 72) rfl rfl (by decide) k4 k9) ?_
    refine gp_n 5 (j' := 35) (lv' := [some (.ref 70), some (.int 3), some (.int 2)]) (st' := [.int 17, .ref 72, .int (bA F t (b + 2))]) (h' := (shT, fi, fl, fr)) rfl ?_
    refine gp_of (fun _ k9 => g_bald (k := 17) (x := 101) rfl rfl (by decide) (rfl) (by decide) (by decide) (w2) k9) ?_
    refine gp_of (fun _ k9 => g_icf rfl (show ¬ (¬ (bA F t (b + 2)) = (101 : Int32)) from fun z => z (q2.mpr c2)) k9) ?_
    refine gp_n 4 (j' := 12) (lv' := [some (.ref 70), some (.int 3), some (.int 3)]) (st' := [.int 5, .int 3]) (h' := (shT, fi, fl, fr)) rfl ?_
    refine gp_of (fun _ k9 => g_icf rfl (show ¬ ((5 : Int32) ≤ (3 : Int32)) from by decide) k9) ?_
    refine gp_n 1 (j' := 14) (lv' := [some (.ref 70), some (.int 3), some (.int 3)]) (st' := [.ref 70]) (h' := (shT, fi, fl, fr)) rfl ?_
    refine gp_of (fun _ k9 => g_getR (q' := 72) rfl rfl (by decide) k4 k9) ?_
    refine gp_n 5 (j' := 20) (lv' := [some (.ref 70), some (.int 3), some (.int 3)]) (st' := [.int 18, .ref 72]) (h' := (shT, fi, fl, fr)) rfl ?_
    refine gp_of (fun _ k9 => g_bald (k := 18) (x := 99) rfl rfl (by decide) (rfl) (by decide) (by decide) (w3) k9) ?_
    refine gp_of (fun _ k9 => g_iff rfl (show ¬ ((99 : Int32) = (0 : Int32)) from by decide) k9) ?_
    refine gp_n 2 (j' := 24) (lv' := [some (.ref 70), some (.int 3), some (.int 3)]) (st' := [.ref 70, .ref 70]) (h' := (shT, fi, fl, fr)) rfl ?_
    refine gp_of (fun _ k9 => g_getI (x := nI b) rfl (Or.inl rfl) rfl (by decide) (e2) k9) ?_
    refine gp_n 2 (j' := 27) (lv' := [some (.ref 70), some (.int 3), some (.int 3)]) (st' := [.int ((nI b) + 3), .ref 70]) (h' := (shT, fi, fl, fr)) rfl ?_
    rw [show nI b + 3 = nI (b + 3) from nI_add b 3]
    refine gp_of (fun _ k9 => g_call (y := 154) (as := [.ref 70, .int (nI (b + 3))]) (st' := []) rfl rfl (b3) k9) ?_
    refine gp_n 1 (j' := 29) (lv' := [some (.ref 70), some (.int 3), some (.int 3)]) (st' := [.ref 70, .int (bA F t (b + 3))]) (h' := (shT, fi, fl, fr)) rfl ?_
    refine gp_of (fun _ k9 => g_getR (q' := 72) rfl rfl (by decide) k4 k9) ?_
    refine gp_n 5 (j' := 35) (lv' := [some (.ref 70), some (.int 3), some (.int 3)]) (st' := [.int 18, .ref 72, .int (bA F t (b + 3))]) (h' := (shT, fi, fl, fr)) rfl ?_
    refine gp_of (fun _ k9 => g_bald (k := 18) (x := 99) rfl rfl (by decide) (rfl) (by decide) (by decide) (w3) k9) ?_
    refine gp_of (fun _ k9 => g_icf rfl (show ¬ (¬ (bA F t (b + 3)) = (99 : Int32)) from fun z => z (q3.mpr c3)) k9) ?_
    refine gp_n 4 (j' := 12) (lv' := [some (.ref 70), some (.int 3), some (.int 4)]) (st' := [.int 5, .int 4]) (h' := (shT, fi, fl, fr)) rfl ?_
    refine gp_of (fun _ k9 => g_icf rfl (show ¬ ((5 : Int32) ≤ (4 : Int32)) from by decide) k9) ?_
    refine gp_n 1 (j' := 14) (lv' := [some (.ref 70), some (.int 3), some (.int 4)]) (st' := [.ref 70]) (h' := (shT, fi, fl, fr)) rfl ?_
    refine gp_of (fun _ k9 => g_getR (q' := 72) rfl rfl (by decide) k4 k9) ?_
    refine gp_n 5 (j' := 20) (lv' := [some (.ref 70), some (.int 3), some (.int 4)]) (st' := [.int 19, .ref 72]) (h' := (shT, fi, fl, fr)) rfl ?_
    refine gp_of (fun _ k9 => g_bald (k := 19) (x := 107) rfl rfl (by decide) (rfl) (by decide) (by decide) (w4) k9) ?_
    refine gp_of (fun _ k9 => g_iff rfl (show ¬ ((107 : Int32) = (0 : Int32)) from by decide) k9) ?_
    refine gp_n 2 (j' := 24) (lv' := [some (.ref 70), some (.int 3), some (.int 4)]) (st' := [.ref 70, .ref 70]) (h' := (shT, fi, fl, fr)) rfl ?_
    refine gp_of (fun _ k9 => g_getI (x := nI b) rfl (Or.inl rfl) rfl (by decide) (e2) k9) ?_
    refine gp_n 2 (j' := 27) (lv' := [some (.ref 70), some (.int 3), some (.int 4)]) (st' := [.int ((nI b) + 4), .ref 70]) (h' := (shT, fi, fl, fr)) rfl ?_
    rw [show nI b + 4 = nI (b + 4) from nI_add b 4]
    refine gp_of (fun _ k9 => g_call (y := 154) (as := [.ref 70, .int (nI (b + 4))]) (st' := []) rfl rfl (b4) k9) ?_
    refine gp_n 1 (j' := 29) (lv' := [some (.ref 70), some (.int 3), some (.int 4)]) (st' := [.ref 70, .int (bA F t (b + 4))]) (h' := (shT, fi, fl, fr)) rfl ?_
    refine gp_of (fun _ k9 => g_getR (q' := 72) rfl rfl (by decide) k4 k9) ?_
    refine gp_n 5 (j' := 35) (lv' := [some (.ref 70), some (.int 3), some (.int 4)]) (st' := [.int 19, .ref 72, .int (bA F t (b + 4))]) (h' := (shT, fi, fl, fr)) rfl ?_
    refine gp_of (fun _ k9 => g_bald (k := 19) (x := 107) rfl rfl (by decide) (rfl) (by decide) (by decide) (w4) k9) ?_
    refine gp_of (fun _ k9 => g_icf rfl (show ¬ (¬ (bA F t (b + 4)) = (107 : Int32)) from fun z => z (q4.mpr c4)) k9) ?_
    refine gp_n 4 (j' := 12) (lv' := [some (.ref 70), some (.int 3), some (.int 5)]) (st' := [.int 5, .int 5]) (h' := (shT, fi, fl, fr)) rfl ?_
    refine gp_of (fun _ k9 => g_ict rfl (show (5 : Int32) ≤ (5 : Int32) from by decide) k9) ?_
    refine gp_n 2 (j' := 41) (lv' := [some (.ref 70), some (.int 3), some (.int 5)]) (st' := [.int 5, .int 5]) (h' := (shT, fi, fl, fr)) rfl ?_
    refine gp_of (fun _ k9 => g_ict rfl (show (5 : Int32) = (5 : Int32) from by decide) k9) ?_
    refine gp_n 2 (j' := 53) (lv' := [some (.ref 70), some (.int 3), some (.int 5)]) (st' := [.ref 70, .ref 70]) (h' := (shT, fi, fl, fr)) rfl ?_
    refine gp_of (fun _ k9 => g_getI (x := nI b) rfl (Or.inl rfl) rfl (by decide) (e2) k9) ?_
    refine gp_n 2 (j' := 56) (lv' := [some (.ref 70), some (.int 3), some (.int 5)]) (st' := [.int ((nI b) + 5), .ref 70]) (h' := (shT, fi, fl, fr)) rfl ?_
    rw [show nI b + 5 = nI (b + 5) from nI_add b 5]
    refine gp_of (fun _ k9 => g_call (y := 154) (as := [.ref 70, .int (nI (b + 5))]) (st' := []) rfl rfl (b5) k9) ?_
    refine gp_of (fun _ k9 => g_call (y := 155) (as := [.int (bA F t (b + 5))]) (st' := []) rfl rfl (l0) k9) ?_
    refine gp_of (fun _ k9 => g_iff rfl (show ¬ (¬ (0 : Int32) = (0 : Int32)) from by decide) k9) ?_
    refine gp_n 1 (j' := 60) (lv' := [some (.ref 70), some (.int 3), some (.int 5)]) (st' := [.int 3]) (h' := (shT, fi, fl, fr)) rfl ?_
    refine gp_done (g_ret rfl) ?_
    exact k1
theorem wh_4 {F : Nat → Int32} {t b : Nat} {h : PmH} {l : Option Value} {Q : Option Value × PmH → Prop} (ht : t ≤ 200) (hF : ∀ s, byR (F s)) (hb : b ≤ t) (hP : mp_P F t b h) (k1 : mt F t b (wd 4) 5 0 = true → Q (some (.int 4), h)) (k2 : mt F t b (wd 4) 5 0 = false → ∀ l', GoP pmT none cd_152 5 [some (.ref 70), some (.int 5), l'] [] h Q) : GoP pmT none cd_152 5 [some (.ref 70), some (.int 4), l] [] h Q := by
  have k4 : ph_r h 70 4 = some 72 := hi_r hP.1 rfl rfl (by decide)
  have e2 := hP.2.2.1
  have w0 : ph_i h 72 20 = 101 := hP.2.2.2.2 20 (by decide)
  have w1 : ph_i h 72 21 = 114 := hP.2.2.2.2 21 (by decide)
  have w2 : ph_i h 72 22 = 97 := hP.2.2.2.2 22 (by decide)
  have w3 : ph_i h 72 23 = 115 := hP.2.2.2.2 23 (by decide)
  have w4 : ph_i h 72 24 = 101 := hP.2.2.2.2 24 (by decide)
  have b0 := ba_ev (k := b + 0) ht (by omega) hP
  have b1 := ba_ev (k := b + 1) ht (by omega) hP
  have b2 := ba_ev (k := b + 2) ht (by omega) hP
  have b3 := ba_ev (k := b + 3) ht (by omega) hP
  have b4 := ba_ev (k := b + 4) ht (by omega) hP
  have b5 := ba_ev (k := b + 5) ht (by omega) hP
  have hI := hP.1
  have q0 : bA F t (b + 0) = 101 ↔ (b + 0 < t ∧ F (b + 0) = 101) := bA_eq hF (by decide) (by decide)
  have q1 : bA F t (b + 1) = 114 ↔ (b + 1 < t ∧ F (b + 1) = 114) := bA_eq hF (by decide) (by decide)
  have q2 : bA F t (b + 2) = 97 ↔ (b + 2 < t ∧ F (b + 2) = 97) := bA_eq hF (by decide) (by decide)
  have q3 : bA F t (b + 3) = 115 ↔ (b + 3 < t ∧ F (b + 3) = 115) := bA_eq hF (by decide) (by decide)
  have q4 : bA F t (b + 4) = 101 ↔ (b + 4 < t ∧ F (b + 4) = 101) := bA_eq hF (by decide) (by decide)
  have qL : (97 ≤ bA F t (b + 5) ∧ bA F t (b + 5) ≤ 122) ↔ (b + 5 < t ∧ cL (F (b + 5)) = true) := bA_L hF
  have l1 := isL1 (x := bA F t (b + 5)) hI
  have l0 := isL0 (x := bA F t (b + 5)) hI
  clear hP
  obtain ⟨S, fi, fl, fr⟩ := h
  have hS : S = shT := hI.1
  subst hS
  have k4 : fr 70 4 = some 72 := k4
  have e2 : fi 70 2 = nI b := e2
  have w0 : fi 72 20 = 101 := w0
  have w1 : fi 72 21 = 114 := w1
  have w2 : fi 72 22 = 97 := w2
  have w3 : fi 72 23 = 115 := w3
  have w4 : fi 72 24 = 101 := w4
  by_cases c0 : b + 0 < t ∧ F (b + 0) = 101
  rotate_left
  · have k2 := k2 (by simp only [mt]; rw [if_neg (show ¬ (b + 0 < t ∧ F (b + 0) = (wd 4).getD 0 0) from c0)]) (some (.int 0))
    refine gp_n 2 (j' := 7) (lv' := [some (.ref 70), some (.int 4), l]) (st' := [.int 6, .int 4]) (h' := (shT, fi, fl, fr)) rfl ?_
    refine gp_of (fun _ k9 => g_icf rfl (show ¬ ((6 : Int32) ≤ (4 : Int32)) from by decide) k9) ?_
    refine gp_n 4 (j' := 12) (lv' := [some (.ref 70), some (.int 4), some (.int 0)]) (st' := [.int 5, .int 0]) (h' := (shT, fi, fl, fr)) rfl ?_
    refine gp_of (fun _ k9 => g_icf rfl (show ¬ ((5 : Int32) ≤ (0 : Int32)) from by decide) k9) ?_
    refine gp_n 1 (j' := 14) (lv' := [some (.ref 70), some (.int 4), some (.int 0)]) (st' := [.ref 70]) (h' := (shT, fi, fl, fr)) rfl ?_
    refine gp_of (fun _ k9 => g_getR (q' := 72) rfl rfl (by decide) k4 k9) ?_
    refine gp_n 5 (j' := 20) (lv' := [some (.ref 70), some (.int 4), some (.int 0)]) (st' := [.int 20, .ref 72]) (h' := (shT, fi, fl, fr)) rfl ?_
    refine gp_of (fun _ k9 => g_bald (k := 20) (x := 101) rfl rfl (by decide) (rfl) (by decide) (by decide) (w0) k9) ?_
    refine gp_of (fun _ k9 => g_iff rfl (show ¬ ((101 : Int32) = (0 : Int32)) from by decide) k9) ?_
    refine gp_n 2 (j' := 24) (lv' := [some (.ref 70), some (.int 4), some (.int 0)]) (st' := [.ref 70, .ref 70]) (h' := (shT, fi, fl, fr)) rfl ?_
    refine gp_of (fun _ k9 => g_getI (x := nI b) rfl (Or.inl rfl) rfl (by decide) (e2) k9) ?_
    refine gp_n 2 (j' := 27) (lv' := [some (.ref 70), some (.int 4), some (.int 0)]) (st' := [.int ((nI b) + 0), .ref 70]) (h' := (shT, fi, fl, fr)) rfl ?_
    rw [show nI b + 0 = nI (b + 0) from nI_add b 0]
    refine gp_of (fun _ k9 => g_call (y := 154) (as := [.ref 70, .int (nI (b + 0))]) (st' := []) rfl rfl (b0) k9) ?_
    refine gp_n 1 (j' := 29) (lv' := [some (.ref 70), some (.int 4), some (.int 0)]) (st' := [.ref 70, .int (bA F t (b + 0))]) (h' := (shT, fi, fl, fr)) rfl ?_
    refine gp_of (fun _ k9 => g_getR (q' := 72) rfl rfl (by decide) k4 k9) ?_
    refine gp_n 5 (j' := 35) (lv' := [some (.ref 70), some (.int 4), some (.int 0)]) (st' := [.int 20, .ref 72, .int (bA F t (b + 0))]) (h' := (shT, fi, fl, fr)) rfl ?_
    refine gp_of (fun _ k9 => g_bald (k := 20) (x := 101) rfl rfl (by decide) (rfl) (by decide) (by decide) (w0) k9) ?_
    refine gp_of (fun _ k9 => g_ict rfl (show ¬ (bA F t (b + 0)) = (101 : Int32) from fun z => c0 (q0.mp z)) k9) ?_
    refine gp_n 2 (j' := 41) (lv' := [some (.ref 70), some (.int 4), some (.int 0)]) (st' := [.int 5, .int 0]) (h' := (shT, fi, fl, fr)) rfl ?_
    refine gp_of (fun _ k9 => g_icf rfl (show ¬ ((0 : Int32) = (5 : Int32)) from by decide) k9) ?_
    refine gp_n 1 (j' := 43) (lv' := [some (.ref 70), some (.int 4), some (.int 0)]) (st' := [.ref 70]) (h' := (shT, fi, fl, fr)) rfl ?_
    refine gp_of (fun _ k9 => g_getR (q' := 72) rfl rfl (by decide) k4 k9) ?_
    refine gp_n 5 (j' := 49) (lv' := [some (.ref 70), some (.int 4), some (.int 0)]) (st' := [.int 20, .ref 72]) (h' := (shT, fi, fl, fr)) rfl ?_
    refine gp_of (fun _ k9 => g_bald (k := 20) (x := 101) rfl rfl (by decide) (rfl) (by decide) (by decide) (w0) k9) ?_
    refine gp_of (fun _ k9 => g_ift rfl (show ¬ (101 : Int32) = (0 : Int32) from by decide) k9) ?_
    refine gp_n 2 (j' := 5) (lv' := [some (.ref 70), some (.int 5), some (.int 0)]) (st' := []) (h' := (shT, fi, fl, fr)) rfl ?_
    exact k2
  by_cases c1 : b + 1 < t ∧ F (b + 1) = 114
  rotate_left
  · have k2 := k2 (by simp only [mt]; rw [if_pos (show b + 0 < t ∧ F (b + 0) = (wd 4).getD 0 0 from c0)]; rw [if_neg (show ¬ (b + 1 < t ∧ F (b + 1) = (wd 4).getD 1 0) from c1)]) (some (.int 1))
    refine gp_n 2 (j' := 7) (lv' := [some (.ref 70), some (.int 4), l]) (st' := [.int 6, .int 4]) (h' := (shT, fi, fl, fr)) rfl ?_
    refine gp_of (fun _ k9 => g_icf rfl (show ¬ ((6 : Int32) ≤ (4 : Int32)) from by decide) k9) ?_
    refine gp_n 4 (j' := 12) (lv' := [some (.ref 70), some (.int 4), some (.int 0)]) (st' := [.int 5, .int 0]) (h' := (shT, fi, fl, fr)) rfl ?_
    refine gp_of (fun _ k9 => g_icf rfl (show ¬ ((5 : Int32) ≤ (0 : Int32)) from by decide) k9) ?_
    refine gp_n 1 (j' := 14) (lv' := [some (.ref 70), some (.int 4), some (.int 0)]) (st' := [.ref 70]) (h' := (shT, fi, fl, fr)) rfl ?_
    refine gp_of (fun _ k9 => g_getR (q' := 72) rfl rfl (by decide) k4 k9) ?_
    refine gp_n 5 (j' := 20) (lv' := [some (.ref 70), some (.int 4), some (.int 0)]) (st' := [.int 20, .ref 72]) (h' := (shT, fi, fl, fr)) rfl ?_
    refine gp_of (fun _ k9 => g_bald (k := 20) (x := 101) rfl rfl (by decide) (rfl) (by decide) (by decide) (w0) k9) ?_
    refine gp_of (fun _ k9 => g_iff rfl (show ¬ ((101 : Int32) = (0 : Int32)) from by decide) k9) ?_
    refine gp_n 2 (j' := 24) (lv' := [some (.ref 70), some (.int 4), some (.int 0)]) (st' := [.ref 70, .ref 70]) (h' := (shT, fi, fl, fr)) rfl ?_
    refine gp_of (fun _ k9 => g_getI (x := nI b) rfl (Or.inl rfl) rfl (by decide) (e2) k9) ?_
    refine gp_n 2 (j' := 27) (lv' := [some (.ref 70), some (.int 4), some (.int 0)]) (st' := [.int ((nI b) + 0), .ref 70]) (h' := (shT, fi, fl, fr)) rfl ?_
    rw [show nI b + 0 = nI (b + 0) from nI_add b 0]
    refine gp_of (fun _ k9 => g_call (y := 154) (as := [.ref 70, .int (nI (b + 0))]) (st' := []) rfl rfl (b0) k9) ?_
    refine gp_n 1 (j' := 29) (lv' := [some (.ref 70), some (.int 4), some (.int 0)]) (st' := [.ref 70, .int (bA F t (b + 0))]) (h' := (shT, fi, fl, fr)) rfl ?_
    refine gp_of (fun _ k9 => g_getR (q' := 72) rfl rfl (by decide) k4 k9) ?_
    refine gp_n 5 (j' := 35) (lv' := [some (.ref 70), some (.int 4), some (.int 0)]) (st' := [.int 20, .ref 72, .int (bA F t (b + 0))]) (h' := (shT, fi, fl, fr)) rfl ?_
    refine gp_of (fun _ k9 => g_bald (k := 20) (x := 101) rfl rfl (by decide) (rfl) (by decide) (by decide) (w0) k9) ?_
    refine gp_of (fun _ k9 => g_icf rfl (show ¬ (¬ (bA F t (b + 0)) = (101 : Int32)) from fun z => z (q0.mpr c0)) k9) ?_
    refine gp_n 4 (j' := 12) (lv' := [some (.ref 70), some (.int 4), some (.int 1)]) (st' := [.int 5, .int 1]) (h' := (shT, fi, fl, fr)) rfl ?_
    refine gp_of (fun _ k9 => g_icf rfl (show ¬ ((5 : Int32) ≤ (1 : Int32)) from by decide) k9) ?_
    refine gp_n 1 (j' := 14) (lv' := [some (.ref 70), some (.int 4), some (.int 1)]) (st' := [.ref 70]) (h' := (shT, fi, fl, fr)) rfl ?_
    refine gp_of (fun _ k9 => g_getR (q' := 72) rfl rfl (by decide) k4 k9) ?_
    refine gp_n 5 (j' := 20) (lv' := [some (.ref 70), some (.int 4), some (.int 1)]) (st' := [.int 21, .ref 72]) (h' := (shT, fi, fl, fr)) rfl ?_
    refine gp_of (fun _ k9 => g_bald (k := 21) (x := 114) rfl rfl (by decide) (rfl) (by decide) (by decide) (w1) k9) ?_
    refine gp_of (fun _ k9 => g_iff rfl (show ¬ ((114 : Int32) = (0 : Int32)) from by decide) k9) ?_
    refine gp_n 2 (j' := 24) (lv' := [some (.ref 70), some (.int 4), some (.int 1)]) (st' := [.ref 70, .ref 70]) (h' := (shT, fi, fl, fr)) rfl ?_
    refine gp_of (fun _ k9 => g_getI (x := nI b) rfl (Or.inl rfl) rfl (by decide) (e2) k9) ?_
    refine gp_n 2 (j' := 27) (lv' := [some (.ref 70), some (.int 4), some (.int 1)]) (st' := [.int ((nI b) + 1), .ref 70]) (h' := (shT, fi, fl, fr)) rfl ?_
    rw [show nI b + 1 = nI (b + 1) from nI_add b 1]
    refine gp_of (fun _ k9 => g_call (y := 154) (as := [.ref 70, .int (nI (b + 1))]) (st' := []) rfl rfl (b1) k9) ?_
    refine gp_n 1 (j' := 29) (lv' := [some (.ref 70), some (.int 4), some (.int 1)]) (st' := [.ref 70, .int (bA F t (b + 1))]) (h' := (shT, fi, fl, fr)) rfl ?_
    refine gp_of (fun _ k9 => g_getR (q' := 72) rfl rfl (by decide) k4 k9) ?_
    refine gp_n 5 (j' := 35) (lv' := [some (.ref 70), some (.int 4), some (.int 1)]) (st' := [.int 21, .ref 72, .int (bA F t (b + 1))]) (h' := (shT, fi, fl, fr)) rfl ?_
    refine gp_of (fun _ k9 => g_bald (k := 21) (x := 114) rfl rfl (by decide) (rfl) (by decide) (by decide) (w1) k9) ?_
    refine gp_of (fun _ k9 => g_ict rfl (show ¬ (bA F t (b + 1)) = (114 : Int32) from fun z => c1 (q1.mp z)) k9) ?_
    refine gp_n 2 (j' := 41) (lv' := [some (.ref 70), some (.int 4), some (.int 1)]) (st' := [.int 5, .int 1]) (h' := (shT, fi, fl, fr)) rfl ?_
    refine gp_of (fun _ k9 => g_icf rfl (show ¬ ((1 : Int32) = (5 : Int32)) from by decide) k9) ?_
    refine gp_n 1 (j' := 43) (lv' := [some (.ref 70), some (.int 4), some (.int 1)]) (st' := [.ref 70]) (h' := (shT, fi, fl, fr)) rfl ?_
    refine gp_of (fun _ k9 => g_getR (q' := 72) rfl rfl (by decide) k4 k9) ?_
    refine gp_n 5 (j' := 49) (lv' := [some (.ref 70), some (.int 4), some (.int 1)]) (st' := [.int 21, .ref 72]) (h' := (shT, fi, fl, fr)) rfl ?_
    refine gp_of (fun _ k9 => g_bald (k := 21) (x := 114) rfl rfl (by decide) (rfl) (by decide) (by decide) (w1) k9) ?_
    refine gp_of (fun _ k9 => g_ift rfl (show ¬ (114 : Int32) = (0 : Int32) from by decide) k9) ?_
    refine gp_n 2 (j' := 5) (lv' := [some (.ref 70), some (.int 5), some (.int 1)]) (st' := []) (h' := (shT, fi, fl, fr)) rfl ?_
    exact k2
  by_cases c2 : b + 2 < t ∧ F (b + 2) = 97
  rotate_left
  · have k2 := k2 (by simp only [mt]; rw [if_pos (show b + 0 < t ∧ F (b + 0) = (wd 4).getD 0 0 from c0)]; rw [if_pos (show b + 1 < t ∧ F (b + 1) = (wd 4).getD 1 0 from c1)]; rw [if_neg (show ¬ (b + 2 < t ∧ F (b + 2) = (wd 4).getD 2 0) from c2)]) (some (.int 2))
    refine gp_n 2 (j' := 7) (lv' := [some (.ref 70), some (.int 4), l]) (st' := [.int 6, .int 4]) (h' := (shT, fi, fl, fr)) rfl ?_
    refine gp_of (fun _ k9 => g_icf rfl (show ¬ ((6 : Int32) ≤ (4 : Int32)) from by decide) k9) ?_
    refine gp_n 4 (j' := 12) (lv' := [some (.ref 70), some (.int 4), some (.int 0)]) (st' := [.int 5, .int 0]) (h' := (shT, fi, fl, fr)) rfl ?_
    refine gp_of (fun _ k9 => g_icf rfl (show ¬ ((5 : Int32) ≤ (0 : Int32)) from by decide) k9) ?_
    refine gp_n 1 (j' := 14) (lv' := [some (.ref 70), some (.int 4), some (.int 0)]) (st' := [.ref 70]) (h' := (shT, fi, fl, fr)) rfl ?_
    refine gp_of (fun _ k9 => g_getR (q' := 72) rfl rfl (by decide) k4 k9) ?_
    refine gp_n 5 (j' := 20) (lv' := [some (.ref 70), some (.int 4), some (.int 0)]) (st' := [.int 20, .ref 72]) (h' := (shT, fi, fl, fr)) rfl ?_
    refine gp_of (fun _ k9 => g_bald (k := 20) (x := 101) rfl rfl (by decide) (rfl) (by decide) (by decide) (w0) k9) ?_
    refine gp_of (fun _ k9 => g_iff rfl (show ¬ ((101 : Int32) = (0 : Int32)) from by decide) k9) ?_
    refine gp_n 2 (j' := 24) (lv' := [some (.ref 70), some (.int 4), some (.int 0)]) (st' := [.ref 70, .ref 70]) (h' := (shT, fi, fl, fr)) rfl ?_
    refine gp_of (fun _ k9 => g_getI (x := nI b) rfl (Or.inl rfl) rfl (by decide) (e2) k9) ?_
    refine gp_n 2 (j' := 27) (lv' := [some (.ref 70), some (.int 4), some (.int 0)]) (st' := [.int ((nI b) + 0), .ref 70]) (h' := (shT, fi, fl, fr)) rfl ?_
    rw [show nI b + 0 = nI (b + 0) from nI_add b 0]
    refine gp_of (fun _ k9 => g_call (y := 154) (as := [.ref 70, .int (nI (b + 0))]) (st' := []) rfl rfl (b0) k9) ?_
    refine gp_n 1 (j' := 29) (lv' := [some (.ref 70), some (.int 4), some (.int 0)]) (st' := [.ref 70, .int (bA F t (b + 0))]) (h' := (shT, fi, fl, fr)) rfl ?_
    refine gp_of (fun _ k9 => g_getR (q' := 72) rfl rfl (by decide) k4 k9) ?_
    refine gp_n 5 (j' := 35) (lv' := [some (.ref 70), some (.int 4), some (.int 0)]) (st' := [.int 20, .ref 72, .int (bA F t (b + 0))]) (h' := (shT, fi, fl, fr)) rfl ?_
    refine gp_of (fun _ k9 => g_bald (k := 20) (x := 101) rfl rfl (by decide) (rfl) (by decide) (by decide) (w0) k9) ?_
    refine gp_of (fun _ k9 => g_icf rfl (show ¬ (¬ (bA F t (b + 0)) = (101 : Int32)) from fun z => z (q0.mpr c0)) k9) ?_
    refine gp_n 4 (j' := 12) (lv' := [some (.ref 70), some (.int 4), some (.int 1)]) (st' := [.int 5, .int 1]) (h' := (shT, fi, fl, fr)) rfl ?_
    refine gp_of (fun _ k9 => g_icf rfl (show ¬ ((5 : Int32) ≤ (1 : Int32)) from by decide) k9) ?_
    refine gp_n 1 (j' := 14) (lv' := [some (.ref 70), some (.int 4), some (.int 1)]) (st' := [.ref 70]) (h' := (shT, fi, fl, fr)) rfl ?_
    refine gp_of (fun _ k9 => g_getR (q' := 72) rfl rfl (by decide) k4 k9) ?_
    refine gp_n 5 (j' := 20) (lv' := [some (.ref 70), some (.int 4), some (.int 1)]) (st' := [.int 21, .ref 72]) (h' := (shT, fi, fl, fr)) rfl ?_
    refine gp_of (fun _ k9 => g_bald (k := 21) (x := 114) rfl rfl (by decide) (rfl) (by decide) (by decide) (w1) k9) ?_
    refine gp_of (fun _ k9 => g_iff rfl (show ¬ ((114 : Int32) = (0 : Int32)) from by decide) k9) ?_
    refine gp_n 2 (j' := 24) (lv' := [some (.ref 70), some (.int 4), some (.int 1)]) (st' := [.ref 70, .ref 70]) (h' := (shT, fi, fl, fr)) rfl ?_
    refine gp_of (fun _ k9 => g_getI (x := nI b) rfl (Or.inl rfl) rfl (by decide) (e2) k9) ?_
    refine gp_n 2 (j' := 27) (lv' := [some (.ref 70), some (.int 4), some (.int 1)]) (st' := [.int ((nI b) + 1), .ref 70]) (h' := (shT, fi, fl, fr)) rfl ?_
    rw [show nI b + 1 = nI (b + 1) from nI_add b 1]
    refine gp_of (fun _ k9 => g_call (y := 154) (as := [.ref 70, .int (nI (b + 1))]) (st' := []) rfl rfl (b1) k9) ?_
    refine gp_n 1 (j' := 29) (lv' := [some (.ref 70), some (.int 4), some (.int 1)]) (st' := [.ref 70, .int (bA F t (b + 1))]) (h' := (shT, fi, fl, fr)) rfl ?_
    refine gp_of (fun _ k9 => g_getR (q' := 72) rfl rfl (by decide) k4 k9) ?_
    refine gp_n 5 (j' := 35) (lv' := [some (.ref 70), some (.int 4), some (.int 1)]) (st' := [.int 21, .ref 72, .int (bA F t (b + 1))]) (h' := (shT, fi, fl, fr)) rfl ?_
    refine gp_of (fun _ k9 => g_bald (k := 21) (x := 114) rfl rfl (by decide) (rfl) (by decide) (by decide) (w1) k9) ?_
    refine gp_of (fun _ k9 => g_icf rfl (show ¬ (¬ (bA F t (b + 1)) = (114 : Int32)) from fun z => z (q1.mpr c1)) k9) ?_
    refine gp_n 4 (j' := 12) (lv' := [some (.ref 70), some (.int 4), some (.int 2)]) (st' := [.int 5, .int 2]) (h' := (shT, fi, fl, fr)) rfl ?_
    refine gp_of (fun _ k9 => g_icf rfl (show ¬ ((5 : Int32) ≤ (2 : Int32)) from by decide) k9) ?_
    refine gp_n 1 (j' := 14) (lv' := [some (.ref 70), some (.int 4), some (.int 2)]) (st' := [.ref 70]) (h' := (shT, fi, fl, fr)) rfl ?_
    refine gp_of (fun _ k9 => g_getR (q' := 72) rfl rfl (by decide) k4 k9) ?_
    refine gp_n 5 (j' := 20) (lv' := [some (.ref 70), some (.int 4), some (.int 2)]) (st' := [.int 22, .ref 72]) (h' := (shT, fi, fl, fr)) rfl ?_
    refine gp_of (fun _ k9 => g_bald (k := 22) (x := 97) rfl rfl (by decide) (rfl) (by decide) (by decide) (w2) k9) ?_
    refine gp_of (fun _ k9 => g_iff rfl (show ¬ ((97 : Int32) = (0 : Int32)) from by decide) k9) ?_
    refine gp_n 2 (j' := 24) (lv' := [some (.ref 70), some (.int 4), some (.int 2)]) (st' := [.ref 70, .ref 70]) (h' := (shT, fi, fl, fr)) rfl ?_
    refine gp_of (fun _ k9 => g_getI (x := nI b) rfl (Or.inl rfl) rfl (by decide) (e2) k9) ?_
    refine gp_n 2 (j' := 27) (lv' := [some (.ref 70), some (.int 4), some (.int 2)]) (st' := [.int ((nI b) + 2), .ref 70]) (h' := (shT, fi, fl, fr)) rfl ?_
    rw [show nI b + 2 = nI (b + 2) from nI_add b 2]
    refine gp_of (fun _ k9 => g_call (y := 154) (as := [.ref 70, .int (nI (b + 2))]) (st' := []) rfl rfl (b2) k9) ?_
    refine gp_n 1 (j' := 29) (lv' := [some (.ref 70), some (.int 4), some (.int 2)]) (st' := [.ref 70, .int (bA F t (b + 2))]) (h' := (shT, fi, fl, fr)) rfl ?_
    refine gp_of (fun _ k9 => g_getR (q' := 72) rfl rfl (by decide) k4 k9) ?_
    refine gp_n 5 (j' := 35) (lv' := [some (.ref 70), some (.int 4), some (.int 2)]) (st' := [.int 22, .ref 72, .int (bA F t (b + 2))]) (h' := (shT, fi, fl, fr)) rfl ?_
    refine gp_of (fun _ k9 => g_bald (k := 22) (x := 97) rfl rfl (by decide) (rfl) (by decide) (by decide) (w2) k9) ?_
    refine gp_of (fun _ k9 => g_ict rfl (show ¬ (bA F t (b + 2)) = (97 : Int32) from fun z => c2 (q2.mp z)) k9) ?_
    refine gp_n 2 (j' := 41) (lv' := [some (.ref 70), some (.int 4), some (.int 2)]) (st' := [.int 5, .int 2]) (h' := (shT, fi, fl, fr)) rfl ?_
    refine gp_of (fun _ k9 => g_icf rfl (show ¬ ((2 : Int32) = (5 : Int32)) from by decide) k9) ?_
    refine gp_n 1 (j' := 43) (lv' := [some (.ref 70), some (.int 4), some (.int 2)]) (st' := [.ref 70]) (h' := (shT, fi, fl, fr)) rfl ?_
    refine gp_of (fun _ k9 => g_getR (q' := 72) rfl rfl (by decide) k4 k9) ?_
    refine gp_n 5 (j' := 49) (lv' := [some (.ref 70), some (.int 4), some (.int 2)]) (st' := [.int 22, .ref 72]) (h' := (shT, fi, fl, fr)) rfl ?_
    refine gp_of (fun _ k9 => g_bald (k := 22) (x := 97) rfl rfl (by decide) (rfl) (by decide) (by decide) (w2) k9) ?_
    refine gp_of (fun _ k9 => g_ift rfl (show ¬ (97 : Int32) = (0 : Int32) from by decide) k9) ?_
    refine gp_n 2 (j' := 5) (lv' := [some (.ref 70), some (.int 5), some (.int 2)]) (st' := []) (h' := (shT, fi, fl, fr)) rfl ?_
    exact k2
  by_cases c3 : b + 3 < t ∧ F (b + 3) = 115
  rotate_left
  · have k2 := k2 (by simp only [mt]; rw [if_pos (show b + 0 < t ∧ F (b + 0) = (wd 4).getD 0 0 from c0)]; rw [if_pos (show b + 1 < t ∧ F (b + 1) = (wd 4).getD 1 0 from c1)]; rw [if_pos (show b + 2 < t ∧ F (b + 2) = (wd 4).getD 2 0 from c2)]; rw [if_neg (show ¬ (b + 3 < t ∧ F (b + 3) = (wd 4).getD 3 0) from c3)]) (some (.int 3))
    refine gp_n 2 (j' := 7) (lv' := [some (.ref 70), some (.int 4), l]) (st' := [.int 6, .int 4]) (h' := (shT, fi, fl, fr)) rfl ?_
    refine gp_of (fun _ k9 => g_icf rfl (show ¬ ((6 : Int32) ≤ (4 : Int32)) from by decide) k9) ?_
    refine gp_n 4 (j' := 12) (lv' := [some (.ref 70), some (.int 4), some (.int 0)]) (st' := [.int 5, .int 0]) (h' := (shT, fi, fl, fr)) rfl ?_
    refine gp_of (fun _ k9 => g_icf rfl (show ¬ ((5 : Int32) ≤ (0 : Int32)) from by decide) k9) ?_
    refine gp_n 1 (j' := 14) (lv' := [some (.ref 70), some (.int 4), some (.int 0)]) (st' := [.ref 70]) (h' := (shT, fi, fl, fr)) rfl ?_
    refine gp_of (fun _ k9 => g_getR (q' := 72) rfl rfl (by decide) k4 k9) ?_
    refine gp_n 5 (j' := 20) (lv' := [some (.ref 70), some (.int 4), some (.int 0)]) (st' := [.int 20, .ref 72]) (h' := (shT, fi, fl, fr)) rfl ?_
    refine gp_of (fun _ k9 => g_bald (k := 20) (x := 101) rfl rfl (by decide) (rfl) (by decide) (by decide) (w0) k9) ?_
    refine gp_of (fun _ k9 => g_iff rfl (show ¬ ((101 : Int32) = (0 : Int32)) from by decide) k9) ?_
    refine gp_n 2 (j' := 24) (lv' := [some (.ref 70), some (.int 4), some (.int 0)]) (st' := [.ref 70, .ref 70]) (h' := (shT, fi, fl, fr)) rfl ?_
    refine gp_of (fun _ k9 => g_getI (x := nI b) rfl (Or.inl rfl) rfl (by decide) (e2) k9) ?_
    refine gp_n 2 (j' := 27) (lv' := [some (.ref 70), some (.int 4), some (.int 0)]) (st' := [.int ((nI b) + 0), .ref 70]) (h' := (shT, fi, fl, fr)) rfl ?_
    rw [show nI b + 0 = nI (b + 0) from nI_add b 0]
    refine gp_of (fun _ k9 => g_call (y := 154) (as := [.ref 70, .int (nI (b + 0))]) (st' := []) rfl rfl (b0) k9) ?_
    refine gp_n 1 (j' := 29) (lv' := [some (.ref 70), some (.int 4), some (.int 0)]) (st' := [.ref 70, .int (bA F t (b + 0))]) (h' := (shT, fi, fl, fr)) rfl ?_
    refine gp_of (fun _ k9 => g_getR (q' := 72) rfl rfl (by decide) k4 k9) ?_
    refine gp_n 5 (j' := 35) (lv' := [some (.ref 70), some (.int 4), some (.int 0)]) (st' := [.int 20, .ref 72, .int (bA F t (b + 0))]) (h' := (shT, fi, fl, fr)) rfl ?_
    refine gp_of (fun _ k9 => g_bald (k := 20) (x := 101) rfl rfl (by decide) (rfl) (by decide) (by decide) (w0) k9) ?_
    refine gp_of (fun _ k9 => g_icf rfl (show ¬ (¬ (bA F t (b + 0)) = (101 : Int32)) from fun z => z (q0.mpr c0)) k9) ?_
    refine gp_n 4 (j' := 12) (lv' := [some (.ref 70), some (.int 4), some (.int 1)]) (st' := [.int 5, .int 1]) (h' := (shT, fi, fl, fr)) rfl ?_
    refine gp_of (fun _ k9 => g_icf rfl (show ¬ ((5 : Int32) ≤ (1 : Int32)) from by decide) k9) ?_
    refine gp_n 1 (j' := 14) (lv' := [some (.ref 70), some (.int 4), some (.int 1)]) (st' := [.ref 70]) (h' := (shT, fi, fl, fr)) rfl ?_
    refine gp_of (fun _ k9 => g_getR (q' := 72) rfl rfl (by decide) k4 k9) ?_
    refine gp_n 5 (j' := 20) (lv' := [some (.ref 70), some (.int 4), some (.int 1)]) (st' := [.int 21, .ref 72]) (h' := (shT, fi, fl, fr)) rfl ?_
    refine gp_of (fun _ k9 => g_bald (k := 21) (x := 114) rfl rfl (by decide) (rfl) (by decide) (by decide) (w1) k9) ?_
    refine gp_of (fun _ k9 => g_iff rfl (show ¬ ((114 : Int32) = (0 : Int32)) from by decide) k9) ?_
    refine gp_n 2 (j' := 24) (lv' := [some (.ref 70), some (.int 4), some (.int 1)]) (st' := [.ref 70, .ref 70]) (h' := (shT, fi, fl, fr)) rfl ?_
    refine gp_of (fun _ k9 => g_getI (x := nI b) rfl (Or.inl rfl) rfl (by decide) (e2) k9) ?_
    refine gp_n 2 (j' := 27) (lv' := [some (.ref 70), some (.int 4), some (.int 1)]) (st' := [.int ((nI b) + 1), .ref 70]) (h' := (shT, fi, fl, fr)) rfl ?_
    rw [show nI b + 1 = nI (b + 1) from nI_add b 1]
    refine gp_of (fun _ k9 => g_call (y := 154) (as := [.ref 70, .int (nI (b + 1))]) (st' := []) rfl rfl (b1) k9) ?_
    refine gp_n 1 (j' := 29) (lv' := [some (.ref 70), some (.int 4), some (.int 1)]) (st' := [.ref 70, .int (bA F t (b + 1))]) (h' := (shT, fi, fl, fr)) rfl ?_
    refine gp_of (fun _ k9 => g_getR (q' := 72) rfl rfl (by decide) k4 k9) ?_
    refine gp_n 5 (j' := 35) (lv' := [some (.ref 70), some (.int 4), some (.int 1)]) (st' := [.int 21, .ref 72, .int (bA F t (b + 1))]) (h' := (shT, fi, fl, fr)) rfl ?_
    refine gp_of (fun _ k9 => g_bald (k := 21) (x := 114) rfl rfl (by decide) (rfl) (by decide) (by decide) (w1) k9) ?_
    refine gp_of (fun _ k9 => g_icf rfl (show ¬ (¬ (bA F t (b + 1)) = (114 : Int32)) from fun z => z (q1.mpr c1)) k9) ?_
    refine gp_n 4 (j' := 12) (lv' := [some (.ref 70), some (.int 4), some (.int 2)]) (st' := [.int 5, .int 2]) (h' := (shT, fi, fl, fr)) rfl ?_
    refine gp_of (fun _ k9 => g_icf rfl (show ¬ ((5 : Int32) ≤ (2 : Int32)) from by decide) k9) ?_
    refine gp_n 1 (j' := 14) (lv' := [some (.ref 70), some (.int 4), some (.int 2)]) (st' := [.ref 70]) (h' := (shT, fi, fl, fr)) rfl ?_
    refine gp_of (fun _ k9 => g_getR (q' := 72) rfl rfl (by decide) k4 k9) ?_
    refine gp_n 5 (j' := 20) (lv' := [some (.ref 70), some (.int 4), some (.int 2)]) (st' := [.int 22, .ref 72]) (h' := (shT, fi, fl, fr)) rfl ?_
    refine gp_of (fun _ k9 => g_bald (k := 22) (x := 97) rfl rfl (by decide) (rfl) (by decide) (by decide) (w2) k9) ?_
    refine gp_of (fun _ k9 => g_iff rfl (show ¬ ((97 : Int32) = (0 : Int32)) from by decide) k9) ?_
    refine gp_n 2 (j' := 24) (lv' := [some (.ref 70), some (.int 4), some (.int 2)]) (st' := [.ref 70, .ref 70]) (h' := (shT, fi, fl, fr)) rfl ?_
    refine gp_of (fun _ k9 => g_getI (x := nI b) rfl (Or.inl rfl) rfl (by decide) (e2) k9) ?_
    refine gp_n 2 (j' := 27) (lv' := [some (.ref 70), some (.int 4), some (.int 2)]) (st' := [.int ((nI b) + 2), .ref 70]) (h' := (shT, fi, fl, fr)) rfl ?_
    rw [show nI b + 2 = nI (b + 2) from nI_add b 2]
    refine gp_of (fun _ k9 => g_call (y := 154) (as := [.ref 70, .int (nI (b + 2))]) (st' := []) rfl rfl (b2) k9) ?_
    refine gp_n 1 (j' := 29) (lv' := [some (.ref 70), some (.int 4), some (.int 2)]) (st' := [.ref 70, .int (bA F t (b + 2))]) (h' := (shT, fi, fl, fr)) rfl ?_
    refine gp_of (fun _ k9 => g_getR (q' := 72) rfl rfl (by decide) k4 k9) ?_
    refine gp_n 5 (j' := 35) (lv' := [some (.ref 70), some (.int 4), some (.int 2)]) (st' := [.int 22, .ref 72, .int (bA F t (b + 2))]) (h' := (shT, fi, fl, fr)) rfl ?_
    refine gp_of (fun _ k9 => g_bald (k := 22) (x := 97) rfl rfl (by decide) (rfl) (by decide) (by decide) (w2) k9) ?_
    refine gp_of (fun _ k9 => g_icf rfl (show ¬ (¬ (bA F t (b + 2)) = (97 : Int32)) from fun z => z (q2.mpr c2)) k9) ?_
    refine gp_n 4 (j' := 12) (lv' := [some (.ref 70), some (.int 4), some (.int 3)]) (st' := [.int 5, .int 3]) (h' := (shT, fi, fl, fr)) rfl ?_
    refine gp_of (fun _ k9 => g_icf rfl (show ¬ ((5 : Int32) ≤ (3 : Int32)) from by decide) k9) ?_
    refine gp_n 1 (j' := 14) (lv' := [some (.ref 70), some (.int 4), some (.int 3)]) (st' := [.ref 70]) (h' := (shT, fi, fl, fr)) rfl ?_
    refine gp_of (fun _ k9 => g_getR (q' := 72) rfl rfl (by decide) k4 k9) ?_
    refine gp_n 5 (j' := 20) (lv' := [some (.ref 70), some (.int 4), some (.int 3)]) (st' := [.int 23, .ref 72]) (h' := (shT, fi, fl, fr)) rfl ?_
    refine gp_of (fun _ k9 => g_bald (k := 23) (x := 115) rfl rfl (by decide) (rfl) (by decide) (by decide) (w3) k9) ?_
    refine gp_of (fun _ k9 => g_iff rfl (show ¬ ((115 : Int32) = (0 : Int32)) from by decide) k9) ?_
    refine gp_n 2 (j' := 24) (lv' := [some (.ref 70), some (.int 4), some (.int 3)]) (st' := [.ref 70, .ref 70]) (h' := (shT, fi, fl, fr)) rfl ?_
    refine gp_of (fun _ k9 => g_getI (x := nI b) rfl (Or.inl rfl) rfl (by decide) (e2) k9) ?_
    refine gp_n 2 (j' := 27) (lv' := [some (.ref 70), some (.int 4), some (.int 3)]) (st' := [.int ((nI b) + 3), .ref 70]) (h' := (shT, fi, fl, fr)) rfl ?_
    rw [show nI b + 3 = nI (b + 3) from nI_add b 3]
    refine gp_of (fun _ k9 => g_call (y := 154) (as := [.ref 70, .int (nI (b + 3))]) (st' := []) rfl rfl (b3) k9) ?_
    refine gp_n 1 (j' := 29) (lv' := [some (.ref 70), some (.int 4), some (.int 3)]) (st' := [.ref 70, .int (bA F t (b + 3))]) (h' := (shT, fi, fl, fr)) rfl ?_
    refine gp_of (fun _ k9 => g_getR (q' := 72) rfl rfl (by decide) k4 k9) ?_
    refine gp_n 5 (j' := 35) (lv' := [some (.ref 70), some (.int 4), some (.int 3)]) (st' := [.int 23, .ref 72, .int (bA F t (b + 3))]) (h' := (shT, fi, fl, fr)) rfl ?_
    refine gp_of (fun _ k9 => g_bald (k := 23) (x := 115) rfl rfl (by decide) (rfl) (by decide) (by decide) (w3) k9) ?_
    refine gp_of (fun _ k9 => g_ict rfl (show ¬ (bA F t (b + 3)) = (115 : Int32) from fun z => c3 (q3.mp z)) k9) ?_
    refine gp_n 2 (j' := 41) (lv' := [some (.ref 70), some (.int 4), some (.int 3)]) (st' := [.int 5, .int 3]) (h' := (shT, fi, fl, fr)) rfl ?_
    refine gp_of (fun _ k9 => g_icf rfl (show ¬ ((3 : Int32) = (5 : Int32)) from by decide) k9) ?_
    refine gp_n 1 (j' := 43) (lv' := [some (.ref 70), some (.int 4), some (.int 3)]) (st' := [.ref 70]) (h' := (shT, fi, fl, fr)) rfl ?_
    refine gp_of (fun _ k9 => g_getR (q' := 72) rfl rfl (by decide) k4 k9) ?_
    refine gp_n 5 (j' := 49) (lv' := [some (.ref 70), some (.int 4), some (.int 3)]) (st' := [.int 23, .ref 72]) (h' := (shT, fi, fl, fr)) rfl ?_
    refine gp_of (fun _ k9 => g_bald (k := 23) (x := 115) rfl rfl (by decide) (rfl) (by decide) (by decide) (w3) k9) ?_
    refine gp_of (fun _ k9 => g_ift rfl (show ¬ (115 : Int32) = (0 : Int32) from by decide) k9) ?_
    refine gp_n 2 (j' := 5) (lv' := [some (.ref 70), some (.int 5), some (.int 3)]) (st' := []) (h' := (shT, fi, fl, fr)) rfl ?_
    exact k2
  by_cases c4 : b + 4 < t ∧ F (b + 4) = 101
  rotate_left
  · have k2 := k2 (by simp only [mt]; rw [if_pos (show b + 0 < t ∧ F (b + 0) = (wd 4).getD 0 0 from c0)]; rw [if_pos (show b + 1 < t ∧ F (b + 1) = (wd 4).getD 1 0 from c1)]; rw [if_pos (show b + 2 < t ∧ F (b + 2) = (wd 4).getD 2 0 from c2)]; rw [if_pos (show b + 3 < t ∧ F (b + 3) = (wd 4).getD 3 0 from c3)]; rw [if_neg (show ¬ (b + 4 < t ∧ F (b + 4) = (wd 4).getD 4 0) from c4)]) (some (.int 4))
    refine gp_n 2 (j' := 7) (lv' := [some (.ref 70), some (.int 4), l]) (st' := [.int 6, .int 4]) (h' := (shT, fi, fl, fr)) rfl ?_
    refine gp_of (fun _ k9 => g_icf rfl (show ¬ ((6 : Int32) ≤ (4 : Int32)) from by decide) k9) ?_
    refine gp_n 4 (j' := 12) (lv' := [some (.ref 70), some (.int 4), some (.int 0)]) (st' := [.int 5, .int 0]) (h' := (shT, fi, fl, fr)) rfl ?_
    refine gp_of (fun _ k9 => g_icf rfl (show ¬ ((5 : Int32) ≤ (0 : Int32)) from by decide) k9) ?_
    refine gp_n 1 (j' := 14) (lv' := [some (.ref 70), some (.int 4), some (.int 0)]) (st' := [.ref 70]) (h' := (shT, fi, fl, fr)) rfl ?_
    refine gp_of (fun _ k9 => g_getR (q' := 72) rfl rfl (by decide) k4 k9) ?_
    refine gp_n 5 (j' := 20) (lv' := [some (.ref 70), some (.int 4), some (.int 0)]) (st' := [.int 20, .ref 72]) (h' := (shT, fi, fl, fr)) rfl ?_
    refine gp_of (fun _ k9 => g_bald (k := 20) (x := 101) rfl rfl (by decide) (rfl) (by decide) (by decide) (w0) k9) ?_
    refine gp_of (fun _ k9 => g_iff rfl (show ¬ ((101 : Int32) = (0 : Int32)) from by decide) k9) ?_
    refine gp_n 2 (j' := 24) (lv' := [some (.ref 70), some (.int 4), some (.int 0)]) (st' := [.ref 70, .ref 70]) (h' := (shT, fi, fl, fr)) rfl ?_
    refine gp_of (fun _ k9 => g_getI (x := nI b) rfl (Or.inl rfl) rfl (by decide) (e2) k9) ?_
    refine gp_n 2 (j' := 27) (lv' := [some (.ref 70), some (.int 4), some (.int 0)]) (st' := [.int ((nI b) + 0), .ref 70]) (h' := (shT, fi, fl, fr)) rfl ?_
    rw [show nI b + 0 = nI (b + 0) from nI_add b 0]
    refine gp_of (fun _ k9 => g_call (y := 154) (as := [.ref 70, .int (nI (b + 0))]) (st' := []) rfl rfl (b0) k9) ?_
    refine gp_n 1 (j' := 29) (lv' := [some (.ref 70), some (.int 4), some (.int 0)]) (st' := [.ref 70, .int (bA F t (b + 0))]) (h' := (shT, fi, fl, fr)) rfl ?_
    refine gp_of (fun _ k9 => g_getR (q' := 72) rfl rfl (by decide) k4 k9) ?_
    refine gp_n 5 (j' := 35) (lv' := [some (.ref 70), some (.int 4), some (.int 0)]) (st' := [.int 20, .ref 72, .int (bA F t (b + 0))]) (h' := (shT, fi, fl, fr)) rfl ?_
    refine gp_of (fun _ k9 => g_bald (k := 20) (x := 101) rfl rfl (by decide) (rfl) (by decide) (by decide) (w0) k9) ?_
    refine gp_of (fun _ k9 => g_icf rfl (show ¬ (¬ (bA F t (b + 0)) = (101 : Int32)) from fun z => z (q0.mpr c0)) k9) ?_
    refine gp_n 4 (j' := 12) (lv' := [some (.ref 70), some (.int 4), some (.int 1)]) (st' := [.int 5, .int 1]) (h' := (shT, fi, fl, fr)) rfl ?_
    refine gp_of (fun _ k9 => g_icf rfl (show ¬ ((5 : Int32) ≤ (1 : Int32)) from by decide) k9) ?_
    refine gp_n 1 (j' := 14) (lv' := [some (.ref 70), some (.int 4), some (.int 1)]) (st' := [.ref 70]) (h' := (shT, fi, fl, fr)) rfl ?_
    refine gp_of (fun _ k9 => g_getR (q' := 72) rfl rfl (by decide) k4 k9) ?_
    refine gp_n 5 (j' := 20) (lv' := [some (.ref 70), some (.int 4), some (.int 1)]) (st' := [.int 21, .ref 72]) (h' := (shT, fi, fl, fr)) rfl ?_
    refine gp_of (fun _ k9 => g_bald (k := 21) (x := 114) rfl rfl (by decide) (rfl) (by decide) (by decide) (w1) k9) ?_
    refine gp_of (fun _ k9 => g_iff rfl (show ¬ ((114 : Int32) = (0 : Int32)) from by decide) k9) ?_
    refine gp_n 2 (j' := 24) (lv' := [some (.ref 70), some (.int 4), some (.int 1)]) (st' := [.ref 70, .ref 70]) (h' := (shT, fi, fl, fr)) rfl ?_
    refine gp_of (fun _ k9 => g_getI (x := nI b) rfl (Or.inl rfl) rfl (by decide) (e2) k9) ?_
    refine gp_n 2 (j' := 27) (lv' := [some (.ref 70), some (.int 4), some (.int 1)]) (st' := [.int ((nI b) + 1), .ref 70]) (h' := (shT, fi, fl, fr)) rfl ?_
    rw [show nI b + 1 = nI (b + 1) from nI_add b 1]
    refine gp_of (fun _ k9 => g_call (y := 154) (as := [.ref 70, .int (nI (b + 1))]) (st' := []) rfl rfl (b1) k9) ?_
    refine gp_n 1 (j' := 29) (lv' := [some (.ref 70), some (.int 4), some (.int 1)]) (st' := [.ref 70, .int (bA F t (b + 1))]) (h' := (shT, fi, fl, fr)) rfl ?_
    refine gp_of (fun _ k9 => g_getR (q' := 72) rfl rfl (by decide) k4 k9) ?_
    refine gp_n 5 (j' := 35) (lv' := [some (.ref 70), some (.int 4), some (.int 1)]) (st' := [.int 21, .ref 72, .int (bA F t (b + 1))]) (h' := (shT, fi, fl, fr)) rfl ?_
    refine gp_of (fun _ k9 => g_bald (k := 21) (x := 114) rfl rfl (by decide) (rfl) (by decide) (by decide) (w1) k9) ?_
    refine gp_of (fun _ k9 => g_icf rfl (show ¬ (¬ (bA F t (b + 1)) = (114 : Int32)) from fun z => z (q1.mpr c1)) k9) ?_
    refine gp_n 4 (j' := 12) (lv' := [some (.ref 70), some (.int 4), some (.int 2)]) (st' := [.int 5, .int 2]) (h' := (shT, fi, fl, fr)) rfl ?_
    refine gp_of (fun _ k9 => g_icf rfl (show ¬ ((5 : Int32) ≤ (2 : Int32)) from by decide) k9) ?_
    refine gp_n 1 (j' := 14) (lv' := [some (.ref 70), some (.int 4), some (.int 2)]) (st' := [.ref 70]) (h' := (shT, fi, fl, fr)) rfl ?_
    refine gp_of (fun _ k9 => g_getR (q' := 72) rfl rfl (by decide) k4 k9) ?_
    refine gp_n 5 (j' := 20) (lv' := [some (.ref 70), some (.int 4), some (.int 2)]) (st' := [.int 22, .ref 72]) (h' := (shT, fi, fl, fr)) rfl ?_
    refine gp_of (fun _ k9 => g_bald (k := 22) (x := 97) rfl rfl (by decide) (rfl) (by decide) (by decide) (w2) k9) ?_
    refine gp_of (fun _ k9 => g_iff rfl (show ¬ ((97 : Int32) = (0 : Int32)) from by decide) k9) ?_
    refine gp_n 2 (j' := 24) (lv' := [some (.ref 70), some (.int 4), some (.int 2)]) (st' := [.ref 70, .ref 70]) (h' := (shT, fi, fl, fr)) rfl ?_
    refine gp_of (fun _ k9 => g_getI (x := nI b) rfl (Or.inl rfl) rfl (by decide) (e2) k9) ?_
    refine gp_n 2 (j' := 27) (lv' := [some (.ref 70), some (.int 4), some (.int 2)]) (st' := [.int ((nI b) + 2), .ref 70]) (h' := (shT, fi, fl, fr)) rfl ?_
    rw [show nI b + 2 = nI (b + 2) from nI_add b 2]
    refine gp_of (fun _ k9 => g_call (y := 154) (as := [.ref 70, .int (nI (b + 2))]) (st' := []) rfl rfl (b2) k9) ?_
    refine gp_n 1 (j' := 29) (lv' := [some (.ref 70), some (.int 4), some (.int 2)]) (st' := [.ref 70, .int (bA F t (b + 2))]) (h' := (shT, fi, fl, fr)) rfl ?_
    refine gp_of (fun _ k9 => g_getR (q' := 72) rfl rfl (by decide) k4 k9) ?_
    refine gp_n 5 (j' := 35) (lv' := [some (.ref 70), some (.int 4), some (.int 2)]) (st' := [.int 22, .ref 72, .int (bA F t (b + 2))]) (h' := (shT, fi, fl, fr)) rfl ?_
    refine gp_of (fun _ k9 => g_bald (k := 22) (x := 97) rfl rfl (by decide) (rfl) (by decide) (by decide) (w2) k9) ?_
    refine gp_of (fun _ k9 => g_icf rfl (show ¬ (¬ (bA F t (b + 2)) = (97 : Int32)) from fun z => z (q2.mpr c2)) k9) ?_
    refine gp_n 4 (j' := 12) (lv' := [some (.ref 70), some (.int 4), some (.int 3)]) (st' := [.int 5, .int 3]) (h' := (shT, fi, fl, fr)) rfl ?_
    refine gp_of (fun _ k9 => g_icf rfl (show ¬ ((5 : Int32) ≤ (3 : Int32)) from by decide) k9) ?_
    refine gp_n 1 (j' := 14) (lv' := [some (.ref 70), some (.int 4), some (.int 3)]) (st' := [.ref 70]) (h' := (shT, fi, fl, fr)) rfl ?_
    refine gp_of (fun _ k9 => g_getR (q' := 72) rfl rfl (by decide) k4 k9) ?_
    refine gp_n 5 (j' := 20) (lv' := [some (.ref 70), some (.int 4), some (.int 3)]) (st' := [.int 23, .ref 72]) (h' := (shT, fi, fl, fr)) rfl ?_
    refine gp_of (fun _ k9 => g_bald (k := 23) (x := 115) rfl rfl (by decide) (rfl) (by decide) (by decide) (w3) k9) ?_
    refine gp_of (fun _ k9 => g_iff rfl (show ¬ ((115 : Int32) = (0 : Int32)) from by decide) k9) ?_
    refine gp_n 2 (j' := 24) (lv' := [some (.ref 70), some (.int 4), some (.int 3)]) (st' := [.ref 70, .ref 70]) (h' := (shT, fi, fl, fr)) rfl ?_
    refine gp_of (fun _ k9 => g_getI (x := nI b) rfl (Or.inl rfl) rfl (by decide) (e2) k9) ?_
    refine gp_n 2 (j' := 27) (lv' := [some (.ref 70), some (.int 4), some (.int 3)]) (st' := [.int ((nI b) + 3), .ref 70]) (h' := (shT, fi, fl, fr)) rfl ?_
    rw [show nI b + 3 = nI (b + 3) from nI_add b 3]
    refine gp_of (fun _ k9 => g_call (y := 154) (as := [.ref 70, .int (nI (b + 3))]) (st' := []) rfl rfl (b3) k9) ?_
    refine gp_n 1 (j' := 29) (lv' := [some (.ref 70), some (.int 4), some (.int 3)]) (st' := [.ref 70, .int (bA F t (b + 3))]) (h' := (shT, fi, fl, fr)) rfl ?_
    refine gp_of (fun _ k9 => g_getR (q' := 72) rfl rfl (by decide) k4 k9) ?_
    refine gp_n 5 (j' := 35) (lv' := [some (.ref 70), some (.int 4), some (.int 3)]) (st' := [.int 23, .ref 72, .int (bA F t (b + 3))]) (h' := (shT, fi, fl, fr)) rfl ?_
    refine gp_of (fun _ k9 => g_bald (k := 23) (x := 115) rfl rfl (by decide) (rfl) (by decide) (by decide) (w3) k9) ?_
    refine gp_of (fun _ k9 => g_icf rfl (show ¬ (¬ (bA F t (b + 3)) = (115 : Int32)) from fun z => z (q3.mpr c3)) k9) ?_
    refine gp_n 4 (j' := 12) (lv' := [some (.ref 70), some (.int 4), some (.int 4)]) (st' := [.int 5, .int 4]) (h' := (shT, fi, fl, fr)) rfl ?_
    refine gp_of (fun _ k9 => g_icf rfl (show ¬ ((5 : Int32) ≤ (4 : Int32)) from by decide) k9) ?_
    refine gp_n 1 (j' := 14) (lv' := [some (.ref 70), some (.int 4), some (.int 4)]) (st' := [.ref 70]) (h' := (shT, fi, fl, fr)) rfl ?_
    refine gp_of (fun _ k9 => g_getR (q' := 72) rfl rfl (by decide) k4 k9) ?_
    refine gp_n 5 (j' := 20) (lv' := [some (.ref 70), some (.int 4), some (.int 4)]) (st' := [.int 24, .ref 72]) (h' := (shT, fi, fl, fr)) rfl ?_
    refine gp_of (fun _ k9 => g_bald (k := 24) (x := 101) rfl rfl (by decide) (rfl) (by decide) (by decide) (w4) k9) ?_
    refine gp_of (fun _ k9 => g_iff rfl (show ¬ ((101 : Int32) = (0 : Int32)) from by decide) k9) ?_
    refine gp_n 2 (j' := 24) (lv' := [some (.ref 70), some (.int 4), some (.int 4)]) (st' := [.ref 70, .ref 70]) (h' := (shT, fi, fl, fr)) rfl ?_
    refine gp_of (fun _ k9 => g_getI (x := nI b) rfl (Or.inl rfl) rfl (by decide) (e2) k9) ?_
    refine gp_n 2 (j' := 27) (lv' := [some (.ref 70), some (.int 4), some (.int 4)]) (st' := [.int ((nI b) + 4), .ref 70]) (h' := (shT, fi, fl, fr)) rfl ?_
    rw [show nI b + 4 = nI (b + 4) from nI_add b 4]
    refine gp_of (fun _ k9 => g_call (y := 154) (as := [.ref 70, .int (nI (b + 4))]) (st' := []) rfl rfl (b4) k9) ?_
    refine gp_n 1 (j' := 29) (lv' := [some (.ref 70), some (.int 4), some (.int 4)]) (st' := [.ref 70, .int (bA F t (b + 4))]) (h' := (shT, fi, fl, fr)) rfl ?_
    refine gp_of (fun _ k9 => g_getR (q' := 72) rfl rfl (by decide) k4 k9) ?_
    refine gp_n 5 (j' := 35) (lv' := [some (.ref 70), some (.int 4), some (.int 4)]) (st' := [.int 24, .ref 72, .int (bA F t (b + 4))]) (h' := (shT, fi, fl, fr)) rfl ?_
    refine gp_of (fun _ k9 => g_bald (k := 24) (x := 101) rfl rfl (by decide) (rfl) (by decide) (by decide) (w4) k9) ?_
    refine gp_of (fun _ k9 => g_ict rfl (show ¬ (bA F t (b + 4)) = (101 : Int32) from fun z => c4 (q4.mp z)) k9) ?_
    refine gp_n 2 (j' := 41) (lv' := [some (.ref 70), some (.int 4), some (.int 4)]) (st' := [.int 5, .int 4]) (h' := (shT, fi, fl, fr)) rfl ?_
    refine gp_of (fun _ k9 => g_icf rfl (show ¬ ((4 : Int32) = (5 : Int32)) from by decide) k9) ?_
    refine gp_n 1 (j' := 43) (lv' := [some (.ref 70), some (.int 4), some (.int 4)]) (st' := [.ref 70]) (h' := (shT, fi, fl, fr)) rfl ?_
    refine gp_of (fun _ k9 => g_getR (q' := 72) rfl rfl (by decide) k4 k9) ?_
    refine gp_n 5 (j' := 49) (lv' := [some (.ref 70), some (.int 4), some (.int 4)]) (st' := [.int 24, .ref 72]) (h' := (shT, fi, fl, fr)) rfl ?_
    refine gp_of (fun _ k9 => g_bald (k := 24) (x := 101) rfl rfl (by decide) (rfl) (by decide) (by decide) (w4) k9) ?_
    refine gp_of (fun _ k9 => g_ift rfl (show ¬ (101 : Int32) = (0 : Int32) from by decide) k9) ?_
    refine gp_n 2 (j' := 5) (lv' := [some (.ref 70), some (.int 5), some (.int 4)]) (st' := []) (h' := (shT, fi, fl, fr)) rfl ?_
    exact k2
  by_cases cz : b + 5 < t ∧ cL (F (b + 5)) = true
  · have k2 := k2 (by simp only [mt]; rw [if_pos (show b + 0 < t ∧ F (b + 0) = (wd 4).getD 0 0 from c0)]; rw [if_pos (show b + 1 < t ∧ F (b + 1) = (wd 4).getD 1 0 from c1)]; rw [if_pos (show b + 2 < t ∧ F (b + 2) = (wd 4).getD 2 0 from c2)]; rw [if_pos (show b + 3 < t ∧ F (b + 3) = (wd 4).getD 3 0 from c3)]; rw [if_pos (show b + 4 < t ∧ F (b + 4) = (wd 4).getD 4 0 from c4)]; rw [decide_eq_true cz.1, cz.2]; rfl) (some (.int 5))
    have l1 := l1 (qL.mpr cz)
    refine gp_n 2 (j' := 7) (lv' := [some (.ref 70), some (.int 4), l]) (st' := [.int 6, .int 4]) (h' := (shT, fi, fl, fr)) rfl ?_
    refine gp_of (fun _ k9 => g_icf rfl (show ¬ ((6 : Int32) ≤ (4 : Int32)) from by decide) k9) ?_
    refine gp_n 4 (j' := 12) (lv' := [some (.ref 70), some (.int 4), some (.int 0)]) (st' := [.int 5, .int 0]) (h' := (shT, fi, fl, fr)) rfl ?_
    refine gp_of (fun _ k9 => g_icf rfl (show ¬ ((5 : Int32) ≤ (0 : Int32)) from by decide) k9) ?_
    refine gp_n 1 (j' := 14) (lv' := [some (.ref 70), some (.int 4), some (.int 0)]) (st' := [.ref 70]) (h' := (shT, fi, fl, fr)) rfl ?_
    refine gp_of (fun _ k9 => g_getR (q' := 72) rfl rfl (by decide) k4 k9) ?_
    refine gp_n 5 (j' := 20) (lv' := [some (.ref 70), some (.int 4), some (.int 0)]) (st' := [.int 20, .ref 72]) (h' := (shT, fi, fl, fr)) rfl ?_
    refine gp_of (fun _ k9 => g_bald (k := 20) (x := 101) rfl rfl (by decide) (rfl) (by decide) (by decide) (w0) k9) ?_
    refine gp_of (fun _ k9 => g_iff rfl (show ¬ ((101 : Int32) = (0 : Int32)) from by decide) k9) ?_
    refine gp_n 2 (j' := 24) (lv' := [some (.ref 70), some (.int 4), some (.int 0)]) (st' := [.ref 70, .ref 70]) (h' := (shT, fi, fl, fr)) rfl ?_
    refine gp_of (fun _ k9 => g_getI (x := nI b) rfl (Or.inl rfl) rfl (by decide) (e2) k9) ?_
    refine gp_n 2 (j' := 27) (lv' := [some (.ref 70), some (.int 4), some (.int 0)]) (st' := [.int ((nI b) + 0), .ref 70]) (h' := (shT, fi, fl, fr)) rfl ?_
    rw [show nI b + 0 = nI (b + 0) from nI_add b 0]
    refine gp_of (fun _ k9 => g_call (y := 154) (as := [.ref 70, .int (nI (b + 0))]) (st' := []) rfl rfl (b0) k9) ?_
    refine gp_n 1 (j' := 29) (lv' := [some (.ref 70), some (.int 4), some (.int 0)]) (st' := [.ref 70, .int (bA F t (b + 0))]) (h' := (shT, fi, fl, fr)) rfl ?_
    refine gp_of (fun _ k9 => g_getR (q' := 72) rfl rfl (by decide) k4 k9) ?_
    refine gp_n 5 (j' := 35) (lv' := [some (.ref 70), some (.int 4), some (.int 0)]) (st' := [.int 20, .ref 72, .int (bA F t (b + 0))]) (h' := (shT, fi, fl, fr)) rfl ?_
    refine gp_of (fun _ k9 => g_bald (k := 20) (x := 101) rfl rfl (by decide) (rfl) (by decide) (by decide) (w0) k9) ?_
    refine gp_of (fun _ k9 => g_icf rfl (show ¬ (¬ (bA F t (b + 0)) = (101 : Int32)) from fun z => z (q0.mpr c0)) k9) ?_
    refine gp_n 4 (j' := 12) (lv' := [some (.ref 70), some (.int 4), some (.int 1)]) (st' := [.int 5, .int 1]) (h' := (shT, fi, fl, fr)) rfl ?_
    refine gp_of (fun _ k9 => g_icf rfl (show ¬ ((5 : Int32) ≤ (1 : Int32)) from by decide) k9) ?_
    refine gp_n 1 (j' := 14) (lv' := [some (.ref 70), some (.int 4), some (.int 1)]) (st' := [.ref 70]) (h' := (shT, fi, fl, fr)) rfl ?_
    refine gp_of (fun _ k9 => g_getR (q' := 72) rfl rfl (by decide) k4 k9) ?_
    refine gp_n 5 (j' := 20) (lv' := [some (.ref 70), some (.int 4), some (.int 1)]) (st' := [.int 21, .ref 72]) (h' := (shT, fi, fl, fr)) rfl ?_
    refine gp_of (fun _ k9 => g_bald (k := 21) (x := 114) rfl rfl (by decide) (rfl) (by decide) (by decide) (w1) k9) ?_
    refine gp_of (fun _ k9 => g_iff rfl (show ¬ ((114 : Int32) = (0 : Int32)) from by decide) k9) ?_
    refine gp_n 2 (j' := 24) (lv' := [some (.ref 70), some (.int 4), some (.int 1)]) (st' := [.ref 70, .ref 70]) (h' := (shT, fi, fl, fr)) rfl ?_
    refine gp_of (fun _ k9 => g_getI (x := nI b) rfl (Or.inl rfl) rfl (by decide) (e2) k9) ?_
    refine gp_n 2 (j' := 27) (lv' := [some (.ref 70), some (.int 4), some (.int 1)]) (st' := [.int ((nI b) + 1), .ref 70]) (h' := (shT, fi, fl, fr)) rfl ?_
    rw [show nI b + 1 = nI (b + 1) from nI_add b 1]
    refine gp_of (fun _ k9 => g_call (y := 154) (as := [.ref 70, .int (nI (b + 1))]) (st' := []) rfl rfl (b1) k9) ?_
    refine gp_n 1 (j' := 29) (lv' := [some (.ref 70), some (.int 4), some (.int 1)]) (st' := [.ref 70, .int (bA F t (b + 1))]) (h' := (shT, fi, fl, fr)) rfl ?_
    refine gp_of (fun _ k9 => g_getR (q' := 72) rfl rfl (by decide) k4 k9) ?_
    refine gp_n 5 (j' := 35) (lv' := [some (.ref 70), some (.int 4), some (.int 1)]) (st' := [.int 21, .ref 72, .int (bA F t (b + 1))]) (h' := (shT, fi, fl, fr)) rfl ?_
    refine gp_of (fun _ k9 => g_bald (k := 21) (x := 114) rfl rfl (by decide) (rfl) (by decide) (by decide) (w1) k9) ?_
    refine gp_of (fun _ k9 => g_icf rfl (show ¬ (¬ (bA F t (b + 1)) = (114 : Int32)) from fun z => z (q1.mpr c1)) k9) ?_
    refine gp_n 4 (j' := 12) (lv' := [some (.ref 70), some (.int 4), some (.int 2)]) (st' := [.int 5, .int 2]) (h' := (shT, fi, fl, fr)) rfl ?_
    refine gp_of (fun _ k9 => g_icf rfl (show ¬ ((5 : Int32) ≤ (2 : Int32)) from by decide) k9) ?_
    refine gp_n 1 (j' := 14) (lv' := [some (.ref 70), some (.int 4), some (.int 2)]) (st' := [.ref 70]) (h' := (shT, fi, fl, fr)) rfl ?_
    refine gp_of (fun _ k9 => g_getR (q' := 72) rfl rfl (by decide) k4 k9) ?_
    refine gp_n 5 (j' := 20) (lv' := [some (.ref 70), some (.int 4), some (.int 2)]) (st' := [.int 22, .ref 72]) (h' := (shT, fi, fl, fr)) rfl ?_
    refine gp_of (fun _ k9 => g_bald (k := 22) (x := 97) rfl rfl (by decide) (rfl) (by decide) (by decide) (w2) k9) ?_
    refine gp_of (fun _ k9 => g_iff rfl (show ¬ ((97 : Int32) = (0 : Int32)) from by decide) k9) ?_
    refine gp_n 2 (j' := 24) (lv' := [some (.ref 70), some (.int 4), some (.int 2)]) (st' := [.ref 70, .ref 70]) (h' := (shT, fi, fl, fr)) rfl ?_
    refine gp_of (fun _ k9 => g_getI (x := nI b) rfl (Or.inl rfl) rfl (by decide) (e2) k9) ?_
    refine gp_n 2 (j' := 27) (lv' := [some (.ref 70), some (.int 4), some (.int 2)]) (st' := [.int ((nI b) + 2), .ref 70]) (h' := (shT, fi, fl, fr)) rfl ?_
    rw [show nI b + 2 = nI (b + 2) from nI_add b 2]
    refine gp_of (fun _ k9 => g_call (y := 154) (as := [.ref 70, .int (nI (b + 2))]) (st' := []) rfl rfl (b2) k9) ?_
    refine gp_n 1 (j' := 29) (lv' := [some (.ref 70), some (.int 4), some (.int 2)]) (st' := [.ref 70, .int (bA F t (b + 2))]) (h' := (shT, fi, fl, fr)) rfl ?_
    refine gp_of (fun _ k9 => g_getR (q' := 72) rfl rfl (by decide) k4 k9) ?_
    refine gp_n 5 (j' := 35) (lv' := [some (.ref 70), some (.int 4), some (.int 2)]) (st' := [.int 22, .ref 72, .int (bA F t (b + 2))]) (h' := (shT, fi, fl, fr)) rfl ?_
    refine gp_of (fun _ k9 => g_bald (k := 22) (x := 97) rfl rfl (by decide) (rfl) (by decide) (by decide) (w2) k9) ?_
    refine gp_of (fun _ k9 => g_icf rfl (show ¬ (¬ (bA F t (b + 2)) = (97 : Int32)) from fun z => z (q2.mpr c2)) k9) ?_
    refine gp_n 4 (j' := 12) (lv' := [some (.ref 70), some (.int 4), some (.int 3)]) (st' := [.int 5, .int 3]) (h' := (shT, fi, fl, fr)) rfl ?_
    refine gp_of (fun _ k9 => g_icf rfl (show ¬ ((5 : Int32) ≤ (3 : Int32)) from by decide) k9) ?_
    refine gp_n 1 (j' := 14) (lv' := [some (.ref 70), some (.int 4), some (.int 3)]) (st' := [.ref 70]) (h' := (shT, fi, fl, fr)) rfl ?_
    refine gp_of (fun _ k9 => g_getR (q' := 72) rfl rfl (by decide) k4 k9) ?_
    refine gp_n 5 (j' := 20) (lv' := [some (.ref 70), some (.int 4), some (.int 3)]) (st' := [.int 23, .ref 72]) (h' := (shT, fi, fl, fr)) rfl ?_
    refine gp_of (fun _ k9 => g_bald (k := 23) (x := 115) rfl rfl (by decide) (rfl) (by decide) (by decide) (w3) k9) ?_
    refine gp_of (fun _ k9 => g_iff rfl (show ¬ ((115 : Int32) = (0 : Int32)) from by decide) k9) ?_
    refine gp_n 2 (j' := 24) (lv' := [some (.ref 70), some (.int 4), some (.int 3)]) (st' := [.ref 70, .ref 70]) (h' := (shT, fi, fl, fr)) rfl ?_
    refine gp_of (fun _ k9 => g_getI (x := nI b) rfl (Or.inl rfl) rfl (by decide) (e2) k9) ?_
    refine gp_n 2 (j' := 27) (lv' := [some (.ref 70), some (.int 4), some (.int 3)]) (st' := [.int ((nI b) + 3), .ref 70]) (h' := (shT, fi, fl, fr)) rfl ?_
    rw [show nI b + 3 = nI (b + 3) from nI_add b 3]
    refine gp_of (fun _ k9 => g_call (y := 154) (as := [.ref 70, .int (nI (b + 3))]) (st' := []) rfl rfl (b3) k9) ?_
    refine gp_n 1 (j' := 29) (lv' := [some (.ref 70), some (.int 4), some (.int 3)]) (st' := [.ref 70, .int (bA F t (b + 3))]) (h' := (shT, fi, fl, fr)) rfl ?_
    refine gp_of (fun _ k9 => g_getR (q' := 72) rfl rfl (by decide) k4 k9) ?_
    refine gp_n 5 (j' := 35) (lv' := [some (.ref 70), some (.int 4), some (.int 3)]) (st' := [.int 23, .ref 72, .int (bA F t (b + 3))]) (h' := (shT, fi, fl, fr)) rfl ?_
    refine gp_of (fun _ k9 => g_bald (k := 23) (x := 115) rfl rfl (by decide) (rfl) (by decide) (by decide) (w3) k9) ?_
    refine gp_of (fun _ k9 => g_icf rfl (show ¬ (¬ (bA F t (b + 3)) = (115 : Int32)) from fun z => z (q3.mpr c3)) k9) ?_
    refine gp_n 4 (j' := 12) (lv' := [some (.ref 70), some (.int 4), some (.int 4)]) (st' := [.int 5, .int 4]) (h' := (shT, fi, fl, fr)) rfl ?_
    refine gp_of (fun _ k9 => g_icf rfl (show ¬ ((5 : Int32) ≤ (4 : Int32)) from by decide) k9) ?_
    refine gp_n 1 (j' := 14) (lv' := [some (.ref 70), some (.int 4), some (.int 4)]) (st' := [.ref 70]) (h' := (shT, fi, fl, fr)) rfl ?_
    refine gp_of (fun _ k9 => g_getR (q' := 72) rfl rfl (by decide) k4 k9) ?_
    refine gp_n 5 (j' := 20) (lv' := [some (.ref 70), some (.int 4), some (.int 4)]) (st' := [.int 24, .ref 72]) (h' := (shT, fi, fl, fr)) rfl ?_
    refine gp_of (fun _ k9 => g_bald (k := 24) (x := 101) rfl rfl (by decide) (rfl) (by decide) (by decide) (w4) k9) ?_
    refine gp_of (fun _ k9 => g_iff rfl (show ¬ ((101 : Int32) = (0 : Int32)) from by decide) k9) ?_
    refine gp_n 2 (j' := 24) (lv' := [some (.ref 70), some (.int 4), some (.int 4)]) (st' := [.ref 70, .ref 70]) (h' := (shT, fi, fl, fr)) rfl ?_
    refine gp_of (fun _ k9 => g_getI (x := nI b) rfl (Or.inl rfl) rfl (by decide) (e2) k9) ?_
    refine gp_n 2 (j' := 27) (lv' := [some (.ref 70), some (.int 4), some (.int 4)]) (st' := [.int ((nI b) + 4), .ref 70]) (h' := (shT, fi, fl, fr)) rfl ?_
    rw [show nI b + 4 = nI (b + 4) from nI_add b 4]
    refine gp_of (fun _ k9 => g_call (y := 154) (as := [.ref 70, .int (nI (b + 4))]) (st' := []) rfl rfl (b4) k9) ?_
    refine gp_n 1 (j' := 29) (lv' := [some (.ref 70), some (.int 4), some (.int 4)]) (st' := [.ref 70, .int (bA F t (b + 4))]) (h' := (shT, fi, fl, fr)) rfl ?_
    refine gp_of (fun _ k9 => g_getR (q' := 72) rfl rfl (by decide) k4 k9) ?_
    refine gp_n 5 (j' := 35) (lv' := [some (.ref 70), some (.int 4), some (.int 4)]) (st' := [.int 24, .ref 72, .int (bA F t (b + 4))]) (h' := (shT, fi, fl, fr)) rfl ?_
    refine gp_of (fun _ k9 => g_bald (k := 24) (x := 101) rfl rfl (by decide) (rfl) (by decide) (by decide) (w4) k9) ?_
    refine gp_of (fun _ k9 => g_icf rfl (show ¬ (¬ (bA F t (b + 4)) = (101 : Int32)) from fun z => z (q4.mpr c4)) k9) ?_
    refine gp_n 4 (j' := 12) (lv' := [some (.ref 70), some (.int 4), some (.int 5)]) (st' := [.int 5, .int 5]) (h' := (shT, fi, fl, fr)) rfl ?_
    refine gp_of (fun _ k9 => g_ict rfl (show (5 : Int32) ≤ (5 : Int32) from by decide) k9) ?_
    refine gp_n 2 (j' := 41) (lv' := [some (.ref 70), some (.int 4), some (.int 5)]) (st' := [.int 5, .int 5]) (h' := (shT, fi, fl, fr)) rfl ?_
    refine gp_of (fun _ k9 => g_ict rfl (show (5 : Int32) = (5 : Int32) from by decide) k9) ?_
    refine gp_n 2 (j' := 53) (lv' := [some (.ref 70), some (.int 4), some (.int 5)]) (st' := [.ref 70, .ref 70]) (h' := (shT, fi, fl, fr)) rfl ?_
    refine gp_of (fun _ k9 => g_getI (x := nI b) rfl (Or.inl rfl) rfl (by decide) (e2) k9) ?_
    refine gp_n 2 (j' := 56) (lv' := [some (.ref 70), some (.int 4), some (.int 5)]) (st' := [.int ((nI b) + 5), .ref 70]) (h' := (shT, fi, fl, fr)) rfl ?_
    rw [show nI b + 5 = nI (b + 5) from nI_add b 5]
    refine gp_of (fun _ k9 => g_call (y := 154) (as := [.ref 70, .int (nI (b + 5))]) (st' := []) rfl rfl (b5) k9) ?_
    refine gp_of (fun _ k9 => g_call (y := 155) (as := [.int (bA F t (b + 5))]) (st' := []) rfl rfl (l1) k9) ?_
    refine gp_of (fun _ k9 => g_ift rfl (show ¬ (1 : Int32) = (0 : Int32) from by decide) k9) ?_
    refine gp_n 2 (j' := 5) (lv' := [some (.ref 70), some (.int 5), some (.int 5)]) (st' := []) (h' := (shT, fi, fl, fr)) rfl ?_
    exact k2
  · have k1 := k1 (by simp only [mt]; rw [if_pos (show b + 0 < t ∧ F (b + 0) = (wd 4).getD 0 0 from c0)]; rw [if_pos (show b + 1 < t ∧ F (b + 1) = (wd 4).getD 1 0 from c1)]; rw [if_pos (show b + 2 < t ∧ F (b + 2) = (wd 4).getD 2 0 from c2)]; rw [if_pos (show b + 3 < t ∧ F (b + 3) = (wd 4).getD 3 0 from c3)]; rw [if_pos (show b + 4 < t ∧ F (b + 4) = (wd 4).getD 4 0 from c4)]; cases d1 : decide (b + 5 < t); rfl; cases d2 : cL (F (b + 5)); rfl; exact absurd ⟨of_decide_eq_true d1, d2⟩ cz)
    have l0 := l0 (fun z => cz (qL.mp z))
    refine gp_n 2 (j' := 7) (lv' := [some (.ref 70), some (.int 4), l]) (st' := [.int 6, .int 4]) (h' := (shT, fi, fl, fr)) rfl ?_
    refine gp_of (fun _ k9 => g_icf rfl (show ¬ ((6 : Int32) ≤ (4 : Int32)) from by decide) k9) ?_
    refine gp_n 4 (j' := 12) (lv' := [some (.ref 70), some (.int 4), some (.int 0)]) (st' := [.int 5, .int 0]) (h' := (shT, fi, fl, fr)) rfl ?_
    refine gp_of (fun _ k9 => g_icf rfl (show ¬ ((5 : Int32) ≤ (0 : Int32)) from by decide) k9) ?_
    refine gp_n 1 (j' := 14) (lv' := [some (.ref 70), some (.int 4), some (.int 0)]) (st' := [.ref 70]) (h' := (shT, fi, fl, fr)) rfl ?_
    refine gp_of (fun _ k9 => g_getR (q' := 72) rfl rfl (by decide) k4 k9) ?_
    refine gp_n 5 (j' := 20) (lv' := [some (.ref 70), some (.int 4), some (.int 0)]) (st' := [.int 20, .ref 72]) (h' := (shT, fi, fl, fr)) rfl ?_
    refine gp_of (fun _ k9 => g_bald (k := 20) (x := 101) rfl rfl (by decide) (rfl) (by decide) (by decide) (w0) k9) ?_
    refine gp_of (fun _ k9 => g_iff rfl (show ¬ ((101 : Int32) = (0 : Int32)) from by decide) k9) ?_
    refine gp_n 2 (j' := 24) (lv' := [some (.ref 70), some (.int 4), some (.int 0)]) (st' := [.ref 70, .ref 70]) (h' := (shT, fi, fl, fr)) rfl ?_
    refine gp_of (fun _ k9 => g_getI (x := nI b) rfl (Or.inl rfl) rfl (by decide) (e2) k9) ?_
    refine gp_n 2 (j' := 27) (lv' := [some (.ref 70), some (.int 4), some (.int 0)]) (st' := [.int ((nI b) + 0), .ref 70]) (h' := (shT, fi, fl, fr)) rfl ?_
    rw [show nI b + 0 = nI (b + 0) from nI_add b 0]
    refine gp_of (fun _ k9 => g_call (y := 154) (as := [.ref 70, .int (nI (b + 0))]) (st' := []) rfl rfl (b0) k9) ?_
    refine gp_n 1 (j' := 29) (lv' := [some (.ref 70), some (.int 4), some (.int 0)]) (st' := [.ref 70, .int (bA F t (b + 0))]) (h' := (shT, fi, fl, fr)) rfl ?_
    refine gp_of (fun _ k9 => g_getR (q' := 72) rfl rfl (by decide) k4 k9) ?_
    refine gp_n 5 (j' := 35) (lv' := [some (.ref 70), some (.int 4), some (.int 0)]) (st' := [.int 20, .ref 72, .int (bA F t (b + 0))]) (h' := (shT, fi, fl, fr)) rfl ?_
    refine gp_of (fun _ k9 => g_bald (k := 20) (x := 101) rfl rfl (by decide) (rfl) (by decide) (by decide) (w0) k9) ?_
    refine gp_of (fun _ k9 => g_icf rfl (show ¬ (¬ (bA F t (b + 0)) = (101 : Int32)) from fun z => z (q0.mpr c0)) k9) ?_
    refine gp_n 4 (j' := 12) (lv' := [some (.ref 70), some (.int 4), some (.int 1)]) (st' := [.int 5, .int 1]) (h' := (shT, fi, fl, fr)) rfl ?_
    refine gp_of (fun _ k9 => g_icf rfl (show ¬ ((5 : Int32) ≤ (1 : Int32)) from by decide) k9) ?_
    refine gp_n 1 (j' := 14) (lv' := [some (.ref 70), some (.int 4), some (.int 1)]) (st' := [.ref 70]) (h' := (shT, fi, fl, fr)) rfl ?_
    refine gp_of (fun _ k9 => g_getR (q' := 72) rfl rfl (by decide) k4 k9) ?_
    refine gp_n 5 (j' := 20) (lv' := [some (.ref 70), some (.int 4), some (.int 1)]) (st' := [.int 21, .ref 72]) (h' := (shT, fi, fl, fr)) rfl ?_
    refine gp_of (fun _ k9 => g_bald (k := 21) (x := 114) rfl rfl (by decide) (rfl) (by decide) (by decide) (w1) k9) ?_
    refine gp_of (fun _ k9 => g_iff rfl (show ¬ ((114 : Int32) = (0 : Int32)) from by decide) k9) ?_
    refine gp_n 2 (j' := 24) (lv' := [some (.ref 70), some (.int 4), some (.int 1)]) (st' := [.ref 70, .ref 70]) (h' := (shT, fi, fl, fr)) rfl ?_
    refine gp_of (fun _ k9 => g_getI (x := nI b) rfl (Or.inl rfl) rfl (by decide) (e2) k9) ?_
    refine gp_n 2 (j' := 27) (lv' := [some (.ref 70), some (.int 4), some (.int 1)]) (st' := [.int ((nI b) + 1), .ref 70]) (h' := (shT, fi, fl, fr)) rfl ?_
    rw [show nI b + 1 = nI (b + 1) from nI_add b 1]
    refine gp_of (fun _ k9 => g_call (y := 154) (as := [.ref 70, .int (nI (b + 1))]) (st' := []) rfl rfl (b1) k9) ?_
    refine gp_n 1 (j' := 29) (lv' := [some (.ref 70), some (.int 4), some (.int 1)]) (st' := [.ref 70, .int (bA F t (b + 1))]) (h' := (shT, fi, fl, fr)) rfl ?_
    refine gp_of (fun _ k9 => g_getR (q' := 72) rfl rfl (by decide) k4 k9) ?_
    refine gp_n 5 (j' := 35) (lv' := [some (.ref 70), some (.int 4), some (.int 1)]) (st' := [.int 21, .ref 72, .int (bA F t (b + 1))]) (h' := (shT, fi, fl, fr)) rfl ?_
    refine gp_of (fun _ k9 => g_bald (k := 21) (x := 114) rfl rfl (by decide) (rfl) (by decide) (by decide) (w1) k9) ?_
    refine gp_of (fun _ k9 => g_icf rfl (show ¬ (¬ (bA F t (b + 1)) = (114 : Int32)) from fun z => z (q1.mpr c1)) k9) ?_
    refine gp_n 4 (j' := 12) (lv' := [some (.ref 70), some (.int 4), some (.int 2)]) (st' := [.int 5, .int 2]) (h' := (shT, fi, fl, fr)) rfl ?_
    refine gp_of (fun _ k9 => g_icf rfl (show ¬ ((5 : Int32) ≤ (2 : Int32)) from by decide) k9) ?_
    refine gp_n 1 (j' := 14) (lv' := [some (.ref 70), some (.int 4), some (.int 2)]) (st' := [.ref 70]) (h' := (shT, fi, fl, fr)) rfl ?_
    refine gp_of (fun _ k9 => g_getR (q' := 72) rfl rfl (by decide) k4 k9) ?_
    refine gp_n 5 (j' := 20) (lv' := [some (.ref 70), some (.int 4), some (.int 2)]) (st' := [.int 22, .ref 72]) (h' := (shT, fi, fl, fr)) rfl ?_
    refine gp_of (fun _ k9 => g_bald (k := 22) (x := 97) rfl rfl (by decide) (rfl) (by decide) (by decide) (w2) k9) ?_
    refine gp_of (fun _ k9 => g_iff rfl (show ¬ ((97 : Int32) = (0 : Int32)) from by decide) k9) ?_
    refine gp_n 2 (j' := 24) (lv' := [some (.ref 70), some (.int 4), some (.int 2)]) (st' := [.ref 70, .ref 70]) (h' := (shT, fi, fl, fr)) rfl ?_
    refine gp_of (fun _ k9 => g_getI (x := nI b) rfl (Or.inl rfl) rfl (by decide) (e2) k9) ?_
    refine gp_n 2 (j' := 27) (lv' := [some (.ref 70), some (.int 4), some (.int 2)]) (st' := [.int ((nI b) + 2), .ref 70]) (h' := (shT, fi, fl, fr)) rfl ?_
    rw [show nI b + 2 = nI (b + 2) from nI_add b 2]
    refine gp_of (fun _ k9 => g_call (y := 154) (as := [.ref 70, .int (nI (b + 2))]) (st' := []) rfl rfl (b2) k9) ?_
    refine gp_n 1 (j' := 29) (lv' := [some (.ref 70), some (.int 4), some (.int 2)]) (st' := [.ref 70, .int (bA F t (b + 2))]) (h' := (shT, fi, fl, fr)) rfl ?_
    refine gp_of (fun _ k9 => g_getR (q' := 72) rfl rfl (by decide) k4 k9) ?_
    refine gp_n 5 (j' := 35) (lv' := [some (.ref 70), some (.int 4), some (.int 2)]) (st' := [.int 22, .ref 72, .int (bA F t (b + 2))]) (h' := (shT, fi, fl, fr)) rfl ?_
    refine gp_of (fun _ k9 => g_bald (k := 22) (x := 97) rfl rfl (by decide) (rfl) (by decide) (by decide) (w2) k9) ?_
    refine gp_of (fun _ k9 => g_icf rfl (show ¬ (¬ (bA F t (b + 2)) = (97 : Int32)) from fun z => z (q2.mpr c2)) k9) ?_
    refine gp_n 4 (j' := 12) (lv' := [some (.ref 70), some (.int 4), some (.int 3)]) (st' := [.int 5, .int 3]) (h' := (shT, fi, fl, fr)) rfl ?_
    refine gp_of (fun _ k9 => g_icf rfl (show ¬ ((5 : Int32) ≤ (3 : Int32)) from by decide) k9) ?_
    refine gp_n 1 (j' := 14) (lv' := [some (.ref 70), some (.int 4), some (.int 3)]) (st' := [.ref 70]) (h' := (shT, fi, fl, fr)) rfl ?_
    refine gp_of (fun _ k9 => g_getR (q' := 72) rfl rfl (by decide) k4 k9) ?_
    refine gp_n 5 (j' := 20) (lv' := [some (.ref 70), some (.int 4), some (.int 3)]) (st' := [.int 23, .ref 72]) (h' := (shT, fi, fl, fr)) rfl ?_
    refine gp_of (fun _ k9 => g_bald (k := 23) (x := 115) rfl rfl (by decide) (rfl) (by decide) (by decide) (w3) k9) ?_
    refine gp_of (fun _ k9 => g_iff rfl (show ¬ ((115 : Int32) = (0 : Int32)) from by decide) k9) ?_
    refine gp_n 2 (j' := 24) (lv' := [some (.ref 70), some (.int 4), some (.int 3)]) (st' := [.ref 70, .ref 70]) (h' := (shT, fi, fl, fr)) rfl ?_
    refine gp_of (fun _ k9 => g_getI (x := nI b) rfl (Or.inl rfl) rfl (by decide) (e2) k9) ?_
    refine gp_n 2 (j' := 27) (lv' := [some (.ref 70), some (.int 4), some (.int 3)]) (st' := [.int ((nI b) + 3), .ref 70]) (h' := (shT, fi, fl, fr)) rfl ?_
    rw [show nI b + 3 = nI (b + 3) from nI_add b 3]
    refine gp_of (fun _ k9 => g_call (y := 154) (as := [.ref 70, .int (nI (b + 3))]) (st' := []) rfl rfl (b3) k9) ?_
    refine gp_n 1 (j' := 29) (lv' := [some (.ref 70), some (.int 4), some (.int 3)]) (st' := [.ref 70, .int (bA F t (b + 3))]) (h' := (shT, fi, fl, fr)) rfl ?_
    refine gp_of (fun _ k9 => g_getR (q' := 72) rfl rfl (by decide) k4 k9) ?_
    refine gp_n 5 (j' := 35) (lv' := [some (.ref 70), some (.int 4), some (.int 3)]) (st' := [.int 23, .ref 72, .int (bA F t (b + 3))]) (h' := (shT, fi, fl, fr)) rfl ?_
    refine gp_of (fun _ k9 => g_bald (k := 23) (x := 115) rfl rfl (by decide) (rfl) (by decide) (by decide) (w3) k9) ?_
    refine gp_of (fun _ k9 => g_icf rfl (show ¬ (¬ (bA F t (b + 3)) = (115 : Int32)) from fun z => z (q3.mpr c3)) k9) ?_
    refine gp_n 4 (j' := 12) (lv' := [some (.ref 70), some (.int 4), some (.int 4)]) (st' := [.int 5, .int 4]) (h' := (shT, fi, fl, fr)) rfl ?_
    refine gp_of (fun _ k9 => g_icf rfl (show ¬ ((5 : Int32) ≤ (4 : Int32)) from by decide) k9) ?_
    refine gp_n 1 (j' := 14) (lv' := [some (.ref 70), some (.int 4), some (.int 4)]) (st' := [.ref 70]) (h' := (shT, fi, fl, fr)) rfl ?_
    refine gp_of (fun _ k9 => g_getR (q' := 72) rfl rfl (by decide) k4 k9) ?_
    refine gp_n 5 (j' := 20) (lv' := [some (.ref 70), some (.int 4), some (.int 4)]) (st' := [.int 24, .ref 72]) (h' := (shT, fi, fl, fr)) rfl ?_
    refine gp_of (fun _ k9 => g_bald (k := 24) (x := 101) rfl rfl (by decide) (rfl) (by decide) (by decide) (w4) k9) ?_
    refine gp_of (fun _ k9 => g_iff rfl (show ¬ ((101 : Int32) = (0 : Int32)) from by decide) k9) ?_
    refine gp_n 2 (j' := 24) (lv' := [some (.ref 70), some (.int 4), some (.int 4)]) (st' := [.ref 70, .ref 70]) (h' := (shT, fi, fl, fr)) rfl ?_
    refine gp_of (fun _ k9 => g_getI (x := nI b) rfl (Or.inl rfl) rfl (by decide) (e2) k9) ?_
    refine gp_n 2 (j' := 27) (lv' := [some (.ref 70), some (.int 4), some (.int 4)]) (st' := [.int ((nI b) + 4), .ref 70]) (h' := (shT, fi, fl, fr)) rfl ?_
    rw [show nI b + 4 = nI (b + 4) from nI_add b 4]
    refine gp_of (fun _ k9 => g_call (y := 154) (as := [.ref 70, .int (nI (b + 4))]) (st' := []) rfl rfl (b4) k9) ?_
    refine gp_n 1 (j' := 29) (lv' := [some (.ref 70), some (.int 4), some (.int 4)]) (st' := [.ref 70, .int (bA F t (b + 4))]) (h' := (shT, fi, fl, fr)) rfl ?_
    refine gp_of (fun _ k9 => g_getR (q' := 72) rfl rfl (by decide) k4 k9) ?_
    refine gp_n 5 (j' := 35) (lv' := [some (.ref 70), some (.int 4), some (.int 4)]) (st' := [.int 24, .ref 72, .int (bA F t (b + 4))]) (h' := (shT, fi, fl, fr)) rfl ?_
    refine gp_of (fun _ k9 => g_bald (k := 24) (x := 101) rfl rfl (by decide) (rfl) (by decide) (by decide) (w4) k9) ?_
    refine gp_of (fun _ k9 => g_icf rfl (show ¬ (¬ (bA F t (b + 4)) = (101 : Int32)) from fun z => z (q4.mpr c4)) k9) ?_
    refine gp_n 4 (j' := 12) (lv' := [some (.ref 70), some (.int 4), some (.int 5)]) (st' := [.int 5, .int 5]) (h' := (shT, fi, fl, fr)) rfl ?_
    refine gp_of (fun _ k9 => g_ict rfl (show (5 : Int32) ≤ (5 : Int32) from by decide) k9) ?_
    refine gp_n 2 (j' := 41) (lv' := [some (.ref 70), some (.int 4), some (.int 5)]) (st' := [.int 5, .int 5]) (h' := (shT, fi, fl, fr)) rfl ?_
    refine gp_of (fun _ k9 => g_ict rfl (show (5 : Int32) = (5 : Int32) from by decide) k9) ?_
    refine gp_n 2 (j' := 53) (lv' := [some (.ref 70), some (.int 4), some (.int 5)]) (st' := [.ref 70, .ref 70]) (h' := (shT, fi, fl, fr)) rfl ?_
    refine gp_of (fun _ k9 => g_getI (x := nI b) rfl (Or.inl rfl) rfl (by decide) (e2) k9) ?_
    refine gp_n 2 (j' := 56) (lv' := [some (.ref 70), some (.int 4), some (.int 5)]) (st' := [.int ((nI b) + 5), .ref 70]) (h' := (shT, fi, fl, fr)) rfl ?_
    rw [show nI b + 5 = nI (b + 5) from nI_add b 5]
    refine gp_of (fun _ k9 => g_call (y := 154) (as := [.ref 70, .int (nI (b + 5))]) (st' := []) rfl rfl (b5) k9) ?_
    refine gp_of (fun _ k9 => g_call (y := 155) (as := [.int (bA F t (b + 5))]) (st' := []) rfl rfl (l0) k9) ?_
    refine gp_of (fun _ k9 => g_iff rfl (show ¬ (¬ (0 : Int32) = (0 : Int32)) from by decide) k9) ?_
    refine gp_n 1 (j' := 60) (lv' := [some (.ref 70), some (.int 4), some (.int 5)]) (st' := [.int 4]) (h' := (shT, fi, fl, fr)) rfl ?_
    refine gp_done (g_ret rfl) ?_
    exact k1
theorem wh_5 {F : Nat → Int32} {t b : Nat} {h : PmH} {l : Option Value} {Q : Option Value × PmH → Prop} (ht : t ≤ 200) (hF : ∀ s, byR (F s)) (hb : b ≤ t) (hP : mp_P F t b h) (k1 : mt F t b (wd 5) 4 0 = true → Q (some (.int 5), h)) (k2 : mt F t b (wd 5) 4 0 = false → ∀ l', GoP pmT none cd_152 5 [some (.ref 70), some (.int 6), l'] [] h Q) : GoP pmT none cd_152 5 [some (.ref 70), some (.int 5), l] [] h Q := by
  have k4 : ph_r h 70 4 = some 72 := hi_r hP.1 rfl rfl (by decide)
  have e2 := hP.2.2.1
  have w0 : ph_i h 72 25 = 108 := hP.2.2.2.2 25 (by decide)
  have w1 : ph_i h 72 26 = 105 := hP.2.2.2.2 26 (by decide)
  have w2 : ph_i h 72 27 = 115 := hP.2.2.2.2 27 (by decide)
  have w3 : ph_i h 72 28 = 116 := hP.2.2.2.2 28 (by decide)
  have w4 : ph_i h 72 29 = 0 := hP.2.2.2.2 29 (by decide)
  have b0 := ba_ev (k := b + 0) ht (by omega) hP
  have b1 := ba_ev (k := b + 1) ht (by omega) hP
  have b2 := ba_ev (k := b + 2) ht (by omega) hP
  have b3 := ba_ev (k := b + 3) ht (by omega) hP
  have b4 := ba_ev (k := b + 4) ht (by omega) hP
  have hI := hP.1
  have q0 : bA F t (b + 0) = 108 ↔ (b + 0 < t ∧ F (b + 0) = 108) := bA_eq hF (by decide) (by decide)
  have q1 : bA F t (b + 1) = 105 ↔ (b + 1 < t ∧ F (b + 1) = 105) := bA_eq hF (by decide) (by decide)
  have q2 : bA F t (b + 2) = 115 ↔ (b + 2 < t ∧ F (b + 2) = 115) := bA_eq hF (by decide) (by decide)
  have q3 : bA F t (b + 3) = 116 ↔ (b + 3 < t ∧ F (b + 3) = 116) := bA_eq hF (by decide) (by decide)
  have qL : (97 ≤ bA F t (b + 4) ∧ bA F t (b + 4) ≤ 122) ↔ (b + 4 < t ∧ cL (F (b + 4)) = true) := bA_L hF
  have l1 := isL1 (x := bA F t (b + 4)) hI
  have l0 := isL0 (x := bA F t (b + 4)) hI
  clear hP
  obtain ⟨S, fi, fl, fr⟩ := h
  have hS : S = shT := hI.1
  subst hS
  have k4 : fr 70 4 = some 72 := k4
  have e2 : fi 70 2 = nI b := e2
  have w0 : fi 72 25 = 108 := w0
  have w1 : fi 72 26 = 105 := w1
  have w2 : fi 72 27 = 115 := w2
  have w3 : fi 72 28 = 116 := w3
  have w4 : fi 72 29 = 0 := w4
  by_cases c0 : b + 0 < t ∧ F (b + 0) = 108
  rotate_left
  · have k2 := k2 (by simp only [mt]; rw [if_neg (show ¬ (b + 0 < t ∧ F (b + 0) = (wd 5).getD 0 0) from c0)]) (some (.int 0))
    refine gp_n 2 (j' := 7) (lv' := [some (.ref 70), some (.int 5), l]) (st' := [.int 6, .int 5]) (h' := (shT, fi, fl, fr)) rfl ?_
    refine gp_of (fun _ k9 => g_icf rfl (show ¬ ((6 : Int32) ≤ (5 : Int32)) from by decide) k9) ?_
    refine gp_n 4 (j' := 12) (lv' := [some (.ref 70), some (.int 5), some (.int 0)]) (st' := [.int 5, .int 0]) (h' := (shT, fi, fl, fr)) rfl ?_
    refine gp_of (fun _ k9 => g_icf rfl (show ¬ ((5 : Int32) ≤ (0 : Int32)) from by decide) k9) ?_
    refine gp_n 1 (j' := 14) (lv' := [some (.ref 70), some (.int 5), some (.int 0)]) (st' := [.ref 70]) (h' := (shT, fi, fl, fr)) rfl ?_
    refine gp_of (fun _ k9 => g_getR (q' := 72) rfl rfl (by decide) k4 k9) ?_
    refine gp_n 5 (j' := 20) (lv' := [some (.ref 70), some (.int 5), some (.int 0)]) (st' := [.int 25, .ref 72]) (h' := (shT, fi, fl, fr)) rfl ?_
    refine gp_of (fun _ k9 => g_bald (k := 25) (x := 108) rfl rfl (by decide) (rfl) (by decide) (by decide) (w0) k9) ?_
    refine gp_of (fun _ k9 => g_iff rfl (show ¬ ((108 : Int32) = (0 : Int32)) from by decide) k9) ?_
    refine gp_n 2 (j' := 24) (lv' := [some (.ref 70), some (.int 5), some (.int 0)]) (st' := [.ref 70, .ref 70]) (h' := (shT, fi, fl, fr)) rfl ?_
    refine gp_of (fun _ k9 => g_getI (x := nI b) rfl (Or.inl rfl) rfl (by decide) (e2) k9) ?_
    refine gp_n 2 (j' := 27) (lv' := [some (.ref 70), some (.int 5), some (.int 0)]) (st' := [.int ((nI b) + 0), .ref 70]) (h' := (shT, fi, fl, fr)) rfl ?_
    rw [show nI b + 0 = nI (b + 0) from nI_add b 0]
    refine gp_of (fun _ k9 => g_call (y := 154) (as := [.ref 70, .int (nI (b + 0))]) (st' := []) rfl rfl (b0) k9) ?_
    refine gp_n 1 (j' := 29) (lv' := [some (.ref 70), some (.int 5), some (.int 0)]) (st' := [.ref 70, .int (bA F t (b + 0))]) (h' := (shT, fi, fl, fr)) rfl ?_
    refine gp_of (fun _ k9 => g_getR (q' := 72) rfl rfl (by decide) k4 k9) ?_
    refine gp_n 5 (j' := 35) (lv' := [some (.ref 70), some (.int 5), some (.int 0)]) (st' := [.int 25, .ref 72, .int (bA F t (b + 0))]) (h' := (shT, fi, fl, fr)) rfl ?_
    refine gp_of (fun _ k9 => g_bald (k := 25) (x := 108) rfl rfl (by decide) (rfl) (by decide) (by decide) (w0) k9) ?_
    refine gp_of (fun _ k9 => g_ict rfl (show ¬ (bA F t (b + 0)) = (108 : Int32) from fun z => c0 (q0.mp z)) k9) ?_
    refine gp_n 2 (j' := 41) (lv' := [some (.ref 70), some (.int 5), some (.int 0)]) (st' := [.int 5, .int 0]) (h' := (shT, fi, fl, fr)) rfl ?_
    refine gp_of (fun _ k9 => g_icf rfl (show ¬ ((0 : Int32) = (5 : Int32)) from by decide) k9) ?_
    refine gp_n 1 (j' := 43) (lv' := [some (.ref 70), some (.int 5), some (.int 0)]) (st' := [.ref 70]) (h' := (shT, fi, fl, fr)) rfl ?_
    refine gp_of (fun _ k9 => g_getR (q' := 72) rfl rfl (by decide) k4 k9) ?_
    refine gp_n 5 (j' := 49) (lv' := [some (.ref 70), some (.int 5), some (.int 0)]) (st' := [.int 25, .ref 72]) (h' := (shT, fi, fl, fr)) rfl ?_
    refine gp_of (fun _ k9 => g_bald (k := 25) (x := 108) rfl rfl (by decide) (rfl) (by decide) (by decide) (w0) k9) ?_
    refine gp_of (fun _ k9 => g_ift rfl (show ¬ (108 : Int32) = (0 : Int32) from by decide) k9) ?_
    refine gp_n 2 (j' := 5) (lv' := [some (.ref 70), some (.int 6), some (.int 0)]) (st' := []) (h' := (shT, fi, fl, fr)) rfl ?_
    exact k2
  by_cases c1 : b + 1 < t ∧ F (b + 1) = 105
  rotate_left
  · have k2 := k2 (by simp only [mt]; rw [if_pos (show b + 0 < t ∧ F (b + 0) = (wd 5).getD 0 0 from c0)]; rw [if_neg (show ¬ (b + 1 < t ∧ F (b + 1) = (wd 5).getD 1 0) from c1)]) (some (.int 1))
    refine gp_n 2 (j' := 7) (lv' := [some (.ref 70), some (.int 5), l]) (st' := [.int 6, .int 5]) (h' := (shT, fi, fl, fr)) rfl ?_
    refine gp_of (fun _ k9 => g_icf rfl (show ¬ ((6 : Int32) ≤ (5 : Int32)) from by decide) k9) ?_
    refine gp_n 4 (j' := 12) (lv' := [some (.ref 70), some (.int 5), some (.int 0)]) (st' := [.int 5, .int 0]) (h' := (shT, fi, fl, fr)) rfl ?_
    refine gp_of (fun _ k9 => g_icf rfl (show ¬ ((5 : Int32) ≤ (0 : Int32)) from by decide) k9) ?_
    refine gp_n 1 (j' := 14) (lv' := [some (.ref 70), some (.int 5), some (.int 0)]) (st' := [.ref 70]) (h' := (shT, fi, fl, fr)) rfl ?_
    refine gp_of (fun _ k9 => g_getR (q' := 72) rfl rfl (by decide) k4 k9) ?_
    refine gp_n 5 (j' := 20) (lv' := [some (.ref 70), some (.int 5), some (.int 0)]) (st' := [.int 25, .ref 72]) (h' := (shT, fi, fl, fr)) rfl ?_
    refine gp_of (fun _ k9 => g_bald (k := 25) (x := 108) rfl rfl (by decide) (rfl) (by decide) (by decide) (w0) k9) ?_
    refine gp_of (fun _ k9 => g_iff rfl (show ¬ ((108 : Int32) = (0 : Int32)) from by decide) k9) ?_
    refine gp_n 2 (j' := 24) (lv' := [some (.ref 70), some (.int 5), some (.int 0)]) (st' := [.ref 70, .ref 70]) (h' := (shT, fi, fl, fr)) rfl ?_
    refine gp_of (fun _ k9 => g_getI (x := nI b) rfl (Or.inl rfl) rfl (by decide) (e2) k9) ?_
    refine gp_n 2 (j' := 27) (lv' := [some (.ref 70), some (.int 5), some (.int 0)]) (st' := [.int ((nI b) + 0), .ref 70]) (h' := (shT, fi, fl, fr)) rfl ?_
    rw [show nI b + 0 = nI (b + 0) from nI_add b 0]
    refine gp_of (fun _ k9 => g_call (y := 154) (as := [.ref 70, .int (nI (b + 0))]) (st' := []) rfl rfl (b0) k9) ?_
    refine gp_n 1 (j' := 29) (lv' := [some (.ref 70), some (.int 5), some (.int 0)]) (st' := [.ref 70, .int (bA F t (b + 0))]) (h' := (shT, fi, fl, fr)) rfl ?_
    refine gp_of (fun _ k9 => g_getR (q' := 72) rfl rfl (by decide) k4 k9) ?_
    refine gp_n 5 (j' := 35) (lv' := [some (.ref 70), some (.int 5), some (.int 0)]) (st' := [.int 25, .ref 72, .int (bA F t (b + 0))]) (h' := (shT, fi, fl, fr)) rfl ?_
    refine gp_of (fun _ k9 => g_bald (k := 25) (x := 108) rfl rfl (by decide) (rfl) (by decide) (by decide) (w0) k9) ?_
    refine gp_of (fun _ k9 => g_icf rfl (show ¬ (¬ (bA F t (b + 0)) = (108 : Int32)) from fun z => z (q0.mpr c0)) k9) ?_
    refine gp_n 4 (j' := 12) (lv' := [some (.ref 70), some (.int 5), some (.int 1)]) (st' := [.int 5, .int 1]) (h' := (shT, fi, fl, fr)) rfl ?_
    refine gp_of (fun _ k9 => g_icf rfl (show ¬ ((5 : Int32) ≤ (1 : Int32)) from by decide) k9) ?_
    refine gp_n 1 (j' := 14) (lv' := [some (.ref 70), some (.int 5), some (.int 1)]) (st' := [.ref 70]) (h' := (shT, fi, fl, fr)) rfl ?_
    refine gp_of (fun _ k9 => g_getR (q' := 72) rfl rfl (by decide) k4 k9) ?_
    refine gp_n 5 (j' := 20) (lv' := [some (.ref 70), some (.int 5), some (.int 1)]) (st' := [.int 26, .ref 72]) (h' := (shT, fi, fl, fr)) rfl ?_
    refine gp_of (fun _ k9 => g_bald (k := 26) (x := 105) rfl rfl (by decide) (rfl) (by decide) (by decide) (w1) k9) ?_
    refine gp_of (fun _ k9 => g_iff rfl (show ¬ ((105 : Int32) = (0 : Int32)) from by decide) k9) ?_
    refine gp_n 2 (j' := 24) (lv' := [some (.ref 70), some (.int 5), some (.int 1)]) (st' := [.ref 70, .ref 70]) (h' := (shT, fi, fl, fr)) rfl ?_
    refine gp_of (fun _ k9 => g_getI (x := nI b) rfl (Or.inl rfl) rfl (by decide) (e2) k9) ?_
    refine gp_n 2 (j' := 27) (lv' := [some (.ref 70), some (.int 5), some (.int 1)]) (st' := [.int ((nI b) + 1), .ref 70]) (h' := (shT, fi, fl, fr)) rfl ?_
    rw [show nI b + 1 = nI (b + 1) from nI_add b 1]
    refine gp_of (fun _ k9 => g_call (y := 154) (as := [.ref 70, .int (nI (b + 1))]) (st' := []) rfl rfl (b1) k9) ?_
    refine gp_n 1 (j' := 29) (lv' := [some (.ref 70), some (.int 5), some (.int 1)]) (st' := [.ref 70, .int (bA F t (b + 1))]) (h' := (shT, fi, fl, fr)) rfl ?_
    refine gp_of (fun _ k9 => g_getR (q' := 72) rfl rfl (by decide) k4 k9) ?_
    refine gp_n 5 (j' := 35) (lv' := [some (.ref 70), some (.int 5), some (.int 1)]) (st' := [.int 26, .ref 72, .int (bA F t (b + 1))]) (h' := (shT, fi, fl, fr)) rfl ?_
    refine gp_of (fun _ k9 => g_bald (k := 26) (x := 105) rfl rfl (by decide) (rfl) (by decide) (by decide) (w1) k9) ?_
    refine gp_of (fun _ k9 => g_ict rfl (show ¬ (bA F t (b + 1)) = (105 : Int32) from fun z => c1 (q1.mp z)) k9) ?_
    refine gp_n 2 (j' := 41) (lv' := [some (.ref 70), some (.int 5), some (.int 1)]) (st' := [.int 5, .int 1]) (h' := (shT, fi, fl, fr)) rfl ?_
    refine gp_of (fun _ k9 => g_icf rfl (show ¬ ((1 : Int32) = (5 : Int32)) from by decide) k9) ?_
    refine gp_n 1 (j' := 43) (lv' := [some (.ref 70), some (.int 5), some (.int 1)]) (st' := [.ref 70]) (h' := (shT, fi, fl, fr)) rfl ?_
    refine gp_of (fun _ k9 => g_getR (q' := 72) rfl rfl (by decide) k4 k9) ?_
    refine gp_n 5 (j' := 49) (lv' := [some (.ref 70), some (.int 5), some (.int 1)]) (st' := [.int 26, .ref 72]) (h' := (shT, fi, fl, fr)) rfl ?_
    refine gp_of (fun _ k9 => g_bald (k := 26) (x := 105) rfl rfl (by decide) (rfl) (by decide) (by decide) (w1) k9) ?_
    refine gp_of (fun _ k9 => g_ift rfl (show ¬ (105 : Int32) = (0 : Int32) from by decide) k9) ?_
    refine gp_n 2 (j' := 5) (lv' := [some (.ref 70), some (.int 6), some (.int 1)]) (st' := []) (h' := (shT, fi, fl, fr)) rfl ?_
    exact k2
  by_cases c2 : b + 2 < t ∧ F (b + 2) = 115
  rotate_left
  · have k2 := k2 (by simp only [mt]; rw [if_pos (show b + 0 < t ∧ F (b + 0) = (wd 5).getD 0 0 from c0)]; rw [if_pos (show b + 1 < t ∧ F (b + 1) = (wd 5).getD 1 0 from c1)]; rw [if_neg (show ¬ (b + 2 < t ∧ F (b + 2) = (wd 5).getD 2 0) from c2)]) (some (.int 2))
    refine gp_n 2 (j' := 7) (lv' := [some (.ref 70), some (.int 5), l]) (st' := [.int 6, .int 5]) (h' := (shT, fi, fl, fr)) rfl ?_
    refine gp_of (fun _ k9 => g_icf rfl (show ¬ ((6 : Int32) ≤ (5 : Int32)) from by decide) k9) ?_
    refine gp_n 4 (j' := 12) (lv' := [some (.ref 70), some (.int 5), some (.int 0)]) (st' := [.int 5, .int 0]) (h' := (shT, fi, fl, fr)) rfl ?_
    refine gp_of (fun _ k9 => g_icf rfl (show ¬ ((5 : Int32) ≤ (0 : Int32)) from by decide) k9) ?_
    refine gp_n 1 (j' := 14) (lv' := [some (.ref 70), some (.int 5), some (.int 0)]) (st' := [.ref 70]) (h' := (shT, fi, fl, fr)) rfl ?_
    refine gp_of (fun _ k9 => g_getR (q' := 72) rfl rfl (by decide) k4 k9) ?_
    refine gp_n 5 (j' := 20) (lv' := [some (.ref 70), some (.int 5), some (.int 0)]) (st' := [.int 25, .ref 72]) (h' := (shT, fi, fl, fr)) rfl ?_
    refine gp_of (fun _ k9 => g_bald (k := 25) (x := 108) rfl rfl (by decide) (rfl) (by decide) (by decide) (w0) k9) ?_
    refine gp_of (fun _ k9 => g_iff rfl (show ¬ ((108 : Int32) = (0 : Int32)) from by decide) k9) ?_
    refine gp_n 2 (j' := 24) (lv' := [some (.ref 70), some (.int 5), some (.int 0)]) (st' := [.ref 70, .ref 70]) (h' := (shT, fi, fl, fr)) rfl ?_
    refine gp_of (fun _ k9 => g_getI (x := nI b) rfl (Or.inl rfl) rfl (by decide) (e2) k9) ?_
    refine gp_n 2 (j' := 27) (lv' := [some (.ref 70), some (.int 5), some (.int 0)]) (st' := [.int ((nI b) + 0), .ref 70]) (h' := (shT, fi, fl, fr)) rfl ?_
    rw [show nI b + 0 = nI (b + 0) from nI_add b 0]
    refine gp_of (fun _ k9 => g_call (y := 154) (as := [.ref 70, .int (nI (b + 0))]) (st' := []) rfl rfl (b0) k9) ?_
    refine gp_n 1 (j' := 29) (lv' := [some (.ref 70), some (.int 5), some (.int 0)]) (st' := [.ref 70, .int (bA F t (b + 0))]) (h' := (shT, fi, fl, fr)) rfl ?_
    refine gp_of (fun _ k9 => g_getR (q' := 72) rfl rfl (by decide) k4 k9) ?_
    refine gp_n 5 (j' := 35) (lv' := [some (.ref 70), some (.int 5), some (.int 0)]) (st' := [.int 25, .ref 72, .int (bA F t (b + 0))]) (h' := (shT, fi, fl, fr)) rfl ?_
    refine gp_of (fun _ k9 => g_bald (k := 25) (x := 108) rfl rfl (by decide) (rfl) (by decide) (by decide) (w0) k9) ?_
    refine gp_of (fun _ k9 => g_icf rfl (show ¬ (¬ (bA F t (b + 0)) = (108 : Int32)) from fun z => z (q0.mpr c0)) k9) ?_
    refine gp_n 4 (j' := 12) (lv' := [some (.ref 70), some (.int 5), some (.int 1)]) (st' := [.int 5, .int 1]) (h' := (shT, fi, fl, fr)) rfl ?_
    refine gp_of (fun _ k9 => g_icf rfl (show ¬ ((5 : Int32) ≤ (1 : Int32)) from by decide) k9) ?_
    refine gp_n 1 (j' := 14) (lv' := [some (.ref 70), some (.int 5), some (.int 1)]) (st' := [.ref 70]) (h' := (shT, fi, fl, fr)) rfl ?_
    refine gp_of (fun _ k9 => g_getR (q' := 72) rfl rfl (by decide) k4 k9) ?_
    refine gp_n 5 (j' := 20) (lv' := [some (.ref 70), some (.int 5), some (.int 1)]) (st' := [.int 26, .ref 72]) (h' := (shT, fi, fl, fr)) rfl ?_
    refine gp_of (fun _ k9 => g_bald (k := 26) (x := 105) rfl rfl (by decide) (rfl) (by decide) (by decide) (w1) k9) ?_
    refine gp_of (fun _ k9 => g_iff rfl (show ¬ ((105 : Int32) = (0 : Int32)) from by decide) k9) ?_
    refine gp_n 2 (j' := 24) (lv' := [some (.ref 70), some (.int 5), some (.int 1)]) (st' := [.ref 70, .ref 70]) (h' := (shT, fi, fl, fr)) rfl ?_
    refine gp_of (fun _ k9 => g_getI (x := nI b) rfl (Or.inl rfl) rfl (by decide) (e2) k9) ?_
    refine gp_n 2 (j' := 27) (lv' := [some (.ref 70), some (.int 5), some (.int 1)]) (st' := [.int ((nI b) + 1), .ref 70]) (h' := (shT, fi, fl, fr)) rfl ?_
    rw [show nI b + 1 = nI (b + 1) from nI_add b 1]
    refine gp_of (fun _ k9 => g_call (y := 154) (as := [.ref 70, .int (nI (b + 1))]) (st' := []) rfl rfl (b1) k9) ?_
    refine gp_n 1 (j' := 29) (lv' := [some (.ref 70), some (.int 5), some (.int 1)]) (st' := [.ref 70, .int (bA F t (b + 1))]) (h' := (shT, fi, fl, fr)) rfl ?_
    refine gp_of (fun _ k9 => g_getR (q' := 72) rfl rfl (by decide) k4 k9) ?_
    refine gp_n 5 (j' := 35) (lv' := [some (.ref 70), some (.int 5), some (.int 1)]) (st' := [.int 26, .ref 72, .int (bA F t (b + 1))]) (h' := (shT, fi, fl, fr)) rfl ?_
    refine gp_of (fun _ k9 => g_bald (k := 26) (x := 105) rfl rfl (by decide) (rfl) (by decide) (by decide) (w1) k9) ?_
    refine gp_of (fun _ k9 => g_icf rfl (show ¬ (¬ (bA F t (b + 1)) = (105 : Int32)) from fun z => z (q1.mpr c1)) k9) ?_
    refine gp_n 4 (j' := 12) (lv' := [some (.ref 70), some (.int 5), some (.int 2)]) (st' := [.int 5, .int 2]) (h' := (shT, fi, fl, fr)) rfl ?_
    refine gp_of (fun _ k9 => g_icf rfl (show ¬ ((5 : Int32) ≤ (2 : Int32)) from by decide) k9) ?_
    refine gp_n 1 (j' := 14) (lv' := [some (.ref 70), some (.int 5), some (.int 2)]) (st' := [.ref 70]) (h' := (shT, fi, fl, fr)) rfl ?_
    refine gp_of (fun _ k9 => g_getR (q' := 72) rfl rfl (by decide) k4 k9) ?_
    refine gp_n 5 (j' := 20) (lv' := [some (.ref 70), some (.int 5), some (.int 2)]) (st' := [.int 27, .ref 72]) (h' := (shT, fi, fl, fr)) rfl ?_
    refine gp_of (fun _ k9 => g_bald (k := 27) (x := 115) rfl rfl (by decide) (rfl) (by decide) (by decide) (w2) k9) ?_
    refine gp_of (fun _ k9 => g_iff rfl (show ¬ ((115 : Int32) = (0 : Int32)) from by decide) k9) ?_
    refine gp_n 2 (j' := 24) (lv' := [some (.ref 70), some (.int 5), some (.int 2)]) (st' := [.ref 70, .ref 70]) (h' := (shT, fi, fl, fr)) rfl ?_
    refine gp_of (fun _ k9 => g_getI (x := nI b) rfl (Or.inl rfl) rfl (by decide) (e2) k9) ?_
    refine gp_n 2 (j' := 27) (lv' := [some (.ref 70), some (.int 5), some (.int 2)]) (st' := [.int ((nI b) + 2), .ref 70]) (h' := (shT, fi, fl, fr)) rfl ?_
    rw [show nI b + 2 = nI (b + 2) from nI_add b 2]
    refine gp_of (fun _ k9 => g_call (y := 154) (as := [.ref 70, .int (nI (b + 2))]) (st' := []) rfl rfl (b2) k9) ?_
    refine gp_n 1 (j' := 29) (lv' := [some (.ref 70), some (.int 5), some (.int 2)]) (st' := [.ref 70, .int (bA F t (b + 2))]) (h' := (shT, fi, fl, fr)) rfl ?_
    refine gp_of (fun _ k9 => g_getR (q' := 72) rfl rfl (by decide) k4 k9) ?_
    refine gp_n 5 (j' := 35) (lv' := [some (.ref 70), some (.int 5), some (.int 2)]) (st' := [.int 27, .ref 72, .int (bA F t (b + 2))]) (h' := (shT, fi, fl, fr)) rfl ?_
    refine gp_of (fun _ k9 => g_bald (k := 27) (x := 115) rfl rfl (by decide) (rfl) (by decide) (by decide) (w2) k9) ?_
    refine gp_of (fun _ k9 => g_ict rfl (show ¬ (bA F t (b + 2)) = (115 : Int32) from fun z => c2 (q2.mp z)) k9) ?_
    refine gp_n 2 (j' := 41) (lv' := [some (.ref 70), some (.int 5), some (.int 2)]) (st' := [.int 5, .int 2]) (h' := (shT, fi, fl, fr)) rfl ?_
    refine gp_of (fun _ k9 => g_icf rfl (show ¬ ((2 : Int32) = (5 : Int32)) from by decide) k9) ?_
    refine gp_n 1 (j' := 43) (lv' := [some (.ref 70), some (.int 5), some (.int 2)]) (st' := [.ref 70]) (h' := (shT, fi, fl, fr)) rfl ?_
    refine gp_of (fun _ k9 => g_getR (q' := 72) rfl rfl (by decide) k4 k9) ?_
    refine gp_n 5 (j' := 49) (lv' := [some (.ref 70), some (.int 5), some (.int 2)]) (st' := [.int 27, .ref 72]) (h' := (shT, fi, fl, fr)) rfl ?_
    refine gp_of (fun _ k9 => g_bald (k := 27) (x := 115) rfl rfl (by decide) (rfl) (by decide) (by decide) (w2) k9) ?_
    refine gp_of (fun _ k9 => g_ift rfl (show ¬ (115 : Int32) = (0 : Int32) from by decide) k9) ?_
    refine gp_n 2 (j' := 5) (lv' := [some (.ref 70), some (.int 6), some (.int 2)]) (st' := []) (h' := (shT, fi, fl, fr)) rfl ?_
    exact k2
  by_cases c3 : b + 3 < t ∧ F (b + 3) = 116
  rotate_left
  · have k2 := k2 (by simp only [mt]; rw [if_pos (show b + 0 < t ∧ F (b + 0) = (wd 5).getD 0 0 from c0)]; rw [if_pos (show b + 1 < t ∧ F (b + 1) = (wd 5).getD 1 0 from c1)]; rw [if_pos (show b + 2 < t ∧ F (b + 2) = (wd 5).getD 2 0 from c2)]; rw [if_neg (show ¬ (b + 3 < t ∧ F (b + 3) = (wd 5).getD 3 0) from c3)]) (some (.int 3))
    refine gp_n 2 (j' := 7) (lv' := [some (.ref 70), some (.int 5), l]) (st' := [.int 6, .int 5]) (h' := (shT, fi, fl, fr)) rfl ?_
    refine gp_of (fun _ k9 => g_icf rfl (show ¬ ((6 : Int32) ≤ (5 : Int32)) from by decide) k9) ?_
    refine gp_n 4 (j' := 12) (lv' := [some (.ref 70), some (.int 5), some (.int 0)]) (st' := [.int 5, .int 0]) (h' := (shT, fi, fl, fr)) rfl ?_
    refine gp_of (fun _ k9 => g_icf rfl (show ¬ ((5 : Int32) ≤ (0 : Int32)) from by decide) k9) ?_
    refine gp_n 1 (j' := 14) (lv' := [some (.ref 70), some (.int 5), some (.int 0)]) (st' := [.ref 70]) (h' := (shT, fi, fl, fr)) rfl ?_
    refine gp_of (fun _ k9 => g_getR (q' := 72) rfl rfl (by decide) k4 k9) ?_
    refine gp_n 5 (j' := 20) (lv' := [some (.ref 70), some (.int 5), some (.int 0)]) (st' := [.int 25, .ref 72]) (h' := (shT, fi, fl, fr)) rfl ?_
    refine gp_of (fun _ k9 => g_bald (k := 25) (x := 108) rfl rfl (by decide) (rfl) (by decide) (by decide) (w0) k9) ?_
    refine gp_of (fun _ k9 => g_iff rfl (show ¬ ((108 : Int32) = (0 : Int32)) from by decide) k9) ?_
    refine gp_n 2 (j' := 24) (lv' := [some (.ref 70), some (.int 5), some (.int 0)]) (st' := [.ref 70, .ref 70]) (h' := (shT, fi, fl, fr)) rfl ?_
    refine gp_of (fun _ k9 => g_getI (x := nI b) rfl (Or.inl rfl) rfl (by decide) (e2) k9) ?_
    refine gp_n 2 (j' := 27) (lv' := [some (.ref 70), some (.int 5), some (.int 0)]) (st' := [.int ((nI b) + 0), .ref 70]) (h' := (shT, fi, fl, fr)) rfl ?_
    rw [show nI b + 0 = nI (b + 0) from nI_add b 0]
    refine gp_of (fun _ k9 => g_call (y := 154) (as := [.ref 70, .int (nI (b + 0))]) (st' := []) rfl rfl (b0) k9) ?_
    refine gp_n 1 (j' := 29) (lv' := [some (.ref 70), some (.int 5), some (.int 0)]) (st' := [.ref 70, .int (bA F t (b + 0))]) (h' := (shT, fi, fl, fr)) rfl ?_
    refine gp_of (fun _ k9 => g_getR (q' := 72) rfl rfl (by decide) k4 k9) ?_
    refine gp_n 5 (j' := 35) (lv' := [some (.ref 70), some (.int 5), some (.int 0)]) (st' := [.int 25, .ref 72, .int (bA F t (b + 0))]) (h' := (shT, fi, fl, fr)) rfl ?_
    refine gp_of (fun _ k9 => g_bald (k := 25) (x := 108) rfl rfl (by decide) (rfl) (by decide) (by decide) (w0) k9) ?_
    refine gp_of (fun _ k9 => g_icf rfl (show ¬ (¬ (bA F t (b + 0)) = (108 : Int32)) from fun z => z (q0.mpr c0)) k9) ?_
    refine gp_n 4 (j' := 12) (lv' := [some (.ref 70), some (.int 5), some (.int 1)]) (st' := [.int 5, .int 1]) (h' := (shT, fi, fl, fr)) rfl ?_
    refine gp_of (fun _ k9 => g_icf rfl (show ¬ ((5 : Int32) ≤ (1 : Int32)) from by decide) k9) ?_
    refine gp_n 1 (j' := 14) (lv' := [some (.ref 70), some (.int 5), some (.int 1)]) (st' := [.ref 70]) (h' := (shT, fi, fl, fr)) rfl ?_
    refine gp_of (fun _ k9 => g_getR (q' := 72) rfl rfl (by decide) k4 k9) ?_
    refine gp_n 5 (j' := 20) (lv' := [some (.ref 70), some (.int 5), some (.int 1)]) (st' := [.int 26, .ref 72]) (h' := (shT, fi, fl, fr)) rfl ?_
    refine gp_of (fun _ k9 => g_bald (k := 26) (x := 105) rfl rfl (by decide) (rfl) (by decide) (by decide) (w1) k9) ?_
    refine gp_of (fun _ k9 => g_iff rfl (show ¬ ((105 : Int32) = (0 : Int32)) from by decide) k9) ?_
    refine gp_n 2 (j' := 24) (lv' := [some (.ref 70), some (.int 5), some (.int 1)]) (st' := [.ref 70, .ref 70]) (h' := (shT, fi, fl, fr)) rfl ?_
    refine gp_of (fun _ k9 => g_getI (x := nI b) rfl (Or.inl rfl) rfl (by decide) (e2) k9) ?_
    refine gp_n 2 (j' := 27) (lv' := [some (.ref 70), some (.int 5), some (.int 1)]) (st' := [.int ((nI b) + 1), .ref 70]) (h' := (shT, fi, fl, fr)) rfl ?_
    rw [show nI b + 1 = nI (b + 1) from nI_add b 1]
    refine gp_of (fun _ k9 => g_call (y := 154) (as := [.ref 70, .int (nI (b + 1))]) (st' := []) rfl rfl (b1) k9) ?_
    refine gp_n 1 (j' := 29) (lv' := [some (.ref 70), some (.int 5), some (.int 1)]) (st' := [.ref 70, .int (bA F t (b + 1))]) (h' := (shT, fi, fl, fr)) rfl ?_
    refine gp_of (fun _ k9 => g_getR (q' := 72) rfl rfl (by decide) k4 k9) ?_
    refine gp_n 5 (j' := 35) (lv' := [some (.ref 70), some (.int 5), some (.int 1)]) (st' := [.int 26, .ref 72, .int (bA F t (b + 1))]) (h' := (shT, fi, fl, fr)) rfl ?_
    refine gp_of (fun _ k9 => g_bald (k := 26) (x := 105) rfl rfl (by decide) (rfl) (by decide) (by decide) (w1) k9) ?_
    refine gp_of (fun _ k9 => g_icf rfl (show ¬ (¬ (bA F t (b + 1)) = (105 : Int32)) from fun z => z (q1.mpr c1)) k9) ?_
    refine gp_n 4 (j' := 12) (lv' := [some (.ref 70), some (.int 5), some (.int 2)]) (st' := [.int 5, .int 2]) (h' := (shT, fi, fl, fr)) rfl ?_
    refine gp_of (fun _ k9 => g_icf rfl (show ¬ ((5 : Int32) ≤ (2 : Int32)) from by decide) k9) ?_
    refine gp_n 1 (j' := 14) (lv' := [some (.ref 70), some (.int 5), some (.int 2)]) (st' := [.ref 70]) (h' := (shT, fi, fl, fr)) rfl ?_
    refine gp_of (fun _ k9 => g_getR (q' := 72) rfl rfl (by decide) k4 k9) ?_
    refine gp_n 5 (j' := 20) (lv' := [some (.ref 70), some (.int 5), some (.int 2)]) (st' := [.int 27, .ref 72]) (h' := (shT, fi, fl, fr)) rfl ?_
    refine gp_of (fun _ k9 => g_bald (k := 27) (x := 115) rfl rfl (by decide) (rfl) (by decide) (by decide) (w2) k9) ?_
    refine gp_of (fun _ k9 => g_iff rfl (show ¬ ((115 : Int32) = (0 : Int32)) from by decide) k9) ?_
    refine gp_n 2 (j' := 24) (lv' := [some (.ref 70), some (.int 5), some (.int 2)]) (st' := [.ref 70, .ref 70]) (h' := (shT, fi, fl, fr)) rfl ?_
    refine gp_of (fun _ k9 => g_getI (x := nI b) rfl (Or.inl rfl) rfl (by decide) (e2) k9) ?_
    refine gp_n 2 (j' := 27) (lv' := [some (.ref 70), some (.int 5), some (.int 2)]) (st' := [.int ((nI b) + 2), .ref 70]) (h' := (shT, fi, fl, fr)) rfl ?_
    rw [show nI b + 2 = nI (b + 2) from nI_add b 2]
    refine gp_of (fun _ k9 => g_call (y := 154) (as := [.ref 70, .int (nI (b + 2))]) (st' := []) rfl rfl (b2) k9) ?_
    refine gp_n 1 (j' := 29) (lv' := [some (.ref 70), some (.int 5), some (.int 2)]) (st' := [.ref 70, .int (bA F t (b + 2))]) (h' := (shT, fi, fl, fr)) rfl ?_
    refine gp_of (fun _ k9 => g_getR (q' := 72) rfl rfl (by decide) k4 k9) ?_
    refine gp_n 5 (j' := 35) (lv' := [some (.ref 70), some (.int 5), some (.int 2)]) (st' := [.int 27, .ref 72, .int (bA F t (b + 2))]) (h' := (shT, fi, fl, fr)) rfl ?_
    refine gp_of (fun _ k9 => g_bald (k := 27) (x := 115) rfl rfl (by decide) (rfl) (by decide) (by decide) (w2) k9) ?_
    refine gp_of (fun _ k9 => g_icf rfl (show ¬ (¬ (bA F t (b + 2)) = (115 : Int32)) from fun z => z (q2.mpr c2)) k9) ?_
    refine gp_n 4 (j' := 12) (lv' := [some (.ref 70), some (.int 5), some (.int 3)]) (st' := [.int 5, .int 3]) (h' := (shT, fi, fl, fr)) rfl ?_
    refine gp_of (fun _ k9 => g_icf rfl (show ¬ ((5 : Int32) ≤ (3 : Int32)) from by decide) k9) ?_
    refine gp_n 1 (j' := 14) (lv' := [some (.ref 70), some (.int 5), some (.int 3)]) (st' := [.ref 70]) (h' := (shT, fi, fl, fr)) rfl ?_
    refine gp_of (fun _ k9 => g_getR (q' := 72) rfl rfl (by decide) k4 k9) ?_
    refine gp_n 5 (j' := 20) (lv' := [some (.ref 70), some (.int 5), some (.int 3)]) (st' := [.int 28, .ref 72]) (h' := (shT, fi, fl, fr)) rfl ?_
    refine gp_of (fun _ k9 => g_bald (k := 28) (x := 116) rfl rfl (by decide) (rfl) (by decide) (by decide) (w3) k9) ?_
    refine gp_of (fun _ k9 => g_iff rfl (show ¬ ((116 : Int32) = (0 : Int32)) from by decide) k9) ?_
    refine gp_n 2 (j' := 24) (lv' := [some (.ref 70), some (.int 5), some (.int 3)]) (st' := [.ref 70, .ref 70]) (h' := (shT, fi, fl, fr)) rfl ?_
    refine gp_of (fun _ k9 => g_getI (x := nI b) rfl (Or.inl rfl) rfl (by decide) (e2) k9) ?_
    refine gp_n 2 (j' := 27) (lv' := [some (.ref 70), some (.int 5), some (.int 3)]) (st' := [.int ((nI b) + 3), .ref 70]) (h' := (shT, fi, fl, fr)) rfl ?_
    rw [show nI b + 3 = nI (b + 3) from nI_add b 3]
    refine gp_of (fun _ k9 => g_call (y := 154) (as := [.ref 70, .int (nI (b + 3))]) (st' := []) rfl rfl (b3) k9) ?_
    refine gp_n 1 (j' := 29) (lv' := [some (.ref 70), some (.int 5), some (.int 3)]) (st' := [.ref 70, .int (bA F t (b + 3))]) (h' := (shT, fi, fl, fr)) rfl ?_
    refine gp_of (fun _ k9 => g_getR (q' := 72) rfl rfl (by decide) k4 k9) ?_
    refine gp_n 5 (j' := 35) (lv' := [some (.ref 70), some (.int 5), some (.int 3)]) (st' := [.int 28, .ref 72, .int (bA F t (b + 3))]) (h' := (shT, fi, fl, fr)) rfl ?_
    refine gp_of (fun _ k9 => g_bald (k := 28) (x := 116) rfl rfl (by decide) (rfl) (by decide) (by decide) (w3) k9) ?_
    refine gp_of (fun _ k9 => g_ict rfl (show ¬ (bA F t (b + 3)) = (116 : Int32) from fun z => c3 (q3.mp z)) k9) ?_
    refine gp_n 2 (j' := 41) (lv' := [some (.ref 70), some (.int 5), some (.int 3)]) (st' := [.int 5, .int 3]) (h' := (shT, fi, fl, fr)) rfl ?_
    refine gp_of (fun _ k9 => g_icf rfl (show ¬ ((3 : Int32) = (5 : Int32)) from by decide) k9) ?_
    refine gp_n 1 (j' := 43) (lv' := [some (.ref 70), some (.int 5), some (.int 3)]) (st' := [.ref 70]) (h' := (shT, fi, fl, fr)) rfl ?_
    refine gp_of (fun _ k9 => g_getR (q' := 72) rfl rfl (by decide) k4 k9) ?_
    refine gp_n 5 (j' := 49) (lv' := [some (.ref 70), some (.int 5), some (.int 3)]) (st' := [.int 28, .ref 72]) (h' := (shT, fi, fl, fr)) rfl ?_
    refine gp_of (fun _ k9 => g_bald (k := 28) (x := 116) rfl rfl (by decide) (rfl) (by decide) (by decide) (w3) k9) ?_
    refine gp_of (fun _ k9 => g_ift rfl (show ¬ (116 : Int32) = (0 : Int32) from by decide) k9) ?_
    refine gp_n 2 (j' := 5) (lv' := [some (.ref 70), some (.int 6), some (.int 3)]) (st' := []) (h' := (shT, fi, fl, fr)) rfl ?_
    exact k2
  by_cases cz : b + 4 < t ∧ cL (F (b + 4)) = true
  · have k2 := k2 (by simp only [mt]; rw [if_pos (show b + 0 < t ∧ F (b + 0) = (wd 5).getD 0 0 from c0)]; rw [if_pos (show b + 1 < t ∧ F (b + 1) = (wd 5).getD 1 0 from c1)]; rw [if_pos (show b + 2 < t ∧ F (b + 2) = (wd 5).getD 2 0 from c2)]; rw [if_pos (show b + 3 < t ∧ F (b + 3) = (wd 5).getD 3 0 from c3)]; rw [decide_eq_true cz.1, cz.2]; rfl) (some (.int 4))
    have l1 := l1 (qL.mpr cz)
    refine gp_n 2 (j' := 7) (lv' := [some (.ref 70), some (.int 5), l]) (st' := [.int 6, .int 5]) (h' := (shT, fi, fl, fr)) rfl ?_
    refine gp_of (fun _ k9 => g_icf rfl (show ¬ ((6 : Int32) ≤ (5 : Int32)) from by decide) k9) ?_
    refine gp_n 4 (j' := 12) (lv' := [some (.ref 70), some (.int 5), some (.int 0)]) (st' := [.int 5, .int 0]) (h' := (shT, fi, fl, fr)) rfl ?_
    refine gp_of (fun _ k9 => g_icf rfl (show ¬ ((5 : Int32) ≤ (0 : Int32)) from by decide) k9) ?_
    refine gp_n 1 (j' := 14) (lv' := [some (.ref 70), some (.int 5), some (.int 0)]) (st' := [.ref 70]) (h' := (shT, fi, fl, fr)) rfl ?_
    refine gp_of (fun _ k9 => g_getR (q' := 72) rfl rfl (by decide) k4 k9) ?_
    refine gp_n 5 (j' := 20) (lv' := [some (.ref 70), some (.int 5), some (.int 0)]) (st' := [.int 25, .ref 72]) (h' := (shT, fi, fl, fr)) rfl ?_
    refine gp_of (fun _ k9 => g_bald (k := 25) (x := 108) rfl rfl (by decide) (rfl) (by decide) (by decide) (w0) k9) ?_
    refine gp_of (fun _ k9 => g_iff rfl (show ¬ ((108 : Int32) = (0 : Int32)) from by decide) k9) ?_
    refine gp_n 2 (j' := 24) (lv' := [some (.ref 70), some (.int 5), some (.int 0)]) (st' := [.ref 70, .ref 70]) (h' := (shT, fi, fl, fr)) rfl ?_
    refine gp_of (fun _ k9 => g_getI (x := nI b) rfl (Or.inl rfl) rfl (by decide) (e2) k9) ?_
    refine gp_n 2 (j' := 27) (lv' := [some (.ref 70), some (.int 5), some (.int 0)]) (st' := [.int ((nI b) + 0), .ref 70]) (h' := (shT, fi, fl, fr)) rfl ?_
    rw [show nI b + 0 = nI (b + 0) from nI_add b 0]
    refine gp_of (fun _ k9 => g_call (y := 154) (as := [.ref 70, .int (nI (b + 0))]) (st' := []) rfl rfl (b0) k9) ?_
    refine gp_n 1 (j' := 29) (lv' := [some (.ref 70), some (.int 5), some (.int 0)]) (st' := [.ref 70, .int (bA F t (b + 0))]) (h' := (shT, fi, fl, fr)) rfl ?_
    refine gp_of (fun _ k9 => g_getR (q' := 72) rfl rfl (by decide) k4 k9) ?_
    refine gp_n 5 (j' := 35) (lv' := [some (.ref 70), some (.int 5), some (.int 0)]) (st' := [.int 25, .ref 72, .int (bA F t (b + 0))]) (h' := (shT, fi, fl, fr)) rfl ?_
    refine gp_of (fun _ k9 => g_bald (k := 25) (x := 108) rfl rfl (by decide) (rfl) (by decide) (by decide) (w0) k9) ?_
    refine gp_of (fun _ k9 => g_icf rfl (show ¬ (¬ (bA F t (b + 0)) = (108 : Int32)) from fun z => z (q0.mpr c0)) k9) ?_
    refine gp_n 4 (j' := 12) (lv' := [some (.ref 70), some (.int 5), some (.int 1)]) (st' := [.int 5, .int 1]) (h' := (shT, fi, fl, fr)) rfl ?_
    refine gp_of (fun _ k9 => g_icf rfl (show ¬ ((5 : Int32) ≤ (1 : Int32)) from by decide) k9) ?_
    refine gp_n 1 (j' := 14) (lv' := [some (.ref 70), some (.int 5), some (.int 1)]) (st' := [.ref 70]) (h' := (shT, fi, fl, fr)) rfl ?_
    refine gp_of (fun _ k9 => g_getR (q' := 72) rfl rfl (by decide) k4 k9) ?_
    refine gp_n 5 (j' := 20) (lv' := [some (.ref 70), some (.int 5), some (.int 1)]) (st' := [.int 26, .ref 72]) (h' := (shT, fi, fl, fr)) rfl ?_
    refine gp_of (fun _ k9 => g_bald (k := 26) (x := 105) rfl rfl (by decide) (rfl) (by decide) (by decide) (w1) k9) ?_
    refine gp_of (fun _ k9 => g_iff rfl (show ¬ ((105 : Int32) = (0 : Int32)) from by decide) k9) ?_
    refine gp_n 2 (j' := 24) (lv' := [some (.ref 70), some (.int 5), some (.int 1)]) (st' := [.ref 70, .ref 70]) (h' := (shT, fi, fl, fr)) rfl ?_
    refine gp_of (fun _ k9 => g_getI (x := nI b) rfl (Or.inl rfl) rfl (by decide) (e2) k9) ?_
    refine gp_n 2 (j' := 27) (lv' := [some (.ref 70), some (.int 5), some (.int 1)]) (st' := [.int ((nI b) + 1), .ref 70]) (h' := (shT, fi, fl, fr)) rfl ?_
    rw [show nI b + 1 = nI (b + 1) from nI_add b 1]
    refine gp_of (fun _ k9 => g_call (y := 154) (as := [.ref 70, .int (nI (b + 1))]) (st' := []) rfl rfl (b1) k9) ?_
    refine gp_n 1 (j' := 29) (lv' := [some (.ref 70), some (.int 5), some (.int 1)]) (st' := [.ref 70, .int (bA F t (b + 1))]) (h' := (shT, fi, fl, fr)) rfl ?_
    refine gp_of (fun _ k9 => g_getR (q' := 72) rfl rfl (by decide) k4 k9) ?_
    refine gp_n 5 (j' := 35) (lv' := [some (.ref 70), some (.int 5), some (.int 1)]) (st' := [.int 26, .ref 72, .int (bA F t (b + 1))]) (h' := (shT, fi, fl, fr)) rfl ?_
    refine gp_of (fun _ k9 => g_bald (k := 26) (x := 105) rfl rfl (by decide) (rfl) (by decide) (by decide) (w1) k9) ?_
    refine gp_of (fun _ k9 => g_icf rfl (show ¬ (¬ (bA F t (b + 1)) = (105 : Int32)) from fun z => z (q1.mpr c1)) k9) ?_
    refine gp_n 4 (j' := 12) (lv' := [some (.ref 70), some (.int 5), some (.int 2)]) (st' := [.int 5, .int 2]) (h' := (shT, fi, fl, fr)) rfl ?_
    refine gp_of (fun _ k9 => g_icf rfl (show ¬ ((5 : Int32) ≤ (2 : Int32)) from by decide) k9) ?_
    refine gp_n 1 (j' := 14) (lv' := [some (.ref 70), some (.int 5), some (.int 2)]) (st' := [.ref 70]) (h' := (shT, fi, fl, fr)) rfl ?_
    refine gp_of (fun _ k9 => g_getR (q' := 72) rfl rfl (by decide) k4 k9) ?_
    refine gp_n 5 (j' := 20) (lv' := [some (.ref 70), some (.int 5), some (.int 2)]) (st' := [.int 27, .ref 72]) (h' := (shT, fi, fl, fr)) rfl ?_
    refine gp_of (fun _ k9 => g_bald (k := 27) (x := 115) rfl rfl (by decide) (rfl) (by decide) (by decide) (w2) k9) ?_
    refine gp_of (fun _ k9 => g_iff rfl (show ¬ ((115 : Int32) = (0 : Int32)) from by decide) k9) ?_
    refine gp_n 2 (j' := 24) (lv' := [some (.ref 70), some (.int 5), some (.int 2)]) (st' := [.ref 70, .ref 70]) (h' := (shT, fi, fl, fr)) rfl ?_
    refine gp_of (fun _ k9 => g_getI (x := nI b) rfl (Or.inl rfl) rfl (by decide) (e2) k9) ?_
    refine gp_n 2 (j' := 27) (lv' := [some (.ref 70), some (.int 5), some (.int 2)]) (st' := [.int ((nI b) + 2), .ref 70]) (h' := (shT, fi, fl, fr)) rfl ?_
    rw [show nI b + 2 = nI (b + 2) from nI_add b 2]
    refine gp_of (fun _ k9 => g_call (y := 154) (as := [.ref 70, .int (nI (b + 2))]) (st' := []) rfl rfl (b2) k9) ?_
    refine gp_n 1 (j' := 29) (lv' := [some (.ref 70), some (.int 5), some (.int 2)]) (st' := [.ref 70, .int (bA F t (b + 2))]) (h' := (shT, fi, fl, fr)) rfl ?_
    refine gp_of (fun _ k9 => g_getR (q' := 72) rfl rfl (by decide) k4 k9) ?_
    refine gp_n 5 (j' := 35) (lv' := [some (.ref 70), some (.int 5), some (.int 2)]) (st' := [.int 27, .ref 72, .int (bA F t (b + 2))]) (h' := (shT, fi, fl, fr)) rfl ?_
    refine gp_of (fun _ k9 => g_bald (k := 27) (x := 115) rfl rfl (by decide) (rfl) (by decide) (by decide) (w2) k9) ?_
    refine gp_of (fun _ k9 => g_icf rfl (show ¬ (¬ (bA F t (b + 2)) = (115 : Int32)) from fun z => z (q2.mpr c2)) k9) ?_
    refine gp_n 4 (j' := 12) (lv' := [some (.ref 70), some (.int 5), some (.int 3)]) (st' := [.int 5, .int 3]) (h' := (shT, fi, fl, fr)) rfl ?_
    refine gp_of (fun _ k9 => g_icf rfl (show ¬ ((5 : Int32) ≤ (3 : Int32)) from by decide) k9) ?_
    refine gp_n 1 (j' := 14) (lv' := [some (.ref 70), some (.int 5), some (.int 3)]) (st' := [.ref 70]) (h' := (shT, fi, fl, fr)) rfl ?_
    refine gp_of (fun _ k9 => g_getR (q' := 72) rfl rfl (by decide) k4 k9) ?_
    refine gp_n 5 (j' := 20) (lv' := [some (.ref 70), some (.int 5), some (.int 3)]) (st' := [.int 28, .ref 72]) (h' := (shT, fi, fl, fr)) rfl ?_
    refine gp_of (fun _ k9 => g_bald (k := 28) (x := 116) rfl rfl (by decide) (rfl) (by decide) (by decide) (w3) k9) ?_
    refine gp_of (fun _ k9 => g_iff rfl (show ¬ ((116 : Int32) = (0 : Int32)) from by decide) k9) ?_
    refine gp_n 2 (j' := 24) (lv' := [some (.ref 70), some (.int 5), some (.int 3)]) (st' := [.ref 70, .ref 70]) (h' := (shT, fi, fl, fr)) rfl ?_
    refine gp_of (fun _ k9 => g_getI (x := nI b) rfl (Or.inl rfl) rfl (by decide) (e2) k9) ?_
    refine gp_n 2 (j' := 27) (lv' := [some (.ref 70), some (.int 5), some (.int 3)]) (st' := [.int ((nI b) + 3), .ref 70]) (h' := (shT, fi, fl, fr)) rfl ?_
    rw [show nI b + 3 = nI (b + 3) from nI_add b 3]
    refine gp_of (fun _ k9 => g_call (y := 154) (as := [.ref 70, .int (nI (b + 3))]) (st' := []) rfl rfl (b3) k9) ?_
    refine gp_n 1 (j' := 29) (lv' := [some (.ref 70), some (.int 5), some (.int 3)]) (st' := [.ref 70, .int (bA F t (b + 3))]) (h' := (shT, fi, fl, fr)) rfl ?_
    refine gp_of (fun _ k9 => g_getR (q' := 72) rfl rfl (by decide) k4 k9) ?_
    refine gp_n 5 (j' := 35) (lv' := [some (.ref 70), some (.int 5), some (.int 3)]) (st' := [.int 28, .ref 72, .int (bA F t (b + 3))]) (h' := (shT, fi, fl, fr)) rfl ?_
    refine gp_of (fun _ k9 => g_bald (k := 28) (x := 116) rfl rfl (by decide) (rfl) (by decide) (by decide) (w3) k9) ?_
    refine gp_of (fun _ k9 => g_icf rfl (show ¬ (¬ (bA F t (b + 3)) = (116 : Int32)) from fun z => z (q3.mpr c3)) k9) ?_
    refine gp_n 4 (j' := 12) (lv' := [some (.ref 70), some (.int 5), some (.int 4)]) (st' := [.int 5, .int 4]) (h' := (shT, fi, fl, fr)) rfl ?_
    refine gp_of (fun _ k9 => g_icf rfl (show ¬ ((5 : Int32) ≤ (4 : Int32)) from by decide) k9) ?_
    refine gp_n 1 (j' := 14) (lv' := [some (.ref 70), some (.int 5), some (.int 4)]) (st' := [.ref 70]) (h' := (shT, fi, fl, fr)) rfl ?_
    refine gp_of (fun _ k9 => g_getR (q' := 72) rfl rfl (by decide) k4 k9) ?_
    refine gp_n 5 (j' := 20) (lv' := [some (.ref 70), some (.int 5), some (.int 4)]) (st' := [.int 29, .ref 72]) (h' := (shT, fi, fl, fr)) rfl ?_
    refine gp_of (fun _ k9 => g_bald (k := 29) (x := 0) rfl rfl (by decide) (rfl) (by decide) (by decide) (w4) k9) ?_
    refine gp_of (fun _ k9 => g_ift rfl (show (0 : Int32) = (0 : Int32) from by decide) k9) ?_
    refine gp_n 2 (j' := 41) (lv' := [some (.ref 70), some (.int 5), some (.int 4)]) (st' := [.int 5, .int 4]) (h' := (shT, fi, fl, fr)) rfl ?_
    refine gp_of (fun _ k9 => g_icf rfl (show ¬ ((4 : Int32) = (5 : Int32)) from by decide) k9) ?_
    refine gp_n 1 (j' := 43) (lv' := [some (.ref 70), some (.int 5), some (.int 4)]) (st' := [.ref 70]) (h' := (shT, fi, fl, fr)) rfl ?_
    refine gp_of (fun _ k9 => g_getR (q' := 72) rfl rfl (by decide) k4 k9) ?_
    refine gp_n 5 (j' := 49) (lv' := [some (.ref 70), some (.int 5), some (.int 4)]) (st' := [.int 29, .ref 72]) (h' := (shT, fi, fl, fr)) rfl ?_
    refine gp_of (fun _ k9 => g_bald (k := 29) (x := 0) rfl rfl (by decide) (rfl) (by decide) (by decide) (w4) k9) ?_
    refine gp_of (fun _ k9 => g_iff rfl (show ¬ (¬ (0 : Int32) = (0 : Int32)) from by decide) k9) ?_
    refine gp_n 2 (j' := 53) (lv' := [some (.ref 70), some (.int 5), some (.int 4)]) (st' := [.ref 70, .ref 70]) (h' := (shT, fi, fl, fr)) rfl ?_
    refine gp_of (fun _ k9 => g_getI (x := nI b) rfl (Or.inl rfl) rfl (by decide) (e2) k9) ?_
    refine gp_n 2 (j' := 56) (lv' := [some (.ref 70), some (.int 5), some (.int 4)]) (st' := [.int ((nI b) + 4), .ref 70]) (h' := (shT, fi, fl, fr)) rfl ?_
    rw [show nI b + 4 = nI (b + 4) from nI_add b 4]
    refine gp_of (fun _ k9 => g_call (y := 154) (as := [.ref 70, .int (nI (b + 4))]) (st' := []) rfl rfl (b4) k9) ?_
    refine gp_of (fun _ k9 => g_call (y := 155) (as := [.int (bA F t (b + 4))]) (st' := []) rfl rfl (l1) k9) ?_
    refine gp_of (fun _ k9 => g_ift rfl (show ¬ (1 : Int32) = (0 : Int32) from by decide) k9) ?_
    refine gp_n 2 (j' := 5) (lv' := [some (.ref 70), some (.int 6), some (.int 4)]) (st' := []) (h' := (shT, fi, fl, fr)) rfl ?_
    exact k2
  · have k1 := k1 (by simp only [mt]; rw [if_pos (show b + 0 < t ∧ F (b + 0) = (wd 5).getD 0 0 from c0)]; rw [if_pos (show b + 1 < t ∧ F (b + 1) = (wd 5).getD 1 0 from c1)]; rw [if_pos (show b + 2 < t ∧ F (b + 2) = (wd 5).getD 2 0 from c2)]; rw [if_pos (show b + 3 < t ∧ F (b + 3) = (wd 5).getD 3 0 from c3)]; cases d1 : decide (b + 4 < t); rfl; cases d2 : cL (F (b + 4)); rfl; exact absurd ⟨of_decide_eq_true d1, d2⟩ cz)
    have l0 := l0 (fun z => cz (qL.mp z))
    refine gp_n 2 (j' := 7) (lv' := [some (.ref 70), some (.int 5), l]) (st' := [.int 6, .int 5]) (h' := (shT, fi, fl, fr)) rfl ?_
    refine gp_of (fun _ k9 => g_icf rfl (show ¬ ((6 : Int32) ≤ (5 : Int32)) from by decide) k9) ?_
    refine gp_n 4 (j' := 12) (lv' := [some (.ref 70), some (.int 5), some (.int 0)]) (st' := [.int 5, .int 0]) (h' := (shT, fi, fl, fr)) rfl ?_
    refine gp_of (fun _ k9 => g_icf rfl (show ¬ ((5 : Int32) ≤ (0 : Int32)) from by decide) k9) ?_
    refine gp_n 1 (j' := 14) (lv' := [some (.ref 70), some (.int 5), some (.int 0)]) (st' := [.ref 70]) (h' := (shT, fi, fl, fr)) rfl ?_
    refine gp_of (fun _ k9 => g_getR (q' := 72) rfl rfl (by decide) k4 k9) ?_
    refine gp_n 5 (j' := 20) (lv' := [some (.ref 70), some (.int 5), some (.int 0)]) (st' := [.int 25, .ref 72]) (h' := (shT, fi, fl, fr)) rfl ?_
    refine gp_of (fun _ k9 => g_bald (k := 25) (x := 108) rfl rfl (by decide) (rfl) (by decide) (by decide) (w0) k9) ?_
    refine gp_of (fun _ k9 => g_iff rfl (show ¬ ((108 : Int32) = (0 : Int32)) from by decide) k9) ?_
    refine gp_n 2 (j' := 24) (lv' := [some (.ref 70), some (.int 5), some (.int 0)]) (st' := [.ref 70, .ref 70]) (h' := (shT, fi, fl, fr)) rfl ?_
    refine gp_of (fun _ k9 => g_getI (x := nI b) rfl (Or.inl rfl) rfl (by decide) (e2) k9) ?_
    refine gp_n 2 (j' := 27) (lv' := [some (.ref 70), some (.int 5), some (.int 0)]) (st' := [.int ((nI b) + 0), .ref 70]) (h' := (shT, fi, fl, fr)) rfl ?_
    rw [show nI b + 0 = nI (b + 0) from nI_add b 0]
    refine gp_of (fun _ k9 => g_call (y := 154) (as := [.ref 70, .int (nI (b + 0))]) (st' := []) rfl rfl (b0) k9) ?_
    refine gp_n 1 (j' := 29) (lv' := [some (.ref 70), some (.int 5), some (.int 0)]) (st' := [.ref 70, .int (bA F t (b + 0))]) (h' := (shT, fi, fl, fr)) rfl ?_
    refine gp_of (fun _ k9 => g_getR (q' := 72) rfl rfl (by decide) k4 k9) ?_
    refine gp_n 5 (j' := 35) (lv' := [some (.ref 70), some (.int 5), some (.int 0)]) (st' := [.int 25, .ref 72, .int (bA F t (b + 0))]) (h' := (shT, fi, fl, fr)) rfl ?_
    refine gp_of (fun _ k9 => g_bald (k := 25) (x := 108) rfl rfl (by decide) (rfl) (by decide) (by decide) (w0) k9) ?_
    refine gp_of (fun _ k9 => g_icf rfl (show ¬ (¬ (bA F t (b + 0)) = (108 : Int32)) from fun z => z (q0.mpr c0)) k9) ?_
    refine gp_n 4 (j' := 12) (lv' := [some (.ref 70), some (.int 5), some (.int 1)]) (st' := [.int 5, .int 1]) (h' := (shT, fi, fl, fr)) rfl ?_
    refine gp_of (fun _ k9 => g_icf rfl (show ¬ ((5 : Int32) ≤ (1 : Int32)) from by decide) k9) ?_
    refine gp_n 1 (j' := 14) (lv' := [some (.ref 70), some (.int 5), some (.int 1)]) (st' := [.ref 70]) (h' := (shT, fi, fl, fr)) rfl ?_
    refine gp_of (fun _ k9 => g_getR (q' := 72) rfl rfl (by decide) k4 k9) ?_
    refine gp_n 5 (j' := 20) (lv' := [some (.ref 70), some (.int 5), some (.int 1)]) (st' := [.int 26, .ref 72]) (h' := (shT, fi, fl, fr)) rfl ?_
    refine gp_of (fun _ k9 => g_bald (k := 26) (x := 105) rfl rfl (by decide) (rfl) (by decide) (by decide) (w1) k9) ?_
    refine gp_of (fun _ k9 => g_iff rfl (show ¬ ((105 : Int32) = (0 : Int32)) from by decide) k9) ?_
    refine gp_n 2 (j' := 24) (lv' := [some (.ref 70), some (.int 5), some (.int 1)]) (st' := [.ref 70, .ref 70]) (h' := (shT, fi, fl, fr)) rfl ?_
    refine gp_of (fun _ k9 => g_getI (x := nI b) rfl (Or.inl rfl) rfl (by decide) (e2) k9) ?_
    refine gp_n 2 (j' := 27) (lv' := [some (.ref 70), some (.int 5), some (.int 1)]) (st' := [.int ((nI b) + 1), .ref 70]) (h' := (shT, fi, fl, fr)) rfl ?_
    rw [show nI b + 1 = nI (b + 1) from nI_add b 1]
    refine gp_of (fun _ k9 => g_call (y := 154) (as := [.ref 70, .int (nI (b + 1))]) (st' := []) rfl rfl (b1) k9) ?_
    refine gp_n 1 (j' := 29) (lv' := [some (.ref 70), some (.int 5), some (.int 1)]) (st' := [.ref 70, .int (bA F t (b + 1))]) (h' := (shT, fi, fl, fr)) rfl ?_
    refine gp_of (fun _ k9 => g_getR (q' := 72) rfl rfl (by decide) k4 k9) ?_
    refine gp_n 5 (j' := 35) (lv' := [some (.ref 70), some (.int 5), some (.int 1)]) (st' := [.int 26, .ref 72, .int (bA F t (b + 1))]) (h' := (shT, fi, fl, fr)) rfl ?_
    refine gp_of (fun _ k9 => g_bald (k := 26) (x := 105) rfl rfl (by decide) (rfl) (by decide) (by decide) (w1) k9) ?_
    refine gp_of (fun _ k9 => g_icf rfl (show ¬ (¬ (bA F t (b + 1)) = (105 : Int32)) from fun z => z (q1.mpr c1)) k9) ?_
    refine gp_n 4 (j' := 12) (lv' := [some (.ref 70), some (.int 5), some (.int 2)]) (st' := [.int 5, .int 2]) (h' := (shT, fi, fl, fr)) rfl ?_
    refine gp_of (fun _ k9 => g_icf rfl (show ¬ ((5 : Int32) ≤ (2 : Int32)) from by decide) k9) ?_
    refine gp_n 1 (j' := 14) (lv' := [some (.ref 70), some (.int 5), some (.int 2)]) (st' := [.ref 70]) (h' := (shT, fi, fl, fr)) rfl ?_
    refine gp_of (fun _ k9 => g_getR (q' := 72) rfl rfl (by decide) k4 k9) ?_
    refine gp_n 5 (j' := 20) (lv' := [some (.ref 70), some (.int 5), some (.int 2)]) (st' := [.int 27, .ref 72]) (h' := (shT, fi, fl, fr)) rfl ?_
    refine gp_of (fun _ k9 => g_bald (k := 27) (x := 115) rfl rfl (by decide) (rfl) (by decide) (by decide) (w2) k9) ?_
    refine gp_of (fun _ k9 => g_iff rfl (show ¬ ((115 : Int32) = (0 : Int32)) from by decide) k9) ?_
    refine gp_n 2 (j' := 24) (lv' := [some (.ref 70), some (.int 5), some (.int 2)]) (st' := [.ref 70, .ref 70]) (h' := (shT, fi, fl, fr)) rfl ?_
    refine gp_of (fun _ k9 => g_getI (x := nI b) rfl (Or.inl rfl) rfl (by decide) (e2) k9) ?_
    refine gp_n 2 (j' := 27) (lv' := [some (.ref 70), some (.int 5), some (.int 2)]) (st' := [.int ((nI b) + 2), .ref 70]) (h' := (shT, fi, fl, fr)) rfl ?_
    rw [show nI b + 2 = nI (b + 2) from nI_add b 2]
    refine gp_of (fun _ k9 => g_call (y := 154) (as := [.ref 70, .int (nI (b + 2))]) (st' := []) rfl rfl (b2) k9) ?_
    refine gp_n 1 (j' := 29) (lv' := [some (.ref 70), some (.int 5), some (.int 2)]) (st' := [.ref 70, .int (bA F t (b + 2))]) (h' := (shT, fi, fl, fr)) rfl ?_
    refine gp_of (fun _ k9 => g_getR (q' := 72) rfl rfl (by decide) k4 k9) ?_
    refine gp_n 5 (j' := 35) (lv' := [some (.ref 70), some (.int 5), some (.int 2)]) (st' := [.int 27, .ref 72, .int (bA F t (b + 2))]) (h' := (shT, fi, fl, fr)) rfl ?_
    refine gp_of (fun _ k9 => g_bald (k := 27) (x := 115) rfl rfl (by decide) (rfl) (by decide) (by decide) (w2) k9) ?_
    refine gp_of (fun _ k9 => g_icf rfl (show ¬ (¬ (bA F t (b + 2)) = (115 : Int32)) from fun z => z (q2.mpr c2)) k9) ?_
    refine gp_n 4 (j' := 12) (lv' := [some (.ref 70), some (.int 5), some (.int 3)]) (st' := [.int 5, .int 3]) (h' := (shT, fi, fl, fr)) rfl ?_
    refine gp_of (fun _ k9 => g_icf rfl (show ¬ ((5 : Int32) ≤ (3 : Int32)) from by decide) k9) ?_
    refine gp_n 1 (j' := 14) (lv' := [some (.ref 70), some (.int 5), some (.int 3)]) (st' := [.ref 70]) (h' := (shT, fi, fl, fr)) rfl ?_
    refine gp_of (fun _ k9 => g_getR (q' := 72) rfl rfl (by decide) k4 k9) ?_
    refine gp_n 5 (j' := 20) (lv' := [some (.ref 70), some (.int 5), some (.int 3)]) (st' := [.int 28, .ref 72]) (h' := (shT, fi, fl, fr)) rfl ?_
    refine gp_of (fun _ k9 => g_bald (k := 28) (x := 116) rfl rfl (by decide) (rfl) (by decide) (by decide) (w3) k9) ?_
    refine gp_of (fun _ k9 => g_iff rfl (show ¬ ((116 : Int32) = (0 : Int32)) from by decide) k9) ?_
    refine gp_n 2 (j' := 24) (lv' := [some (.ref 70), some (.int 5), some (.int 3)]) (st' := [.ref 70, .ref 70]) (h' := (shT, fi, fl, fr)) rfl ?_
    refine gp_of (fun _ k9 => g_getI (x := nI b) rfl (Or.inl rfl) rfl (by decide) (e2) k9) ?_
    refine gp_n 2 (j' := 27) (lv' := [some (.ref 70), some (.int 5), some (.int 3)]) (st' := [.int ((nI b) + 3), .ref 70]) (h' := (shT, fi, fl, fr)) rfl ?_
    rw [show nI b + 3 = nI (b + 3) from nI_add b 3]
    refine gp_of (fun _ k9 => g_call (y := 154) (as := [.ref 70, .int (nI (b + 3))]) (st' := []) rfl rfl (b3) k9) ?_
    refine gp_n 1 (j' := 29) (lv' := [some (.ref 70), some (.int 5), some (.int 3)]) (st' := [.ref 70, .int (bA F t (b + 3))]) (h' := (shT, fi, fl, fr)) rfl ?_
    refine gp_of (fun _ k9 => g_getR (q' := 72) rfl rfl (by decide) k4 k9) ?_
    refine gp_n 5 (j' := 35) (lv' := [some (.ref 70), some (.int 5), some (.int 3)]) (st' := [.int 28, .ref 72, .int (bA F t (b + 3))]) (h' := (shT, fi, fl, fr)) rfl ?_
    refine gp_of (fun _ k9 => g_bald (k := 28) (x := 116) rfl rfl (by decide) (rfl) (by decide) (by decide) (w3) k9) ?_
    refine gp_of (fun _ k9 => g_icf rfl (show ¬ (¬ (bA F t (b + 3)) = (116 : Int32)) from fun z => z (q3.mpr c3)) k9) ?_
    refine gp_n 4 (j' := 12) (lv' := [some (.ref 70), some (.int 5), some (.int 4)]) (st' := [.int 5, .int 4]) (h' := (shT, fi, fl, fr)) rfl ?_
    refine gp_of (fun _ k9 => g_icf rfl (show ¬ ((5 : Int32) ≤ (4 : Int32)) from by decide) k9) ?_
    refine gp_n 1 (j' := 14) (lv' := [some (.ref 70), some (.int 5), some (.int 4)]) (st' := [.ref 70]) (h' := (shT, fi, fl, fr)) rfl ?_
    refine gp_of (fun _ k9 => g_getR (q' := 72) rfl rfl (by decide) k4 k9) ?_
    refine gp_n 5 (j' := 20) (lv' := [some (.ref 70), some (.int 5), some (.int 4)]) (st' := [.int 29, .ref 72]) (h' := (shT, fi, fl, fr)) rfl ?_
    refine gp_of (fun _ k9 => g_bald (k := 29) (x := 0) rfl rfl (by decide) (rfl) (by decide) (by decide) (w4) k9) ?_
    refine gp_of (fun _ k9 => g_ift rfl (show (0 : Int32) = (0 : Int32) from by decide) k9) ?_
    refine gp_n 2 (j' := 41) (lv' := [some (.ref 70), some (.int 5), some (.int 4)]) (st' := [.int 5, .int 4]) (h' := (shT, fi, fl, fr)) rfl ?_
    refine gp_of (fun _ k9 => g_icf rfl (show ¬ ((4 : Int32) = (5 : Int32)) from by decide) k9) ?_
    refine gp_n 1 (j' := 43) (lv' := [some (.ref 70), some (.int 5), some (.int 4)]) (st' := [.ref 70]) (h' := (shT, fi, fl, fr)) rfl ?_
    refine gp_of (fun _ k9 => g_getR (q' := 72) rfl rfl (by decide) k4 k9) ?_
    refine gp_n 5 (j' := 49) (lv' := [some (.ref 70), some (.int 5), some (.int 4)]) (st' := [.int 29, .ref 72]) (h' := (shT, fi, fl, fr)) rfl ?_
    refine gp_of (fun _ k9 => g_bald (k := 29) (x := 0) rfl rfl (by decide) (rfl) (by decide) (by decide) (w4) k9) ?_
    refine gp_of (fun _ k9 => g_iff rfl (show ¬ (¬ (0 : Int32) = (0 : Int32)) from by decide) k9) ?_
    refine gp_n 2 (j' := 53) (lv' := [some (.ref 70), some (.int 5), some (.int 4)]) (st' := [.ref 70, .ref 70]) (h' := (shT, fi, fl, fr)) rfl ?_
    refine gp_of (fun _ k9 => g_getI (x := nI b) rfl (Or.inl rfl) rfl (by decide) (e2) k9) ?_
    refine gp_n 2 (j' := 56) (lv' := [some (.ref 70), some (.int 5), some (.int 4)]) (st' := [.int ((nI b) + 4), .ref 70]) (h' := (shT, fi, fl, fr)) rfl ?_
    rw [show nI b + 4 = nI (b + 4) from nI_add b 4]
    refine gp_of (fun _ k9 => g_call (y := 154) (as := [.ref 70, .int (nI (b + 4))]) (st' := []) rfl rfl (b4) k9) ?_
    refine gp_of (fun _ k9 => g_call (y := 155) (as := [.int (bA F t (b + 4))]) (st' := []) rfl rfl (l0) k9) ?_
    refine gp_of (fun _ k9 => g_iff rfl (show ¬ (¬ (0 : Int32) = (0 : Int32)) from by decide) k9) ?_
    refine gp_n 1 (j' := 60) (lv' := [some (.ref 70), some (.int 5), some (.int 4)]) (st' := [.int 5]) (h' := (shT, fi, fl, fr)) rfl ?_
    refine gp_done (g_ret rfl) ?_
    exact k1
/-- the word that stands there: 0 size .. 5 list, or none -/
def wH (F : Nat → Int32) (b e : Nat) : Int32 := if isW F b e (wd 0) = true then 0 else if whW F b e = 0 then -1 else nI (whW F b e)
theorem wh_ev {F : Nat → Int32} {t p : Nat} {h : PmH} (ht : t ≤ 200) (hF : ∀ s, byR (F s)) (hpt : p ≤ t) (hP : mp_P F t p h) : Ev pmT 152 [.ref 70] h (some (.int (wH F (sk F t cB p) (sk F t cL (sk F t cB p))))) (mpl h (sk F t cB p)) := by
  refine Ev.of (es := cd_152) (ml := 3) (lv := [some (.ref 70), none, none]) rfl rfl rfl ?_
  have n1 := nx_ev ht hF hpt hP
  have B1 : sk F t cB p ≤ t := sk_le _ _ hpt
  have P1 := mpl_P (q := sk F t cB p) hP
  generalize sk F t cB p = B at *
  have m : ∀ k, k < 6 → mt F t B (wd k) (wd k).length 0 = isW F B (sk F t cL B) (wd k) := fun k hk => mt_isW B1 (wd_L k hk) (by
    have : ∀ k, k < 6 → 0 < (wd k).length := by decide
    exact this k hk)
  have m0 : mt F t B (wd 0) 4 0 = isW F B (sk F t cL B) (wd 0) := m 0 (by decide)
  have m1 : mt F t B (wd 1) 4 0 = isW F B (sk F t cL B) (wd 1) := m 1 (by decide)
  have m2 : mt F t B (wd 2) 4 0 = isW F B (sk F t cL B) (wd 2) := m 2 (by decide)
  have m3 : mt F t B (wd 3) 5 0 = isW F B (sk F t cL B) (wd 3) := m 3 (by decide)
  have m4 : mt F t B (wd 4) 5 0 = isW F B (sk F t cL B) (wd 4) := m 4 (by decide)
  have m5 : mt F t B (wd 5) 4 0 = isW F B (sk F t cL B) (wd 5) := m 5 (by decide)
  have main : GoP pmT none cd_152 5 [some (.ref 70), some (.int 0), none] [] (mpl h B) (fun r => r = (some (.int (wH F B (sk F t cL B))), mpl h B)) := by
    unfold wH whW
    refine wh_0 ht hF B1 P1 (fun z => ?_) (fun z0 l0 => ?_)
    · rw [m0] at z
      rw [if_pos z]
    rw [m0] at z0
    rw [if_neg (by rw [z0]; decide)]
    refine wh_1 ht hF B1 P1 (fun z => ?_) (fun z1 l1 => ?_)
    · rw [m1] at z
      rw [if_pos z]
      rfl
    rw [m1] at z1
    rw [if_neg (show ¬ isW F B (sk F t cL B) (wd 1) = true by rw [z1]; decide)]
    refine wh_2 ht hF B1 P1 (fun z => ?_) (fun z2 l2 => ?_)
    · rw [m2] at z
      rw [if_pos z]
      rfl
    rw [m2] at z2
    rw [if_neg (show ¬ isW F B (sk F t cL B) (wd 2) = true by rw [z2]; decide)]
    refine wh_3 ht hF B1 P1 (fun z => ?_) (fun z3 l3 => ?_)
    · rw [m3] at z
      rw [if_pos z]
      rfl
    rw [m3] at z3
    rw [if_neg (show ¬ isW F B (sk F t cL B) (wd 3) = true by rw [z3]; decide)]
    refine wh_4 ht hF B1 P1 (fun z => ?_) (fun z4 l4 => ?_)
    · rw [m4] at z
      rw [if_pos z]
      rfl
    rw [m4] at z4
    rw [if_neg (show ¬ isW F B (sk F t cL B) (wd 4) = true by rw [z4]; decide)]
    refine wh_5 ht hF B1 P1 (fun z => ?_) (fun z5 l5 => ?_)
    · rw [m5] at z
      rw [if_pos z]
      rfl
    rw [m5] at z5
    rw [if_neg (show ¬ isW F B (sk F t cL B) (wd 5) = true by rw [z5]; decide)]
    have I1 := P1.1
    clear P1 n1
    generalize mpl h B = h1 at *
    obtain ⟨S, fi, fl, fr⟩ := h1
    have hS : S = shT := I1.1
    subst hS
    refine gp_n 2 (j' := 7) (lv' := [some (.ref 70), some (.int 6), l5]) (st' := [.int 6, .int 6]) (h' := (shT, fi, fl, fr)) rfl ?_
    refine gp_of (fun _ k9 => g_ict rfl (show (6 : Int32) ≤ (6 : Int32) from by decide) k9) ?_
    refine gp_n 1 (j' := 64) (lv' := [some (.ref 70), some (.int 6), l5]) (st' := [.int (-1)]) (h' := (shT, fi, fl, fr)) rfl ?_
    refine gp_done (g_ret rfl) ?_
    rfl
  refine go_of ?_
  have hI := hP.1
  clear P1 hP
  obtain ⟨S, fi, fl, fr⟩ := h
  have hS : S = shT := hI.1
  subst hS
  refine gp_n 1 (j' := 1) (lv' := [some (.ref 70), none, none]) (st' := [.ref 70]) (h' := (shT, fi, fl, fr)) rfl ?_
  refine gp_of (fun _ k9 => g_call (y := 153) (as := [.ref 70]) (st' := []) rfl rfl (n1) k9) ?_
  refine gp_n 3 (j' := 5) (lv' := [some (.ref 70), some (.int 0), none]) (st' := []) (h' := (mpl (shT, fi, fl, fr) B)) rfl ?_
  exact main
