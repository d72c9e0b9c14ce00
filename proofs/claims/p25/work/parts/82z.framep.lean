/-- where x stands, how many were wrong, how many of them unseen -/
def fN (a : AB) (m k c l : Nat) (A B x : Int32) : Nat → Int32 × Nat × Nat
  | 0 => (x, 0, 0)
  | i + 1 => (fE m k (fN a m k c l A B x i).1, if fR a m k c l A B (fN a m k c l A B x i).1 = true then (fN a m k c l A B x i).2.1 else (fN a m k c l A B x i).2.1 + 1, if fR a m k c l A B (fN a m k c l A B x i).1 = true then (fN a m k c l A B x i).2.2 else (fN a m k c l A B x i).2.2 + (if fH a m k c l A B (fN a m k c l A B x i).1 = true then 1 else 0))
def fV (a : AB) (m k c l n : Nat) (A B x t : Int32) : Int32 := if t = 0 then nI (fN a m k c l A B x n).2.1 else nI (fN a m k c l A B x n).2.2
theorem fr_go_C {a : AB} {m k c l NN : Nat} {A B x t X : Int32} (hN : NN ≤ 40) (vk : VK (a_v a) m k c) (l1 : 1 ≤ l) (l8 : l ≤ 8) (hA : 0 ≤ A ∧ A ≤ 100) (hB : 0 ≤ B ∧ B ≤ 100) : ∀ (n i : Nat) (h : PmH), i + n = NN → HI hdT shT h → RD h → vC a m k c l h → ph_i h 0 13 = (fN a m k c l A B x i).1 → GoP pmT none cd_138 34 [some (.ref 0), some (.int (nI NN)), some (.int A), some (.int B), some (.int t), some (.int X), some (.int (nI (fN a m k c l A B x i).2.1)), some (.int (nI (fN a m k c l A B x i).2.2)), some (.int (nI i))] [] h (fun r => r.1 = some (.int (fV a m k c l NN A B x t)) ∧ RD r.2) := by
  intro n
  induction n with
  | zero =>
    intro i h hi hI hR hv c13
    have hi : i = NN := by omega
    subst hi
    unfold fV
    generalize nI (fN a m k c l A B x i).2.1 = w1 at *
    generalize nI (fN a m k c l A B x i).2.2 = w2 at *
    clear c13 hv
    by_cases ht : t = 0
    · rw [if_pos ht]
      obtain ⟨S, fi, fl, fr⟩ := h
      have hS : S = shT := hI.1
      subst hS

      refine gp_n 2 (j' := 36) (lv' := [some (.ref 0), some (.int (nI i)), some (.int A), some (.int B), some (.int t), some (.int X), some (.int w1), some (.int w2), some (.int (nI i))]) (st' := [.int (nI i), .int (nI i)]) (h' := (shT, fi, fl, fr)) rfl ?_
      refine gp_of (fun _ k9 => g_ict rfl (show (nI i) ≤ (nI i) from Int32.le_refl _) k9) ?_
      refine gp_n 2 (j' := 57) (lv' := [some (.ref 0), some (.int (nI i)), some (.int A), some (.int B), some (.int t), some (.int X), some (.int w1), some (.int w2), some (.int (nI i))]) (st' := [.int X, .ref 0]) (h' := (shT, fi, fl, fr)) rfl ?_
      refine gp_of (fun _ k9 => g_putI rfl (Or.inl rfl) rfl (by decide) k9) ?_
      refine gp_n 1 (j' := 59) (lv' := [some (.ref 0), some (.int (nI i)), some (.int A), some (.int B), some (.int t), some (.int X), some (.int w1), some (.int w2), some (.int (nI i))]) (st' := [.int t]) (h' := (shT, pm_u2 fi 0 13 X, fl, fr)) rfl ?_
      refine gp_of (fun _ k9 => g_iff rfl (show ¬ (¬ t = (0 : Int32)) from not_not_intro ht) k9) ?_
      refine gp_n 2 (j' := 63) (lv' := [some (.ref 0), some (.int (nI i)), some (.int A), some (.int B), some (.int t), some (.int X), some (.int w1), some (.int w2), some (.int (nI i))]) (st' := [.int w1]) (h' := (shT, pm_u2 fi 0 13 X, fl, fr)) rfl ?_
      refine gp_done (g_ret rfl) ?_
      exact ⟨rfl, RD_r rfl rfl hR⟩
    · rw [if_neg ht]
      obtain ⟨S, fi, fl, fr⟩ := h
      have hS : S = shT := hI.1
      subst hS

      refine gp_n 2 (j' := 36) (lv' := [some (.ref 0), some (.int (nI i)), some (.int A), some (.int B), some (.int t), some (.int X), some (.int w1), some (.int w2), some (.int (nI i))]) (st' := [.int (nI i), .int (nI i)]) (h' := (shT, fi, fl, fr)) rfl ?_
      refine gp_of (fun _ k9 => g_ict rfl (show (nI i) ≤ (nI i) from Int32.le_refl _) k9) ?_
      refine gp_n 2 (j' := 57) (lv' := [some (.ref 0), some (.int (nI i)), some (.int A), some (.int B), some (.int t), some (.int X), some (.int w1), some (.int w2), some (.int (nI i))]) (st' := [.int X, .ref 0]) (h' := (shT, fi, fl, fr)) rfl ?_
      refine gp_of (fun _ k9 => g_putI rfl (Or.inl rfl) rfl (by decide) k9) ?_
      refine gp_n 1 (j' := 59) (lv' := [some (.ref 0), some (.int (nI i)), some (.int A), some (.int B), some (.int t), some (.int X), some (.int w1), some (.int w2), some (.int (nI i))]) (st' := [.int t]) (h' := (shT, pm_u2 fi 0 13 X, fl, fr)) rfl ?_
      refine gp_of (fun _ k9 => g_ift rfl (show ¬ t = (0 : Int32) from ht) k9) ?_
      refine gp_n 1 (j' := 63) (lv' := [some (.ref 0), some (.int (nI i)), some (.int A), some (.int B), some (.int t), some (.int X), some (.int w1), some (.int w2), some (.int (nI i))]) (st' := [.int w2]) (h' := (shT, pm_u2 fi 0 13 X, fl, fr)) rfl ?_
      refine gp_done (g_ret rfl) ?_
      exact ⟨rfl, RD_r rfl rfl hR⟩
  | succ n ih =>
    intro i h hi hI hR hv c13
    obtain ⟨h1, e1, r1, I1, v1, d13, d8⟩ := rf_C hI hR vk hv l1 l8 hA hB c13
    have g := ih (i + 1) h1 (by omega) I1 r1 v1 d13
    have q8 : ph_r h1 0 8 = some 13 := hi_r I1 rfl rfl (by decide)
    rw [fN] at g
    generalize fR a m k c l A B (fN a m k c l A B x i).1 = R at *
    generalize fH a m k c l A B (fN a m k c l A B x i).1 = H at *
    generalize (fN a m k c l A B x i).2.1 = w1 at *
    generalize (fN a m k c l A B x i).2.2 = w2 at *
    generalize fV a m k c l NN A B x t = V at *
    clear ih hv v1 c13 d13 r1 hR
    obtain ⟨S1, fi1, fl1, fr1⟩ := h1
    have s1 : S1 = shT := I1.1
    subst s1
    have q8 : fr1 0 8 = some 13 := q8
    have d8 : fi1 13 8 = b01 H := d8
    obtain ⟨S, fi, fl, fr⟩ := h
    have hS : S = shT := hI.1
    subst hS
    cases R
    · have g : GoP pmT none cd_138 34 [some (.ref 0), some (.int (nI NN)), some (.int A), some (.int B), some (.int t), some (.int X), some (.int (nI (w1 + 1))), some (.int (nI (w2 + (if H = true then 1 else 0)))), some (.int (nI (i + 1)))] [] (shT, fi1, fl1, fr1) (fun r => r.1 = some (.int V) ∧ RD r.2) := g
      have e1 : Ev pmT 139 [.ref 0, .int A, .int B] (shT, fi, fl, fr) (some (.int 0)) (shT, fi1, fl1, fr1) := e1
      rw [← nI_1 w1] at g
      cases H
      · rw [if_neg (by decide)] at g
        rw [← nI_add w2 0] at g
        have d8 : fi1 13 8 = 0 := d8
        refine gp_n 2 (j' := 36) (lv' := [some (.ref 0), some (.int (nI NN)), some (.int A), some (.int B), some (.int t), some (.int X), some (.int (nI w1)), some (.int (nI w2)), some (.int (nI i))]) (st' := [.int (nI NN), .int (nI i)]) (h' := (shT, fi, fl, fr)) rfl ?_
        refine gp_of (fun _ k9 => g_icf rfl (show ¬ ((nI NN) ≤ (nI i)) from nI_ge (by omega) (by omega)) k9) ?_
        refine gp_n 3 (j' := 40) (lv' := [some (.ref 0), some (.int (nI NN)), some (.int A), some (.int B), some (.int t), some (.int X), some (.int (nI w1)), some (.int (nI w2)), some (.int (nI i))]) (st' := [.int B, .int A, .ref 0]) (h' := (shT, fi, fl, fr)) rfl ?_
        refine gp_of (fun _ k9 => g_call (y := 139) (as := [.ref 0, .int A, .int B]) (st' := []) rfl rfl (e1) k9) ?_
        refine gp_of (fun _ k9 => g_iff rfl (show ¬ (¬ (0 : Int32) = (0 : Int32)) from by decide) k9) ?_
        refine gp_n 3 (j' := 45) (lv' := [some (.ref 0), some (.int (nI NN)), some (.int A), some (.int B), some (.int t), some (.int X), some (.int ((nI w1) + 1)), some (.int (nI w2)), some (.int (nI i))]) (st' := [.ref 0, .int (nI w2)]) (h' := (shT, fi1, fl1, fr1)) rfl ?_
        refine gp_of (fun _ k9 => g_getR (q' := 13) rfl rfl (by decide) q8 k9) ?_
        refine gp_of (fun _ k9 => g_getI (x := 0) rfl (Or.inr rfl) rfl (by decide) (d8) k9) ?_
        refine gp_of (fun _ k9 => g_ift rfl (show (0 : Int32) = (0 : Int32) from by decide) k9) ?_
        refine gp_n 5 (j' := 34) (lv' := [some (.ref 0), some (.int (nI NN)), some (.int A), some (.int B), some (.int t), some (.int X), some (.int ((nI w1) + 1)), some (.int ((nI w2) + 0)), some (.int ((nI i) + 1))]) (st' := []) (h' := (shT, fi1, fl1, fr1)) rfl ?_
        rw [nI_1 i]
        exact g
      · rw [if_pos rfl] at g
        rw [← nI_add w2 1] at g
        have d8 : fi1 13 8 = 1 := d8
        refine gp_n 2 (j' := 36) (lv' := [some (.ref 0), some (.int (nI NN)), some (.int A), some (.int B), some (.int t), some (.int X), some (.int (nI w1)), some (.int (nI w2)), some (.int (nI i))]) (st' := [.int (nI NN), .int (nI i)]) (h' := (shT, fi, fl, fr)) rfl ?_
        refine gp_of (fun _ k9 => g_icf rfl (show ¬ ((nI NN) ≤ (nI i)) from nI_ge (by omega) (by omega)) k9) ?_
        refine gp_n 3 (j' := 40) (lv' := [some (.ref 0), some (.int (nI NN)), some (.int A), some (.int B), some (.int t), some (.int X), some (.int (nI w1)), some (.int (nI w2)), some (.int (nI i))]) (st' := [.int B, .int A, .ref 0]) (h' := (shT, fi, fl, fr)) rfl ?_
        refine gp_of (fun _ k9 => g_call (y := 139) (as := [.ref 0, .int A, .int B]) (st' := []) rfl rfl (e1) k9) ?_
        refine gp_of (fun _ k9 => g_iff rfl (show ¬ (¬ (0 : Int32) = (0 : Int32)) from by decide) k9) ?_
        refine gp_n 3 (j' := 45) (lv' := [some (.ref 0), some (.int (nI NN)), some (.int A), some (.int B), some (.int t), some (.int X), some (.int ((nI w1) + 1)), some (.int (nI w2)), some (.int (nI i))]) (st' := [.ref 0, .int (nI w2)]) (h' := (shT, fi1, fl1, fr1)) rfl ?_
        refine gp_of (fun _ k9 => g_getR (q' := 13) rfl rfl (by decide) q8 k9) ?_
        refine gp_of (fun _ k9 => g_getI (x := 1) rfl (Or.inr rfl) rfl (by decide) (d8) k9) ?_
        refine gp_of (fun _ k9 => g_iff rfl (show ¬ ((1 : Int32) = (0 : Int32)) from by decide) k9) ?_
        refine gp_n 6 (j' := 34) (lv' := [some (.ref 0), some (.int (nI NN)), some (.int A), some (.int B), some (.int t), some (.int X), some (.int ((nI w1) + 1)), some (.int ((nI w2) + 1)), some (.int ((nI i) + 1))]) (st' := []) (h' := (shT, fi1, fl1, fr1)) rfl ?_
        rw [nI_1 i]
        exact g
    · have g : GoP pmT none cd_138 34 [some (.ref 0), some (.int (nI NN)), some (.int A), some (.int B), some (.int t), some (.int X), some (.int (nI w1)), some (.int (nI w2)), some (.int (nI (i + 1)))] [] (shT, fi1, fl1, fr1) (fun r => r.1 = some (.int V) ∧ RD r.2) := g
      have e1 : Ev pmT 139 [.ref 0, .int A, .int B] (shT, fi, fl, fr) (some (.int 1)) (shT, fi1, fl1, fr1) := e1
      refine gp_n 2 (j' := 36) (lv' := [some (.ref 0), some (.int (nI NN)), some (.int A), some (.int B), some (.int t), some (.int X), some (.int (nI w1)), some (.int (nI w2)), some (.int (nI i))]) (st' := [.int (nI NN), .int (nI i)]) (h' := (shT, fi, fl, fr)) rfl ?_
      refine gp_of (fun _ k9 => g_icf rfl (show ¬ ((nI NN) ≤ (nI i)) from nI_ge (by omega) (by omega)) k9) ?_
      refine gp_n 3 (j' := 40) (lv' := [some (.ref 0), some (.int (nI NN)), some (.int A), some (.int B), some (.int t), some (.int X), some (.int (nI w1)), some (.int (nI w2)), some (.int (nI i))]) (st' := [.int B, .int A, .ref 0]) (h' := (shT, fi, fl, fr)) rfl ?_
      refine gp_of (fun _ k9 => g_call (y := 139) (as := [.ref 0, .int A, .int B]) (st' := []) rfl rfl (e1) k9) ?_
      refine gp_of (fun _ k9 => g_ift rfl (show ¬ (1 : Int32) = (0 : Int32) from by decide) k9) ?_
      refine gp_n 2 (j' := 34) (lv' := [some (.ref 0), some (.int (nI NN)), some (.int A), some (.int B), some (.int t), some (.int X), some (.int (nI w1)), some (.int (nI w2)), some (.int ((nI i) + 1))]) (st' := []) (h' := (shT, fi1, fl1, fr1)) rfl ?_
      rw [nI_1 i]
      exact g
/-- what frames asks of its numbers -/
def fP (a : AB) (n A B t : Int32) : Prop := 0 < (a_v a).1 1 ∧ (1 ≤ n ∧ n ≤ 40) ∧ ((0 ≤ A ∧ A ≤ 100) ∧ (0 ≤ B ∧ B ≤ 100)) ∧ (0 ≤ t ∧ t ≤ 1)
theorem fr_C1 {h : PmH} {a : AB} {m k c l NN : Nat} {A B t : Int32} (hr : REL3 h a) (vk : VK (a_v a) m k c) (hl : (a_v a).1 6 = nI l) (l1 : 1 ≤ l) (l8 : l ≤ 8) (hp : fP a (nI NN) A B t) (n40 : NN ≤ 40) : EvP 138 [.ref 0, .int (nI NN), .int A, .int B, .int t] h (fun r => r.1 = some (.int (fV a m k c l NN A B (a_x a) t)) ∧ RD r.2) := by
  obtain ⟨h0, hn, hAB, ht⟩ := hp
  have hI := hr.1.1.1
  have k0 : ph_r h 0 0 = some 1 := hi_r hI rfl rfl (by decide)
  have f := hr.1.1.2.1.2.2.2.2.1
  have t1 := told1 hI (f.1 1 (by decide)) h0
  have x1 := iss1 (x := A) hI hAB.1
  have y1 := iss1 (x := B) hI hAB.2
  have hv : vC a m k c l h := ⟨(f.1 0 (by decide)).trans vk.2.2.1, (f.1 1 (by decide)).trans vk.2.2.2.1, (f.1 2 (by decide)).trans vk.2.2.2.2.1, (f.1 3 (by decide)).trans vk.2.2.2.2.2.1, f.1 4 (by decide), (f.1 6 (by decide)).trans hl, (f.2 rfl).1⟩
  have c13 : ph_i h 0 13 = a_x a := hr.1.1.2.1.2.2.2.1 rfl
  have g := fr_go_C (x := a_x a) (t := t) (X := ph_i h 0 13) n40 vk l1 l8 hAB.1 hAB.2 NN 0 h (by omega) hI hr.2 hv c13
  generalize fV a m k c l NN A B (a_x a) t = V at *
  have g : GoP pmT none cd_138 34 [some (.ref 0), some (.int (nI NN)), some (.int A), some (.int B), some (.int t), some (.int (ph_i h 0 13)), some (.int 0), some (.int 0), some (.int 0)] [] h (fun r => r.1 = some (.int V) ∧ RD r.2) := g
  clear hv c13 f hr
  refine EvP.of (es := cd_138) (ml := 9) (lv := [some (.ref 0), some (.int (nI NN)), some (.int A), some (.int B), some (.int t), none, none, none, none]) rfl rfl rfl ?_
  obtain ⟨S, fi, fl, fr⟩ := h
  have hS : S = shT := hI.1
  subst hS
  have k0 : fr 0 0 = some 1 := k0

  refine gp_n 1 (j' := 1) (lv' := [some (.ref 0), some (.int (nI NN)), some (.int A), some (.int B), some (.int t), none, none, none, none]) (st' := [.ref 0]) (h' := (shT, fi, fl, fr)) rfl ?_
  refine gp_of (fun _ k9 => g_getR (q' := 1) rfl rfl (by decide) k0 k9) ?_
  refine gp_of (fun _ k9 => g_call (y := 57) (as := [.ref 1]) (st' := []) rfl rfl (t1) k9) ?_
  refine gp_of (fun _ k9 => g_iff rfl (show ¬ ((1 : Int32) = (0 : Int32)) from by decide) k9) ?_
  refine gp_n 2 (j' := 6) (lv' := [some (.ref 0), some (.int (nI NN)), some (.int A), some (.int B), some (.int t), none, none, none, none]) (st' := [.int 1, .int (nI NN)]) (h' := (shT, fi, fl, fr)) rfl ?_
  refine gp_of (fun _ k9 => g_icf rfl (show ¬ ((nI NN) < (1 : Int32)) from Int32.not_lt.mpr hn.1) k9) ?_
  refine gp_n 2 (j' := 9) (lv' := [some (.ref 0), some (.int (nI NN)), some (.int A), some (.int B), some (.int t), none, none, none, none]) (st' := [.int 40, .int (nI NN)]) (h' := (shT, fi, fl, fr)) rfl ?_
  refine gp_of (fun _ k9 => g_icf rfl (show ¬ ((40 : Int32) < (nI NN)) from Int32.not_lt.mpr hn.2) k9) ?_
  refine gp_n 1 (j' := 11) (lv' := [some (.ref 0), some (.int (nI NN)), some (.int A), some (.int B), some (.int t), none, none, none, none]) (st' := [.int t]) (h' := (shT, fi, fl, fr)) rfl ?_
  refine gp_of (fun _ k9 => g_iff rfl (show ¬ (t < (0 : Int32)) from Int32.not_lt.mpr ht.1) k9) ?_
  refine gp_n 2 (j' := 14) (lv' := [some (.ref 0), some (.int (nI NN)), some (.int A), some (.int B), some (.int t), none, none, none, none]) (st' := [.int 1, .int t]) (h' := (shT, fi, fl, fr)) rfl ?_
  refine gp_of (fun _ k9 => g_ict rfl (show t ≤ (1 : Int32) from ht.2) k9) ?_
  refine gp_n 1 (j' := 18) (lv' := [some (.ref 0), some (.int (nI NN)), some (.int A), some (.int B), some (.int t), none, none, none, none]) (st' := [.int A]) (h' := (shT, fi, fl, fr)) rfl ?_
  refine gp_of (fun _ k9 => g_call (y := 71) (as := [.int A]) (st' := []) rfl rfl (x1) k9) ?_
  refine gp_of (fun _ k9 => g_iff rfl (show ¬ ((1 : Int32) = (0 : Int32)) from by decide) k9) ?_
  refine gp_n 1 (j' := 21) (lv' := [some (.ref 0), some (.int (nI NN)), some (.int A), some (.int B), some (.int t), none, none, none, none]) (st' := [.int B]) (h' := (shT, fi, fl, fr)) rfl ?_
  refine gp_of (fun _ k9 => g_call (y := 71) (as := [.int B]) (st' := []) rfl rfl (y1) k9) ?_
  refine gp_of (fun _ k9 => g_ift rfl (show ¬ (1 : Int32) = (0 : Int32) from by decide) k9) ?_
  refine gp_n 1 (j' := 26) (lv' := [some (.ref 0), some (.int (nI NN)), some (.int A), some (.int B), some (.int t), none, none, none, none]) (st' := [.ref 0]) (h' := (shT, fi, fl, fr)) rfl ?_
  refine gp_of (fun _ k9 => g_getI (x := fi 0 13) rfl (Or.inl rfl) rfl (by decide) (rfl) k9) ?_
  refine gp_n 7 (j' := 34) (lv' := [some (.ref 0), some (.int (nI NN)), some (.int A), some (.int B), some (.int t), some (.int (fi 0 13)), some (.int 0), some (.int 0), some (.int 0)]) (st' := []) (h' := (shT, fi, fl, fr)) rfl ?_
  exact g
theorem fr_C0 {h : PmH} {a : AB} {n A B t : Int32} (hr : REL3 h a) (hp : ¬ fP a n A B t) : EvP 138 [.ref 0, .int n, .int A, .int B, .int t] h (fun r => r.1 = some (.int (-1)) ∧ RD r.2) := by
  have hI := hr.1.1.1
  have hR := hr.2
  have k0 : ph_r h 0 0 = some 1 := hi_r hI rfl rfl (by decide)
  have f := hr.1.1.2.1.2.2.2.2.1
  have t1 := told1 hI (f.1 1 (by decide))
  have t0 := told0 hI (f.1 1 (by decide))
  have x1 := iss1 (x := A) hI
  have x0 := iss0 (x := A) hI
  have y1 := iss1 (x := B) hI
  have y0 := iss0 (x := B) hI
  clear f hr
  refine EvP.of (es := cd_138) (ml := 9) (lv := [some (.ref 0), some (.int n), some (.int A), some (.int B), some (.int t), none, none, none, none]) rfl rfl rfl ?_
  obtain ⟨S, fi, fl, fr⟩ := h
  have hS : S = shT := hI.1
  subst hS
  have k0 : fr 0 0 = some 1 := k0
  by_cases h0 : 0 < (a_v a).1 1
  case neg =>
    have tt := t0 h0

    refine gp_n 1 (j' := 1) (lv' := [some (.ref 0), some (.int n), some (.int A), some (.int B), some (.int t), none, none, none, none]) (st' := [.ref 0]) (h' := (shT, fi, fl, fr)) rfl ?_
    refine gp_of (fun _ k9 => g_getR (q' := 1) rfl rfl (by decide) k0 k9) ?_
    refine gp_of (fun _ k9 => g_call (y := 57) (as := [.ref 1]) (st' := []) rfl rfl (tt) k9) ?_
    refine gp_of (fun _ k9 => g_ift rfl (show (0 : Int32) = (0 : Int32) from by decide) k9) ?_
    refine gp_n 1 (j' := 16) (lv' := [some (.ref 0), some (.int n), some (.int A), some (.int B), some (.int t), none, none, none, none]) (st' := [.int (-1)]) (h' := (shT, fi, fl, fr)) rfl ?_
    refine gp_done (g_ret rfl) ?_
    exact ⟨rfl, hR⟩
  have tt := t1 h0
  by_cases p1 : n < 1
  case pos =>
    refine gp_n 1 (j' := 1) (lv' := [some (.ref 0), some (.int n), some (.int A), some (.int B), some (.int t), none, none, none, none]) (st' := [.ref 0]) (h' := (shT, fi, fl, fr)) rfl ?_
    refine gp_of (fun _ k9 => g_getR (q' := 1) rfl rfl (by decide) k0 k9) ?_
    refine gp_of (fun _ k9 => g_call (y := 57) (as := [.ref 1]) (st' := []) rfl rfl (tt) k9) ?_
    refine gp_of (fun _ k9 => g_iff rfl (show ¬ ((1 : Int32) = (0 : Int32)) from by decide) k9) ?_
    refine gp_n 2 (j' := 6) (lv' := [some (.ref 0), some (.int n), some (.int A), some (.int B), some (.int t), none, none, none, none]) (st' := [.int 1, .int n]) (h' := (shT, fi, fl, fr)) rfl ?_
    refine gp_of (fun _ k9 => g_ict rfl (show n < (1 : Int32) from p1) k9) ?_
    refine gp_n 1 (j' := 16) (lv' := [some (.ref 0), some (.int n), some (.int A), some (.int B), some (.int t), none, none, none, none]) (st' := [.int (-1)]) (h' := (shT, fi, fl, fr)) rfl ?_
    refine gp_done (g_ret rfl) ?_
    exact ⟨rfl, hR⟩
  by_cases p2 : (40 : Int32) < n
  case pos =>
    refine gp_n 1 (j' := 1) (lv' := [some (.ref 0), some (.int n), some (.int A), some (.int B), some (.int t), none, none, none, none]) (st' := [.ref 0]) (h' := (shT, fi, fl, fr)) rfl ?_
    refine gp_of (fun _ k9 => g_getR (q' := 1) rfl rfl (by decide) k0 k9) ?_
    refine gp_of (fun _ k9 => g_call (y := 57) (as := [.ref 1]) (st' := []) rfl rfl (tt) k9) ?_
    refine gp_of (fun _ k9 => g_iff rfl (show ¬ ((1 : Int32) = (0 : Int32)) from by decide) k9) ?_
    refine gp_n 2 (j' := 6) (lv' := [some (.ref 0), some (.int n), some (.int A), some (.int B), some (.int t), none, none, none, none]) (st' := [.int 1, .int n]) (h' := (shT, fi, fl, fr)) rfl ?_
    refine gp_of (fun _ k9 => g_icf rfl (show ¬ (n < (1 : Int32)) from p1) k9) ?_
    refine gp_n 2 (j' := 9) (lv' := [some (.ref 0), some (.int n), some (.int A), some (.int B), some (.int t), none, none, none, none]) (st' := [.int 40, .int n]) (h' := (shT, fi, fl, fr)) rfl ?_
    refine gp_of (fun _ k9 => g_ict rfl (show (40 : Int32) < n from p2) k9) ?_
    refine gp_n 1 (j' := 16) (lv' := [some (.ref 0), some (.int n), some (.int A), some (.int B), some (.int t), none, none, none, none]) (st' := [.int (-1)]) (h' := (shT, fi, fl, fr)) rfl ?_
    refine gp_done (g_ret rfl) ?_
    exact ⟨rfl, hR⟩
  by_cases p3 : t < 0
  case pos =>
    refine gp_n 1 (j' := 1) (lv' := [some (.ref 0), some (.int n), some (.int A), some (.int B), some (.int t), none, none, none, none]) (st' := [.ref 0]) (h' := (shT, fi, fl, fr)) rfl ?_
    refine gp_of (fun _ k9 => g_getR (q' := 1) rfl rfl (by decide) k0 k9) ?_
    refine gp_of (fun _ k9 => g_call (y := 57) (as := [.ref 1]) (st' := []) rfl rfl (tt) k9) ?_
    refine gp_of (fun _ k9 => g_iff rfl (show ¬ ((1 : Int32) = (0 : Int32)) from by decide) k9) ?_
    refine gp_n 2 (j' := 6) (lv' := [some (.ref 0), some (.int n), some (.int A), some (.int B), some (.int t), none, none, none, none]) (st' := [.int 1, .int n]) (h' := (shT, fi, fl, fr)) rfl ?_
    refine gp_of (fun _ k9 => g_icf rfl (show ¬ (n < (1 : Int32)) from p1) k9) ?_
    refine gp_n 2 (j' := 9) (lv' := [some (.ref 0), some (.int n), some (.int A), some (.int B), some (.int t), none, none, none, none]) (st' := [.int 40, .int n]) (h' := (shT, fi, fl, fr)) rfl ?_
    refine gp_of (fun _ k9 => g_icf rfl (show ¬ ((40 : Int32) < n) from p2) k9) ?_
    refine gp_n 1 (j' := 11) (lv' := [some (.ref 0), some (.int n), some (.int A), some (.int B), some (.int t), none, none, none, none]) (st' := [.int t]) (h' := (shT, fi, fl, fr)) rfl ?_
    refine gp_of (fun _ k9 => g_ift rfl (show t < (0 : Int32) from p3) k9) ?_
    refine gp_n 1 (j' := 16) (lv' := [some (.ref 0), some (.int n), some (.int A), some (.int B), some (.int t), none, none, none, none]) (st' := [.int (-1)]) (h' := (shT, fi, fl, fr)) rfl ?_
    refine gp_done (g_ret rfl) ?_
    exact ⟨rfl, hR⟩
  by_cases p4 : t ≤ 1
  case neg =>
    refine gp_n 1 (j' := 1) (lv' := [some (.ref 0), some (.int n), some (.int A), some (.int B), some (.int t), none, none, none, none]) (st' := [.ref 0]) (h' := (shT, fi, fl, fr)) rfl ?_
    refine gp_of (fun _ k9 => g_getR (q' := 1) rfl rfl (by decide) k0 k9) ?_
    refine gp_of (fun _ k9 => g_call (y := 57) (as := [.ref 1]) (st' := []) rfl rfl (tt) k9) ?_
    refine gp_of (fun _ k9 => g_iff rfl (show ¬ ((1 : Int32) = (0 : Int32)) from by decide) k9) ?_
    refine gp_n 2 (j' := 6) (lv' := [some (.ref 0), some (.int n), some (.int A), some (.int B), some (.int t), none, none, none, none]) (st' := [.int 1, .int n]) (h' := (shT, fi, fl, fr)) rfl ?_
    refine gp_of (fun _ k9 => g_icf rfl (show ¬ (n < (1 : Int32)) from p1) k9) ?_
    refine gp_n 2 (j' := 9) (lv' := [some (.ref 0), some (.int n), some (.int A), some (.int B), some (.int t), none, none, none, none]) (st' := [.int 40, .int n]) (h' := (shT, fi, fl, fr)) rfl ?_
    refine gp_of (fun _ k9 => g_icf rfl (show ¬ ((40 : Int32) < n) from p2) k9) ?_
    refine gp_n 1 (j' := 11) (lv' := [some (.ref 0), some (.int n), some (.int A), some (.int B), some (.int t), none, none, none, none]) (st' := [.int t]) (h' := (shT, fi, fl, fr)) rfl ?_
    refine gp_of (fun _ k9 => g_iff rfl (show ¬ (t < (0 : Int32)) from p3) k9) ?_
    refine gp_n 2 (j' := 14) (lv' := [some (.ref 0), some (.int n), some (.int A), some (.int B), some (.int t), none, none, none, none]) (st' := [.int 1, .int t]) (h' := (shT, fi, fl, fr)) rfl ?_
    refine gp_of (fun _ k9 => g_icf rfl (show ¬ (t ≤ (1 : Int32)) from p4) k9) ?_
    refine gp_n 1 (j' := 16) (lv' := [some (.ref 0), some (.int n), some (.int A), some (.int B), some (.int t), none, none, none, none]) (st' := [.int (-1)]) (h' := (shT, fi, fl, fr)) rfl ?_
    refine gp_done (g_ret rfl) ?_
    exact ⟨rfl, hR⟩
  by_cases p5 : 0 ≤ A ∧ A ≤ 100
  case neg =>
    have xx := x0 p5
    refine gp_n 1 (j' := 1) (lv' := [some (.ref 0), some (.int n), some (.int A), some (.int B), some (.int t), none, none, none, none]) (st' := [.ref 0]) (h' := (shT, fi, fl, fr)) rfl ?_
    refine gp_of (fun _ k9 => g_getR (q' := 1) rfl rfl (by decide) k0 k9) ?_
    refine gp_of (fun _ k9 => g_call (y := 57) (as := [.ref 1]) (st' := []) rfl rfl (tt) k9) ?_
    refine gp_of (fun _ k9 => g_iff rfl (show ¬ ((1 : Int32) = (0 : Int32)) from by decide) k9) ?_
    refine gp_n 2 (j' := 6) (lv' := [some (.ref 0), some (.int n), some (.int A), some (.int B), some (.int t), none, none, none, none]) (st' := [.int 1, .int n]) (h' := (shT, fi, fl, fr)) rfl ?_
    refine gp_of (fun _ k9 => g_icf rfl (show ¬ (n < (1 : Int32)) from p1) k9) ?_
    refine gp_n 2 (j' := 9) (lv' := [some (.ref 0), some (.int n), some (.int A), some (.int B), some (.int t), none, none, none, none]) (st' := [.int 40, .int n]) (h' := (shT, fi, fl, fr)) rfl ?_
    refine gp_of (fun _ k9 => g_icf rfl (show ¬ ((40 : Int32) < n) from p2) k9) ?_
    refine gp_n 1 (j' := 11) (lv' := [some (.ref 0), some (.int n), some (.int A), some (.int B), some (.int t), none, none, none, none]) (st' := [.int t]) (h' := (shT, fi, fl, fr)) rfl ?_
    refine gp_of (fun _ k9 => g_iff rfl (show ¬ (t < (0 : Int32)) from p3) k9) ?_
    refine gp_n 2 (j' := 14) (lv' := [some (.ref 0), some (.int n), some (.int A), some (.int B), some (.int t), none, none, none, none]) (st' := [.int 1, .int t]) (h' := (shT, fi, fl, fr)) rfl ?_
    refine gp_of (fun _ k9 => g_ict rfl (show t ≤ (1 : Int32) from p4) k9) ?_
    refine gp_n 1 (j' := 18) (lv' := [some (.ref 0), some (.int n), some (.int A), some (.int B), some (.int t), none, none, none, none]) (st' := [.int A]) (h' := (shT, fi, fl, fr)) rfl ?_
    refine gp_of (fun _ k9 => g_call (y := 71) (as := [.int A]) (st' := []) rfl rfl (xx) k9) ?_
    refine gp_of (fun _ k9 => g_ift rfl (show (0 : Int32) = (0 : Int32) from by decide) k9) ?_
    refine gp_n 1 (j' := 24) (lv' := [some (.ref 0), some (.int n), some (.int A), some (.int B), some (.int t), none, none, none, none]) (st' := [.int (-1)]) (h' := (shT, fi, fl, fr)) rfl ?_
    refine gp_done (g_ret rfl) ?_
    exact ⟨rfl, hR⟩
  have xx := x1 p5
  have yy := y0 (fun z => hp ⟨h0, ⟨Int32.not_lt.mp p1, Int32.not_lt.mp p2⟩, ⟨p5, z⟩, Int32.not_lt.mp p3, p4⟩)
  refine gp_n 1 (j' := 1) (lv' := [some (.ref 0), some (.int n), some (.int A), some (.int B), some (.int t), none, none, none, none]) (st' := [.ref 0]) (h' := (shT, fi, fl, fr)) rfl ?_
  refine gp_of (fun _ k9 => g_getR (q' := 1) rfl rfl (by decide) k0 k9) ?_
  refine gp_of (fun _ k9 => g_call (y := 57) (as := [.ref 1]) (st' := []) rfl rfl (tt) k9) ?_
  refine gp_of (fun _ k9 => g_iff rfl (show ¬ ((1 : Int32) = (0 : Int32)) from by decide) k9) ?_
  refine gp_n 2 (j' := 6) (lv' := [some (.ref 0), some (.int n), some (.int A), some (.int B), some (.int t), none, none, none, none]) (st' := [.int 1, .int n]) (h' := (shT, fi, fl, fr)) rfl ?_
  refine gp_of (fun _ k9 => g_icf rfl (show ¬ (n < (1 : Int32)) from p1) k9) ?_
  refine gp_n 2 (j' := 9) (lv' := [some (.ref 0), some (.int n), some (.int A), some (.int B), some (.int t), none, none, none, none]) (st' := [.int 40, .int n]) (h' := (shT, fi, fl, fr)) rfl ?_
  refine gp_of (fun _ k9 => g_icf rfl (show ¬ ((40 : Int32) < n) from p2) k9) ?_
  refine gp_n 1 (j' := 11) (lv' := [some (.ref 0), some (.int n), some (.int A), some (.int B), some (.int t), none, none, none, none]) (st' := [.int t]) (h' := (shT, fi, fl, fr)) rfl ?_
  refine gp_of (fun _ k9 => g_iff rfl (show ¬ (t < (0 : Int32)) from p3) k9) ?_
  refine gp_n 2 (j' := 14) (lv' := [some (.ref 0), some (.int n), some (.int A), some (.int B), some (.int t), none, none, none, none]) (st' := [.int 1, .int t]) (h' := (shT, fi, fl, fr)) rfl ?_
  refine gp_of (fun _ k9 => g_ict rfl (show t ≤ (1 : Int32) from p4) k9) ?_
  refine gp_n 1 (j' := 18) (lv' := [some (.ref 0), some (.int n), some (.int A), some (.int B), some (.int t), none, none, none, none]) (st' := [.int A]) (h' := (shT, fi, fl, fr)) rfl ?_
  refine gp_of (fun _ k9 => g_call (y := 71) (as := [.int A]) (st' := []) rfl rfl (xx) k9) ?_
  refine gp_of (fun _ k9 => g_iff rfl (show ¬ ((1 : Int32) = (0 : Int32)) from by decide) k9) ?_
  refine gp_n 1 (j' := 21) (lv' := [some (.ref 0), some (.int n), some (.int A), some (.int B), some (.int t), none, none, none, none]) (st' := [.int B]) (h' := (shT, fi, fl, fr)) rfl ?_
  refine gp_of (fun _ k9 => g_call (y := 71) (as := [.int B]) (st' := []) rfl rfl (yy) k9) ?_
  refine gp_of (fun _ k9 => g_iff rfl (show ¬ (¬ (0 : Int32) = (0 : Int32)) from by decide) k9) ?_
  refine gp_n 1 (j' := 24) (lv' := [some (.ref 0), some (.int n), some (.int A), some (.int B), some (.int t), none, none, none, none]) (st' := [.int (-1)]) (h' := (shT, fi, fl, fr)) rfl ?_
  refine gp_done (g_ret rfl) ?_
  exact ⟨rfl, hR⟩
/-! the model's -/
theorem cp_M1 {fl : Nat → Nat → Int64} {fr : Nat → Nat → Option Nat} {X5 : Int32} {l1 l2 l3 l4 l7 l8 l9 l10 l11 : Option Value} (k22 : fr 70 22 = some 74) (k49 : fr 70 49 = some 90) : ∀ (n j : Nat) (fi : Nat → Nat → Int32), j + n = 64 → ∃ fi', (∀ p s, ¬ p = 90 → fi' p s = fi p s) ∧ ∀ r, Go pmT none cd_227 39 [some (.ref 70), l1, l2, l3, l4, some (.int X5), some (.int (nI 64)), l7, l8, l9, l10, l11] [] (shT, fi', fl, fr) r → Go pmT none cd_227 26 [some (.ref 70), l1, l2, l3, l4, some (.int X5), some (.int (nI j)), l7, l8, l9, l10, l11] [] (shT, fi, fl, fr) r := by
  intro n
  induction n with
  | zero =>
    intro j fi hj
    have hj : j = 64 := by omega
    subst hj
    refine ⟨fi, fun _ _ _ => rfl, fun r k => ?_⟩
    refine go_of ?_
    refine gp_n 2 (j' := 28) (lv' := [some (.ref 70), l1, l2, l3, l4, some (.int X5), some (.int (nI 64)), l7, l8, l9, l10, l11]) (st' := [.int 64, .int (nI 64)]) (h' := (shT, fi, fl, fr)) rfl ?_
    refine gp_of (fun _ k9 => g_ict rfl (show (64 : Int32) ≤ (nI 64) from by decide) k9) ?_
    exact gp_done k rfl
  | succ n ih =>
    intro j fi hj
    obtain ⟨fi', a2, a3⟩ := ih (j + 1) (pm_u2 fi 90 j (fi 74 j)) (by omega)
    refine ⟨fi', fun p s hp => (a2 p s hp).trans (wl_ne (by omega)), fun r k => ?_⟩
    have g := a3 r k
    refine go_of ?_
    refine gp_n 2 (j' := 28) (lv' := [some (.ref 70), l1, l2, l3, l4, some (.int X5), some (.int (nI j)), l7, l8, l9, l10, l11]) (st' := [.int 64, .int (nI j)]) (h' := (shT, fi, fl, fr)) rfl ?_
    refine gp_of (fun _ k9 => g_icf rfl (show ¬ ((64 : Int32) ≤ (nI j)) from nI_ge (b := 64) (by omega) (by omega)) k9) ?_
    refine gp_n 1 (j' := 30) (lv' := [some (.ref 70), l1, l2, l3, l4, some (.int X5), some (.int (nI j)), l7, l8, l9, l10, l11]) (st' := [.ref 70]) (h' := (shT, fi, fl, fr)) rfl ?_
    refine gp_of (fun _ k9 => g_getR (q' := 90) rfl rfl (by decide) k49 k9) ?_
    refine gp_n 2 (j' := 33) (lv' := [some (.ref 70), l1, l2, l3, l4, some (.int X5), some (.int (nI j)), l7, l8, l9, l10, l11]) (st' := [.ref 70, .int (nI j), .ref 90]) (h' := (shT, fi, fl, fr)) rfl ?_
    refine gp_of (fun _ k9 => g_getR (q' := 74) rfl rfl (by decide) k22 k9) ?_
    refine gp_n 1 (j' := 35) (lv' := [some (.ref 70), l1, l2, l3, l4, some (.int X5), some (.int (nI j)), l7, l8, l9, l10, l11]) (st' := [.int (nI j), .ref 74, .int (nI j), .ref 90]) (h' := (shT, fi, fl, fr)) rfl ?_
    refine gp_of (fun _ k9 => g_iald (k := j) (x := fi 74 j) rfl rfl (rfl) (by omega) (by decide) (rfl) k9) ?_
    refine gp_of (fun _ k9 => g_iast (k := j) rfl rfl (rfl) (by omega) (by decide) k9) ?_
    refine gp_n 2 (j' := 26) (lv' := [some (.ref 70), l1, l2, l3, l4, some (.int X5), some (.int ((nI j) + 1)), l7, l8, l9, l10, l11]) (st' := []) (h' := (shT, pm_u2 fi 90 j (fi 74 j), fl, fr)) rfl ?_
    rw [nI_1]
    exact gp_done g rfl
theorem cp_M2 {fl : Nat → Nat → Int64} {fr : Nat → Nat → Option Nat} {X X7 : Int32} {l1 l2 l3 l4 l6 : Option Value} (k22 : fr 70 22 = some 74) (k49 : fr 70 49 = some 90) : ∀ (n j : Nat) (fi : Nat → Nat → Int32), j + n = 64 → ∃ fi', ∀ (l9 l10 l11 : Option Value) r, Go pmT none cd_227 121 [some (.ref 70), l1, l2, l3, l4, some (.int X), l6, some (.int X7), some (.int (nI 64)), l9, l10, l11] [] (shT, fi', fl, fr) r → Go pmT none cd_227 108 [some (.ref 70), l1, l2, l3, l4, some (.int X), l6, some (.int X7), some (.int (nI j)), l9, l10, l11] [] (shT, fi, fl, fr) r := by
  intro n
  induction n with
  | zero =>
    intro j fi hj
    have hj : j = 64 := by omega
    subst hj
    refine ⟨fi, fun l9 l10 l11 r k => ?_⟩
    refine go_of ?_
    refine gp_n 2 (j' := 110) (lv' := [some (.ref 70), l1, l2, l3, l4, some (.int X), l6, some (.int X7), some (.int (nI 64)), l9, l10, l11]) (st' := [.int 64, .int (nI 64)]) (h' := (shT, fi, fl, fr)) rfl ?_
    refine gp_of (fun _ k9 => g_ict rfl (show (64 : Int32) ≤ (nI 64) from by decide) k9) ?_
    exact gp_done k rfl
  | succ n ih =>
    intro j fi hj
    obtain ⟨fi', a3⟩ := ih (j + 1) (pm_u2 fi 74 j (fi 90 j)) (by omega)
    refine ⟨fi', fun l9 l10 l11 r k => ?_⟩
    have g := a3 l9 l10 l11 r k
    refine go_of ?_
    refine gp_n 2 (j' := 110) (lv' := [some (.ref 70), l1, l2, l3, l4, some (.int X), l6, some (.int X7), some (.int (nI j)), l9, l10, l11]) (st' := [.int 64, .int (nI j)]) (h' := (shT, fi, fl, fr)) rfl ?_
    refine gp_of (fun _ k9 => g_icf rfl (show ¬ ((64 : Int32) ≤ (nI j)) from nI_ge (b := 64) (by omega) (by omega)) k9) ?_
    refine gp_n 1 (j' := 112) (lv' := [some (.ref 70), l1, l2, l3, l4, some (.int X), l6, some (.int X7), some (.int (nI j)), l9, l10, l11]) (st' := [.ref 70]) (h' := (shT, fi, fl, fr)) rfl ?_
    refine gp_of (fun _ k9 => g_getR (q' := 74) rfl rfl (by decide) k22 k9) ?_
    refine gp_n 2 (j' := 115) (lv' := [some (.ref 70), l1, l2, l3, l4, some (.int X), l6, some (.int X7), some (.int (nI j)), l9, l10, l11]) (st' := [.ref 70, .int (nI j), .ref 74]) (h' := (shT, fi, fl, fr)) rfl ?_
    refine gp_of (fun _ k9 => g_getR (q' := 90) rfl rfl (by decide) k49 k9) ?_
    refine gp_n 1 (j' := 117) (lv' := [some (.ref 70), l1, l2, l3, l4, some (.int X), l6, some (.int X7), some (.int (nI j)), l9, l10, l11]) (st' := [.int (nI j), .ref 90, .int (nI j), .ref 74]) (h' := (shT, fi, fl, fr)) rfl ?_
    refine gp_of (fun _ k9 => g_iald (k := j) (x := fi 90 j) rfl rfl (rfl) (by omega) (by decide) (rfl) k9) ?_
    refine gp_of (fun _ k9 => g_iast (k := j) rfl rfl (rfl) (by omega) (by decide) k9) ?_
    refine gp_n 2 (j' := 108) (lv' := [some (.ref 70), l1, l2, l3, l4, some (.int X), l6, some (.int X7), some (.int ((nI j) + 1)), l9, l10, l11]) (st' := []) (h' := (shT, pm_u2 fi 74 j (fi 90 j), fl, fr)) rfl ?_
    rw [nI_1]
    exact gp_done g rfl
theorem fm_go_M {f d : Int32 → Int32} {k i9 : Nat} {n9 A B t X w1 w2 x : Int32} {fl : Nat → Nat → Int64} {fr : Nat → Nat → Option Nat} (hk : k ≤ 64) (hf : ∀ x, 0 ≤ (f x).toInt) (x0 : 0 ≤ x.toInt) (hd : ∀ x w i, w ||| ((d x).toInt64 <<< ((nI i : Int32).toInt64 &&& 63)) = if d x = 1 then w ||| bitAt i else w) (dr : ∀ (x : Int32) (fi : Nat → Nat → Int32), fi 70 23 = x → 0 ≤ x.toInt → Ev pmT 185 [.ref 70, .int 2] (shT, fi, fl, fr) (some (.int (d x))) (shT, pm_u2 fi 70 23 (f x), fl, fr)) : ∀ (n i : Nat) (fi : Nat → Nat → Int32), i + n = k → fi 70 16 = nI k → fi 70 23 = itN f i x → ∃ fi', fi' 70 23 = itN f k x ∧ (∀ p s, ¬ (p = 70 ∧ s = 23) → fi' p s = fi p s) ∧ ∀ r, Go pmT none cd_227 69 [some (.ref 70), some (.int n9), some (.int A), some (.int B), some (.int t), some (.int X), some (.int w1), some (.int w2), some (.int (nI i9)), some (.long (fmN f d x k)), none, some (.int (nI k))] [] (shT, fi', fl, fr) r → Go pmT none cd_227 52 [some (.ref 70), some (.int n9), some (.int A), some (.int B), some (.int t), some (.int X), some (.int w1), some (.int w2), some (.int (nI i9)), some (.long (fmN f d x i)), none, some (.int (nI i))] [] (shT, fi, fl, fr) r := by
  intro n
  induction n with
  | zero =>
    intro i fi hi c2 c13
    have hi : i = k := by omega
    subst hi
    refine ⟨fi, c13, fun _ _ _ => rfl, fun r kk => ?_⟩
    generalize fmN f d x i = w at *
    refine go_of ?_
    refine gp_n 2 (j' := 54) (lv' := [some (.ref 70), some (.int n9), some (.int A), some (.int B), some (.int t), some (.int X), some (.int w1), some (.int w2), some (.int (nI i9)), some (.long w), none, some (.int (nI i))]) (st' := [.ref 70, .int (nI i)]) (h' := (shT, fi, fl, fr)) rfl ?_
    refine gp_of (fun _ k9 => g_getI (x := nI i) rfl (Or.inl rfl) rfl (by decide) (c2) k9) ?_
    refine gp_of (fun _ k9 => g_ict rfl (show (nI i) ≤ (nI i) from Int32.le_refl _) k9) ?_
    exact gp_done kk rfl
  | succ n ih =>
    intro i fi hi c2 c13
    have px : 0 ≤ (itN f i x).toInt := itN_pos hf i x x0
    obtain ⟨fi', a1, a2, a3⟩ := ih (i + 1) (pm_u2 fi 70 23 (f (itN f i x))) (by omega) ((show pm_u2 fi 70 23 (f (itN f i x)) 70 16 = fi 70 16 from wl_ne (by decide)).trans c2) (by rw [← itN_s]; exact u2_eq)
    refine ⟨fi', a1, fun p s z => (a2 p s z).trans (wl_ne z), fun r kk => ?_⟩
    have g := a3 r kk
    rw [fmN, hd] at g
    unfold bitAt at g
    have dr := dr _ _ c13 px
    clear a3 ih kk a1 a2 hd
    generalize fmN f d x k = wk at *
    generalize fmN f d x i = w at *
    generalize itN f i x = y at *
    generalize f y = z at *
    generalize d y = v at *
    refine go_of ?_
    by_cases hv : v = 1
    · rw [if_pos hv] at g
      refine gp_n 2 (j' := 54) (lv' := [some (.ref 70), some (.int n9), some (.int A), some (.int B), some (.int t), some (.int X), some (.int w1), some (.int w2), some (.int (nI i9)), some (.long w), none, some (.int (nI i))]) (st' := [.ref 70, .int (nI i)]) (h' := (shT, fi, fl, fr)) rfl ?_
      refine gp_of (fun _ k9 => g_getI (x := nI k) rfl (Or.inl rfl) rfl (by decide) (c2) k9) ?_
      refine gp_of (fun _ k9 => g_icf rfl (show ¬ ((nI k) ≤ (nI i)) from nI_ge (by omega) (by omega)) k9) ?_
      refine gp_n 2 (j' := 58) (lv' := [some (.ref 70), some (.int n9), some (.int A), some (.int B), some (.int t), some (.int X), some (.int w1), some (.int w2), some (.int (nI i9)), some (.long w), none, some (.int (nI i))]) (st' := [.int 2, .ref 70]) (h' := (shT, fi, fl, fr)) rfl ?_
      refine gp_of (fun _ k9 => g_call (y := 185) (as := [.ref 70, .int 2]) (st' := []) rfl rfl (dr) k9) ?_
      refine gp_n 1 (j' := 60) (lv' := [some (.ref 70), some (.int n9), some (.int A), some (.int B), some (.int t), some (.int X), some (.int w1), some (.int w2), some (.int (nI i9)), some (.long w), none, some (.int (nI i))]) (st' := [.int 1, .int v]) (h' := (shT, (pm_u2 fi 70 23 z), fl, fr)) rfl ?_
      refine gp_of (fun _ k9 => g_icf rfl (show ¬ (¬ v = (1 : Int32)) from not_not_intro hv) k9) ?_
      refine gp_n 8 (j' := 52) (lv' := [some (.ref 70), some (.int n9), some (.int A), some (.int B), some (.int t), some (.int X), some (.int w1), some (.int w2), some (.int (nI i9)), some (.long (w ||| ((1 : Int64) <<< ((nI i : Int32).toInt64 &&& 63)))), none, some (.int ((nI i) + 1))]) (st' := []) (h' := (shT, (pm_u2 fi 70 23 z), fl, fr)) rfl ?_
      rw [nI_1]
      exact gp_done g rfl
    · rw [if_neg hv] at g
      refine gp_n 2 (j' := 54) (lv' := [some (.ref 70), some (.int n9), some (.int A), some (.int B), some (.int t), some (.int X), some (.int w1), some (.int w2), some (.int (nI i9)), some (.long w), none, some (.int (nI i))]) (st' := [.ref 70, .int (nI i)]) (h' := (shT, fi, fl, fr)) rfl ?_
      refine gp_of (fun _ k9 => g_getI (x := nI k) rfl (Or.inl rfl) rfl (by decide) (c2) k9) ?_
      refine gp_of (fun _ k9 => g_icf rfl (show ¬ ((nI k) ≤ (nI i)) from nI_ge (by omega) (by omega)) k9) ?_
      refine gp_n 2 (j' := 58) (lv' := [some (.ref 70), some (.int n9), some (.int A), some (.int B), some (.int t), some (.int X), some (.int w1), some (.int w2), some (.int (nI i9)), some (.long w), none, some (.int (nI i))]) (st' := [.int 2, .ref 70]) (h' := (shT, fi, fl, fr)) rfl ?_
      refine gp_of (fun _ k9 => g_call (y := 185) (as := [.ref 70, .int 2]) (st' := []) rfl rfl (dr) k9) ?_
      refine gp_n 1 (j' := 60) (lv' := [some (.ref 70), some (.int n9), some (.int A), some (.int B), some (.int t), some (.int X), some (.int w1), some (.int w2), some (.int (nI i9)), some (.long w), none, some (.int (nI i))]) (st' := [.int 1, .int v]) (h' := (shT, (pm_u2 fi 70 23 z), fl, fr)) rfl ?_
      refine gp_of (fun _ k9 => g_ict rfl (show ¬ v = (1 : Int32) from hv) k9) ?_
      refine gp_n 2 (j' := 52) (lv' := [some (.ref 70), some (.int n9), some (.int A), some (.int B), some (.int t), some (.int X), some (.int w1), some (.int w2), some (.int (nI i9)), some (.long w), none, some (.int ((nI i) + 1))]) (st' := []) (h' := (shT, (pm_u2 fi 70 23 z), fl, fr)) rfl ?_
      rw [nI_1]
      exact gp_done g rfl
/-- the code as the model has it -/
def vM (a : AB) (m k c l : Nat) (h : PmH) : Prop := ph_i h 70 14 = nI (2 ^ m) ∧ ph_i h 70 16 = nI k ∧ ph_i h 70 17 = nI c ∧ ph_i h 70 18 = (a_v a).1 4 ∧ ph_i h 70 20 = nI l ∧ ph_l h 70 21 = (a_v a).2.1
theorem vM_cg {a : AB} {m k c l : Nat} {h h' : PmH} (e : ∀ s, 14 ≤ s → s ≤ 20 → ph_i h' 70 s = ph_i h 70 s) (el : ph_l h' 70 21 = ph_l h 70 21) (hv : vM a m k c l h) : vM a m k c l h' := by
  obtain ⟨a2, a3, a4, a5, a6, a7⟩ := hv
  exact ⟨(e _ (by decide) (by decide)).trans a2, (e _ (by decide) (by decide)).trans a3, (e _ (by decide) (by decide)).trans a4, (e _ (by decide) (by decide)).trans a5, (e _ (by decide) (by decide)).trans a6, el.trans a7⟩
theorem HI_u {fi fi' : Nat → Nat → Int32} {fl : Nat → Nat → Int64} {fr : Nat → Nat → Option Nat} {p0 s0 : Nat} (h9 : hd_at hdT shT p0 s0 = (9, 0, 0, [])) (e : ∀ p s, ¬ (p = p0 ∧ s = s0) → fi' p s = fi p s) (hI : HI hdT shT (shT, fi, fl, fr)) : HI hdT shT (shT, fi', fl, fr) := by
  refine ⟨rfl, fun p s t n hp hs => ?_⟩
  by_cases z : p = p0 ∧ s = s0
  · obtain ⟨rfl, rfl⟩ := z
    rw [h9]
    trivial
  · have := hI.2 p s t n hp hs
    unfold hd_ok at this ⊢
    rw [show ph_i (shT, fi', fl, fr) p s = ph_i (shT, fi, fl, fr) p s from e p s z]
    exact this
theorem HI_a {fi fi' : Nat → Nat → Int32} {fl : Nat → Nat → Int64} {fr : Nat → Nat → Option Nat} {p0 : Nat} (h9 : ∀ s, hd_at hdT shT p0 s = (9, 0, 0, [])) (e : ∀ p s, ¬ p = p0 → fi' p s = fi p s) (hI : HI hdT shT (shT, fi, fl, fr)) : HI hdT shT (shT, fi', fl, fr) := by
  refine ⟨rfl, fun p s t n hp hs => ?_⟩
  by_cases z : p = p0
  · subst z
    rw [h9]
    trivial
  · have := hI.2 p s t n hp hs
    unfold hd_ok at this ⊢
    rw [show ph_i (shT, fi', fl, fr) p s = ph_i (shT, fi, fl, fr) p s from e p s z]
    exact this
theorem fhR {h : PmH} {a : AB} {m k c l : Nat} {S : Nat → Int32} (hI : HI hdT shT h) (hv : vM a m k c l h) (vk : VK (a_v a) m k c) (l1 : 1 ≤ l) (l8 : l ≤ 8) (hx : mrI (a_v a).2.1 m S l (2 ^ m) h) : Ev pmT 200 [.ref 70] h (some (.int (oI (fhN (fun p => decide (hdP (a_v a).2.1 (2 ^ m) k c ((a_v a).1 4) ((rdN (a_v a).2.1 m S l (2 ^ m)).2.1 p))) (rdN (a_v a).2.1 m S l (2 ^ m)).1)))) h := by
  have p6 := pw_6 m (by have := vk.1; omega)
  have hP := rd_P (K := (a_v a).2.1) (m := m) (S := S) l1 (2 ^ m)
  have g := fh_go (P := (rdN (a_v a).2.1 m S l (2 ^ m)).1) (D := fun p => decide (hdP (a_v a).2.1 (2 ^ m) k c ((a_v a).1 4) ((rdN (a_v a).2.1 m S l (2 ^ m)).2.1 p))) (B := (rdN (a_v a).2.1 m S l (2 ^ m)).2.1) hI (Nat.le_trans hP.2 l8) hx.1.1 (fun p hp => (hx.1.2 p hp).1) (fun p hp => hd_M hI p6.2 vk.2.2.2.2.2.2.1 vk.2.1 hv.1 hv.2.1 hv.2.2.1 hv.2.2.2.1 hv.2.2.2.2.2) (rdN (a_v a).2.1 m S l (2 ^ m)).1 0 (by omega) rfl
  refine Ev.of (es := cd_200) (ml := 2) (lv := [some (.ref 70), none]) rfl rfl rfl ?_
  refine go_of ?_
  refine gp_n 2 (j' := 2) (lv' := [some (.ref 70), some (.int (nI 0))]) (st' := []) (h' := h) rfl ?_
  exact gp_done g rfl
theorem chR {h : PmH} {D : Nat → Bool} {P : Nat} (hI : HI hdT shT h) (hP : P ≤ 8) (e : Ev pmT 200 [.ref 70] h (some (.int (oI (fhN D P)))) h) : Ev pmT 199 [.ref 70] h (some (.int (nI (chN D P)))) h := by
  have lt := fhN_lt (D := D) P
  unfold chN
  cases hf : fhN D P with
  | none =>
    rw [hf] at e
    have e : Ev pmT 200 [.ref 70] h (some (.int (-1))) h := e
    show Ev pmT 199 [.ref 70] h (some (.int 0)) h
    refine Ev.of (es := cd_199) (ml := 2) (lv := [some (.ref 70), none]) rfl rfl rfl ?_
    obtain ⟨S, fi, fl, fr⟩ := h
    have hS : S = shT := hI.1
    subst hS
    refine go_of ?_
    refine gp_n 1 (j' := 1) (lv' := [some (.ref 70), none]) (st' := [.ref 70]) (h' := (shT, fi, fl, fr)) rfl ?_
    refine gp_of (fun _ k9 => g_call (y := 200) (as := [.ref 70]) (st' := []) rfl rfl (e) k9) ?_
    refine gp_n 2 (j' := 4) (lv' := [some (.ref 70), some (.int (-1))]) (st' := [.int (-1)]) (h' := (shT, fi, fl, fr)) rfl ?_
    refine gp_of (fun _ k9 => g_iff rfl (show ¬ ((0 : Int32) ≤ ((-1) : Int32)) from by decide) k9) ?_
    refine gp_n 2 (j' := 8) (lv' := [some (.ref 70), some (.int (-1))]) (st' := [.int 0]) (h' := (shT, fi, fl, fr)) rfl ?_
    refine gp_done (g_ret rfl) ?_
    rfl
  | some q =>
    rw [hf] at e
    have q1 := (lt q hf).1
    have e : Ev pmT 200 [.ref 70] h (some (.int (nI q))) h := e
    show Ev pmT 199 [.ref 70] h (some (.int (nI q))) h
    refine Ev.of (es := cd_199) (ml := 2) (lv := [some (.ref 70), none]) rfl rfl rfl ?_
    obtain ⟨S, fi, fl, fr⟩ := h
    have hS : S = shT := hI.1
    subst hS
    refine go_of ?_
    refine gp_n 1 (j' := 1) (lv' := [some (.ref 70), none]) (st' := [.ref 70]) (h' := (shT, fi, fl, fr)) rfl ?_
    refine gp_of (fun _ k9 => g_call (y := 200) (as := [.ref 70]) (st' := []) rfl rfl (e) k9) ?_
    refine gp_n 2 (j' := 4) (lv' := [some (.ref 70), some (.int (nI q))]) (st' := [.int (nI q)]) (h' := (shT, fi, fl, fr)) rfl ?_
    refine gp_of (fun _ k9 => g_ift rfl (show (0 : Int32) ≤ (nI q) from nI_pos' (by omega)) k9) ?_
    refine gp_n 1 (j' := 8) (lv' := [some (.ref 70), some (.int (nI q))]) (st' := [.int (nI q)]) (h' := (shT, fi, fl, fr)) rfl ?_
    refine gp_done (g_ret rfl) ?_
    rfl
/-- one frame of the model -/
theorem fs_M {h : PmH} {a : AB} {m k c l i NN w1 w2 : Nat} {A B t X x : Int32} (hI : HI hdT shT h) (vk : VK (a_v a) m k c) (hv : vM a m k c l h) (l1 : 1 ≤ l) (l8 : l ≤ 8) (hA : 0 ≤ A ∧ A ≤ 100) (hB : 0 ≤ B ∧ B ≤ 100) (n40 : NN ≤ 40) (hi : i < NN) (c23 : ph_i h 70 23 = x) (x0 : 0 ≤ x.toInt) : ∃ h', HI hdT shT h' ∧ vM a m k c l h' ∧ ph_i h' 70 23 = fE m k x ∧ ∀ r, (∀ l9 l10 l11, Go pmT none cd_227 45 [some (.ref 70), some (.int (nI NN)), some (.int A), some (.int B), some (.int t), some (.int X), some (.int (nI (if fR a m k c l A B x = true then w1 else w1 + 1))), some (.int (nI (if fR a m k c l A B x = true then w2 else w2 + (if fH a m k c l A B x = true then 1 else 0)))), some (.int (nI (i + 1))), l9, l10, l11] [] h' r) → ∀ l9 l10 l11, Go pmT none cd_227 45 [some (.ref 70), some (.int (nI NN)), some (.int A), some (.int B), some (.int t), some (.int X), some (.int (nI w1)), some (.int (nI w2)), some (.int (nI i)), l9, l10, l11] [] h r := by
  have p6 := pw_6 m (by have := vk.1; omega)
  have kk := vk_k vk
  have xb := i32_bd hA
  have yb := i32_bd hB
  have k22 : ph_r h 70 22 = some 74 := hi_r hI rfl rfl (by decide)
  obtain ⟨S, fi, fl, fr⟩ := h
  have hS : S = shT := hI.1
  subst hS
  have k22 : fr 70 22 = some 74 := k22
  obtain ⟨f1, a1, a2, a3⟩ := fm_go_M (f := lcg) (d := fun x => drw x 2) (i9 := i) (n9 := nI NN) (A := A) (B := B) (t := t) (X := X) (w1 := nI w1) (w2 := nI w2) (x := x) (fl := fl) kk (fun _ => lcg_pos) x0 (fun _ _ _ => d2_e) (fun x fi c hx => dr_M c hx (by decide)) k 0 fi (by omega) hv.2.1 c23
  have I1 := HI_u (p0 := 70) (s0 := 23) rfl a2 hI
  have v1 : vM a m k c l (shT, f1, fl, fr) := vM_cg (h := (shT, fi, fl, fr)) (fun s z1 z2 => a2 70 s (by omega)) rfl hv
  obtain ⟨y, y1, y2⟩ := ch_ev2 (w := fM k x) I1 p6.2 vk.2.2.2.2.2.2.1 vk.2.1 v1.1 v1.2.1 v1.2.2.1 v1.2.2.2.1 v1.2.2.2.2.2
  obtain ⟨z, z1, z2⟩ := bm_ev2 vk.1 (h := (shT, f1, fl, fr)) (x := y) (fun j hj => by
    by_cases h64 : j < 64
    · rw [y2 j h64, decide_eq_false (by omega), Bool.false_and]
    · exact bl_64 _ (by omega))
  have z3 : z = enW m (2 ^ m) k c (a_v a).2.1 (fM k x) ((a_v a).1 4) := enW_eq (fun j hj => (z2 j hj).trans (bfN_cg m 0 (by have := vk.1; omega) y2 j hj))
  subst z3
  have px : 0 ≤ (itN lcg k x).toInt := itN_pos (fun _ => lcg_pos) k x x0
  have tx := sx_ev (a := A) (b := B) (w := enW m (2 ^ m) k c (a_v a).2.1 (fM k x) ((a_v a).1 4)) (fi := f1) (fl := fl) p6.2 k22 (str_pos hB) v1.1 a1 px
  obtain ⟨I2, F2⟩ := iv_s vN_205 rfl (fun _ _ => gz_c (gz_r (by decide)) (gz_c (gz_l _) (gz_c (gz_i xb.1 xb.2) (gz_c (gz_i yb.1 yb.2) gz_n)))) I1 tx
  have q13 := txF_x (f := lcg) (d := fun x => drw x (2 * B + 1)) (p := 70) (c := 23) (q := 74) (a := A) (b := B) (w := enW m (2 ^ m) k c (a_v a).2.1 (fM k x) ((a_v a).1 4)) (by decide) (2 ^ m) 0 _ f1 a1
  have qs := txF_s (f := lcg) (d := fun x => drw x (2 * B + 1)) (p := 70) (c := 23) (q := 74) (a := A) (b := B) (w := enW m (2 ^ m) k c (a_v a).2.1 (fM k x) ((a_v a).1 4)) (by decide) (2 ^ m) 0 (itN lcg k x) f1
  generalize hT : txF lcg (fun x => drw x (2 * B + 1)) 70 23 74 A B (enW m (2 ^ m) k c (a_v a).2.1 (fM k x) ((a_v a).1 4)) (2 ^ m) 0 (itN lcg k x) f1 = f2 at *
  have w14 : ∀ s, 14 ≤ s → s ≤ 20 → inW (in_w iN_205) 70 s = false := fun s z1 z2 => (show ∀ s, s < 21 → 14 ≤ s → inW (in_w iN_205) 70 s = false by decide) s (by omega) z1
  have v2 : vM a m k c l (shT, f2, fl, fr) := vM_cg (h := (shT, f1, fl, fr)) (fun s z1 z2 => (F2 70 s (w14 s z1 z2)).1) rfl v1
  obtain ⟨h3, e3, I3, x3, F3⟩ := mr_ev (K := (a_v a).2.1) (S := fA a m k c A B x) (h := (shT, f2, fl, fr)) vk.1 l1 l8 I2 ⟨v2.1, v2.2.2.2.2.2, fun s hs => by
    show f2 74 s = fS _ _ _ _ _ s
    rw [qs s, if_pos (by omega), Nat.sub_zero]
    unfold fS
    rw [if_pos hs]⟩
  have r14 : ∀ s, 14 ≤ s → s ≤ 20 → inW rd_W 70 s = false := fun s z1 z2 => (show ∀ s, s < 21 → 14 ≤ s → inW rd_W 70 s = false by decide) s (by omega) z1
  have v3 : vM a m k c l h3 := vM_cg (fun s z1 z2 => (F3 70 s (r14 s z1 z2)).1) (F3 70 21 (by decide)).2.1 v2
  have hP := rd_P (K := (a_v a).2.1) (m := m) (S := fA a m k c A B x) l1 (2 ^ m)
  refine ⟨h3, I3, v3, (F3 70 23 (by decide)).1.trans q13, fun r kz l9 l10 l11 => ?_⟩
  have fm := fhR I3 v3 vk l1 l8 x3
  have cm := chR I3 (Nat.le_trans hP.2 l8) fm
  have fm : Ev pmT 200 [.ref 70] h3 (some (.int (oI (fhN (fD a m k c l A B x) (fX a m k c l A B x).1)))) h3 := fm
  have cm : Ev pmT 199 [.ref 70] h3 (some (.int (nI (chN (fD a m k c l A B x) (fX a m k c l A B x).1)))) h3 := cm
  have fo := fh_ho (D := fD a m k c l A B x) (P := (fX a m k c l A B x).1) (Nat.le_trans hP.2 l8)
  have fo : (fH a m k c l A B x = true → ∃ q, q < 8 ∧ oI (fhN (fD a m k c l A B x) (fX a m k c l A B x).1) = nI q) ∧ (fH a m k c l A B x = false → oI (fhN (fD a m k c l A B x) (fX a m k c l A B x).1) = -1) := fo
  have mo := mo_M (ch := (fX a m k c l A B x).2.1 (chN (fD a m k c l A B x) (fX a m k c l A B x).1)) I3 p6.2 kk v3.1 v3.2.1 v3.2.2.2.2.2
  have cl := ch_lt (D := fD a m k c l A B x) (P := (fX a m k c l A B x).1) hP.1
  have cb : (fX a m k c l A B x).1 ≤ 8 := Nat.le_trans hP.2 l8
  have bb : ph_l h3 76 (chN (fD a m k c l A B x) (fX a m k c l A B x).1) = (fX a m k c l A B x).2.1 (chN (fD a m k c l A B x) (fX a m k c l A B x).1) := (x3.1.2 _ cl).1
  have q26 : ph_r h3 70 26 = some 76 := hi_r I3 rfl rfl (by decide)
  have c20 : f2 70 20 = nI l := v2.2.2.2.2.1
  have c14 : f1 70 14 = nI (2 ^ m) := v1.1
  have key : fR a m k c l A B x = decide (mgW (a_v a).2.1 (2 ^ m) k ((fX a m k c l A B x).2.1 (chN (fD a m k c l A B x) (fX a m k c l A B x).1)) = fM k x) := rfl
  rw [key] at kz
  have a3 : ∀ r, Go pmT none cd_227 69 [some (.ref 70), some (.int (nI NN)), some (.int A), some (.int B), some (.int t), some (.int X), some (.int (nI w1)), some (.int (nI w2)), some (.int (nI i)), some (.long (fM k x)), none, some (.int (nI k))] [] (shT, f1, fl, fr) r → Go pmT none cd_227 52 [some (.ref 70), some (.int (nI NN)), some (.int A), some (.int B), some (.int t), some (.int X), some (.int (nI w1)), some (.int (nI w2)), some (.int (nI i)), some (.long 0), none, some (.int (nI 0))] [] (shT, fi, fl, fr) r := a3
  generalize oI (fhN (fD a m k c l A B x) (fX a m k c l A B x).1) = oq at *
  generalize mgW (a_v a).2.1 (2 ^ m) k ((fX a m k c l A B x).2.1 (chN (fD a m k c l A B x) (fX a m k c l A B x).1)) = w at *
  generalize (fX a m k c l A B x).2.1 (chN (fD a m k c l A B x) (fX a m k c l A B x).1) = u at *
  generalize chN (fD a m k c l A B x) (fX a m k c l A B x).1 = q at *
  generalize (fX a m k c l A B x).1 = P at *
  generalize fH a m k c l A B x = H at *
  generalize enW m (2 ^ m) k c (a_v a).2.1 (fM k x) ((a_v a).1 4) = en at *
  generalize fM k x = ms at *
  generalize nI (2 ^ m) = N at *
  clear key hP F3 v3 v2 v1 qs q13 F2 a1 a2 hv hT I1 I2 x3 w14 r14 y2 z2 px
  obtain ⟨S3, fi3, fl3, fr3⟩ := h3
  have s3 : S3 = shT := I3.1
  subst s3
  have q26 : fr3 70 26 = some 76 := q26
  have bb : fl3 76 q = u := bb
  have g := a3 r (by
    refine go_of ?_
    by_cases hw : w = ms
    · have l0 : lg_cmp w ms = 0 := by rw [lg_cmp_eq]; exact hw
      rw [decide_eq_true hw, if_pos rfl, if_pos rfl] at kz
      refine gp_n 3 (j' := 72) (lv' := [some (.ref 70), some (.int (nI NN)), some (.int A), some (.int B), some (.int t), some (.int X), some (.int (nI w1)), some (.int (nI w2)), some (.int (nI i)), some (.long ms), none, some (.int (nI k))]) (st' := [.long ms, .ref 70, .ref 70]) (h' := (shT, f1, fl, fr)) rfl ?_
      refine gp_of (fun _ k9 => g_call (y := 173) (as := [.ref 70, .long ms]) (st' := [.ref 70]) rfl rfl (y1) k9) ?_
      refine gp_n 1 (j' := 74) (lv' := [some (.ref 70), some (.int (nI NN)), some (.int A), some (.int B), some (.int t), some (.int X), some (.int (nI w1)), some (.int (nI w2)), some (.int (nI i)), some (.long ms), none, some (.int (nI k))]) (st' := [.ref 70, .long y, .ref 70]) (h' := (shT, f1, fl, fr)) rfl ?_
      refine gp_of (fun _ k9 => g_getI (x := N) rfl (Or.inl rfl) rfl (by decide) (c14) k9) ?_
      refine gp_of (fun _ k9 => g_call (y := 175) (as := [.long y, .int N]) (st' := [.ref 70]) rfl rfl (z1) k9) ?_
      refine gp_n 2 (j' := 78) (lv' := [some (.ref 70), some (.int (nI NN)), some (.int A), some (.int B), some (.int t), some (.int X), some (.int (nI w1)), some (.int (nI w2)), some (.int (nI i)), some (.long ms), none, some (.int (nI k))]) (st' := [.int B, .int A, .long en, .ref 70]) (h' := (shT, f1, fl, fr)) rfl ?_
      refine gp_of (fun _ k9 => g_callv (y := 184) (as := [.ref 70, .long en, .int A, .int B]) (st' := []) rfl rfl (tx) k9) ?_
      refine gp_n 2 (j' := 81) (lv' := [some (.ref 70), some (.int (nI NN)), some (.int A), some (.int B), some (.int t), some (.int X), some (.int (nI w1)), some (.int (nI w2)), some (.int (nI i)), some (.long ms), none, some (.int (nI k))]) (st' := [.ref 70, .ref 70]) (h' := (shT, f2, fl, fr)) rfl ?_
      refine gp_of (fun _ k9 => g_getI (x := nI l) rfl (Or.inl rfl) rfl (by decide) (c20) k9) ?_
      refine gp_of (fun _ k9 => g_callv (y := 191) (as := [.ref 70, .int (nI l)]) (st' := []) rfl rfl (e3) k9) ?_
      refine gp_n 2 (j' := 85) (lv' := [some (.ref 70), some (.int (nI NN)), some (.int A), some (.int B), some (.int t), some (.int X), some (.int (nI w1)), some (.int (nI w2)), some (.int (nI i)), some (.long ms), none, some (.int (nI k))]) (st' := [.ref 70, .ref 70]) (h' := (shT, fi3, fl3, fr3)) rfl ?_
      refine gp_of (fun _ k9 => g_getR (q' := 76) rfl rfl (by decide) q26 k9) ?_
      refine gp_n 1 (j' := 87) (lv' := [some (.ref 70), some (.int (nI NN)), some (.int A), some (.int B), some (.int t), some (.int X), some (.int (nI w1)), some (.int (nI w2)), some (.int (nI i)), some (.long ms), none, some (.int (nI k))]) (st' := [.ref 70, .ref 76, .ref 70]) (h' := (shT, fi3, fl3, fr3)) rfl ?_
      refine gp_of (fun _ k9 => g_call (y := 199) (as := [.ref 70]) (st' := [.ref 76, .ref 70]) rfl rfl (cm) k9) ?_
      refine gp_of (fun _ k9 => g_lald (k := q) (x := u) rfl rfl (rfl) (by omega) (by decide) (bb) k9) ?_
      refine gp_of (fun _ k9 => g_call (y := 202) (as := [.ref 70, .long u]) (st' := []) rfl rfl (mo) k9) ?_
      refine gp_n 2 (j' := 92) (lv' := [some (.ref 70), some (.int (nI NN)), some (.int A), some (.int B), some (.int t), some (.int X), some (.int (nI w1)), some (.int (nI w2)), some (.int (nI i)), some (.long ms), none, some (.int (nI k))]) (st' := [.int (lg_cmp w ms)]) (h' := (shT, fi3, fl3, fr3)) rfl ?_
      refine gp_of (fun _ k9 => g_iff rfl (show ¬ (¬ (lg_cmp w ms) = (0 : Int32)) from not_not_intro l0) k9) ?_
      refine gp_n 3 (j' := 45) (lv' := [some (.ref 70), some (.int (nI NN)), some (.int A), some (.int B), some (.int t), some (.int X), some (.int (nI w1)), some (.int (nI w2)), some (.int ((nI i) + 1)), some (.long ms), none, some (.int (nI k))]) (st' := []) (h' := (shT, fi3, fl3, fr3)) rfl ?_
      rw [nI_1 i]
      exact gp_done (kz _ _ _) rfl
    · have l0 : ¬ lg_cmp w ms = 0 := by rw [lg_cmp_eq]; exact hw
      rw [decide_eq_false hw, if_neg (by decide), if_neg (by decide), ← nI_1 w1] at kz
      cases H
      · rw [if_neg (by decide), ← nI_add w2 0] at kz
        rw [fo.2 rfl] at fm
        refine gp_n 3 (j' := 72) (lv' := [some (.ref 70), some (.int (nI NN)), some (.int A), some (.int B), some (.int t), some (.int X), some (.int (nI w1)), some (.int (nI w2)), some (.int (nI i)), some (.long ms), none, some (.int (nI k))]) (st' := [.long ms, .ref 70, .ref 70]) (h' := (shT, f1, fl, fr)) rfl ?_
        refine gp_of (fun _ k9 => g_call (y := 173) (as := [.ref 70, .long ms]) (st' := [.ref 70]) rfl rfl (y1) k9) ?_
        refine gp_n 1 (j' := 74) (lv' := [some (.ref 70), some (.int (nI NN)), some (.int A), some (.int B), some (.int t), some (.int X), some (.int (nI w1)), some (.int (nI w2)), some (.int (nI i)), some (.long ms), none, some (.int (nI k))]) (st' := [.ref 70, .long y, .ref 70]) (h' := (shT, f1, fl, fr)) rfl ?_
        refine gp_of (fun _ k9 => g_getI (x := N) rfl (Or.inl rfl) rfl (by decide) (c14) k9) ?_
        refine gp_of (fun _ k9 => g_call (y := 175) (as := [.long y, .int N]) (st' := [.ref 70]) rfl rfl (z1) k9) ?_
        refine gp_n 2 (j' := 78) (lv' := [some (.ref 70), some (.int (nI NN)), some (.int A), some (.int B), some (.int t), some (.int X), some (.int (nI w1)), some (.int (nI w2)), some (.int (nI i)), some (.long ms), none, some (.int (nI k))]) (st' := [.int B, .int A, .long en, .ref 70]) (h' := (shT, f1, fl, fr)) rfl ?_
        refine gp_of (fun _ k9 => g_callv (y := 184) (as := [.ref 70, .long en, .int A, .int B]) (st' := []) rfl rfl (tx) k9) ?_
        refine gp_n 2 (j' := 81) (lv' := [some (.ref 70), some (.int (nI NN)), some (.int A), some (.int B), some (.int t), some (.int X), some (.int (nI w1)), some (.int (nI w2)), some (.int (nI i)), some (.long ms), none, some (.int (nI k))]) (st' := [.ref 70, .ref 70]) (h' := (shT, f2, fl, fr)) rfl ?_
        refine gp_of (fun _ k9 => g_getI (x := nI l) rfl (Or.inl rfl) rfl (by decide) (c20) k9) ?_
        refine gp_of (fun _ k9 => g_callv (y := 191) (as := [.ref 70, .int (nI l)]) (st' := []) rfl rfl (e3) k9) ?_
        refine gp_n 2 (j' := 85) (lv' := [some (.ref 70), some (.int (nI NN)), some (.int A), some (.int B), some (.int t), some (.int X), some (.int (nI w1)), some (.int (nI w2)), some (.int (nI i)), some (.long ms), none, some (.int (nI k))]) (st' := [.ref 70, .ref 70]) (h' := (shT, fi3, fl3, fr3)) rfl ?_
        refine gp_of (fun _ k9 => g_getR (q' := 76) rfl rfl (by decide) q26 k9) ?_
        refine gp_n 1 (j' := 87) (lv' := [some (.ref 70), some (.int (nI NN)), some (.int A), some (.int B), some (.int t), some (.int X), some (.int (nI w1)), some (.int (nI w2)), some (.int (nI i)), some (.long ms), none, some (.int (nI k))]) (st' := [.ref 70, .ref 76, .ref 70]) (h' := (shT, fi3, fl3, fr3)) rfl ?_
        refine gp_of (fun _ k9 => g_call (y := 199) (as := [.ref 70]) (st' := [.ref 76, .ref 70]) rfl rfl (cm) k9) ?_
        refine gp_of (fun _ k9 => g_lald (k := q) (x := u) rfl rfl (rfl) (by omega) (by decide) (bb) k9) ?_
        refine gp_of (fun _ k9 => g_call (y := 202) (as := [.ref 70, .long u]) (st' := []) rfl rfl (mo) k9) ?_
        refine gp_n 2 (j' := 92) (lv' := [some (.ref 70), some (.int (nI NN)), some (.int A), some (.int B), some (.int t), some (.int X), some (.int (nI w1)), some (.int (nI w2)), some (.int (nI i)), some (.long ms), none, some (.int (nI k))]) (st' := [.int (lg_cmp w ms)]) (h' := (shT, fi3, fl3, fr3)) rfl ?_
        refine gp_of (fun _ k9 => g_ift rfl (show ¬ (lg_cmp w ms) = (0 : Int32) from l0) k9) ?_
        refine gp_n 3 (j' := 97) (lv' := [some (.ref 70), some (.int (nI NN)), some (.int A), some (.int B), some (.int t), some (.int X), some (.int ((nI w1) + 1)), some (.int (nI w2)), some (.int (nI i)), some (.long ms), none, some (.int (nI k))]) (st' := [.ref 70, .int (nI w2)]) (h' := (shT, fi3, fl3, fr3)) rfl ?_
        refine gp_of (fun _ k9 => g_call (y := 200) (as := [.ref 70]) (st' := [.int (nI w2)]) rfl rfl (fm) k9) ?_
        refine gp_of (fun _ k9 => g_ift rfl (show ((-1) : Int32) < (0 : Int32) from by decide) k9) ?_
        refine gp_n 5 (j' := 45) (lv' := [some (.ref 70), some (.int (nI NN)), some (.int A), some (.int B), some (.int t), some (.int X), some (.int ((nI w1) + 1)), some (.int ((nI w2) + 0)), some (.int ((nI i) + 1)), some (.long ms), none, some (.int (nI k))]) (st' := []) (h' := (shT, fi3, fl3, fr3)) rfl ?_
        rw [nI_1 i]
        exact gp_done (kz _ _ _) rfl
      · rw [if_pos rfl, ← nI_add w2 1] at kz
        obtain ⟨z9, z91, z92⟩ := fo.1 rfl
        rw [z92] at fm
        refine gp_n 3 (j' := 72) (lv' := [some (.ref 70), some (.int (nI NN)), some (.int A), some (.int B), some (.int t), some (.int X), some (.int (nI w1)), some (.int (nI w2)), some (.int (nI i)), some (.long ms), none, some (.int (nI k))]) (st' := [.long ms, .ref 70, .ref 70]) (h' := (shT, f1, fl, fr)) rfl ?_
        refine gp_of (fun _ k9 => g_call (y := 173) (as := [.ref 70, .long ms]) (st' := [.ref 70]) rfl rfl (y1) k9) ?_
        refine gp_n 1 (j' := 74) (lv' := [some (.ref 70), some (.int (nI NN)), some (.int A), some (.int B), some (.int t), some (.int X), some (.int (nI w1)), some (.int (nI w2)), some (.int (nI i)), some (.long ms), none, some (.int (nI k))]) (st' := [.ref 70, .long y, .ref 70]) (h' := (shT, f1, fl, fr)) rfl ?_
        refine gp_of (fun _ k9 => g_getI (x := N) rfl (Or.inl rfl) rfl (by decide) (c14) k9) ?_
        refine gp_of (fun _ k9 => g_call (y := 175) (as := [.long y, .int N]) (st' := [.ref 70]) rfl rfl (z1) k9) ?_
        refine gp_n 2 (j' := 78) (lv' := [some (.ref 70), some (.int (nI NN)), some (.int A), some (.int B), some (.int t), some (.int X), some (.int (nI w1)), some (.int (nI w2)), some (.int (nI i)), some (.long ms), none, some (.int (nI k))]) (st' := [.int B, .int A, .long en, .ref 70]) (h' := (shT, f1, fl, fr)) rfl ?_
        refine gp_of (fun _ k9 => g_callv (y := 184) (as := [.ref 70, .long en, .int A, .int B]) (st' := []) rfl rfl (tx) k9) ?_
        refine gp_n 2 (j' := 81) (lv' := [some (.ref 70), some (.int (nI NN)), some (.int A), some (.int B), some (.int t), some (.int X), some (.int (nI w1)), some (.int (nI w2)), some (.int (nI i)), some (.long ms), none, some (.int (nI k))]) (st' := [.ref 70, .ref 70]) (h' := (shT, f2, fl, fr)) rfl ?_
        refine gp_of (fun _ k9 => g_getI (x := nI l) rfl (Or.inl rfl) rfl (by decide) (c20) k9) ?_
        refine gp_of (fun _ k9 => g_callv (y := 191) (as := [.ref 70, .int (nI l)]) (st' := []) rfl rfl (e3) k9) ?_
        refine gp_n 2 (j' := 85) (lv' := [some (.ref 70), some (.int (nI NN)), some (.int A), some (.int B), some (.int t), some (.int X), some (.int (nI w1)), some (.int (nI w2)), some (.int (nI i)), some (.long ms), none, some (.int (nI k))]) (st' := [.ref 70, .ref 70]) (h' := (shT, fi3, fl3, fr3)) rfl ?_
        refine gp_of (fun _ k9 => g_getR (q' := 76) rfl rfl (by decide) q26 k9) ?_
        refine gp_n 1 (j' := 87) (lv' := [some (.ref 70), some (.int (nI NN)), some (.int A), some (.int B), some (.int t), some (.int X), some (.int (nI w1)), some (.int (nI w2)), some (.int (nI i)), some (.long ms), none, some (.int (nI k))]) (st' := [.ref 70, .ref 76, .ref 70]) (h' := (shT, fi3, fl3, fr3)) rfl ?_
        refine gp_of (fun _ k9 => g_call (y := 199) (as := [.ref 70]) (st' := [.ref 76, .ref 70]) rfl rfl (cm) k9) ?_
        refine gp_of (fun _ k9 => g_lald (k := q) (x := u) rfl rfl (rfl) (by omega) (by decide) (bb) k9) ?_
        refine gp_of (fun _ k9 => g_call (y := 202) (as := [.ref 70, .long u]) (st' := []) rfl rfl (mo) k9) ?_
        refine gp_n 2 (j' := 92) (lv' := [some (.ref 70), some (.int (nI NN)), some (.int A), some (.int B), some (.int t), some (.int X), some (.int (nI w1)), some (.int (nI w2)), some (.int (nI i)), some (.long ms), none, some (.int (nI k))]) (st' := [.int (lg_cmp w ms)]) (h' := (shT, fi3, fl3, fr3)) rfl ?_
        refine gp_of (fun _ k9 => g_ift rfl (show ¬ (lg_cmp w ms) = (0 : Int32) from l0) k9) ?_
        refine gp_n 3 (j' := 97) (lv' := [some (.ref 70), some (.int (nI NN)), some (.int A), some (.int B), some (.int t), some (.int X), some (.int ((nI w1) + 1)), some (.int (nI w2)), some (.int (nI i)), some (.long ms), none, some (.int (nI k))]) (st' := [.ref 70, .int (nI w2)]) (h' := (shT, fi3, fl3, fr3)) rfl ?_
        refine gp_of (fun _ k9 => g_call (y := 200) (as := [.ref 70]) (st' := [.int (nI w2)]) rfl rfl (fm) k9) ?_
        refine gp_of (fun _ k9 => g_iff rfl (show ¬ ((nI z9) < (0 : Int32)) from nI_pos (by omega)) k9) ?_
        refine gp_n 6 (j' := 45) (lv' := [some (.ref 70), some (.int (nI NN)), some (.int A), some (.int B), some (.int t), some (.int X), some (.int ((nI w1) + 1)), some (.int ((nI w2) + 1)), some (.int ((nI i) + 1)), some (.long ms), none, some (.int (nI k))]) (st' := []) (h' := (shT, fi3, fl3, fr3)) rfl ?_
        rw [nI_1 i]
        exact gp_done (kz _ _ _) rfl)
  refine go_of ?_
  refine gp_n 2 (j' := 47) (lv' := [some (.ref 70), some (.int (nI NN)), some (.int A), some (.int B), some (.int t), some (.int X), some (.int (nI w1)), some (.int (nI w2)), some (.int (nI i)), l9, l10, l11]) (st' := [.int (nI NN), .int (nI i)]) (h' := (shT, fi, fl, fr)) rfl ?_
  refine gp_of (fun _ k9 => g_icf rfl (show ¬ ((nI NN) ≤ (nI i)) from nI_ge (by omega) (by omega)) k9) ?_
  refine gp_n 4 (j' := 52) (lv' := [some (.ref 70), some (.int (nI NN)), some (.int A), some (.int B), some (.int t), some (.int X), some (.int (nI w1)), some (.int (nI w2)), some (.int (nI i)), some (.long 0), none, some (.int (nI 0))]) (st' := []) (h' := (shT, fi, fl, fr)) rfl ?_
  exact gp_done g rfl
theorem fr_go_M {a : AB} {m k c l NN : Nat} {A B x t X : Int32} (hN : NN ≤ 40) (vk : VK (a_v a) m k c) (l1 : 1 ≤ l) (l8 : l ≤ 8) (hA : 0 ≤ A ∧ A ≤ 100) (hB : 0 ≤ B ∧ B ≤ 100) : ∀ (n i : Nat) (h : PmH), i + n = NN → HI hdT shT h → vM a m k c l h → ph_i h 70 23 = (fN a m k c l A B x i).1 → 0 ≤ ((fN a m k c l A B x i).1).toInt → ∃ h', ∀ l9 l10 l11, Go pmT none cd_227 45 [some (.ref 70), some (.int (nI NN)), some (.int A), some (.int B), some (.int t), some (.int X), some (.int (nI (fN a m k c l A B x i).2.1)), some (.int (nI (fN a m k c l A B x i).2.2)), some (.int (nI i)), l9, l10, l11] [] h (some (.int (fV a m k c l NN A B x t)), h') := by
  intro n
  induction n with
  | zero =>
    intro i h hi hI hv c23 x0
    have hi : i = NN := by omega
    subst hi
    have k22 : ph_r h 70 22 = some 74 := hi_r hI rfl rfl (by decide)
    have k49 : ph_r h 70 49 = some 90 := hi_r hI rfl rfl (by decide)
    unfold fV
    generalize nI (fN a m k c l A B x i).2.1 = w1 at *
    generalize nI (fN a m k c l A B x i).2.2 = w2 at *
    clear c23 hv x0
    obtain ⟨S, fi, fl, fr⟩ := h
    have hS : S = shT := hI.1
    subst hS
    have k22 : fr 70 22 = some 74 := k22
    have k49 : fr 70 49 = some 90 := k49
    obtain ⟨f3, a3⟩ := cp_M2 (X := X) (X7 := w2) (l1 := some (.int (nI i))) (l2 := some (.int A)) (l3 := some (.int B)) (l4 := some (.int t)) (l6 := some (.int w1)) (fl := fl) k22 k49 64 0 fi (by omega)

    refine ⟨(shT, pm_u2 f3 70 23 X, fl, fr), fun l9 l10 l11 => ?_⟩
    by_cases ht : t = 0
    · rw [if_pos ht]
      have g := a3 l9 l10 l11 (some (.int w1), (shT, pm_u2 f3 70 23 X, fl, fr)) (by
        refine go_of ?_
        refine gp_n 2 (j' := 123) (lv' := [some (.ref 70), some (.int (nI i)), some (.int A), some (.int B), some (.int t), some (.int X), some (.int w1), some (.int w2), some (.int (nI 64)), l9, l10, l11]) (st' := [.int X, .ref 70]) (h' := (shT, f3, fl, fr)) rfl ?_
        refine gp_of (fun _ k9 => g_putI rfl (Or.inl rfl) rfl (by decide) k9) ?_
        refine gp_n 1 (j' := 125) (lv' := [some (.ref 70), some (.int (nI i)), some (.int A), some (.int B), some (.int t), some (.int X), some (.int w1), some (.int w2), some (.int (nI 64)), l9, l10, l11]) (st' := [.int t]) (h' := (shT, pm_u2 f3 70 23 X, fl, fr)) rfl ?_
        refine gp_of (fun _ k9 => g_iff rfl (show ¬ (¬ t = (0 : Int32)) from not_not_intro ht) k9) ?_
        refine gp_n 2 (j' := 129) (lv' := [some (.ref 70), some (.int (nI i)), some (.int A), some (.int B), some (.int t), some (.int X), some (.int w1), some (.int w2), some (.int (nI 64)), l9, l10, l11]) (st' := [.int w1]) (h' := (shT, pm_u2 f3 70 23 X, fl, fr)) rfl ?_
        refine gp_done (g_ret rfl) ?_
        rfl)
      refine go_of ?_
      refine gp_n 2 (j' := 47) (lv' := [some (.ref 70), some (.int (nI i)), some (.int A), some (.int B), some (.int t), some (.int X), some (.int w1), some (.int w2), some (.int (nI i)), l9, l10, l11]) (st' := [.int (nI i), .int (nI i)]) (h' := (shT, fi, fl, fr)) rfl ?_
      refine gp_of (fun _ k9 => g_ict rfl (show (nI i) ≤ (nI i) from Int32.le_refl _) k9) ?_
      refine gp_n 2 (j' := 108) (lv' := [some (.ref 70), some (.int (nI i)), some (.int A), some (.int B), some (.int t), some (.int X), some (.int w1), some (.int w2), some (.int (nI 0)), l9, l10, l11]) (st' := []) (h' := (shT, fi, fl, fr)) rfl ?_
      exact gp_done g rfl
    · rw [if_neg ht]
      have g := a3 l9 l10 l11 (some (.int w2), (shT, pm_u2 f3 70 23 X, fl, fr)) (by
        refine go_of ?_
        refine gp_n 2 (j' := 123) (lv' := [some (.ref 70), some (.int (nI i)), some (.int A), some (.int B), some (.int t), some (.int X), some (.int w1), some (.int w2), some (.int (nI 64)), l9, l10, l11]) (st' := [.int X, .ref 70]) (h' := (shT, f3, fl, fr)) rfl ?_
        refine gp_of (fun _ k9 => g_putI rfl (Or.inl rfl) rfl (by decide) k9) ?_
        refine gp_n 1 (j' := 125) (lv' := [some (.ref 70), some (.int (nI i)), some (.int A), some (.int B), some (.int t), some (.int X), some (.int w1), some (.int w2), some (.int (nI 64)), l9, l10, l11]) (st' := [.int t]) (h' := (shT, pm_u2 f3 70 23 X, fl, fr)) rfl ?_
        refine gp_of (fun _ k9 => g_ift rfl (show ¬ t = (0 : Int32) from ht) k9) ?_
        refine gp_n 1 (j' := 129) (lv' := [some (.ref 70), some (.int (nI i)), some (.int A), some (.int B), some (.int t), some (.int X), some (.int w1), some (.int w2), some (.int (nI 64)), l9, l10, l11]) (st' := [.int w2]) (h' := (shT, pm_u2 f3 70 23 X, fl, fr)) rfl ?_
        refine gp_done (g_ret rfl) ?_
        rfl)
      refine go_of ?_
      refine gp_n 2 (j' := 47) (lv' := [some (.ref 70), some (.int (nI i)), some (.int A), some (.int B), some (.int t), some (.int X), some (.int w1), some (.int w2), some (.int (nI i)), l9, l10, l11]) (st' := [.int (nI i), .int (nI i)]) (h' := (shT, fi, fl, fr)) rfl ?_
      refine gp_of (fun _ k9 => g_ict rfl (show (nI i) ≤ (nI i) from Int32.le_refl _) k9) ?_
      refine gp_n 2 (j' := 108) (lv' := [some (.ref 70), some (.int (nI i)), some (.int A), some (.int B), some (.int t), some (.int X), some (.int w1), some (.int w2), some (.int (nI 0)), l9, l10, l11]) (st' := []) (h' := (shT, fi, fl, fr)) rfl ?_
      exact gp_done g rfl
  | succ n ih =>
    intro i h hi hI hv c23 x0
    obtain ⟨h1, I1, v1, d23, g⟩ := fs_M (i := i) (NN := NN) (w1 := (fN a m k c l A B x i).2.1) (w2 := (fN a m k c l A B x i).2.2) (t := t) (X := X) hI vk hv l1 l8 hA hB hN (by omega) c23 x0
    obtain ⟨h2, g2⟩ := ih (i + 1) h1 (by omega) I1 v1 d23 (itN_pos (fun _ => lcg_pos) _ _ (itN_pos (fun _ => lcg_pos) _ _ x0))
    exact ⟨h2, g _ g2⟩
theorem fr_M1 {h : PmH} {a : AB} {m k c l NN : Nat} {A B t : Int32} (hr : REL2 h a) (vk : VK (a_v a) m k c) (hl : (a_v a).1 6 = nI l) (l1 : 1 ≤ l) (l8 : l ≤ 8) (hp : fP a (nI NN) A B t) (n40 : NN ≤ 40) : ∃ h', Ev pmT 227 [.ref 70, .int (nI NN), .int A, .int B, .int t] h (some (.int (fV a m k c l NN A B (a_x a) t))) h' := by
  obtain ⟨h0, hn, hAB, ht⟩ := hp
  have hI := hr.1.1
  have f := hr.1.2.2.1.2.2.2.2.1
  have c0 := f.1 0 (by decide)
  have t1 := isc1 hI c0 h0
  have in1 := isin_1 (x := nI NN) 1 40 (l1 := 1) (l2 := 40) (h := h) (by decide) (by decide) hn
  have ns := nse1 (x := A) (y := B) hI hAB
  have in2 := isin_1 (x := t) 0 1 (l1 := 0) (l2 := 1) (h := h) (by decide) (by decide) ht
  have hv : vM a m k c l h := ⟨(f.1 0 (by decide)).trans vk.2.2.2.1, (f.1 2 (by decide)).trans vk.2.2.2.2.1, (f.1 3 (by decide)).trans vk.2.2.2.2.2.1, f.1 4 (by decide), (f.1 6 (by decide)).trans hl, (f.2 rfl).1⟩
  have c23 : ph_i h 70 23 = a_x a := hr.1.2.2.1.2.2.2.1 rfl
  have x0 : 0 ≤ (a_x a).toInt := hr.1.2.2.2.2.2.2
  have k22 : ph_r h 70 22 = some 74 := hi_r hI rfl rfl (by decide)
  have k49 : ph_r h 70 49 = some 90 := hi_r hI rfl rfl (by decide)
  clear hr f
  obtain ⟨S, fi, fl, fr⟩ := h
  have hS : S = shT := hI.1
  subst hS
  have k22 : fr 70 22 = some 74 := k22
  have k49 : fr 70 49 = some 90 := k49
  have c23 : fi 70 23 = a_x a := c23
  obtain ⟨f1, b2, b3⟩ := cp_M1 (X5 := a_x a) (l1 := some (.int (nI NN))) (l2 := some (.int A)) (l3 := some (.int B)) (l4 := some (.int t)) (l7 := none) (l8 := none) (l9 := none) (l10 := none) (l11 := none) (fl := fl) k22 k49 64 0 fi (by omega)
  have I1 := HI_a (p0 := 90) (fun _ => rfl) b2 hI
  have v1 : vM a m k c l (shT, f1, fl, fr) := vM_cg (h := (shT, fi, fl, fr)) (fun s z1 z2 => b2 70 s (by decide)) rfl hv
  obtain ⟨h2, g⟩ := fr_go_M (x := a_x a) (t := t) (X := a_x a) n40 vk l1 l8 hAB.1 hAB.2 NN 0 (shT, f1, fl, fr) (by omega) I1 v1 ((b2 70 23 (by decide)).trans c23) x0
  refine ⟨h2, ?_⟩
  have g := g none none none
  have b3 := b3 (some (.int (fV a m k c l NN A B (a_x a) t)), h2)
  generalize fV a m k c l NN A B (a_x a) t = V at *
  have g : Go pmT none cd_227 45 [some (.ref 70), some (.int (nI NN)), some (.int A), some (.int B), some (.int t), some (.int (a_x a)), some (.int 0), some (.int 0), some (.int 0), none, none, none] [] (shT, f1, fl, fr) (some (.int V), h2) := g
  clear hv v1 b2 I1
  generalize a_x a = X at *
  have b4 := b3 (by
    refine go_of ?_
    refine gp_n 6 (j' := 45) (lv' := [some (.ref 70), some (.int (nI NN)), some (.int A), some (.int B), some (.int t), some (.int X), some (.int 0), some (.int 0), some (.int 0), none, none, none]) (st' := []) (h' := (shT, f1, fl, fr)) rfl ?_
    exact gp_done g rfl)
  refine Ev.of (es := cd_227) (ml := 12) (lv := [some (.ref 70), some (.int (nI NN)), some (.int A), some (.int B), some (.int t), none, none, none, none, none, none, none]) rfl rfl rfl ?_
  refine go_of ?_
  refine gp_n 1 (j' := 1) (lv' := [some (.ref 70), some (.int (nI NN)), some (.int A), some (.int B), some (.int t), none, none, none, none, none, none, none]) (st' := [.ref 70]) (h' := (shT, fi, fl, fr)) rfl ?_
  refine gp_of (fun _ k9 => g_call (y := 172) (as := [.ref 70]) (st' := []) rfl rfl (t1) k9) ?_
  refine gp_of (fun _ k9 => g_iff rfl (show ¬ ((1 : Int32) = (0 : Int32)) from by decide) k9) ?_
  refine gp_n 4 (j' := 7) (lv' := [some (.ref 70), some (.int (nI NN)), some (.int A), some (.int B), some (.int t), none, none, none, none, none, none, none]) (st' := [.long 40, .long 1, .long ((nI NN).toInt64)]) (h' := (shT, fi, fl, fr)) rfl ?_
  refine gp_of (fun _ k9 => g_call (y := 148) (as := [.long ((nI NN).toInt64), .long 1, .long 40]) (st' := []) rfl rfl (in1) k9) ?_
  refine gp_of (fun _ k9 => g_iff rfl (show ¬ ((1 : Int32) = (0 : Int32)) from by decide) k9) ?_
  refine gp_n 2 (j' := 11) (lv' := [some (.ref 70), some (.int (nI NN)), some (.int A), some (.int B), some (.int t), none, none, none, none, none, none, none]) (st' := [.int B, .int A]) (h' := (shT, fi, fl, fr)) rfl ?_
  refine gp_of (fun _ k9 => g_call (y := 183) (as := [.int A, .int B]) (st' := []) rfl rfl (ns) k9) ?_
  refine gp_of (fun _ k9 => g_iff rfl (show ¬ ((1 : Int32) = (0 : Int32)) from by decide) k9) ?_
  refine gp_n 4 (j' := 17) (lv' := [some (.ref 70), some (.int (nI NN)), some (.int A), some (.int B), some (.int t), none, none, none, none, none, none, none]) (st' := [.long 1, .long 0, .long t.toInt64]) (h' := (shT, fi, fl, fr)) rfl ?_
  refine gp_of (fun _ k9 => g_call (y := 148) (as := [.long t.toInt64, .long 0, .long 1]) (st' := []) rfl rfl (in2) k9) ?_
  refine gp_of (fun _ k9 => g_ift rfl (show ¬ (1 : Int32) = (0 : Int32) from by decide) k9) ?_
  refine gp_n 1 (j' := 22) (lv' := [some (.ref 70), some (.int (nI NN)), some (.int A), some (.int B), some (.int t), none, none, none, none, none, none, none]) (st' := [.ref 70]) (h' := (shT, fi, fl, fr)) rfl ?_
  refine gp_of (fun _ k9 => g_getI (x := X) rfl (Or.inl rfl) rfl (by decide) (c23) k9) ?_
  refine gp_n 3 (j' := 26) (lv' := [some (.ref 70), some (.int (nI NN)), some (.int A), some (.int B), some (.int t), some (.int X), some (.int (nI 0)), none, none, none, none, none]) (st' := []) (h' := (shT, fi, fl, fr)) rfl ?_
  exact gp_done b4 rfl
theorem fr_M0 {h : PmH} {a : AB} {n A B t : Int32} (hr : REL2 h a) (hp : ¬ fP a n A B t) : Ev pmT 227 [.ref 70, .int n, .int A, .int B, .int t] h (some (.int (-1))) h := by
  have hI := hr.1.1
  have c0 := hr.1.2.2.1.2.2.2.2.1.1 0 (by decide)
  have t1 := isc1 hI c0
  have t0 := isc0 hI c0
  have ns1 := nse1 (x := A) (y := B) hI
  have ns0 := nse0 (x := A) (y := B) hI
  have ns2 := nse2 (x := A) (y := B) hI
  clear hr
  refine Ev.of (es := cd_227) (ml := 12) (lv := [some (.ref 70), some (.int n), some (.int A), some (.int B), some (.int t), none, none, none, none, none, none, none]) rfl rfl rfl ?_
  obtain ⟨S, fi, fl, fr⟩ := h
  have hS : S = shT := hI.1
  subst hS
  refine go_of ?_
  by_cases h0 : 0 < (a_v a).1 1
  case neg =>
    have tt := t0 h0
    refine gp_n 1 (j' := 1) (lv' := [some (.ref 70), some (.int n), some (.int A), some (.int B), some (.int t), none, none, none, none, none, none, none]) (st' := [.ref 70]) (h' := (shT, fi, fl, fr)) rfl ?_
    refine gp_of (fun _ k9 => g_call (y := 172) (as := [.ref 70]) (st' := []) rfl rfl (tt) k9) ?_
    refine gp_of (fun _ k9 => g_ift rfl (show (0 : Int32) = (0 : Int32) from by decide) k9) ?_
    refine gp_n 1 (j' := 20) (lv' := [some (.ref 70), some (.int n), some (.int A), some (.int B), some (.int t), none, none, none, none, none, none, none]) (st' := [.int (-1)]) (h' := (shT, fi, fl, fr)) rfl ?_
    refine gp_done (g_ret rfl) ?_
    rfl
  have tt := t1 h0
  by_cases p1 : 1 ≤ n ∧ n ≤ 40
  case neg =>
    have in1 := isin_0 (x := n) 1 40 (l1 := 1) (l2 := 40) (h := (shT, fi, fl, fr)) (by decide) (by decide) p1
    refine gp_n 1 (j' := 1) (lv' := [some (.ref 70), some (.int n), some (.int A), some (.int B), some (.int t), none, none, none, none, none, none, none]) (st' := [.ref 70]) (h' := (shT, fi, fl, fr)) rfl ?_
    refine gp_of (fun _ k9 => g_call (y := 172) (as := [.ref 70]) (st' := []) rfl rfl (tt) k9) ?_
    refine gp_of (fun _ k9 => g_iff rfl (show ¬ ((1 : Int32) = (0 : Int32)) from by decide) k9) ?_
    refine gp_n 4 (j' := 7) (lv' := [some (.ref 70), some (.int n), some (.int A), some (.int B), some (.int t), none, none, none, none, none, none, none]) (st' := [.long 40, .long 1, .long n.toInt64]) (h' := (shT, fi, fl, fr)) rfl ?_
    refine gp_of (fun _ k9 => g_call (y := 148) (as := [.long n.toInt64, .long 1, .long 40]) (st' := []) rfl rfl (in1) k9) ?_
    refine gp_of (fun _ k9 => g_ift rfl (show (0 : Int32) = (0 : Int32) from by decide) k9) ?_
    refine gp_n 1 (j' := 20) (lv' := [some (.ref 70), some (.int n), some (.int A), some (.int B), some (.int t), none, none, none, none, none, none, none]) (st' := [.int (-1)]) (h' := (shT, fi, fl, fr)) rfl ?_
    refine gp_done (g_ret rfl) ?_
    rfl
  have in1 := isin_1 (x := n) 1 40 (l1 := 1) (l2 := 40) (h := (shT, fi, fl, fr)) (by decide) (by decide) p1
  by_cases p2 : 0 ≤ A ∧ A ≤ 100
  case neg =>
    have nn := ns0 p2
    refine gp_n 1 (j' := 1) (lv' := [some (.ref 70), some (.int n), some (.int A), some (.int B), some (.int t), none, none, none, none, none, none, none]) (st' := [.ref 70]) (h' := (shT, fi, fl, fr)) rfl ?_
    refine gp_of (fun _ k9 => g_call (y := 172) (as := [.ref 70]) (st' := []) rfl rfl (tt) k9) ?_
    refine gp_of (fun _ k9 => g_iff rfl (show ¬ ((1 : Int32) = (0 : Int32)) from by decide) k9) ?_
    refine gp_n 4 (j' := 7) (lv' := [some (.ref 70), some (.int n), some (.int A), some (.int B), some (.int t), none, none, none, none, none, none, none]) (st' := [.long 40, .long 1, .long n.toInt64]) (h' := (shT, fi, fl, fr)) rfl ?_
    refine gp_of (fun _ k9 => g_call (y := 148) (as := [.long n.toInt64, .long 1, .long 40]) (st' := []) rfl rfl (in1) k9) ?_
    refine gp_of (fun _ k9 => g_iff rfl (show ¬ ((1 : Int32) = (0 : Int32)) from by decide) k9) ?_
    refine gp_n 2 (j' := 11) (lv' := [some (.ref 70), some (.int n), some (.int A), some (.int B), some (.int t), none, none, none, none, none, none, none]) (st' := [.int B, .int A]) (h' := (shT, fi, fl, fr)) rfl ?_
    refine gp_of (fun _ k9 => g_call (y := 183) (as := [.int A, .int B]) (st' := []) rfl rfl (nn) k9) ?_
    refine gp_of (fun _ k9 => g_ift rfl (show (0 : Int32) = (0 : Int32) from by decide) k9) ?_
    refine gp_n 1 (j' := 20) (lv' := [some (.ref 70), some (.int n), some (.int A), some (.int B), some (.int t), none, none, none, none, none, none, none]) (st' := [.int (-1)]) (h' := (shT, fi, fl, fr)) rfl ?_
    refine gp_done (g_ret rfl) ?_
    rfl
  by_cases p3 : 0 ≤ B ∧ B ≤ 100
  case neg =>
    have nn := ns2 p2 p3
    refine gp_n 1 (j' := 1) (lv' := [some (.ref 70), some (.int n), some (.int A), some (.int B), some (.int t), none, none, none, none, none, none, none]) (st' := [.ref 70]) (h' := (shT, fi, fl, fr)) rfl ?_
    refine gp_of (fun _ k9 => g_call (y := 172) (as := [.ref 70]) (st' := []) rfl rfl (tt) k9) ?_
    refine gp_of (fun _ k9 => g_iff rfl (show ¬ ((1 : Int32) = (0 : Int32)) from by decide) k9) ?_
    refine gp_n 4 (j' := 7) (lv' := [some (.ref 70), some (.int n), some (.int A), some (.int B), some (.int t), none, none, none, none, none, none, none]) (st' := [.long 40, .long 1, .long n.toInt64]) (h' := (shT, fi, fl, fr)) rfl ?_
    refine gp_of (fun _ k9 => g_call (y := 148) (as := [.long n.toInt64, .long 1, .long 40]) (st' := []) rfl rfl (in1) k9) ?_
    refine gp_of (fun _ k9 => g_iff rfl (show ¬ ((1 : Int32) = (0 : Int32)) from by decide) k9) ?_
    refine gp_n 2 (j' := 11) (lv' := [some (.ref 70), some (.int n), some (.int A), some (.int B), some (.int t), none, none, none, none, none, none, none]) (st' := [.int B, .int A]) (h' := (shT, fi, fl, fr)) rfl ?_
    refine gp_of (fun _ k9 => g_call (y := 183) (as := [.int A, .int B]) (st' := []) rfl rfl (nn) k9) ?_
    refine gp_of (fun _ k9 => g_ift rfl (show (0 : Int32) = (0 : Int32) from by decide) k9) ?_
    refine gp_n 1 (j' := 20) (lv' := [some (.ref 70), some (.int n), some (.int A), some (.int B), some (.int t), none, none, none, none, none, none, none]) (st' := [.int (-1)]) (h' := (shT, fi, fl, fr)) rfl ?_
    refine gp_done (g_ret rfl) ?_
    rfl
  have nn := ns1 ⟨p2, p3⟩
  have in2 := isin_0 (x := t) 0 1 (l1 := 0) (l2 := 1) (h := (shT, fi, fl, fr)) (by decide) (by decide) (fun z => hp ⟨h0, p1, ⟨p2, p3⟩, z⟩)
  refine gp_n 1 (j' := 1) (lv' := [some (.ref 70), some (.int n), some (.int A), some (.int B), some (.int t), none, none, none, none, none, none, none]) (st' := [.ref 70]) (h' := (shT, fi, fl, fr)) rfl ?_
  refine gp_of (fun _ k9 => g_call (y := 172) (as := [.ref 70]) (st' := []) rfl rfl (tt) k9) ?_
  refine gp_of (fun _ k9 => g_iff rfl (show ¬ ((1 : Int32) = (0 : Int32)) from by decide) k9) ?_
  refine gp_n 4 (j' := 7) (lv' := [some (.ref 70), some (.int n), some (.int A), some (.int B), some (.int t), none, none, none, none, none, none, none]) (st' := [.long 40, .long 1, .long n.toInt64]) (h' := (shT, fi, fl, fr)) rfl ?_
  refine gp_of (fun _ k9 => g_call (y := 148) (as := [.long n.toInt64, .long 1, .long 40]) (st' := []) rfl rfl (in1) k9) ?_
  refine gp_of (fun _ k9 => g_iff rfl (show ¬ ((1 : Int32) = (0 : Int32)) from by decide) k9) ?_
  refine gp_n 2 (j' := 11) (lv' := [some (.ref 70), some (.int n), some (.int A), some (.int B), some (.int t), none, none, none, none, none, none, none]) (st' := [.int B, .int A]) (h' := (shT, fi, fl, fr)) rfl ?_
  refine gp_of (fun _ k9 => g_call (y := 183) (as := [.int A, .int B]) (st' := []) rfl rfl (nn) k9) ?_
  refine gp_of (fun _ k9 => g_iff rfl (show ¬ ((1 : Int32) = (0 : Int32)) from by decide) k9) ?_
  refine gp_n 4 (j' := 17) (lv' := [some (.ref 70), some (.int n), some (.int A), some (.int B), some (.int t), none, none, none, none, none, none, none]) (st' := [.long 1, .long 0, .long t.toInt64]) (h' := (shT, fi, fl, fr)) rfl ?_
  refine gp_of (fun _ k9 => g_call (y := 148) (as := [.long t.toInt64, .long 0, .long 1]) (st' := []) rfl rfl (in2) k9) ?_
  refine gp_of (fun _ k9 => g_iff rfl (show ¬ (¬ (0 : Int32) = (0 : Int32)) from by decide) k9) ?_
  refine gp_n 1 (j' := 20) (lv' := [some (.ref 70), some (.int n), some (.int A), some (.int B), some (.int t), none, none, none, none, none, none, none]) (st' := [.int (-1)]) (h' := (shT, fi, fl, fr)) rfl ?_
  refine gp_done (g_ret rfl) ?_
  rfl
theorem p3_frames {h : PmH} {a : AB} (n A B t : Int32) (hr : REL3 h a) : PI3 138 227 [.int n, .int A, .int B, .int t] h (fun x y => x = y) := by
  obtain ⟨⟨⟨hI, hC, hM, hA⟩, hV⟩, hR⟩ := id hr
  obtain ⟨v1, h1, e1, c1, I1, F1⟩ := frm_C hI hC n A B t
  have m1 := QM_fr (show irM (in_w iN_154) = true by decide) F1 hM
  have r1 : REL2 h1 a := ⟨⟨I1, c1, m1, hA⟩, hV⟩
  obtain ⟨v2, h2, e2, c2, I2, F2⟩ := frm_M I1 m1 n A B t
  have r2 : REL2 h2 a := ⟨⟨I2, QC_fr (show irC (in_w iN_239) = true by decide) F2 c1, c2, hA⟩, hV⟩
  by_cases hp : fP a n A B t
  · obtain ⟨h0, hn, hAB, ht⟩ := id hp
    obtain ⟨NN, n1, rfl⟩ := nI_of2 (n := 40) (M := 40) rfl (fun z => by
      have := Int32.lt_iff_toInt_lt.mp z
      have h5 := Int32.le_iff_toInt_le.mp hn.1
      rw [show (1 : Int32).toInt = 1 from rfl] at h5
      rw [show (0 : Int32).toInt = 0 from rfl] at this
      omega) hn.2
    obtain ⟨m, k, c, l, vk, hl, l1, l8⟩ := rd_get hr h0
    obtain ⟨r, er, q1, q2⟩ := fr_C1 hr vk hl l1 l8 hp n1
    obtain ⟨d1, d2⟩ := ev_det er e1
    obtain ⟨h3, e3⟩ := fr_M1 r1 vk hl l1 l8 hp n1
    obtain ⟨d3, -⟩ := ev_det e3 e2
    have rd1 : RD h1 := by rw [← d2]; exact q2
    refine ⟨_, _, h1, h2, a, e1, e2, ⟨r2, RD_fr (by decide) (by decide) F2 rd1⟩, I1, ?_⟩
    have d1 : r.1 = some (.int v1) := d1
    rw [q1] at d1
    cases d1
    cases d3
    rfl
  · obtain ⟨r, er, q1, q2⟩ := fr_C0 hr hp
    obtain ⟨d1, d2⟩ := ev_det er e1
    have e3 := fr_M0 r1 hp
    obtain ⟨d3, -⟩ := ev_det e3 e2
    have rd1 : RD h1 := by rw [← d2]; exact q2
    refine ⟨_, _, h1, h2, a, e1, e2, ⟨r2, RD_fr (by decide) (by decide) F2 rd1⟩, I1, ?_⟩
    have d1 : r.1 = some (.int v1) := d1
    rw [q1] at d1
    cases d1
    cases d3
    rfl
