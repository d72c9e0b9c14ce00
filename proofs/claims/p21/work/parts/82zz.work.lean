/-! WORK: the pair -/
theorem cdn_f {P c : Nat} : ∀ j, cdn (fun _ _ => false) P c j = (P * (2 ^ j - 1), 1, 0)
  | 0 => rfl
  | j + 1 => by
    have pj := Nat.two_pow_pos j
    rw [cdn, if_neg (by decide), cdn_f j]
    show (P * 2 ^ j + P * (2 ^ j - 1), 1, 0) = _
    rw [← Nat.mul_add, show 2 ^ (j + 1) - 1 = 2 ^ j + (2 ^ j - 1) by rw [Nat.pow_succ]; omega]
theorem lw_eq {K : Int64} {m most : Nat} {S : Nat → Int32} (hm : m ≤ 6) : ∀ n, n ≤ 2 ^ m → lwS K m S most n = wL (fun _ _ => false) (fun i => (rdN K m S most i).1) m n ∧ rwS K m S most n = wR (fun _ _ => false) (fun i => (rdN K m S most i).1) m n ∧ n = wD (fun _ _ => false) m n
  | 0, _ => ⟨rfl, rfl, rfl⟩
  | n + 1, hn => by
    obtain ⟨i1, i2, i3⟩ := lw_eq (K := K) (m := m) (most := most) (S := S) hm n (by omega)
    obtain ⟨s1, s2, s3, -⟩ := tp_H (ct := fun _ _ => false) (P := (fun i => (rdN K m S most i).1)) (m := m) (c := n) hm (by omega) (goN_f (fun _ _ => rfl) _)
    rw [cdn_f] at s1 s3
    refine ⟨?_, ?_, ?_⟩
    · show lwS K m S most n + lwk (rdN K m S most n).1 m n = wL (fun _ _ => false) (fun i => (rdN K m S most i).1) m n + sumN (fun q => gL (fun _ _ => false) (fun i => (rdN K m S most i).1) m q n) m
      rw [s1, i1]
      congr 1
      show lwk (rdN K m S most n).1 m n = (rdN K m S most n).1 * (2 ^ topL m n - 1)
      unfold lwk topL
      split <;> rfl
    · show rwS K m S most n + rwk (rdN K m S most n).1 n = wR (fun _ _ => false) (fun i => (rdN K m S most i).1) m n + sumN (fun q => gR (fun _ _ => false) (fun i => (rdN K m S most i).1) m q n) m
      rw [s2, i2]
      rfl
    · show n + 1 = wD (fun _ _ => false) m n + gD (fun _ _ => false) m n
      rw [s3, ← i3]
def ctB (b : Bool) (a : AB) (m l : Nat) : Nat → Nat → Bool := fun q c => b && ctF (a_v a).2.1 m (a_v a).2.2 l q c
def wkP (a : AB) (m l : Nat) : Nat → Nat := fun i => (rdN (a_v a).2.1 m (a_v a).2.2 l i).1
def wkV (b : Bool) (a : AB) (m l w : Nat) : Int32 := if w = 0 then nI (wL (ctB b a m l) (wkP a m l) m (2 ^ m)) else if w = 1 then nI (wR (ctB b a m l) (wkP a m l) m (2 ^ m)) else if w = 2 then nI (wD (ctB b a m l) m (2 ^ m)) else (rdX a m l).2.2 0
/-- the reader's run, cut or not -/
theorem wr_C {h : PmH} {a : AB} {m k c l : Nat} (b : Bool) (hr : REL3 h a) (vk : VK (a_v a) m k c) (l1 : 1 ≤ l) (l8 : l ≤ 8) : ∃ h', Ev pmT 82 [.ref 13, .ref 1, .ref 2, .int (nI l), .int (b01 b), .int (-1)] h none h' ∧ (∃ A, (A = 14 ∨ A = 18) ∧ rdI A (rdX a m l) h') ∧ ph_i h' 13 4 = nI (wL (ctB b a m l) (wkP a m l) m (2 ^ m)) ∧ ph_i h' 13 5 = nI (wR (ctB b a m l) (wkP a m l) m (2 ^ m)) ∧ ph_i h' 13 6 = nI (wD (ctB b a m l) m (2 ^ m)) ∧ HI hdT shT h' ∧ fram (in_w iN_113) h h' := by
  cases b with
  | false =>
    obtain ⟨h', e1, ⟨A, hA, a1, a2, ⟨w1, w2, w3⟩, a4⟩, I1, F1⟩ := run_C hr vk l1 l8
    obtain ⟨i1, i2, i3⟩ := lw_eq (K := (a_v a).2.1) (m := m) (most := l) (S := (a_v a).2.2) vk.1 (2 ^ m) (Nat.le_refl _)
    exact ⟨h', e1, ⟨A, hA, a1⟩, w1.trans (congrArg nI i1), w2.trans (congrArg nI i2), w3.trans (congrArg nI i3), I1, F1⟩
  | true =>
    obtain ⟨⟨⟨hI, hC, hM, hA⟩, hV⟩, hR⟩ := id hr
    have f := hC.2.2.2.2.1
    have p6 := pw_6 m (by have := vk.1; omega)
    obtain ⟨h', e1, ⟨A, hA, a1, w1, w2, w3⟩, I1, F1⟩ := cu_ev hI hR vk.1 l1 l8 ne_m1 (fun s hs => (f.2 rfl).2 s (by omega)) hV.1.2.1 ((f.1 0 (by decide)).trans vk.2.2.1) ((f.1 1 (by decide)).trans vk.2.2.2.1) (f.2 rfl).1
    exact ⟨h', e1, ⟨A, hA, a1⟩, w1, w2, w3, I1, F1⟩
theorem wk_C {h h1 : PmH} {a : AB} {m l w : Nat} {b : Bool} (hr : REL3 h a) (h0 : 0 < (a_v a).1 1) (l1 : 1 ≤ l) (l8 : l ≤ 8) (e1 : Ev pmT 82 [.ref 13, .ref 1, .ref 2, .int (nI l), .int (b01 b), .int (-1)] h none h1) (hA : ∃ A, (A = 14 ∨ A = 18) ∧ rdI A (rdX a m l) h1) (q4 : ph_i h1 13 4 = nI (wL (ctB b a m l) (wkP a m l) m (2 ^ m))) (q5 : ph_i h1 13 5 = nI (wR (ctB b a m l) (wkP a m l) m (2 ^ m))) (q6 : ph_i h1 13 6 = nI (wD (ctB b a m l) m (2 ^ m))) (I1 : HI hdT shT h1) (hw : w < 4) : Ev pmT 112 [.ref 0, .int (nI l), .int (b01 b), .int (nI w)] h (some (.int (wkV b a m l w))) h1 := by
  have hI := hr.1.1.1
  have t1 := told1 hI (hr.1.1.2.1.2.2.2.2.1.1 1 (by decide)) h0
  have i1 := isl1 (x := nI l) hI ⟨nI_le (a := 1) (by omega) (by omega), nI_le (b := 8) (by omega) (by omega)⟩
  have k0 : ph_r h 0 0 = some 1 := hi_r hI rfl rfl (by decide)
  have k8 : ph_r h 0 8 = some 13 := hi_r hI rfl rfl (by decide)
  have s8 : ph_r h 1 8 = some 2 := hi_r hI rfl rfl (by decide)
  have q8 : ph_r h1 0 8 = some 13 := hi_r I1 rfl rfl (by decide)
  have hP := rd_P (K := (a_v a).2.1) (m := m) (S := (a_v a).2.2) l1 (2 ^ m)
  obtain ⟨A, hA, a1⟩ := hA
  have bb : ph_i h1 (A + 2) 0 = (rdX a m l).2.2 0 := (a1.2.2.2 0 hP.1).2
  have kB : ∀ A, (A = 14 ∨ A = 18) → ph_r h1 A 2 = some (A + 2) := fun A hA => by
    rcases hA with rfl | rfl
    · exact hi_r I1 rfl rfl (by decide)
    · exact hi_r I1 rfl rfl (by decide)
  have kB := kB A hA
  have ka := a1.1
  unfold wkV
  generalize (rdX a m l).2.2 0 = u at *
  generalize nI (wL (ctB b a m l) (wkP a m l) m (2 ^ m)) = vL at *
  generalize nI (wR (ctB b a m l) (wkP a m l) m (2 ^ m)) = vR at *
  generalize nI (wD (ctB b a m l) m (2 ^ m)) = vD at *
  generalize b01 b = bz at *
  clear a1 hr hP
  obtain ⟨S1, fi1, fl1, fr1⟩ := h1
  have s1 : S1 = shT := I1.1
  subst s1
  have q8 : fr1 0 8 = some 13 := q8
  have kB : fr1 A 2 = some (A + 2) := kB
  have ka : fr1 13 0 = some A := ka
  have q4 : fi1 13 4 = vL := q4
  have q5 : fi1 13 5 = vR := q5
  have q6 : fi1 13 6 = vD := q6
  have bb : fi1 (A + 2) 0 = u := bb
  obtain ⟨S, fi, fl, fr⟩ := h
  have hS : S = shT := hI.1
  subst hS
  have k0 : fr 0 0 = some 1 := k0
  have k8 : fr 0 8 = some 13 := k8
  have s8 : fr 1 8 = some 2 := s8
  have w4 : w = 0 ∨ w = 1 ∨ w = 2 ∨ w = 3 := by omega
  rcases hA with rfl | rfl
  · rcases w4 with rfl | rfl | rfl | rfl
    · refine Ev.of (es := cd_112) (ml := 4) (lv := [some (.ref 0), some (.int (nI l)), some (.int bz), some (.int 0)]) rfl rfl rfl ?_
      refine go_of ?_
      refine gp_n 1 (j' := 1) (lv' := [some (.ref 0), some (.int (nI l)), some (.int bz), some (.int 0)]) (st' := [.ref 0]) (h' := (shT, fi, fl, fr)) rfl ?_
      refine gp_of (fun _ k9 => g_getR (q' := 1) rfl rfl (by decide) k0 k9) ?_
      refine gp_of (fun _ k9 => g_call (y := 57) (as := [.ref 1]) (st' := []) rfl rfl (t1) k9) ?_
      refine gp_of (fun _ k9 => g_iff rfl (show ¬ ((1 : Int32) = (0 : Int32)) from by decide) k9) ?_
      refine gp_n 1 (j' := 5) (lv' := [some (.ref 0), some (.int (nI l)), some (.int bz), some (.int 0)]) (st' := [.int (nI l)]) (h' := (shT, fi, fl, fr)) rfl ?_
      refine gp_of (fun _ k9 => g_call (y := 79) (as := [.int (nI l)]) (st' := []) rfl rfl (i1) k9) ?_
      refine gp_of (fun _ k9 => g_iff rfl (show ¬ ((1 : Int32) = (0 : Int32)) from by decide) k9) ?_
      refine gp_n 1 (j' := 8) (lv' := [some (.ref 0), some (.int (nI l)), some (.int bz), some (.int 0)]) (st' := [.int 0]) (h' := (shT, fi, fl, fr)) rfl ?_
      refine gp_of (fun _ k9 => g_iff rfl (show ¬ ((0 : Int32) < (0 : Int32)) from by decide) k9) ?_
      refine gp_n 2 (j' := 11) (lv' := [some (.ref 0), some (.int (nI l)), some (.int bz), some (.int 0)]) (st' := [.int 3, .int 0]) (h' := (shT, fi, fl, fr)) rfl ?_
      refine gp_of (fun _ k9 => g_ict rfl (show (0 : Int32) ≤ (3 : Int32) from by decide) k9) ?_
      refine gp_n 1 (j' := 15) (lv' := [some (.ref 0), some (.int (nI l)), some (.int bz), some (.int 0)]) (st' := [.ref 0]) (h' := (shT, fi, fl, fr)) rfl ?_
      refine gp_of (fun _ k9 => g_getR (q' := 13) rfl rfl (by decide) k8 k9) ?_
      refine gp_n 1 (j' := 17) (lv' := [some (.ref 0), some (.int (nI l)), some (.int bz), some (.int 0)]) (st' := [.ref 0, .ref 13]) (h' := (shT, fi, fl, fr)) rfl ?_
      refine gp_of (fun _ k9 => g_getR (q' := 1) rfl rfl (by decide) k0 k9) ?_
      refine gp_n 1 (j' := 19) (lv' := [some (.ref 0), some (.int (nI l)), some (.int bz), some (.int 0)]) (st' := [.ref 0, .ref 1, .ref 13]) (h' := (shT, fi, fl, fr)) rfl ?_
      refine gp_of (fun _ k9 => g_getR (q' := 1) rfl rfl (by decide) k0 k9) ?_
      refine gp_of (fun _ k9 => g_getR (q' := 2) rfl rfl (by decide) s8 k9) ?_
      refine gp_n 3 (j' := 24) (lv' := [some (.ref 0), some (.int (nI l)), some (.int bz), some (.int 0)]) (st' := [.int (-1), .int bz, .int (nI l), .ref 2, .ref 1, .ref 13]) (h' := (shT, fi, fl, fr)) rfl ?_
      refine gp_of (fun _ k9 => g_callv (y := 82) (as := [.ref 13, .ref 1, .ref 2, .int (nI l), .int bz, .int (-1)]) (st' := []) rfl rfl (e1) k9) ?_
      refine gp_n 3 (j' := 28) (lv' := [some (.ref 0), some (.int (nI l)), some (.int bz), some (.int 0)]) (st' := [.ref 0]) (h' := (shT, fi1, fl1, fr1)) rfl ?_
      refine gp_of (fun _ k9 => g_getR (q' := 13) rfl rfl (by decide) q8 k9) ?_
      refine gp_of (fun _ k9 => g_getI (x := vL) rfl (Or.inl rfl) rfl (by decide) (q4) k9) ?_
      refine gp_done (g_ret rfl) ?_
      rfl
    · refine Ev.of (es := cd_112) (ml := 4) (lv := [some (.ref 0), some (.int (nI l)), some (.int bz), some (.int 1)]) rfl rfl rfl ?_
      refine go_of ?_
      refine gp_n 1 (j' := 1) (lv' := [some (.ref 0), some (.int (nI l)), some (.int bz), some (.int 1)]) (st' := [.ref 0]) (h' := (shT, fi, fl, fr)) rfl ?_
      refine gp_of (fun _ k9 => g_getR (q' := 1) rfl rfl (by decide) k0 k9) ?_
      refine gp_of (fun _ k9 => g_call (y := 57) (as := [.ref 1]) (st' := []) rfl rfl (t1) k9) ?_
      refine gp_of (fun _ k9 => g_iff rfl (show ¬ ((1 : Int32) = (0 : Int32)) from by decide) k9) ?_
      refine gp_n 1 (j' := 5) (lv' := [some (.ref 0), some (.int (nI l)), some (.int bz), some (.int 1)]) (st' := [.int (nI l)]) (h' := (shT, fi, fl, fr)) rfl ?_
      refine gp_of (fun _ k9 => g_call (y := 79) (as := [.int (nI l)]) (st' := []) rfl rfl (i1) k9) ?_
      refine gp_of (fun _ k9 => g_iff rfl (show ¬ ((1 : Int32) = (0 : Int32)) from by decide) k9) ?_
      refine gp_n 1 (j' := 8) (lv' := [some (.ref 0), some (.int (nI l)), some (.int bz), some (.int 1)]) (st' := [.int 1]) (h' := (shT, fi, fl, fr)) rfl ?_
      refine gp_of (fun _ k9 => g_iff rfl (show ¬ ((1 : Int32) < (0 : Int32)) from by decide) k9) ?_
      refine gp_n 2 (j' := 11) (lv' := [some (.ref 0), some (.int (nI l)), some (.int bz), some (.int 1)]) (st' := [.int 3, .int 1]) (h' := (shT, fi, fl, fr)) rfl ?_
      refine gp_of (fun _ k9 => g_ict rfl (show (1 : Int32) ≤ (3 : Int32) from by decide) k9) ?_
      refine gp_n 1 (j' := 15) (lv' := [some (.ref 0), some (.int (nI l)), some (.int bz), some (.int 1)]) (st' := [.ref 0]) (h' := (shT, fi, fl, fr)) rfl ?_
      refine gp_of (fun _ k9 => g_getR (q' := 13) rfl rfl (by decide) k8 k9) ?_
      refine gp_n 1 (j' := 17) (lv' := [some (.ref 0), some (.int (nI l)), some (.int bz), some (.int 1)]) (st' := [.ref 0, .ref 13]) (h' := (shT, fi, fl, fr)) rfl ?_
      refine gp_of (fun _ k9 => g_getR (q' := 1) rfl rfl (by decide) k0 k9) ?_
      refine gp_n 1 (j' := 19) (lv' := [some (.ref 0), some (.int (nI l)), some (.int bz), some (.int 1)]) (st' := [.ref 0, .ref 1, .ref 13]) (h' := (shT, fi, fl, fr)) rfl ?_
      refine gp_of (fun _ k9 => g_getR (q' := 1) rfl rfl (by decide) k0 k9) ?_
      refine gp_of (fun _ k9 => g_getR (q' := 2) rfl rfl (by decide) s8 k9) ?_
      refine gp_n 3 (j' := 24) (lv' := [some (.ref 0), some (.int (nI l)), some (.int bz), some (.int 1)]) (st' := [.int (-1), .int bz, .int (nI l), .ref 2, .ref 1, .ref 13]) (h' := (shT, fi, fl, fr)) rfl ?_
      refine gp_of (fun _ k9 => g_callv (y := 82) (as := [.ref 13, .ref 1, .ref 2, .int (nI l), .int bz, .int (-1)]) (st' := []) rfl rfl (e1) k9) ?_
      refine gp_n 3 (j' := 32) (lv' := [some (.ref 0), some (.int (nI l)), some (.int bz), some (.int 1)]) (st' := [.ref 0]) (h' := (shT, fi1, fl1, fr1)) rfl ?_
      refine gp_of (fun _ k9 => g_getR (q' := 13) rfl rfl (by decide) q8 k9) ?_
      refine gp_of (fun _ k9 => g_getI (x := vR) rfl (Or.inl rfl) rfl (by decide) (q5) k9) ?_
      refine gp_done (g_ret rfl) ?_
      rfl
    · refine Ev.of (es := cd_112) (ml := 4) (lv := [some (.ref 0), some (.int (nI l)), some (.int bz), some (.int 2)]) rfl rfl rfl ?_
      refine go_of ?_
      refine gp_n 1 (j' := 1) (lv' := [some (.ref 0), some (.int (nI l)), some (.int bz), some (.int 2)]) (st' := [.ref 0]) (h' := (shT, fi, fl, fr)) rfl ?_
      refine gp_of (fun _ k9 => g_getR (q' := 1) rfl rfl (by decide) k0 k9) ?_
      refine gp_of (fun _ k9 => g_call (y := 57) (as := [.ref 1]) (st' := []) rfl rfl (t1) k9) ?_
      refine gp_of (fun _ k9 => g_iff rfl (show ¬ ((1 : Int32) = (0 : Int32)) from by decide) k9) ?_
      refine gp_n 1 (j' := 5) (lv' := [some (.ref 0), some (.int (nI l)), some (.int bz), some (.int 2)]) (st' := [.int (nI l)]) (h' := (shT, fi, fl, fr)) rfl ?_
      refine gp_of (fun _ k9 => g_call (y := 79) (as := [.int (nI l)]) (st' := []) rfl rfl (i1) k9) ?_
      refine gp_of (fun _ k9 => g_iff rfl (show ¬ ((1 : Int32) = (0 : Int32)) from by decide) k9) ?_
      refine gp_n 1 (j' := 8) (lv' := [some (.ref 0), some (.int (nI l)), some (.int bz), some (.int 2)]) (st' := [.int 2]) (h' := (shT, fi, fl, fr)) rfl ?_
      refine gp_of (fun _ k9 => g_iff rfl (show ¬ ((2 : Int32) < (0 : Int32)) from by decide) k9) ?_
      refine gp_n 2 (j' := 11) (lv' := [some (.ref 0), some (.int (nI l)), some (.int bz), some (.int 2)]) (st' := [.int 3, .int 2]) (h' := (shT, fi, fl, fr)) rfl ?_
      refine gp_of (fun _ k9 => g_ict rfl (show (2 : Int32) ≤ (3 : Int32) from by decide) k9) ?_
      refine gp_n 1 (j' := 15) (lv' := [some (.ref 0), some (.int (nI l)), some (.int bz), some (.int 2)]) (st' := [.ref 0]) (h' := (shT, fi, fl, fr)) rfl ?_
      refine gp_of (fun _ k9 => g_getR (q' := 13) rfl rfl (by decide) k8 k9) ?_
      refine gp_n 1 (j' := 17) (lv' := [some (.ref 0), some (.int (nI l)), some (.int bz), some (.int 2)]) (st' := [.ref 0, .ref 13]) (h' := (shT, fi, fl, fr)) rfl ?_
      refine gp_of (fun _ k9 => g_getR (q' := 1) rfl rfl (by decide) k0 k9) ?_
      refine gp_n 1 (j' := 19) (lv' := [some (.ref 0), some (.int (nI l)), some (.int bz), some (.int 2)]) (st' := [.ref 0, .ref 1, .ref 13]) (h' := (shT, fi, fl, fr)) rfl ?_
      refine gp_of (fun _ k9 => g_getR (q' := 1) rfl rfl (by decide) k0 k9) ?_
      refine gp_of (fun _ k9 => g_getR (q' := 2) rfl rfl (by decide) s8 k9) ?_
      refine gp_n 3 (j' := 24) (lv' := [some (.ref 0), some (.int (nI l)), some (.int bz), some (.int 2)]) (st' := [.int (-1), .int bz, .int (nI l), .ref 2, .ref 1, .ref 13]) (h' := (shT, fi, fl, fr)) rfl ?_
      refine gp_of (fun _ k9 => g_callv (y := 82) (as := [.ref 13, .ref 1, .ref 2, .int (nI l), .int bz, .int (-1)]) (st' := []) rfl rfl (e1) k9) ?_
      refine gp_n 3 (j' := 36) (lv' := [some (.ref 0), some (.int (nI l)), some (.int bz), some (.int 2)]) (st' := [.ref 0]) (h' := (shT, fi1, fl1, fr1)) rfl ?_
      refine gp_of (fun _ k9 => g_getR (q' := 13) rfl rfl (by decide) q8 k9) ?_
      refine gp_of (fun _ k9 => g_getI (x := vD) rfl (Or.inl rfl) rfl (by decide) (q6) k9) ?_
      refine gp_done (g_ret rfl) ?_
      rfl
    · refine Ev.of (es := cd_112) (ml := 4) (lv := [some (.ref 0), some (.int (nI l)), some (.int bz), some (.int 3)]) rfl rfl rfl ?_
      refine go_of ?_
      refine gp_n 1 (j' := 1) (lv' := [some (.ref 0), some (.int (nI l)), some (.int bz), some (.int 3)]) (st' := [.ref 0]) (h' := (shT, fi, fl, fr)) rfl ?_
      refine gp_of (fun _ k9 => g_getR (q' := 1) rfl rfl (by decide) k0 k9) ?_
      refine gp_of (fun _ k9 => g_call (y := 57) (as := [.ref 1]) (st' := []) rfl rfl (t1) k9) ?_
      refine gp_of (fun _ k9 => g_iff rfl (show ¬ ((1 : Int32) = (0 : Int32)) from by decide) k9) ?_
      refine gp_n 1 (j' := 5) (lv' := [some (.ref 0), some (.int (nI l)), some (.int bz), some (.int 3)]) (st' := [.int (nI l)]) (h' := (shT, fi, fl, fr)) rfl ?_
      refine gp_of (fun _ k9 => g_call (y := 79) (as := [.int (nI l)]) (st' := []) rfl rfl (i1) k9) ?_
      refine gp_of (fun _ k9 => g_iff rfl (show ¬ ((1 : Int32) = (0 : Int32)) from by decide) k9) ?_
      refine gp_n 1 (j' := 8) (lv' := [some (.ref 0), some (.int (nI l)), some (.int bz), some (.int 3)]) (st' := [.int 3]) (h' := (shT, fi, fl, fr)) rfl ?_
      refine gp_of (fun _ k9 => g_iff rfl (show ¬ ((3 : Int32) < (0 : Int32)) from by decide) k9) ?_
      refine gp_n 2 (j' := 11) (lv' := [some (.ref 0), some (.int (nI l)), some (.int bz), some (.int 3)]) (st' := [.int 3, .int 3]) (h' := (shT, fi, fl, fr)) rfl ?_
      refine gp_of (fun _ k9 => g_ict rfl (show (3 : Int32) ≤ (3 : Int32) from by decide) k9) ?_
      refine gp_n 1 (j' := 15) (lv' := [some (.ref 0), some (.int (nI l)), some (.int bz), some (.int 3)]) (st' := [.ref 0]) (h' := (shT, fi, fl, fr)) rfl ?_
      refine gp_of (fun _ k9 => g_getR (q' := 13) rfl rfl (by decide) k8 k9) ?_
      refine gp_n 1 (j' := 17) (lv' := [some (.ref 0), some (.int (nI l)), some (.int bz), some (.int 3)]) (st' := [.ref 0, .ref 13]) (h' := (shT, fi, fl, fr)) rfl ?_
      refine gp_of (fun _ k9 => g_getR (q' := 1) rfl rfl (by decide) k0 k9) ?_
      refine gp_n 1 (j' := 19) (lv' := [some (.ref 0), some (.int (nI l)), some (.int bz), some (.int 3)]) (st' := [.ref 0, .ref 1, .ref 13]) (h' := (shT, fi, fl, fr)) rfl ?_
      refine gp_of (fun _ k9 => g_getR (q' := 1) rfl rfl (by decide) k0 k9) ?_
      refine gp_of (fun _ k9 => g_getR (q' := 2) rfl rfl (by decide) s8 k9) ?_
      refine gp_n 3 (j' := 24) (lv' := [some (.ref 0), some (.int (nI l)), some (.int bz), some (.int 3)]) (st' := [.int (-1), .int bz, .int (nI l), .ref 2, .ref 1, .ref 13]) (h' := (shT, fi, fl, fr)) rfl ?_
      refine gp_of (fun _ k9 => g_callv (y := 82) (as := [.ref 13, .ref 1, .ref 2, .int (nI l), .int bz, .int (-1)]) (st' := []) rfl rfl (e1) k9) ?_
      refine gp_n 3 (j' := 40) (lv' := [some (.ref 0), some (.int (nI l)), some (.int bz), some (.int 3)]) (st' := [.ref 0]) (h' := (shT, fi1, fl1, fr1)) rfl ?_
      refine gp_of (fun _ k9 => g_getR (q' := 13) rfl rfl (by decide) q8 k9) ?_
      refine gp_of (fun _ k9 => g_getR (q' := 14) rfl rfl (by decide) ka k9) ?_
      refine gp_of (fun _ k9 => g_getR (q' := 16) rfl rfl (by decide) kB k9) ?_
      refine gp_n 1 (j' := 44) (lv' := [some (.ref 0), some (.int (nI l)), some (.int bz), some (.int 3)]) (st' := [.int 0, .ref 16]) (h' := (shT, fi1, fl1, fr1)) rfl ?_
      refine gp_of (fun _ k9 => g_iald (k := 0) (x := u) rfl rfl (rfl) (by decide) (by decide) (bb) k9) ?_
      refine gp_done (g_ret rfl) ?_
      rfl
  · rcases w4 with rfl | rfl | rfl | rfl
    · refine Ev.of (es := cd_112) (ml := 4) (lv := [some (.ref 0), some (.int (nI l)), some (.int bz), some (.int 0)]) rfl rfl rfl ?_
      refine go_of ?_
      refine gp_n 1 (j' := 1) (lv' := [some (.ref 0), some (.int (nI l)), some (.int bz), some (.int 0)]) (st' := [.ref 0]) (h' := (shT, fi, fl, fr)) rfl ?_
      refine gp_of (fun _ k9 => g_getR (q' := 1) rfl rfl (by decide) k0 k9) ?_
      refine gp_of (fun _ k9 => g_call (y := 57) (as := [.ref 1]) (st' := []) rfl rfl (t1) k9) ?_
      refine gp_of (fun _ k9 => g_iff rfl (show ¬ ((1 : Int32) = (0 : Int32)) from by decide) k9) ?_
      refine gp_n 1 (j' := 5) (lv' := [some (.ref 0), some (.int (nI l)), some (.int bz), some (.int 0)]) (st' := [.int (nI l)]) (h' := (shT, fi, fl, fr)) rfl ?_
      refine gp_of (fun _ k9 => g_call (y := 79) (as := [.int (nI l)]) (st' := []) rfl rfl (i1) k9) ?_
      refine gp_of (fun _ k9 => g_iff rfl (show ¬ ((1 : Int32) = (0 : Int32)) from by decide) k9) ?_
      refine gp_n 1 (j' := 8) (lv' := [some (.ref 0), some (.int (nI l)), some (.int bz), some (.int 0)]) (st' := [.int 0]) (h' := (shT, fi, fl, fr)) rfl ?_
      refine gp_of (fun _ k9 => g_iff rfl (show ¬ ((0 : Int32) < (0 : Int32)) from by decide) k9) ?_
      refine gp_n 2 (j' := 11) (lv' := [some (.ref 0), some (.int (nI l)), some (.int bz), some (.int 0)]) (st' := [.int 3, .int 0]) (h' := (shT, fi, fl, fr)) rfl ?_
      refine gp_of (fun _ k9 => g_ict rfl (show (0 : Int32) ≤ (3 : Int32) from by decide) k9) ?_
      refine gp_n 1 (j' := 15) (lv' := [some (.ref 0), some (.int (nI l)), some (.int bz), some (.int 0)]) (st' := [.ref 0]) (h' := (shT, fi, fl, fr)) rfl ?_
      refine gp_of (fun _ k9 => g_getR (q' := 13) rfl rfl (by decide) k8 k9) ?_
      refine gp_n 1 (j' := 17) (lv' := [some (.ref 0), some (.int (nI l)), some (.int bz), some (.int 0)]) (st' := [.ref 0, .ref 13]) (h' := (shT, fi, fl, fr)) rfl ?_
      refine gp_of (fun _ k9 => g_getR (q' := 1) rfl rfl (by decide) k0 k9) ?_
      refine gp_n 1 (j' := 19) (lv' := [some (.ref 0), some (.int (nI l)), some (.int bz), some (.int 0)]) (st' := [.ref 0, .ref 1, .ref 13]) (h' := (shT, fi, fl, fr)) rfl ?_
      refine gp_of (fun _ k9 => g_getR (q' := 1) rfl rfl (by decide) k0 k9) ?_
      refine gp_of (fun _ k9 => g_getR (q' := 2) rfl rfl (by decide) s8 k9) ?_
      refine gp_n 3 (j' := 24) (lv' := [some (.ref 0), some (.int (nI l)), some (.int bz), some (.int 0)]) (st' := [.int (-1), .int bz, .int (nI l), .ref 2, .ref 1, .ref 13]) (h' := (shT, fi, fl, fr)) rfl ?_
      refine gp_of (fun _ k9 => g_callv (y := 82) (as := [.ref 13, .ref 1, .ref 2, .int (nI l), .int bz, .int (-1)]) (st' := []) rfl rfl (e1) k9) ?_
      refine gp_n 3 (j' := 28) (lv' := [some (.ref 0), some (.int (nI l)), some (.int bz), some (.int 0)]) (st' := [.ref 0]) (h' := (shT, fi1, fl1, fr1)) rfl ?_
      refine gp_of (fun _ k9 => g_getR (q' := 13) rfl rfl (by decide) q8 k9) ?_
      refine gp_of (fun _ k9 => g_getI (x := vL) rfl (Or.inl rfl) rfl (by decide) (q4) k9) ?_
      refine gp_done (g_ret rfl) ?_
      rfl
    · refine Ev.of (es := cd_112) (ml := 4) (lv := [some (.ref 0), some (.int (nI l)), some (.int bz), some (.int 1)]) rfl rfl rfl ?_
      refine go_of ?_
      refine gp_n 1 (j' := 1) (lv' := [some (.ref 0), some (.int (nI l)), some (.int bz), some (.int 1)]) (st' := [.ref 0]) (h' := (shT, fi, fl, fr)) rfl ?_
      refine gp_of (fun _ k9 => g_getR (q' := 1) rfl rfl (by decide) k0 k9) ?_
      refine gp_of (fun _ k9 => g_call (y := 57) (as := [.ref 1]) (st' := []) rfl rfl (t1) k9) ?_
      refine gp_of (fun _ k9 => g_iff rfl (show ¬ ((1 : Int32) = (0 : Int32)) from by decide) k9) ?_
      refine gp_n 1 (j' := 5) (lv' := [some (.ref 0), some (.int (nI l)), some (.int bz), some (.int 1)]) (st' := [.int (nI l)]) (h' := (shT, fi, fl, fr)) rfl ?_
      refine gp_of (fun _ k9 => g_call (y := 79) (as := [.int (nI l)]) (st' := []) rfl rfl (i1) k9) ?_
      refine gp_of (fun _ k9 => g_iff rfl (show ¬ ((1 : Int32) = (0 : Int32)) from by decide) k9) ?_
      refine gp_n 1 (j' := 8) (lv' := [some (.ref 0), some (.int (nI l)), some (.int bz), some (.int 1)]) (st' := [.int 1]) (h' := (shT, fi, fl, fr)) rfl ?_
      refine gp_of (fun _ k9 => g_iff rfl (show ¬ ((1 : Int32) < (0 : Int32)) from by decide) k9) ?_
      refine gp_n 2 (j' := 11) (lv' := [some (.ref 0), some (.int (nI l)), some (.int bz), some (.int 1)]) (st' := [.int 3, .int 1]) (h' := (shT, fi, fl, fr)) rfl ?_
      refine gp_of (fun _ k9 => g_ict rfl (show (1 : Int32) ≤ (3 : Int32) from by decide) k9) ?_
      refine gp_n 1 (j' := 15) (lv' := [some (.ref 0), some (.int (nI l)), some (.int bz), some (.int 1)]) (st' := [.ref 0]) (h' := (shT, fi, fl, fr)) rfl ?_
      refine gp_of (fun _ k9 => g_getR (q' := 13) rfl rfl (by decide) k8 k9) ?_
      refine gp_n 1 (j' := 17) (lv' := [some (.ref 0), some (.int (nI l)), some (.int bz), some (.int 1)]) (st' := [.ref 0, .ref 13]) (h' := (shT, fi, fl, fr)) rfl ?_
      refine gp_of (fun _ k9 => g_getR (q' := 1) rfl rfl (by decide) k0 k9) ?_
      refine gp_n 1 (j' := 19) (lv' := [some (.ref 0), some (.int (nI l)), some (.int bz), some (.int 1)]) (st' := [.ref 0, .ref 1, .ref 13]) (h' := (shT, fi, fl, fr)) rfl ?_
      refine gp_of (fun _ k9 => g_getR (q' := 1) rfl rfl (by decide) k0 k9) ?_
      refine gp_of (fun _ k9 => g_getR (q' := 2) rfl rfl (by decide) s8 k9) ?_
      refine gp_n 3 (j' := 24) (lv' := [some (.ref 0), some (.int (nI l)), some (.int bz), some (.int 1)]) (st' := [.int (-1), .int bz, .int (nI l), .ref 2, .ref 1, .ref 13]) (h' := (shT, fi, fl, fr)) rfl ?_
      refine gp_of (fun _ k9 => g_callv (y := 82) (as := [.ref 13, .ref 1, .ref 2, .int (nI l), .int bz, .int (-1)]) (st' := []) rfl rfl (e1) k9) ?_
      refine gp_n 3 (j' := 32) (lv' := [some (.ref 0), some (.int (nI l)), some (.int bz), some (.int 1)]) (st' := [.ref 0]) (h' := (shT, fi1, fl1, fr1)) rfl ?_
      refine gp_of (fun _ k9 => g_getR (q' := 13) rfl rfl (by decide) q8 k9) ?_
      refine gp_of (fun _ k9 => g_getI (x := vR) rfl (Or.inl rfl) rfl (by decide) (q5) k9) ?_
      refine gp_done (g_ret rfl) ?_
      rfl
    · refine Ev.of (es := cd_112) (ml := 4) (lv := [some (.ref 0), some (.int (nI l)), some (.int bz), some (.int 2)]) rfl rfl rfl ?_
      refine go_of ?_
      refine gp_n 1 (j' := 1) (lv' := [some (.ref 0), some (.int (nI l)), some (.int bz), some (.int 2)]) (st' := [.ref 0]) (h' := (shT, fi, fl, fr)) rfl ?_
      refine gp_of (fun _ k9 => g_getR (q' := 1) rfl rfl (by decide) k0 k9) ?_
      refine gp_of (fun _ k9 => g_call (y := 57) (as := [.ref 1]) (st' := []) rfl rfl (t1) k9) ?_
      refine gp_of (fun _ k9 => g_iff rfl (show ¬ ((1 : Int32) = (0 : Int32)) from by decide) k9) ?_
      refine gp_n 1 (j' := 5) (lv' := [some (.ref 0), some (.int (nI l)), some (.int bz), some (.int 2)]) (st' := [.int (nI l)]) (h' := (shT, fi, fl, fr)) rfl ?_
      refine gp_of (fun _ k9 => g_call (y := 79) (as := [.int (nI l)]) (st' := []) rfl rfl (i1) k9) ?_
      refine gp_of (fun _ k9 => g_iff rfl (show ¬ ((1 : Int32) = (0 : Int32)) from by decide) k9) ?_
      refine gp_n 1 (j' := 8) (lv' := [some (.ref 0), some (.int (nI l)), some (.int bz), some (.int 2)]) (st' := [.int 2]) (h' := (shT, fi, fl, fr)) rfl ?_
      refine gp_of (fun _ k9 => g_iff rfl (show ¬ ((2 : Int32) < (0 : Int32)) from by decide) k9) ?_
      refine gp_n 2 (j' := 11) (lv' := [some (.ref 0), some (.int (nI l)), some (.int bz), some (.int 2)]) (st' := [.int 3, .int 2]) (h' := (shT, fi, fl, fr)) rfl ?_
      refine gp_of (fun _ k9 => g_ict rfl (show (2 : Int32) ≤ (3 : Int32) from by decide) k9) ?_
      refine gp_n 1 (j' := 15) (lv' := [some (.ref 0), some (.int (nI l)), some (.int bz), some (.int 2)]) (st' := [.ref 0]) (h' := (shT, fi, fl, fr)) rfl ?_
      refine gp_of (fun _ k9 => g_getR (q' := 13) rfl rfl (by decide) k8 k9) ?_
      refine gp_n 1 (j' := 17) (lv' := [some (.ref 0), some (.int (nI l)), some (.int bz), some (.int 2)]) (st' := [.ref 0, .ref 13]) (h' := (shT, fi, fl, fr)) rfl ?_
      refine gp_of (fun _ k9 => g_getR (q' := 1) rfl rfl (by decide) k0 k9) ?_
      refine gp_n 1 (j' := 19) (lv' := [some (.ref 0), some (.int (nI l)), some (.int bz), some (.int 2)]) (st' := [.ref 0, .ref 1, .ref 13]) (h' := (shT, fi, fl, fr)) rfl ?_
      refine gp_of (fun _ k9 => g_getR (q' := 1) rfl rfl (by decide) k0 k9) ?_
      refine gp_of (fun _ k9 => g_getR (q' := 2) rfl rfl (by decide) s8 k9) ?_
      refine gp_n 3 (j' := 24) (lv' := [some (.ref 0), some (.int (nI l)), some (.int bz), some (.int 2)]) (st' := [.int (-1), .int bz, .int (nI l), .ref 2, .ref 1, .ref 13]) (h' := (shT, fi, fl, fr)) rfl ?_
      refine gp_of (fun _ k9 => g_callv (y := 82) (as := [.ref 13, .ref 1, .ref 2, .int (nI l), .int bz, .int (-1)]) (st' := []) rfl rfl (e1) k9) ?_
      refine gp_n 3 (j' := 36) (lv' := [some (.ref 0), some (.int (nI l)), some (.int bz), some (.int 2)]) (st' := [.ref 0]) (h' := (shT, fi1, fl1, fr1)) rfl ?_
      refine gp_of (fun _ k9 => g_getR (q' := 13) rfl rfl (by decide) q8 k9) ?_
      refine gp_of (fun _ k9 => g_getI (x := vD) rfl (Or.inl rfl) rfl (by decide) (q6) k9) ?_
      refine gp_done (g_ret rfl) ?_
      rfl
    · refine Ev.of (es := cd_112) (ml := 4) (lv := [some (.ref 0), some (.int (nI l)), some (.int bz), some (.int 3)]) rfl rfl rfl ?_
      refine go_of ?_
      refine gp_n 1 (j' := 1) (lv' := [some (.ref 0), some (.int (nI l)), some (.int bz), some (.int 3)]) (st' := [.ref 0]) (h' := (shT, fi, fl, fr)) rfl ?_
      refine gp_of (fun _ k9 => g_getR (q' := 1) rfl rfl (by decide) k0 k9) ?_
      refine gp_of (fun _ k9 => g_call (y := 57) (as := [.ref 1]) (st' := []) rfl rfl (t1) k9) ?_
      refine gp_of (fun _ k9 => g_iff rfl (show ¬ ((1 : Int32) = (0 : Int32)) from by decide) k9) ?_
      refine gp_n 1 (j' := 5) (lv' := [some (.ref 0), some (.int (nI l)), some (.int bz), some (.int 3)]) (st' := [.int (nI l)]) (h' := (shT, fi, fl, fr)) rfl ?_
      refine gp_of (fun _ k9 => g_call (y := 79) (as := [.int (nI l)]) (st' := []) rfl rfl (i1) k9) ?_
      refine gp_of (fun _ k9 => g_iff rfl (show ¬ ((1 : Int32) = (0 : Int32)) from by decide) k9) ?_
      refine gp_n 1 (j' := 8) (lv' := [some (.ref 0), some (.int (nI l)), some (.int bz), some (.int 3)]) (st' := [.int 3]) (h' := (shT, fi, fl, fr)) rfl ?_
      refine gp_of (fun _ k9 => g_iff rfl (show ¬ ((3 : Int32) < (0 : Int32)) from by decide) k9) ?_
      refine gp_n 2 (j' := 11) (lv' := [some (.ref 0), some (.int (nI l)), some (.int bz), some (.int 3)]) (st' := [.int 3, .int 3]) (h' := (shT, fi, fl, fr)) rfl ?_
      refine gp_of (fun _ k9 => g_ict rfl (show (3 : Int32) ≤ (3 : Int32) from by decide) k9) ?_
      refine gp_n 1 (j' := 15) (lv' := [some (.ref 0), some (.int (nI l)), some (.int bz), some (.int 3)]) (st' := [.ref 0]) (h' := (shT, fi, fl, fr)) rfl ?_
      refine gp_of (fun _ k9 => g_getR (q' := 13) rfl rfl (by decide) k8 k9) ?_
      refine gp_n 1 (j' := 17) (lv' := [some (.ref 0), some (.int (nI l)), some (.int bz), some (.int 3)]) (st' := [.ref 0, .ref 13]) (h' := (shT, fi, fl, fr)) rfl ?_
      refine gp_of (fun _ k9 => g_getR (q' := 1) rfl rfl (by decide) k0 k9) ?_
      refine gp_n 1 (j' := 19) (lv' := [some (.ref 0), some (.int (nI l)), some (.int bz), some (.int 3)]) (st' := [.ref 0, .ref 1, .ref 13]) (h' := (shT, fi, fl, fr)) rfl ?_
      refine gp_of (fun _ k9 => g_getR (q' := 1) rfl rfl (by decide) k0 k9) ?_
      refine gp_of (fun _ k9 => g_getR (q' := 2) rfl rfl (by decide) s8 k9) ?_
      refine gp_n 3 (j' := 24) (lv' := [some (.ref 0), some (.int (nI l)), some (.int bz), some (.int 3)]) (st' := [.int (-1), .int bz, .int (nI l), .ref 2, .ref 1, .ref 13]) (h' := (shT, fi, fl, fr)) rfl ?_
      refine gp_of (fun _ k9 => g_callv (y := 82) (as := [.ref 13, .ref 1, .ref 2, .int (nI l), .int bz, .int (-1)]) (st' := []) rfl rfl (e1) k9) ?_
      refine gp_n 3 (j' := 40) (lv' := [some (.ref 0), some (.int (nI l)), some (.int bz), some (.int 3)]) (st' := [.ref 0]) (h' := (shT, fi1, fl1, fr1)) rfl ?_
      refine gp_of (fun _ k9 => g_getR (q' := 13) rfl rfl (by decide) q8 k9) ?_
      refine gp_of (fun _ k9 => g_getR (q' := 18) rfl rfl (by decide) ka k9) ?_
      refine gp_of (fun _ k9 => g_getR (q' := 20) rfl rfl (by decide) kB k9) ?_
      refine gp_n 1 (j' := 44) (lv' := [some (.ref 0), some (.int (nI l)), some (.int bz), some (.int 3)]) (st' := [.int 0, .ref 20]) (h' := (shT, fi1, fl1, fr1)) rfl ?_
      refine gp_of (fun _ k9 => g_iald (k := 0) (x := u) rfl rfl (rfl) (by decide) (by decide) (bb) k9) ?_
      refine gp_done (g_ret rfl) ?_
      rfl
theorem wk_C0 {h : PmH} {a : AB} {x0 x1 x2 : Int32} (hr : REL3 h a) (hn : ¬ (0 < (a_v a).1 1 ∧ (1 ≤ x0 ∧ x0 ≤ 8) ∧ (0 ≤ x2 ∧ x2 ≤ 3))) : Ev pmT 112 [.ref 0, .int x0, .int x1, .int x2] h (some (.int (-1))) h := by
  have hI := hr.1.1.1
  have t1 := told1 hI (hr.1.1.2.1.2.2.2.2.1.1 1 (by decide))
  have t0 := told0 hI (hr.1.1.2.1.2.2.2.2.1.1 1 (by decide))
  have i1 := isl1 (x := x0) hI
  have i0 := isl0 (x := x0) hI
  have k0 : ph_r h 0 0 = some 1 := hi_r hI rfl rfl (by decide)
  refine Ev.of (es := cd_112) (ml := 4) (lv := [some (.ref 0), some (.int x0), some (.int x1), some (.int x2)]) rfl rfl rfl ?_
  clear hr
  obtain ⟨S, fi, fl, fr⟩ := h
  have hS : S = shT := hI.1
  subst hS
  have k0 : fr 0 0 = some 1 := k0
  refine go_of ?_
  by_cases h0 : 0 < (a_v a).1 1
  · have t1 := t1 h0
    by_cases hl : 1 ≤ x0 ∧ x0 ≤ 8
    · have i1 := i1 hl
      by_cases h1 : x2 < 0
      ·
        refine gp_n 1 (j' := 1) (lv' := [some (.ref 0), some (.int x0), some (.int x1), some (.int x2)]) (st' := [.ref 0]) (h' := (shT, fi, fl, fr)) rfl ?_
        refine gp_of (fun _ k9 => g_getR (q' := 1) rfl rfl (by decide) k0 k9) ?_
        refine gp_of (fun _ k9 => g_call (y := 57) (as := [.ref 1]) (st' := []) rfl rfl (t1) k9) ?_
        refine gp_of (fun _ k9 => g_iff rfl (show ¬ ((1 : Int32) = (0 : Int32)) from by decide) k9) ?_
        refine gp_n 1 (j' := 5) (lv' := [some (.ref 0), some (.int x0), some (.int x1), some (.int x2)]) (st' := [.int x0]) (h' := (shT, fi, fl, fr)) rfl ?_
        refine gp_of (fun _ k9 => g_call (y := 79) (as := [.int x0]) (st' := []) rfl rfl (i1) k9) ?_
        refine gp_of (fun _ k9 => g_iff rfl (show ¬ ((1 : Int32) = (0 : Int32)) from by decide) k9) ?_
        refine gp_n 1 (j' := 8) (lv' := [some (.ref 0), some (.int x0), some (.int x1), some (.int x2)]) (st' := [.int x2]) (h' := (shT, fi, fl, fr)) rfl ?_
        refine gp_of (fun _ k9 => g_ift rfl (show x2 < (0 : Int32) from h1) k9) ?_
        refine gp_n 1 (j' := 13) (lv' := [some (.ref 0), some (.int x0), some (.int x1), some (.int x2)]) (st' := [.int (-1)]) (h' := (shT, fi, fl, fr)) rfl ?_
        refine gp_done (g_ret rfl) ?_
        rfl
      · have h2 : ¬ x2 ≤ 3 := fun z => hn ⟨h0, hl, Int32.not_lt.mp h1, z⟩
        refine gp_n 1 (j' := 1) (lv' := [some (.ref 0), some (.int x0), some (.int x1), some (.int x2)]) (st' := [.ref 0]) (h' := (shT, fi, fl, fr)) rfl ?_
        refine gp_of (fun _ k9 => g_getR (q' := 1) rfl rfl (by decide) k0 k9) ?_
        refine gp_of (fun _ k9 => g_call (y := 57) (as := [.ref 1]) (st' := []) rfl rfl (t1) k9) ?_
        refine gp_of (fun _ k9 => g_iff rfl (show ¬ ((1 : Int32) = (0 : Int32)) from by decide) k9) ?_
        refine gp_n 1 (j' := 5) (lv' := [some (.ref 0), some (.int x0), some (.int x1), some (.int x2)]) (st' := [.int x0]) (h' := (shT, fi, fl, fr)) rfl ?_
        refine gp_of (fun _ k9 => g_call (y := 79) (as := [.int x0]) (st' := []) rfl rfl (i1) k9) ?_
        refine gp_of (fun _ k9 => g_iff rfl (show ¬ ((1 : Int32) = (0 : Int32)) from by decide) k9) ?_
        refine gp_n 1 (j' := 8) (lv' := [some (.ref 0), some (.int x0), some (.int x1), some (.int x2)]) (st' := [.int x2]) (h' := (shT, fi, fl, fr)) rfl ?_
        refine gp_of (fun _ k9 => g_iff rfl (show ¬ (x2 < (0 : Int32)) from h1) k9) ?_
        refine gp_n 2 (j' := 11) (lv' := [some (.ref 0), some (.int x0), some (.int x1), some (.int x2)]) (st' := [.int 3, .int x2]) (h' := (shT, fi, fl, fr)) rfl ?_
        refine gp_of (fun _ k9 => g_icf rfl (show ¬ (x2 ≤ (3 : Int32)) from h2) k9) ?_
        refine gp_n 1 (j' := 13) (lv' := [some (.ref 0), some (.int x0), some (.int x1), some (.int x2)]) (st' := [.int (-1)]) (h' := (shT, fi, fl, fr)) rfl ?_
        refine gp_done (g_ret rfl) ?_
        rfl
    · have i0 := i0 hl
      refine gp_n 1 (j' := 1) (lv' := [some (.ref 0), some (.int x0), some (.int x1), some (.int x2)]) (st' := [.ref 0]) (h' := (shT, fi, fl, fr)) rfl ?_
      refine gp_of (fun _ k9 => g_getR (q' := 1) rfl rfl (by decide) k0 k9) ?_
      refine gp_of (fun _ k9 => g_call (y := 57) (as := [.ref 1]) (st' := []) rfl rfl (t1) k9) ?_
      refine gp_of (fun _ k9 => g_iff rfl (show ¬ ((1 : Int32) = (0 : Int32)) from by decide) k9) ?_
      refine gp_n 1 (j' := 5) (lv' := [some (.ref 0), some (.int x0), some (.int x1), some (.int x2)]) (st' := [.int x0]) (h' := (shT, fi, fl, fr)) rfl ?_
      refine gp_of (fun _ k9 => g_call (y := 79) (as := [.int x0]) (st' := []) rfl rfl (i0) k9) ?_
      refine gp_of (fun _ k9 => g_ift rfl (show (0 : Int32) = (0 : Int32) from by decide) k9) ?_
      refine gp_n 1 (j' := 13) (lv' := [some (.ref 0), some (.int x0), some (.int x1), some (.int x2)]) (st' := [.int (-1)]) (h' := (shT, fi, fl, fr)) rfl ?_
      refine gp_done (g_ret rfl) ?_
      rfl
  · have t0 := t0 h0
    refine gp_n 1 (j' := 1) (lv' := [some (.ref 0), some (.int x0), some (.int x1), some (.int x2)]) (st' := [.ref 0]) (h' := (shT, fi, fl, fr)) rfl ?_
    refine gp_of (fun _ k9 => g_getR (q' := 1) rfl rfl (by decide) k0 k9) ?_
    refine gp_of (fun _ k9 => g_call (y := 57) (as := [.ref 1]) (st' := []) rfl rfl (t0) k9) ?_
    refine gp_of (fun _ k9 => g_ift rfl (show (0 : Int32) = (0 : Int32) from by decide) k9) ?_
    refine gp_n 1 (j' := 13) (lv' := [some (.ref 0), some (.int x0), some (.int x1), some (.int x2)]) (st' := [.int (-1)]) (h' := (shT, fi, fl, fr)) rfl ?_
    refine gp_done (g_ret rfl) ?_
    rfl
theorem wk_M0 {h : PmH} {a : AB} {x0 x1 x2 : Int32} (hr : REL3 h a) (hn : ¬ (0 < (a_v a).1 1 ∧ (1 ≤ x0 ∧ x0 ≤ 8) ∧ (0 ≤ x2 ∧ x2 ≤ 3))) : Ev pmT 206 [.ref 70, .int x0, .int x1, .int x2] h (some (.int (-1))) h := by
  have hI := hr.1.1.1
  have c0 := hr.1.1.2.2.1.2.2.2.2.1.1 0 (by decide)
  have t1 := isc1 hI c0
  have t0 := isc0 hI c0
  refine Ev.of (es := cd_206) (ml := 4) (lv := [some (.ref 70), some (.int x0), some (.int x1), some (.int x2)]) rfl rfl rfl ?_
  clear hr
  obtain ⟨S, fi, fl, fr⟩ := h
  have hS : S = shT := hI.1
  subst hS
  refine go_of ?_
  by_cases h0 : 0 < (a_v a).1 1
  · have t1 := t1 h0
    by_cases hl : 1 ≤ x0 ∧ x0 ≤ 8
    · have i1 := isin_1 (x := x0) 1 8 (l1 := 1) (l2 := 8) (h := (shT, fi, fl, fr)) (by decide) (by decide) hl
      have i2 := isin_0 (x := x2) 0 3 (l1 := 0) (l2 := 3) (h := (shT, fi, fl, fr)) (by decide) (by decide) (fun z => hn ⟨h0, hl, z⟩)
      refine gp_n 1 (j' := 1) (lv' := [some (.ref 70), some (.int x0), some (.int x1), some (.int x2)]) (st' := [.ref 70]) (h' := (shT, fi, fl, fr)) rfl ?_
      refine gp_of (fun _ k9 => g_call (y := 172) (as := [.ref 70]) (st' := []) rfl rfl (t1) k9) ?_
      refine gp_of (fun _ k9 => g_iff rfl (show ¬ ((1 : Int32) = (0 : Int32)) from by decide) k9) ?_
      refine gp_n 4 (j' := 7) (lv' := [some (.ref 70), some (.int x0), some (.int x1), some (.int x2)]) (st' := [.long 8, .long 1, .long x0.toInt64]) (h' := (shT, fi, fl, fr)) rfl ?_
      refine gp_of (fun _ k9 => g_call (y := 148) (as := [.long x0.toInt64, .long 1, .long 8]) (st' := []) rfl rfl (i1) k9) ?_
      refine gp_of (fun _ k9 => g_iff rfl (show ¬ ((1 : Int32) = (0 : Int32)) from by decide) k9) ?_
      refine gp_n 4 (j' := 13) (lv' := [some (.ref 70), some (.int x0), some (.int x1), some (.int x2)]) (st' := [.long 3, .long 0, .long x2.toInt64]) (h' := (shT, fi, fl, fr)) rfl ?_
      refine gp_of (fun _ k9 => g_call (y := 148) (as := [.long x2.toInt64, .long 0, .long 3]) (st' := []) rfl rfl (i2) k9) ?_
      refine gp_of (fun _ k9 => g_iff rfl (show ¬ (¬ (0 : Int32) = (0 : Int32)) from by decide) k9) ?_
      refine gp_n 1 (j' := 16) (lv' := [some (.ref 70), some (.int x0), some (.int x1), some (.int x2)]) (st' := [.int (-1)]) (h' := (shT, fi, fl, fr)) rfl ?_
      refine gp_done (g_ret rfl) ?_
      rfl
    · have i0 := isin_0 (x := x0) 1 8 (l1 := 1) (l2 := 8) (h := (shT, fi, fl, fr)) (by decide) (by decide) hl
      refine gp_n 1 (j' := 1) (lv' := [some (.ref 70), some (.int x0), some (.int x1), some (.int x2)]) (st' := [.ref 70]) (h' := (shT, fi, fl, fr)) rfl ?_
      refine gp_of (fun _ k9 => g_call (y := 172) (as := [.ref 70]) (st' := []) rfl rfl (t1) k9) ?_
      refine gp_of (fun _ k9 => g_iff rfl (show ¬ ((1 : Int32) = (0 : Int32)) from by decide) k9) ?_
      refine gp_n 4 (j' := 7) (lv' := [some (.ref 70), some (.int x0), some (.int x1), some (.int x2)]) (st' := [.long 8, .long 1, .long x0.toInt64]) (h' := (shT, fi, fl, fr)) rfl ?_
      refine gp_of (fun _ k9 => g_call (y := 148) (as := [.long x0.toInt64, .long 1, .long 8]) (st' := []) rfl rfl (i0) k9) ?_
      refine gp_of (fun _ k9 => g_ift rfl (show (0 : Int32) = (0 : Int32) from by decide) k9) ?_
      refine gp_n 1 (j' := 16) (lv' := [some (.ref 70), some (.int x0), some (.int x1), some (.int x2)]) (st' := [.int (-1)]) (h' := (shT, fi, fl, fr)) rfl ?_
      refine gp_done (g_ret rfl) ?_
      rfl
  · have t0 := t0 h0
    refine gp_n 1 (j' := 1) (lv' := [some (.ref 70), some (.int x0), some (.int x1), some (.int x2)]) (st' := [.ref 70]) (h' := (shT, fi, fl, fr)) rfl ?_
    refine gp_of (fun _ k9 => g_call (y := 172) (as := [.ref 70]) (st' := []) rfl rfl (t0) k9) ?_
    refine gp_of (fun _ k9 => g_ift rfl (show (0 : Int32) = (0 : Int32) from by decide) k9) ?_
    refine gp_n 1 (j' := 16) (lv' := [some (.ref 70), some (.int x0), some (.int x1), some (.int x2)]) (st' := [.int (-1)]) (h' := (shT, fi, fl, fr)) rfl ?_
    refine gp_done (g_ret rfl) ?_
    rfl
theorem wk_M {h : PmH} {a : AB} {m k c l w : Nat} (b : Bool) (hr : REL3 h a) (h0 : 0 < (a_v a).1 1) (vk : VK (a_v a) m k c) (l1 : 1 ≤ l) (l8 : l ≤ 8) (hw : w < 4) : ∃ h', Ev pmT 206 [.ref 70, .int (nI l), .int (b01 b), .int (nI w)] h (some (.int (wkV b a m l w))) h' ∧ REL3 h' a := by
  have hI := hr.1.1.1
  have c0 : ph_i h 70 14 = (a_v a).1 1 := hr.1.1.2.2.1.2.2.2.2.1.1 0 (by decide)
  have t1 := isc1 hI c0 h0
  have hP := rd_P (K := (a_v a).2.1) (m := m) (S := (a_v a).2.2) l1 (2 ^ m)
  obtain ⟨h1, e1, I1, x1, F1⟩ := run_M hr.1 vk l1 l8
  have r1 := rd_pairM hr I1 F1
  have x1w : mwI (a_v a).2.1 m (a_v a).2.2 ((rdX a m l).2.1 0) h1 := ⟨x1.2.1, (x1.1.2 0 hP.1).1⟩
  obtain ⟨h2, e2, w1, w2, w3, I2, F2⟩ := wk_ev (b := b) (ct := ctB b a m l) vk.1 l1 l8 (fun z l' c' z1 z2 => by
    subst z
    exact ct_eq vk.1 hr.1.2.1.2.1 z1 z2) (fun z l' c' => by
    subst z
    rfl) I1 x1w
  have r2 : REL3 h2 a := ⟨q_fr (by decide) (by decide) I2 F2 r1.1, RD_fr (by decide) (by decide) F2 r1.2⟩
  have bb : ph_i h1 77 0 = (rdX a m l).2.2 0 := (x1.1.2 0 hP.1).2
  have q27 : ph_r h1 70 27 = some 77 := hi_r I1 rfl rfl (by decide)
  have w1 : ph_i h2 70 36 = nI (wL (ctB b a m l) (wkP a m l) m (2 ^ m)) := w1
  have w2 : ph_i h2 70 37 = nI (wR (ctB b a m l) (wkP a m l) m (2 ^ m)) := w2
  have isl := isin_1 (x := nI l) 1 8 (l1 := 1) (l2 := 8) (h := h) (by decide) (by decide) ⟨nI_le (a := 1) (by omega) (by omega), nI_le (b := 8) (by omega) (by omega)⟩
  have isi := fun (x : Int32) => isin_1 (x := x) 0 3 (l1 := 0) (l2 := 3) (h := h) (by decide) (by decide)
  unfold wkV
  generalize (rdX a m l).2.2 0 = u at *
  generalize nI (wL (ctB b a m l) (wkP a m l) m (2 ^ m)) = vL at *
  generalize nI (wR (ctB b a m l) (wkP a m l) m (2 ^ m)) = vR at *
  generalize nI (wD (ctB b a m l) m (2 ^ m)) = vD at *
  generalize b01 b = bz at *
  have w4 : w = 0 ∨ w = 1 ∨ w = 2 ∨ w = 3 := by omega
  rcases w4 with rfl | rfl | rfl | rfl
  · refine ⟨h2, ?_, r2⟩
    clear hr r1 r2 x1 x1w F1 F2 hP
    have isw := isi 0 (by decide)
    clear isi
    obtain ⟨S2, fi2, fl2, fr2⟩ := h2
    have s2 : S2 = shT := I2.1
    subst s2
    have w1 : fi2 70 36 = vL := w1
    have w2 : fi2 70 37 = vR := w2
    have w3 : fi2 70 38 = vD := w3
    obtain ⟨S1, fi1, fl1, fr1⟩ := h1
    have s1 : S1 = shT := I1.1
    subst s1
    have q27 : fr1 70 27 = some 77 := q27
    have bb : fi1 77 0 = u := bb
    refine Ev.of (es := cd_206) (ml := 4) (lv := [some (.ref 70), some (.int (nI l)), some (.int bz), some (.int 0)]) rfl rfl rfl ?_
    obtain ⟨S, fi, fl, fr⟩ := h
    have hS : S = shT := hI.1
    subst hS
    refine go_of ?_
    refine gp_n 1 (j' := 1) (lv' := [some (.ref 70), some (.int (nI l)), some (.int bz), some (.int 0)]) (st' := [.ref 70]) (h' := (shT, fi, fl, fr)) rfl ?_
    refine gp_of (fun _ k9 => g_call (y := 172) (as := [.ref 70]) (st' := []) rfl rfl (t1) k9) ?_
    refine gp_of (fun _ k9 => g_iff rfl (show ¬ ((1 : Int32) = (0 : Int32)) from by decide) k9) ?_
    refine gp_n 4 (j' := 7) (lv' := [some (.ref 70), some (.int (nI l)), some (.int bz), some (.int 0)]) (st' := [.long 8, .long 1, .long ((nI l).toInt64)]) (h' := (shT, fi, fl, fr)) rfl ?_
    refine gp_of (fun _ k9 => g_call (y := 148) (as := [.long ((nI l).toInt64), .long 1, .long 8]) (st' := []) rfl rfl (isl) k9) ?_
    refine gp_of (fun _ k9 => g_iff rfl (show ¬ ((1 : Int32) = (0 : Int32)) from by decide) k9) ?_
    refine gp_n 4 (j' := 13) (lv' := [some (.ref 70), some (.int (nI l)), some (.int bz), some (.int 0)]) (st' := [.long 3, .long 0, .long 0]) (h' := (shT, fi, fl, fr)) rfl ?_
    refine gp_of (fun _ k9 => g_call (y := 148) (as := [.long 0, .long 0, .long 3]) (st' := []) rfl rfl (isw) k9) ?_
    refine gp_of (fun _ k9 => g_ift rfl (show ¬ (1 : Int32) = (0 : Int32) from by decide) k9) ?_
    refine gp_n 2 (j' := 19) (lv' := [some (.ref 70), some (.int (nI l)), some (.int bz), some (.int 0)]) (st' := [.int (nI l), .ref 70]) (h' := (shT, fi, fl, fr)) rfl ?_
    refine gp_of (fun _ k9 => g_callv (y := 191) (as := [.ref 70, .int (nI l)]) (st' := []) rfl rfl (e1) k9) ?_
    refine gp_n 2 (j' := 22) (lv' := [some (.ref 70), some (.int (nI l)), some (.int bz), some (.int 0)]) (st' := [.int 3, .int 0]) (h' := (shT, fi1, fl1, fr1)) rfl ?_
    refine gp_of (fun _ k9 => g_ict rfl (show ¬ (0 : Int32) = (3 : Int32) from by decide) k9) ?_
    refine gp_n 3 (j' := 31) (lv' := [some (.ref 70), some (.int (nI l)), some (.int bz), some (.int 0)]) (st' := [.int bz, .int (nI l), .ref 70]) (h' := (shT, fi1, fl1, fr1)) rfl ?_
    refine gp_of (fun _ k9 => g_callv (y := 207) (as := [.ref 70, .int (nI l), .int bz]) (st' := []) rfl rfl (e2) k9) ?_
    refine gp_n 1 (j' := 33) (lv' := [some (.ref 70), some (.int (nI l)), some (.int bz), some (.int 0)]) (st' := [.int 0]) (h' := (shT, fi2, fl2, fr2)) rfl ?_
    refine gp_of (fun _ k9 => g_iff rfl (show ¬ (¬ (0 : Int32) = (0 : Int32)) from by decide) k9) ?_
    refine gp_n 1 (j' := 35) (lv' := [some (.ref 70), some (.int (nI l)), some (.int bz), some (.int 0)]) (st' := [.ref 70]) (h' := (shT, fi2, fl2, fr2)) rfl ?_
    refine gp_of (fun _ k9 => g_getI (x := vL) rfl (Or.inl rfl) rfl (by decide) (w1) k9) ?_
    refine gp_n 1 (j' := 45) (lv' := [some (.ref 70), some (.int (nI l)), some (.int bz), some (.int 0)]) (st' := [.int vL]) (h' := (shT, fi2, fl2, fr2)) rfl ?_
    refine gp_done (g_ret rfl) ?_
    rfl
  · refine ⟨h2, ?_, r2⟩
    clear hr r1 r2 x1 x1w F1 F2 hP
    have isw := isi 1 (by decide)
    clear isi
    obtain ⟨S2, fi2, fl2, fr2⟩ := h2
    have s2 : S2 = shT := I2.1
    subst s2
    have w1 : fi2 70 36 = vL := w1
    have w2 : fi2 70 37 = vR := w2
    have w3 : fi2 70 38 = vD := w3
    obtain ⟨S1, fi1, fl1, fr1⟩ := h1
    have s1 : S1 = shT := I1.1
    subst s1
    have q27 : fr1 70 27 = some 77 := q27
    have bb : fi1 77 0 = u := bb
    refine Ev.of (es := cd_206) (ml := 4) (lv := [some (.ref 70), some (.int (nI l)), some (.int bz), some (.int 1)]) rfl rfl rfl ?_
    obtain ⟨S, fi, fl, fr⟩ := h
    have hS : S = shT := hI.1
    subst hS
    refine go_of ?_
    refine gp_n 1 (j' := 1) (lv' := [some (.ref 70), some (.int (nI l)), some (.int bz), some (.int 1)]) (st' := [.ref 70]) (h' := (shT, fi, fl, fr)) rfl ?_
    refine gp_of (fun _ k9 => g_call (y := 172) (as := [.ref 70]) (st' := []) rfl rfl (t1) k9) ?_
    refine gp_of (fun _ k9 => g_iff rfl (show ¬ ((1 : Int32) = (0 : Int32)) from by decide) k9) ?_
    refine gp_n 4 (j' := 7) (lv' := [some (.ref 70), some (.int (nI l)), some (.int bz), some (.int 1)]) (st' := [.long 8, .long 1, .long ((nI l).toInt64)]) (h' := (shT, fi, fl, fr)) rfl ?_
    refine gp_of (fun _ k9 => g_call (y := 148) (as := [.long ((nI l).toInt64), .long 1, .long 8]) (st' := []) rfl rfl (isl) k9) ?_
    refine gp_of (fun _ k9 => g_iff rfl (show ¬ ((1 : Int32) = (0 : Int32)) from by decide) k9) ?_
    refine gp_n 4 (j' := 13) (lv' := [some (.ref 70), some (.int (nI l)), some (.int bz), some (.int 1)]) (st' := [.long 3, .long 0, .long 1]) (h' := (shT, fi, fl, fr)) rfl ?_
    refine gp_of (fun _ k9 => g_call (y := 148) (as := [.long 1, .long 0, .long 3]) (st' := []) rfl rfl (isw) k9) ?_
    refine gp_of (fun _ k9 => g_ift rfl (show ¬ (1 : Int32) = (0 : Int32) from by decide) k9) ?_
    refine gp_n 2 (j' := 19) (lv' := [some (.ref 70), some (.int (nI l)), some (.int bz), some (.int 1)]) (st' := [.int (nI l), .ref 70]) (h' := (shT, fi, fl, fr)) rfl ?_
    refine gp_of (fun _ k9 => g_callv (y := 191) (as := [.ref 70, .int (nI l)]) (st' := []) rfl rfl (e1) k9) ?_
    refine gp_n 2 (j' := 22) (lv' := [some (.ref 70), some (.int (nI l)), some (.int bz), some (.int 1)]) (st' := [.int 3, .int 1]) (h' := (shT, fi1, fl1, fr1)) rfl ?_
    refine gp_of (fun _ k9 => g_ict rfl (show ¬ (1 : Int32) = (3 : Int32) from by decide) k9) ?_
    refine gp_n 3 (j' := 31) (lv' := [some (.ref 70), some (.int (nI l)), some (.int bz), some (.int 1)]) (st' := [.int bz, .int (nI l), .ref 70]) (h' := (shT, fi1, fl1, fr1)) rfl ?_
    refine gp_of (fun _ k9 => g_callv (y := 207) (as := [.ref 70, .int (nI l), .int bz]) (st' := []) rfl rfl (e2) k9) ?_
    refine gp_n 1 (j' := 33) (lv' := [some (.ref 70), some (.int (nI l)), some (.int bz), some (.int 1)]) (st' := [.int 1]) (h' := (shT, fi2, fl2, fr2)) rfl ?_
    refine gp_of (fun _ k9 => g_ift rfl (show ¬ (1 : Int32) = (0 : Int32) from by decide) k9) ?_
    refine gp_n 2 (j' := 39) (lv' := [some (.ref 70), some (.int (nI l)), some (.int bz), some (.int 1)]) (st' := [.int 1, .int 1]) (h' := (shT, fi2, fl2, fr2)) rfl ?_
    refine gp_of (fun _ k9 => g_icf rfl (show ¬ (¬ (1 : Int32) = (1 : Int32)) from by decide) k9) ?_
    refine gp_n 1 (j' := 41) (lv' := [some (.ref 70), some (.int (nI l)), some (.int bz), some (.int 1)]) (st' := [.ref 70]) (h' := (shT, fi2, fl2, fr2)) rfl ?_
    refine gp_of (fun _ k9 => g_getI (x := vR) rfl (Or.inl rfl) rfl (by decide) (w2) k9) ?_
    refine gp_n 1 (j' := 45) (lv' := [some (.ref 70), some (.int (nI l)), some (.int bz), some (.int 1)]) (st' := [.int vR]) (h' := (shT, fi2, fl2, fr2)) rfl ?_
    refine gp_done (g_ret rfl) ?_
    rfl
  · refine ⟨h2, ?_, r2⟩
    clear hr r1 r2 x1 x1w F1 F2 hP
    have isw := isi 2 (by decide)
    clear isi
    obtain ⟨S2, fi2, fl2, fr2⟩ := h2
    have s2 : S2 = shT := I2.1
    subst s2
    have w1 : fi2 70 36 = vL := w1
    have w2 : fi2 70 37 = vR := w2
    have w3 : fi2 70 38 = vD := w3
    obtain ⟨S1, fi1, fl1, fr1⟩ := h1
    have s1 : S1 = shT := I1.1
    subst s1
    have q27 : fr1 70 27 = some 77 := q27
    have bb : fi1 77 0 = u := bb
    refine Ev.of (es := cd_206) (ml := 4) (lv := [some (.ref 70), some (.int (nI l)), some (.int bz), some (.int 2)]) rfl rfl rfl ?_
    obtain ⟨S, fi, fl, fr⟩ := h
    have hS : S = shT := hI.1
    subst hS
    refine go_of ?_
    refine gp_n 1 (j' := 1) (lv' := [some (.ref 70), some (.int (nI l)), some (.int bz), some (.int 2)]) (st' := [.ref 70]) (h' := (shT, fi, fl, fr)) rfl ?_
    refine gp_of (fun _ k9 => g_call (y := 172) (as := [.ref 70]) (st' := []) rfl rfl (t1) k9) ?_
    refine gp_of (fun _ k9 => g_iff rfl (show ¬ ((1 : Int32) = (0 : Int32)) from by decide) k9) ?_
    refine gp_n 4 (j' := 7) (lv' := [some (.ref 70), some (.int (nI l)), some (.int bz), some (.int 2)]) (st' := [.long 8, .long 1, .long ((nI l).toInt64)]) (h' := (shT, fi, fl, fr)) rfl ?_
    refine gp_of (fun _ k9 => g_call (y := 148) (as := [.long ((nI l).toInt64), .long 1, .long 8]) (st' := []) rfl rfl (isl) k9) ?_
    refine gp_of (fun _ k9 => g_iff rfl (show ¬ ((1 : Int32) = (0 : Int32)) from by decide) k9) ?_
    refine gp_n 4 (j' := 13) (lv' := [some (.ref 70), some (.int (nI l)), some (.int bz), some (.int 2)]) (st' := [.long 3, .long 0, .long 2]) (h' := (shT, fi, fl, fr)) rfl ?_
    refine gp_of (fun _ k9 => g_call (y := 148) (as := [.long 2, .long 0, .long 3]) (st' := []) rfl rfl (isw) k9) ?_
    refine gp_of (fun _ k9 => g_ift rfl (show ¬ (1 : Int32) = (0 : Int32) from by decide) k9) ?_
    refine gp_n 2 (j' := 19) (lv' := [some (.ref 70), some (.int (nI l)), some (.int bz), some (.int 2)]) (st' := [.int (nI l), .ref 70]) (h' := (shT, fi, fl, fr)) rfl ?_
    refine gp_of (fun _ k9 => g_callv (y := 191) (as := [.ref 70, .int (nI l)]) (st' := []) rfl rfl (e1) k9) ?_
    refine gp_n 2 (j' := 22) (lv' := [some (.ref 70), some (.int (nI l)), some (.int bz), some (.int 2)]) (st' := [.int 3, .int 2]) (h' := (shT, fi1, fl1, fr1)) rfl ?_
    refine gp_of (fun _ k9 => g_ict rfl (show ¬ (2 : Int32) = (3 : Int32) from by decide) k9) ?_
    refine gp_n 3 (j' := 31) (lv' := [some (.ref 70), some (.int (nI l)), some (.int bz), some (.int 2)]) (st' := [.int bz, .int (nI l), .ref 70]) (h' := (shT, fi1, fl1, fr1)) rfl ?_
    refine gp_of (fun _ k9 => g_callv (y := 207) (as := [.ref 70, .int (nI l), .int bz]) (st' := []) rfl rfl (e2) k9) ?_
    refine gp_n 1 (j' := 33) (lv' := [some (.ref 70), some (.int (nI l)), some (.int bz), some (.int 2)]) (st' := [.int 2]) (h' := (shT, fi2, fl2, fr2)) rfl ?_
    refine gp_of (fun _ k9 => g_ift rfl (show ¬ (2 : Int32) = (0 : Int32) from by decide) k9) ?_
    refine gp_n 2 (j' := 39) (lv' := [some (.ref 70), some (.int (nI l)), some (.int bz), some (.int 2)]) (st' := [.int 1, .int 2]) (h' := (shT, fi2, fl2, fr2)) rfl ?_
    refine gp_of (fun _ k9 => g_ict rfl (show ¬ (2 : Int32) = (1 : Int32) from by decide) k9) ?_
    refine gp_n 1 (j' := 44) (lv' := [some (.ref 70), some (.int (nI l)), some (.int bz), some (.int 2)]) (st' := [.ref 70]) (h' := (shT, fi2, fl2, fr2)) rfl ?_
    refine gp_of (fun _ k9 => g_getI (x := vD) rfl (Or.inl rfl) rfl (by decide) (w3) k9) ?_
    refine gp_done (g_ret rfl) ?_
    rfl
  · refine ⟨h1, ?_, r1⟩
    clear hr r1 r2 x1 x1w F1 F2 hP
    have isw := isi 3 (by decide)
    clear isi
    clear e2 w1 w2 w3 I2
    obtain ⟨S1, fi1, fl1, fr1⟩ := h1
    have s1 : S1 = shT := I1.1
    subst s1
    have q27 : fr1 70 27 = some 77 := q27
    have bb : fi1 77 0 = u := bb
    refine Ev.of (es := cd_206) (ml := 4) (lv := [some (.ref 70), some (.int (nI l)), some (.int bz), some (.int 3)]) rfl rfl rfl ?_
    obtain ⟨S, fi, fl, fr⟩ := h
    have hS : S = shT := hI.1
    subst hS
    refine go_of ?_
    refine gp_n 1 (j' := 1) (lv' := [some (.ref 70), some (.int (nI l)), some (.int bz), some (.int 3)]) (st' := [.ref 70]) (h' := (shT, fi, fl, fr)) rfl ?_
    refine gp_of (fun _ k9 => g_call (y := 172) (as := [.ref 70]) (st' := []) rfl rfl (t1) k9) ?_
    refine gp_of (fun _ k9 => g_iff rfl (show ¬ ((1 : Int32) = (0 : Int32)) from by decide) k9) ?_
    refine gp_n 4 (j' := 7) (lv' := [some (.ref 70), some (.int (nI l)), some (.int bz), some (.int 3)]) (st' := [.long 8, .long 1, .long ((nI l).toInt64)]) (h' := (shT, fi, fl, fr)) rfl ?_
    refine gp_of (fun _ k9 => g_call (y := 148) (as := [.long ((nI l).toInt64), .long 1, .long 8]) (st' := []) rfl rfl (isl) k9) ?_
    refine gp_of (fun _ k9 => g_iff rfl (show ¬ ((1 : Int32) = (0 : Int32)) from by decide) k9) ?_
    refine gp_n 4 (j' := 13) (lv' := [some (.ref 70), some (.int (nI l)), some (.int bz), some (.int 3)]) (st' := [.long 3, .long 0, .long 3]) (h' := (shT, fi, fl, fr)) rfl ?_
    refine gp_of (fun _ k9 => g_call (y := 148) (as := [.long 3, .long 0, .long 3]) (st' := []) rfl rfl (isw) k9) ?_
    refine gp_of (fun _ k9 => g_ift rfl (show ¬ (1 : Int32) = (0 : Int32) from by decide) k9) ?_
    refine gp_n 2 (j' := 19) (lv' := [some (.ref 70), some (.int (nI l)), some (.int bz), some (.int 3)]) (st' := [.int (nI l), .ref 70]) (h' := (shT, fi, fl, fr)) rfl ?_
    refine gp_of (fun _ k9 => g_callv (y := 191) (as := [.ref 70, .int (nI l)]) (st' := []) rfl rfl (e1) k9) ?_
    refine gp_n 2 (j' := 22) (lv' := [some (.ref 70), some (.int (nI l)), some (.int bz), some (.int 3)]) (st' := [.int 3, .int 3]) (h' := (shT, fi1, fl1, fr1)) rfl ?_
    refine gp_of (fun _ k9 => g_icf rfl (show ¬ (¬ (3 : Int32) = (3 : Int32)) from by decide) k9) ?_
    refine gp_n 1 (j' := 24) (lv' := [some (.ref 70), some (.int (nI l)), some (.int bz), some (.int 3)]) (st' := [.ref 70]) (h' := (shT, fi1, fl1, fr1)) rfl ?_
    refine gp_of (fun _ k9 => g_getR (q' := 77) rfl rfl (by decide) q27 k9) ?_
    refine gp_n 1 (j' := 26) (lv' := [some (.ref 70), some (.int (nI l)), some (.int bz), some (.int 3)]) (st' := [.int 0, .ref 77]) (h' := (shT, fi1, fl1, fr1)) rfl ?_
    refine gp_of (fun _ k9 => g_iald (k := 0) (x := u) rfl rfl (rfl) (by decide) (by decide) (bb) k9) ?_
    refine gp_done (g_ret rfl) ?_
    rfl
theorem x_18 (x : Int32) (h1 : 1 ≤ x) (h8 : x ≤ 8) : ∃ l, 1 ≤ l ∧ l ≤ 8 ∧ x = nI l := by
  have a := Int32.le_iff_toInt_le.mp h1
  have b := Int32.le_iff_toInt_le.mp h8
  have e1 : (1 : Int32).toInt = 1 := rfl
  have e8 : (8 : Int32).toInt = 8 := rfl
  refine ⟨x.toInt.toNat, by omega, by omega, ?_⟩
  apply Int32.toInt_inj.mp
  rw [nI_toInt (by omega)]
  omega
theorem p4_work {h : PmH} {a : AB} (x0 x1 x2 : Int32) (hz : x1 = 0 ∨ x1 = 1) (hr : REL3 h a) : PI3 112 206 [.int x0, .int x1, .int x2] h (fun x y => x = y) := by
  have hI := hr.1.1.1
  by_cases ok : (0 < (a_v a).1 1 ∧ (1 ≤ x0 ∧ x0 ≤ 8) ∧ (0 ≤ x2 ∧ x2 ≤ 3))
  · obtain ⟨h0, ⟨hl1, hl8⟩, hw2⟩ := ok
    obtain ⟨l, l1, l8, rfl⟩ := x_18 x0 hl1 hl8
    rcases x_03n x2 with hx | ⟨w, hw, rfl⟩
    · exact absurd hw2 hx
    obtain ⟨b, rfl⟩ : ∃ b, x1 = b01 b := by
      rcases hz with rfl | rfl
      · exact ⟨false, rfl⟩
      · exact ⟨true, rfl⟩
    obtain ⟨m, k, c, -, vk, -⟩ := rd_get hr h0
    obtain ⟨h1, e1, ⟨A, hA, a1⟩, q4, q5, q6, I1, F1⟩ := wr_C b hr vk l1 l8
    have r1 : REL3 h1 a := ⟨q_fr (by decide) (by decide) I1 F1 hr.1, A, hA, a1.1, a1.2.1⟩
    obtain ⟨h2, e2, r2⟩ := wk_M (w := w) b r1 h0 vk l1 l8 hw
    exact ⟨_, _, h1, h2, a, wk_C hr h0 l1 l8 e1 ⟨A, hA, a1⟩ q4 q5 q6 I1 hw, e2, r2, I1, rfl⟩
  · exact ⟨_, _, h, h, a, wk_C0 hr ok, wk_M0 hr ok, hr, hI, rfl⟩
