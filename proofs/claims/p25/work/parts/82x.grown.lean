def gj (ho : Nat → Bool) : Nat → Nat → Nat
  | i, 0 => i
  | i, n + 1 => if ho i = true then i else gj ho (i + 1) n
theorem gj_le {ho : Nat → Bool} : ∀ n i, gj ho i n ≤ i + n
  | 0, _ => Nat.le_refl _
  | n + 1, i => by
    rw [gj]
    split
    · omega
    · have := gj_le (ho := ho) n (i + 1)
      omega
def hoP2 (a : AB) (m k c i : Nat) : Bool := hoN (rdD a m k c (2 ^ i)) (rdX a m (2 ^ i)).1
theorem p2_8 : ∀ i, i < 4 → 1 ≤ 2 ^ i ∧ 2 ^ i ≤ 8 ∧ nI (2 ^ i) * 2 = nI (2 ^ (i + 1)) := by decide
theorem nx_8 : ∀ i, i < 3 → ¬ (8 : Int32) < nI (2 ^ (i + 1)) := by decide
theorem gr_go {a : AB} {m k c : Nat} {w : Int32} (vk : VK (a_v a) m k c) : ∀ (n i : Nat) (h : PmH), i + n = 3 → REL3 h a → roI (a_v a).2.1 m k c ((a_v a).1 4) (a_v a).2.2 (2 ^ i) h → ∃ h', REL3 h' a ∧ roI (a_v a).2.1 m k c ((a_v a).1 4) (a_v a).2.2 (2 ^ gj (hoP2 a m k c) i n) h' ∧ fram (in_w iN_113) h h' ∧ ∀ r, (∀ l3, Go pmT none cd_113 51 [some (.ref 0), some (.int w), some (.int (nI (2 ^ gj (hoP2 a m k c) i n))), l3] [] h' r) → Go pmT none cd_113 26 [some (.ref 0), some (.int w), some (.int (nI (2 ^ i))), some (.int (nI (2 ^ (i + 1))))] [] h r := by
  intro n
  induction n with
  | zero =>
    intro i h hi hr hx
    have hi : i = 3 := by omega
    subst hi
    refine ⟨h, hr, hx, fram.rf _ _, fun r kk => ?_⟩
    have kk : ∀ l3, Go pmT none cd_113 51 [some (.ref 0), some (.int w), some (.int (nI (2 ^ 3))), l3] [] h r := kk
    have lt : (8 : Int32) < nI (2 ^ (3 + 1)) := by decide
    have hI := hr.1.1.1
    generalize nI (2 ^ 3) = x at *
    generalize nI (2 ^ (3 + 1)) = y at *
    clear hr hx
    obtain ⟨S, fi, fl, fr⟩ := h
    have hS : S = shT := hI.1
    subst hS
    refine go_of ?_
    refine gp_n 2 (j' := 28) (lv' := [some (.ref 0), some (.int w), some (.int x), some (.int y)]) (st' := [.int 8, .int y]) (h' := (shT, fi, fl, fr)) rfl ?_
    refine gp_of (fun _ k9 => g_ict rfl (show (8 : Int32) < y from lt) k9) ?_
    exact gp_done (kk _) rfl
  | succ n ih =>
    intro i h hi hr hx
    have hI := hr.1.1.1
    have q0 : ph_r h 0 0 = some 1 := hi_r hI rfl rfl (by decide)
    have q8 : ph_r h 0 8 = some 13 := hi_r hI rfl rfl (by decide)
    have s8 : ph_r h 1 8 = some 2 := hi_r hI rfl rfl (by decide)
    have p2 := p2_8 i (by omega)
    have p3 := p2_8 (i + 1) (by omega)
    have lt := nx_8 i (by omega)
    have c8 : ph_i h 13 8 = b01 (hoP2 a m k c i) := by
      obtain ⟨A, hA, a1, a2, a3, a4, a5⟩ := hx
      exact a5
    rw [gj]
    cases hh : hoP2 a m k c i
    · rw [hh] at c8
      rw [if_neg (by decide)]
      obtain ⟨h1, e1, x1, I1, F1⟩ := run_C hr vk p3.1 p3.2.1
      have r1 := rd_pair hr vk p3.1 p3.2.1 x1 I1 F1
      obtain ⟨h2, r2, x2, F2, g⟩ := ih (i + 1) h1 (by omega) r1 x1
      refine ⟨h2, r2, x2, fram.tr F1 F2, fun r kk => ?_⟩
      have g7 := g r kk
      have pm := p3.2.2
      clear g ih r1 r2 x1 x2 F1 F2 hr hx kk p2 p3
      rw [← pm] at g7
      generalize nI (2 ^ (i + 1)) = y at *
      generalize nI (2 ^ i) = x at *
      have c8 : ph_i h 13 8 = 0 := c8
      obtain ⟨S1, fi1, fl1, fr1⟩ := h1
      have s1 : S1 = shT := I1.1
      subst s1
      obtain ⟨S, fi, fl, fr⟩ := h
      have hS : S = shT := hI.1
      subst hS
      have q0 : fr 0 0 = some 1 := q0
      have q8 : fr 0 8 = some 13 := q8
      have s8 : fr 1 8 = some 2 := s8
      have c8 : fi 13 8 = 0 := c8
      refine go_of ?_
      refine gp_n 2 (j' := 28) (lv' := [some (.ref 0), some (.int w), some (.int x), some (.int y)]) (st' := [.int 8, .int y]) (h' := (shT, fi, fl, fr)) rfl ?_
      refine gp_of (fun _ k9 => g_icf rfl (show ¬ ((8 : Int32) < y) from lt) k9) ?_
      refine gp_n 1 (j' := 30) (lv' := [some (.ref 0), some (.int w), some (.int x), some (.int y)]) (st' := [.ref 0]) (h' := (shT, fi, fl, fr)) rfl ?_
      refine gp_of (fun _ k9 => g_getR (q' := 13) rfl rfl (by decide) q8 k9) ?_
      refine gp_of (fun _ k9 => g_getI (x := 0) rfl (Or.inr rfl) rfl (by decide) (c8) k9) ?_
      refine gp_of (fun _ k9 => g_iff rfl (show ¬ (¬ (0 : Int32) = (0 : Int32)) from by decide) k9) ?_
      refine gp_n 3 (j' := 36) (lv' := [some (.ref 0), some (.int w), some (.int y), some (.int y)]) (st' := [.ref 0]) (h' := (shT, fi, fl, fr)) rfl ?_
      refine gp_of (fun _ k9 => g_getR (q' := 13) rfl rfl (by decide) q8 k9) ?_
      refine gp_n 1 (j' := 38) (lv' := [some (.ref 0), some (.int w), some (.int y), some (.int y)]) (st' := [.ref 0, .ref 13]) (h' := (shT, fi, fl, fr)) rfl ?_
      refine gp_of (fun _ k9 => g_getR (q' := 1) rfl rfl (by decide) q0 k9) ?_
      refine gp_n 1 (j' := 40) (lv' := [some (.ref 0), some (.int w), some (.int y), some (.int y)]) (st' := [.ref 0, .ref 1, .ref 13]) (h' := (shT, fi, fl, fr)) rfl ?_
      refine gp_of (fun _ k9 => g_getR (q' := 1) rfl rfl (by decide) q0 k9) ?_
      refine gp_of (fun _ k9 => g_getR (q' := 2) rfl rfl (by decide) s8 k9) ?_
      refine gp_n 3 (j' := 45) (lv' := [some (.ref 0), some (.int w), some (.int y), some (.int y)]) (st' := [.int (-1), .int 0, .int y, .ref 2, .ref 1, .ref 13]) (h' := (shT, fi, fl, fr)) rfl ?_
      refine gp_of (fun _ k9 => g_callv (y := 82) (as := [.ref 13, .ref 1, .ref 2, .int y, .int 0, .int (-1)]) (st' := []) rfl rfl (e1) k9) ?_
      refine gp_n 5 (j' := 26) (lv' := [some (.ref 0), some (.int w), some (.int y), some (.int (y * 2))]) (st' := []) (h' := (shT, fi1, fl1, fr1)) rfl ?_
      exact gp_done g7 rfl
    · rw [hh] at c8
      rw [if_pos rfl]
      refine ⟨h, hr, hx, fram.rf _ _, fun r kk => ?_⟩
      have c8 : ph_i h 13 8 = 1 := c8
      clear hr hx ih
      generalize nI (2 ^ (i + 1)) = y at *
      generalize nI (2 ^ i) = x at *
      obtain ⟨S, fi, fl, fr⟩ := h
      have hS : S = shT := hI.1
      subst hS
      have q8 : fr 0 8 = some 13 := q8
      have c8 : fi 13 8 = 1 := c8
      refine go_of ?_
      refine gp_n 2 (j' := 28) (lv' := [some (.ref 0), some (.int w), some (.int x), some (.int y)]) (st' := [.int 8, .int y]) (h' := (shT, fi, fl, fr)) rfl ?_
      refine gp_of (fun _ k9 => g_icf rfl (show ¬ ((8 : Int32) < y) from lt) k9) ?_
      refine gp_n 1 (j' := 30) (lv' := [some (.ref 0), some (.int w), some (.int x), some (.int y)]) (st' := [.ref 0]) (h' := (shT, fi, fl, fr)) rfl ?_
      refine gp_of (fun _ k9 => g_getR (q' := 13) rfl rfl (by decide) q8 k9) ?_
      refine gp_of (fun _ k9 => g_getI (x := 1) rfl (Or.inr rfl) rfl (by decide) (c8) k9) ?_
      refine gp_of (fun _ k9 => g_ift rfl (show ¬ (1 : Int32) = (0 : Int32) from by decide) k9) ?_
      exact gp_done (kk _) rfl
/-- what grown answers -/
def grV (a : AB) (m k c : Nat) (w : Nat) : Int32 := if w = 0 then nI (2 ^ gj (hoP2 a m k c) 0 3) else if w = 1 then b01 (hoP2 a m k c (gj (hoP2 a m k c) 0 3)) else (rdX a m (2 ^ gj (hoP2 a m k c) 0 3)).2.2 (chN (rdD a m k c (2 ^ gj (hoP2 a m k c) 0 3)) (rdX a m (2 ^ gj (hoP2 a m k c) 0 3)).1)
theorem gr_C {h : PmH} {a : AB} {m k c w : Nat} (hr : REL3 h a) (h0 : 0 < (a_v a).1 1) (vk : VK (a_v a) m k c) (hw : w < 3) : ∃ h', Ev pmT 113 [.ref 0, .int (nI w)] h (some (.int (grV a m k c w))) h' ∧ REL3 h' a := by
  have hI := hr.1.1.1
  have t1 := told1 hI (hr.1.1.2.1.2.2.2.2.1.1 1 (by decide)) h0
  have k0 : ph_r h 0 0 = some 1 := hi_r hI rfl rfl (by decide)
  have k8 : ph_r h 0 8 = some 13 := hi_r hI rfl rfl (by decide)
  have s8 : ph_r h 1 8 = some 2 := hi_r hI rfl rfl (by decide)
  obtain ⟨h1, e1, x1, I1, F1⟩ := run_C (most := 1) hr vk (by decide) (by decide)
  have r1 := rd_pair hr vk (by decide) (by decide) x1 I1 F1
  obtain ⟨h2, r2, x2, F2, g⟩ := gr_go (w := nI w) vk 3 0 h1 (by decide) r1 x1
  refine ⟨h2, ?_, r2⟩
  have I2 := r2.1.1.1
  have jl := gj_le (ho := hoP2 a m k c) 3 0
  have pj := p2_8 (gj (hoP2 a m k c) 0 3) (by omega)
  have e1 : Ev pmT 82 [.ref 13, .ref 1, .ref 2, .int 1, .int 0, .int (-1)] h none h1 := e1
  have q8 : ph_r h2 0 8 = some 13 := hi_r I2 rfl rfl (by decide)
  unfold grV
  generalize gj (hoP2 a m k c) 0 3 = j at *
  have hP := rd_P (K := (a_v a).2.1) (m := m) (S := (a_v a).2.2) pj.1 (2 ^ m)
  obtain ⟨A, hA, a1, a2, a3, a4, a5⟩ := x2
  have cl := ch_lt (D := rdD a m k c (2 ^ j)) (P := (rdX a m (2 ^ j)).1) hP.1
  have cb : (rdX a m (2 ^ j)).1 ≤ 8 := Nat.le_trans hP.2 pj.2.1
  have bb := (a1.2.2.2 _ cl).2
  have kB : ∀ A, (A = 14 ∨ A = 18) → ph_r h2 A 2 = some (A + 2) := fun A hA => by
    rcases hA with rfl | rfl
    · exact hi_r I2 rfl rfl (by decide)
    · exact hi_r I2 rfl rfl (by decide)
  have kB := kB A hA
  have ka := a1.1
  have a4 : ph_i h2 13 7 = nI (chN (rdD a m k c (2 ^ j)) (rdX a m (2 ^ j)).1) := a4
  have a5 : ph_i h2 13 8 = b01 (hoP2 a m k c j) := a5
  have bb : ph_i h2 (A + 2) (chN (rdD a m k c (2 ^ j)) (rdX a m (2 ^ j)).1) = (rdX a m (2 ^ j)).2.2 (chN (rdD a m k c (2 ^ j)) (rdX a m (2 ^ j)).1) := bb
  generalize (rdX a m (2 ^ j)).2.2 (chN (rdD a m k c (2 ^ j)) (rdX a m (2 ^ j)).1) = u at *
  generalize chN (rdD a m k c (2 ^ j)) (rdX a m (2 ^ j)).1 = q at *
  generalize hoP2 a m k c j = t at *
  generalize (rdX a m (2 ^ j)).1 = P at *
  clear a1 a2 a3 hr r1 r2 F1 F2 x1
  generalize nI (2 ^ j) = v at *
  obtain ⟨S2, fi2, fl2, fr2⟩ := h2
  have s2 : S2 = shT := I2.1
  subst s2
  have q8 : fr2 0 8 = some 13 := q8
  have kB : fr2 A 2 = some (A + 2) := kB
  have ka : fr2 13 0 = some A := ka
  have a4 : fi2 13 7 = nI q := a4
  have a5 : fi2 13 8 = b01 t := a5
  have bb : fi2 (A + 2) q = u := bb
  obtain ⟨S1, fi1, fl1, fr1⟩ := h1
  have s1 : S1 = shT := I1.1
  subst s1
  obtain ⟨S, fi, fl, fr⟩ := h
  have hS : S = shT := hI.1
  subst hS
  have k0 : fr 0 0 = some 1 := k0
  have k8 : fr 0 8 = some 13 := k8
  have s8 : fr 1 8 = some 2 := s8
  have w3 : w = 0 ∨ w = 1 ∨ w = 2 := by omega
  rcases hA with rfl | rfl
  · rcases w3 with rfl | rfl | rfl
    ·
      have g := g (some (.int (v)), (shT, fi2, fl2, fr2)) (fun l3 => by
        refine go_of ?_
        refine gp_n 3 (j' := 54) (lv' := [some (.ref 0), some (.int 0), some (.int v), l3]) (st' := [.int v]) (h' := (shT, fi2, fl2, fr2)) rfl ?_
        refine gp_done (g_ret rfl) ?_
        rfl)
      refine Ev.of (es := cd_113) (ml := 4) (lv := [some (.ref 0), some (.int 0), none, none]) rfl rfl rfl ?_
      refine go_of ?_
      refine gp_n 1 (j' := 1) (lv' := [some (.ref 0), some (.int 0), none, none]) (st' := [.ref 0]) (h' := (shT, fi, fl, fr)) rfl ?_
      refine gp_of (fun _ k9 => g_getR (q' := 1) rfl rfl (by decide) k0 k9) ?_
      refine gp_of (fun _ k9 => g_call (y := 57) (as := [.ref 1]) (st' := []) rfl rfl (t1) k9) ?_
      refine gp_of (fun _ k9 => g_iff rfl (show ¬ ((1 : Int32) = (0 : Int32)) from by decide) k9) ?_
      refine gp_n 1 (j' := 5) (lv' := [some (.ref 0), some (.int 0), none, none]) (st' := [.int 0]) (h' := (shT, fi, fl, fr)) rfl ?_
      refine gp_of (fun _ k9 => g_iff rfl (show ¬ ((0 : Int32) < (0 : Int32)) from by decide) k9) ?_
      refine gp_n 2 (j' := 8) (lv' := [some (.ref 0), some (.int 0), none, none]) (st' := [.int 2, .int 0]) (h' := (shT, fi, fl, fr)) rfl ?_
      refine gp_of (fun _ k9 => g_ict rfl (show (0 : Int32) ≤ (2 : Int32) from by decide) k9) ?_
      refine gp_n 3 (j' := 14) (lv' := [some (.ref 0), some (.int 0), some (.int 1), none]) (st' := [.ref 0]) (h' := (shT, fi, fl, fr)) rfl ?_
      refine gp_of (fun _ k9 => g_getR (q' := 13) rfl rfl (by decide) k8 k9) ?_
      refine gp_n 1 (j' := 16) (lv' := [some (.ref 0), some (.int 0), some (.int 1), none]) (st' := [.ref 0, .ref 13]) (h' := (shT, fi, fl, fr)) rfl ?_
      refine gp_of (fun _ k9 => g_getR (q' := 1) rfl rfl (by decide) k0 k9) ?_
      refine gp_n 1 (j' := 18) (lv' := [some (.ref 0), some (.int 0), some (.int 1), none]) (st' := [.ref 0, .ref 1, .ref 13]) (h' := (shT, fi, fl, fr)) rfl ?_
      refine gp_of (fun _ k9 => g_getR (q' := 1) rfl rfl (by decide) k0 k9) ?_
      refine gp_of (fun _ k9 => g_getR (q' := 2) rfl rfl (by decide) s8 k9) ?_
      refine gp_n 3 (j' := 23) (lv' := [some (.ref 0), some (.int 0), some (.int 1), none]) (st' := [.int (-1), .int 0, .int 1, .ref 2, .ref 1, .ref 13]) (h' := (shT, fi, fl, fr)) rfl ?_
      refine gp_of (fun _ k9 => g_callv (y := 82) (as := [.ref 13, .ref 1, .ref 2, .int 1, .int 0, .int (-1)]) (st' := []) rfl rfl (e1) k9) ?_
      refine gp_n 2 (j' := 26) (lv' := [some (.ref 0), some (.int 0), some (.int 1), some (.int 2)]) (st' := []) (h' := (shT, fi1, fl1, fr1)) rfl ?_
      exact gp_done g rfl
    · cases t
      · have a5 : fi2 13 8 = 0 := a5
        have g := g (some (.int (0)), (shT, fi2, fl2, fr2)) (fun l3 => by
          refine go_of ?_
          refine gp_n 3 (j' := 56) (lv' := [some (.ref 0), some (.int 1), some (.int v), l3]) (st' := [.ref 0]) (h' := (shT, fi2, fl2, fr2)) rfl ?_
          refine gp_of (fun _ k9 => g_getR (q' := 13) rfl rfl (by decide) q8 k9) ?_
          refine gp_of (fun _ k9 => g_getI (x := 0) rfl (Or.inr rfl) rfl (by decide) (a5) k9) ?_
          refine gp_of (fun _ k9 => g_ift rfl (show (0 : Int32) = (0 : Int32) from by decide) k9) ?_
          refine gp_n 1 (j' := 62) (lv' := [some (.ref 0), some (.int 1), some (.int v), l3]) (st' := [.int 0]) (h' := (shT, fi2, fl2, fr2)) rfl ?_
          refine gp_done (g_ret rfl) ?_
          rfl)
        refine Ev.of (es := cd_113) (ml := 4) (lv := [some (.ref 0), some (.int 1), none, none]) rfl rfl rfl ?_
        refine go_of ?_
        refine gp_n 1 (j' := 1) (lv' := [some (.ref 0), some (.int 1), none, none]) (st' := [.ref 0]) (h' := (shT, fi, fl, fr)) rfl ?_
        refine gp_of (fun _ k9 => g_getR (q' := 1) rfl rfl (by decide) k0 k9) ?_
        refine gp_of (fun _ k9 => g_call (y := 57) (as := [.ref 1]) (st' := []) rfl rfl (t1) k9) ?_
        refine gp_of (fun _ k9 => g_iff rfl (show ¬ ((1 : Int32) = (0 : Int32)) from by decide) k9) ?_
        refine gp_n 1 (j' := 5) (lv' := [some (.ref 0), some (.int 1), none, none]) (st' := [.int 1]) (h' := (shT, fi, fl, fr)) rfl ?_
        refine gp_of (fun _ k9 => g_iff rfl (show ¬ ((1 : Int32) < (0 : Int32)) from by decide) k9) ?_
        refine gp_n 2 (j' := 8) (lv' := [some (.ref 0), some (.int 1), none, none]) (st' := [.int 2, .int 1]) (h' := (shT, fi, fl, fr)) rfl ?_
        refine gp_of (fun _ k9 => g_ict rfl (show (1 : Int32) ≤ (2 : Int32) from by decide) k9) ?_
        refine gp_n 3 (j' := 14) (lv' := [some (.ref 0), some (.int 1), some (.int 1), none]) (st' := [.ref 0]) (h' := (shT, fi, fl, fr)) rfl ?_
        refine gp_of (fun _ k9 => g_getR (q' := 13) rfl rfl (by decide) k8 k9) ?_
        refine gp_n 1 (j' := 16) (lv' := [some (.ref 0), some (.int 1), some (.int 1), none]) (st' := [.ref 0, .ref 13]) (h' := (shT, fi, fl, fr)) rfl ?_
        refine gp_of (fun _ k9 => g_getR (q' := 1) rfl rfl (by decide) k0 k9) ?_
        refine gp_n 1 (j' := 18) (lv' := [some (.ref 0), some (.int 1), some (.int 1), none]) (st' := [.ref 0, .ref 1, .ref 13]) (h' := (shT, fi, fl, fr)) rfl ?_
        refine gp_of (fun _ k9 => g_getR (q' := 1) rfl rfl (by decide) k0 k9) ?_
        refine gp_of (fun _ k9 => g_getR (q' := 2) rfl rfl (by decide) s8 k9) ?_
        refine gp_n 3 (j' := 23) (lv' := [some (.ref 0), some (.int 1), some (.int 1), none]) (st' := [.int (-1), .int 0, .int 1, .ref 2, .ref 1, .ref 13]) (h' := (shT, fi, fl, fr)) rfl ?_
        refine gp_of (fun _ k9 => g_callv (y := 82) (as := [.ref 13, .ref 1, .ref 2, .int 1, .int 0, .int (-1)]) (st' := []) rfl rfl (e1) k9) ?_
        refine gp_n 2 (j' := 26) (lv' := [some (.ref 0), some (.int 1), some (.int 1), some (.int 2)]) (st' := []) (h' := (shT, fi1, fl1, fr1)) rfl ?_
        exact gp_done g rfl
      · have a5 : fi2 13 8 = 1 := a5
        have g := g (some (.int (1)), (shT, fi2, fl2, fr2)) (fun l3 => by
          refine go_of ?_
          refine gp_n 3 (j' := 56) (lv' := [some (.ref 0), some (.int 1), some (.int v), l3]) (st' := [.ref 0]) (h' := (shT, fi2, fl2, fr2)) rfl ?_
          refine gp_of (fun _ k9 => g_getR (q' := 13) rfl rfl (by decide) q8 k9) ?_
          refine gp_of (fun _ k9 => g_getI (x := 1) rfl (Or.inr rfl) rfl (by decide) (a5) k9) ?_
          refine gp_of (fun _ k9 => g_iff rfl (show ¬ ((1 : Int32) = (0 : Int32)) from by decide) k9) ?_
          refine gp_n 2 (j' := 62) (lv' := [some (.ref 0), some (.int 1), some (.int v), l3]) (st' := [.int 1]) (h' := (shT, fi2, fl2, fr2)) rfl ?_
          refine gp_done (g_ret rfl) ?_
          rfl)
        refine Ev.of (es := cd_113) (ml := 4) (lv := [some (.ref 0), some (.int 1), none, none]) rfl rfl rfl ?_
        refine go_of ?_
        refine gp_n 1 (j' := 1) (lv' := [some (.ref 0), some (.int 1), none, none]) (st' := [.ref 0]) (h' := (shT, fi, fl, fr)) rfl ?_
        refine gp_of (fun _ k9 => g_getR (q' := 1) rfl rfl (by decide) k0 k9) ?_
        refine gp_of (fun _ k9 => g_call (y := 57) (as := [.ref 1]) (st' := []) rfl rfl (t1) k9) ?_
        refine gp_of (fun _ k9 => g_iff rfl (show ¬ ((1 : Int32) = (0 : Int32)) from by decide) k9) ?_
        refine gp_n 1 (j' := 5) (lv' := [some (.ref 0), some (.int 1), none, none]) (st' := [.int 1]) (h' := (shT, fi, fl, fr)) rfl ?_
        refine gp_of (fun _ k9 => g_iff rfl (show ¬ ((1 : Int32) < (0 : Int32)) from by decide) k9) ?_
        refine gp_n 2 (j' := 8) (lv' := [some (.ref 0), some (.int 1), none, none]) (st' := [.int 2, .int 1]) (h' := (shT, fi, fl, fr)) rfl ?_
        refine gp_of (fun _ k9 => g_ict rfl (show (1 : Int32) ≤ (2 : Int32) from by decide) k9) ?_
        refine gp_n 3 (j' := 14) (lv' := [some (.ref 0), some (.int 1), some (.int 1), none]) (st' := [.ref 0]) (h' := (shT, fi, fl, fr)) rfl ?_
        refine gp_of (fun _ k9 => g_getR (q' := 13) rfl rfl (by decide) k8 k9) ?_
        refine gp_n 1 (j' := 16) (lv' := [some (.ref 0), some (.int 1), some (.int 1), none]) (st' := [.ref 0, .ref 13]) (h' := (shT, fi, fl, fr)) rfl ?_
        refine gp_of (fun _ k9 => g_getR (q' := 1) rfl rfl (by decide) k0 k9) ?_
        refine gp_n 1 (j' := 18) (lv' := [some (.ref 0), some (.int 1), some (.int 1), none]) (st' := [.ref 0, .ref 1, .ref 13]) (h' := (shT, fi, fl, fr)) rfl ?_
        refine gp_of (fun _ k9 => g_getR (q' := 1) rfl rfl (by decide) k0 k9) ?_
        refine gp_of (fun _ k9 => g_getR (q' := 2) rfl rfl (by decide) s8 k9) ?_
        refine gp_n 3 (j' := 23) (lv' := [some (.ref 0), some (.int 1), some (.int 1), none]) (st' := [.int (-1), .int 0, .int 1, .ref 2, .ref 1, .ref 13]) (h' := (shT, fi, fl, fr)) rfl ?_
        refine gp_of (fun _ k9 => g_callv (y := 82) (as := [.ref 13, .ref 1, .ref 2, .int 1, .int 0, .int (-1)]) (st' := []) rfl rfl (e1) k9) ?_
        refine gp_n 2 (j' := 26) (lv' := [some (.ref 0), some (.int 1), some (.int 1), some (.int 2)]) (st' := []) (h' := (shT, fi1, fl1, fr1)) rfl ?_
        exact gp_done g rfl
    ·
      have g := g (some (.int (u)), (shT, fi2, fl2, fr2)) (fun l3 => by
        refine go_of ?_
        refine gp_n 3 (j' := 64) (lv' := [some (.ref 0), some (.int 2), some (.int v), l3]) (st' := [.ref 0]) (h' := (shT, fi2, fl2, fr2)) rfl ?_
        refine gp_of (fun _ k9 => g_getR (q' := 13) rfl rfl (by decide) q8 k9) ?_
        refine gp_of (fun _ k9 => g_getR (q' := 14) rfl rfl (by decide) ka k9) ?_
        refine gp_of (fun _ k9 => g_getR (q' := 16) rfl rfl (by decide) kB k9) ?_
        refine gp_n 1 (j' := 68) (lv' := [some (.ref 0), some (.int 2), some (.int v), l3]) (st' := [.ref 0, .ref 16]) (h' := (shT, fi2, fl2, fr2)) rfl ?_
        refine gp_of (fun _ k9 => g_getR (q' := 13) rfl rfl (by decide) q8 k9) ?_
        refine gp_of (fun _ k9 => g_getI (x := nI q) rfl (Or.inl rfl) rfl (by decide) (a4) k9) ?_
        refine gp_of (fun _ k9 => g_iald (k := q) (x := u) rfl rfl (rfl) (by omega) (by decide) (bb) k9) ?_
        refine gp_done (g_ret rfl) ?_
        rfl)
      refine Ev.of (es := cd_113) (ml := 4) (lv := [some (.ref 0), some (.int 2), none, none]) rfl rfl rfl ?_
      refine go_of ?_
      refine gp_n 1 (j' := 1) (lv' := [some (.ref 0), some (.int 2), none, none]) (st' := [.ref 0]) (h' := (shT, fi, fl, fr)) rfl ?_
      refine gp_of (fun _ k9 => g_getR (q' := 1) rfl rfl (by decide) k0 k9) ?_
      refine gp_of (fun _ k9 => g_call (y := 57) (as := [.ref 1]) (st' := []) rfl rfl (t1) k9) ?_
      refine gp_of (fun _ k9 => g_iff rfl (show ¬ ((1 : Int32) = (0 : Int32)) from by decide) k9) ?_
      refine gp_n 1 (j' := 5) (lv' := [some (.ref 0), some (.int 2), none, none]) (st' := [.int 2]) (h' := (shT, fi, fl, fr)) rfl ?_
      refine gp_of (fun _ k9 => g_iff rfl (show ¬ ((2 : Int32) < (0 : Int32)) from by decide) k9) ?_
      refine gp_n 2 (j' := 8) (lv' := [some (.ref 0), some (.int 2), none, none]) (st' := [.int 2, .int 2]) (h' := (shT, fi, fl, fr)) rfl ?_
      refine gp_of (fun _ k9 => g_ict rfl (show (2 : Int32) ≤ (2 : Int32) from by decide) k9) ?_
      refine gp_n 3 (j' := 14) (lv' := [some (.ref 0), some (.int 2), some (.int 1), none]) (st' := [.ref 0]) (h' := (shT, fi, fl, fr)) rfl ?_
      refine gp_of (fun _ k9 => g_getR (q' := 13) rfl rfl (by decide) k8 k9) ?_
      refine gp_n 1 (j' := 16) (lv' := [some (.ref 0), some (.int 2), some (.int 1), none]) (st' := [.ref 0, .ref 13]) (h' := (shT, fi, fl, fr)) rfl ?_
      refine gp_of (fun _ k9 => g_getR (q' := 1) rfl rfl (by decide) k0 k9) ?_
      refine gp_n 1 (j' := 18) (lv' := [some (.ref 0), some (.int 2), some (.int 1), none]) (st' := [.ref 0, .ref 1, .ref 13]) (h' := (shT, fi, fl, fr)) rfl ?_
      refine gp_of (fun _ k9 => g_getR (q' := 1) rfl rfl (by decide) k0 k9) ?_
      refine gp_of (fun _ k9 => g_getR (q' := 2) rfl rfl (by decide) s8 k9) ?_
      refine gp_n 3 (j' := 23) (lv' := [some (.ref 0), some (.int 2), some (.int 1), none]) (st' := [.int (-1), .int 0, .int 1, .ref 2, .ref 1, .ref 13]) (h' := (shT, fi, fl, fr)) rfl ?_
      refine gp_of (fun _ k9 => g_callv (y := 82) (as := [.ref 13, .ref 1, .ref 2, .int 1, .int 0, .int (-1)]) (st' := []) rfl rfl (e1) k9) ?_
      refine gp_n 2 (j' := 26) (lv' := [some (.ref 0), some (.int 2), some (.int 1), some (.int 2)]) (st' := []) (h' := (shT, fi1, fl1, fr1)) rfl ?_
      exact gp_done g rfl
  · rcases w3 with rfl | rfl | rfl
    ·
      have g := g (some (.int (v)), (shT, fi2, fl2, fr2)) (fun l3 => by
        refine go_of ?_
        refine gp_n 3 (j' := 54) (lv' := [some (.ref 0), some (.int 0), some (.int v), l3]) (st' := [.int v]) (h' := (shT, fi2, fl2, fr2)) rfl ?_
        refine gp_done (g_ret rfl) ?_
        rfl)
      refine Ev.of (es := cd_113) (ml := 4) (lv := [some (.ref 0), some (.int 0), none, none]) rfl rfl rfl ?_
      refine go_of ?_
      refine gp_n 1 (j' := 1) (lv' := [some (.ref 0), some (.int 0), none, none]) (st' := [.ref 0]) (h' := (shT, fi, fl, fr)) rfl ?_
      refine gp_of (fun _ k9 => g_getR (q' := 1) rfl rfl (by decide) k0 k9) ?_
      refine gp_of (fun _ k9 => g_call (y := 57) (as := [.ref 1]) (st' := []) rfl rfl (t1) k9) ?_
      refine gp_of (fun _ k9 => g_iff rfl (show ¬ ((1 : Int32) = (0 : Int32)) from by decide) k9) ?_
      refine gp_n 1 (j' := 5) (lv' := [some (.ref 0), some (.int 0), none, none]) (st' := [.int 0]) (h' := (shT, fi, fl, fr)) rfl ?_
      refine gp_of (fun _ k9 => g_iff rfl (show ¬ ((0 : Int32) < (0 : Int32)) from by decide) k9) ?_
      refine gp_n 2 (j' := 8) (lv' := [some (.ref 0), some (.int 0), none, none]) (st' := [.int 2, .int 0]) (h' := (shT, fi, fl, fr)) rfl ?_
      refine gp_of (fun _ k9 => g_ict rfl (show (0 : Int32) ≤ (2 : Int32) from by decide) k9) ?_
      refine gp_n 3 (j' := 14) (lv' := [some (.ref 0), some (.int 0), some (.int 1), none]) (st' := [.ref 0]) (h' := (shT, fi, fl, fr)) rfl ?_
      refine gp_of (fun _ k9 => g_getR (q' := 13) rfl rfl (by decide) k8 k9) ?_
      refine gp_n 1 (j' := 16) (lv' := [some (.ref 0), some (.int 0), some (.int 1), none]) (st' := [.ref 0, .ref 13]) (h' := (shT, fi, fl, fr)) rfl ?_
      refine gp_of (fun _ k9 => g_getR (q' := 1) rfl rfl (by decide) k0 k9) ?_
      refine gp_n 1 (j' := 18) (lv' := [some (.ref 0), some (.int 0), some (.int 1), none]) (st' := [.ref 0, .ref 1, .ref 13]) (h' := (shT, fi, fl, fr)) rfl ?_
      refine gp_of (fun _ k9 => g_getR (q' := 1) rfl rfl (by decide) k0 k9) ?_
      refine gp_of (fun _ k9 => g_getR (q' := 2) rfl rfl (by decide) s8 k9) ?_
      refine gp_n 3 (j' := 23) (lv' := [some (.ref 0), some (.int 0), some (.int 1), none]) (st' := [.int (-1), .int 0, .int 1, .ref 2, .ref 1, .ref 13]) (h' := (shT, fi, fl, fr)) rfl ?_
      refine gp_of (fun _ k9 => g_callv (y := 82) (as := [.ref 13, .ref 1, .ref 2, .int 1, .int 0, .int (-1)]) (st' := []) rfl rfl (e1) k9) ?_
      refine gp_n 2 (j' := 26) (lv' := [some (.ref 0), some (.int 0), some (.int 1), some (.int 2)]) (st' := []) (h' := (shT, fi1, fl1, fr1)) rfl ?_
      exact gp_done g rfl
    · cases t
      · have a5 : fi2 13 8 = 0 := a5
        have g := g (some (.int (0)), (shT, fi2, fl2, fr2)) (fun l3 => by
          refine go_of ?_
          refine gp_n 3 (j' := 56) (lv' := [some (.ref 0), some (.int 1), some (.int v), l3]) (st' := [.ref 0]) (h' := (shT, fi2, fl2, fr2)) rfl ?_
          refine gp_of (fun _ k9 => g_getR (q' := 13) rfl rfl (by decide) q8 k9) ?_
          refine gp_of (fun _ k9 => g_getI (x := 0) rfl (Or.inr rfl) rfl (by decide) (a5) k9) ?_
          refine gp_of (fun _ k9 => g_ift rfl (show (0 : Int32) = (0 : Int32) from by decide) k9) ?_
          refine gp_n 1 (j' := 62) (lv' := [some (.ref 0), some (.int 1), some (.int v), l3]) (st' := [.int 0]) (h' := (shT, fi2, fl2, fr2)) rfl ?_
          refine gp_done (g_ret rfl) ?_
          rfl)
        refine Ev.of (es := cd_113) (ml := 4) (lv := [some (.ref 0), some (.int 1), none, none]) rfl rfl rfl ?_
        refine go_of ?_
        refine gp_n 1 (j' := 1) (lv' := [some (.ref 0), some (.int 1), none, none]) (st' := [.ref 0]) (h' := (shT, fi, fl, fr)) rfl ?_
        refine gp_of (fun _ k9 => g_getR (q' := 1) rfl rfl (by decide) k0 k9) ?_
        refine gp_of (fun _ k9 => g_call (y := 57) (as := [.ref 1]) (st' := []) rfl rfl (t1) k9) ?_
        refine gp_of (fun _ k9 => g_iff rfl (show ¬ ((1 : Int32) = (0 : Int32)) from by decide) k9) ?_
        refine gp_n 1 (j' := 5) (lv' := [some (.ref 0), some (.int 1), none, none]) (st' := [.int 1]) (h' := (shT, fi, fl, fr)) rfl ?_
        refine gp_of (fun _ k9 => g_iff rfl (show ¬ ((1 : Int32) < (0 : Int32)) from by decide) k9) ?_
        refine gp_n 2 (j' := 8) (lv' := [some (.ref 0), some (.int 1), none, none]) (st' := [.int 2, .int 1]) (h' := (shT, fi, fl, fr)) rfl ?_
        refine gp_of (fun _ k9 => g_ict rfl (show (1 : Int32) ≤ (2 : Int32) from by decide) k9) ?_
        refine gp_n 3 (j' := 14) (lv' := [some (.ref 0), some (.int 1), some (.int 1), none]) (st' := [.ref 0]) (h' := (shT, fi, fl, fr)) rfl ?_
        refine gp_of (fun _ k9 => g_getR (q' := 13) rfl rfl (by decide) k8 k9) ?_
        refine gp_n 1 (j' := 16) (lv' := [some (.ref 0), some (.int 1), some (.int 1), none]) (st' := [.ref 0, .ref 13]) (h' := (shT, fi, fl, fr)) rfl ?_
        refine gp_of (fun _ k9 => g_getR (q' := 1) rfl rfl (by decide) k0 k9) ?_
        refine gp_n 1 (j' := 18) (lv' := [some (.ref 0), some (.int 1), some (.int 1), none]) (st' := [.ref 0, .ref 1, .ref 13]) (h' := (shT, fi, fl, fr)) rfl ?_
        refine gp_of (fun _ k9 => g_getR (q' := 1) rfl rfl (by decide) k0 k9) ?_
        refine gp_of (fun _ k9 => g_getR (q' := 2) rfl rfl (by decide) s8 k9) ?_
        refine gp_n 3 (j' := 23) (lv' := [some (.ref 0), some (.int 1), some (.int 1), none]) (st' := [.int (-1), .int 0, .int 1, .ref 2, .ref 1, .ref 13]) (h' := (shT, fi, fl, fr)) rfl ?_
        refine gp_of (fun _ k9 => g_callv (y := 82) (as := [.ref 13, .ref 1, .ref 2, .int 1, .int 0, .int (-1)]) (st' := []) rfl rfl (e1) k9) ?_
        refine gp_n 2 (j' := 26) (lv' := [some (.ref 0), some (.int 1), some (.int 1), some (.int 2)]) (st' := []) (h' := (shT, fi1, fl1, fr1)) rfl ?_
        exact gp_done g rfl
      · have a5 : fi2 13 8 = 1 := a5
        have g := g (some (.int (1)), (shT, fi2, fl2, fr2)) (fun l3 => by
          refine go_of ?_
          refine gp_n 3 (j' := 56) (lv' := [some (.ref 0), some (.int 1), some (.int v), l3]) (st' := [.ref 0]) (h' := (shT, fi2, fl2, fr2)) rfl ?_
          refine gp_of (fun _ k9 => g_getR (q' := 13) rfl rfl (by decide) q8 k9) ?_
          refine gp_of (fun _ k9 => g_getI (x := 1) rfl (Or.inr rfl) rfl (by decide) (a5) k9) ?_
          refine gp_of (fun _ k9 => g_iff rfl (show ¬ ((1 : Int32) = (0 : Int32)) from by decide) k9) ?_
          refine gp_n 2 (j' := 62) (lv' := [some (.ref 0), some (.int 1), some (.int v), l3]) (st' := [.int 1]) (h' := (shT, fi2, fl2, fr2)) rfl ?_
          refine gp_done (g_ret rfl) ?_
          rfl)
        refine Ev.of (es := cd_113) (ml := 4) (lv := [some (.ref 0), some (.int 1), none, none]) rfl rfl rfl ?_
        refine go_of ?_
        refine gp_n 1 (j' := 1) (lv' := [some (.ref 0), some (.int 1), none, none]) (st' := [.ref 0]) (h' := (shT, fi, fl, fr)) rfl ?_
        refine gp_of (fun _ k9 => g_getR (q' := 1) rfl rfl (by decide) k0 k9) ?_
        refine gp_of (fun _ k9 => g_call (y := 57) (as := [.ref 1]) (st' := []) rfl rfl (t1) k9) ?_
        refine gp_of (fun _ k9 => g_iff rfl (show ¬ ((1 : Int32) = (0 : Int32)) from by decide) k9) ?_
        refine gp_n 1 (j' := 5) (lv' := [some (.ref 0), some (.int 1), none, none]) (st' := [.int 1]) (h' := (shT, fi, fl, fr)) rfl ?_
        refine gp_of (fun _ k9 => g_iff rfl (show ¬ ((1 : Int32) < (0 : Int32)) from by decide) k9) ?_
        refine gp_n 2 (j' := 8) (lv' := [some (.ref 0), some (.int 1), none, none]) (st' := [.int 2, .int 1]) (h' := (shT, fi, fl, fr)) rfl ?_
        refine gp_of (fun _ k9 => g_ict rfl (show (1 : Int32) ≤ (2 : Int32) from by decide) k9) ?_
        refine gp_n 3 (j' := 14) (lv' := [some (.ref 0), some (.int 1), some (.int 1), none]) (st' := [.ref 0]) (h' := (shT, fi, fl, fr)) rfl ?_
        refine gp_of (fun _ k9 => g_getR (q' := 13) rfl rfl (by decide) k8 k9) ?_
        refine gp_n 1 (j' := 16) (lv' := [some (.ref 0), some (.int 1), some (.int 1), none]) (st' := [.ref 0, .ref 13]) (h' := (shT, fi, fl, fr)) rfl ?_
        refine gp_of (fun _ k9 => g_getR (q' := 1) rfl rfl (by decide) k0 k9) ?_
        refine gp_n 1 (j' := 18) (lv' := [some (.ref 0), some (.int 1), some (.int 1), none]) (st' := [.ref 0, .ref 1, .ref 13]) (h' := (shT, fi, fl, fr)) rfl ?_
        refine gp_of (fun _ k9 => g_getR (q' := 1) rfl rfl (by decide) k0 k9) ?_
        refine gp_of (fun _ k9 => g_getR (q' := 2) rfl rfl (by decide) s8 k9) ?_
        refine gp_n 3 (j' := 23) (lv' := [some (.ref 0), some (.int 1), some (.int 1), none]) (st' := [.int (-1), .int 0, .int 1, .ref 2, .ref 1, .ref 13]) (h' := (shT, fi, fl, fr)) rfl ?_
        refine gp_of (fun _ k9 => g_callv (y := 82) (as := [.ref 13, .ref 1, .ref 2, .int 1, .int 0, .int (-1)]) (st' := []) rfl rfl (e1) k9) ?_
        refine gp_n 2 (j' := 26) (lv' := [some (.ref 0), some (.int 1), some (.int 1), some (.int 2)]) (st' := []) (h' := (shT, fi1, fl1, fr1)) rfl ?_
        exact gp_done g rfl
    ·
      have g := g (some (.int (u)), (shT, fi2, fl2, fr2)) (fun l3 => by
        refine go_of ?_
        refine gp_n 3 (j' := 64) (lv' := [some (.ref 0), some (.int 2), some (.int v), l3]) (st' := [.ref 0]) (h' := (shT, fi2, fl2, fr2)) rfl ?_
        refine gp_of (fun _ k9 => g_getR (q' := 13) rfl rfl (by decide) q8 k9) ?_
        refine gp_of (fun _ k9 => g_getR (q' := 18) rfl rfl (by decide) ka k9) ?_
        refine gp_of (fun _ k9 => g_getR (q' := 20) rfl rfl (by decide) kB k9) ?_
        refine gp_n 1 (j' := 68) (lv' := [some (.ref 0), some (.int 2), some (.int v), l3]) (st' := [.ref 0, .ref 20]) (h' := (shT, fi2, fl2, fr2)) rfl ?_
        refine gp_of (fun _ k9 => g_getR (q' := 13) rfl rfl (by decide) q8 k9) ?_
        refine gp_of (fun _ k9 => g_getI (x := nI q) rfl (Or.inl rfl) rfl (by decide) (a4) k9) ?_
        refine gp_of (fun _ k9 => g_iald (k := q) (x := u) rfl rfl (rfl) (by omega) (by decide) (bb) k9) ?_
        refine gp_done (g_ret rfl) ?_
        rfl)
      refine Ev.of (es := cd_113) (ml := 4) (lv := [some (.ref 0), some (.int 2), none, none]) rfl rfl rfl ?_
      refine go_of ?_
      refine gp_n 1 (j' := 1) (lv' := [some (.ref 0), some (.int 2), none, none]) (st' := [.ref 0]) (h' := (shT, fi, fl, fr)) rfl ?_
      refine gp_of (fun _ k9 => g_getR (q' := 1) rfl rfl (by decide) k0 k9) ?_
      refine gp_of (fun _ k9 => g_call (y := 57) (as := [.ref 1]) (st' := []) rfl rfl (t1) k9) ?_
      refine gp_of (fun _ k9 => g_iff rfl (show ¬ ((1 : Int32) = (0 : Int32)) from by decide) k9) ?_
      refine gp_n 1 (j' := 5) (lv' := [some (.ref 0), some (.int 2), none, none]) (st' := [.int 2]) (h' := (shT, fi, fl, fr)) rfl ?_
      refine gp_of (fun _ k9 => g_iff rfl (show ¬ ((2 : Int32) < (0 : Int32)) from by decide) k9) ?_
      refine gp_n 2 (j' := 8) (lv' := [some (.ref 0), some (.int 2), none, none]) (st' := [.int 2, .int 2]) (h' := (shT, fi, fl, fr)) rfl ?_
      refine gp_of (fun _ k9 => g_ict rfl (show (2 : Int32) ≤ (2 : Int32) from by decide) k9) ?_
      refine gp_n 3 (j' := 14) (lv' := [some (.ref 0), some (.int 2), some (.int 1), none]) (st' := [.ref 0]) (h' := (shT, fi, fl, fr)) rfl ?_
      refine gp_of (fun _ k9 => g_getR (q' := 13) rfl rfl (by decide) k8 k9) ?_
      refine gp_n 1 (j' := 16) (lv' := [some (.ref 0), some (.int 2), some (.int 1), none]) (st' := [.ref 0, .ref 13]) (h' := (shT, fi, fl, fr)) rfl ?_
      refine gp_of (fun _ k9 => g_getR (q' := 1) rfl rfl (by decide) k0 k9) ?_
      refine gp_n 1 (j' := 18) (lv' := [some (.ref 0), some (.int 2), some (.int 1), none]) (st' := [.ref 0, .ref 1, .ref 13]) (h' := (shT, fi, fl, fr)) rfl ?_
      refine gp_of (fun _ k9 => g_getR (q' := 1) rfl rfl (by decide) k0 k9) ?_
      refine gp_of (fun _ k9 => g_getR (q' := 2) rfl rfl (by decide) s8 k9) ?_
      refine gp_n 3 (j' := 23) (lv' := [some (.ref 0), some (.int 2), some (.int 1), none]) (st' := [.int (-1), .int 0, .int 1, .ref 2, .ref 1, .ref 13]) (h' := (shT, fi, fl, fr)) rfl ?_
      refine gp_of (fun _ k9 => g_callv (y := 82) (as := [.ref 13, .ref 1, .ref 2, .int 1, .int 0, .int (-1)]) (st' := []) rfl rfl (e1) k9) ?_
      refine gp_n 2 (j' := 26) (lv' := [some (.ref 0), some (.int 2), some (.int 1), some (.int 2)]) (st' := []) (h' := (shT, fi1, fl1, fr1)) rfl ?_
      exact gp_done g rfl
theorem fh_ho {D : Nat → Bool} {P : Nat} (hP : P ≤ 8) : (hoN D P = true → ∃ q, q < 8 ∧ oI (fhN D P) = nI q) ∧ (hoN D P = false → oI (fhN D P) = -1) := by
  unfold hoN
  cases hf : fhN D P with
  | none => exact ⟨fun z => Bool.noConfusion z, fun _ => rfl⟩
  | some q =>
    have := (fhN_lt P q hf).1
    exact ⟨fun _ => ⟨q, by omega, rfl⟩, fun z => Bool.noConfusion z⟩
theorem gm_go {a : AB} {m k c : Nat} {w : Int32} (vk : VK (a_v a) m k c) : ∀ (n i : Nat) (h : PmH), i + n = 3 → REL3 h a → mrI (a_v a).2.1 m (a_v a).2.2 (2 ^ i) (2 ^ m) h → ∃ h', REL3 h' a ∧ mrI (a_v a).2.1 m (a_v a).2.2 (2 ^ gj (hoP2 a m k c) i n) (2 ^ m) h' ∧ ∀ r, (Go pmT none cd_213 30 [some (.ref 70), some (.int w), some (.int (nI (2 ^ gj (hoP2 a m k c) i n)))] [] h' r) → Go pmT none cd_213 16 [some (.ref 70), some (.int w), some (.int (nI (2 ^ i)))] [] h r := by
  intro n
  induction n with
  | zero =>
    intro i h hi hr hx
    have hi : i = 3 := by omega
    subst hi
    refine ⟨h, hr, hx, fun r kk => ?_⟩
    have kk : Go pmT none cd_213 30 [some (.ref 70), some (.int w), some (.int (nI (2 ^ 3)))] [] h r := kk
    have fm := fh_M hr.1 vk (by decide) (by decide) hx
    have hI := hr.1.1.1
    have ge : (8 : Int32) ≤ nI (2 ^ 3) := by decide
    generalize oI (fhN (rdD a m k c (2 ^ 3)) (rdX a m (2 ^ 3)).1) = e at *
    generalize nI (2 ^ 3) = x at *
    clear hr hx
    obtain ⟨S, fi, fl, fr⟩ := h
    have hS : S = shT := hI.1
    subst hS
    refine go_of ?_
    refine gp_n 1 (j' := 17) (lv' := [some (.ref 70), some (.int w), some (.int x)]) (st' := [.ref 70]) (h' := (shT, fi, fl, fr)) rfl ?_
    refine gp_of (fun _ k9 => g_call (y := 200) (as := [.ref 70]) (st' := []) rfl rfl (fm) k9) ?_
    refine gp_if rfl (fun hc1 => ?_) (fun hc1 => ?_)
    · replace hc1 : (0 : Int32) ≤ e := hc1
      exact gp_done kk rfl
    · replace hc1 : ¬ ((0 : Int32) ≤ e) := hc1
      refine gp_n 2 (j' := 21) (lv' := [some (.ref 70), some (.int w), some (.int x)]) (st' := [.int 8, .int x]) (h' := (shT, fi, fl, fr)) rfl ?_
      refine gp_of (fun _ k9 => g_ict rfl (show (8 : Int32) ≤ x from ge) k9) ?_
      exact gp_done kk rfl
  | succ n ih =>
    intro i h hi hr hx
    have hI := hr.1.1.1
    have p2 := p2_8 i (by omega)
    have p3 := p2_8 (i + 1) (by omega)
    have fm := fh_M hr.1 vk p2.1 p2.2.1 hx
    have hP := rd_P (K := (a_v a).2.1) (m := m) (S := (a_v a).2.2) p2.1 (2 ^ m)
    have fo := fh_ho (D := rdD a m k c (2 ^ i)) (P := (rdX a m (2 ^ i)).1) (Nat.le_trans hP.2 p2.2.1)
    have lt : ¬ (8 : Int32) ≤ nI (2 ^ i) := by
      have : i = 0 ∨ i = 1 ∨ i = 2 := by omega
      rcases this with rfl | rfl | rfl <;> decide
    rw [gj]
    cases hh : hoP2 a m k c i
    · rw [if_neg (by decide)]
      rw [fo.2 hh] at fm
      obtain ⟨h1, e1, I1, x1, F1⟩ := run_M hr.1 vk p3.1 p3.2.1
      have r1 := rd_pairM hr I1 F1
      obtain ⟨h2, r2, x2, g⟩ := ih (i + 1) h1 (by omega) r1 x1
      refine ⟨h2, r2, x2, fun r kk => ?_⟩
      have g7 := g r kk
      have pm := p2.2.2
      clear g ih r1 r2 x1 x2 F1 hr hx kk p2 p3 fo hP
      rw [← pm] at g7 e1
      generalize nI (2 ^ i) = x at *
      obtain ⟨S1, fi1, fl1, fr1⟩ := h1
      have s1 : S1 = shT := I1.1
      subst s1
      obtain ⟨S, fi, fl, fr⟩ := h
      have hS : S = shT := hI.1
      subst hS
      refine go_of ?_
      refine gp_n 1 (j' := 17) (lv' := [some (.ref 70), some (.int w), some (.int x)]) (st' := [.ref 70]) (h' := (shT, fi, fl, fr)) rfl ?_
      refine gp_of (fun _ k9 => g_call (y := 200) (as := [.ref 70]) (st' := []) rfl rfl (fm) k9) ?_
      refine gp_of (fun _ k9 => g_iff rfl (show ¬ ((0 : Int32) ≤ ((-1) : Int32)) from by decide) k9) ?_
      refine gp_n 2 (j' := 21) (lv' := [some (.ref 70), some (.int w), some (.int x)]) (st' := [.int 8, .int x]) (h' := (shT, fi, fl, fr)) rfl ?_
      refine gp_of (fun _ k9 => g_icf rfl (show ¬ ((8 : Int32) ≤ x) from lt) k9) ?_
      refine gp_n 6 (j' := 28) (lv' := [some (.ref 70), some (.int w), some (.int (x * 2))]) (st' := [.int (x * 2), .ref 70]) (h' := (shT, fi, fl, fr)) rfl ?_
      refine gp_of (fun _ k9 => g_callv (y := 191) (as := [.ref 70, .int (x * 2)]) (st' := []) rfl rfl (e1) k9) ?_
      refine gp_n 1 (j' := 16) (lv' := [some (.ref 70), some (.int w), some (.int (x * 2))]) (st' := []) (h' := (shT, fi1, fl1, fr1)) rfl ?_
      exact gp_done g7 rfl
    · rw [if_pos rfl]
      obtain ⟨q, q1, q2⟩ := fo.1 hh
      rw [q2] at fm
      refine ⟨h, hr, hx, fun r kk => ?_⟩
      clear hr hx ih fo hP
      generalize nI (2 ^ i) = x at *
      obtain ⟨S, fi, fl, fr⟩ := h
      have hS : S = shT := hI.1
      subst hS
      refine go_of ?_
      refine gp_n 1 (j' := 17) (lv' := [some (.ref 70), some (.int w), some (.int x)]) (st' := [.ref 70]) (h' := (shT, fi, fl, fr)) rfl ?_
      refine gp_of (fun _ k9 => g_call (y := 200) (as := [.ref 70]) (st' := []) rfl rfl (fm) k9) ?_
      refine gp_of (fun _ k9 => g_ift rfl (show (0 : Int32) ≤ (nI q) from nI_pos' (by omega)) k9) ?_
      exact gp_done kk rfl
theorem gr_M {h : PmH} {a : AB} {m k c w : Nat} (hr : REL3 h a) (h0 : 0 < (a_v a).1 1) (vk : VK (a_v a) m k c) (hw : w < 3) : ∃ h', Ev pmT 213 [.ref 70, .int (nI w)] h (some (.int (grV a m k c w))) h' ∧ REL3 h' a := by
  have hI := hr.1.1.1
  have c0 : ph_i h 70 14 = (a_v a).1 1 := hr.1.1.2.2.1.2.2.2.2.1.1 0 (by decide)
  have t1 := isc1 hI c0 h0
  obtain ⟨h1, e1, I1, x1, F1⟩ := run_M (most := 1) hr.1 vk (by decide) (by decide)
  have r1 := rd_pairM hr I1 F1
  obtain ⟨h2, r2, x2, g⟩ := gm_go (w := nI w) vk 3 0 h1 (by decide) r1 x1
  refine ⟨h2, ?_, r2⟩
  have I2 := r2.1.1.1
  have jl := gj_le (ho := hoP2 a m k c) 3 0
  have pj := p2_8 (gj (hoP2 a m k c) 0 3) (by omega)
  have e1 : Ev pmT 191 [.ref 70, .int 1] h none h1 := e1
  unfold grV
  generalize gj (hoP2 a m k c) 0 3 = j at *
  have hP := rd_P (K := (a_v a).2.1) (m := m) (S := (a_v a).2.2) pj.1 (2 ^ m)
  have cm := ch_M r2.1 vk pj.1 pj.2.1 x2
  have fm := fh_M r2.1 vk pj.1 pj.2.1 x2
  have fo := fh_ho (D := rdD a m k c (2 ^ j)) (P := (rdX a m (2 ^ j)).1) (Nat.le_trans hP.2 pj.2.1)
  have cl := ch_lt (D := rdD a m k c (2 ^ j)) (P := (rdX a m (2 ^ j)).1) hP.1
  have cb : (rdX a m (2 ^ j)).1 ≤ 8 := Nat.le_trans hP.2 pj.2.1
  have bb := (x2.1.2 _ cl).2
  have q27 : ph_r h2 70 27 = some 77 := hi_r I2 rfl rfl (by decide)
  have bb : ph_i h2 77 (chN (rdD a m k c (2 ^ j)) (rdX a m (2 ^ j)).1) = (rdX a m (2 ^ j)).2.2 (chN (rdD a m k c (2 ^ j)) (rdX a m (2 ^ j)).1) := bb
  have fo : (hoP2 a m k c j = true → ∃ q, q < 8 ∧ oI (fhN (rdD a m k c (2 ^ j)) (rdX a m (2 ^ j)).1) = nI q) ∧ (hoP2 a m k c j = false → oI (fhN (rdD a m k c (2 ^ j)) (rdX a m (2 ^ j)).1) = -1) := fo
  generalize (rdX a m (2 ^ j)).2.2 (chN (rdD a m k c (2 ^ j)) (rdX a m (2 ^ j)).1) = u at *
  generalize chN (rdD a m k c (2 ^ j)) (rdX a m (2 ^ j)).1 = q at *
  generalize hoP2 a m k c j = t at *
  generalize oI (fhN (rdD a m k c (2 ^ j)) (rdX a m (2 ^ j)).1) = e at *
  generalize (rdX a m (2 ^ j)).1 = P at *
  clear hr r1 r2 F1 x1 x2
  generalize nI (2 ^ j) = v at *
  have isi := fun (x : Int32) h => isin_1 (x := x) 0 2 (l1 := 0) (l2 := 2) (h := h) (by decide) (by decide)
  obtain ⟨S2, fi2, fl2, fr2⟩ := h2
  have s2 : S2 = shT := I2.1
  subst s2
  have q27 : fr2 70 27 = some 77 := q27
  have bb : fi2 77 q = u := bb
  obtain ⟨S1, fi1, fl1, fr1⟩ := h1
  have s1 : S1 = shT := I1.1
  subst s1
  obtain ⟨S, fi, fl, fr⟩ := h
  have hS : S = shT := hI.1
  subst hS
  have w3 : w = 0 ∨ w = 1 ∨ w = 2 := by omega
  rcases w3 with rfl | rfl | rfl
  ·
    have g := g (some (.int (v)), (shT, fi2, fl2, fr2)) (by
      refine go_of ?_
      refine gp_n 1 (j' := 31) (lv' := [some (.ref 70), some (.int 0), some (.int v)]) (st' := [.int 0]) (h' := (shT, fi2, fl2, fr2)) rfl ?_
      refine gp_of (fun _ k9 => g_iff rfl (show ¬ (¬ (0 : Int32) = (0 : Int32)) from by decide) k9) ?_
      refine gp_n 2 (j' := 49) (lv' := [some (.ref 70), some (.int 0), some (.int v)]) (st' := [.int v]) (h' := (shT, fi2, fl2, fr2)) rfl ?_
      refine gp_done (g_ret rfl) ?_
      rfl)
    have isw := isi 0 (shT, fi, fl, fr) (by decide)
    refine Ev.of (es := cd_213) (ml := 3) (lv := [some (.ref 70), some (.int 0), none]) rfl rfl rfl ?_
    refine go_of ?_
    refine gp_n 1 (j' := 1) (lv' := [some (.ref 70), some (.int 0), none]) (st' := [.ref 70]) (h' := (shT, fi, fl, fr)) rfl ?_
    refine gp_of (fun _ k9 => g_call (y := 172) (as := [.ref 70]) (st' := []) rfl rfl (t1) k9) ?_
    refine gp_of (fun _ k9 => g_iff rfl (show ¬ ((1 : Int32) = (0 : Int32)) from by decide) k9) ?_
    refine gp_n 4 (j' := 7) (lv' := [some (.ref 70), some (.int 0), none]) (st' := [.long 2, .long 0, .long 0]) (h' := (shT, fi, fl, fr)) rfl ?_
    refine gp_of (fun _ k9 => g_call (y := 148) (as := [.long 0, .long 0, .long 2]) (st' := []) rfl rfl (isw) k9) ?_
    refine gp_of (fun _ k9 => g_ift rfl (show ¬ (1 : Int32) = (0 : Int32) from by decide) k9) ?_
    refine gp_n 4 (j' := 15) (lv' := [some (.ref 70), some (.int 0), some (.int 1)]) (st' := [.int 1, .ref 70]) (h' := (shT, fi, fl, fr)) rfl ?_
    refine gp_of (fun _ k9 => g_callv (y := 191) (as := [.ref 70, .int 1]) (st' := []) rfl rfl (e1) k9) ?_
    exact gp_done g rfl
  · cases t
    · rw [fo.2 rfl] at fm
      have g := g (some (.int (0)), (shT, fi2, fl2, fr2)) (by
        refine go_of ?_
        refine gp_n 1 (j' := 31) (lv' := [some (.ref 70), some (.int 1), some (.int v)]) (st' := [.int 1]) (h' := (shT, fi2, fl2, fr2)) rfl ?_
        refine gp_of (fun _ k9 => g_ift rfl (show ¬ (1 : Int32) = (0 : Int32) from by decide) k9) ?_
        refine gp_n 2 (j' := 36) (lv' := [some (.ref 70), some (.int 1), some (.int v)]) (st' := [.int 1, .int 1]) (h' := (shT, fi2, fl2, fr2)) rfl ?_
        refine gp_of (fun _ k9 => g_icf rfl (show ¬ (¬ (1 : Int32) = (1 : Int32)) from by decide) k9) ?_
        refine gp_n 1 (j' := 38) (lv' := [some (.ref 70), some (.int 1), some (.int v)]) (st' := [.ref 70]) (h' := (shT, fi2, fl2, fr2)) rfl ?_
        refine gp_of (fun _ k9 => g_call (y := 200) (as := [.ref 70]) (st' := []) rfl rfl (fm) k9) ?_
        refine gp_of (fun _ k9 => g_ift rfl (show ((-1) : Int32) < (0 : Int32) from by decide) k9) ?_
        refine gp_n 2 (j' := 49) (lv' := [some (.ref 70), some (.int 1), some (.int v)]) (st' := [.int 0]) (h' := (shT, fi2, fl2, fr2)) rfl ?_
        refine gp_done (g_ret rfl) ?_
        rfl)
      have isw := isi 1 (shT, fi, fl, fr) (by decide)
      refine Ev.of (es := cd_213) (ml := 3) (lv := [some (.ref 70), some (.int 1), none]) rfl rfl rfl ?_
      refine go_of ?_
      refine gp_n 1 (j' := 1) (lv' := [some (.ref 70), some (.int 1), none]) (st' := [.ref 70]) (h' := (shT, fi, fl, fr)) rfl ?_
      refine gp_of (fun _ k9 => g_call (y := 172) (as := [.ref 70]) (st' := []) rfl rfl (t1) k9) ?_
      refine gp_of (fun _ k9 => g_iff rfl (show ¬ ((1 : Int32) = (0 : Int32)) from by decide) k9) ?_
      refine gp_n 4 (j' := 7) (lv' := [some (.ref 70), some (.int 1), none]) (st' := [.long 2, .long 0, .long 1]) (h' := (shT, fi, fl, fr)) rfl ?_
      refine gp_of (fun _ k9 => g_call (y := 148) (as := [.long 1, .long 0, .long 2]) (st' := []) rfl rfl (isw) k9) ?_
      refine gp_of (fun _ k9 => g_ift rfl (show ¬ (1 : Int32) = (0 : Int32) from by decide) k9) ?_
      refine gp_n 4 (j' := 15) (lv' := [some (.ref 70), some (.int 1), some (.int 1)]) (st' := [.int 1, .ref 70]) (h' := (shT, fi, fl, fr)) rfl ?_
      refine gp_of (fun _ k9 => g_callv (y := 191) (as := [.ref 70, .int 1]) (st' := []) rfl rfl (e1) k9) ?_
      exact gp_done g rfl
    · obtain ⟨z, z1, z2⟩ := fo.1 rfl
      rw [z2] at fm
      have g := g (some (.int (1)), (shT, fi2, fl2, fr2)) (by
        refine go_of ?_
        refine gp_n 1 (j' := 31) (lv' := [some (.ref 70), some (.int 1), some (.int v)]) (st' := [.int 1]) (h' := (shT, fi2, fl2, fr2)) rfl ?_
        refine gp_of (fun _ k9 => g_ift rfl (show ¬ (1 : Int32) = (0 : Int32) from by decide) k9) ?_
        refine gp_n 2 (j' := 36) (lv' := [some (.ref 70), some (.int 1), some (.int v)]) (st' := [.int 1, .int 1]) (h' := (shT, fi2, fl2, fr2)) rfl ?_
        refine gp_of (fun _ k9 => g_icf rfl (show ¬ (¬ (1 : Int32) = (1 : Int32)) from by decide) k9) ?_
        refine gp_n 1 (j' := 38) (lv' := [some (.ref 70), some (.int 1), some (.int v)]) (st' := [.ref 70]) (h' := (shT, fi2, fl2, fr2)) rfl ?_
        refine gp_of (fun _ k9 => g_call (y := 200) (as := [.ref 70]) (st' := []) rfl rfl (fm) k9) ?_
        refine gp_of (fun _ k9 => g_iff rfl (show ¬ ((nI z) < (0 : Int32)) from nI_pos (by omega)) k9) ?_
        refine gp_n 2 (j' := 49) (lv' := [some (.ref 70), some (.int 1), some (.int v)]) (st' := [.int 1]) (h' := (shT, fi2, fl2, fr2)) rfl ?_
        refine gp_done (g_ret rfl) ?_
        rfl)
      have isw := isi 1 (shT, fi, fl, fr) (by decide)
      refine Ev.of (es := cd_213) (ml := 3) (lv := [some (.ref 70), some (.int 1), none]) rfl rfl rfl ?_
      refine go_of ?_
      refine gp_n 1 (j' := 1) (lv' := [some (.ref 70), some (.int 1), none]) (st' := [.ref 70]) (h' := (shT, fi, fl, fr)) rfl ?_
      refine gp_of (fun _ k9 => g_call (y := 172) (as := [.ref 70]) (st' := []) rfl rfl (t1) k9) ?_
      refine gp_of (fun _ k9 => g_iff rfl (show ¬ ((1 : Int32) = (0 : Int32)) from by decide) k9) ?_
      refine gp_n 4 (j' := 7) (lv' := [some (.ref 70), some (.int 1), none]) (st' := [.long 2, .long 0, .long 1]) (h' := (shT, fi, fl, fr)) rfl ?_
      refine gp_of (fun _ k9 => g_call (y := 148) (as := [.long 1, .long 0, .long 2]) (st' := []) rfl rfl (isw) k9) ?_
      refine gp_of (fun _ k9 => g_ift rfl (show ¬ (1 : Int32) = (0 : Int32) from by decide) k9) ?_
      refine gp_n 4 (j' := 15) (lv' := [some (.ref 70), some (.int 1), some (.int 1)]) (st' := [.int 1, .ref 70]) (h' := (shT, fi, fl, fr)) rfl ?_
      refine gp_of (fun _ k9 => g_callv (y := 191) (as := [.ref 70, .int 1]) (st' := []) rfl rfl (e1) k9) ?_
      exact gp_done g rfl
  ·
    have g := g (some (.int (u)), (shT, fi2, fl2, fr2)) (by
      refine go_of ?_
      refine gp_n 1 (j' := 31) (lv' := [some (.ref 70), some (.int 2), some (.int v)]) (st' := [.int 2]) (h' := (shT, fi2, fl2, fr2)) rfl ?_
      refine gp_of (fun _ k9 => g_ift rfl (show ¬ (2 : Int32) = (0 : Int32) from by decide) k9) ?_
      refine gp_n 2 (j' := 36) (lv' := [some (.ref 70), some (.int 2), some (.int v)]) (st' := [.int 1, .int 2]) (h' := (shT, fi2, fl2, fr2)) rfl ?_
      refine gp_of (fun _ k9 => g_ict rfl (show ¬ (2 : Int32) = (1 : Int32) from by decide) k9) ?_
      refine gp_n 1 (j' := 45) (lv' := [some (.ref 70), some (.int 2), some (.int v)]) (st' := [.ref 70]) (h' := (shT, fi2, fl2, fr2)) rfl ?_
      refine gp_of (fun _ k9 => g_getR (q' := 77) rfl rfl (by decide) q27 k9) ?_
      refine gp_n 1 (j' := 47) (lv' := [some (.ref 70), some (.int 2), some (.int v)]) (st' := [.ref 70, .ref 77]) (h' := (shT, fi2, fl2, fr2)) rfl ?_
      refine gp_of (fun _ k9 => g_call (y := 199) (as := [.ref 70]) (st' := [.ref 77]) rfl rfl (cm) k9) ?_
      refine gp_of (fun _ k9 => g_iald (k := q) (x := u) rfl rfl (rfl) (by omega) (by decide) (bb) k9) ?_
      refine gp_done (g_ret rfl) ?_
      rfl)
    have isw := isi 2 (shT, fi, fl, fr) (by decide)
    refine Ev.of (es := cd_213) (ml := 3) (lv := [some (.ref 70), some (.int 2), none]) rfl rfl rfl ?_
    refine go_of ?_
    refine gp_n 1 (j' := 1) (lv' := [some (.ref 70), some (.int 2), none]) (st' := [.ref 70]) (h' := (shT, fi, fl, fr)) rfl ?_
    refine gp_of (fun _ k9 => g_call (y := 172) (as := [.ref 70]) (st' := []) rfl rfl (t1) k9) ?_
    refine gp_of (fun _ k9 => g_iff rfl (show ¬ ((1 : Int32) = (0 : Int32)) from by decide) k9) ?_
    refine gp_n 4 (j' := 7) (lv' := [some (.ref 70), some (.int 2), none]) (st' := [.long 2, .long 0, .long 2]) (h' := (shT, fi, fl, fr)) rfl ?_
    refine gp_of (fun _ k9 => g_call (y := 148) (as := [.long 2, .long 0, .long 2]) (st' := []) rfl rfl (isw) k9) ?_
    refine gp_of (fun _ k9 => g_ift rfl (show ¬ (1 : Int32) = (0 : Int32) from by decide) k9) ?_
    refine gp_n 4 (j' := 15) (lv' := [some (.ref 70), some (.int 2), some (.int 1)]) (st' := [.int 1, .ref 70]) (h' := (shT, fi, fl, fr)) rfl ?_
    refine gp_of (fun _ k9 => g_callv (y := 191) (as := [.ref 70, .int 1]) (st' := []) rfl rfl (e1) k9) ?_
    exact gp_done g rfl
theorem gr_C0 {h : PmH} {a : AB} {x : Int32} (hr : REL3 h a) (hn : ¬ (0 < (a_v a).1 1 ∧ (0 ≤ x ∧ x ≤ 2))) : Ev pmT 113 [.ref 0, .int x] h (some (.int (-1))) h := by
  have hI := hr.1.1.1
  have t1 := told1 hI (hr.1.1.2.1.2.2.2.2.1.1 1 (by decide))
  have t0 := told0 hI (hr.1.1.2.1.2.2.2.2.1.1 1 (by decide))
  have k0 : ph_r h 0 0 = some 1 := hi_r hI rfl rfl (by decide)
  refine Ev.of (es := cd_113) (ml := 4) (lv := [some (.ref 0), some (.int x), none, none]) rfl rfl rfl ?_
  clear hr
  obtain ⟨S, fi, fl, fr⟩ := h
  have hS : S = shT := hI.1
  subst hS
  have k0 : fr 0 0 = some 1 := k0
  refine go_of ?_
  by_cases h0 : 0 < (a_v a).1 1
  · have t1 := t1 h0
    by_cases h1 : x < 0
    ·
      refine gp_n 1 (j' := 1) (lv' := [some (.ref 0), some (.int x), none, none]) (st' := [.ref 0]) (h' := (shT, fi, fl, fr)) rfl ?_
      refine gp_of (fun _ k9 => g_getR (q' := 1) rfl rfl (by decide) k0 k9) ?_
      refine gp_of (fun _ k9 => g_call (y := 57) (as := [.ref 1]) (st' := []) rfl rfl (t1) k9) ?_
      refine gp_of (fun _ k9 => g_iff rfl (show ¬ ((1 : Int32) = (0 : Int32)) from by decide) k9) ?_
      refine gp_n 1 (j' := 5) (lv' := [some (.ref 0), some (.int x), none, none]) (st' := [.int x]) (h' := (shT, fi, fl, fr)) rfl ?_
      refine gp_of (fun _ k9 => g_ift rfl (show x < (0 : Int32) from h1) k9) ?_
      refine gp_n 1 (j' := 10) (lv' := [some (.ref 0), some (.int x), none, none]) (st' := [.int (-1)]) (h' := (shT, fi, fl, fr)) rfl ?_
      refine gp_done (g_ret rfl) ?_
      rfl
    · have h2 : ¬ x ≤ 2 := fun z => hn ⟨h0, Int32.not_lt.mp h1, z⟩
      refine gp_n 1 (j' := 1) (lv' := [some (.ref 0), some (.int x), none, none]) (st' := [.ref 0]) (h' := (shT, fi, fl, fr)) rfl ?_
      refine gp_of (fun _ k9 => g_getR (q' := 1) rfl rfl (by decide) k0 k9) ?_
      refine gp_of (fun _ k9 => g_call (y := 57) (as := [.ref 1]) (st' := []) rfl rfl (t1) k9) ?_
      refine gp_of (fun _ k9 => g_iff rfl (show ¬ ((1 : Int32) = (0 : Int32)) from by decide) k9) ?_
      refine gp_n 1 (j' := 5) (lv' := [some (.ref 0), some (.int x), none, none]) (st' := [.int x]) (h' := (shT, fi, fl, fr)) rfl ?_
      refine gp_of (fun _ k9 => g_iff rfl (show ¬ (x < (0 : Int32)) from h1) k9) ?_
      refine gp_n 2 (j' := 8) (lv' := [some (.ref 0), some (.int x), none, none]) (st' := [.int 2, .int x]) (h' := (shT, fi, fl, fr)) rfl ?_
      refine gp_of (fun _ k9 => g_icf rfl (show ¬ (x ≤ (2 : Int32)) from h2) k9) ?_
      refine gp_n 1 (j' := 10) (lv' := [some (.ref 0), some (.int x), none, none]) (st' := [.int (-1)]) (h' := (shT, fi, fl, fr)) rfl ?_
      refine gp_done (g_ret rfl) ?_
      rfl
  · have t0 := t0 h0
    refine gp_n 1 (j' := 1) (lv' := [some (.ref 0), some (.int x), none, none]) (st' := [.ref 0]) (h' := (shT, fi, fl, fr)) rfl ?_
    refine gp_of (fun _ k9 => g_getR (q' := 1) rfl rfl (by decide) k0 k9) ?_
    refine gp_of (fun _ k9 => g_call (y := 57) (as := [.ref 1]) (st' := []) rfl rfl (t0) k9) ?_
    refine gp_of (fun _ k9 => g_ift rfl (show (0 : Int32) = (0 : Int32) from by decide) k9) ?_
    refine gp_n 1 (j' := 10) (lv' := [some (.ref 0), some (.int x), none, none]) (st' := [.int (-1)]) (h' := (shT, fi, fl, fr)) rfl ?_
    refine gp_done (g_ret rfl) ?_
    rfl
theorem gr_M0 {h : PmH} {a : AB} {x : Int32} (hr : REL3 h a) (hn : ¬ (0 < (a_v a).1 1 ∧ (0 ≤ x ∧ x ≤ 2))) : Ev pmT 213 [.ref 70, .int x] h (some (.int (-1))) h := by
  have hI := hr.1.1.1
  have c0 := hr.1.1.2.2.1.2.2.2.2.1.1 0 (by decide)
  have t1 := isc1 hI c0
  have t0 := isc0 hI c0
  refine Ev.of (es := cd_213) (ml := 3) (lv := [some (.ref 70), some (.int x), none]) rfl rfl rfl ?_
  clear hr
  obtain ⟨S, fi, fl, fr⟩ := h
  have hS : S = shT := hI.1
  subst hS
  refine go_of ?_
  by_cases h0 : 0 < (a_v a).1 1
  · have t1 := t1 h0
    have isw := isin_0 (x := x) 0 2 (l1 := 0) (l2 := 2) (h := (shT, fi, fl, fr)) (by decide) (by decide) (fun z => hn ⟨h0, z⟩)
    refine gp_n 1 (j' := 1) (lv' := [some (.ref 70), some (.int x), none]) (st' := [.ref 70]) (h' := (shT, fi, fl, fr)) rfl ?_
    refine gp_of (fun _ k9 => g_call (y := 172) (as := [.ref 70]) (st' := []) rfl rfl (t1) k9) ?_
    refine gp_of (fun _ k9 => g_iff rfl (show ¬ ((1 : Int32) = (0 : Int32)) from by decide) k9) ?_
    refine gp_n 4 (j' := 7) (lv' := [some (.ref 70), some (.int x), none]) (st' := [.long 2, .long 0, .long x.toInt64]) (h' := (shT, fi, fl, fr)) rfl ?_
    refine gp_of (fun _ k9 => g_call (y := 148) (as := [.long x.toInt64, .long 0, .long 2]) (st' := []) rfl rfl (isw) k9) ?_
    refine gp_of (fun _ k9 => g_iff rfl (show ¬ (¬ (0 : Int32) = (0 : Int32)) from by decide) k9) ?_
    refine gp_n 1 (j' := 10) (lv' := [some (.ref 70), some (.int x), none]) (st' := [.int (-1)]) (h' := (shT, fi, fl, fr)) rfl ?_
    refine gp_done (g_ret rfl) ?_
    rfl
  · have t0 := t0 h0
    refine gp_n 1 (j' := 1) (lv' := [some (.ref 70), some (.int x), none]) (st' := [.ref 70]) (h' := (shT, fi, fl, fr)) rfl ?_
    refine gp_of (fun _ k9 => g_call (y := 172) (as := [.ref 70]) (st' := []) rfl rfl (t0) k9) ?_
    refine gp_of (fun _ k9 => g_ift rfl (show (0 : Int32) = (0 : Int32) from by decide) k9) ?_
    refine gp_n 1 (j' := 10) (lv' := [some (.ref 70), some (.int x), none]) (st' := [.int (-1)]) (h' := (shT, fi, fl, fr)) rfl ?_
    refine gp_done (g_ret rfl) ?_
    rfl
theorem p3_grown {h : PmH} {a : AB} (x : Int32) (hr : REL3 h a) : PI3 113 213 [.int x] h (fun x y => x = y) := by
  have hI := hr.1.1.1
  by_cases hn : 0 < (a_v a).1 1 ∧ (0 ≤ x ∧ x ≤ 2)
  · obtain ⟨h0, hz⟩ := id hn
    obtain ⟨w, hw, rfl⟩ : ∃ w, w < 3 ∧ x = nI w := by
      obtain ⟨j, j1, j2⟩ := nI_of2 (n := 2) (M := 2) rfl (Int32.not_lt.mpr hz.1) hz.2
      exact ⟨j, by omega, j2⟩
    obtain ⟨m, k, c, l, vk, hl, l1, l8⟩ := rd_get hr h0
    obtain ⟨h1, e1, r1⟩ := gr_C hr h0 vk hw
    obtain ⟨h2, e2, r2⟩ := gr_M r1 h0 vk hw
    exact ⟨_, _, h1, h2, a, e1, e2, r2, r1.1.1.1, rfl⟩
  · exact ⟨_, _, h, h, a, gr_C0 hr hn, gr_M0 hr hn, hr, hI, rfl⟩
