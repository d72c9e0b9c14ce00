theorem qGo_n {K : Int64} {m i : Nat} {S : Nat → Int32} {x : SQ} : (qGo K m S x i).1 ≤ x.1 + 2 := by
  unfold qGo
  split
  · exact Nat.le_refl _
  · exact Nat.le_succ _
theorem mq46 {a : AB} {m k c s : Nat} {v : Int32} {x : SQ} {h : PmH} (hs : s = 46 ∨ s = 48) (hx : mqI a m k c x h) : mqI a m k c x (ph_s h, pm_u2 (ph_i h) 70 s v, ph_l h, ph_r h) := by
  obtain ⟨hI, ⟨y1, y2, y3⟩, y4, y5, y6, y7, y8⟩ := hx
  have wu : ∀ p q, ¬ (p = 70 ∧ q = s) → pm_u2 (ph_i h) 70 s v p q = ph_i h p q := fun p q z => wl_ne z
  refine ⟨hd70 hI ?_, ⟨(wu 70 14 (by omega)).trans y1, y2, fun q hq => (wu 74 q (by omega)).trans (y3 q hq)⟩, (wu 70 16 (by omega)).trans y4, (wu 70 17 (by omega)).trans y5, (wu 70 18 (by omega)).trans y6, (wu 70 45 (by omega)).trans y7, fun j hj => ⟨(y8 j hj).1, (wu 88 j (by omega)).trans (y8 j hj).2.1, (wu 89 j (by omega)).trans (y8 j hj).2.2⟩⟩
  rcases hs with rfl | rfl
  · rfl
  · rfl
def skP (R : Nat × Option (Nat × Int64)) (h : PmH) : Prop := ph_i h 70 46 = nI R.1 ∧ ∀ M B, R.2 = some (M, B) → ph_l h 70 47 = B ∧ ph_i h 70 48 = nI M
theorem skM_go {a : AB} {m k c : Nat} (vk : VK (a_v a) m k c) (hB : ∀ s, s < 64 → -127 ≤ ((a_v a).2.2 s).toInt ∧ ((a_v a).2.2 s).toInt ≤ 127) : ∀ (w t : Nat) (x : SQ) (h : PmH), t + w = 1500 → x.1 ≤ 2 * t + 1 → mqI a m k c x h → QI (a_v a).2.1 (2 ^ m) x → ph_i h 70 46 = nI t → ∃ h', HI hdT shT h' ∧ skP (skR a m k c w t x) h' ∧ Go pmT none cd_218 14 [some (.ref 70), some (.int (oI (qb x)))] [] h (some (.int (b01 (skR a m k c w t x).2.isSome)), h') := by
  intro w
  induction w with
  | zero =>
    intro t x h ht hn hx hq c46
    have hI := hx.1
    have ht : t = 1500 := by omega
    subst ht
    refine ⟨h, hI, ⟨c46, fun M B z => by cases z⟩, ?_⟩
    show Go pmT none cd_218 14 _ [] h (some (.int 0), h)
    cases hb : qb x with
    | none =>
      show Go pmT none cd_218 14 [some (.ref 70), some (.int (-1))] [] h _
      clear hx hq
      obtain ⟨S, fi, fl, fr⟩ := h
      have hS : S = shT := hI.1
      subst hS
      refine go_of ?_
      refine gp_n 1 (j' := 15) (lv' := [some (.ref 70), some (.int (-1))]) (st' := [.int (-1)]) (h' := (shT, fi, fl, fr)) rfl ?_
      refine gp_of (fun _ k9 => g_ift rfl (show ((-1) : Int32) < (0 : Int32) from by decide) k9) ?_
      refine gp_n 1 (j' := 68) (lv' := [some (.ref 70), some (.int (-1))]) (st' := [.int 0]) (h' := (shT, fi, fl, fr)) rfl ?_
      refine gp_done (g_retz rfl (by decide)) ?_
      rfl
    | some b =>
      have b1 := (qb_p hb).1
      have nb : ¬ nI b < 0 := nI_pos (by omega)
      show Go pmT none cd_218 14 [some (.ref 70), some (.int (nI b))] [] h _
      clear hx hq
      obtain ⟨S, fi, fl, fr⟩ := h
      have hS : S = shT := hI.1
      subst hS
      have c46 : fi 70 46 = 1500 := c46
      refine go_of ?_
      refine gp_n 1 (j' := 15) (lv' := [some (.ref 70), some (.int (nI b))]) (st' := [.int (nI b)]) (h' := (shT, fi, fl, fr)) rfl ?_
      refine gp_of (fun _ k9 => g_iff rfl (show ¬ ((nI b) < (0 : Int32)) from nb) k9) ?_
      refine gp_n 1 (j' := 17) (lv' := [some (.ref 70), some (.int (nI b))]) (st' := [.ref 70]) (h' := (shT, fi, fl, fr)) rfl ?_
      refine gp_of (fun _ k9 => g_getI (x := 1500) rfl (Or.inl rfl) rfl (by decide) (c46) k9) ?_
      refine gp_n 1 (j' := 19) (lv' := [some (.ref 70), some (.int (nI b))]) (st' := [.int 1500, .int 1500]) (h' := (shT, fi, fl, fr)) rfl ?_
      refine gp_of (fun _ k9 => g_ict rfl (show (1500 : Int32) ≤ (1500 : Int32) from by decide) k9) ?_
      refine gp_n 1 (j' := 68) (lv' := [some (.ref 70), some (.int (nI b))]) (st' := [.int 0]) (h' := (shT, fi, fl, fr)) rfl ?_
      refine gp_done (g_retz rfl (by decide)) ?_
      rfl
  | succ w ih =>
    intro t x h ht hn hx hq c46
    have hI := hx.1
    have p6 := pw_6 m (by have := vk.1; omega)
    have lt : ¬ (1500 : Int32) ≤ nI t := nI_ge (b := 1500) (by omega) (by decide)
    have eR : skR a m k c (w + 1) t x = match qb x with
      | none => (t, none)
      | some i => if x.2.2.1 i < 2 ^ m then skR a m k c w (t + 1) (qGo (a_v a).2.1 m (a_v a).2.2 x i) else if skK a m k c (x.2.2.2.1 i) = true then (t + 1, some (x.2.1 i, x.2.2.2.1 i)) else skR a m k c w (t + 1) (qDel x i) := rfl
    cases hb : qb x with
    | none =>
      rw [hb] at eR
      have eR : skR a m k c (w + 1) t x = (t, none) := eR
      rw [eR]
      refine ⟨h, hI, ⟨c46, fun M B z => by cases z⟩, ?_⟩
      show Go pmT none cd_218 14 [some (.ref 70), some (.int (-1))] [] h (some (.int 0), h)
      clear hx hq ih
      obtain ⟨S, fi, fl, fr⟩ := h
      have hS : S = shT := hI.1
      subst hS
      refine go_of ?_
      refine gp_n 1 (j' := 15) (lv' := [some (.ref 70), some (.int (-1))]) (st' := [.int (-1)]) (h' := (shT, fi, fl, fr)) rfl ?_
      refine gp_of (fun _ k9 => g_ift rfl (show ((-1) : Int32) < (0 : Int32) from by decide) k9) ?_
      refine gp_n 1 (j' := 68) (lv' := [some (.ref 70), some (.int (-1))]) (st' := [.int 0]) (h' := (shT, fi, fl, fr)) rfl ?_
      refine gp_done (g_retz rfl (by decide)) ?_
      rfl
    | some b =>
      rw [hb] at eR
      have eR : skR a m k c (w + 1) t x = if x.2.2.1 b < 2 ^ m then skR a m k c w (t + 1) (qGo (a_v a).2.1 m (a_v a).2.2 x b) else if skK a m k c (x.2.2.2.1 b) = true then (t + 1, some (x.2.1 b, x.2.2.2.1 b)) else skR a m k c w (t + 1) (qDel x b) := eR
      obtain ⟨b1, b2, -⟩ := qb_p hb
      have nb : ¬ nI b < 0 := nI_pos (by omega)
      obtain ⟨a1, a2, a3⟩ := hq.1 b b1 b2
      have h1x := mq46 (s := 46) (v := nI (t + 1)) (Or.inl rfl) hx
      obtain ⟨x1, x2, x3⟩ := h1x.2.2.2.2.2.2 b b1
      rw [b2, if_pos rfl] at x2
      have cN := h1x.2.1.1
      have k42 : ph_r h 70 42 = some 87 := hi_r hI rfl rfl (by decide)
      have k43 : ph_r h 70 43 = some 88 := hi_r hI rfl rfl (by decide)
      have k44 : ph_r h 70 44 = some 89 := hi_r hI rfl rfl (by decide)
      have w46 : pm_u2 (ph_i h) 70 46 (nI (t + 1)) 70 46 = nI (t + 1) := u2_eq
      have b31 : b < 3100 := by omega
      show ∃ h', _ ∧ _ ∧ Go pmT none cd_218 14 [some (.ref 70), some (.int (nI b))] [] h (some (.int (b01 (skR a m k c (w + 1) t x).2.isSome)), h')
      by_cases hd : x.2.2.1 b < 2 ^ m
      · rw [eR, if_pos hd]
        obtain ⟨h2, e2, s2, g46⟩ := goM vk hB h1x (by omega) b1 b2 hd
        have q2 := QI_go vk.1 hB hq b1 b2 hd
        have n2 := qGo_n (K := (a_v a).2.1) (m := m) (S := (a_v a).2.2) (x := x) (i := b)
        have bb := bbM_ev vk.1 s2 q2 (by omega)
        obtain ⟨h3, I3, o3, g⟩ := ih (t + 1) _ h2 (by omega) (by omega) s2 q2 (g46.trans w46)
        refine ⟨h3, I3, o3, ?_⟩
        have I2 := s2.1
        have lN : ¬ nI (2 ^ m) ≤ nI (x.2.2.1 b) := nI_ge hd (by omega)
        clear o3 s2 h1x hx ih eR q2 hq a3 g46
        generalize oI (qb (qGo (a_v a).2.1 m (a_v a).2.2 x b)) = e at *
        generalize b01 (skR a m k c w (t + 1) (qGo (a_v a).2.1 m (a_v a).2.2 x b)).2.isSome = res at *
        generalize nI (2 ^ m) = N at *
        generalize x.2.2.1 b = d0 at *
        obtain ⟨S2, fi2, fl2, fr2⟩ := h2
        have s2 : S2 = shT := I2.1
        subst s2
        obtain ⟨S, fi, fl, fr⟩ := h
        have hS : S = shT := hI.1
        subst hS
        have c46 : fi 70 46 = nI t := c46
        have k43 : fr 70 43 = some 88 := k43
        have x2 : pm_u2 fi 70 46 (nI (t + 1)) 88 b = nI d0 := x2
        have cN : pm_u2 fi 70 46 (nI (t + 1)) 70 14 = N := cN
        refine go_of ?_
        refine gp_n 1 (j' := 15) (lv' := [some (.ref 70), some (.int (nI b))]) (st' := [.int (nI b)]) (h' := (shT, fi, fl, fr)) rfl ?_
        refine gp_of (fun _ k9 => g_iff rfl (show ¬ ((nI b) < (0 : Int32)) from nb) k9) ?_
        refine gp_n 1 (j' := 17) (lv' := [some (.ref 70), some (.int (nI b))]) (st' := [.ref 70]) (h' := (shT, fi, fl, fr)) rfl ?_
        refine gp_of (fun _ k9 => g_getI (x := nI t) rfl (Or.inl rfl) rfl (by decide) (c46) k9) ?_
        refine gp_n 1 (j' := 19) (lv' := [some (.ref 70), some (.int (nI b))]) (st' := [.int 1500, .int (nI t)]) (h' := (shT, fi, fl, fr)) rfl ?_
        refine gp_of (fun _ k9 => g_icf rfl (show ¬ ((1500 : Int32) ≤ (nI t)) from lt) k9) ?_
        refine gp_n 2 (j' := 22) (lv' := [some (.ref 70), some (.int (nI b))]) (st' := [.ref 70, .ref 70]) (h' := (shT, fi, fl, fr)) rfl ?_
        refine gp_of (fun _ k9 => g_getI (x := nI t) rfl (Or.inl rfl) rfl (by decide) (c46) k9) ?_
        refine gp_n 2 (j' := 25) (lv' := [some (.ref 70), some (.int (nI b))]) (st' := [.int ((nI t) + 1), .ref 70]) (h' := (shT, fi, fl, fr)) rfl ?_
        rw [nI_1]
        refine gp_of (fun _ k9 => g_putI rfl (Or.inl rfl) rfl (by decide) k9) ?_
        refine gp_n 1 (j' := 27) (lv' := [some (.ref 70), some (.int (nI b))]) (st' := [.ref 70]) (h' := (shT, pm_u2 fi 70 46 (nI (t + 1)), fl, fr)) rfl ?_
        refine gp_of (fun _ k9 => g_getR (q' := 88) rfl rfl (by decide) k43 k9) ?_
        refine gp_n 1 (j' := 29) (lv' := [some (.ref 70), some (.int (nI b))]) (st' := [.int (nI b), .ref 88]) (h' := (shT, pm_u2 fi 70 46 (nI (t + 1)), fl, fr)) rfl ?_
        refine gp_of (fun _ k9 => g_iald (k := b) (x := nI d0) rfl rfl (rfl) (by omega) (by decide) (x2) k9) ?_
        refine gp_n 1 (j' := 31) (lv' := [some (.ref 70), some (.int (nI b))]) (st' := [.ref 70, .int (nI d0)]) (h' := (shT, pm_u2 fi 70 46 (nI (t + 1)), fl, fr)) rfl ?_
        refine gp_of (fun _ k9 => g_getI (x := N) rfl (Or.inl rfl) rfl (by decide) (cN) k9) ?_
        refine gp_of (fun _ k9 => g_icf rfl (show ¬ (N ≤ (nI d0)) from lN) k9) ?_
        refine gp_n 2 (j' := 35) (lv' := [some (.ref 70), some (.int (nI b))]) (st' := [.int (nI b), .ref 70]) (h' := (shT, pm_u2 fi 70 46 (nI (t + 1)), fl, fr)) rfl ?_
        refine gp_of (fun _ k9 => g_callv (y := 222) (as := [.ref 70, .int (nI b)]) (st' := []) rfl rfl (e2) k9) ?_
        refine gp_n 2 (j' := 64) (lv' := [some (.ref 70), some (.int (nI b))]) (st' := [.ref 70]) (h' := (shT, fi2, fl2, fr2)) rfl ?_
        refine gp_of (fun _ k9 => g_call (y := 220) (as := [.ref 70]) (st' := []) rfl rfl (bb) k9) ?_
        refine gp_n 2 (j' := 14) (lv' := [some (.ref 70), some (.int e)]) (st' := []) (h' := (shT, fi2, fl2, fr2)) rfl ?_
        exact gp_done g rfl
      · have ge : nI (2 ^ m) ≤ nI (x.2.2.1 b) := nI_le (by omega) (by omega)
        have hd2 := hd_M (ch := x.2.2.2.1 b) h1x.1 p6.2 vk.2.2.2.2.2.2.1 vk.2.1 h1x.2.1.1 h1x.2.2.1 h1x.2.2.2.1 h1x.2.2.2.2.1 h1x.2.1.2.1
        have hd2 : Ev pmT 201 [.ref 70, .long (x.2.2.2.1 b)] (ph_s h, pm_u2 (ph_i h) 70 46 (nI (t + 1)), ph_l h, ph_r h) (some (.int (b01 (skK a m k c (x.2.2.2.1 b))))) (ph_s h, pm_u2 (ph_i h) 70 46 (nI (t + 1)), ph_l h, ph_r h) := hd2
        rw [eR, if_neg hd]
        cases hk : skK a m k c (x.2.2.2.1 b)
        · rw [hk] at hd2
          have hd2 : Ev pmT 201 [.ref 70, .long (x.2.2.2.1 b)] (ph_s h, pm_u2 (ph_i h) 70 46 (nI (t + 1)), ph_l h, ph_r h) (some (.int 0)) (ph_s h, pm_u2 (ph_i h) 70 46 (nI (t + 1)), ph_l h, ph_r h) := hd2
          rw [if_neg (by decide)]
          have s2 := ddM (b := b) h1x
          have q2 : QI (a_v a).2.1 (2 ^ m) (qDel x b) := QI_del hq
          have bb := bbM_ev vk.1 s2 q2 (show x.1 ≤ 3100 by omega)
          obtain ⟨h3, I3, o3, g⟩ := ih (t + 1) (qDel x b) (dd_h (ph_s h, pm_u2 (ph_i h) 70 46 (nI (t + 1)), ph_l h, ph_r h) b) (by omega) (show x.1 ≤ 2 * (t + 1) + 1 by omega) s2 q2 ((show pm_u2 (pm_u2 (ph_i h) 70 46 (nI (t + 1))) 88 b (-1) 70 46 = pm_u2 (ph_i h) 70 46 (nI (t + 1)) 70 46 from wl_ne (by omega)).trans w46)
          refine ⟨h3, I3, o3, ?_⟩
          have bb : Ev pmT 220 [.ref 70] (ph_s h, pm_u2 (pm_u2 (ph_i h) 70 46 (nI (t + 1))) 88 b (-1), ph_l h, ph_r h) (some (.int (oI (qb (qDel x b))))) (ph_s h, pm_u2 (pm_u2 (ph_i h) 70 46 (nI (t + 1))) 88 b (-1), ph_l h, ph_r h) := bb
          have g : Go pmT none cd_218 14 [some (.ref 70), some (.int (oI (qb (qDel x b))))] [] (ph_s h, pm_u2 (pm_u2 (ph_i h) 70 46 (nI (t + 1))) 88 b (-1), ph_l h, ph_r h) (some (.int (b01 (skR a m k c w (t + 1) (qDel x b)).2.isSome)), h3) := g
          clear o3 s2 h1x hx ih eR q2 hq a3
          generalize oI (qb (qDel x b)) = e at *
          generalize b01 (skR a m k c w (t + 1) (qDel x b)).2.isSome = res at *
          generalize nI (2 ^ m) = N at *
          generalize x.2.2.1 b = d0 at *
          generalize x.2.2.2.1 b = B0 at *
          obtain ⟨S, fi, fl, fr⟩ := h
          have hS : S = shT := hI.1
          subst hS
          have c46 : fi 70 46 = nI t := c46
          have k43 : fr 70 43 = some 88 := k43
          have k42 : fr 70 42 = some 87 := k42
          have x1 : fl 87 b = B0 := x1
          have x2 : pm_u2 fi 70 46 (nI (t + 1)) 88 b = nI d0 := x2
          have cN : pm_u2 fi 70 46 (nI (t + 1)) 70 14 = N := cN
          refine go_of ?_
          refine gp_n 1 (j' := 15) (lv' := [some (.ref 70), some (.int (nI b))]) (st' := [.int (nI b)]) (h' := (shT, fi, fl, fr)) rfl ?_
          refine gp_of (fun _ k9 => g_iff rfl (show ¬ ((nI b) < (0 : Int32)) from nb) k9) ?_
          refine gp_n 1 (j' := 17) (lv' := [some (.ref 70), some (.int (nI b))]) (st' := [.ref 70]) (h' := (shT, fi, fl, fr)) rfl ?_
          refine gp_of (fun _ k9 => g_getI (x := nI t) rfl (Or.inl rfl) rfl (by decide) (c46) k9) ?_
          refine gp_n 1 (j' := 19) (lv' := [some (.ref 70), some (.int (nI b))]) (st' := [.int 1500, .int (nI t)]) (h' := (shT, fi, fl, fr)) rfl ?_
          refine gp_of (fun _ k9 => g_icf rfl (show ¬ ((1500 : Int32) ≤ (nI t)) from lt) k9) ?_
          refine gp_n 2 (j' := 22) (lv' := [some (.ref 70), some (.int (nI b))]) (st' := [.ref 70, .ref 70]) (h' := (shT, fi, fl, fr)) rfl ?_
          refine gp_of (fun _ k9 => g_getI (x := nI t) rfl (Or.inl rfl) rfl (by decide) (c46) k9) ?_
          refine gp_n 2 (j' := 25) (lv' := [some (.ref 70), some (.int (nI b))]) (st' := [.int ((nI t) + 1), .ref 70]) (h' := (shT, fi, fl, fr)) rfl ?_
          rw [nI_1]
          refine gp_of (fun _ k9 => g_putI rfl (Or.inl rfl) rfl (by decide) k9) ?_
          refine gp_n 1 (j' := 27) (lv' := [some (.ref 70), some (.int (nI b))]) (st' := [.ref 70]) (h' := (shT, pm_u2 fi 70 46 (nI (t + 1)), fl, fr)) rfl ?_
          refine gp_of (fun _ k9 => g_getR (q' := 88) rfl rfl (by decide) k43 k9) ?_
          refine gp_n 1 (j' := 29) (lv' := [some (.ref 70), some (.int (nI b))]) (st' := [.int (nI b), .ref 88]) (h' := (shT, pm_u2 fi 70 46 (nI (t + 1)), fl, fr)) rfl ?_
          refine gp_of (fun _ k9 => g_iald (k := b) (x := nI d0) rfl rfl (rfl) (by omega) (by decide) (x2) k9) ?_
          refine gp_n 1 (j' := 31) (lv' := [some (.ref 70), some (.int (nI b))]) (st' := [.ref 70, .int (nI d0)]) (h' := (shT, pm_u2 fi 70 46 (nI (t + 1)), fl, fr)) rfl ?_
          refine gp_of (fun _ k9 => g_getI (x := N) rfl (Or.inl rfl) rfl (by decide) (cN) k9) ?_
          refine gp_of (fun _ k9 => g_ict rfl (show N ≤ (nI d0) from ge) k9) ?_
          refine gp_n 2 (j' := 39) (lv' := [some (.ref 70), some (.int (nI b))]) (st' := [.ref 70, .ref 70]) (h' := (shT, pm_u2 fi 70 46 (nI (t + 1)), fl, fr)) rfl ?_
          refine gp_of (fun _ k9 => g_getR (q' := 87) rfl rfl (by decide) k42 k9) ?_
          refine gp_n 1 (j' := 41) (lv' := [some (.ref 70), some (.int (nI b))]) (st' := [.int (nI b), .ref 87, .ref 70]) (h' := (shT, pm_u2 fi 70 46 (nI (t + 1)), fl, fr)) rfl ?_
          refine gp_of (fun _ k9 => g_lald (k := b) (x := B0) rfl rfl (rfl) (by omega) (by decide) (x1) k9) ?_
          refine gp_of (fun _ k9 => g_call (y := 201) (as := [.ref 70, .long B0]) (st' := []) rfl rfl (hd2) k9) ?_
          refine gp_of (fun _ k9 => g_ift rfl (show (0 : Int32) = (0 : Int32) from by decide) k9) ?_
          refine gp_n 1 (j' := 59) (lv' := [some (.ref 70), some (.int (nI b))]) (st' := [.ref 70]) (h' := (shT, pm_u2 fi 70 46 (nI (t + 1)), fl, fr)) rfl ?_
          refine gp_of (fun _ k9 => g_getR (q' := 88) rfl rfl (by decide) k43 k9) ?_
          refine gp_n 2 (j' := 62) (lv' := [some (.ref 70), some (.int (nI b))]) (st' := [.int (-1), .int (nI b), .ref 88]) (h' := (shT, pm_u2 fi 70 46 (nI (t + 1)), fl, fr)) rfl ?_
          refine gp_of (fun _ k9 => g_iast (k := b) rfl rfl (rfl) (by omega) (by decide) k9) ?_
          refine gp_n 1 (j' := 64) (lv' := [some (.ref 70), some (.int (nI b))]) (st' := [.ref 70]) (h' := (shT, pm_u2 (pm_u2 fi 70 46 (nI (t + 1))) 88 b (-1), fl, fr)) rfl ?_
          refine gp_of (fun _ k9 => g_call (y := 220) (as := [.ref 70]) (st' := []) rfl rfl (bb) k9) ?_
          refine gp_n 2 (j' := 14) (lv' := [some (.ref 70), some (.int e)]) (st' := []) (h' := (shT, pm_u2 (pm_u2 fi 70 46 (nI (t + 1))) 88 b (-1), fl, fr)) rfl ?_
          exact gp_done g rfl
        · rw [hk] at hd2
          have hd2 : Ev pmT 201 [.ref 70, .long (x.2.2.2.1 b)] (ph_s h, pm_u2 (ph_i h) 70 46 (nI (t + 1)), ph_l h, ph_r h) (some (.int 1)) (ph_s h, pm_u2 (ph_i h) 70 46 (nI (t + 1)), ph_l h, ph_r h) := hd2
          rw [if_pos rfl]
          have J := (mq46 (s := 48) (v := nI (x.2.1 b)) (Or.inr rfl) h1x).1
          have J := HI_wl (p := 70) (s := 47) (x := x.2.2.2.1 b) J
          refine ⟨(ph_s h, pm_u2 (pm_u2 (ph_i h) 70 46 (nI (t + 1))) 70 48 (nI (x.2.1 b)), pm_u2 (ph_l h) 70 47 (x.2.2.2.1 b), ph_r h), J, ⟨(show pm_u2 (pm_u2 (ph_i h) 70 46 (nI (t + 1))) 70 48 (nI (x.2.1 b)) 70 46 = nI (t + 1) from (wl_ne (by decide)).trans w46), fun M B z => ?_⟩, ?_⟩
          · have z := Prod.mk.inj (Option.some.inj z)
            rw [← z.1, ← z.2]
            exact ⟨(show pm_u2 (ph_l h) 70 47 (x.2.2.2.1 b) 70 47 = x.2.2.2.1 b from u2_eq), u2_i⟩
          show Go pmT none cd_218 14 _ [] h (some (.int 1), _)
          have x3 : ph_i h 89 b = nI (x.2.1 b) := (hx.2.2.2.2.2.2 b b1).2.2
          have y3 : pm_u2 (ph_i h) 70 46 (nI (t + 1)) 89 b = nI (x.2.1 b) := (wl_ne (by omega)).trans x3
          clear h1x hx ih eR hq a3 J x3
          generalize nI (2 ^ m) = N at *
          generalize x.2.1 b = M0 at *
          generalize x.2.2.1 b = d0 at *
          generalize x.2.2.2.1 b = B0 at *
          obtain ⟨S, fi, fl, fr⟩ := h
          have hS : S = shT := hI.1
          subst hS
          have c46 : fi 70 46 = nI t := c46
          have k43 : fr 70 43 = some 88 := k43
          have k42 : fr 70 42 = some 87 := k42
          have k44 : fr 70 44 = some 89 := k44
          have x1 : fl 87 b = B0 := x1
          have x2 : pm_u2 fi 70 46 (nI (t + 1)) 88 b = nI d0 := x2
          have cN : pm_u2 fi 70 46 (nI (t + 1)) 70 14 = N := cN
          refine go_of ?_
          refine gp_n 1 (j' := 15) (lv' := [some (.ref 70), some (.int (nI b))]) (st' := [.int (nI b)]) (h' := (shT, fi, fl, fr)) rfl ?_
          refine gp_of (fun _ k9 => g_iff rfl (show ¬ ((nI b) < (0 : Int32)) from nb) k9) ?_
          refine gp_n 1 (j' := 17) (lv' := [some (.ref 70), some (.int (nI b))]) (st' := [.ref 70]) (h' := (shT, fi, fl, fr)) rfl ?_
          refine gp_of (fun _ k9 => g_getI (x := nI t) rfl (Or.inl rfl) rfl (by decide) (c46) k9) ?_
          refine gp_n 1 (j' := 19) (lv' := [some (.ref 70), some (.int (nI b))]) (st' := [.int 1500, .int (nI t)]) (h' := (shT, fi, fl, fr)) rfl ?_
          refine gp_of (fun _ k9 => g_icf rfl (show ¬ ((1500 : Int32) ≤ (nI t)) from lt) k9) ?_
          refine gp_n 2 (j' := 22) (lv' := [some (.ref 70), some (.int (nI b))]) (st' := [.ref 70, .ref 70]) (h' := (shT, fi, fl, fr)) rfl ?_
          refine gp_of (fun _ k9 => g_getI (x := nI t) rfl (Or.inl rfl) rfl (by decide) (c46) k9) ?_
          refine gp_n 2 (j' := 25) (lv' := [some (.ref 70), some (.int (nI b))]) (st' := [.int ((nI t) + 1), .ref 70]) (h' := (shT, fi, fl, fr)) rfl ?_
          rw [nI_1]
          refine gp_of (fun _ k9 => g_putI rfl (Or.inl rfl) rfl (by decide) k9) ?_
          refine gp_n 1 (j' := 27) (lv' := [some (.ref 70), some (.int (nI b))]) (st' := [.ref 70]) (h' := (shT, pm_u2 fi 70 46 (nI (t + 1)), fl, fr)) rfl ?_
          refine gp_of (fun _ k9 => g_getR (q' := 88) rfl rfl (by decide) k43 k9) ?_
          refine gp_n 1 (j' := 29) (lv' := [some (.ref 70), some (.int (nI b))]) (st' := [.int (nI b), .ref 88]) (h' := (shT, pm_u2 fi 70 46 (nI (t + 1)), fl, fr)) rfl ?_
          refine gp_of (fun _ k9 => g_iald (k := b) (x := nI d0) rfl rfl (rfl) (by omega) (by decide) (x2) k9) ?_
          refine gp_n 1 (j' := 31) (lv' := [some (.ref 70), some (.int (nI b))]) (st' := [.ref 70, .int (nI d0)]) (h' := (shT, pm_u2 fi 70 46 (nI (t + 1)), fl, fr)) rfl ?_
          refine gp_of (fun _ k9 => g_getI (x := N) rfl (Or.inl rfl) rfl (by decide) (cN) k9) ?_
          refine gp_of (fun _ k9 => g_ict rfl (show N ≤ (nI d0) from ge) k9) ?_
          refine gp_n 2 (j' := 39) (lv' := [some (.ref 70), some (.int (nI b))]) (st' := [.ref 70, .ref 70]) (h' := (shT, pm_u2 fi 70 46 (nI (t + 1)), fl, fr)) rfl ?_
          refine gp_of (fun _ k9 => g_getR (q' := 87) rfl rfl (by decide) k42 k9) ?_
          refine gp_n 1 (j' := 41) (lv' := [some (.ref 70), some (.int (nI b))]) (st' := [.int (nI b), .ref 87, .ref 70]) (h' := (shT, pm_u2 fi 70 46 (nI (t + 1)), fl, fr)) rfl ?_
          refine gp_of (fun _ k9 => g_lald (k := b) (x := B0) rfl rfl (rfl) (by omega) (by decide) (x1) k9) ?_
          refine gp_of (fun _ k9 => g_call (y := 201) (as := [.ref 70, .long B0]) (st' := []) rfl rfl (hd2) k9) ?_
          refine gp_of (fun _ k9 => g_iff rfl (show ¬ ((1 : Int32) = (0 : Int32)) from by decide) k9) ?_
          refine gp_n 2 (j' := 46) (lv' := [some (.ref 70), some (.int (nI b))]) (st' := [.ref 70, .ref 70]) (h' := (shT, pm_u2 fi 70 46 (nI (t + 1)), fl, fr)) rfl ?_
          refine gp_of (fun _ k9 => g_getR (q' := 87) rfl rfl (by decide) k42 k9) ?_
          refine gp_n 1 (j' := 48) (lv' := [some (.ref 70), some (.int (nI b))]) (st' := [.int (nI b), .ref 87, .ref 70]) (h' := (shT, pm_u2 fi 70 46 (nI (t + 1)), fl, fr)) rfl ?_
          refine gp_of (fun _ k9 => g_lald (k := b) (x := B0) rfl rfl (rfl) (by omega) (by decide) (x1) k9) ?_
          refine gp_of (fun _ k9 => g_putL rfl rfl (by decide) k9) ?_
          refine gp_n 2 (j' := 52) (lv' := [some (.ref 70), some (.int (nI b))]) (st' := [.ref 70, .ref 70]) (h' := (shT, pm_u2 fi 70 46 (nI (t + 1)), pm_u2 fl 70 47 B0, fr)) rfl ?_
          refine gp_of (fun _ k9 => g_getR (q' := 89) rfl rfl (by decide) k44 k9) ?_
          refine gp_n 1 (j' := 54) (lv' := [some (.ref 70), some (.int (nI b))]) (st' := [.int (nI b), .ref 89, .ref 70]) (h' := (shT, pm_u2 fi 70 46 (nI (t + 1)), pm_u2 fl 70 47 B0, fr)) rfl ?_
          refine gp_of (fun _ k9 => g_iald (k := b) (x := nI M0) rfl rfl (rfl) (by omega) (by decide) (y3) k9) ?_
          refine gp_of (fun _ k9 => g_putI rfl (Or.inl rfl) rfl (by decide) k9) ?_
          refine gp_n 1 (j' := 57) (lv' := [some (.ref 70), some (.int (nI b))]) (st' := [.int 1]) (h' := (shT, pm_u2 (pm_u2 fi 70 46 (nI (t + 1))) 70 48 (nI M0), pm_u2 fl 70 47 B0, fr)) rfl ?_
          refine gp_done (g_retz rfl (by decide)) ?_
          rfl
theorem skM_ev {h : PmH} {a : AB} {m k c : Nat} (hr : REL2 h a) (vk : VK (a_v a) m k c) (hB : ∀ s, s < 64 → -127 ≤ ((a_v a).2.2 s).toInt ∧ ((a_v a).2.2 s).toInt ≤ 127) : ∃ h', Ev pmT 218 [.ref 70] h (some (.int (b01 (skR a m k c 1500 0 q_0).2.isSome))) h' ∧ HI hdT shT h' ∧ skP (skR a m k c 1500 0 q_0) h' ∧ fram (in_w iM_seeks) h h' := by
  have hI := hr.1.1
  have p6 := pw_6 m (by have := vk.1; omega)
  have f := hr.1.2.2.1.2.2.2.2.1
  have J := hd70 (c := 45) (x := 0) hI rfl
  have J := hd70 (c := 46) (x := 0) J rfl
  have J : HI hdT shT (ph_s h, pm_u2 (pm_u2 (ph_i h) 70 45 0) 70 46 0, ph_l h, ph_r h) := J
  have wu : ∀ p s, ¬ (p = 70 ∧ s = 45) → ¬ (p = 70 ∧ s = 46) → pm_u2 (pm_u2 (ph_i h) 70 45 0) 70 46 0 p s = ph_i h p s := fun p s z1 z2 => (wl_ne z2).trans (wl_ne z1)
  have w45 : pm_u2 (pm_u2 (ph_i h) 70 45 0) 70 46 0 70 45 = 0 := (wl_ne (by decide)).trans u2_eq
  have w46 : pm_u2 (pm_u2 (ph_i h) 70 45 0) 70 46 0 70 46 = 0 := u2_eq
  have s0 : mqI a m k c ((0, (fun _ => 0), (fun _ => 0), (fun _ => 0), fun _ => false) : SQ) (ph_s h, pm_u2 (pm_u2 (ph_i h) 70 45 0) 70 46 0, ph_l h, ph_r h) := ⟨J, ⟨(wu 70 14 (by decide) (by decide)).trans ((f.1 0 (by decide)).trans vk.2.2.2.1), (f.2 rfl).1, fun s hs => (wu 74 s (by omega) (by omega)).trans ((f.2 rfl).2 s (by omega))⟩, (wu 70 16 (by decide) (by decide)).trans ((f.1 2 (by decide)).trans vk.2.2.2.2.1), (wu 70 17 (by decide) (by decide)).trans ((f.1 3 (by decide)).trans vk.2.2.2.2.2.1), (wu 70 18 (by decide) (by decide)).trans (f.1 4 (by decide)), w45, fun j hj => absurd hj (Nat.not_lt_zero j)⟩
  obtain ⟨e1, s1⟩ := bgM (M := 0) (d := 0) (B := 0) s0 (by decide)
  have e1 : Ev pmT 219 [.ref 70, .long 0, .int 0, .int 0] (ph_s h, pm_u2 (pm_u2 (ph_i h) 70 45 0) 70 46 0, ph_l h, ph_r h) none _ := e1
  have g46 : ph_i (bg_h (ph_s h, pm_u2 (pm_u2 (ph_i h) 70 45 0) 70 46 0, ph_l h, ph_r h) 0 0 (nI 0) (nI 0)) 70 46 = nI 0 := (bg_o (by decide) (by decide) (by decide)).trans w46
  have s1 : mqI a m k c q_0 (bg_h (ph_s h, pm_u2 (pm_u2 (ph_i h) 70 45 0) 70 46 0, ph_l h, ph_r h) 0 0 (nI 0) (nI 0)) := s1
  have e1 : Ev pmT 219 [.ref 70, .long 0, .int 0, .int 0] (ph_s h, pm_u2 (pm_u2 (ph_i h) 70 45 0) 70 46 0, ph_l h, ph_r h) none (bg_h (ph_s h, pm_u2 (pm_u2 (ph_i h) 70 45 0) 70 46 0, ph_l h, ph_r h) 0 0 (nI 0) (nI 0)) := e1
  generalize bg_h (ph_s h, pm_u2 (pm_u2 (ph_i h) 70 45 0) 70 46 0, ph_l h, ph_r h) 0 0 (nI 0) (nI 0) = h1 at *
  have bb := bbM_ev vk.1 s1 QI_0 (by decide)
  obtain ⟨h2, I2, o2, g⟩ := skM_go vk hB 1500 0 q_0 h1 (by decide) (by decide) s1 QI_0 g46
  obtain ⟨v, h', e3, I3, F3, -⟩ := iv_ev vM_seeks (as := [.ref 70]) rfl (fun _ _ => gz_c (gz_r (by decide)) gz_n) hI
  have e2 : Ev pmT 218 [.ref 70] h (some (.int (b01 (skR a m k c 1500 0 q_0).2.isSome))) h2 := by
    have I1 := s1.1
    clear s0 s1 o2 J wu w45 w46 f hr e3
    generalize b01 (skR a m k c 1500 0 q_0).2.isSome = res at *
    generalize oI (qb q_0) = e at *
    refine Ev.of (es := cd_218) (ml := 2) (lv := [some (.ref 70), none]) rfl rfl rfl ?_
    obtain ⟨S1, fi1, fl1, fr1⟩ := h1
    have s1 : S1 = shT := I1.1
    subst s1
    obtain ⟨S, fi, fl, fr⟩ := h
    have hS : S = shT := hI.1
    subst hS
    refine go_of ?_
    refine gp_n 2 (j' := 2) (lv' := [some (.ref 70), none]) (st' := [.int 0, .ref 70]) (h' := (shT, fi, fl, fr)) rfl ?_
    refine gp_of (fun _ k9 => g_putI rfl (Or.inl rfl) rfl (by decide) k9) ?_
    refine gp_n 2 (j' := 5) (lv' := [some (.ref 70), none]) (st' := [.int 0, .ref 70]) (h' := (shT, pm_u2 fi 70 45 0, fl, fr)) rfl ?_
    refine gp_of (fun _ k9 => g_putI rfl (Or.inl rfl) rfl (by decide) k9) ?_
    refine gp_n 4 (j' := 10) (lv' := [some (.ref 70), none]) (st' := [.int 0, .int 0, .long 0, .ref 70]) (h' := (shT, pm_u2 (pm_u2 fi 70 45 0) 70 46 0, fl, fr)) rfl ?_
    refine gp_of (fun _ k9 => g_callv (y := 219) (as := [.ref 70, .long 0, .int 0, .int 0]) (st' := []) rfl rfl (e1) k9) ?_
    refine gp_n 1 (j' := 12) (lv' := [some (.ref 70), none]) (st' := [.ref 70]) (h' := (shT, fi1, fl1, fr1)) rfl ?_
    refine gp_of (fun _ k9 => g_call (y := 220) (as := [.ref 70]) (st' := []) rfl rfl (bb) k9) ?_
    refine gp_n 1 (j' := 14) (lv' := [some (.ref 70), some (.int e)]) (st' := []) (h' := (shT, fi1, fl1, fr1)) rfl ?_
    exact gp_done g rfl
  obtain ⟨y1, y2⟩ := ev_det e2 e3
  subst y2
  exact ⟨h2, e2, I2, o2, F3⟩
theorem sk_M {h : PmH} {a : AB} {m k c w : Nat} (hr : REL2 h a) (h0 : 0 < (a_v a).1 1) (vk : VK (a_v a) m k c) (hB : ∀ s, s < 64 → -127 ≤ ((a_v a).2.2 s).toInt ∧ ((a_v a).2.2 s).toInt ≤ 127) (hw : w < 2) : ∃ h', Ev pmT 217 [.ref 70, .int (nI w)] h (some (.int (skV a m k c w))) h' := by
  have hI := hr.1.1
  have c0 : ph_i h 70 14 = (a_v a).1 1 := hr.1.2.2.1.2.2.2.2.1.1 0 (by decide)
  have t1 := isc1 hI c0 h0
  obtain ⟨h1, e1, I1, ⟨o1, o3⟩, -⟩ := skM_ev hr vk hB
  refine ⟨h1, ?_⟩
  have hw : w = 0 ∨ w = 1 := by omega
  have isi := fun (x : Int32) h => isin_1 (x := x) 0 1 (l1 := 0) (l2 := 1) (h := h) (by decide) (by decide)
  clear hr
  unfold skV
  generalize skR a m k c 1500 0 q_0 = R at *
  obtain ⟨R1, R2⟩ := R
  have o1 : ph_i h1 70 46 = nI R1 := o1
  cases R2 with
  | none =>
    have e1 : Ev pmT 218 [.ref 70] h (some (.int 0)) h1 := e1
    obtain ⟨S1, fi1, fl1, fr1⟩ := h1
    have s1 : S1 = shT := I1.1
    subst s1
    obtain ⟨S, fi, fl, fr⟩ := h
    have hS : S = shT := hI.1
    subst hS
    show Ev pmT 217 _ _ (some (.int (-3))) _
    rcases hw with rfl | rfl
    · have isw := isi 0 (shT, fi, fl, fr) (by decide)
      refine Ev.of (es := cd_217) (ml := 2) (lv := [some (.ref 70), some (.int 0)]) rfl rfl rfl ?_
      refine go_of ?_
      refine gp_n 1 (j' := 1) (lv' := [some (.ref 70), some (.int 0)]) (st' := [.ref 70]) (h' := (shT, fi, fl, fr)) rfl ?_
      refine gp_of (fun _ k9 => g_call (y := 172) (as := [.ref 70]) (st' := []) rfl rfl (t1) k9) ?_
      refine gp_of (fun _ k9 => g_iff rfl (show ¬ ((1 : Int32) = (0 : Int32)) from by decide) k9) ?_
      refine gp_n 4 (j' := 7) (lv' := [some (.ref 70), some (.int 0)]) (st' := [.long 1, .long 0, .long 0]) (h' := (shT, fi, fl, fr)) rfl ?_
      refine gp_of (fun _ k9 => g_call (y := 148) (as := [.long 0, .long 0, .long 1]) (st' := []) rfl rfl (isw) k9) ?_
      refine gp_of (fun _ k9 => g_ift rfl (show ¬ (1 : Int32) = (0 : Int32) from by decide) k9) ?_
      refine gp_n 1 (j' := 12) (lv' := [some (.ref 70), some (.int 0)]) (st' := [.ref 70]) (h' := (shT, fi, fl, fr)) rfl ?_
      refine gp_of (fun _ k9 => g_call (y := 218) (as := [.ref 70]) (st' := []) rfl rfl (e1) k9) ?_
      refine gp_of (fun _ k9 => g_iff rfl (show ¬ (¬ (0 : Int32) = (0 : Int32)) from by decide) k9) ?_
      refine gp_n 1 (j' := 15) (lv' := [some (.ref 70), some (.int 0)]) (st' := [.int (-3)]) (h' := (shT, fi1, fl1, fr1)) rfl ?_
      refine gp_done (g_ret rfl) ?_
      rfl
    · have isw := isi 1 (shT, fi, fl, fr) (by decide)
      refine Ev.of (es := cd_217) (ml := 2) (lv := [some (.ref 70), some (.int 1)]) rfl rfl rfl ?_
      refine go_of ?_
      refine gp_n 1 (j' := 1) (lv' := [some (.ref 70), some (.int 1)]) (st' := [.ref 70]) (h' := (shT, fi, fl, fr)) rfl ?_
      refine gp_of (fun _ k9 => g_call (y := 172) (as := [.ref 70]) (st' := []) rfl rfl (t1) k9) ?_
      refine gp_of (fun _ k9 => g_iff rfl (show ¬ ((1 : Int32) = (0 : Int32)) from by decide) k9) ?_
      refine gp_n 4 (j' := 7) (lv' := [some (.ref 70), some (.int 1)]) (st' := [.long 1, .long 0, .long 1]) (h' := (shT, fi, fl, fr)) rfl ?_
      refine gp_of (fun _ k9 => g_call (y := 148) (as := [.long 1, .long 0, .long 1]) (st' := []) rfl rfl (isw) k9) ?_
      refine gp_of (fun _ k9 => g_ift rfl (show ¬ (1 : Int32) = (0 : Int32) from by decide) k9) ?_
      refine gp_n 1 (j' := 12) (lv' := [some (.ref 70), some (.int 1)]) (st' := [.ref 70]) (h' := (shT, fi, fl, fr)) rfl ?_
      refine gp_of (fun _ k9 => g_call (y := 218) (as := [.ref 70]) (st' := []) rfl rfl (e1) k9) ?_
      refine gp_of (fun _ k9 => g_iff rfl (show ¬ (¬ (0 : Int32) = (0 : Int32)) from by decide) k9) ?_
      refine gp_n 1 (j' := 15) (lv' := [some (.ref 70), some (.int 1)]) (st' := [.int (-3)]) (h' := (shT, fi1, fl1, fr1)) rfl ?_
      refine gp_done (g_ret rfl) ?_
      rfl
  | some r =>
    obtain ⟨M, B⟩ := r
    have e1 : Ev pmT 218 [.ref 70] h (some (.int 1)) h1 := e1
    obtain ⟨-, o4⟩ := o3 M B rfl
    obtain ⟨S1, fi1, fl1, fr1⟩ := h1
    have s1 : S1 = shT := I1.1
    subst s1
    have o1 : fi1 70 46 = nI R1 := o1
    have o4 : fi1 70 48 = nI M := o4
    obtain ⟨S, fi, fl, fr⟩ := h
    have hS : S = shT := hI.1
    subst hS
    rcases hw with rfl | rfl
    · show Ev pmT 217 [.ref 70, .int 0] _ (some (.int (nI M))) _
      have isw := isi 0 (shT, fi, fl, fr) (by decide)
      refine Ev.of (es := cd_217) (ml := 2) (lv := [some (.ref 70), some (.int 0)]) rfl rfl rfl ?_
      refine go_of ?_
      refine gp_n 1 (j' := 1) (lv' := [some (.ref 70), some (.int 0)]) (st' := [.ref 70]) (h' := (shT, fi, fl, fr)) rfl ?_
      refine gp_of (fun _ k9 => g_call (y := 172) (as := [.ref 70]) (st' := []) rfl rfl (t1) k9) ?_
      refine gp_of (fun _ k9 => g_iff rfl (show ¬ ((1 : Int32) = (0 : Int32)) from by decide) k9) ?_
      refine gp_n 4 (j' := 7) (lv' := [some (.ref 70), some (.int 0)]) (st' := [.long 1, .long 0, .long 0]) (h' := (shT, fi, fl, fr)) rfl ?_
      refine gp_of (fun _ k9 => g_call (y := 148) (as := [.long 0, .long 0, .long 1]) (st' := []) rfl rfl (isw) k9) ?_
      refine gp_of (fun _ k9 => g_ift rfl (show ¬ (1 : Int32) = (0 : Int32) from by decide) k9) ?_
      refine gp_n 1 (j' := 12) (lv' := [some (.ref 70), some (.int 0)]) (st' := [.ref 70]) (h' := (shT, fi, fl, fr)) rfl ?_
      refine gp_of (fun _ k9 => g_call (y := 218) (as := [.ref 70]) (st' := []) rfl rfl (e1) k9) ?_
      refine gp_of (fun _ k9 => g_ift rfl (show ¬ (1 : Int32) = (0 : Int32) from by decide) k9) ?_
      refine gp_n 1 (j' := 17) (lv' := [some (.ref 70), some (.int 0)]) (st' := [.int 0]) (h' := (shT, fi1, fl1, fr1)) rfl ?_
      refine gp_of (fun _ k9 => g_iff rfl (show ¬ (¬ (0 : Int32) = (0 : Int32)) from by decide) k9) ?_
      refine gp_n 1 (j' := 19) (lv' := [some (.ref 70), some (.int 0)]) (st' := [.ref 70]) (h' := (shT, fi1, fl1, fr1)) rfl ?_
      refine gp_of (fun _ k9 => g_getI (x := nI M) rfl (Or.inl rfl) rfl (by decide) (o4) k9) ?_
      refine gp_n 1 (j' := 23) (lv' := [some (.ref 70), some (.int 0)]) (st' := [.int (nI M)]) (h' := (shT, fi1, fl1, fr1)) rfl ?_
      refine gp_done (g_ret rfl) ?_
      rfl
    · show Ev pmT 217 [.ref 70, .int 1] _ (some (.int (nI R1))) _
      have isw := isi 1 (shT, fi, fl, fr) (by decide)
      refine Ev.of (es := cd_217) (ml := 2) (lv := [some (.ref 70), some (.int 1)]) rfl rfl rfl ?_
      refine go_of ?_
      refine gp_n 1 (j' := 1) (lv' := [some (.ref 70), some (.int 1)]) (st' := [.ref 70]) (h' := (shT, fi, fl, fr)) rfl ?_
      refine gp_of (fun _ k9 => g_call (y := 172) (as := [.ref 70]) (st' := []) rfl rfl (t1) k9) ?_
      refine gp_of (fun _ k9 => g_iff rfl (show ¬ ((1 : Int32) = (0 : Int32)) from by decide) k9) ?_
      refine gp_n 4 (j' := 7) (lv' := [some (.ref 70), some (.int 1)]) (st' := [.long 1, .long 0, .long 1]) (h' := (shT, fi, fl, fr)) rfl ?_
      refine gp_of (fun _ k9 => g_call (y := 148) (as := [.long 1, .long 0, .long 1]) (st' := []) rfl rfl (isw) k9) ?_
      refine gp_of (fun _ k9 => g_ift rfl (show ¬ (1 : Int32) = (0 : Int32) from by decide) k9) ?_
      refine gp_n 1 (j' := 12) (lv' := [some (.ref 70), some (.int 1)]) (st' := [.ref 70]) (h' := (shT, fi, fl, fr)) rfl ?_
      refine gp_of (fun _ k9 => g_call (y := 218) (as := [.ref 70]) (st' := []) rfl rfl (e1) k9) ?_
      refine gp_of (fun _ k9 => g_ift rfl (show ¬ (1 : Int32) = (0 : Int32) from by decide) k9) ?_
      refine gp_n 1 (j' := 17) (lv' := [some (.ref 70), some (.int 1)]) (st' := [.int 1]) (h' := (shT, fi1, fl1, fr1)) rfl ?_
      refine gp_of (fun _ k9 => g_ift rfl (show ¬ (1 : Int32) = (0 : Int32) from by decide) k9) ?_
      refine gp_n 1 (j' := 22) (lv' := [some (.ref 70), some (.int 1)]) (st' := [.ref 70]) (h' := (shT, fi1, fl1, fr1)) rfl ?_
      refine gp_of (fun _ k9 => g_getI (x := nI R1) rfl (Or.inl rfl) rfl (by decide) (o1) k9) ?_
      refine gp_done (g_ret rfl) ?_
      rfl
theorem sw_M {h : PmH} {a : AB} {m k c : Nat} (hr : REL2 h a) (h0 : 0 < (a_v a).1 1) (vk : VK (a_v a) m k c) (hB : ∀ s, s < 64 → -127 ≤ ((a_v a).2.2 s).toInt ∧ ((a_v a).2.2 s).toInt ≤ 127) : ∃ h', Ev pmT 223 [.ref 70] h (some (.long (skW a m k c))) h' := by
  have hI := hr.1.1
  have c0 : ph_i h 70 14 = (a_v a).1 1 := hr.1.2.2.1.2.2.2.2.1.1 0 (by decide)
  have t1 := isc1 hI c0 h0
  obtain ⟨h1, e1, I1, ⟨o1, o3⟩, F1⟩ := skM_ev hr vk hB
  have r1 : REL2 h1 a := q_fr (by decide) (by decide) I1 F1 hr
  have mo := fun ch => mo_M2 r1 vk ch
  refine ⟨h1, ?_⟩
  clear hr r1 F1
  unfold skW
  generalize skR a m k c 1500 0 q_0 = R at *
  obtain ⟨R1, R2⟩ := R
  cases R2 with
  | none =>
    have e1 : Ev pmT 218 [.ref 70] h (some (.int 0)) h1 := e1
    obtain ⟨S1, fi1, fl1, fr1⟩ := h1
    have s1 : S1 = shT := I1.1
    subst s1
    obtain ⟨S, fi, fl, fr⟩ := h
    have hS : S = shT := hI.1
    subst hS
    show Ev pmT 223 _ _ (some (.long (-1))) _
    refine Ev.of (es := cd_223) (ml := 1) (lv := [some (.ref 70)]) rfl rfl rfl ?_
    refine go_of ?_
    refine gp_n 1 (j' := 1) (lv' := [some (.ref 70)]) (st' := [.ref 70]) (h' := (shT, fi, fl, fr)) rfl ?_
    refine gp_of (fun _ k9 => g_call (y := 172) (as := [.ref 70]) (st' := []) rfl rfl (t1) k9) ?_
    refine gp_of (fun _ k9 => g_iff rfl (show ¬ ((1 : Int32) = (0 : Int32)) from by decide) k9) ?_
    refine gp_n 1 (j' := 4) (lv' := [some (.ref 70)]) (st' := [.ref 70]) (h' := (shT, fi, fl, fr)) rfl ?_
    refine gp_of (fun _ k9 => g_call (y := 218) (as := [.ref 70]) (st' := []) rfl rfl (e1) k9) ?_
    refine gp_of (fun _ k9 => g_ift rfl (show (0 : Int32) = (0 : Int32) from by decide) k9) ?_
    refine gp_n 1 (j' := 12) (lv' := [some (.ref 70)]) (st' := [.long (-1)]) (h' := (shT, fi1, fl1, fr1)) rfl ?_
    refine gp_done (g_lret rfl) ?_
    rfl
  | some r =>
    obtain ⟨M, B⟩ := r
    have e1 : Ev pmT 218 [.ref 70] h (some (.int 1)) h1 := e1
    obtain ⟨o4, -⟩ := o3 M B rfl
    show Ev pmT 223 _ _ (some (.long (mgW (a_v a).2.1 (2 ^ m) k B))) _
    have mo := mo B
    generalize mgW (a_v a).2.1 (2 ^ m) k B = mv at *
    obtain ⟨S1, fi1, fl1, fr1⟩ := h1
    have s1 : S1 = shT := I1.1
    subst s1
    have o4 : fl1 70 47 = B := o4
    obtain ⟨S, fi, fl, fr⟩ := h
    have hS : S = shT := hI.1
    subst hS
    refine Ev.of (es := cd_223) (ml := 1) (lv := [some (.ref 70)]) rfl rfl rfl ?_
    refine go_of ?_
    refine gp_n 1 (j' := 1) (lv' := [some (.ref 70)]) (st' := [.ref 70]) (h' := (shT, fi, fl, fr)) rfl ?_
    refine gp_of (fun _ k9 => g_call (y := 172) (as := [.ref 70]) (st' := []) rfl rfl (t1) k9) ?_
    refine gp_of (fun _ k9 => g_iff rfl (show ¬ ((1 : Int32) = (0 : Int32)) from by decide) k9) ?_
    refine gp_n 1 (j' := 4) (lv' := [some (.ref 70)]) (st' := [.ref 70]) (h' := (shT, fi, fl, fr)) rfl ?_
    refine gp_of (fun _ k9 => g_call (y := 218) (as := [.ref 70]) (st' := []) rfl rfl (e1) k9) ?_
    refine gp_of (fun _ k9 => g_iff rfl (show ¬ ((1 : Int32) = (0 : Int32)) from by decide) k9) ?_
    refine gp_n 2 (j' := 8) (lv' := [some (.ref 70)]) (st' := [.ref 70, .ref 70]) (h' := (shT, fi1, fl1, fr1)) rfl ?_
    refine gp_of (fun _ k9 => g_getL (x := B) rfl rfl (by decide) (o4) k9) ?_
    refine gp_of (fun _ k9 => g_call (y := 202) (as := [.ref 70, .long B]) (st' := []) rfl rfl (mo) k9) ?_
    refine gp_n 1 (j' := 12) (lv' := [some (.ref 70)]) (st' := [.long mv]) (h' := (shT, fi1, fl1, fr1)) rfl ?_
    refine gp_done (g_lret rfl) ?_
    rfl
theorem sk_M0 {h : PmH} {a : AB} {x : Int32} (hr : REL2 h a) (hn : ¬ (0 < (a_v a).1 1 ∧ (0 ≤ x ∧ x ≤ 1))) : Ev pmT 217 [.ref 70, .int x] h (some (.int (-1))) h := by
  have hI := hr.1.1
  have c14 : ph_i h 70 14 = (a_v a).1 1 := hr.1.2.2.1.2.2.2.2.1.1 0 (by decide)
  have t1 := isc1 hI c14
  have t0 := isc0 hI c14
  clear hr
  refine Ev.of (es := cd_217) (ml := 2) (lv := [some (.ref 70), some (.int x)]) rfl rfl rfl ?_
  obtain ⟨S, fi, fl, fr⟩ := h
  have hS : S = shT := hI.1
  subst hS
  refine go_of ?_
  by_cases h0 : 0 < (a_v a).1 1
  · have t1 := t1 h0
    have is := isin_0 (x := x) 0 1 (l1 := 0) (l2 := 1) (h := (shT, fi, fl, fr)) (by decide) (by decide) (fun z => hn ⟨h0, z⟩)
    refine gp_n 1 (j' := 1) (lv' := [some (.ref 70), some (.int x)]) (st' := [.ref 70]) (h' := (shT, fi, fl, fr)) rfl ?_
    refine gp_of (fun _ k9 => g_call (y := 172) (as := [.ref 70]) (st' := []) rfl rfl (t1) k9) ?_
    refine gp_of (fun _ k9 => g_iff rfl (show ¬ ((1 : Int32) = (0 : Int32)) from by decide) k9) ?_
    refine gp_n 4 (j' := 7) (lv' := [some (.ref 70), some (.int x)]) (st' := [.long 1, .long 0, .long x.toInt64]) (h' := (shT, fi, fl, fr)) rfl ?_
    refine gp_of (fun _ k9 => g_call (y := 148) (as := [.long x.toInt64, .long 0, .long 1]) (st' := []) rfl rfl (is) k9) ?_
    refine gp_of (fun _ k9 => g_iff rfl (show ¬ (¬ (0 : Int32) = (0 : Int32)) from by decide) k9) ?_
    refine gp_n 1 (j' := 10) (lv' := [some (.ref 70), some (.int x)]) (st' := [.int (-1)]) (h' := (shT, fi, fl, fr)) rfl ?_
    refine gp_done (g_ret rfl) ?_
    rfl
  · have t0 := t0 h0
    refine gp_n 1 (j' := 1) (lv' := [some (.ref 70), some (.int x)]) (st' := [.ref 70]) (h' := (shT, fi, fl, fr)) rfl ?_
    refine gp_of (fun _ k9 => g_call (y := 172) (as := [.ref 70]) (st' := []) rfl rfl (t0) k9) ?_
    refine gp_of (fun _ k9 => g_ift rfl (show (0 : Int32) = (0 : Int32) from by decide) k9) ?_
    refine gp_n 1 (j' := 10) (lv' := [some (.ref 70), some (.int x)]) (st' := [.int (-1)]) (h' := (shT, fi, fl, fr)) rfl ?_
    refine gp_done (g_ret rfl) ?_
    rfl
theorem sw_M0 {h : PmH} {a : AB} (hr : REL2 h a) (hn : ¬ 0 < (a_v a).1 1) : Ev pmT 223 [.ref 70] h (some (.long (-1))) h := by
  have hI := hr.1.1
  have c14 : ph_i h 70 14 = (a_v a).1 1 := hr.1.2.2.1.2.2.2.2.1.1 0 (by decide)
  have t0 := isc0 hI c14 hn
  clear hr
  refine Ev.of (es := cd_223) (ml := 1) (lv := [some (.ref 70)]) rfl rfl rfl ?_
  obtain ⟨S, fi, fl, fr⟩ := h
  have hS : S = shT := hI.1
  subst hS
  refine go_of ?_
  refine gp_n 1 (j' := 1) (lv' := [some (.ref 70)]) (st' := [.ref 70]) (h' := (shT, fi, fl, fr)) rfl ?_
  refine gp_of (fun _ k9 => g_call (y := 172) (as := [.ref 70]) (st' := []) rfl rfl (t0) k9) ?_
  refine gp_of (fun _ k9 => g_ift rfl (show (0 : Int32) = (0 : Int32) from by decide) k9) ?_
  refine gp_n 1 (j' := 12) (lv' := [some (.ref 70)]) (st' := [.long (-1)]) (h' := (shT, fi, fl, fr)) rfl ?_
  refine gp_done (g_lret rfl) ?_
  rfl
theorem p4L {yC yM : Nat} {as : List Value} {h : PmH} {IC : Inst} (vC' : iv pmT hdT shT IC) (eC : in_y IC = yC) (oC : in_o IC = []) (gC : ∀ (lv : PmL) (h' : PmH), gst lv h' ((in_a IC).map nt) (.ref 0 :: as)) (w1 : irC (in_w IC) = true) (w2 : irM (in_w IC) = true) {a : AB} {V : Int64} (hr : REL3 h a) (p : PL3 yC yM as h (fun _ _ => True)) (hC : ∃ h', Ev pmT yC (.ref 0 :: as) h (some (.long V)) h') (hM : ∀ h1, REL2 h1 a → ∃ h', Ev pmT yM (.ref 70 :: as) h1 (some (.long V)) h') : PL3 yC yM as h (fun x y => x = y) := by
  subst eC
  obtain ⟨x, y, h1, h2, a', e1, e2, r, I1, -⟩ := p
  obtain ⟨g1, f1⟩ := hC
  obtain ⟨d1, -⟩ := ev_det f1 e1
  have F1 := (iv_s vC' oC gC hr.1.1.1 e1).2
  obtain ⟨g2, f2⟩ := hM h1 (q_fr w1 w2 I1 F1 hr.1)
  obtain ⟨d2, -⟩ := ev_det f2 e2
  cases d1
  cases d2
  exact ⟨_, _, h1, h2, a', e1, e2, r, I1, rfl⟩
theorem p4_sought {h : PmH} {a : AB} (x : Int32) (hr : REL3 h a) : PI3 117 217 [.int x] h (fun x y => x = y) := by
  by_cases hn : 0 < (a_v a).1 1 ∧ (0 ≤ x ∧ x ≤ 1)
  · obtain ⟨h0, hw⟩ := id hn
    obtain ⟨m, k, c, l, vk, hl, l1, l8⟩ := rd_get hr h0
    have hB := hr.1.2.1.2.1
    obtain ⟨n, n1, rfl⟩ := nI_of2 (n := 1) (M := 1) rfl (Int32.not_lt.mpr hw.1) hw.2
    exact p4I vN_139 rfl rfl (fun _ _ => gz_c (gz_r (by decide)) (gz_c (gz_a _) gz_n)) (by decide) (by decide) hr (p3_sought _ hr) (sk_C hr.1 h0 vk hl hB (by omega)) (fun h1 r1 => sk_M r1 h0 vk hB (by omega))
  · exact p4I vN_139 rfl rfl (fun _ _ => gz_c (gz_r (by decide)) (gz_c (gz_a _) gz_n)) (by decide) (by decide) hr (p3_sought _ hr) ⟨h, sk_C0 hr.1 hn⟩ (fun h1 r1 => ⟨h1, sk_M0 r1 hn⟩)
theorem p4_soughtMessage {h : PmH} {a : AB} (hr : REL3 h a) : PL3 127 223 [] h (fun x y => x = y) := by
  by_cases h0 : 0 < (a_v a).1 1
  · obtain ⟨m, k, c, l, vk, hl, l1, l8⟩ := rd_get hr h0
    have hB := hr.1.2.1.2.1
    exact p4L vN_140 rfl rfl (fun _ _ => gz_c (gz_r (by decide)) gz_n) (by decide) (by decide) hr (p3_soughtMessage hr) (sw_C hr.1 h0 vk hl hB) (fun h1 r1 => sw_M r1 h0 vk hB)
  · exact p4L vN_140 rfl rfl (fun _ _ => gz_c (gz_r (by decide)) gz_n) (by decide) (by decide) hr (p3_soughtMessage hr) ⟨h, sw_C0 hr.1 h0⟩ (fun h1 r1 => ⟨h1, sw_M0 r1 h0⟩)
