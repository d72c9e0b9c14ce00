/-- what flipped answers -/
def flV (a : AB) (m k c w : Nat) : Int32 := if rdD a m k c 1 0 = true then (if w = 0 then 0 else if w = 1 then -1 else if w = 2 then (rdX a m 1).2.2 0 else 1) else (if w = 0 then nI (flR a m k c 12 0 0).1 else if w = 1 then oI (flR a m k c 12 0 0).2 else if w = 2 then (match (flR a m k c 12 0 0).2 with
  | none => (rdX a m 1).2.2 0
  | some F => flM a m F) else b01 (flR a m k c 12 0 0).2.isSome)
theorem fpC_ev {h : PmH} {a : AB} {m k c l : Nat} (hr : REL3 h a) (vk : VK (a_v a) m k c) (hl : (a_v a).1 6 = nI l) (hB : ∀ s, s < 64 → -127 ≤ ((a_v a).2.2 s).toInt ∧ ((a_v a).2.2 s).toInt ≤ 127) : ∃ h', Ev pmT 115 [.ref 32, .ref 1, .ref 13] h none h' ∧ HI hdT shT h' ∧ ∀ w, w < 4 → ph_i h' 32 w = flV a m k c w := by
  have hI := hr.1.1.1
  have k8 : ph_r h 1 8 = some 2 := hi_r hI rfl rfl (by decide)
  obtain ⟨h1, e1, x1, I1, F1⟩ := run_C (most := 1) hr vk (by decide) (by decide)
  have r1 := rd_pair hr vk (by decide) (by decide) x1 I1 F1
  have e1 : Ev pmT 82 [.ref 13, .ref 1, .ref 2, .int 1, .int 0, .int (-1)] h none h1 := e1
  have k3 : ph_r h1 13 3 = some 26 := hi_r I1 rfl rfl (by decide)
  have k4 : ph_r h1 32 4 = some 33 := hi_r I1 rfl rfl (by decide)
  obtain ⟨A, hA, a1, a2, a3, a4, a5⟩ := x1
  have P1 : (rdX a m 1).1 = 1 := by
    have := rd_P (K := (a_v a).2.1) (m := m) (S := (a_v a).2.2) (most := 1) (by decide) (2 ^ m)
    exact Nat.le_antisymm this.2 this.1
  have mm : ph_i h1 (A + 2) 0 = (rdX a m 1).2.2 0 := (a1.2.2.2 0 (show 0 < (rdX a m 1).1 by omega)).2
  have a5 : ph_i h1 13 8 = b01 (hoN (rdD a m k c 1) (rdX a m 1).1) := a5
  rw [P1, ho_1] at a5
  have kA : ∀ A, (A = 14 ∨ A = 18) → ph_r h1 A 2 = some (A + 2) := fun A hA => by
    rcases hA with rfl | rfl
    · exact hi_r I1 rfl rfl (by decide)
    · exact hi_r I1 rfl rfl (by decide)
  have kA := kA A hA
  have ka := a1.1
  have q7 : ph_l h1 1 7 = (a_v a).2.1 := (r1.1.1.2.1.2.2.2.2.1.2 rfl).1
  have p6 := pw_6 m (by have := vk.1; omega)
  have eV : ∀ w, flV a m k c w = if rdD a m k c 1 0 = true then (if w = 0 then 0 else if w = 1 then -1 else if w = 2 then (rdX a m 1).2.2 0 else 1) else (if w = 0 then nI (flR a m k c 12 0 0).1 else if w = 1 then oI (flR a m k c 12 0 0).2 else if w = 2 then (match (flR a m k c 12 0 0).2 with
    | none => (rdX a m 1).2.2 0
    | some F => flM a m F) else b01 (flR a m k c 12 0 0).2.isSome) := fun _ => rfl
  have sn : ∀ i, i < 2 ^ m → ph_i h1 26 i = flS a m i := fun i hi => (a2 i hi).2.2
  generalize (rdX a m 1).2.2 0 = it at *
  have g2 : ∀ (b : Int32) (G : Nat → Nat → Int32), (b = 0 ∨ b = 1) → b = b01 (rdD a m k c 1 0) → G = pm_u2 (pm_u2 (pm_u2 (pm_u2 (ph_i h1) 32 0 0) 32 1 (-1)) 32 2 it) 32 3 b → ∃ h', HI hdT shT h' ∧ (∀ w, w < 4 → ph_i h' 32 w = flV a m k c w) ∧ ∀ l5, Go pmT none cd_115 36 [some (.ref 32), some (.ref 1), some (.ref 13), some (.long (a_v a).2.1), none, l5] [] (ph_s h1, pm_uf G 33 (va_cpy (G 26) (G 33) 0 0 64), ph_l h1, ph_r h1) (none, h') := fun b G hb hbb hG => by
    have w0 : G 32 0 = 0 := by
      rw [hG]
      exact (wl_ne (by decide)).trans ((wl_ne (by decide)).trans ((wl_ne (by decide)).trans u2_eq))
    have w1 : G 32 1 = -1 := by
      rw [hG]
      exact (wl_ne (by decide)).trans ((wl_ne (by decide)).trans u2_eq)
    have w2 : G 32 2 = it := by
      rw [hG]
      exact (wl_ne (by decide)).trans u2_eq
    have w3 : G 32 3 = b := by
      rw [hG]
      exact u2_eq
    have wo : ∀ p s, ¬ p = 32 → G p s = ph_i h1 p s := fun p s z => by
      rw [hG]
      exact (wl_ne (by omega)).trans ((wl_ne (by omega)).trans ((wl_ne (by omega)).trans (wl_ne (by omega))))
    have J := HI_wi (p := 32) (s := 0) (x := 0) I1 (fun y => absurd y (by decide))
    have J := HI_wi (p := 32) (s := 1) (x := -1) J (fun y => absurd y (by decide))
    have J := HI_wi (p := 32) (s := 2) (x := it) J (fun y => absurd y (by decide))
    have J := HI_wi (p := 32) (s := 3) (x := b) J (fun _ => by
      rcases hb with rfl | rfl
      · exact ⟨by decide, by decide⟩
      · exact ⟨by decide, by decide⟩)
    have J : HI hdT shT (ph_s h1, G, ph_l h1, ph_r h1) := by
      rw [hG]
      exact J
    have J := HI_uf33 (g := va_cpy (G 26) (G 33) 0 0 64) J I1.1
    have wu : ∀ p s, ¬ p = 33 → pm_uf G 33 (va_cpy (G 26) (G 33) 0 0 64) p s = G p s := fun p s z => by rw [pm_uf_ne z]
    have w33 : ∀ s, s < 64 → pm_uf G 33 (va_cpy (G 26) (G 33) 0 0 64) 33 s = ph_i h1 26 s := fun s hs => by
      rw [pm_uf_eq, ← wo 26 s (by decide)]
      simp [va_cpy, hs]
    clear hG
    have J : HI hdT shT (ph_s h1, pm_uf G 33 (va_cpy (G 26) (G 33) 0 0 64), ph_l h1, ph_r h1) := J
    generalize pm_uf G 33 (va_cpy (G 26) (G 33) 0 0 64) = V at *
    cases hd : rdD a m k c 1 0
    · rw [hd] at hbb
      have hbb : b = 0 := hbb
      have fI : flI a m k c l 0 it (ph_s h1, V, ph_l h1, ph_r h1) := by
        have f := r1.1.1.2.1.2.2.2.2.1
        refine ⟨RD_r rfl rfl r1.2, ?_, fun s hs => ?_, fun i hi => (w33 i (by omega)).trans (sn i hi), (wu 32 0 (by decide)).trans w0, (wu 32 1 (by decide)).trans w1, (wu 32 2 (by decide)).trans w2, (wu 32 3 (by decide)).trans (w3.trans hbb)⟩
        · have v1 : vC a m k c l h1 := ⟨(f.1 0 (by decide)).trans vk.2.2.1, (f.1 1 (by decide)).trans vk.2.2.2.1, (f.1 2 (by decide)).trans vk.2.2.2.2.1, (f.1 3 (by decide)).trans vk.2.2.2.2.2.1, f.1 4 (by decide), (f.1 6 (by decide)).trans hl, q7⟩
          exact vC_cg (h := h1) (fun s => (wu 1 s (by decide)).trans (wo 1 s (by decide))) (fun _ => rfl) v1
        · exact ((wu 2 s (by decide)).trans (wo 2 s (by decide))).trans ((f.2 rfl).2 s hs)
      obtain ⟨h2, I2, o2, g⟩ := fpC_go (a := a) (l := l) vk hB 12 0 0 (a_v a).2.1 _ (by decide) J fI (fun i hi => by rw [bl_0 i hi]; cases bl (a_v a).2.1 i <;> rfl)
      refine ⟨h2, I2, fun w hw => ?_, g⟩
      rw [eV, hd, if_neg (by decide)]
      obtain ⟨o0, o1, o2, o3⟩ := o2
      have hw : w = 0 ∨ w = 1 ∨ w = 2 ∨ w = 3 := by omega
      rcases hw with rfl | rfl | rfl | rfl
      · exact o0
      · exact o1
      · exact o2
      · exact o3
    · rw [hd] at hbb
      have hbb : b = 1 := hbb
      refine ⟨_, J, fun w hw => ?_, fun l5 => ?_⟩
      · rw [eV, hd, if_pos rfl]
        have hw : w = 0 ∨ w = 1 ∨ w = 2 ∨ w = 3 := by omega
        rcases hw with rfl | rfl | rfl | rfl
        · exact (wu 32 0 (by decide)).trans w0
        · exact (wu 32 1 (by decide)).trans w1
        · exact (wu 32 2 (by decide)).trans w2
        · exact (wu 32 3 (by decide)).trans (w3.trans hbb)
      have c0 : V 32 0 = 0 := (wu 32 0 (by decide)).trans w0
      have c3 : V 32 3 = 1 := (wu 32 3 (by decide)).trans (w3.trans hbb)
      clear w0 w1 w2 w3 wo wu w33 J eV a5
      generalize (a_v a).2.1 = K at *
      obtain ⟨S1, fi1, fl1, fr1⟩ := h1
      have s1 : S1 = shT := I1.1
      subst s1
      refine go_of ?_
      refine gp_n 1 (j' := 37) (lv' := [some (.ref 32), some (.ref 1), some (.ref 13), some (.long K), none, l5]) (st' := [.ref 32]) (h' := (shT, V, fl1, fr1)) rfl ?_
      refine gp_of (fun _ k9 => g_getI (x := 0) rfl (Or.inl rfl) rfl (by decide) (c0) k9) ?_
      refine gp_n 1 (j' := 39) (lv' := [some (.ref 32), some (.ref 1), some (.ref 13), some (.long K), none, l5]) (st' := [.int 12, .int 0]) (h' := (shT, V, fl1, fr1)) rfl ?_
      refine gp_of (fun _ k9 => g_icf rfl (show ¬ ((12 : Int32) ≤ (0 : Int32)) from by decide) k9) ?_
      refine gp_n 3 (j' := 43) (lv' := [some (.ref 32), some (.ref 1), some (.ref 13), some (.long K), none, l5]) (st' := [.int (lg_cmp K 0)]) (h' := (shT, V, fl1, fr1)) rfl ?_
      refine gp_if rfl (fun hc1 => ?_) (fun hc1 => ?_)
      · replace hc1 : (lg_cmp K 0) = (0 : Int32) := hc1
        refine gp_done (g_vret rfl) ?_
        rfl
      · replace hc1 : ¬ ((lg_cmp K 0) = (0 : Int32)) := hc1
        refine gp_n 1 (j' := 45) (lv' := [some (.ref 32), some (.ref 1), some (.ref 13), some (.long K), none, l5]) (st' := [.ref 32]) (h' := (shT, V, fl1, fr1)) rfl ?_
        refine gp_of (fun _ k9 => g_getI (x := 1) rfl (Or.inr rfl) rfl (by decide) (c3) k9) ?_
        refine gp_of (fun _ k9 => g_ift rfl (show ¬ (1 : Int32) = (0 : Int32) from by decide) k9) ?_
        refine gp_done (g_vret rfl) ?_
        rfl
  clear eV sn a2 a3 a4 F1 r1 a1 hr
  generalize rdD a m k c 1 0 = d at *
  have w2 : ∃ b : Int32, (b = 0 ∨ b = 1) ∧ b = b01 d ∧ ph_i h1 13 8 = b := by
    cases d
    · exact ⟨0, Or.inl rfl, rfl, a5⟩
    · exact ⟨1, Or.inr rfl, rfl, a5⟩
  obtain ⟨b, b1, b2, b3⟩ := w2
  obtain ⟨h2, I2, o2, g⟩ := g2 b _ b1 b2 rfl
  refine ⟨h2, ?_, I2, o2⟩
  clear g2 o2
  generalize (a_v a).2.1 = K at *
  refine Ev.of (es := cd_115) (ml := 6) (lv := [some (.ref 32), some (.ref 1), some (.ref 13), none, none, none]) rfl rfl rfl ?_
  obtain ⟨S1, fi1, fl1, fr1⟩ := h1
  have s1 : S1 = shT := I1.1
  subst s1
  have ka : fr1 13 0 = some A := ka
  have kA : fr1 A 2 = some (A + 2) := kA
  have k3 : fr1 13 3 = some 26 := k3
  have k4 : fr1 32 4 = some 33 := k4
  have b3 : fi1 13 8 = b := b3
  have mm : fi1 (A + 2) 0 = it := mm
  have q7 : fl1 1 7 = K := q7
  have b8 : pm_u2 (pm_u2 (pm_u2 fi1 32 0 0) 32 1 (-1)) 32 2 it 13 8 = b := (wl_ne (by decide)).trans ((wl_ne (by decide)).trans ((wl_ne (by decide)).trans b3))
  have m9 : pm_u2 (pm_u2 fi1 32 0 0) 32 1 (-1) (A + 2) 0 = it := (wl_ne (by omega)).trans ((wl_ne (by omega)).trans mm)
  obtain ⟨S, fi, fl, fr⟩ := h
  have hS : S = shT := hI.1
  subst hS
  have k8 : fr 1 8 = some 2 := k8
  refine go_of ?_
  rcases hA with rfl | rfl
  · rcases b1 with z | z
    · subst z
      refine gp_n 3 (j' := 3) (lv' := [some (.ref 32), some (.ref 1), some (.ref 13), none, none, none]) (st' := [.ref 1, .ref 1, .ref 13]) (h' := (shT, fi, fl, fr)) rfl ?_
      refine gp_of (fun _ k9 => g_getR (q' := 2) rfl rfl (by decide) k8 k9) ?_
      refine gp_n 3 (j' := 7) (lv' := [some (.ref 32), some (.ref 1), some (.ref 13), none, none, none]) (st' := [.int (-1), .int 0, .int 1, .ref 2, .ref 1, .ref 13]) (h' := (shT, fi, fl, fr)) rfl ?_
      refine gp_of (fun _ k9 => g_callv (y := 82) (as := [.ref 13, .ref 1, .ref 2, .int 1, .int 0, .int (-1)]) (st' := []) rfl rfl (e1) k9) ?_
      refine gp_n 2 (j' := 10) (lv' := [some (.ref 32), some (.ref 1), some (.ref 13), none, none, none]) (st' := [.int 0, .ref 32]) (h' := (shT, fi1, fl1, fr1)) rfl ?_
      refine gp_of (fun _ k9 => g_putI rfl (Or.inl rfl) rfl (by decide) k9) ?_
      refine gp_n 2 (j' := 13) (lv' := [some (.ref 32), some (.ref 1), some (.ref 13), none, none, none]) (st' := [.int (-1), .ref 32]) (h' := (shT, pm_u2 fi1 32 0 0, fl1, fr1)) rfl ?_
      refine gp_of (fun _ k9 => g_putI rfl (Or.inl rfl) rfl (by decide) k9) ?_
      refine gp_n 2 (j' := 16) (lv' := [some (.ref 32), some (.ref 1), some (.ref 13), none, none, none]) (st' := [.ref 13, .ref 32]) (h' := (shT, pm_u2 (pm_u2 fi1 32 0 0) 32 1 (-1), fl1, fr1)) rfl ?_
      refine gp_of (fun _ k9 => g_getR (q' := 14) rfl rfl (by decide) ka k9) ?_
      refine gp_of (fun _ k9 => g_getR (q' := 16) rfl rfl (by decide) kA k9) ?_
      refine gp_n 1 (j' := 19) (lv' := [some (.ref 32), some (.ref 1), some (.ref 13), none, none, none]) (st' := [.int 0, .ref 16, .ref 32]) (h' := (shT, pm_u2 (pm_u2 fi1 32 0 0) 32 1 (-1), fl1, fr1)) rfl ?_
      refine gp_of (fun _ k9 => g_iald (k := 0) (x := it) rfl rfl (rfl) (by decide) (by decide) (m9) k9) ?_
      refine gp_of (fun _ k9 => g_putI rfl (Or.inl rfl) rfl (by decide) k9) ?_
      refine gp_n 2 (j' := 23) (lv' := [some (.ref 32), some (.ref 1), some (.ref 13), none, none, none]) (st' := [.ref 13, .ref 32]) (h' := (shT, pm_u2 (pm_u2 (pm_u2 fi1 32 0 0) 32 1 (-1)) 32 2 it, fl1, fr1)) rfl ?_
      refine gp_of (fun _ k9 => g_getI (x := 0) rfl (Or.inr rfl) rfl (by decide) (b8) k9) ?_
      refine gp_of (fun _ k9 => g_putI rfl (Or.inr ⟨rfl, by decide⟩) rfl (by decide) k9) ?_
      refine gp_n 1 (j' := 26) (lv' := [some (.ref 32), some (.ref 1), some (.ref 13), none, none, none]) (st' := [.ref 13]) (h' := (shT, pm_u2 (pm_u2 (pm_u2 (pm_u2 fi1 32 0 0) 32 1 (-1)) 32 2 it) 32 3 0, fl1, fr1)) rfl ?_
      refine gp_of (fun _ k9 => g_getR (q' := 26) rfl rfl (by decide) k3 k9) ?_
      refine gp_n 2 (j' := 29) (lv' := [some (.ref 32), some (.ref 1), some (.ref 13), none, none, none]) (st' := [.ref 32, .int 0, .ref 26]) (h' := (shT, pm_u2 (pm_u2 (pm_u2 (pm_u2 fi1 32 0 0) 32 1 (-1)) 32 2 it) 32 3 0, fl1, fr1)) rfl ?_
      refine gp_of (fun _ k9 => g_getR (q' := 33) rfl rfl (by decide) k4 k9) ?_
      refine gp_n 2 (j' := 32) (lv' := [some (.ref 32), some (.ref 1), some (.ref 13), none, none, none]) (st' := [.int 64, .int 0, .ref 33, .int 0, .ref 26]) (h' := (shT, pm_u2 (pm_u2 (pm_u2 (pm_u2 fi1 32 0 0) 32 1 (-1)) 32 2 it) 32 3 0, fl1, fr1)) rfl ?_
      refine gp_of (fun _ k9 => g_cpy rfl rfl rfl k9) ?_
      refine gp_n 1 (j' := 34) (lv' := [some (.ref 32), some (.ref 1), some (.ref 13), none, none, none]) (st' := [.ref 1]) (h' := (shT, (pm_uf (pm_u2 (pm_u2 (pm_u2 (pm_u2 fi1 32 0 0) 32 1 (-1)) 32 2 it) 32 3 0) 33 (va_cpy (pm_u2 (pm_u2 (pm_u2 (pm_u2 fi1 32 0 0) 32 1 (-1)) 32 2 it) 32 3 0 26) (pm_u2 (pm_u2 (pm_u2 (pm_u2 fi1 32 0 0) 32 1 (-1)) 32 2 it) 32 3 0 33) 0 0 64)), fl1, fr1)) rfl ?_
      refine gp_of (fun _ k9 => g_getL (x := K) rfl rfl (by decide) (q7) k9) ?_
      refine gp_n 1 (j' := 36) (lv' := [some (.ref 32), some (.ref 1), some (.ref 13), some (.long K), none, none]) (st' := []) (h' := (shT, (pm_uf (pm_u2 (pm_u2 (pm_u2 (pm_u2 fi1 32 0 0) 32 1 (-1)) 32 2 it) 32 3 0) 33 (va_cpy (pm_u2 (pm_u2 (pm_u2 (pm_u2 fi1 32 0 0) 32 1 (-1)) 32 2 it) 32 3 0 26) (pm_u2 (pm_u2 (pm_u2 (pm_u2 fi1 32 0 0) 32 1 (-1)) 32 2 it) 32 3 0 33) 0 0 64)), fl1, fr1)) rfl ?_
      exact gp_done (g _) rfl
    · subst z
      refine gp_n 3 (j' := 3) (lv' := [some (.ref 32), some (.ref 1), some (.ref 13), none, none, none]) (st' := [.ref 1, .ref 1, .ref 13]) (h' := (shT, fi, fl, fr)) rfl ?_
      refine gp_of (fun _ k9 => g_getR (q' := 2) rfl rfl (by decide) k8 k9) ?_
      refine gp_n 3 (j' := 7) (lv' := [some (.ref 32), some (.ref 1), some (.ref 13), none, none, none]) (st' := [.int (-1), .int 0, .int 1, .ref 2, .ref 1, .ref 13]) (h' := (shT, fi, fl, fr)) rfl ?_
      refine gp_of (fun _ k9 => g_callv (y := 82) (as := [.ref 13, .ref 1, .ref 2, .int 1, .int 0, .int (-1)]) (st' := []) rfl rfl (e1) k9) ?_
      refine gp_n 2 (j' := 10) (lv' := [some (.ref 32), some (.ref 1), some (.ref 13), none, none, none]) (st' := [.int 0, .ref 32]) (h' := (shT, fi1, fl1, fr1)) rfl ?_
      refine gp_of (fun _ k9 => g_putI rfl (Or.inl rfl) rfl (by decide) k9) ?_
      refine gp_n 2 (j' := 13) (lv' := [some (.ref 32), some (.ref 1), some (.ref 13), none, none, none]) (st' := [.int (-1), .ref 32]) (h' := (shT, pm_u2 fi1 32 0 0, fl1, fr1)) rfl ?_
      refine gp_of (fun _ k9 => g_putI rfl (Or.inl rfl) rfl (by decide) k9) ?_
      refine gp_n 2 (j' := 16) (lv' := [some (.ref 32), some (.ref 1), some (.ref 13), none, none, none]) (st' := [.ref 13, .ref 32]) (h' := (shT, pm_u2 (pm_u2 fi1 32 0 0) 32 1 (-1), fl1, fr1)) rfl ?_
      refine gp_of (fun _ k9 => g_getR (q' := 14) rfl rfl (by decide) ka k9) ?_
      refine gp_of (fun _ k9 => g_getR (q' := 16) rfl rfl (by decide) kA k9) ?_
      refine gp_n 1 (j' := 19) (lv' := [some (.ref 32), some (.ref 1), some (.ref 13), none, none, none]) (st' := [.int 0, .ref 16, .ref 32]) (h' := (shT, pm_u2 (pm_u2 fi1 32 0 0) 32 1 (-1), fl1, fr1)) rfl ?_
      refine gp_of (fun _ k9 => g_iald (k := 0) (x := it) rfl rfl (rfl) (by decide) (by decide) (m9) k9) ?_
      refine gp_of (fun _ k9 => g_putI rfl (Or.inl rfl) rfl (by decide) k9) ?_
      refine gp_n 2 (j' := 23) (lv' := [some (.ref 32), some (.ref 1), some (.ref 13), none, none, none]) (st' := [.ref 13, .ref 32]) (h' := (shT, pm_u2 (pm_u2 (pm_u2 fi1 32 0 0) 32 1 (-1)) 32 2 it, fl1, fr1)) rfl ?_
      refine gp_of (fun _ k9 => g_getI (x := 1) rfl (Or.inr rfl) rfl (by decide) (b8) k9) ?_
      refine gp_of (fun _ k9 => g_putI rfl (Or.inr ⟨rfl, by decide⟩) rfl (by decide) k9) ?_
      refine gp_n 1 (j' := 26) (lv' := [some (.ref 32), some (.ref 1), some (.ref 13), none, none, none]) (st' := [.ref 13]) (h' := (shT, pm_u2 (pm_u2 (pm_u2 (pm_u2 fi1 32 0 0) 32 1 (-1)) 32 2 it) 32 3 1, fl1, fr1)) rfl ?_
      refine gp_of (fun _ k9 => g_getR (q' := 26) rfl rfl (by decide) k3 k9) ?_
      refine gp_n 2 (j' := 29) (lv' := [some (.ref 32), some (.ref 1), some (.ref 13), none, none, none]) (st' := [.ref 32, .int 0, .ref 26]) (h' := (shT, pm_u2 (pm_u2 (pm_u2 (pm_u2 fi1 32 0 0) 32 1 (-1)) 32 2 it) 32 3 1, fl1, fr1)) rfl ?_
      refine gp_of (fun _ k9 => g_getR (q' := 33) rfl rfl (by decide) k4 k9) ?_
      refine gp_n 2 (j' := 32) (lv' := [some (.ref 32), some (.ref 1), some (.ref 13), none, none, none]) (st' := [.int 64, .int 0, .ref 33, .int 0, .ref 26]) (h' := (shT, pm_u2 (pm_u2 (pm_u2 (pm_u2 fi1 32 0 0) 32 1 (-1)) 32 2 it) 32 3 1, fl1, fr1)) rfl ?_
      refine gp_of (fun _ k9 => g_cpy rfl rfl rfl k9) ?_
      refine gp_n 1 (j' := 34) (lv' := [some (.ref 32), some (.ref 1), some (.ref 13), none, none, none]) (st' := [.ref 1]) (h' := (shT, (pm_uf (pm_u2 (pm_u2 (pm_u2 (pm_u2 fi1 32 0 0) 32 1 (-1)) 32 2 it) 32 3 1) 33 (va_cpy (pm_u2 (pm_u2 (pm_u2 (pm_u2 fi1 32 0 0) 32 1 (-1)) 32 2 it) 32 3 1 26) (pm_u2 (pm_u2 (pm_u2 (pm_u2 fi1 32 0 0) 32 1 (-1)) 32 2 it) 32 3 1 33) 0 0 64)), fl1, fr1)) rfl ?_
      refine gp_of (fun _ k9 => g_getL (x := K) rfl rfl (by decide) (q7) k9) ?_
      refine gp_n 1 (j' := 36) (lv' := [some (.ref 32), some (.ref 1), some (.ref 13), some (.long K), none, none]) (st' := []) (h' := (shT, (pm_uf (pm_u2 (pm_u2 (pm_u2 (pm_u2 fi1 32 0 0) 32 1 (-1)) 32 2 it) 32 3 1) 33 (va_cpy (pm_u2 (pm_u2 (pm_u2 (pm_u2 fi1 32 0 0) 32 1 (-1)) 32 2 it) 32 3 1 26) (pm_u2 (pm_u2 (pm_u2 (pm_u2 fi1 32 0 0) 32 1 (-1)) 32 2 it) 32 3 1 33) 0 0 64)), fl1, fr1)) rfl ?_
      exact gp_done (g _) rfl
  · rcases b1 with z | z
    · subst z
      refine gp_n 3 (j' := 3) (lv' := [some (.ref 32), some (.ref 1), some (.ref 13), none, none, none]) (st' := [.ref 1, .ref 1, .ref 13]) (h' := (shT, fi, fl, fr)) rfl ?_
      refine gp_of (fun _ k9 => g_getR (q' := 2) rfl rfl (by decide) k8 k9) ?_
      refine gp_n 3 (j' := 7) (lv' := [some (.ref 32), some (.ref 1), some (.ref 13), none, none, none]) (st' := [.int (-1), .int 0, .int 1, .ref 2, .ref 1, .ref 13]) (h' := (shT, fi, fl, fr)) rfl ?_
      refine gp_of (fun _ k9 => g_callv (y := 82) (as := [.ref 13, .ref 1, .ref 2, .int 1, .int 0, .int (-1)]) (st' := []) rfl rfl (e1) k9) ?_
      refine gp_n 2 (j' := 10) (lv' := [some (.ref 32), some (.ref 1), some (.ref 13), none, none, none]) (st' := [.int 0, .ref 32]) (h' := (shT, fi1, fl1, fr1)) rfl ?_
      refine gp_of (fun _ k9 => g_putI rfl (Or.inl rfl) rfl (by decide) k9) ?_
      refine gp_n 2 (j' := 13) (lv' := [some (.ref 32), some (.ref 1), some (.ref 13), none, none, none]) (st' := [.int (-1), .ref 32]) (h' := (shT, pm_u2 fi1 32 0 0, fl1, fr1)) rfl ?_
      refine gp_of (fun _ k9 => g_putI rfl (Or.inl rfl) rfl (by decide) k9) ?_
      refine gp_n 2 (j' := 16) (lv' := [some (.ref 32), some (.ref 1), some (.ref 13), none, none, none]) (st' := [.ref 13, .ref 32]) (h' := (shT, pm_u2 (pm_u2 fi1 32 0 0) 32 1 (-1), fl1, fr1)) rfl ?_
      refine gp_of (fun _ k9 => g_getR (q' := 18) rfl rfl (by decide) ka k9) ?_
      refine gp_of (fun _ k9 => g_getR (q' := 20) rfl rfl (by decide) kA k9) ?_
      refine gp_n 1 (j' := 19) (lv' := [some (.ref 32), some (.ref 1), some (.ref 13), none, none, none]) (st' := [.int 0, .ref 20, .ref 32]) (h' := (shT, pm_u2 (pm_u2 fi1 32 0 0) 32 1 (-1), fl1, fr1)) rfl ?_
      refine gp_of (fun _ k9 => g_iald (k := 0) (x := it) rfl rfl (rfl) (by decide) (by decide) (m9) k9) ?_
      refine gp_of (fun _ k9 => g_putI rfl (Or.inl rfl) rfl (by decide) k9) ?_
      refine gp_n 2 (j' := 23) (lv' := [some (.ref 32), some (.ref 1), some (.ref 13), none, none, none]) (st' := [.ref 13, .ref 32]) (h' := (shT, pm_u2 (pm_u2 (pm_u2 fi1 32 0 0) 32 1 (-1)) 32 2 it, fl1, fr1)) rfl ?_
      refine gp_of (fun _ k9 => g_getI (x := 0) rfl (Or.inr rfl) rfl (by decide) (b8) k9) ?_
      refine gp_of (fun _ k9 => g_putI rfl (Or.inr ⟨rfl, by decide⟩) rfl (by decide) k9) ?_
      refine gp_n 1 (j' := 26) (lv' := [some (.ref 32), some (.ref 1), some (.ref 13), none, none, none]) (st' := [.ref 13]) (h' := (shT, pm_u2 (pm_u2 (pm_u2 (pm_u2 fi1 32 0 0) 32 1 (-1)) 32 2 it) 32 3 0, fl1, fr1)) rfl ?_
      refine gp_of (fun _ k9 => g_getR (q' := 26) rfl rfl (by decide) k3 k9) ?_
      refine gp_n 2 (j' := 29) (lv' := [some (.ref 32), some (.ref 1), some (.ref 13), none, none, none]) (st' := [.ref 32, .int 0, .ref 26]) (h' := (shT, pm_u2 (pm_u2 (pm_u2 (pm_u2 fi1 32 0 0) 32 1 (-1)) 32 2 it) 32 3 0, fl1, fr1)) rfl ?_
      refine gp_of (fun _ k9 => g_getR (q' := 33) rfl rfl (by decide) k4 k9) ?_
      refine gp_n 2 (j' := 32) (lv' := [some (.ref 32), some (.ref 1), some (.ref 13), none, none, none]) (st' := [.int 64, .int 0, .ref 33, .int 0, .ref 26]) (h' := (shT, pm_u2 (pm_u2 (pm_u2 (pm_u2 fi1 32 0 0) 32 1 (-1)) 32 2 it) 32 3 0, fl1, fr1)) rfl ?_
      refine gp_of (fun _ k9 => g_cpy rfl rfl rfl k9) ?_
      refine gp_n 1 (j' := 34) (lv' := [some (.ref 32), some (.ref 1), some (.ref 13), none, none, none]) (st' := [.ref 1]) (h' := (shT, (pm_uf (pm_u2 (pm_u2 (pm_u2 (pm_u2 fi1 32 0 0) 32 1 (-1)) 32 2 it) 32 3 0) 33 (va_cpy (pm_u2 (pm_u2 (pm_u2 (pm_u2 fi1 32 0 0) 32 1 (-1)) 32 2 it) 32 3 0 26) (pm_u2 (pm_u2 (pm_u2 (pm_u2 fi1 32 0 0) 32 1 (-1)) 32 2 it) 32 3 0 33) 0 0 64)), fl1, fr1)) rfl ?_
      refine gp_of (fun _ k9 => g_getL (x := K) rfl rfl (by decide) (q7) k9) ?_
      refine gp_n 1 (j' := 36) (lv' := [some (.ref 32), some (.ref 1), some (.ref 13), some (.long K), none, none]) (st' := []) (h' := (shT, (pm_uf (pm_u2 (pm_u2 (pm_u2 (pm_u2 fi1 32 0 0) 32 1 (-1)) 32 2 it) 32 3 0) 33 (va_cpy (pm_u2 (pm_u2 (pm_u2 (pm_u2 fi1 32 0 0) 32 1 (-1)) 32 2 it) 32 3 0 26) (pm_u2 (pm_u2 (pm_u2 (pm_u2 fi1 32 0 0) 32 1 (-1)) 32 2 it) 32 3 0 33) 0 0 64)), fl1, fr1)) rfl ?_
      exact gp_done (g _) rfl
    · subst z
      refine gp_n 3 (j' := 3) (lv' := [some (.ref 32), some (.ref 1), some (.ref 13), none, none, none]) (st' := [.ref 1, .ref 1, .ref 13]) (h' := (shT, fi, fl, fr)) rfl ?_
      refine gp_of (fun _ k9 => g_getR (q' := 2) rfl rfl (by decide) k8 k9) ?_
      refine gp_n 3 (j' := 7) (lv' := [some (.ref 32), some (.ref 1), some (.ref 13), none, none, none]) (st' := [.int (-1), .int 0, .int 1, .ref 2, .ref 1, .ref 13]) (h' := (shT, fi, fl, fr)) rfl ?_
      refine gp_of (fun _ k9 => g_callv (y := 82) (as := [.ref 13, .ref 1, .ref 2, .int 1, .int 0, .int (-1)]) (st' := []) rfl rfl (e1) k9) ?_
      refine gp_n 2 (j' := 10) (lv' := [some (.ref 32), some (.ref 1), some (.ref 13), none, none, none]) (st' := [.int 0, .ref 32]) (h' := (shT, fi1, fl1, fr1)) rfl ?_
      refine gp_of (fun _ k9 => g_putI rfl (Or.inl rfl) rfl (by decide) k9) ?_
      refine gp_n 2 (j' := 13) (lv' := [some (.ref 32), some (.ref 1), some (.ref 13), none, none, none]) (st' := [.int (-1), .ref 32]) (h' := (shT, pm_u2 fi1 32 0 0, fl1, fr1)) rfl ?_
      refine gp_of (fun _ k9 => g_putI rfl (Or.inl rfl) rfl (by decide) k9) ?_
      refine gp_n 2 (j' := 16) (lv' := [some (.ref 32), some (.ref 1), some (.ref 13), none, none, none]) (st' := [.ref 13, .ref 32]) (h' := (shT, pm_u2 (pm_u2 fi1 32 0 0) 32 1 (-1), fl1, fr1)) rfl ?_
      refine gp_of (fun _ k9 => g_getR (q' := 18) rfl rfl (by decide) ka k9) ?_
      refine gp_of (fun _ k9 => g_getR (q' := 20) rfl rfl (by decide) kA k9) ?_
      refine gp_n 1 (j' := 19) (lv' := [some (.ref 32), some (.ref 1), some (.ref 13), none, none, none]) (st' := [.int 0, .ref 20, .ref 32]) (h' := (shT, pm_u2 (pm_u2 fi1 32 0 0) 32 1 (-1), fl1, fr1)) rfl ?_
      refine gp_of (fun _ k9 => g_iald (k := 0) (x := it) rfl rfl (rfl) (by decide) (by decide) (m9) k9) ?_
      refine gp_of (fun _ k9 => g_putI rfl (Or.inl rfl) rfl (by decide) k9) ?_
      refine gp_n 2 (j' := 23) (lv' := [some (.ref 32), some (.ref 1), some (.ref 13), none, none, none]) (st' := [.ref 13, .ref 32]) (h' := (shT, pm_u2 (pm_u2 (pm_u2 fi1 32 0 0) 32 1 (-1)) 32 2 it, fl1, fr1)) rfl ?_
      refine gp_of (fun _ k9 => g_getI (x := 1) rfl (Or.inr rfl) rfl (by decide) (b8) k9) ?_
      refine gp_of (fun _ k9 => g_putI rfl (Or.inr ⟨rfl, by decide⟩) rfl (by decide) k9) ?_
      refine gp_n 1 (j' := 26) (lv' := [some (.ref 32), some (.ref 1), some (.ref 13), none, none, none]) (st' := [.ref 13]) (h' := (shT, pm_u2 (pm_u2 (pm_u2 (pm_u2 fi1 32 0 0) 32 1 (-1)) 32 2 it) 32 3 1, fl1, fr1)) rfl ?_
      refine gp_of (fun _ k9 => g_getR (q' := 26) rfl rfl (by decide) k3 k9) ?_
      refine gp_n 2 (j' := 29) (lv' := [some (.ref 32), some (.ref 1), some (.ref 13), none, none, none]) (st' := [.ref 32, .int 0, .ref 26]) (h' := (shT, pm_u2 (pm_u2 (pm_u2 (pm_u2 fi1 32 0 0) 32 1 (-1)) 32 2 it) 32 3 1, fl1, fr1)) rfl ?_
      refine gp_of (fun _ k9 => g_getR (q' := 33) rfl rfl (by decide) k4 k9) ?_
      refine gp_n 2 (j' := 32) (lv' := [some (.ref 32), some (.ref 1), some (.ref 13), none, none, none]) (st' := [.int 64, .int 0, .ref 33, .int 0, .ref 26]) (h' := (shT, pm_u2 (pm_u2 (pm_u2 (pm_u2 fi1 32 0 0) 32 1 (-1)) 32 2 it) 32 3 1, fl1, fr1)) rfl ?_
      refine gp_of (fun _ k9 => g_cpy rfl rfl rfl k9) ?_
      refine gp_n 1 (j' := 34) (lv' := [some (.ref 32), some (.ref 1), some (.ref 13), none, none, none]) (st' := [.ref 1]) (h' := (shT, (pm_uf (pm_u2 (pm_u2 (pm_u2 (pm_u2 fi1 32 0 0) 32 1 (-1)) 32 2 it) 32 3 1) 33 (va_cpy (pm_u2 (pm_u2 (pm_u2 (pm_u2 fi1 32 0 0) 32 1 (-1)) 32 2 it) 32 3 1 26) (pm_u2 (pm_u2 (pm_u2 (pm_u2 fi1 32 0 0) 32 1 (-1)) 32 2 it) 32 3 1 33) 0 0 64)), fl1, fr1)) rfl ?_
      refine gp_of (fun _ k9 => g_getL (x := K) rfl rfl (by decide) (q7) k9) ?_
      refine gp_n 1 (j' := 36) (lv' := [some (.ref 32), some (.ref 1), some (.ref 13), some (.long K), none, none]) (st' := []) (h' := (shT, (pm_uf (pm_u2 (pm_u2 (pm_u2 (pm_u2 fi1 32 0 0) 32 1 (-1)) 32 2 it) 32 3 1) 33 (va_cpy (pm_u2 (pm_u2 (pm_u2 (pm_u2 fi1 32 0 0) 32 1 (-1)) 32 2 it) 32 3 1 26) (pm_u2 (pm_u2 (pm_u2 (pm_u2 fi1 32 0 0) 32 1 (-1)) 32 2 it) 32 3 1 33) 0 0 64)), fl1, fr1)) rfl ?_
      exact gp_done (g _) rfl
theorem fl_C {h : PmH} {a : AB} {m k c l w : Nat} (hr : REL3 h a) (h0 : 0 < (a_v a).1 1) (vk : VK (a_v a) m k c) (hl : (a_v a).1 6 = nI l) (hB : ∀ s, s < 64 → -127 ≤ ((a_v a).2.2 s).toInt ∧ ((a_v a).2.2 s).toInt ≤ 127) (hw : w < 4) : ∃ h', Ev pmT 114 [.ref 0, .int (nI w)] h (some (.int (flV a m k c w))) h' := by
  have hI := hr.1.1.1
  have t1 := told1 hI (hr.1.1.2.1.2.2.2.2.1.1 1 (by decide)) h0
  have k0 : ph_r h 0 0 = some 1 := hi_r hI rfl rfl (by decide)
  have k8 : ph_r h 0 8 = some 13 := hi_r hI rfl rfl (by decide)
  have k9' : ph_r h 0 9 = some 32 := hi_r hI rfl rfl (by decide)
  obtain ⟨h1, e1, I1, x1⟩ := fpC_ev hr vk hl hB
  have q9 : ph_r h1 0 9 = some 32 := hi_r I1 rfl rfl (by decide)
  have z3 : flV a m k c 3 = 0 ∨ flV a m k c 3 = 1 := by
    unfold flV
    rw [if_neg (show ¬ 3 = 0 by decide), if_neg (show ¬ 3 = 1 by decide), if_neg (show ¬ 3 = 2 by decide), if_neg (show ¬ 3 = 0 by decide), if_neg (show ¬ 3 = 1 by decide), if_neg (show ¬ 3 = 2 by decide)]
    split
    · exact Or.inr rfl
    · cases (flR a m k c 12 0 0).2.isSome
      · exact Or.inl rfl
      · exact Or.inr rfl
  refine ⟨h1, ?_⟩
  have hw : w = 0 ∨ w = 1 ∨ w = 2 ∨ w = 3 := by omega
  have y0 := x1 0 (by decide)
  have y1 := x1 1 (by decide)
  have y2 := x1 2 (by decide)
  have y3 := x1 3 (by decide)
  clear hr x1
  generalize hv0 : flV a m k c 0 = v0 at *
  generalize hv1 : flV a m k c 1 = v1 at *
  generalize hv2 : flV a m k c 2 = v2 at *
  generalize hv : flV a m k c 3 = v3 at *
  obtain ⟨S1, fi1, fl1, fr1⟩ := h1
  have s1 : S1 = shT := I1.1
  subst s1
  have q9 : fr1 0 9 = some 32 := q9
  have y0 : fi1 32 0 = v0 := y0
  have y1 : fi1 32 1 = v1 := y1
  have y2 : fi1 32 2 = v2 := y2
  have y3 : fi1 32 3 = v3 := y3
  obtain ⟨S, fi, fl, fr⟩ := h
  have hS : S = shT := hI.1
  subst hS
  have k0 : fr 0 0 = some 1 := k0
  have k8 : fr 0 8 = some 13 := k8
  have k9' : fr 0 9 = some 32 := k9'
  rcases hw with rfl | rfl | rfl | rfl
  · rw [hv0]
    show Ev pmT 114 [.ref 0, .int 0] _ (some (.int v0)) _
    refine Ev.of (es := cd_114) (ml := 2) (lv := [some (.ref 0), some (.int 0)]) rfl rfl rfl ?_
    refine go_of ?_
    refine gp_n 1 (j' := 1) (lv' := [some (.ref 0), some (.int 0)]) (st' := [.ref 0]) (h' := (shT, fi, fl, fr)) rfl ?_
    refine gp_of (fun _ k9 => g_getR (q' := 1) rfl rfl (by decide) k0 k9) ?_
    refine gp_of (fun _ k9 => g_call (y := 57) (as := [.ref 1]) (st' := []) rfl rfl (t1) k9) ?_
    refine gp_of (fun _ k9 => g_iff rfl (show ¬ ((1 : Int32) = (0 : Int32)) from by decide) k9) ?_
    refine gp_n 1 (j' := 5) (lv' := [some (.ref 0), some (.int 0)]) (st' := [.int 0]) (h' := (shT, fi, fl, fr)) rfl ?_
    refine gp_of (fun _ k9 => g_iff rfl (show ¬ ((0 : Int32) < (0 : Int32)) from by decide) k9) ?_
    refine gp_n 2 (j' := 8) (lv' := [some (.ref 0), some (.int 0)]) (st' := [.int 3, .int 0]) (h' := (shT, fi, fl, fr)) rfl ?_
    refine gp_of (fun _ k9 => g_ict rfl (show (0 : Int32) ≤ (3 : Int32) from by decide) k9) ?_
    refine gp_n 1 (j' := 12) (lv' := [some (.ref 0), some (.int 0)]) (st' := [.ref 0]) (h' := (shT, fi, fl, fr)) rfl ?_
    refine gp_of (fun _ k9 => g_getR (q' := 32) rfl rfl (by decide) k9' k9) ?_
    refine gp_n 1 (j' := 14) (lv' := [some (.ref 0), some (.int 0)]) (st' := [.ref 0, .ref 32]) (h' := (shT, fi, fl, fr)) rfl ?_
    refine gp_of (fun _ k9 => g_getR (q' := 1) rfl rfl (by decide) k0 k9) ?_
    refine gp_n 1 (j' := 16) (lv' := [some (.ref 0), some (.int 0)]) (st' := [.ref 0, .ref 1, .ref 32]) (h' := (shT, fi, fl, fr)) rfl ?_
    refine gp_of (fun _ k9 => g_getR (q' := 13) rfl rfl (by decide) k8 k9) ?_
    refine gp_of (fun _ k9 => g_callv (y := 115) (as := [.ref 32, .ref 1, .ref 13]) (st' := []) rfl rfl (e1) k9) ?_
    refine gp_n 3 (j' := 21) (lv' := [some (.ref 0), some (.int 0)]) (st' := [.ref 0]) (h' := (shT, fi1, fl1, fr1)) rfl ?_
    refine gp_of (fun _ k9 => g_getR (q' := 32) rfl rfl (by decide) q9 k9) ?_
    refine gp_of (fun _ k9 => g_getI (x := v0) rfl (Or.inl rfl) rfl (by decide) (y0) k9) ?_
    refine gp_done (g_ret rfl) ?_
    rfl
  · rw [hv1]
    show Ev pmT 114 [.ref 0, .int 1] _ (some (.int v1)) _
    refine Ev.of (es := cd_114) (ml := 2) (lv := [some (.ref 0), some (.int 1)]) rfl rfl rfl ?_
    refine go_of ?_
    refine gp_n 1 (j' := 1) (lv' := [some (.ref 0), some (.int 1)]) (st' := [.ref 0]) (h' := (shT, fi, fl, fr)) rfl ?_
    refine gp_of (fun _ k9 => g_getR (q' := 1) rfl rfl (by decide) k0 k9) ?_
    refine gp_of (fun _ k9 => g_call (y := 57) (as := [.ref 1]) (st' := []) rfl rfl (t1) k9) ?_
    refine gp_of (fun _ k9 => g_iff rfl (show ¬ ((1 : Int32) = (0 : Int32)) from by decide) k9) ?_
    refine gp_n 1 (j' := 5) (lv' := [some (.ref 0), some (.int 1)]) (st' := [.int 1]) (h' := (shT, fi, fl, fr)) rfl ?_
    refine gp_of (fun _ k9 => g_iff rfl (show ¬ ((1 : Int32) < (0 : Int32)) from by decide) k9) ?_
    refine gp_n 2 (j' := 8) (lv' := [some (.ref 0), some (.int 1)]) (st' := [.int 3, .int 1]) (h' := (shT, fi, fl, fr)) rfl ?_
    refine gp_of (fun _ k9 => g_ict rfl (show (1 : Int32) ≤ (3 : Int32) from by decide) k9) ?_
    refine gp_n 1 (j' := 12) (lv' := [some (.ref 0), some (.int 1)]) (st' := [.ref 0]) (h' := (shT, fi, fl, fr)) rfl ?_
    refine gp_of (fun _ k9 => g_getR (q' := 32) rfl rfl (by decide) k9' k9) ?_
    refine gp_n 1 (j' := 14) (lv' := [some (.ref 0), some (.int 1)]) (st' := [.ref 0, .ref 32]) (h' := (shT, fi, fl, fr)) rfl ?_
    refine gp_of (fun _ k9 => g_getR (q' := 1) rfl rfl (by decide) k0 k9) ?_
    refine gp_n 1 (j' := 16) (lv' := [some (.ref 0), some (.int 1)]) (st' := [.ref 0, .ref 1, .ref 32]) (h' := (shT, fi, fl, fr)) rfl ?_
    refine gp_of (fun _ k9 => g_getR (q' := 13) rfl rfl (by decide) k8 k9) ?_
    refine gp_of (fun _ k9 => g_callv (y := 115) (as := [.ref 32, .ref 1, .ref 13]) (st' := []) rfl rfl (e1) k9) ?_
    refine gp_n 3 (j' := 25) (lv' := [some (.ref 0), some (.int 1)]) (st' := [.ref 0]) (h' := (shT, fi1, fl1, fr1)) rfl ?_
    refine gp_of (fun _ k9 => g_getR (q' := 32) rfl rfl (by decide) q9 k9) ?_
    refine gp_of (fun _ k9 => g_getI (x := v1) rfl (Or.inl rfl) rfl (by decide) (y1) k9) ?_
    refine gp_done (g_ret rfl) ?_
    rfl
  · rw [hv2]
    show Ev pmT 114 [.ref 0, .int 2] _ (some (.int v2)) _
    refine Ev.of (es := cd_114) (ml := 2) (lv := [some (.ref 0), some (.int 2)]) rfl rfl rfl ?_
    refine go_of ?_
    refine gp_n 1 (j' := 1) (lv' := [some (.ref 0), some (.int 2)]) (st' := [.ref 0]) (h' := (shT, fi, fl, fr)) rfl ?_
    refine gp_of (fun _ k9 => g_getR (q' := 1) rfl rfl (by decide) k0 k9) ?_
    refine gp_of (fun _ k9 => g_call (y := 57) (as := [.ref 1]) (st' := []) rfl rfl (t1) k9) ?_
    refine gp_of (fun _ k9 => g_iff rfl (show ¬ ((1 : Int32) = (0 : Int32)) from by decide) k9) ?_
    refine gp_n 1 (j' := 5) (lv' := [some (.ref 0), some (.int 2)]) (st' := [.int 2]) (h' := (shT, fi, fl, fr)) rfl ?_
    refine gp_of (fun _ k9 => g_iff rfl (show ¬ ((2 : Int32) < (0 : Int32)) from by decide) k9) ?_
    refine gp_n 2 (j' := 8) (lv' := [some (.ref 0), some (.int 2)]) (st' := [.int 3, .int 2]) (h' := (shT, fi, fl, fr)) rfl ?_
    refine gp_of (fun _ k9 => g_ict rfl (show (2 : Int32) ≤ (3 : Int32) from by decide) k9) ?_
    refine gp_n 1 (j' := 12) (lv' := [some (.ref 0), some (.int 2)]) (st' := [.ref 0]) (h' := (shT, fi, fl, fr)) rfl ?_
    refine gp_of (fun _ k9 => g_getR (q' := 32) rfl rfl (by decide) k9' k9) ?_
    refine gp_n 1 (j' := 14) (lv' := [some (.ref 0), some (.int 2)]) (st' := [.ref 0, .ref 32]) (h' := (shT, fi, fl, fr)) rfl ?_
    refine gp_of (fun _ k9 => g_getR (q' := 1) rfl rfl (by decide) k0 k9) ?_
    refine gp_n 1 (j' := 16) (lv' := [some (.ref 0), some (.int 2)]) (st' := [.ref 0, .ref 1, .ref 32]) (h' := (shT, fi, fl, fr)) rfl ?_
    refine gp_of (fun _ k9 => g_getR (q' := 13) rfl rfl (by decide) k8 k9) ?_
    refine gp_of (fun _ k9 => g_callv (y := 115) (as := [.ref 32, .ref 1, .ref 13]) (st' := []) rfl rfl (e1) k9) ?_
    refine gp_n 3 (j' := 29) (lv' := [some (.ref 0), some (.int 2)]) (st' := [.ref 0]) (h' := (shT, fi1, fl1, fr1)) rfl ?_
    refine gp_of (fun _ k9 => g_getR (q' := 32) rfl rfl (by decide) q9 k9) ?_
    refine gp_of (fun _ k9 => g_getI (x := v2) rfl (Or.inl rfl) rfl (by decide) (y2) k9) ?_
    refine gp_done (g_ret rfl) ?_
    rfl
  · show Ev pmT 114 [.ref 0, .int 3] _ _ _
    rcases z3 with z | z
    · subst z
      refine Ev.of (es := cd_114) (ml := 2) (lv := [some (.ref 0), some (.int 3)]) rfl rfl rfl ?_
      refine go_of ?_
      refine gp_n 1 (j' := 1) (lv' := [some (.ref 0), some (.int 3)]) (st' := [.ref 0]) (h' := (shT, fi, fl, fr)) rfl ?_
      refine gp_of (fun _ k9 => g_getR (q' := 1) rfl rfl (by decide) k0 k9) ?_
      refine gp_of (fun _ k9 => g_call (y := 57) (as := [.ref 1]) (st' := []) rfl rfl (t1) k9) ?_
      refine gp_of (fun _ k9 => g_iff rfl (show ¬ ((1 : Int32) = (0 : Int32)) from by decide) k9) ?_
      refine gp_n 1 (j' := 5) (lv' := [some (.ref 0), some (.int 3)]) (st' := [.int 3]) (h' := (shT, fi, fl, fr)) rfl ?_
      refine gp_of (fun _ k9 => g_iff rfl (show ¬ ((3 : Int32) < (0 : Int32)) from by decide) k9) ?_
      refine gp_n 2 (j' := 8) (lv' := [some (.ref 0), some (.int 3)]) (st' := [.int 3, .int 3]) (h' := (shT, fi, fl, fr)) rfl ?_
      refine gp_of (fun _ k9 => g_ict rfl (show (3 : Int32) ≤ (3 : Int32) from by decide) k9) ?_
      refine gp_n 1 (j' := 12) (lv' := [some (.ref 0), some (.int 3)]) (st' := [.ref 0]) (h' := (shT, fi, fl, fr)) rfl ?_
      refine gp_of (fun _ k9 => g_getR (q' := 32) rfl rfl (by decide) k9' k9) ?_
      refine gp_n 1 (j' := 14) (lv' := [some (.ref 0), some (.int 3)]) (st' := [.ref 0, .ref 32]) (h' := (shT, fi, fl, fr)) rfl ?_
      refine gp_of (fun _ k9 => g_getR (q' := 1) rfl rfl (by decide) k0 k9) ?_
      refine gp_n 1 (j' := 16) (lv' := [some (.ref 0), some (.int 3)]) (st' := [.ref 0, .ref 1, .ref 32]) (h' := (shT, fi, fl, fr)) rfl ?_
      refine gp_of (fun _ k9 => g_getR (q' := 13) rfl rfl (by decide) k8 k9) ?_
      refine gp_of (fun _ k9 => g_callv (y := 115) (as := [.ref 32, .ref 1, .ref 13]) (st' := []) rfl rfl (e1) k9) ?_
      refine gp_n 3 (j' := 33) (lv' := [some (.ref 0), some (.int 3)]) (st' := [.ref 0]) (h' := (shT, fi1, fl1, fr1)) rfl ?_
      refine gp_of (fun _ k9 => g_getR (q' := 32) rfl rfl (by decide) q9 k9) ?_
      refine gp_of (fun _ k9 => g_getI (x := 0) rfl (Or.inr rfl) rfl (by decide) (y3) k9) ?_
      refine gp_of (fun _ k9 => g_ift rfl (show (0 : Int32) = (0 : Int32) from by decide) k9) ?_
      refine gp_n 1 (j' := 39) (lv' := [some (.ref 0), some (.int 3)]) (st' := [.int 0]) (h' := (shT, fi1, fl1, fr1)) rfl ?_
      refine gp_done (g_ret rfl) ?_
      exact congrArg (fun z => (some (Value.int z), (shT, fi1, fl1, fr1))) hv.symm
    · subst z
      refine Ev.of (es := cd_114) (ml := 2) (lv := [some (.ref 0), some (.int 3)]) rfl rfl rfl ?_
      refine go_of ?_
      refine gp_n 1 (j' := 1) (lv' := [some (.ref 0), some (.int 3)]) (st' := [.ref 0]) (h' := (shT, fi, fl, fr)) rfl ?_
      refine gp_of (fun _ k9 => g_getR (q' := 1) rfl rfl (by decide) k0 k9) ?_
      refine gp_of (fun _ k9 => g_call (y := 57) (as := [.ref 1]) (st' := []) rfl rfl (t1) k9) ?_
      refine gp_of (fun _ k9 => g_iff rfl (show ¬ ((1 : Int32) = (0 : Int32)) from by decide) k9) ?_
      refine gp_n 1 (j' := 5) (lv' := [some (.ref 0), some (.int 3)]) (st' := [.int 3]) (h' := (shT, fi, fl, fr)) rfl ?_
      refine gp_of (fun _ k9 => g_iff rfl (show ¬ ((3 : Int32) < (0 : Int32)) from by decide) k9) ?_
      refine gp_n 2 (j' := 8) (lv' := [some (.ref 0), some (.int 3)]) (st' := [.int 3, .int 3]) (h' := (shT, fi, fl, fr)) rfl ?_
      refine gp_of (fun _ k9 => g_ict rfl (show (3 : Int32) ≤ (3 : Int32) from by decide) k9) ?_
      refine gp_n 1 (j' := 12) (lv' := [some (.ref 0), some (.int 3)]) (st' := [.ref 0]) (h' := (shT, fi, fl, fr)) rfl ?_
      refine gp_of (fun _ k9 => g_getR (q' := 32) rfl rfl (by decide) k9' k9) ?_
      refine gp_n 1 (j' := 14) (lv' := [some (.ref 0), some (.int 3)]) (st' := [.ref 0, .ref 32]) (h' := (shT, fi, fl, fr)) rfl ?_
      refine gp_of (fun _ k9 => g_getR (q' := 1) rfl rfl (by decide) k0 k9) ?_
      refine gp_n 1 (j' := 16) (lv' := [some (.ref 0), some (.int 3)]) (st' := [.ref 0, .ref 1, .ref 32]) (h' := (shT, fi, fl, fr)) rfl ?_
      refine gp_of (fun _ k9 => g_getR (q' := 13) rfl rfl (by decide) k8 k9) ?_
      refine gp_of (fun _ k9 => g_callv (y := 115) (as := [.ref 32, .ref 1, .ref 13]) (st' := []) rfl rfl (e1) k9) ?_
      refine gp_n 3 (j' := 33) (lv' := [some (.ref 0), some (.int 3)]) (st' := [.ref 0]) (h' := (shT, fi1, fl1, fr1)) rfl ?_
      refine gp_of (fun _ k9 => g_getR (q' := 32) rfl rfl (by decide) q9 k9) ?_
      refine gp_of (fun _ k9 => g_getI (x := 1) rfl (Or.inr rfl) rfl (by decide) (y3) k9) ?_
      refine gp_of (fun _ k9 => g_iff rfl (show ¬ ((1 : Int32) = (0 : Int32)) from by decide) k9) ?_
      refine gp_n 2 (j' := 39) (lv' := [some (.ref 0), some (.int 3)]) (st' := [.int 1]) (h' := (shT, fi1, fl1, fr1)) rfl ?_
      refine gp_done (g_ret rfl) ?_
      exact congrArg (fun z => (some (Value.int z), (shT, fi1, fl1, fr1))) hv.symm
theorem fl_C0 {h : PmH} {a : AB} {x : Int32} (hr : REL3 h a) (hn : ¬ (0 < (a_v a).1 1 ∧ (0 ≤ x ∧ x ≤ 3))) : Ev pmT 114 [.ref 0, .int x] h (some (.int (-1))) h := by
  have hI := hr.1.1.1
  have t1 := told1 hI (hr.1.1.2.1.2.2.2.2.1.1 1 (by decide))
  have t0 := told0 hI (hr.1.1.2.1.2.2.2.2.1.1 1 (by decide))
  have k0 : ph_r h 0 0 = some 1 := hi_r hI rfl rfl (by decide)
  refine Ev.of (es := cd_114) (ml := 2) (lv := [some (.ref 0), some (.int x)]) rfl rfl rfl ?_
  clear hr
  obtain ⟨S, fi, fl, fr⟩ := h
  have hS : S = shT := hI.1
  subst hS
  have k0 : fr 0 0 = some 1 := k0
  refine go_of ?_
  by_cases h0 : 0 < (a_v a).1 1
  · have t1 := t1 h0
    by_cases h1 : x < 0
    ·
      refine gp_n 1 (j' := 1) (lv' := [some (.ref 0), some (.int x)]) (st' := [.ref 0]) (h' := (shT, fi, fl, fr)) rfl ?_
      refine gp_of (fun _ k9 => g_getR (q' := 1) rfl rfl (by decide) k0 k9) ?_
      refine gp_of (fun _ k9 => g_call (y := 57) (as := [.ref 1]) (st' := []) rfl rfl (t1) k9) ?_
      refine gp_of (fun _ k9 => g_iff rfl (show ¬ ((1 : Int32) = (0 : Int32)) from by decide) k9) ?_
      refine gp_n 1 (j' := 5) (lv' := [some (.ref 0), some (.int x)]) (st' := [.int x]) (h' := (shT, fi, fl, fr)) rfl ?_
      refine gp_of (fun _ k9 => g_ift rfl (show x < (0 : Int32) from h1) k9) ?_
      refine gp_n 1 (j' := 10) (lv' := [some (.ref 0), some (.int x)]) (st' := [.int (-1)]) (h' := (shT, fi, fl, fr)) rfl ?_
      refine gp_done (g_ret rfl) ?_
      rfl
    · have h2 : ¬ x ≤ 3 := fun z => hn ⟨h0, Int32.not_lt.mp h1, z⟩
      refine gp_n 1 (j' := 1) (lv' := [some (.ref 0), some (.int x)]) (st' := [.ref 0]) (h' := (shT, fi, fl, fr)) rfl ?_
      refine gp_of (fun _ k9 => g_getR (q' := 1) rfl rfl (by decide) k0 k9) ?_
      refine gp_of (fun _ k9 => g_call (y := 57) (as := [.ref 1]) (st' := []) rfl rfl (t1) k9) ?_
      refine gp_of (fun _ k9 => g_iff rfl (show ¬ ((1 : Int32) = (0 : Int32)) from by decide) k9) ?_
      refine gp_n 1 (j' := 5) (lv' := [some (.ref 0), some (.int x)]) (st' := [.int x]) (h' := (shT, fi, fl, fr)) rfl ?_
      refine gp_of (fun _ k9 => g_iff rfl (show ¬ (x < (0 : Int32)) from h1) k9) ?_
      refine gp_n 2 (j' := 8) (lv' := [some (.ref 0), some (.int x)]) (st' := [.int 3, .int x]) (h' := (shT, fi, fl, fr)) rfl ?_
      refine gp_of (fun _ k9 => g_icf rfl (show ¬ (x ≤ (3 : Int32)) from h2) k9) ?_
      refine gp_n 1 (j' := 10) (lv' := [some (.ref 0), some (.int x)]) (st' := [.int (-1)]) (h' := (shT, fi, fl, fr)) rfl ?_
      refine gp_done (g_ret rfl) ?_
      rfl
  · have t0 := t0 h0
    refine gp_n 1 (j' := 1) (lv' := [some (.ref 0), some (.int x)]) (st' := [.ref 0]) (h' := (shT, fi, fl, fr)) rfl ?_
    refine gp_of (fun _ k9 => g_getR (q' := 1) rfl rfl (by decide) k0 k9) ?_
    refine gp_of (fun _ k9 => g_call (y := 57) (as := [.ref 1]) (st' := []) rfl rfl (t0) k9) ?_
    refine gp_of (fun _ k9 => g_ift rfl (show (0 : Int32) = (0 : Int32) from by decide) k9) ?_
    refine gp_n 1 (j' := 10) (lv' := [some (.ref 0), some (.int x)]) (st' := [.int (-1)]) (h' := (shT, fi, fl, fr)) rfl ?_
    refine gp_done (g_ret rfl) ?_
    rfl
