theorem g_cpy {T : List PmM} {xs : PmX} {es : List PmI} {j : Nat} {lv : PmL} {S : List (Nat × Nat)} {fi : Nat → Nat → Int32} {fl : Nat → Nat → Int64} {fr : Nat → Nat → Option Nat} {r : Option Value × PmH} {pc n idx a c q : Nat} {v : Int} {ts : List Nat} {p p' : Nat} (he : es[j]? = some (pc, n, .invokestatic idx, a, c, 7, q, v, ts)) (hp : S[p]? = some (0, 64)) (hq : S[p']? = some (0, 64)) (k : Go T xs es (j + 1) lv [] (S, pm_uf fi p' (va_cpy (fi p) (fi p') 0 0 64), fl, fr) r) : Go T xs es j lv [.int 64, .int 0, .ref p', .int 0, .ref p] (S, fi, fl, fr) r := by
  refine Go.step he ?_ k
  simp only [pm_x, pm_cpy, hp, hq]
  rw [if_neg (by decide)]
  rfl
theorem st_sh : ∀ e, e < 12 → shT[42 + 2 * e]? = some (16, 9) ∧ shT[42 + 2 * e + 1]? = some (0, 64) := by decide
theorem im_sh : ∀ e, e < 2 → shT[66 + 2 * e]? = some (16, 9) ∧ shT[66 + 2 * e + 1]? = some (0, 64) := by decide
/-- a State takes another one's words -/
theorem cp_ev {h : PmH} {o s : Nat} (hI : HI hdT shT h) (h1 : shT[o]? = some (16, 9)) (h2 : shT[s]? = some (16, 9)) (h3 : shT[o + 1]? = some (0, 64)) (h4 : shT[s + 1]? = some (0, 64)) (r1 : ph_r h o 8 = some (o + 1)) (r2 : ph_r h s 8 = some (s + 1)) (n1 : ¬ s = o) (n2 : ¬ s + 1 = o) : ∃ h', Ev pmT 50 [.ref o, .ref s] h none h' ∧ ph_s h' = shT ∧ (∀ L v, csC L h s v → csC L h' o v) ∧ (∀ p c, ¬ p = o → ¬ p = o + 1 → ph_i h' p c = ph_i h p c) ∧ (∀ p c, ¬ p = o → ph_l h' p c = ph_l h p c) ∧ ∀ p c, ph_r h' p c = ph_r h p c := by
  obtain ⟨S, fi, fl, fr⟩ := h
  have hS : S = shT := hI.1
  subst hS
  have r_o_8 : fr o 8 = some (o + 1) := r1
  have r_s_8 : fr s 8 = some (s + 1) := r2
  have n3 : ¬ o + 1 = o := by omega
  have n4 : ¬ o = o + 1 := by omega
  have main : GoP pmT none cd_50 0 [some (.ref o), some (.ref s)] [] (shT, fi, fl, fr) (fun r => r = (none, (shT, pm_uf (pm_u2 (pm_u2 (pm_u2 (pm_u2 (pm_u2 (pm_u2 (pm_u2 fi o 0 (fi s 0)) o 1 (fi s 1)) o 2 (fi s 2)) o 3 (fi s 3)) o 4 (fi s 4)) o 5 (fi s 5)) o 6 (fi s 6)) (o + 1) (va_cpy ((pm_u2 (pm_u2 (pm_u2 (pm_u2 (pm_u2 (pm_u2 (pm_u2 fi o 0 (fi s 0)) o 1 (fi s 1)) o 2 (fi s 2)) o 3 (fi s 3)) o 4 (fi s 4)) o 5 (fi s 5)) o 6 (fi s 6)) (s + 1)) ((pm_u2 (pm_u2 (pm_u2 (pm_u2 (pm_u2 (pm_u2 (pm_u2 fi o 0 (fi s 0)) o 1 (fi s 1)) o 2 (fi s 2)) o 3 (fi s 3)) o 4 (fi s 4)) o 5 (fi s 5)) o 6 (fi s 6)) (o + 1)) 0 0 64), pm_u2 fl o 7 (fl s 7), fr))) := by
    refine gp_n 2 (j' := 2) (lv' := [some (.ref o), some (.ref s)]) (st' := [.ref s, .ref o]) (h' := (shT, fi, fl, fr)) rfl ?_
    refine gp_of (fun _ k9 => g_getI (x := fi s 0) rfl (Or.inl rfl) h2 (by decide) (by simp [pm_u2, n1]) k9) ?_
    refine gp_of (fun _ k9 => g_putI rfl (Or.inl rfl) h1 (by decide) k9) ?_
    refine gp_n 2 (j' := 6) (lv' := [some (.ref o), some (.ref s)]) (st' := [.ref s, .ref o]) (h' := (shT, pm_u2 fi o 0 (fi s 0), fl, fr)) rfl ?_
    refine gp_of (fun _ k9 => g_getI (x := fi s 1) rfl (Or.inl rfl) h2 (by decide) (by simp [pm_u2, n1]) k9) ?_
    refine gp_of (fun _ k9 => g_putI rfl (Or.inl rfl) h1 (by decide) k9) ?_
    refine gp_n 2 (j' := 10) (lv' := [some (.ref o), some (.ref s)]) (st' := [.ref s, .ref o]) (h' := (shT, pm_u2 (pm_u2 fi o 0 (fi s 0)) o 1 (fi s 1), fl, fr)) rfl ?_
    refine gp_of (fun _ k9 => g_getI (x := fi s 2) rfl (Or.inl rfl) h2 (by decide) (by simp [pm_u2, n1]) k9) ?_
    refine gp_of (fun _ k9 => g_putI rfl (Or.inl rfl) h1 (by decide) k9) ?_
    refine gp_n 2 (j' := 14) (lv' := [some (.ref o), some (.ref s)]) (st' := [.ref s, .ref o]) (h' := (shT, pm_u2 (pm_u2 (pm_u2 fi o 0 (fi s 0)) o 1 (fi s 1)) o 2 (fi s 2), fl, fr)) rfl ?_
    refine gp_of (fun _ k9 => g_getI (x := fi s 3) rfl (Or.inl rfl) h2 (by decide) (by simp [pm_u2, n1]) k9) ?_
    refine gp_of (fun _ k9 => g_putI rfl (Or.inl rfl) h1 (by decide) k9) ?_
    refine gp_n 2 (j' := 18) (lv' := [some (.ref o), some (.ref s)]) (st' := [.ref s, .ref o]) (h' := (shT, pm_u2 (pm_u2 (pm_u2 (pm_u2 fi o 0 (fi s 0)) o 1 (fi s 1)) o 2 (fi s 2)) o 3 (fi s 3), fl, fr)) rfl ?_
    refine gp_of (fun _ k9 => g_getI (x := fi s 4) rfl (Or.inl rfl) h2 (by decide) (by simp [pm_u2, n1]) k9) ?_
    refine gp_of (fun _ k9 => g_putI rfl (Or.inl rfl) h1 (by decide) k9) ?_
    refine gp_n 2 (j' := 22) (lv' := [some (.ref o), some (.ref s)]) (st' := [.ref s, .ref o]) (h' := (shT, pm_u2 (pm_u2 (pm_u2 (pm_u2 (pm_u2 fi o 0 (fi s 0)) o 1 (fi s 1)) o 2 (fi s 2)) o 3 (fi s 3)) o 4 (fi s 4), fl, fr)) rfl ?_
    refine gp_of (fun _ k9 => g_getI (x := fi s 5) rfl (Or.inl rfl) h2 (by decide) (by simp [pm_u2, n1]) k9) ?_
    refine gp_of (fun _ k9 => g_putI rfl (Or.inl rfl) h1 (by decide) k9) ?_
    refine gp_n 2 (j' := 26) (lv' := [some (.ref o), some (.ref s)]) (st' := [.ref s, .ref o]) (h' := (shT, pm_u2 (pm_u2 (pm_u2 (pm_u2 (pm_u2 (pm_u2 fi o 0 (fi s 0)) o 1 (fi s 1)) o 2 (fi s 2)) o 3 (fi s 3)) o 4 (fi s 4)) o 5 (fi s 5), fl, fr)) rfl ?_
    refine gp_of (fun _ k9 => g_getI (x := fi s 6) rfl (Or.inl rfl) h2 (by decide) (by simp [pm_u2, n1]) k9) ?_
    refine gp_of (fun _ k9 => g_putI rfl (Or.inl rfl) h1 (by decide) k9) ?_
    refine gp_n 2 (j' := 30) (lv' := [some (.ref o), some (.ref s)]) (st' := [.ref s, .ref o]) (h' := (shT, pm_u2 (pm_u2 (pm_u2 (pm_u2 (pm_u2 (pm_u2 (pm_u2 fi o 0 (fi s 0)) o 1 (fi s 1)) o 2 (fi s 2)) o 3 (fi s 3)) o 4 (fi s 4)) o 5 (fi s 5)) o 6 (fi s 6), fl, fr)) rfl ?_
    refine gp_of (fun _ k9 => g_getL (x := fl s 7) rfl h2 (by decide) (by simp [pm_u2, n1]) k9) ?_
    refine gp_of (fun _ k9 => g_putL rfl h1 (by decide) k9) ?_
    refine gp_n 1 (j' := 33) (lv' := [some (.ref o), some (.ref s)]) (st' := [.ref s]) (h' := (shT, pm_u2 (pm_u2 (pm_u2 (pm_u2 (pm_u2 (pm_u2 (pm_u2 fi o 0 (fi s 0)) o 1 (fi s 1)) o 2 (fi s 2)) o 3 (fi s 3)) o 4 (fi s 4)) o 5 (fi s 5)) o 6 (fi s 6), pm_u2 fl o 7 (fl s 7), fr)) rfl ?_
    refine gp_of (fun _ k9 => g_getR (q' := (s + 1)) rfl h2 (by decide) r_s_8 k9) ?_
    refine gp_n 2 (j' := 36) (lv' := [some (.ref o), some (.ref s)]) (st' := [.ref o, .int 0, .ref (s + 1)]) (h' := (shT, pm_u2 (pm_u2 (pm_u2 (pm_u2 (pm_u2 (pm_u2 (pm_u2 fi o 0 (fi s 0)) o 1 (fi s 1)) o 2 (fi s 2)) o 3 (fi s 3)) o 4 (fi s 4)) o 5 (fi s 5)) o 6 (fi s 6), pm_u2 fl o 7 (fl s 7), fr)) rfl ?_
    refine gp_of (fun _ k9 => g_getR (q' := (o + 1)) rfl h1 (by decide) r_o_8 k9) ?_
    refine gp_n 2 (j' := 39) (lv' := [some (.ref o), some (.ref s)]) (st' := [.int 64, .int 0, .ref (o + 1), .int 0, .ref (s + 1)]) (h' := (shT, pm_u2 (pm_u2 (pm_u2 (pm_u2 (pm_u2 (pm_u2 (pm_u2 fi o 0 (fi s 0)) o 1 (fi s 1)) o 2 (fi s 2)) o 3 (fi s 3)) o 4 (fi s 4)) o 5 (fi s 5)) o 6 (fi s 6), pm_u2 fl o 7 (fl s 7), fr)) rfl ?_
    refine gp_of (fun _ k => g_cpy rfl h4 h3 k) ?_
    refine gp_done (g_vret rfl) ?_
    rfl
  obtain ⟨r, g, hr⟩ := main
  subst hr
  refine ⟨_, Ev.of (es := cd_50) (ml := 2) (lv := [some (.ref o), some (.ref s)]) rfl rfl rfl g, rfl, fun L v hc => ?_, fun p c hp hp2 => ?_, fun p c hp => ?_, fun p c => rfl⟩
  · refine ⟨fun i hi => ?_, fun hL => ⟨?_, fun q hq => ?_⟩⟩
    · refine Eq.trans ?_ (hc.1 i hi)
      have hi7 : i = 0 ∨ i = 1 ∨ i = 2 ∨ i = 3 ∨ i = 4 ∨ i = 5 ∨ i = 6 := by omega
      rcases hi7 with rfl | rfl | rfl | rfl | rfl | rfl | rfl <;> simp [ph_i, pm_uf, pm_u2, n4]
    · refine Eq.trans ?_ (hc.2 hL).1
      simp [ph_l, pm_u2]
    · refine Eq.trans ?_ ((hc.2 hL).2 q hq)
      simp [ph_i, pm_uf, pm_u2, va_cpy, hq, n2]
  · simp [ph_i, pm_uf, pm_u2, hp, hp2]
  · simp [ph_l, pm_u2, hp]
def a_push (a : AB) : AB := (a_tl a, a_tb a, a_x a, a_v a, min 12 (a_q a + 1), (fun i => match i with
  | 0 => a_v a
  | i + 1 => a_p a i), a_m a)
theorem pst_ne {e i : Nat} (he : e < 12) (hi : i < 11) : ¬ pst e i = 42 + 2 * e := by
  unfold pst
  omega
theorem pst_s {e i : Nat} (he : e < 12) (hi : i < 11) : pst ((e + 1) % 12) (i + 1) = pst e i := by
  unfold pst
  omega
theorem pst_0 {e : Nat} (he : e < 12) : pst ((e + 1) % 12) 0 = 42 + 2 * e := by
  unfold pst
  omega
/-- the class's remember -/
theorem rem_ev {L : Bool} {h : PmH} {a : AB} (hI : HI hdT shT h) (hR : QC L h a) (hq : a_q a ≤ 12) : ∃ h', Ev pmT 49 [.ref 0] h none h' ∧ QC L h' (a_push a) ∧ HI hdT shT h' ∧ fram (in_w iN_29) h h' := by
  obtain ⟨⟨a1, a2, a3⟩, b, c, d, f, g, ⟨e, q1, q2, q3⟩, i⟩ := hR
  have se := st_sh e q1
  have ro : ∀ e, e < 12 → ph_r h (42 + 2 * e) 8 = some (42 + 2 * e + 1) := fun e he => by
    have : e = 0 ∨ e = 1 ∨ e = 2 ∨ e = 3 ∨ e = 4 ∨ e = 5 ∨ e = 6 ∨ e = 7 ∨ e = 8 ∨ e = 9 ∨ e = 10 ∨ e = 11 := by omega
    rcases this with rfl | rfl | rfl | rfl | rfl | rfl | rfl | rfl | rfl | rfl | rfl | rfl <;> exact hi_r hI rfl rfl (by decide)
  obtain ⟨h1, ev1, s1, c1, c2, c3, c4⟩ := cp_ev (o := 42 + 2 * e) (s := 1) hI se.1 rfl se.2 rfl (ro e q1) (hi_r hI rfl rfl (by decide)) (by omega) (by omega)
  have k0 : ph_r h 0 0 = some 1 := hi_r hI rfl rfl (by decide)
  have k1 : ph_r h 0 1 = some 3 := hi_r hI rfl rfl (by decide)
  have main : GoP pmT none cd_49 0 [some (.ref 0)] [] h (fun r => r = (none, (ph_s h1, pm_u2 (pm_u2 (ph_i h1) 0 2 (nI ((e + 1) % 12))) 0 3 (nI (min 12 (a_q a + 1))), ph_l h1, ph_r h1))) := by
    have x2 := (c2 0 2 (by omega) (by omega)).trans q2
    have x3 := (c2 0 3 (by omega) (by omega)).trans g
    have m1 := min_ev (a := 12) (b := nI (a_q a + 1)) (h := (ph_s h1, pm_u2 (ph_i h1) 0 2 (nI ((e + 1) % 12)), ph_l h1, ph_r h1))
    have m2 : (if (12 : Int32) ≤ nI (a_q a + 1) then (12 : Int32) else nI (a_q a + 1)) = nI (min 12 (a_q a + 1)) := by
      by_cases h9 : 12 ≤ a_q a + 1
      · rw [if_pos (show (12 : Int32) ≤ nI (a_q a + 1) from nI_le (a := 12) h9 (by omega)), Nat.min_eq_left h9]
        rfl
      · rw [if_neg (show ¬ (12 : Int32) ≤ nI (a_q a + 1) from nI_ge (b := 12) (by omega) (by decide)), Nat.min_eq_right (by omega)]
    rw [m2] at m1
    obtain ⟨S1, fi1, fl1, fr1⟩ := h1
    have s1 : S1 = shT := s1
    subst s1
    obtain ⟨S, fi, fl, fr⟩ := h
    have hS : S = shT := hI.1
    subst hS
    have k0 : fr 0 0 = some 1 := k0
    have k1 : fr 0 1 = some 3 := k1
    have q2 : fi 0 2 = nI e := q2
    have x2 : fi1 0 2 = nI e := x2
    have x3 : fi1 0 3 = nI (a_q a) := x3
    have a1 : ∀ j, j < 12 → fr 3 j = some (42 + 2 * j) := a1
    have m1 : Ev pmT 15 [.int 12, .int (nI (a_q a) + 1)] (shT, pm_u2 fi1 0 2 (nI ((e + 1) % 12)), fl1, fr1) (some (.int (nI (min 12 (a_q a + 1))))) (shT, pm_u2 fi1 0 2 (nI ((e + 1) % 12)), fl1, fr1) := by
      rw [nI_1]
      exact m1
    have em : nI e + 1 - (nI e + 1) / 12 * 12 = nI ((e + 1) % 12) := by
      rw [nI_1]
      exact pk_rem (d := 12) (by omega) (by decide) (by decide)
    refine gp_n 1 (j' := 1) (lv' := [some (.ref 0)]) (st' := [.ref 0]) (h' := (shT, fi, fl, fr)) rfl ?_
    refine gp_of (fun _ k9 => g_getR (q' := 3) rfl rfl (by decide) k1 k9) ?_
    refine gp_n 1 (j' := 3) (lv' := [some (.ref 0)]) (st' := [.ref 0, .ref 3]) (h' := (shT, fi, fl, fr)) rfl ?_
    refine gp_of (fun _ k9 => g_getI (x := nI e) rfl (Or.inl rfl) rfl (by decide) (q2) k9) ?_
    refine gp_of (fun _ k9 => g_aald (k := e) (z := 42 + 2 * e) rfl rfl (rfl) (by omega) (by decide) (a1 e q1) k9) ?_
    refine gp_n 1 (j' := 6) (lv' := [some (.ref 0)]) (st' := [.ref 0, .ref (42 + 2 * e)]) (h' := (shT, fi, fl, fr)) rfl ?_
    refine gp_of (fun _ k9 => g_getR (q' := 1) rfl rfl (by decide) k0 k9) ?_
    refine gp_of (fun _ k9 => g_cvv (st' := []) rfl se.1 rfl rfl rfl (ev1) k9) ?_
    refine gp_n 2 (j' := 10) (lv' := [some (.ref 0)]) (st' := [.ref 0, .ref 0]) (h' := (shT, fi1, fl1, fr1)) rfl ?_
    refine gp_of (fun _ k9 => g_getI (x := nI e) rfl (Or.inl rfl) rfl (by decide) (x2) k9) ?_
    refine gp_n 4 (j' := 15) (lv' := [some (.ref 0)]) (st' := [.int (((nI e) + 1) - ((nI e) + 1) / 12 * 12), .ref 0]) (h' := (shT, fi1, fl1, fr1)) rfl ?_
    rw [em]
    refine gp_of (fun _ k9 => g_putI rfl (Or.inl rfl) rfl (by decide) k9) ?_
    refine gp_n 3 (j' := 19) (lv' := [some (.ref 0)]) (st' := [.ref 0, .int 12, .ref 0]) (h' := (shT, pm_u2 fi1 0 2 (nI ((e + 1) % 12)), fl1, fr1)) rfl ?_
    refine gp_of (fun _ k9 => g_getI (x := nI (a_q a)) rfl (Or.inl rfl) rfl (by decide) (x3) k9) ?_
    refine gp_n 2 (j' := 22) (lv' := [some (.ref 0)]) (st' := [.int ((nI (a_q a)) + 1), .int 12, .ref 0]) (h' := (shT, pm_u2 fi1 0 2 (nI ((e + 1) % 12)), fl1, fr1)) rfl ?_
    refine gp_of (fun _ k9 => g_call (y := 15) (as := [.int 12, .int ((nI (a_q a)) + 1)]) (st' := [.ref 0]) rfl rfl (m1) k9) ?_
    refine gp_of (fun _ k9 => g_putI rfl (Or.inl rfl) rfl (by decide) k9) ?_
    refine gp_done (g_vret rfl) ?_
    rfl
  obtain ⟨r, gg, hr⟩ := main
  subst hr
  have ev := Ev.of (es := cd_49) (ml := 1) (lv := [some (.ref 0)]) (T := pmT) (y := 49) (as := [.ref 0]) rfl rfl rfl gg
  obtain ⟨J1, J2⟩ := iv_s vN_29 (as := [.ref 0]) rfl (fun _ _ => gz_c (gz_r (by decide)) gz_n) hI ev
  refine ⟨_, ev, ?_, J1, J2⟩
  have ne : ∀ p s, ¬ p = 0 → pm_u2 (pm_u2 (ph_i h1) 0 2 (nI ((e + 1) % 12))) 0 3 (nI (min 12 (a_q a + 1))) p s = ph_i h1 p s := fun p s hp => by simp [pm_u2, hp]
  have cc : ∀ o v, ¬ o = 0 → csC L h1 o v → csC L (ph_s h1, pm_u2 (pm_u2 (ph_i h1) 0 2 (nI ((e + 1) % 12))) 0 3 (nI (min 12 (a_q a + 1))), ph_l h1, ph_r h1) o v := fun o v ho hc => csC_fr hc (fun i _ => ne o i ho) rfl (fun s _ => ne (o + 1) s (by omega))
  have cd : ∀ o v, ¬ o = 0 → ¬ o = 42 + 2 * e → ¬ o = 42 + 2 * e + 1 → ¬ o + 1 = 42 + 2 * e → csC L h o v → csC L (ph_s h1, pm_u2 (pm_u2 (ph_i h1) 0 2 (nI ((e + 1) % 12))) 0 3 (nI (min 12 (a_q a + 1))), ph_l h1, ph_r h1) o v := fun o v ho h5 h6 h7 hc => cc o v ho (csC_fr hc (fun i _ => c2 _ _ h5 h6) (c3 _ _ h5) (fun s _ => c2 _ _ h7 (by omega)))
  refine ⟨⟨fun j hj => (c4 3 j).trans (a1 j hj), fun j hj => (c4 4 j).trans (a2 j hj), fun s hs => (ne 10 s (by omega)).trans ((c2 10 s (by omega) (by omega)).trans (a3 s hs))⟩, (ne 6 1 (by omega)).trans ((c2 6 1 (by omega) (by omega)).trans b), fun s => (ne 7 s (by omega)).trans ((c2 7 s (by omega) (by omega)).trans (c s)), fun hL => Eq.trans (by simp [ph_i, pm_u2]) ((c2 0 13 (by omega) (by omega)).trans (d hL)), cd 1 _ (by omega) (by omega) (by omega) (by omega) f, by simp [ph_i, pm_u2, a_push], ⟨(e + 1) % 12, Nat.mod_lt _ (by decide), by simp [ph_i, pm_u2], fun k hk => ?_⟩, fun k hk => ?_⟩
  · have hk : k < min 12 (a_q a + 1) := hk
    cases k with
    | zero =>
      rw [pst_0 q1]
      exact cc _ _ (by omega) (c1 L _ f)
    | succ k =>
      rw [pst_s q1 (by omega)]
      have := pst_ne (i := k) q1 (by omega)
      have h9 : pst e k = 42 + 2 * ((e + 11 - k) % 12) := rfl
      exact cd _ _ (by omega) this (by omega) (by omega) (q3 k (by omega))
  · have ik := i k hk
    show match a_m a k with
      | none => _
      | some v => _
    cases hm : a_m a k with
    | none =>
      rw [hm] at ik
      exact (ne 5 k (by omega)).trans ((c2 5 k (by omega) (by omega)).trans ik)
    | some v =>
      rw [hm] at ik
      exact ⟨(ne 5 k (by omega)).trans ((c2 5 k (by omega) (by omega)).trans ik.1), cd _ _ (by omega) (by omega) (by omega) (by omega) ik.2⟩
