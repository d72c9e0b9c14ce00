theorem sd_ev {h : PmH} (hI : HI hdT shT h) : ∃ h', Ev pmT 16 [.ref 8] h none h' ∧ HI hdT shT h' ∧ fram (in_w iN_305) h h' ∧ (ph_i h' 9 2 = nI 0 ∧ ph_i h' 9 3 = nI 0 ∧ ph_i h' 9 4 = nI 0 ∧ ph_i h' 9 5 = nI 500 ∧ ph_i h' 9 6 = nI 4 ∧ ph_l h' 9 7 = 0) := by
  have k0 : ph_r h 8 0 = some 9 := hi_r hI rfl rfl (by decide)
  have ev : ∃ h', Ev pmT 16 [.ref 8] h none h' ∧ (ph_i h' 9 2 = nI 0 ∧ ph_i h' 9 3 = nI 0 ∧ ph_i h' 9 4 = nI 0 ∧ ph_i h' 9 5 = nI 500 ∧ ph_i h' 9 6 = nI 4 ∧ ph_l h' 9 7 = 0) := by
    have main : GoP pmT none cd_16 0 [some (.ref 8)] [] h (fun r => r.1 = none ∧ (ph_i r.2 9 2 = nI 0 ∧ ph_i r.2 9 3 = nI 0 ∧ ph_i r.2 9 4 = nI 0 ∧ ph_i r.2 9 5 = nI 500 ∧ ph_i r.2 9 6 = nI 4 ∧ ph_l r.2 9 7 = 0)) := by
      obtain ⟨S, fi, fl, fr⟩ := h
      have hS : S = shT := hI.1
      subst hS
      have k0 : fr 8 0 = some 9 := k0
      refine gp_n 1 (j' := 1) (lv' := [some (.ref 8)]) (st' := [.ref 8]) (h' := (shT, fi, fl, fr)) rfl ?_
      refine gp_of (fun _ k9 => g_getR (q' := 9) rfl rfl (by decide) k0 k9) ?_
      refine gp_n 1 (j' := 3) (lv' := [some (.ref 8)]) (st' := [.int 0, .ref 9]) (h' := (shT, fi, fl, fr)) rfl ?_
      refine gp_of (fun _ k9 => g_putI rfl (Or.inl rfl) rfl (by decide) k9) ?_
      refine gp_n 1 (j' := 5) (lv' := [some (.ref 8)]) (st' := [.ref 8]) (h' := (shT, pm_u2 fi 9 0 0, fl, fr)) rfl ?_
      refine gp_of (fun _ k9 => g_getR (q' := 9) rfl rfl (by decide) k0 k9) ?_
      refine gp_n 1 (j' := 7) (lv' := [some (.ref 8)]) (st' := [.int 0, .ref 9]) (h' := (shT, pm_u2 fi 9 0 0, fl, fr)) rfl ?_
      refine gp_of (fun _ k9 => g_putI rfl (Or.inl rfl) rfl (by decide) k9) ?_
      refine gp_n 1 (j' := 9) (lv' := [some (.ref 8)]) (st' := [.ref 8]) (h' := (shT, pm_u2 (pm_u2 fi 9 0 0) 9 1 0, fl, fr)) rfl ?_
      refine gp_of (fun _ k9 => g_getR (q' := 9) rfl rfl (by decide) k0 k9) ?_
      refine gp_n 1 (j' := 11) (lv' := [some (.ref 8)]) (st' := [.int 0, .ref 9]) (h' := (shT, pm_u2 (pm_u2 fi 9 0 0) 9 1 0, fl, fr)) rfl ?_
      refine gp_of (fun _ k9 => g_putI rfl (Or.inl rfl) rfl (by decide) k9) ?_
      refine gp_n 1 (j' := 13) (lv' := [some (.ref 8)]) (st' := [.ref 8]) (h' := (shT, pm_u2 (pm_u2 (pm_u2 fi 9 0 0) 9 1 0) 9 2 0, fl, fr)) rfl ?_
      refine gp_of (fun _ k9 => g_getR (q' := 9) rfl rfl (by decide) k0 k9) ?_
      refine gp_n 1 (j' := 15) (lv' := [some (.ref 8)]) (st' := [.int 0, .ref 9]) (h' := (shT, pm_u2 (pm_u2 (pm_u2 fi 9 0 0) 9 1 0) 9 2 0, fl, fr)) rfl ?_
      refine gp_of (fun _ k9 => g_putI rfl (Or.inl rfl) rfl (by decide) k9) ?_
      refine gp_n 1 (j' := 17) (lv' := [some (.ref 8)]) (st' := [.ref 8]) (h' := (shT, pm_u2 (pm_u2 (pm_u2 (pm_u2 fi 9 0 0) 9 1 0) 9 2 0) 9 3 0, fl, fr)) rfl ?_
      refine gp_of (fun _ k9 => g_getR (q' := 9) rfl rfl (by decide) k0 k9) ?_
      refine gp_n 1 (j' := 19) (lv' := [some (.ref 8)]) (st' := [.int 0, .ref 9]) (h' := (shT, pm_u2 (pm_u2 (pm_u2 (pm_u2 fi 9 0 0) 9 1 0) 9 2 0) 9 3 0, fl, fr)) rfl ?_
      refine gp_of (fun _ k9 => g_putI rfl (Or.inl rfl) rfl (by decide) k9) ?_
      refine gp_n 1 (j' := 21) (lv' := [some (.ref 8)]) (st' := [.ref 8]) (h' := (shT, pm_u2 (pm_u2 (pm_u2 (pm_u2 (pm_u2 fi 9 0 0) 9 1 0) 9 2 0) 9 3 0) 9 4 0, fl, fr)) rfl ?_
      refine gp_of (fun _ k9 => g_getR (q' := 9) rfl rfl (by decide) k0 k9) ?_
      refine gp_n 1 (j' := 23) (lv' := [some (.ref 8)]) (st' := [.int 500, .ref 9]) (h' := (shT, pm_u2 (pm_u2 (pm_u2 (pm_u2 (pm_u2 fi 9 0 0) 9 1 0) 9 2 0) 9 3 0) 9 4 0, fl, fr)) rfl ?_
      refine gp_of (fun _ k9 => g_putI rfl (Or.inl rfl) rfl (by decide) k9) ?_
      refine gp_n 1 (j' := 25) (lv' := [some (.ref 8)]) (st' := [.ref 8]) (h' := (shT, pm_u2 (pm_u2 (pm_u2 (pm_u2 (pm_u2 (pm_u2 fi 9 0 0) 9 1 0) 9 2 0) 9 3 0) 9 4 0) 9 5 500, fl, fr)) rfl ?_
      refine gp_of (fun _ k9 => g_getR (q' := 9) rfl rfl (by decide) k0 k9) ?_
      refine gp_n 1 (j' := 27) (lv' := [some (.ref 8)]) (st' := [.int 4, .ref 9]) (h' := (shT, pm_u2 (pm_u2 (pm_u2 (pm_u2 (pm_u2 (pm_u2 fi 9 0 0) 9 1 0) 9 2 0) 9 3 0) 9 4 0) 9 5 500, fl, fr)) rfl ?_
      refine gp_of (fun _ k9 => g_putI rfl (Or.inl rfl) rfl (by decide) k9) ?_
      refine gp_n 1 (j' := 29) (lv' := [some (.ref 8)]) (st' := [.ref 8]) (h' := (shT, pm_u2 (pm_u2 (pm_u2 (pm_u2 (pm_u2 (pm_u2 (pm_u2 fi 9 0 0) 9 1 0) 9 2 0) 9 3 0) 9 4 0) 9 5 500) 9 6 4, fl, fr)) rfl ?_
      refine gp_of (fun _ k9 => g_getR (q' := 9) rfl rfl (by decide) k0 k9) ?_
      refine gp_n 1 (j' := 31) (lv' := [some (.ref 8)]) (st' := [.long 0, .ref 9]) (h' := (shT, pm_u2 (pm_u2 (pm_u2 (pm_u2 (pm_u2 (pm_u2 (pm_u2 fi 9 0 0) 9 1 0) 9 2 0) 9 3 0) 9 4 0) 9 5 500) 9 6 4, fl, fr)) rfl ?_
      refine gp_of (fun _ k9 => g_putL rfl rfl (by decide) k9) ?_
      refine gp_done (g_vret rfl) ?_
      exact ⟨rfl, rfl, rfl, rfl, rfl, rfl, rfl⟩
    obtain ⟨⟨v, h'⟩, g, v1, v2⟩ := main
    have v1 : v = none := v1
    subst v1
    exact ⟨h', Ev.of (es := cd_16) (ml := 1) (lv := [some (.ref 8)]) rfl rfl rfl g, v2⟩
  obtain ⟨h', ev, hc⟩ := ev
  obtain ⟨J1, J2⟩ := iv_s vN_305 (as := [.ref 8]) rfl (fun _ _ => gz_c (gz_r (by decide)) gz_n) hI ev
  exact ⟨h', ev, J1, J2, hc⟩
def pW : WSt := [(8, 2), (8, 3), (8, 4), (8, 5), (8, 6), (9, 0), (9, 1), (9, 2), (9, 3), (9, 4), (9, 5), (9, 6), (9, 7), (11, 9999)]
/-- what parse answers -/
def ps_Q (F : Nat → Int32) (t : Nat) (h : PmH) (r : Option Value × PmH) : Prop := HI hdT shT r.2 ∧ fram pW h r.2 ∧ ∃ x : Int32, r.1 = some (.int x) ∧ ((∃ R, parseS F t = some R ∧ rc_ok R ∧ x = 0 ∧ (∀ i, i < 7 → ph_i r.2 9 i = rv R i) ∧ okR R = true ∧ kS R (ph_l r.2 9 7)) ∨ (parseS F t = none ∧ ¬ x = 0))
theorem ps_38 {F : Nat → Int32} {t : Nat} {h0 h : PmH} {l : Option Value} (hI : HI hdT shT h) (nf : ¬ ph_i h 8 5 = 0) (hp : parseS F t = none) (hf : fram pW h0 h) : ∃ r, ps_Q F t h0 r ∧ Go pmT none cd_14 38 [some (.ref 8), some (.ref 6), l] [] h r := by
  refine ⟨(some (.int (ph_i h 8 5)), h), ⟨hI, hf, _, rfl, Or.inr ⟨hp, nf⟩⟩, ?_⟩
  obtain ⟨S, fi, fl, fr⟩ := h
  have hS : S = shT := hI.1
  subst hS
  have nf : ¬ fi 8 5 = 0 := nf
  refine go_of ?_
  refine gp_n 1 (j' := 39) (lv' := [some (.ref 8), some (.ref 6), l]) (st' := [.ref 8]) (h' := (shT, fi, fl, fr)) rfl ?_
  refine gp_of (fun _ k9 => g_getI (x := fi 8 5) rfl (Or.inl rfl) rfl (by decide) (rfl) k9) ?_
  refine gp_of (fun _ k9 => g_ift rfl (show ¬ (fi 8 5) = (0 : Int32) from nf) k9) ?_
  refine gp_n 1 (j' := 44) (lv' := [some (.ref 8), some (.ref 6), l]) (st' := [.ref 8]) (h' := (shT, fi, fl, fr)) rfl ?_
  refine gp_of (fun _ k9 => g_getI (x := fi 8 5) rfl (Or.inl rfl) rfl (by decide) (rfl) k9) ?_
  refine gp_done (g_ret rfl) ?_
  rfl
theorem pr_ev {F : Nat → Int32} {t : Nat} {h : PmH} (hI : HI hdT shT h) (ht : t ≤ 200) (e1 : ph_i h 6 1 = nI t) (eF : ∀ s, ph_i h 7 s = F s) : EvP 14 [.ref 8, .ref 6] h (ps_Q F t h) := by
  have k60 : ph_r h 6 0 = some 7 := hi_r hI rfl rfl (by decide)
  -- the beginning
  have I1 : HI hdT shT (ph_s h, ph_i h, ph_l h, pm_u2 (ph_r h) 8 2 (some 7)) := HI_wr hI (fun _ => by rw [show hd_at hdT shT 8 2 = (2, 0, 0, [12, 7]) from rfl]; decide)
  have I2 : HI hdT shT (ph_s h, pm_u2 (pm_u2 (pm_u2 (pm_u2 (ph_i h) 8 3 (nI t)) 8 4 0) 8 5 0) 8 6 0, ph_l h, pm_u2 (ph_r h) 8 2 (some 7)) := hd8 (h := (ph_s h, pm_u2 (pm_u2 (pm_u2 (ph_i h) 8 3 (nI t)) 8 4 0) 8 5 0, ph_l h, pm_u2 (ph_r h) 8 2 (some 7))) (hd8 (h := (ph_s h, pm_u2 (pm_u2 (ph_i h) 8 3 (nI t)) 8 4 0, ph_l h, pm_u2 (ph_r h) 8 2 (some 7))) (hd8 (h := (ph_s h, pm_u2 (ph_i h) 8 3 (nI t), ph_l h, pm_u2 (ph_r h) 8 2 (some 7))) (hd8 (h := (ph_s h, ph_i h, ph_l h, pm_u2 (ph_r h) 8 2 (some 7))) I1 rfl) rfl) rfl) rfl
  have f2 : fram pW h (ph_s h, pm_u2 (pm_u2 (pm_u2 (pm_u2 (ph_i h) 8 3 (nI t)) 8 4 0) 8 5 0) 8 6 0, ph_l h, pm_u2 (ph_r h) 8 2 (some 7)) := by
    intro p s hw
    have h3 : ∀ c, inW pW 8 c = true → ¬ (p = 8 ∧ s = c) := fun c hc z => by
      rw [z.1, z.2, hc] at hw
      cases hw
    refine ⟨?_, rfl, ?_⟩
    · rw [phi_mk, u2_ne (h3 6 rfl), u2_ne (h3 5 rfl), u2_ne (h3 4 rfl), u2_ne (h3 3 rfl)]
    · exact wl_ne (h3 2 rfl)
  obtain ⟨h3, ev3, I3, F3, c2, c3, c4, c5, c6, c7⟩ := sd_ev I2
  have f3 : fram pW h h3 := fram.tr f2 (fram.up (by decide) F3)
  have m1 := min_ev (a := nI t) (b := 200) (h := (ph_s h, ph_i h, ph_l h, pm_u2 (ph_r h) 8 2 (some 7)))
  rw [if_pos (show nI t ≤ 200 from nI_le (b := 200) ht (by decide))] at m1
  have P3 : pc_P F t 0 h3 := by
    refine ⟨I3, ((F3 8 2 (by decide)).2.2).trans ?_, ((F3 8 3 (by decide)).1).trans ?_, ((F3 8 4 (by decide)).1).trans ?_, fun s => ((F3 7 s (by
      refine inW_all (f := fun q => decide (¬ q.1 = 7)) (by decide) (fun c _ => rfl))).1).trans (eF s)⟩
    · show pm_u2 (ph_r h) 8 2 (some 7) 8 2 = some 7
      rw [u2_eq]
    · show pm_u2 (pm_u2 (pm_u2 (pm_u2 (ph_i h) 8 3 (nI t)) 8 4 0) 8 5 0) 8 6 0 8 3 = nI t
      simp [pm_u2]
    · show pm_u2 (pm_u2 (pm_u2 (pm_u2 (ph_i h) 8 3 (nI t)) 8 4 0) 8 5 0) 8 6 0 8 4 = nI 0
      simp [pm_u2]
      rfl
  have z5 : ph_i h3 8 5 = 0 := ((F3 8 5 (by decide)).1).trans (by show pm_u2 (pm_u2 (pm_u2 (pm_u2 (ph_i h) 8 3 (nI t)) 8 4 0) 8 5 0) 8 6 0 8 5 = 0; simp [pm_u2])
  have z6 : ph_i h3 8 6 = nI 0 := ((F3 8 6 (by decide)).1).trans (by show pm_u2 (pm_u2 (pm_u2 (pm_u2 (ph_i h) 8 3 (nI t)) 8 4 0) 8 5 0) 8 6 0 8 6 = nI 0; simp [pm_u2]; rfl)
  have S3 : pc_0 F t 0 h3 := ⟨P3, z5, ⟨z6, c2, c3, c4, c5, c6, c7⟩, Nat.zero_le _⟩
  -- from the loop on
  have key : ∀ h4, Ev pmT 17 [.ref 8] h3 none h4 → (∃ r, ps_Q F t h r ∧ Go pmT none cd_14 27 [some (.ref 8), some (.ref 6), some (.int (nI 0))] [] h4 r) → EvP 14 [.ref 8, .ref 6] h (ps_Q F t h) := by
    intro h4 ev4 hx
    obtain ⟨r, q, g⟩ := hx
    refine EvP.of (es := cd_14) (ml := 3) (lv := [some (.ref 8), some (.ref 6), none]) rfl rfl rfl ?_
    refine ⟨r, ?_, q⟩
    clear S3 P3
    obtain ⟨T3, fi3, fl3, fr3⟩ := h3
    have s3 : T3 = shT := I3.1
    subst s3
    obtain ⟨S, fi, fl, fr⟩ := h
    have hS : S = shT := hI.1
    subst hS
    have k60 : fr 6 0 = some 7 := k60
    have e1 : fi 6 1 = nI t := e1
    refine go_of ?_
    refine gp_n 2 (j' := 2) (lv' := [some (.ref 8), some (.ref 6), none]) (st' := [.ref 6, .ref 8]) (h' := (shT, fi, fl, fr)) rfl ?_
    refine gp_of (fun _ k9 => g_getR (q' := 7) rfl rfl (by decide) k60 k9) ?_
    refine gp_of (fun _ k9 => g_putR rfl rfl (by decide) k9) ?_
    refine gp_n 2 (j' := 6) (lv' := [some (.ref 8), some (.ref 6), none]) (st' := [.ref 6, .ref 8]) (h' := (shT, fi, fl, pm_u2 fr 8 2 (some 7))) rfl ?_
    refine gp_of (fun _ k9 => g_getI (x := nI t) rfl (Or.inl rfl) rfl (by decide) (e1) k9) ?_
    refine gp_n 1 (j' := 8) (lv' := [some (.ref 8), some (.ref 6), none]) (st' := [.ref 8, .int (nI t), .ref 8]) (h' := (shT, fi, fl, pm_u2 fr 8 2 (some 7))) rfl ?_
    refine gp_of (fun _ k9 => g_getR (q' := 7) rfl rfl (by decide) rfl k9) ?_
    refine gp_n 1 (j' := 10) (lv' := [some (.ref 8), some (.ref 6), none]) (st' := [.int 200, .int (nI t), .ref 8]) (h' := (shT, fi, fl, pm_u2 fr 8 2 (some 7))) rfl ?_
    refine gp_of (fun _ k9 => g_call (y := 15) (as := [.int (nI t), .int 200]) (st' := [.ref 8]) rfl rfl (m1) k9) ?_
    refine gp_of (fun _ k9 => g_putI rfl (Or.inl rfl) rfl (by decide) k9) ?_
    refine gp_n 2 (j' := 14) (lv' := [some (.ref 8), some (.ref 6), none]) (st' := [.int 0, .ref 8]) (h' := (shT, pm_u2 fi 8 3 (nI t), fl, pm_u2 fr 8 2 (some 7))) rfl ?_
    refine gp_of (fun _ k9 => g_putI rfl (Or.inl rfl) rfl (by decide) k9) ?_
    refine gp_n 2 (j' := 17) (lv' := [some (.ref 8), some (.ref 6), none]) (st' := [.int 0, .ref 8]) (h' := (shT, pm_u2 (pm_u2 fi 8 3 (nI t)) 8 4 0, fl, pm_u2 fr 8 2 (some 7))) rfl ?_
    refine gp_of (fun _ k9 => g_putI rfl (Or.inl rfl) rfl (by decide) k9) ?_
    refine gp_n 2 (j' := 20) (lv' := [some (.ref 8), some (.ref 6), none]) (st' := [.int 0, .ref 8]) (h' := (shT, pm_u2 (pm_u2 (pm_u2 fi 8 3 (nI t)) 8 4 0) 8 5 0, fl, pm_u2 fr 8 2 (some 7))) rfl ?_
    refine gp_of (fun _ k9 => g_putI rfl (Or.inl rfl) rfl (by decide) k9) ?_
    refine gp_n 1 (j' := 22) (lv' := [some (.ref 8), some (.ref 6), none]) (st' := [.ref 8]) (h' := (shT, pm_u2 (pm_u2 (pm_u2 (pm_u2 fi 8 3 (nI t)) 8 4 0) 8 5 0) 8 6 0, fl, pm_u2 fr 8 2 (some 7))) rfl ?_
    refine gp_of (fun _ k9 => g_callv (y := 16) (as := [.ref 8]) (st' := []) rfl rfl (ev3) k9) ?_
    refine gp_n 1 (j' := 24) (lv' := [some (.ref 8), some (.ref 6), none]) (st' := [.ref 8]) (h' := (shT, fi3, fl3, fr3)) rfl ?_
    refine gp_of (fun _ k9 => g_callv (y := 17) (as := [.ref 8]) (st' := []) rfl rfl (ev4) k9) ?_
    refine gp_n 2 (j' := 27) (lv' := [some (.ref 8), some (.ref 6), some (.int (nI 0))]) (st' := []) (h' := h4) rfl ?_
    exact gp_done g rfl
  rcases ps_ev ht S3 with ⟨R, e, h4, q1, q2, q3, q4⟩ | ⟨q1, h4, q2, q3⟩
  · -- the size is told
    refine key h4 q2 ?_
    have hR := size_ok q1
    have hk := size_k q1
    have f4 : fram pW h h4 := fram.tr f3 (fram.up (by decide) q4)
    have e4 : 0 < e := by
      have := q3.2.2.2
      unfold sizeS at q1
      split at q1
      · cases hn : num F t 2 6 (sk F t cL (sk F t cB 0)) with
        | none => rw [hn] at q1; cases q1
        | some r =>
          rw [hn] at q1
          cases q1
          exact Nat.lt_of_le_of_lt (Nat.zero_le _) (num_e hn).1
      · cases q1
    refine pp_go ht (t + 1) 0 e R h4 (by omega) (Nat.zero_le _) hR.1 hR.2.1.2 q3 (fun l R' e' h' y1 y2 y3 y4 y5 => ?_) (fun l h' y1 y2 => ?_)
    · have f5 : fram pW h h' := fram.tr f4 (fram.up (by decide) y5)
      have hR' := lines_ok _ _ _ _ _ hR y1
      have hk' := lines_k _ _ _ _ _ hR hk y1
      have hz' := lines_z _ _ _ _ _ hR (size_z q1) y1
      obtain ⟨h6, ev6, I6, F6, z⟩ := fin_ev ht y2 hR' (fun _ => hk') hz'
      have f6 : fram pW h h6 := fram.tr f5 (fram.up (by decide) F6)
      refine ⟨(some (.int (ph_i h6 8 5)), h6), ⟨I6, f6, _, rfl, ?_⟩, ?_⟩
      · rcases z with ⟨z1, z2, z3, z4⟩ | ⟨z1, z2⟩
        · refine Or.inl ⟨R', ?_, hR', z2, z3, z1, z4⟩
          unfold parseS
          rw [q1]
          show (linesS F t (t + 1) R e).bind _ = _
          rw [y1]
          exact if_pos z1
        · refine Or.inr ⟨?_, z2⟩
          unfold parseS
          rw [q1]
          show (linesS F t (t + 1) R e).bind _ = _
          rw [y1]
          exact if_neg (by rw [z1]; decide)
      · have n5 := y2.2.1
        have I5 := y2.1.1
        clear y2 y5 f5 f6 F6 z
        obtain ⟨S6, fi6, fl6, fr6⟩ := h6
        have s6 : S6 = shT := I6.1
        subst s6
        obtain ⟨S, fi, fl, fr⟩ := h'
        have hS : S = shT := I5.1
        subst hS
        have n5 : fi 8 5 = 0 := n5
        refine go_of ?_
        refine gp_n 1 (j' := 39) (lv' := [some (.ref 8), some (.ref 6), l]) (st' := [.ref 8]) (h' := (shT, fi, fl, fr)) rfl ?_
        refine gp_of (fun _ k9 => g_getI (x := 0) rfl (Or.inl rfl) rfl (by decide) (n5) k9) ?_
        refine gp_of (fun _ k9 => g_iff rfl (show ¬ (¬ (0 : Int32) = (0 : Int32)) from by decide) k9) ?_
        refine gp_n 1 (j' := 42) (lv' := [some (.ref 8), some (.ref 6), l]) (st' := [.ref 8]) (h' := (shT, fi, fl, fr)) rfl ?_
        refine gp_of (fun _ k9 => g_callv (y := 42) (as := [.ref 8]) (st' := []) rfl rfl (ev6) k9) ?_
        refine gp_n 1 (j' := 44) (lv' := [some (.ref 8), some (.ref 6), l]) (st' := [.ref 8]) (h' := (shT, fi6, fl6, fr6)) rfl ?_
        refine gp_of (fun _ k9 => g_getI (x := fi6 8 5) rfl (Or.inl rfl) rfl (by decide) (rfl) k9) ?_
        refine gp_done (g_ret rfl) ?_
        rfl
    · obtain ⟨p', p1, p2⟩ := y2.2.2
      refine ps_38 p2.1 y2.1 ?_ (fram.tr f4 (fram.up (by decide) y2.2.1))
      unfold parseS
      rw [q1]
      show (linesS F t (t + 1) R e).bind _ = _
      rw [y1]
      rfl
  · refine key h4 q2 ?_
    have hp : parseS F t = none := by
      unfold parseS
      rw [q1]
      rfl
    obtain ⟨p', p1, p2⟩ := q3.2.2
    have f4 : fram pW h h4 := fram.tr f3 (fram.up (by decide) q3.2.1)
    have nf := q3.1
    by_cases h0 : 0 < t
    · have gf := go_f ht p1 p2 nf
      have I5 := hpl_P (q := sk F t cB p') p2
      obtain ⟨r, qr, g⟩ := ps_38 (l := some (.int (nI 0))) (h0 := h) I5.1 (fun z => nf (ft_hpl.symm.trans z)) hp (fram.tr f4 (fram.up (by decide) hpl_fr))
      refine ⟨r, qr, ?_⟩
      have e3 := p2.2.2.1
      have I4 := p2.1
      clear q2 q3 p2 f4 I5
      obtain ⟨S, fi, fl, fr⟩ := h4
      have hS : S = shT := I4.1
      subst hS
      have e3 : fi 8 3 = nI t := e3
      refine go_of ?_
      refine gp_n 2 (j' := 29) (lv' := [some (.ref 8), some (.ref 6), some (.int (nI 0))]) (st' := [.ref 8, .int (nI 0)]) (h' := (shT, fi, fl, fr)) rfl ?_
      refine gp_of (fun _ k9 => g_getI (x := nI t) rfl (Or.inl rfl) rfl (by decide) (e3) k9) ?_
      refine gp_of (fun _ k9 => g_icf rfl (show ¬ ((nI t) ≤ (nI 0)) from nI_ge h0 (by omega)) k9) ?_
      refine gp_n 1 (j' := 32) (lv' := [some (.ref 8), some (.ref 6), some (.int (nI 0))]) (st' := [.ref 8]) (h' := (shT, fi, fl, fr)) rfl ?_
      refine gp_of (fun _ k9 => g_call (y := 35) (as := [.ref 8]) (st' := []) rfl rfl (gf) k9) ?_
      refine gp_of (fun _ k9 => g_ift rfl (show (0 : Int32) = (0 : Int32) from by decide) k9) ?_
      exact gp_done g rfl
    · obtain ⟨r, qr, g⟩ := ps_38 (l := some (.int (nI 0))) (h0 := h) p2.1 nf hp f4
      refine ⟨r, qr, ?_⟩
      have e3 := p2.2.2.1
      have I4 := p2.1
      clear q2 q3 p2 f4
      obtain ⟨S, fi, fl, fr⟩ := h4
      have hS : S = shT := I4.1
      subst hS
      have e3 : fi 8 3 = nI t := e3
      refine go_of ?_
      refine gp_n 2 (j' := 29) (lv' := [some (.ref 8), some (.ref 6), some (.int (nI 0))]) (st' := [.ref 8, .int (nI 0)]) (h' := (shT, fi, fl, fr)) rfl ?_
      refine gp_of (fun _ k9 => g_getI (x := nI t) rfl (Or.inl rfl) rfl (by decide) (e3) k9) ?_
      refine gp_of (fun _ k9 => g_ict rfl (show (nI t) ≤ (nI 0) from nI_le (by omega) (by omega)) k9) ?_
      exact gp_done g rfl
