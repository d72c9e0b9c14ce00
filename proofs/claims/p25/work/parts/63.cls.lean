def a_undo (a : AB) : AB := (a_tl a, a_tb a, a_x a, a_p a 0, a_q a - 1, (fun i => a_p a (i + 1)), a_m a)
def a_image (k : Nat) (a : AB) : AB := (a_tl a, a_tb a, a_x a, a_v a, a_q a, a_p a, fun i => if i = k then some (a_v a) else a_m a i)
def a_back (v : VS) (a : AB) : AB := (a_tl a, a_tb a, a_x a, v, 0, a_p a, a_m a)
theorem ro_st {h : PmH} (hI : HI hdT shT h) : ∀ e, e < 12 → ph_r h (42 + 2 * e) 8 = some (42 + 2 * e + 1) := fun e he => by
  have : e = 0 ∨ e = 1 ∨ e = 2 ∨ e = 3 ∨ e = 4 ∨ e = 5 ∨ e = 6 ∨ e = 7 ∨ e = 8 ∨ e = 9 ∨ e = 10 ∨ e = 11 := by omega
  rcases this with rfl | rfl | rfl | rfl | rfl | rfl | rfl | rfl | rfl | rfl | rfl | rfl <;> exact hi_r hI rfl rfl (by decide)
theorem ro_im {h : PmH} (hI : HI hdT shT h) : ∀ e, e < 2 → ph_r h (66 + 2 * e) 8 = some (66 + 2 * e + 1) := fun e he => by
  have : e = 0 ∨ e = 1 := by omega
  rcases this with rfl | rfl <;> exact hi_r hI rfl rfl (by decide)
theorem pst_u {e i : Nat} (he : e < 12) (hi : i < 11) : pst ((e + 11) % 12) i = pst e (i + 1) := by
  unfold pst
  omega
theorem pst_u0 {e : Nat} : 42 + 2 * ((e + 11) % 12) = pst e 0 := rfl
theorem und_C0 {L : Bool} {h : PmH} {a : AB} (hI : HI hdT shT h) (hR : QC L h a) (hq : a_q a = 0) : Ev pmT 140 [.ref 0] h (some (.int (-1))) h := by
  have g := hR.2.2.2.2.2.1
  rw [hq] at g
  refine Ev.of (es := cd_140) (ml := 1) (lv := [some (.ref 0)]) rfl rfl rfl ?_
  obtain ⟨S, fi, fl, fr⟩ := h
  have hS : S = shT := hI.1
  subst hS
  have g : fi 0 3 = 0 := g
  refine go_of ?_
  refine gp_n 1 (j' := 1) (lv' := [some (.ref 0)]) (st' := [.ref 0]) (h' := (shT, fi, fl, fr)) rfl ?_
  refine gp_of (fun _ k9 => g_getI (x := 0) rfl (Or.inl rfl) rfl (by decide) (g) k9) ?_
  refine gp_of (fun _ k9 => g_iff rfl (show ¬ (¬ (0 : Int32) = (0 : Int32)) from by decide) k9) ?_
  refine gp_n 1 (j' := 4) (lv' := [some (.ref 0)]) (st' := [.int (-1)]) (h' := (shT, fi, fl, fr)) rfl ?_
  refine gp_done (g_ret rfl) ?_
  rfl
theorem und_C {L : Bool} {h : PmH} {a : AB} (hI : HI hdT shT h) (hR : QC L h a) (hq : a_q a ≤ 12) (hp : 0 < a_q a) : ∃ h', Ev pmT 140 [.ref 0] h (some (.int (nI (a_q a - 1)))) h' ∧ QC L h' (a_undo a) ∧ HI hdT shT h' ∧ fram (in_w iN_156) h h' := by
  obtain ⟨⟨a1, a2, a3⟩, b, c, d, f, g, ⟨e, q1, q2, q3⟩, i⟩ := hR
  have e12 : (e + 11) % 12 < 12 := Nat.mod_lt _ (by decide)
  have se := st_sh _ e12
  have k0 : ph_r h 0 0 = some 1 := hi_r hI rfl rfl (by decide)
  have k1 : ph_r h 0 1 = some 3 := hi_r hI rfl rfl (by decide)
  have I2 : HI hdT shT (ph_s h, pm_u2 (pm_u2 (ph_i h) 0 2 (nI ((e + 11) % 12))) 0 3 (nI (a_q a - 1)), ph_l h, ph_r h) := by
    have J : HI hdT shT (ph_s h, pm_u2 (ph_i h) 0 2 (nI ((e + 11) % 12)), ph_l h, ph_r h) := HI_wi hI (fun _ => by
      rw [show hd_at hdT shT 0 2 = (0, 0, 11, []) from rfl, nI_toInt (by omega)]
      show (0 : Int) ≤ _ ∧ _ ≤ (11 : Int)
      omega)
    exact HI_wi J (fun _ => by
      rw [show hd_at hdT shT 0 3 = (0, 0, 12, []) from rfl, nI_toInt (by omega)]
      show (0 : Int) ≤ _ ∧ _ ≤ (12 : Int)
      omega)
  obtain ⟨h1, ev1, s1, c1, c2, c3, c4⟩ := cp_ev (o := 1) (s := 42 + 2 * ((e + 11) % 12)) I2 rfl se.1 rfl se.2 (hi_r I2 rfl rfl (by decide)) (ro_st I2 _ e12) (by omega) (by omega)
  have x3 : ph_i h1 0 3 = nI (a_q a - 1) := (c2 0 3 (by omega) (by omega)).trans u2_i
  have ev : Ev pmT 140 [.ref 0] h (some (.int (nI (a_q a - 1)))) h1 := by
    refine Ev.of (es := cd_140) (ml := 1) (lv := [some (.ref 0)]) rfl rfl rfl ?_
    obtain ⟨S1, fi1, fl1, fr1⟩ := h1
    have s1 : S1 = shT := s1
    subst s1
    obtain ⟨S, fi, fl, fr⟩ := h
    have hS : S = shT := hI.1
    subst hS
    have k0 : fr 0 0 = some 1 := k0
    have k1 : fr 0 1 = some 3 := k1
    have q2 : fi 0 2 = nI e := q2
    have g : fi 0 3 = nI (a_q a) := g
    have x3 : fi1 0 3 = nI (a_q a - 1) := x3
    have a1 : ∀ j, j < 12 → fr 3 j = some (42 + 2 * j) := a1
    have em : nI e + 12 - 1 - (nI e + 12 - 1) / 12 * 12 = nI ((e + 11) % 12) := by
      have e0 : nI e + 12 - 1 = nI (e + 11) := by
        rw [show (12 : Int32) = nI 12 from rfl, nI_add]
        exact pk_sub (a := e + 12) (b := 1) (by omega)
      rw [e0]
      exact pk_rem (d := 12) (by omega) (by decide) (by decide)
    have em2 : nI (a_q a) - 1 = nI (a_q a - 1) := pk_sub (b := 1) hp
    refine go_of ?_
    refine gp_n 1 (j' := 1) (lv' := [some (.ref 0)]) (st' := [.ref 0]) (h' := (shT, fi, fl, fr)) rfl ?_
    refine gp_of (fun _ k9 => g_getI (x := nI (a_q a)) rfl (Or.inl rfl) rfl (by decide) (g) k9) ?_
    refine gp_of (fun _ k9 => g_ift rfl (show ¬ (nI (a_q a)) = (0 : Int32) from nI_ne0 hp (by omega)) k9) ?_
    refine gp_n 2 (j' := 7) (lv' := [some (.ref 0)]) (st' := [.ref 0, .ref 0]) (h' := (shT, fi, fl, fr)) rfl ?_
    refine gp_of (fun _ k9 => g_getI (x := nI e) rfl (Or.inl rfl) rfl (by decide) (q2) k9) ?_
    refine gp_n 6 (j' := 14) (lv' := [some (.ref 0)]) (st' := [.int ((((nI e) + 12) - 1) - (((nI e) + 12) - 1) / 12 * 12), .ref 0]) (h' := (shT, fi, fl, fr)) rfl ?_
    rw [em]
    refine gp_of (fun _ k9 => g_putI rfl (Or.inl rfl) rfl (by decide) k9) ?_
    refine gp_n 2 (j' := 17) (lv' := [some (.ref 0)]) (st' := [.ref 0, .ref 0]) (h' := (shT, pm_u2 fi 0 2 (nI ((e + 11) % 12)), fl, fr)) rfl ?_
    refine gp_of (fun _ k9 => g_getI (x := nI (a_q a)) rfl (Or.inl rfl) rfl (by decide) (g) k9) ?_
    refine gp_n 2 (j' := 20) (lv' := [some (.ref 0)]) (st' := [.int ((nI (a_q a)) - 1), .ref 0]) (h' := (shT, pm_u2 fi 0 2 (nI ((e + 11) % 12)), fl, fr)) rfl ?_
    rw [em2]
    refine gp_of (fun _ k9 => g_putI rfl (Or.inl rfl) rfl (by decide) k9) ?_
    refine gp_n 1 (j' := 22) (lv' := [some (.ref 0)]) (st' := [.ref 0]) (h' := (shT, pm_u2 (pm_u2 fi 0 2 (nI ((e + 11) % 12))) 0 3 (nI (a_q a - 1)), fl, fr)) rfl ?_
    refine gp_of (fun _ k9 => g_getR (q' := 1) rfl rfl (by decide) k0 k9) ?_
    refine gp_n 1 (j' := 24) (lv' := [some (.ref 0)]) (st' := [.ref 0, .ref 1]) (h' := (shT, pm_u2 (pm_u2 fi 0 2 (nI ((e + 11) % 12))) 0 3 (nI (a_q a - 1)), fl, fr)) rfl ?_
    refine gp_of (fun _ k9 => g_getR (q' := 3) rfl rfl (by decide) k1 k9) ?_
    refine gp_n 1 (j' := 26) (lv' := [some (.ref 0)]) (st' := [.ref 0, .ref 3, .ref 1]) (h' := (shT, pm_u2 (pm_u2 fi 0 2 (nI ((e + 11) % 12))) 0 3 (nI (a_q a - 1)), fl, fr)) rfl ?_
    refine gp_of (fun _ k9 => g_getI (x := nI ((e + 11) % 12)) rfl (Or.inl rfl) rfl (by decide) (rfl) k9) ?_
    refine gp_of (fun _ k9 => g_aald (k := (e + 11) % 12) (z := 42 + 2 * ((e + 11) % 12)) rfl rfl (rfl) (by omega) (by decide) (a1 _ e12) k9) ?_
    refine gp_of (fun _ k9 => g_callv (y := 50) (as := [.ref 1, .ref (42 + 2 * ((e + 11) % 12))]) (st' := []) rfl rfl (ev1) k9) ?_
    refine gp_n 1 (j' := 30) (lv' := [some (.ref 0)]) (st' := [.ref 0]) (h' := (shT, fi1, fl1, fr1)) rfl ?_
    refine gp_of (fun _ k9 => g_getI (x := nI (a_q a - 1)) rfl (Or.inl rfl) rfl (by decide) (x3) k9) ?_
    refine gp_done (g_ret rfl) ?_
    rfl
  obtain ⟨J1, J2⟩ := iv_s vN_156 (as := [.ref 0]) rfl (fun _ _ => gz_c (gz_r (by decide)) gz_n) hI ev
  refine ⟨h1, ev, ?_, J1, J2⟩
  have ne : ∀ p s, ¬ p = 0 → ¬ p = 1 → ¬ p = 2 → ph_i h1 p s = ph_i h p s := fun p s h0 h1 h2 => by rw [c2 p s h1 h2, u2_n (by omega), u2_ne (by omega)]
  have cd : ∀ o v, 3 ≤ o → csC L h o v → csC L h1 o v := fun o v ho hc => csC_fr hc (fun i _ => ne _ _ (by omega) (by omega) (by omega)) (c3 _ _ (by omega)) (fun s _ => ne _ _ (by omega) (by omega) (by omega))
  refine ⟨⟨fun j hj => (c4 3 j).trans (a1 j hj), fun j hj => (c4 4 j).trans (a2 j hj), fun s hs => (ne 10 s (by omega) (by omega) (by omega)).trans (a3 s hs)⟩, (ne 6 1 (by omega) (by omega) (by omega)).trans b, fun s => (ne 7 s (by omega) (by omega) (by omega)).trans (c s), ?_, ?_, x3, ⟨(e + 11) % 12, e12, ?_, fun k hk => ?_⟩, fun k hk => ?_⟩
  · intro hL
    rw [c2 0 13 (by omega) (by omega), u2_n (by decide), u2_ne (by decide)]
    exact d hL
  · refine c1 L _ ?_
    have h0 := q3 0 hp
    exact csC_fr h0 (fun i _ => by rw [u2_n (by omega), u2_ne (by omega)]) rfl (fun s _ => by rw [u2_n (by omega), u2_ne (by omega)])
  · rw [c2 0 2 (by omega) (by omega), u2_n (by decide), u2_eq]
  · have hk : k < a_q a - 1 := hk
    rw [pst_u q1 (by omega)]
    have h9 : pst e (k + 1) = 42 + 2 * ((e + 11 - (k + 1)) % 12) := rfl
    exact cd _ _ (by omega) (q3 (k + 1) (by omega))
  · have ik := i k hk
    show match a_m a k with
      | none => _
      | some v => _
    cases hm : a_m a k with
    | none =>
      rw [hm] at ik
      exact (ne 5 k (by omega) (by omega) (by omega)).trans ik
    | some v =>
      rw [hm] at ik
      exact ⟨(ne 5 k (by omega) (by omega) (by omega)).trans ik.1, cd _ _ (by omega) ik.2⟩
theorem img_C0 {h : PmH} (hI : HI hdT shT h) {x : Int32} (hx : x < 0 ∨ 2 ≤ x) : Ev pmT 141 [.ref 0, .int x] h (some (.int (-1))) h := by
  refine Ev.of (es := cd_141) (ml := 2) (lv := [some (.ref 0), some (.int x)]) rfl rfl rfl ?_
  obtain ⟨S, fi, fl, fr⟩ := h
  have hS : S = shT := hI.1
  subst hS
  refine go_of ?_
  refine gp_n 1 (j' := 1) (lv' := [some (.ref 0), some (.int x)]) (st' := [.int x]) (h' := (shT, fi, fl, fr)) rfl ?_
  refine gp_if rfl (fun hc => ?_) (fun hc => ?_)
  · replace hc : x < (0 : Int32) := hc
    refine gp_n 1 (j' := 6) (lv' := [some (.ref 0), some (.int x)]) (st' := [.int (-1)]) (h' := (shT, fi, fl, fr)) rfl ?_
    refine gp_done (g_ret rfl) ?_
    rfl
  · replace hc : ¬ (x < (0 : Int32)) := hc
    refine gp_n 2 (j' := 4) (lv' := [some (.ref 0), some (.int x)]) (st' := [.int 2, .int x]) (h' := (shT, fi, fl, fr)) rfl ?_
    refine gp_of (fun _ k9 => g_icf rfl (show ¬ (x < (2 : Int32)) from fun z => Int32.not_le.mpr z (hx.resolve_left hc)) k9) ?_
    refine gp_n 1 (j' := 6) (lv' := [some (.ref 0), some (.int x)]) (st' := [.int (-1)]) (h' := (shT, fi, fl, fr)) rfl ?_
    refine gp_done (g_ret rfl) ?_
    rfl
theorem img_C {L : Bool} {h : PmH} {a : AB} (hI : HI hdT shT h) (hR : QC L h a) {n : Nat} (hn : n < 2) : ∃ h', Ev pmT 141 [.ref 0, .int (nI n)] h (some (.int ((a_v a).1 1))) h' ∧ QC L h' (a_image n a) ∧ HI hdT shT h' ∧ fram (in_w iN_158) h h' := by
  obtain ⟨⟨a1, a2, a3⟩, b, c, d, f, g, ⟨e, q1, q2, q3⟩, i⟩ := hR
  have se := im_sh _ hn
  have k0 : ph_r h 0 0 = some 1 := hi_r hI rfl rfl (by decide)
  have k4 : ph_r h 0 4 = some 4 := hi_r hI rfl rfl (by decide)
  have k5 : ph_r h 0 5 = some 5 := hi_r hI rfl rfl (by decide)
  obtain ⟨h1, ev1, s1, c1, c2, c3, c4⟩ := cp_ev (o := 66 + 2 * n) (s := 1) hI se.1 rfl se.2 rfl (ro_im hI _ hn) (hi_r hI rfl rfl (by decide)) (by omega) (by omega)
  have x1 : ph_i h1 1 1 = (a_v a).1 1 := (c2 1 1 (by omega) (by omega)).trans (f.1 1 (by decide))
  have m0 : ph_r h1 0 0 = some 1 := (c4 _ _).trans k0
  have m5 : ph_r h1 0 5 = some 5 := (c4 _ _).trans k5
  have ev : Ev pmT 141 [.ref 0, .int (nI n)] h (some (.int ((a_v a).1 1))) (ph_s h1, pm_u2 (ph_i h1) 5 n 1, ph_l h1, ph_r h1) := by
    refine Ev.of (es := cd_141) (ml := 2) (lv := [some (.ref 0), some (.int (nI n))]) rfl rfl rfl ?_
    obtain ⟨S1, fi1, fl1, fr1⟩ := h1
    have s1 : S1 = shT := s1
    subst s1
    obtain ⟨S, fi, fl, fr⟩ := h
    have hS : S = shT := hI.1
    subst hS
    have k0 : fr 0 0 = some 1 := k0
    have k4 : fr 0 4 = some 4 := k4
    have m0 : fr1 0 0 = some 1 := m0
    have m5 : fr1 0 5 = some 5 := m5
    have x1 : fi1 1 1 = (a_v a).1 1 := x1
    have a2 : ∀ j, j < 2 → fr 4 j = some (66 + 2 * j) := a2
    refine go_of ?_
    refine gp_n 1 (j' := 1) (lv' := [some (.ref 0), some (.int (nI n))]) (st' := [.int (nI n)]) (h' := (shT, fi, fl, fr)) rfl ?_
    refine gp_of (fun _ k9 => g_iff rfl (show ¬ ((nI n) < (0 : Int32)) from nI_pos (by omega)) k9) ?_
    refine gp_n 2 (j' := 4) (lv' := [some (.ref 0), some (.int (nI n))]) (st' := [.int 2, .int (nI n)]) (h' := (shT, fi, fl, fr)) rfl ?_
    refine gp_of (fun _ k9 => g_ict rfl (show (nI n) < (2 : Int32) from nI_lt (b := 2) hn (by decide)) k9) ?_
    refine gp_n 1 (j' := 8) (lv' := [some (.ref 0), some (.int (nI n))]) (st' := [.ref 0]) (h' := (shT, fi, fl, fr)) rfl ?_
    refine gp_of (fun _ k9 => g_getR (q' := 4) rfl rfl (by decide) k4 k9) ?_
    refine gp_n 1 (j' := 10) (lv' := [some (.ref 0), some (.int (nI n))]) (st' := [.int (nI n), .ref 4]) (h' := (shT, fi, fl, fr)) rfl ?_
    refine gp_of (fun _ k9 => g_aald (k := n) (z := 66 + 2 * n) rfl rfl (rfl) (by omega) (by decide) (a2 _ hn) k9) ?_
    refine gp_n 1 (j' := 12) (lv' := [some (.ref 0), some (.int (nI n))]) (st' := [.ref 0, .ref (66 + 2 * n)]) (h' := (shT, fi, fl, fr)) rfl ?_
    refine gp_of (fun _ k9 => g_getR (q' := 1) rfl rfl (by decide) k0 k9) ?_
    refine gp_of (fun _ k9 => g_cvv (st' := []) rfl se.1 rfl rfl rfl (ev1) k9) ?_
    refine gp_n 1 (j' := 15) (lv' := [some (.ref 0), some (.int (nI n))]) (st' := [.ref 0]) (h' := (shT, fi1, fl1, fr1)) rfl ?_
    refine gp_of (fun _ k9 => g_getR (q' := 5) rfl rfl (by decide) m5 k9) ?_
    refine gp_n 2 (j' := 18) (lv' := [some (.ref 0), some (.int (nI n))]) (st' := [.int 1, .int (nI n), .ref 5]) (h' := (shT, fi1, fl1, fr1)) rfl ?_
    refine gp_of (fun _ k9 => g_zast (k := n) rfl rfl (rfl) (by omega) (by decide) k9) ?_
    refine gp_n 1 (j' := 20) (lv' := [some (.ref 0), some (.int (nI n))]) (st' := [.ref 0]) (h' := (shT, pm_u2 fi1 5 n (vp_nar .boolean 1), fl1, fr1)) rfl ?_
    refine gp_of (fun _ k9 => g_getR (q' := 1) rfl rfl (by decide) m0 k9) ?_
    refine gp_of (fun _ k9 => g_getI (x := (a_v a).1 1) rfl (Or.inl rfl) rfl (by decide) (x1) k9) ?_
    refine gp_done (g_ret rfl) ?_
    rfl
  obtain ⟨J1, J2⟩ := iv_s vN_158 (as := [.ref 0, .int (nI n)]) rfl (fun _ _ => gz_c (gz_r (by decide)) (gz_c (gz_a _) gz_n)) hI ev
  refine ⟨_, ev, ?_, J1, J2⟩
  have nx : ∀ p s, ¬ (p = 5 ∧ s = n) → ph_i (ph_s h1, pm_u2 (ph_i h1) 5 n 1, ph_l h1, ph_r h1) p s = ph_i h1 p s := fun p s h => u2_ne h
  have ne : ∀ p s, ¬ (p = 5 ∧ s = n) → ¬ p = 66 + 2 * n → ¬ p = 66 + 2 * n + 1 → ph_i (ph_s h1, pm_u2 (ph_i h1) 5 n 1, ph_l h1, ph_r h1) p s = ph_i h p s := fun p s h0 h1 h2 => (nx p s h0).trans (c2 p s h1 h2)
  have cd : ∀ o v, ¬ o = 5 → ¬ o = 4 → ¬ o = 66 + 2 * n → ¬ o = 66 + 2 * n + 1 → ¬ o + 1 = 66 + 2 * n → csC L h o v → csC L (ph_s h1, pm_u2 (ph_i h1) 5 n 1, ph_l h1, ph_r h1) o v := fun o v o1 o2 o3 o4 o5 hc => csC_fr hc (fun i _ => ne _ _ (by omega) o3 o4) (c3 _ _ o3) (fun s _ => ne _ _ (by omega) (by omega) (by omega))
  refine ⟨⟨fun j hj => (c4 3 j).trans (a1 j hj), fun j hj => (c4 4 j).trans (a2 j hj), fun s hs => (ne 10 s (by omega) (by omega) (by omega)).trans (a3 s hs)⟩, (ne 6 1 (by omega) (by omega) (by omega)).trans b, fun s => (ne 7 s (by omega) (by omega) (by omega)).trans (c s), fun hL => (ne 0 13 (by omega) (by omega) (by omega)).trans (d hL), cd 1 _ (by omega) (by omega) (by omega) (by omega) (by omega) f, (ne 0 3 (by omega) (by omega) (by omega)).trans g, ⟨e, q1, (ne 0 2 (by omega) (by omega) (by omega)).trans q2, fun k hk => ?_⟩, fun k hk => ?_⟩
  · have h9 := pst_in (e := e) (i := k)
    exact cd _ _ (by omega) (by omega) (by omega) (by omega) (by omega) (q3 k hk)
  · show match (if k = n then some (a_v a) else a_m a k) with
      | none => _
      | some v => _
    by_cases hkn : k = n
    · subst hkn
      rw [if_pos rfl]
      exact ⟨u2_i, csC_fr (c1 L _ f) (fun i _ => nx _ _ (by omega)) rfl (fun s _ => nx _ _ (by omega))⟩
    · rw [if_neg hkn]
      have ik := i k hk
      cases hm : a_m a k with
      | none =>
        rw [hm] at ik
        exact (ne 5 k (by omega) (by omega) (by omega)).trans ik
      | some v =>
        rw [hm] at ik
        exact ⟨(ne 5 k (by omega) (by omega) (by omega)).trans ik.1, cd _ _ (by omega) (by omega) (by omega) (by omega) (by omega) ik.2⟩
theorem bck_C0 {h : PmH} (hI : HI hdT shT h) {x : Int32} (hx : x < 0 ∨ 2 ≤ x) : Ev pmT 142 [.ref 0, .int x] h (some (.int (-1))) h := by
  refine Ev.of (es := cd_142) (ml := 2) (lv := [some (.ref 0), some (.int x)]) rfl rfl rfl ?_
  obtain ⟨S, fi, fl, fr⟩ := h
  have hS : S = shT := hI.1
  subst hS
  refine go_of ?_
  refine gp_n 1 (j' := 1) (lv' := [some (.ref 0), some (.int x)]) (st' := [.int x]) (h' := (shT, fi, fl, fr)) rfl ?_
  refine gp_if rfl (fun hc => ?_) (fun hc => ?_)
  · replace hc : x < (0 : Int32) := hc
    refine gp_n 1 (j' := 11) (lv' := [some (.ref 0), some (.int x)]) (st' := [.int (-1)]) (h' := (shT, fi, fl, fr)) rfl ?_
    refine gp_done (g_ret rfl) ?_
    rfl
  · replace hc : ¬ (x < (0 : Int32)) := hc
    refine gp_n 2 (j' := 4) (lv' := [some (.ref 0), some (.int x)]) (st' := [.int 2, .int x]) (h' := (shT, fi, fl, fr)) rfl ?_
    refine gp_of (fun _ k9 => g_ict rfl (show (2 : Int32) ≤ x from hx.resolve_left hc) k9) ?_
    refine gp_n 1 (j' := 11) (lv' := [some (.ref 0), some (.int x)]) (st' := [.int (-1)]) (h' := (shT, fi, fl, fr)) rfl ?_
    refine gp_done (g_ret rfl) ?_
    rfl
theorem bck_C1 {L : Bool} {h : PmH} {a : AB} (hI : HI hdT shT h) (hR : QC L h a) {n : Nat} (hn : n < 2) (hm : a_m a n = none) : Ev pmT 142 [.ref 0, .int (nI n)] h (some (.int (-1))) h := by
  have x0 := hR.2.2.2.2.2.2.2 n hn
  rw [hm] at x0
  have k5 : ph_r h 0 5 = some 5 := hi_r hI rfl rfl (by decide)
  refine Ev.of (es := cd_142) (ml := 2) (lv := [some (.ref 0), some (.int (nI n))]) rfl rfl rfl ?_
  obtain ⟨S, fi, fl, fr⟩ := h
  have hS : S = shT := hI.1
  subst hS
  have k5 : fr 0 5 = some 5 := k5
  have x0 : fi 5 n = 0 := x0
  refine go_of ?_
  refine gp_n 1 (j' := 1) (lv' := [some (.ref 0), some (.int (nI n))]) (st' := [.int (nI n)]) (h' := (shT, fi, fl, fr)) rfl ?_
  refine gp_of (fun _ k9 => g_iff rfl (show ¬ ((nI n) < (0 : Int32)) from nI_pos (by omega)) k9) ?_
  refine gp_n 2 (j' := 4) (lv' := [some (.ref 0), some (.int (nI n))]) (st' := [.int 2, .int (nI n)]) (h' := (shT, fi, fl, fr)) rfl ?_
  refine gp_of (fun _ k9 => g_icf rfl (show ¬ ((2 : Int32) ≤ (nI n)) from nI_ge (b := 2) hn (by decide)) k9) ?_
  refine gp_n 1 (j' := 6) (lv' := [some (.ref 0), some (.int (nI n))]) (st' := [.ref 0]) (h' := (shT, fi, fl, fr)) rfl ?_
  refine gp_of (fun _ k9 => g_getR (q' := 5) rfl rfl (by decide) k5 k9) ?_
  refine gp_n 1 (j' := 8) (lv' := [some (.ref 0), some (.int (nI n))]) (st' := [.int (nI n), .ref 5]) (h' := (shT, fi, fl, fr)) rfl ?_
  refine gp_of (fun _ k9 => g_bald (k := n) (x := 0) rfl rfl (by decide) (rfl) (by omega) (by decide) (x0) k9) ?_
  refine gp_of (fun _ k9 => g_iff rfl (show ¬ (¬ (0 : Int32) = (0 : Int32)) from by decide) k9) ?_
  refine gp_n 1 (j' := 11) (lv' := [some (.ref 0), some (.int (nI n))]) (st' := [.int (-1)]) (h' := (shT, fi, fl, fr)) rfl ?_
  refine gp_done (g_ret rfl) ?_
  rfl
theorem bck_C {L : Bool} {h : PmH} {a : AB} (hI : HI hdT shT h) (hR : QC L h a) {n : Nat} (hn : n < 2) {v : VS} (hm : a_m a n = some v) : ∃ h', Ev pmT 142 [.ref 0, .int (nI n)] h (some (.int (v.1 1))) h' ∧ QC L h' (a_back v a) ∧ HI hdT shT h' ∧ fram (in_w iN_160) h h' := by
  obtain ⟨⟨a1, a2, a3⟩, b, c, d, f, g, ⟨e, q1, q2, q3⟩, i⟩ := hR
  have x0 := i n hn
  rw [hm] at x0
  obtain ⟨x0, y0⟩ := x0
  have se := im_sh _ hn
  have k0 : ph_r h 0 0 = some 1 := hi_r hI rfl rfl (by decide)
  have k4 : ph_r h 0 4 = some 4 := hi_r hI rfl rfl (by decide)
  have k5 : ph_r h 0 5 = some 5 := hi_r hI rfl rfl (by decide)
  obtain ⟨h1, ev1, s1, c1, c2, c3, c4⟩ := cp_ev (o := 1) (s := 66 + 2 * n) hI rfl se.1 rfl se.2 (hi_r hI rfl rfl (by decide)) (ro_im hI _ hn) (by omega) (by omega)
  have y1 := c1 L v y0
  have x1 : ph_i h1 1 1 = v.1 1 := y1.1 1 (by decide)
  have m0 : ph_r h1 0 0 = some 1 := (c4 _ _).trans k0
  have ev : Ev pmT 142 [.ref 0, .int (nI n)] h (some (.int (v.1 1))) (ph_s h1, pm_u2 (ph_i h1) 0 3 0, ph_l h1, ph_r h1) := by
    refine Ev.of (es := cd_142) (ml := 2) (lv := [some (.ref 0), some (.int (nI n))]) rfl rfl rfl ?_
    obtain ⟨S1, fi1, fl1, fr1⟩ := h1
    have s1 : S1 = shT := s1
    subst s1
    obtain ⟨S, fi, fl, fr⟩ := h
    have hS : S = shT := hI.1
    subst hS
    have k0 : fr 0 0 = some 1 := k0
    have k4 : fr 0 4 = some 4 := k4
    have k5 : fr 0 5 = some 5 := k5
    have m0 : fr1 0 0 = some 1 := m0
    have x1 : fi1 1 1 = v.1 1 := x1
    have x0 : fi 5 n = 1 := x0
    have a2 : ∀ j, j < 2 → fr 4 j = some (66 + 2 * j) := a2
    refine go_of ?_
    refine gp_n 1 (j' := 1) (lv' := [some (.ref 0), some (.int (nI n))]) (st' := [.int (nI n)]) (h' := (shT, fi, fl, fr)) rfl ?_
    refine gp_of (fun _ k9 => g_iff rfl (show ¬ ((nI n) < (0 : Int32)) from nI_pos (by omega)) k9) ?_
    refine gp_n 2 (j' := 4) (lv' := [some (.ref 0), some (.int (nI n))]) (st' := [.int 2, .int (nI n)]) (h' := (shT, fi, fl, fr)) rfl ?_
    refine gp_of (fun _ k9 => g_icf rfl (show ¬ ((2 : Int32) ≤ (nI n)) from nI_ge (b := 2) hn (by decide)) k9) ?_
    refine gp_n 1 (j' := 6) (lv' := [some (.ref 0), some (.int (nI n))]) (st' := [.ref 0]) (h' := (shT, fi, fl, fr)) rfl ?_
    refine gp_of (fun _ k9 => g_getR (q' := 5) rfl rfl (by decide) k5 k9) ?_
    refine gp_n 1 (j' := 8) (lv' := [some (.ref 0), some (.int (nI n))]) (st' := [.int (nI n), .ref 5]) (h' := (shT, fi, fl, fr)) rfl ?_
    refine gp_of (fun _ k9 => g_bald (k := n) (x := 1) rfl rfl (by decide) (rfl) (by omega) (by decide) (x0) k9) ?_
    refine gp_of (fun _ k9 => g_ift rfl (show ¬ (1 : Int32) = (0 : Int32) from by decide) k9) ?_
    refine gp_n 1 (j' := 13) (lv' := [some (.ref 0), some (.int (nI n))]) (st' := [.ref 0]) (h' := (shT, fi, fl, fr)) rfl ?_
    refine gp_of (fun _ k9 => g_getR (q' := 1) rfl rfl (by decide) k0 k9) ?_
    refine gp_n 1 (j' := 15) (lv' := [some (.ref 0), some (.int (nI n))]) (st' := [.ref 0, .ref 1]) (h' := (shT, fi, fl, fr)) rfl ?_
    refine gp_of (fun _ k9 => g_getR (q' := 4) rfl rfl (by decide) k4 k9) ?_
    refine gp_n 1 (j' := 17) (lv' := [some (.ref 0), some (.int (nI n))]) (st' := [.int (nI n), .ref 4, .ref 1]) (h' := (shT, fi, fl, fr)) rfl ?_
    refine gp_of (fun _ k9 => g_aald (k := n) (z := 66 + 2 * n) rfl rfl (rfl) (by omega) (by decide) (a2 _ hn) k9) ?_
    refine gp_of (fun _ k9 => g_callv (y := 50) (as := [.ref 1, .ref (66 + 2 * n)]) (st' := []) rfl rfl (ev1) k9) ?_
    refine gp_n 2 (j' := 21) (lv' := [some (.ref 0), some (.int (nI n))]) (st' := [.int 0, .ref 0]) (h' := (shT, fi1, fl1, fr1)) rfl ?_
    refine gp_of (fun _ k9 => g_putI rfl (Or.inl rfl) rfl (by decide) k9) ?_
    refine gp_n 1 (j' := 23) (lv' := [some (.ref 0), some (.int (nI n))]) (st' := [.ref 0]) (h' := (shT, pm_u2 fi1 0 3 0, fl1, fr1)) rfl ?_
    refine gp_of (fun _ k9 => g_getR (q' := 1) rfl rfl (by decide) m0 k9) ?_
    refine gp_of (fun _ k9 => g_getI (x := v.1 1) rfl (Or.inl rfl) rfl (by decide) (x1) k9) ?_
    refine gp_done (g_ret rfl) ?_
    rfl
  obtain ⟨J1, J2⟩ := iv_s vN_160 (as := [.ref 0, .int (nI n)]) rfl (fun _ _ => gz_c (gz_r (by decide)) (gz_c (gz_a _) gz_n)) hI ev
  refine ⟨_, ev, ?_, J1, J2⟩
  have nx : ∀ p s, ¬ (p = 0 ∧ s = 3) → ph_i (ph_s h1, pm_u2 (ph_i h1) 0 3 0, ph_l h1, ph_r h1) p s = ph_i h1 p s := fun p s h => u2_ne h
  have ne : ∀ p s, ¬ (p = 0 ∧ s = 3) → ¬ p = 1 → ¬ p = 2 → ph_i (ph_s h1, pm_u2 (ph_i h1) 0 3 0, ph_l h1, ph_r h1) p s = ph_i h p s := fun p s h0 h1 h2 => (nx p s h0).trans (c2 p s h1 h2)
  have cd : ∀ o v, 3 ≤ o → csC L h o v → csC L (ph_s h1, pm_u2 (ph_i h1) 0 3 0, ph_l h1, ph_r h1) o v := fun o v ho hc => csC_fr hc (fun i _ => ne _ _ (by omega) (by omega) (by omega)) (c3 _ _ (by omega)) (fun s _ => ne _ _ (by omega) (by omega) (by omega))
  refine ⟨⟨fun j hj => (c4 3 j).trans (a1 j hj), fun j hj => (c4 4 j).trans (a2 j hj), fun s hs => (ne 10 s (by omega) (by omega) (by omega)).trans (a3 s hs)⟩, (ne 6 1 (by omega) (by omega) (by omega)).trans b, fun s => (ne 7 s (by omega) (by omega) (by omega)).trans (c s), fun hL => (ne 0 13 (by omega) (by omega) (by omega)).trans (d hL), csC_fr y1 (fun i _ => nx _ _ (by omega)) rfl (fun s _ => nx _ _ (by omega)), u2_i, ⟨e, q1, (ne 0 2 (by omega) (by omega) (by omega)).trans q2, fun k hk => absurd hk (Nat.not_lt_zero k)⟩, fun k hk => ?_⟩
  have ik := i k hk
  show match a_m a k with
    | none => _
    | some v => _
  cases hm : a_m a k with
  | none =>
    rw [hm] at ik
    exact (ne 5 k (by omega) (by omega) (by omega)).trans ik
  | some v =>
    rw [hm] at ik
    exact ⟨(ne 5 k (by omega) (by omega) (by omega)).trans ik.1, cd _ _ (by omega) ik.2⟩
