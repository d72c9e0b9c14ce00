theorem isin_ev {x : Int32} (lo hi : Int32) {l1 l2 : Int64} {h : PmH} (e1 : l1 = lo.toInt64) (e2 : l2 = hi.toInt64) : Ev pmT 148 [.long x.toInt64, .long l1, .long l2] h (some (.int (b01 (decide (lo ≤ x) && decide (x ≤ hi))))) h := by
  subst e1
  subst e2
  have k1 : lo ≤ x ↔ lo.toInt64 ≤ x.toInt64 := by rw [i64_le, Int32.le_iff_toInt_le]
  have k2 : x ≤ hi ↔ x.toInt64 ≤ hi.toInt64 := by rw [i64_le, Int32.le_iff_toInt_le]
  by_cases hn : lo.toInt64 ≤ x.toInt64 ∧ x.toInt64 ≤ hi.toInt64
  · rw [decide_eq_true (k1.mpr hn.1), decide_eq_true (k2.mpr hn.2)]
    exact isin1 hn
  · have e : (decide (lo ≤ x) && decide (x ≤ hi)) = false := by
      rw [Bool.and_eq_false_iff, decide_eq_false_iff_not, decide_eq_false_iff_not, k1, k2]
      exact Decidable.not_and_iff_or_not.mp hn
    rw [e]
    exact isin0 hn
theorem in01 {n : Nat} (hn : n < 2) {h : PmH} : Ev pmT 148 [.long (nI n).toInt64, .long 0, .long 1] h (some (.int 1)) h := by
  have := isin_ev (x := nI n) 0 1 (l1 := 0) (l2 := 1) (h := h) (by decide) (by decide)
  have e : (decide ((0 : Int32) ≤ nI n) && decide (nI n ≤ 1)) = true := by
    have : n = 0 ∨ n = 1 := by omega
    rcases this with rfl | rfl <;> decide
  rw [e] at this
  exact this
theorem ou01 {x : Int32} (hx : x < 0 ∨ 2 ≤ x) {h : PmH} : Ev pmT 148 [.long x.toInt64, .long 0, .long 1] h (some (.int 0)) h := by
  have := isin_ev (x := x) 0 1 (l1 := 0) (l2 := 1) (h := h) (by decide) (by decide)
  have e : (decide ((0 : Int32) ≤ x) && decide (x ≤ 1)) = false := by
    rw [Bool.and_eq_false_iff, decide_eq_false_iff_not, decide_eq_false_iff_not]
    rcases hx with z | z
    · exact Or.inl (Int32.not_le.mpr z)
    · refine Or.inr (fun y => ?_)
      have z2 := Int32.le_iff_toInt_le.mp z
      have y2 := Int32.le_iff_toInt_le.mp y
      rw [show (2 : Int32).toInt = 2 from rfl] at z2
      rw [show (1 : Int32).toInt = 1 from rfl] at y2
      omega
  rw [e] at this
  exact this
theorem und_M0 {L : Bool} {h : PmH} {a : AB} (hI : HI hdT shT h) (hR : QM L h a) (hq : a_q a = 0) : Ev pmT 228 [.ref 70] h (some (.int (-1))) h := by
  have g := hR.2.2.2.2.2.1
  rw [hq] at g
  refine Ev.of (es := cd_228) (ml := 1) (lv := [some (.ref 70)]) rfl rfl rfl ?_
  obtain ⟨S, fi, fl, fr⟩ := h
  have hS : S = shT := hI.1
  subst hS
  have g : fi 70 53 = 0 := g
  refine go_of ?_
  refine gp_n 1 (j' := 1) (lv' := [some (.ref 70)]) (st' := [.ref 70]) (h' := (shT, fi, fl, fr)) rfl ?_
  refine gp_of (fun _ k9 => g_getI (x := 0) rfl (Or.inl rfl) rfl (by decide) (g) k9) ?_
  refine gp_of (fun _ k9 => g_iff rfl (show ¬ (¬ (0 : Int32) = (0 : Int32)) from by decide) k9) ?_
  refine gp_n 1 (j' := 4) (lv' := [some (.ref 70)]) (st' := [.int (-1)]) (h' := (shT, fi, fl, fr)) rfl ?_
  refine gp_done (g_ret rfl) ?_
  rfl
theorem und_M {L : Bool} {h : PmH} {a : AB} (hI : HI hdT shT h) (hR : QM L h a) (hq : a_q a ≤ 12) (hp : 0 < a_q a) : ∃ h', Ev pmT 228 [.ref 70] h (some (.int (nI (a_q a - 1)))) h' ∧ QM L h' (a_undo a) ∧ HI hdT shT h' ∧ fram (in_w iN_267) h h' := by
  obtain ⟨a1, b, c, d, f, g, q, i⟩ := hR
  have I2 : HI hdT shT (ph_s h, pm_u2 (ph_i h) 70 53 (nI (a_q a - 1)), ph_l h, ph_r h) := HI_wi hI (fun _ => by
    rw [show hd_at hdT shT 70 53 = (0, 0, 12, []) from rfl, nI_toInt (by omega)]
    show (0 : Int) ≤ _ ∧ _ ≤ (12 : Int)
    omega)
  obtain ⟨h1, ev1, s1, c1, c2, c3, c4⟩ := gb_ev (r := a_q a - 1) I2 (by omega)
  have x3 : ph_i h1 70 53 = nI (a_q a - 1) := (c2 70 53 (by omega) (by omega)).trans u2_i
  have ev : Ev pmT 228 [.ref 70] h (some (.int (nI (a_q a - 1)))) h1 := by
    refine Ev.of (es := cd_228) (ml := 1) (lv := [some (.ref 70)]) rfl rfl rfl ?_
    obtain ⟨S1, fi1, fl1, fr1⟩ := h1
    have s1 : S1 = shT := s1
    subst s1
    obtain ⟨S, fi, fl, fr⟩ := h
    have hS : S = shT := hI.1
    subst hS
    have g : fi 70 53 = nI (a_q a) := g
    have x3 : fi1 70 53 = nI (a_q a - 1) := x3
    have em2 : nI (a_q a) - 1 = nI (a_q a - 1) := pk_sub (b := 1) hp
    refine go_of ?_
    refine gp_n 1 (j' := 1) (lv' := [some (.ref 70)]) (st' := [.ref 70]) (h' := (shT, fi, fl, fr)) rfl ?_
    refine gp_of (fun _ k9 => g_getI (x := nI (a_q a)) rfl (Or.inl rfl) rfl (by decide) (g) k9) ?_
    refine gp_of (fun _ k9 => g_ift rfl (show ¬ (nI (a_q a)) = (0 : Int32) from nI_ne0 hp (by omega)) k9) ?_
    refine gp_n 2 (j' := 7) (lv' := [some (.ref 70)]) (st' := [.ref 70, .ref 70]) (h' := (shT, fi, fl, fr)) rfl ?_
    refine gp_of (fun _ k9 => g_getI (x := nI (a_q a)) rfl (Or.inl rfl) rfl (by decide) (g) k9) ?_
    refine gp_n 2 (j' := 10) (lv' := [some (.ref 70)]) (st' := [.int ((nI (a_q a)) - 1), .ref 70]) (h' := (shT, fi, fl, fr)) rfl ?_
    rw [em2]
    refine gp_of (fun _ k9 => g_putI rfl (Or.inl rfl) rfl (by decide) k9) ?_
    refine gp_n 2 (j' := 13) (lv' := [some (.ref 70)]) (st' := [.ref 70, .ref 70]) (h' := (shT, pm_u2 fi 70 53 (nI (a_q a - 1)), fl, fr)) rfl ?_
    refine gp_of (fun _ k9 => g_getI (x := nI (a_q a - 1)) rfl (Or.inl rfl) rfl (by decide) (rfl) k9) ?_
    refine gp_of (fun _ k9 => g_callv (y := 229) (as := [.ref 70, .int (nI (a_q a - 1))]) (st' := []) rfl rfl (ev1) k9) ?_
    refine gp_n 1 (j' := 16) (lv' := [some (.ref 70)]) (st' := [.ref 70]) (h' := (shT, fi1, fl1, fr1)) rfl ?_
    refine gp_of (fun _ k9 => g_getI (x := nI (a_q a - 1)) rfl (Or.inl rfl) rfl (by decide) (x3) k9) ?_
    refine gp_done (g_ret rfl) ?_
    rfl
  obtain ⟨J1, J2⟩ := iv_s vN_267 (as := [.ref 70]) rfl (fun _ _ => gz_c (gz_r (by decide)) gz_n) hI ev
  refine ⟨h1, ev, ?_, J1, J2⟩
  have ne : ∀ p s, ¬ (p = 70 ∧ s = 53) → ¬ (p = 70 ∧ 14 ≤ s ∧ s ≤ 20) → ¬ p = 74 → ph_i h1 p s = ph_i h p s := fun p s h0 h1 h2 => (c2 p s h1 h2).trans (u2_ne h0)
  have ch : ∀ r v, csH L h r v → csH L h1 r v := fun r v hc => csH_fr hc (fun j _ => ne _ _ (by omega) (by omega) (by omega)) (c3 _ _ (by omega)) (fun s _ => ne _ _ (by omega) (by omega) (by omega))
  refine ⟨fun j hj => (ne _ _ (by omega) (by omega) (by omega)).trans (a1 j hj), (ne _ _ (by omega) (by omega) (by omega)).trans b, fun s => (ne _ _ (by omega) (by omega) (by omega)).trans (c s), fun hL => (ne _ _ (by omega) (by omega) (by omega)).trans (d hL), ?_, x3, fun k hk => ?_, fun k hk => ?_⟩
  · refine c1 L _ ?_
    have h0 := q 0 hp
    rw [Nat.sub_zero] at h0
    exact csH_fr h0 (fun j _ => by rw [u2_n (by omega)]) rfl (fun s _ => by rw [u2_n (by omega)])
  · have hk : k < a_q a - 1 := hk
    have := ch _ _ (q (k + 1) (by omega))
    rw [show a_q a - 1 - (k + 1) = a_q a - 1 - 1 - k by omega] at this
    exact this
  · have ik := i k hk
    show match a_m a k with
      | none => _
      | some v => _
    cases hm : a_m a k with
    | none =>
      rw [hm] at ik
      exact (ne _ _ (by omega) (by omega) (by omega)).trans ik
    | some v =>
      rw [hm] at ik
      exact ⟨(ne _ _ (by omega) (by omega) (by omega)).trans ik.1, ch _ _ ik.2⟩
theorem img_M0 {h : PmH} (hI : HI hdT shT h) {x : Int32} (hx : x < 0 ∨ 2 ≤ x) : Ev pmT 230 [.ref 70, .int x] h (some (.int (-1))) h := by
  refine Ev.of (es := cd_230) (ml := 2) (lv := [some (.ref 70), some (.int x)]) rfl rfl rfl ?_
  obtain ⟨S, fi, fl, fr⟩ := h
  have hS : S = shT := hI.1
  subst hS
  refine go_of ?_
  refine gp_n 4 (j' := 4) (lv' := [some (.ref 70), some (.int x)]) (st' := [.long 1, .long 0, .long x.toInt64]) (h' := (shT, fi, fl, fr)) rfl ?_
  refine gp_of (fun _ k9 => g_call (y := 148) (as := [.long x.toInt64, .long 0, .long 1]) (st' := []) rfl rfl (ou01 hx) k9) ?_
  refine gp_of (fun _ k9 => g_iff rfl (show ¬ (¬ (0 : Int32) = (0 : Int32)) from by decide) k9) ?_
  refine gp_n 1 (j' := 7) (lv' := [some (.ref 70), some (.int x)]) (st' := [.int (-1)]) (h' := (shT, fi, fl, fr)) rfl ?_
  refine gp_done (g_ret rfl) ?_
  rfl
theorem img_M {L : Bool} {h : PmH} {a : AB} (hI : HI hdT shT h) (hR : QM L h a) (hq : a_q a ≤ 12) {n : Nat} (hn : n < 2) : ∃ h', Ev pmT 230 [.ref 70, .int (nI n)] h (some (.int ((a_v a).1 1))) h' ∧ QM L h' (a_image n a) ∧ HI hdT shT h' ∧ fram (in_w iN_295) h h' := by
  obtain ⟨a1, b, c, d, f, g, q, i⟩ := hR
  obtain ⟨h1, ev1, s1, c1, c2, c3, c4⟩ := kp_ev (r := 12 + n) hI (by omega)
  have k52 : ph_r h 70 52 = some 93 := hi_r hI rfl rfl (by decide)
  have m52 : ph_r h1 70 52 = some 93 := (c4 _ _).trans k52
  have x14 : ph_i h1 70 14 = (a_v a).1 1 := (c2 70 14 (by omega)).trans (f.1 0 (by decide))
  have ev : Ev pmT 230 [.ref 70, .int (nI n)] h (some (.int ((a_v a).1 1))) (ph_s h1, pm_u2 (ph_i h1) 93 n 1, ph_l h1, ph_r h1) := by
    refine Ev.of (es := cd_230) (ml := 2) (lv := [some (.ref 70), some (.int (nI n))]) rfl rfl rfl ?_
    obtain ⟨S1, fi1, fl1, fr1⟩ := h1
    have s1 : S1 = shT := s1
    subst s1
    obtain ⟨S, fi, fl, fr⟩ := h
    have hS : S = shT := hI.1
    subst hS
    have m52 : fr1 70 52 = some 93 := m52
    have x14 : fi1 70 14 = (a_v a).1 1 := x14
    refine go_of ?_
    refine gp_n 4 (j' := 4) (lv' := [some (.ref 70), some (.int (nI n))]) (st' := [.long 1, .long 0, .long ((nI n).toInt64)]) (h' := (shT, fi, fl, fr)) rfl ?_
    refine gp_of (fun _ k9 => g_call (y := 148) (as := [.long ((nI n).toInt64), .long 0, .long 1]) (st' := []) rfl rfl (in01 hn) k9) ?_
    refine gp_of (fun _ k9 => g_ift rfl (show ¬ (1 : Int32) = (0 : Int32) from by decide) k9) ?_
    refine gp_n 4 (j' := 12) (lv' := [some (.ref 70), some (.int (nI n))]) (st' := [.int ((12 : Int32) + (nI n)), .ref 70]) (h' := (shT, fi, fl, fr)) rfl ?_
    rw [show (12 : Int32) + nI n = nI (12 + n) from nI_add 12 n]
    refine gp_of (fun _ k9 => g_callv (y := 163) (as := [.ref 70, .int (nI (12 + n))]) (st' := []) rfl rfl (ev1) k9) ?_
    refine gp_n 1 (j' := 14) (lv' := [some (.ref 70), some (.int (nI n))]) (st' := [.ref 70]) (h' := (shT, fi1, fl1, fr1)) rfl ?_
    refine gp_of (fun _ k9 => g_getR (q' := 93) rfl rfl (by decide) m52 k9) ?_
    refine gp_n 2 (j' := 17) (lv' := [some (.ref 70), some (.int (nI n))]) (st' := [.int 1, .int (nI n), .ref 93]) (h' := (shT, fi1, fl1, fr1)) rfl ?_
    refine gp_of (fun _ k9 => g_zast (k := n) rfl rfl (rfl) (by omega) (by decide) k9) ?_
    refine gp_n 1 (j' := 19) (lv' := [some (.ref 70), some (.int (nI n))]) (st' := [.ref 70]) (h' := (shT, pm_u2 fi1 93 n (vp_nar .boolean 1), fl1, fr1)) rfl ?_
    refine gp_of (fun _ k9 => g_getI (x := (a_v a).1 1) rfl (Or.inl rfl) rfl (by decide) (x14) k9) ?_
    refine gp_done (g_ret rfl) ?_
    rfl
  obtain ⟨J1, J2⟩ := iv_s vN_295 (as := [.ref 70, .int (nI n)]) rfl (fun _ _ => gz_c (gz_r (by decide)) (gz_c (gz_a _) gz_n)) hI ev
  refine ⟨_, ev, ?_, J1, J2⟩
  have nx : ∀ p s, ¬ (p = 93 ∧ s = n) → ph_i (ph_s h1, pm_u2 (ph_i h1) 93 n 1, ph_l h1, ph_r h1) p s = ph_i h1 p s := fun p s h => u2_ne h
  have ne : ∀ p s, ¬ (p = 93 ∧ s = n) → ¬ (p = 91 ∧ 72 * (12 + n) ≤ s ∧ s < 72 * (12 + n) + 72) → ph_i (ph_s h1, pm_u2 (ph_i h1) 93 n 1, ph_l h1, ph_r h1) p s = ph_i h p s := fun p s h0 h1 => (nx p s h0).trans (c2 p s h1)
  have ch : ∀ r v, ¬ r = 12 + n → csH L h r v → csH L (ph_s h1, pm_u2 (ph_i h1) 93 n 1, ph_l h1, ph_r h1) r v := fun r v hr hc => csH_fr hc (fun j _ => ne _ _ (by omega) (by omega)) (c3 _ _ (by omega)) (fun s _ => ne _ _ (by omega) (by omega))
  refine ⟨fun j hj => (ne _ _ (by omega) (by omega)).trans (a1 j hj), (ne _ _ (by omega) (by omega)).trans b, fun s => (ne _ _ (by omega) (by omega)).trans (c s), fun hL => (ne _ _ (by omega) (by omega)).trans (d hL), csM_fr f (fun j _ => ne _ _ (by omega) (by omega)) (c3 _ _ (by omega)) (fun s _ => ne _ _ (by omega) (by omega)), (ne _ _ (by omega) (by omega)).trans g, fun k hk => ?_, fun k hk => ?_⟩
  · have hk : k < a_q a := hk
    exact ch _ _ (by show ¬ a_q a - 1 - k = 12 + n; omega) (q k hk)
  · show match (if k = n then some (a_v a) else a_m a k) with
      | none => _
      | some v => _
    by_cases hkn : k = n
    · subst hkn
      rw [if_pos rfl]
      exact ⟨u2_i, csH_fr (c1 L _ f) (fun j _ => nx _ _ (by omega)) rfl (fun s _ => nx _ _ (by omega))⟩
    · rw [if_neg hkn]
      have ik := i k hk
      cases hm : a_m a k with
      | none =>
        rw [hm] at ik
        exact (ne _ _ (by omega) (by omega)).trans ik
      | some v =>
        rw [hm] at ik
        exact ⟨(ne _ _ (by omega) (by omega)).trans ik.1, ch _ _ (by omega) ik.2⟩
theorem bck_M0 {h : PmH} (hI : HI hdT shT h) {x : Int32} (hx : x < 0 ∨ 2 ≤ x) : Ev pmT 231 [.ref 70, .int x] h (some (.int (-1))) h := by
  refine Ev.of (es := cd_231) (ml := 2) (lv := [some (.ref 70), some (.int x)]) rfl rfl rfl ?_
  obtain ⟨S, fi, fl, fr⟩ := h
  have hS : S = shT := hI.1
  subst hS
  refine go_of ?_
  refine gp_n 4 (j' := 4) (lv' := [some (.ref 70), some (.int x)]) (st' := [.long 1, .long 0, .long x.toInt64]) (h' := (shT, fi, fl, fr)) rfl ?_
  refine gp_of (fun _ k9 => g_call (y := 148) (as := [.long x.toInt64, .long 0, .long 1]) (st' := []) rfl rfl (ou01 hx) k9) ?_
  refine gp_of (fun _ k9 => g_ift rfl (show (0 : Int32) = (0 : Int32) from by decide) k9) ?_
  refine gp_n 1 (j' := 12) (lv' := [some (.ref 70), some (.int x)]) (st' := [.int (-1)]) (h' := (shT, fi, fl, fr)) rfl ?_
  refine gp_done (g_ret rfl) ?_
  rfl
theorem bck_M1 {L : Bool} {h : PmH} {a : AB} (hI : HI hdT shT h) (hR : QM L h a) {n : Nat} (hn : n < 2) (hm : a_m a n = none) : Ev pmT 231 [.ref 70, .int (nI n)] h (some (.int (-1))) h := by
  have x0 := hR.2.2.2.2.2.2.2 n hn
  rw [hm] at x0
  have k52 : ph_r h 70 52 = some 93 := hi_r hI rfl rfl (by decide)
  refine Ev.of (es := cd_231) (ml := 2) (lv := [some (.ref 70), some (.int (nI n))]) rfl rfl rfl ?_
  obtain ⟨S, fi, fl, fr⟩ := h
  have hS : S = shT := hI.1
  subst hS
  have k52 : fr 70 52 = some 93 := k52
  have x0 : fi 93 n = 0 := x0
  refine go_of ?_
  refine gp_n 4 (j' := 4) (lv' := [some (.ref 70), some (.int (nI n))]) (st' := [.long 1, .long 0, .long ((nI n).toInt64)]) (h' := (shT, fi, fl, fr)) rfl ?_
  refine gp_of (fun _ k9 => g_call (y := 148) (as := [.long ((nI n).toInt64), .long 0, .long 1]) (st' := []) rfl rfl (in01 hn) k9) ?_
  refine gp_of (fun _ k9 => g_iff rfl (show ¬ ((1 : Int32) = (0 : Int32)) from by decide) k9) ?_
  refine gp_n 1 (j' := 7) (lv' := [some (.ref 70), some (.int (nI n))]) (st' := [.ref 70]) (h' := (shT, fi, fl, fr)) rfl ?_
  refine gp_of (fun _ k9 => g_getR (q' := 93) rfl rfl (by decide) k52 k9) ?_
  refine gp_n 1 (j' := 9) (lv' := [some (.ref 70), some (.int (nI n))]) (st' := [.int (nI n), .ref 93]) (h' := (shT, fi, fl, fr)) rfl ?_
  refine gp_of (fun _ k9 => g_bald (k := n) (x := 0) rfl rfl (by decide) (rfl) (by omega) (by decide) (x0) k9) ?_
  refine gp_of (fun _ k9 => g_iff rfl (show ¬ (¬ (0 : Int32) = (0 : Int32)) from by decide) k9) ?_
  refine gp_n 1 (j' := 12) (lv' := [some (.ref 70), some (.int (nI n))]) (st' := [.int (-1)]) (h' := (shT, fi, fl, fr)) rfl ?_
  refine gp_done (g_ret rfl) ?_
  rfl
theorem bck_M {L : Bool} {h : PmH} {a : AB} (hI : HI hdT shT h) (hR : QM L h a) {n : Nat} (hn : n < 2) {v : VS} (hm : a_m a n = some v) : ∃ h', Ev pmT 231 [.ref 70, .int (nI n)] h (some (.int (v.1 1))) h' ∧ QM L h' (a_back v a) ∧ HI hdT shT h' ∧ fram (in_w iN_296) h h' := by
  obtain ⟨a1, b, c, d, f, g, q, i⟩ := hR
  have x0 := i n hn
  rw [hm] at x0
  obtain ⟨x0, y0⟩ := x0
  have k52 : ph_r h 70 52 = some 93 := hi_r hI rfl rfl (by decide)
  obtain ⟨h1, ev1, s1, c1, c2, c3, c4⟩ := gb_ev (r := 12 + n) hI (by omega)
  have y1 := c1 L v y0
  have x14 : ph_i h1 70 14 = v.1 1 := y1.1 0 (by decide)
  have ev : Ev pmT 231 [.ref 70, .int (nI n)] h (some (.int (v.1 1))) (ph_s h1, pm_u2 (ph_i h1) 70 53 0, ph_l h1, ph_r h1) := by
    refine Ev.of (es := cd_231) (ml := 2) (lv := [some (.ref 70), some (.int (nI n))]) rfl rfl rfl ?_
    obtain ⟨S1, fi1, fl1, fr1⟩ := h1
    have s1 : S1 = shT := s1
    subst s1
    obtain ⟨S, fi, fl, fr⟩ := h
    have hS : S = shT := hI.1
    subst hS
    have k52 : fr 70 52 = some 93 := k52
    have x0 : fi 93 n = 1 := x0
    have x14 : fi1 70 14 = v.1 1 := x14
    refine go_of ?_
    refine gp_n 4 (j' := 4) (lv' := [some (.ref 70), some (.int (nI n))]) (st' := [.long 1, .long 0, .long ((nI n).toInt64)]) (h' := (shT, fi, fl, fr)) rfl ?_
    refine gp_of (fun _ k9 => g_call (y := 148) (as := [.long ((nI n).toInt64), .long 0, .long 1]) (st' := []) rfl rfl (in01 hn) k9) ?_
    refine gp_of (fun _ k9 => g_iff rfl (show ¬ ((1 : Int32) = (0 : Int32)) from by decide) k9) ?_
    refine gp_n 1 (j' := 7) (lv' := [some (.ref 70), some (.int (nI n))]) (st' := [.ref 70]) (h' := (shT, fi, fl, fr)) rfl ?_
    refine gp_of (fun _ k9 => g_getR (q' := 93) rfl rfl (by decide) k52 k9) ?_
    refine gp_n 1 (j' := 9) (lv' := [some (.ref 70), some (.int (nI n))]) (st' := [.int (nI n), .ref 93]) (h' := (shT, fi, fl, fr)) rfl ?_
    refine gp_of (fun _ k9 => g_bald (k := n) (x := 1) rfl rfl (by decide) (rfl) (by omega) (by decide) (x0) k9) ?_
    refine gp_of (fun _ k9 => g_ift rfl (show ¬ (1 : Int32) = (0 : Int32) from by decide) k9) ?_
    refine gp_n 4 (j' := 17) (lv' := [some (.ref 70), some (.int (nI n))]) (st' := [.int ((12 : Int32) + (nI n)), .ref 70]) (h' := (shT, fi, fl, fr)) rfl ?_
    rw [show (12 : Int32) + nI n = nI (12 + n) from nI_add 12 n]
    refine gp_of (fun _ k9 => g_callv (y := 229) (as := [.ref 70, .int (nI (12 + n))]) (st' := []) rfl rfl (ev1) k9) ?_
    refine gp_n 2 (j' := 20) (lv' := [some (.ref 70), some (.int (nI n))]) (st' := [.int 0, .ref 70]) (h' := (shT, fi1, fl1, fr1)) rfl ?_
    refine gp_of (fun _ k9 => g_putI rfl (Or.inl rfl) rfl (by decide) k9) ?_
    refine gp_n 1 (j' := 22) (lv' := [some (.ref 70), some (.int (nI n))]) (st' := [.ref 70]) (h' := (shT, pm_u2 fi1 70 53 0, fl1, fr1)) rfl ?_
    refine gp_of (fun _ k9 => g_getI (x := v.1 1) rfl (Or.inl rfl) rfl (by decide) (x14) k9) ?_
    refine gp_done (g_ret rfl) ?_
    rfl
  obtain ⟨J1, J2⟩ := iv_s vN_296 (as := [.ref 70, .int (nI n)]) rfl (fun _ _ => gz_c (gz_r (by decide)) (gz_c (gz_a _) gz_n)) hI ev
  refine ⟨_, ev, ?_, J1, J2⟩
  have nx : ∀ p s, ¬ (p = 70 ∧ s = 53) → ph_i (ph_s h1, pm_u2 (ph_i h1) 70 53 0, ph_l h1, ph_r h1) p s = ph_i h1 p s := fun p s h => u2_ne h
  have ne : ∀ p s, ¬ (p = 70 ∧ s = 53) → ¬ (p = 70 ∧ 14 ≤ s ∧ s ≤ 20) → ¬ p = 74 → ph_i (ph_s h1, pm_u2 (ph_i h1) 70 53 0, ph_l h1, ph_r h1) p s = ph_i h p s := fun p s h0 h1 h2 => (nx p s h0).trans (c2 p s h1 h2)
  have ch : ∀ r v, csH L h r v → csH L (ph_s h1, pm_u2 (ph_i h1) 70 53 0, ph_l h1, ph_r h1) r v := fun r v hc => csH_fr hc (fun j _ => ne _ _ (by omega) (by omega) (by omega)) (c3 _ _ (by omega)) (fun s _ => ne _ _ (by omega) (by omega) (by omega))
  refine ⟨fun j hj => (ne _ _ (by omega) (by omega) (by omega)).trans (a1 j hj), (ne _ _ (by omega) (by omega) (by omega)).trans b, fun s => (ne _ _ (by omega) (by omega) (by omega)).trans (c s), fun hL => (ne _ _ (by omega) (by omega) (by omega)).trans (d hL), csM_fr y1 (fun j _ => nx _ _ (by omega)) rfl (fun s _ => nx _ _ (by omega)), u2_i, fun k hk => absurd hk (Nat.not_lt_zero k), fun k hk => ?_⟩
  have ik := i k hk
  show match a_m a k with
    | none => _
    | some v => _
  cases hm : a_m a k with
  | none =>
    rw [hm] at ik
    exact (ne _ _ (by omega) (by omega) (by omega)).trans ik
  | some v =>
    rw [hm] at ik
    exact ⟨(ne _ _ (by omega) (by omega) (by omega)).trans ik.1, ch _ _ ik.2⟩
