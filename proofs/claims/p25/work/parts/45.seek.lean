/-- what bestBegun finds: none, or one that lives -/
def bb_B (h : PmH) (k : Nat) (b : Int32) : Prop := b = -1 ∨ ∃ q, q < k ∧ b = nI q ∧ ¬ ph_i h 88 q < 0
theorem bb_go {h0 h : PmH} {m : Nat} (hm : m ≤ 3100) (hI : sk_I h0 m h) : ∀ (n k : Nat) (b : Int32), k + n = m → bb_B h k b → ∃ b', bb_B h m b' ∧ Go pmT none cd_220 4 [some (.ref 70), some (.int b), some (.int (nI k))] [] h (some (.int b'), h) := by
  intro n
  induction n with
  | zero =>
    intro k b hk hb
    have : k = m := by omega
    subst this
    refine ⟨b, hb, ?_⟩
    obtain ⟨S, fi, fl, fr⟩ := h
    have hS : S = shT := hI.1.1
    subst hS
    have em : fi 70 45 = nI k := hI.2.2.1
    refine g_n 2 (j' := 6) (lv' := [some (.ref 70), some (.int b), some (.int (nI k))]) (st' := [.ref 70, .int (nI k)]) (h' := (shT, fi, fl, fr)) rfl ?_
    refine g_getI (x := nI k) rfl (Or.inl rfl) rfl (by decide) (em) ?_
    refine g_ict rfl (show (nI k) ≤ (nI k) from nI_le (Nat.le_refl _) (by omega)) ?_
    refine g_n 1 (j' := 25) (lv' := [some (.ref 70), some (.int b), some (.int (nI k))]) (st' := [.int b]) (h' := (shT, fi, fl, fr)) rfl ?_
    exact g_ret rfl
  | succ n ih =>
    intro k b hk hb
    have hlt : k < m := by omega
    have up : ∀ b, bb_B h k b → bb_B h (k + 1) b := fun b z => by
      rcases z with z | ⟨q, q1, q2, q3⟩
      · exact Or.inl z
      · exact Or.inr ⟨q, by omega, q2, q3⟩
    by_cases c1 : ph_i h 88 k < 0
    · obtain ⟨b', hb', g⟩ := ih (k + 1) b (by omega) (up b hb)
      refine ⟨b', hb', ?_⟩
      obtain ⟨S, fi, fl, fr⟩ := h
      have hS : S = shT := hI.1.1
      subst hS
      have r_70_42 : fr 70 42 = some 87 := hi_r hI.1 rfl rfl (by decide)
      have r_70_43 : fr 70 43 = some 88 := hi_r hI.1 rfl rfl (by decide)
      have r_70_44 : fr 70 44 = some 89 := hi_r hI.1 rfl rfl (by decide)
      have em : fi 70 45 = nI m := hI.2.2.1
      have c1 : fi 88 k < 0 := c1
      refine g_n 2 (j' := 6) (lv' := [some (.ref 70), some (.int b), some (.int (nI k))]) (st' := [.ref 70, .int (nI k)]) (h' := (shT, fi, fl, fr)) rfl ?_
      refine g_getI (x := nI m) rfl (Or.inl rfl) rfl (by decide) (em) ?_
      refine g_icf rfl (show ¬ ((nI m) ≤ (nI k)) from nI_ge hlt (by omega)) ?_
      refine g_n 1 (j' := 9) (lv' := [some (.ref 70), some (.int b), some (.int (nI k))]) (st' := [.ref 70]) (h' := (shT, fi, fl, fr)) rfl ?_
      refine g_getR (q' := 88) rfl rfl (by decide) r_70_43 ?_
      refine g_n 1 (j' := 11) (lv' := [some (.ref 70), some (.int b), some (.int (nI k))]) (st' := [.int (nI k), .ref 88]) (h' := (shT, fi, fl, fr)) rfl ?_
      refine g_iald (k := k) (x := fi 88 k) rfl rfl (rfl) (by omega) (by decide) (rfl) ?_
      refine g_ift rfl (show (fi 88 k) < (0 : Int32) from c1) ?_
      refine g_n 2 (j' := 4) (lv' := [some (.ref 70), some (.int b), some (.int ((nI k) + 1))]) (st' := []) (h' := (shT, fi, fl, fr)) rfl ?_
      rw [nI_1]
      exact g
    · have self : bb_B h (k + 1) (nI k) := Or.inr ⟨k, by omega, rfl, c1⟩
      rcases hb with rfl | ⟨q, q1, rfl, q3⟩
      · obtain ⟨b', hb', g⟩ := ih (k + 1) (nI k) (by omega) self
        refine ⟨b', hb', ?_⟩
        obtain ⟨S, fi, fl, fr⟩ := h
        have hS : S = shT := hI.1.1
        subst hS
        have r_70_42 : fr 70 42 = some 87 := hi_r hI.1 rfl rfl (by decide)
        have r_70_43 : fr 70 43 = some 88 := hi_r hI.1 rfl rfl (by decide)
        have r_70_44 : fr 70 44 = some 89 := hi_r hI.1 rfl rfl (by decide)
        have em : fi 70 45 = nI m := hI.2.2.1
        have c1 : ¬ fi 88 k < 0 := c1
        refine g_n 2 (j' := 6) (lv' := [some (.ref 70), some (.int (-1)), some (.int (nI k))]) (st' := [.ref 70, .int (nI k)]) (h' := (shT, fi, fl, fr)) rfl ?_
        refine g_getI (x := nI m) rfl (Or.inl rfl) rfl (by decide) (em) ?_
        refine g_icf rfl (show ¬ ((nI m) ≤ (nI k)) from nI_ge hlt (by omega)) ?_
        refine g_n 1 (j' := 9) (lv' := [some (.ref 70), some (.int (-1)), some (.int (nI k))]) (st' := [.ref 70]) (h' := (shT, fi, fl, fr)) rfl ?_
        refine g_getR (q' := 88) rfl rfl (by decide) r_70_43 ?_
        refine g_n 1 (j' := 11) (lv' := [some (.ref 70), some (.int (-1)), some (.int (nI k))]) (st' := [.int (nI k), .ref 88]) (h' := (shT, fi, fl, fr)) rfl ?_
        refine g_iald (k := k) (x := fi 88 k) rfl rfl (rfl) (by omega) (by decide) (rfl) ?_
        refine g_iff rfl (show ¬ ((fi 88 k) < (0 : Int32)) from c1) ?_
        refine g_n 1 (j' := 14) (lv' := [some (.ref 70), some (.int (-1)), some (.int (nI k))]) (st' := [.int (-1)]) (h' := (shT, fi, fl, fr)) rfl ?_
        refine g_ift rfl (show ((-1) : Int32) < (0 : Int32) from by decide) ?_
        refine g_n 4 (j' := 4) (lv' := [some (.ref 70), some (.int (nI k)), some (.int ((nI k) + 1))]) (st' := []) (h' := (shT, fi, fl, fr)) rfl ?_
        rw [nI_1]
        exact g
      · obtain ⟨x, x1, x2⟩ := ia_ev hI hm hlt (show q < m by omega) (show k ≠ q by omega) c1 q3
        have nq : ¬ nI q < 0 := nI_pos (by omega)
        rcases x1 with rfl | rfl
        · obtain ⟨b', hb', g⟩ := ih (k + 1) (nI q) (by omega) (Or.inr ⟨q, by omega, rfl, q3⟩)
          refine ⟨b', hb', ?_⟩
          obtain ⟨S, fi, fl, fr⟩ := h
          have hS : S = shT := hI.1.1
          subst hS
          have r_70_42 : fr 70 42 = some 87 := hi_r hI.1 rfl rfl (by decide)
          have r_70_43 : fr 70 43 = some 88 := hi_r hI.1 rfl rfl (by decide)
          have r_70_44 : fr 70 44 = some 89 := hi_r hI.1 rfl rfl (by decide)
          have em : fi 70 45 = nI m := hI.2.2.1
          have c1 : ¬ fi 88 k < 0 := c1
          refine g_n 2 (j' := 6) (lv' := [some (.ref 70), some (.int (nI q)), some (.int (nI k))]) (st' := [.ref 70, .int (nI k)]) (h' := (shT, fi, fl, fr)) rfl ?_
          refine g_getI (x := nI m) rfl (Or.inl rfl) rfl (by decide) (em) ?_
          refine g_icf rfl (show ¬ ((nI m) ≤ (nI k)) from nI_ge hlt (by omega)) ?_
          refine g_n 1 (j' := 9) (lv' := [some (.ref 70), some (.int (nI q)), some (.int (nI k))]) (st' := [.ref 70]) (h' := (shT, fi, fl, fr)) rfl ?_
          refine g_getR (q' := 88) rfl rfl (by decide) r_70_43 ?_
          refine g_n 1 (j' := 11) (lv' := [some (.ref 70), some (.int (nI q)), some (.int (nI k))]) (st' := [.int (nI k), .ref 88]) (h' := (shT, fi, fl, fr)) rfl ?_
          refine g_iald (k := k) (x := fi 88 k) rfl rfl (rfl) (by omega) (by decide) (rfl) ?_
          refine g_iff rfl (show ¬ ((fi 88 k) < (0 : Int32)) from c1) ?_
          refine g_n 1 (j' := 14) (lv' := [some (.ref 70), some (.int (nI q)), some (.int (nI k))]) (st' := [.int (nI q)]) (h' := (shT, fi, fl, fr)) rfl ?_
          refine g_iff rfl (show ¬ ((nI q) < (0 : Int32)) from nq) ?_
          refine g_n 3 (j' := 18) (lv' := [some (.ref 70), some (.int (nI q)), some (.int (nI k))]) (st' := [.int (nI q), .int (nI k), .ref 70]) (h' := (shT, fi, fl, fr)) rfl ?_
          refine g_call (y := 221) (as := [.ref 70, .int (nI k), .int (nI q)]) (st' := []) rfl rfl (x2) ?_
          refine g_ift rfl (show (0 : Int32) = (0 : Int32) from rfl) ?_
          refine g_n 2 (j' := 4) (lv' := [some (.ref 70), some (.int (nI q)), some (.int ((nI k) + 1))]) (st' := []) (h' := (shT, fi, fl, fr)) rfl ?_
          rw [nI_1]
          exact g
        · obtain ⟨b', hb', g⟩ := ih (k + 1) (nI k) (by omega) self
          refine ⟨b', hb', ?_⟩
          obtain ⟨S, fi, fl, fr⟩ := h
          have hS : S = shT := hI.1.1
          subst hS
          have r_70_42 : fr 70 42 = some 87 := hi_r hI.1 rfl rfl (by decide)
          have r_70_43 : fr 70 43 = some 88 := hi_r hI.1 rfl rfl (by decide)
          have r_70_44 : fr 70 44 = some 89 := hi_r hI.1 rfl rfl (by decide)
          have em : fi 70 45 = nI m := hI.2.2.1
          have c1 : ¬ fi 88 k < 0 := c1
          refine g_n 2 (j' := 6) (lv' := [some (.ref 70), some (.int (nI q)), some (.int (nI k))]) (st' := [.ref 70, .int (nI k)]) (h' := (shT, fi, fl, fr)) rfl ?_
          refine g_getI (x := nI m) rfl (Or.inl rfl) rfl (by decide) (em) ?_
          refine g_icf rfl (show ¬ ((nI m) ≤ (nI k)) from nI_ge hlt (by omega)) ?_
          refine g_n 1 (j' := 9) (lv' := [some (.ref 70), some (.int (nI q)), some (.int (nI k))]) (st' := [.ref 70]) (h' := (shT, fi, fl, fr)) rfl ?_
          refine g_getR (q' := 88) rfl rfl (by decide) r_70_43 ?_
          refine g_n 1 (j' := 11) (lv' := [some (.ref 70), some (.int (nI q)), some (.int (nI k))]) (st' := [.int (nI k), .ref 88]) (h' := (shT, fi, fl, fr)) rfl ?_
          refine g_iald (k := k) (x := fi 88 k) rfl rfl (rfl) (by omega) (by decide) (rfl) ?_
          refine g_iff rfl (show ¬ ((fi 88 k) < (0 : Int32)) from c1) ?_
          refine g_n 1 (j' := 14) (lv' := [some (.ref 70), some (.int (nI q)), some (.int (nI k))]) (st' := [.int (nI q)]) (h' := (shT, fi, fl, fr)) rfl ?_
          refine g_iff rfl (show ¬ ((nI q) < (0 : Int32)) from nq) ?_
          refine g_n 3 (j' := 18) (lv' := [some (.ref 70), some (.int (nI q)), some (.int (nI k))]) (st' := [.int (nI q), .int (nI k), .ref 70]) (h' := (shT, fi, fl, fr)) rfl ?_
          refine g_call (y := 221) (as := [.ref 70, .int (nI k), .int (nI q)]) (st' := []) rfl rfl (x2) ?_
          refine g_iff rfl (show ¬ ((1 : Int32) = (0 : Int32)) from by decide) ?_
          refine g_n 4 (j' := 4) (lv' := [some (.ref 70), some (.int (nI k)), some (.int ((nI k) + 1))]) (st' := []) (h' := (shT, fi, fl, fr)) rfl ?_
          rw [nI_1]
          exact g
theorem bb_ev {h0 h : PmH} {m : Nat} (hm : m ≤ 3100) (hI : sk_I h0 m h) : ∃ b, bb_B h m b ∧ Ev pmT 220 [.ref 70] h (some (.int b)) h := by
  obtain ⟨b, hb, g⟩ := bb_go hm hI m 0 (-1) (by omega) (Or.inl rfl)
  refine ⟨b, hb, Ev.of (es := cd_220) (ml := 3) (lv := [some (.ref 70), none, none]) rfl rfl rfl ?_⟩
  refine g_n 4 (j' := 4) (lv' := [some (.ref 70), some (.int (-1)), some (.int (nI 0))]) (st' := []) (h' := h) rfl ?_
  exact g
/-- the heap behind begins -/
def bg_h (h : PmH) (m : Nat) (its : Int64) (len met : Int32) : PmH := (ph_s h, pm_u2 (pm_u2 (pm_u2 (ph_i h) 88 m len) 89 m met) 70 45 (nI (m + 1)), pm_u2 (ph_l h) 87 m its, ph_r h)
theorem bg_ev {h : PmH} (hI : HI hdT shT h) {m : Nat} {its : Int64} {len met : Int32} (em : ph_i h 70 45 = nI m) (hm : m < 3100) : Ev pmT 219 [.ref 70, .long its, .int len, .int met] h none (bg_h h m its len met) := by
  obtain ⟨S, fi, fl, fr⟩ := h
  have hS : S = shT := hI.1
  subst hS
  have r_70_42 : fr 70 42 = some 87 := hi_r hI rfl rfl (by decide)
  have r_70_43 : fr 70 43 = some 88 := hi_r hI rfl rfl (by decide)
  have r_70_44 : fr 70 44 = some 89 := hi_r hI rfl rfl (by decide)
  have em : fi 70 45 = nI m := em
  refine Ev.of (es := cd_219) (ml := 5) (lv := [some (.ref 70), some (.long its), none, some (.int len), some (.int met)]) rfl rfl rfl ?_
  unfold bg_h
  rw [← nI_1 m]
  refine g_n 1 (j' := 1) (lv' := [some (.ref 70), some (.long its), none, some (.int len), some (.int met)]) (st' := [.ref 70]) (h' := (shT, fi, fl, fr)) rfl ?_
  refine g_getR (q' := 87) rfl rfl (by decide) r_70_42 ?_
  refine g_n 1 (j' := 3) (lv' := [some (.ref 70), some (.long its), none, some (.int len), some (.int met)]) (st' := [.ref 70, .ref 87]) (h' := (shT, fi, fl, fr)) rfl ?_
  refine g_getI (x := nI m) rfl (Or.inl rfl) rfl (by decide) (em) ?_
  refine g_n 1 (j' := 5) (lv' := [some (.ref 70), some (.long its), none, some (.int len), some (.int met)]) (st' := [.long its, .int (nI m), .ref 87]) (h' := (shT, fi, fl, fr)) rfl ?_
  refine g_last (k := m) rfl rfl (rfl) (by omega) (by decide) ?_
  refine g_n 1 (j' := 7) (lv' := [some (.ref 70), some (.long its), none, some (.int len), some (.int met)]) (st' := [.ref 70]) (h' := (shT, fi, pm_u2 fl 87 m its, fr)) rfl ?_
  refine g_getR (q' := 88) rfl rfl (by decide) r_70_43 ?_
  refine g_n 1 (j' := 9) (lv' := [some (.ref 70), some (.long its), none, some (.int len), some (.int met)]) (st' := [.ref 70, .ref 88]) (h' := (shT, fi, pm_u2 fl 87 m its, fr)) rfl ?_
  refine g_getI (x := nI m) rfl (Or.inl rfl) rfl (by decide) (by simp [pm_u2, em]) ?_
  refine g_n 1 (j' := 11) (lv' := [some (.ref 70), some (.long its), none, some (.int len), some (.int met)]) (st' := [.int len, .int (nI m), .ref 88]) (h' := (shT, fi, pm_u2 fl 87 m its, fr)) rfl ?_
  refine g_iast (k := m) rfl rfl (rfl) (by omega) (by decide) ?_
  refine g_n 1 (j' := 13) (lv' := [some (.ref 70), some (.long its), none, some (.int len), some (.int met)]) (st' := [.ref 70]) (h' := (shT, pm_u2 fi 88 m len, pm_u2 fl 87 m its, fr)) rfl ?_
  refine g_getR (q' := 89) rfl rfl (by decide) r_70_44 ?_
  refine g_n 1 (j' := 15) (lv' := [some (.ref 70), some (.long its), none, some (.int len), some (.int met)]) (st' := [.ref 70, .ref 89]) (h' := (shT, pm_u2 fi 88 m len, pm_u2 fl 87 m its, fr)) rfl ?_
  refine g_getI (x := nI m) rfl (Or.inl rfl) rfl (by decide) (by simp [pm_u2, em]) ?_
  refine g_n 1 (j' := 17) (lv' := [some (.ref 70), some (.long its), none, some (.int len), some (.int met)]) (st' := [.int met, .int (nI m), .ref 89]) (h' := (shT, pm_u2 fi 88 m len, pm_u2 fl 87 m its, fr)) rfl ?_
  refine g_iast (k := m) rfl rfl (rfl) (by omega) (by decide) ?_
  refine g_n 2 (j' := 20) (lv' := [some (.ref 70), some (.long its), none, some (.int len), some (.int met)]) (st' := [.ref 70, .ref 70]) (h' := (shT, pm_u2 (pm_u2 fi 88 m len) 89 m met, pm_u2 fl 87 m its, fr)) rfl ?_
  refine g_getI (x := nI m) rfl (Or.inl rfl) rfl (by decide) (by simp [pm_u2, em]) ?_
  refine g_n 2 (j' := 23) (lv' := [some (.ref 70), some (.long its), none, some (.int len), some (.int met)]) (st' := [.int ((nI m) + 1), .ref 70]) (h' := (shT, pm_u2 (pm_u2 fi 88 m len) 89 m met, pm_u2 fl 87 m its, fr)) rfl ?_
  refine g_putI rfl (Or.inl rfl) rfl (by decide) ?_
  exact g_vret rfl
theorem bg_HI {h : PmH} (hI : HI hdT shT h) {m : Nat} {its : Int64} {len met : Int32} : HI hdT shT (bg_h h m its len met) := by
  have h1 : HI hdT shT (ph_s h, pm_u2 (ph_i h) 88 m len, pm_u2 (ph_l h) 87 m its, ph_r h) := hi_free (h := (ph_s h, ph_i h, pm_u2 (ph_l h) 87 m its, ph_r h)) (p := 88) hI rfl rfl rfl
  have h2 := hi_free (p := 89) (s := m) (x := met) h1 rfl rfl rfl
  exact hd70 (c := 45) (x := nI (m + 1)) h2 rfl
theorem bg_fr {h : PmH} {m : Nat} {its : Int64} {len met : Int32} : fram sk_W h (bg_h h m its len met) := by
  have h1 : fram sk_W h (ph_s h, ph_i h, pm_u2 (ph_l h) 87 m its, ph_r h) := fram_wl (arW_in (by decide))
  have h2 : fram sk_W (ph_s h, ph_i h, pm_u2 (ph_l h) 87 m its, ph_r h) (ph_s h, pm_u2 (ph_i h) 88 m len, pm_u2 (ph_l h) 87 m its, ph_r h) := fram_wi (h := (ph_s h, ph_i h, pm_u2 (ph_l h) 87 m its, ph_r h)) (arW_in (by decide))
  have h3 : fram sk_W (ph_s h, pm_u2 (ph_i h) 88 m len, pm_u2 (ph_l h) 87 m its, ph_r h) (ph_s h, pm_u2 (pm_u2 (ph_i h) 88 m len) 89 m met, pm_u2 (ph_l h) 87 m its, ph_r h) := fram_wi (h := (ph_s h, pm_u2 (ph_i h) 88 m len, pm_u2 (ph_l h) 87 m its, ph_r h)) (arW_in (by decide))
  exact fram.tr h1 (fram.tr h2 (fram.tr h3 (fram_wi (h := (ph_s h, pm_u2 (pm_u2 (ph_i h) 88 m len) 89 m met, pm_u2 (ph_l h) 87 m its, ph_r h)) (p := 70) (s := 45) (x := nI (m + 1)) (by decide))))
theorem bg_L {h : PmH} {m a : Nat} {its : Int64} {len met : Int32} : ph_i (bg_h h m its len met) 88 a = if a = m then len else ph_i h 88 a := by
  show pm_u2 (pm_u2 (pm_u2 (ph_i h) 88 m len) 89 m met) 70 45 (nI (m + 1)) 88 a = _
  simp [pm_u2]
theorem bg_B {h : PmH} {m a : Nat} {its : Int64} {len met : Int32} : ph_l (bg_h h m its len met) 87 a = if a = m then its else ph_l h 87 a := by
  show pm_u2 (ph_l h) 87 m its 87 a = _
  simp [pm_u2]
theorem bg_45 {h : PmH} {m : Nat} {its : Int64} {len met : Int32} : ph_i (bg_h h m its len met) 70 45 = nI (m + 1) := by
  show pm_u2 (pm_u2 (pm_u2 (ph_i h) 88 m len) 89 m met) 70 45 (nI (m + 1)) 70 45 = _
  simp [pm_u2]
theorem sk_D_sym {h : PmH} {a b : Nat} (h1 : sk_D h a b) : sk_D h b a := fun ka kb l1 l2 e1 e2 => by
  obtain ⟨t, t1, t2, t3⟩ := h1 kb ka l2 l1 e2 e1
  exact ⟨t, t2, t1, fun z => t3 z.symm⟩
/-- a new beginning keeps the invariant, if it is told apart from all that live -/
theorem bg_I {h0 h : PmH} {m k : Nat} {its : Int64} {met : Int32} (hI : sk_I h0 m h) (hk : k ≤ 64) (hz9 : ∀ t, k ≤ t → t < 64 → bl its t = false) (hd : ∀ a, a < m → ∀ ka, ka ≤ 64 → sk_L h a ka → ∃ t, t < ka ∧ t < k ∧ bl (ph_l h 87 a) t ≠ bl its t) : sk_I h0 (m + 1) (bg_h h m its (nI k) met) := by
  obtain ⟨i1, i2, i3, i4, i5⟩ := hI
  refine ⟨bg_HI i1, fram.tr i2 bg_fr, bg_45, fun a ha => ?_, fun a b ha hb hab => ?_⟩
  · unfold sk_L
    rw [bg_L, bg_B]
    by_cases hz : a = m
    · rw [if_pos hz, if_pos hz]
      exact Or.inr ⟨k, hk, rfl, hz9⟩
    · rw [if_neg hz, if_neg hz]
      exact i4 a (by omega)
  · have main : ∀ a b, a < m → b = m → sk_D (bg_h h m its (nI k) met) a b := by
      intro a b ha hb ka kb l1 l2 e1 e2
      unfold sk_L at e1 e2
      rw [bg_L, if_neg (by omega)] at e1
      rw [bg_L, if_pos hb] at e2
      have := nI_inj hk l2 e2
      subst this
      obtain ⟨t, t1, t2, t3⟩ := hd a ha ka l1 e1
      refine ⟨t, t1, t2, ?_⟩
      rw [bg_B, bg_B, if_neg (by omega), if_pos hb]
      exact t3
    by_cases hza : a = m
    · exact sk_D_sym (main b a (by omega) hza)
    · by_cases hzb : b = m
      · exact main a b (by omega) hzb
      · intro ka kb l1 l2 e1 e2
        unfold sk_L at e1 e2
        rw [bg_L, if_neg hza] at e1
        rw [bg_L, if_neg hzb] at e2
        obtain ⟨t, t1, t2, t3⟩ := i5 a b (by omega) (by omega) hab ka kb l1 l2 e1 e2
        refine ⟨t, t1, t2, ?_⟩
        rw [bg_B, bg_B, if_neg hza, if_neg hzb]
        exact t3
/-- one that goes is gone -/
def dd_h (h : PmH) (b : Nat) : PmH := (ph_s h, pm_u2 (ph_i h) 88 b (-1), ph_l h, ph_r h)
theorem neg1_nI {k : Nat} (hk : k ≤ 64) : ¬ (-1 : Int32) = nI k := fun h => by
  have := nI_pos (n := k) (by omega)
  rw [← h] at this
  exact this (by decide)
theorem dd_I {h0 h : PmH} {m b : Nat} (hI : sk_I h0 m h) : sk_I h0 m (dd_h h b) ∧ ∀ k, k ≤ 64 → ¬ sk_L (dd_h h b) b k := by
  obtain ⟨i1, i2, i3, i4, i5⟩ := hI
  have eL : ∀ a, ph_i (dd_h h b) 88 a = if a = b then -1 else ph_i h 88 a := fun a => by
    show pm_u2 (ph_i h) 88 b (-1) 88 a = _
    simp [pm_u2]
  refine ⟨⟨hi_free (p := 88) i1 rfl rfl rfl, fram.tr i2 (fram_wi (arW_in (by decide))), ?_, fun a ha => ?_, fun a c ha hc hac ka kc l1 l2 e1 e2 => ?_⟩, fun k hk z => ?_⟩
  · show pm_u2 (ph_i h) 88 b (-1) 70 45 = _
    simp [pm_u2]
    exact i3
  · unfold sk_L
    rw [eL]
    by_cases hz : a = b
    · rw [if_pos hz]
      exact Or.inl (by decide)
    · rw [if_neg hz]
      exact i4 a ha
  · unfold sk_L at e1 e2
    rw [eL] at e1 e2
    by_cases hz : a = b
    · rw [if_pos hz] at e1
      exact absurd e1 (neg1_nI l1)
    · by_cases hz2 : c = b
      · rw [if_pos hz2] at e2
        exact absurd e2 (neg1_nI l2)
      · rw [if_neg hz] at e1
        rw [if_neg hz2] at e2
        exact i5 a c ha hc hac ka kc l1 l2 e1 e2
  · unfold sk_L at z
    rw [eL, if_pos rfl] at z
    exact neg1_nI hk z
theorem sk_fr {h0 h h' : PmH} {m : Nat} (hI : sk_I h0 m h) (hI' : HI hdT shT h') (hf : fram [(75, 9999)] h h') : sk_I h0 m h' := by
  obtain ⟨i1, i2, i3, i4, i5⟩ := hI
  have eL : ∀ a, ph_i h' 88 a = ph_i h 88 a := fun a => (hf 88 a rfl).1
  have eB : ∀ a, ph_l h' 87 a = ph_l h 87 a := fun a => (hf 87 a rfl).2.1
  refine ⟨hI', fram.tr i2 (fram.up (by decide) hf), ((hf 70 45 rfl).1).trans i3, fun a ha => ?_, fun a c ha hc hac ka kc l1 l2 e1 e2 => ?_⟩
  · unfold sk_L
    rw [eL, eB]
    exact i4 a ha
  · unfold sk_L at e1 e2
    rw [eL] at e1 e2
    obtain ⟨t, t1, t2, t3⟩ := i5 a c ha hc hac ka kc l1 l2 e1 e2
    exact ⟨t, t1, t2, by rw [eB, eB]; exact t3⟩
