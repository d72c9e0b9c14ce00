theorem br_out {h0 : PmH} {K : Int64} {c w P : Nat} (hK : ph_l h0 70 21 = K) (hc : c < 64) (hw : (hasf K (nI c) = 0 ∧ w = 1) ∨ (hasf K (nI c) = 1 ∧ w = 2)) (hP : P ≤ 8) (eP : ph_i h0 70 25 = nI P) : ∀ (n p : Nat) (h : PmH) (l4 l5 : Option Value), p + n = P → br_I h0 (w * p) h → ∃ h', br_I h0 (w * P) h' ∧ Go pmT none cd_192 4 [some (.ref 70), some (.int (nI c)), some (.int (nI (w * p))), some (.int (nI p)), l4, l5] [] h (some (.int (nI (w * P))), h') := by
  have hw2 : w ≤ 2 := by
    rcases hw with ⟨-, e⟩ | ⟨-, e⟩ <;> omega
  intro n
  induction n with
  | zero =>
    intro p h l4 l5 hp hI
    have : p = P := by omega
    subst this
    refine ⟨h, hI, ?_⟩
    obtain ⟨S, fi, fl, fr⟩ := h
    have hS : S = shT := hI.1.1
    subst hS
    have ep : fi 70 25 = nI p := ((hI.2.1 70 25 rfl).1).trans eP
    refine g_n 2 (j' := 6) (lv' := [some (.ref 70), some (.int (nI c)), some (.int (nI (w * p))), some (.int (nI p)), l4, l5]) (st' := [.ref 70, .int (nI p)]) (h' := (shT, fi, fl, fr)) rfl ?_
    refine g_getI (x := nI p) rfl (Or.inl rfl) rfl (by decide) (ep) ?_
    refine g_ict rfl (show (nI p) ≤ (nI p) from nI_le (Nat.le_refl _) (by omega)) ?_
    refine g_n 1 (j' := 83) (lv' := [some (.ref 70), some (.int (nI c)), some (.int (nI (w * p))), some (.int (nI p)), l4, l5]) (st' := [.int (nI (w * p))]) (h' := (shT, fi, fl, fr)) rfl ?_
    exact g_ret rfl
  | succ n ih =>
    intro p h l4 l5 hp hI
    have hlt : p < P := by omega
    obtain ⟨S, fi, fl, fr⟩ := h
    have hS : S = shT := hI.1.1
    subst hS
    have ep : fi 70 25 = nI P := ((hI.2.1 70 25 rfl).1).trans eP
    have r_70_26 : fr 70 26 = some 76 := hi_r hI.1 rfl rfl (by decide)
    obtain ⟨x, h1, e1, e2, e3⟩ := sumAt_ev hI.1 (fl 76 p) (nI c)
    obtain ⟨S1, fi1, fl1, fr1⟩ := h1
    have hS1 : S1 = shT := e2.1
    subst hS1
    have r_70_35 : fr1 70 35 = some 85 := hi_r e2 rfl rfl (by decide)
    have hI1 : ∀ y : Int32, br_I h0 (w * p) (shT, pm_u2 fi1 85 c y, fl1, fr1) := by
      intro y
      refine ⟨hi_free (h := (shT, fi1, fl1, fr1)) (p := 85) e2 rfl rfl rfl, fram.tr hI.2.1 (fram.tr (fram.up (by decide) e3) (fram_wi (h := (shT, fi1, fl1, fr1)) (p := 85) (s := c) (x := y) (arW_in (by decide)))), fun q hq => ?_⟩
      have h9 := hI.2.2 q hq
      have h8 : fi1 80 q = fi 80 q := (e3 80 q rfl).1
      show ¬ pm_u2 fi1 85 c y 80 q < 0
      have h7 : pm_u2 fi1 85 c y 80 q = fi1 80 q := by simp [pm_u2]
      rw [h7, h8]
      exact h9
    have hm : w * p + w = w * (p + 1) := by rw [Nat.mul_succ]
    have hm2 : w * (p + 1) ≤ 2 * 8 := Nat.mul_le_mul hw2 (by omega)
    have main : ∀ y : Int32, ∃ h', br_I h0 (w * P) h' ∧ Go pmT none cd_192 30 [some (.ref 70), some (.int (nI c)), some (.int (nI (w * p))), some (.int (nI p)), some (.int x), some (.int (nI 0))] [] (shT, pm_u2 fi1 85 c y, fl1, fr1) (some (.int (nI (w * P))), h') := by
      intro y
      obtain ⟨r, ⟨h', q1, q2⟩, g⟩ := br_in (Q := fun r => ∃ h', br_I h0 (w * P) h' ∧ r = (some (.int (nI (w * P))), h')) (s := x) hK hc (show p < 8 by omega) hw w 0 (w * p) _ (by omega) (by omega) (hI1 y) (fun h2 i2 => by
        rw [hm] at i2
        obtain ⟨h', b', g'⟩ := ih (p + 1) h2 (some (.int x)) (some (.int (nI w))) (by omega) i2
        refine ⟨_, ⟨h', b', rfl⟩, ?_⟩
        rw [hm]
        refine g_n 2 (j' := 4) (lv' := [some (.ref 70), some (.int (nI c)), some (.int (nI (w * (p + 1)))), some (.int ((nI p) + 1)), some (.int x), some (.int (nI w))]) (st' := []) (h' := h2) rfl ?_
        rw [nI_1]
        exact g')
      rw [q2] at g
      exact ⟨h', q1, g⟩
    by_cases hp0 : p = 0
    · obtain ⟨h', b', g⟩ := main x
      refine ⟨h', b', ?_⟩
      subst hp0
      refine g_n 2 (j' := 6) (lv' := [some (.ref 70), some (.int (nI c)), some (.int (nI (w * 0))), some (.int (nI 0)), l4, l5]) (st' := [.ref 70, .int (nI 0)]) (h' := (shT, fi, fl, fr)) rfl ?_
      refine g_getI (x := nI P) rfl (Or.inl rfl) rfl (by decide) (ep) ?_
      refine g_icf rfl (show ¬ ((nI P) ≤ (nI 0)) from nI_ge hlt (by omega)) ?_
      refine g_n 2 (j' := 10) (lv' := [some (.ref 70), some (.int (nI c)), some (.int (nI (w * 0))), some (.int (nI 0)), l4, l5]) (st' := [.ref 70, .ref 70]) (h' := (shT, fi, fl, fr)) rfl ?_
      refine g_getR (q' := 76) rfl rfl (by decide) r_70_26 ?_
      refine g_n 1 (j' := 12) (lv' := [some (.ref 70), some (.int (nI c)), some (.int (nI (w * 0))), some (.int (nI 0)), l4, l5]) (st' := [.int (nI 0), .ref 76, .ref 70]) (h' := (shT, fi, fl, fr)) rfl ?_
      refine g_lald (k := 0) (x := fl 76 0) rfl rfl (rfl) (by omega) (by decide) (rfl) ?_
      refine g_n 1 (j' := 14) (lv' := [some (.ref 70), some (.int (nI c)), some (.int (nI (w * 0))), some (.int (nI 0)), l4, l5]) (st' := [.int (nI c), .long (fl 76 0), .ref 70]) (h' := (shT, fi, fl, fr)) rfl ?_
      refine g_call (y := 193) (as := [.ref 70, .long (fl 76 0), .int (nI c)]) (st' := []) rfl rfl (e1) ?_
      refine g_n 2 (j' := 17) (lv' := [some (.ref 70), some (.int (nI c)), some (.int (nI (w * 0))), some (.int (nI 0)), some (.int x), l5]) (st' := [.ref 70]) (h' := (shT, fi1, fl1, fr1)) rfl ?_
      refine g_getR (q' := 85) rfl rfl (by decide) r_70_35 ?_
      refine g_n 2 (j' := 20) (lv' := [some (.ref 70), some (.int (nI c)), some (.int (nI (w * 0))), some (.int (nI 0)), some (.int x), l5]) (st' := [.int (nI 0), .int (nI c), .ref 85]) (h' := (shT, fi1, fl1, fr1)) rfl ?_
      refine g_iff rfl (show ¬ (¬ (nI 0) = (0 : Int32)) from by decide) ?_
      refine g_n 2 (j' := 27) (lv' := [some (.ref 70), some (.int (nI c)), some (.int (nI (w * 0))), some (.int (nI 0)), some (.int x), l5]) (st' := [.int x, .int (nI c), .ref 85]) (h' := (shT, fi1, fl1, fr1)) rfl ?_
      refine g_iast (k := c) rfl rfl (rfl) (by omega) (by decide) ?_
      refine g_n 2 (j' := 30) (lv' := [some (.ref 70), some (.int (nI c)), some (.int (nI (w * 0))), some (.int (nI 0)), some (.int x), some (.int (nI 0))]) (st' := []) (h' := (shT, pm_u2 fi1 85 c x, fl1, fr1)) rfl ?_
      exact g
    · obtain ⟨h', b', g⟩ := main (fi1 85 c)
      refine ⟨h', b', ?_⟩
      refine g_n 2 (j' := 6) (lv' := [some (.ref 70), some (.int (nI c)), some (.int (nI (w * p))), some (.int (nI p)), l4, l5]) (st' := [.ref 70, .int (nI p)]) (h' := (shT, fi, fl, fr)) rfl ?_
      refine g_getI (x := nI P) rfl (Or.inl rfl) rfl (by decide) (ep) ?_
      refine g_icf rfl (show ¬ ((nI P) ≤ (nI p)) from nI_ge hlt (by omega)) ?_
      refine g_n 2 (j' := 10) (lv' := [some (.ref 70), some (.int (nI c)), some (.int (nI (w * p))), some (.int (nI p)), l4, l5]) (st' := [.ref 70, .ref 70]) (h' := (shT, fi, fl, fr)) rfl ?_
      refine g_getR (q' := 76) rfl rfl (by decide) r_70_26 ?_
      refine g_n 1 (j' := 12) (lv' := [some (.ref 70), some (.int (nI c)), some (.int (nI (w * p))), some (.int (nI p)), l4, l5]) (st' := [.int (nI p), .ref 76, .ref 70]) (h' := (shT, fi, fl, fr)) rfl ?_
      refine g_lald (k := p) (x := fl 76 p) rfl rfl (rfl) (by omega) (by decide) (rfl) ?_
      refine g_n 1 (j' := 14) (lv' := [some (.ref 70), some (.int (nI c)), some (.int (nI (w * p))), some (.int (nI p)), l4, l5]) (st' := [.int (nI c), .long (fl 76 p), .ref 70]) (h' := (shT, fi, fl, fr)) rfl ?_
      refine g_call (y := 193) (as := [.ref 70, .long (fl 76 p), .int (nI c)]) (st' := []) rfl rfl (e1) ?_
      refine g_n 2 (j' := 17) (lv' := [some (.ref 70), some (.int (nI c)), some (.int (nI (w * p))), some (.int (nI p)), some (.int x), l5]) (st' := [.ref 70]) (h' := (shT, fi1, fl1, fr1)) rfl ?_
      refine g_getR (q' := 85) rfl rfl (by decide) r_70_35 ?_
      refine g_n 2 (j' := 20) (lv' := [some (.ref 70), some (.int (nI c)), some (.int (nI (w * p))), some (.int (nI p)), some (.int x), l5]) (st' := [.int (nI p), .int (nI c), .ref 85]) (h' := (shT, fi1, fl1, fr1)) rfl ?_
      refine g_ift rfl (show ¬ (nI p) = (0 : Int32) from nI_ne0 (by omega) (by omega)) ?_
      refine g_n 1 (j' := 24) (lv' := [some (.ref 70), some (.int (nI c)), some (.int (nI (w * p))), some (.int (nI p)), some (.int x), l5]) (st' := [.ref 70, .int (nI c), .ref 85]) (h' := (shT, fi1, fl1, fr1)) rfl ?_
      refine g_getR (q' := 85) rfl rfl (by decide) r_70_35 ?_
      refine g_n 1 (j' := 26) (lv' := [some (.ref 70), some (.int (nI c)), some (.int (nI (w * p))), some (.int (nI p)), some (.int x), l5]) (st' := [.int (nI c), .ref 85, .int (nI c), .ref 85]) (h' := (shT, fi1, fl1, fr1)) rfl ?_
      refine g_iald (k := c) (x := fi1 85 c) rfl rfl (rfl) (by omega) (by decide) (rfl) ?_
      refine g_iast (k := c) rfl rfl (rfl) (by omega) (by decide) ?_
      refine g_n 2 (j' := 30) (lv' := [some (.ref 70), some (.int (nI c)), some (.int (nI (w * p))), some (.int (nI p)), some (.int x), some (.int (nI 0))]) (st' := []) (h' := (shT, pm_u2 fi1 85 c (fi1 85 c), fl1, fr1)) rfl ?_
      exact g
theorem branches_ev {h : PmH} (hI : HI hdT shT h) {c : Nat} (hc : c < 64) : ∃ (M P : Nat) (h' : PmH), Ev pmT 192 [.ref 70, .int (nI c)] h (some (.int (nI M))) h' ∧ HI hdT shT h' ∧ fram br_W h h' ∧ (∀ q, q < M → ¬ ph_i h' 80 q < 0) ∧ P ≤ 8 ∧ ((hasf (ph_l h 70 21) (nI c) = 0 ∧ M = P) ∨ (hasf (ph_l h 70 21) (nI c) = 1 ∧ M = 2 * P)) := by
  obtain ⟨b1, b2⟩ := hi_i (p := 70) (c := 25) (lo := 0) (hi := 8) hI rfl rfl (by decide)
  obtain ⟨P, eP, hP⟩ := i32_to (n := 8) b1 b2
  have go : ∀ w, ((hasf (ph_l h 70 21) (nI c) = 0 ∧ w = 1) ∨ (hasf (ph_l h 70 21) (nI c) = 1 ∧ w = 2)) → ∃ h', br_I h (w * P) h' ∧ Ev pmT 192 [.ref 70, .int (nI c)] h (some (.int (nI (w * P)))) h' := by
    intro w hw
    obtain ⟨h', b, g⟩ := br_out (h0 := h) rfl hc hw hP eP P 0 h none none (by omega) ⟨hI, fram.rf _ _, fun q hq => absurd hq (by omega)⟩
    refine ⟨h', b, Ev.of (es := cd_192) (ml := 6) (lv := [some (.ref 70), some (.int (nI c)), none, none, none, none]) rfl rfl rfl ?_⟩
    refine g_n 4 (j' := 4) (lv' := [some (.ref 70), some (.int (nI c)), some (.int (nI (w * 0))), some (.int (nI 0)), none, none]) (st' := []) (h' := h) rfl ?_
    exact g
  rcases hasf_01 (ph_l h 70 21) (nI c) with z | z
  · obtain ⟨h', b, e⟩ := go 1 (Or.inl ⟨z, rfl⟩)
    rw [Nat.one_mul] at b e
    exact ⟨P, P, h', e, b.1, b.2.1, b.2.2, hP, Or.inl ⟨z, rfl⟩⟩
  · obtain ⟨h', b, e⟩ := go 2 (Or.inr ⟨z, rfl⟩)
    exact ⟨2 * P, P, h', e, b.1, b.2.1, b.2.2, hP, Or.inr ⟨z, rfl⟩⟩
/-- how many are taken -/
def cnt80 (f : Nat → Int32) : Nat → Nat
  | 0 => 0
  | m + 1 => cnt80 f m + (if f m < 0 then 1 else 0)
theorem cnt_all {f : Nat → Int32} : ∀ m, (∀ q, q < m → f q < 0) → cnt80 f m = m
  | 0, _ => rfl
  | m + 1, h => by
    rw [cnt80, cnt_all m (fun q hq => h q (by omega)), if_pos (h m (by omega))]
theorem cnt_none {f : Nat → Int32} : ∀ m, (∀ q, q < m → ¬ f q < 0) → cnt80 f m = 0
  | 0, _ => rfl
  | m + 1, h => by
    rw [cnt80, cnt_none m (fun q hq => h q (by omega)), if_neg (h m (by omega))]
theorem cnt_up {f g : Nat → Int32} {b : Nat} (hg : ∀ s, g s = if s = b then -1 else f s) : ∀ m, cnt80 g m ≤ cnt80 f m + (if b < m then 1 else 0)
  | 0 => by simp [cnt80]
  | m + 1 => by
    have ih := cnt_up hg m
    rw [cnt80, cnt80]
    by_cases hm : m = b
    · subst hm
      rw [if_neg (Nat.lt_irrefl m)] at ih
      rw [if_pos (Nat.lt_succ_self m)]
      split <;> split <;> omega
    · have e : g m = f m := by rw [hg, if_neg hm]
      rw [e]
      by_cases hb : b < m
      · rw [if_pos hb] at ih
        rw [if_pos (show b < m + 1 by omega)]
        omega
      · rw [if_neg hb] at ih
        rw [if_neg (show ¬ b < m + 1 by omega)]
        omega
theorem cnt_ex {f : Nat → Int32} {m p : Nat} (h : cnt80 f m ≤ p) (hp : p < m) : ∃ q, q < m ∧ ¬ f q < 0 := by
  apply Classical.byContradiction
  intro hn
  have := cnt_all (f := f) m (fun q hq => Classical.byContradiction (fun hz => hn ⟨q, hq, hz⟩))
  omega
def rd_W : WSt := [(70, 25), (75, 9999), (76, 9999), (77, 9999), (78, 9999), (79, 9999), (80, 9999), (81, 9999), (82, 9999), (83, 9999), (84, 9999), (85, 9999)]
def rd_I (h0 : PmH) (m p : Nat) (h : PmH) : Prop := HI hdT shT h ∧ fram rd_W h0 h ∧ cnt80 (ph_i h 80) m ≤ p
theorem rd_in {h0 : PmH} {ms c m st : Nat} {t : Int32} {Q : Option Value × PmH → Prop} (hc : c < 64) (ht : t = 0 ∨ t = 1) (hm : m ≤ 16) (hst : st ≤ 8) (hsm : st ≤ m) : ∀ (n p : Nat) (h : PmH), p + n = st → rd_I h0 m p h → (∀ h', HI hdT shT h' → fram rd_W h0 h' → ∃ r, Q r ∧ Go pmT none cd_191 55 [some (.ref 70), some (.int (nI ms)), some (.int (nI c)), some (.int (nI m)), some (.int t), some (.int (nI st)), some (.int (nI st))] [] h' r) → ∃ r, Q r ∧ Go pmT none cd_191 39 [some (.ref 70), some (.int (nI ms)), some (.int (nI c)), some (.int (nI m)), some (.int t), some (.int (nI st)), some (.int (nI p))] [] h r := by
  intro n
  induction n with
  | zero =>
    intro p h hp hI k
    have : p = st := by omega
    subst this
    obtain ⟨r, q, g⟩ := k h hI.1 hI.2.1
    refine ⟨r, q, ?_⟩
    refine g_n 2 (j' := 41) (lv' := [some (.ref 70), some (.int (nI ms)), some (.int (nI c)), some (.int (nI m)), some (.int t), some (.int (nI p)), some (.int (nI p))]) (st' := [.int (nI p), .int (nI p)]) (h' := h) rfl ?_
    refine g_ict rfl (show (nI p) ≤ (nI p) from nI_le (Nat.le_refl _) (by omega)) ?_
    exact g
  | succ n ih =>
    intro p h hp hI k
    have hlt : p < st := by omega
    obtain ⟨S, fi, fl, fr⟩ := h
    have hS : S = shT := hI.1.1
    subst hS
    have nxt : ∀ (b : Nat), b < 16 → ∃ h1, Ev pmT 198 [.ref 70, .int (nI p), .int (nI b), .int (nI c)] (shT, fi, fl, fr) none h1 ∧ ∃ r, Q r ∧ Go pmT none cd_191 39 [some (.ref 70), some (.int (nI ms)), some (.int (nI c)), some (.int (nI m)), some (.int t), some (.int (nI st)), some (.int (nI (p + 1)))] [] h1 r := by
      intro b hb
      obtain ⟨h1, e1, e2, e3, e4⟩ := takes_iv hI.1 (show p < 8 by omega) hb hc
      refine ⟨h1, e1, ih (p + 1) h1 (by omega) ⟨e2, fram.tr hI.2.1 (fram.up (by decide) e3), ?_⟩ k⟩
      have h9 := cnt_up (f := ph_i (shT, fi, fl, fr) 80) (g := ph_i h1 80) e4 m
      have h8 := hI.2.2
      have h7 : (if b < m then 1 else 0) ≤ 1 := by split <;> omega
      omega
    rcases ht with rfl | rfl
    · obtain ⟨h1, e1, r, q, g⟩ := nxt p (by omega)
      refine ⟨r, q, ?_⟩
      refine g_n 2 (j' := 41) (lv' := [some (.ref 70), some (.int (nI ms)), some (.int (nI c)), some (.int (nI m)), some (.int 0), some (.int (nI st)), some (.int (nI p))]) (st' := [.int (nI st), .int (nI p)]) (h' := (shT, fi, fl, fr)) rfl ?_
      refine g_icf rfl (show ¬ ((nI st) ≤ (nI p)) from nI_ge hlt (by omega)) ?_
      refine g_n 3 (j' := 45) (lv' := [some (.ref 70), some (.int (nI ms)), some (.int (nI c)), some (.int (nI m)), some (.int 0), some (.int (nI st)), some (.int (nI p))]) (st' := [.int 0, .int (nI p), .ref 70]) (h' := (shT, fi, fl, fr)) rfl ?_
      refine g_ift rfl (show (0 : Int32) = (0 : Int32) from rfl) ?_
      refine g_n 2 (j' := 52) (lv' := [some (.ref 70), some (.int (nI ms)), some (.int (nI c)), some (.int (nI m)), some (.int 0), some (.int (nI st)), some (.int (nI p))]) (st' := [.int (nI c), .int (nI p), .int (nI p), .ref 70]) (h' := (shT, fi, fl, fr)) rfl ?_
      refine g_callv (y := 198) (as := [.ref 70, .int (nI p), .int (nI p), .int (nI c)]) (st' := []) rfl rfl (e1) ?_
      refine g_n 2 (j' := 39) (lv' := [some (.ref 70), some (.int (nI ms)), some (.int (nI c)), some (.int (nI m)), some (.int 0), some (.int (nI st)), some (.int ((nI p) + 1))]) (st' := []) (h' := h1) rfl ?_
      rw [nI_1]
      exact g
    · have hq := cnt_ex hI.2.2 (show p < m by omega)
      obtain ⟨kb, k1, k2, k3⟩ := lo_ev (fi := fi) (fl := fl) (fr := fr) (hi_r hI.1 rfl rfl (by decide)) (hi_r hI.1 rfl rfl (by decide)) hm hq
      obtain ⟨h1, e1, r, q, g⟩ := nxt kb (by omega)
      refine ⟨r, q, ?_⟩
      refine g_n 2 (j' := 41) (lv' := [some (.ref 70), some (.int (nI ms)), some (.int (nI c)), some (.int (nI m)), some (.int 1), some (.int (nI st)), some (.int (nI p))]) (st' := [.int (nI st), .int (nI p)]) (h' := (shT, fi, fl, fr)) rfl ?_
      refine g_icf rfl (show ¬ ((nI st) ≤ (nI p)) from nI_ge hlt (by omega)) ?_
      refine g_n 3 (j' := 45) (lv' := [some (.ref 70), some (.int (nI ms)), some (.int (nI c)), some (.int (nI m)), some (.int 1), some (.int (nI st)), some (.int (nI p))]) (st' := [.int 1, .int (nI p), .ref 70]) (h' := (shT, fi, fl, fr)) rfl ?_
      refine g_iff rfl (show ¬ ((1 : Int32) = (0 : Int32)) from by decide) ?_
      refine g_n 2 (j' := 48) (lv' := [some (.ref 70), some (.int (nI ms)), some (.int (nI c)), some (.int (nI m)), some (.int 1), some (.int (nI st)), some (.int (nI p))]) (st' := [.int (nI m), .ref 70, .int (nI p), .ref 70]) (h' := (shT, fi, fl, fr)) rfl ?_
      refine g_call (y := 197) (as := [.ref 70, .int (nI m)]) (st' := [.int (nI p), .ref 70]) rfl rfl (k3) ?_
      refine g_n 2 (j' := 52) (lv' := [some (.ref 70), some (.int (nI ms)), some (.int (nI c)), some (.int (nI m)), some (.int 1), some (.int (nI st)), some (.int (nI p))]) (st' := [.int (nI c), .int (nI kb), .int (nI p), .ref 70]) (h' := (shT, fi, fl, fr)) rfl ?_
      refine g_callv (y := 198) (as := [.ref 70, .int (nI p), .int (nI kb), .int (nI c)]) (st' := []) rfl rfl (e1) ?_
      refine g_n 2 (j' := 39) (lv' := [some (.ref 70), some (.int (nI ms)), some (.int (nI c)), some (.int (nI m)), some (.int 1), some (.int (nI st)), some (.int ((nI p) + 1))]) (st' := []) (h' := h1) rfl ?_
      rw [nI_1]
      exact g
