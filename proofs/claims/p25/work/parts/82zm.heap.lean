theorem pr2_e : ∀ a, a < 1503 → 0 < a → (nI a - 1) / 2 = nI (par2 a) := by decide +kernel
theorem iaC_ev {p q : Nat} {u v : Int64} {h : PmH} (hp : p < 134217728) (hq : q < 134217728) : Ev pmT 120 [.int (nI p), .long u, .int (nI q), .long v] h (some (.int (b01 (decide (cdE (p, u) ≤ cdE (q, v)))))) h := by
  have lo := low_b (u := u) (v := v)
  have cl : cdE (p, u) ≤ cdE (q, v) ↔ p < q ∨ (p = q ∧ rvB u 64 ≤ rvB v 64) := cd_le
  refine Ev.of (es := cd_120) (ml := 8) (lv := [some (.int (nI p)), some (.long u), none, some (.int (nI q)), some (.long v), none, none, none]) rfl rfl rfl ?_
  rcases Nat.lt_trichotomy p q with z | z | z
  · rw [decide_eq_true (cl.mpr (Or.inl z))]
    have ne : ¬ nI p = nI q := fun y => by
      have := (nI_eq (by omega) (by omega)).mp y
      omega
    have lt : ¬ nI q ≤ nI p := nI_ge z (by omega)
    refine go_of ?_
    refine gp_n 2 (j' := 2) (lv' := [some (.int (nI p)), some (.long u), none, some (.int (nI q)), some (.long v), none, none, none]) (st' := [.int (nI q), .int (nI p)]) (h' := h) rfl ?_
    refine gp_of (fun _ k9 => g_icf rfl (show ¬ ((nI p) = (nI q)) from ne) k9) ?_
    refine gp_n 2 (j' := 5) (lv' := [some (.int (nI p)), some (.long u), none, some (.int (nI q)), some (.long v), none, none, none]) (st' := [.int (nI q), .int (nI p)]) (h' := h) rfl ?_
    refine gp_of (fun _ k9 => g_icf rfl (show ¬ ((nI q) ≤ (nI p)) from lt) k9) ?_
    refine gp_n 2 (j' := 9) (lv' := [some (.int (nI p)), some (.long u), none, some (.int (nI q)), some (.long v), none, none, none]) (st' := [.int 1]) (h' := h) rfl ?_
    refine gp_done (g_retz rfl (by decide)) ?_
    rfl
  · subst z
    by_cases y : rvB u 64 ≤ rvB v 64
    · rw [decide_eq_true (cl.mpr (Or.inr ⟨rfl, y⟩))]
      have e := lo.mpr y
      have e2 : lg_cmp ((u &&& (u ^^^ v)) &&& (-(u ^^^ v))) 0 = 0 := (lg_cmp_eq _ _).mpr e
      refine go_of ?_
      refine gp_n 2 (j' := 2) (lv' := [some (.int (nI p)), some (.long u), none, some (.int (nI p)), some (.long v), none, none, none]) (st' := [.int (nI p), .int (nI p)]) (h' := h) rfl ?_
      refine gp_of (fun _ k9 => g_ict rfl (show (nI p) = (nI p) from rfl) k9) ?_
      refine gp_n 12 (j' := 22) (lv' := [some (.int (nI p)), some (.long u), none, some (.int (nI p)), some (.long v), none, some (.long (u ^^^ v)), none]) (st' := [.int (lg_cmp ((u &&& (u ^^^ v)) &&& (-(u ^^^ v))) 0)]) (h' := h) rfl ?_
      refine gp_of (fun _ k9 => g_iff rfl (show ¬ (¬ (lg_cmp ((u &&& (u ^^^ v)) &&& (-(u ^^^ v))) 0) = (0 : Int32)) from not_not_intro e2) k9) ?_
      refine gp_n 2 (j' := 26) (lv' := [some (.int (nI p)), some (.long u), none, some (.int (nI p)), some (.long v), none, some (.long (u ^^^ v)), none]) (st' := [.int 1]) (h' := h) rfl ?_
      refine gp_done (g_retz rfl (by decide)) ?_
      rfl
    · rw [decide_eq_false (fun x => by rcases cl.mp x with w | w <;> omega)]
      have e2 : ¬ lg_cmp ((u &&& (u ^^^ v)) &&& (-(u ^^^ v))) 0 = 0 := fun x => y (lo.mp ((lg_cmp_eq _ _).mp x))
      refine go_of ?_
      refine gp_n 2 (j' := 2) (lv' := [some (.int (nI p)), some (.long u), none, some (.int (nI p)), some (.long v), none, none, none]) (st' := [.int (nI p), .int (nI p)]) (h' := h) rfl ?_
      refine gp_of (fun _ k9 => g_ict rfl (show (nI p) = (nI p) from rfl) k9) ?_
      refine gp_n 12 (j' := 22) (lv' := [some (.int (nI p)), some (.long u), none, some (.int (nI p)), some (.long v), none, some (.long (u ^^^ v)), none]) (st' := [.int (lg_cmp ((u &&& (u ^^^ v)) &&& (-(u ^^^ v))) 0)]) (h' := h) rfl ?_
      refine gp_of (fun _ k9 => g_ift rfl (show ¬ (lg_cmp ((u &&& (u ^^^ v)) &&& (-(u ^^^ v))) 0) = (0 : Int32) from e2) k9) ?_
      refine gp_n 1 (j' := 26) (lv' := [some (.int (nI p)), some (.long u), none, some (.int (nI p)), some (.long v), none, some (.long (u ^^^ v)), none]) (st' := [.int 0]) (h' := h) rfl ?_
      refine gp_done (g_retz rfl (by decide)) ?_
      rfl
  · rw [decide_eq_false (fun x => by rcases cl.mp x with w | w <;> omega)]
    have ne : ¬ nI p = nI q := fun y => by
      have := (nI_eq (by omega) (by omega)).mp y
      omega
    have lt : nI q ≤ nI p := nI_le (by omega) (by omega)
    refine go_of ?_
    refine gp_n 2 (j' := 2) (lv' := [some (.int (nI p)), some (.long u), none, some (.int (nI q)), some (.long v), none, none, none]) (st' := [.int (nI q), .int (nI p)]) (h' := h) rfl ?_
    refine gp_of (fun _ k9 => g_icf rfl (show ¬ ((nI p) = (nI q)) from ne) k9) ?_
    refine gp_n 2 (j' := 5) (lv' := [some (.int (nI p)), some (.long u), none, some (.int (nI q)), some (.long v), none, none, none]) (st' := [.int (nI q), .int (nI p)]) (h' := h) rfl ?_
    refine gp_of (fun _ k9 => g_ict rfl (show (nI q) ≤ (nI p) from lt) k9) ?_
    refine gp_n 1 (j' := 9) (lv' := [some (.int (nI p)), some (.long u), none, some (.int (nI q)), some (.long v), none, none, none]) (st' := [.int 0]) (h' := h) rfl ?_
    refine gp_done (g_retz rfl (by decide)) ?_
    rfl
theorem mv_ev {a b : Nat} {fi : Nat → Nat → Int32} {fl : Nat → Nat → Int64} {fr : Nat → Nat → Option Nat} (k4 : fr 34 4 = some 35) (k5 : fr 34 5 = some 36) (ha : a < 1502) (hb : b < 1502) : Ev pmT 121 [.ref 34, .int (nI a), .int (nI b)] (shT, fi, fl, fr) none (shT, pm_u2 fi 35 b (fi 35 a), pm_u2 fl 36 b (fl 36 a), fr) := by
  refine Ev.of (es := cd_121) (ml := 3) (lv := [some (.ref 34), some (.int (nI a)), some (.int (nI b))]) rfl rfl rfl ?_
  refine go_of ?_
  refine gp_n 1 (j' := 1) (lv' := [some (.ref 34), some (.int (nI a)), some (.int (nI b))]) (st' := [.ref 34]) (h' := (shT, fi, fl, fr)) rfl ?_
  refine gp_of (fun _ k9 => g_getR (q' := 35) rfl rfl (by decide) k4 k9) ?_
  refine gp_n 2 (j' := 4) (lv' := [some (.ref 34), some (.int (nI a)), some (.int (nI b))]) (st' := [.ref 34, .int (nI b), .ref 35]) (h' := (shT, fi, fl, fr)) rfl ?_
  refine gp_of (fun _ k9 => g_getR (q' := 35) rfl rfl (by decide) k4 k9) ?_
  refine gp_n 1 (j' := 6) (lv' := [some (.ref 34), some (.int (nI a)), some (.int (nI b))]) (st' := [.int (nI a), .ref 35, .int (nI b), .ref 35]) (h' := (shT, fi, fl, fr)) rfl ?_
  refine gp_of (fun _ k9 => g_iald (k := a) (x := fi 35 a) rfl rfl (rfl) (by omega) (by decide) (rfl) k9) ?_
  refine gp_of (fun _ k9 => g_iast (k := b) rfl rfl (rfl) (by omega) (by decide) k9) ?_
  refine gp_n 1 (j' := 9) (lv' := [some (.ref 34), some (.int (nI a)), some (.int (nI b))]) (st' := [.ref 34]) (h' := (shT, pm_u2 fi 35 b (fi 35 a), fl, fr)) rfl ?_
  refine gp_of (fun _ k9 => g_getR (q' := 36) rfl rfl (by decide) k5 k9) ?_
  refine gp_n 2 (j' := 12) (lv' := [some (.ref 34), some (.int (nI a)), some (.int (nI b))]) (st' := [.ref 34, .int (nI b), .ref 36]) (h' := (shT, pm_u2 fi 35 b (fi 35 a), fl, fr)) rfl ?_
  refine gp_of (fun _ k9 => g_getR (q' := 36) rfl rfl (by decide) k5 k9) ?_
  refine gp_n 1 (j' := 14) (lv' := [some (.ref 34), some (.int (nI a)), some (.int (nI b))]) (st' := [.int (nI a), .ref 36, .int (nI b), .ref 36]) (h' := (shT, pm_u2 fi 35 b (fi 35 a), fl, fr)) rfl ?_
  refine gp_of (fun _ k9 => g_lald (k := a) (x := fl 36 a) rfl rfl (rfl) (by omega) (by decide) (rfl) k9) ?_
  refine gp_of (fun _ k9 => g_last (k := b) rfl rfl (rfl) (by omega) (by decide) k9) ?_
  refine gp_done (g_vret rfl) ?_
  rfl
/-- what lies in the heap; but for one place -/
def hpC (D : Nat → EP) (n : Nat) (fi : Nat → Nat → Int32) (fl : Nat → Nat → Int64) : Prop := ∀ i, i < n → fi 35 i = nI (D i).1 ∧ fl 36 i = (D i).2
def hpH (D : Nat → EP) (n a : Nat) (fi : Nat → Nat → Int32) (fl : Nat → Nat → Int64) : Prop := ∀ i, i < n → ¬ i = a → fi 35 i = nI (D i).1 ∧ fl 36 i = (D i).2
def kyb (D : Nat → EP) (n : Nat) : Prop := ∀ i, i < n → (D i).1 < 134217728
theorem kyb_sam {D D' : Nat → EP} {n : Nat} (h : kyb D n) (hs : sam D D' n) : kyb D' n := fun i hi => by
  obtain ⟨j, j1, j2⟩ := (hs.1 (D' i)).mp ⟨i, hi, rfl⟩
  rw [← j2]
  exact h j j1
/-- only 35 and 36 differ -/
def ho6 (fi fi' : Nat → Nat → Int32) (fl fl' : Nat → Nat → Int64) : Prop := (∀ p s, ¬ p = 35 → fi' p s = fi p s) ∧ ∀ p s, ¬ p = 36 → fl' p s = fl p s
theorem ho6_tr {fi fi' fi2 : Nat → Nat → Int32} {fl fl' fl2 : Nat → Nat → Int64} (h : ho6 fi fi' fl fl') (h' : ho6 fi' fi2 fl' fl2) : ho6 fi fi2 fl fl2 := ⟨fun p s z => (h'.1 p s z).trans (h.1 p s z), fun p s z => (h'.2 p s z).trans (h.2 p s z)⟩
theorem ho6_u {fi : Nat → Nat → Int32} {fl : Nat → Nat → Int64} {a : Nat} {x : Int32} {y : Int64} : ho6 fi (pm_u2 fi 35 a x) fl (pm_u2 fl 36 a y) := ⟨fun p s z => wl_ne (fun w => z w.1), fun p s z => wl_ne (fun w => z w.1)⟩
theorem hpH_sw {D : Nat → EP} {n a b : Nat} {fi : Nat → Nat → Int32} {fl : Nat → Nat → Int64} (h : hpH D n a fi fl) (ha : a < n) (hb : b < n) (hab : ¬ b = a) : hpH (swp D a b) n b (pm_u2 fi 35 a (fi 35 b)) (pm_u2 fl 36 a (fl 36 b)) := fun i hi ib => by
  by_cases e : i = a
  · subst e
    rw [swp_a]
    have := h b hb hab
    exact ⟨(show pm_u2 fi 35 i (fi 35 b) 35 i = fi 35 b from u2_eq).trans this.1, (show pm_u2 fl 36 i (fl 36 b) 36 i = fl 36 b from u2_eq).trans this.2⟩
  · rw [swp_o e ib]
    have := h i hi e
    exact ⟨(show pm_u2 fi 35 a (fi 35 b) 35 i = fi 35 i from wl_ne (fun w => e w.2)).trans this.1, (show pm_u2 fl 36 a (fl 36 b) 36 i = fl 36 i from wl_ne (fun w => e w.2)).trans this.2⟩
theorem hpH_pt {D : Nat → EP} {n a : Nat} {fi : Nat → Nat → Int32} {fl : Nat → Nat → Int64} (h : hpH D n a fi fl) : hpC D n (pm_u2 fi 35 a (nI (D a).1)) (pm_u2 fl 36 a (D a).2) := fun i hi => by
  by_cases e : i = a
  · subst e
    exact ⟨u2_eq, u2_eq⟩
  · have := h i hi e
    exact ⟨(show pm_u2 fi 35 a (nI (D a).1) 35 i = fi 35 i from wl_ne (fun w => e w.2)).trans this.1, (show pm_u2 fl 36 a (D a).2 36 i = fl 36 i from wl_ne (fun w => e w.2)).trans this.2⟩
theorem ph_go {n key : Nat} {bits : Int64} {v1 v2 : Int32} {fr : Nat → Nat → Option Nat} (hn : n < 1502) (k4 : fr 34 4 = some 35) (k5 : fr 34 5 = some 36) : ∀ (a : Nat) (fi : Nat → Nat → Int32) (fl : Nat → Nat → Int64) (D : Nat → EP), a ≤ n → D a = (key, bits) → kyb D (n + 1) → hup D a (n + 1) → hpH D (n + 1) a fi fl → ∃ fi' fl' D', hpC D' (n + 1) fi' fl' ∧ heap D' (n + 1) ∧ sam D D' (n + 1) ∧ ho6 fi fi' fl fl' ∧ Go pmT none cd_119 22 [some (.ref 34), some (.int v1), some (.int v2), some (.long bits), none, some (.int (nI key)), some (.int (nI a))] [] (shT, fi, fl, fr) (none, (shT, fi', fl', fr)) := by
  intro a
  induction a using Nat.strongRecOn with
  | ind a ih =>
    intro fi fl D ha hD kb hu hp
    have fin : (a = 0 ∨ cdE (D (par2 a)) ≤ cdE (D a)) → ∃ fi' fl' D', hpC D' (n + 1) fi' fl' ∧ heap D' (n + 1) ∧ sam D D' (n + 1) ∧ ho6 fi fi' fl fl' ∧ Go pmT none cd_119 59 [some (.ref 34), some (.int v1), some (.int v2), some (.long bits), none, some (.int (nI key)), some (.int (nI a))] [] (shT, fi, fl, fr) (none, (shT, fi', fl', fr)) := fun hc => by
      have pt := hpH_pt hp
      rw [hD] at pt
      refine ⟨_, _, D, pt, hup_end hu hc, sam_rf, ho6_u, ?_⟩
      refine go_of ?_
      refine gp_n 1 (j' := 60) (lv' := [some (.ref 34), some (.int v1), some (.int v2), some (.long bits), none, some (.int (nI key)), some (.int (nI a))]) (st' := [.ref 34]) (h' := (shT, fi, fl, fr)) rfl ?_
      refine gp_of (fun _ k9 => g_getR (q' := 35) rfl rfl (by decide) k4 k9) ?_
      refine gp_n 2 (j' := 63) (lv' := [some (.ref 34), some (.int v1), some (.int v2), some (.long bits), none, some (.int (nI key)), some (.int (nI a))]) (st' := [.int (nI key), .int (nI a), .ref 35]) (h' := (shT, fi, fl, fr)) rfl ?_
      refine gp_of (fun _ k9 => g_iast (k := a) rfl rfl (rfl) (by omega) (by decide) k9) ?_
      refine gp_n 1 (j' := 65) (lv' := [some (.ref 34), some (.int v1), some (.int v2), some (.long bits), none, some (.int (nI key)), some (.int (nI a))]) (st' := [.ref 34]) (h' := (shT, pm_u2 fi 35 a (nI key), fl, fr)) rfl ?_
      refine gp_of (fun _ k9 => g_getR (q' := 36) rfl rfl (by decide) k5 k9) ?_
      refine gp_n 2 (j' := 68) (lv' := [some (.ref 34), some (.int v1), some (.int v2), some (.long bits), none, some (.int (nI key)), some (.int (nI a))]) (st' := [.long bits, .int (nI a), .ref 36]) (h' := (shT, pm_u2 fi 35 a (nI key), fl, fr)) rfl ?_
      refine gp_of (fun _ k9 => g_last (k := a) rfl rfl (rfl) (by omega) (by decide) k9) ?_
      refine gp_done (g_vret rfl) ?_
      rfl
    by_cases h0 : a = 0
    · subst h0
      obtain ⟨fi2, fl2, D2, y1, y2, y3, y4, y5⟩ := fin (Or.inl rfl)
      refine ⟨fi2, fl2, D2, y1, y2, y3, y4, ?_⟩
      have le : nI 0 ≤ 0 := by decide
      refine go_of ?_
      refine gp_n 1 (j' := 23) (lv' := [some (.ref 34), some (.int v1), some (.int v2), some (.long bits), none, some (.int (nI key)), some (.int (nI 0))]) (st' := [.int (nI 0)]) (h' := (shT, fi, fl, fr)) rfl ?_
      refine gp_of (fun _ k9 => g_ift rfl (show (nI 0) ≤ (0 : Int32) from le) k9) ?_
      exact gp_done y5 rfl
    · have pa : par2 a < a := by unfold par2; omega
      have pr := pr2_e a (by omega) (by omega)
      have gt : ¬ nI a ≤ 0 := nI_ge (a := 0) (by omega) (by omega)
      have hb := hp (par2 a) (by omega) (by omega)
      have kp := kb (par2 a) (by omega)
      have ka := kb a (by omega)
      rw [hD] at ka
      have ia := fun h => iaC_ev (p := key) (q := (D (par2 a)).1) (u := bits) (v := (D (par2 a)).2) (h := h) ka kp
      have eD : cdE (key, bits) = cdE (D a) := by rw [hD]
      have ia : ∀ h, Ev pmT 120 [.int (nI key), .long bits, .int (nI (D (par2 a)).1), .long (D (par2 a)).2] h (some (.int (b01 (decide (cdE (key, bits) ≤ cdE (D (par2 a))))))) h := ia
      rw [eD] at ia
      by_cases hc : cdE (D a) ≤ cdE (D (par2 a))
      · rw [decide_eq_true hc] at ia
        have ia : ∀ h, Ev pmT 120 [.int (nI key), .long bits, .int (nI (D (par2 a)).1), .long (D (par2 a)).2] h (some (.int 1)) h := ia
        have mv := mv_ev (a := par2 a) (b := a) (fi := fi) (fl := fl) k4 k5 (by omega) (by omega)
        obtain ⟨fi2, fl2, D2, y1, y2, y3, y4, y5⟩ := ih (par2 a) pa (pm_u2 fi 35 a (fi 35 (par2 a))) (pm_u2 fl 36 a (fl 36 (par2 a))) (swp D a (par2 a)) (by omega) (swp_b.trans hD) (kyb_sam kb (sam_sw (by omega) (by omega))) (hup_st (by omega) (by omega) hu hc) (hpH_sw hp (by omega) (by omega) (by omega))
        refine ⟨fi2, fl2, D2, y1, y2, sam_tr (sam_sw (by omega) (by omega)) y3, ho6_tr ho6_u y4, ?_⟩
        obtain ⟨b1, b2⟩ := hb
        clear y1 y2 y3 y4 ih fin hu hp kb
        generalize (D (par2 a)).1 = kq at *
        generalize (D (par2 a)).2 = bq at *
        generalize par2 a = p at *
        refine go_of ?_
        refine gp_n 1 (j' := 23) (lv' := [some (.ref 34), some (.int v1), some (.int v2), some (.long bits), none, some (.int (nI key)), some (.int (nI a))]) (st' := [.int (nI a)]) (h' := (shT, fi, fl, fr)) rfl ?_
        refine gp_of (fun _ k9 => g_iff rfl (show ¬ ((nI a) ≤ (0 : Int32)) from gt) k9) ?_
        refine gp_n 3 (j' := 27) (lv' := [some (.ref 34), some (.int v1), some (.int v2), some (.long bits), none, some (.int (nI key)), some (.int (nI a))]) (st' := [.ref 34, .long bits, .int (nI key)]) (h' := (shT, fi, fl, fr)) rfl ?_
        refine gp_of (fun _ k9 => g_getR (q' := 35) rfl rfl (by decide) k4 k9) ?_
        refine gp_n 5 (j' := 33) (lv' := [some (.ref 34), some (.int v1), some (.int v2), some (.long bits), none, some (.int (nI key)), some (.int (nI a))]) (st' := [.int (((nI a) - 1) / 2), .ref 35, .long bits, .int (nI key)]) (h' := (shT, fi, fl, fr)) rfl ?_
        rw [pr]
        refine gp_of (fun _ k9 => g_iald (k := p) (x := nI kq) rfl rfl (rfl) (by omega) (by decide) (b1) k9) ?_
        refine gp_n 1 (j' := 35) (lv' := [some (.ref 34), some (.int v1), some (.int v2), some (.long bits), none, some (.int (nI key)), some (.int (nI a))]) (st' := [.ref 34, .int (nI kq), .long bits, .int (nI key)]) (h' := (shT, fi, fl, fr)) rfl ?_
        refine gp_of (fun _ k9 => g_getR (q' := 36) rfl rfl (by decide) k5 k9) ?_
        refine gp_n 5 (j' := 41) (lv' := [some (.ref 34), some (.int v1), some (.int v2), some (.long bits), none, some (.int (nI key)), some (.int (nI a))]) (st' := [.int (((nI a) - 1) / 2), .ref 36, .int (nI kq), .long bits, .int (nI key)]) (h' := (shT, fi, fl, fr)) rfl ?_
        rw [pr]
        refine gp_of (fun _ k9 => g_lald (k := p) (x := bq) rfl rfl (rfl) (by omega) (by decide) (b2) k9) ?_
        refine gp_of (fun _ k9 => g_call (y := 120) (as := [.int (nI key), .long bits, .int (nI kq), .long bq]) (st' := []) rfl rfl (ia _) k9) ?_
        refine gp_of (fun _ k9 => g_iff rfl (show ¬ ((1 : Int32) = (0 : Int32)) from by decide) k9) ?_
        refine gp_n 7 (j' := 51) (lv' := [some (.ref 34), some (.int v1), some (.int v2), some (.long bits), none, some (.int (nI key)), some (.int (nI a))]) (st' := [.int (nI a), .int (((nI a) - 1) / 2), .ref 34]) (h' := (shT, fi, fl, fr)) rfl ?_
        rw [pr]
        refine gp_of (fun _ k9 => g_callv (y := 121) (as := [.ref 34, .int (nI p), .int (nI a)]) (st' := []) rfl rfl (mv) k9) ?_
        refine gp_n 7 (j' := 22) (lv' := [some (.ref 34), some (.int v1), some (.int v2), some (.long bits), none, some (.int (nI key)), some (.int (((nI a) - 1) / 2))]) (st' := []) (h' := (shT, (pm_u2 fi 35 a (fi 35 p)), (pm_u2 fl 36 a (fl 36 p)), fr)) rfl ?_
        rw [pr]
        exact gp_done y5 rfl
      · rw [decide_eq_false hc] at ia
        have ia : ∀ h, Ev pmT 120 [.int (nI key), .long bits, .int (nI (D (par2 a)).1), .long (D (par2 a)).2] h (some (.int 0)) h := ia
        obtain ⟨fi2, fl2, D2, y1, y2, y3, y4, y5⟩ := fin (Or.inr (by omega))
        refine ⟨fi2, fl2, D2, y1, y2, y3, y4, ?_⟩
        obtain ⟨b1, b2⟩ := hb
        clear y1 y2 y3 y4 ih fin hu hp kb
        generalize (D (par2 a)).1 = kq at *
        generalize (D (par2 a)).2 = bq at *
        generalize par2 a = p at *
        refine go_of ?_
        refine gp_n 1 (j' := 23) (lv' := [some (.ref 34), some (.int v1), some (.int v2), some (.long bits), none, some (.int (nI key)), some (.int (nI a))]) (st' := [.int (nI a)]) (h' := (shT, fi, fl, fr)) rfl ?_
        refine gp_of (fun _ k9 => g_iff rfl (show ¬ ((nI a) ≤ (0 : Int32)) from gt) k9) ?_
        refine gp_n 3 (j' := 27) (lv' := [some (.ref 34), some (.int v1), some (.int v2), some (.long bits), none, some (.int (nI key)), some (.int (nI a))]) (st' := [.ref 34, .long bits, .int (nI key)]) (h' := (shT, fi, fl, fr)) rfl ?_
        refine gp_of (fun _ k9 => g_getR (q' := 35) rfl rfl (by decide) k4 k9) ?_
        refine gp_n 5 (j' := 33) (lv' := [some (.ref 34), some (.int v1), some (.int v2), some (.long bits), none, some (.int (nI key)), some (.int (nI a))]) (st' := [.int (((nI a) - 1) / 2), .ref 35, .long bits, .int (nI key)]) (h' := (shT, fi, fl, fr)) rfl ?_
        rw [pr]
        refine gp_of (fun _ k9 => g_iald (k := p) (x := nI kq) rfl rfl (rfl) (by omega) (by decide) (b1) k9) ?_
        refine gp_n 1 (j' := 35) (lv' := [some (.ref 34), some (.int v1), some (.int v2), some (.long bits), none, some (.int (nI key)), some (.int (nI a))]) (st' := [.ref 34, .int (nI kq), .long bits, .int (nI key)]) (h' := (shT, fi, fl, fr)) rfl ?_
        refine gp_of (fun _ k9 => g_getR (q' := 36) rfl rfl (by decide) k5 k9) ?_
        refine gp_n 5 (j' := 41) (lv' := [some (.ref 34), some (.int v1), some (.int v2), some (.long bits), none, some (.int (nI key)), some (.int (nI a))]) (st' := [.int (((nI a) - 1) / 2), .ref 36, .int (nI kq), .long bits, .int (nI key)]) (h' := (shT, fi, fl, fr)) rfl ?_
        rw [pr]
        refine gp_of (fun _ k9 => g_lald (k := p) (x := bq) rfl rfl (rfl) (by omega) (by decide) (b2) k9) ?_
        refine gp_of (fun _ k9 => g_call (y := 120) (as := [.int (nI key), .long bits, .int (nI kq), .long bq]) (st' := []) rfl rfl (ia _) k9) ?_
        refine gp_of (fun _ k9 => g_ift rfl (show (0 : Int32) = (0 : Int32) from by decide) k9) ?_
        exact gp_done y5 rfl
theorem key_e {M d : Nat} (hd : d ≤ 64) (hM : M ≤ 520192) : ((128 : Int32) * nI M) + 64 - nI d = nI (128 * M + (64 - d)) := by
  have e1 : (128 : Int32) * nI M = nI (128 * M) := nI_mul 128 M
  have e2 : nI (128 * M) + 64 = nI (128 * M + 64) := nI_add (128 * M) 64
  rw [e1, e2, nI_sub (by omega) (by omega)]
  congr 1
  omega
/-- one more is put in -/
theorem ph_ev {n M d : Nat} {bits : Int64} {fi : Nat → Nat → Int32} {fl : Nat → Nat → Int64} {fr : Nat → Nat → Option Nat} {D : Nat → EP} (hn : n < 1502) (hd : d ≤ 64) (hM : M ≤ 520192) (k4 : fr 34 4 = some 35) (k5 : fr 34 5 = some 36) (c6 : fi 34 6 = nI n) (hh : heap D n) (hb : kyb D n) (hp : hpC D n fi fl) : ∃ fi' fl' D' E, E n = (128 * M + (64 - d), bits) ∧ (∀ i, i < n → E i = D i) ∧ sam E D' (n + 1) ∧ hpC D' (n + 1) fi' fl' ∧ heap D' (n + 1) ∧ kyb D' (n + 1) ∧ fi' 34 6 = nI (n + 1) ∧ (∀ p s, ¬ p = 35 → ¬ (p = 34 ∧ s = 6) → fi' p s = fi p s) ∧ (∀ p s, ¬ p = 36 → fl' p s = fl p s) ∧ Ev pmT 119 [.ref 34, .int (nI M), .int (nI d), .long bits] (shT, fi, fl, fr) none (shT, fi', fl', fr) := by
  have ke := key_e hd hM
  have eo : ∀ i, i < n → (fun i => if i = n then (128 * M + (64 - d), bits) else D i : Nat → EP) i = D i := fun i hi => if_neg (by omega)
  have en : (fun i => if i = n then (128 * M + (64 - d), bits) else D i : Nat → EP) n = (128 * M + (64 - d), bits) := if_pos rfl
  generalize (fun i => if i = n then (128 * M + (64 - d), bits) else D i : Nat → EP) = E at *
  have kb : kyb E (n + 1) := fun i hi => by
    by_cases e : i = n
    · rw [e, en]
      show 128 * M + (64 - d) < _
      omega
    · rw [eo i (by omega)]
      exact hb i (by omega)
  have hu : hup E n (n + 1) := by
    refine ⟨fun i i0 i1 i2 => ?_, fun _ i i0 i1 i2 => ?_⟩
    · rw [eo i (by omega), eo (par2 i) (by unfold par2; omega)]
      exact hh i i0 (by omega)
    · unfold par2 at i2
      omega
  have wu : ∀ p s, ¬ (p = 34 ∧ s = 6) → pm_u2 fi 34 6 (nI (n + 1)) p s = fi p s := fun p s z => wl_ne z
  have h6 : hpH E (n + 1) n (pm_u2 fi 34 6 (nI (n + 1))) fl := fun i hi hin => by
    rw [eo i (by omega), wu 35 i (by omega)]
    exact hp i (by omega)
  obtain ⟨fi2, fl2, D2, y1, y2, y3, y4, y5⟩ := ph_go (key := 128 * M + (64 - d)) (bits := bits) (v1 := nI M) (v2 := nI d) hn k4 k5 n (pm_u2 fi 34 6 (nI (n + 1))) fl E (Nat.le_refl _) en kb hu h6
  refine ⟨fi2, fl2, D2, E, en, eo, y3, y1, y2, kyb_sam kb y3, (y4.1 34 6 (by decide)).trans u2_eq, fun p s z1 z2 => (y4.1 p s z1).trans (wu p s z2), fun p s z => y4.2 p s z, ?_⟩
  have lt : nI n < 1502 := nI_lt (b := 1502) hn (by decide)
  clear y1 y2 y3 y4 h6 wu hu kb hp hh hb en eo
  generalize 128 * M + (64 - d) = key at *
  refine Ev.of (es := cd_119) (ml := 7) (lv := [some (.ref 34), some (.int (nI M)), some (.int (nI d)), some (.long bits), none, none, none]) rfl rfl rfl ?_
  refine go_of ?_
  refine gp_n 1 (j' := 1) (lv' := [some (.ref 34), some (.int (nI M)), some (.int (nI d)), some (.long bits), none, none, none]) (st' := [.ref 34]) (h' := (shT, fi, fl, fr)) rfl ?_
  refine gp_of (fun _ k9 => g_getI (x := nI n) rfl (Or.inl rfl) rfl (by decide) (c6) k9) ?_
  refine gp_n 1 (j' := 3) (lv' := [some (.ref 34), some (.int (nI M)), some (.int (nI d)), some (.long bits), none, none, none]) (st' := [.int 1502, .int (nI n)]) (h' := (shT, fi, fl, fr)) rfl ?_
  refine gp_of (fun _ k9 => g_ict rfl (show (nI n) < (1502 : Int32) from lt) k9) ?_
  refine gp_n 7 (j' := 12) (lv' := [some (.ref 34), some (.int (nI M)), some (.int (nI d)), some (.long bits), none, none, none]) (st' := [.int ((((128 : Int32) * (nI M)) + 64) - (nI d))]) (h' := (shT, fi, fl, fr)) rfl ?_
  rw [ke]
  refine gp_n 2 (j' := 14) (lv' := [some (.ref 34), some (.int (nI M)), some (.int (nI d)), some (.long bits), none, some (.int (nI key)), none]) (st' := [.ref 34]) (h' := (shT, fi, fl, fr)) rfl ?_
  refine gp_of (fun _ k9 => g_getI (x := nI n) rfl (Or.inl rfl) rfl (by decide) (c6) k9) ?_
  refine gp_n 3 (j' := 18) (lv' := [some (.ref 34), some (.int (nI M)), some (.int (nI d)), some (.long bits), none, some (.int (nI key)), some (.int (nI n))]) (st' := [.ref 34, .ref 34]) (h' := (shT, fi, fl, fr)) rfl ?_
  refine gp_of (fun _ k9 => g_getI (x := nI n) rfl (Or.inl rfl) rfl (by decide) (c6) k9) ?_
  refine gp_n 2 (j' := 21) (lv' := [some (.ref 34), some (.int (nI M)), some (.int (nI d)), some (.long bits), none, some (.int (nI key)), some (.int (nI n))]) (st' := [.int ((nI n) + 1), .ref 34]) (h' := (shT, fi, fl, fr)) rfl ?_
  rw [nI_1]
  refine gp_of (fun _ k9 => g_putI rfl (Or.inl rfl) rfl (by decide) k9) ?_
  exact gp_done y5 rfl
theorem fcC_ev {n a : Nat} {fi : Nat → Nat → Int32} {fl : Nat → Nat → Int64} {fr : Nat → Nat → Option Nat} {D : Nat → EP} (hn : n < 1502) (ha : a < 1502) (k4 : fr 34 4 = some 35) (k5 : fr 34 5 = some 36) (c6 : fi 34 6 = nI n) (hb : kyb D n) (hp : hpH D n a fi fl) : ∃ c, (c = 2 * a + 1 ∨ c = 2 * a + 2) ∧ (c < n → ∀ i, 0 < i → i < n → par2 i = a → cdE (D c) ≤ cdE (D i)) ∧ (n ≤ c → ∀ i, 0 < i → i < n → ¬ par2 i = a) ∧ Ev pmT 124 [.ref 34, .int (nI a)] (shT, fi, fl, fr) (some (.int (nI c))) (shT, fi, fl, fr) := by
  have e1 : (2 : Int32) * nI a + 1 = nI (2 * a + 1) := (congrArg (· + 1) (nI_mul 2 a)).trans (nI_1 (2 * a))
  have e2 : nI (2 * a + 1) + 1 = nI (2 * a + 2) := nI_1 (2 * a + 1)
  have pi : ∀ i, 0 < i → par2 i = a → i = 2 * a + 1 ∨ i = 2 * a + 2 := fun i hi h => by
    unfold par2 at h
    omega
  by_cases h2 : 2 * a + 2 < n
  · have p1 := hp (2 * a + 1) (by omega) (by omega)
    have p2 := hp (2 * a + 2) (by omega) (by omega)
    have ia := fun h => iaC_ev (p := (D (2 * a + 2)).1) (q := (D (2 * a + 1)).1) (u := (D (2 * a + 2)).2) (v := (D (2 * a + 1)).2) (h := h) (hb _ (by omega)) (hb _ (by omega))
    have ia : ∀ h, Ev pmT 120 [.int (nI (D (2 * a + 2)).1), .long (D (2 * a + 2)).2, .int (nI (D (2 * a + 1)).1), .long (D (2 * a + 1)).2] h (some (.int (b01 (decide (cdE (D (2 * a + 2)) ≤ cdE (D (2 * a + 1))))))) h := ia
    have lt : ¬ nI n ≤ nI (2 * a + 2) := nI_ge h2 (by omega)
    obtain ⟨p1a, p1b⟩ := p1
    obtain ⟨p2a, p2b⟩ := p2
    by_cases hc : cdE (D (2 * a + 2)) ≤ cdE (D (2 * a + 1))
    · rw [decide_eq_true hc] at ia
      have ia : ∀ h, Ev pmT 120 [.int (nI (D (2 * a + 2)).1), .long (D (2 * a + 2)).2, .int (nI (D (2 * a + 1)).1), .long (D (2 * a + 1)).2] h (some (.int 1)) h := ia
      refine ⟨2 * a + 2, Or.inr rfl, fun _ i i0 i1 i2 => ?_, fun z => absurd z (by omega), ?_⟩
      · rcases pi i i0 i2 with w | w
        · rw [w]
          exact hc
        · rw [w]
          exact Nat.le_refl _
      generalize (D (2 * a + 2)).1 = x2 at *
      generalize (D (2 * a + 2)).2 = y2 at *
      generalize (D (2 * a + 1)).1 = x1 at *
      generalize (D (2 * a + 1)).2 = y1 at *
      refine Ev.of (es := cd_124) (ml := 4) (lv := [some (.ref 34), some (.int (nI a)), none, none]) rfl rfl rfl ?_
      refine go_of ?_
      refine gp_n 5 (j' := 5) (lv' := [some (.ref 34), some (.int (nI a)), none, none]) (st' := [.int (((2 : Int32) * (nI a)) + 1)]) (h' := (shT, fi, fl, fr)) rfl ?_
      rw [e1]
      refine gp_n 4 (j' := 9) (lv' := [some (.ref 34), some (.int (nI a)), some (.int (nI (2 * a + 1))), none]) (st' := [.int ((nI (2 * a + 1)) + 1)]) (h' := (shT, fi, fl, fr)) rfl ?_
      rw [e2]
      refine gp_n 3 (j' := 12) (lv' := [some (.ref 34), some (.int (nI a)), some (.int (nI (2 * a + 1))), some (.int (nI (2 * a + 2)))]) (st' := [.ref 34, .int (nI (2 * a + 2))]) (h' := (shT, fi, fl, fr)) rfl ?_
      refine gp_of (fun _ k9 => g_getI (x := nI n) rfl (Or.inl rfl) rfl (by decide) (c6) k9) ?_
      refine gp_of (fun _ k9 => g_icf rfl (show ¬ ((nI n) ≤ (nI (2 * a + 2))) from lt) k9) ?_
      refine gp_n 1 (j' := 15) (lv' := [some (.ref 34), some (.int (nI a)), some (.int (nI (2 * a + 1))), some (.int (nI (2 * a + 2)))]) (st' := [.ref 34]) (h' := (shT, fi, fl, fr)) rfl ?_
      refine gp_of (fun _ k9 => g_getR (q' := 35) rfl rfl (by decide) k4 k9) ?_
      refine gp_n 1 (j' := 17) (lv' := [some (.ref 34), some (.int (nI a)), some (.int (nI (2 * a + 1))), some (.int (nI (2 * a + 2)))]) (st' := [.int (nI (2 * a + 2)), .ref 35]) (h' := (shT, fi, fl, fr)) rfl ?_
      refine gp_of (fun _ k9 => g_iald (k := 2 * a + 2) (x := nI x2) rfl rfl (rfl) (by omega) (by decide) (p2a) k9) ?_
      refine gp_n 1 (j' := 19) (lv' := [some (.ref 34), some (.int (nI a)), some (.int (nI (2 * a + 1))), some (.int (nI (2 * a + 2)))]) (st' := [.ref 34, .int (nI x2)]) (h' := (shT, fi, fl, fr)) rfl ?_
      refine gp_of (fun _ k9 => g_getR (q' := 36) rfl rfl (by decide) k5 k9) ?_
      refine gp_n 1 (j' := 21) (lv' := [some (.ref 34), some (.int (nI a)), some (.int (nI (2 * a + 1))), some (.int (nI (2 * a + 2)))]) (st' := [.int (nI (2 * a + 2)), .ref 36, .int (nI x2)]) (h' := (shT, fi, fl, fr)) rfl ?_
      refine gp_of (fun _ k9 => g_lald (k := 2 * a + 2) (x := y2) rfl rfl (rfl) (by omega) (by decide) (p2b) k9) ?_
      refine gp_n 1 (j' := 23) (lv' := [some (.ref 34), some (.int (nI a)), some (.int (nI (2 * a + 1))), some (.int (nI (2 * a + 2)))]) (st' := [.ref 34, .long y2, .int (nI x2)]) (h' := (shT, fi, fl, fr)) rfl ?_
      refine gp_of (fun _ k9 => g_getR (q' := 35) rfl rfl (by decide) k4 k9) ?_
      refine gp_n 1 (j' := 25) (lv' := [some (.ref 34), some (.int (nI a)), some (.int (nI (2 * a + 1))), some (.int (nI (2 * a + 2)))]) (st' := [.int (nI (2 * a + 1)), .ref 35, .long y2, .int (nI x2)]) (h' := (shT, fi, fl, fr)) rfl ?_
      refine gp_of (fun _ k9 => g_iald (k := 2 * a + 1) (x := nI x1) rfl rfl (rfl) (by omega) (by decide) (p1a) k9) ?_
      refine gp_n 1 (j' := 27) (lv' := [some (.ref 34), some (.int (nI a)), some (.int (nI (2 * a + 1))), some (.int (nI (2 * a + 2)))]) (st' := [.ref 34, .int (nI x1), .long y2, .int (nI x2)]) (h' := (shT, fi, fl, fr)) rfl ?_
      refine gp_of (fun _ k9 => g_getR (q' := 36) rfl rfl (by decide) k5 k9) ?_
      refine gp_n 1 (j' := 29) (lv' := [some (.ref 34), some (.int (nI a)), some (.int (nI (2 * a + 1))), some (.int (nI (2 * a + 2)))]) (st' := [.int (nI (2 * a + 1)), .ref 36, .int (nI x1), .long y2, .int (nI x2)]) (h' := (shT, fi, fl, fr)) rfl ?_
      refine gp_of (fun _ k9 => g_lald (k := 2 * a + 1) (x := y1) rfl rfl (rfl) (by omega) (by decide) (p1b) k9) ?_
      refine gp_of (fun _ k9 => g_call (y := 120) (as := [.int (nI x2), .long y2, .int (nI x1), .long y1]) (st' := []) rfl rfl (ia _) k9) ?_
      refine gp_of (fun _ k9 => g_iff rfl (show ¬ ((1 : Int32) = (0 : Int32)) from by decide) k9) ?_
      refine gp_n 1 (j' := 33) (lv' := [some (.ref 34), some (.int (nI a)), some (.int (nI (2 * a + 1))), some (.int (nI (2 * a + 2)))]) (st' := [.int (nI (2 * a + 2))]) (h' := (shT, fi, fl, fr)) rfl ?_
      refine gp_done (g_ret rfl) ?_
      rfl
    · rw [decide_eq_false hc] at ia
      have ia : ∀ h, Ev pmT 120 [.int (nI (D (2 * a + 2)).1), .long (D (2 * a + 2)).2, .int (nI (D (2 * a + 1)).1), .long (D (2 * a + 1)).2] h (some (.int 0)) h := ia
      refine ⟨2 * a + 1, Or.inl rfl, fun _ i i0 i1 i2 => ?_, fun z => absurd z (by omega), ?_⟩
      · rcases pi i i0 i2 with w | w
        · rw [w]
          exact Nat.le_refl _
        · rw [w]
          omega
      generalize (D (2 * a + 2)).1 = x2 at *
      generalize (D (2 * a + 2)).2 = y2 at *
      generalize (D (2 * a + 1)).1 = x1 at *
      generalize (D (2 * a + 1)).2 = y1 at *
      refine Ev.of (es := cd_124) (ml := 4) (lv := [some (.ref 34), some (.int (nI a)), none, none]) rfl rfl rfl ?_
      refine go_of ?_
      refine gp_n 5 (j' := 5) (lv' := [some (.ref 34), some (.int (nI a)), none, none]) (st' := [.int (((2 : Int32) * (nI a)) + 1)]) (h' := (shT, fi, fl, fr)) rfl ?_
      rw [e1]
      refine gp_n 4 (j' := 9) (lv' := [some (.ref 34), some (.int (nI a)), some (.int (nI (2 * a + 1))), none]) (st' := [.int ((nI (2 * a + 1)) + 1)]) (h' := (shT, fi, fl, fr)) rfl ?_
      rw [e2]
      refine gp_n 3 (j' := 12) (lv' := [some (.ref 34), some (.int (nI a)), some (.int (nI (2 * a + 1))), some (.int (nI (2 * a + 2)))]) (st' := [.ref 34, .int (nI (2 * a + 2))]) (h' := (shT, fi, fl, fr)) rfl ?_
      refine gp_of (fun _ k9 => g_getI (x := nI n) rfl (Or.inl rfl) rfl (by decide) (c6) k9) ?_
      refine gp_of (fun _ k9 => g_icf rfl (show ¬ ((nI n) ≤ (nI (2 * a + 2))) from lt) k9) ?_
      refine gp_n 1 (j' := 15) (lv' := [some (.ref 34), some (.int (nI a)), some (.int (nI (2 * a + 1))), some (.int (nI (2 * a + 2)))]) (st' := [.ref 34]) (h' := (shT, fi, fl, fr)) rfl ?_
      refine gp_of (fun _ k9 => g_getR (q' := 35) rfl rfl (by decide) k4 k9) ?_
      refine gp_n 1 (j' := 17) (lv' := [some (.ref 34), some (.int (nI a)), some (.int (nI (2 * a + 1))), some (.int (nI (2 * a + 2)))]) (st' := [.int (nI (2 * a + 2)), .ref 35]) (h' := (shT, fi, fl, fr)) rfl ?_
      refine gp_of (fun _ k9 => g_iald (k := 2 * a + 2) (x := nI x2) rfl rfl (rfl) (by omega) (by decide) (p2a) k9) ?_
      refine gp_n 1 (j' := 19) (lv' := [some (.ref 34), some (.int (nI a)), some (.int (nI (2 * a + 1))), some (.int (nI (2 * a + 2)))]) (st' := [.ref 34, .int (nI x2)]) (h' := (shT, fi, fl, fr)) rfl ?_
      refine gp_of (fun _ k9 => g_getR (q' := 36) rfl rfl (by decide) k5 k9) ?_
      refine gp_n 1 (j' := 21) (lv' := [some (.ref 34), some (.int (nI a)), some (.int (nI (2 * a + 1))), some (.int (nI (2 * a + 2)))]) (st' := [.int (nI (2 * a + 2)), .ref 36, .int (nI x2)]) (h' := (shT, fi, fl, fr)) rfl ?_
      refine gp_of (fun _ k9 => g_lald (k := 2 * a + 2) (x := y2) rfl rfl (rfl) (by omega) (by decide) (p2b) k9) ?_
      refine gp_n 1 (j' := 23) (lv' := [some (.ref 34), some (.int (nI a)), some (.int (nI (2 * a + 1))), some (.int (nI (2 * a + 2)))]) (st' := [.ref 34, .long y2, .int (nI x2)]) (h' := (shT, fi, fl, fr)) rfl ?_
      refine gp_of (fun _ k9 => g_getR (q' := 35) rfl rfl (by decide) k4 k9) ?_
      refine gp_n 1 (j' := 25) (lv' := [some (.ref 34), some (.int (nI a)), some (.int (nI (2 * a + 1))), some (.int (nI (2 * a + 2)))]) (st' := [.int (nI (2 * a + 1)), .ref 35, .long y2, .int (nI x2)]) (h' := (shT, fi, fl, fr)) rfl ?_
      refine gp_of (fun _ k9 => g_iald (k := 2 * a + 1) (x := nI x1) rfl rfl (rfl) (by omega) (by decide) (p1a) k9) ?_
      refine gp_n 1 (j' := 27) (lv' := [some (.ref 34), some (.int (nI a)), some (.int (nI (2 * a + 1))), some (.int (nI (2 * a + 2)))]) (st' := [.ref 34, .int (nI x1), .long y2, .int (nI x2)]) (h' := (shT, fi, fl, fr)) rfl ?_
      refine gp_of (fun _ k9 => g_getR (q' := 36) rfl rfl (by decide) k5 k9) ?_
      refine gp_n 1 (j' := 29) (lv' := [some (.ref 34), some (.int (nI a)), some (.int (nI (2 * a + 1))), some (.int (nI (2 * a + 2)))]) (st' := [.int (nI (2 * a + 1)), .ref 36, .int (nI x1), .long y2, .int (nI x2)]) (h' := (shT, fi, fl, fr)) rfl ?_
      refine gp_of (fun _ k9 => g_lald (k := 2 * a + 1) (x := y1) rfl rfl (rfl) (by omega) (by decide) (p1b) k9) ?_
      refine gp_of (fun _ k9 => g_call (y := 120) (as := [.int (nI x2), .long y2, .int (nI x1), .long y1]) (st' := []) rfl rfl (ia _) k9) ?_
      refine gp_of (fun _ k9 => g_ift rfl (show (0 : Int32) = (0 : Int32) from by decide) k9) ?_
      refine gp_n 1 (j' := 35) (lv' := [some (.ref 34), some (.int (nI a)), some (.int (nI (2 * a + 1))), some (.int (nI (2 * a + 2)))]) (st' := [.int (nI (2 * a + 1))]) (h' := (shT, fi, fl, fr)) rfl ?_
      refine gp_done (g_ret rfl) ?_
      rfl
  · have ge : nI n ≤ nI (2 * a + 2) := nI_le (by omega) (by omega)
    refine ⟨2 * a + 1, Or.inl rfl, fun w i i0 i1 i2 => ?_, fun w i i0 i1 i2 => ?_, ?_⟩
    · rcases pi i i0 i2 with y | y
      · rw [y]
        exact Nat.le_refl _
      · omega
    · rcases pi i i0 i2 with y | y <;> omega
    refine Ev.of (es := cd_124) (ml := 4) (lv := [some (.ref 34), some (.int (nI a)), none, none]) rfl rfl rfl ?_
    refine go_of ?_
    refine gp_n 5 (j' := 5) (lv' := [some (.ref 34), some (.int (nI a)), none, none]) (st' := [.int (((2 : Int32) * (nI a)) + 1)]) (h' := (shT, fi, fl, fr)) rfl ?_
    rw [e1]
    refine gp_n 4 (j' := 9) (lv' := [some (.ref 34), some (.int (nI a)), some (.int (nI (2 * a + 1))), none]) (st' := [.int ((nI (2 * a + 1)) + 1)]) (h' := (shT, fi, fl, fr)) rfl ?_
    rw [e2]
    refine gp_n 3 (j' := 12) (lv' := [some (.ref 34), some (.int (nI a)), some (.int (nI (2 * a + 1))), some (.int (nI (2 * a + 2)))]) (st' := [.ref 34, .int (nI (2 * a + 2))]) (h' := (shT, fi, fl, fr)) rfl ?_
    refine gp_of (fun _ k9 => g_getI (x := nI n) rfl (Or.inl rfl) rfl (by decide) (c6) k9) ?_
    refine gp_of (fun _ k9 => g_ict rfl (show (nI n) ≤ (nI (2 * a + 2)) from ge) k9) ?_
    refine gp_n 1 (j' := 35) (lv' := [some (.ref 34), some (.int (nI a)), some (.int (nI (2 * a + 1))), some (.int (nI (2 * a + 2)))]) (st' := [.int (nI (2 * a + 1))]) (h' := (shT, fi, fl, fr)) rfl ?_
    refine gp_done (g_ret rfl) ?_
    rfl
theorem dr_go {n key : Nat} {bits : Int64} {fr : Nat → Nat → Option Nat} (hn : n < 1502) (hk : key < 134217728) (k4 : fr 34 4 = some 35) (k5 : fr 34 5 = some 36) : ∀ (w u a c : Nat) (fi : Nat → Nat → Int32) (fl : Nat → Nat → Int64) (D : Nat → EP), u + w = 1502 → u ≤ a → (a < n ∨ (n = 0 ∧ a = 0)) → fi 34 6 = nI n → D a = (key, bits) → kyb D n → hdn D a n → hpH D n a fi fl → (c = 2 * a + 1 ∨ c = 2 * a + 2) → (c < n → ∀ i, 0 < i → i < n → par2 i = a → cdE (D c) ≤ cdE (D i)) → (n ≤ c → ∀ i, 0 < i → i < n → ¬ par2 i = a) → ∃ fi' fl' D', hpC D' n fi' fl' ∧ heap D' n ∧ sam D D' n ∧ ho6 fi fi' fl fl' ∧ Go pmT none cd_123 26 [some (.ref 34), some (.int (nI key)), some (.long bits), none, some (.int (nI a)), some (.int (nI c)), some (.int (nI u))] [] (shT, fi, fl, fr) (none, (shT, fi', fl', fr)) := by
  intro w
  induction w with
  | zero =>
    intro u a c fi fl D hu hua ha
    omega
  | succ w ih =>
    intro u a c fi fl D hu hua ha c6 hD kb hd hp hc hm hno
    have fin : heap D n → ∃ fi' fl' D', hpC D' n fi' fl' ∧ heap D' n ∧ sam D D' n ∧ ho6 fi fi' fl fl' ∧ Go pmT none cd_123 58 [some (.ref 34), some (.int (nI key)), some (.long bits), none, some (.int (nI a)), some (.int (nI c)), some (.int (nI u))] [] (shT, fi, fl, fr) (none, (shT, fi', fl', fr)) := fun hh => by
      have pt := hpH_pt hp
      rw [hD] at pt
      refine ⟨_, _, D, pt, hh, sam_rf, ho6_u, ?_⟩
      refine go_of ?_
      refine gp_n 1 (j' := 59) (lv' := [some (.ref 34), some (.int (nI key)), some (.long bits), none, some (.int (nI a)), some (.int (nI c)), some (.int (nI u))]) (st' := [.ref 34]) (h' := (shT, fi, fl, fr)) rfl ?_
      refine gp_of (fun _ k9 => g_getR (q' := 35) rfl rfl (by decide) k4 k9) ?_
      refine gp_n 2 (j' := 62) (lv' := [some (.ref 34), some (.int (nI key)), some (.long bits), none, some (.int (nI a)), some (.int (nI c)), some (.int (nI u))]) (st' := [.int (nI key), .int (nI a), .ref 35]) (h' := (shT, fi, fl, fr)) rfl ?_
      refine gp_of (fun _ k9 => g_iast (k := a) rfl rfl (rfl) (by omega) (by decide) k9) ?_
      refine gp_n 1 (j' := 64) (lv' := [some (.ref 34), some (.int (nI key)), some (.long bits), none, some (.int (nI a)), some (.int (nI c)), some (.int (nI u))]) (st' := [.ref 34]) (h' := (shT, pm_u2 fi 35 a (nI key), fl, fr)) rfl ?_
      refine gp_of (fun _ k9 => g_getR (q' := 36) rfl rfl (by decide) k5 k9) ?_
      refine gp_n 2 (j' := 67) (lv' := [some (.ref 34), some (.int (nI key)), some (.long bits), none, some (.int (nI a)), some (.int (nI c)), some (.int (nI u))]) (st' := [.long bits, .int (nI a), .ref 36]) (h' := (shT, pm_u2 fi 35 a (nI key), fl, fr)) rfl ?_
      refine gp_of (fun _ k9 => g_last (k := a) rfl rfl (rfl) (by omega) (by decide) k9) ?_
      refine gp_done (g_vret rfl) ?_
      rfl
    have lu : ¬ (1502 : Int32) ≤ nI u := nI_ge (b := 1502) (by omega) (by decide)
    by_cases hcn : c < n
    · have lc : ¬ nI n ≤ nI c := nI_ge hcn (by omega)
      have ac : ¬ c = a := by omega
      have hb := hp c hcn ac
      have pc : par2 c = a := by unfold par2; omega
      have ia := fun h => iaC_ev (p := (D c).1) (q := key) (u := (D c).2) (v := bits) (h := h) (kb c hcn) hk
      have ia : ∀ h, Ev pmT 120 [.int (nI (D c).1), .long (D c).2, .int (nI key), .long bits] h (some (.int (b01 (decide (cdE (D c) ≤ cdE (key, bits)))))) h := ia
      rw [← hD] at ia
      by_cases hle : cdE (D c) ≤ cdE (D a)
      · rw [decide_eq_true hle] at ia
        have ia : ∀ h, Ev pmT 120 [.int (nI (D c).1), .long (D c).2, .int (nI key), .long bits] h (some (.int 1)) h := ia
        have mv := mv_ev (a := c) (b := a) (fi := fi) (fl := fl) k4 k5 (by omega) (by omega)
        have sw := sam_sw (X := D) (n := n) (a := a) (b := c) (by omega) hcn
        have p2 := hpH_sw hp (by omega) hcn ac
        have c62 : pm_u2 fi 35 a (fi 35 c) 34 6 = nI n := (wl_ne (by omega)).trans c6
        obtain ⟨c2, x1, x2, x3, x4⟩ := fcC_ev (a := c) (fi := pm_u2 fi 35 a (fi 35 c)) (fl := pm_u2 fl 36 a (fl 36 c)) hn (by omega) k4 k5 c62 (kyb_sam kb sw) p2
        obtain ⟨fi2, fl2, D2, y1, y2, y3, y4, y5⟩ := ih (u + 1) c c2 (pm_u2 fi 35 a (fi 35 c)) (pm_u2 fl 36 a (fl 36 c)) (swp D a c) (by omega) (by omega) (Or.inl hcn) c62 (swp_b.trans hD) (kyb_sam kb sw) (hdn_st hd (by omega) hcn pc hle (hm hcn)) p2 x1 x2 x3
        refine ⟨fi2, fl2, D2, y1, y2, sam_tr sw y3, ho6_tr ho6_u y4, ?_⟩
        obtain ⟨b1, b2⟩ := hb
        clear y1 y2 y3 y4 ih fin hd hp kb x1 x2 x3 p2 sw hm hno
        generalize (D c).1 = kq at *
        generalize (D c).2 = bq at *
        refine go_of ?_
        refine gp_n 2 (j' := 28) (lv' := [some (.ref 34), some (.int (nI key)), some (.long bits), none, some (.int (nI a)), some (.int (nI c)), some (.int (nI u))]) (st' := [.int 1502, .int (nI u)]) (h' := (shT, fi, fl, fr)) rfl ?_
        refine gp_of (fun _ k9 => g_icf rfl (show ¬ ((1502 : Int32) ≤ (nI u)) from lu) k9) ?_
        refine gp_n 2 (j' := 31) (lv' := [some (.ref 34), some (.int (nI key)), some (.long bits), none, some (.int (nI a)), some (.int (nI c)), some (.int (nI u))]) (st' := [.ref 34, .int (nI c)]) (h' := (shT, fi, fl, fr)) rfl ?_
        refine gp_of (fun _ k9 => g_getI (x := nI n) rfl (Or.inl rfl) rfl (by decide) (c6) k9) ?_
        refine gp_of (fun _ k9 => g_icf rfl (show ¬ ((nI n) ≤ (nI c)) from lc) k9) ?_
        refine gp_n 1 (j' := 34) (lv' := [some (.ref 34), some (.int (nI key)), some (.long bits), none, some (.int (nI a)), some (.int (nI c)), some (.int (nI u))]) (st' := [.ref 34]) (h' := (shT, fi, fl, fr)) rfl ?_
        refine gp_of (fun _ k9 => g_getR (q' := 35) rfl rfl (by decide) k4 k9) ?_
        refine gp_n 1 (j' := 36) (lv' := [some (.ref 34), some (.int (nI key)), some (.long bits), none, some (.int (nI a)), some (.int (nI c)), some (.int (nI u))]) (st' := [.int (nI c), .ref 35]) (h' := (shT, fi, fl, fr)) rfl ?_
        refine gp_of (fun _ k9 => g_iald (k := c) (x := nI kq) rfl rfl (rfl) (by omega) (by decide) (b1) k9) ?_
        refine gp_n 1 (j' := 38) (lv' := [some (.ref 34), some (.int (nI key)), some (.long bits), none, some (.int (nI a)), some (.int (nI c)), some (.int (nI u))]) (st' := [.ref 34, .int (nI kq)]) (h' := (shT, fi, fl, fr)) rfl ?_
        refine gp_of (fun _ k9 => g_getR (q' := 36) rfl rfl (by decide) k5 k9) ?_
        refine gp_n 1 (j' := 40) (lv' := [some (.ref 34), some (.int (nI key)), some (.long bits), none, some (.int (nI a)), some (.int (nI c)), some (.int (nI u))]) (st' := [.int (nI c), .ref 36, .int (nI kq)]) (h' := (shT, fi, fl, fr)) rfl ?_
        refine gp_of (fun _ k9 => g_lald (k := c) (x := bq) rfl rfl (rfl) (by omega) (by decide) (b2) k9) ?_
        refine gp_n 2 (j' := 43) (lv' := [some (.ref 34), some (.int (nI key)), some (.long bits), none, some (.int (nI a)), some (.int (nI c)), some (.int (nI u))]) (st' := [.long bits, .int (nI key), .long bq, .int (nI kq)]) (h' := (shT, fi, fl, fr)) rfl ?_
        refine gp_of (fun _ k9 => g_call (y := 120) (as := [.int (nI kq), .long bq, .int (nI key), .long bits]) (st' := []) rfl rfl (ia _) k9) ?_
        refine gp_of (fun _ k9 => g_ift rfl (show ¬ (1 : Int32) = (0 : Int32) from by decide) k9) ?_
        refine gp_n 3 (j' := 49) (lv' := [some (.ref 34), some (.int (nI key)), some (.long bits), none, some (.int (nI a)), some (.int (nI c)), some (.int (nI u))]) (st' := [.int (nI a), .int (nI c), .ref 34]) (h' := (shT, fi, fl, fr)) rfl ?_
        refine gp_of (fun _ k9 => g_callv (y := 121) (as := [.ref 34, .int (nI c), .int (nI a)]) (st' := []) rfl rfl (mv) k9) ?_
        refine gp_n 4 (j' := 54) (lv' := [some (.ref 34), some (.int (nI key)), some (.long bits), none, some (.int (nI c)), some (.int (nI c)), some (.int (nI u))]) (st' := [.int (nI c), .ref 34]) (h' := (shT, (pm_u2 fi 35 a (fi 35 c)), (pm_u2 fl 36 a (fl 36 c)), fr)) rfl ?_
        refine gp_of (fun _ k9 => g_call (y := 124) (as := [.ref 34, .int (nI c)]) (st' := []) rfl rfl (x4) k9) ?_
        refine gp_n 3 (j' := 26) (lv' := [some (.ref 34), some (.int (nI key)), some (.long bits), none, some (.int (nI c)), some (.int (nI c2)), some (.int ((nI u) + 1))]) (st' := []) (h' := (shT, (pm_u2 fi 35 a (fi 35 c)), (pm_u2 fl 36 a (fl 36 c)), fr)) rfl ?_
        rw [nI_1]
        exact gp_done y5 rfl
      · rw [decide_eq_false hle] at ia
        have ia : ∀ h, Ev pmT 120 [.int (nI (D c).1), .long (D c).2, .int (nI key), .long bits] h (some (.int 0)) h := ia
        obtain ⟨fi2, fl2, D2, y1, y2, y3, y4, y5⟩ := fin (hdn_end hd (fun i i0 i1 i2 => Nat.le_trans (by omega) (hm hcn i i0 i1 i2)))
        refine ⟨fi2, fl2, D2, y1, y2, y3, y4, ?_⟩
        obtain ⟨b1, b2⟩ := hb
        clear y1 y2 y3 y4 ih fin hd hp kb hm hno
        generalize (D c).1 = kq at *
        generalize (D c).2 = bq at *
        refine go_of ?_
        refine gp_n 2 (j' := 28) (lv' := [some (.ref 34), some (.int (nI key)), some (.long bits), none, some (.int (nI a)), some (.int (nI c)), some (.int (nI u))]) (st' := [.int 1502, .int (nI u)]) (h' := (shT, fi, fl, fr)) rfl ?_
        refine gp_of (fun _ k9 => g_icf rfl (show ¬ ((1502 : Int32) ≤ (nI u)) from lu) k9) ?_
        refine gp_n 2 (j' := 31) (lv' := [some (.ref 34), some (.int (nI key)), some (.long bits), none, some (.int (nI a)), some (.int (nI c)), some (.int (nI u))]) (st' := [.ref 34, .int (nI c)]) (h' := (shT, fi, fl, fr)) rfl ?_
        refine gp_of (fun _ k9 => g_getI (x := nI n) rfl (Or.inl rfl) rfl (by decide) (c6) k9) ?_
        refine gp_of (fun _ k9 => g_icf rfl (show ¬ ((nI n) ≤ (nI c)) from lc) k9) ?_
        refine gp_n 1 (j' := 34) (lv' := [some (.ref 34), some (.int (nI key)), some (.long bits), none, some (.int (nI a)), some (.int (nI c)), some (.int (nI u))]) (st' := [.ref 34]) (h' := (shT, fi, fl, fr)) rfl ?_
        refine gp_of (fun _ k9 => g_getR (q' := 35) rfl rfl (by decide) k4 k9) ?_
        refine gp_n 1 (j' := 36) (lv' := [some (.ref 34), some (.int (nI key)), some (.long bits), none, some (.int (nI a)), some (.int (nI c)), some (.int (nI u))]) (st' := [.int (nI c), .ref 35]) (h' := (shT, fi, fl, fr)) rfl ?_
        refine gp_of (fun _ k9 => g_iald (k := c) (x := nI kq) rfl rfl (rfl) (by omega) (by decide) (b1) k9) ?_
        refine gp_n 1 (j' := 38) (lv' := [some (.ref 34), some (.int (nI key)), some (.long bits), none, some (.int (nI a)), some (.int (nI c)), some (.int (nI u))]) (st' := [.ref 34, .int (nI kq)]) (h' := (shT, fi, fl, fr)) rfl ?_
        refine gp_of (fun _ k9 => g_getR (q' := 36) rfl rfl (by decide) k5 k9) ?_
        refine gp_n 1 (j' := 40) (lv' := [some (.ref 34), some (.int (nI key)), some (.long bits), none, some (.int (nI a)), some (.int (nI c)), some (.int (nI u))]) (st' := [.int (nI c), .ref 36, .int (nI kq)]) (h' := (shT, fi, fl, fr)) rfl ?_
        refine gp_of (fun _ k9 => g_lald (k := c) (x := bq) rfl rfl (rfl) (by omega) (by decide) (b2) k9) ?_
        refine gp_n 2 (j' := 43) (lv' := [some (.ref 34), some (.int (nI key)), some (.long bits), none, some (.int (nI a)), some (.int (nI c)), some (.int (nI u))]) (st' := [.long bits, .int (nI key), .long bq, .int (nI kq)]) (h' := (shT, fi, fl, fr)) rfl ?_
        refine gp_of (fun _ k9 => g_call (y := 120) (as := [.int (nI kq), .long bq, .int (nI key), .long bits]) (st' := []) rfl rfl (ia _) k9) ?_
        refine gp_of (fun _ k9 => g_iff rfl (show ¬ (¬ (0 : Int32) = (0 : Int32)) from by decide) k9) ?_
        refine gp_n 1 (j' := 58) (lv' := [some (.ref 34), some (.int (nI key)), some (.long bits), none, some (.int (nI a)), some (.int (nI c)), some (.int (nI u))]) (st' := []) (h' := (shT, fi, fl, fr)) rfl ?_
        exact gp_done y5 rfl
    · have lc : nI n ≤ nI c := nI_le (by omega) (by omega)
      obtain ⟨fi2, fl2, D2, y1, y2, y3, y4, y5⟩ := fin (hdn_end hd (fun i i0 i1 i2 => absurd i2 (hno (by omega) i i0 i1)))
      refine ⟨fi2, fl2, D2, y1, y2, y3, y4, ?_⟩
      clear y1 y2 y3 y4 ih fin hd hp kb hm hno
      refine go_of ?_
      refine gp_n 2 (j' := 28) (lv' := [some (.ref 34), some (.int (nI key)), some (.long bits), none, some (.int (nI a)), some (.int (nI c)), some (.int (nI u))]) (st' := [.int 1502, .int (nI u)]) (h' := (shT, fi, fl, fr)) rfl ?_
      refine gp_of (fun _ k9 => g_icf rfl (show ¬ ((1502 : Int32) ≤ (nI u)) from lu) k9) ?_
      refine gp_n 2 (j' := 31) (lv' := [some (.ref 34), some (.int (nI key)), some (.long bits), none, some (.int (nI a)), some (.int (nI c)), some (.int (nI u))]) (st' := [.ref 34, .int (nI c)]) (h' := (shT, fi, fl, fr)) rfl ?_
      refine gp_of (fun _ k9 => g_getI (x := nI n) rfl (Or.inl rfl) rfl (by decide) (c6) k9) ?_
      refine gp_of (fun _ k9 => g_ict rfl (show (nI n) ≤ (nI c) from lc) k9) ?_
      exact gp_done y5 rfl
/-- the first is taken away -/
theorem dr_ev {n : Nat} {fi : Nat → Nat → Int32} {fl : Nat → Nat → Int64} {fr : Nat → Nat → Option Nat} {D : Nat → EP} (hn : n < 1502) (k4 : fr 34 4 = some 35) (k5 : fr 34 5 = some 36) (c6 : fi 34 6 = nI (n + 1)) (hh : heap D (n + 1)) (hb : kyb D (n + 1)) (hp : hpC D (n + 1) fi fl) : ∃ fi' fl' D' E, E 0 = D n ∧ (∀ i, 0 < i → i < n → E i = D i) ∧ sam E D' n ∧ hpC D' n fi' fl' ∧ heap D' n ∧ kyb D' n ∧ fi' 34 6 = nI n ∧ (∀ p s, ¬ p = 35 → ¬ (p = 34 ∧ s = 6) → fi' p s = fi p s) ∧ (∀ p s, ¬ p = 36 → fl' p s = fl p s) ∧ Ev pmT 123 [.ref 34] (shT, fi, fl, fr) none (shT, fi', fl', fr) := by
  have e0 : (fun i => if i = 0 then D n else D i : Nat → EP) 0 = D n := if_pos rfl
  have eo : ∀ i, 0 < i → (fun i => if i = 0 then D n else D i : Nat → EP) i = D i := fun i hi => if_neg (by omega)
  generalize (fun i => if i = 0 then D n else D i : Nat → EP) = E at *
  have kb : kyb E n := fun i hi => by
    by_cases e : i = 0
    · rw [e, e0]
      exact hb n (by omega)
    · rw [eo i (by omega)]
      exact hb i (by omega)
  have hd : hdn E 0 n := by
    refine ⟨fun i i0 i1 i2 => ?_, fun z => absurd z (by decide)⟩
    rw [eo i i0, eo (par2 i) (by omega)]
    exact hh i i0 (by omega)
  have wu : ∀ p s, ¬ (p = 34 ∧ s = 6) → pm_u2 fi 34 6 (nI n) p s = fi p s := fun p s z => wl_ne z
  have h6 : hpH E n 0 (pm_u2 fi 34 6 (nI n)) fl := fun i hi hin => by
    rw [eo i (by omega), wu 35 i (by omega)]
    exact hp i (by omega)
  have c62 : pm_u2 fi 34 6 (nI n) 34 6 = nI n := u2_eq
  obtain ⟨c, x1, x2, x3, x4⟩ := fcC_ev (a := 0) (fi := pm_u2 fi 34 6 (nI n)) (fl := fl) hn (by omega) k4 k5 c62 kb h6
  obtain ⟨fi2, fl2, D2, y1, y2, y3, y4, y5⟩ := dr_go (key := (D n).1) (bits := (D n).2) hn (hb n (by omega)) k4 k5 1502 0 0 c (pm_u2 fi 34 6 (nI n)) fl E (by omega) (Nat.le_refl _) (by omega) c62 e0 kb hd h6 x1 x2 x3
  refine ⟨fi2, fl2, D2, E, e0, fun i i0 _ => eo i i0, y3, y1, y2, kyb_sam kb y3, (y4.1 34 6 (by decide)).trans c62, fun p s z1 z2 => (y4.1 p s z1).trans (wu p s z2), fun p s z => y4.2 p s z, ?_⟩
  have b := hp n (by omega)
  have de : nI (n + 1) - 1 = nI n := by
    have := nI_sub (a := n + 1) (b := 1) (by omega) (by omega)
    exact this
  have b1 : pm_u2 fi 34 6 (nI n) 35 n = nI (D n).1 := (wl_ne (by omega)).trans b.1
  have b2 := b.2
  clear y1 y2 y3 y4 h6 wu hd kb hp hh hb e0 eo x1 x2 x3 b
  generalize (D n).1 = kq at *
  generalize (D n).2 = bq at *
  have x4 : Ev pmT 124 [.ref 34, .int 0] (shT, pm_u2 fi 34 6 (nI n), fl, fr) (some (.int (nI c))) (shT, pm_u2 fi 34 6 (nI n), fl, fr) := x4
  refine Ev.of (es := cd_123) (ml := 7) (lv := [some (.ref 34), none, none, none, none, none, none]) rfl rfl rfl ?_
  refine go_of ?_
  refine gp_n 2 (j' := 2) (lv' := [some (.ref 34), none, none, none, none, none, none]) (st' := [.ref 34, .ref 34]) (h' := (shT, fi, fl, fr)) rfl ?_
  refine gp_of (fun _ k9 => g_getI (x := nI (n + 1)) rfl (Or.inl rfl) rfl (by decide) (c6) k9) ?_
  refine gp_n 2 (j' := 5) (lv' := [some (.ref 34), none, none, none, none, none, none]) (st' := [.int ((nI (n + 1)) - 1), .ref 34]) (h' := (shT, fi, fl, fr)) rfl ?_
  rw [de]
  refine gp_of (fun _ k9 => g_putI rfl (Or.inl rfl) rfl (by decide) k9) ?_
  refine gp_n 1 (j' := 7) (lv' := [some (.ref 34), none, none, none, none, none, none]) (st' := [.ref 34]) (h' := (shT, pm_u2 fi 34 6 (nI n), fl, fr)) rfl ?_
  refine gp_of (fun _ k9 => g_getR (q' := 35) rfl rfl (by decide) k4 k9) ?_
  refine gp_n 1 (j' := 9) (lv' := [some (.ref 34), none, none, none, none, none, none]) (st' := [.ref 34, .ref 35]) (h' := (shT, pm_u2 fi 34 6 (nI n), fl, fr)) rfl ?_
  refine gp_of (fun _ k9 => g_getI (x := nI n) rfl (Or.inl rfl) rfl (by decide) (rfl) k9) ?_
  refine gp_of (fun _ k9 => g_iald (k := n) (x := nI kq) rfl rfl (rfl) (by omega) (by decide) (b1) k9) ?_
  refine gp_n 2 (j' := 13) (lv' := [some (.ref 34), some (.int (nI kq)), none, none, none, none, none]) (st' := [.ref 34]) (h' := (shT, pm_u2 fi 34 6 (nI n), fl, fr)) rfl ?_
  refine gp_of (fun _ k9 => g_getR (q' := 36) rfl rfl (by decide) k5 k9) ?_
  refine gp_n 1 (j' := 15) (lv' := [some (.ref 34), some (.int (nI kq)), none, none, none, none, none]) (st' := [.ref 34, .ref 36]) (h' := (shT, pm_u2 fi 34 6 (nI n), fl, fr)) rfl ?_
  refine gp_of (fun _ k9 => g_getI (x := nI n) rfl (Or.inl rfl) rfl (by decide) (rfl) k9) ?_
  refine gp_of (fun _ k9 => g_lald (k := n) (x := bq) rfl rfl (rfl) (by omega) (by decide) (b2) k9) ?_
  refine gp_n 5 (j' := 22) (lv' := [some (.ref 34), some (.int (nI kq)), some (.long bq), none, some (.int 0), none, none]) (st' := [.int 0, .ref 34]) (h' := (shT, pm_u2 fi 34 6 (nI n), fl, fr)) rfl ?_
  refine gp_of (fun _ k9 => g_call (y := 124) (as := [.ref 34, .int 0]) (st' := []) rfl rfl (x4) k9) ?_
  refine gp_n 3 (j' := 26) (lv' := [some (.ref 34), some (.int (nI kq)), some (.long bq), none, some (.int (nI 0)), some (.int (nI c)), some (.int (nI 0))]) (st' := []) (h' := (shT, pm_u2 fi 34 6 (nI n), fl, fr)) rfl ?_
  exact gp_done y5 rfl
