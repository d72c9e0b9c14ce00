theorem pv_ii {v : Option Value} {I : Inst} (hp : ∀ P ∈ in_p I, ∃ B, P.1 = some B ∧ av_k B = 0) (h : ∃ P ∈ in_p I, pv P.1 v) : ∃ x, v = some (.int x) := by
  obtain ⟨P, h1, h2⟩ := h
  obtain ⟨B, e1, e2⟩ := hp P h1
  rw [e1] at h2
  obtain ⟨w, e3, e4⟩ := h2
  obtain ⟨x, e5, -⟩ := gv_k0 (A := nt B) e2 (e4 [] pm_h0)
  exact ⟨x, by rw [e3, e5]⟩
def ipk (I : Inst) : Bool := (in_p I).all (fun P => match P.1 with
  | some B => av_k B == 0
  | none => false)
theorem pv_i' {v : Option Value} {I : Inst} (hp : ipk I = true) (h : ∃ P ∈ in_p I, pv P.1 v) : ∃ x, v = some (.int x) := by
  refine pv_ii (fun P hP => ?_) h
  have := List.all_eq_true.mp hp P hP
  cases hq : P.1 with
  | none => rw [hq] at this; cases this
  | some B => rw [hq] at this; exact ⟨B, rfl, beq_iff_eq.mp this⟩
theorem vok_code {R : RC} {K : Int64} (rc : rc_ok R) (ok : okR R = true) (hK : kS R K) : VK (v_code R K) R.2.1 (kN R) R.2.2.2.1 := by
  have p6 := pw_6 R.2.1 (by have := rc.2.1.2; omega)
  have key : popc K = kN R + R.2.2.2.1 ∧ ∀ i, 2 ^ R.2.1 ≤ i → i < 64 → bl K i = false := by
    unfold kS at hK
    unfold okR at ok
    unfold kN
    cases hb : R.1.testBit 2
    · rw [hb, if_neg (by decide)] at hK ok
      rw [if_neg (by decide)]
      have h2 := of_decide_eq_true (Bool.and_eq_true_iff.mp ok).2
      refine ⟨kpB_pc p6.2 h2 hK, fun i h1 hi => ?_⟩
      rw [hK i hi, decide_eq_false (by omega), Bool.false_and]
    · rw [hb, if_pos rfl] at hK ok
      rw [if_pos rfl, hK]
      have h2 := of_decide_eq_true ok
      exact ⟨by omega, rc.2.2.2.2.2⟩
  exact ⟨rc.2.1.2, rc.2.2.2.1, rfl, rfl, rfl, rfl, key.1, key.2⟩
/-- the list is no less than 1 -/
def rc_l (R : RC) : Prop := 1 ≤ R.2.2.2.2.2.2.1
theorem nums_l {F : Nat → Int32} {t p : Nat} {R R' : RC} {e : Nat} (hR : rc_l R) : ∀ w, 1 ≤ w → w < 6 → numsS F t R p w = some (R', e) → rc_l R'
  | 1, _, _, h => by
    rw [numsS] at h
    cases hn : num F t 1 64 p with
    | none => rw [hn] at h; cases h
    | some r => rw [hn] at h; cases h; exact hR
  | 2, _, _, h => by
    rw [numsS] at h
    cases hn : infoS F t (2 ^ R.2.1) 65 0 p R.2.2.2.2.2.2.2 with
    | none => rw [hn] at h; cases h
    | some r => rw [hn] at h; cases h; exact hR
  | 3, _, _, h => by
    rw [numsS] at h
    cases hn : num F t 0 8 p with
    | none => rw [hn] at h; cases h
    | some r =>
      rw [hn] at h
      simp only [Option.bind_some] at h
      cases hn2 : num F t 0 255 r.2 with
      | none => rw [hn2] at h; cases h
      | some r2 => rw [hn2] at h; cases h; exact hR
  | 4, _, _, h => by
    rw [numsS] at h
    cases hn : num F t 1 999 p with
    | none => rw [hn] at h; cases h
    | some r => rw [hn] at h; cases h; exact hR
  | 5, _, _, h => by
    have h : (num F t 1 8 p).map (fun q => ((R.1, R.2.1, R.2.2.1, R.2.2.2.1, R.2.2.2.2.1, R.2.2.2.2.2.1, q.1, R.2.2.2.2.2.2.2), q.2)) = some (R', e) := h
    cases hn : num F t 1 8 p with
    | none => rw [hn] at h; cases h
    | some r => rw [hn] at h; cases h; exact (num_e hn).2.1
  | 0, h, _, _ => absurd h (by omega)
  | _ + 6, _, h, _ => absurd h (by omega)
theorem line_l {F : Nat → Int32} {t p : Nat} {R R' : RC} {e : Nat} (hR : rc_l R) (h : lineS F t R p = some (R', e)) : rc_l R' := by
  unfold lineS at h
  split at h
  · cases h
  · rename_i hq
    have hw : whW F (sk F t cB p) (sk F t cL (sk F t cB p)) < 6 := whW_lt
    have h0 : ¬ whW F (sk F t cB p) (sk F t cL (sk F t cB p)) = 0 := fun z => hq (Or.inl z)
    exact nums_l (R := rcw R _) hR _ (by omega) hw h
theorem lines_l {F : Nat → Int32} {t : Nat} : ∀ (q : Nat) (R : RC) (p : Nat) (R' : RC) (e : Nat), rc_l R → linesS F t q R p = some (R', e) → rc_l R'
  | 0, _, _, _, _, _, h => by cases h
  | q + 1, R, p, R', e, hR, h => by
    rw [linesS] at h
    split at h
    · split at h
      · cases hl : lineS F t R (sk F t cB p + 1) with
        | none => rw [hl] at h; cases h
        | some z =>
          obtain ⟨R2, e2⟩ := z
          rw [hl] at h
          exact lines_l q R2 e2 R' e (line_l hR hl) h
      · cases h
    · cases h
      exact hR
theorem size_l {F : Nat → Int32} {t p : Nat} {R : RC} {e : Nat} (h : sizeS F t p = some (R, e)) : rc_l R := by
  unfold sizeS at h
  split at h
  · cases hn : num F t 2 6 (sk F t cL (sk F t cB p)) with
    | none => rw [hn] at h; cases h
    | some r =>
      rw [hn] at h
      cases h
      exact (show 1 ≤ 4 by decide)
  · cases h
theorem parse_kl {F : Nat → Int32} {t : Nat} {R : RC} (h : parseS F t = some R) : rc_k R ∧ rc_l R := by
  unfold parseS at h
  cases hs : sizeS F t 0 with
  | none => rw [hs] at h; cases h
  | some q =>
    rw [hs] at h
    have h : (linesS F t (t + 1) q.1 q.2).bind (fun y => if okR y.1 = true then some y.1 else none) = some R := h
    cases hl : linesS F t (t + 1) q.1 q.2 with
    | none => rw [hl] at h; cases h
    | some y =>
      rw [hl] at h
      have h : (if okR y.1 = true then some y.1 else none) = some R := h
      split at h
      · cases h
        exact ⟨lines_k _ _ _ _ _ (size_ok hs) (size_k hs) hl, lines_l _ _ _ _ _ (size_l hs) hl⟩
      · cases h
theorem vx_code {R : RC} {K : Int64} (rc : rc_ok R) (ok : okR R = true) (hk : rc_k R) (hl : rc_l R) : VX (v_code R K) := by
  refine Or.inr ⟨kN R, R.2.2.2.2.2.2.1, rfl, ?_, ?_, rfl, hl, rc.2.2.2.2.1⟩
  · unfold okR at ok
    unfold kN
    cases hb : R.1.testBit 2
    · rw [hb, if_neg (by decide)] at ok
      rw [if_neg (by decide)]
      exact hk.mp (Bool.and_eq_true_iff.mp ok).1
    · rw [hb, if_pos rfl] at ok
      rw [if_pos rfl]
      have h2 := of_decide_eq_true ok
      omega
  · unfold kN
    have := popc_le R.2.2.2.2.2.2.2
    have := rc.2.2.1
    split <;> omega
/-- all vectors of a state -/
def AVO (a : AB) : Prop := VOK (a_v a) ∧ (∀ i, i < a_q a → VOK (a_p a i)) ∧ ∀ k v, k < 2 → a_m a k = some v → VOK v
def REL2 (h : PmH) (a : AB) : Prop := REL true h a ∧ AVO a
def irC1 (W : WSt) : Bool := W.all (fun q => decide (70 ≤ q.1) || ((decide (8 ≤ q.1) && (decide (q.1 < 42) && decide (q.1 ≠ 10))) || (decide (q.1 = 0) && decide (q.2 = 13))))
theorem irC1_in {W : WSt} (hw : irC1 W = true) {p s : Nat} (hp : (p < 8 ∧ ¬ (p = 0 ∧ ¬ s < 13)) ∨ p = 10 ∨ (42 ≤ p ∧ p < 70)) : inW W p s = false := by
  refine inW_all hw (fun c hc => ?_)
  simp only [Bool.or_eq_false_iff, Bool.and_eq_false_iff, decide_eq_false_iff_not]
  refine ⟨by omega, ?_, ?_⟩
  · by_cases h1 : 8 ≤ p
    · exact Or.inr (by by_cases h2 : p < 42; exact Or.inr (by omega); exact Or.inl h2)
    · exact Or.inl h1
  · by_cases h1 : p = 0
    · exact Or.inr (by omega)
    · exact Or.inl h1
theorem QC_x {W : WSt} {h h' : PmH} {a : AB} (hw : irC1 W = true) (hf : fram W h h') (hr : QC true h a) (ex : ph_i h' 0 13 = ph_i h 0 13) : QC true h' a := by
  have e : ∀ p s, ((p < 8 ∧ ¬ (p = 0 ∧ ¬ s < 13)) ∨ p = 10 ∨ (42 ≤ p ∧ p < 70)) → ph_i h' p s = ph_i h p s ∧ ph_l h' p s = ph_l h p s ∧ ph_r h' p s = ph_r h p s := fun p s hp => hf p s (irC1_in hw hp)
  have cc : ∀ o v, (o = 1 ∨ (42 ≤ o ∧ o + 1 < 70)) → csC true h o v → csC true h' o v := fun o v ho hc => csC_fr hc (fun i _ => (e o i (by omega)).1) (e o 7 (by omega)).2.1 (fun s _ => (e (o + 1) s (by omega)).1)
  obtain ⟨⟨a1, a2, a3⟩, b, c, d, f, g, ⟨q, q1, q2, q3⟩, i⟩ := hr
  refine ⟨⟨fun j hj => ((e 3 j (by omega)).2.2).trans (a1 j hj), fun j hj => ((e 4 j (by omega)).2.2).trans (a2 j hj), fun s hs => ((e 10 s (by omega)).1).trans (a3 s hs)⟩, ((e 6 1 (by omega)).1).trans b, fun s => ((e 7 s (by omega)).1).trans (c s), fun hL => ex.trans (d hL), cc 1 _ (by omega) f, ((e 0 3 (by omega)).1).trans g, ⟨q, q1, ((e 0 2 (by omega)).1).trans q2, fun k hk => cc _ _ (Or.inr ⟨pst_in.1, by have := pst_in (e := q) (i := k); omega⟩) (q3 k hk)⟩, fun k hk => ?_⟩
  have ik := i k hk
  cases hm : a_m a k with
  | none =>
    rw [hm] at ik
    exact ((e 5 k (by omega)).1).trans ik
  | some v =>
    rw [hm] at ik
    exact ⟨((e 5 k (by omega)).1).trans ik.1, cc _ _ (by omega) ik.2⟩
theorem fx_go {NN : Nat} {x y t X : Int32} (hN : NN ≤ 40) (hx : 0 ≤ x ∧ x ≤ 100) (hy : 0 ≤ y ∧ y ≤ 100) : ∀ (n i : Nat) (l6 l7 : Int32) (h : PmH), HI hdT shT h → i + n = NN → GoP pmT none cd_138 34 [some (.ref 0), some (.int (nI NN)), some (.int x), some (.int y), some (.int t), some (.int X), some (.int l6), some (.int l7), some (.int (nI i))] [] h (fun r => ph_i r.2 0 13 = X) := by
  intro n
  have xb := i32_bd hx
  have yb := i32_bd hy
  induction n with
  | zero =>
    intro i l6 l7 h hI hi
    have hi : i = NN := by omega
    subst hi
    obtain ⟨S, fi, fl, fr⟩ := h
    have hS : S = shT := hI.1
    subst hS
    refine gp_n 2 (j' := 36) (lv' := [some (.ref 0), some (.int (nI i)), some (.int x), some (.int y), some (.int t), some (.int X), some (.int l6), some (.int l7), some (.int (nI i))]) (st' := [.int (nI i), .int (nI i)]) (h' := (shT, fi, fl, fr)) rfl ?_
    refine gp_of (fun _ k9 => g_ict rfl (show (nI i) ≤ (nI i) from Int32.le_refl _) k9) ?_
    refine gp_n 2 (j' := 57) (lv' := [some (.ref 0), some (.int (nI i)), some (.int x), some (.int y), some (.int t), some (.int X), some (.int l6), some (.int l7), some (.int (nI i))]) (st' := [.int X, .ref 0]) (h' := (shT, fi, fl, fr)) rfl ?_
    refine gp_of (fun _ k9 => g_putI rfl (Or.inl rfl) rfl (by decide) k9) ?_
    refine gp_n 1 (j' := 59) (lv' := [some (.ref 0), some (.int (nI i)), some (.int x), some (.int y), some (.int t), some (.int X), some (.int l6), some (.int l7), some (.int (nI i))]) (st' := [.int t]) (h' := (shT, pm_u2 fi 0 13 X, fl, fr)) rfl ?_
    refine gp_if rfl (fun hc1 => ?_) (fun hc1 => ?_)
    · replace hc1 : ¬ t = (0 : Int32) := hc1
      refine gp_n 1 (j' := 63) (lv' := [some (.ref 0), some (.int (nI i)), some (.int x), some (.int y), some (.int t), some (.int X), some (.int l6), some (.int l7), some (.int (nI i))]) (st' := [.int l7]) (h' := (shT, pm_u2 fi 0 13 X, fl, fr)) rfl ?_
      refine gp_done (g_ret rfl) ?_
      exact u2_i
    · replace hc1 : ¬ (¬ t = (0 : Int32)) := hc1
      refine gp_n 2 (j' := 63) (lv' := [some (.ref 0), some (.int (nI i)), some (.int x), some (.int y), some (.int t), some (.int X), some (.int l6), some (.int l7), some (.int (nI i))]) (st' := [.int l6]) (h' := (shT, pm_u2 fi 0 13 X, fl, fr)) rfl ?_
      refine gp_done (g_ret rfl) ?_
      exact u2_i
  | succ n ih =>
    intro i l6 l7 h hI hi
    obtain ⟨v2, h2, ev2, I2, F2, p2⟩ := iv_ev vN_153 (as := [.ref 0, .int x, .int y]) rfl (fun _ _ => gz_c (gz_r (by decide)) (gz_c (gz_i xb.1 xb.2) (gz_c (gz_i yb.1 yb.2) gz_n))) hI
    obtain ⟨z, rfl⟩ := pv_i' (by decide) p2
    have g := fun l6 l7 => ih (i + 1) l6 l7 h2 I2 (by omega)
    have k8 : ph_r h2 0 8 = some 13 := hi_r I2 rfl rfl (by decide)
    clear ih F2
    obtain ⟨S2, fi2, fl2, fr2⟩ := h2
    have s2 : S2 = shT := I2.1
    subst s2
    have k8 : fr2 0 8 = some 13 := k8
    obtain ⟨S, fi, fl, fr⟩ := h
    have hS : S = shT := hI.1
    subst hS
    refine gp_n 2 (j' := 36) (lv' := [some (.ref 0), some (.int (nI NN)), some (.int x), some (.int y), some (.int t), some (.int X), some (.int l6), some (.int l7), some (.int (nI i))]) (st' := [.int (nI NN), .int (nI i)]) (h' := (shT, fi, fl, fr)) rfl ?_
    refine gp_of (fun _ k9 => g_icf rfl (show ¬ ((nI NN) ≤ (nI i)) from nI_ge (by omega) (by omega)) k9) ?_
    refine gp_n 3 (j' := 40) (lv' := [some (.ref 0), some (.int (nI NN)), some (.int x), some (.int y), some (.int t), some (.int X), some (.int l6), some (.int l7), some (.int (nI i))]) (st' := [.int y, .int x, .ref 0]) (h' := (shT, fi, fl, fr)) rfl ?_
    refine gp_of (fun _ k9 => g_call (y := 139) (as := [.ref 0, .int x, .int y]) (st' := []) rfl rfl (ev2) k9) ?_
    refine gp_if rfl (fun hc1 => ?_) (fun hc1 => ?_)
    · replace hc1 : ¬ z = (0 : Int32) := hc1
      refine gp_n 2 (j' := 34) (lv' := [some (.ref 0), some (.int (nI NN)), some (.int x), some (.int y), some (.int t), some (.int X), some (.int l6), some (.int l7), some (.int ((nI i) + 1))]) (st' := []) (h' := (shT, fi2, fl2, fr2)) rfl ?_
      rw [nI_1]
      exact g _ _
    · replace hc1 : ¬ (¬ z = (0 : Int32)) := hc1
      refine gp_n 3 (j' := 45) (lv' := [some (.ref 0), some (.int (nI NN)), some (.int x), some (.int y), some (.int t), some (.int X), some (.int (l6 + 1)), some (.int l7), some (.int (nI i))]) (st' := [.ref 0, .int l7]) (h' := (shT, fi2, fl2, fr2)) rfl ?_
      refine gp_of (fun _ k9 => g_getR (q' := 13) rfl rfl (by decide) k8 k9) ?_
      refine gp_of (fun _ k9 => g_getI (x := fi2 13 8) rfl (Or.inr rfl) rfl (by decide) (rfl) k9) ?_
      refine gp_if rfl (fun hc2 => ?_) (fun hc2 => ?_)
      · replace hc2 : (fi2 13 8) = (0 : Int32) := hc2
        refine gp_n 5 (j' := 34) (lv' := [some (.ref 0), some (.int (nI NN)), some (.int x), some (.int y), some (.int t), some (.int X), some (.int (l6 + 1)), some (.int (l7 + 0)), some (.int ((nI i) + 1))]) (st' := []) (h' := (shT, fi2, fl2, fr2)) rfl ?_
        rw [nI_1]
        exact g _ _
      · replace hc2 : ¬ ((fi2 13 8) = (0 : Int32)) := hc2
        refine gp_n 6 (j' := 34) (lv' := [some (.ref 0), some (.int (nI NN)), some (.int x), some (.int y), some (.int t), some (.int X), some (.int (l6 + 1)), some (.int (l7 + 1)), some (.int ((nI i) + 1))]) (st' := []) (h' := (shT, fi2, fl2, fr2)) rfl ?_
        rw [nI_1]
        exact g _ _
theorem frx_C {h : PmH} (hI : HI hdT shT h) {n x y t : Int32} : EvP 138 [.ref 0, .int n, .int x, .int y, .int t] h (fun r => ph_i r.2 0 13 = ph_i h 0 13) := by
  have k0 : ph_r h 0 0 = some 1 := hi_r hI rfl rfl (by decide)
  have t1 := told1 (n := ph_i h 1 1) hI rfl
  have t0 := told0 (n := ph_i h 1 1) hI rfl
  have x1 := iss1 (x := x) hI
  have x0 := iss0 (x := x) hI
  have y1 := iss1 (x := y) hI
  have y0 := iss0 (x := y) hI
  have lp : ∀ NN, NN ≤ 40 → n = nI NN → 0 ≤ x ∧ x ≤ 100 → 0 ≤ y ∧ y ≤ 100 → GoP pmT none cd_138 34 [some (.ref 0), some (.int n), some (.int x), some (.int y), some (.int t), some (.int (ph_i h 0 13)), some (.int 0), some (.int 0), some (.int (nI 0))] [] h (fun r => ph_i r.2 0 13 = ph_i h 0 13) := fun NN h1 h2 h3 h4 => by
    subst h2
    exact fx_go h1 h3 h4 NN 0 0 0 h hI (by omega)
  refine EvP.of (es := cd_138) (ml := 9) (lv := [some (.ref 0), some (.int n), some (.int x), some (.int y), some (.int t), none, none, none, none]) rfl rfl rfl ?_
  obtain ⟨S, fi, fl, fr⟩ := h
  have hS : S = shT := hI.1
  subst hS
  have k0 : fr 0 0 = some 1 := k0
  by_cases p0 : 0 < fi 1 1
  case neg =>
    refine gp_n 1 (j' := 1) (lv' := [some (.ref 0), some (.int n), some (.int x), some (.int y), some (.int t), none, none, none, none]) (st' := [.ref 0]) (h' := (shT, fi, fl, fr)) rfl ?_
    refine gp_of (fun _ k9 => g_getR (q' := 1) rfl rfl (by decide) k0 k9) ?_
    refine gp_of (fun _ k9 => g_call (y := 57) (as := [.ref 1]) (st' := []) rfl rfl (t0 p0) k9) ?_
    refine gp_of (fun _ k9 => g_ift rfl (show (0 : Int32) = (0 : Int32) from by decide) k9) ?_
    refine gp_n 1 (j' := 16) (lv' := [some (.ref 0), some (.int n), some (.int x), some (.int y), some (.int t), none, none, none, none]) (st' := [.int (-1)]) (h' := (shT, fi, fl, fr)) rfl ?_
    refine gp_done (g_ret rfl) ?_
    rfl
  have tt := t1 p0
  by_cases px : 0 ≤ x ∧ x ≤ 100
  case neg =>
    have tx := x0 px
    refine gp_n 1 (j' := 1) (lv' := [some (.ref 0), some (.int n), some (.int x), some (.int y), some (.int t), none, none, none, none]) (st' := [.ref 0]) (h' := (shT, fi, fl, fr)) rfl ?_
    refine gp_of (fun _ k9 => g_getR (q' := 1) rfl rfl (by decide) k0 k9) ?_
    refine gp_of (fun _ k9 => g_call (y := 57) (as := [.ref 1]) (st' := []) rfl rfl (tt) k9) ?_
    refine gp_of (fun _ k9 => g_iff rfl (show ¬ ((1 : Int32) = (0 : Int32)) from by decide) k9) ?_
    refine gp_n 2 (j' := 6) (lv' := [some (.ref 0), some (.int n), some (.int x), some (.int y), some (.int t), none, none, none, none]) (st' := [.int 1, .int n]) (h' := (shT, fi, fl, fr)) rfl ?_
    refine gp_ic rfl (fun hc1 => ?_) (fun hc1 => ?_)
    · replace hc1 : n < (1 : Int32) := hc1
      refine gp_n 1 (j' := 16) (lv' := [some (.ref 0), some (.int n), some (.int x), some (.int y), some (.int t), none, none, none, none]) (st' := [.int (-1)]) (h' := (shT, fi, fl, fr)) rfl ?_
      refine gp_done (g_ret rfl) ?_
      rfl
    · replace hc1 : ¬ (n < (1 : Int32)) := hc1
      refine gp_n 2 (j' := 9) (lv' := [some (.ref 0), some (.int n), some (.int x), some (.int y), some (.int t), none, none, none, none]) (st' := [.int 40, .int n]) (h' := (shT, fi, fl, fr)) rfl ?_
      refine gp_ic rfl (fun hc2 => ?_) (fun hc2 => ?_)
      · replace hc2 : (40 : Int32) < n := hc2
        refine gp_n 1 (j' := 16) (lv' := [some (.ref 0), some (.int n), some (.int x), some (.int y), some (.int t), none, none, none, none]) (st' := [.int (-1)]) (h' := (shT, fi, fl, fr)) rfl ?_
        refine gp_done (g_ret rfl) ?_
        rfl
      · replace hc2 : ¬ ((40 : Int32) < n) := hc2
        refine gp_n 1 (j' := 11) (lv' := [some (.ref 0), some (.int n), some (.int x), some (.int y), some (.int t), none, none, none, none]) (st' := [.int t]) (h' := (shT, fi, fl, fr)) rfl ?_
        refine gp_if rfl (fun hc3 => ?_) (fun hc3 => ?_)
        · replace hc3 : t < (0 : Int32) := hc3
          refine gp_n 1 (j' := 16) (lv' := [some (.ref 0), some (.int n), some (.int x), some (.int y), some (.int t), none, none, none, none]) (st' := [.int (-1)]) (h' := (shT, fi, fl, fr)) rfl ?_
          refine gp_done (g_ret rfl) ?_
          rfl
        · replace hc3 : ¬ (t < (0 : Int32)) := hc3
          refine gp_n 2 (j' := 14) (lv' := [some (.ref 0), some (.int n), some (.int x), some (.int y), some (.int t), none, none, none, none]) (st' := [.int 1, .int t]) (h' := (shT, fi, fl, fr)) rfl ?_
          refine gp_ic rfl (fun hc4 => ?_) (fun hc4 => ?_)
          · replace hc4 : t ≤ (1 : Int32) := hc4
            refine gp_n 1 (j' := 18) (lv' := [some (.ref 0), some (.int n), some (.int x), some (.int y), some (.int t), none, none, none, none]) (st' := [.int x]) (h' := (shT, fi, fl, fr)) rfl ?_
            refine gp_of (fun _ k9 => g_call (y := 71) (as := [.int x]) (st' := []) rfl rfl (tx) k9) ?_
            refine gp_of (fun _ k9 => g_ift rfl (show (0 : Int32) = (0 : Int32) from by decide) k9) ?_
            refine gp_n 1 (j' := 24) (lv' := [some (.ref 0), some (.int n), some (.int x), some (.int y), some (.int t), none, none, none, none]) (st' := [.int (-1)]) (h' := (shT, fi, fl, fr)) rfl ?_
            refine gp_done (g_ret rfl) ?_
            rfl
          · replace hc4 : ¬ (t ≤ (1 : Int32)) := hc4
            refine gp_n 1 (j' := 16) (lv' := [some (.ref 0), some (.int n), some (.int x), some (.int y), some (.int t), none, none, none, none]) (st' := [.int (-1)]) (h' := (shT, fi, fl, fr)) rfl ?_
            refine gp_done (g_ret rfl) ?_
            rfl
  have tx := x1 px
  by_cases py : 0 ≤ y ∧ y ≤ 100
  case neg =>
    have ty := y0 py
    refine gp_n 1 (j' := 1) (lv' := [some (.ref 0), some (.int n), some (.int x), some (.int y), some (.int t), none, none, none, none]) (st' := [.ref 0]) (h' := (shT, fi, fl, fr)) rfl ?_
    refine gp_of (fun _ k9 => g_getR (q' := 1) rfl rfl (by decide) k0 k9) ?_
    refine gp_of (fun _ k9 => g_call (y := 57) (as := [.ref 1]) (st' := []) rfl rfl (tt) k9) ?_
    refine gp_of (fun _ k9 => g_iff rfl (show ¬ ((1 : Int32) = (0 : Int32)) from by decide) k9) ?_
    refine gp_n 2 (j' := 6) (lv' := [some (.ref 0), some (.int n), some (.int x), some (.int y), some (.int t), none, none, none, none]) (st' := [.int 1, .int n]) (h' := (shT, fi, fl, fr)) rfl ?_
    refine gp_ic rfl (fun hc1 => ?_) (fun hc1 => ?_)
    · replace hc1 : n < (1 : Int32) := hc1
      refine gp_n 1 (j' := 16) (lv' := [some (.ref 0), some (.int n), some (.int x), some (.int y), some (.int t), none, none, none, none]) (st' := [.int (-1)]) (h' := (shT, fi, fl, fr)) rfl ?_
      refine gp_done (g_ret rfl) ?_
      rfl
    · replace hc1 : ¬ (n < (1 : Int32)) := hc1
      refine gp_n 2 (j' := 9) (lv' := [some (.ref 0), some (.int n), some (.int x), some (.int y), some (.int t), none, none, none, none]) (st' := [.int 40, .int n]) (h' := (shT, fi, fl, fr)) rfl ?_
      refine gp_ic rfl (fun hc2 => ?_) (fun hc2 => ?_)
      · replace hc2 : (40 : Int32) < n := hc2
        refine gp_n 1 (j' := 16) (lv' := [some (.ref 0), some (.int n), some (.int x), some (.int y), some (.int t), none, none, none, none]) (st' := [.int (-1)]) (h' := (shT, fi, fl, fr)) rfl ?_
        refine gp_done (g_ret rfl) ?_
        rfl
      · replace hc2 : ¬ ((40 : Int32) < n) := hc2
        refine gp_n 1 (j' := 11) (lv' := [some (.ref 0), some (.int n), some (.int x), some (.int y), some (.int t), none, none, none, none]) (st' := [.int t]) (h' := (shT, fi, fl, fr)) rfl ?_
        refine gp_if rfl (fun hc3 => ?_) (fun hc3 => ?_)
        · replace hc3 : t < (0 : Int32) := hc3
          refine gp_n 1 (j' := 16) (lv' := [some (.ref 0), some (.int n), some (.int x), some (.int y), some (.int t), none, none, none, none]) (st' := [.int (-1)]) (h' := (shT, fi, fl, fr)) rfl ?_
          refine gp_done (g_ret rfl) ?_
          rfl
        · replace hc3 : ¬ (t < (0 : Int32)) := hc3
          refine gp_n 2 (j' := 14) (lv' := [some (.ref 0), some (.int n), some (.int x), some (.int y), some (.int t), none, none, none, none]) (st' := [.int 1, .int t]) (h' := (shT, fi, fl, fr)) rfl ?_
          refine gp_ic rfl (fun hc4 => ?_) (fun hc4 => ?_)
          · replace hc4 : t ≤ (1 : Int32) := hc4
            refine gp_n 1 (j' := 18) (lv' := [some (.ref 0), some (.int n), some (.int x), some (.int y), some (.int t), none, none, none, none]) (st' := [.int x]) (h' := (shT, fi, fl, fr)) rfl ?_
            refine gp_of (fun _ k9 => g_call (y := 71) (as := [.int x]) (st' := []) rfl rfl (tx) k9) ?_
            refine gp_of (fun _ k9 => g_iff rfl (show ¬ ((1 : Int32) = (0 : Int32)) from by decide) k9) ?_
            refine gp_n 1 (j' := 21) (lv' := [some (.ref 0), some (.int n), some (.int x), some (.int y), some (.int t), none, none, none, none]) (st' := [.int y]) (h' := (shT, fi, fl, fr)) rfl ?_
            refine gp_of (fun _ k9 => g_call (y := 71) (as := [.int y]) (st' := []) rfl rfl (ty) k9) ?_
            refine gp_of (fun _ k9 => g_iff rfl (show ¬ (¬ (0 : Int32) = (0 : Int32)) from by decide) k9) ?_
            refine gp_n 1 (j' := 24) (lv' := [some (.ref 0), some (.int n), some (.int x), some (.int y), some (.int t), none, none, none, none]) (st' := [.int (-1)]) (h' := (shT, fi, fl, fr)) rfl ?_
            refine gp_done (g_ret rfl) ?_
            rfl
          · replace hc4 : ¬ (t ≤ (1 : Int32)) := hc4
            refine gp_n 1 (j' := 16) (lv' := [some (.ref 0), some (.int n), some (.int x), some (.int y), some (.int t), none, none, none, none]) (st' := [.int (-1)]) (h' := (shT, fi, fl, fr)) rfl ?_
            refine gp_done (g_ret rfl) ?_
            rfl
  have ty := y1 py
  have n40 : ¬ n < 1 → ¬ 40 < n → ∃ NN, NN ≤ 40 ∧ n = nI NN := fun h1 h2 => by
    have h3 := Int32.le_iff_toInt_le.mp (Int32.not_lt.mp h1)
    have h4 := Int32.le_iff_toInt_le.mp (Int32.not_lt.mp h2)
    rw [show (1 : Int32).toInt = 1 from rfl] at h3
    rw [show (40 : Int32).toInt = 40 from rfl] at h4
    obtain ⟨NN, e1, e2, -⟩ := i32_nI (y := n) (by omega)
    exact ⟨NN, by omega, e1⟩
  refine gp_n 1 (j' := 1) (lv' := [some (.ref 0), some (.int n), some (.int x), some (.int y), some (.int t), none, none, none, none]) (st' := [.ref 0]) (h' := (shT, fi, fl, fr)) rfl ?_
  refine gp_of (fun _ k9 => g_getR (q' := 1) rfl rfl (by decide) k0 k9) ?_
  refine gp_of (fun _ k9 => g_call (y := 57) (as := [.ref 1]) (st' := []) rfl rfl (tt) k9) ?_
  refine gp_of (fun _ k9 => g_iff rfl (show ¬ ((1 : Int32) = (0 : Int32)) from by decide) k9) ?_
  refine gp_n 2 (j' := 6) (lv' := [some (.ref 0), some (.int n), some (.int x), some (.int y), some (.int t), none, none, none, none]) (st' := [.int 1, .int n]) (h' := (shT, fi, fl, fr)) rfl ?_
  refine gp_ic rfl (fun n1 => ?_) (fun n1 => ?_)
  · replace n1 : n < (1 : Int32) := n1
    refine gp_n 1 (j' := 16) (lv' := [some (.ref 0), some (.int n), some (.int x), some (.int y), some (.int t), none, none, none, none]) (st' := [.int (-1)]) (h' := (shT, fi, fl, fr)) rfl ?_
    refine gp_done (g_ret rfl) ?_
    rfl
  · replace n1 : ¬ (n < (1 : Int32)) := n1
    refine gp_n 2 (j' := 9) (lv' := [some (.ref 0), some (.int n), some (.int x), some (.int y), some (.int t), none, none, none, none]) (st' := [.int 40, .int n]) (h' := (shT, fi, fl, fr)) rfl ?_
    refine gp_ic rfl (fun n2 => ?_) (fun n2 => ?_)
    · replace n2 : (40 : Int32) < n := n2
      refine gp_n 1 (j' := 16) (lv' := [some (.ref 0), some (.int n), some (.int x), some (.int y), some (.int t), none, none, none, none]) (st' := [.int (-1)]) (h' := (shT, fi, fl, fr)) rfl ?_
      refine gp_done (g_ret rfl) ?_
      rfl
    · replace n2 : ¬ ((40 : Int32) < n) := n2
      refine gp_n 1 (j' := 11) (lv' := [some (.ref 0), some (.int n), some (.int x), some (.int y), some (.int t), none, none, none, none]) (st' := [.int t]) (h' := (shT, fi, fl, fr)) rfl ?_
      refine gp_if rfl (fun hc3 => ?_) (fun hc3 => ?_)
      · replace hc3 : t < (0 : Int32) := hc3
        refine gp_n 1 (j' := 16) (lv' := [some (.ref 0), some (.int n), some (.int x), some (.int y), some (.int t), none, none, none, none]) (st' := [.int (-1)]) (h' := (shT, fi, fl, fr)) rfl ?_
        refine gp_done (g_ret rfl) ?_
        rfl
      · replace hc3 : ¬ (t < (0 : Int32)) := hc3
        refine gp_n 2 (j' := 14) (lv' := [some (.ref 0), some (.int n), some (.int x), some (.int y), some (.int t), none, none, none, none]) (st' := [.int 1, .int t]) (h' := (shT, fi, fl, fr)) rfl ?_
        refine gp_ic rfl (fun hc4 => ?_) (fun hc4 => ?_)
        · replace hc4 : t ≤ (1 : Int32) := hc4
          refine gp_n 1 (j' := 18) (lv' := [some (.ref 0), some (.int n), some (.int x), some (.int y), some (.int t), none, none, none, none]) (st' := [.int x]) (h' := (shT, fi, fl, fr)) rfl ?_
          refine gp_of (fun _ k9 => g_call (y := 71) (as := [.int x]) (st' := []) rfl rfl (tx) k9) ?_
          refine gp_of (fun _ k9 => g_iff rfl (show ¬ ((1 : Int32) = (0 : Int32)) from by decide) k9) ?_
          refine gp_n 1 (j' := 21) (lv' := [some (.ref 0), some (.int n), some (.int x), some (.int y), some (.int t), none, none, none, none]) (st' := [.int y]) (h' := (shT, fi, fl, fr)) rfl ?_
          refine gp_of (fun _ k9 => g_call (y := 71) (as := [.int y]) (st' := []) rfl rfl (ty) k9) ?_
          refine gp_of (fun _ k9 => g_ift rfl (show ¬ (1 : Int32) = (0 : Int32) from by decide) k9) ?_
          refine gp_n 1 (j' := 26) (lv' := [some (.ref 0), some (.int n), some (.int x), some (.int y), some (.int t), none, none, none, none]) (st' := [.ref 0]) (h' := (shT, fi, fl, fr)) rfl ?_
          refine gp_of (fun _ k9 => g_getI (x := fi 0 13) rfl (Or.inl rfl) rfl (by decide) (rfl) k9) ?_
          refine gp_n 7 (j' := 34) (lv' := [some (.ref 0), some (.int n), some (.int x), some (.int y), some (.int t), some (.int (fi 0 13)), some (.int 0), some (.int 0), some (.int (nI 0))]) (st' := []) (h' := (shT, fi, fl, fr)) rfl ?_
          obtain ⟨NN, e1, e2⟩ := n40 n1 n2
          exact lp NN e1 e2 px py
        · replace hc4 : ¬ (t ≤ (1 : Int32)) := hc4
          refine gp_n 1 (j' := 16) (lv' := [some (.ref 0), some (.int n), some (.int x), some (.int y), some (.int t), none, none, none, none]) (st' := [.int (-1)]) (h' := (shT, fi, fl, fr)) rfl ?_
          refine gp_done (g_ret rfl) ?_
          rfl
theorem frm_C {h : PmH} {a : AB} (hI : HI hdT shT h) (hR : QC true h a) (n x y t : Int32) : ∃ v h', Ev pmT 138 [.ref 0, .int n, .int x, .int y, .int t] h (some (.int v)) h' ∧ QC true h' a ∧ HI hdT shT h' ∧ fram (in_w iN_154) h h' := by
  obtain ⟨v1, h1, e1, I1, F1, p1⟩ := iv_ev vN_154 (as := [.ref 0, .int n, .int x, .int y, .int t]) rfl (fun _ _ => gz_c (gz_r (by decide)) (gz_c (gz_a _) (gz_c (gz_a _) (gz_c (gz_a _) (gz_c (gz_a _) gz_n))))) hI
  obtain ⟨v, rfl⟩ := pv_i' (by decide) p1
  obtain ⟨r, e2, q⟩ := frx_C hI (n := n) (x := x) (y := y) (t := t)
  obtain ⟨-, e3⟩ := ev_det e1 e2
  exact ⟨v, h1, e1, QC_x (show irC1 (in_w iN_154) = true by decide) F1 hR (by rw [e3]; exact q), I1, F1⟩
