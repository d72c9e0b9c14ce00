theorem iv_so {I : Inst} (hv : iv pmT hdT shT I) {as : List Value} {h h' : PmH} {v : Option Value} (ho : go_ (in_o I) h) (hg : ∀ (lv : PmL) (h' : PmH), gst lv h' ((in_a I).map nt) as) (hI : HI hdT shT h) (e : Ev pmT (in_y I) as h v h') : HI hdT shT h' ∧ fram (in_w I) h h' := by
  obtain ⟨v2, h2, e1, -, e3, e4⟩ := hv as h hg ho hI
  obtain ⟨-, rfl⟩ := ev_det e e1
  exact ⟨e3, e4⟩
/-- what holds of the records of a text -/
def rc_ok (R : RC) : Prop := R.1 < 64 ∧ (2 ≤ R.2.1 ∧ R.2.1 ≤ 6) ∧ R.2.2.1 ≤ 64 ∧ R.2.2.2.1 ≤ 8 ∧ R.2.2.2.2.2.2.1 ≤ 8 ∧ ∀ i, 2 ^ R.2.1 ≤ i → i < 64 → bl R.2.2.2.2.2.2.2 i = false
theorem info_ok {F : Nat → Int32} {t n : Nat} (hn0 : 1 ≤ n) (hn : n ≤ 64) : ∀ (q least p : Nat) (K K' : Int64) (e : Nat), (∀ i, n ≤ i → i < 64 → bl K i = false) → infoS F t n q least p K = some (K', e) → ∀ i, n ≤ i → i < 64 → bl K' i = false
  | 0, _, _, _, _, _, _, h => by cases h
  | q + 1, least, p, K, K', e, hK, h => by
    rw [infoS] at h
    cases hm : num F t least (n - 1) p with
    | none => rw [hm] at h; cases h
    | some r =>
      obtain ⟨v, e1⟩ := r
      rw [hm] at h
      have hv := (num_e hm).2.2
      have hK2 : ∀ i, n ≤ i → i < 64 → bl (K ||| bitAt v) i = false := fun i h1 h2 => by
        rw [bl_or, hK i h1 h2, bitAt_bl (by omega) h2, decide_eq_false (by omega)]
        rfl
      simp only [Option.bind_some] at h
      split at h
      · exact info_ok hn0 hn q _ _ _ _ _ hK2 h
      · cases h
        exact hK2
theorem pw_6 : ∀ m, m < 7 → 1 ≤ 2 ^ m ∧ 2 ^ m ≤ 64 := by decide
theorem nums_ok {F : Nat → Int32} {t p : Nat} {R R' : RC} {e : Nat} (hR : rc_ok R) : ∀ w, 1 ≤ w → w < 6 → numsS F t R p w = some (R', e) → rc_ok R'
  | 1, _, _, h => by
    rw [numsS] at h
    cases hn : num F t 1 64 p with
    | none => rw [hn] at h; cases h
    | some r => rw [hn] at h; cases h; exact ⟨hR.1, hR.2.1, (num_e hn).2.2, hR.2.2.2⟩
  | 2, _, _, h => by
    rw [numsS] at h
    cases hn : infoS F t (2 ^ R.2.1) 65 0 p R.2.2.2.2.2.2.2 with
    | none => rw [hn] at h; cases h
    | some r =>
      obtain ⟨K', e1⟩ := r
      rw [hn] at h
      cases h
      have p6 := pw_6 R.2.1 (by have := hR.2.1.2; omega)
      exact ⟨hR.1, hR.2.1, hR.2.2.1, hR.2.2.2.1, hR.2.2.2.2.1, info_ok p6.1 p6.2 _ _ _ _ _ _ hR.2.2.2.2.2 hn⟩
  | 3, _, _, h => by
    rw [numsS] at h
    cases hn : num F t 0 8 p with
    | none => rw [hn] at h; cases h
    | some r =>
      rw [hn] at h
      simp only [Option.bind_some] at h
      cases hn2 : num F t 0 255 r.2 with
      | none => rw [hn2] at h; cases h
      | some r2 =>
        rw [hn2] at h
        cases h
        exact ⟨hR.1, hR.2.1, hR.2.2.1, (num_e hn).2.2, hR.2.2.2.2⟩
  | 4, _, _, h => by
    rw [numsS] at h
    cases hn : num F t 1 999 p with
    | none => rw [hn] at h; cases h
    | some r => rw [hn] at h; cases h; exact hR
  | 5, _, _, h => by
    have h : (num F t 1 8 p).map (fun q => ((R.1, R.2.1, R.2.2.1, R.2.2.2.1, R.2.2.2.2.1, R.2.2.2.2.2.1, q.1, R.2.2.2.2.2.2.2), q.2)) = some (R', e) := h
    cases hn : num F t 1 8 p with
    | none => rw [hn] at h; cases h
    | some r => rw [hn] at h; cases h; exact ⟨hR.1, hR.2.1, hR.2.2.1, hR.2.2.2.1, (num_e hn).2.2, hR.2.2.2.2.2⟩
  | 0, h, _, _ => absurd h (by omega)
  | _ + 6, _, h, _ => absurd h (by omega)
theorem line_ok {F : Nat → Int32} {t p : Nat} {R R' : RC} {e : Nat} (hR : rc_ok R) (h : lineS F t R p = some (R', e)) : rc_ok R' := by
  unfold lineS at h
  split at h
  · cases h
  · rename_i hq
    have hw : whW F (sk F t cB p) (sk F t cL (sk F t cB p)) < 6 := whW_lt
    have h0 : ¬ whW F (sk F t cB p) (sk F t cL (sk F t cB p)) = 0 := fun z => hq (Or.inl z)
    exact nums_ok (R := rcw R _) ⟨(wt_or R.1 hR.1 _ hw).2, hR.2⟩ _ (by omega) hw h
theorem lines_ok {F : Nat → Int32} {t : Nat} : ∀ (q : Nat) (R : RC) (p : Nat) (R' : RC) (e : Nat), rc_ok R → linesS F t q R p = some (R', e) → rc_ok R'
  | 0, _, _, _, _, _, h => by cases h
  | q + 1, R, p, R', e, hR, h => by
    rw [linesS] at h
    split at h
    · split at h
      · cases hl : lineS F t R (sk F t cB p + 1) with
        | none => rw [hl] at h; cases h
        | some z =>
          obtain ⟨R2, e2⟩ := z
          rw [hl] at h
          exact lines_ok q R2 e2 R' e (line_ok hR hl) h
      · cases h
    · cases h
      exact hR
theorem size_ok {F : Nat → Int32} {t p : Nat} {R : RC} {e : Nat} (h : sizeS F t p = some (R, e)) : rc_ok R := by
  unfold sizeS at h
  split at h
  · cases hn : num F t 2 6 (sk F t cL (sk F t cB p)) with
    | none => rw [hn] at h; cases h
    | some r =>
      rw [hn] at h
      cases h
      exact ⟨show 0 < 64 by decide, ⟨(num_e hn).2.1, (num_e hn).2.2⟩, show 0 ≤ 64 by decide, show 0 ≤ 8 by decide, show 4 ≤ 8 by decide, fun i _ hi => bl_0 i hi⟩
  · cases h
/-- the word keep has its number -/
def rc_k (R : RC) : Prop := R.1.testBit 1 = true ↔ 1 ≤ R.2.2.1
theorem wt_1 : ∀ W, W < 64 → ∀ w, w < 6 → (W ||| 2 ^ w).testBit 1 = (W.testBit 1 || decide (w = 1)) := by decide +kernel
theorem nums_k {F : Nat → Int32} {t p : Nat} {R R' : RC} {e : Nat} : ∀ w, 1 ≤ w → w < 6 → numsS F t R p w = some (R', e) → R'.1 = R.1 ∧ (¬ w = 1 → R'.2.2.1 = R.2.2.1) ∧ (w = 1 → 1 ≤ R'.2.2.1)
  | 1, _, _, h => by
    rw [numsS] at h
    cases hn : num F t 1 64 p with
    | none => rw [hn] at h; cases h
    | some r => rw [hn] at h; cases h; exact ⟨rfl, fun z => absurd rfl z, fun _ => (num_e hn).2.1⟩
  | 2, _, _, h => by
    rw [numsS] at h
    cases hn : infoS F t (2 ^ R.2.1) 65 0 p R.2.2.2.2.2.2.2 with
    | none => rw [hn] at h; cases h
    | some r => rw [hn] at h; cases h; exact ⟨rfl, fun _ => rfl, fun z => absurd z (by decide)⟩
  | 3, _, _, h => by
    rw [numsS] at h
    cases hn : num F t 0 8 p with
    | none => rw [hn] at h; cases h
    | some r =>
      rw [hn] at h
      simp only [Option.bind_some] at h
      cases hn2 : num F t 0 255 r.2 with
      | none => rw [hn2] at h; cases h
      | some r2 => rw [hn2] at h; cases h; exact ⟨rfl, fun _ => rfl, fun z => absurd z (by decide)⟩
  | 4, _, _, h => by
    rw [numsS] at h
    cases hn : num F t 1 999 p with
    | none => rw [hn] at h; cases h
    | some r => rw [hn] at h; cases h; exact ⟨rfl, fun _ => rfl, fun z => absurd z (by decide)⟩
  | 5, _, _, h => by
    have h : (num F t 1 8 p).map (fun q => ((R.1, R.2.1, R.2.2.1, R.2.2.2.1, R.2.2.2.2.1, R.2.2.2.2.2.1, q.1, R.2.2.2.2.2.2.2), q.2)) = some (R', e) := h
    cases hn : num F t 1 8 p with
    | none => rw [hn] at h; cases h
    | some r => rw [hn] at h; cases h; exact ⟨rfl, fun _ => rfl, fun z => absurd z (by decide)⟩
  | 0, h, _, _ => absurd h (by omega)
  | _ + 6, _, h, _ => absurd h (by omega)
theorem line_k {F : Nat → Int32} {t p : Nat} {R R' : RC} {e : Nat} (hR : rc_ok R) (hk : rc_k R) (h : lineS F t R p = some (R', e)) : rc_k R' := by
  unfold lineS at h
  split at h
  · cases h
  · rename_i hq
    have hw : whW F (sk F t cB p) (sk F t cL (sk F t cB p)) < 6 := whW_lt
    have h0 : ¬ whW F (sk F t cB p) (sk F t cL (sk F t cB p)) = 0 := fun z => hq (Or.inl z)
    generalize whW F (sk F t cB p) (sk F t cL (sk F t cB p)) = w at *
    obtain ⟨n1, n2, n3⟩ := nums_k w (by omega) hw h
    unfold rc_k at hk ⊢
    rw [n1]
    show (R.1 ||| 2 ^ w).testBit 1 = true ↔ _
    rw [wt_1 R.1 hR.1 w hw]
    by_cases h1 : w = 1
    · rw [decide_eq_true h1, Bool.or_true]
      exact ⟨fun _ => n3 h1, fun _ => rfl⟩
    · rw [decide_eq_false h1, Bool.or_false, n2 h1]
      exact hk
theorem lines_k {F : Nat → Int32} {t : Nat} : ∀ (q : Nat) (R : RC) (p : Nat) (R' : RC) (e : Nat), rc_ok R → rc_k R → linesS F t q R p = some (R', e) → rc_k R'
  | 0, _, _, _, _, _, _, h => by cases h
  | q + 1, R, p, R', e, hR, hk, h => by
    rw [linesS] at h
    split at h
    · split at h
      · cases hl : lineS F t R (sk F t cB p + 1) with
        | none => rw [hl] at h; cases h
        | some z =>
          obtain ⟨R2, e2⟩ := z
          rw [hl] at h
          exact lines_k q R2 e2 R' e (line_ok hR hl) (line_k hR hk hl) h
      · cases h
    · cases h
      exact hk
theorem size_k {F : Nat → Int32} {t p : Nat} {R : RC} {e : Nat} (h : sizeS F t p = some (R, e)) : rc_k R := by
  unfold sizeS at h
  split at h
  · cases hn : num F t 2 6 (sk F t cL (sk F t cB p)) with
    | none => rw [hn] at h; cases h
    | some r =>
      rw [hn] at h
      cases h
      exact ⟨fun z => absurd (show (0 : Nat).testBit 1 = true from z) (by decide), fun z => absurd (show 1 ≤ 0 from z) (by decide)⟩
  · cases h
/-- without info no kept ones are told; with it no keep -/
def rc_z (R : RC) : Prop := (R.1.testBit 2 = false → R.2.2.2.2.2.2.2 = 0) ∧ (R.1.testBit 2 = true → R.1.testBit 1 = false)
theorem wt_2 : ∀ W, W < 64 → ∀ w, w < 6 → (W ||| 2 ^ w).testBit 2 = (W.testBit 2 || decide (w = 2)) := by decide +kernel
theorem nums_z {F : Nat → Int32} {t p : Nat} {R R' : RC} {e : Nat} : ∀ w, 1 ≤ w → w < 6 → numsS F t R p w = some (R', e) → R'.1 = R.1 ∧ (¬ w = 2 → R'.2.2.2.2.2.2.2 = R.2.2.2.2.2.2.2)
  | 1, _, _, h => by
    rw [numsS] at h
    cases hn : num F t 1 64 p with
    | none => rw [hn] at h; cases h
    | some r => rw [hn] at h; cases h; exact ⟨rfl, fun _ => rfl⟩
  | 2, _, _, h => by
    rw [numsS] at h
    cases hn : infoS F t (2 ^ R.2.1) 65 0 p R.2.2.2.2.2.2.2 with
    | none => rw [hn] at h; cases h
    | some r => rw [hn] at h; cases h; exact ⟨rfl, fun z => absurd rfl z⟩
  | 3, _, _, h => by
    rw [numsS] at h
    cases hn : num F t 0 8 p with
    | none => rw [hn] at h; cases h
    | some r =>
      rw [hn] at h
      simp only [Option.bind_some] at h
      cases hn2 : num F t 0 255 r.2 with
      | none => rw [hn2] at h; cases h
      | some r2 => rw [hn2] at h; cases h; exact ⟨rfl, fun _ => rfl⟩
  | 4, _, _, h => by
    rw [numsS] at h
    cases hn : num F t 1 999 p with
    | none => rw [hn] at h; cases h
    | some r => rw [hn] at h; cases h; exact ⟨rfl, fun _ => rfl⟩
  | 5, _, _, h => by
    have h : (num F t 1 8 p).map (fun q => ((R.1, R.2.1, R.2.2.1, R.2.2.2.1, R.2.2.2.2.1, R.2.2.2.2.2.1, q.1, R.2.2.2.2.2.2.2), q.2)) = some (R', e) := h
    cases hn : num F t 1 8 p with
    | none => rw [hn] at h; cases h
    | some r => rw [hn] at h; cases h; exact ⟨rfl, fun _ => rfl⟩
  | 0, h, _, _ => absurd h (by omega)
  | _ + 6, _, h, _ => absurd h (by omega)
theorem line_z {F : Nat → Int32} {t p : Nat} {R R' : RC} {e : Nat} (hR : rc_ok R) (hk : rc_z R) (h : lineS F t R p = some (R', e)) : rc_z R' := by
  unfold lineS at h
  split at h
  · cases h
  · rename_i hq
    have hw : whW F (sk F t cB p) (sk F t cL (sk F t cB p)) < 6 := whW_lt
    have h0 : ¬ whW F (sk F t cB p) (sk F t cL (sk F t cB p)) = 0 := fun z => hq (Or.inl z)
    have hx : ¬ exc R.1 (whW F (sk F t cB p) (sk F t cL (sk F t cB p))) = true := fun z => hq (Or.inr z)
    generalize whW F (sk F t cB p) (sk F t cL (sk F t cB p)) = w at *
    obtain ⟨n1, n2⟩ := nums_z w (by omega) hw h
    unfold rc_z at hk ⊢
    rw [n1]
    show ((R.1 ||| 2 ^ w).testBit 2 = false → _) ∧ ((R.1 ||| 2 ^ w).testBit 2 = true → (R.1 ||| 2 ^ w).testBit 1 = false)
    rw [wt_1 R.1 hR.1 w hw, wt_2 R.1 hR.1 w hw]
    unfold exc at hx
    by_cases h1 : w = 1
    · subst h1
      refine ⟨fun z => ?_, fun z => ?_⟩
      · rw [n2 (by decide)]
        exact hk.1 (by simpa using z)
      · have z : R.1.testBit 2 = true := by simpa using z
        rw [z] at hx
        simp at hx
    · by_cases h2 : w = 2
      · subst h2
        refine ⟨fun z => by simp at z, fun _ => ?_⟩
        cases h3 : R.1.testBit 1
        · rfl
        · rw [h3] at hx
          simp at hx
      · rw [decide_eq_false h1, decide_eq_false h2, Bool.or_false, Bool.or_false, n2 h2]
        exact hk
theorem lines_z {F : Nat → Int32} {t : Nat} : ∀ (q : Nat) (R : RC) (p : Nat) (R' : RC) (e : Nat), rc_ok R → rc_z R → linesS F t q R p = some (R', e) → rc_z R'
  | 0, _, _, _, _, _, _, h => by cases h
  | q + 1, R, p, R', e, hR, hk, h => by
    rw [linesS] at h
    split at h
    · split at h
      · cases hl : lineS F t R (sk F t cB p + 1) with
        | none => rw [hl] at h; cases h
        | some z =>
          obtain ⟨R2, e2⟩ := z
          rw [hl] at h
          exact lines_z q R2 e2 R' e (line_ok hR hl) (line_z hR hk hl) h
      · cases h
    · cases h
      exact hk
theorem size_z {F : Nat → Int32} {t p : Nat} {R : RC} {e : Nat} (h : sizeS F t p = some (R, e)) : rc_z R := by
  unfold sizeS at h
  split at h
  · cases hn : num F t 2 6 (sk F t cL (sk F t cB p)) with
    | none => rw [hn] at h; cases h
    | some r =>
      rw [hn] at h
      cases h
      exact ⟨fun _ => rfl, fun z => absurd (show (0 : Nat).testBit 2 = true from z) (by decide)⟩
  · cases h
theorem cntb_top {K : Int64} {N : Nat} : ∀ m, (∀ i, N ≤ i → i < N + m → bl K i = false) → cntb K (N + m) = cntb K N
  | 0, _ => rfl
  | m + 1, h => by
    show cntb K (N + m) + (if bl K (N + m) = true then 1 else 0) = _
    rw [h (N + m) (by omega) (by omega), cntb_top m (fun i h1 h2 => h i h1 (by omega))]
    simp
theorem popc_b {K : Int64} {N : Nat} (hN : N ≤ 64) (h : ∀ i, N ≤ i → i < 64 → bl K i = false) : popc K ≤ N := by
  unfold popc
  have := cntb_top (K := K) (N := N) (64 - N) (fun i h1 h2 => h i h1 (by omega))
  rw [show N + (64 - N) = 64 by omega] at this
  rw [this]
  exact cntb_le K N
def okR (R : RC) : Bool := if R.1.testBit 2 = true then decide (R.2.2.2.1 + 1 ≤ popc R.2.2.2.2.2.2.2) else R.1.testBit 1 && decide (R.2.2.1 + R.2.2.2.1 ≤ 2 ^ R.2.1)
def kN (R : RC) : Nat := if R.1.testBit 2 = true then popc R.2.2.2.2.2.2.2 - R.2.2.2.1 else R.2.2.1
/-- the kept ones of a code -/
def kS (R : RC) (K : Int64) : Prop := if R.1.testBit 2 = true then K = R.2.2.2.2.2.2.2 else kpB (zz (nI R.2.2.2.2.2.1) R.2.1) (2 ^ R.2.1) (R.2.2.1 + R.2.2.2.1) K
theorem kS_eq {R : RC} {K K' : Int64} (a : kS R K) (b : kS R K') : K = K' := by
  unfold kS at a b
  split at a
  · rename_i h
    rw [if_pos h] at b
    rw [a, b]
  · rename_i h
    rw [if_neg h] at b
    exact kpB_eq a b
def rv (R : RC) (i : Nat) : Int32 := match i with
  | 0 => nI R.2.1
  | 1 => nI (2 ^ R.2.1)
  | 2 => nI (kN R)
  | 3 => nI R.2.2.2.1
  | 4 => nI R.2.2.2.2.1
  | 5 => nI R.2.2.2.2.2.1
  | _ => nI R.2.2.2.2.2.2.1
def parseS (F : Nat → Int32) (t : Nat) : Option RC := (sizeS F t 0).bind (fun z => (linesS F t (t + 1) z.1 z.2).bind (fun y => if okR y.1 = true then some y.1 else none))
def fW : WSt := [(8, 4), (8, 5), (8, 6), (9, 0), (9, 1), (9, 2), (9, 3), (9, 4), (9, 5), (9, 6), (9, 7), (11, 9999)]
/-- finish, from where K stands -/
theorem ft_go {h : PmH} (hI : HI hdT shT h) {W t c N : Nat} {kx : Int32} (hW : W < 64) (ht : t ≤ 200) (e6 : ph_i h 8 6 = nI W) (e5 : ph_i h 8 5 = 0) (e3 : ph_i h 8 3 = nI t) (c1 : ph_i h 9 1 = nI N) (c2 : ph_i h 9 2 = kx) (c3 : ph_i h 9 3 = nI c) : GoP pmT none cd_42 15 [some (.ref 8)] [] h (fun r => r.1 = none ∧ HI hdT shT r.2 ∧ fram fW h r.2 ∧ (((¬ kx < 1 ∧ kx + nI c ≤ nI N) ∧ ph_i r.2 8 5 = 0 ∧ (∀ i, i < 7 → ph_i r.2 9 i = ph_i h 9 i) ∧ (W.testBit 1 = true → Ev pmT 44 [.ref 8, .int (kx + nI c)] h none r.2) ∧ (W.testBit 1 = false → ph_l r.2 9 7 = ph_l h 9 7)) ∨ (¬ (¬ kx < 1 ∧ kx + nI c ≤ nI N) ∧ ¬ ph_i r.2 8 5 = 0))) := by
  have k0 : ph_r h 8 0 = some 9 := hi_r hI rfl rfl (by decide)
  have w1 := was_ev (w := 1) hI e6 hW (by decide)
  have bm := bm_ev (w := nI t) (k := nI 4) hI e5
  have I2 : HI hdT shT (hft h (8 * nI t + nI 4)) := hd8 hI rfl
  have hx := iv_ev vN_303 (as := [.ref 8, .int (kx + nI c)]) rfl (fun _ _ => gz_c (gz_r (by decide)) (gz_c (gz_a _) gz_n)) hI
  have bad : ∀ (hb : ¬ (¬ kx < 1 ∧ kx + nI c ≤ nI N)), (fun r : Option Value × PmH => r.1 = none ∧ HI hdT shT r.2 ∧ fram fW h r.2 ∧ (((¬ kx < 1 ∧ kx + nI c ≤ nI N) ∧ ph_i r.2 8 5 = 0 ∧ (∀ i, i < 7 → ph_i r.2 9 i = ph_i h 9 i) ∧ (W.testBit 1 = true → Ev pmT 44 [.ref 8, .int (kx + nI c)] h none r.2) ∧ (W.testBit 1 = false → ph_l r.2 9 7 = ph_l h 9 7)) ∨ (¬ (¬ kx < 1 ∧ kx + nI c ≤ nI N) ∧ ¬ ph_i r.2 8 5 = 0))) (none, hft h (8 * nI t + nI 4)) := fun hb => ⟨rfl, I2, fram_wi (by decide), Or.inr ⟨hb, by
    show ¬ pm_u2 (ph_i h) 8 5 (8 * nI t + nI 4) 8 5 = 0
    rw [u2_eq]
    exact bm_ne ht (by decide) (by decide)⟩⟩
  obtain ⟨v3, h3, ev3, I3, F3, p3⟩ := hx
  have := pv_n rfl p3
  subst this
  have tb1 : W.testBit 1 = false → b01 (W.testBit 1) = 0 := fun z => by rw [z]; rfl
  have tb0 : W.testBit 1 = true → ¬ b01 (W.testBit 1) = 0 := fun z => by rw [z]; decide
  have u9 : ∀ i, i < 7 → ph_i h3 9 i = ph_i h 9 i := fun i hi => (F3 9 i (by
    have : i = 0 ∨ i = 1 ∨ i = 2 ∨ i = 3 ∨ i = 4 ∨ i = 5 ∨ i = 6 := by omega
    rcases this with rfl | rfl | rfl | rfl | rfl | rfl | rfl <;> decide)).1
  have good3 : (¬ kx < 1 ∧ kx + nI c ≤ nI N) → ¬ b01 (W.testBit 1) = 0 → (fun r : Option Value × PmH => r.1 = none ∧ HI hdT shT r.2 ∧ fram fW h r.2 ∧ (((¬ kx < 1 ∧ kx + nI c ≤ nI N) ∧ ph_i r.2 8 5 = 0 ∧ (∀ i, i < 7 → ph_i r.2 9 i = ph_i h 9 i) ∧ (W.testBit 1 = true → Ev pmT 44 [.ref 8, .int (kx + nI c)] h none r.2) ∧ (W.testBit 1 = false → ph_l r.2 9 7 = ph_l h 9 7)) ∨ (¬ (¬ kx < 1 ∧ kx + nI c ≤ nI N) ∧ ¬ ph_i r.2 8 5 = 0))) (none, h3) := fun hg hb => ⟨rfl, I3, fram.up (by decide) F3, Or.inl ⟨hg, ((F3 8 5 (by decide)).1).trans e5, u9, fun _ => ev3, fun z => absurd (tb1 z) hb⟩⟩
  have good0 : (¬ kx < 1 ∧ kx + nI c ≤ nI N) → b01 (W.testBit 1) = 0 → (fun r : Option Value × PmH => r.1 = none ∧ HI hdT shT r.2 ∧ fram fW h r.2 ∧ (((¬ kx < 1 ∧ kx + nI c ≤ nI N) ∧ ph_i r.2 8 5 = 0 ∧ (∀ i, i < 7 → ph_i r.2 9 i = ph_i h 9 i) ∧ (W.testBit 1 = true → Ev pmT 44 [.ref 8, .int (kx + nI c)] h none r.2) ∧ (W.testBit 1 = false → ph_l r.2 9 7 = ph_l h 9 7)) ∨ (¬ (¬ kx < 1 ∧ kx + nI c ≤ nI N) ∧ ¬ ph_i r.2 8 5 = 0))) (none, h) := fun hg hb => ⟨rfl, hI, fram.rf _ _, Or.inl ⟨hg, e5, fun _ _ => rfl, fun z => absurd hb (tb0 z), fun _ => rfl⟩⟩
  generalize (fun r : Option Value × PmH => r.1 = none ∧ HI hdT shT r.2 ∧ fram fW h r.2 ∧ (((¬ kx < 1 ∧ kx + nI c ≤ nI N) ∧ ph_i r.2 8 5 = 0 ∧ (∀ i, i < 7 → ph_i r.2 9 i = ph_i h 9 i) ∧ (W.testBit 1 = true → Ev pmT 44 [.ref 8, .int (kx + nI c)] h none r.2) ∧ (W.testBit 1 = false → ph_l r.2 9 7 = ph_l h 9 7)) ∨ (¬ (¬ kx < 1 ∧ kx + nI c ≤ nI N) ∧ ¬ ph_i r.2 8 5 = 0))) = Q at *
  obtain ⟨S, fi, fl, fr⟩ := h
  have hS : S = shT := hI.1
  subst hS
  have k0 : fr 8 0 = some 9 := k0
  have e3 : fi 8 3 = nI t := e3
  have c1 : fi 9 1 = nI N := c1
  have c2 : fi 9 2 = kx := c2
  have c3 : fi 9 3 = nI c := c3
  obtain ⟨S3, fi3, fl3, fr3⟩ := h3
  have s3 : S3 = shT := I3.1
  subst s3
  refine gp_n 1 (j' := 16) (lv' := [some (.ref 8)]) (st' := [.ref 8]) (h' := (shT, fi, fl, fr)) rfl ?_
  refine gp_of (fun _ k9 => g_getR (q' := 9) rfl rfl (by decide) k0 k9) ?_
  refine gp_of (fun _ k9 => g_getI (x := kx) rfl (Or.inl rfl) rfl (by decide) (c2) k9) ?_
  refine gp_n 1 (j' := 19) (lv' := [some (.ref 8)]) (st' := [.int 1, .int kx]) (h' := (shT, fi, fl, fr)) rfl ?_
  refine gp_ic rfl (fun p1 => ?_) (fun p1 => ?_)
  · replace p1 : kx < (1 : Int32) := p1
    refine gp_n 2 (j' := 33) (lv' := [some (.ref 8)]) (st' := [.ref 8, .ref 8]) (h' := (shT, fi, fl, fr)) rfl ?_
    refine gp_of (fun _ k9 => g_getI (x := nI t) rfl (Or.inl rfl) rfl (by decide) (e3) k9) ?_
    refine gp_n 1 (j' := 35) (lv' := [some (.ref 8)]) (st' := [.int (nI 4), .int (nI t), .ref 8]) (h' := (shT, fi, fl, fr)) rfl ?_
    refine gp_of (fun _ k9 => g_callv (y := 32) (as := [.ref 8, .int (nI t), .int (nI 4)]) (st' := []) rfl rfl (bm) k9) ?_
    refine gp_done (g_vret rfl) ?_
    exact bad (fun z => by first | exact z.1 p1 | exact p2 z.2)
  · replace p1 : ¬ (kx < (1 : Int32)) := p1
    refine gp_n 1 (j' := 21) (lv' := [some (.ref 8)]) (st' := [.ref 8]) (h' := (shT, fi, fl, fr)) rfl ?_
    refine gp_of (fun _ k9 => g_getR (q' := 9) rfl rfl (by decide) k0 k9) ?_
    refine gp_of (fun _ k9 => g_getI (x := kx) rfl (Or.inl rfl) rfl (by decide) (c2) k9) ?_
    refine gp_n 1 (j' := 24) (lv' := [some (.ref 8)]) (st' := [.ref 8, .int kx]) (h' := (shT, fi, fl, fr)) rfl ?_
    refine gp_of (fun _ k9 => g_getR (q' := 9) rfl rfl (by decide) k0 k9) ?_
    refine gp_of (fun _ k9 => g_getI (x := nI c) rfl (Or.inl rfl) rfl (by decide) (c3) k9) ?_
    refine gp_n 2 (j' := 28) (lv' := [some (.ref 8)]) (st' := [.ref 8, .int (kx + (nI c))]) (h' := (shT, fi, fl, fr)) rfl ?_
    refine gp_of (fun _ k9 => g_getR (q' := 9) rfl rfl (by decide) k0 k9) ?_
    refine gp_of (fun _ k9 => g_getI (x := nI N) rfl (Or.inl rfl) rfl (by decide) (c1) k9) ?_
    refine gp_ic rfl (fun p2 => ?_) (fun p2 => ?_)
    · replace p2 : (kx + (nI c)) ≤ (nI N) := p2
      refine gp_n 2 (j' := 39) (lv' := [some (.ref 8)]) (st' := [.int (nI 1), .ref 8]) (h' := (shT, fi, fl, fr)) rfl ?_
      refine gp_of (fun _ k9 => g_call (y := 39) (as := [.ref 8, .int (nI 1)]) (st' := []) rfl rfl (w1) k9) ?_
      refine gp_if rfl (fun p3 => ?_) (fun p3 => ?_)
      · replace p3 : (b01 (W.testBit 1)) = (0 : Int32) := p3
        refine gp_done (g_vret rfl) ?_
        first | exact good3 ⟨p1, p2⟩ p3 | exact good0 ⟨p1, p2⟩ p3
      · replace p3 : ¬ ((b01 (W.testBit 1)) = (0 : Int32)) := p3
        refine gp_n 2 (j' := 43) (lv' := [some (.ref 8)]) (st' := [.ref 8, .ref 8]) (h' := (shT, fi, fl, fr)) rfl ?_
        refine gp_of (fun _ k9 => g_getR (q' := 9) rfl rfl (by decide) k0 k9) ?_
        refine gp_of (fun _ k9 => g_getI (x := kx) rfl (Or.inl rfl) rfl (by decide) (c2) k9) ?_
        refine gp_n 1 (j' := 46) (lv' := [some (.ref 8)]) (st' := [.ref 8, .int kx, .ref 8]) (h' := (shT, fi, fl, fr)) rfl ?_
        refine gp_of (fun _ k9 => g_getR (q' := 9) rfl rfl (by decide) k0 k9) ?_
        refine gp_of (fun _ k9 => g_getI (x := nI c) rfl (Or.inl rfl) rfl (by decide) (c3) k9) ?_
        refine gp_n 1 (j' := 49) (lv' := [some (.ref 8)]) (st' := [.int (kx + (nI c)), .ref 8]) (h' := (shT, fi, fl, fr)) rfl ?_
        refine gp_of (fun _ k9 => g_callv (y := 44) (as := [.ref 8, .int (kx + (nI c))]) (st' := []) rfl rfl (ev3) k9) ?_
        refine gp_done (g_vret rfl) ?_
        first | exact good3 ⟨p1, p2⟩ p3 | exact good0 ⟨p1, p2⟩ p3
    · replace p2 : ¬ ((kx + (nI c)) ≤ (nI N)) := p2
      refine gp_n 2 (j' := 33) (lv' := [some (.ref 8)]) (st' := [.ref 8, .ref 8]) (h' := (shT, fi, fl, fr)) rfl ?_
      refine gp_of (fun _ k9 => g_getI (x := nI t) rfl (Or.inl rfl) rfl (by decide) (e3) k9) ?_
      refine gp_n 1 (j' := 35) (lv' := [some (.ref 8)]) (st' := [.int (nI 4), .int (nI t), .ref 8]) (h' := (shT, fi, fl, fr)) rfl ?_
      refine gp_of (fun _ k9 => g_callv (y := 32) (as := [.ref 8, .int (nI t), .int (nI 4)]) (st' := []) rfl rfl (bm) k9) ?_
      refine gp_done (g_vret rfl) ?_
      exact bad (fun z => by first | exact z.1 p1 | exact p2 z.2)
theorem fin_ev {F : Nat → Int32} {t e : Nat} {R : RC} {h : PmH} (ht : t ≤ 200) (hS : pc_S F t e R h) (hR : rc_ok R) (hkeep : R.1.testBit 2 = false → (R.1.testBit 1 = true ↔ 1 ≤ R.2.2.1)) (hz : rc_z R) : ∃ h', Ev pmT 42 [.ref 8] h none h' ∧ HI hdT shT h' ∧ fram fW h h' ∧ ((okR R = true ∧ ph_i h' 8 5 = 0 ∧ (∀ i, i < 7 → ph_i h' 9 i = rv R i) ∧ kS R (ph_l h' 9 7)) ∨ (okR R = false ∧ ¬ ph_i h' 8 5 = 0)) := by
  have hI := hS.1.1
  obtain ⟨a0, a1, a2, a3, a4, a5, a6, a7, a8⟩ := hS.2.2.1
  obtain ⟨b1, ⟨b2, b3⟩, b4, b5, b6, b7⟩ := hR
  have p6 := pw_6 R.2.1 (by omega)
  have w2 := was_ev (w := 2) hI a0 b1 (by decide)
  have k0 : ph_r h 8 0 = some 9 := hi_r hI rfl rfl (by decide)
  have pc := popc_le R.2.2.2.2.2.2.2
  have pb := popc_b p6.2 b7
  have bc := bc_ev (x := R.2.2.2.2.2.2.2) (h := h)
  rw [bc_ok] at bc
  have fin : ∀ r : Option Value × PmH, Go pmT none cd_42 0 [some (.ref 8)] [] h r → r.1 = none → Ev pmT 42 [.ref 8] h none r.2 := fun r g z => by
    obtain ⟨v, h'⟩ := r
    have z : v = none := z
    subst z
    exact Ev.of (es := cd_42) (ml := 1) (lv := [some (.ref 8)]) rfl rfl rfl g
  cases hb : R.1.testBit 2
  · -- keep, or nothing
    rw [hb] at w2
    obtain ⟨r, g, r1, r2, r3, r4⟩ := ft_go hI b1 ht a0 hS.2.1 hS.1.2.2.1 a2 a3 a4
    have g0 : Go pmT none cd_42 0 [some (.ref 8)] [] h r := by
      obtain ⟨S, fi, fl, fr⟩ := h
      have hS : S = shT := hI.1
      subst hS
      refine go_of ?_
      refine gp_n 2 (j' := 2) (lv' := [some (.ref 8)]) (st' := [.int (nI 2), .ref 8]) (h' := (shT, fi, fl, fr)) rfl ?_
      refine gp_of (fun _ k9 => g_call (y := 39) (as := [.ref 8, .int (nI 2)]) (st' := []) rfl rfl (w2) k9) ?_
      refine gp_of (fun _ k9 => g_ift rfl (show (0 : Int32) = (0 : Int32) from by decide) k9) ?_
      exact gp_done g rfl
    refine ⟨r.2, fin r g0 r1, r2, r3, ?_⟩
    have hk : kN R = R.2.2.1 := by
      unfold kN
      rw [hb]
      rfl
    have ho : okR R = (R.1.testBit 1 && decide (R.2.2.1 + R.2.2.2.1 ≤ 2 ^ R.2.1)) := by
      unfold okR
      rw [hb]
      rfl
    have hcond : (¬ nI R.2.2.1 < 1 ∧ nI R.2.2.1 + nI R.2.2.2.1 ≤ nI (2 ^ R.2.1)) ↔ (1 ≤ R.2.2.1 ∧ R.2.2.1 + R.2.2.2.1 ≤ 2 ^ R.2.1) := by
      rw [nI_add, nI_leI (by omega) (by omega)]
      rw [show (1 : Int32) = nI 1 from rfl, nI_ltI (by omega) (by decide)]
      omega
    have hkt := hkeep hb
    rcases r4 with ⟨q1, q2, q3, q4, -⟩ | ⟨q1, q2⟩
    · rw [hcond] at q1
      have hK : kS R (ph_l r.2 9 7) := by
        unfold kS
        rw [if_neg (by rw [hb]; decide)]
        have ek := q4 (hkt.mpr q1.1)
        rw [nI_add] at ek
        obtain ⟨r', e', -, k'⟩ := kb_ev (N := 2 ^ R.2.1) (m := R.2.1) (q := R.2.2.1 + R.2.2.2.1) hI p6.2 b3 q1.2 a2 a6 a1 (a8.trans (hz.1 hb))
        obtain ⟨-, e2⟩ := ev_det ek e'
        rw [e2]
        exact k'
      refine Or.inl ⟨?_, q2, fun i hi => ?_, hK⟩
      · rw [ho, decide_eq_true q1.2, (hkt.mpr q1.1)]
        rfl
      · rw [q3 i hi]
        have : i = 0 ∨ i = 1 ∨ i = 2 ∨ i = 3 ∨ i = 4 ∨ i = 5 ∨ i = 6 := by omega
        rcases this with rfl | rfl | rfl | rfl | rfl | rfl | rfl
        · exact a1
        · exact a2
        · show _ = nI (kN R)
          rw [hk]
          exact a3
        · exact a4
        · exact a5
        · exact a6
        · exact a7
    · rw [hcond] at q1
      refine Or.inr ⟨?_, q2⟩
      rw [ho, Bool.and_eq_false_iff, decide_eq_false_iff_not]
      by_cases h1 : 1 ≤ R.2.2.1
      · exact Or.inr (fun z => q1 ⟨h1, z⟩)
      · refine Or.inl (Bool.eq_false_iff.mpr (fun z => h1 (hkt.mp z)))
  · -- info
    rw [hb] at w2
    generalize hq : R.2.2.2.2.2.2.2 = K at *
    have I2 : HI hdT shT (h9 h 2 (nI (popc K) - nI R.2.2.2.1)) := h9_I hI rfl
    have f2 : fram fW h (h9 h 2 (nI (popc K) - nI R.2.2.2.1)) := fram_wi (by decide)
    obtain ⟨r, g, r1, r2, r3, r4⟩ := ft_go (t := t) (c := R.2.2.2.1) (N := 2 ^ R.2.1) (kx := nI (popc K) - nI R.2.2.2.1) I2 b1 ht ((h9_ne (by decide)).trans a0) (h9_5.trans hS.2.1) ((h9_ne (by decide)).trans hS.1.2.2.1) ((h9_ne (by decide)).trans a2) h9_eq ((h9_ne (by decide)).trans a4)
    have g0 : Go pmT none cd_42 0 [some (.ref 8)] [] h r := by
      obtain ⟨S, fi, fl, fr⟩ := h
      have hS : S = shT := hI.1
      subst hS
      have k0 : fr 8 0 = some 9 := k0
      have a8 : fl 9 7 = K := a8
      have a4 : fi 9 3 = nI R.2.2.2.1 := a4
      refine go_of ?_
      refine gp_n 2 (j' := 2) (lv' := [some (.ref 8)]) (st' := [.int (nI 2), .ref 8]) (h' := (shT, fi, fl, fr)) rfl ?_
      refine gp_of (fun _ k9 => g_call (y := 39) (as := [.ref 8, .int (nI 2)]) (st' := []) rfl rfl (w2) k9) ?_
      refine gp_of (fun _ k9 => g_iff rfl (show ¬ ((1 : Int32) = (0 : Int32)) from by decide) k9) ?_
      refine gp_n 1 (j' := 5) (lv' := [some (.ref 8)]) (st' := [.ref 8]) (h' := (shT, fi, fl, fr)) rfl ?_
      refine gp_of (fun _ k9 => g_getR (q' := 9) rfl rfl (by decide) k0 k9) ?_
      refine gp_n 1 (j' := 7) (lv' := [some (.ref 8)]) (st' := [.ref 8, .ref 9]) (h' := (shT, fi, fl, fr)) rfl ?_
      refine gp_of (fun _ k9 => g_getR (q' := 9) rfl rfl (by decide) k0 k9) ?_
      refine gp_of (fun _ k9 => g_getL (x := K) rfl rfl (by decide) (a8) k9) ?_
      refine gp_of (fun _ k9 => g_call (y := 43) (as := [.long K]) (st' := [.ref 9]) rfl rfl (bc) k9) ?_
      refine gp_n 1 (j' := 11) (lv' := [some (.ref 8)]) (st' := [.ref 8, .int (nI (popc K)), .ref 9]) (h' := (shT, fi, fl, fr)) rfl ?_
      refine gp_of (fun _ k9 => g_getR (q' := 9) rfl rfl (by decide) k0 k9) ?_
      refine gp_of (fun _ k9 => g_getI (x := nI R.2.2.2.1) rfl (Or.inl rfl) rfl (by decide) (a4) k9) ?_
      refine gp_n 1 (j' := 14) (lv' := [some (.ref 8)]) (st' := [.int ((nI (popc K)) - (nI R.2.2.2.1)), .ref 9]) (h' := (shT, fi, fl, fr)) rfl ?_
      refine gp_of (fun _ k9 => g_putI rfl (Or.inl rfl) rfl (by decide) k9) ?_
      exact gp_done g rfl
    refine ⟨r.2, fin r g0 r1, r2, fram.tr f2 r3, ?_⟩
    have hk : kN R = popc K - R.2.2.2.1 := by
      unfold kN
      rw [hb, hq]
      rfl
    have ho : okR R = decide (R.2.2.2.1 + 1 ≤ popc K) := by
      unfold okR
      rw [hb, hq]
      rfl
    have hcond : (¬ nI (popc K) - nI R.2.2.2.1 < 1 ∧ nI (popc K) - nI R.2.2.2.1 + nI R.2.2.2.1 ≤ nI (2 ^ R.2.1)) ↔ R.2.2.2.1 + 1 ≤ popc K := by
      by_cases h1 : R.2.2.2.1 + 1 ≤ popc K
      · rw [pk_sub (show R.2.2.2.1 ≤ popc K by omega), nI_add, nI_leI (by omega) (by omega)]
        rw [show (1 : Int32) = nI 1 from rfl, nI_ltI (by omega) (by decide)]
        omega
      · refine ⟨fun z => absurd ?_ z.1, fun z => absurd z h1⟩
        rw [Int32.lt_iff_toInt_lt, pk_sub_toInt (by omega) (by omega)]
        show _ < (1 : Int)
        omega
    rcases r4 with ⟨q1, q2, q3, -, q5⟩ | ⟨q1, q2⟩
    · rw [hcond] at q1
      have hK : kS R (ph_l r.2 9 7) := by
        unfold kS
        rw [if_pos hb, q5 (hz.2 hb), hq]
        exact a8
      refine Or.inl ⟨by rw [ho]; exact decide_eq_true q1, q2, fun i hi => ?_, hK⟩
      rw [q3 i hi]
      have : i = 0 ∨ i = 1 ∨ i = 2 ∨ i = 3 ∨ i = 4 ∨ i = 5 ∨ i = 6 := by omega
      rcases this with rfl | rfl | rfl | rfl | rfl | rfl | rfl
      · exact (h9_ne (by decide)).trans a1
      · exact (h9_ne (by decide)).trans a2
      · show _ = nI (kN R)
        rw [hk, h9_eq]
        exact pk_sub (by omega)
      · exact (h9_ne (by decide)).trans a4
      · exact (h9_ne (by decide)).trans a5
      · exact (h9_ne (by decide)).trans a6
      · exact (h9_ne (by decide)).trans a7
    · rw [hcond] at q1
      exact Or.inr ⟨by rw [ho]; exact decide_eq_false q1, q2⟩
