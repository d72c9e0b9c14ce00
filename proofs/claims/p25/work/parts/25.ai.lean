theorem gv_k0 {lv : PmL} {h : PmH} {A : AV} {v : Value} (hk : av_k A = 0) (g : gv lv h A v) : ∃ x : Int32, v = .int x ∧ av_lo A ≤ x.toInt ∧ x.toInt ≤ av_hi A ∧ ai_tag lv h (av_t A) (av_a A) (av_b A) x := (gv_int hk).mp g
theorem gv_k1 {lv : PmL} {h : PmH} {A : AV} {v : Value} (hk : av_k A = 1) (g : gv lv h A v) : ∃ x : Int64, v = .long x := by
  unfold gv at g
  rw [hk] at g
  exact g
theorem gv_k2 {lv : PmL} {h : PmH} {A : AV} {v : Value} (hk : av_k A = 2) (g : gv lv h A v) : ∃ p ∈ av_ps A, v = .ref p := by
  unfold gv at g
  rw [hk] at g
  exact g
theorem gv_k3 {lv : PmL} {h : PmH} {A : AV} {v : Value} (hk : av_k A = 3) (g : gv lv h A v) : ∃ p ∈ av_ps A, v = .retAddr p := by
  unfold gv at g
  rw [hk] at g
  exact g
theorem gv_k4 {lv : PmL} {h : PmH} {A : AV} {v : Value} (hk : av_k A = 4) (g : gv lv h A v) : ∃ x : Int64, v = .long x ∧ ¬ x = 0 := by
  unfold gv at g
  rw [hk] at g
  exact g
theorem gv_k5 {lv : PmL} {h : PmH} {A : AV} {v : Value} (hk : av_k A = 5) (g : gv lv h A v) : ∃ x : Int32, v = .long x.toInt64 ∧ av_lo A ≤ x.toInt ∧ x.toInt ≤ av_hi A ∧ ai_tag lv h (av_t A) (av_a A) (av_b A) x := by
  unfold gv at g
  rw [hk] at g
  exact g
theorem gv_nt {lv : PmL} {h : PmH} {A : AV} {v : Value} (g : gv lv h A v) (lv' : PmL) (h' : PmH) : gv lv' h' (nt A) v := by
  obtain ⟨k, lo, hi, ps, t, a, b⟩ := A
  rcases k with _ | _ | _ | _ | _ | _ | k
  · obtain ⟨x, e, g1, g2, -⟩ := g
    exact ⟨x, e, g1, g2, trivial⟩
  · exact g
  · exact g
  · exact g
  · exact g
  · obtain ⟨x, e, g1, g2, -⟩ := g
    exact ⟨x, e, g1, g2, trivial⟩
  · trivial
theorem ai_tag_keep {lv lv' : PmL} {h h' : PmH} {a b : Nat} {x : Int32} : ∀ (t : Nat), ((t = 1 ∨ t = 3 ∨ t = 4) → ∀ y : Int32, lv[a]? = some (some (.int y)) → lv'[a]? = some (some (.int y))) → ((t = 2 ∨ 5 ≤ t) → ph_i h' a b = ph_i h a b) → ai_tag lv h t a b x → ai_tag lv' h' t a b x
  | 0, _, _, _ => trivial
  | 1, hl, _, g => hl (Or.inl rfl) x g
  | 2, _, hh, g => (hh (Or.inl rfl)).trans g
  | 3, hl, _, ⟨y, y1, y2⟩ => ⟨y, hl (Or.inr (Or.inl rfl)) y y1, y2⟩
  | 4, hl, _, ⟨y, y1, y2⟩ => ⟨y, hl (Or.inr (Or.inr rfl)) y y1, y2⟩
  | 5, _, hh, g => by
    show x.toInt < (ph_i h' a b).toInt
    rw [hh (Or.inr (Nat.le_refl 5))]
    exact g
  | t + 6, _, hh, g => by
    show (ph_i h' a b).toInt < x.toInt
    rw [hh (Or.inr (Nat.le_add_left 5 (t + 1)))]
    exact g
/-- values keep to their abstract ones when tags that no longer hold are gone -/
theorem gv_keep {lv lv' : PmL} {h h' : PmH} {A B : AV} {v : Value} (hB : B = A ∨ B = nt A) (hl : B = A → (av_t A = 1 ∨ av_t A = 3 ∨ av_t A = 4) → ∀ x : Int32, lv[av_a A]? = some (some (.int x)) → lv'[av_a A]? = some (some (.int x))) (hh : B = A → (av_t A = 2 ∨ 5 ≤ av_t A) → ph_i h' (av_a A) (av_b A) = ph_i h (av_a A) (av_b A)) (g : gv lv h A v) : gv lv' h' B v := by
  rcases hB with hB | hB
  · have hl := hl hB
    have hh := hh hB
    subst hB
    unfold gv at g ⊢
    split at g
    · obtain ⟨x, e, g1, g2, g3⟩ := g
      exact ⟨x, e, g1, g2, ai_tag_keep (av_t B) hl hh g3⟩
    · exact g
    · exact g
    · exact g
    · exact g
    · obtain ⟨x, e, g1, g2, g3⟩ := g
      exact ⟨x, e, g1, g2, ai_tag_keep (av_t B) hl hh g3⟩
    · trivial
  · subst hB
    exact gv_nt g lv' h'
theorem ut_l_is (i : Nat) (B : AV) : (ut_l i B = B ∧ ¬ ((av_t B = 1 ∨ av_t B = 3 ∨ av_t B = 4) ∧ av_a B = i)) ∨ ut_l i B = nt B := by
  unfold ut_l
  split
  · exact Or.inr rfl
  · rename_i z
    exact Or.inl ⟨rfl, z⟩
theorem ut_f_is (W : WSt) (B : AV) : (ut_f W B = B ∧ ¬ ((av_t B = 2 ∨ 5 ≤ av_t B) ∧ inW W (av_a B) (av_b B) = true)) ∨ ut_f W B = nt B := by
  unfold ut_f
  split
  · exact Or.inr rfl
  · rename_i z
    exact Or.inl ⟨rfl, z⟩
theorem gst_map {lv lv' : PmL} {h h' : PmH} {f : AV → AV} (hf : ∀ (A : AV) (v : Value), gv lv h A v → gv lv' h' (f A) v) : ∀ (A : List AV) (st : List Value), gst lv h A st → gst lv' h' (A.map f) st
  | [], [], _ => trivial
  | _ :: A, _ :: st, g => ⟨hf _ _ g.1, gst_map hf A st g.2⟩
  | [], _ :: _, g => g.elim
  | _ :: _, [], g => g.elim
/-- a local is written: what a store does to the other locals -/
theorem st1_ne {lv : PmL} {i a : Nat} {v : Value} {x : Int32} (ha : a ≠ i) (h : lv[a]? = some (some (.int x))) : (pm_st1 lv i v)[a]? = some (some (.int x)) := by
  unfold pm_st1
  rw [List.getElem?_set_ne (fun z => ha z.symm)]
  cases i with
  | zero => exact h
  | succ k =>
    show (if pm_c2 lv[k]? then lv.set k none else lv)[a]? = _
    split
    · rename_i hc
      by_cases hk : k = a
      · subst hk
        rw [h] at hc
        exact absurd hc (by simp [pm_c2])
      · rw [List.getElem?_set_ne hk]
        exact h
    · exact h
theorem clr_len (lv : PmL) (i : Nat) : (pm_clr lv i).length = lv.length := by
  cases i with
  | zero => rfl
  | succ k =>
    show (if pm_c2 lv[k]? then lv.set k none else lv).length = _
    split <;> simp
/-- the abstract locals behind a store at i: a long ahead of it may go -/
def ai_clr (A : List AV) : Nat → List AV
  | 0 => A
  | k + 1 => match A[k]? with
    | some B => if av_k B = 0 ∨ av_k B = 2 ∨ av_k B = 3 then A else A.set k av_u
    | none => A
def ai_st1 (A : List AV) (i : Nat) (B : AV) : List AV := (ai_clr A i).set i (nt B)
def ai_st2 (A : List AV) (i : Nat) : List AV := ((ai_clr A i).set i av_l).set (i + 1) av_u
theorem ai_clr_len (A : List AV) (i : Nat) : (ai_clr A i).length = A.length := by
  cases i with
  | zero => rfl
  | succ k =>
    show (match A[k]? with
      | some B => if av_k B = 0 ∨ av_k B = 2 ∨ av_k B = 3 then A else A.set k av_u
      | none => A).length = _
    split
    · split <;> simp
    · rfl
theorem ai_clr_at {A : List AV} {lv : PmL} {i : Nat} (g : gl A lv) {a : Nat} {B : AV} (h : (ai_clr A i)[a]? = some B) (hB : av_k B < 9) : A[a]? = some B ∧ (pm_clr lv i)[a]? = lv[a]? := by
  cases i with
  | zero => exact ⟨h, rfl⟩
  | succ k =>
    have hp : (pm_clr lv (k + 1)) = (if pm_c2 lv[k]? then lv.set k none else lv) := rfl
    unfold ai_clr at h
    rw [hp]
    cases hk : A[k]? with
    | none =>
      simp only [hk] at h
      have : lv[k]? = none := by
        rw [List.getElem?_eq_none_iff] at hk ⊢
        rw [g.1]
        exact hk
      rw [this]
      exact ⟨h, rfl⟩
    | some C =>
      simp only [hk] at h
      by_cases hC : av_k C = 0 ∨ av_k C = 2 ∨ av_k C = 3
      · rw [if_pos hC] at h
        refine ⟨h, ?_⟩
        obtain ⟨w, hw, hg⟩ := g.2 k C hk (by omega)
        have hg := hg lv ([], fun _ _ => 0, fun _ _ => 0, fun _ _ => none)
        rw [hw]
        have : pm_c2 (some (some w)) = false := by
          rcases hC with z | z | z
          · obtain ⟨_, e, -⟩ := gv_k0 (A := nt C) z hg
            rw [e]; rfl
          · obtain ⟨_, -, e⟩ := gv_k2 (A := nt C) z hg
            rw [e]; rfl
          · obtain ⟨_, -, e⟩ := gv_k3 (A := nt C) z hg
            rw [e]; rfl
        rw [this]
        rfl
      · rw [if_neg hC] at h
        by_cases ha : k = a
        · subst ha
          rw [List.getElem?_set_self'] at h
          rw [hk] at h
          simp at h
          subst h
          exact absurd hB (by decide)
        · rw [List.getElem?_set_ne ha] at h
          refine ⟨h, ?_⟩
          split
          · rw [List.getElem?_set_ne ha]
          · rfl
theorem gl_st1 {A : List AV} {lv : PmL} {i : Nat} {B : AV} {v : Value} (g : gl A lv) (hi : i < A.length) (hB : ∀ (lv' : PmL) (h' : PmH), gv lv' h' (nt B) v) : gl (ai_st1 A i B) (pm_st1 lv i v) := by
  refine ⟨by simp [ai_st1, pm_st1, ai_clr_len, clr_len, g.1], fun a C hC hk => ?_⟩
  unfold ai_st1 at hC
  unfold pm_st1
  by_cases ha : i = a
  · subst ha
    rw [List.getElem?_set_self (by rw [ai_clr_len]; exact hi)] at hC
    cases hC
    exact ⟨v, by rw [List.getElem?_set_self (by rw [clr_len, g.1]; exact hi)], hB⟩
  · rw [List.getElem?_set_ne ha] at hC ⊢
    obtain ⟨h1, h2⟩ := ai_clr_at g hC hk
    rw [h2]
    exact g.2 a C h1 hk
theorem gl_st2 {A : List AV} {lv : PmL} {i : Nat} {x : Int64} (g : gl A lv) (hi : i + 1 < A.length) : gl (ai_st2 A i) (pm_st2 lv i (.long x)) := by
  refine ⟨by simp [ai_st2, pm_st2, ai_clr_len, clr_len, g.1], fun a C hC hk => ?_⟩
  unfold ai_st2 at hC
  unfold pm_st2
  by_cases hb : i + 1 = a
  · subst hb
    rw [List.getElem?_set_self (by simp [ai_clr_len]; exact hi)] at hC
    cases hC
    exact absurd hk (by decide)
  · rw [List.getElem?_set_ne hb] at hC ⊢
    by_cases ha : i = a
    · subst ha
      rw [List.getElem?_set_self (by rw [ai_clr_len]; omega)] at hC
      cases hC
      exact ⟨.long x, by rw [List.getElem?_set_self (by rw [clr_len, g.1]; omega)], fun _ _ => ⟨x, rfl⟩⟩
    · rw [List.getElem?_set_ne ha] at hC ⊢
      obtain ⟨h1, h2⟩ := ai_clr_at g hC hk
      rw [h2]
      exact g.2 a C h1 hk
theorem st2_ne {lv : PmL} {i a : Nat} {v : Value} {x : Int32} (ha : a ≠ i) (hb : a ≠ i + 1) (h : lv[a]? = some (some (.int x))) : (pm_st2 lv i v)[a]? = some (some (.int x)) := by
  unfold pm_st2
  rw [List.getElem?_set_ne (fun z => hb z.symm)]
  exact st1_ne ha h
/-- the loops' variables behind a step -/
def rl_up (LS : List LVr) (f : LVr → Nat → Option Nat) : List Nat → Option (List Nat)
  | [] => some []
  | r :: rs => match LS[rs.length]?, rl_up LS f rs with
    | some L, some rs' => match f L r with
      | some r' => some (r' :: rs')
      | none => none
    | _, _ => none
theorem rl_up_len {LS : List LVr} {f : LVr → Nat → Option Nat} : ∀ {rs rs' : List Nat}, rl_up LS f rs = some rs' → rs'.length = rs.length := by
  intro rs
  induction rs with
  | nil => intro rs' h; cases h; rfl
  | cons r rs ih =>
    intro rs' h
    unfold rl_up at h
    split at h
    · rename_i hL hr
      split at h
      · cases h
        simp [ih hr]
      · cases h
    · cases h
theorem rl_up_ok {LS : List LVr} {f : LVr → Nat → Option Nat} {lv lv' : PmL} {h h' : PmH} (hf : ∀ (L : LVr) (r r' : Nat) (g : Int) (x : Int32), f L r = some r' → lv_now L lv h x → rel_ok L.2.2.2 r g x.toInt → ∃ x' : Int32, lv_now L lv' h' x' ∧ rel_ok L.2.2.2 r' g x'.toInt) :
    ∀ {rs rs' : List Nat} {gs : List Int}, rl_up LS f rs = some rs' → gr LS lv h rs gs → gr LS lv' h' rs' gs := by
  intro rs
  induction rs with
  | nil =>
    intro rs' gs hu g
    cases hu
    cases gs with
    | nil => trivial
    | cons _ _ => exact g.elim
  | cons r rs ih =>
    intro rs' gs hu g
    cases gs with
    | nil => exact g.elim
    | cons g0 gs =>
      have hu9 := hu
      unfold rl_up at hu
      split at hu
      · rename_i L rs2 hL hr
        split at hu
        · rename_i r' hr'
          cases hu
          obtain ⟨⟨L2, x, e1, e2, e3⟩, g2⟩ := g
          rw [hL] at e1
          cases e1
          obtain ⟨x', x1, x2⟩ := hf L r r' g0 x hr' e2 e3
          refine ⟨⟨L, x', ?_, x1, x2⟩, ih hr g2⟩
          rw [rl_up_len hr]
          exact hL
        · cases hu
      · cases hu
