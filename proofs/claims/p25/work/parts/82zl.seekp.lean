/-! the search, purely -/
abbrev SQ := Nat × (Nat → Nat) × (Nat → Nat) × (Nat → Int64) × (Nat → Bool)
def qE (x : SQ) (j : Nat) : EP := (128 * x.2.1 j + (64 - x.2.2.1 j), x.2.2.2.1 j)
def qAdd (x : SQ) (M d : Nat) (B : Int64) : SQ := (x.1 + 1, (fun i => if i = x.1 then M else x.2.1 i), (fun i => if i = x.1 then d else x.2.2.1 i), (fun i => if i = x.1 then B else x.2.2.2.1 i), (fun i => if i = x.1 then true else x.2.2.2.2 i))
def qDel (x : SQ) (i : Nat) : SQ := (x.1, x.2.1, x.2.2.1, x.2.2.2.1, (fun j => if j = i then false else x.2.2.2.2 j))
def coN (s : Int32) (t : Bool) : Nat := (coS s t).toInt.toNat
def qS (m : Nat) (S : Nat → Int32) (x : SQ) (i : Nat) : Int32 := ndL m S (bl (x.2.2.2.1 i)) (x.2.2.1 i) 0 0
def qG0 (m : Nat) (S : Nat → Int32) (x : SQ) (i : Nat) : SQ := qAdd (qDel x i) (x.2.1 i + coN (qS m S x i) false) (x.2.2.1 i + 1) (x.2.2.2.1 i)
def qGo (K : Int64) (m : Nat) (S : Nat → Int32) (x : SQ) (i : Nat) : SQ := if bl K (x.2.2.1 i) = true then qAdd (qG0 m S x i) (x.2.1 i + coN (qS m S x i) true) (x.2.2.1 i + 1) (x.2.2.2.1 i ||| bitAt (x.2.2.1 i)) else qG0 m S x i
def qb (x : SQ) : Option Nat := bst (fun j => ((cdE (qE x j) : Nat) : Int)) x.2.2.2.2 x.1
/-- goes on so often at most; how often it went on, and what was found -/
def seekN (K : Int64) (m : Nat) (S : Nat → Int32) (ok : Int64 → Bool) : Nat → Nat → SQ → Nat × Option (Nat × Int64)
  | 0, t, _ => (t, none)
  | n + 1, t, x => match qb x with
    | none => (t, none)
    | some i => if x.2.2.1 i < 2 ^ m then seekN K m S ok n (t + 1) (qGo K m S x i) else if ok (x.2.2.2.1 i) = true then (t + 1, some (x.2.1 i, x.2.2.2.1 i)) else seekN K m S ok n (t + 1) (qDel x i)
def q_0 : SQ := qAdd (0, (fun _ => 0), (fun _ => 0), (fun _ => 0), fun _ => false) 0 0 0
theorem coN_e {s : Int32} {t : Bool} (h : inB 8128 s) : coN s t ≤ 8128 ∧ coS s t = nI (coN s t) := by
  have b := coS_b (t := t) h
  unfold coN
  refine ⟨by omega, ?_⟩
  apply Int32.toInt_inj.mp
  rw [nI_toInt (by omega)]
  omega
/-- what holds of all that go on -/
def QI (K : Int64) (N : Nat) (x : SQ) : Prop := (∀ j, j < x.1 → x.2.2.2.2 j = true → x.2.2.1 j ≤ N ∧ x.2.1 j ≤ 8128 * x.2.2.1 j ∧ ∀ t, t < 64 → bl (x.2.2.2.1 j) t = true → t < x.2.2.1 j ∧ bl K t = true) ∧ ∀ i j, i < x.1 → j < x.1 → ¬ i = j → x.2.2.2.2 i = true → x.2.2.2.2 j = true → ∃ t, t < x.2.2.1 i ∧ t < x.2.2.1 j ∧ ¬ bl (x.2.2.2.1 i) t = bl (x.2.2.2.1 j) t
theorem QI_del {K : Int64} {N i : Nat} {x : SQ} (h : QI K N x) : QI K N (qDel x i) := by
  have lv : ∀ j, (qDel x i).2.2.2.2 j = true → x.2.2.2.2 j = true := fun j z => by
    have z : (if j = i then false else x.2.2.2.2 j) = true := z
    by_cases e : j = i
    · rw [if_pos e] at z
      cases z
    · rw [if_neg e] at z
      exact z
  exact ⟨fun j hj z => h.1 j hj (lv j z), fun a b ha hb hab za zb => h.2 a b ha hb hab (lv a za) (lv b zb)⟩
theorem QI_add {K : Int64} {N M d : Nat} {B : Int64} {x : SQ} (h : QI K N x) (h1 : d ≤ N) (h2 : M ≤ 8128 * d) (h3 : ∀ t, t < 64 → bl B t = true → t < d ∧ bl K t = true) (h4 : ∀ j, j < x.1 → x.2.2.2.2 j = true → ∃ t, t < x.2.2.1 j ∧ t < d ∧ ¬ bl (x.2.2.2.1 j) t = bl B t) : QI K N (qAdd x M d B) := by
  have nw : (qAdd x M d B).2.1 x.1 = M ∧ (qAdd x M d B).2.2.1 x.1 = d ∧ (qAdd x M d B).2.2.2.1 x.1 = B := ⟨if_pos rfl, if_pos rfl, if_pos rfl⟩
  have od : ∀ j, ¬ j = x.1 → (qAdd x M d B).2.1 j = x.2.1 j ∧ (qAdd x M d B).2.2.1 j = x.2.2.1 j ∧ (qAdd x M d B).2.2.2.1 j = x.2.2.2.1 j ∧ (qAdd x M d B).2.2.2.2 j = x.2.2.2.2 j := fun j e => ⟨if_neg e, if_neg e, if_neg e, if_neg e⟩
  refine ⟨fun j hj z => ?_, fun a b ha hb hab za zb => ?_⟩
  · have hj : j < x.1 + 1 := hj
    by_cases e : j = x.1
    · subst e
      rw [nw.1, nw.2.1, nw.2.2]
      exact ⟨h1, h2, h3⟩
    · obtain ⟨o1, o2, o3, o4⟩ := od j e
      rw [o4] at z
      rw [o1, o2, o3]
      exact h.1 j (by omega) z
  · have ha : a < x.1 + 1 := ha
    have hb : b < x.1 + 1 := hb
    by_cases e : a = x.1
    · have e2 : ¬ b = x.1 := by omega
      obtain ⟨o1, o2, o3, o4⟩ := od b e2
      rw [o4] at zb
      rw [e, nw.2.1, nw.2.2, o2, o3]
      obtain ⟨t, t1, t2, t3⟩ := h4 b (by omega) zb
      exact ⟨t, t2, t1, fun z => t3 z.symm⟩
    · obtain ⟨o1, o2, o3, o4⟩ := od a e
      rw [o4] at za
      rw [o2, o3]
      by_cases e2 : b = x.1
      · rw [e2, nw.2.1, nw.2.2]
        exact h4 a (by omega) za
      · obtain ⟨p1, p2, p3, p4⟩ := od b e2
        rw [p4] at zb
        rw [p2, p3]
        exact h.2 a b (by omega) (by omega) hab za zb
theorem QI_0 {K : Int64} {N : Nat} : QI K N q_0 := by
  have e : QI K N ((0, (fun _ => 0), (fun _ => 0), (fun _ => 0), fun _ => false) : SQ) := ⟨fun j hj => absurd hj (Nat.not_lt_zero j), fun i j hi => absurd hi (Nat.not_lt_zero i)⟩
  exact QI_add e (Nat.zero_le _) (Nat.zero_le _) (fun t ht z => by rw [bl_0 t ht] at z; cases z) (fun j hj => absurd hj (Nat.not_lt_zero j))
theorem qE_inj {K : Int64} {N : Nat} {x : SQ} (h : QI K N x) {i j : Nat} (hi : i < x.1) (hj : j < x.1) (li : x.2.2.2.2 i = true) (lj : x.2.2.2.2 j = true) (he : qE x i = qE x j) : i = j := by
  by_cases e : i = j
  · exact e
  · obtain ⟨t, -, -, t3⟩ := h.2 i j hi hj e li lj
    have : x.2.2.2.1 i = x.2.2.2.1 j := (Prod.mk.inj he).2
    exact absurd (by rw [this]) t3
theorem QI_g0 {K : Int64} {m i : Nat} {S : Nat → Int32} {x : SQ} (hm : m ≤ 6) (hS : ∀ s, s < 64 → -127 ≤ (S s).toInt ∧ (S s).toInt ≤ 127) (h : QI K (2 ^ m) x) (hi : i < x.1) (li : x.2.2.2.2 i = true) (hd : x.2.2.1 i < 2 ^ m) : QI K (2 ^ m) (qG0 m S x i) := by
  obtain ⟨a1, a2, a3⟩ := h.1 i hi li
  have c := (coN_e (t := false) (ndL_b0 hm hS (u := bl (x.2.2.2.1 i)) (c := x.2.2.1 i) (l := 0) (j := 0) (Nat.zero_le m) (by decide))).1
  refine QI_add (QI_del h) (by omega) ?_ (fun t ht z => ?_) (fun j hj lj => ?_)
  · show x.2.1 i + coN (ndL m S (bl (x.2.2.2.1 i)) (x.2.2.1 i) 0 0) false ≤ _
    omega
  · have := a3 t ht z
    exact ⟨by omega, this.2⟩
  · have z : (if j = i then false else x.2.2.2.2 j) = true := lj
    by_cases e : j = i
    · rw [if_pos e] at z
      cases z
    · rw [if_neg e] at z
      obtain ⟨t, t1, t2, t3⟩ := h.2 j i hj hi e z li
      exact ⟨t, t1, by omega, t3⟩
theorem QI_go {K : Int64} {m i : Nat} {S : Nat → Int32} {x : SQ} (hm : m ≤ 6) (hS : ∀ s, s < 64 → -127 ≤ (S s).toInt ∧ (S s).toInt ≤ 127) (h : QI K (2 ^ m) x) (hi : i < x.1) (li : x.2.2.2.2 i = true) (hd : x.2.2.1 i < 2 ^ m) : QI K (2 ^ m) (qGo K m S x i) := by
  have g := QI_g0 hm hS h hi li hd
  have p6 := pw_6 m (by omega)
  unfold qGo
  by_cases hk : bl K (x.2.2.1 i) = true
  · rw [if_pos hk]
    obtain ⟨a1, a2, a3⟩ := h.1 i hi li
    have c := (coN_e (t := true) (ndL_b0 hm hS (u := bl (x.2.2.2.1 i)) (c := x.2.2.1 i) (l := 0) (j := 0) (Nat.zero_le m) (by decide))).1
    have d6 : x.2.2.1 i < 64 := by omega
    refine QI_add g (by omega) ?_ (fun t ht z => ?_) (fun j hj lj => ?_)
    · show x.2.1 i + coN (ndL m S (bl (x.2.2.2.1 i)) (x.2.2.1 i) 0 0) true ≤ _
      omega
    · rw [bl_or, bitAt_bl d6 ht] at z
      by_cases e : t = x.2.2.1 i
      · rw [e]
        exact ⟨by omega, hk⟩
      · rw [decide_eq_false e, Bool.or_false] at z
        have := a3 t ht z
        exact ⟨by omega, this.2⟩
    · have hj : j < x.1 + 1 := hj
      by_cases e : j = x.1
      · have e1 : (qG0 m S x i).2.2.1 j = x.2.2.1 i + 1 := if_pos e
        have e2 : (qG0 m S x i).2.2.2.1 j = x.2.2.2.1 i := if_pos e
        rw [e1, e2]
        refine ⟨x.2.2.1 i, by omega, by omega, fun z => ?_⟩
        rw [bl_or, bitAt_bl d6 d6, decide_eq_true rfl, Bool.or_true] at z
        have := a3 _ d6 z
        omega
      · have e1 : (qG0 m S x i).2.2.1 j = x.2.2.1 j := if_neg e
        have e2 : (qG0 m S x i).2.2.2.1 j = x.2.2.2.1 j := if_neg e
        have e3 : (qG0 m S x i).2.2.2.2 j = if j = i then false else x.2.2.2.2 j := if_neg e
        rw [e3] at lj
        rw [e1, e2]
        by_cases ei : j = i
        · rw [if_pos ei] at lj
          cases lj
        · rw [if_neg ei] at lj
          obtain ⟨t, t1, t2, t3⟩ := h.2 j i (by omega) hi ei lj li
          refine ⟨t, t1, by omega, fun z => t3 (z.trans ?_)⟩
          rw [bl_or, bitAt_bl d6 (by omega), decide_eq_false (by omega), Bool.or_false]
  · rw [if_neg hk]
    exact g
theorem qb_p {x : SQ} {b : Nat} (h : qb x = some b) : b < x.1 ∧ x.2.2.2.2 b = true ∧ ∀ j, j < x.1 → x.2.2.2.2 j = true → cdE (qE x b) ≤ cdE (qE x j) := by
  have bp := bst_p (K := fun j => ((cdE (qE x j) : Nat) : Int)) (L := x.2.2.2.2) x.1
  unfold qb at h
  rw [h] at bp
  obtain ⟨b1, b2, b3⟩ := bp
  refine ⟨b1, b2, fun j hj lj => ?_⟩
  have := b3 j hj lj
  rcases this with z | z
  · exact Int.ofNat_le.mp (Int.le_of_lt z)
  · exact Int.ofNat_le.mp (Int.le_of_eq z.1)
theorem qb_n {x : SQ} (h : qb x = none) : ∀ j, j < x.1 → x.2.2.2.2 j = false := by
  have bp := bst_p (K := fun j => ((cdE (qE x j) : Nat) : Int)) (L := x.2.2.2.2) x.1
  unfold qb at h
  rw [h] at bp
  exact bp
/-! a heap of the same -/
def SR (D : Nat → EP) (n : Nat) (x : SQ) : Prop := injE D n ∧ ∀ e, (∃ i, i < n ∧ D i = e) ↔ ∃ j, j < x.1 ∧ x.2.2.2.2 j = true ∧ qE x j = e
theorem SR_top {D : Nat → EP} {n b : Nat} {x : SQ} (hh : heap D n) (hs : SR D n x) (hb : qb x = some b) : 0 < n ∧ D 0 = qE x b := by
  obtain ⟨b1, b2, b3⟩ := qb_p hb
  obtain ⟨i, i1, i2⟩ := (hs.2 (qE x b)).mpr ⟨b, b1, b2, rfl⟩
  have h0 := heap_0 hh i i1
  obtain ⟨j, j1, j2, j3⟩ := (hs.2 (D 0)).mp ⟨0, by omega, rfl⟩
  have h1 := b3 j j1 j2
  refine ⟨by omega, cd_inj ?_⟩
  rw [j3] at h1
  rw [i2] at h0
  omega
theorem SR_0 {D : Nat → EP} {n : Nat} {x : SQ} (hs : SR D n x) (hb : qb x = none) : n = 0 := by
  by_cases e : n = 0
  · exact e
  · obtain ⟨j, j1, j2, -⟩ := (hs.2 (D 0)).mp ⟨0, by omega, rfl⟩
    rw [qb_n hb j j1] at j2
    cases j2
theorem SR_sam {D D' : Nat → EP} {n : Nat} {x : SQ} (hs : SR D n x) (h : sam D D' n) : SR D' n x := ⟨h.2 hs.1, fun e => (h.1 e).trans (hs.2 e)⟩
/-- the first is gone: the last lies there -/
theorem SR_del {K : Int64} {N : Nat} {D E : Nat → EP} {n b : Nat} {x : SQ} (hq : QI K N x) (hs : SR D (n + 1) x) (hb : b < x.1) (lb : x.2.2.2.2 b = true) (h0 : D 0 = qE x b) (e0 : E 0 = D n) (eo : ∀ i, 0 < i → i < n → E i = D i) : SR E n (qDel x b) := by
  have eE : ∀ i, i < n → ∃ j, 0 < j ∧ j < n + 1 ∧ E i = D j ∧ (i = 0 → j = n) ∧ (0 < i → j = i) := fun i hi => by
    by_cases z : i = 0
    · subst z
      exact ⟨n, by omega, by omega, e0, fun _ => rfl, fun y => absurd y (by omega)⟩
    · exact ⟨i, by omega, by omega, eo i (by omega) hi, fun y => absurd y z, fun _ => rfl⟩
  refine ⟨fun i j hi hj he => ?_, fun e => ⟨fun h => ?_, fun h => ?_⟩⟩
  · obtain ⟨p, p1, p2, p3, p4, p5⟩ := eE i hi
    obtain ⟨q, q1, q2, q3, q4, q5⟩ := eE j hj
    have := hs.1 p q p2 q2 (p3.symm.trans (he.trans q3))
    by_cases z1 : i = 0 <;> by_cases z2 : j = 0
    · omega
    · have := p4 z1
      have := q5 (by omega)
      omega
    · have := q4 z2
      have := p5 (by omega)
      omega
    · have := p5 (by omega)
      have := q5 (by omega)
      omega
  · obtain ⟨i, i1, i2⟩ := h
    obtain ⟨p, p1, p2, p3, -⟩ := eE i i1
    obtain ⟨j, j1, j2, j3⟩ := (hs.2 (D p)).mp ⟨p, p2, rfl⟩
    refine ⟨j, j1, ?_, ?_⟩
    · show (if j = b then false else x.2.2.2.2 j) = true
      rw [if_neg (fun z => ?_)]
      · exact j2
      · subst z
        have := hs.1 0 p (by omega) p2 (h0.trans j3)
        omega
    · show qE x j = e
      rw [j3, ← p3, i2]
  · obtain ⟨j, j1, j2, j3⟩ := h
    have j2 : (if j = b then false else x.2.2.2.2 j) = true := j2
    have j3 : qE x j = e := j3
    by_cases z : j = b
    · rw [if_pos z] at j2
      cases j2
    · rw [if_neg z] at j2
      obtain ⟨i, i1, i2⟩ := (hs.2 e).mpr ⟨j, j1, j2, j3⟩
      have i0 : ¬ i = 0 := fun y => by
        subst y
        exact z (qE_inj hq j1 hb j2 lb (j3.trans (i2.symm.trans h0)))
      by_cases en : i = n
      · subst en
        exact ⟨0, by omega, e0.trans i2⟩
      · exact ⟨i, by omega, (eo i (by omega) (by omega)).trans i2⟩
/-- one more, behind all -/
theorem SR_add {K : Int64} {N M d : Nat} {B : Int64} {D E : Nat → EP} {n : Nat} {x : SQ} (hq : QI K N (qAdd x M d B)) (hs : SR D n x) (e0 : E n = (128 * M + (64 - d), B)) (eo : ∀ i, i < n → E i = D i) : SR E (n + 1) (qAdd x M d B) := by
  have nw : qE (qAdd x M d B) x.1 = (128 * M + (64 - d), B) := by
    unfold qE
    rw [show (qAdd x M d B).2.1 x.1 = M from if_pos rfl, show (qAdd x M d B).2.2.1 x.1 = d from if_pos rfl, show (qAdd x M d B).2.2.2.1 x.1 = B from if_pos rfl]
  have lw : (qAdd x M d B).2.2.2.2 x.1 = true := if_pos rfl
  have od : ∀ j, ¬ j = x.1 → qE (qAdd x M d B) j = qE x j ∧ (qAdd x M d B).2.2.2.2 j = x.2.2.2.2 j := fun j z => by
    unfold qE
    rw [show (qAdd x M d B).2.1 j = x.2.1 j from if_neg z, show (qAdd x M d B).2.2.1 j = x.2.2.1 j from if_neg z, show (qAdd x M d B).2.2.2.1 j = x.2.2.2.1 j from if_neg z, show (qAdd x M d B).2.2.2.2 j = x.2.2.2.2 j from if_neg z]
    exact ⟨rfl, rfl⟩
  have no : ∀ i, i < n → ¬ D i = (128 * M + (64 - d), B) := fun i hi z => by
    obtain ⟨j, j1, j2, j3⟩ := (hs.2 (D i)).mp ⟨i, hi, rfl⟩
    have y := od j (by omega)
    have := qE_inj hq (i := j) (j := x.1) (show j < x.1 + 1 by omega) (show x.1 < x.1 + 1 by omega) (y.2.trans j2) lw (y.1.trans (j3.trans (z.trans nw.symm)))
    omega
  refine ⟨fun i j hi hj he => ?_, fun e => ⟨fun h => ?_, fun h => ?_⟩⟩
  · by_cases z1 : i = n <;> by_cases z2 : j = n
    · omega
    · rw [z1, e0, eo j (by omega)] at he
      exact absurd he.symm (no j (by omega))
    · rw [z2, e0, eo i (by omega)] at he
      exact absurd he (no i (by omega))
    · rw [eo i (by omega), eo j (by omega)] at he
      exact hs.1 i j (by omega) (by omega) he
  · obtain ⟨i, i1, i2⟩ := h
    by_cases z : i = n
    · subst z
      exact ⟨x.1, Nat.lt_succ_self _, lw, nw.trans (e0.symm.trans i2)⟩
    · obtain ⟨j, j1, j2, j3⟩ := (hs.2 e).mp ⟨i, by omega, (eo i (by omega)).symm.trans i2⟩
      have y := od j (by omega)
      exact ⟨j, show j < x.1 + 1 by omega, y.2.trans j2, y.1.trans j3⟩
  · obtain ⟨j, j1, j2, j3⟩ := h
    have j1 : j < x.1 + 1 := j1
    by_cases z : j = x.1
    · subst z
      exact ⟨n, by omega, e0.trans (nw.symm.trans j3)⟩
    · have y := od j z
      obtain ⟨i, i1, i2⟩ := (hs.2 e).mpr ⟨j, by omega, y.2.symm.trans j2, y.1.symm.trans j3⟩
      exact ⟨i, by omega, (eo i i1).trans i2⟩
theorem seekN_t {K : Int64} {m : Nat} {S : Nat → Int32} {ok : Int64 → Bool} : ∀ n t x, (seekN K m S ok n t x).1 ≤ t + n
  | 0, t, x => Nat.le_refl _
  | n + 1, t, x => by
    rw [seekN]
    split
    · exact Nat.le_add_right _ _
    · split
      · have := seekN_t (K := K) (m := m) (S := S) (ok := ok) n (t + 1) (qGo K m S x ‹_›)
        omega
      · split
        · show t + 1 ≤ _
          omega
        · have := seekN_t (K := K) (m := m) (S := S) (ok := ok) n (t + 1) (qDel x ‹_›)
          omega
