/-! WALKS WITH AN END THAT IS ASKED FOR (several ends), determinism, what a summary gives of a walk -/
def GoP (T : List PmM) (xs : PmX) (es : List PmI) (j : Nat) (lv : PmL) (st : List Value) (h : PmH) (Q : Option Value × PmH → Prop) : Prop := ∃ r, Go T xs es j lv st h r ∧ Q r
def EvP (y : Nat) (as : List Value) (h : PmH) (Q : Option Value × PmH → Prop) : Prop := ∃ r : Option Value × PmH, Ev pmT y as h r.1 r.2 ∧ Q r
section GP
variable {T : List PmM} {xs : PmX} {es : List PmI} {j j' : Nat} {lv lv' : PmL} {st st' : List Value} {h h' : PmH} {Q : Option Value × PmH → Prop}
theorem gp_of (f : ∀ r, Go T xs es j' lv' st' h' r → Go T xs es j lv st h r) (g : GoP T xs es j' lv' st' h' Q) : GoP T xs es j lv st h Q := by
  obtain ⟨r, a, b⟩ := g
  exact ⟨r, f r a, b⟩
theorem gp_n (n : Nat) (hz : pm_ns xs es n (j, lv, st, h) = some (j', lv', st', h')) (g : GoP T xs es j' lv' st' h' Q) : GoP T xs es j lv st h Q := gp_of (fun _ k => g_n n hz k) g
theorem gp_done {r : Option Value × PmH} (g : Go T xs es j lv st h r) (q : Q r) : GoP T xs es j lv st h Q := ⟨r, g, q⟩
theorem go_of {r : Option Value × PmH} (g : GoP T xs es j lv st h (fun r' => r' = r)) : Go T xs es j lv st h r := by
  obtain ⟨r', a, b⟩ := g
  subst b
  exact a
theorem gp_mono {Q' : Option Value × PmH → Prop} (hq : ∀ r, Q' r → Q r) (g : GoP T xs es j lv st h Q') : GoP T xs es j lv st h Q := by
  obtain ⟨r, a, b⟩ := g
  exact ⟨r, a, hq r b⟩
theorem gp_if {pc n a c d q : Nat} {v : Int} {ts : List Nat} {cc : Jvm.ClassFile.Cond} {off : Int} {x : Int32} (he : es[j]? = some (pc, n, .ifCond cc off, a, c, d, q, v, ts)) (kt : pm_cp cc x 0 → GoP T xs es a lv st h Q) (kf : ¬ pm_cp cc x 0 → GoP T xs es (j + 1) lv st h Q) : GoP T xs es j lv (.int x :: st) h Q := by
  by_cases hc : pm_cp cc x 0
  · exact gp_of (fun _ k => g_ift he hc k) (kt hc)
  · exact gp_of (fun _ k => g_iff he hc k) (kf hc)
theorem gp_ic {pc n a c d q : Nat} {v : Int} {ts : List Nat} {cc : Jvm.ClassFile.Cond} {off : Int} {x y : Int32} (he : es[j]? = some (pc, n, .if_icmp cc off, a, c, d, q, v, ts)) (kt : pm_cp cc x y → GoP T xs es a lv st h Q) (kf : ¬ pm_cp cc x y → GoP T xs es (j + 1) lv st h Q) : GoP T xs es j lv (.int y :: .int x :: st) h Q := by
  by_cases hc : pm_cp cc x y
  · exact gp_of (fun _ k => g_ict he hc k) (kt hc)
  · exact gp_of (fun _ k => g_icf he hc k) (kf hc)
end GP
theorem phi_mk {S : List (Nat × Nat)} {fi : Nat → Nat → Int32} {fl : Nat → Nat → Int64} {fr : Nat → Nat → Option Nat} {p s : Nat} : ph_i (S, fi, fl, fr) p s = fi p s := rfl
theorem phl_mk {S : List (Nat × Nat)} {fi : Nat → Nat → Int32} {fl : Nat → Nat → Int64} {fr : Nat → Nat → Option Nat} {p s : Nat} : ph_l (S, fi, fl, fr) p s = fl p s := rfl
theorem EvP.of {y ml : Nat} {as : List Value} {es : List PmI} {lv : PmL} {h : PmH} {Q : Option Value × PmH → Prop} (h1 : pm_cd pmT y = es) (h2 : pm_ml pmT y = ml) (h3 : pm_en ml as = lv) (k : GoP pmT none es 0 lv [] h Q) : EvP y as h Q := by
  obtain ⟨r, a, b⟩ := k
  exact ⟨r, Ev.of h1 h2 h3 a, b⟩
theorem EvP.mono {y : Nat} {as : List Value} {h : PmH} {Q Q' : Option Value × PmH → Prop} (hq : ∀ r, Q' r → Q r) (e : EvP y as h Q') : EvP y as h Q := by
  obtain ⟨r, a, b⟩ := e
  exact ⟨r, a, hq r b⟩
theorem go_det {T : List PmM} {xs : PmX} {es : List PmI} {j : Nat} {lv : PmL} {st : List Value} {h : PmH} {r r' : Option Value × PmH} (a : Go T xs es j lv st h r) (b : Go T xs es j lv st h r') : r = r' := by
  obtain ⟨f, hf⟩ := a
  obtain ⟨g, hg⟩ := b
  have h1 := pm_more g hf
  have h2 := pm_more f hg
  rw [Nat.add_comm g f, h1] at h2
  exact Option.some.inj h2
theorem ev_det {T : List PmM} {y : Nat} {as : List Value} {h h' h2 : PmH} {v v2 : Option Value} (a : Ev T y as h v h') (b : Ev T y as h v2 h2) : v = v2 ∧ h' = h2 := by
  have := go_det a b
  exact ⟨congrArg Prod.fst this, congrArg Prod.snd this⟩
/-- what a summary says of arguments, by pieces -/
theorem gz_n {lv : PmL} {h : PmH} : gst lv h [] [] := trivial
theorem gz_c {lv : PmL} {h : PmH} {B : AV} {As : List AV} {v : Value} {st : List Value} (a : gv lv h B v) (b : gst lv h As st) : gst lv h (B :: As) (v :: st) := ⟨a, b⟩
theorem gz_r {lv : PmL} {h : PmH} {p : Nat} {ps : List Nat} (hp : p ∈ ps) : gv lv h (nt (zr ps)) (.ref p) := ⟨p, hp, rfl⟩
theorem gz_a {lv : PmL} {h : PmH} (x : Int32) : gv lv h (nt za) (.int x) := ⟨x, rfl, (i32_in x).1, (i32_in x).2, trivial⟩
theorem gz_i {lv : PmL} {h : PmH} {lo hi : Int} {x : Int32} (h1 : lo ≤ x.toInt) (h2 : x.toInt ≤ hi) : gv lv h (nt (zi lo hi)) (.int x) := ⟨x, rfl, h1, h2, trivial⟩
theorem gz_l {lv : PmL} {h : PmH} (x : Int64) : gv lv h (nt zl) (.long x) := ⟨x, rfl⟩
theorem iv_ev {I : Inst} (hv : iv pmT hdT shT I) {as : List Value} {h : PmH} (ho : in_o I = []) (hg : ∀ (lv : PmL) (h' : PmH), gst lv h' ((in_a I).map nt) as) (hI : HI hdT shT h) : ∃ v h', Ev pmT (in_y I) as h v h' ∧ HI hdT shT h' ∧ fram (in_w I) h h' ∧ ∃ P ∈ in_p I, pv P.1 v := by
  obtain ⟨v, h', e1, ⟨P, P1, P2, -, -⟩, e3, e4⟩ := hv as h hg (by rw [ho]; exact go_nil _) hI
  exact ⟨v, h', e1, e3, e4, P, P1, P2⟩
theorem iv_s {I : Inst} (hv : iv pmT hdT shT I) {as : List Value} {h h' : PmH} {v : Option Value} (ho : in_o I = []) (hg : ∀ (lv : PmL) (h' : PmH), gst lv h' ((in_a I).map nt) as) (hI : HI hdT shT h) (e : Ev pmT (in_y I) as h v h') : HI hdT shT h' ∧ fram (in_w I) h h' := by
  obtain ⟨v2, h2, e1, e2, e3, -⟩ := iv_ev hv ho hg hI
  obtain ⟨-, rfl⟩ := ev_det e e1
  exact ⟨e2, e3⟩
theorem EvP.iv {I : Inst} (hv : iv pmT hdT shT I) {as : List Value} {h : PmH} {Q : Option Value × PmH → Prop} (ho : in_o I = []) (hg : ∀ (lv : PmL) (h' : PmH), gst lv h' ((in_a I).map nt) as) (hI : HI hdT shT h) (e : EvP (in_y I) as h Q) : EvP (in_y I) as h (fun r => Q r ∧ HI hdT shT r.2 ∧ fram (in_w I) h r.2) := by
  obtain ⟨r, a, b⟩ := e
  have := iv_s hv ho hg hI a
  exact ⟨r, a, b, this.1, this.2⟩
/-! THE STATE BOTH OBJECTS HOLD. A vector: levels, N, K, C, POLY, E, LIST; the kept ones; the sums. A state: how long the tape is, its bytes, x, the vector now, how many can be undone, these (0 the last one), images. At the first level (false) kept ones and sums are left aside. -/
abbrev VS : Type := (Nat → Int32) × Int64 × (Nat → Int32)
abbrev AB : Type := Nat × (Nat → Int32) × Int32 × VS × Nat × (Nat → VS) × (Nat → Option VS)
abbrev a_tl (a : AB) : Nat := a.1
abbrev a_tb (a : AB) : Nat → Int32 := a.2.1
abbrev a_x (a : AB) : Int32 := a.2.2.1
abbrev a_v (a : AB) : VS := a.2.2.2.1
abbrev a_q (a : AB) : Nat := a.2.2.2.2.1
abbrev a_p (a : AB) : Nat → VS := a.2.2.2.2.2.1
abbrev a_m (a : AB) : Nat → Option VS := a.2.2.2.2.2.2
/-- a State of the class at o -/
def csC (L : Bool) (h : PmH) (o : Nat) (v : VS) : Prop := (∀ i, i < 7 → ph_i h o i = v.1 i) ∧ (L = true → ph_l h o 7 = v.2.1 ∧ ∀ s, s < 64 → ph_i h (o + 1) s = v.2.2 s)
def sg (j : Nat) : Nat := if j = 0 then 1 else if j = 1 then 0 else j
/-- the model's own -/
def csM (L : Bool) (h : PmH) (v : VS) : Prop := (∀ j, j < 7 → ph_i h 70 (14 + j) = v.1 (sg j)) ∧ (L = true → ph_l h 70 21 = v.2.1 ∧ ∀ s, s < 64 → ph_i h 74 s = v.2.2 s)
/-- a row that the model holds -/
def csH (L : Bool) (h : PmH) (r : Nat) (v : VS) : Prop := (∀ j, j < 7 → ph_i h 91 (72 * r + j) = v.1 (sg j)) ∧ (L = true → ph_l h 92 r = v.2.1 ∧ ∀ s, s < 64 → ph_i h 91 (72 * r + 8 + s) = v.2.2 s)
def pst (e i : Nat) : Nat := 42 + 2 * ((e + 11 - i) % 12)
def QCi (L : Bool) (h : PmH) (a : AB) : Prop := ∀ k, k < 2 → match a_m a k with
  | none => ph_i h 5 k = 0
  | some v => ph_i h 5 k = 1 ∧ csC L h (66 + 2 * k) v
def QMi (L : Bool) (h : PmH) (a : AB) : Prop := ∀ k, k < 2 → match a_m a k with
  | none => ph_i h 93 k = 0
  | some v => ph_i h 93 k = 1 ∧ csH L h (12 + k) v
/-- what never changes of the class's object -/
def QC0 (h : PmH) : Prop := (∀ j, j < 12 → ph_r h 3 j = some (42 + 2 * j)) ∧ (∀ j, j < 2 → ph_r h 4 j = some (66 + 2 * j)) ∧ ∀ s, s < 64 → ph_i h 10 s = 0
def QC (L : Bool) (h : PmH) (a : AB) : Prop := QC0 h ∧ ph_i h 6 1 = nI (a_tl a) ∧ (∀ s, ph_i h 7 s = a_tb a s) ∧ (L = true → ph_i h 0 13 = a_x a) ∧ csC L h 1 (a_v a) ∧ ph_i h 0 3 = nI (a_q a) ∧ (∃ e, e < 12 ∧ ph_i h 0 2 = nI e ∧ ∀ i, i < a_q a → csC L h (pst e i) (a_p a i)) ∧ QCi L h a
def wdM : List Int32 := [115, 105, 122, 101, 0, 107, 101, 101, 112, 0, 105, 110, 102, 111, 0, 99, 104, 101, 99, 107, 101, 114, 97, 115, 101, 108, 105, 115, 116, 0]
def QM0 (h : PmH) : Prop := ∀ i, i < 30 → ph_i h 72 i = wdM.getD i 0
def QM (L : Bool) (h : PmH) (a : AB) : Prop := QM0 h ∧ ph_i h 70 1 = nI (a_tl a) ∧ (∀ s, ph_i h 71 s = a_tb a s) ∧ (L = true → ph_i h 70 23 = a_x a) ∧ csM L h (a_v a) ∧ ph_i h 70 53 = nI (a_q a) ∧ (∀ i, i < a_q a → csH L h (a_q a - 1 - i) (a_p a i)) ∧ QMi L h a
/-- what holds of a state by itself -/
def AOK (a : AB) : Prop := a_tl a ≤ 200 ∧ a_q a ≤ 12 ∧ (∀ s, -128 ≤ (a_tb a s).toInt ∧ (a_tb a s).toInt ≤ 127) ∧ 0 ≤ (a_x a).toInt
def REL (L : Bool) (h : PmH) (a : AB) : Prop := HI hdT shT h ∧ QC L h a ∧ QM L h a ∧ AOK a
/-- cells that the class's part, the model's part don't look at -/
def irC (W : WSt) : Bool := W.all (fun q => decide (70 ≤ q.1) || (decide (8 ≤ q.1) && (decide (q.1 < 42) && decide (q.1 ≠ 10))))
def irM (W : WSt) : Bool := W.all (fun q => decide (q.1 < 70) || ((decide (75 ≤ q.1) && decide (q.1 ≤ 90)) || (decide (q.1 = 73) || (decide (q.1 = 70) && (decide (q.2 = 0) || ((decide (2 ≤ q.2) && decide (q.2 ≤ 13)) || (decide (q.2 = 22) || ((decide (24 ≤ q.2) && decide (q.2 ≤ 52))))))))))
theorem inW_all {W : WSt} {f : Nat × Nat → Bool} (hw : W.all f = true) {p s : Nat} (hf : ∀ c, (c = s ∨ c = 9999) → f (p, c) = false) : inW W p s = false := by
  cases hi : inW W p s with
  | false => rfl
  | true =>
    obtain ⟨q, hq, hq2⟩ := List.any_eq_true.mp hi
    have h1 := List.all_eq_true.mp hw q hq
    simp only [Bool.and_eq_true, Bool.or_eq_true, beq_iff_eq] at hq2
    obtain ⟨p', c⟩ := q
    obtain ⟨rfl, h3⟩ := hq2
    rw [hf c h3] at h1
    cases h1
theorem irC_in {W : WSt} (hw : irC W = true) {p s : Nat} (hp : p < 8 ∨ p = 10 ∨ (42 ≤ p ∧ p < 70)) : inW W p s = false := by
  refine inW_all hw (fun c _ => ?_)
  simp only [Bool.or_eq_false_iff, Bool.and_eq_false_iff, decide_eq_false_iff_not]
  rcases hp with z | z | z
  · exact ⟨by omega, Or.inl (by omega)⟩
  · exact ⟨by omega, Or.inr (Or.inr (by omega))⟩
  · exact ⟨by omega, Or.inr (Or.inl (by omega))⟩
theorem irM_in {W : WSt} (hw : irM W = true) {p s : Nat} (hp : p = 71 ∨ p = 72 ∨ p = 74 ∨ (91 ≤ p) ∨ (p = 70 ∧ (s = 1 ∨ (14 ≤ s ∧ s < 22) ∨ s = 23 ∨ s = 53))) : inW W p s = false := by
  refine inW_all hw (fun c hc => ?_)
  simp only [Bool.or_eq_false_iff, Bool.and_eq_false_iff, decide_eq_false_iff_not]
  rcases hp with z | z | z | z | ⟨z, y⟩
  · exact ⟨by omega, Or.inl (by omega), by omega, Or.inl (by omega)⟩
  · exact ⟨by omega, Or.inl (by omega), by omega, Or.inl (by omega)⟩
  · exact ⟨by omega, Or.inl (by omega), by omega, Or.inl (by omega)⟩
  · refine ⟨by omega, ?_, by omega, Or.inl (by omega)⟩
    by_cases h9 : p ≤ 90
    · omega
    · exact Or.inr h9
  · refine ⟨by omega, Or.inl (by omega), by omega, Or.inr ⟨by omega, ?_, by omega, ?_⟩⟩
    · by_cases h9 : 2 ≤ c
      · exact Or.inr (by omega)
      · exact Or.inl h9
    · by_cases h9 : 24 ≤ c
      · exact Or.inr (by omega)
      · exact Or.inl h9
theorem csC_fr {L : Bool} {h h' : PmH} {o : Nat} {v : VS} (hc : csC L h o v) (e1 : ∀ i, i < 7 → ph_i h' o i = ph_i h o i) (e2 : ph_l h' o 7 = ph_l h o 7) (e3 : ∀ s, s < 64 → ph_i h' (o + 1) s = ph_i h (o + 1) s) : csC L h' o v :=
  ⟨fun i hi => (e1 i hi).trans (hc.1 i hi), fun hL => ⟨e2.trans (hc.2 hL).1, fun s hs => (e3 s hs).trans ((hc.2 hL).2 s hs)⟩⟩
theorem csM_fr {L : Bool} {h h' : PmH} {v : VS} (hc : csM L h v) (e1 : ∀ i, i < 7 → ph_i h' 70 (14 + i) = ph_i h 70 (14 + i)) (e2 : ph_l h' 70 21 = ph_l h 70 21) (e3 : ∀ s, s < 64 → ph_i h' 74 s = ph_i h 74 s) : csM L h' v :=
  ⟨fun i hi => (e1 i hi).trans (hc.1 i hi), fun hL => ⟨e2.trans (hc.2 hL).1, fun s hs => (e3 s hs).trans ((hc.2 hL).2 s hs)⟩⟩
theorem csH_fr {L : Bool} {h h' : PmH} {r : Nat} {v : VS} (hc : csH L h r v) (e1 : ∀ i, i < 7 → ph_i h' 91 (72 * r + i) = ph_i h 91 (72 * r + i)) (e2 : ph_l h' 92 r = ph_l h 92 r) (e3 : ∀ s, s < 64 → ph_i h' 91 (72 * r + 8 + s) = ph_i h 91 (72 * r + 8 + s)) : csH L h' r v :=
  ⟨fun i hi => (e1 i hi).trans (hc.1 i hi), fun hL => ⟨e2.trans (hc.2 hL).1, fun s hs => (e3 s hs).trans ((hc.2 hL).2 s hs)⟩⟩
theorem pst_in {e i : Nat} : 42 ≤ pst e i ∧ pst e i + 1 < 66 := by
  unfold pst
  omega
theorem QC_fr {L : Bool} {W : WSt} {h h' : PmH} {a : AB} (hw : irC W = true) (hf : fram W h h') (hr : QC L h a) : QC L h' a := by
  have e : ∀ p s, (p < 8 ∨ p = 10 ∨ (42 ≤ p ∧ p < 70)) → ph_i h' p s = ph_i h p s ∧ ph_l h' p s = ph_l h p s ∧ ph_r h' p s = ph_r h p s := fun p s hp => hf p s (irC_in hw hp)
  have cc : ∀ o v, (o < 7 ∨ (42 ≤ o ∧ o + 1 < 70)) → csC L h o v → csC L h' o v := fun o v ho hc => csC_fr hc (fun i _ => (e o i (by omega)).1) (e o 7 (by omega)).2.1 (fun s _ => (e (o + 1) s (by omega)).1)
  obtain ⟨⟨a1, a2, a3⟩, b, c, d, f, g, ⟨q, q1, q2, q3⟩, i⟩ := hr
  refine ⟨⟨fun j hj => ((e 3 j (by omega)).2.2).trans (a1 j hj), fun j hj => ((e 4 j (by omega)).2.2).trans (a2 j hj), fun s hs => ((e 10 s (by omega)).1).trans (a3 s hs)⟩, ((e 6 1 (by omega)).1).trans b, fun s => ((e 7 s (by omega)).1).trans (c s), fun hL => ((e 0 13 (by omega)).1).trans (d hL), cc 1 _ (by omega) f, ((e 0 3 (by omega)).1).trans g, ⟨q, q1, ((e 0 2 (by omega)).1).trans q2, fun k hk => cc _ _ (Or.inr ⟨pst_in.1, by have := pst_in (e := q) (i := k); omega⟩) (q3 k hk)⟩, fun k hk => ?_⟩
  have ik := i k hk
  cases hm : a_m a k with
  | none =>
    rw [hm] at ik
    exact ((e 5 k (by omega)).1).trans ik
  | some v =>
    rw [hm] at ik
    exact ⟨((e 5 k (by omega)).1).trans ik.1, cc _ _ (by omega) ik.2⟩
theorem QM_fr {L : Bool} {W : WSt} {h h' : PmH} {a : AB} (hw : irM W = true) (hf : fram W h h') (hr : QM L h a) : QM L h' a := by
  have e : ∀ p s, (p = 71 ∨ p = 72 ∨ p = 74 ∨ (91 ≤ p) ∨ (p = 70 ∧ (s = 1 ∨ (14 ≤ s ∧ s < 22) ∨ s = 23 ∨ s = 53))) → ph_i h' p s = ph_i h p s ∧ ph_l h' p s = ph_l h p s ∧ ph_r h' p s = ph_r h p s := fun p s hp => hf p s (irM_in hw hp)
  obtain ⟨a1, b, c, d, f, g, q, i⟩ := hr
  have ch : ∀ r v, csH L h r v → csH L h' r v := fun r v hc => csH_fr hc (fun j _ => (e 91 _ (by omega)).1) (e 92 r (by omega)).2.1 (fun s _ => (e 91 _ (by omega)).1)
  refine ⟨fun j hj => ((e 72 j (by omega)).1).trans (a1 j hj), ((e 70 1 (by omega)).1).trans b, fun s => ((e 71 s (by omega)).1).trans (c s), fun hL => ((e 70 23 (by omega)).1).trans (d hL), csM_fr f (fun j hj => (e 70 (14 + j) (by omega)).1) (e 70 21 (by omega)).2.1 (fun s _ => (e 74 s (by omega)).1), ((e 70 53 (by omega)).1).trans g, fun k hk => ch _ _ (q k hk), fun k hk => ?_⟩
  have ik := i k hk
  cases hm : a_m a k with
  | none =>
    rw [hm] at ik
    exact ((e 93 k (by omega)).1).trans ik
  | some v =>
    rw [hm] at ik
    exact ⟨((e 93 k (by omega)).1).trans ik.1, ch _ _ ik.2⟩
