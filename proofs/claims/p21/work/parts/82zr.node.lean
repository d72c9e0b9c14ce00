/-! WORK: nodes cut short, purely -/
theorem bfN_last : ∀ (n l : Nat) (f : Nat → Bool), bfN l (n + 1) f = bfl (l + n) (bfN l n f)
  | 0, _, _ => rfl
  | n + 1, l, f => by
    show bfN (l + 1) (n + 1) (bfl l f) = bfl (l + (n + 1)) (bfN (l + 1) n (bfl l f))
    rw [bfN_last n (l + 1) (bfl l f), show l + 1 + n = l + (n + 1) by omega]
theorem tb_add {t a l : Nat} (h : ∃ b, a = 2 ^ (l + 1) * b) : (t + a).testBit l = t.testBit l := by
  obtain ⟨b, rfl⟩ := h
  rw [Nat.testBit_eq_decide_div_mod_eq, Nat.testBit_eq_decide_div_mod_eq, Nat.pow_succ, Nat.mul_assoc, Nat.add_mul_div_left _ _ (Nat.two_pow_pos l), Nat.add_mul_mod_self_left]
theorem bfl_sh {l a : Nat} {f : Nat → Bool} (h : ∃ b, a = 2 ^ (l + 1) * b) (t : Nat) : bfl l f (t + a) = bfl l (fun s => f (s + a)) t := by
  unfold bfl
  rw [tb_add h, show t + a + 2 ^ l = t + 2 ^ l + a by omega]
theorem bfN_sh : ∀ (n l : Nat) {a : Nat} {f : Nat → Bool}, (∃ b, a = 2 ^ (l + n) * b) → ∀ t, bfN l n f (t + a) = bfN l n (fun s => f (s + a)) t
  | 0, _, _, _, _, _ => rfl
  | n + 1, l, a, f, h, t => by
    show bfN (l + 1) n (bfl l f) (t + a) = bfN (l + 1) n (bfl l fun s => f (s + a)) t
    obtain ⟨b, hb⟩ := h
    rw [bfN_sh n (l + 1) ⟨b, by rw [hb, show l + (n + 1) = l + 1 + n by omega]⟩]
    congr 1
    funext s
    exact bfl_sh ⟨2 ^ n * b, by rw [hb, show l + (n + 1) = (l + 1) + n by omega, Nat.pow_add, Nat.mul_assoc]⟩ s
theorem tb_q : ∀ q, q < 7 → ∀ l, l < q → ∀ t, t < 2 ^ q → t.testBit l = false → t + 2 ^ l < 2 ^ q := by decide +kernel
theorem bfN_lc {q : Nat} (hq : q < 7) : ∀ (n l : Nat) {f g : Nat → Bool}, l + n ≤ q → (∀ s, s < 2 ^ q → f s = g s) → ∀ t, t < 2 ^ q → bfN l n f t = bfN l n g t
  | 0, _, _, _, _, h, t, ht => h t ht
  | n + 1, l, f, g, hl, h, t, ht => by
    show bfN (l + 1) n (bfl l f) t = bfN (l + 1) n (bfl l g) t
    refine bfN_lc hq n (l + 1) (by omega) (fun s hs => ?_) t ht
    unfold bfl
    cases e : s.testBit l
    · rw [if_neg (by decide), if_neg (by decide), h s hs, h (s + 2 ^ l) (tb_q q hq l (by omega) s hs e)]
    · rw [if_pos rfl, if_pos rfl, h s hs]
theorem tb_lo {t q : Nat} (h : t < 2 ^ q) : t.testBit q = false := Nat.testBit_lt_two_pow h
theorem tb_hi {t q : Nat} (h : t < 2 ^ q) : (t + 2 ^ q).testBit q = true := by
  rw [Nat.testBit_eq_decide_div_mod_eq, Nat.add_div_right _ (Nat.two_pow_pos q), Nat.div_eq_of_lt h]
  rfl
theorem bf_lo {q t : Nat} {f : Nat → Bool} (ht : t < 2 ^ q) : bfN 0 (q + 1) f t = bfN 0 q (fun s => f s ^^ f (s + 2 ^ q)) t := by
  rw [bfN_last, Nat.zero_add]
  unfold bfl
  rw [tb_lo ht, if_neg (by decide), bfN_x, bfN_sh q 0 ⟨1, by rw [Nat.zero_add, Nat.mul_one]⟩]
theorem bf_hi {q t : Nat} {f : Nat → Bool} (ht : t < 2 ^ q) : bfN 0 (q + 1) f (t + 2 ^ q) = bfN 0 q (fun s => f (s + 2 ^ q)) t := by
  rw [bfN_last, Nat.zero_add]
  unfold bfl
  rw [tb_hi ht, if_pos rfl, bfN_sh q 0 ⟨1, by rw [Nat.zero_add, Nat.mul_one]⟩]
theorem bf_inv : ∀ (q : Nat), q < 7 → ∀ (f : Nat → Bool) (t : Nat), t < 2 ^ q → bfN 0 q (bfN 0 q f) t = f t
  | 0, _, _, _, _ => rfl
  | q + 1, hq, f, t, ht => by
    rw [Nat.pow_succ] at ht
    by_cases h : t < 2 ^ q
    · rw [bf_lo h]
      rw [bfN_lc (q := q) (by omega) q 0 (g := bfN 0 q f) (by omega) (fun s hs => ?_) t h]
      · exact bf_inv q (by omega) f t h
      · rw [bf_lo hs, bf_hi hs, bfN_x]
        cases bfN 0 q f s <;> cases bfN 0 q (fun s => f (s + 2 ^ q)) s <;> rfl
    · obtain ⟨s, rfl⟩ : ∃ s, t = s + 2 ^ q := ⟨t - 2 ^ q, by omega⟩
      have hs : s < 2 ^ q := by omega
      rw [bf_hi hs, bfN_lc (q := q) (by omega) q 0 (g := bfN 0 q (fun s => f (s + 2 ^ q))) (by omega) (fun r hr => bf_hi hr) s hs]
      exact bf_inv q (by omega) (fun s => f (s + 2 ^ q)) s hs
theorem bfN_z : ∀ (n l t : Nat), bfN l n (fun _ => false) t = false
  | 0, _, _ => rfl
  | n + 1, l, t => by
    show bfN (l + 1) n (bfl l fun _ => false) t = false
    have : (bfl l fun _ => false) = fun _ => false := by
      funext s
      unfold bfl
      split <;> rfl
    rw [this]
    exact bfN_z n (l + 1) t
/-! sums of penalties -/
def fsm (f : Nat → Int32) : Nat → Int32
  | 0 => 0
  | n + 1 => fsm f n + f n
theorem fsm_cg {f g : Nat → Int32} : ∀ n, (∀ i, i < n → f i = g i) → fsm f n = fsm g n
  | 0, _ => rfl
  | n + 1, h => by rw [fsm, fsm, fsm_cg n (fun i hi => h i (by omega)), h n (by omega)]
theorem i4 (a b c d : Int32) : a + b + (c + d) = a + c + (b + d) := by rw [Int32.add_assoc, ← Int32.add_assoc b, Int32.add_comm b c, Int32.add_assoc c, ← Int32.add_assoc a]
theorem fsm_ad {f g : Nat → Int32} : ∀ n, fsm (fun i => f i + g i) n = fsm f n + fsm g n
  | 0 => rfl
  | n + 1 => by
    rw [fsm, fsm, fsm, fsm_ad n]
    exact i4 _ _ _ _
theorem fsm_2 {f : Nat → Int32} {a : Nat} : ∀ n, fsm f (a + n) = fsm f a + fsm (fun i => f (i + a)) n
  | 0 => (Int32.add_zero _).symm
  | n + 1 => by
    show fsm f (a + n) + f (a + n) = _
    rw [fsm_2 n, fsm, Int32.add_assoc, Nat.add_comm a n]
theorem ab_i {a : Int32} (h : inB 100000 a) : (abS a).toInt = if a.toInt < 0 then -a.toInt else a.toInt := by
  unfold inB at h
  have e := i_neg (a := a) (by omega)
  unfold abS
  by_cases z : a < 0
  · have z2 : a.toInt < 0 := Int32.lt_iff_toInt_lt.mp z
    rw [if_pos z, if_pos z2]
    exact e
  · have z2 : ¬ a.toInt < 0 := fun y => z (Int32.lt_iff_toInt_lt.mpr y)
    rw [if_neg z, if_neg z2]
theorem mi_i {a b : Int32} : (miS a b).toInt = if a.toInt ≤ b.toInt then a.toInt else b.toInt := by
  unfold miS
  by_cases z : a ≤ b
  · rw [if_pos z, if_pos (Int32.le_iff_toInt_le.mp z)]
  · rw [if_neg z, if_neg (fun y => z (Int32.le_iff_toInt_le.mpr y))]
theorem ls_i {a b : Int32} (ha : inB 100000 a) (hb : inB 100000 b) : (lSm a b).toInt = if (a.toInt < 0 ↔ b.toInt < 0) then (miS (abS a) (abS b)).toInt else -(miS (abS a) (abS b)).toInt := by
  have h1 := ab_i ha
  have h2 := ab_i hb
  have h3 := mi_i (a := abS a) (b := abS b)
  unfold inB at ha hb
  have z0 : (0 : Int32).toInt = 0 := rfl
  have b3 : -2147483648 < (miS (abS a) (abS b)).toInt := by
    rw [h3, h1, h2]
    split <;> split <;> omega
  have e := i_neg (a := miS (abS a) (abS b)) b3
  unfold lSm
  have da : decide (a < 0) = decide (a.toInt < 0) := decide_eq_decide.mpr Int32.lt_iff_toInt_lt
  have db : decide (b < 0) = decide (b.toInt < 0) := decide_eq_decide.mpr Int32.lt_iff_toInt_lt
  rw [da, db]
  by_cases z : (a.toInt < 0 ↔ b.toInt < 0)
  · rw [if_pos (decide_eq_decide.mpr z), if_pos z]
  · rw [if_neg (fun y => z (decide_eq_decide.mp y)), if_neg z]
    exact e
theorem co_i {a : Int32} (h : inB 100000 a) : (coS a false).toInt = if a.toInt < 0 then -a.toInt else 0 := by
  unfold inB at h
  have e := i_neg (a := a) (by omega)
  show (if a < 0 then -a else 0 : Int32).toInt = _
  by_cases z : a < 0
  · rw [if_pos z, if_pos (show a.toInt < 0 from Int32.lt_iff_toInt_lt.mp z)]
    exact e
  · rw [if_neg z, if_neg (show ¬ a.toInt < 0 from fun y => z (Int32.lt_iff_toInt_lt.mpr y))]
    rfl
theorem co_id {a b : Int32} (ha : inB 8128 a) (hb : inB 8128 b) : coS (lSm a b) false + coS (b + a) false = coS a false + coS b false := by
  have hl := lSm_b (B := 8128) (by decide) ha hb
  have hs : (b + a).toInt = b.toInt + a.toInt := i_add (by unfold inB at ha hb; omega) (by unfold inB at ha hb; omega)
  unfold inB at ha hb hl
  have ha2 : inB 100000 a := by unfold inB; omega
  have hb2 : inB 100000 b := by unfold inB; omega
  have hs2 : inB 100000 (b + a) := by unfold inB; omega
  have hl2 : inB 100000 (lSm a b) := by unfold inB; omega
  have e1 := co_i ha2
  have e2 := co_i hb2
  have e3 := co_i hs2
  have e4 := co_i hl2
  have l := ls_i ha2 hb2
  have m1 := mi_i (a := abS a) (b := abS b)
  have a1 := ab_i ha2
  have a2 := ab_i hb2
  apply Int32.toInt_inj.mp
  have b1 : -8128 ≤ (coS a false).toInt ∧ (coS a false).toInt ≤ 8128 := by rw [e1]; split <;> omega
  have b2 : -8128 ≤ (coS b false).toInt ∧ (coS b false).toInt ≤ 8128 := by rw [e2]; split <;> omega
  have b3 : -20000 ≤ (coS (b + a) false).toInt ∧ (coS (b + a) false).toInt ≤ 20000 := by rw [e3]; split <;> omega
  have b4 : -8128 ≤ (coS (lSm a b) false).toInt ∧ (coS (lSm a b) false).toInt ≤ 8128 := by rw [e4]; split <;> omega
  rw [i_add (by omega) (by omega), i_add (by omega) (by omega), e1, e2, e3, e4, l, m1, a1, a2, hs]
  by_cases za : a.toInt < 0 <;> by_cases zb : b.toInt < 0
  · rw [if_pos za, if_pos zb, if_pos (Iff.intro (fun _ => zb) (fun _ => za)), if_pos (show b.toInt + a.toInt < 0 by omega)]
    split <;> split <;> omega
  · rw [if_pos za, if_neg zb, if_neg (show ¬ (a.toInt < 0 ↔ b.toInt < 0) from fun y => zb (y.mp za))]
    split <;> split <;> split <;> omega
  · rw [if_neg za, if_pos zb, if_neg (show ¬ (a.toInt < 0 ↔ b.toInt < 0) from fun y => za (y.mpr zb))]
    split <;> split <;> split <;> omega
  · rw [if_neg za, if_neg zb, if_pos (Iff.intro (fun y => absurd y za) (fun y => absurd y zb)), if_neg (show ¬ b.toInt + a.toInt < 0 by omega)]
    split <;> first | rfl | (split <;> first | rfl | omega)
/-- signs: the left one of two that are not 0 -/
theorem ls_sg {a b : Int32} (ha : inB 100000 a) (hb : inB 100000 b) (na : ¬ a = 0) (nb : ¬ b = 0) : ¬ lSm a b = 0 ∧ decide (lSm a b < 0) = (decide (a < 0) ^^ decide (b < 0)) := by
  have l := ls_i ha hb
  have m1 := mi_i (a := abS a) (b := abS b)
  have a1 := ab_i ha
  have a2 := ab_i hb
  have ne : ∀ x : Int32, ¬ x = 0 → ¬ x.toInt = 0 := fun x z y => z (Int32.toInt_inj.mp y)
  have na := ne a na
  have nb := ne b nb
  have dl : ∀ x : Int32, decide (x < 0) = decide (x.toInt < 0) := fun x => decide_eq_decide.mpr Int32.lt_iff_toInt_lt
  rw [dl a, dl b, dl (lSm a b)]
  have key : ¬ (lSm a b).toInt = 0 ∧ ((lSm a b).toInt < 0 ↔ ¬ (a.toInt < 0 ↔ b.toInt < 0)) := by
    rw [l, m1, a1, a2]
    by_cases za : a.toInt < 0 <;> by_cases zb : b.toInt < 0
    · rw [if_pos za, if_pos zb, if_pos (Iff.intro (fun _ => zb) (fun _ => za))]
      refine ⟨by split <;> omega, fun y => ?_, fun y => absurd (Iff.intro (fun _ => zb) (fun _ => za)) y⟩
      split at y <;> omega
    · have z : ¬ (a.toInt < 0 ↔ b.toInt < 0) := fun y => zb (y.mp za)
      rw [if_pos za, if_neg zb, if_neg z]
      exact ⟨by split <;> omega, fun _ => z, fun _ => by split <;> omega⟩
    · have z : ¬ (a.toInt < 0 ↔ b.toInt < 0) := fun y => za (y.mpr zb)
      rw [if_neg za, if_pos zb, if_neg z]
      exact ⟨by split <;> omega, fun _ => z, fun _ => by split <;> omega⟩
    · rw [if_neg za, if_neg zb, if_pos (Iff.intro (fun y => absurd y za) (fun y => absurd y zb))]
      refine ⟨by split <;> omega, fun y => ?_, fun y => absurd (Iff.intro (fun y => absurd y za) (fun y => absurd y zb)) y⟩
      split at y <;> omega
  refine ⟨fun z => key.1 (by rw [z]; rfl), ?_⟩
  by_cases za : a.toInt < 0 <;> by_cases zb : b.toInt < 0
  · rw [decide_eq_true za, decide_eq_true zb, decide_eq_false (fun y => key.2.mp y (Iff.intro (fun _ => zb) (fun _ => za)))]
    rfl
  · rw [decide_eq_true za, decide_eq_false zb, decide_eq_true (key.2.mpr (fun y => zb (y.mp za)))]
    rfl
  · rw [decide_eq_false za, decide_eq_true zb, decide_eq_true (key.2.mpr (fun y => za (y.mpr zb)))]
    rfl
  · rw [decide_eq_false za, decide_eq_false zb, decide_eq_false (fun y => key.2.mp y (Iff.intro (fun y => absurd y za) (fun y => absurd y zb)))]
    rfl
/-- the right one -/
theorem rs_sg {a b : Int32} (ha : inB 100000 a) (hb : inB 100000 b) (na : ¬ a = 0) (nb : ¬ b = 0) : ¬ rSm a b (decide (a < 0) ^^ decide (b < 0)) = 0 ∧ decide (rSm a b (decide (a < 0) ^^ decide (b < 0)) < 0) = decide (b < 0) := by
  unfold inB at ha hb
  have ne : ∀ x : Int32, ¬ x = 0 → ¬ x.toInt = 0 := fun x z y => z (Int32.toInt_inj.mp y)
  have na := ne a na
  have nb := ne b nb
  have dl : ∀ x : Int32, decide (x < 0) = decide (x.toInt < 0) := fun x => decide_eq_decide.mpr Int32.lt_iff_toInt_lt
  have s1 := i_add (a := b) (b := a) (by omega) (by omega)
  have s2 := i_sub (a := b) (b := a) (by omega) (by omega)
  rw [dl a, dl b, dl]
  have z0 : (0 : Int32).toInt = 0 := rfl
  by_cases za : a.toInt < 0 <;> by_cases zb : b.toInt < 0
  · rw [decide_eq_true za, decide_eq_true zb]
    have e : rSm a b (true ^^ true) = b + a := rfl
    rw [e, s1]
    exact ⟨fun y => by have := congrArg Int32.toInt y; omega, decide_eq_true (by omega)⟩
  · rw [decide_eq_true za, decide_eq_false zb]
    have e : rSm a b (true ^^ false) = b - a := rfl
    rw [e, s2]
    exact ⟨fun y => by have := congrArg Int32.toInt y; omega, decide_eq_false (by omega)⟩
  · rw [decide_eq_false za, decide_eq_true zb]
    have e : rSm a b (false ^^ true) = b - a := rfl
    rw [e, s2]
    exact ⟨fun y => by have := congrArg Int32.toInt y; omega, decide_eq_true (by omega)⟩
  · rw [decide_eq_false za, decide_eq_false zb]
    have e : rSm a b (false ^^ false) = b + a := rfl
    rw [e, s1]
    exact ⟨fun y => by have := congrArg Int32.toInt y; omega, decide_eq_false (by omega)⟩
