def rb (r : Int32) (j : Nat) : Bool := decide ((r >>> (nI j &&& 31)) &&& 1 = 1)
theorem rb_0 {r : Int32} {j : Nat} (h : rb r j = false) : (r >>> (nI j &&& 31)) &&& 1 = 0 := (and_1 _).resolve_right (of_decide_eq_false h)
theorem rb_1 {r : Int32} {j : Nat} (h : rb r j = true) : (r >>> (nI j &&& 31)) &&& 1 = 1 := of_decide_eq_true h
/-- the bits of a message and its check -/
def mbit (k c : Nat) (w : Int64) (r : Int32) (b : Nat) : Bool := if b < k then bl w b else if b < k + c then rb r (c - 1 - (b - k)) else false
theorem cntb_lt {K : Int64} {i n : Nat} (hi : i < n) (hb : bl K i = true) : cntb K i < cntb K n := by
  induction n with
  | zero => omega
  | succ n ih =>
    rw [cntb]
    by_cases h : i = n
    · subst h
      rw [if_pos hb]
      omega
    · have := ih (by omega)
      split <;> omega
theorem cntb_mono {K : Int64} {i : Nat} : ∀ n, i ≤ n → cntb K i ≤ cntb K n
  | 0, h => by rw [Nat.le_zero.mp h]; exact Nat.le_refl _
  | n + 1, h => by
    by_cases h1 : i = n + 1
    · rw [h1]; exact Nat.le_refl _
    · have := cntb_mono (K := K) (i := i) n (by omega)
      rw [cntb]
      split <;> omega
theorem sl_bit {x : Int64} {i : Nat} (hx : x = 0 ∨ x = 1) : x <<< ((nI i : Int32).toInt64 &&& 63) = if x = 1 then bitAt i else 0 := by
  rcases hx with rfl | rfl
  · rw [if_neg (by decide)]
    exact Int64.zero_shiftLeft
  · rw [if_pos rfl]
    rfl
theorem cd_go {k c : Nat} {w : Int64} {r : Int32} {fi : Nat → Nat → Int32} {fl : Nat → Nat → Int64} {fr : Nat → Nat → Option Nat} (hkc : k + c ≤ 64) (hf : fitP k w) (c3 : fi 1 3 = nI c) (c2 : fi 1 2 = nI k) : ∀ (n i : Nat) (y : Int64), i + n = c → (∀ b, b < 64 → bl y b = if b < k then bl w b else if b < k + i then rb r (c - 1 - (b - k)) else false) → GoP pmT none cd_59 8 [some (.ref 1), some (.long w), none, some (.int r), some (.long y), none, some (.int (nI i))] [] (shT, fi, fl, fr) (fun q => ∃ y, q = (some (.long y), (shT, fi, fl, fr)) ∧ ∀ b, b < 64 → bl y b = mbit k c w r b) := by
  intro n
  induction n with
  | zero =>
    intro i y hi hy
    have hi : i = c := by omega
    subst hi
    refine gp_mono (fun q (z : q = (some (.long y), (shT, fi, fl, fr))) => ⟨y, z, hy⟩) ?_
    refine gp_n 2 (j' := 10) (lv' := [some (.ref 1), some (.long w), none, some (.int r), some (.long y), none, some (.int (nI i))]) (st' := [.ref 1, .int (nI i)]) (h' := (shT, fi, fl, fr)) rfl ?_
    refine gp_of (fun _ k9 => g_getI (x := nI i) rfl (Or.inl rfl) rfl (by decide) (c3) k9) ?_
    refine gp_of (fun _ k9 => g_ict rfl (show (nI i) ≤ (nI i) from Int32.le_refl _) k9) ?_
    refine gp_n 1 (j' := 34) (lv' := [some (.ref 1), some (.long w), none, some (.int r), some (.long y), none, some (.int (nI i))]) (st' := [.long y]) (h' := (shT, fi, fl, fr)) rfl ?_
    refine gp_done (g_lret rfl) ?_
    rfl
  | succ n ih =>
    intro i y hi hy
    have es : nI c - 1 - nI i = nI (c - 1 - i) := by
      rw [show nI c - 1 = nI (c - 1) from pk_sub (b := 1) (by omega), pk_sub (by omega)]
    have ea : nI k + nI i = nI (k + i) := nI_add k i
    cases hr : rb r (c - 1 - i)
    · have r0 := rb_0 hr
      have g := ih (i + 1) (y ||| 0) (by omega) (fun b hb => by
        rw [bl_or, bl_0 b hb, Bool.or_false, hy b hb]
        by_cases h1 : b < k
        · rw [if_pos h1, if_pos h1]
        · rw [if_neg h1, if_neg h1]
          by_cases h2 : b < k + i
          · rw [if_pos h2, if_pos (by omega)]
          · rw [if_neg h2]
            by_cases h3 : b = k + i
            · rw [if_pos (by omega), h3, show k + i - k = i by omega, hr]
            · rw [if_neg (by omega)])
      have sb : (0 : Int64) <<< ((nI (k + i) : Int32).toInt64 &&& 63) = 0 := by rw [sl_bit (Or.inl rfl), if_neg (by decide)]
      refine gp_n 2 (j' := 10) (lv' := [some (.ref 1), some (.long w), none, some (.int r), some (.long y), none, some (.int (nI i))]) (st' := [.ref 1, .int (nI i)]) (h' := (shT, fi, fl, fr)) rfl ?_
      refine gp_of (fun _ k9 => g_getI (x := nI c) rfl (Or.inl rfl) rfl (by decide) (c3) k9) ?_
      refine gp_of (fun _ k9 => g_icf rfl (show ¬ ((nI c) ≤ (nI i)) from nI_ge (by omega) (by omega)) k9) ?_
      refine gp_n 3 (j' := 15) (lv' := [some (.ref 1), some (.long w), none, some (.int r), some (.long y), none, some (.int (nI i))]) (st' := [.ref 1, .int r, .long y]) (h' := (shT, fi, fl, fr)) rfl ?_
      refine gp_of (fun _ k9 => g_getI (x := nI c) rfl (Or.inl rfl) rfl (by decide) (c3) k9) ?_
      refine gp_n 4 (j' := 20) (lv' := [some (.ref 1), some (.long w), none, some (.int r), some (.long y), none, some (.int (nI i))]) (st' := [.int (((nI c) - 1) - (nI i)), .int r, .long y]) (h' := (shT, fi, fl, fr)) rfl ?_
      rw [es]
      refine gp_n 3 (j' := 23) (lv' := [some (.ref 1), some (.long w), none, some (.int r), some (.long y), none, some (.int (nI i))]) (st' := [.int ((r >>> ((nI (c - 1 - i)) &&& 31)) &&& 1), .long y]) (h' := (shT, fi, fl, fr)) rfl ?_
      rw [r0]
      refine gp_n 2 (j' := 25) (lv' := [some (.ref 1), some (.long w), none, some (.int r), some (.long y), none, some (.int (nI i))]) (st' := [.ref 1, .long 0, .long y]) (h' := (shT, fi, fl, fr)) rfl ?_
      refine gp_of (fun _ k9 => g_getI (x := nI k) rfl (Or.inl rfl) rfl (by decide) (c2) k9) ?_
      refine gp_n 2 (j' := 28) (lv' := [some (.ref 1), some (.long w), none, some (.int r), some (.long y), none, some (.int (nI i))]) (st' := [.int ((nI k) + (nI i)), .long 0, .long y]) (h' := (shT, fi, fl, fr)) rfl ?_
      rw [ea]
      show GoP pmT none cd_59 _ _ [.int (nI (k + i)), .long 0, _] _ _
      refine gp_n 1 (j' := 29) (lv' := [some (.ref 1), some (.long w), none, some (.int r), some (.long y), none, some (.int (nI i))]) (st' := [.long ((0 : Int64) <<< ((nI (k + i) : Int32).toInt64 &&& 63)), .long y]) (h' := (shT, fi, fl, fr)) rfl ?_
      rw [sb]
      refine gp_n 4 (j' := 8) (lv' := [some (.ref 1), some (.long w), none, some (.int r), some (.long (y ||| 0)), none, some (.int ((nI i) + 1))]) (st' := []) (h' := (shT, fi, fl, fr)) rfl ?_
      rw [nI_1]
      exact g
    · have r1 := rb_1 hr
      have g := ih (i + 1) (y ||| bitAt (k + i)) (by omega) (fun b hb => by
        rw [bl_or, bitAt_bl (by omega) hb, hy b hb]
        by_cases h1 : b < k
        · rw [if_pos h1, if_pos h1, decide_eq_false (by omega), Bool.or_false]
        · rw [if_neg h1, if_neg h1]
          by_cases h2 : b < k + i
          · rw [if_pos h2, if_pos (by omega), decide_eq_false (by omega), Bool.or_false]
          · rw [if_neg h2]
            by_cases h3 : b = k + i
            · rw [if_pos (by omega), h3, show k + i - k = i by omega, hr, decide_eq_true rfl]
              rfl
            · rw [if_neg (by omega), decide_eq_false h3]
              rfl)
      have sb : (1 : Int64) <<< ((nI (k + i) : Int32).toInt64 &&& 63) = bitAt (k + i) := rfl
      refine gp_n 2 (j' := 10) (lv' := [some (.ref 1), some (.long w), none, some (.int r), some (.long y), none, some (.int (nI i))]) (st' := [.ref 1, .int (nI i)]) (h' := (shT, fi, fl, fr)) rfl ?_
      refine gp_of (fun _ k9 => g_getI (x := nI c) rfl (Or.inl rfl) rfl (by decide) (c3) k9) ?_
      refine gp_of (fun _ k9 => g_icf rfl (show ¬ ((nI c) ≤ (nI i)) from nI_ge (by omega) (by omega)) k9) ?_
      refine gp_n 3 (j' := 15) (lv' := [some (.ref 1), some (.long w), none, some (.int r), some (.long y), none, some (.int (nI i))]) (st' := [.ref 1, .int r, .long y]) (h' := (shT, fi, fl, fr)) rfl ?_
      refine gp_of (fun _ k9 => g_getI (x := nI c) rfl (Or.inl rfl) rfl (by decide) (c3) k9) ?_
      refine gp_n 4 (j' := 20) (lv' := [some (.ref 1), some (.long w), none, some (.int r), some (.long y), none, some (.int (nI i))]) (st' := [.int (((nI c) - 1) - (nI i)), .int r, .long y]) (h' := (shT, fi, fl, fr)) rfl ?_
      rw [es]
      refine gp_n 3 (j' := 23) (lv' := [some (.ref 1), some (.long w), none, some (.int r), some (.long y), none, some (.int (nI i))]) (st' := [.int ((r >>> ((nI (c - 1 - i)) &&& 31)) &&& 1), .long y]) (h' := (shT, fi, fl, fr)) rfl ?_
      rw [r1]
      refine gp_n 2 (j' := 25) (lv' := [some (.ref 1), some (.long w), none, some (.int r), some (.long y), none, some (.int (nI i))]) (st' := [.ref 1, .long 1, .long y]) (h' := (shT, fi, fl, fr)) rfl ?_
      refine gp_of (fun _ k9 => g_getI (x := nI k) rfl (Or.inl rfl) rfl (by decide) (c2) k9) ?_
      refine gp_n 2 (j' := 28) (lv' := [some (.ref 1), some (.long w), none, some (.int r), some (.long y), none, some (.int (nI i))]) (st' := [.int ((nI k) + (nI i)), .long 1, .long y]) (h' := (shT, fi, fl, fr)) rfl ?_
      rw [ea]
      show GoP pmT none cd_59 _ _ [.int (nI (k + i)), .long 1, _] _ _
      refine gp_n 1 (j' := 29) (lv' := [some (.ref 1), some (.long w), none, some (.int r), some (.long y), none, some (.int (nI i))]) (st' := [.long ((1 : Int64) <<< ((nI (k + i) : Int32).toInt64 &&& 63)), .long y]) (h' := (shT, fi, fl, fr)) rfl ?_
      rw [sb]
      refine gp_n 4 (j' := 8) (lv' := [some (.ref 1), some (.long w), none, some (.int r), some (.long (y ||| (bitAt (k + i)))), none, some (.int ((nI i) + 1))]) (st' := []) (h' := (shT, fi, fl, fr)) rfl ?_
      rw [nI_1]
      exact g
theorem cd_ev {k c : Nat} {w : Int64} {po : Int32} {h : PmH} (hI : HI hdT shT h) (hkc : k + c ≤ 64) (hc8 : c ≤ 8) (hf : fitP k w) (c3 : ph_i h 1 3 = nI c) (c2 : ph_i h 1 2 = nI k) (c4 : ph_i h 1 4 = po) : ∃ y, Ev pmT 59 [.ref 1, .long w] h (some (.long y)) h ∧ ∀ b, b < 64 → bl y b = mbit k c w (ckS k c po w) b := by
  have ck := ck_ev_1 (w := w) hI (show k ≤ 64 by omega) hc8 c3 c2 c4
  have hSS := hI.1
  obtain ⟨S, fi, fl, fr⟩ := h
  have hS : S = shT := hSS
  subst hS
  obtain ⟨q, g, y, y1, y2⟩ := cd_go (r := ckS k c po w) (fl := fl) (fr := fr) hkc hf c3 c2 c 0 w (by omega) (fun b hb => by
    by_cases h1 : b < k
    · rw [if_pos h1]
    · rw [if_neg h1, if_neg (by omega)]
      exact hf b (by omega) hb)
  subst y1
  refine ⟨y, Ev.of (es := cd_59) (ml := 7) (lv := [some (.ref 1), some (.long w), none, none, none, none, none]) rfl rfl rfl ?_, y2⟩
  refine go_of ?_
  refine gp_n 2 (j' := 2) (lv' := [some (.ref 1), some (.long w), none, none, none, none, none]) (st' := [.long w, .ref 1]) (h' := (shT, fi, fl, fr)) rfl ?_
  refine gp_of (fun _ k9 => g_call (y := 60) (as := [.ref 1, .long w]) (st' := []) rfl rfl (ck) k9) ?_
  refine gp_n 5 (j' := 8) (lv' := [some (.ref 1), some (.long w), none, some (.int (ckS k c po w)), some (.long w), none, some (.int (nI 0))]) (st' := []) (h' := (shT, fi, fl, fr)) rfl ?_
  exact gp_done g rfl
theorem dp_go {N : Nat} {K x : Int64} {fi : Nat → Nat → Int32} {fl : Nat → Nat → Int64} {fr : Nat → Nat → Option Nat} (hI : HI hdT shT (shT, fi, fl, fr)) (hN : N ≤ 64) (c1 : fi 1 1 = nI N) (c7 : fl 1 7 = K) : ∀ (n i : Nat) (y : Int64), i + n = N → (∀ j, j < 64 → bl y j = (decide (j < i) && (bl K j && bl x (cntb K j)))) → GoP pmT none cd_61 6 [some (.ref 1), some (.long x), none, some (.long y), none, some (.int (nI (cntb K i))), some (.int (nI i))] [] (shT, fi, fl, fr) (fun q => ∃ y, q = (some (.long y), (shT, fi, fl, fr)) ∧ ∀ j, j < 64 → bl y j = (decide (j < N) && (bl K j && bl x (cntb K j)))) := by
  intro n
  induction n with
  | zero =>
    intro i y hi hy
    have hi : i = N := by omega
    subst hi
    refine gp_mono (fun q (z : q = (some (.long y), (shT, fi, fl, fr))) => ⟨y, z, hy⟩) ?_
    generalize cntb K i = q
    refine gp_n 2 (j' := 8) (lv' := [some (.ref 1), some (.long x), none, some (.long y), none, some (.int (nI q)), some (.int (nI i))]) (st' := [.ref 1, .int (nI i)]) (h' := (shT, fi, fl, fr)) rfl ?_
    refine gp_of (fun _ k9 => g_getI (x := nI i) rfl (Or.inl rfl) rfl (by decide) (c1) k9) ?_
    refine gp_of (fun _ k9 => g_ict rfl (show (nI i) ≤ (nI i) from Int32.le_refl _) k9) ?_
    refine gp_n 1 (j' := 28) (lv' := [some (.ref 1), some (.long x), none, some (.long y), none, some (.int (nI q)), some (.int (nI i))]) (st' := [.long y]) (h' := (shT, fi, fl, fr)) rfl ?_
    refine gp_done (g_lret rfl) ?_
    rfl
  | succ n ih =>
    intro i y hi hy
    have kp := kp_ev_1 (i := i) hI c7 (by omega)
    have cl := cntb_le K i
    have e1 : cntb K (i + 1) = cntb K i + (if bl K i = true then 1 else 0) := rfl
    cases hb : bl K i
    · rw [hb] at kp e1
      have kp : Ev pmT 47 [.ref 1, .int (nI i)] (shT, fi, fl, fr) (some (.int 0)) (shT, fi, fl, fr) := kp
      have g := ih (i + 1) y (by omega) (fun j hj => by
        rw [hy j hj]
        by_cases h1 : j = i
        · subst h1
          rw [hb, Bool.false_and, Bool.and_false, Bool.and_false]
        · congr 1
          exact decide_eq_decide.mpr (by omega))
      rw [e1, if_neg (by decide), Nat.add_zero] at g
      generalize cntb K i = q at *
      refine gp_n 2 (j' := 8) (lv' := [some (.ref 1), some (.long x), none, some (.long y), none, some (.int (nI q)), some (.int (nI i))]) (st' := [.ref 1, .int (nI i)]) (h' := (shT, fi, fl, fr)) rfl ?_
      refine gp_of (fun _ k9 => g_getI (x := nI N) rfl (Or.inl rfl) rfl (by decide) (c1) k9) ?_
      refine gp_of (fun _ k9 => g_icf rfl (show ¬ ((nI N) ≤ (nI i)) from nI_ge (by omega) (by omega)) k9) ?_
      refine gp_n 2 (j' := 12) (lv' := [some (.ref 1), some (.long x), none, some (.long y), none, some (.int (nI q)), some (.int (nI i))]) (st' := [.int (nI i), .ref 1]) (h' := (shT, fi, fl, fr)) rfl ?_
      refine gp_of (fun _ k9 => g_call (y := 47) (as := [.ref 1, .int (nI i)]) (st' := []) rfl rfl (kp) k9) ?_
      refine gp_of (fun _ k9 => g_ift rfl (show (0 : Int32) = (0 : Int32) from by decide) k9) ?_
      refine gp_n 2 (j' := 6) (lv' := [some (.ref 1), some (.long x), none, some (.long y), none, some (.int (nI q)), some (.int ((nI i) + 1))]) (st' := []) (h' := (shT, fi, fl, fr)) rfl ?_
      rw [nI_1]
      exact g
    · rw [hb] at kp e1
      have kp : Ev pmT 47 [.ref 1, .int (nI i)] (shT, fi, fl, fr) (some (.int 1)) (shT, fi, fl, fr) := kp
      have e : us6 x (nI (cntb K i)) &&& 1 = if bl x (cntb K i) = true then 1 else 0 := by rw [and_b1, bl_us _ (by omega) x 0, Nat.add_zero]
      have g := ih (i + 1) (y ||| (if bl x (cntb K i) = true then bitAt i else 0)) (by omega) (fun j hj => by
        have eb : bl (if bl x (cntb K i) = true then bitAt i else 0) j = (bl x (cntb K i) && decide (j = i)) := by
          cases bl x (cntb K i)
          · rw [if_neg (by decide), bl_0 j hj]
            rfl
          · rw [if_pos rfl, bitAt_bl (by omega) hj]
            rfl
        rw [bl_or, eb, hy j hj]
        by_cases h1 : j = i
        · subst h1
          rw [decide_eq_true rfl, decide_eq_true (show j < j + 1 by omega), decide_eq_false (Nat.lt_irrefl _), hb]
          simp
        · rw [decide_eq_false h1, Bool.and_false, Bool.or_false]
          congr 1
          exact decide_eq_decide.mpr (by omega))
      rw [e1, if_pos rfl] at g
      generalize cntb K i = q at *
      have sb : (us6 x (nI q) &&& 1) <<< ((nI i : Int32).toInt64 &&& 63) = if bl x q = true then bitAt i else 0 := by
        rw [e]
        cases bl x q
        · rw [if_neg (by decide), sl_bit (Or.inl rfl), if_neg (by decide), if_neg (by decide)]
        · rw [if_pos rfl]
          rfl
      refine gp_n 2 (j' := 8) (lv' := [some (.ref 1), some (.long x), none, some (.long y), none, some (.int (nI q)), some (.int (nI i))]) (st' := [.ref 1, .int (nI i)]) (h' := (shT, fi, fl, fr)) rfl ?_
      refine gp_of (fun _ k9 => g_getI (x := nI N) rfl (Or.inl rfl) rfl (by decide) (c1) k9) ?_
      refine gp_of (fun _ k9 => g_icf rfl (show ¬ ((nI N) ≤ (nI i)) from nI_ge (by omega) (by omega)) k9) ?_
      refine gp_n 2 (j' := 12) (lv' := [some (.ref 1), some (.long x), none, some (.long y), none, some (.int (nI q)), some (.int (nI i))]) (st' := [.int (nI i), .ref 1]) (h' := (shT, fi, fl, fr)) rfl ?_
      refine gp_of (fun _ k9 => g_call (y := 47) (as := [.ref 1, .int (nI i)]) (st' := []) rfl rfl (kp) k9) ?_
      refine gp_of (fun _ k9 => g_iff rfl (show ¬ ((1 : Int32) = (0 : Int32)) from by decide) k9) ?_
      refine gp_n 8 (j' := 22) (lv' := [some (.ref 1), some (.long x), none, some (.long y), none, some (.int (nI q)), some (.int (nI i))]) (st' := [.long ((((x.toUInt64 >>> ((nI q : Int32).toInt64.toUInt64 &&& Int64.toUInt64 63)).toInt64) &&& 1) <<< ((nI i : Int32).toInt64 &&& 63)), .long y]) (h' := (shT, fi, fl, fr)) rfl ?_
      show GoP pmT none cd_61 _ _ [.long ((us6 x (nI q) &&& 1) <<< ((nI i : Int32).toInt64 &&& 63)), _] _ _
      rw [sb]
      refine gp_n 5 (j' := 6) (lv' := [some (.ref 1), some (.long x), none, some (.long (y ||| (if bl x q = true then bitAt i else 0))), none, some (.int ((nI q) + 1)), some (.int ((nI i) + 1))]) (st' := []) (h' := (shT, fi, fl, fr)) rfl ?_
      rw [nI_1, nI_1]
      exact g
/-- the class's encode -/
def wdP (m N k c : Nat) (K w : Int64) (po : Int32) (y : Int64) : Prop := ∀ i, i < 64 → bl y i = bfN 0 m (fun j => decide (j < N) && (bl K j && mbit k c w (ckS k c po w) (cntb K j))) i
theorem wdP_eq {m N k c : Nat} {K w : Int64} {po : Int32} {y y' : Int64} (a : wdP m N k c K w po y) (b : wdP m N k c K w po y') : y = y' := bl_ext (fun i hi => (a i hi).trans (b i hi).symm)
theorem en_ev {m N k c : Nat} {K w : Int64} {po : Int32} {h : PmH} (hI : HI hdT shT h) (hm : m ≤ 6) (hN : N ≤ 64) (hkc : k + c ≤ 64) (hc8 : c ≤ 8) (hf : fitP k w) (c0 : ph_i h 1 0 = nI m) (c1 : ph_i h 1 1 = nI N) (c3 : ph_i h 1 3 = nI c) (c2 : ph_i h 1 2 = nI k) (c4 : ph_i h 1 4 = po) (c7 : ph_l h 1 7 = K) : ∃ y, Ev pmT 58 [.ref 1, .long w] h (some (.long y)) h ∧ wdP m N k c K w po y := by
  obtain ⟨x, ex, hx⟩ := cd_ev (w := w) hI hkc hc8 hf c3 c2 c4
  have hSS := hI.1
  obtain ⟨S, fi, fl, fr⟩ := h
  have hS : S = shT := hSS
  subst hS
  obtain ⟨q, g, y, y1, y2⟩ := dp_go (N := N) (K := K) (x := x) hI hN c1 c7 N 0 0 (by omega) (fun j hj => by rw [bl_0 j hj, decide_eq_false (Nat.not_lt_zero _)]; rfl)
  subst y1
  have ed : Ev pmT 61 [.ref 1, .long x] (shT, fi, fl, fr) (some (.long y)) (shT, fi, fl, fr) := by
    refine Ev.of (es := cd_61) (ml := 7) (lv := [some (.ref 1), some (.long x), none, none, none, none, none]) rfl rfl rfl ?_
    refine go_of ?_
    refine gp_n 6 (j' := 6) (lv' := [some (.ref 1), some (.long x), none, some (.long 0), none, some (.int (nI (cntb K 0))), some (.int (nI 0))]) (st' := []) (h' := (shT, fi, fl, fr)) rfl ?_
    exact gp_done g rfl
  obtain ⟨z, ez, hz⟩ := bf_ev hm (h := (shT, fi, fl, fr)) (x := y)
  refine ⟨z, ?_, fun i hi => ?_⟩
  · refine Ev.of (es := cd_58) (ml := 3) (lv := [some (.ref 1), some (.long w), none]) rfl rfl rfl ?_
    have c0 : fi 1 0 = nI m := c0
    refine go_of ?_
    refine gp_n 3 (j' := 3) (lv' := [some (.ref 1), some (.long w), none]) (st' := [.long w, .ref 1, .ref 1]) (h' := (shT, fi, fl, fr)) rfl ?_
    refine gp_of (fun _ k9 => g_call (y := 59) (as := [.ref 1, .long w]) (st' := [.ref 1]) rfl rfl (ex) k9) ?_
    refine gp_of (fun _ k9 => g_call (y := 61) (as := [.ref 1, .long x]) (st' := []) rfl rfl (ed) k9) ?_
    refine gp_n 1 (j' := 6) (lv' := [some (.ref 1), some (.long w), none]) (st' := [.ref 1, .long y]) (h' := (shT, fi, fl, fr)) rfl ?_
    refine gp_of (fun _ k9 => g_getI (x := nI m) rfl (Or.inl rfl) rfl (by decide) (c0) k9) ?_
    refine gp_of (fun _ k9 => g_call (y := 62) (as := [.long y, .int (nI m)]) (st' := []) rfl rfl (ez) k9) ?_
    refine gp_done (g_lret rfl) ?_
    rfl
  · rw [hz i hi]
    refine bfN_cg m 0 (by omega) (fun j hj => ?_) i hi
    rw [y2 j hj, hx _ (Nat.lt_of_le_of_lt (cntb_le K j) hj)]
theorem co2_go {N k c : Nat} {K w : Int64} {r : Int32} {fi : Nat → Nat → Int32} {fl : Nat → Nat → Int64} {fr : Nat → Nat → Option Nat} (hN : N ≤ 64) (hkc : popc K = k + c) (hc8 : c ≤ 8) (c1 : fi 70 14 = nI N) (c2 : fi 70 16 = nI k) (c3 : fi 70 17 = nI c) (c7 : fl 70 21 = K) : ∀ (n i : Nat) (y : Int64) (l8 : Option Value), i + n = N → (∀ j, j < 64 → bl y j = (decide (j < i) && (bl K j && mbit k c w r (cntb K j)))) → GoP pmT none cd_173 10 [some (.ref 70), some (.long w), none, some (.int r), some (.long y), none, some (.int (nI (cntb K i))), some (.int (nI i)), l8] [] (shT, fi, fl, fr) (fun q => ∃ y, q = (some (.long y), (shT, fi, fl, fr)) ∧ ∀ j, j < 64 → bl y j = (decide (j < N) && (bl K j && mbit k c w r (cntb K j)))) := by
  intro n
  have p64 : popc K ≤ 64 := popc_le K
  induction n with
  | zero =>
    intro i y l8 hi hy
    have hi : i = N := by omega
    subst hi
    refine gp_mono (fun q (z : q = (some (.long y), (shT, fi, fl, fr))) => ⟨y, z, hy⟩) ?_
    generalize cntb K i = q
    refine gp_n 2 (j' := 12) (lv' := [some (.ref 70), some (.long w), none, some (.int r), some (.long y), none, some (.int (nI q)), some (.int (nI i)), l8]) (st' := [.ref 70, .int (nI i)]) (h' := (shT, fi, fl, fr)) rfl ?_
    refine gp_of (fun _ k9 => g_getI (x := nI i) rfl (Or.inl rfl) rfl (by decide) (c1) k9) ?_
    refine gp_of (fun _ k9 => g_ict rfl (show (nI i) ≤ (nI i) from Int32.le_refl _) k9) ?_
    refine gp_n 1 (j' := 59) (lv' := [some (.ref 70), some (.long w), none, some (.int r), some (.long y), none, some (.int (nI q)), some (.int (nI i)), l8]) (st' := [.long y]) (h' := (shT, fi, fl, fr)) rfl ?_
    refine gp_done (g_lret rfl) ?_
    rfl
  | succ n ih =>
    intro i y l8 hi hy
    have hs := has_ev (v := K) (i := nI i) (h := (shT, fi, fl, fr))
    rw [hasf_bit (show i < 64 by omega)] at hs
    have cl := cntb_le K i
    have e1 : cntb K (i + 1) = cntb K i + (if bl K i = true then 1 else 0) := rfl
    cases hb : bl K i
    · rw [hb] at hs e1
      have hs : Ev pmT 161 [.long K, .int (nI i)] (shT, fi, fl, fr) (some (.int 0)) (shT, fi, fl, fr) := hs
      have g := ih (i + 1) y l8 (by omega) (fun j hj => by
        rw [hy j hj]
        by_cases h1 : j = i
        · subst h1
          rw [hb, Bool.false_and, Bool.and_false, Bool.and_false]
        · congr 1
          exact decide_eq_decide.mpr (by omega))
      rw [e1, if_neg (by decide), Nat.add_zero] at g
      generalize cntb K i = q at *
      refine gp_n 2 (j' := 12) (lv' := [some (.ref 70), some (.long w), none, some (.int r), some (.long y), none, some (.int (nI q)), some (.int (nI i)), l8]) (st' := [.ref 70, .int (nI i)]) (h' := (shT, fi, fl, fr)) rfl ?_
      refine gp_of (fun _ k9 => g_getI (x := nI N) rfl (Or.inl rfl) rfl (by decide) (c1) k9) ?_
      refine gp_of (fun _ k9 => g_icf rfl (show ¬ ((nI N) ≤ (nI i)) from nI_ge (by omega) (by omega)) k9) ?_
      refine gp_n 1 (j' := 15) (lv' := [some (.ref 70), some (.long w), none, some (.int r), some (.long y), none, some (.int (nI q)), some (.int (nI i)), l8]) (st' := [.ref 70]) (h' := (shT, fi, fl, fr)) rfl ?_
      refine gp_of (fun _ k9 => g_getL (x := K) rfl rfl (by decide) (c7) k9) ?_
      refine gp_n 1 (j' := 17) (lv' := [some (.ref 70), some (.long w), none, some (.int r), some (.long y), none, some (.int (nI q)), some (.int (nI i)), l8]) (st' := [.int (nI i), .long K]) (h' := (shT, fi, fl, fr)) rfl ?_
      refine gp_of (fun _ k9 => g_call (y := 161) (as := [.long K, .int (nI i)]) (st' := []) rfl rfl (hs) k9) ?_
      refine gp_of (fun _ k9 => g_iff rfl (show ¬ (¬ (0 : Int32) = (0 : Int32)) from by decide) k9) ?_
      refine gp_n 3 (j' := 10) (lv' := [some (.ref 70), some (.long w), none, some (.int r), some (.long y), none, some (.int (nI q)), some (.int ((nI i) + 1)), l8]) (st' := []) (h' := (shT, fi, fl, fr)) rfl ?_
      rw [nI_1]
      exact g
    · rw [hb] at hs e1
      have hs : Ev pmT 161 [.long K, .int (nI i)] (shT, fi, fl, fr) (some (.int 1)) (shT, fi, fl, fr) := hs
      have lt := cntb_lt (K := K) (show i < 64 by omega) hb
      have lt : cntb K i < k + c := by rw [← hkc]; exact lt
      have nxt : ∀ y', (∀ j, j < 64 → bl y' j = (bl y j || (mbit k c w r (cntb K i) && decide (j = i)))) → ∀ j, j < 64 → bl y' j = (decide (j < i + 1) && (bl K j && mbit k c w r (cntb K j))) := fun y' hy' j hj => by
        rw [hy' j hj, hy j hj]
        by_cases h1 : j = i
        · subst h1
          rw [decide_eq_true rfl, decide_eq_true (show j < j + 1 by omega), decide_eq_false (Nat.lt_irrefl _), hb]
          simp
        · rw [decide_eq_false h1, Bool.and_false, Bool.or_false]
          congr 1
          exact decide_eq_decide.mpr (by omega)
      have up : mbit k c w r (cntb K i) = true → ∀ j, j < 64 → bl (y ||| bitAt i) j = (bl y j || (mbit k c w r (cntb K i) && decide (j = i))) := fun hm j hj => by
        rw [bl_or, bitAt_bl (by omega) hj, hm, Bool.true_and]
      have dn : mbit k c w r (cntb K i) = false → ∀ j, j < 64 → bl y j = (bl y j || (mbit k c w r (cntb K i) && decide (j = i))) := fun hm j hj => by
        rw [hm, Bool.false_and, Bool.or_false]
      have g1 := fun hm l8 => ih (i + 1) (y ||| bitAt i) l8 (by omega) (nxt _ (up hm))
      have g0 := fun hm l8 => ih (i + 1) y l8 (by omega) (nxt _ (dn hm))
      rw [e1, if_pos rfl] at g1 g0
      have mb : mbit k c w r (cntb K i) = if cntb K i < k then bl w (cntb K i) else rb r (c - 1 - (cntb K i - k)) := by
        unfold mbit
        by_cases h1 : cntb K i < k
        · rw [if_pos h1, if_pos h1]
        · rw [if_neg h1, if_neg h1, if_pos lt]
      clear nxt up dn ih hy
      generalize mbit k c w r (cntb K i) = mm at *
      generalize cntb K i = q at *
      by_cases h1 : q < k
      · rw [if_pos h1] at mb
        have h2 := has_ev (v := w) (i := nI q) (h := (shT, fi, fl, fr))
        rw [hasf_bit (show q < 64 by omega), ← mb] at h2
        cases mm
        · have h2 : Ev pmT 161 [.long w, .int (nI q)] (shT, fi, fl, fr) (some (.int 0)) (shT, fi, fl, fr) := h2
          have g := g0 rfl (some (.int 0))
          refine gp_n 2 (j' := 12) (lv' := [some (.ref 70), some (.long w), none, some (.int r), some (.long y), none, some (.int (nI q)), some (.int (nI i)), l8]) (st' := [.ref 70, .int (nI i)]) (h' := (shT, fi, fl, fr)) rfl ?_
          refine gp_of (fun _ k9 => g_getI (x := nI N) rfl (Or.inl rfl) rfl (by decide) (c1) k9) ?_
          refine gp_of (fun _ k9 => g_icf rfl (show ¬ ((nI N) ≤ (nI i)) from nI_ge (by omega) (by omega)) k9) ?_
          refine gp_n 1 (j' := 15) (lv' := [some (.ref 70), some (.long w), none, some (.int r), some (.long y), none, some (.int (nI q)), some (.int (nI i)), l8]) (st' := [.ref 70]) (h' := (shT, fi, fl, fr)) rfl ?_
          refine gp_of (fun _ k9 => g_getL (x := K) rfl rfl (by decide) (c7) k9) ?_
          refine gp_n 1 (j' := 17) (lv' := [some (.ref 70), some (.long w), none, some (.int r), some (.long y), none, some (.int (nI q)), some (.int (nI i)), l8]) (st' := [.int (nI i), .long K]) (h' := (shT, fi, fl, fr)) rfl ?_
          refine gp_of (fun _ k9 => g_call (y := 161) (as := [.long K, .int (nI i)]) (st' := []) rfl rfl (hs) k9) ?_
          refine gp_of (fun _ k9 => g_ift rfl (show ¬ (1 : Int32) = (0 : Int32) from by decide) k9) ?_
          refine gp_n 2 (j' := 22) (lv' := [some (.ref 70), some (.long w), none, some (.int r), some (.long y), none, some (.int (nI q)), some (.int (nI i)), l8]) (st' := [.ref 70, .int (nI q)]) (h' := (shT, fi, fl, fr)) rfl ?_
          refine gp_of (fun _ k9 => g_getI (x := nI k) rfl (Or.inl rfl) rfl (by decide) (c2) k9) ?_
          refine gp_of (fun _ k9 => g_icf rfl (show ¬ ((nI k) ≤ (nI q)) from nI_ge h1 (by omega)) k9) ?_
          refine gp_n 2 (j' := 26) (lv' := [some (.ref 70), some (.long w), none, some (.int r), some (.long y), none, some (.int (nI q)), some (.int (nI i)), l8]) (st' := [.int (nI q), .long w]) (h' := (shT, fi, fl, fr)) rfl ?_
          refine gp_of (fun _ k9 => g_call (y := 161) (as := [.long w, .int (nI q)]) (st' := []) rfl rfl (h2) k9) ?_
          refine gp_n 3 (j' := 48) (lv' := [some (.ref 70), some (.long w), none, some (.int r), some (.long y), none, some (.int (nI q)), some (.int (nI i)), some (.int 0)]) (st' := [.int 0]) (h' := (shT, fi, fl, fr)) rfl ?_
          refine gp_of (fun _ k9 => g_ift rfl (show (0 : Int32) = (0 : Int32) from by decide) k9) ?_
          refine gp_n 3 (j' := 10) (lv' := [some (.ref 70), some (.long w), none, some (.int r), some (.long y), none, some (.int ((nI q) + 1)), some (.int ((nI i) + 1)), some (.int 0)]) (st' := []) (h' := (shT, fi, fl, fr)) rfl ?_
          rw [nI_1, nI_1]
          exact g
        · have h2 : Ev pmT 161 [.long w, .int (nI q)] (shT, fi, fl, fr) (some (.int 1)) (shT, fi, fl, fr) := h2
          have g := g1 rfl (some (.int 1))
          refine gp_n 2 (j' := 12) (lv' := [some (.ref 70), some (.long w), none, some (.int r), some (.long y), none, some (.int (nI q)), some (.int (nI i)), l8]) (st' := [.ref 70, .int (nI i)]) (h' := (shT, fi, fl, fr)) rfl ?_
          refine gp_of (fun _ k9 => g_getI (x := nI N) rfl (Or.inl rfl) rfl (by decide) (c1) k9) ?_
          refine gp_of (fun _ k9 => g_icf rfl (show ¬ ((nI N) ≤ (nI i)) from nI_ge (by omega) (by omega)) k9) ?_
          refine gp_n 1 (j' := 15) (lv' := [some (.ref 70), some (.long w), none, some (.int r), some (.long y), none, some (.int (nI q)), some (.int (nI i)), l8]) (st' := [.ref 70]) (h' := (shT, fi, fl, fr)) rfl ?_
          refine gp_of (fun _ k9 => g_getL (x := K) rfl rfl (by decide) (c7) k9) ?_
          refine gp_n 1 (j' := 17) (lv' := [some (.ref 70), some (.long w), none, some (.int r), some (.long y), none, some (.int (nI q)), some (.int (nI i)), l8]) (st' := [.int (nI i), .long K]) (h' := (shT, fi, fl, fr)) rfl ?_
          refine gp_of (fun _ k9 => g_call (y := 161) (as := [.long K, .int (nI i)]) (st' := []) rfl rfl (hs) k9) ?_
          refine gp_of (fun _ k9 => g_ift rfl (show ¬ (1 : Int32) = (0 : Int32) from by decide) k9) ?_
          refine gp_n 2 (j' := 22) (lv' := [some (.ref 70), some (.long w), none, some (.int r), some (.long y), none, some (.int (nI q)), some (.int (nI i)), l8]) (st' := [.ref 70, .int (nI q)]) (h' := (shT, fi, fl, fr)) rfl ?_
          refine gp_of (fun _ k9 => g_getI (x := nI k) rfl (Or.inl rfl) rfl (by decide) (c2) k9) ?_
          refine gp_of (fun _ k9 => g_icf rfl (show ¬ ((nI k) ≤ (nI q)) from nI_ge h1 (by omega)) k9) ?_
          refine gp_n 2 (j' := 26) (lv' := [some (.ref 70), some (.long w), none, some (.int r), some (.long y), none, some (.int (nI q)), some (.int (nI i)), l8]) (st' := [.int (nI q), .long w]) (h' := (shT, fi, fl, fr)) rfl ?_
          refine gp_of (fun _ k9 => g_call (y := 161) (as := [.long w, .int (nI q)]) (st' := []) rfl rfl (h2) k9) ?_
          refine gp_n 3 (j' := 48) (lv' := [some (.ref 70), some (.long w), none, some (.int r), some (.long y), none, some (.int (nI q)), some (.int (nI i)), some (.int 1)]) (st' := [.int 1]) (h' := (shT, fi, fl, fr)) rfl ?_
          refine gp_of (fun _ k9 => g_iff rfl (show ¬ ((1 : Int32) = (0 : Int32)) from by decide) k9) ?_
          refine gp_n 5 (j' := 54) (lv' := [some (.ref 70), some (.long w), none, some (.int r), some (.long y), none, some (.int (nI q)), some (.int (nI i)), some (.int 1)]) (st' := [.long (y ||| ((1 : Int64) <<< ((nI i : Int32).toInt64 &&& 63)))]) (h' := (shT, fi, fl, fr)) rfl ?_
          show GoP pmT none cd_173 _ _ [.long (y ||| bitAt i)] _ _
          refine gp_n 4 (j' := 10) (lv' := [some (.ref 70), some (.long w), none, some (.int r), some (.long (y ||| bitAt i)), none, some (.int ((nI q) + 1)), some (.int ((nI i) + 1)), some (.int 1)]) (st' := []) (h' := (shT, fi, fl, fr)) rfl ?_
          rw [nI_1, nI_1]
          exact g
      · rw [if_neg h1] at mb
        have es : nI c - 1 - (nI q - nI k) = nI (c - 1 - (q - k)) := by
          rw [pk_sub (show k ≤ q by omega), show nI c - 1 = nI (c - 1) from pk_sub (b := 1) (by omega), pk_sub (by omega)]
        cases mm
        · have r0 := rb_0 mb.symm
          have g := g0 rfl (some (.int 0))
          refine gp_n 2 (j' := 12) (lv' := [some (.ref 70), some (.long w), none, some (.int r), some (.long y), none, some (.int (nI q)), some (.int (nI i)), l8]) (st' := [.ref 70, .int (nI i)]) (h' := (shT, fi, fl, fr)) rfl ?_
          refine gp_of (fun _ k9 => g_getI (x := nI N) rfl (Or.inl rfl) rfl (by decide) (c1) k9) ?_
          refine gp_of (fun _ k9 => g_icf rfl (show ¬ ((nI N) ≤ (nI i)) from nI_ge (by omega) (by omega)) k9) ?_
          refine gp_n 1 (j' := 15) (lv' := [some (.ref 70), some (.long w), none, some (.int r), some (.long y), none, some (.int (nI q)), some (.int (nI i)), l8]) (st' := [.ref 70]) (h' := (shT, fi, fl, fr)) rfl ?_
          refine gp_of (fun _ k9 => g_getL (x := K) rfl rfl (by decide) (c7) k9) ?_
          refine gp_n 1 (j' := 17) (lv' := [some (.ref 70), some (.long w), none, some (.int r), some (.long y), none, some (.int (nI q)), some (.int (nI i)), l8]) (st' := [.int (nI i), .long K]) (h' := (shT, fi, fl, fr)) rfl ?_
          refine gp_of (fun _ k9 => g_call (y := 161) (as := [.long K, .int (nI i)]) (st' := []) rfl rfl (hs) k9) ?_
          refine gp_of (fun _ k9 => g_ift rfl (show ¬ (1 : Int32) = (0 : Int32) from by decide) k9) ?_
          refine gp_n 2 (j' := 22) (lv' := [some (.ref 70), some (.long w), none, some (.int r), some (.long y), none, some (.int (nI q)), some (.int (nI i)), l8]) (st' := [.ref 70, .int (nI q)]) (h' := (shT, fi, fl, fr)) rfl ?_
          refine gp_of (fun _ k9 => g_getI (x := nI k) rfl (Or.inl rfl) rfl (by decide) (c2) k9) ?_
          refine gp_of (fun _ k9 => g_ict rfl (show (nI k) ≤ (nI q) from nI_le (by omega) (by omega)) k9) ?_
          refine gp_n 2 (j' := 30) (lv' := [some (.ref 70), some (.long w), none, some (.int r), some (.long y), none, some (.int (nI q)), some (.int (nI i)), l8]) (st' := [.ref 70, .int r]) (h' := (shT, fi, fl, fr)) rfl ?_
          refine gp_of (fun _ k9 => g_getI (x := nI c) rfl (Or.inl rfl) rfl (by decide) (c3) k9) ?_
          refine gp_n 4 (j' := 35) (lv' := [some (.ref 70), some (.long w), none, some (.int r), some (.long y), none, some (.int (nI q)), some (.int (nI i)), l8]) (st' := [.ref 70, .int (nI q), .int ((nI c) - 1), .int r]) (h' := (shT, fi, fl, fr)) rfl ?_
          refine gp_of (fun _ k9 => g_getI (x := nI k) rfl (Or.inl rfl) rfl (by decide) (c2) k9) ?_
          refine gp_n 2 (j' := 38) (lv' := [some (.ref 70), some (.long w), none, some (.int r), some (.long y), none, some (.int (nI q)), some (.int (nI i)), l8]) (st' := [.int (((nI c) - 1) - ((nI q) - (nI k))), .int r]) (h' := (shT, fi, fl, fr)) rfl ?_
          rw [es]
          refine gp_n 3 (j' := 41) (lv' := [some (.ref 70), some (.long w), none, some (.int r), some (.long y), none, some (.int (nI q)), some (.int (nI i)), l8]) (st' := [.int ((r >>> ((nI (c - 1 - (q - k))) &&& 31)) &&& 1)]) (h' := (shT, fi, fl, fr)) rfl ?_
          rw [r0]
          refine gp_n 1 (j' := 42) (lv' := [some (.ref 70), some (.long w), none, some (.int r), some (.long y), none, some (.int (nI q)), some (.int (nI i)), l8]) (st' := [.int 1, .int 0]) (h' := (shT, fi, fl, fr)) rfl ?_
          refine gp_of (fun _ k9 => g_ict rfl (show ¬ (0 : Int32) = (1 : Int32) from by decide) k9) ?_
          refine gp_n 3 (j' := 48) (lv' := [some (.ref 70), some (.long w), none, some (.int r), some (.long y), none, some (.int (nI q)), some (.int (nI i)), some (.int 0)]) (st' := [.int 0]) (h' := (shT, fi, fl, fr)) rfl ?_
          refine gp_of (fun _ k9 => g_ift rfl (show (0 : Int32) = (0 : Int32) from by decide) k9) ?_
          refine gp_n 3 (j' := 10) (lv' := [some (.ref 70), some (.long w), none, some (.int r), some (.long y), none, some (.int ((nI q) + 1)), some (.int ((nI i) + 1)), some (.int 0)]) (st' := []) (h' := (shT, fi, fl, fr)) rfl ?_
          rw [nI_1, nI_1]
          exact g
        · have r1 := rb_1 mb.symm
          have g := g1 rfl (some (.int 1))
          refine gp_n 2 (j' := 12) (lv' := [some (.ref 70), some (.long w), none, some (.int r), some (.long y), none, some (.int (nI q)), some (.int (nI i)), l8]) (st' := [.ref 70, .int (nI i)]) (h' := (shT, fi, fl, fr)) rfl ?_
          refine gp_of (fun _ k9 => g_getI (x := nI N) rfl (Or.inl rfl) rfl (by decide) (c1) k9) ?_
          refine gp_of (fun _ k9 => g_icf rfl (show ¬ ((nI N) ≤ (nI i)) from nI_ge (by omega) (by omega)) k9) ?_
          refine gp_n 1 (j' := 15) (lv' := [some (.ref 70), some (.long w), none, some (.int r), some (.long y), none, some (.int (nI q)), some (.int (nI i)), l8]) (st' := [.ref 70]) (h' := (shT, fi, fl, fr)) rfl ?_
          refine gp_of (fun _ k9 => g_getL (x := K) rfl rfl (by decide) (c7) k9) ?_
          refine gp_n 1 (j' := 17) (lv' := [some (.ref 70), some (.long w), none, some (.int r), some (.long y), none, some (.int (nI q)), some (.int (nI i)), l8]) (st' := [.int (nI i), .long K]) (h' := (shT, fi, fl, fr)) rfl ?_
          refine gp_of (fun _ k9 => g_call (y := 161) (as := [.long K, .int (nI i)]) (st' := []) rfl rfl (hs) k9) ?_
          refine gp_of (fun _ k9 => g_ift rfl (show ¬ (1 : Int32) = (0 : Int32) from by decide) k9) ?_
          refine gp_n 2 (j' := 22) (lv' := [some (.ref 70), some (.long w), none, some (.int r), some (.long y), none, some (.int (nI q)), some (.int (nI i)), l8]) (st' := [.ref 70, .int (nI q)]) (h' := (shT, fi, fl, fr)) rfl ?_
          refine gp_of (fun _ k9 => g_getI (x := nI k) rfl (Or.inl rfl) rfl (by decide) (c2) k9) ?_
          refine gp_of (fun _ k9 => g_ict rfl (show (nI k) ≤ (nI q) from nI_le (by omega) (by omega)) k9) ?_
          refine gp_n 2 (j' := 30) (lv' := [some (.ref 70), some (.long w), none, some (.int r), some (.long y), none, some (.int (nI q)), some (.int (nI i)), l8]) (st' := [.ref 70, .int r]) (h' := (shT, fi, fl, fr)) rfl ?_
          refine gp_of (fun _ k9 => g_getI (x := nI c) rfl (Or.inl rfl) rfl (by decide) (c3) k9) ?_
          refine gp_n 4 (j' := 35) (lv' := [some (.ref 70), some (.long w), none, some (.int r), some (.long y), none, some (.int (nI q)), some (.int (nI i)), l8]) (st' := [.ref 70, .int (nI q), .int ((nI c) - 1), .int r]) (h' := (shT, fi, fl, fr)) rfl ?_
          refine gp_of (fun _ k9 => g_getI (x := nI k) rfl (Or.inl rfl) rfl (by decide) (c2) k9) ?_
          refine gp_n 2 (j' := 38) (lv' := [some (.ref 70), some (.long w), none, some (.int r), some (.long y), none, some (.int (nI q)), some (.int (nI i)), l8]) (st' := [.int (((nI c) - 1) - ((nI q) - (nI k))), .int r]) (h' := (shT, fi, fl, fr)) rfl ?_
          rw [es]
          refine gp_n 3 (j' := 41) (lv' := [some (.ref 70), some (.long w), none, some (.int r), some (.long y), none, some (.int (nI q)), some (.int (nI i)), l8]) (st' := [.int ((r >>> ((nI (c - 1 - (q - k))) &&& 31)) &&& 1)]) (h' := (shT, fi, fl, fr)) rfl ?_
          rw [r1]
          refine gp_n 1 (j' := 42) (lv' := [some (.ref 70), some (.long w), none, some (.int r), some (.long y), none, some (.int (nI q)), some (.int (nI i)), l8]) (st' := [.int 1, .int 1]) (h' := (shT, fi, fl, fr)) rfl ?_
          refine gp_of (fun _ k9 => g_icf rfl (show ¬ (¬ (1 : Int32) = (1 : Int32)) from by decide) k9) ?_
          refine gp_n 4 (j' := 48) (lv' := [some (.ref 70), some (.long w), none, some (.int r), some (.long y), none, some (.int (nI q)), some (.int (nI i)), some (.int 1)]) (st' := [.int 1]) (h' := (shT, fi, fl, fr)) rfl ?_
          refine gp_of (fun _ k9 => g_iff rfl (show ¬ ((1 : Int32) = (0 : Int32)) from by decide) k9) ?_
          refine gp_n 5 (j' := 54) (lv' := [some (.ref 70), some (.long w), none, some (.int r), some (.long y), none, some (.int (nI q)), some (.int (nI i)), some (.int 1)]) (st' := [.long (y ||| ((1 : Int64) <<< ((nI i : Int32).toInt64 &&& 63)))]) (h' := (shT, fi, fl, fr)) rfl ?_
          show GoP pmT none cd_173 _ _ [.long (y ||| bitAt i)] _ _
          refine gp_n 4 (j' := 10) (lv' := [some (.ref 70), some (.long w), none, some (.int r), some (.long (y ||| bitAt i)), none, some (.int ((nI q) + 1)), some (.int ((nI i) + 1)), some (.int 1)]) (st' := []) (h' := (shT, fi, fl, fr)) rfl ?_
          rw [nI_1, nI_1]
          exact g
theorem ch_ev2 {N k c : Nat} {K w : Int64} {po : Int32} {h : PmH} (hI : HI hdT shT h) (hN : N ≤ 64) (hkc : popc K = k + c) (hc8 : c ≤ 8) (c1 : ph_i h 70 14 = nI N) (c2 : ph_i h 70 16 = nI k) (c3 : ph_i h 70 17 = nI c) (c4 : ph_i h 70 18 = po) (c7 : ph_l h 70 21 = K) : ∃ y, Ev pmT 173 [.ref 70, .long w] h (some (.long y)) h ∧ ∀ j, j < 64 → bl y j = (decide (j < N) && (bl K j && mbit k c w (ckS k c po w) (cntb K j))) := by
  have p64 := popc_le K
  have ck := co_ev (w := w) hI (show k ≤ 64 by omega) hc8 c3 c2 c4
  have hSS := hI.1
  obtain ⟨S, fi, fl, fr⟩ := h
  have hS : S = shT := hSS
  subst hS
  obtain ⟨q, g, y, y1, y2⟩ := co2_go (w := w) (r := ckS k c po w) (fr := fr) hN hkc hc8 c1 c2 c3 c7 N 0 0 none (by omega) (fun j hj => by rw [bl_0 j hj, decide_eq_false (Nat.not_lt_zero _)]; rfl)
  subst y1
  refine ⟨y, Ev.of (es := cd_173) (ml := 9) (lv := [some (.ref 70), some (.long w), none, none, none, none, none, none, none]) rfl rfl rfl ?_, y2⟩
  refine go_of ?_
  refine gp_n 2 (j' := 2) (lv' := [some (.ref 70), some (.long w), none, none, none, none, none, none, none]) (st' := [.long w, .ref 70]) (h' := (shT, fi, fl, fr)) rfl ?_
  refine gp_of (fun _ k9 => g_call (y := 174) (as := [.ref 70, .long w]) (st' := []) rfl rfl (ck) k9) ?_
  refine gp_n 7 (j' := 10) (lv' := [some (.ref 70), some (.long w), none, some (.int (ckS k c po w)), some (.long 0), none, some (.int (nI (cntb K 0))), some (.int (nI 0)), none]) (st' := []) (h' := (shT, fi, fl, fr)) rfl ?_
  exact gp_done g rfl
/-- the model's word -/
theorem wm_ev {m k c : Nat} {K w x : Int64} {po : Int32} {h : PmH} (hm : m ≤ 6) (hx : ∀ j, j < 64 → bl x j = (decide (j < 2 ^ m) && (bl K j && mbit k c w (ckS k c po w) (cntb K j)))) : ∃ y, Ev pmT 175 [.long x, .int (nI (2 ^ m))] h (some (.long y)) h ∧ wdP m (2 ^ m) k c K w po y := by
  obtain ⟨y, e, hy⟩ := bm_ev2 hm (h := h) (x := x) (fun i hi => by
    by_cases h1 : i < 64
    · rw [hx i h1, decide_eq_false (by omega), Bool.false_and]
    · exact bl_64 x (by omega))
  refine ⟨y, e, fun i hi => ?_⟩
  rw [hy i hi]
  exact bfN_cg m 0 (by omega) hx i hi
