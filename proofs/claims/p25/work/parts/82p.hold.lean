/-! WHAT THE KEPT CHANNELS SAY -/
def gaN (K ch : Int64) : Nat → Int64
  | 0 => 0
  | i + 1 => if bl K i = true then gaN K ch i ||| ((us6 ch (nI i) &&& 1) <<< ((nI (cntb K i) : Int32).toInt64 &&& 63)) else gaN K ch i
def gb (K ch : Int64) : Nat → Nat → Bool
  | 0, _ => false
  | i + 1, b => gb K ch i b || (bl K i && (decide (cntb K i = b) && bl ch i))
theorem gaN_bl {K ch : Int64} : ∀ n, n ≤ 64 → ∀ b, b < 64 → bl (gaN K ch n) b = gb K ch n b
  | 0, _, b, hb => bl_0 b hb
  | n + 1, hn, b, hb => by
    have ih := gaN_bl (K := K) (ch := ch) n (by omega) b hb
    rw [gaN, gb]
    cases hk : bl K n
    · rw [if_neg (by decide), ih, Bool.false_and, Bool.or_false]
    · have cl := cntb_le K n
      rw [if_pos rfl, bl_or, ih, Bool.true_and, bl_shl _ (by omega) _ hb, ub_l ch (by omega)]
      congr 1
      by_cases h1 : cntb K n = b
      · rw [decide_eq_true h1, decide_eq_true (by omega), Bool.true_and, Bool.true_and, show b - cntb K n = 0 by omega]
        cases bl ch n
        · exact bl_0 0 (by decide)
        · exact bl_1 0 (by decide)
      · rw [decide_eq_false h1, Bool.false_and]
        by_cases h2 : cntb K n ≤ b
        · rw [decide_eq_true h2, Bool.true_and]
          split
          · rw [bl_1 _ (by omega)]
            exact decide_eq_false (by omega)
          · exact bl_0 _ (by omega)
        · rw [decide_eq_false h2, Bool.false_and]
theorem cntb_up (K : Int64) {i : Nat} : ∀ n, cntb K i ≤ cntb K (i + n)
  | 0 => Nat.le_refl _
  | n + 1 => Nat.le_trans (cntb_up K n) (by
    show cntb K (i + n) ≤ cntb K (i + n) + _
    omega)
theorem cntb_in {K : Int64} {i j : Nat} (hi : bl K i = true) (h : i < j) : cntb K i < cntb K j := by
  have := cntb_up K (i := i + 1) (j - (i + 1))
  rw [show i + 1 + (j - (i + 1)) = j by omega] at this
  have e : cntb K (i + 1) = cntb K i + (if bl K i = true then 1 else 0) := rfl
  rw [hi, if_pos rfl] at e
  omega
theorem gb_no {K ch : Int64} {b : Nat} : ∀ n, (∀ i, i < n → bl K i = true → ¬ cntb K i = b) → gb K ch n b = false
  | 0, _ => rfl
  | n + 1, h => by
    rw [gb, gb_no n (fun i hi => h i (by omega)), Bool.false_or]
    cases hk : bl K n
    · rfl
    · rw [decide_eq_false (h n (by omega) hk)]
      rfl
theorem gb_at {K ch : Int64} {i : Nat} (hi : bl K i = true) : ∀ n, i < n → gb K ch n (cntb K i) = bl ch i
  | 0, h => absurd h (Nat.not_lt_zero i)
  | n + 1, h => by
    rw [gb]
    by_cases e : i = n
    · subst e
      rw [gb_no i (fun j hj hk => by have := cntb_in hk hj; omega), hi, decide_eq_true rfl, Bool.false_or, Bool.true_and, Bool.true_and]
    · rw [gb_at hi n (by omega)]
      have := cntb_in hi (show i < n by omega)
      rw [decide_eq_false (show ¬ cntb K n = cntb K i by omega), Bool.false_and, Bool.and_false, Bool.or_false]
theorem rank_ex {K : Int64} {b : Nat} : ∀ n, b < cntb K n → ∃ i, i < n ∧ bl K i = true ∧ cntb K i = b
  | 0, h => absurd h (Nat.not_lt_zero b)
  | n + 1, h => by
    have e : cntb K (n + 1) = cntb K n + (if bl K n = true then 1 else 0) := rfl
    by_cases h1 : b < cntb K n
    · obtain ⟨i, i1, i2⟩ := rank_ex n h1
      exact ⟨i, by omega, i2⟩
    · cases hk : bl K n
      · rw [hk, if_neg (by decide)] at e
        omega
      · rw [hk, if_pos rfl] at e
        exact ⟨n, by omega, hk, by omega⟩
/-- the message of channels -/
def mgW (K : Int64) (N k : Nat) (ch : Int64) : Int64 := gaN K ch N &&& lwb k
theorem mgW_bl {K ch : Int64} {N k b : Nat} (hN : N ≤ 64) (hk : k ≤ 64) (hb : b < 64) : bl (mgW K N k ch) b = (decide (b < k) && gb K ch N b) := by
  unfold mgW
  rw [bl_and, gaN_bl N hN b hb, lwb_bl k (by omega) b hb, Bool.and_comm]
theorem mgW_fit {K ch : Int64} {N k : Nat} (hN : N ≤ 64) (hk : k ≤ 64) : fitP k (mgW K N k ch) := fun b h1 h2 => by rw [mgW_bl hN hk h2, decide_eq_false (by omega), Bool.false_and]
/-- whether a check holds -/
abbrev hdP (K : Int64) (N k c : Nat) (po : Int32) (ch : Int64) : Prop := ∀ j, j < 64 → (decide (j < N) && (bl K j && mbit k c (mgW K N k ch) (ckS k c po (mgW K N k ch)) (cntb K j))) = bl ch j
theorem hdP_eq {K ch y : Int64} {N k c : Nat} {po : Int32} (hN : N ≤ 64) (hp : popc K = k + c) (hK : ∀ i, N ≤ i → i < 64 → bl K i = false) (hs : ∀ j, j < 64 → bl ch j = true → j < N ∧ bl K j = true) (hy : ∀ b, b < 64 → bl y b = mbit k c (mgW K N k ch) (ckS k c po (mgW K N k ch)) b) : y = gaN K ch N ↔ hdP K N k c po ch := by
  constructor
  · intro e j hj
    by_cases hjk : j < N ∧ bl K j = true
    · rw [decide_eq_true hjk.1, hjk.2, Bool.true_and, Bool.true_and]
      have cl := cntb_le K j
      rw [← hy _ (by omega), e, gaN_bl N hN _ (by omega), gb_at hjk.2 N hjk.1]
    · have hf : bl ch j = false := by
        cases hb : bl ch j
        · rfl
        · exact absurd (hs j hj hb) hjk
      rw [hf]
      by_cases h1 : j < N
      · cases hk : bl K j
        · rw [Bool.false_and, Bool.and_false]
        · exact absurd ⟨h1, hk⟩ hjk
      · rw [decide_eq_false h1, Bool.false_and]
  · intro h
    refine bl_ext (fun b hb => ?_)
    rw [hy b hb, gaN_bl N hN b hb]
    by_cases h1 : b < popc K
    · obtain ⟨i, i1, i2, i3⟩ := rank_ex 64 h1
      have iN : i < N := by
        refine Decidable.byContradiction (fun z => ?_)
        rw [hK i (by omega) i1] at i2
        cases i2
      have := h i i1
      rw [decide_eq_true iN, i2, Bool.true_and, Bool.true_and, i3] at this
      rw [this, ← i3, gb_at i2 N iN]
    · rw [gb_no N (fun i hi hk e => by
        have := cntb_in hk (show i < 64 by omega)
        unfold popc at h1
        omega)]
      unfold mbit
      rw [if_neg (by omega), if_neg (by omega)]
theorem ga_go {N : Nat} {K ch : Int64} {h : PmH} (hI : HI hdT shT h) (hN : N ≤ 64) (c1 : ph_i h 1 1 = nI N) (c7 : ph_l h 1 7 = K) : ∀ (n i : Nat), i + n = N → Go pmT none cd_107 6 [some (.ref 1), some (.long ch), none, some (.long (gaN K ch i)), none, some (.int (nI (cntb K i))), some (.int (nI i))] [] h (some (.long (gaN K ch N)), h) := by
  intro n
  induction n with
  | zero =>
    intro i hi
    have hi : i = N := by omega
    subst hi
    generalize gaN K ch i = q
    generalize cntb K i = d
    obtain ⟨S, fi, fl, fr⟩ := h
    have hS : S = shT := hI.1
    subst hS
    have c1 : fi 1 1 = nI i := c1
    refine go_of ?_
    refine gp_n 2 (j' := 8) (lv' := [some (.ref 1), some (.long ch), none, some (.long q), none, some (.int (nI d)), some (.int (nI i))]) (st' := [.ref 1, .int (nI i)]) (h' := (shT, fi, fl, fr)) rfl ?_
    refine gp_of (fun _ k9 => g_getI (x := nI i) rfl (Or.inl rfl) rfl (by decide) (c1) k9) ?_
    refine gp_of (fun _ k9 => g_ict rfl (show (nI i) ≤ (nI i) from Int32.le_refl _) k9) ?_
    refine gp_n 1 (j' := 28) (lv' := [some (.ref 1), some (.long ch), none, some (.long q), none, some (.int (nI d)), some (.int (nI i))]) (st' := [.long q]) (h' := (shT, fi, fl, fr)) rfl ?_
    refine gp_done (g_lret rfl) ?_
    rfl
  | succ n ih =>
    intro i hi
    have g := ih (i + 1) (by omega)
    have kp := kp_ev_1 hI c7 (i := i) (by omega)
    have e1 : cntb K (i + 1) = cntb K i + (if bl K i = true then 1 else 0) := rfl
    rw [gaN, e1] at g
    unfold us6 at g
    generalize gaN K ch i = q at *
    generalize gaN K ch N = e at *
    obtain ⟨S, fi, fl, fr⟩ := h
    have hS : S = shT := hI.1
    subst hS
    have c1 : fi 1 1 = nI N := c1
    generalize cntb K i = d at *
    cases hb : bl K i
    · rw [hb] at kp g
      have kp : Ev pmT 47 [.ref 1, .int (nI i)] (shT, fi, fl, fr) (some (.int 0)) (shT, fi, fl, fr) := kp
      rw [if_neg (by decide), if_neg (by decide)] at g
      refine go_of ?_
      refine gp_n 2 (j' := 8) (lv' := [some (.ref 1), some (.long ch), none, some (.long q), none, some (.int (nI d)), some (.int (nI i))]) (st' := [.ref 1, .int (nI i)]) (h' := (shT, fi, fl, fr)) rfl ?_
      refine gp_of (fun _ k9 => g_getI (x := nI N) rfl (Or.inl rfl) rfl (by decide) (c1) k9) ?_
      refine gp_of (fun _ k9 => g_icf rfl (show ¬ ((nI N) ≤ (nI i)) from nI_ge (by omega) (by omega)) k9) ?_
      refine gp_n 2 (j' := 12) (lv' := [some (.ref 1), some (.long ch), none, some (.long q), none, some (.int (nI d)), some (.int (nI i))]) (st' := [.int (nI i), .ref 1]) (h' := (shT, fi, fl, fr)) rfl ?_
      refine gp_of (fun _ k9 => g_call (y := 47) (as := [.ref 1, .int (nI i)]) (st' := []) rfl rfl (kp) k9) ?_
      refine gp_of (fun _ k9 => g_ift rfl (show (0 : Int32) = (0 : Int32) from by decide) k9) ?_
      refine gp_n 2 (j' := 6) (lv' := [some (.ref 1), some (.long ch), none, some (.long q), none, some (.int (nI d)), some (.int ((nI i) + 1))]) (st' := []) (h' := (shT, fi, fl, fr)) rfl ?_
      rw [nI_1]
      exact gp_done g rfl
    · rw [hb] at kp g
      have kp : Ev pmT 47 [.ref 1, .int (nI i)] (shT, fi, fl, fr) (some (.int 1)) (shT, fi, fl, fr) := kp
      rw [if_pos rfl, if_pos rfl] at g
      refine go_of ?_
      refine gp_n 2 (j' := 8) (lv' := [some (.ref 1), some (.long ch), none, some (.long q), none, some (.int (nI d)), some (.int (nI i))]) (st' := [.ref 1, .int (nI i)]) (h' := (shT, fi, fl, fr)) rfl ?_
      refine gp_of (fun _ k9 => g_getI (x := nI N) rfl (Or.inl rfl) rfl (by decide) (c1) k9) ?_
      refine gp_of (fun _ k9 => g_icf rfl (show ¬ ((nI N) ≤ (nI i)) from nI_ge (by omega) (by omega)) k9) ?_
      refine gp_n 2 (j' := 12) (lv' := [some (.ref 1), some (.long ch), none, some (.long q), none, some (.int (nI d)), some (.int (nI i))]) (st' := [.int (nI i), .ref 1]) (h' := (shT, fi, fl, fr)) rfl ?_
      refine gp_of (fun _ k9 => g_call (y := 47) (as := [.ref 1, .int (nI i)]) (st' := []) rfl rfl (kp) k9) ?_
      refine gp_of (fun _ k9 => g_iff rfl (show ¬ ((1 : Int32) = (0 : Int32)) from by decide) k9) ?_
      refine gp_n 13 (j' := 6) (lv' := [some (.ref 1), some (.long ch), none, some (.long (q ||| ((((ch.toUInt64 >>> ((nI i : Int32).toInt64.toUInt64 &&& Int64.toUInt64 63)).toInt64) &&& 1) <<< ((nI d : Int32).toInt64 &&& 63)))), none, some (.int ((nI d) + 1)), some (.int ((nI i) + 1))]) (st' := []) (h' := (shT, fi, fl, fr)) rfl ?_
      rw [nI_1, nI_1]
      exact gp_done g rfl
theorem ga_ev {N : Nat} {K ch : Int64} {h : PmH} (hI : HI hdT shT h) (hN : N ≤ 64) (c1 : ph_i h 1 1 = nI N) (c7 : ph_l h 1 7 = K) : Ev pmT 107 [.ref 1, .long ch] h (some (.long (gaN K ch N))) h := by
  have g := ga_go (ch := ch) hI hN c1 c7 N 0 (by omega)
  refine Ev.of (es := cd_107) (ml := 7) (lv := [some (.ref 1), some (.long ch), none, none, none, none, none]) rfl rfl rfl ?_
  refine go_of ?_
  refine gp_n 6 (j' := 6) (lv' := [some (.ref 1), some (.long ch), none, some (.long (gaN K ch 0)), none, some (.int (nI (cntb K 0))), some (.int (nI 0))]) (st' := []) (h' := h) rfl ?_
  exact gp_done g rfl
theorem mo_C {N k : Nat} {K ch : Int64} {h : PmH} (hI : HI hdT shT h) (hN : N ≤ 64) (hk : k ≤ 64) (c1 : ph_i h 1 1 = nI N) (c2 : ph_i h 1 2 = nI k) (c7 : ph_l h 1 7 = K) : Ev pmT 108 [.ref 1, .long ch] h (some (.long (mgW K N k ch))) h := by
  have ga := ga_ev (ch := ch) hI hN c1 c7
  have lw := lwb_ev hk (h := h)
  unfold mgW
  generalize gaN K ch N = g at *
  generalize lwb k = w at *
  refine Ev.of (es := cd_108) (ml := 3) (lv := [some (.ref 1), some (.long ch), none]) rfl rfl rfl ?_
  obtain ⟨S, fi, fl, fr⟩ := h
  have hS : S = shT := hI.1
  subst hS
  have c2 : fi 1 2 = nI k := c2
  refine go_of ?_
  refine gp_n 2 (j' := 2) (lv' := [some (.ref 1), some (.long ch), none]) (st' := [.long ch, .ref 1]) (h' := (shT, fi, fl, fr)) rfl ?_
  refine gp_of (fun _ k9 => g_call (y := 107) (as := [.ref 1, .long ch]) (st' := []) rfl rfl (ga) k9) ?_
  refine gp_n 1 (j' := 4) (lv' := [some (.ref 1), some (.long ch), none]) (st' := [.ref 1, .long g]) (h' := (shT, fi, fl, fr)) rfl ?_
  refine gp_of (fun _ k9 => g_getI (x := nI k) rfl (Or.inl rfl) rfl (by decide) (c2) k9) ?_
  refine gp_of (fun _ k9 => g_call (y := 54) (as := [.int (nI k)]) (st' := [.long g]) rfl rfl (lw) k9) ?_
  refine gp_n 1 (j' := 7) (lv' := [some (.ref 1), some (.long ch), none]) (st' := [.long (g &&& w)]) (h' := (shT, fi, fl, fr)) rfl ?_
  refine gp_done (g_lret rfl) ?_
  rfl
theorem hd_C {N k c : Nat} {K ch : Int64} {po : Int32} {h : PmH} (hI : HI hdT shT h) (hN : N ≤ 64) (hp : popc K = k + c) (hc8 : c ≤ 8) (hK : ∀ i, N ≤ i → i < 64 → bl K i = false) (hs : ∀ j, j < 64 → bl ch j = true → j < N ∧ bl K j = true) (c1 : ph_i h 1 1 = nI N) (c2 : ph_i h 1 2 = nI k) (c3 : ph_i h 1 3 = nI c) (c4 : ph_i h 1 4 = po) (c7 : ph_l h 1 7 = K) : Ev pmT 106 [.ref 1, .long ch] h (some (.int (b01 (decide (hdP K N k c po ch))))) h := by
  have pl := popc_le K
  have ga := ga_ev (ch := ch) hI hN c1 c7
  have lw := lwb_ev (k := k) (by omega) (h := h)
  obtain ⟨y, y1, y2⟩ := cd_ev hI (w := mgW K N k ch) (by omega) hc8 (mgW_fit hN (by omega)) c3 c2 c4
  have key : y = gaN K ch N ↔ decide (hdP K N k c po ch) = true := (hdP_eq hN hp hK hs y2).trans (decide_eq_true_iff).symm
  unfold mgW at y1
  clear y2
  generalize decide (hdP K N k c po ch) = D at *
  generalize gaN K ch N = g at *
  generalize lwb k = w at *
  refine Ev.of (es := cd_106) (ml := 5) (lv := [some (.ref 1), some (.long ch), none, none, none]) rfl rfl rfl ?_
  obtain ⟨S, fi, fl, fr⟩ := h
  have hS : S = shT := hI.1
  subst hS
  have c2 : fi 1 2 = nI k := c2
  refine go_of ?_
  by_cases hd : y = g
  · rw [key.mp hd]
    have l0 : lg_cmp y g = 0 := by rw [lg_cmp_eq]; exact hd
    refine gp_n 2 (j' := 2) (lv' := [some (.ref 1), some (.long ch), none, none, none]) (st' := [.long ch, .ref 1]) (h' := (shT, fi, fl, fr)) rfl ?_
    refine gp_of (fun _ k9 => g_call (y := 107) (as := [.ref 1, .long ch]) (st' := []) rfl rfl (ga) k9) ?_
    refine gp_n 4 (j' := 7) (lv' := [some (.ref 1), some (.long ch), none, some (.long g), none]) (st' := [.ref 1, .long g, .ref 1]) (h' := (shT, fi, fl, fr)) rfl ?_
    refine gp_of (fun _ k9 => g_getI (x := nI k) rfl (Or.inl rfl) rfl (by decide) (c2) k9) ?_
    refine gp_of (fun _ k9 => g_call (y := 54) (as := [.int (nI k)]) (st' := [.long g, .ref 1]) rfl rfl (lw) k9) ?_
    refine gp_n 1 (j' := 10) (lv' := [some (.ref 1), some (.long ch), none, some (.long g), none]) (st' := [.long (g &&& w), .ref 1]) (h' := (shT, fi, fl, fr)) rfl ?_
    refine gp_of (fun _ k9 => g_call (y := 59) (as := [.ref 1, .long (g &&& w)]) (st' := []) rfl rfl (y1) k9) ?_
    refine gp_n 2 (j' := 13) (lv' := [some (.ref 1), some (.long ch), none, some (.long g), none]) (st' := [.int (lg_cmp y g)]) (h' := (shT, fi, fl, fr)) rfl ?_
    refine gp_of (fun _ k9 => g_iff rfl (show ¬ (¬ (lg_cmp y g) = (0 : Int32)) from not_not_intro l0) k9) ?_
    refine gp_n 2 (j' := 17) (lv' := [some (.ref 1), some (.long ch), none, some (.long g), none]) (st' := [.int 1]) (h' := (shT, fi, fl, fr)) rfl ?_
    refine gp_done (g_retz rfl (by decide)) ?_
    rfl
  · rw [Bool.eq_false_iff.mpr (fun z => hd (key.mpr z))]
    have l0 : ¬ lg_cmp y g = 0 := by rw [lg_cmp_eq]; exact hd
    refine gp_n 2 (j' := 2) (lv' := [some (.ref 1), some (.long ch), none, none, none]) (st' := [.long ch, .ref 1]) (h' := (shT, fi, fl, fr)) rfl ?_
    refine gp_of (fun _ k9 => g_call (y := 107) (as := [.ref 1, .long ch]) (st' := []) rfl rfl (ga) k9) ?_
    refine gp_n 4 (j' := 7) (lv' := [some (.ref 1), some (.long ch), none, some (.long g), none]) (st' := [.ref 1, .long g, .ref 1]) (h' := (shT, fi, fl, fr)) rfl ?_
    refine gp_of (fun _ k9 => g_getI (x := nI k) rfl (Or.inl rfl) rfl (by decide) (c2) k9) ?_
    refine gp_of (fun _ k9 => g_call (y := 54) (as := [.int (nI k)]) (st' := [.long g, .ref 1]) rfl rfl (lw) k9) ?_
    refine gp_n 1 (j' := 10) (lv' := [some (.ref 1), some (.long ch), none, some (.long g), none]) (st' := [.long (g &&& w), .ref 1]) (h' := (shT, fi, fl, fr)) rfl ?_
    refine gp_of (fun _ k9 => g_call (y := 59) (as := [.ref 1, .long (g &&& w)]) (st' := []) rfl rfl (y1) k9) ?_
    refine gp_n 2 (j' := 13) (lv' := [some (.ref 1), some (.long ch), none, some (.long g), none]) (st' := [.int (lg_cmp y g)]) (h' := (shT, fi, fl, fr)) rfl ?_
    refine gp_of (fun _ k9 => g_ift rfl (show ¬ (lg_cmp y g) = (0 : Int32) from l0) k9) ?_
    refine gp_n 1 (j' := 17) (lv' := [some (.ref 1), some (.long ch), none, some (.long g), none]) (st' := [.int 0]) (h' := (shT, fi, fl, fr)) rfl ?_
    refine gp_done (g_retz rfl (by decide)) ?_
    rfl
/-! the model's -/
def mmN (K : Int64) (k : Nat) (ch : Int64) : Nat → Int64
  | 0 => 0
  | i + 1 => if bl K i = true ∧ cntb K i < k ∧ bl ch i = true then mmN K k ch i ||| bitAt (cntb K i) else mmN K k ch i
theorem mmN_bl {K ch : Int64} {k : Nat} : ∀ n, n ≤ 64 → ∀ b, b < 64 → bl (mmN K k ch n) b = (decide (b < k) && gb K ch n b)
  | 0, _, b, hb => by
    rw [gb, Bool.and_false]
    exact bl_0 b hb
  | n + 1, hn, b, hb => by
    have ih := mmN_bl (K := K) (ch := ch) (k := k) n (by omega) b hb
    have cl := cntb_le K n
    rw [mmN, gb]
    by_cases hc : bl K n = true ∧ cntb K n < k ∧ bl ch n = true
    · rw [if_pos hc, bl_or, ih, bitAt_bl (by omega) hb, hc.1, hc.2.2, Bool.true_and, Bool.and_true]
      by_cases e : cntb K n = b
      · rw [decide_eq_true e, decide_eq_true e.symm, decide_eq_true (show b < k by omega), Bool.true_and, Bool.true_and]
      · rw [decide_eq_false e, decide_eq_false (show ¬ b = cntb K n from fun z => e z.symm), Bool.or_false, Bool.or_false]
    · rw [if_neg hc, ih]
      cases hk : bl K n
      · rw [Bool.false_and, Bool.or_false]
      · cases h2 : bl ch n
        · rw [Bool.and_false, Bool.and_false, Bool.or_false]
        · rw [Bool.true_and, Bool.and_true]
          by_cases e : cntb K n = b
          · rw [decide_eq_true e, Bool.or_true, decide_eq_false (fun z => hc ⟨hk, by omega, h2⟩), Bool.false_and, Bool.false_and]
          · rw [decide_eq_false e, Bool.or_false]
theorem mo_go {N k : Nat} {K ch : Int64} {h : PmH} (hI : HI hdT shT h) (hN : N ≤ 64) (hk64 : k ≤ 64) (c1 : ph_i h 70 14 = nI N) (c2 : ph_i h 70 16 = nI k) (c7 : ph_l h 70 21 = K) : ∀ (n i : Nat), i + n = N → Go pmT none cd_202 6 [some (.ref 70), some (.long ch), none, some (.long (mmN K k ch i)), none, some (.int (nI (cntb K i))), some (.int (nI i))] [] h (some (.long (mmN K k ch N)), h) := by
  intro n
  induction n with
  | zero =>
    intro i hi
    have hi : i = N := by omega
    subst hi
    generalize mmN K k ch i = q
    generalize cntb K i = d
    obtain ⟨S, fi, fl, fr⟩ := h
    have hS : S = shT := hI.1
    subst hS
    have c1 : fi 70 14 = nI i := c1
    refine go_of ?_
    refine gp_n 2 (j' := 8) (lv' := [some (.ref 70), some (.long ch), none, some (.long q), none, some (.int (nI d)), some (.int (nI i))]) (st' := [.ref 70, .int (nI i)]) (h' := (shT, fi, fl, fr)) rfl ?_
    refine gp_of (fun _ k9 => g_getI (x := nI i) rfl (Or.inl rfl) rfl (by decide) (c1) k9) ?_
    refine gp_of (fun _ k9 => g_ict rfl (show (nI i) ≤ (nI i) from Int32.le_refl _) k9) ?_
    refine gp_n 1 (j' := 34) (lv' := [some (.ref 70), some (.long ch), none, some (.long q), none, some (.int (nI d)), some (.int (nI i))]) (st' := [.long q]) (h' := (shT, fi, fl, fr)) rfl ?_
    refine gp_done (g_lret rfl) ?_
    rfl
  | succ n ih =>
    intro i hi
    have g := ih (i + 1) (by omega)
    have hs := has_ev (v := K) (i := nI i) (h := h)
    rw [hasf_bit (by omega)] at hs
    have hs2 := has_ev (v := ch) (i := nI i) (h := h)
    rw [hasf_bit (by omega)] at hs2
    have cl := cntb_le K i
    have e1 : cntb K (i + 1) = cntb K i + (if bl K i = true then 1 else 0) := rfl
    rw [mmN, e1] at g
    unfold bitAt at g
    generalize mmN K k ch i = q at *
    generalize mmN K k ch N = e at *
    obtain ⟨S, fi, fl, fr⟩ := h
    have hS : S = shT := hI.1
    subst hS
    have c1 : fi 70 14 = nI N := c1
    have c2 : fi 70 16 = nI k := c2
    have c7 : fl 70 21 = K := c7
    generalize cntb K i = d at *
    cases hb : bl K i
    · rw [hb] at hs g
      have hs : Ev pmT 161 [.long K, .int (nI i)] (shT, fi, fl, fr) (some (.int 0)) (shT, fi, fl, fr) := hs
      rw [if_neg (fun z => Bool.noConfusion z.1), if_neg (by decide)] at g
      refine go_of ?_
      refine gp_n 2 (j' := 8) (lv' := [some (.ref 70), some (.long ch), none, some (.long q), none, some (.int (nI d)), some (.int (nI i))]) (st' := [.ref 70, .int (nI i)]) (h' := (shT, fi, fl, fr)) rfl ?_
      refine gp_of (fun _ k9 => g_getI (x := nI N) rfl (Or.inl rfl) rfl (by decide) (c1) k9) ?_
      refine gp_of (fun _ k9 => g_icf rfl (show ¬ ((nI N) ≤ (nI i)) from nI_ge (by omega) (by omega)) k9) ?_
      refine gp_n 1 (j' := 11) (lv' := [some (.ref 70), some (.long ch), none, some (.long q), none, some (.int (nI d)), some (.int (nI i))]) (st' := [.ref 70]) (h' := (shT, fi, fl, fr)) rfl ?_
      refine gp_of (fun _ k9 => g_getL (x := K) rfl rfl (by decide) (c7) k9) ?_
      refine gp_n 1 (j' := 13) (lv' := [some (.ref 70), some (.long ch), none, some (.long q), none, some (.int (nI d)), some (.int (nI i))]) (st' := [.int (nI i), .long K]) (h' := (shT, fi, fl, fr)) rfl ?_
      refine gp_of (fun _ k9 => g_call (y := 161) (as := [.long K, .int (nI i)]) (st' := []) rfl rfl (hs) k9) ?_
      refine gp_of (fun _ k9 => g_iff rfl (show ¬ (¬ (0 : Int32) = (0 : Int32)) from by decide) k9) ?_
      refine gp_n 3 (j' := 6) (lv' := [some (.ref 70), some (.long ch), none, some (.long q), none, some (.int (nI d)), some (.int ((nI i) + 1))]) (st' := []) (h' := (shT, fi, fl, fr)) rfl ?_
      rw [nI_1]
      exact gp_done g rfl
    · rw [hb] at hs g
      have hs : Ev pmT 161 [.long K, .int (nI i)] (shT, fi, fl, fr) (some (.int 1)) (shT, fi, fl, fr) := hs
      by_cases hd : d < k
      · cases hb2 : bl ch i
        · rw [hb2] at hs2 g
          have hs2 : Ev pmT 161 [.long ch, .int (nI i)] (shT, fi, fl, fr) (some (.int 0)) (shT, fi, fl, fr) := hs2
          rw [if_neg (fun z => Bool.noConfusion z.2.2), if_pos rfl] at g
          refine go_of ?_
          refine gp_n 2 (j' := 8) (lv' := [some (.ref 70), some (.long ch), none, some (.long q), none, some (.int (nI d)), some (.int (nI i))]) (st' := [.ref 70, .int (nI i)]) (h' := (shT, fi, fl, fr)) rfl ?_
          refine gp_of (fun _ k9 => g_getI (x := nI N) rfl (Or.inl rfl) rfl (by decide) (c1) k9) ?_
          refine gp_of (fun _ k9 => g_icf rfl (show ¬ ((nI N) ≤ (nI i)) from nI_ge (by omega) (by omega)) k9) ?_
          refine gp_n 1 (j' := 11) (lv' := [some (.ref 70), some (.long ch), none, some (.long q), none, some (.int (nI d)), some (.int (nI i))]) (st' := [.ref 70]) (h' := (shT, fi, fl, fr)) rfl ?_
          refine gp_of (fun _ k9 => g_getL (x := K) rfl rfl (by decide) (c7) k9) ?_
          refine gp_n 1 (j' := 13) (lv' := [some (.ref 70), some (.long ch), none, some (.long q), none, some (.int (nI d)), some (.int (nI i))]) (st' := [.int (nI i), .long K]) (h' := (shT, fi, fl, fr)) rfl ?_
          refine gp_of (fun _ k9 => g_call (y := 161) (as := [.long K, .int (nI i)]) (st' := []) rfl rfl (hs) k9) ?_
          refine gp_of (fun _ k9 => g_ift rfl (show ¬ (1 : Int32) = (0 : Int32) from by decide) k9) ?_
          refine gp_n 2 (j' := 18) (lv' := [some (.ref 70), some (.long ch), none, some (.long q), none, some (.int (nI d)), some (.int (nI i))]) (st' := [.ref 70, .int (nI d)]) (h' := (shT, fi, fl, fr)) rfl ?_
          refine gp_of (fun _ k9 => g_getI (x := nI k) rfl (Or.inl rfl) rfl (by decide) (c2) k9) ?_
          refine gp_of (fun _ k9 => g_icf rfl (show ¬ ((nI k) ≤ (nI d)) from nI_ge hd (by omega)) k9) ?_
          refine gp_n 2 (j' := 22) (lv' := [some (.ref 70), some (.long ch), none, some (.long q), none, some (.int (nI d)), some (.int (nI i))]) (st' := [.int (nI i), .long ch]) (h' := (shT, fi, fl, fr)) rfl ?_
          refine gp_of (fun _ k9 => g_call (y := 161) (as := [.long ch, .int (nI i)]) (st' := []) rfl rfl (hs2) k9) ?_
          refine gp_of (fun _ k9 => g_ift rfl (show (0 : Int32) = (0 : Int32) from by decide) k9) ?_
          refine gp_n 3 (j' := 6) (lv' := [some (.ref 70), some (.long ch), none, some (.long q), none, some (.int ((nI d) + 1)), some (.int ((nI i) + 1))]) (st' := []) (h' := (shT, fi, fl, fr)) rfl ?_
          rw [nI_1, nI_1]
          exact gp_done g rfl
        · rw [hb2] at hs2 g
          have hs2 : Ev pmT 161 [.long ch, .int (nI i)] (shT, fi, fl, fr) (some (.int 1)) (shT, fi, fl, fr) := hs2
          rw [if_pos ⟨rfl, hd, rfl⟩, if_pos rfl] at g
          refine go_of ?_
          refine gp_n 2 (j' := 8) (lv' := [some (.ref 70), some (.long ch), none, some (.long q), none, some (.int (nI d)), some (.int (nI i))]) (st' := [.ref 70, .int (nI i)]) (h' := (shT, fi, fl, fr)) rfl ?_
          refine gp_of (fun _ k9 => g_getI (x := nI N) rfl (Or.inl rfl) rfl (by decide) (c1) k9) ?_
          refine gp_of (fun _ k9 => g_icf rfl (show ¬ ((nI N) ≤ (nI i)) from nI_ge (by omega) (by omega)) k9) ?_
          refine gp_n 1 (j' := 11) (lv' := [some (.ref 70), some (.long ch), none, some (.long q), none, some (.int (nI d)), some (.int (nI i))]) (st' := [.ref 70]) (h' := (shT, fi, fl, fr)) rfl ?_
          refine gp_of (fun _ k9 => g_getL (x := K) rfl rfl (by decide) (c7) k9) ?_
          refine gp_n 1 (j' := 13) (lv' := [some (.ref 70), some (.long ch), none, some (.long q), none, some (.int (nI d)), some (.int (nI i))]) (st' := [.int (nI i), .long K]) (h' := (shT, fi, fl, fr)) rfl ?_
          refine gp_of (fun _ k9 => g_call (y := 161) (as := [.long K, .int (nI i)]) (st' := []) rfl rfl (hs) k9) ?_
          refine gp_of (fun _ k9 => g_ift rfl (show ¬ (1 : Int32) = (0 : Int32) from by decide) k9) ?_
          refine gp_n 2 (j' := 18) (lv' := [some (.ref 70), some (.long ch), none, some (.long q), none, some (.int (nI d)), some (.int (nI i))]) (st' := [.ref 70, .int (nI d)]) (h' := (shT, fi, fl, fr)) rfl ?_
          refine gp_of (fun _ k9 => g_getI (x := nI k) rfl (Or.inl rfl) rfl (by decide) (c2) k9) ?_
          refine gp_of (fun _ k9 => g_icf rfl (show ¬ ((nI k) ≤ (nI d)) from nI_ge hd (by omega)) k9) ?_
          refine gp_n 2 (j' := 22) (lv' := [some (.ref 70), some (.long ch), none, some (.long q), none, some (.int (nI d)), some (.int (nI i))]) (st' := [.int (nI i), .long ch]) (h' := (shT, fi, fl, fr)) rfl ?_
          refine gp_of (fun _ k9 => g_call (y := 161) (as := [.long ch, .int (nI i)]) (st' := []) rfl rfl (hs2) k9) ?_
          refine gp_of (fun _ k9 => g_iff rfl (show ¬ ((1 : Int32) = (0 : Int32)) from by decide) k9) ?_
          refine gp_n 9 (j' := 6) (lv' := [some (.ref 70), some (.long ch), none, some (.long (q ||| ((1 : Int64) <<< ((nI d : Int32).toInt64 &&& 63)))), none, some (.int ((nI d) + 1)), some (.int ((nI i) + 1))]) (st' := []) (h' := (shT, fi, fl, fr)) rfl ?_
          rw [nI_1, nI_1]
          exact gp_done g rfl
      · rw [if_neg (fun z => hd z.2.1), if_pos rfl] at g
        refine go_of ?_
        refine gp_n 2 (j' := 8) (lv' := [some (.ref 70), some (.long ch), none, some (.long q), none, some (.int (nI d)), some (.int (nI i))]) (st' := [.ref 70, .int (nI i)]) (h' := (shT, fi, fl, fr)) rfl ?_
        refine gp_of (fun _ k9 => g_getI (x := nI N) rfl (Or.inl rfl) rfl (by decide) (c1) k9) ?_
        refine gp_of (fun _ k9 => g_icf rfl (show ¬ ((nI N) ≤ (nI i)) from nI_ge (by omega) (by omega)) k9) ?_
        refine gp_n 1 (j' := 11) (lv' := [some (.ref 70), some (.long ch), none, some (.long q), none, some (.int (nI d)), some (.int (nI i))]) (st' := [.ref 70]) (h' := (shT, fi, fl, fr)) rfl ?_
        refine gp_of (fun _ k9 => g_getL (x := K) rfl rfl (by decide) (c7) k9) ?_
        refine gp_n 1 (j' := 13) (lv' := [some (.ref 70), some (.long ch), none, some (.long q), none, some (.int (nI d)), some (.int (nI i))]) (st' := [.int (nI i), .long K]) (h' := (shT, fi, fl, fr)) rfl ?_
        refine gp_of (fun _ k9 => g_call (y := 161) (as := [.long K, .int (nI i)]) (st' := []) rfl rfl (hs) k9) ?_
        refine gp_of (fun _ k9 => g_ift rfl (show ¬ (1 : Int32) = (0 : Int32) from by decide) k9) ?_
        refine gp_n 2 (j' := 18) (lv' := [some (.ref 70), some (.long ch), none, some (.long q), none, some (.int (nI d)), some (.int (nI i))]) (st' := [.ref 70, .int (nI d)]) (h' := (shT, fi, fl, fr)) rfl ?_
        refine gp_of (fun _ k9 => g_getI (x := nI k) rfl (Or.inl rfl) rfl (by decide) (c2) k9) ?_
        refine gp_of (fun _ k9 => g_ict rfl (show (nI k) ≤ (nI d) from nI_le (by omega) (by omega)) k9) ?_
        refine gp_n 3 (j' := 6) (lv' := [some (.ref 70), some (.long ch), none, some (.long q), none, some (.int ((nI d) + 1)), some (.int ((nI i) + 1))]) (st' := []) (h' := (shT, fi, fl, fr)) rfl ?_
        rw [nI_1, nI_1]
        exact gp_done g rfl
theorem mo_M {N k : Nat} {K ch : Int64} {h : PmH} (hI : HI hdT shT h) (hN : N ≤ 64) (hk : k ≤ 64) (c1 : ph_i h 70 14 = nI N) (c2 : ph_i h 70 16 = nI k) (c7 : ph_l h 70 21 = K) : Ev pmT 202 [.ref 70, .long ch] h (some (.long (mgW K N k ch))) h := by
  have g := mo_go (ch := ch) hI hN hk c1 c2 c7 N 0 (by omega)
  have e : mmN K k ch N = mgW K N k ch := bl_ext (fun b hb => by rw [mmN_bl N hN b hb, mgW_bl hN hk hb])
  rw [e] at g
  refine Ev.of (es := cd_202) (ml := 7) (lv := [some (.ref 70), some (.long ch), none, none, none, none, none]) rfl rfl rfl ?_
  refine go_of ?_
  refine gp_n 6 (j' := 6) (lv' := [some (.ref 70), some (.long ch), none, some (.long (mmN K k ch 0)), none, some (.int (nI (cntb K 0))), some (.int (nI 0))]) (st' := []) (h' := h) rfl ?_
  exact gp_done g rfl
theorem hd_M {N k c : Nat} {K ch : Int64} {po : Int32} {h : PmH} (hI : HI hdT shT h) (hN : N ≤ 64) (hp : popc K = k + c) (hc8 : c ≤ 8) (c1 : ph_i h 70 14 = nI N) (c2 : ph_i h 70 16 = nI k) (c3 : ph_i h 70 17 = nI c) (c4 : ph_i h 70 18 = po) (c7 : ph_l h 70 21 = K) : Ev pmT 201 [.ref 70, .long ch] h (some (.int (b01 (decide (hdP K N k c po ch))))) h := by
  have pl := popc_le K
  have mo := mo_M (ch := ch) hI hN (by omega) c1 c2 c7
  obtain ⟨y, y1, y2⟩ := ch_ev2 (w := mgW K N k ch) hI hN hp hc8 c1 c2 c3 c4 c7
  have key : y = ch ↔ hdP K N k c po ch := ⟨fun e j hj => by rw [← y2 j hj, e], fun z => bl_ext (fun j hj => (y2 j hj).trans (z j hj))⟩
  have key : y = ch ↔ decide (hdP K N k c po ch) = true := key.trans (decide_eq_true_iff).symm
  clear y2
  generalize decide (hdP K N k c po ch) = D at *
  generalize mgW K N k ch = w at *
  refine Ev.of (es := cd_201) (ml := 3) (lv := [some (.ref 70), some (.long ch), none]) rfl rfl rfl ?_
  obtain ⟨S, fi, fl, fr⟩ := h
  have hS : S = shT := hI.1
  subst hS
  refine go_of ?_
  by_cases hd : y = ch
  · rw [key.mp hd]
    have l0 : lg_cmp y ch = 0 := by rw [lg_cmp_eq]; exact hd
    refine gp_n 3 (j' := 3) (lv' := [some (.ref 70), some (.long ch), none]) (st' := [.long ch, .ref 70, .ref 70]) (h' := (shT, fi, fl, fr)) rfl ?_
    refine gp_of (fun _ k9 => g_call (y := 202) (as := [.ref 70, .long ch]) (st' := [.ref 70]) rfl rfl (mo) k9) ?_
    refine gp_of (fun _ k9 => g_call (y := 173) (as := [.ref 70, .long w]) (st' := []) rfl rfl (y1) k9) ?_
    refine gp_n 2 (j' := 7) (lv' := [some (.ref 70), some (.long ch), none]) (st' := [.int (lg_cmp y ch)]) (h' := (shT, fi, fl, fr)) rfl ?_
    refine gp_of (fun _ k9 => g_iff rfl (show ¬ (¬ (lg_cmp y ch) = (0 : Int32)) from not_not_intro l0) k9) ?_
    refine gp_n 2 (j' := 11) (lv' := [some (.ref 70), some (.long ch), none]) (st' := [.int 1]) (h' := (shT, fi, fl, fr)) rfl ?_
    refine gp_done (g_retz rfl (by decide)) ?_
    rfl
  · rw [Bool.eq_false_iff.mpr (fun z => hd (key.mpr z))]
    have l0 : ¬ lg_cmp y ch = 0 := by rw [lg_cmp_eq]; exact hd
    refine gp_n 3 (j' := 3) (lv' := [some (.ref 70), some (.long ch), none]) (st' := [.long ch, .ref 70, .ref 70]) (h' := (shT, fi, fl, fr)) rfl ?_
    refine gp_of (fun _ k9 => g_call (y := 202) (as := [.ref 70, .long ch]) (st' := [.ref 70]) rfl rfl (mo) k9) ?_
    refine gp_of (fun _ k9 => g_call (y := 173) (as := [.ref 70, .long w]) (st' := []) rfl rfl (y1) k9) ?_
    refine gp_n 2 (j' := 7) (lv' := [some (.ref 70), some (.long ch), none]) (st' := [.int (lg_cmp y ch)]) (h' := (shT, fi, fl, fr)) rfl ?_
    refine gp_of (fun _ k9 => g_ift rfl (show ¬ (lg_cmp y ch) = (0 : Int32) from l0) k9) ?_
    refine gp_n 1 (j' := 11) (lv' := [some (.ref 70), some (.long ch), none]) (st' := [.int 0]) (h' := (shT, fi, fl, fr)) rfl ?_
    refine gp_done (g_retz rfl (by decide)) ?_
    rfl
