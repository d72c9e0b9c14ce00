/-! RANKS: i stands ahead of j -/
def ltb (z : Nat → Int64) (i j : Nat) : Bool := decide ((z i).toInt < (z j).toInt) || (decide ((z i).toInt = (z j).toInt) && decide (j < i))
theorem ltb_iff {z : Nat → Int64} {i j : Nat} : ltb z i j = true ↔ ((z i).toInt < (z j).toInt ∨ ((z i).toInt = (z j).toInt ∧ j < i)) := by
  unfold ltb
  simp only [Bool.or_eq_true, Bool.and_eq_true, decide_eq_true_eq]
theorem ltb_ir {z : Nat → Int64} {i : Nat} : ltb z i i = false := by
  rw [← Bool.not_eq_true, ltb_iff]
  omega
theorem ltb_tr {z : Nat → Int64} {i j k : Nat} (a : ltb z i j = true) (b : ltb z j k = true) : ltb z i k = true := by
  rw [ltb_iff] at a b ⊢
  omega
theorem ltb_as {z : Nat → Int64} {i j : Nat} (a : ltb z i j = true) (b : ltb z j i = true) : False := by
  rw [ltb_iff] at a b
  omega
theorem ltb_3 {z : Nat → Int64} {i j : Nat} (h : ¬ i = j) : ltb z i j = true ∨ ltb z j i = true := by
  rw [ltb_iff, ltb_iff]
  omega
def cntP (P : Nat → Bool) : Nat → Nat
  | 0 => 0
  | n + 1 => cntP P n + (if P n = true then 1 else 0)
theorem cntP_le (P : Nat → Bool) : ∀ n, cntP P n ≤ n
  | 0 => Nat.le_refl 0
  | n + 1 => by
    have := cntP_le P n
    rw [cntP]
    split <;> omega
theorem cntP_cg {P Q : Nat → Bool} : ∀ n, (∀ j, j < n → P j = Q j) → cntP P n = cntP Q n
  | 0, _ => rfl
  | n + 1, h => by
    rw [cntP, cntP, cntP_cg n (fun j hj => h j (by omega)), h n (by omega)]
theorem cntP_mono {P Q : Nat → Bool} : ∀ n, (∀ j, j < n → P j = true → Q j = true) → cntP P n ≤ cntP Q n
  | 0, _ => Nat.le_refl 0
  | n + 1, h => by
    have h1 := cntP_mono n (fun j hj => h j (by omega))
    have h2 := h n (by omega)
    rw [cntP, cntP]
    by_cases hp : P n = true
    · rw [if_pos hp, if_pos (h2 hp)]
      omega
    · rw [if_neg hp]
      split <;> omega
theorem cntP_lt {P Q : Nat → Bool} {b : Nat} : ∀ n, b < n → (∀ j, j < n → P j = true → Q j = true) → P b = false → Q b = true → cntP P n < cntP Q n
  | 0, hb, _, _, _ => absurd hb (Nat.not_lt_zero b)
  | n + 1, hb, h, h1, h2 => by
    rw [cntP, cntP]
    by_cases hn : b = n
    · subst hn
      have h3 := cntP_mono b (fun j hj => h j (by omega))
      rw [if_neg (by rw [h1]; decide), if_pos h2]
      omega
    · have h3 := cntP_lt n (by omega) (fun j hj => h j (by omega)) h1 h2
      have h4 := h n (by omega)
      by_cases hp : P n = true
      · rw [if_pos hp, if_pos (h4 hp)]
        omega
      · rw [if_neg hp]
        split <;> omega
theorem cntP_in {P Q : Nat → Bool} {b : Nat} : ∀ n, b < n → (∀ j, j < n → Q j = (P j || decide (j = b))) → P b = false → cntP Q n = cntP P n + 1
  | 0, hb, _, _ => absurd hb (Nat.not_lt_zero b)
  | n + 1, hb, h, h1 => by
    rw [cntP, cntP]
    by_cases hn : b = n
    · subst hn
      have h3 : cntP Q b = cntP P b := cntP_cg b (fun j hj => by rw [h j (by omega), decide_eq_false (by omega), Bool.or_false])
      rw [h3, h b (by omega), h1, decide_eq_true rfl]
      rfl
    · have h3 := cntP_in n (by omega) (fun j hj => h j (by omega)) h1
      rw [h3, h n (by omega), decide_eq_false (fun z => hn z.symm), Bool.or_false]
      omega
theorem cntP_ex {P : Nat → Bool} : ∀ n, cntP P n < n → ∃ j, j < n ∧ P j = false
  | 0, h => absurd h (Nat.not_lt_zero _)
  | n + 1, h => by
    rw [cntP] at h
    by_cases hp : P n = true
    · rw [if_pos hp] at h
      obtain ⟨j, h1, h2⟩ := cntP_ex (P := P) n (by omega)
      exact ⟨j, by omega, h2⟩
    · exact ⟨n, by omega, Bool.eq_false_iff.mpr hp⟩
def rk (z : Nat → Int64) (n i : Nat) : Nat := cntP (fun j => ltb z j i) n
theorem rk_lt {z : Nat → Int64} {n i j : Nat} (hi : i < n) (h : ltb z i j = true) : rk z n i < rk z n j := cntP_lt n hi (fun k _ hk => ltb_tr hk h) ltb_ir h
/-- one more is kept -/
theorem rk_step {z : Nat → Int64} {n t b : Nat} (hc : cntP (fun j => decide (rk z n j < t)) n = t) (hb : b < n) (h1 : t ≤ rk z n b) (h2 : ∀ j, j < n → t ≤ rk z n j → j = b ∨ ltb z b j = true) : (∀ j, j < n → decide (rk z n j < t + 1) = (decide (rk z n j < t) || decide (j = b))) ∧ cntP (fun j => decide (rk z n j < t + 1)) n = t + 1 := by
  have e : rk z n b = t := by
    have : rk z n b = cntP (fun j => decide (rk z n j < t)) n := cntP_cg n (fun j hj => by
      by_cases h : rk z n j < t
      · rw [decide_eq_true h]
        have hne : ¬ j = b := fun q => by rw [q] at h; omega
        rcases ltb_3 (z := z) hne with q | q
        · exact q
        · have := rk_lt hb q
          omega
      · rw [decide_eq_false h]
        rw [Bool.eq_false_iff]
        intro q
        rcases h2 j hj (by omega) with y | y
        · rw [y, ltb_ir] at q
          cases q
        · exact ltb_as q y)
    rw [this, hc]
  have h3 : ∀ j, j < n → decide (rk z n j < t + 1) = (decide (rk z n j < t) || decide (j = b)) := fun j hj => by
    by_cases hjb : j = b
    · rw [hjb, decide_eq_true (show rk z n b < t + 1 by omega), decide_eq_true rfl, Bool.or_true]
    · rw [decide_eq_false hjb, Bool.or_false]
      have hne : ¬ rk z n j = t := fun q => by
        rcases ltb_3 (z := z) hjb with y | y
        · have := rk_lt hj y
          omega
        · have := rk_lt hb y
          omega
      exact decide_eq_decide.mpr (by omega)
  exact ⟨h3, (cntP_in (P := fun j => decide (rk z n j < t)) n hb h3 (decide_eq_false (by omega))).trans (by rw [hc])⟩
/-- the least of those that are left, from the last down -/
def bLf (kp : Nat → Bool) (z : Nat → Int64) : Nat → Option Nat → Option Nat
  | 0, b => b
  | i + 1, b => bLf kp z i (if kp i = false ∧ (∀ c, b = some c → (z i).toInt < (z c).toInt) then some i else b)
def bOk (kp : Nat → Bool) (z : Nat → Int64) (N n : Nat) : Option Nat → Prop
  | none => ∀ j, n ≤ j → j < N → kp j = true
  | some c => kp c = false ∧ n ≤ c ∧ c < N ∧ ∀ j, n ≤ j → j < N → kp j = false → j = c ∨ ltb z c j = true
theorem bLf_ok {kp : Nat → Bool} {z : Nat → Int64} {N : Nat} : ∀ (n : Nat) (b : Option Nat), n ≤ N → bOk kp z N n b → bOk kp z N 0 (bLf kp z n b)
  | 0, _, _, h => h
  | i + 1, b, hn, h => by
    rw [bLf]
    refine bLf_ok i _ (by omega) ?_
    cases b with
    | none =>
      by_cases hk : kp i = false
      · rw [if_pos ⟨hk, fun c hc => nomatch hc⟩]
        refine ⟨hk, Nat.le_refl _, by omega, fun j h1 h2 h3 => ?_⟩
        by_cases hj : j = i
        · exact Or.inl hj
        · have := h j (by omega) h2
          rw [this] at h3
          cases h3
      · rw [if_neg (fun q => hk q.1)]
        intro j h1 h2
        by_cases hj : j = i
        · rw [hj]
          cases hq : kp i
          · exact absurd hq hk
          · rfl
        · exact h j (by omega) h2
    | some c =>
      obtain ⟨a1, a2, a3, a4⟩ := h
      by_cases hk : kp i = false ∧ (z i).toInt < (z c).toInt
      · rw [if_pos ⟨hk.1, fun c' hc' => by cases hc'; exact hk.2⟩]
        have hic : ltb z i c = true := ltb_iff.mpr (Or.inl hk.2)
        refine ⟨hk.1, Nat.le_refl _, by omega, fun j h1 h2 h3 => ?_⟩
        by_cases hj : j = i
        · exact Or.inl hj
        · rcases a4 j (by omega) h2 h3 with q | q
          · exact Or.inr (by rw [q]; exact hic)
          · exact Or.inr (ltb_tr hic q)
      · rw [if_neg (fun q => hk ⟨q.1, q.2 c rfl⟩)]
        refine ⟨a1, by omega, a3, fun j h1 h2 h3 => ?_⟩
        by_cases hj : j = i
        · subst hj
          refine Or.inr (ltb_iff.mpr ?_)
          have : ¬ (z j).toInt < (z c).toInt := fun q => hk ⟨h3, q⟩
          omega
        · exact a4 j (by omega) h2 h3
def bI : Option Nat → Int32
  | none => -1
  | some c => nI c
def bM : Option Nat → Int32
  | none => 0
  | some c => nI c
theorem kp_ev_1 {h : PmH} (hI : HI hdT shT h) {K : Int64} {i : Nat} (c7 : ph_l h 1 7 = K) (hi : i < 64) : Ev pmT 47 [.ref 1, .int (nI i)] h (some (.int (b01 (bl K i)))) h := by
  refine Ev.of (es := cd_47) (ml := 2) (lv := [some (.ref 1), some (.int (nI i))]) rfl rfl rfl ?_
  obtain ⟨S, fi, fl, fr⟩ := h
  have hS : S = shT := hI.1
  subst hS
  have c7 : fl 1 7 = K := c7
  have e : us6 K (nI i) &&& 1 = if bl K i = true then 1 else 0 := by rw [and_b1, bl_us i hi K 0, Nat.add_zero]
  have e : ((K.toUInt64 >>> ((nI i : Int32).toInt64.toUInt64 &&& Int64.toUInt64 63)).toInt64) &&& 1 = if bl K i = true then 1 else 0 := e
  refine go_of ?_
  cases hb : bl K i
  · rw [hb] at e
    have e : ((K.toUInt64 >>> ((nI i : Int32).toInt64.toUInt64 &&& Int64.toUInt64 63)).toInt64) &&& 1 = 0 := e
    refine gp_n 1 (j' := 1) (lv' := [some (.ref 1), some (.int (nI i))]) (st' := [.ref 1]) (h' := (shT, fi, fl, fr)) rfl ?_
    refine gp_of (fun _ k9 => g_getL (x := K) rfl rfl (by decide) (c7) k9) ?_
    refine gp_n 4 (j' := 6) (lv' := [some (.ref 1), some (.int (nI i))]) (st' := [.long (((K.toUInt64 >>> ((nI i : Int32).toInt64.toUInt64 &&& Int64.toUInt64 63)).toInt64) &&& 1)]) (h' := (shT, fi, fl, fr)) rfl ?_
    rw [e]
    refine gp_n 2 (j' := 8) (lv' := [some (.ref 1), some (.int (nI i))]) (st' := [.int (lg_cmp 0 0)]) (h' := (shT, fi, fl, fr)) rfl ?_
    refine gp_of (fun _ k9 => g_ift rfl (show (lg_cmp 0 0) = (0 : Int32) from by decide) k9) ?_
    refine gp_n 1 (j' := 12) (lv' := [some (.ref 1), some (.int (nI i))]) (st' := [.int 0]) (h' := (shT, fi, fl, fr)) rfl ?_
    refine gp_done (g_retz rfl (by decide)) ?_
    rfl
  · rw [hb] at e
    have e : ((K.toUInt64 >>> ((nI i : Int32).toInt64.toUInt64 &&& Int64.toUInt64 63)).toInt64) &&& 1 = 1 := e
    refine gp_n 1 (j' := 1) (lv' := [some (.ref 1), some (.int (nI i))]) (st' := [.ref 1]) (h' := (shT, fi, fl, fr)) rfl ?_
    refine gp_of (fun _ k9 => g_getL (x := K) rfl rfl (by decide) (c7) k9) ?_
    refine gp_n 4 (j' := 6) (lv' := [some (.ref 1), some (.int (nI i))]) (st' := [.long (((K.toUInt64 >>> ((nI i : Int32).toInt64.toUInt64 &&& Int64.toUInt64 63)).toInt64) &&& 1)]) (h' := (shT, fi, fl, fr)) rfl ?_
    rw [e]
    refine gp_n 2 (j' := 8) (lv' := [some (.ref 1), some (.int (nI i))]) (st' := [.int (lg_cmp 1 0)]) (h' := (shT, fi, fl, fr)) rfl ?_
    refine gp_of (fun _ k9 => g_iff rfl (show ¬ ((lg_cmp 1 0) = (0 : Int32)) from by decide) k9) ?_
    refine gp_n 2 (j' := 12) (lv' := [some (.ref 1), some (.int (nI i))]) (st' := [.int 1]) (h' := (shT, fi, fl, fr)) rfl ?_
    refine gp_done (g_retz rfl (by decide)) ?_
    rfl
theorem kp_ev_9 {h : PmH} (hI : HI hdT shT h) {K : Int64} {i : Nat} (c7 : ph_l h 9 7 = K) (hi : i < 64) : Ev pmT 47 [.ref 9, .int (nI i)] h (some (.int (b01 (bl K i)))) h := by
  refine Ev.of (es := cd_47) (ml := 2) (lv := [some (.ref 9), some (.int (nI i))]) rfl rfl rfl ?_
  obtain ⟨S, fi, fl, fr⟩ := h
  have hS : S = shT := hI.1
  subst hS
  have c7 : fl 9 7 = K := c7
  have e : us6 K (nI i) &&& 1 = if bl K i = true then 1 else 0 := by rw [and_b1, bl_us i hi K 0, Nat.add_zero]
  have e : ((K.toUInt64 >>> ((nI i : Int32).toInt64.toUInt64 &&& Int64.toUInt64 63)).toInt64) &&& 1 = if bl K i = true then 1 else 0 := e
  refine go_of ?_
  cases hb : bl K i
  · rw [hb] at e
    have e : ((K.toUInt64 >>> ((nI i : Int32).toInt64.toUInt64 &&& Int64.toUInt64 63)).toInt64) &&& 1 = 0 := e
    refine gp_n 1 (j' := 1) (lv' := [some (.ref 9), some (.int (nI i))]) (st' := [.ref 9]) (h' := (shT, fi, fl, fr)) rfl ?_
    refine gp_of (fun _ k9 => g_getL (x := K) rfl rfl (by decide) (c7) k9) ?_
    refine gp_n 4 (j' := 6) (lv' := [some (.ref 9), some (.int (nI i))]) (st' := [.long (((K.toUInt64 >>> ((nI i : Int32).toInt64.toUInt64 &&& Int64.toUInt64 63)).toInt64) &&& 1)]) (h' := (shT, fi, fl, fr)) rfl ?_
    rw [e]
    refine gp_n 2 (j' := 8) (lv' := [some (.ref 9), some (.int (nI i))]) (st' := [.int (lg_cmp 0 0)]) (h' := (shT, fi, fl, fr)) rfl ?_
    refine gp_of (fun _ k9 => g_ift rfl (show (lg_cmp 0 0) = (0 : Int32) from by decide) k9) ?_
    refine gp_n 1 (j' := 12) (lv' := [some (.ref 9), some (.int (nI i))]) (st' := [.int 0]) (h' := (shT, fi, fl, fr)) rfl ?_
    refine gp_done (g_retz rfl (by decide)) ?_
    rfl
  · rw [hb] at e
    have e : ((K.toUInt64 >>> ((nI i : Int32).toInt64.toUInt64 &&& Int64.toUInt64 63)).toInt64) &&& 1 = 1 := e
    refine gp_n 1 (j' := 1) (lv' := [some (.ref 9), some (.int (nI i))]) (st' := [.ref 9]) (h' := (shT, fi, fl, fr)) rfl ?_
    refine gp_of (fun _ k9 => g_getL (x := K) rfl rfl (by decide) (c7) k9) ?_
    refine gp_n 4 (j' := 6) (lv' := [some (.ref 9), some (.int (nI i))]) (st' := [.long (((K.toUInt64 >>> ((nI i : Int32).toInt64.toUInt64 &&& Int64.toUInt64 63)).toInt64) &&& 1)]) (h' := (shT, fi, fl, fr)) rfl ?_
    rw [e]
    refine gp_n 2 (j' := 8) (lv' := [some (.ref 9), some (.int (nI i))]) (st' := [.int (lg_cmp 1 0)]) (h' := (shT, fi, fl, fr)) rfl ?_
    refine gp_of (fun _ k9 => g_iff rfl (show ¬ ((lg_cmp 1 0) = (0 : Int32)) from by decide) k9) ?_
    refine gp_n 2 (j' := 12) (lv' := [some (.ref 9), some (.int (nI i))]) (st' := [.int 1]) (h' := (shT, fi, fl, fr)) rfl ?_
    refine gp_done (g_retz rfl (by decide)) ?_
    rfl
theorem lcge {x y : Int64} : 0 ≤ lg_cmp x y ↔ ¬ x.toInt < y.toInt := by
  rw [lg_cmp_ge, Int64.le_iff_toInt_le]
  omega
theorem mx0_ev {b : Option Nat} (hb : ∀ c, b = some c → c < 64) {h : PmH} : Ev pmT 48 [.int 0, .int (bI b)] h (some (.int (bM b))) h := by
  have := max_ev (a := 0) (b := bI b) (h := h)
  cases b with
  | none =>
    rw [if_neg (by decide)] at this
    exact this
  | some c =>
    have hc := hb c rfl
    by_cases h0 : c = 0
    · subst h0
      rw [if_neg (by decide)] at this
      exact this
    · rw [if_pos (show (0 : Int32) < bI (some c) from nI_lt (a := 0) (by omega) (by omega))] at this
      exact this
theorem bl_go {N : Nat} {K : Int64} {fi : Nat → Nat → Int32} {fl : Nat → Nat → Int64} {fr : Nat → Nat → Option Nat} (hN : N ≤ 64) (hI : HI hdT shT (shT, fi, fl, fr)) (k80 : fr 8 0 = some 9) (k81 : fr 8 1 = some 11) (c7 : fl 9 7 = K) : ∀ (n : Nat) (b : Option Nat), n ≤ N → (∀ c, b = some c → c < N) → Go pmT none cd_46 8 [some (.ref 8), some (.int (bI b)), some (.int (nI n + (-1)))] [] (shT, fi, fl, fr) (some (.int (bM (bLf (bl K) (fl 11) n b))), (shT, fi, fl, fr)) := by
  intro n
  induction n with
  | zero =>
    intro b hn hb
    have mx := mx0_ev (b := b) (h := (shT, fi, fl, fr)) (fun c hc => by have := hb c hc; omega)
    refine go_of ?_
    show GoP pmT none cd_46 8 _ _ _ (fun r' => r' = (some (.int (bM b)), (shT, fi, fl, fr)))
    generalize (bM b) = y at *
    refine gp_n 1 (j' := 9) (lv' := [some (.ref 8), some (.int (bI b)), some (.int (nI 0 + (-1)))]) (st' := [.int (nI 0 + (-1))]) (h' := (shT, fi, fl, fr)) rfl ?_
    refine gp_of (fun _ k9 => g_ift rfl (show (nI 0 + (-1)) < (0 : Int32) from by decide) k9) ?_
    refine gp_n 2 (j' := 34) (lv' := [some (.ref 8), some (.int (bI b)), some (.int (nI 0 + (-1)))]) (st' := [.int (bI b), .int 0]) (h' := (shT, fi, fl, fr)) rfl ?_
    refine gp_of (fun _ k9 => g_call (y := 48) (as := [.int 0, .int (bI b)]) (st' := []) rfl rfl (mx) k9) ?_
    refine gp_done (g_ret rfl) ?_
    rfl
  | succ i ih =>
    intro b hn hb
    have kp := kp_ev_9 (i := i) hI c7 (by omega)
    rw [bLf, pk_m1]
    cases hk : bl K i
    · rw [hk] at kp
      have kp : Ev pmT 47 [.ref 9, .int (nI i)] (shT, fi, fl, fr) (some (.int 0)) (shT, fi, fl, fr) := kp
      cases b with
      | none =>
        rw [if_pos ⟨rfl, fun c hc => nomatch hc⟩]
        have g := ih (some i) (by omega) (fun c hc => by cases hc; omega)
        generalize (bM (bLf (bl K) (fl 11) i (some i))) = y at *
        have g : Go pmT none cd_46 8 [some (.ref 8), some (.int (nI i)), some (.int (nI i + (-1)))] [] (shT, fi, fl, fr) (some (.int y), (shT, fi, fl, fr)) := g
        show Go pmT none cd_46 8 [some (.ref 8), some (.int (-1)), some (.int (nI i))] [] (shT, fi, fl, fr) (some (.int y), (shT, fi, fl, fr))
        refine go_of ?_
        refine gp_n 1 (j' := 9) (lv' := [some (.ref 8), some (.int (-1)), some (.int (nI i))]) (st' := [.int (nI i)]) (h' := (shT, fi, fl, fr)) rfl ?_
        refine gp_of (fun _ k9 => g_iff rfl (show ¬ ((nI i) < (0 : Int32)) from nI_pos (by omega)) k9) ?_
        refine gp_n 1 (j' := 11) (lv' := [some (.ref 8), some (.int (-1)), some (.int (nI i))]) (st' := [.ref 8]) (h' := (shT, fi, fl, fr)) rfl ?_
        refine gp_of (fun _ k9 => g_getR (q' := 9) rfl rfl (by decide) k80 k9) ?_
        refine gp_n 1 (j' := 13) (lv' := [some (.ref 8), some (.int (-1)), some (.int (nI i))]) (st' := [.int (nI i), .ref 9]) (h' := (shT, fi, fl, fr)) rfl ?_
        refine gp_of (fun _ k9 => g_call (y := 47) (as := [.ref 9, .int (nI i)]) (st' := []) rfl rfl (kp) k9) ?_
        refine gp_of (fun _ k9 => g_iff rfl (show ¬ (¬ (0 : Int32) = (0 : Int32)) from by decide) k9) ?_
        refine gp_n 2 (j' := 17) (lv' := [some (.ref 8), some (.int (-1)), some (.int (nI i))]) (st' := [.int (-1), .int (-1)]) (h' := (shT, fi, fl, fr)) rfl ?_
        refine gp_of (fun _ k9 => g_ict rfl (show ((-1) : Int32) = ((-1) : Int32) from by decide) k9) ?_
        refine gp_n 4 (j' := 8) (lv' := [some (.ref 8), some (.int (nI i)), some (.int ((nI i) + (-1)))]) (st' := []) (h' := (shT, fi, fl, fr)) rfl ?_
        exact gp_done g rfl
      | some c =>
        have hc := hb c rfl
        have ne : ¬ nI c = -1 := fun q => by
          have := nI_toInt (n := c) (by omega)
          rw [q] at this
          have h9 : (-1 : Int32).toInt = -1 := by decide
          omega
        by_cases hz : (fl 11 i).toInt < (fl 11 c).toInt
        · rw [if_pos ⟨rfl, fun c' hc' => by cases hc'; exact hz⟩]
          have g := ih (some i) (by omega) (fun c hc => by cases hc; omega)
          generalize (bM (bLf (bl K) (fl 11) i (some i))) = y at *
          have g : Go pmT none cd_46 8 [some (.ref 8), some (.int (nI i)), some (.int (nI i + (-1)))] [] (shT, fi, fl, fr) (some (.int y), (shT, fi, fl, fr)) := g
          show Go pmT none cd_46 8 [some (.ref 8), some (.int (nI c)), some (.int (nI i))] [] (shT, fi, fl, fr) (some (.int y), (shT, fi, fl, fr))
          refine go_of ?_
          refine gp_n 1 (j' := 9) (lv' := [some (.ref 8), some (.int (nI c)), some (.int (nI i))]) (st' := [.int (nI i)]) (h' := (shT, fi, fl, fr)) rfl ?_
          refine gp_of (fun _ k9 => g_iff rfl (show ¬ ((nI i) < (0 : Int32)) from nI_pos (by omega)) k9) ?_
          refine gp_n 1 (j' := 11) (lv' := [some (.ref 8), some (.int (nI c)), some (.int (nI i))]) (st' := [.ref 8]) (h' := (shT, fi, fl, fr)) rfl ?_
          refine gp_of (fun _ k9 => g_getR (q' := 9) rfl rfl (by decide) k80 k9) ?_
          refine gp_n 1 (j' := 13) (lv' := [some (.ref 8), some (.int (nI c)), some (.int (nI i))]) (st' := [.int (nI i), .ref 9]) (h' := (shT, fi, fl, fr)) rfl ?_
          refine gp_of (fun _ k9 => g_call (y := 47) (as := [.ref 9, .int (nI i)]) (st' := []) rfl rfl (kp) k9) ?_
          refine gp_of (fun _ k9 => g_iff rfl (show ¬ (¬ (0 : Int32) = (0 : Int32)) from by decide) k9) ?_
          refine gp_n 2 (j' := 17) (lv' := [some (.ref 8), some (.int (nI c)), some (.int (nI i))]) (st' := [.int (-1), .int (nI c)]) (h' := (shT, fi, fl, fr)) rfl ?_
          refine gp_of (fun _ k9 => g_icf rfl (show ¬ ((nI c) = ((-1) : Int32)) from ne) k9) ?_
          refine gp_n 1 (j' := 19) (lv' := [some (.ref 8), some (.int (nI c)), some (.int (nI i))]) (st' := [.ref 8]) (h' := (shT, fi, fl, fr)) rfl ?_
          refine gp_of (fun _ k9 => g_getR (q' := 11) rfl rfl (by decide) k81 k9) ?_
          refine gp_n 1 (j' := 21) (lv' := [some (.ref 8), some (.int (nI c)), some (.int (nI i))]) (st' := [.int (nI i), .ref 11]) (h' := (shT, fi, fl, fr)) rfl ?_
          refine gp_of (fun _ k9 => g_lald (k := i) (x := fl 11 i) rfl rfl (rfl) (by omega) (by decide) (rfl) k9) ?_
          refine gp_n 1 (j' := 23) (lv' := [some (.ref 8), some (.int (nI c)), some (.int (nI i))]) (st' := [.ref 8, .long (fl 11 i)]) (h' := (shT, fi, fl, fr)) rfl ?_
          refine gp_of (fun _ k9 => g_getR (q' := 11) rfl rfl (by decide) k81 k9) ?_
          refine gp_n 1 (j' := 25) (lv' := [some (.ref 8), some (.int (nI c)), some (.int (nI i))]) (st' := [.int (nI c), .ref 11, .long (fl 11 i)]) (h' := (shT, fi, fl, fr)) rfl ?_
          refine gp_of (fun _ k9 => g_lald (k := c) (x := fl 11 c) rfl rfl (rfl) (by omega) (by decide) (rfl) k9) ?_
          refine gp_n 1 (j' := 27) (lv' := [some (.ref 8), some (.int (nI c)), some (.int (nI i))]) (st' := [.int (lg_cmp (fl 11 i) (fl 11 c))]) (h' := (shT, fi, fl, fr)) rfl ?_
          refine gp_of (fun _ k9 => g_iff rfl (show ¬ ((0 : Int32) ≤ (lg_cmp (fl 11 i) (fl 11 c))) from (by rw [lcge]; exact fun q => q hz)) k9) ?_
          refine gp_n 4 (j' := 8) (lv' := [some (.ref 8), some (.int (nI i)), some (.int ((nI i) + (-1)))]) (st' := []) (h' := (shT, fi, fl, fr)) rfl ?_
          exact gp_done g rfl
        · rw [if_neg (fun q => hz (q.2 c rfl))]
          have g := ih (some c) (by omega) hb
          generalize (bM (bLf (bl K) (fl 11) i (some c))) = y at *
          have g : Go pmT none cd_46 8 [some (.ref 8), some (.int (nI c)), some (.int (nI i + (-1)))] [] (shT, fi, fl, fr) (some (.int y), (shT, fi, fl, fr)) := g
          show Go pmT none cd_46 8 [some (.ref 8), some (.int (nI c)), some (.int (nI i))] [] (shT, fi, fl, fr) (some (.int y), (shT, fi, fl, fr))
          refine go_of ?_
          refine gp_n 1 (j' := 9) (lv' := [some (.ref 8), some (.int (nI c)), some (.int (nI i))]) (st' := [.int (nI i)]) (h' := (shT, fi, fl, fr)) rfl ?_
          refine gp_of (fun _ k9 => g_iff rfl (show ¬ ((nI i) < (0 : Int32)) from nI_pos (by omega)) k9) ?_
          refine gp_n 1 (j' := 11) (lv' := [some (.ref 8), some (.int (nI c)), some (.int (nI i))]) (st' := [.ref 8]) (h' := (shT, fi, fl, fr)) rfl ?_
          refine gp_of (fun _ k9 => g_getR (q' := 9) rfl rfl (by decide) k80 k9) ?_
          refine gp_n 1 (j' := 13) (lv' := [some (.ref 8), some (.int (nI c)), some (.int (nI i))]) (st' := [.int (nI i), .ref 9]) (h' := (shT, fi, fl, fr)) rfl ?_
          refine gp_of (fun _ k9 => g_call (y := 47) (as := [.ref 9, .int (nI i)]) (st' := []) rfl rfl (kp) k9) ?_
          refine gp_of (fun _ k9 => g_iff rfl (show ¬ (¬ (0 : Int32) = (0 : Int32)) from by decide) k9) ?_
          refine gp_n 2 (j' := 17) (lv' := [some (.ref 8), some (.int (nI c)), some (.int (nI i))]) (st' := [.int (-1), .int (nI c)]) (h' := (shT, fi, fl, fr)) rfl ?_
          refine gp_of (fun _ k9 => g_icf rfl (show ¬ ((nI c) = ((-1) : Int32)) from ne) k9) ?_
          refine gp_n 1 (j' := 19) (lv' := [some (.ref 8), some (.int (nI c)), some (.int (nI i))]) (st' := [.ref 8]) (h' := (shT, fi, fl, fr)) rfl ?_
          refine gp_of (fun _ k9 => g_getR (q' := 11) rfl rfl (by decide) k81 k9) ?_
          refine gp_n 1 (j' := 21) (lv' := [some (.ref 8), some (.int (nI c)), some (.int (nI i))]) (st' := [.int (nI i), .ref 11]) (h' := (shT, fi, fl, fr)) rfl ?_
          refine gp_of (fun _ k9 => g_lald (k := i) (x := fl 11 i) rfl rfl (rfl) (by omega) (by decide) (rfl) k9) ?_
          refine gp_n 1 (j' := 23) (lv' := [some (.ref 8), some (.int (nI c)), some (.int (nI i))]) (st' := [.ref 8, .long (fl 11 i)]) (h' := (shT, fi, fl, fr)) rfl ?_
          refine gp_of (fun _ k9 => g_getR (q' := 11) rfl rfl (by decide) k81 k9) ?_
          refine gp_n 1 (j' := 25) (lv' := [some (.ref 8), some (.int (nI c)), some (.int (nI i))]) (st' := [.int (nI c), .ref 11, .long (fl 11 i)]) (h' := (shT, fi, fl, fr)) rfl ?_
          refine gp_of (fun _ k9 => g_lald (k := c) (x := fl 11 c) rfl rfl (rfl) (by omega) (by decide) (rfl) k9) ?_
          refine gp_n 1 (j' := 27) (lv' := [some (.ref 8), some (.int (nI c)), some (.int (nI i))]) (st' := [.int (lg_cmp (fl 11 i) (fl 11 c))]) (h' := (shT, fi, fl, fr)) rfl ?_
          refine gp_of (fun _ k9 => g_ift rfl (show (0 : Int32) ≤ (lg_cmp (fl 11 i) (fl 11 c)) from (by rw [lcge]; exact hz)) k9) ?_
          refine gp_n 2 (j' := 8) (lv' := [some (.ref 8), some (.int (nI c)), some (.int ((nI i) + (-1)))]) (st' := []) (h' := (shT, fi, fl, fr)) rfl ?_
          exact gp_done g rfl
    · rw [hk] at kp
      have kp : Ev pmT 47 [.ref 9, .int (nI i)] (shT, fi, fl, fr) (some (.int 1)) (shT, fi, fl, fr) := kp
      rw [if_neg (fun q => nomatch q.1)]
      have g := ih b (by omega) hb
      generalize (bM (bLf (bl K) (fl 11) i b)) = y at *
      generalize bI b = bb at *
      refine go_of ?_
      refine gp_n 1 (j' := 9) (lv' := [some (.ref 8), some (.int bb), some (.int (nI i))]) (st' := [.int (nI i)]) (h' := (shT, fi, fl, fr)) rfl ?_
      refine gp_of (fun _ k9 => g_iff rfl (show ¬ ((nI i) < (0 : Int32)) from nI_pos (by omega)) k9) ?_
      refine gp_n 1 (j' := 11) (lv' := [some (.ref 8), some (.int bb), some (.int (nI i))]) (st' := [.ref 8]) (h' := (shT, fi, fl, fr)) rfl ?_
      refine gp_of (fun _ k9 => g_getR (q' := 9) rfl rfl (by decide) k80 k9) ?_
      refine gp_n 1 (j' := 13) (lv' := [some (.ref 8), some (.int bb), some (.int (nI i))]) (st' := [.int (nI i), .ref 9]) (h' := (shT, fi, fl, fr)) rfl ?_
      refine gp_of (fun _ k9 => g_call (y := 47) (as := [.ref 9, .int (nI i)]) (st' := []) rfl rfl (kp) k9) ?_
      refine gp_of (fun _ k9 => g_ift rfl (show ¬ (1 : Int32) = (0 : Int32) from by decide) k9) ?_
      refine gp_n 2 (j' := 8) (lv' := [some (.ref 8), some (.int bb), some (.int ((nI i) + (-1)))]) (st' := []) (h' := (shT, fi, fl, fr)) rfl ?_
      exact gp_done g rfl
/-- bits of the first t by rank -/
def kpB (z : Nat → Int64) (n t : Nat) (K : Int64) : Prop := ∀ j, j < 64 → bl K j = (decide (j < n) && decide (rk z n j < t))
theorem kpB_eq {z : Nat → Int64} {n t : Nat} {K K' : Int64} (a : kpB z n t K) (b : kpB z n t K') : K = K' := bl_ext (fun i hi => (a i hi).trans (b i hi).symm)
theorem rk_cg {z z' : Nat → Int64} {n : Nat} (h : ∀ i, i < n → z i = z' i) : ∀ i, i < n → rk z n i = rk z' n i := fun i hi => cntP_cg n (fun j hj => by unfold ltb; rw [h i hi, h j hj])
theorem kpB_cg {z z' : Nat → Int64} {n t : Nat} {K : Int64} (h : ∀ i, i < n → z i = z' i) (a : kpB z n t K) : kpB z' n t K := fun j hj => by
  rw [a j hj]
  by_cases hn : j < n
  · rw [rk_cg h j hn]
  · rw [decide_eq_false hn, Bool.false_and, Bool.false_and]
theorem bs_ev {N t : Nat} {K : Int64} {h : PmH} (hI : HI hdT shT h) (hN : N ≤ 64) (c1 : ph_i h 9 1 = nI N) (c7 : ph_l h 9 7 = K) (hK : kpB (ph_l h 11) N t K) (hc : cntP (fun j => decide (rk (ph_l h 11) N j < t)) N = t) (ht : t < N) : ∃ b, b < N ∧ Ev pmT 46 [.ref 8] h (some (.int (nI b))) h ∧ kpB (ph_l h 11) N (t + 1) (K ||| bitAt b) ∧ cntP (fun j => decide (rk (ph_l h 11) N j < t + 1)) N = t + 1 := by
  have k80 : ph_r h 8 0 = some 9 := hi_r hI rfl rfl (by decide)
  have k81 : ph_r h 8 1 = some 11 := hi_r hI rfl rfl (by decide)
  have hok := bLf_ok (kp := bl K) (z := ph_l h 11) (N := N) N none (Nat.le_refl _) (fun j h1 h2 => absurd h2 (by omega))
  obtain ⟨j0, j1, j2⟩ := cntP_ex N (show cntP (fun j => decide (rk (ph_l h 11) N j < t)) N < N by rw [hc]; exact ht)
  have hSS := hI.1
  obtain ⟨S, fi, fl, fr⟩ := h
  have hS : S = shT := hSS
  subst hS
  have g := bl_go (N := N) (K := K) hN hI k80 k81 c7 N none (Nat.le_refl _) (fun c hc => nomatch hc)
  cases hb : bLf (bl K) (fl 11) N none with
  | none =>
    have hok : bOk (bl K) (fl 11) N 0 none := by rw [← hb]; exact hok
    have h3 := hok j0 (Nat.zero_le _) j1
    rw [hK j0 (by omega), j2, Bool.and_false] at h3
    cases h3
  | some b =>
    have hok : bOk (bl K) (fl 11) N 0 (some b) := by rw [← hb]; exact hok
    rw [hb] at g
    obtain ⟨a1, a2, a3, a4⟩ := hok
    have hK' : ∀ j, j < N → (bl K j = false ↔ t ≤ rk (fl 11) N j) := fun j hj => by
      have := hK j (by omega)
      rw [this, decide_eq_true hj, Bool.true_and, decide_eq_false_iff_not]
      exact Nat.not_lt
    obtain ⟨s1, s2⟩ := rk_step (z := fl 11) (b := b) hc a3 ((hK' b a3).mp a1) (fun j hj hr => a4 j (Nat.zero_le _) hj ((hK' j hj).mpr hr))
    refine ⟨b, a3, ?_, fun j hj => ?_, s2⟩
    · refine Ev.of (es := cd_46) (ml := 3) (lv := [some (.ref 8), none, none]) rfl rfl rfl ?_
      have c1 : fi 9 1 = nI N := c1
      have k80 : fr 8 0 = some 9 := k80
      have g : Go pmT none cd_46 8 [some (.ref 8), some (.int (-1)), some (.int (nI N + (-1)))] [] (shT, fi, fl, fr) (some (.int (nI b)), (shT, fi, fl, fr)) := g
      refine go_of ?_
      refine gp_n 3 (j' := 3) (lv' := [some (.ref 8), some (.int (-1)), none]) (st' := [.ref 8]) (h' := (shT, fi, fl, fr)) rfl ?_
      refine gp_of (fun _ k9 => g_getR (q' := 9) rfl rfl (by decide) k80 k9) ?_
      refine gp_of (fun _ k9 => g_getI (x := nI N) rfl (Or.inl rfl) rfl (by decide) (c1) k9) ?_
      refine gp_n 2 (j' := 7) (lv' := [some (.ref 8), some (.int (-1)), none]) (st' := [.int ((nI N) - 1)]) (h' := (shT, fi, fl, fr)) rfl ?_
      rw [m1_add]
      refine gp_n 1 (j' := 8) (lv' := [some (.ref 8), some (.int (-1)), some (.int (nI N + (-1)))]) (st' := []) (h' := (shT, fi, fl, fr)) rfl ?_
      exact gp_done g rfl
    · rw [bl_or, bitAt_bl (by omega) hj, hK j hj]
      by_cases hn : j < N
      · have := s1 j hn
        show _ = (decide (j < N) && decide (rk (fl 11) N j < t + 1))
        rw [this, decide_eq_true hn, Bool.true_and, Bool.true_and]
      · rw [decide_eq_false hn, Bool.false_and, Bool.false_and, decide_eq_false (by omega)]
        rfl
theorem cntP_f {P : Nat → Bool} : ∀ n, (∀ j, j < n → P j = false) → cntP P n = 0
  | 0, _ => rfl
  | n + 1, h => by
    rw [cntP, cntP_f n (fun j hj => h j (by omega)), h n (by omega)]
    rfl
theorem rk_cnt {z : Nat → Int64} {N : Nat} : ∀ t, t ≤ N → cntP (fun j => decide (rk z N j < t)) N = t
  | 0, _ => cntP_f N (fun j _ => decide_eq_false (Nat.not_lt_zero _))
  | t + 1, h => by
    have ih := rk_cnt (z := z) (N := N) t (by omega)
    have ok := bLf_ok (kp := fun j => decide (rk z N j < t)) (z := z) (N := N) N none (Nat.le_refl _) (fun j h1 h2 => absurd h2 (by omega))
    cases hb : bLf (fun j => decide (rk z N j < t)) z N none with
    | none =>
      rw [hb] at ok
      obtain ⟨j, j1, j2⟩ := cntP_ex (P := fun j => decide (rk z N j < t)) N (by rw [ih]; omega)
      have h9 : decide (rk z N j < t) = true := ok j (Nat.zero_le _) j1
      rw [h9] at j2
      cases j2
    | some c =>
      rw [hb] at ok
      obtain ⟨a1, -, a3, a4⟩ := ok
      exact (rk_step ih a3 (by have := of_decide_eq_false a1; omega) (fun j hj h2 => a4 j (Nat.zero_le _) hj (decide_eq_false (by omega)))).2
theorem cntb_P {K : Int64} : ∀ n, cntb K n = cntP (bl K) n
  | 0 => rfl
  | n + 1 => by rw [cntb, cntP, cntb_P n]
theorem cntP_tp {P : Nat → Bool} {N : Nat} : ∀ m, (∀ i, N ≤ i → i < N + m → P i = false) → cntP P (N + m) = cntP P N
  | 0, _ => rfl
  | m + 1, h => by
    show cntP P (N + m) + (if P (N + m) = true then 1 else 0) = _
    rw [h (N + m) (by omega) (by omega), cntP_tp m (fun i h1 h2 => h i h1 (by omega))]
    simp
theorem kpB_pc {z : Nat → Int64} {N q : Nat} {K : Int64} (hN : N ≤ 64) (hq : q ≤ N) (h : kpB z N q K) : popc K = q := by
  unfold popc
  rw [cntb_P]
  have e := cntP_tp (P := bl K) (N := N) (64 - N) (fun i h1 h2 => by rw [h i (by omega), decide_eq_false (by omega), Bool.false_and])
  rw [show N + (64 - N) = 64 by omega] at e
  rw [e, cntP_cg N (fun j hj => by rw [h j (by omega), decide_eq_true hj, Bool.true_and])]
  exact rk_cnt q hq
