/-! BUTTERFLIES on bits -/
def bfl (l : Nat) (f : Nat → Bool) (i : Nat) : Bool := if i.testBit l = true then f i else (f i ^^ f (i + 2 ^ l))
def bfN : Nat → Nat → (Nat → Bool) → Nat → Bool
  | _, 0, f => f
  | l, n + 1, f => bfN (l + 1) n (bfl l f)
theorem tb_l : ∀ i, i < 64 → ∀ l, l < 6 → (i.testBit l = false → i + 2 ^ l < 64) ∧ (nI i &&& nI (2 ^ l) = if i.testBit l = true then nI (2 ^ l) else 0) := by decide +kernel
theorem lw_bl : ∀ l, l < 6 → ∀ i, i < 64 → bl (pm_LW.getD l 0) i = !i.testBit l := by decide +kernel
theorem bfl_cg {l : Nat} (hl : l < 6) {f g : Nat → Bool} (h : ∀ i, i < 64 → f i = g i) : ∀ i, i < 64 → bfl l f i = bfl l g i := fun i hi => by
  unfold bfl
  cases ht : i.testBit l
  · rw [if_neg (by decide), if_neg (by decide), h i hi, h _ ((tb_l i hi l hl).1 ht)]
  · rw [if_pos rfl, if_pos rfl, h i hi]
theorem bfN_cg : ∀ (n l : Nat) {f g : Nat → Bool}, l + n ≤ 6 → (∀ i, i < 64 → f i = g i) → ∀ i, i < 64 → bfN l n f i = bfN l n g i
  | 0, _, _, _, _, h => h
  | n + 1, l, _, _, hl, h => bfN_cg n (l + 1) (by omega) (bfl_cg (by omega) h)
theorem bfl_top {l N : Nat} {f : Nat → Bool} (h : ∀ i, N ≤ i → f i = false) : ∀ i, N ≤ i → bfl l f i = false := fun i hi => by
  unfold bfl
  rw [h i hi, h (i + 2 ^ l) (Nat.le_trans hi (Nat.le_add_right _ _))]
  simp
theorem bl_64 (x : Int64) {i : Nat} (h : 64 ≤ i) : bl x i = false := by
  unfold bl
  exact BitVec.getLsbD_of_ge _ _ h
theorem bf_st {x : Int64} {l : Nat} (hl : l < 6) : ∀ i, i < 64 → bl (x ^^^ (us6 x (nI (2 ^ l)) &&& pm_LW.getD l 0)) i = bfl l (bl x) i := fun i hi => by
  have p := (sh_2 l (by omega)).2
  have pl : 2 ^ l < 64 := by
    have : ∀ l, l < 6 → 2 ^ l < 64 := by decide
    exact this l hl
  rw [bl_xor, bl_and, bl_us _ pl, lw_bl l hl i hi]
  unfold bfl
  cases ht : i.testBit l
  · rw [if_neg (by decide), Nat.add_comm]
    simp
  · rw [if_pos rfl]
    simp
theorem g_lwl {T : List PmM} {xs : PmX} {es : List PmI} {j : Nat} {lv : PmL} {st : List Value} {h : PmH} {r : Option Value × PmH} {pc n a c d q : Nat} {v : Int} {ts : List Nat} {k : Nat} {i : Int32} (he : es[j]? = some (pc, n, .laload, a, c, d, q, v, ts)) (hi : i = nI k) (hk : k < 6) (kk : Go T xs es (j + 1) lv (.long (pm_LW.getD k 0) :: st) h r) : Go T xs es j lv (.int i :: .retAddr 40 :: st) h r := by
  subst hi
  have hin := nI_in hk (by decide)
  refine Go.step he ?_ kk
  rw [nI_clamp (by omega)] at hin
  simp only [pm_x, pm_lald, nI_clamp (show k < 2 ^ 31 by omega)]
  rw [if_pos trivial, if_neg hin]
  rfl
theorem bf_go {m : Nat} (hm : m ≤ 6) {h : PmH} {x0 : Int64} : ∀ (n l : Nat) (x : Int64), l + n = m → GoP pmT none cd_62 4 [some (.long x0), none, some (.int (nI m)), some (.long x), none, some (.int (nI l))] [] h (fun r => ∃ y, r = (some (.long y), h) ∧ ∀ i, i < 64 → bl y i = bfN l n (bl x) i) := by
  intro n
  induction n with
  | zero =>
    intro l x hl
    have hl : l = m := by omega
    subst hl
    refine gp_mono (fun r (z : r = (some (.long x), h)) => ⟨x, z, fun i _ => rfl⟩) ?_
    refine gp_n 2 (j' := 6) (lv' := [some (.long x0), none, some (.int (nI l)), some (.long x), none, some (.int (nI l))]) (st' := [.int (nI l), .int (nI l)]) (h' := h) rfl ?_
    refine gp_of (fun _ k9 => g_ict rfl (show (nI l) ≤ (nI l) from Int32.le_refl _) k9) ?_
    refine gp_n 1 (j' := 25) (lv' := [some (.long x0), none, some (.int (nI l)), some (.long x), none, some (.int (nI l))]) (st' := [.long x]) (h' := h) rfl ?_
    refine gp_done (g_lret rfl) ?_
    rfl
  | succ n ih =>
    intro l x hl
    have sh := (sh_2 l (by omega)).1
    obtain ⟨r, g, y, y1, y2⟩ := ih (l + 1) (x ^^^ (us6 x (nI (2 ^ l)) &&& pm_LW.getD l 0)) (by omega)
    have main : GoP pmT none cd_62 4 [some (.long x0), none, some (.int (nI m)), some (.long x), none, some (.int (nI l))] [] h (fun r' => r' = r) := by
      refine gp_n 2 (j' := 6) (lv' := [some (.long x0), none, some (.int (nI m)), some (.long x), none, some (.int (nI l))]) (st' := [.int (nI m), .int (nI l)]) (h' := h) rfl ?_
      refine gp_of (fun _ k9 => g_icf rfl (show ¬ ((nI m) ≤ (nI l)) from nI_ge (by omega) (by omega)) k9) ?_
      refine gp_n 2 (j' := 9) (lv' := [some (.long x0), none, some (.int (nI m)), some (.long x), none, some (.int (nI l))]) (st' := [.int 6, .int (nI l)]) (h' := h) rfl ?_
      refine gp_of (fun _ k9 => g_icf rfl (show ¬ ((6 : Int32) ≤ (nI l)) from nI_ge (b := 6) (by omega) (by decide)) k9) ?_
      refine gp_n 5 (j' := 15) (lv' := [some (.long x0), none, some (.int (nI m)), some (.long x), none, some (.int (nI l))]) (st' := [.int ((1 : Int32) <<< ((nI l) &&& 31)), .long x, .long x]) (h' := h) rfl ?_
      rw [sh]
      refine gp_n 3 (j' := 18) (lv' := [some (.long x0), none, some (.int (nI m)), some (.long x), none, some (.int (nI l))]) (st' := [.int (nI l), .retAddr 40, .long ((x.toUInt64 >>> ((nI (2 ^ l) : Int32).toInt64.toUInt64 &&& Int64.toUInt64 63)).toInt64), .long x]) (h' := h) rfl ?_
      refine gp_of (fun _ k9 => g_lwl (k := l) rfl rfl (by omega) k9) ?_
      refine gp_n 2 (j' := 21) (lv' := [some (.long x0), none, some (.int (nI m)), some (.long x), none, some (.int (nI l))]) (st' := [.long (x ^^^ (((x.toUInt64 >>> ((nI (2 ^ l) : Int32).toInt64.toUInt64 &&& Int64.toUInt64 63)).toInt64) &&& (pm_LW.getD l 0)))]) (h' := h) rfl ?_
      show GoP pmT none cd_62 _ _ [.long (x ^^^ (us6 x (nI (2 ^ l)) &&& pm_LW.getD l 0))] _ _
      refine gp_n 3 (j' := 4) (lv' := [some (.long x0), none, some (.int (nI m)), some (.long (x ^^^ (us6 x (nI (2 ^ l)) &&& pm_LW.getD l 0))), none, some (.int ((nI l) + 1))]) (st' := []) (h' := h) rfl ?_
      rw [nI_1]
      exact gp_done g rfl
    refine gp_mono (fun r' (z : r' = r) => ⟨y, by rw [z, y1], fun i hi => ?_⟩) main
    rw [y2 i hi]
    exact bfN_cg n (l + 1) (by omega) (bf_st (by omega)) i hi
/-- the class's butterfly -/
theorem bf_ev {m : Nat} (hm : m ≤ 6) {h : PmH} {x : Int64} : ∃ y, Ev pmT 62 [.long x, .int (nI m)] h (some (.long y)) h ∧ ∀ i, i < 64 → bl y i = bfN 0 m (bl x) i := by
  obtain ⟨r, g, y, y1, y2⟩ := bf_go hm (h := h) (x0 := x) m 0 x (by omega)
  subst y1
  refine ⟨y, Ev.of (es := cd_62) (ml := 6) (lv := [some (.long x), none, some (.int (nI m)), none, none, none]) rfl rfl rfl ?_, y2⟩
  refine go_of ?_
  refine gp_n 4 (j' := 4) (lv' := [some (.long x), none, some (.int (nI m)), some (.long x), none, some (.int (nI 0))]) (st' := []) (h' := h) rfl ?_
  exact gp_done g rfl
theorem bm_in {l M : Nat} (hl : l < 6) (hM : M ≤ 64) {h : PmH} {x0 : Int64} {f : Nat → Bool} : ∀ (n i : Nat) (x : Int64), i + n = M → (∀ j, j < 64 → bl x j = if j < i then bfl l f j else f j) → ∃ y, (∀ j, j < 64 → bl y j = if j < M then bfl l f j else f j) ∧ ∀ r, Go pmT none cd_175 30 [some (.long x0), none, some (.int (nI M)), some (.long y), none, some (.int (nI (2 ^ l))), some (.int (nI M))] [] h r → Go pmT none cd_175 9 [some (.long x0), none, some (.int (nI M)), some (.long x), none, some (.int (nI (2 ^ l))), some (.int (nI i))] [] h r := by
  intro n
  induction n with
  | zero =>
    intro i x hi hx
    have hi : i = M := by omega
    subst hi
    refine ⟨x, hx, fun r k => ?_⟩
    refine go_of ?_
    refine gp_n 2 (j' := 11) (lv' := [some (.long x0), none, some (.int (nI i)), some (.long x), none, some (.int (nI (2 ^ l))), some (.int (nI i))]) (st' := [.int (nI i), .int (nI i)]) (h' := h) rfl ?_
    refine gp_of (fun _ k9 => g_ict rfl (show (nI i) ≤ (nI i) from Int32.le_refl _) k9) ?_
    exact gp_done k rfl
  | succ n ih =>
    intro i x hi hx
    obtain ⟨t1, t2⟩ := tb_l i (by omega) l hl
    have pl : 0 < 2 ^ l ∧ 2 ^ l < 64 := by
      have : ∀ l, l < 6 → 0 < 2 ^ l ∧ 2 ^ l < 64 := by decide
      exact this l hl
    have lvx := fun (x' : Int64) (i' : Nat) => [some (Value.long x0), none, some (.int (nI M)), some (.long x'), none, some (.int (nI (2 ^ l))), some (.int (nI i'))]
    cases ht : i.testBit l
    · have hb := t1 ht
      rw [ht, if_neg (by decide)] at t2
      have hs := has_ev (v := x) (i := nI (i + 2 ^ l)) (h := h)
      rw [hasf_bit hb, hx _ hb, if_neg (show ¬ (i + 2 ^ l < i) from Nat.not_lt.mpr (Nat.le_add_right _ _))] at hs
      cases hf : f (i + 2 ^ l)
      · rw [hf] at hs
        have hs : Ev pmT 161 [.long x, .int (nI (i + 2 ^ l))] h (some (.int 0)) h := hs
        obtain ⟨y, y1, y2⟩ := ih (i + 1) x (by omega) (fun j hj => by
          rw [hx j hj]
          by_cases h1 : j = i
          · subst h1
            rw [if_neg (by omega), if_pos (by omega)]
            unfold bfl
            rw [ht, if_neg (by decide), hf]
            simp
          · by_cases h2 : j < i
            · rw [if_pos h2, if_pos (by omega)]
            · rw [if_neg h2, if_neg (by omega)])
        refine ⟨y, y1, fun r k => ?_⟩
        have g := y2 r k
        refine go_of ?_
        refine gp_n 2 (j' := 11) (lv' := [some (.long x0), none, some (.int (nI M)), some (.long x), none, some (.int (nI (2 ^ l))), some (.int (nI i))]) (st' := [.int (nI M), .int (nI i)]) (h' := h) rfl ?_
        refine gp_of (fun _ k9 => g_icf rfl (show ¬ ((nI M) ≤ (nI i)) from nI_ge (by omega) (by omega)) k9) ?_
        refine gp_n 3 (j' := 15) (lv' := [some (.long x0), none, some (.int (nI M)), some (.long x), none, some (.int (nI (2 ^ l))), some (.int (nI i))]) (st' := [.int ((nI i) &&& (nI (2 ^ l)))]) (h' := h) rfl ?_
        rw [t2]
        refine gp_of (fun _ k9 => g_iff rfl (show ¬ (¬ (0 : Int32) = (0 : Int32)) from fun q => q rfl) k9) ?_
        refine gp_n 4 (j' := 20) (lv' := [some (.long x0), none, some (.int (nI M)), some (.long x), none, some (.int (nI (2 ^ l))), some (.int (nI i))]) (st' := [.int ((nI i) + (nI (2 ^ l))), .long x]) (h' := h) rfl ?_
        rw [nI_add i (2 ^ l)]
        refine gp_of (fun _ k9 => g_call (y := 161) (as := [.long x, .int (nI (i + 2 ^ l))]) (st' := []) rfl rfl (hs) k9) ?_
        refine gp_of (fun _ k9 => g_ift rfl (show (0 : Int32) = (0 : Int32) from by decide) k9) ?_
        refine gp_n 2 (j' := 9) (lv' := [some (.long x0), none, some (.int (nI M)), some (.long x), none, some (.int (nI (2 ^ l))), some (.int ((nI i) + 1))]) (st' := []) (h' := h) rfl ?_
        rw [nI_1]
        exact gp_done g rfl
      · rw [hf] at hs
        have hs : Ev pmT 161 [.long x, .int (nI (i + 2 ^ l))] h (some (.int 1)) h := hs
        obtain ⟨y, y1, y2⟩ := ih (i + 1) (x ^^^ bitAt i) (by omega) (fun j hj => by
          rw [bl_xor, bitAt_bl (by omega) hj, hx j hj]
          by_cases h1 : j = i
          · subst h1
            rw [if_neg (by omega), if_pos (by omega), decide_eq_true rfl]
            unfold bfl
            rw [ht, if_neg (by decide), hf]
          · rw [decide_eq_false h1, Bool.xor_false]
            by_cases h2 : j < i
            · rw [if_pos h2, if_pos (by omega)]
            · rw [if_neg h2, if_neg (by omega)])
        refine ⟨y, y1, fun r k => ?_⟩
        have g := y2 r k
        refine go_of ?_
        refine gp_n 2 (j' := 11) (lv' := [some (.long x0), none, some (.int (nI M)), some (.long x), none, some (.int (nI (2 ^ l))), some (.int (nI i))]) (st' := [.int (nI M), .int (nI i)]) (h' := h) rfl ?_
        refine gp_of (fun _ k9 => g_icf rfl (show ¬ ((nI M) ≤ (nI i)) from nI_ge (by omega) (by omega)) k9) ?_
        refine gp_n 3 (j' := 15) (lv' := [some (.long x0), none, some (.int (nI M)), some (.long x), none, some (.int (nI (2 ^ l))), some (.int (nI i))]) (st' := [.int ((nI i) &&& (nI (2 ^ l)))]) (h' := h) rfl ?_
        rw [t2]
        refine gp_of (fun _ k9 => g_iff rfl (show ¬ (¬ (0 : Int32) = (0 : Int32)) from fun q => q rfl) k9) ?_
        refine gp_n 4 (j' := 20) (lv' := [some (.long x0), none, some (.int (nI M)), some (.long x), none, some (.int (nI (2 ^ l))), some (.int (nI i))]) (st' := [.int ((nI i) + (nI (2 ^ l))), .long x]) (h' := h) rfl ?_
        rw [nI_add i (2 ^ l)]
        refine gp_of (fun _ k9 => g_call (y := 161) (as := [.long x, .int (nI (i + 2 ^ l))]) (st' := []) rfl rfl (hs) k9) ?_
        refine gp_of (fun _ k9 => g_iff rfl (show ¬ ((1 : Int32) = (0 : Int32)) from by decide) k9) ?_
        refine gp_n 5 (j' := 27) (lv' := [some (.long x0), none, some (.int (nI M)), some (.long x), none, some (.int (nI (2 ^ l))), some (.int (nI i))]) (st' := [.long (x ^^^ ((1 : Int64) <<< ((nI i : Int32).toInt64 &&& 63)))]) (h' := h) rfl ?_
        show GoP pmT none cd_175 _ _ [.long (x ^^^ bitAt i)] _ _
        refine gp_n 3 (j' := 9) (lv' := [some (.long x0), none, some (.int (nI M)), some (.long (x ^^^ bitAt i)), none, some (.int (nI (2 ^ l))), some (.int ((nI i) + 1))]) (st' := []) (h' := h) rfl ?_
        rw [nI_1]
        exact gp_done g rfl
    · rw [ht, if_pos rfl] at t2
      obtain ⟨y, y1, y2⟩ := ih (i + 1) x (by omega) (fun j hj => by
        rw [hx j hj]
        by_cases h1 : j = i
        · subst h1
          rw [if_neg (by omega), if_pos (by omega)]
          unfold bfl
          rw [ht, if_pos rfl]
        · by_cases h2 : j < i
          · rw [if_pos h2, if_pos (by omega)]
          · rw [if_neg h2, if_neg (by omega)])
      refine ⟨y, y1, fun r k => ?_⟩
      have g := y2 r k
      have n0 := nI_ne0 pl.1 (by omega)
      refine go_of ?_
      refine gp_n 2 (j' := 11) (lv' := [some (.long x0), none, some (.int (nI M)), some (.long x), none, some (.int (nI (2 ^ l))), some (.int (nI i))]) (st' := [.int (nI M), .int (nI i)]) (h' := h) rfl ?_
      refine gp_of (fun _ k9 => g_icf rfl (show ¬ ((nI M) ≤ (nI i)) from nI_ge (by omega) (by omega)) k9) ?_
      refine gp_n 3 (j' := 15) (lv' := [some (.long x0), none, some (.int (nI M)), some (.long x), none, some (.int (nI (2 ^ l))), some (.int (nI i))]) (st' := [.int ((nI i) &&& (nI (2 ^ l)))]) (h' := h) rfl ?_
      rw [t2]
      refine gp_of (fun _ k9 => g_ift rfl (show ¬ (nI (2 ^ l)) = (0 : Int32) from n0) k9) ?_
      refine gp_n 2 (j' := 9) (lv' := [some (.long x0), none, some (.int (nI M)), some (.long x), none, some (.int (nI (2 ^ l))), some (.int ((nI i) + 1))]) (st' := []) (h' := h) rfl ?_
      rw [nI_1]
      exact gp_done g rfl
theorem pw_lt : ∀ m, m ≤ 6 → ∀ l, l < m → 2 ^ l < 2 ^ m ∧ 2 ^ l < 64 := by decide
theorem bm_go {m : Nat} (hm : m ≤ 6) {h : PmH} {x0 : Int64} : ∀ (n l : Nat) (x : Int64) (l6 : Option Value), l + n = m → (∀ i, 2 ^ m ≤ i → bl x i = false) → GoP pmT none cd_175 4 [some (.long x0), none, some (.int (nI (2 ^ m))), some (.long x), none, some (.int (nI (2 ^ l))), l6] [] h (fun r => ∃ y, r = (some (.long y), h) ∧ ∀ i, i < 64 → bl y i = bfN l n (bl x) i) := by
  intro n
  have p6 := pw_6 m (by omega)
  induction n with
  | zero =>
    intro l x l6 hl hx
    have hl : l = m := by omega
    subst hl
    refine gp_mono (fun r (z : r = (some (.long x), h)) => ⟨x, z, fun i _ => rfl⟩) ?_
    refine gp_n 2 (j' := 6) (lv' := [some (.long x0), none, some (.int (nI (2 ^ l))), some (.long x), none, some (.int (nI (2 ^ l))), l6]) (st' := [.int (nI (2 ^ l)), .int (nI (2 ^ l))]) (h' := h) rfl ?_
    refine gp_of (fun _ k9 => g_ict rfl (show (nI (2 ^ l)) ≤ (nI (2 ^ l)) from Int32.le_refl _) k9) ?_
    refine gp_n 1 (j' := 36) (lv' := [some (.long x0), none, some (.int (nI (2 ^ l))), some (.long x), none, some (.int (nI (2 ^ l))), l6]) (st' := [.long x]) (h' := h) rfl ?_
    refine gp_done (g_lret rfl) ?_
    rfl
  | succ n ih =>
    intro l x l6 hl hx
    obtain ⟨q1, q2⟩ := pw_lt m hm l (by omega)
    have q6 := pw_6 l (by omega)
    obtain ⟨y, y1, y2⟩ := bm_in (l := l) (M := 2 ^ m) (h := h) (x0 := x0) (f := bl x) (by omega) p6.2 (2 ^ m) 0 x (by omega) (fun j hj => by rw [if_neg (Nat.not_lt_zero _)])
    have yb : ∀ i, i < 64 → bl y i = bfl l (bl x) i := fun i hi => by
      rw [y1 i hi]
      by_cases h1 : i < 2 ^ m
      · rw [if_pos h1]
      · rw [if_neg h1, bfl_top hx i (by omega), hx i (by omega)]
    have yt : ∀ i, 2 ^ m ≤ i → bl y i = false := fun i hi => by
      by_cases h1 : i < 64
      · rw [yb i h1]
        exact bfl_top hx i hi
      · exact bl_64 y (by omega)
    obtain ⟨r, g, w, w1, w2⟩ := ih (l + 1) y (some (.int (nI (2 ^ m)))) (by omega) yt
    have em : nI (2 ^ l) * 2 = nI (2 ^ (l + 1)) := by rw [Nat.pow_succ]; exact pk_mul (2 ^ l) 2
    have k30 : Go pmT none cd_175 30 [some (.long x0), none, some (.int (nI (2 ^ m))), some (.long y), none, some (.int (nI (2 ^ l))), some (.int (nI (2 ^ m)))] [] h r := by
      refine go_of ?_
      refine gp_n 3 (j' := 33) (lv' := [some (.long x0), none, some (.int (nI (2 ^ m))), some (.long y), none, some (.int (nI (2 ^ l))), some (.int (nI (2 ^ m)))]) (st' := [.int ((nI (2 ^ l)) * 2)]) (h' := h) rfl ?_
      rw [em]
      refine gp_n 2 (j' := 4) (lv' := [some (.long x0), none, some (.int (nI (2 ^ m))), some (.long y), none, some (.int (nI (2 ^ (l + 1)))), some (.int (nI (2 ^ m)))]) (st' := []) (h' := h) rfl ?_
      exact gp_done g rfl
    have k9 := y2 r k30
    refine ⟨r, ?_, w, w1, fun i hi => ?_⟩
    · refine go_of ?_
      refine gp_n 2 (j' := 6) (lv' := [some (.long x0), none, some (.int (nI (2 ^ m))), some (.long x), none, some (.int (nI (2 ^ l))), l6]) (st' := [.int (nI (2 ^ m)), .int (nI (2 ^ l))]) (h' := h) rfl ?_
      refine gp_of (fun _ k9 => g_icf rfl (show ¬ ((nI (2 ^ m)) ≤ (nI (2 ^ l))) from nI_ge q1 (by omega)) k9) ?_
      refine gp_n 2 (j' := 9) (lv' := [some (.long x0), none, some (.int (nI (2 ^ m))), some (.long x), none, some (.int (nI (2 ^ l))), some (.int (nI 0))]) (st' := []) (h' := h) rfl ?_
      exact gp_done k9 rfl
    · rw [w2 i hi]
      exact bfN_cg n (l + 1) (by omega) yb i hi
/-- the model's butterflies -/
theorem bm_ev2 {m : Nat} (hm : m ≤ 6) {h : PmH} {x : Int64} (hx : ∀ i, 2 ^ m ≤ i → bl x i = false) : ∃ y, Ev pmT 175 [.long x, .int (nI (2 ^ m))] h (some (.long y)) h ∧ ∀ i, i < 64 → bl y i = bfN 0 m (bl x) i := by
  obtain ⟨r, g, y, y1, y2⟩ := bm_go hm (h := h) (x0 := x) m 0 x none (by omega) hx
  subst y1
  refine ⟨y, Ev.of (es := cd_175) (ml := 7) (lv := [some (.long x), none, some (.int (nI (2 ^ m))), none, none, none, none]) rfl rfl rfl ?_, y2⟩
  refine go_of ?_
  refine gp_n 4 (j' := 4) (lv' := [some (.long x), none, some (.int (nI (2 ^ m))), some (.long x), none, some (.int (nI (2 ^ 0))), none]) (st' := []) (h' := h) rfl ?_
  exact gp_done g rfl
