/-! ALL WORDS -/
def eW (a : AB) (m k c v : Nat) : Int64 := enW m (2 ^ m) k c (a_v a).2.1 (nI v).toInt64 ((a_v a).1 4)
theorem eW_0 {a : AB} {m k c : Nat} (h8 : c ≤ 8) : eW a m k c 0 = 0 := enW_0 h8
theorem eW_st {a : AB} {m k c i : Nat} (h8 : c ≤ 8) (hi : i < 4096) (h1 : 1 ≤ i) : eW a m k c (gry i) = eW a m k c (gry (i - 1)) ^^^ enW m (2 ^ m) k c (a_v a).2.1 (bitAt (tzM i)) ((a_v a).1 4) := by
  have g := (gry_f hi).2.2.2 h1
  have l1 : gry (i - 1) < 2 ^ 31 := Nat.lt_trans (gry_lt (k := 12) (by omega)) (by decide)
  have l2 : 2 ^ tzM i < 2 ^ 31 := Nat.pow_lt_pow_right (by decide) (by omega)
  unfold eW
  rw [g.2.1, nIl_x l1 l2, nIl_p _ g.2.2, enW_x h8]
theorem mb_go {k m c : Nat} {a : AB} {fi : Nat → Nat → Int32} {fr : Nat → Nat → Option Nat} (hk : k ≤ 12) (k2 : fr 38 2 = some 39) (c2 : fi 1 2 = nI k) (en : ∀ (i : Nat) (fl : Nat → Nat → Int64), i < k → fl 1 7 = (a_v a).2.1 → Ev pmT 58 [.ref 1, .long (1 <<< ((nI i : Int32).toInt64 &&& 63))] (shT, fi, fl, fr) (some (.long (enW m (2 ^ m) k c (a_v a).2.1 (bitAt i) ((a_v a).1 4)))) (shT, fi, fl, fr)) : ∀ (n i : Nat) (fl : Nat → Nat → Int64), i + n = k → fl 1 7 = (a_v a).2.1 → ∃ fl', (∀ t, i ≤ t → t < k → fl' 39 t = enW m (2 ^ m) k c (a_v a).2.1 (bitAt t) ((a_v a).1 4)) ∧ (∀ p s, ¬ (p = 39 ∧ i ≤ s) → fl' p s = fl p s) ∧ Go pmT none cd_130 2 [some (.ref 38), some (.ref 1), some (.int (nI i))] [] (shT, fi, fl, fr) (none, (shT, fi, fl', fr)) := by
  intro n
  induction n with
  | zero =>
    intro i fl hi c7
    have hi : i = k := by omega
    subst hi
    refine ⟨fl, fun t z1 z2 => absurd z2 (by omega), fun _ _ _ => rfl, ?_⟩
    refine go_of ?_
    refine gp_n 2 (j' := 4) (lv' := [some (.ref 38), some (.ref 1), some (.int (nI i))]) (st' := [.ref 1, .int (nI i)]) (h' := (shT, fi, fl, fr)) rfl ?_
    refine gp_of (fun _ k9 => g_getI (x := nI i) rfl (Or.inl rfl) rfl (by decide) (c2) k9) ?_
    refine gp_of (fun _ k9 => g_ict rfl (show (nI i) ≤ (nI i) from Int32.le_refl _) k9) ?_
    refine gp_done (g_vret rfl) ?_
    rfl
  | succ n ih =>
    intro i fl hi c7
    have en1 := en i fl (by omega) c7
    obtain ⟨fl', a1, a2, a3⟩ := ih (i + 1) (pm_u2 fl 39 i (enW m (2 ^ m) k c (a_v a).2.1 (bitAt i) ((a_v a).1 4))) (by omega) ((wl_ne (by omega)).trans c7)
    refine ⟨fl', fun t z1 z2 => ?_, fun p s z => (a2 p s (by omega)).trans (wl_ne (by omega)), ?_⟩
    · by_cases e : t = i
      · subst e
        exact (a2 _ _ (by omega)).trans u2_eq
      · exact a1 t (by omega) z2
    clear ih a1 a2 en
    generalize enW m (2 ^ m) k c (a_v a).2.1 (bitAt i) ((a_v a).1 4) = y at *
    refine go_of ?_
    refine gp_n 2 (j' := 4) (lv' := [some (.ref 38), some (.ref 1), some (.int (nI i))]) (st' := [.ref 1, .int (nI i)]) (h' := (shT, fi, fl, fr)) rfl ?_
    refine gp_of (fun _ k9 => g_getI (x := nI k) rfl (Or.inl rfl) rfl (by decide) (c2) k9) ?_
    refine gp_of (fun _ k9 => g_icf rfl (show ¬ ((nI k) ≤ (nI i)) from nI_ge (by omega) (by omega)) k9) ?_
    refine gp_n 2 (j' := 8) (lv' := [some (.ref 38), some (.ref 1), some (.int (nI i))]) (st' := [.int 12, .int (nI i)]) (h' := (shT, fi, fl, fr)) rfl ?_
    refine gp_of (fun _ k9 => g_icf rfl (show ¬ ((12 : Int32) ≤ (nI i)) from nI_ge (b := 12) (by omega) (by omega)) k9) ?_
    refine gp_n 1 (j' := 10) (lv' := [some (.ref 38), some (.ref 1), some (.int (nI i))]) (st' := [.ref 38]) (h' := (shT, fi, fl, fr)) rfl ?_
    refine gp_of (fun _ k9 => g_getR (q' := 39) rfl rfl (by decide) k2 k9) ?_
    refine gp_n 5 (j' := 16) (lv' := [some (.ref 38), some (.ref 1), some (.int (nI i))]) (st' := [.long ((1 : Int64) <<< ((nI i : Int32).toInt64 &&& 63)), .ref 1, .int (nI i), .ref 39]) (h' := (shT, fi, fl, fr)) rfl ?_
    refine gp_of (fun _ k9 => g_call (y := 58) (as := [.ref 1, .long ((1 : Int64) <<< ((nI i : Int32).toInt64 &&& 63))]) (st' := [.int (nI i), .ref 39]) rfl rfl (en1) k9) ?_
    refine gp_of (fun _ k9 => g_last (k := i) rfl rfl (rfl) (by omega) (by decide) k9) ?_
    refine gp_n 2 (j' := 2) (lv' := [some (.ref 38), some (.ref 1), some (.int ((nI i) + 1))]) (st' := []) (h' := (shT, fi, pm_u2 fl 39 i y, fr)) rfl ?_
    rw [nI_1]
    exact gp_done a3 rfl
theorem bit_fit {k i : Nat} (h : i < k) (hk : k ≤ 64) : fitP k (bitAt i) := fun b h1 h2 => by
  rw [bitAt_bl (by omega) h2]
  exact decide_eq_false (by omega)
theorem mb_ev {h : PmH} {a : AB} {m k c l : Nat} (hI : HI hdT shT h) (vk : VK (a_v a) m k c) (hv : vC a m k c l h) (k12 : k ≤ 12) : ∃ h', Ev pmT 130 [.ref 38, .ref 1] h none h' ∧ HI hdT shT h' ∧ vC a m k c l h' ∧ (∀ t, t < k → ph_l h' 39 t = enW m (2 ^ m) k c (a_v a).2.1 (bitAt t) ((a_v a).1 4)) ∧ fram (in_w iN_141) h h' := by
  have p6 := pw_6 m (by have := vk.1; omega)
  have pl := popc_le (a_v a).2.1
  have k2 : ph_r h 38 2 = some 39 := hi_r hI rfl rfl (by decide)
  have iv1 := fun h' e => iv_s (v := none) (h' := h') (as := [.ref 38, .ref 1]) vN_141 rfl (fun _ _ => gz_c (gz_r (by decide)) (gz_c (gz_r (by decide)) gz_n)) hI e
  obtain ⟨S, fi, fl, fr⟩ := h
  have hS : S = shT := hI.1
  subst hS
  have k2 : fr 38 2 = some 39 := k2
  obtain ⟨fl', a1, a2, a3⟩ := mb_go (m := m) (c := c) (a := a) (fi := fi) k12 k2 hv.2.2.1 (fun i fl2 hi c7 => by
    have I2 : HI hdT shT (shT, fi, fl2, fr) := HI_fl (fl := fl) hI
    obtain ⟨y, y1, y2⟩ := en_ev (w := bitAt i) I2 vk.1 p6.2 (by have := vk.2.2.2.2.2.2.1; omega) vk.2.1 (bit_fit hi (by omega)) hv.1 hv.2.1 hv.2.2.2.1 hv.2.2.1 hv.2.2.2.2.1 c7
    rw [← enW_eq y2]
    exact y1) k 0 fl (by omega) hv.2.2.2.2.2.2
  have ev : Ev pmT 130 [.ref 38, .ref 1] (shT, fi, fl, fr) none (shT, fi, fl', fr) := by
    refine Ev.of (es := cd_130) (ml := 3) (lv := [some (.ref 38), some (.ref 1), none]) rfl rfl rfl ?_
    refine go_of ?_
    refine gp_n 2 (j' := 2) (lv' := [some (.ref 38), some (.ref 1), some (.int (nI 0))]) (st' := []) (h' := (shT, fi, fl, fr)) rfl ?_
    exact gp_done a3 rfl
  obtain ⟨I2, F2⟩ := iv1 _ ev
  exact ⟨_, ev, I2, vC_cg (h := (shT, fi, fl, fr)) (fun _ => rfl) (fun s => a2 1 s (by omega)) hv, fun t ht => a1 t (Nat.zero_le t) ht, F2⟩
theorem sh12 : ∀ k, k < 13 → (1 : Int32) <<< (nI k &&& 31) = nI (2 ^ k) := by decide
def wf (E : Nat → Int64) (w t : Nat) : Nat := if popc (E t) = w then 1 else 0
theorem sm_wf {E : Nat → Int64} {w : Nat} : ∀ n, sm (wf E w) n ≤ n
  | 0 => Nat.le_refl _
  | n + 1 => by
    have := sm_wf (E := E) (w := w) n
    have e : wf E w n ≤ 1 := by
      unfold wf
      split <;> decide
    rw [sm]
    omega
theorem hw_go {h : PmH} {k w : Nat} {E B : Nat → Int64} (hI : HI hdT shT h) (k12 : k ≤ 12) (w64 : w ≤ 64) (c2 : ph_i h 1 2 = nI k) (hB : ∀ t, t < k → ph_l h 39 t = B t) (hE : ∀ i, 1 ≤ i → i < 2 ^ k → tzM i < k ∧ E i = E (i - 1) ^^^ B (tzM i)) : ∀ (n i : Nat), 1 ≤ i → i + n = 2 ^ k → Go pmT none cd_136 13 [some (.ref 38), some (.ref 1), some (.int (nI w)), some (.long (E (i - 1))), none, some (.int (nI (sm (wf E w) i))), some (.int (nI i))] [] h (some (.int (nI (sm (wf E w) (2 ^ k)))), h) := by
  have k2 : ph_r h 38 2 = some 39 := hi_r hI rfl rfl (by decide)
  have p12 := pw2_le k12
  have sh := sh12 k (by omega)
  intro n
  induction n with
  | zero =>
    intro i h1 hi
    have hi : i = 2 ^ k := by omega
    rw [hi]
    generalize E (2 ^ k - 1) = y
    generalize nI (sm (wf E w) (2 ^ k)) = z
    rw [← sh]
    generalize hX : (1 : Int32) <<< (nI k &&& 31) = X
    clear sh
    obtain ⟨S, fi, fl, fr⟩ := h
    have hS : S = shT := hI.1
    subst hS
    have c2 : fi 1 2 = nI k := c2
    refine go_of ?_
    refine gp_n 3 (j' := 16) (lv' := [some (.ref 38), some (.ref 1), some (.int (nI w)), some (.long y), none, some (.int z), some (.int X)]) (st' := [.ref 1, .int 1, .int X]) (h' := (shT, fi, fl, fr)) rfl ?_
    refine gp_of (fun _ k9 => g_getI (x := nI k) rfl (Or.inl rfl) rfl (by decide) (c2) k9) ?_
    refine gp_n 1 (j' := 18) (lv' := [some (.ref 38), some (.ref 1), some (.int (nI w)), some (.long y), none, some (.int z), some (.int X)]) (st' := [.int ((1 : Int32) <<< ((nI k) &&& 31)), .int X]) (h' := (shT, fi, fl, fr)) rfl ?_
    refine gp_of (fun _ k9 => g_ict rfl (show ((1 : Int32) <<< ((nI k) &&& 31)) ≤ X from (by rw [hX]; exact Int32.le_refl _)) k9) ?_
    refine gp_n 1 (j' := 40) (lv' := [some (.ref 38), some (.ref 1), some (.int (nI w)), some (.long y), none, some (.int z), some (.int X)]) (st' := [.int z]) (h' := (shT, fi, fl, fr)) rfl ?_
    refine gp_done (g_ret rfl) ?_
    rfl
  | succ n ih =>
    intro i h1 hi
    obtain ⟨t1, t2⟩ := hE i h1 (by omega)
    have gf := (gry_f (i := i) (by omega)).2.2.2 h1
    have g := ih (i + 1) (by omega) (by omega)
    rw [Nat.add_sub_cancel, sm] at g
    have bt := hB (tzM i) t1
    have nz : Ev pmT 86 [.int (nI i)] h (some (.int (nI (tzM i)))) h := by
      rw [← gf.1]
      exact nzf_ev
    have bc := bc_ev (x := E i) (h := h)
    rw [bc_ok] at bc
    have pl := popc_le (E i)
    have lt : ¬ (1 : Int32) <<< (nI k &&& 31) ≤ nI i := by
      rw [sh]
      exact nI_ge (by omega) (by omega)
    have sw := sm_wf (E := E) (w := w) i
    have tl : tzM i < 12 := by omega
    have ew : wf E w i = if popc (E i) = w then 1 else 0 := rfl
    rw [ew] at g
    clear ih hE hB sh ew
    have g : Go pmT none cd_136 13 [some (.ref 38), some (.ref 1), some (.int (nI w)), some (.long (E i)), none, some (.int (nI (sm (wf E w) i + if popc (E i) = w then 1 else 0))), some (.int (nI (i + 1)))] [] h (some (.int (nI (sm (wf E w) (2 ^ k)))), h) := g
    generalize sm (wf E w) (2 ^ k) = eW at *
    generalize sm (wf E w) i = q at *
    rw [t2] at g bc pl
    generalize E (i - 1) = y at *
    generalize B (tzM i) = z at *
    generalize tzM i = tz at *
    generalize popc (y ^^^ z) = pc at *
    obtain ⟨S, fi, fl, fr⟩ := h
    have hS : S = shT := hI.1
    subst hS
    have c2 : fi 1 2 = nI k := c2
    have k2 : fr 38 2 = some 39 := k2
    have bt : fl 39 tz = z := bt
    refine go_of ?_
    by_cases hp : pc = w
    · rw [if_pos hp, ← nI_add q 1] at g
      have hp2 : nI pc = nI w := by rw [hp]
      refine gp_n 3 (j' := 16) (lv' := [some (.ref 38), some (.ref 1), some (.int (nI w)), some (.long y), none, some (.int (nI q)), some (.int (nI i))]) (st' := [.ref 1, .int 1, .int (nI i)]) (h' := (shT, fi, fl, fr)) rfl ?_
      refine gp_of (fun _ k9 => g_getI (x := nI k) rfl (Or.inl rfl) rfl (by decide) (c2) k9) ?_
      refine gp_n 1 (j' := 18) (lv' := [some (.ref 38), some (.ref 1), some (.int (nI w)), some (.long y), none, some (.int (nI q)), some (.int (nI i))]) (st' := [.int ((1 : Int32) <<< ((nI k) &&& 31)), .int (nI i)]) (h' := (shT, fi, fl, fr)) rfl ?_
      refine gp_of (fun _ k9 => g_icf rfl (show ¬ (((1 : Int32) <<< ((nI k) &&& 31)) ≤ (nI i)) from lt) k9) ?_
      refine gp_n 2 (j' := 21) (lv' := [some (.ref 38), some (.ref 1), some (.int (nI w)), some (.long y), none, some (.int (nI q)), some (.int (nI i))]) (st' := [.ref 38, .long y]) (h' := (shT, fi, fl, fr)) rfl ?_
      refine gp_of (fun _ k9 => g_getR (q' := 39) rfl rfl (by decide) k2 k9) ?_
      refine gp_n 1 (j' := 23) (lv' := [some (.ref 38), some (.ref 1), some (.int (nI w)), some (.long y), none, some (.int (nI q)), some (.int (nI i))]) (st' := [.int (nI i), .ref 39, .long y]) (h' := (shT, fi, fl, fr)) rfl ?_
      refine gp_of (fun _ k9 => g_call (y := 86) (as := [.int (nI i)]) (st' := [.ref 39, .long y]) rfl rfl (nz) k9) ?_
      refine gp_of (fun _ k9 => g_lald (k := tz) (x := z) rfl rfl (rfl) (by omega) (by decide) (bt) k9) ?_
      refine gp_n 4 (j' := 29) (lv' := [some (.ref 38), some (.ref 1), some (.int (nI w)), some (.long (y ^^^ z)), none, some (.int (nI q)), some (.int (nI i))]) (st' := [.long (y ^^^ z), .int (nI q)]) (h' := (shT, fi, fl, fr)) rfl ?_
      refine gp_of (fun _ k9 => g_call (y := 43) (as := [.long (y ^^^ z)]) (st' := [.int (nI q)]) rfl rfl (bc) k9) ?_
      refine gp_n 1 (j' := 31) (lv' := [some (.ref 38), some (.ref 1), some (.int (nI w)), some (.long (y ^^^ z)), none, some (.int (nI q)), some (.int (nI i))]) (st' := [.int (nI w), .int (nI pc), .int (nI q)]) (h' := (shT, fi, fl, fr)) rfl ?_
      refine gp_of (fun _ k9 => g_icf rfl (show ¬ (¬ (nI pc) = (nI w)) from not_not_intro hp2) k9) ?_
      refine gp_n 6 (j' := 13) (lv' := [some (.ref 38), some (.ref 1), some (.int (nI w)), some (.long (y ^^^ z)), none, some (.int ((nI q) + 1)), some (.int ((nI i) + 1))]) (st' := []) (h' := (shT, fi, fl, fr)) rfl ?_
      rw [nI_1 i]
      exact gp_done g rfl
    · rw [if_neg hp, ← nI_add q 0] at g
      have hp2 : ¬ nI pc = nI w := fun z => hp ((nI_eq (by omega) (by omega)).mp z)
      refine gp_n 3 (j' := 16) (lv' := [some (.ref 38), some (.ref 1), some (.int (nI w)), some (.long y), none, some (.int (nI q)), some (.int (nI i))]) (st' := [.ref 1, .int 1, .int (nI i)]) (h' := (shT, fi, fl, fr)) rfl ?_
      refine gp_of (fun _ k9 => g_getI (x := nI k) rfl (Or.inl rfl) rfl (by decide) (c2) k9) ?_
      refine gp_n 1 (j' := 18) (lv' := [some (.ref 38), some (.ref 1), some (.int (nI w)), some (.long y), none, some (.int (nI q)), some (.int (nI i))]) (st' := [.int ((1 : Int32) <<< ((nI k) &&& 31)), .int (nI i)]) (h' := (shT, fi, fl, fr)) rfl ?_
      refine gp_of (fun _ k9 => g_icf rfl (show ¬ (((1 : Int32) <<< ((nI k) &&& 31)) ≤ (nI i)) from lt) k9) ?_
      refine gp_n 2 (j' := 21) (lv' := [some (.ref 38), some (.ref 1), some (.int (nI w)), some (.long y), none, some (.int (nI q)), some (.int (nI i))]) (st' := [.ref 38, .long y]) (h' := (shT, fi, fl, fr)) rfl ?_
      refine gp_of (fun _ k9 => g_getR (q' := 39) rfl rfl (by decide) k2 k9) ?_
      refine gp_n 1 (j' := 23) (lv' := [some (.ref 38), some (.ref 1), some (.int (nI w)), some (.long y), none, some (.int (nI q)), some (.int (nI i))]) (st' := [.int (nI i), .ref 39, .long y]) (h' := (shT, fi, fl, fr)) rfl ?_
      refine gp_of (fun _ k9 => g_call (y := 86) (as := [.int (nI i)]) (st' := [.ref 39, .long y]) rfl rfl (nz) k9) ?_
      refine gp_of (fun _ k9 => g_lald (k := tz) (x := z) rfl rfl (rfl) (by omega) (by decide) (bt) k9) ?_
      refine gp_n 4 (j' := 29) (lv' := [some (.ref 38), some (.ref 1), some (.int (nI w)), some (.long (y ^^^ z)), none, some (.int (nI q)), some (.int (nI i))]) (st' := [.long (y ^^^ z), .int (nI q)]) (h' := (shT, fi, fl, fr)) rfl ?_
      refine gp_of (fun _ k9 => g_call (y := 43) (as := [.long (y ^^^ z)]) (st' := [.int (nI q)]) rfl rfl (bc) k9) ?_
      refine gp_n 1 (j' := 31) (lv' := [some (.ref 38), some (.ref 1), some (.int (nI w)), some (.long (y ^^^ z)), none, some (.int (nI q)), some (.int (nI i))]) (st' := [.int (nI w), .int (nI pc), .int (nI q)]) (h' := (shT, fi, fl, fr)) rfl ?_
      refine gp_of (fun _ k9 => g_ict rfl (show ¬ (nI pc) = (nI w) from hp2) k9) ?_
      refine gp_n 5 (j' := 13) (lv' := [some (.ref 38), some (.ref 1), some (.int (nI w)), some (.long (y ^^^ z)), none, some (.int ((nI q) + 0)), some (.int ((nI i) + 1))]) (st' := []) (h' := (shT, fi, fl, fr)) rfl ?_
      rw [nI_1 i]
      exact gp_done g rfl
theorem tz_lt {i k : Nat} (h1 : 1 ≤ i) (hi : i < 2 ^ k) (hk : k ≤ 12) : tzM i < k := by
  have p := pw2_le hk
  have gf := (gry_f (i := i) (by omega)).2.2.2 h1
  refine Decidable.byContradiction (fun z => ?_)
  have e : 2 ^ tzM i = gry i ^^^ gry (i - 1) := by
    rw [gf.2.1, Nat.xor_comm (gry (i - 1)), Nat.xor_assoc, Nat.xor_self, Nat.xor_zero]
  have l := xor_lt (gry_lt hi) (gry_lt (i := i - 1) (k := k) (by omega))
  rw [← e] at l
  have := pw2_le (a := k) (b := tzM i) (by omega)
  omega
def wtV (a : AB) (m k c w : Nat) : Int32 := if 12 < k then -3 else nI (sm (wf (eW a m k c) w) (2 ^ k))
theorem hw_ev {h : PmH} {a : AB} {m k c l w : Nat} (hI : HI hdT shT h) (vk : VK (a_v a) m k c) (hv : vC a m k c l h) (k12 : k ≤ 12) (w64 : w ≤ 64) : ∃ h', Ev pmT 136 [.ref 38, .ref 1, .int (nI w)] h (some (.int (nI (sm (wf (eW a m k c) w) (2 ^ k))))) h' := by
  obtain ⟨h1, e1, I1, v1, b1, F1⟩ := mb_ev hI vk hv k12
  refine ⟨h1, ?_⟩
  have p12 := pw2_le k12
  have p1 : 1 ≤ 2 ^ k := Nat.two_pow_pos k
  have g := hw_go (w := w) (E := fun i => eW a m k c (gry i)) (B := fun t => enW m (2 ^ m) k c (a_v a).2.1 (bitAt t) ((a_v a).1 4)) I1 k12 w64 v1.2.2.1 b1 (fun i z1 z2 => ⟨tz_lt z1 z2 k12, eW_st vk.2.1 (by omega) z1⟩) (2 ^ k - 1) 1 (by decide) (by omega)
  have e2 : sm (wf (fun i => eW a m k c (gry i)) w) (2 ^ k) = sm (wf (eW a m k c) w) (2 ^ k) := sm_gry k12 (wf (eW a m k c) w)
  rw [e2] at g
  have e3 : eW a m k c (gry (1 - 1)) = 0 := eW_0 vk.2.1
  have e4 : sm (wf (fun i => eW a m k c (gry i)) w) 1 = if w = 0 then 1 else 0 := by
    show 0 + wf (fun i => eW a m k c (gry i)) w 0 = _
    unfold wf
    have e5 : eW a m k c (gry 0) = 0 := eW_0 vk.2.1
    show 0 + (if popc (eW a m k c (gry 0)) = w then 1 else 0) = _
    rw [e5, show popc 0 = 0 from rfl, Nat.zero_add]
    by_cases h : w = 0
    · rw [if_pos h, if_pos h.symm]
    · rw [if_neg h, if_neg (fun z => h z.symm)]
  have g : Go pmT none cd_136 13 [some (.ref 38), some (.ref 1), some (.int (nI w)), some (.long (eW a m k c (gry (1 - 1)))), none, some (.int (nI (sm (wf (fun i => eW a m k c (gry i)) w) 1))), some (.int (nI 1))] [] h1 (some (.int (nI (sm (wf (eW a m k c) w) (2 ^ k)))), h1) := g
  rw [e3, e4] at g
  generalize nI (sm (wf (eW a m k c) w) (2 ^ k)) = V at *
  clear F1 b1 v1 hv e2 e3 e4
  obtain ⟨S1, fi1, fl1, fr1⟩ := h1
  have s1 : S1 = shT := I1.1
  subst s1
  refine Ev.of (es := cd_136) (ml := 7) (lv := [some (.ref 38), some (.ref 1), some (.int (nI w)), none, none, none, none]) rfl rfl rfl ?_
  obtain ⟨S, fi, fl, fr⟩ := h
  have hS : S = shT := hI.1
  subst hS
  refine go_of ?_
  by_cases h0 : w = 0
  · rw [if_pos h0] at g
    have h2 : nI w = 0 := by rw [h0]; rfl
    refine gp_n 2 (j' := 2) (lv' := [some (.ref 38), some (.ref 1), some (.int (nI w)), none, none, none, none]) (st' := [.ref 1, .ref 38]) (h' := (shT, fi, fl, fr)) rfl ?_
    refine gp_of (fun _ k9 => g_callv (y := 130) (as := [.ref 38, .ref 1]) (st' := []) rfl rfl (e1) k9) ?_
    refine gp_n 3 (j' := 6) (lv' := [some (.ref 38), some (.ref 1), some (.int (nI w)), some (.long 0), none, none, none]) (st' := [.int (nI w)]) (h' := (shT, fi1, fl1, fr1)) rfl ?_
    refine gp_of (fun _ k9 => g_iff rfl (show ¬ (¬ (nI w) = (0 : Int32)) from not_not_intro h2) k9) ?_
    refine gp_n 5 (j' := 13) (lv' := [some (.ref 38), some (.ref 1), some (.int (nI w)), some (.long 0), none, some (.int 1), some (.int 1)]) (st' := []) (h' := (shT, fi1, fl1, fr1)) rfl ?_
    exact gp_done g rfl
  · rw [if_neg h0] at g
    have h2 : ¬ nI w = 0 := nI_ne0 (by omega) (by omega)
    refine gp_n 2 (j' := 2) (lv' := [some (.ref 38), some (.ref 1), some (.int (nI w)), none, none, none, none]) (st' := [.ref 1, .ref 38]) (h' := (shT, fi, fl, fr)) rfl ?_
    refine gp_of (fun _ k9 => g_callv (y := 130) (as := [.ref 38, .ref 1]) (st' := []) rfl rfl (e1) k9) ?_
    refine gp_n 3 (j' := 6) (lv' := [some (.ref 38), some (.ref 1), some (.int (nI w)), some (.long 0), none, none, none]) (st' := [.int (nI w)]) (h' := (shT, fi1, fl1, fr1)) rfl ?_
    refine gp_of (fun _ k9 => g_ift rfl (show ¬ (nI w) = (0 : Int32) from h2) k9) ?_
    refine gp_n 4 (j' := 13) (lv' := [some (.ref 38), some (.ref 1), some (.int (nI w)), some (.long 0), none, some (.int 0), some (.int 1)]) (st' := []) (h' := (shT, fi1, fl1, fr1)) rfl ?_
    exact gp_done g rfl
theorem vC_of {h : PmH} {a : AB} {m k c l : Nat} (hr : REL2 h a) (vk : VK (a_v a) m k c) (hl : (a_v a).1 6 = nI l) : vC a m k c l h := by
  have f := hr.1.2.1.2.2.2.2.1
  exact ⟨(f.1 0 (by decide)).trans vk.2.2.1, (f.1 1 (by decide)).trans vk.2.2.2.1, (f.1 2 (by decide)).trans vk.2.2.2.2.1, (f.1 3 (by decide)).trans vk.2.2.2.2.2.1, f.1 4 (by decide), (f.1 6 (by decide)).trans hl, (f.2 rfl).1⟩
theorem vM_of {h : PmH} {a : AB} {m k c l : Nat} (hr : REL2 h a) (vk : VK (a_v a) m k c) (hl : (a_v a).1 6 = nI l) : vM a m k c l h := by
  have f := hr.1.2.2.1.2.2.2.2.1
  exact ⟨(f.1 0 (by decide)).trans vk.2.2.2.1, (f.1 2 (by decide)).trans vk.2.2.2.2.1, (f.1 3 (by decide)).trans vk.2.2.2.2.2.1, f.1 4 (by decide), (f.1 6 (by decide)).trans hl, (f.2 rfl).1⟩
/-- the class's weights -/
theorem wt_C {h : PmH} {a : AB} {m k c l w : Nat} (hr : REL2 h a) (h0 : 0 < (a_v a).1 1) (vk : VK (a_v a) m k c) (hl : (a_v a).1 6 = nI l) (hw : w ≤ 2 ^ m) : ∃ h', Ev pmT 135 [.ref 0, .int (nI w)] h (some (.int (wtV a m k c w))) h' := by
  have p6 := pw_6 m (by have := vk.1; omega)
  have hI := hr.1.1
  have kk := vk_k vk
  have hv := vC_of hr vk hl
  have t1 := told1 hI (hr.1.2.1.2.2.2.2.1.1 1 (by decide)) h0
  have k0 : ph_r h 0 0 = some 1 := hi_r hI rfl rfl (by decide)
  have k11 : ph_r h 0 11 = some 38 := hi_r hI rfl rfl (by decide)
  have c1 : ph_i h 1 1 = nI (2 ^ m) := hv.2.1
  have c2 : ph_i h 1 2 = nI k := hv.2.2.1
  have le : nI w ≤ nI (2 ^ m) := nI_le hw (by omega)
  have w0 : ¬ nI w < 0 := nI_pos (by omega)
  unfold wtV
  by_cases h12 : 12 < k
  · rw [if_pos h12]
    refine ⟨h, ?_⟩
    have gt : ¬ nI k ≤ 12 := nI_ge (a := 12) h12 (by omega)
    generalize nI (2 ^ m) = N at *
    clear hr hv
    refine Ev.of (es := cd_135) (ml := 2) (lv := [some (.ref 0), some (.int (nI w))]) rfl rfl rfl ?_
    obtain ⟨S, fi, fl, fr⟩ := h
    have hS : S = shT := hI.1
    subst hS
    have k0 : fr 0 0 = some 1 := k0
    have c1 : fi 1 1 = N := c1
    have c2 : fi 1 2 = nI k := c2
    refine go_of ?_
    refine gp_n 1 (j' := 1) (lv' := [some (.ref 0), some (.int (nI w))]) (st' := [.ref 0]) (h' := (shT, fi, fl, fr)) rfl ?_
    refine gp_of (fun _ k9 => g_getR (q' := 1) rfl rfl (by decide) k0 k9) ?_
    refine gp_of (fun _ k9 => g_call (y := 57) (as := [.ref 1]) (st' := []) rfl rfl (t1) k9) ?_
    refine gp_of (fun _ k9 => g_iff rfl (show ¬ ((1 : Int32) = (0 : Int32)) from by decide) k9) ?_
    refine gp_n 1 (j' := 5) (lv' := [some (.ref 0), some (.int (nI w))]) (st' := [.int (nI w)]) (h' := (shT, fi, fl, fr)) rfl ?_
    refine gp_of (fun _ k9 => g_iff rfl (show ¬ ((nI w) < (0 : Int32)) from w0) k9) ?_
    refine gp_n 2 (j' := 8) (lv' := [some (.ref 0), some (.int (nI w))]) (st' := [.ref 0, .int (nI w)]) (h' := (shT, fi, fl, fr)) rfl ?_
    refine gp_of (fun _ k9 => g_getR (q' := 1) rfl rfl (by decide) k0 k9) ?_
    refine gp_of (fun _ k9 => g_getI (x := N) rfl (Or.inl rfl) rfl (by decide) (c1) k9) ?_
    refine gp_of (fun _ k9 => g_ict rfl (show (nI w) ≤ N from le) k9) ?_
    refine gp_n 1 (j' := 14) (lv' := [some (.ref 0), some (.int (nI w))]) (st' := [.ref 0]) (h' := (shT, fi, fl, fr)) rfl ?_
    refine gp_of (fun _ k9 => g_getR (q' := 1) rfl rfl (by decide) k0 k9) ?_
    refine gp_of (fun _ k9 => g_getI (x := nI k) rfl (Or.inl rfl) rfl (by decide) (c2) k9) ?_
    refine gp_n 1 (j' := 17) (lv' := [some (.ref 0), some (.int (nI w))]) (st' := [.int 12, .int (nI k)]) (h' := (shT, fi, fl, fr)) rfl ?_
    refine gp_of (fun _ k9 => g_icf rfl (show ¬ ((nI k) ≤ (12 : Int32)) from gt) k9) ?_
    refine gp_n 2 (j' := 26) (lv' := [some (.ref 0), some (.int (nI w))]) (st' := [.int (-3)]) (h' := (shT, fi, fl, fr)) rfl ?_
    refine gp_done (g_ret rfl) ?_
    rfl
  · rw [if_neg h12]
    obtain ⟨h1, e1⟩ := hw_ev hI vk hv (by omega) (w := w) (by omega)
    refine ⟨h1, ?_⟩
    have gt : nI k ≤ 12 := nI_le (b := 12) (by omega) (by decide)
    generalize nI (2 ^ m) = N at *
    generalize nI (sm (wf (eW a m k c) w) (2 ^ k)) = V at *
    clear hr hv
    refine Ev.of (es := cd_135) (ml := 2) (lv := [some (.ref 0), some (.int (nI w))]) rfl rfl rfl ?_
    obtain ⟨S, fi, fl, fr⟩ := h
    have hS : S = shT := hI.1
    subst hS
    have k0 : fr 0 0 = some 1 := k0
    have k11 : fr 0 11 = some 38 := k11
    have c1 : fi 1 1 = N := c1
    have c2 : fi 1 2 = nI k := c2
    refine go_of ?_
    refine gp_n 1 (j' := 1) (lv' := [some (.ref 0), some (.int (nI w))]) (st' := [.ref 0]) (h' := (shT, fi, fl, fr)) rfl ?_
    refine gp_of (fun _ k9 => g_getR (q' := 1) rfl rfl (by decide) k0 k9) ?_
    refine gp_of (fun _ k9 => g_call (y := 57) (as := [.ref 1]) (st' := []) rfl rfl (t1) k9) ?_
    refine gp_of (fun _ k9 => g_iff rfl (show ¬ ((1 : Int32) = (0 : Int32)) from by decide) k9) ?_
    refine gp_n 1 (j' := 5) (lv' := [some (.ref 0), some (.int (nI w))]) (st' := [.int (nI w)]) (h' := (shT, fi, fl, fr)) rfl ?_
    refine gp_of (fun _ k9 => g_iff rfl (show ¬ ((nI w) < (0 : Int32)) from w0) k9) ?_
    refine gp_n 2 (j' := 8) (lv' := [some (.ref 0), some (.int (nI w))]) (st' := [.ref 0, .int (nI w)]) (h' := (shT, fi, fl, fr)) rfl ?_
    refine gp_of (fun _ k9 => g_getR (q' := 1) rfl rfl (by decide) k0 k9) ?_
    refine gp_of (fun _ k9 => g_getI (x := N) rfl (Or.inl rfl) rfl (by decide) (c1) k9) ?_
    refine gp_of (fun _ k9 => g_ict rfl (show (nI w) ≤ N from le) k9) ?_
    refine gp_n 1 (j' := 14) (lv' := [some (.ref 0), some (.int (nI w))]) (st' := [.ref 0]) (h' := (shT, fi, fl, fr)) rfl ?_
    refine gp_of (fun _ k9 => g_getR (q' := 1) rfl rfl (by decide) k0 k9) ?_
    refine gp_of (fun _ k9 => g_getI (x := nI k) rfl (Or.inl rfl) rfl (by decide) (c2) k9) ?_
    refine gp_n 1 (j' := 17) (lv' := [some (.ref 0), some (.int (nI w))]) (st' := [.int 12, .int (nI k)]) (h' := (shT, fi, fl, fr)) rfl ?_
    refine gp_of (fun _ k9 => g_ict rfl (show (nI k) ≤ (12 : Int32) from gt) k9) ?_
    refine gp_n 1 (j' := 21) (lv' := [some (.ref 0), some (.int (nI w))]) (st' := [.ref 0]) (h' := (shT, fi, fl, fr)) rfl ?_
    refine gp_of (fun _ k9 => g_getR (q' := 38) rfl rfl (by decide) k11 k9) ?_
    refine gp_n 1 (j' := 23) (lv' := [some (.ref 0), some (.int (nI w))]) (st' := [.ref 0, .ref 38]) (h' := (shT, fi, fl, fr)) rfl ?_
    refine gp_of (fun _ k9 => g_getR (q' := 1) rfl rfl (by decide) k0 k9) ?_
    refine gp_n 1 (j' := 25) (lv' := [some (.ref 0), some (.int (nI w))]) (st' := [.int (nI w), .ref 1, .ref 38]) (h' := (shT, fi, fl, fr)) rfl ?_
    refine gp_of (fun _ k9 => g_call (y := 136) (as := [.ref 38, .ref 1, .int (nI w)]) (st' := []) rfl rfl (e1) k9) ?_
    refine gp_done (g_ret rfl) ?_
    rfl
theorem wt_C0 {h : PmH} {a : AB} {w : Int32} (hr : REL2 h a) (hn : ¬ (0 < (a_v a).1 1 ∧ (0 ≤ w ∧ w ≤ (a_v a).1 1))) : Ev pmT 135 [.ref 0, .int w] h (some (.int (-1))) h := by
  have hI := hr.1.1
  have f := hr.1.2.1.2.2.2.2.1.1 1 (by decide)
  have t1 := told1 hI f
  have t0 := told0 hI f
  have k0 : ph_r h 0 0 = some 1 := hi_r hI rfl rfl (by decide)
  clear hr
  generalize (a_v a).1 1 = n at *
  refine Ev.of (es := cd_135) (ml := 2) (lv := [some (.ref 0), some (.int w)]) rfl rfl rfl ?_
  obtain ⟨S, fi, fl, fr⟩ := h
  have hS : S = shT := hI.1
  subst hS
  have k0 : fr 0 0 = some 1 := k0
  have f : fi 1 1 = n := f
  refine go_of ?_
  by_cases h0 : 0 < n
  · have t1 := t1 h0
    by_cases h1 : w < 0
    ·
      refine gp_n 1 (j' := 1) (lv' := [some (.ref 0), some (.int w)]) (st' := [.ref 0]) (h' := (shT, fi, fl, fr)) rfl ?_
      refine gp_of (fun _ k9 => g_getR (q' := 1) rfl rfl (by decide) k0 k9) ?_
      refine gp_of (fun _ k9 => g_call (y := 57) (as := [.ref 1]) (st' := []) rfl rfl (t1) k9) ?_
      refine gp_of (fun _ k9 => g_iff rfl (show ¬ ((1 : Int32) = (0 : Int32)) from by decide) k9) ?_
      refine gp_n 1 (j' := 5) (lv' := [some (.ref 0), some (.int w)]) (st' := [.int w]) (h' := (shT, fi, fl, fr)) rfl ?_
      refine gp_of (fun _ k9 => g_ift rfl (show w < (0 : Int32) from h1) k9) ?_
      refine gp_n 1 (j' := 12) (lv' := [some (.ref 0), some (.int w)]) (st' := [.int (-1)]) (h' := (shT, fi, fl, fr)) rfl ?_
      refine gp_done (g_ret rfl) ?_
      rfl
    · have h2 : ¬ w ≤ n := fun z => hn ⟨h0, Int32.not_lt.mp h1, z⟩
      refine gp_n 1 (j' := 1) (lv' := [some (.ref 0), some (.int w)]) (st' := [.ref 0]) (h' := (shT, fi, fl, fr)) rfl ?_
      refine gp_of (fun _ k9 => g_getR (q' := 1) rfl rfl (by decide) k0 k9) ?_
      refine gp_of (fun _ k9 => g_call (y := 57) (as := [.ref 1]) (st' := []) rfl rfl (t1) k9) ?_
      refine gp_of (fun _ k9 => g_iff rfl (show ¬ ((1 : Int32) = (0 : Int32)) from by decide) k9) ?_
      refine gp_n 1 (j' := 5) (lv' := [some (.ref 0), some (.int w)]) (st' := [.int w]) (h' := (shT, fi, fl, fr)) rfl ?_
      refine gp_of (fun _ k9 => g_iff rfl (show ¬ (w < (0 : Int32)) from h1) k9) ?_
      refine gp_n 2 (j' := 8) (lv' := [some (.ref 0), some (.int w)]) (st' := [.ref 0, .int w]) (h' := (shT, fi, fl, fr)) rfl ?_
      refine gp_of (fun _ k9 => g_getR (q' := 1) rfl rfl (by decide) k0 k9) ?_
      refine gp_of (fun _ k9 => g_getI (x := n) rfl (Or.inl rfl) rfl (by decide) (f) k9) ?_
      refine gp_of (fun _ k9 => g_icf rfl (show ¬ (w ≤ n) from h2) k9) ?_
      refine gp_n 1 (j' := 12) (lv' := [some (.ref 0), some (.int w)]) (st' := [.int (-1)]) (h' := (shT, fi, fl, fr)) rfl ?_
      refine gp_done (g_ret rfl) ?_
      rfl
  · have t0 := t0 h0
    refine gp_n 1 (j' := 1) (lv' := [some (.ref 0), some (.int w)]) (st' := [.ref 0]) (h' := (shT, fi, fl, fr)) rfl ?_
    refine gp_of (fun _ k9 => g_getR (q' := 1) rfl rfl (by decide) k0 k9) ?_
    refine gp_of (fun _ k9 => g_call (y := 57) (as := [.ref 1]) (st' := []) rfl rfl (t0) k9) ?_
    refine gp_of (fun _ k9 => g_ift rfl (show (0 : Int32) = (0 : Int32) from by decide) k9) ?_
    refine gp_n 1 (j' := 12) (lv' := [some (.ref 0), some (.int w)]) (st' := [.int (-1)]) (h' := (shT, fi, fl, fr)) rfl ?_
    refine gp_done (g_ret rfl) ?_
    rfl
theorem en_M {h : PmH} {a : AB} {m k c l : Nat} (hI : HI hdT shT h) (vk : VK (a_v a) m k c) (hv : vM a m k c l h) (w : Int64) : ∃ y, Ev pmT 173 [.ref 70, .long w] h (some (.long y)) h ∧ Ev pmT 175 [.long y, .int (nI (2 ^ m))] h (some (.long (enW m (2 ^ m) k c (a_v a).2.1 w ((a_v a).1 4)))) h := by
  have p6 := pw_6 m (by have := vk.1; omega)
  obtain ⟨y, y1, y2⟩ := ch_ev2 (w := w) hI p6.2 vk.2.2.2.2.2.2.1 vk.2.1 hv.1 hv.2.1 hv.2.2.1 hv.2.2.2.1 hv.2.2.2.2.2
  obtain ⟨z, z1, z2⟩ := bm_ev2 vk.1 (h := h) (x := y) (fun j hj => by
    by_cases h64 : j < 64
    · rw [y2 j h64, decide_eq_false (by omega), Bool.false_and]
    · exact bl_64 _ (by omega))
  have z3 : z = enW m (2 ^ m) k c (a_v a).2.1 w ((a_v a).1 4) := enW_eq (fun j hj => (z2 j hj).trans (bfN_cg m 0 (by have := vk.1; omega) y2 j hj))
  subst z3
  exact ⟨y, y1, z1⟩
theorem wm_go {h : PmH} {a : AB} {m k c l w : Nat} (hI : HI hdT shT h) (vk : VK (a_v a) m k c) (hv : vM a m k c l h) (k12 : k ≤ 12) (w64 : w ≤ 64) : ∀ (n v : Nat), v + n = 2 ^ k → Go pmT none cd_225 23 [some (.ref 70), some (.int (nI w)), some (.int (nI (sm (wf (eW a m k c) w) v))), some (.int (nI v))] [] h (some (.int (nI (sm (wf (eW a m k c) w) (2 ^ k)))), h) := by
  have p12 := pw2_le k12
  have sh := sh12 k (by omega)
  have c14 := hv.1
  have c16 := hv.2.1
  intro n
  induction n with
  | zero =>
    intro v hi
    have hi : v = 2 ^ k := by omega
    rw [hi]
    generalize nI (sm (wf (eW a m k c) w) (2 ^ k)) = z
    rw [← sh]
    generalize hX : (1 : Int32) <<< (nI k &&& 31) = X
    clear sh hv c14
    obtain ⟨S, fi, fl, fr⟩ := h
    have hS : S = shT := hI.1
    subst hS
    have c16 : fi 70 16 = nI k := c16
    refine go_of ?_
    refine gp_n 3 (j' := 26) (lv' := [some (.ref 70), some (.int (nI w)), some (.int z), some (.int X)]) (st' := [.ref 70, .int 1, .int X]) (h' := (shT, fi, fl, fr)) rfl ?_
    refine gp_of (fun _ k9 => g_getI (x := nI k) rfl (Or.inl rfl) rfl (by decide) (c16) k9) ?_
    refine gp_n 1 (j' := 28) (lv' := [some (.ref 70), some (.int (nI w)), some (.int z), some (.int X)]) (st' := [.int ((1 : Int32) <<< ((nI k) &&& 31)), .int X]) (h' := (shT, fi, fl, fr)) rfl ?_
    refine gp_of (fun _ k9 => g_ict rfl (show ((1 : Int32) <<< ((nI k) &&& 31)) ≤ X from (by rw [hX]; exact Int32.le_refl _)) k9) ?_
    refine gp_n 1 (j' := 48) (lv' := [some (.ref 70), some (.int (nI w)), some (.int z), some (.int X)]) (st' := [.int z]) (h' := (shT, fi, fl, fr)) rfl ?_
    refine gp_done (g_ret rfl) ?_
    rfl
  | succ n ih =>
    intro v hi
    have g := ih (v + 1) (by omega)
    rw [sm] at g
    obtain ⟨y, y1, y2⟩ := en_M hI vk hv (nI v).toInt64
    have so := so_ev (K := eW a m k c v) (h := h)
    have pl := popc_le (eW a m k c v)
    have y2 : Ev pmT 175 [.long y, .int (nI (2 ^ m))] h (some (.long (eW a m k c v))) h := y2
    have lt : ¬ (1 : Int32) <<< (nI k &&& 31) ≤ nI v := by
      rw [sh]
      exact nI_ge (by omega) (by omega)
    have ew : wf (eW a m k c) w v = if popc (eW a m k c v) = w then 1 else 0 := rfl
    rw [ew] at g
    generalize sm (wf (eW a m k c) w) (2 ^ k) = eV at *
    generalize sm (wf (eW a m k c) w) v = q at *
    generalize popc (eW a m k c v) = pc at *
    generalize eW a m k c v = z at *
    generalize nI (2 ^ m) = N at *
    clear ih sh hv ew
    obtain ⟨S, fi, fl, fr⟩ := h
    have hS : S = shT := hI.1
    subst hS
    have c16 : fi 70 16 = nI k := c16
    have c14 : fi 70 14 = N := c14
    refine go_of ?_
    by_cases hp : pc = w
    · rw [if_pos hp, ← nI_add q 1] at g
      have hp2 : nI pc = nI w := by rw [hp]
      refine gp_n 3 (j' := 26) (lv' := [some (.ref 70), some (.int (nI w)), some (.int (nI q)), some (.int (nI v))]) (st' := [.ref 70, .int 1, .int (nI v)]) (h' := (shT, fi, fl, fr)) rfl ?_
      refine gp_of (fun _ k9 => g_getI (x := nI k) rfl (Or.inl rfl) rfl (by decide) (c16) k9) ?_
      refine gp_n 1 (j' := 28) (lv' := [some (.ref 70), some (.int (nI w)), some (.int (nI q)), some (.int (nI v))]) (st' := [.int ((1 : Int32) <<< ((nI k) &&& 31)), .int (nI v)]) (h' := (shT, fi, fl, fr)) rfl ?_
      refine gp_of (fun _ k9 => g_icf rfl (show ¬ (((1 : Int32) <<< ((nI k) &&& 31)) ≤ (nI v)) from lt) k9) ?_
      refine gp_n 4 (j' := 33) (lv' := [some (.ref 70), some (.int (nI w)), some (.int (nI q)), some (.int (nI v))]) (st' := [.long ((nI v).toInt64), .ref 70, .int (nI q)]) (h' := (shT, fi, fl, fr)) rfl ?_
      refine gp_of (fun _ k9 => g_call (y := 173) (as := [.ref 70, .long ((nI v).toInt64)]) (st' := [.int (nI q)]) rfl rfl (y1) k9) ?_
      refine gp_n 1 (j' := 35) (lv' := [some (.ref 70), some (.int (nI w)), some (.int (nI q)), some (.int (nI v))]) (st' := [.ref 70, .long y, .int (nI q)]) (h' := (shT, fi, fl, fr)) rfl ?_
      refine gp_of (fun _ k9 => g_getI (x := N) rfl (Or.inl rfl) rfl (by decide) (c14) k9) ?_
      refine gp_of (fun _ k9 => g_call (y := 175) (as := [.long y, .int N]) (st' := [.int (nI q)]) rfl rfl (y2) k9) ?_
      refine gp_of (fun _ k9 => g_call (y := 160) (as := [.long z]) (st' := [.int (nI q)]) rfl rfl (so) k9) ?_
      refine gp_n 1 (j' := 39) (lv' := [some (.ref 70), some (.int (nI w)), some (.int (nI q)), some (.int (nI v))]) (st' := [.int (nI w), .int (nI pc), .int (nI q)]) (h' := (shT, fi, fl, fr)) rfl ?_
      refine gp_of (fun _ k9 => g_icf rfl (show ¬ (¬ (nI pc) = (nI w)) from not_not_intro hp2) k9) ?_
      refine gp_n 6 (j' := 23) (lv' := [some (.ref 70), some (.int (nI w)), some (.int ((nI q) + 1)), some (.int ((nI v) + 1))]) (st' := []) (h' := (shT, fi, fl, fr)) rfl ?_
      rw [nI_1 v]
      exact gp_done g rfl
    · rw [if_neg hp, ← nI_add q 0] at g
      have hp2 : ¬ nI pc = nI w := fun z => hp ((nI_eq (by omega) (by omega)).mp z)
      refine gp_n 3 (j' := 26) (lv' := [some (.ref 70), some (.int (nI w)), some (.int (nI q)), some (.int (nI v))]) (st' := [.ref 70, .int 1, .int (nI v)]) (h' := (shT, fi, fl, fr)) rfl ?_
      refine gp_of (fun _ k9 => g_getI (x := nI k) rfl (Or.inl rfl) rfl (by decide) (c16) k9) ?_
      refine gp_n 1 (j' := 28) (lv' := [some (.ref 70), some (.int (nI w)), some (.int (nI q)), some (.int (nI v))]) (st' := [.int ((1 : Int32) <<< ((nI k) &&& 31)), .int (nI v)]) (h' := (shT, fi, fl, fr)) rfl ?_
      refine gp_of (fun _ k9 => g_icf rfl (show ¬ (((1 : Int32) <<< ((nI k) &&& 31)) ≤ (nI v)) from lt) k9) ?_
      refine gp_n 4 (j' := 33) (lv' := [some (.ref 70), some (.int (nI w)), some (.int (nI q)), some (.int (nI v))]) (st' := [.long ((nI v).toInt64), .ref 70, .int (nI q)]) (h' := (shT, fi, fl, fr)) rfl ?_
      refine gp_of (fun _ k9 => g_call (y := 173) (as := [.ref 70, .long ((nI v).toInt64)]) (st' := [.int (nI q)]) rfl rfl (y1) k9) ?_
      refine gp_n 1 (j' := 35) (lv' := [some (.ref 70), some (.int (nI w)), some (.int (nI q)), some (.int (nI v))]) (st' := [.ref 70, .long y, .int (nI q)]) (h' := (shT, fi, fl, fr)) rfl ?_
      refine gp_of (fun _ k9 => g_getI (x := N) rfl (Or.inl rfl) rfl (by decide) (c14) k9) ?_
      refine gp_of (fun _ k9 => g_call (y := 175) (as := [.long y, .int N]) (st' := [.int (nI q)]) rfl rfl (y2) k9) ?_
      refine gp_of (fun _ k9 => g_call (y := 160) (as := [.long z]) (st' := [.int (nI q)]) rfl rfl (so) k9) ?_
      refine gp_n 1 (j' := 39) (lv' := [some (.ref 70), some (.int (nI w)), some (.int (nI q)), some (.int (nI v))]) (st' := [.int (nI w), .int (nI pc), .int (nI q)]) (h' := (shT, fi, fl, fr)) rfl ?_
      refine gp_of (fun _ k9 => g_ict rfl (show ¬ (nI pc) = (nI w) from hp2) k9) ?_
      refine gp_n 5 (j' := 23) (lv' := [some (.ref 70), some (.int (nI w)), some (.int ((nI q) + 0)), some (.int ((nI v) + 1))]) (st' := []) (h' := (shT, fi, fl, fr)) rfl ?_
      rw [nI_1 v]
      exact gp_done g rfl
theorem wt_M {h : PmH} {a : AB} {m k c l w : Nat} (hr : REL2 h a) (h0 : 0 < (a_v a).1 1) (vk : VK (a_v a) m k c) (hl : (a_v a).1 6 = nI l) (hw : w ≤ 2 ^ m) : Ev pmT 225 [.ref 70, .int (nI w)] h (some (.int (wtV a m k c w))) h := by
  have p6 := pw_6 m (by have := vk.1; omega)
  have hI := hr.1.1
  have kk := vk_k vk
  have hv := vM_of hr vk hl
  have t1 := isc1 hI (hr.1.2.2.1.2.2.2.2.1.1 0 (by decide)) h0
  have c14 := hv.1
  have c16 := hv.2.1
  have is := isin_1 (x := nI w) 0 (nI (2 ^ m)) (l1 := 0) (l2 := (nI (2 ^ m)).toInt64) (h := h) (by decide) rfl ⟨nI_pos' (by omega), nI_le hw (by omega)⟩
  unfold wtV
  by_cases h12 : 12 < k
  · rw [if_pos h12]
    have gt : ¬ nI k ≤ 12 := nI_ge (a := 12) h12 (by omega)
    generalize nI (2 ^ m) = N at *
    clear hr hv
    refine Ev.of (es := cd_225) (ml := 4) (lv := [some (.ref 70), some (.int (nI w)), none, none]) rfl rfl rfl ?_
    obtain ⟨S, fi, fl, fr⟩ := h
    have hS : S = shT := hI.1
    subst hS
    have c14 : fi 70 14 = N := c14
    have c16 : fi 70 16 = nI k := c16
    refine go_of ?_
    refine gp_n 1 (j' := 1) (lv' := [some (.ref 70), some (.int (nI w)), none, none]) (st' := [.ref 70]) (h' := (shT, fi, fl, fr)) rfl ?_
    refine gp_of (fun _ k9 => g_call (y := 172) (as := [.ref 70]) (st' := []) rfl rfl (t1) k9) ?_
    refine gp_of (fun _ k9 => g_iff rfl (show ¬ ((1 : Int32) = (0 : Int32)) from by decide) k9) ?_
    refine gp_n 4 (j' := 7) (lv' := [some (.ref 70), some (.int (nI w)), none, none]) (st' := [.ref 70, .long 0, .long ((nI w).toInt64)]) (h' := (shT, fi, fl, fr)) rfl ?_
    refine gp_of (fun _ k9 => g_getI (x := N) rfl (Or.inl rfl) rfl (by decide) (c14) k9) ?_
    refine gp_n 1 (j' := 9) (lv' := [some (.ref 70), some (.int (nI w)), none, none]) (st' := [.long N.toInt64, .long 0, .long ((nI w).toInt64)]) (h' := (shT, fi, fl, fr)) rfl ?_
    refine gp_of (fun _ k9 => g_call (y := 148) (as := [.long ((nI w).toInt64), .long 0, .long N.toInt64]) (st' := []) rfl rfl (is) k9) ?_
    refine gp_of (fun _ k9 => g_ift rfl (show ¬ (1 : Int32) = (0 : Int32) from by decide) k9) ?_
    refine gp_n 1 (j' := 14) (lv' := [some (.ref 70), some (.int (nI w)), none, none]) (st' := [.ref 70]) (h' := (shT, fi, fl, fr)) rfl ?_
    refine gp_of (fun _ k9 => g_getI (x := nI k) rfl (Or.inl rfl) rfl (by decide) (c16) k9) ?_
    refine gp_n 1 (j' := 16) (lv' := [some (.ref 70), some (.int (nI w)), none, none]) (st' := [.int 12, .int (nI k)]) (h' := (shT, fi, fl, fr)) rfl ?_
    refine gp_of (fun _ k9 => g_icf rfl (show ¬ ((nI k) ≤ (12 : Int32)) from gt) k9) ?_
    refine gp_n 1 (j' := 18) (lv' := [some (.ref 70), some (.int (nI w)), none, none]) (st' := [.int (-3)]) (h' := (shT, fi, fl, fr)) rfl ?_
    refine gp_done (g_ret rfl) ?_
    rfl
  · rw [if_neg h12]
    have gt : nI k ≤ 12 := nI_le (b := 12) (by omega) (by decide)
    have g := wm_go (w := w) hI vk hv (by omega) (by omega) (2 ^ k) 0 (by omega)
    generalize nI (2 ^ m) = N at *
    generalize nI (sm (wf (eW a m k c) w) (2 ^ k)) = V at *
    clear hr hv
    refine Ev.of (es := cd_225) (ml := 4) (lv := [some (.ref 70), some (.int (nI w)), none, none]) rfl rfl rfl ?_
    obtain ⟨S, fi, fl, fr⟩ := h
    have hS : S = shT := hI.1
    subst hS
    have c14 : fi 70 14 = N := c14
    have c16 : fi 70 16 = nI k := c16
    refine go_of ?_
    refine gp_n 1 (j' := 1) (lv' := [some (.ref 70), some (.int (nI w)), none, none]) (st' := [.ref 70]) (h' := (shT, fi, fl, fr)) rfl ?_
    refine gp_of (fun _ k9 => g_call (y := 172) (as := [.ref 70]) (st' := []) rfl rfl (t1) k9) ?_
    refine gp_of (fun _ k9 => g_iff rfl (show ¬ ((1 : Int32) = (0 : Int32)) from by decide) k9) ?_
    refine gp_n 4 (j' := 7) (lv' := [some (.ref 70), some (.int (nI w)), none, none]) (st' := [.ref 70, .long 0, .long ((nI w).toInt64)]) (h' := (shT, fi, fl, fr)) rfl ?_
    refine gp_of (fun _ k9 => g_getI (x := N) rfl (Or.inl rfl) rfl (by decide) (c14) k9) ?_
    refine gp_n 1 (j' := 9) (lv' := [some (.ref 70), some (.int (nI w)), none, none]) (st' := [.long N.toInt64, .long 0, .long ((nI w).toInt64)]) (h' := (shT, fi, fl, fr)) rfl ?_
    refine gp_of (fun _ k9 => g_call (y := 148) (as := [.long ((nI w).toInt64), .long 0, .long N.toInt64]) (st' := []) rfl rfl (is) k9) ?_
    refine gp_of (fun _ k9 => g_ift rfl (show ¬ (1 : Int32) = (0 : Int32) from by decide) k9) ?_
    refine gp_n 1 (j' := 14) (lv' := [some (.ref 70), some (.int (nI w)), none, none]) (st' := [.ref 70]) (h' := (shT, fi, fl, fr)) rfl ?_
    refine gp_of (fun _ k9 => g_getI (x := nI k) rfl (Or.inl rfl) rfl (by decide) (c16) k9) ?_
    refine gp_n 1 (j' := 16) (lv' := [some (.ref 70), some (.int (nI w)), none, none]) (st' := [.int 12, .int (nI k)]) (h' := (shT, fi, fl, fr)) rfl ?_
    refine gp_of (fun _ k9 => g_ict rfl (show (nI k) ≤ (12 : Int32) from gt) k9) ?_
    refine gp_n 4 (j' := 23) (lv' := [some (.ref 70), some (.int (nI w)), some (.int 0), some (.int 0)]) (st' := []) (h' := (shT, fi, fl, fr)) rfl ?_
    exact gp_done g rfl
theorem wt_M0 {h : PmH} {a : AB} {w : Int32} (hr : REL2 h a) (hn : ¬ (0 < (a_v a).1 1 ∧ (0 ≤ w ∧ w ≤ (a_v a).1 1))) : Ev pmT 225 [.ref 70, .int w] h (some (.int (-1))) h := by
  have hI := hr.1.1
  have c14 : ph_i h 70 14 = (a_v a).1 1 := hr.1.2.2.1.2.2.2.2.1.1 0 (by decide)
  have t1 := isc1 hI c14
  have t0 := isc0 hI c14
  clear hr
  generalize (a_v a).1 1 = n at *
  have is := fun z => isin_0 (x := w) 0 n (l1 := 0) (l2 := n.toInt64) (h := h) (by decide) rfl z
  refine Ev.of (es := cd_225) (ml := 4) (lv := [some (.ref 70), some (.int w), none, none]) rfl rfl rfl ?_
  obtain ⟨S, fi, fl, fr⟩ := h
  have hS : S = shT := hI.1
  subst hS
  have c14 : fi 70 14 = n := c14
  refine go_of ?_
  by_cases h0 : 0 < n
  · have t1 := t1 h0
    have is := is (fun z => hn ⟨h0, z⟩)
    refine gp_n 1 (j' := 1) (lv' := [some (.ref 70), some (.int w), none, none]) (st' := [.ref 70]) (h' := (shT, fi, fl, fr)) rfl ?_
    refine gp_of (fun _ k9 => g_call (y := 172) (as := [.ref 70]) (st' := []) rfl rfl (t1) k9) ?_
    refine gp_of (fun _ k9 => g_iff rfl (show ¬ ((1 : Int32) = (0 : Int32)) from by decide) k9) ?_
    refine gp_n 4 (j' := 7) (lv' := [some (.ref 70), some (.int w), none, none]) (st' := [.ref 70, .long 0, .long w.toInt64]) (h' := (shT, fi, fl, fr)) rfl ?_
    refine gp_of (fun _ k9 => g_getI (x := n) rfl (Or.inl rfl) rfl (by decide) (c14) k9) ?_
    refine gp_n 1 (j' := 9) (lv' := [some (.ref 70), some (.int w), none, none]) (st' := [.long n.toInt64, .long 0, .long w.toInt64]) (h' := (shT, fi, fl, fr)) rfl ?_
    refine gp_of (fun _ k9 => g_call (y := 148) (as := [.long w.toInt64, .long 0, .long n.toInt64]) (st' := []) rfl rfl (is) k9) ?_
    refine gp_of (fun _ k9 => g_iff rfl (show ¬ (¬ (0 : Int32) = (0 : Int32)) from by decide) k9) ?_
    refine gp_n 1 (j' := 12) (lv' := [some (.ref 70), some (.int w), none, none]) (st' := [.int (-1)]) (h' := (shT, fi, fl, fr)) rfl ?_
    refine gp_done (g_ret rfl) ?_
    rfl
  · have t0 := t0 h0
    refine gp_n 1 (j' := 1) (lv' := [some (.ref 70), some (.int w), none, none]) (st' := [.ref 70]) (h' := (shT, fi, fl, fr)) rfl ?_
    refine gp_of (fun _ k9 => g_call (y := 172) (as := [.ref 70]) (st' := []) rfl rfl (t0) k9) ?_
    refine gp_of (fun _ k9 => g_ift rfl (show (0 : Int32) = (0 : Int32) from by decide) k9) ?_
    refine gp_n 1 (j' := 12) (lv' := [some (.ref 70), some (.int w), none, none]) (st' := [.int (-1)]) (h' := (shT, fi, fl, fr)) rfl ?_
    refine gp_done (g_ret rfl) ?_
    rfl
/-- a pair whose answers are told apart from it -/
theorem p4I {yC yM : Nat} {as : List Value} {h : PmH} {IC : Inst} (vC' : iv pmT hdT shT IC) (eC : in_y IC = yC) (oC : in_o IC = []) (gC : ∀ (lv : PmL) (h' : PmH), gst lv h' ((in_a IC).map nt) (.ref 0 :: as)) (w1 : irC (in_w IC) = true) (w2 : irM (in_w IC) = true) {a : AB} {V : Int32} (hr : REL3 h a) (p : PI3 yC yM as h (fun _ _ => True)) (hC : ∃ h', Ev pmT yC (.ref 0 :: as) h (some (.int V)) h') (hM : ∀ h1, REL2 h1 a → ∃ h', Ev pmT yM (.ref 70 :: as) h1 (some (.int V)) h') : PI3 yC yM as h (fun x y => x = y) := by
  subst eC
  obtain ⟨x, y, h1, h2, a', e1, e2, r, I1, -⟩ := p
  obtain ⟨g1, f1⟩ := hC
  obtain ⟨d1, -⟩ := ev_det f1 e1
  have F1 := (iv_s vC' oC gC hr.1.1.1 e1).2
  obtain ⟨g2, f2⟩ := hM h1 (q_fr w1 w2 I1 F1 hr.1)
  obtain ⟨d2, -⟩ := ev_det f2 e2
  cases d1
  cases d2
  exact ⟨_, _, h1, h2, a', e1, e2, r, I1, rfl⟩
theorem p4_weights {h : PmH} {a : AB} (w : Int32) (hr : REL3 h a) : PI3 135 225 [.int w] h (fun x y => x = y) := by
  by_cases hn : 0 < (a_v a).1 1 ∧ (0 ≤ w ∧ w ≤ (a_v a).1 1)
  · obtain ⟨h0, hw⟩ := id hn
    obtain ⟨m, k, c, l, vk, hl, l1, l8⟩ := rd_get hr h0
    have p6 := pw_6 m (by have := vk.1; omega)
    rw [vk.2.2.2.1] at hw
    obtain ⟨n, n1, rfl⟩ := nI_of2 (n := 2 ^ m) (M := nI (2 ^ m)) (nI_toInt (by omega)) (Int32.not_lt.mpr hw.1) hw.2
    exact p4I vN_149 rfl rfl (fun _ _ => gz_c (gz_r (by decide)) (gz_c (gz_a _) gz_n)) (by decide) (by decide) hr (p3_weights _ hr) (wt_C hr.1 h0 vk hl n1) (fun h1 r1 => ⟨h1, wt_M r1 h0 vk hl n1⟩)
  · exact p4I vN_149 rfl rfl (fun _ _ => gz_c (gz_r (by decide)) (gz_c (gz_a _) gz_n)) (by decide) (by decide) hr (p3_weights _ hr) ⟨h, wt_C0 hr.1 hn⟩ (fun h1 r1 => ⟨h1, wt_M0 r1 hn⟩)
