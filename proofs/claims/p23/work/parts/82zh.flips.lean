/-! FLIPPED -/
theorem bst_cg {K K' : Nat → Int} {L L' : Nat → Bool} : ∀ n, (∀ i, i < n → L i = L' i) → (∀ i, i < n → L i = true → K i = K' i) → bst K L n = bst K' L' n
  | 0, _, _ => rfl
  | n + 1, h1, h2 => by
    have ih := bst_cg n (fun i hi => h1 i (by omega)) (fun i hi => h2 i (by omega))
    have bp := bst_p (K := K) (L := L) n
    rw [bst, bst, ← ih, ← h1 n (by omega)]
    cases hl : L n
    · rfl
    · rw [if_pos rfl, if_pos rfl]
      cases hb : bst K L n with
      | none => rfl
      | some b =>
        rw [hb] at bp
        show (if K n < K b then some n else some b) = (if K' n < K' b then some n else some b)
        rw [h2 n (by omega) hl, h2 b (by have := bp.1; omega) bp.2.1]
theorem bst_tp {K : Nat → Int} {L : Nat → Bool} {N : Nat} : ∀ n, (∀ i, N ≤ i → i < N + n → L i = false) → bst K L (N + n) = bst K L N
  | 0, _ => rfl
  | n + 1, h => by
    show bst K L (N + n + 1) = _
    rw [bst, h (N + n) (by omega) (by omega), if_neg (by decide), bst_tp n (fun i z1 z2 => h i z1 (by omega))]
def nxt (su : Nat → Int32) (K T : Int64) (N : Nat) : Option Nat := bst (fun i => (su i).toInt) (fun i => bl K i && !bl T i) N
theorem nxt_p {su : Nat → Int32} {K T : Int64} {N F : Nat} (h : nxt su K T N = some F) : F < N ∧ bl K F = true ∧ bl T F = false := by
  have bp := bst_p (K := fun i => (su i).toInt) (L := fun i => bl K i && !bl T i) N
  unfold nxt at h
  rw [h] at bp
  obtain ⟨b1, b2, -⟩ := bp
  have b2 : (bl K F && !bl T F) = true := b2
  cases hk : bl K F <;> cases ht : bl T F <;> rw [hk, ht] at b2 <;> first | exact ⟨b1, rfl, rfl⟩ | cases b2
/-- how many were tried, and which it was -/
def flp (su : Nat → Int32) (K : Int64) (N : Nat) (ok : Nat → Bool) : Nat → Int64 → Nat → Nat × Option Nat
  | 0, _, t => (t, none)
  | n + 1, T, t => match nxt su K T N with
    | none => (t, none)
    | some F => if ok F = true then (t + 1, some F) else flp su K N ok n (T ||| bitAt F) (t + 1)
-- the class
theorem ls_go2 {su : Nat → Int32} {w : Int64} {fi : Nat → Nat → Int32} {fl : Nat → Nat → Int64} {fr : Nat → Nat → Option Nat} (k4 : fr 32 4 = some 33) (hs : ∀ i, i < 64 → fi 33 i = su i) : ∀ (n i : Nat) (l5 : Option Value), i + n = 64 → ∀ r, (∀ l5, Go pmT none cd_116 37 [some (.ref 32), some (.long w), none, some (.int (oI (bst (fun i => (su i).toInt) (bl w) 64))), some (.int (nI 64)), l5] [] (shT, fi, fl, fr) r) → Go pmT none cd_116 4 [some (.ref 32), some (.long w), none, some (.int (oI (bst (fun i => (su i).toInt) (bl w) i))), some (.int (nI i)), l5] [] (shT, fi, fl, fr) r := by
  intro n
  induction n with
  | zero =>
    intro i l5 hi r k
    have hi : i = 64 := by omega
    subst hi
    have k := k l5
    generalize oI (bst (fun i => (su i).toInt) (bl w) 64) = e at *
    refine go_of ?_
    refine gp_n 2 (j' := 6) (lv' := [some (.ref 32), some (.long w), none, some (.int e), some (.int (nI 64)), l5]) (st' := [.int 64, .int (nI 64)]) (h' := (shT, fi, fl, fr)) rfl ?_
    refine gp_of (fun _ k9 => g_ict rfl (show (64 : Int32) ≤ (nI 64) from by decide) k9) ?_
    exact gp_done k rfl
  | succ n ih =>
    intro i l5 hi r k
    have g := fun l5 => ih (i + 1) l5 (by omega) r k
    have si := hs i (by omega)
    have bp := bst_p (K := fun i => (su i).toInt) (L := bl w) i
    have ub := ub_l w (n := i) (by omega)
    unfold us6 at ub
    rw [bst] at g
    have le : ¬ (64 : Int32) ≤ nI i := nI_ge (b := 64) (by omega) (by omega)
    clear ih k
    cases hl : bl w i
    · rw [hl, if_neg (by decide)] at g
      rw [hl, if_neg (by decide)] at ub
      generalize oI (bst (fun i => (su i).toInt) (bl w) i) = e at *
      refine go_of ?_
      refine gp_n 2 (j' := 6) (lv' := [some (.ref 32), some (.long w), none, some (.int e), some (.int (nI i)), l5]) (st' := [.int 64, .int (nI i)]) (h' := (shT, fi, fl, fr)) rfl ?_
      refine gp_of (fun _ k9 => g_icf rfl (show ¬ ((64 : Int32) ≤ (nI i)) from le) k9) ?_
      refine gp_n 5 (j' := 12) (lv' := [some (.ref 32), some (.long w), none, some (.int e), some (.int (nI i)), l5]) (st' := [.long (((w.toUInt64 >>> ((nI i : Int32).toInt64.toUInt64 &&& Int64.toUInt64 63)).toInt64) &&& 1)]) (h' := (shT, fi, fl, fr)) rfl ?_
      rw [ub]
      refine gp_n 2 (j' := 14) (lv' := [some (.ref 32), some (.long w), none, some (.int e), some (.int (nI i)), l5]) (st' := [.int (lg_cmp 0 0)]) (h' := (shT, fi, fl, fr)) rfl ?_
      refine gp_of (fun _ k9 => g_ift rfl (show (lg_cmp 0 0) = (0 : Int32) from by decide) k9) ?_
      refine gp_n 3 (j' := 20) (lv' := [some (.ref 32), some (.long w), none, some (.int e), some (.int (nI i)), some (.int 0)]) (st' := [.int 0]) (h' := (shT, fi, fl, fr)) rfl ?_
      refine gp_of (fun _ k9 => g_ift rfl (show (0 : Int32) = (0 : Int32) from by decide) k9) ?_
      refine gp_n 2 (j' := 4) (lv' := [some (.ref 32), some (.long w), none, some (.int e), some (.int ((nI i) + 1)), some (.int 0)]) (st' := []) (h' := (shT, fi, fl, fr)) rfl ?_
      rw [nI_1]
      exact gp_done (g _) rfl
    · rw [hl, if_pos rfl] at g
      rw [hl, if_pos rfl] at ub
      cases hb : bst (fun i => (su i).toInt) (bl w) i with
      | none =>
        rw [hb] at g
        have g : ∀ l5, Go pmT none cd_116 4 [some (.ref 32), some (.long w), none, some (.int (nI i)), some (.int (nI (i + 1))), l5] [] (shT, fi, fl, fr) r := g
        show Go pmT none cd_116 4 [some (.ref 32), some (.long w), none, some (.int (-1)), some (.int (nI i)), l5] [] _ _
        refine go_of ?_
        refine gp_n 2 (j' := 6) (lv' := [some (.ref 32), some (.long w), none, some (.int (-1)), some (.int (nI i)), l5]) (st' := [.int 64, .int (nI i)]) (h' := (shT, fi, fl, fr)) rfl ?_
        refine gp_of (fun _ k9 => g_icf rfl (show ¬ ((64 : Int32) ≤ (nI i)) from le) k9) ?_
        refine gp_n 5 (j' := 12) (lv' := [some (.ref 32), some (.long w), none, some (.int (-1)), some (.int (nI i)), l5]) (st' := [.long (((w.toUInt64 >>> ((nI i : Int32).toInt64.toUInt64 &&& Int64.toUInt64 63)).toInt64) &&& 1)]) (h' := (shT, fi, fl, fr)) rfl ?_
        rw [ub]
        refine gp_n 2 (j' := 14) (lv' := [some (.ref 32), some (.long w), none, some (.int (-1)), some (.int (nI i)), l5]) (st' := [.int (lg_cmp 1 0)]) (h' := (shT, fi, fl, fr)) rfl ?_
        refine gp_of (fun _ k9 => g_iff rfl (show ¬ ((lg_cmp 1 0) = (0 : Int32)) from by decide) k9) ?_
        refine gp_n 4 (j' := 20) (lv' := [some (.ref 32), some (.long w), none, some (.int (-1)), some (.int (nI i)), some (.int 1)]) (st' := [.int 1]) (h' := (shT, fi, fl, fr)) rfl ?_
        refine gp_of (fun _ k9 => g_iff rfl (show ¬ ((1 : Int32) = (0 : Int32)) from by decide) k9) ?_
        refine gp_n 2 (j' := 23) (lv' := [some (.ref 32), some (.long w), none, some (.int (-1)), some (.int (nI i)), some (.int 1)]) (st' := [.int (-1), .int (-1)]) (h' := (shT, fi, fl, fr)) rfl ?_
        refine gp_of (fun _ k9 => g_ict rfl (show ((-1) : Int32) = ((-1) : Int32) from by decide) k9) ?_
        refine gp_n 4 (j' := 4) (lv' := [some (.ref 32), some (.long w), none, some (.int (nI i)), some (.int ((nI i) + 1)), some (.int 1)]) (st' := []) (h' := (shT, fi, fl, fr)) rfl ?_
        rw [nI_1]
        exact gp_done (g _) rfl
      | some b =>
        rw [hb] at g bp
        have b1 : b < i := bp.1
        have sb := hs b (by omega)
        have ne : ¬ nI b = -1 := ne_m1 b (by omega)
        have g5 : ∀ l5, Go pmT none cd_116 4 [some (.ref 32), some (.long w), none, some (.int (oI (if (su i).toInt < (su b).toInt then some i else some b))), some (.int (nI (i + 1))), l5] [] (shT, fi, fl, fr) r := g
        clear g hb
        show Go pmT none cd_116 4 [some (.ref 32), some (.long w), none, some (.int (nI b)), some (.int (nI i)), l5] [] _ _
        by_cases hc : (su i).toInt < (su b).toInt
        · rw [if_pos hc] at g5
          have hc : su i < su b := Int32.lt_iff_toInt_lt.mpr hc
          have g : ∀ l5, Go pmT none cd_116 4 [some (.ref 32), some (.long w), none, some (.int (nI i)), some (.int (nI (i + 1))), l5] [] (shT, fi, fl, fr) r := g5
          clear g5
          generalize su i = x at *
          generalize su b = y at *
          refine go_of ?_
          refine gp_n 2 (j' := 6) (lv' := [some (.ref 32), some (.long w), none, some (.int (nI b)), some (.int (nI i)), l5]) (st' := [.int 64, .int (nI i)]) (h' := (shT, fi, fl, fr)) rfl ?_
          refine gp_of (fun _ k9 => g_icf rfl (show ¬ ((64 : Int32) ≤ (nI i)) from le) k9) ?_
          refine gp_n 5 (j' := 12) (lv' := [some (.ref 32), some (.long w), none, some (.int (nI b)), some (.int (nI i)), l5]) (st' := [.long (((w.toUInt64 >>> ((nI i : Int32).toInt64.toUInt64 &&& Int64.toUInt64 63)).toInt64) &&& 1)]) (h' := (shT, fi, fl, fr)) rfl ?_
          rw [ub]
          refine gp_n 2 (j' := 14) (lv' := [some (.ref 32), some (.long w), none, some (.int (nI b)), some (.int (nI i)), l5]) (st' := [.int (lg_cmp 1 0)]) (h' := (shT, fi, fl, fr)) rfl ?_
          refine gp_of (fun _ k9 => g_iff rfl (show ¬ ((lg_cmp 1 0) = (0 : Int32)) from by decide) k9) ?_
          refine gp_n 4 (j' := 20) (lv' := [some (.ref 32), some (.long w), none, some (.int (nI b)), some (.int (nI i)), some (.int 1)]) (st' := [.int 1]) (h' := (shT, fi, fl, fr)) rfl ?_
          refine gp_of (fun _ k9 => g_iff rfl (show ¬ ((1 : Int32) = (0 : Int32)) from by decide) k9) ?_
          refine gp_n 2 (j' := 23) (lv' := [some (.ref 32), some (.long w), none, some (.int (nI b)), some (.int (nI i)), some (.int 1)]) (st' := [.int (-1), .int (nI b)]) (h' := (shT, fi, fl, fr)) rfl ?_
          refine gp_of (fun _ k9 => g_icf rfl (show ¬ ((nI b) = ((-1) : Int32)) from ne) k9) ?_
          refine gp_n 1 (j' := 25) (lv' := [some (.ref 32), some (.long w), none, some (.int (nI b)), some (.int (nI i)), some (.int 1)]) (st' := [.ref 32]) (h' := (shT, fi, fl, fr)) rfl ?_
          refine gp_of (fun _ k9 => g_getR (q' := 33) rfl rfl (by decide) k4 k9) ?_
          refine gp_n 1 (j' := 27) (lv' := [some (.ref 32), some (.long w), none, some (.int (nI b)), some (.int (nI i)), some (.int 1)]) (st' := [.int (nI i), .ref 33]) (h' := (shT, fi, fl, fr)) rfl ?_
          refine gp_of (fun _ k9 => g_iald (k := i) (x := x) rfl rfl (rfl) (by omega) (by decide) (si) k9) ?_
          refine gp_n 1 (j' := 29) (lv' := [some (.ref 32), some (.long w), none, some (.int (nI b)), some (.int (nI i)), some (.int 1)]) (st' := [.ref 32, .int x]) (h' := (shT, fi, fl, fr)) rfl ?_
          refine gp_of (fun _ k9 => g_getR (q' := 33) rfl rfl (by decide) k4 k9) ?_
          refine gp_n 1 (j' := 31) (lv' := [some (.ref 32), some (.long w), none, some (.int (nI b)), some (.int (nI i)), some (.int 1)]) (st' := [.int (nI b), .ref 33, .int x]) (h' := (shT, fi, fl, fr)) rfl ?_
          refine gp_of (fun _ k9 => g_iald (k := b) (x := y) rfl rfl (rfl) (by omega) (by decide) (sb) k9) ?_
          refine gp_of (fun _ k9 => g_icf rfl (show ¬ (y ≤ x) from Int32.not_le.mpr hc) k9) ?_
          refine gp_n 4 (j' := 4) (lv' := [some (.ref 32), some (.long w), none, some (.int (nI i)), some (.int ((nI i) + 1)), some (.int 1)]) (st' := []) (h' := (shT, fi, fl, fr)) rfl ?_
          rw [nI_1]
          exact gp_done (g _) rfl
        · rw [if_neg hc] at g5
          have hc : su b ≤ su i := Int32.le_iff_toInt_le.mpr (by omega)
          have g : ∀ l5, Go pmT none cd_116 4 [some (.ref 32), some (.long w), none, some (.int (nI b)), some (.int (nI (i + 1))), l5] [] (shT, fi, fl, fr) r := g5
          clear g5
          generalize su i = x at *
          generalize su b = y at *
          refine go_of ?_
          refine gp_n 2 (j' := 6) (lv' := [some (.ref 32), some (.long w), none, some (.int (nI b)), some (.int (nI i)), l5]) (st' := [.int 64, .int (nI i)]) (h' := (shT, fi, fl, fr)) rfl ?_
          refine gp_of (fun _ k9 => g_icf rfl (show ¬ ((64 : Int32) ≤ (nI i)) from le) k9) ?_
          refine gp_n 5 (j' := 12) (lv' := [some (.ref 32), some (.long w), none, some (.int (nI b)), some (.int (nI i)), l5]) (st' := [.long (((w.toUInt64 >>> ((nI i : Int32).toInt64.toUInt64 &&& Int64.toUInt64 63)).toInt64) &&& 1)]) (h' := (shT, fi, fl, fr)) rfl ?_
          rw [ub]
          refine gp_n 2 (j' := 14) (lv' := [some (.ref 32), some (.long w), none, some (.int (nI b)), some (.int (nI i)), l5]) (st' := [.int (lg_cmp 1 0)]) (h' := (shT, fi, fl, fr)) rfl ?_
          refine gp_of (fun _ k9 => g_iff rfl (show ¬ ((lg_cmp 1 0) = (0 : Int32)) from by decide) k9) ?_
          refine gp_n 4 (j' := 20) (lv' := [some (.ref 32), some (.long w), none, some (.int (nI b)), some (.int (nI i)), some (.int 1)]) (st' := [.int 1]) (h' := (shT, fi, fl, fr)) rfl ?_
          refine gp_of (fun _ k9 => g_iff rfl (show ¬ ((1 : Int32) = (0 : Int32)) from by decide) k9) ?_
          refine gp_n 2 (j' := 23) (lv' := [some (.ref 32), some (.long w), none, some (.int (nI b)), some (.int (nI i)), some (.int 1)]) (st' := [.int (-1), .int (nI b)]) (h' := (shT, fi, fl, fr)) rfl ?_
          refine gp_of (fun _ k9 => g_icf rfl (show ¬ ((nI b) = ((-1) : Int32)) from ne) k9) ?_
          refine gp_n 1 (j' := 25) (lv' := [some (.ref 32), some (.long w), none, some (.int (nI b)), some (.int (nI i)), some (.int 1)]) (st' := [.ref 32]) (h' := (shT, fi, fl, fr)) rfl ?_
          refine gp_of (fun _ k9 => g_getR (q' := 33) rfl rfl (by decide) k4 k9) ?_
          refine gp_n 1 (j' := 27) (lv' := [some (.ref 32), some (.long w), none, some (.int (nI b)), some (.int (nI i)), some (.int 1)]) (st' := [.int (nI i), .ref 33]) (h' := (shT, fi, fl, fr)) rfl ?_
          refine gp_of (fun _ k9 => g_iald (k := i) (x := x) rfl rfl (rfl) (by omega) (by decide) (si) k9) ?_
          refine gp_n 1 (j' := 29) (lv' := [some (.ref 32), some (.long w), none, some (.int (nI b)), some (.int (nI i)), some (.int 1)]) (st' := [.ref 32, .int x]) (h' := (shT, fi, fl, fr)) rfl ?_
          refine gp_of (fun _ k9 => g_getR (q' := 33) rfl rfl (by decide) k4 k9) ?_
          refine gp_n 1 (j' := 31) (lv' := [some (.ref 32), some (.long w), none, some (.int (nI b)), some (.int (nI i)), some (.int 1)]) (st' := [.int (nI b), .ref 33, .int x]) (h' := (shT, fi, fl, fr)) rfl ?_
          refine gp_of (fun _ k9 => g_iald (k := b) (x := y) rfl rfl (rfl) (by omega) (by decide) (sb) k9) ?_
          refine gp_of (fun _ k9 => g_ict rfl (show y ≤ x from hc) k9) ?_
          refine gp_n 2 (j' := 4) (lv' := [some (.ref 32), some (.long w), none, some (.int (nI b)), some (.int ((nI i) + 1)), some (.int 1)]) (st' := []) (h' := (shT, fi, fl, fr)) rfl ?_
          rw [nI_1]
          exact gp_done (g _) rfl
theorem ls_ev2 {su : Nat → Int32} {w : Int64} {b : Nat} {fi : Nat → Nat → Int32} {fl : Nat → Nat → Int64} {fr : Nat → Nat → Option Nat} (k4 : fr 32 4 = some 33) (hs : ∀ i, i < 64 → fi 33 i = su i) (hb : bst (fun i => (su i).toInt) (bl w) 64 = some b) (b64 : b < 64) : Ev pmT 116 [.ref 32, .long w] (shT, fi, fl, fr) (some (.int (nI b))) (shT, fi, fl, fr) := by
  have mx := max_ev (a := 0) (b := nI b) (h := (shT, fi, fl, fr))
  have em : (if (0 : Int32) < nI b then nI b else 0) = nI b := by
    by_cases h : b = 0
    · subst h
      rfl
    · exact if_pos (show (0 : Int32) < nI b from nI_lt (a := 0) (by omega) (by omega))
  rw [em] at mx
  have g := ls_go2 (su := su) (w := w) (fl := fl) k4 hs 64 0 none (by omega) (some (.int (nI b)), (shT, fi, fl, fr)) (fun l5 => by
    rw [hb]
    show Go pmT none cd_116 37 [some (.ref 32), some (.long w), none, some (.int (nI b)), some (.int (nI 64)), l5] [] _ _
    refine go_of ?_
    refine gp_n 2 (j' := 39) (lv' := [some (.ref 32), some (.long w), none, some (.int (nI b)), some (.int (nI 64)), l5]) (st' := [.int (nI b), .int 0]) (h' := (shT, fi, fl, fr)) rfl ?_
    refine gp_of (fun _ k9 => g_call (y := 48) (as := [.int 0, .int (nI b)]) (st' := []) rfl rfl (mx) k9) ?_
    refine gp_done (g_ret rfl) ?_
    rfl)
  refine Ev.of (es := cd_116) (ml := 6) (lv := [some (.ref 32), some (.long w), none, none, none, none]) rfl rfl rfl ?_
  refine go_of ?_
  refine gp_n 4 (j' := 4) (lv' := [some (.ref 32), some (.long w), none, some (.int (oI (bst (fun i => (su i).toInt) (bl w) 0))), some (.int (nI 0)), none]) (st' := []) (h' := (shT, fi, fl, fr)) rfl ?_
  exact gp_done g rfl
/-- sureness, checks and metrics of readings with a list of 1 -/
def flS (a : AB) (m i : Nat) : Int32 := abS (rsm m (a_v a).2.2 (rdN (a_v a).2.1 m (a_v a).2.2 1 i) i 0)
def flK (a : AB) (m k c F : Nat) : Bool := decide (hdP (a_v a).2.1 (2 ^ m) k c ((a_v a).1 4) ((rdF (a_v a).2.1 m (a_v a).2.2 F (2 ^ m)).2.1 0))
def flM (a : AB) (m F : Nat) : Int32 := (rdF (a_v a).2.1 m (a_v a).2.2 F (2 ^ m)).2.2 0
def flR (a : AB) (m k c n : Nat) (T : Int64) (t : Nat) : Nat × Option Nat := flp (flS a m) (a_v a).2.1 (2 ^ m) (flK a m k c) n T t
theorem left_0 {K T w : Int64} {N : Nat} {su : Nat → Int32} (hN : N ≤ 64) (hK : ∀ i, N ≤ i → i < 64 → bl K i = false) (hw : ∀ i, i < 64 → bl w i = (bl K i && !bl T i)) : (nxt su K T N = none → w = 0) ∧ (∀ F, nxt su K T N = some F → ¬ w = 0) ∧ ∀ su' : Nat → Int32, (∀ i, i < N → su' i = su i) → bst (fun i => (su' i).toInt) (bl w) 64 = nxt su K T N := by
  refine ⟨fun h => bl_ext (fun i hi => ?_), fun F h z => ?_, fun su' h => ?_⟩
  · rw [bl_0 i hi, hw i hi]
    by_cases e : i < N
    · have bp := bst_p (K := fun i => (su i).toInt) (L := fun i => bl K i && !bl T i) N
      unfold nxt at h
      rw [h] at bp
      exact bp i e
    · rw [hK i (by omega) hi, Bool.false_and]
  · obtain ⟨f1, f2, f3⟩ := nxt_p h
    have := hw F (by omega)
    rw [z, bl_0 F (by omega), f2, f3] at this
    cases this
  · unfold nxt
    have tp := bst_tp (K := fun i => (su' i).toInt) (L := bl w) (N := N) (64 - N) (fun i z1 z2 => by rw [hw i (by omega), hK i z1 (by omega), Bool.false_and])
    rw [show N + (64 - N) = 64 by omega] at tp
    rw [tp]
    exact bst_cg N (fun i hi => hw i (by omega)) (fun i hi _ => by rw [h i hi])
/-- what the class holds as it tries -/
def flI (a : AB) (m k c l : Nat) (t : Nat) (its : Int32) (h : PmH) : Prop := RD h ∧ vC a m k c l h ∧ (∀ s, s < 64 → ph_i h 2 s = (a_v a).2.2 s) ∧ (∀ i, i < 2 ^ m → ph_i h 33 i = flS a m i) ∧ ph_i h 32 0 = nI t ∧ ph_i h 32 1 = -1 ∧ ph_i h 32 2 = its ∧ ph_i h 32 3 = 0
def flO (a : AB) (m : Nat) (its : Int32) (R : Nat × Option Nat) (h : PmH) : Prop := ph_i h 32 0 = nI R.1 ∧ ph_i h 32 1 = oI R.2 ∧ ph_i h 32 2 = (match R.2 with
  | none => its
  | some F => flM a m F) ∧ ph_i h 32 3 = b01 R.2.isSome
theorem fpC_go {a : AB} {m k c l : Nat} {its : Int32} (vk : VK (a_v a) m k c) (hB : ∀ s, s < 64 → -127 ≤ ((a_v a).2.2 s).toInt ∧ ((a_v a).2.2 s).toInt ≤ 127) : ∀ (n t : Nat) (T w : Int64) (h : PmH), t + n = 12 → HI hdT shT h → flI a m k c l t its h → (∀ i, i < 64 → bl w i = (bl (a_v a).2.1 i && !bl T i)) → ∃ h', HI hdT shT h' ∧ flO a m its (flR a m k c n T t) h' ∧ ∀ l5, Go pmT none cd_115 36 [some (.ref 32), some (.ref 1), some (.ref 13), some (.long w), none, l5] [] h (none, h') := by
  intro n
  have p6 := pw_6 m (by have := vk.1; omega)
  induction n with
  | zero =>
    intro t T w h ht hI hf hw
    obtain ⟨f1, f2, f3, f4, f5, f6, f7, f8⟩ := hf
    refine ⟨h, hI, ⟨f5, f6, f7, f8⟩, fun l5 => ?_⟩
    have le : (12 : Int32) ≤ nI t := nI_le (a := 12) (by omega) (by omega)
    clear f1 f2 f3 f4 f6 f7 f8 hw
    obtain ⟨S, fi, fl, fr⟩ := h
    have hS : S = shT := hI.1
    subst hS
    have c0 : fi 32 0 = nI t := f5
    refine go_of ?_
    refine gp_n 1 (j' := 37) (lv' := [some (.ref 32), some (.ref 1), some (.ref 13), some (.long w), none, l5]) (st' := [.ref 32]) (h' := (shT, fi, fl, fr)) rfl ?_
    refine gp_of (fun _ k9 => g_getI (x := nI t) rfl (Or.inl rfl) rfl (by decide) (c0) k9) ?_
    refine gp_n 1 (j' := 39) (lv' := [some (.ref 32), some (.ref 1), some (.ref 13), some (.long w), none, l5]) (st' := [.int 12, .int (nI t)]) (h' := (shT, fi, fl, fr)) rfl ?_
    refine gp_of (fun _ k9 => g_ict rfl (show (12 : Int32) ≤ (nI t) from le) k9) ?_
    refine gp_done (g_vret rfl) ?_
    rfl
  | succ n ih =>
    intro t T w h ht hI hf hw
    have hL := left_0 (su := flS a m) p6.2 vk.2.2.2.2.2.2.2 hw
    have le : ¬ (12 : Int32) ≤ nI t := nI_ge (b := 12) (by omega) (by omega)
    obtain ⟨f1, f2, f3, f4, f5, f6, f7, f8⟩ := id hf
    have eR : flR a m k c (n + 1) T t = match nxt (flS a m) (a_v a).2.1 T (2 ^ m) with
      | none => (t, none)
      | some F => if flK a m k c F = true then (t + 1, some F) else flR a m k c n (T ||| bitAt F) (t + 1) := rfl
    cases hn : nxt (flS a m) (a_v a).2.1 T (2 ^ m) with
    | none =>
      rw [hn] at eR
      have eR : flR a m k c (n + 1) T t = (t, none) := eR
      rw [eR]
      refine ⟨h, hI, ⟨f5, f6, f7, f8⟩, fun l5 => ?_⟩
      have w0 := hL.1 hn
      subst w0
      clear f1 f2 f3 f4 f6 f7 f8 hw ih hf hL
      obtain ⟨S, fi, fl, fr⟩ := h
      have hS : S = shT := hI.1
      subst hS
      have c0 : fi 32 0 = nI t := f5
      refine go_of ?_
      refine gp_n 1 (j' := 37) (lv' := [some (.ref 32), some (.ref 1), some (.ref 13), some (.long 0), none, l5]) (st' := [.ref 32]) (h' := (shT, fi, fl, fr)) rfl ?_
      refine gp_of (fun _ k9 => g_getI (x := nI t) rfl (Or.inl rfl) rfl (by decide) (c0) k9) ?_
      refine gp_n 1 (j' := 39) (lv' := [some (.ref 32), some (.ref 1), some (.ref 13), some (.long 0), none, l5]) (st' := [.int 12, .int (nI t)]) (h' := (shT, fi, fl, fr)) rfl ?_
      refine gp_of (fun _ k9 => g_icf rfl (show ¬ ((12 : Int32) ≤ (nI t)) from le) k9) ?_
      refine gp_n 3 (j' := 43) (lv' := [some (.ref 32), some (.ref 1), some (.ref 13), some (.long 0), none, l5]) (st' := [.int (lg_cmp 0 0)]) (h' := (shT, fi, fl, fr)) rfl ?_
      refine gp_of (fun _ k9 => g_ift rfl (show (lg_cmp 0 0) = (0 : Int32) from by decide) k9) ?_
      refine gp_done (g_vret rfl) ?_
      rfl
    | some F =>
      rw [hn] at eR
      have eR : flR a m k c (n + 1) T t = if flK a m k c F = true then (t + 1, some F) else flR a m k c n (T ||| bitAt F) (t + 1) := eR
      obtain ⟨F1, F2, F3⟩ := nxt_p hn
      have wn := hL.2.1 F hn
      have wn : ¬ lg_cmp w 0 = 0 := by rw [lg_cmp_eq]; exact wn
      have k4 : ph_r h 32 4 = some 33 := hi_r hI rfl rfl (by decide)
      have k8 : ph_r h 1 8 = some 2 := hi_r hI rfl rfl (by decide)
      have bs := hL.2.2 (fun i => ph_i h 33 i) f4
      rw [hn] at bs
      have J : HI hdT shT (ph_s h, pm_u2 (ph_i h) 32 0 (nI (t + 1)), ph_l h, ph_r h) := HI_wi hI (fun y => absurd y (by decide))
      have v2 : vC a m k c l (ph_s h, pm_u2 (ph_i h) 32 0 (nI (t + 1)), ph_l h, ph_r h) := vC_cg (h := h) (fun s => (show pm_u2 (ph_i h) 32 0 (nI (t + 1)) 1 s = ph_i h 1 s from wl_ne (by omega))) (fun _ => rfl) f2
      obtain ⟨h3, e3, x3, I3, F4⟩ := ruF_ev (F := F) J (RD_r rfl rfl f1) vk.1 F2 (by omega) vk.2.2.2.2.2.2.1 vk.2.1 vk.2.2.2.2.2.2.2 (fun s hs => (show pm_u2 (ph_i h) 32 0 (nI (t + 1)) 2 s = ph_i h 2 s from wl_ne (by omega)).trans (f3 s (by omega))) hB v2.1 v2.2.1 v2.2.2.1 v2.2.2.2.1 v2.2.2.2.2.1 v2.2.2.2.2.2.2
      obtain ⟨A, hA, a1, a2⟩ := x3
      have a2 : ph_i h3 13 8 = b01 (flK a m k c F) := a2
      have P1 := rdF_P (K := (a_v a).2.1) (m := m) (S := (a_v a).2.2) (F := F) (2 ^ m)
      have mm : ph_i h3 (A + 2) 0 = flM a m F := (a1.2.2.2 0 (by omega)).2
      have r3 : RD h3 := ⟨A, hA, a1.1, a1.2.1⟩
      have n33 : ∀ s, inW (in_w iN_113) 33 s = false := fun s => rfl
      have n32 : ∀ s, inW (in_w iN_113) 32 s = false := fun s => rfl
      have n2 : ∀ s, inW (in_w iN_113) 2 s = false := fun s => rfl
      have n1 : ∀ s, inW (in_w iN_113) 1 s = false := fun s => rfl
      have g0 : ph_i h3 32 0 = nI (t + 1) := (F4 32 0 (n32 0)).1.trans u2_i
      have wu : ∀ o s, ¬ (o = 32 ∧ s = 0) → pm_u2 (ph_i h) 32 0 (nI (t + 1)) o s = ph_i h o s := fun o s z => wl_ne z
      have gO : ∀ s, ¬ s = 0 → ph_i h3 32 s = ph_i h 32 s := fun s z => (F4 32 s (n32 s)).1.trans (wu 32 s (by omega))
      have flI3 : flI a m k c l (t + 1) its h3 := ⟨r3, vC_cg (fun s => (F4 1 s (n1 s)).1) (fun s => (F4 1 s (n1 s)).2.1) v2, fun s hs => ((F4 2 s (n2 s)).1.trans (wu 2 s (by omega))).trans (f3 s hs), fun i hi => ((F4 33 i (n33 i)).1.trans (wu 33 i (by omega))).trans (f4 i hi), g0, (gO 1 (by decide)).trans f6, (gO 2 (by decide)).trans f7, (gO 3 (by decide)).trans f8⟩
      have w2 : ∀ i, i < 64 → bl (w &&& ((1 <<< ((nI F : Int32).toInt64 &&& 63)) ^^^ -1)) i = (bl (a_v a).2.1 i && !bl (T ||| bitAt F) i) := fun i hi => by
        have eb : bl (1 <<< ((nI F : Int32).toInt64 &&& 63)) i = decide (i = F) := bitAt_bl (by omega) hi
        rw [bl_and, bl_xor, bl_m1 i hi, eb, hw i hi, bl_or, bitAt_bl (by omega) hi]
        cases bl (a_v a).2.1 i <;> cases bl T i <;> cases decide (i = F) <;> rfl
      have kA : ∀ A, (A = 14 ∨ A = 18) → ph_r h3 A 2 = some (A + 2) := fun A hA => by
        rcases hA with rfl | rfl
        · exact hi_r I3 rfl rfl (by decide)
        · exact hi_r I3 rfl rfl (by decide)
      have kA := kA A hA
      have ka := a1.1
      have hs2 := ls_ev2 (su := fun i => ph_i h 33 i) (w := w) (b := F) (fi := ph_i h) (fl := ph_l h) (fr := ph_r h) k4 (fun _ _ => rfl) bs (by omega)
      have ls : Ev pmT 116 [.ref 32, .long w] (shT, ph_i h, ph_l h, ph_r h) (some (.int (nI F))) (shT, ph_i h, ph_l h, ph_r h) := hs2
      have e3 : Ev pmT 82 [.ref 13, .ref 1, .ref 2, .int 1, .int 0, .int (nI F)] (ph_s h, pm_u2 (ph_i h) 32 0 (nI (t + 1)), ph_l h, ph_r h) none h3 := e3
      clear hs2 F4 gO J v2 bs hL hf a1 P1
      cases hk : flK a m k c F
      · rw [hk, if_neg (by decide)] at eR
        rw [eR]
        obtain ⟨h4, I4, o4, g4⟩ := ih (t + 1) (T ||| bitAt F) _ h3 (by omega) I3 flI3 w2
        refine ⟨h4, I4, o4, fun l5 => ?_⟩
        rw [hk] at a2
        have a2 : ph_i h3 13 8 = 0 := a2
        clear o4 I4 flI3 ih w2 r3
        obtain ⟨S3, fi3, fl3, fr3⟩ := h3
        have s3 : S3 = shT := I3.1
        subst s3
        have a2 : fi3 13 8 = 0 := a2
        obtain ⟨S, fi, fl, fr⟩ := h
        have hS : S = shT := hI.1
        subst hS
        have c0 : fi 32 0 = nI t := f5
        have c3 : fi 32 3 = 0 := f8
        have k8 : fr 1 8 = some 2 := k8
        refine go_of ?_
        refine gp_n 1 (j' := 37) (lv' := [some (.ref 32), some (.ref 1), some (.ref 13), some (.long w), none, l5]) (st' := [.ref 32]) (h' := (shT, fi, fl, fr)) rfl ?_
        refine gp_of (fun _ k9 => g_getI (x := nI t) rfl (Or.inl rfl) rfl (by decide) (c0) k9) ?_
        refine gp_n 1 (j' := 39) (lv' := [some (.ref 32), some (.ref 1), some (.ref 13), some (.long w), none, l5]) (st' := [.int 12, .int (nI t)]) (h' := (shT, fi, fl, fr)) rfl ?_
        refine gp_of (fun _ k9 => g_icf rfl (show ¬ ((12 : Int32) ≤ (nI t)) from le) k9) ?_
        refine gp_n 3 (j' := 43) (lv' := [some (.ref 32), some (.ref 1), some (.ref 13), some (.long w), none, l5]) (st' := [.int (lg_cmp w 0)]) (h' := (shT, fi, fl, fr)) rfl ?_
        refine gp_of (fun _ k9 => g_iff rfl (show ¬ ((lg_cmp w 0) = (0 : Int32)) from wn) k9) ?_
        refine gp_n 1 (j' := 45) (lv' := [some (.ref 32), some (.ref 1), some (.ref 13), some (.long w), none, l5]) (st' := [.ref 32]) (h' := (shT, fi, fl, fr)) rfl ?_
        refine gp_of (fun _ k9 => g_getI (x := 0) rfl (Or.inr rfl) rfl (by decide) (c3) k9) ?_
        refine gp_of (fun _ k9 => g_iff rfl (show ¬ (¬ (0 : Int32) = (0 : Int32)) from by decide) k9) ?_
        refine gp_n 2 (j' := 49) (lv' := [some (.ref 32), some (.ref 1), some (.ref 13), some (.long w), none, l5]) (st' := [.long w, .ref 32]) (h' := (shT, fi, fl, fr)) rfl ?_
        refine gp_of (fun _ k9 => g_call (y := 116) (as := [.ref 32, .long w]) (st' := []) rfl rfl (ls) k9) ?_
        refine gp_n 11 (j' := 61) (lv' := [some (.ref 32), some (.ref 1), some (.ref 13), some (.long (w &&& (((1 : Int64) <<< ((nI F : Int32).toInt64 &&& 63)) ^^^ (-1)))), none, some (.int (nI F))]) (st' := [.ref 32, .ref 32]) (h' := (shT, fi, fl, fr)) rfl ?_
        refine gp_of (fun _ k9 => g_getI (x := nI t) rfl (Or.inl rfl) rfl (by decide) (c0) k9) ?_
        refine gp_n 2 (j' := 64) (lv' := [some (.ref 32), some (.ref 1), some (.ref 13), some (.long (w &&& (((1 : Int64) <<< ((nI F : Int32).toInt64 &&& 63)) ^^^ (-1)))), none, some (.int (nI F))]) (st' := [.int ((nI t) + 1), .ref 32]) (h' := (shT, fi, fl, fr)) rfl ?_
        rw [nI_1]
        refine gp_of (fun _ k9 => g_putI rfl (Or.inl rfl) rfl (by decide) k9) ?_
        refine gp_n 3 (j' := 68) (lv' := [some (.ref 32), some (.ref 1), some (.ref 13), some (.long (w &&& (((1 : Int64) <<< ((nI F : Int32).toInt64 &&& 63)) ^^^ (-1)))), none, some (.int (nI F))]) (st' := [.ref 1, .ref 1, .ref 13]) (h' := (shT, pm_u2 fi 32 0 (nI (t + 1)), fl, fr)) rfl ?_
        refine gp_of (fun _ k9 => g_getR (q' := 2) rfl rfl (by decide) k8 k9) ?_
        refine gp_n 3 (j' := 72) (lv' := [some (.ref 32), some (.ref 1), some (.ref 13), some (.long (w &&& (((1 : Int64) <<< ((nI F : Int32).toInt64 &&& 63)) ^^^ (-1)))), none, some (.int (nI F))]) (st' := [.int (nI F), .int 0, .int 1, .ref 2, .ref 1, .ref 13]) (h' := (shT, pm_u2 fi 32 0 (nI (t + 1)), fl, fr)) rfl ?_
        refine gp_of (fun _ k9 => g_callv (y := 82) (as := [.ref 13, .ref 1, .ref 2, .int 1, .int 0, .int (nI F)]) (st' := []) rfl rfl (e3) k9) ?_
        refine gp_n 1 (j' := 74) (lv' := [some (.ref 32), some (.ref 1), some (.ref 13), some (.long (w &&& (((1 : Int64) <<< ((nI F : Int32).toInt64 &&& 63)) ^^^ (-1)))), none, some (.int (nI F))]) (st' := [.ref 13]) (h' := (shT, fi3, fl3, fr3)) rfl ?_
        refine gp_of (fun _ k9 => g_getI (x := 0) rfl (Or.inr rfl) rfl (by decide) (a2) k9) ?_
        refine gp_of (fun _ k9 => g_ift rfl (show (0 : Int32) = (0 : Int32) from by decide) k9) ?_
        refine gp_n 1 (j' := 36) (lv' := [some (.ref 32), some (.ref 1), some (.ref 13), some (.long (w &&& (((1 : Int64) <<< ((nI F : Int32).toInt64 &&& 63)) ^^^ (-1)))), none, some (.int (nI F))]) (st' := []) (h' := (shT, fi3, fl3, fr3)) rfl ?_
        exact gp_done (g4 _) rfl
      · rw [hk, if_pos rfl] at eR
        rw [eR]
        have J := HI_wi (p := 32) (s := 1) (x := nI F) I3 (fun y => absurd y (by decide))
        have J := HI_wi (p := 32) (s := 2) (x := flM a m F) J (fun y => absurd y (by decide))
        have J := HI_wi (p := 32) (s := 3) (x := 1) J (fun _ => by decide)
        refine ⟨(ph_s h3, pm_u2 (pm_u2 (pm_u2 (ph_i h3) 32 1 (nI F)) 32 2 (flM a m F)) 32 3 1, ph_l h3, ph_r h3), J, ⟨?_, ?_, ?_, u2_i⟩, fun l5 => ?_⟩
        · exact (show pm_u2 (pm_u2 (pm_u2 (ph_i h3) 32 1 (nI F)) 32 2 (flM a m F)) 32 3 1 32 0 = ph_i h3 32 0 from (wl_ne (by decide)).trans ((wl_ne (by decide)).trans (wl_ne (by decide)))).trans g0
        · exact show pm_u2 (pm_u2 (pm_u2 (ph_i h3) 32 1 (nI F)) 32 2 (flM a m F)) 32 3 1 32 1 = nI F from (wl_ne (by decide)).trans ((wl_ne (by decide)).trans u2_eq)
        · exact show pm_u2 (pm_u2 (pm_u2 (ph_i h3) 32 1 (nI F)) 32 2 (flM a m F)) 32 3 1 32 2 = flM a m F from (wl_ne (by decide)).trans u2_eq
        rw [hk] at a2
        have a2 : ph_i h3 13 8 = 1 := a2
        generalize flM a m F = mf at *
        clear flI3 ih w2 r3 J
        obtain ⟨S3, fi3, fl3, fr3⟩ := h3
        have s3 : S3 = shT := I3.1
        subst s3
        have a2 : fi3 13 8 = 1 := a2
        have g0 : fi3 32 0 = nI (t + 1) := g0
        have mm : fi3 (A + 2) 0 = mf := mm
        have kA : fr3 A 2 = some (A + 2) := kA
        have ka : fr3 13 0 = some A := ka
        have g09 : pm_u2 (pm_u2 (pm_u2 fi3 32 1 (nI F)) 32 2 mf) 32 3 1 32 0 = nI (t + 1) := (wl_ne (by decide)).trans ((wl_ne (by decide)).trans ((wl_ne (by decide)).trans g0))
        obtain ⟨S, fi, fl, fr⟩ := h
        have hS : S = shT := hI.1
        subst hS
        have c0 : fi 32 0 = nI t := f5
        have c3 : fi 32 3 = 0 := f8
        have k8 : fr 1 8 = some 2 := k8
        have last : ∀ (w2 : Int64) (l5 : Option Value), Go pmT none cd_115 36 [some (.ref 32), some (.ref 1), some (.ref 13), some (.long w2), none, l5] [] (shT, pm_u2 (pm_u2 (pm_u2 fi3 32 1 (nI F)) 32 2 mf) 32 3 1, fl3, fr3) (none, (shT, pm_u2 (pm_u2 (pm_u2 fi3 32 1 (nI F)) 32 2 mf) 32 3 1, fl3, fr3)) := fun w2 l5 => by
          refine go_of ?_
          refine gp_n 1 (j' := 37) (lv' := [some (.ref 32), some (.ref 1), some (.ref 13), some (.long w2), none, l5]) (st' := [.ref 32]) (h' := (shT, (pm_u2 (pm_u2 (pm_u2 fi3 32 1 (nI F)) 32 2 mf) 32 3 1), fl3, fr3)) rfl ?_
          refine gp_of (fun _ k9 => g_getI (x := nI (t + 1)) rfl (Or.inl rfl) rfl (by decide) (g09) k9) ?_
          refine gp_n 1 (j' := 39) (lv' := [some (.ref 32), some (.ref 1), some (.ref 13), some (.long w2), none, l5]) (st' := [.int 12, .int (nI (t + 1))]) (h' := (shT, (pm_u2 (pm_u2 (pm_u2 fi3 32 1 (nI F)) 32 2 mf) 32 3 1), fl3, fr3)) rfl ?_
          refine gp_ic rfl (fun hc1 => ?_) (fun hc1 => ?_)
          · replace hc1 : (12 : Int32) ≤ (nI (t + 1)) := hc1
            refine gp_done (g_vret rfl) ?_
            rfl
          · replace hc1 : ¬ ((12 : Int32) ≤ (nI (t + 1))) := hc1
            refine gp_n 3 (j' := 43) (lv' := [some (.ref 32), some (.ref 1), some (.ref 13), some (.long w2), none, l5]) (st' := [.int (lg_cmp w2 0)]) (h' := (shT, (pm_u2 (pm_u2 (pm_u2 fi3 32 1 (nI F)) 32 2 mf) 32 3 1), fl3, fr3)) rfl ?_
            refine gp_if rfl (fun hc2 => ?_) (fun hc2 => ?_)
            · replace hc2 : (lg_cmp w2 0) = (0 : Int32) := hc2
              refine gp_done (g_vret rfl) ?_
              rfl
            · replace hc2 : ¬ ((lg_cmp w2 0) = (0 : Int32)) := hc2
              refine gp_n 1 (j' := 45) (lv' := [some (.ref 32), some (.ref 1), some (.ref 13), some (.long w2), none, l5]) (st' := [.ref 32]) (h' := (shT, (pm_u2 (pm_u2 (pm_u2 fi3 32 1 (nI F)) 32 2 mf) 32 3 1), fl3, fr3)) rfl ?_
              refine gp_of (fun _ k9 => g_getI (x := 1) rfl (Or.inr rfl) rfl (by decide) (u2_eq) k9) ?_
              refine gp_of (fun _ k9 => g_ift rfl (show ¬ (1 : Int32) = (0 : Int32) from by decide) k9) ?_
              refine gp_done (g_vret rfl) ?_
              rfl
        refine go_of ?_
        rcases hA with rfl | rfl
        ·
          refine gp_n 1 (j' := 37) (lv' := [some (.ref 32), some (.ref 1), some (.ref 13), some (.long w), none, l5]) (st' := [.ref 32]) (h' := (shT, fi, fl, fr)) rfl ?_
          refine gp_of (fun _ k9 => g_getI (x := nI t) rfl (Or.inl rfl) rfl (by decide) (c0) k9) ?_
          refine gp_n 1 (j' := 39) (lv' := [some (.ref 32), some (.ref 1), some (.ref 13), some (.long w), none, l5]) (st' := [.int 12, .int (nI t)]) (h' := (shT, fi, fl, fr)) rfl ?_
          refine gp_of (fun _ k9 => g_icf rfl (show ¬ ((12 : Int32) ≤ (nI t)) from le) k9) ?_
          refine gp_n 3 (j' := 43) (lv' := [some (.ref 32), some (.ref 1), some (.ref 13), some (.long w), none, l5]) (st' := [.int (lg_cmp w 0)]) (h' := (shT, fi, fl, fr)) rfl ?_
          refine gp_of (fun _ k9 => g_iff rfl (show ¬ ((lg_cmp w 0) = (0 : Int32)) from wn) k9) ?_
          refine gp_n 1 (j' := 45) (lv' := [some (.ref 32), some (.ref 1), some (.ref 13), some (.long w), none, l5]) (st' := [.ref 32]) (h' := (shT, fi, fl, fr)) rfl ?_
          refine gp_of (fun _ k9 => g_getI (x := 0) rfl (Or.inr rfl) rfl (by decide) (c3) k9) ?_
          refine gp_of (fun _ k9 => g_iff rfl (show ¬ (¬ (0 : Int32) = (0 : Int32)) from by decide) k9) ?_
          refine gp_n 2 (j' := 49) (lv' := [some (.ref 32), some (.ref 1), some (.ref 13), some (.long w), none, l5]) (st' := [.long w, .ref 32]) (h' := (shT, fi, fl, fr)) rfl ?_
          refine gp_of (fun _ k9 => g_call (y := 116) (as := [.ref 32, .long w]) (st' := []) rfl rfl (ls) k9) ?_
          refine gp_n 11 (j' := 61) (lv' := [some (.ref 32), some (.ref 1), some (.ref 13), some (.long (w &&& (((1 : Int64) <<< ((nI F : Int32).toInt64 &&& 63)) ^^^ (-1)))), none, some (.int (nI F))]) (st' := [.ref 32, .ref 32]) (h' := (shT, fi, fl, fr)) rfl ?_
          refine gp_of (fun _ k9 => g_getI (x := nI t) rfl (Or.inl rfl) rfl (by decide) (c0) k9) ?_
          refine gp_n 2 (j' := 64) (lv' := [some (.ref 32), some (.ref 1), some (.ref 13), some (.long (w &&& (((1 : Int64) <<< ((nI F : Int32).toInt64 &&& 63)) ^^^ (-1)))), none, some (.int (nI F))]) (st' := [.int ((nI t) + 1), .ref 32]) (h' := (shT, fi, fl, fr)) rfl ?_
          rw [nI_1]
          refine gp_of (fun _ k9 => g_putI rfl (Or.inl rfl) rfl (by decide) k9) ?_
          refine gp_n 3 (j' := 68) (lv' := [some (.ref 32), some (.ref 1), some (.ref 13), some (.long (w &&& (((1 : Int64) <<< ((nI F : Int32).toInt64 &&& 63)) ^^^ (-1)))), none, some (.int (nI F))]) (st' := [.ref 1, .ref 1, .ref 13]) (h' := (shT, pm_u2 fi 32 0 (nI (t + 1)), fl, fr)) rfl ?_
          refine gp_of (fun _ k9 => g_getR (q' := 2) rfl rfl (by decide) k8 k9) ?_
          refine gp_n 3 (j' := 72) (lv' := [some (.ref 32), some (.ref 1), some (.ref 13), some (.long (w &&& (((1 : Int64) <<< ((nI F : Int32).toInt64 &&& 63)) ^^^ (-1)))), none, some (.int (nI F))]) (st' := [.int (nI F), .int 0, .int 1, .ref 2, .ref 1, .ref 13]) (h' := (shT, pm_u2 fi 32 0 (nI (t + 1)), fl, fr)) rfl ?_
          refine gp_of (fun _ k9 => g_callv (y := 82) (as := [.ref 13, .ref 1, .ref 2, .int 1, .int 0, .int (nI F)]) (st' := []) rfl rfl (e3) k9) ?_
          refine gp_n 1 (j' := 74) (lv' := [some (.ref 32), some (.ref 1), some (.ref 13), some (.long (w &&& (((1 : Int64) <<< ((nI F : Int32).toInt64 &&& 63)) ^^^ (-1)))), none, some (.int (nI F))]) (st' := [.ref 13]) (h' := (shT, fi3, fl3, fr3)) rfl ?_
          refine gp_of (fun _ k9 => g_getI (x := 1) rfl (Or.inr rfl) rfl (by decide) (a2) k9) ?_
          refine gp_of (fun _ k9 => g_iff rfl (show ¬ ((1 : Int32) = (0 : Int32)) from by decide) k9) ?_
          refine gp_n 2 (j' := 78) (lv' := [some (.ref 32), some (.ref 1), some (.ref 13), some (.long (w &&& (((1 : Int64) <<< ((nI F : Int32).toInt64 &&& 63)) ^^^ (-1)))), none, some (.int (nI F))]) (st' := [.int (nI F), .ref 32]) (h' := (shT, fi3, fl3, fr3)) rfl ?_
          refine gp_of (fun _ k9 => g_putI rfl (Or.inl rfl) rfl (by decide) k9) ?_
          refine gp_n 2 (j' := 81) (lv' := [some (.ref 32), some (.ref 1), some (.ref 13), some (.long (w &&& (((1 : Int64) <<< ((nI F : Int32).toInt64 &&& 63)) ^^^ (-1)))), none, some (.int (nI F))]) (st' := [.ref 13, .ref 32]) (h' := (shT, pm_u2 fi3 32 1 (nI F), fl3, fr3)) rfl ?_
          refine gp_of (fun _ k9 => g_getR (q' := 14) rfl rfl (by decide) ka k9) ?_
          refine gp_of (fun _ k9 => g_getR (q' := 16) rfl rfl (by decide) kA k9) ?_
          refine gp_n 1 (j' := 84) (lv' := [some (.ref 32), some (.ref 1), some (.ref 13), some (.long (w &&& (((1 : Int64) <<< ((nI F : Int32).toInt64 &&& 63)) ^^^ (-1)))), none, some (.int (nI F))]) (st' := [.int 0, .ref 16, .ref 32]) (h' := (shT, pm_u2 fi3 32 1 (nI F), fl3, fr3)) rfl ?_
          refine gp_of (fun _ k9 => g_iald (k := 0) (x := mf) rfl rfl (rfl) (by decide) (by decide) ((show pm_u2 fi3 32 1 (nI F) 16 0 = mf from (wl_ne (by decide)).trans mm)) k9) ?_
          refine gp_of (fun _ k9 => g_putI rfl (Or.inl rfl) rfl (by decide) k9) ?_
          refine gp_n 2 (j' := 88) (lv' := [some (.ref 32), some (.ref 1), some (.ref 13), some (.long (w &&& (((1 : Int64) <<< ((nI F : Int32).toInt64 &&& 63)) ^^^ (-1)))), none, some (.int (nI F))]) (st' := [.int 1, .ref 32]) (h' := (shT, pm_u2 (pm_u2 fi3 32 1 (nI F)) 32 2 mf, fl3, fr3)) rfl ?_
          refine gp_of (fun _ k9 => g_putI rfl (Or.inr ⟨rfl, by decide⟩) rfl (by decide) k9) ?_
          refine gp_n 1 (j' := 36) (lv' := [some (.ref 32), some (.ref 1), some (.ref 13), some (.long (w &&& (((1 : Int64) <<< ((nI F : Int32).toInt64 &&& 63)) ^^^ (-1)))), none, some (.int (nI F))]) (st' := []) (h' := (shT, pm_u2 (pm_u2 (pm_u2 fi3 32 1 (nI F)) 32 2 mf) 32 3 1, fl3, fr3)) rfl ?_
          exact gp_done (last _ _) rfl
        ·
          refine gp_n 1 (j' := 37) (lv' := [some (.ref 32), some (.ref 1), some (.ref 13), some (.long w), none, l5]) (st' := [.ref 32]) (h' := (shT, fi, fl, fr)) rfl ?_
          refine gp_of (fun _ k9 => g_getI (x := nI t) rfl (Or.inl rfl) rfl (by decide) (c0) k9) ?_
          refine gp_n 1 (j' := 39) (lv' := [some (.ref 32), some (.ref 1), some (.ref 13), some (.long w), none, l5]) (st' := [.int 12, .int (nI t)]) (h' := (shT, fi, fl, fr)) rfl ?_
          refine gp_of (fun _ k9 => g_icf rfl (show ¬ ((12 : Int32) ≤ (nI t)) from le) k9) ?_
          refine gp_n 3 (j' := 43) (lv' := [some (.ref 32), some (.ref 1), some (.ref 13), some (.long w), none, l5]) (st' := [.int (lg_cmp w 0)]) (h' := (shT, fi, fl, fr)) rfl ?_
          refine gp_of (fun _ k9 => g_iff rfl (show ¬ ((lg_cmp w 0) = (0 : Int32)) from wn) k9) ?_
          refine gp_n 1 (j' := 45) (lv' := [some (.ref 32), some (.ref 1), some (.ref 13), some (.long w), none, l5]) (st' := [.ref 32]) (h' := (shT, fi, fl, fr)) rfl ?_
          refine gp_of (fun _ k9 => g_getI (x := 0) rfl (Or.inr rfl) rfl (by decide) (c3) k9) ?_
          refine gp_of (fun _ k9 => g_iff rfl (show ¬ (¬ (0 : Int32) = (0 : Int32)) from by decide) k9) ?_
          refine gp_n 2 (j' := 49) (lv' := [some (.ref 32), some (.ref 1), some (.ref 13), some (.long w), none, l5]) (st' := [.long w, .ref 32]) (h' := (shT, fi, fl, fr)) rfl ?_
          refine gp_of (fun _ k9 => g_call (y := 116) (as := [.ref 32, .long w]) (st' := []) rfl rfl (ls) k9) ?_
          refine gp_n 11 (j' := 61) (lv' := [some (.ref 32), some (.ref 1), some (.ref 13), some (.long (w &&& (((1 : Int64) <<< ((nI F : Int32).toInt64 &&& 63)) ^^^ (-1)))), none, some (.int (nI F))]) (st' := [.ref 32, .ref 32]) (h' := (shT, fi, fl, fr)) rfl ?_
          refine gp_of (fun _ k9 => g_getI (x := nI t) rfl (Or.inl rfl) rfl (by decide) (c0) k9) ?_
          refine gp_n 2 (j' := 64) (lv' := [some (.ref 32), some (.ref 1), some (.ref 13), some (.long (w &&& (((1 : Int64) <<< ((nI F : Int32).toInt64 &&& 63)) ^^^ (-1)))), none, some (.int (nI F))]) (st' := [.int ((nI t) + 1), .ref 32]) (h' := (shT, fi, fl, fr)) rfl ?_
          rw [nI_1]
          refine gp_of (fun _ k9 => g_putI rfl (Or.inl rfl) rfl (by decide) k9) ?_
          refine gp_n 3 (j' := 68) (lv' := [some (.ref 32), some (.ref 1), some (.ref 13), some (.long (w &&& (((1 : Int64) <<< ((nI F : Int32).toInt64 &&& 63)) ^^^ (-1)))), none, some (.int (nI F))]) (st' := [.ref 1, .ref 1, .ref 13]) (h' := (shT, pm_u2 fi 32 0 (nI (t + 1)), fl, fr)) rfl ?_
          refine gp_of (fun _ k9 => g_getR (q' := 2) rfl rfl (by decide) k8 k9) ?_
          refine gp_n 3 (j' := 72) (lv' := [some (.ref 32), some (.ref 1), some (.ref 13), some (.long (w &&& (((1 : Int64) <<< ((nI F : Int32).toInt64 &&& 63)) ^^^ (-1)))), none, some (.int (nI F))]) (st' := [.int (nI F), .int 0, .int 1, .ref 2, .ref 1, .ref 13]) (h' := (shT, pm_u2 fi 32 0 (nI (t + 1)), fl, fr)) rfl ?_
          refine gp_of (fun _ k9 => g_callv (y := 82) (as := [.ref 13, .ref 1, .ref 2, .int 1, .int 0, .int (nI F)]) (st' := []) rfl rfl (e3) k9) ?_
          refine gp_n 1 (j' := 74) (lv' := [some (.ref 32), some (.ref 1), some (.ref 13), some (.long (w &&& (((1 : Int64) <<< ((nI F : Int32).toInt64 &&& 63)) ^^^ (-1)))), none, some (.int (nI F))]) (st' := [.ref 13]) (h' := (shT, fi3, fl3, fr3)) rfl ?_
          refine gp_of (fun _ k9 => g_getI (x := 1) rfl (Or.inr rfl) rfl (by decide) (a2) k9) ?_
          refine gp_of (fun _ k9 => g_iff rfl (show ¬ ((1 : Int32) = (0 : Int32)) from by decide) k9) ?_
          refine gp_n 2 (j' := 78) (lv' := [some (.ref 32), some (.ref 1), some (.ref 13), some (.long (w &&& (((1 : Int64) <<< ((nI F : Int32).toInt64 &&& 63)) ^^^ (-1)))), none, some (.int (nI F))]) (st' := [.int (nI F), .ref 32]) (h' := (shT, fi3, fl3, fr3)) rfl ?_
          refine gp_of (fun _ k9 => g_putI rfl (Or.inl rfl) rfl (by decide) k9) ?_
          refine gp_n 2 (j' := 81) (lv' := [some (.ref 32), some (.ref 1), some (.ref 13), some (.long (w &&& (((1 : Int64) <<< ((nI F : Int32).toInt64 &&& 63)) ^^^ (-1)))), none, some (.int (nI F))]) (st' := [.ref 13, .ref 32]) (h' := (shT, pm_u2 fi3 32 1 (nI F), fl3, fr3)) rfl ?_
          refine gp_of (fun _ k9 => g_getR (q' := 18) rfl rfl (by decide) ka k9) ?_
          refine gp_of (fun _ k9 => g_getR (q' := 20) rfl rfl (by decide) kA k9) ?_
          refine gp_n 1 (j' := 84) (lv' := [some (.ref 32), some (.ref 1), some (.ref 13), some (.long (w &&& (((1 : Int64) <<< ((nI F : Int32).toInt64 &&& 63)) ^^^ (-1)))), none, some (.int (nI F))]) (st' := [.int 0, .ref 20, .ref 32]) (h' := (shT, pm_u2 fi3 32 1 (nI F), fl3, fr3)) rfl ?_
          refine gp_of (fun _ k9 => g_iald (k := 0) (x := mf) rfl rfl (rfl) (by decide) (by decide) ((show pm_u2 fi3 32 1 (nI F) 20 0 = mf from (wl_ne (by decide)).trans mm)) k9) ?_
          refine gp_of (fun _ k9 => g_putI rfl (Or.inl rfl) rfl (by decide) k9) ?_
          refine gp_n 2 (j' := 88) (lv' := [some (.ref 32), some (.ref 1), some (.ref 13), some (.long (w &&& (((1 : Int64) <<< ((nI F : Int32).toInt64 &&& 63)) ^^^ (-1)))), none, some (.int (nI F))]) (st' := [.int 1, .ref 32]) (h' := (shT, pm_u2 (pm_u2 fi3 32 1 (nI F)) 32 2 mf, fl3, fr3)) rfl ?_
          refine gp_of (fun _ k9 => g_putI rfl (Or.inr ⟨rfl, by decide⟩) rfl (by decide) k9) ?_
          refine gp_n 1 (j' := 36) (lv' := [some (.ref 32), some (.ref 1), some (.ref 13), some (.long (w &&& (((1 : Int64) <<< ((nI F : Int32).toInt64 &&& 63)) ^^^ (-1)))), none, some (.int (nI F))]) (st' := []) (h' := (shT, pm_u2 (pm_u2 (pm_u2 fi3 32 1 (nI F)) 32 2 mf) 32 3 1, fl3, fr3)) rfl ?_
          exact gp_done (last _ _) rfl
