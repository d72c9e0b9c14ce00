/-! THE NEAREST WORD -/
def aN (S : Nat → Int32) (i : Nat) : Nat := (abS (S i)).toInt.toNat
theorem aN_e {S : Nat → Int32} {i : Nat} (h : -127 ≤ (S i).toInt ∧ (S i).toInt ≤ 127) : abS (S i) = nI (aN S i) ∧ aN S i < 128 ∧ (S i < 0 → -S i = nI (aN S i)) ∧ (¬ S i < 0 → S i = nI (aN S i)) := by
  unfold aN abS
  by_cases h0 : S i < 0
  · rw [if_pos h0]
    have e := i_neg (a := S i) (by omega)
    have h1 := Int32.lt_iff_toInt_lt.mp h0
    rw [show (0 : Int32).toInt = 0 from rfl] at h1
    obtain ⟨n, n1, n2, n3⟩ := i32_nI (y := -S i) (by omega)
    rw [n1, nI_toInt n3, Int.toNat_natCast]
    rw [n1, nI_toInt n3] at e
    exact ⟨rfl, by omega, fun _ => rfl, fun z => absurd h0 z⟩
  · rw [if_neg h0]
    have h1 := Int32.le_iff_toInt_le.mp (Int32.not_lt.mp h0)
    rw [show (0 : Int32).toInt = 0 from rfl] at h1
    obtain ⟨n, n1, n2, n3⟩ := i32_nI (y := S i) h1
    rw [n1, nI_toInt n3, Int.toNat_natCast]
    rw [n1, nI_toInt n3] at h
    exact ⟨rfl, by omega, fun z => absurd z (nI_pos n3), fun _ => rfl⟩
/-- how far a word is -/
def dN (S : Nat → Int32) (w : Int64) : Nat → Nat := sm (fun i => if (decide (S i < 0) ^^ bl w i) = true then aN S i else 0)
theorem dN_le {S : Nat → Int32} {w : Int64} (h : ∀ s, s < 64 → -127 ≤ (S s).toInt ∧ (S s).toInt ≤ 127) : ∀ n, n ≤ 64 → dN S w n ≤ 128 * n
  | 0, _ => Nat.le_refl _
  | n + 1, hn => by
    have ih := dN_le (w := w) h n (by omega)
    have b := (aN_e (h n (by omega))).2.1
    show dN S w n + (if (decide (S n < 0) ^^ bl w n) = true then aN S n else 0) ≤ _
    split <;> omega
theorem dN_e {S : Nat → Int32} {w : Int64} (h : ∀ s, s < 64 → -127 ≤ (S s).toInt ∧ (S s).toInt ≤ 127) : ∀ n, n ≤ 64 → dsN S w n = nI (dN S w n)
  | 0, _ => rfl
  | n + 1, hn => by
    obtain ⟨a1, a2, a3, a4⟩ := aN_e (h n (by omega))
    show dsN S w n + pnS (S n) (bl w n) = nI (dN S w n + (if (decide (S n < 0) ^^ bl w n) = true then aN S n else 0))
    rw [dN_e h n (by omega), ← nI_add]
    congr 1
    unfold pnS
    by_cases h0 : S n < 0
    · have h1 : ¬ 0 < S n := fun z => Int32.lt_irrefl (Int32.lt_trans h0 z)
      rw [decide_eq_true h0]
      cases bl w n
      · rw [if_neg (by decide), if_pos h0, if_pos (by decide), a3 h0]
      · rw [if_pos rfl, if_neg h1, if_neg (by decide)]
        rfl
    · rw [decide_eq_false h0]
      cases bl w n
      · rw [if_neg (by decide), if_neg h0, if_neg (by decide)]
        rfl
      · rw [if_pos rfl]
        show (if 0 < S n then S n else 0) = nI (aN S n)
        rw [← a4 h0]
        by_cases h1 : 0 < S n
        · rw [if_pos h1]
        · rw [if_neg h1]
          exact Int32.le_antisymm (Int32.not_lt.mp h0) (Int32.not_lt.mp h1)
/-! planes -/
theorem rbv_n {n j : Nat} (hn : n < 2 ^ 31) (hj : j < 32) : rbv (nI n) j = n.testBit j := by
  unfold rbv
  show (BitVec.ofNat 32 n).getLsbD j = _
  rw [BitVec.getLsbD_ofNat, decide_eq_true hj, Bool.true_and]
theorem b1_or {w : Int64} {t : Bool} {j : Nat} : w ||| ((b01 t).toInt64 <<< ((nI j : Int32).toInt64 &&& 63)) = if t = true then w ||| bitAt j else w := by
  cases t
  · rw [if_neg (by decide)]
    refine bl_ext (fun i hi => ?_)
    have e : ((b01 false).toInt64 <<< ((nI j : Int32).toInt64 &&& 63) : Int64) = 0 := by
      show (0 : Int64) <<< _ = 0
      apply Int64.toBitVec_inj.mp
      rw [Int64.toBitVec_shiftLeft]
      exact BitVec.zero_shiftLeft _
    rw [e, bl_or, bl_0 i hi, Bool.or_false]
  · rw [if_pos rfl]
    rfl
theorem pl_b {S : Nat → Int32} {i b : Nat} (h : -127 ≤ (S i).toInt ∧ (S i).toInt ≤ 127) (hb : b < 7) : (abS (S i) >>> (nI b &&& 31)) &&& 1 = b01 ((aN S i).testBit b) := by
  obtain ⟨a1, a2, -⟩ := aN_e h
  have e := rb_v (abS (S i)) (j := b) (by omega)
  rw [a1] at e ⊢
  rw [rbv_n (by omega) (by omega)] at e
  rw [← e]
  cases hr : rb (nI (aN S i)) b
  · exact rb_0 hr
  · exact rb_1 hr
def plF (S : Nat → Int32) (b i : Nat) : Bool := (aN S i).testBit b
theorem mp_in {S : Nat → Int32} {N b : Nat} {fi : Nat → Nat → Int32} {fr : Nat → Nat → Option Nat} (hN : N ≤ 64) (hb : b < 7) (k3 : fr 38 3 = some 40) (k8 : fr 1 8 = some 2) (c1 : fi 1 1 = nI N) (hS : ∀ s, s < 64 → fi 2 s = S s) (hB : ∀ s, s < 64 → -127 ≤ (S s).toInt ∧ (S s).toInt ≤ 127) : ∀ (n i : Nat) (fl : Nat → Nat → Int64), i + n = N → fl 40 b = mkW (plF S b) i → ∃ fl', fl' 40 b = mkW (plF S b) N ∧ (∀ p s, ¬ (p = 40 ∧ s = b) → fl' p s = fl p s) ∧ ∀ r, Go pmT none cd_131 37 [some (.ref 38), some (.ref 1), some (.int (nI b)), some (.int (nI N))] [] (shT, fi, fl', fr) r → Go pmT none cd_131 12 [some (.ref 38), some (.ref 1), some (.int (nI b)), some (.int (nI i))] [] (shT, fi, fl, fr) r := by
  intro n
  induction n with
  | zero =>
    intro i fl hi c
    have hi : i = N := by omega
    subst hi
    refine ⟨fl, c, fun _ _ _ => rfl, fun r k => ?_⟩
    refine go_of ?_
    refine gp_n 2 (j' := 14) (lv' := [some (.ref 38), some (.ref 1), some (.int (nI b)), some (.int (nI i))]) (st' := [.ref 1, .int (nI i)]) (h' := (shT, fi, fl, fr)) rfl ?_
    refine gp_of (fun _ k9 => g_getI (x := nI i) rfl (Or.inl rfl) rfl (by decide) (c1) k9) ?_
    refine gp_of (fun _ k9 => g_ict rfl (show (nI i) ≤ (nI i) from Int32.le_refl _) k9) ?_
    exact gp_done k rfl
  | succ n ih =>
    intro i fl hi c
    have si := hS i (by omega)
    have pb := pl_b (S := S) (i := i) (hB i (by omega)) hb
    obtain ⟨fl', a1, a2, a3⟩ := ih (i + 1) (pm_u2 fl 40 b (mkW (plF S b) (i + 1))) (by omega) u2_eq
    refine ⟨fl', a1, fun p s z => (a2 p s z).trans (wl_ne z), fun r k => ?_⟩
    have g := a3 r k
    have ab := fun fl => abC_ev (a := S i) (h := (shT, fi, fl, fr))
    have e : mkW (plF S b) (i + 1) = mkW (plF S b) i ||| ((b01 ((aN S i).testBit b)).toInt64 <<< ((nI i : Int32).toInt64 &&& 63)) := by
      rw [b1_or]
      rfl
    rw [e, ← pb] at g
    clear a3 ih a1 a2 e pb
    generalize mkW (plF S b) i = w at *
    generalize abS (S i) = v at *
    generalize S i = s at *
    refine go_of ?_
    refine gp_n 2 (j' := 14) (lv' := [some (.ref 38), some (.ref 1), some (.int (nI b)), some (.int (nI i))]) (st' := [.ref 1, .int (nI i)]) (h' := (shT, fi, fl, fr)) rfl ?_
    refine gp_of (fun _ k9 => g_getI (x := nI N) rfl (Or.inl rfl) rfl (by decide) (c1) k9) ?_
    refine gp_of (fun _ k9 => g_icf rfl (show ¬ ((nI N) ≤ (nI i)) from nI_ge (by omega) (by omega)) k9) ?_
    refine gp_n 1 (j' := 17) (lv' := [some (.ref 38), some (.ref 1), some (.int (nI b)), some (.int (nI i))]) (st' := [.ref 38]) (h' := (shT, fi, fl, fr)) rfl ?_
    refine gp_of (fun _ k9 => g_getR (q' := 40) rfl rfl (by decide) k3 k9) ?_
    refine gp_n 2 (j' := 20) (lv' := [some (.ref 38), some (.ref 1), some (.int (nI b)), some (.int (nI i))]) (st' := [.int (nI b), .ref 40, .int (nI b), .ref 40]) (h' := (shT, fi, fl, fr)) rfl ?_
    refine gp_of (fun _ k9 => g_lald (k := b) (x := w) rfl rfl (rfl) (by omega) (by decide) (c) k9) ?_
    refine gp_n 1 (j' := 22) (lv' := [some (.ref 38), some (.ref 1), some (.int (nI b)), some (.int (nI i))]) (st' := [.ref 1, .long w, .int (nI b), .ref 40]) (h' := (shT, fi, fl, fr)) rfl ?_
    refine gp_of (fun _ k9 => g_getR (q' := 2) rfl rfl (by decide) k8 k9) ?_
    refine gp_n 1 (j' := 24) (lv' := [some (.ref 38), some (.ref 1), some (.int (nI b)), some (.int (nI i))]) (st' := [.int (nI i), .ref 2, .long w, .int (nI b), .ref 40]) (h' := (shT, fi, fl, fr)) rfl ?_
    refine gp_of (fun _ k9 => g_iald (k := i) (x := s) rfl rfl (rfl) (by omega) (by decide) (si) k9) ?_
    refine gp_of (fun _ k9 => g_call (y := 96) (as := [.int s]) (st' := [.long w, .int (nI b), .ref 40]) rfl rfl (ab _) k9) ?_
    refine gp_n 8 (j' := 34) (lv' := [some (.ref 38), some (.ref 1), some (.int (nI b)), some (.int (nI i))]) (st' := [.long (w ||| ((((v >>> ((nI b) &&& 31)) &&& 1).toInt64) <<< ((nI i : Int32).toInt64 &&& 63))), .int (nI b), .ref 40]) (h' := (shT, fi, fl, fr)) rfl ?_
    refine gp_of (fun _ k9 => g_last (k := b) rfl rfl (rfl) (by omega) (by decide) k9) ?_
    refine gp_n 2 (j' := 12) (lv' := [some (.ref 38), some (.ref 1), some (.int (nI b)), some (.int ((nI i) + 1))]) (st' := []) (h' := (shT, fi, pm_u2 fl 40 b (w ||| ((((v >>> ((nI b) &&& 31)) &&& 1).toInt64) <<< ((nI i : Int32).toInt64 &&& 63))), fr)) rfl ?_
    rw [nI_1]
    exact gp_done g rfl
theorem mp_go {S : Nat → Int32} {N : Nat} {fi : Nat → Nat → Int32} {fr : Nat → Nat → Option Nat} (hN : N ≤ 64) (k3 : fr 38 3 = some 40) (k8 : fr 1 8 = some 2) (c1 : fi 1 1 = nI N) (hS : ∀ s, s < 64 → fi 2 s = S s) (hB : ∀ s, s < 64 → -127 ≤ (S s).toInt ∧ (S s).toInt ≤ 127) : ∀ (n b : Nat) (fl : Nat → Nat → Int64), b + n = 7 → ∃ fl', (∀ t, b ≤ t → t < 7 → fl' 40 t = mkW (plF S t) N) ∧ (∀ p s, ¬ (p = 40 ∧ b ≤ s) → fl' p s = fl p s) ∧ ∀ l3, Go pmT none cd_131 2 [some (.ref 38), some (.ref 1), some (.int (nI b)), l3] [] (shT, fi, fl, fr) (none, (shT, fi, fl', fr)) := by
  intro n
  induction n with
  | zero =>
    intro b fl hb
    have hb : b = 7 := by omega
    subst hb
    refine ⟨fl, fun t z1 z2 => absurd z2 (by omega), fun _ _ _ => rfl, fun l3 => ?_⟩
    refine go_of ?_
    refine gp_n 2 (j' := 4) (lv' := [some (.ref 38), some (.ref 1), some (.int (nI 7)), l3]) (st' := [.int 7, .int (nI 7)]) (h' := (shT, fi, fl, fr)) rfl ?_
    refine gp_of (fun _ k9 => g_ict rfl (show (7 : Int32) ≤ (nI 7) from by decide) k9) ?_
    refine gp_done (g_vret rfl) ?_
    rfl
  | succ n ih =>
    intro b fl hb
    obtain ⟨f1, a1, a2, a3⟩ := mp_in (b := b) hN (by omega) k3 k8 c1 hS hB N 0 (pm_u2 fl 40 b 0) (by omega) u2_eq
    obtain ⟨f2, b1, b2, b3⟩ := ih (b + 1) f1 (by omega)
    refine ⟨f2, fun t z1 z2 => ?_, fun p s z => (b2 p s (by omega)).trans ((a2 p s (by omega)).trans (wl_ne (by omega))), fun l3 => ?_⟩
    · by_cases e : t = b
      · subst e
        exact (b2 _ _ (by omega)).trans a1
      · exact b1 t (by omega) z2
    have g := a3 (none, (shT, fi, f2, fr)) (by
      have b3 := b3 (some (.int (nI N)))
      refine go_of ?_
      refine gp_n 2 (j' := 2) (lv' := [some (.ref 38), some (.ref 1), some (.int ((nI b) + 1)), some (.int (nI N))]) (st' := []) (h' := (shT, fi, f1, fr)) rfl ?_
      rw [nI_1]
      exact gp_done b3 rfl)
    refine go_of ?_
    refine gp_n 2 (j' := 4) (lv' := [some (.ref 38), some (.ref 1), some (.int (nI b)), l3]) (st' := [.int 7, .int (nI b)]) (h' := (shT, fi, fl, fr)) rfl ?_
    refine gp_of (fun _ k9 => g_icf rfl (show ¬ ((7 : Int32) ≤ (nI b)) from nI_ge (b := 7) (by omega) (by omega)) k9) ?_
    refine gp_n 1 (j' := 6) (lv' := [some (.ref 38), some (.ref 1), some (.int (nI b)), l3]) (st' := [.ref 38]) (h' := (shT, fi, fl, fr)) rfl ?_
    refine gp_of (fun _ k9 => g_getR (q' := 40) rfl rfl (by decide) k3 k9) ?_
    refine gp_n 2 (j' := 9) (lv' := [some (.ref 38), some (.ref 1), some (.int (nI b)), l3]) (st' := [.long 0, .int (nI b), .ref 40]) (h' := (shT, fi, fl, fr)) rfl ?_
    refine gp_of (fun _ k9 => g_last (k := b) rfl rfl (rfl) (by omega) (by decide) k9) ?_
    refine gp_n 2 (j' := 12) (lv' := [some (.ref 38), some (.ref 1), some (.int (nI b)), some (.int (nI 0))]) (st' := []) (h' := (shT, fi, pm_u2 fl 40 b 0, fr)) rfl ?_
    exact gp_done g rfl
theorem sd_go {S : Nat → Int32} {N : Nat} {fi : Nat → Nat → Int32} {fl : Nat → Nat → Int64} {fr : Nat → Nat → Option Nat} (hN : N ≤ 64) (k8 : fr 1 8 = some 2) (c1 : fi 1 1 = nI N) (hS : ∀ s, s < 64 → fi 2 s = S s) : ∀ (n i : Nat), i + n = N → Go pmT none cd_132 4 [some (.ref 1), some (.long (mkW (fun i => decide (S i < 0)) i)), none, some (.int (nI i))] [] (shT, fi, fl, fr) (some (.long (mkW (fun i => decide (S i < 0)) N)), (shT, fi, fl, fr)) := by
  intro n
  induction n with
  | zero =>
    intro i hi
    have hi : i = N := by omega
    subst hi
    generalize mkW (fun i => decide (S i < 0)) i = w
    refine go_of ?_
    refine gp_n 2 (j' := 6) (lv' := [some (.ref 1), some (.long w), none, some (.int (nI i))]) (st' := [.ref 1, .int (nI i)]) (h' := (shT, fi, fl, fr)) rfl ?_
    refine gp_of (fun _ k9 => g_getI (x := nI i) rfl (Or.inl rfl) rfl (by decide) (c1) k9) ?_
    refine gp_of (fun _ k9 => g_ict rfl (show (nI i) ≤ (nI i) from Int32.le_refl _) k9) ?_
    refine gp_n 1 (j' := 24) (lv' := [some (.ref 1), some (.long w), none, some (.int (nI i))]) (st' := [.long w]) (h' := (shT, fi, fl, fr)) rfl ?_
    refine gp_done (g_lret rfl) ?_
    rfl
  | succ n ih =>
    intro i hi
    have si := hS i (by omega)
    have g := ih (i + 1) (by omega)
    have e : mkW (fun i => decide (S i < 0)) (i + 1) = mkW (fun i => decide (S i < 0)) i ||| ((b01 (decide (S i < 0))).toInt64 <<< ((nI i : Int32).toInt64 &&& 63)) := by
      rw [b1_or]
      rfl
    rw [e] at g
    clear ih e
    generalize mkW (fun i => decide (S i < 0)) N = V at *
    generalize mkW (fun i => decide (S i < 0)) i = w at *
    generalize S i = s at *
    refine go_of ?_
    by_cases h0 : s < 0
    · rw [decide_eq_true h0] at g
      refine gp_n 2 (j' := 6) (lv' := [some (.ref 1), some (.long w), none, some (.int (nI i))]) (st' := [.ref 1, .int (nI i)]) (h' := (shT, fi, fl, fr)) rfl ?_
      refine gp_of (fun _ k9 => g_getI (x := nI N) rfl (Or.inl rfl) rfl (by decide) (c1) k9) ?_
      refine gp_of (fun _ k9 => g_icf rfl (show ¬ ((nI N) ≤ (nI i)) from nI_ge (by omega) (by omega)) k9) ?_
      refine gp_n 2 (j' := 10) (lv' := [some (.ref 1), some (.long w), none, some (.int (nI i))]) (st' := [.ref 1, .long w]) (h' := (shT, fi, fl, fr)) rfl ?_
      refine gp_of (fun _ k9 => g_getR (q' := 2) rfl rfl (by decide) k8 k9) ?_
      refine gp_n 1 (j' := 12) (lv' := [some (.ref 1), some (.long w), none, some (.int (nI i))]) (st' := [.int (nI i), .ref 2, .long w]) (h' := (shT, fi, fl, fr)) rfl ?_
      refine gp_of (fun _ k9 => g_iald (k := i) (x := s) rfl rfl (rfl) (by omega) (by decide) (si) k9) ?_
      refine gp_of (fun _ k9 => g_iff rfl (show ¬ ((0 : Int32) ≤ s) from Int32.not_le.mpr h0) k9) ?_
      refine gp_n 8 (j' := 4) (lv' := [some (.ref 1), some (.long (w ||| ((1 : Int64) <<< ((nI i : Int32).toInt64 &&& 63)))), none, some (.int ((nI i) + 1))]) (st' := []) (h' := (shT, fi, fl, fr)) rfl ?_
      rw [nI_1]
      exact gp_done g rfl
    · rw [decide_eq_false h0] at g
      refine gp_n 2 (j' := 6) (lv' := [some (.ref 1), some (.long w), none, some (.int (nI i))]) (st' := [.ref 1, .int (nI i)]) (h' := (shT, fi, fl, fr)) rfl ?_
      refine gp_of (fun _ k9 => g_getI (x := nI N) rfl (Or.inl rfl) rfl (by decide) (c1) k9) ?_
      refine gp_of (fun _ k9 => g_icf rfl (show ¬ ((nI N) ≤ (nI i)) from nI_ge (by omega) (by omega)) k9) ?_
      refine gp_n 2 (j' := 10) (lv' := [some (.ref 1), some (.long w), none, some (.int (nI i))]) (st' := [.ref 1, .long w]) (h' := (shT, fi, fl, fr)) rfl ?_
      refine gp_of (fun _ k9 => g_getR (q' := 2) rfl rfl (by decide) k8 k9) ?_
      refine gp_n 1 (j' := 12) (lv' := [some (.ref 1), some (.long w), none, some (.int (nI i))]) (st' := [.int (nI i), .ref 2, .long w]) (h' := (shT, fi, fl, fr)) rfl ?_
      refine gp_of (fun _ k9 => g_iald (k := i) (x := s) rfl rfl (rfl) (by omega) (by decide) (si) k9) ?_
      refine gp_of (fun _ k9 => g_ift rfl (show (0 : Int32) ≤ s from Int32.not_lt.mp h0) k9) ?_
      refine gp_n 7 (j' := 4) (lv' := [some (.ref 1), some (.long (w ||| ((0 : Int64) <<< ((nI i : Int32).toInt64 &&& 63)))), none, some (.int ((nI i) + 1))]) (st' := []) (h' := (shT, fi, fl, fr)) rfl ?_
      rw [nI_1]
      exact gp_done g rfl
theorem shp : ∀ p, p < 65 → ∀ b, b < 7 → nI p <<< (nI b &&& 31) = nI (p * 2 ^ b) := by decide +kernel
theorem we_go {u : Int64} {P : Nat → Int64} {fi : Nat → Nat → Int32} {fl : Nat → Nat → Int64} {fr : Nat → Nat → Option Nat} (k3 : fr 38 3 = some 40) (hP : ∀ t, t < 7 → fl 40 t = P t) : ∀ (n b : Nat), b + n = 7 → Go pmT none cd_133 4 [some (.ref 38), some (.long u), none, some (.int (nI (sm (fun t => popc (u &&& P t) * 2 ^ t) b))), some (.int (nI b))] [] (shT, fi, fl, fr) (some (.int (nI (sm (fun t => popc (u &&& P t) * 2 ^ t) 7))), (shT, fi, fl, fr)) := by
  intro n
  induction n with
  | zero =>
    intro b hb
    have hb : b = 7 := by omega
    subst hb
    generalize nI (sm (fun t => popc (u &&& P t) * 2 ^ t) 7) = V
    refine go_of ?_
    refine gp_n 2 (j' := 6) (lv' := [some (.ref 38), some (.long u), none, some (.int V), some (.int (nI 7))]) (st' := [.int 7, .int (nI 7)]) (h' := (shT, fi, fl, fr)) rfl ?_
    refine gp_of (fun _ k9 => g_ict rfl (show (7 : Int32) ≤ (nI 7) from by decide) k9) ?_
    refine gp_n 1 (j' := 22) (lv' := [some (.ref 38), some (.long u), none, some (.int V), some (.int (nI 7))]) (st' := [.int V]) (h' := (shT, fi, fl, fr)) rfl ?_
    refine gp_done (g_ret rfl) ?_
    rfl
  | succ n ih =>
    intro b hb
    have g := ih (b + 1) (by omega)
    have e : sm (fun t => popc (u &&& P t) * 2 ^ t) (b + 1) = sm (fun t => popc (u &&& P t) * 2 ^ t) b + popc (u &&& P b) * 2 ^ b := rfl
    have pb := hP b (by omega)
    have bc := bc_ev (x := u &&& P b) (h := (shT, fi, fl, fr))
    rw [bc_ok] at bc
    have sp := shp (popc (u &&& P b)) (by have := popc_le (u &&& P b); omega) b (by omega)
    rw [e, ← nI_add, ← sp] at g
    generalize nI (sm (fun t => popc (u &&& P t) * 2 ^ t) 7) = V at *
    generalize nI (sm (fun t => popc (u &&& P t) * 2 ^ t) b) = q at *
    generalize popc (u &&& P b) = pc at *
    generalize P b = p at *
    clear ih e sp
    refine go_of ?_
    refine gp_n 2 (j' := 6) (lv' := [some (.ref 38), some (.long u), none, some (.int q), some (.int (nI b))]) (st' := [.int 7, .int (nI b)]) (h' := (shT, fi, fl, fr)) rfl ?_
    refine gp_of (fun _ k9 => g_icf rfl (show ¬ ((7 : Int32) ≤ (nI b)) from nI_ge (b := 7) (by omega) (by omega)) k9) ?_
    refine gp_n 3 (j' := 10) (lv' := [some (.ref 38), some (.long u), none, some (.int q), some (.int (nI b))]) (st' := [.ref 38, .long u, .int q]) (h' := (shT, fi, fl, fr)) rfl ?_
    refine gp_of (fun _ k9 => g_getR (q' := 40) rfl rfl (by decide) k3 k9) ?_
    refine gp_n 1 (j' := 12) (lv' := [some (.ref 38), some (.long u), none, some (.int q), some (.int (nI b))]) (st' := [.int (nI b), .ref 40, .long u, .int q]) (h' := (shT, fi, fl, fr)) rfl ?_
    refine gp_of (fun _ k9 => g_lald (k := b) (x := p) rfl rfl (rfl) (by omega) (by decide) (pb) k9) ?_
    refine gp_n 1 (j' := 14) (lv' := [some (.ref 38), some (.long u), none, some (.int q), some (.int (nI b))]) (st' := [.long (u &&& p), .int q]) (h' := (shT, fi, fl, fr)) rfl ?_
    refine gp_of (fun _ k9 => g_call (y := 43) (as := [.long (u &&& p)]) (st' := [.int q]) rfl rfl (bc) k9) ?_
    refine gp_n 6 (j' := 4) (lv' := [some (.ref 38), some (.long u), none, some (.int (q + ((nI pc) <<< ((nI b) &&& 31)))), some (.int ((nI b) + 1))]) (st' := []) (h' := (shT, fi, fl, fr)) rfl ?_
    rw [nI_1 b]
    exact gp_done g rfl
theorem cnt_sm {f : Nat → Bool} : ∀ n, cntP f n = sm (fun i => if f i = true then 1 else 0) n
  | 0 => rfl
  | n + 1 => by
    rw [sm, ← cnt_sm n]
    rfl
theorem sm_mul {f : Nat → Nat} {c : Nat} : ∀ n, sm f n * c = sm (fun i => f i * c) n
  | 0 => Nat.zero_mul c
  | n + 1 => by rw [sm, sm, Nat.add_mul, sm_mul n]
theorem sm_tp {f : Nat → Nat} {N : Nat} : ∀ n, (∀ i, N ≤ i → i < N + n → f i = 0) → sm f (N + n) = sm f N
  | 0, _ => rfl
  | n + 1, h => by
    rw [show N + (n + 1) = (N + n) + 1 from rfl, sm, sm_tp n (fun i z1 z2 => h i z1 (by omega)), h (N + n) (by omega) (by omega)]
    rfl
theorem bits7 : ∀ n, n < 128 → sm (fun b => (if n.testBit b = true then 1 else 0) * 2 ^ b) 7 = n := by decide +kernel
theorem we_e {S : Nat → Int32} {N : Nat} {w : Int64} (hN : N ≤ 64) (hB : ∀ s, s < 64 → -127 ≤ (S s).toInt ∧ (S s).toInt ≤ 127) : sm (fun t => popc ((mkW (fun i => decide (S i < 0)) N ^^^ w) &&& mkW (plF S t) N) * 2 ^ t) 7 = dN S w N := by
  have e1 : ∀ t, t < 7 → popc ((mkW (fun i => decide (S i < 0)) N ^^^ w) &&& mkW (plF S t) N) * 2 ^ t = sm (fun i => (if (decide (S i < 0) ^^ bl w i) = true then (if (aN S i).testBit t = true then 1 else 0) else 0) * 2 ^ t) N := fun t ht => by
    unfold popc
    rw [cntb_P, cnt_sm, sm_mul]
    have tp := sm_tp (f := fun i => (if bl ((mkW (fun i => decide (S i < 0)) N ^^^ w) &&& mkW (plF S t) N) i = true then 1 else 0) * 2 ^ t) (N := N) (64 - N) (fun i z1 z2 => by
      show (if bl ((mkW (fun i => decide (S i < 0)) N ^^^ w) &&& mkW (plF S t) N) i = true then 1 else 0) * 2 ^ t = 0
      rw [bl_and, mkW_bl N hN i (by omega), decide_eq_false (by omega), Bool.false_and, Bool.and_false, if_neg (by decide), Nat.zero_mul])
    rw [show N + (64 - N) = 64 by omega] at tp
    rw [tp]
    refine sm_cg N (fun i hi => ?_)
    show (if bl ((mkW (fun i => decide (S i < 0)) N ^^^ w) &&& mkW (plF S t) N) i = true then 1 else 0) * 2 ^ t = _
    rw [bl_and, bl_xor, mkW_bl N hN i (by omega), mkW_bl N hN i (by omega), decide_eq_true hi, Bool.true_and, Bool.true_and]
    unfold plF
    cases (decide (S i < 0) ^^ bl w i) <;> cases (aN S i).testBit t <;> rfl
  rw [sm_cg 7 e1, sm_swap]
  refine sm_cg N (fun i hi => ?_)
  by_cases h : (decide (S i < 0) ^^ bl w i) = true
  · rw [if_pos h]
    have := bits7 (aN S i) (aN_e (hB i (by omega))).2.1
    refine Eq.trans (sm_cg 7 (fun b _ => ?_)) this
    show (if (decide (S i < 0) ^^ bl w i) = true then _ else 0) * 2 ^ b = _
    rw [if_pos h]
  · rw [if_neg h]
    refine Eq.trans (sm_cg 7 (fun b _ => ?_)) (sm_0 7)
    show (if (decide (S i < 0) ^^ bl w i) = true then _ else 0) * 2 ^ b = 0
    rw [if_neg h, Nat.zero_mul]
/-! the least -/
def nbC (D g : Nat → Nat) : Nat → Nat × Nat
  | 0 => (0, D 0)
  | i + 1 => if D (g (i + 1)) < (nbC D g i).2 ∨ (D (g (i + 1)) = (nbC D g i).2 ∧ g (i + 1) < (nbC D g i).1) then (g (i + 1), D (g (i + 1))) else nbC D g i
def nbM (D : Nat → Nat) : Nat → Nat × Nat
  | 0 => (0, D 0)
  | i + 1 => if D (i + 1) < (nbM D i).2 then (i + 1, D (i + 1)) else nbM D i
theorem nbC_p {D g : Nat → Nat} (g0 : g 0 = 0) : ∀ n, (∃ t, t ≤ n ∧ g t = (nbC D g n).1) ∧ D (nbC D g n).1 = (nbC D g n).2 ∧ ∀ t, t ≤ n → (nbC D g n).2 < D (g t) ∨ ((nbC D g n).2 = D (g t) ∧ (nbC D g n).1 ≤ g t)
  | 0 => ⟨⟨0, Nat.le_refl _, g0⟩, rfl, fun t ht => Or.inr (by
      have : t = 0 := by omega
      subst this
      rw [g0]
      exact ⟨rfl, Nat.le_refl _⟩)⟩
  | n + 1 => by
    obtain ⟨⟨t0, h1, h2⟩, h3, h4⟩ := nbC_p (D := D) g0 n
    rw [nbC]
    split
    · rename_i hc
      refine ⟨⟨n + 1, Nat.le_refl _, rfl⟩, rfl, fun t ht => ?_⟩
      show D (g (n + 1)) < D (g t) ∨ (D (g (n + 1)) = D (g t) ∧ g (n + 1) ≤ g t)
      by_cases e : t = n + 1
      · rw [e]
        exact Or.inr ⟨rfl, Nat.le_refl _⟩
      · have := h4 t (by omega)
        omega
    · rename_i hc
      refine ⟨⟨t0, by omega, h2⟩, h3, fun t ht => ?_⟩
      by_cases e : t = n + 1
      · rw [e]
        omega
      · exact h4 t (by omega)
theorem nbM_p {D : Nat → Nat} : ∀ n, (nbM D n).1 ≤ n ∧ D (nbM D n).1 = (nbM D n).2 ∧ ∀ t, t ≤ n → (nbM D n).2 < D t ∨ ((nbM D n).2 = D t ∧ (nbM D n).1 ≤ t)
  | 0 => ⟨Nat.le_refl _, rfl, fun t ht => Or.inr (by
      have : t = 0 := by omega
      subst this
      exact ⟨rfl, Nat.le_refl _⟩)⟩
  | n + 1 => by
    obtain ⟨h1, h3, h4⟩ := nbM_p (D := D) n
    rw [nbM]
    split
    · rename_i hc
      refine ⟨Nat.le_refl _, rfl, fun t ht => ?_⟩
      show D (n + 1) < D t ∨ (D (n + 1) = D t ∧ n + 1 ≤ t)
      by_cases e : t = n + 1
      · rw [e]
        exact Or.inr ⟨rfl, Nat.le_refl _⟩
      · have := h4 t (by omega)
        omega
    · rename_i hc
      refine ⟨by omega, h3, fun t ht => ?_⟩
      by_cases e : t = n + 1
      · rw [e]
        omega
      · exact h4 t (by omega)
theorem nb_eq {D : Nat → Nat} {k : Nat} (hk : k ≤ 12) : nbC D gry (2 ^ k - 1) = nbM D (2 ^ k - 1) := by
  have p12 := pw2_le hk
  have p1 := Nat.two_pow_pos k
  obtain ⟨⟨t0, a1, a2⟩, a3, a4⟩ := nbC_p (D := D) (g := gry) rfl (2 ^ k - 1)
  obtain ⟨b1, b3, b4⟩ := nbM_p (D := D) (2 ^ k - 1)
  have gl := gry_lt (i := t0) (k := k) (by omega)
  rw [a2] at gl
  have u1 := ugr_lt (i := (nbM D (2 ^ k - 1)).1) (k := k) (by omega)
  have c1 := a4 (ugr (nbM D (2 ^ k - 1)).1) (by omega)
  rw [(gry_f (i := (nbM D (2 ^ k - 1)).1) (by omega)).1] at c1
  have c2 := b4 (nbC D gry (2 ^ k - 1)).1 (by omega)
  have e1 : (nbC D gry (2 ^ k - 1)).1 = (nbM D (2 ^ k - 1)).1 := by omega
  have e2 : (nbC D gry (2 ^ k - 1)).2 = (nbM D (2 ^ k - 1)).2 := by omega
  exact Prod.ext e1 e2
