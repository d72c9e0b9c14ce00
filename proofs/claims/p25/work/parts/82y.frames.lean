theorem tx_go_41 {f d : Int32 → Int32} {N : Nat} {a b : Int32} {w : Int64} {fl : Nat → Nat → Int64} {fr : Nat → Nat → Option Nat} (hN : N ≤ 64) (k0 : fr 0 0 = some 1) (dr : ∀ (x : Int32) (fi : Nat → Nat → Int32), fi 0 13 = x → Ev pmT 73 [.ref 0, .int (2 * b + 1)] (shT, fi, fl, fr) (some (.int (d x))) (shT, pm_u2 fi 0 13 (f x), fl, fr)) : ∀ (n i : Nat) (x : Int32) (fi : Nat → Nat → Int32) (l7 l8 : Option Value), i + n = N → fi 1 1 = nI N → fi 0 13 = x → Go pmT none cd_72 2 [some (.ref 0), some (.long w), none, some (.int a), some (.int b), some (.ref 41), some (.int (nI i)), l7, l8] [] (shT, fi, fl, fr) (none, (shT, txF f d 0 13 41 a b w n i x fi, fl, fr)) := by
  intro n
  induction n with
  | zero =>
    intro i x fi l7 l8 hi c1 c13
    have hi : i = N := by omega
    subst hi
    rw [txF]
    refine go_of ?_
    refine gp_n 2 (j' := 4) (lv' := [some (.ref 0), some (.long w), none, some (.int a), some (.int b), some (.ref 41), some (.int (nI i)), l7, l8]) (st' := [.ref 0, .int (nI i)]) (h' := (shT, fi, fl, fr)) rfl ?_
    refine gp_of (fun _ k9 => g_getR (q' := 1) rfl rfl (by decide) k0 k9) ?_
    refine gp_of (fun _ k9 => g_getI (x := nI i) rfl (Or.inl rfl) rfl (by decide) (c1) k9) ?_
    refine gp_of (fun _ k9 => g_ict rfl (show (nI i) ≤ (nI i) from Int32.le_refl _) k9) ?_
    refine gp_done (g_vret rfl) ?_
    rfl
  | succ n ih =>
    intro i x fi l7 l8 hi c1 c13
    have e : us6 w (nI i) &&& 1 = if bl w i = true then 1 else 0 := by rw [and_b1, bl_us i (by omega) w 0, Nat.add_zero]
    have dr := dr x fi c13
    rw [txF]
    have g := fun v8 l7 l8 => ih (i + 1) (f x) (pm_u2 (pm_u2 fi 0 13 (f x)) 41 i v8) l7 l8 (by omega) (((u2_ne (fun z => absurd z.1 (by decide))).trans (u2_ne (fun z => absurd z.1 (by decide)))).trans c1) ((u2_ne (fun z => absurd z.1 (by decide))).trans u2_eq)
    cases hw : bl w i
    · have en : noi d a b false x = clp (a + d x - b) := rfl
      rw [en]
      rw [hw] at e
      have e : ((w.toUInt64 >>> ((nI i : Int32).toInt64.toUInt64 &&& Int64.toUInt64 63)).toInt64) &&& 1 = 0 := e
      have g := g (clp (a + d x - b)) (some (.int (a))) (some (.int (a + d x - b)))
      clear ih c13
      generalize d x = dx at *
      generalize f x = y at *
      generalize hv : a + dx - b = v at *
      have m1 : Ev pmT 15 [.int 127, .int v] (shT, pm_u2 fi 0 13 y, fl, fr) (some (.int (mnv v))) (shT, pm_u2 fi 0 13 y, fl, fr) := by
        unfold mnv
        exact min_ev
      have m2 : Ev pmT 48 [.int (-127), .int (mnv v)] (shT, pm_u2 fi 0 13 y, fl, fr) (some (.int (clp v))) (shT, pm_u2 fi 0 13 y, fl, fr) := by
        unfold clp
        exact max_ev
      generalize mnv v = v1 at *
      generalize clp v = v2 at *
      refine go_of ?_
      refine gp_n 2 (j' := 4) (lv' := [some (.ref 0), some (.long w), none, some (.int a), some (.int b), some (.ref 41), some (.int (nI i)), l7, l8]) (st' := [.ref 0, .int (nI i)]) (h' := (shT, fi, fl, fr)) rfl ?_
      refine gp_of (fun _ k9 => g_getR (q' := 1) rfl rfl (by decide) k0 k9) ?_
      refine gp_of (fun _ k9 => g_getI (x := nI N) rfl (Or.inl rfl) rfl (by decide) (c1) k9) ?_
      refine gp_of (fun _ k9 => g_icf rfl (show ¬ ((nI N) ≤ (nI i)) from nI_ge (by omega) (by omega)) k9) ?_
      refine gp_n 5 (j' := 12) (lv' := [some (.ref 0), some (.long w), none, some (.int a), some (.int b), some (.ref 41), some (.int (nI i)), l7, l8]) (st' := [.long (((w.toUInt64 >>> ((nI i : Int32).toInt64.toUInt64 &&& Int64.toUInt64 63)).toInt64) &&& 1)]) (h' := (shT, fi, fl, fr)) rfl ?_
      rw [e]
      refine gp_n 2 (j' := 14) (lv' := [some (.ref 0), some (.long w), none, some (.int a), some (.int b), some (.ref 41), some (.int (nI i)), l7, l8]) (st' := [.int (lg_cmp 0 0)]) (h' := (shT, fi, fl, fr)) rfl ?_
      refine gp_of (fun _ k9 => g_iff rfl (show ¬ (¬ (lg_cmp 0 0) = (0 : Int32)) from by decide) k9) ?_
      refine gp_n 10 (j' := 27) (lv' := [some (.ref 0), some (.long w), none, some (.int a), some (.int b), some (.ref 41), some (.int (nI i)), some (.int a), l8]) (st' := [.int (((2 : Int32) * b) + 1), .ref 0, .int a]) (h' := (shT, fi, fl, fr)) rfl ?_
      refine gp_of (fun _ k9 => g_call (y := 73) (as := [.ref 0, .int (((2 : Int32) * b) + 1)]) (st' := [.int a]) rfl rfl (dr) k9) ?_
      refine gp_n 3 (j' := 31) (lv' := [some (.ref 0), some (.long w), none, some (.int a), some (.int b), some (.ref 41), some (.int (nI i)), some (.int a), l8]) (st' := [.int ((a + dx) - b)]) (h' := (shT, pm_u2 fi 0 13 y, fl, fr)) rfl ?_
      rw [hv]
      refine gp_n 6 (j' := 37) (lv' := [some (.ref 0), some (.long w), none, some (.int a), some (.int b), some (.ref 41), some (.int (nI i)), some (.int a), some (.int v)]) (st' := [.int v, .int 127, .int (-127), .int (nI i), .ref 41]) (h' := (shT, pm_u2 fi 0 13 y, fl, fr)) rfl ?_
      refine gp_of (fun _ k9 => g_call (y := 15) (as := [.int 127, .int v]) (st' := [.int (-127), .int (nI i), .ref 41]) rfl rfl (m1) k9) ?_
      refine gp_of (fun _ k9 => g_call (y := 48) (as := [.int (-127), .int v1]) (st' := [.int (nI i), .ref 41]) rfl rfl (m2) k9) ?_
      refine gp_of (fun _ k9 => g_iast (k := i) rfl rfl (rfl) (by omega) (by decide) k9) ?_
      refine gp_n 2 (j' := 2) (lv' := [some (.ref 0), some (.long w), none, some (.int a), some (.int b), some (.ref 41), some (.int ((nI i) + 1)), some (.int a), some (.int v)]) (st' := []) (h' := (shT, pm_u2 (pm_u2 fi 0 13 y) 41 i v2, fl, fr)) rfl ?_
      rw [nI_1]
      exact gp_done g rfl
    · have en : noi d a b true x = clp (-a + d x - b) := rfl
      rw [en]
      rw [hw] at e
      have e : ((w.toUInt64 >>> ((nI i : Int32).toInt64.toUInt64 &&& Int64.toUInt64 63)).toInt64) &&& 1 = 1 := e
      have g := g (clp (-a + d x - b)) (some (.int (-a))) (some (.int (-a + d x - b)))
      clear ih c13
      generalize d x = dx at *
      generalize f x = y at *
      generalize hv : -a + dx - b = v at *
      have m1 : Ev pmT 15 [.int 127, .int v] (shT, pm_u2 fi 0 13 y, fl, fr) (some (.int (mnv v))) (shT, pm_u2 fi 0 13 y, fl, fr) := by
        unfold mnv
        exact min_ev
      have m2 : Ev pmT 48 [.int (-127), .int (mnv v)] (shT, pm_u2 fi 0 13 y, fl, fr) (some (.int (clp v))) (shT, pm_u2 fi 0 13 y, fl, fr) := by
        unfold clp
        exact max_ev
      generalize mnv v = v1 at *
      generalize clp v = v2 at *
      refine go_of ?_
      refine gp_n 2 (j' := 4) (lv' := [some (.ref 0), some (.long w), none, some (.int a), some (.int b), some (.ref 41), some (.int (nI i)), l7, l8]) (st' := [.ref 0, .int (nI i)]) (h' := (shT, fi, fl, fr)) rfl ?_
      refine gp_of (fun _ k9 => g_getR (q' := 1) rfl rfl (by decide) k0 k9) ?_
      refine gp_of (fun _ k9 => g_getI (x := nI N) rfl (Or.inl rfl) rfl (by decide) (c1) k9) ?_
      refine gp_of (fun _ k9 => g_icf rfl (show ¬ ((nI N) ≤ (nI i)) from nI_ge (by omega) (by omega)) k9) ?_
      refine gp_n 5 (j' := 12) (lv' := [some (.ref 0), some (.long w), none, some (.int a), some (.int b), some (.ref 41), some (.int (nI i)), l7, l8]) (st' := [.long (((w.toUInt64 >>> ((nI i : Int32).toInt64.toUInt64 &&& Int64.toUInt64 63)).toInt64) &&& 1)]) (h' := (shT, fi, fl, fr)) rfl ?_
      rw [e]
      refine gp_n 2 (j' := 14) (lv' := [some (.ref 0), some (.long w), none, some (.int a), some (.int b), some (.ref 41), some (.int (nI i)), l7, l8]) (st' := [.int (lg_cmp 1 0)]) (h' := (shT, fi, fl, fr)) rfl ?_
      refine gp_of (fun _ k9 => g_ift rfl (show ¬ (lg_cmp 1 0) = (0 : Int32) from by decide) k9) ?_
      refine gp_n 10 (j' := 27) (lv' := [some (.ref 0), some (.long w), none, some (.int a), some (.int b), some (.ref 41), some (.int (nI i)), some (.int (-a)), l8]) (st' := [.int (((2 : Int32) * b) + 1), .ref 0, .int (-a)]) (h' := (shT, fi, fl, fr)) rfl ?_
      refine gp_of (fun _ k9 => g_call (y := 73) (as := [.ref 0, .int (((2 : Int32) * b) + 1)]) (st' := [.int (-a)]) rfl rfl (dr) k9) ?_
      refine gp_n 3 (j' := 31) (lv' := [some (.ref 0), some (.long w), none, some (.int a), some (.int b), some (.ref 41), some (.int (nI i)), some (.int (-a)), l8]) (st' := [.int (((-a) + dx) - b)]) (h' := (shT, pm_u2 fi 0 13 y, fl, fr)) rfl ?_
      rw [hv]
      refine gp_n 6 (j' := 37) (lv' := [some (.ref 0), some (.long w), none, some (.int a), some (.int b), some (.ref 41), some (.int (nI i)), some (.int (-a)), some (.int v)]) (st' := [.int v, .int 127, .int (-127), .int (nI i), .ref 41]) (h' := (shT, pm_u2 fi 0 13 y, fl, fr)) rfl ?_
      refine gp_of (fun _ k9 => g_call (y := 15) (as := [.int 127, .int v]) (st' := [.int (-127), .int (nI i), .ref 41]) rfl rfl (m1) k9) ?_
      refine gp_of (fun _ k9 => g_call (y := 48) (as := [.int (-127), .int v1]) (st' := [.int (nI i), .ref 41]) rfl rfl (m2) k9) ?_
      refine gp_of (fun _ k9 => g_iast (k := i) rfl rfl (rfl) (by omega) (by decide) k9) ?_
      refine gp_n 2 (j' := 2) (lv' := [some (.ref 0), some (.long w), none, some (.int a), some (.int b), some (.ref 41), some (.int ((nI i) + 1)), some (.int (-a)), some (.int v)]) (st' := []) (h' := (shT, pm_u2 (pm_u2 fi 0 13 y) 41 i v2, fl, fr)) rfl ?_
      rw [nI_1]
      exact gp_done g rfl
theorem tx_ev_41 {N : Nat} {a b x : Int32} {w : Int64} {fi : Nat → Nat → Int32} {fl : Nat → Nat → Int64} {fr : Nat → Nat → Option Nat} (hN : N ≤ 64) (k0 : fr 0 0 = some 1) (hb : 0 < (2 : Int32) * b + 1) (c1 : fi 1 1 = nI N) (c13 : fi 0 13 = x) : Ev pmT 72 [.ref 0, .long w, .int a, .int b, .ref 41] (shT, fi, fl, fr) none (shT, txF lcg (fun x => drw x (2 * b + 1)) 0 13 41 a b w N 0 x fi, fl, fr) := by
  refine Ev.of (es := cd_72) (ml := 9) (lv := [some (.ref 0), some (.long w), none, some (.int a), some (.int b), some (.ref 41), none, none, none]) rfl rfl rfl ?_
  have g := tx_go_41 (f := lcg) (d := fun x => drw x (2 * b + 1)) (a := a) (w := w) (fl := fl) hN k0 (fun x fi c => dr_C c hb) N 0 x fi none none (by omega) c1 c13
  refine go_of ?_
  refine gp_n 2 (j' := 2) (lv' := [some (.ref 0), some (.long w), none, some (.int a), some (.int b), some (.ref 41), some (.int (nI 0)), none, none]) (st' := []) (h' := (shT, fi, fl, fr)) rfl ?_
  exact gp_done g rfl
/-! FRAMES -/
theorem itN_s {f : Int32 → Int32} : ∀ (n : Nat) (x : Int32), f (itN f n x) = itN f (n + 1) x
  | 0, _ => rfl
  | n + 1, x => itN_s n (f x)
def fmN (f d : Int32 → Int32) (x : Int32) : Nat → Int64
  | 0 => 0
  | i + 1 => fmN f d x i ||| ((d (itN f i x)).toInt64 <<< ((nI i : Int32).toInt64 &&& 63))
theorem fm_go_C {f d : Int32 → Int32} {k : Nat} {A B x : Int32} {fl : Nat → Nat → Int64} {fr : Nat → Nat → Option Nat} (hk : k ≤ 64) (k0 : fr 0 0 = some 1) (dr : ∀ (x : Int32) (fi : Nat → Nat → Int32), fi 0 13 = x → Ev pmT 73 [.ref 0, .int 2] (shT, fi, fl, fr) (some (.int (d x))) (shT, pm_u2 fi 0 13 (f x), fl, fr)) : ∀ (n i : Nat) (fi : Nat → Nat → Int32), i + n = k → fi 1 2 = nI k → fi 0 13 = itN f i x → ∃ fi', fi' 0 13 = itN f k x ∧ (∀ p s, ¬ (p = 0 ∧ s = 13) → fi' p s = fi p s) ∧ ∀ r, Go pmT none cd_139 20 [some (.ref 0), some (.int A), some (.int B), some (.long (fmN f d x k)), none, some (.int (nI k))] [] (shT, fi', fl, fr) r → Go pmT none cd_139 4 [some (.ref 0), some (.int A), some (.int B), some (.long (fmN f d x i)), none, some (.int (nI i))] [] (shT, fi, fl, fr) r := by
  intro n
  induction n with
  | zero =>
    intro i fi hi c2 c13
    have hi : i = k := by omega
    subst hi
    refine ⟨fi, c13, fun _ _ _ => rfl, fun r kk => ?_⟩
    generalize fmN f d x i = w at *
    refine go_of ?_
    refine gp_n 2 (j' := 6) (lv' := [some (.ref 0), some (.int A), some (.int B), some (.long w), none, some (.int (nI i))]) (st' := [.ref 0, .int (nI i)]) (h' := (shT, fi, fl, fr)) rfl ?_
    refine gp_of (fun _ k9 => g_getR (q' := 1) rfl rfl (by decide) k0 k9) ?_
    refine gp_of (fun _ k9 => g_getI (x := nI i) rfl (Or.inl rfl) rfl (by decide) (c2) k9) ?_
    refine gp_of (fun _ k9 => g_ict rfl (show (nI i) ≤ (nI i) from Int32.le_refl _) k9) ?_
    exact gp_done kk rfl
  | succ n ih =>
    intro i fi hi c2 c13
    obtain ⟨fi', a1, a2, a3⟩ := ih (i + 1) (pm_u2 fi 0 13 (f (itN f i x))) (by omega) ((show pm_u2 fi 0 13 (f (itN f i x)) 1 2 = fi 1 2 from wl_ne (by decide)).trans c2) (by rw [← itN_s]; exact u2_eq)
    refine ⟨fi', a1, fun p s z => (a2 p s z).trans (wl_ne z), fun r kk => ?_⟩
    have g := a3 r kk
    rw [fmN] at g
    have dr := dr _ _ c13
    clear a3 ih kk a1 a2
    generalize fmN f d x k = wk at *
    generalize fmN f d x i = w at *
    generalize itN f i x = y at *
    generalize f y = z at *
    generalize d y = v at *
    refine go_of ?_
    refine gp_n 2 (j' := 6) (lv' := [some (.ref 0), some (.int A), some (.int B), some (.long w), none, some (.int (nI i))]) (st' := [.ref 0, .int (nI i)]) (h' := (shT, fi, fl, fr)) rfl ?_
    refine gp_of (fun _ k9 => g_getR (q' := 1) rfl rfl (by decide) k0 k9) ?_
    refine gp_of (fun _ k9 => g_getI (x := nI k) rfl (Or.inl rfl) rfl (by decide) (c2) k9) ?_
    refine gp_of (fun _ k9 => g_icf rfl (show ¬ ((nI k) ≤ (nI i)) from nI_ge (by omega) (by omega)) k9) ?_
    refine gp_n 3 (j' := 12) (lv' := [some (.ref 0), some (.int A), some (.int B), some (.long w), none, some (.int (nI i))]) (st' := [.int 2, .ref 0, .long w]) (h' := (shT, fi, fl, fr)) rfl ?_
    refine gp_of (fun _ k9 => g_call (y := 73) (as := [.ref 0, .int 2]) (st' := [.long w]) rfl rfl (dr) k9) ?_
    refine gp_n 7 (j' := 4) (lv' := [some (.ref 0), some (.int A), some (.int B), some (.long (w ||| (v.toInt64 <<< ((nI i : Int32).toInt64 &&& 63)))), none, some (.int ((nI i) + 1))]) (st' := []) (h' := (shT, (pm_u2 fi 0 13 z), fl, fr)) rfl ?_
    rw [nI_1]
    exact gp_done g rfl
theorem HI_13 {fi fi' : Nat → Nat → Int32} {fl : Nat → Nat → Int64} {fr : Nat → Nat → Option Nat} (e : ∀ p s, ¬ (p = 0 ∧ s = 13) → fi' p s = fi p s) (hI : HI hdT shT (shT, fi, fl, fr)) : HI hdT shT (shT, fi', fl, fr) := by
  refine ⟨rfl, fun p s t n hp hs => ?_⟩
  by_cases z : p = 0 ∧ s = 13
  · obtain ⟨rfl, rfl⟩ := z
    trivial
  · have := hI.2 p s t n hp hs
    unfold hd_ok at this ⊢
    rw [show ph_i (shT, fi', fl, fr) p s = ph_i (shT, fi, fl, fr) p s from e p s z]
    exact this
def mkW (f : Nat → Bool) : Nat → Int64
  | 0 => 0
  | n + 1 => if f n = true then mkW f n ||| bitAt n else mkW f n
theorem mkW_bl {f : Nat → Bool} : ∀ n, n ≤ 64 → ∀ i, i < 64 → bl (mkW f n) i = (decide (i < n) && f i)
  | 0, _, i, hi => by
    rw [decide_eq_false (Nat.not_lt_zero i), Bool.false_and]
    exact bl_0 i hi
  | n + 1, hn, i, hi => by
    have ih := mkW_bl (f := f) n (by omega) i hi
    rw [mkW]
    by_cases e : i = n
    · subst e
      rw [decide_eq_false (Nat.lt_irrefl i), Bool.false_and] at ih
      rw [decide_eq_true (Nat.lt_succ_self i), Bool.true_and]
      cases hf : f i
      · rw [if_neg (by decide), ih]
      · rw [if_pos rfl, bl_or, ih, bitAt_bl hi hi, decide_eq_true rfl, Bool.false_or]
    · have e2 : decide (i < n + 1) = decide (i < n) := decide_eq_decide.mpr (by omega)
      rw [e2]
      split
      · rw [bl_or, ih, bitAt_bl (by omega) hi, decide_eq_false e, Bool.or_false]
      · exact ih
def enW (m N k c : Nat) (K w : Int64) (po : Int32) : Int64 := mkW (bfN 0 m (fun j => decide (j < N) && (bl K j && mbit k c w (ckS k c po w) (cntb K j)))) 64
theorem enW_eq {m N k c : Nat} {K w y : Int64} {po : Int32} (h : wdP m N k c K w po y) : y = enW m N k c K w po := bl_ext (fun i hi => by
    unfold enW
    rw [mkW_bl 64 (Nat.le_refl _) i hi, decide_eq_true hi, Bool.true_and]
    exact h i hi)
def fS (N : Nat) (A B : Int32) (w : Int64) (x : Int32) (s : Nat) : Int32 := if s < N then noi (fun x => drw x (2 * B + 1)) A B (bl w s) (itN lcg s x) else 0
theorem fS_bd {N : Nat} {A B : Int32} {w : Int64} {x : Int32} : ∀ s, s < 64 → -127 ≤ (fS N A B w x s).toInt ∧ (fS N A B w x s).toInt ≤ 127 := fun s hs => by
  unfold fS
  split
  · exact clp_bd _
  · decide
/-- the message, the sums, the end of a frame that begins with x -/
def fM (k : Nat) (x : Int32) : Int64 := fmN lcg (fun x => drw x 2) x k
def fA (a : AB) (m k c : Nat) (A B x : Int32) : Nat → Int32 := fS (2 ^ m) A B (enW m (2 ^ m) k c (a_v a).2.1 (fM k x) ((a_v a).1 4)) (itN lcg k x)
def fE (m k : Nat) (x : Int32) : Int32 := itN lcg (2 ^ m) (itN lcg k x)
def fX (a : AB) (m k c l : Nat) (A B x : Int32) : RSt := rdN (a_v a).2.1 m (fA a m k c A B x) l (2 ^ m)
def fD (a : AB) (m k c l : Nat) (A B x : Int32) (p : Nat) : Bool := decide (hdP (a_v a).2.1 (2 ^ m) k c ((a_v a).1 4) ((fX a m k c l A B x).2.1 p))
def fR (a : AB) (m k c l : Nat) (A B x : Int32) : Bool := decide (mgW (a_v a).2.1 (2 ^ m) k ((fX a m k c l A B x).2.1 (chN (fD a m k c l A B x) (fX a m k c l A B x).1)) = fM k x)
def fH (a : AB) (m k c l : Nat) (A B x : Int32) : Bool := hoN (fD a m k c l A B x) (fX a m k c l A B x).1
theorem drw2 (x : Int32) : drw x 2 = 0 ∨ drw x 2 = 1 := by
  unfold drw
  have hp := lcg_pos (x := x)
  generalize lcg x = y at *
  have e1 : (y / 65536).toInt = y.toInt / 65536 := by
    rw [Int32.toInt_div, show (65536 : Int32).toInt = 65536 from rfl, Int.tdiv_eq_ediv_of_nonneg hp, Int.bmod_def]
    have := y.toInt_lt
    omega
  generalize y / 65536 = z at *
  have z0 : 0 ≤ z.toInt := by omega
  have z1 := z.toInt_lt
  have e2 : (z / 2).toInt = z.toInt / 2 := by
    rw [Int32.toInt_div, show (2 : Int32).toInt = 2 from rfl, Int.tdiv_eq_ediv_of_nonneg z0, Int.bmod_def]
    omega
  have e3 : (z / 2 * 2).toInt = z.toInt / 2 * 2 := by
    rw [Int32.toInt_mul, e2, show (2 : Int32).toInt = 2 from rfl, Int.bmod_def]
    omega
  have e4 : (z - z / 2 * 2).toInt = z.toInt % 2 := by
    rw [i_sub (by omega) (by omega), e3]
    omega
  by_cases h : z.toInt % 2 = 0
  · exact Or.inl (Int32.toInt_inj.mp (by rw [e4, h]; rfl))
  · exact Or.inr (Int32.toInt_inj.mp (by rw [e4, show (1 : Int32).toInt = 1 from rfl]; omega))
theorem d2_e {x : Int32} {w : Int64} {i : Nat} : w ||| ((drw x 2).toInt64 <<< ((nI i : Int32).toInt64 &&& 63)) = if drw x 2 = 1 then w ||| bitAt i else w := by
  rcases drw2 x with e | e
  · rw [e, if_neg (by decide)]
    refine bl_ext (fun j hj => ?_)
    have z : ((0 : Int32).toInt64 <<< ((nI i : Int32).toInt64 &&& 63) : Int64) = 0 := by
      show (0 : Int64) <<< _ = 0
      apply Int64.toBitVec_inj.mp
      rw [Int64.toBitVec_shiftLeft]
      exact BitVec.zero_shiftLeft _
    rw [z, bl_or, bl_0 j hj, Bool.or_false]
  · rw [e, if_pos rfl]
    rfl
theorem fM_fit {x : Int32} : ∀ n, n ≤ 64 → fitP n (fM n x)
  | 0, _, b, _, hb => bl_0 b hb
  | n + 1, hn, b, h1, hb => by
    have ih := fM_fit (x := x) n (by omega) b (by omega) hb
    have e : fM (n + 1) x = if drw (itN lcg n x) 2 = 1 then fM n x ||| bitAt n else fM n x := d2_e
    rw [e]
    split
    · rw [bl_or, ih, bitAt_bl (by omega) hb, decide_eq_false (by omega)]
      rfl
    · exact ih
/-- the code as the class has it -/
def vC (a : AB) (m k c l : Nat) (h : PmH) : Prop := ph_i h 1 0 = nI m ∧ ph_i h 1 1 = nI (2 ^ m) ∧ ph_i h 1 2 = nI k ∧ ph_i h 1 3 = nI c ∧ ph_i h 1 4 = (a_v a).1 4 ∧ ph_i h 1 6 = nI l ∧ ph_l h 1 7 = (a_v a).2.1
theorem vC_cg {a : AB} {m k c l : Nat} {h h' : PmH} (e : ∀ s, ph_i h' 1 s = ph_i h 1 s) (el : ∀ s, ph_l h' 1 s = ph_l h 1 s) (hv : vC a m k c l h) : vC a m k c l h' := by
  obtain ⟨a1, a2, a3, a4, a5, a6, a7⟩ := hv
  exact ⟨(e _).trans a1, (e _).trans a2, (e _).trans a3, (e _).trans a4, (e _).trans a5, (e _).trans a6, (el _).trans a7⟩
theorem rf_C {h : PmH} {a : AB} {m k c l : Nat} {A B x : Int32} (hI : HI hdT shT h) (hR : RD h) (vk : VK (a_v a) m k c) (hv : vC a m k c l h) (l1 : 1 ≤ l) (l8 : l ≤ 8) (hA : 0 ≤ A ∧ A ≤ 100) (hB : 0 ≤ B ∧ B ≤ 100) (c13 : ph_i h 0 13 = x) : ∃ h', Ev pmT 139 [.ref 0, .int A, .int B] h (some (.int (b01 (fR a m k c l A B x)))) h' ∧ RD h' ∧ HI hdT shT h' ∧ vC a m k c l h' ∧ ph_i h' 0 13 = fE m k x ∧ ph_i h' 13 8 = b01 (fH a m k c l A B x) := by
  have p6 := pw_6 m (by have := vk.1; omega)
  have kk := vk_k vk
  have pl := popc_le (a_v a).2.1
  have xb := i32_bd hA
  have yb := i32_bd hB
  have k0 : ph_r h 0 0 = some 1 := hi_r hI rfl rfl (by decide)
  have k8 : ph_r h 0 8 = some 13 := hi_r hI rfl rfl (by decide)
  have k12 : ph_r h 0 12 = some 41 := hi_r hI rfl rfl (by decide)
  obtain ⟨S, fi, fl, fr⟩ := h
  have hS : S = shT := hI.1
  subst hS
  have k0 : fr 0 0 = some 1 := k0
  have k8 : fr 0 8 = some 13 := k8
  have k12 : fr 0 12 = some 41 := k12
  obtain ⟨f1, a1, a2, a3⟩ := fm_go_C (f := lcg) (d := fun x => drw x 2) (A := A) (B := B) (x := x) (fl := fl) kk k0 (fun x fi c => dr_C c (by decide)) k 0 fi (by omega) hv.2.2.1 c13
  have I1 := HI_13 a2 hI
  have v1 : vC a m k c l (shT, f1, fl, fr) := vC_cg (h := (shT, fi, fl, fr)) (fun s => a2 1 s (by omega)) (fun _ => rfl) hv
  obtain ⟨y, y1, y2⟩ := en_ev (w := fM k x) I1 vk.1 p6.2 (by have := vk.2.2.2.2.2.2.1; omega) vk.2.1 (fM_fit k kk) v1.1 v1.2.1 v1.2.2.2.1 v1.2.2.1 v1.2.2.2.2.1 v1.2.2.2.2.2.2
  have y2 := enW_eq y2
  subst y2
  have tx := tx_ev_41 (a := A) (b := B) (w := enW m (2 ^ m) k c (a_v a).2.1 (fM k x) ((a_v a).1 4)) (fi := f1) (fl := fl) p6.2 k0 (str_pos hB) v1.2.1 a1
  obtain ⟨I2, F2⟩ := iv_s vN_151 rfl (fun _ _ => gz_c (gz_r (by decide)) (gz_c (gz_l _) (gz_c (gz_i xb.1 xb.2) (gz_c (gz_i yb.1 yb.2) (gz_c (gz_r (by decide)) gz_n))))) I1 tx
  have q13 := txF_x (f := lcg) (d := fun x => drw x (2 * B + 1)) (p := 0) (c := 13) (q := 41) (a := A) (b := B) (w := enW m (2 ^ m) k c (a_v a).2.1 (fM k x) ((a_v a).1 4)) (by decide) (2 ^ m) 0 _ f1 a1
  have qs := txF_s (f := lcg) (d := fun x => drw x (2 * B + 1)) (p := 0) (c := 13) (q := 41) (a := A) (b := B) (w := enW m (2 ^ m) k c (a_v a).2.1 (fM k x) ((a_v a).1 4)) (by decide) (2 ^ m) 0 (itN lcg k x) f1
  generalize hT : txF lcg (fun x => drw x (2 * B + 1)) 0 13 41 A B (enW m (2 ^ m) k c (a_v a).2.1 (fM k x) ((a_v a).1 4)) (2 ^ m) 0 (itN lcg k x) f1 = f2 at *
  have v2 : vC a m k c l (shT, f2, fl, fr) := vC_cg (h := (shT, f1, fl, fr)) (fun s => (F2 1 s rfl).1) (fun _ => rfl) v1
  obtain ⟨h3, e3, x3, I3, F3⟩ := ru_ev_41 (h := (shT, f2, fl, fr)) (S := fA a m k c A B x) I2 (RD_r (h := (shT, fi, fl, fr)) rfl rfl hR) vk.1 l1 l8 ne_m1 vk.2.2.2.2.2.2.1 vk.2.1 vk.2.2.2.2.2.2.2 (fun s hs => by
    show f2 41 s = fS _ _ _ _ _ s
    rw [qs s, if_pos (by omega), Nat.sub_zero]
    unfold fS
    rw [if_pos hs]) fS_bd v2.1 v2.2.1 v2.2.2.1 v2.2.2.2.1 v2.2.2.2.2.1 v2.2.2.2.2.2.2
  have v3 : vC a m k c l h3 := vC_cg (fun s => (F3 1 s rfl).1) (fun s => (F3 1 s rfl).2.1) v2
  have r3 := roI_RD41 x3
  have hP := rd_P (K := (a_v a).2.1) (m := m) (S := fA a m k c A B x) l1 (2 ^ m)
  obtain ⟨AA, hAA, b1, b2, b3, b4, b5⟩ := x3
  refine ⟨h3, ?_, r3, I3, v3, (F3 0 13 (by decide)).1.trans q13, b5⟩
  have mo := mo_C (ch := (fX a m k c l A B x).2.1 (chN (fD a m k c l A B x) (fX a m k c l A B x).1)) I3 p6.2 kk v3.2.1 v3.2.2.1 v3.2.2.2.2.2.2
  have cl := ch_lt (D := fD a m k c l A B x) (P := (fX a m k c l A B x).1) hP.1
  have cb : (fX a m k c l A B x).1 ≤ 8 := Nat.le_trans hP.2 l8
  have bb : ph_l h3 (AA + 1) (chN (fD a m k c l A B x) (fX a m k c l A B x).1) = (fX a m k c l A B x).2.1 (chN (fD a m k c l A B x) (fX a m k c l A B x).1) := (b1.2.2.2 _ cl).1
  have b4 : ph_i h3 13 7 = nI (chN (fD a m k c l A B x) (fX a m k c l A B x).1) := b4
  have kB : ∀ A, (A = 14 ∨ A = 18) → ph_r h3 A 1 = some (A + 1) := fun A hA => by
    rcases hA with rfl | rfl
    · exact hi_r I3 rfl rfl (by decide)
    · exact hi_r I3 rfl rfl (by decide)
  have kB := kB AA hAA
  have ka := b1.1
  have q0 : ph_r h3 0 0 = some 1 := hi_r I3 rfl rfl (by decide)
  have q8 : ph_r h3 0 8 = some 13 := hi_r I3 rfl rfl (by decide)
  have c6 : f2 1 6 = nI l := v2.2.2.2.2.2.1
  have a3 := a3
  have key : fR a m k c l A B x = decide (mgW (a_v a).2.1 (2 ^ m) k ((fX a m k c l A B x).2.1 (chN (fD a m k c l A B x) (fX a m k c l A B x).1)) = fM k x) := rfl
  rw [key]
  have a3 : ∀ r, Go pmT none cd_139 20 [some (.ref 0), some (.int A), some (.int B), some (.long (fM k x)), none, some (.int (nI k))] [] (shT, f1, fl, fr) r → Go pmT none cd_139 4 [some (.ref 0), some (.int A), some (.int B), some (.long 0), none, some (.int (nI 0))] [] (shT, fi, fl, fr) r := a3
  generalize mgW (a_v a).2.1 (2 ^ m) k ((fX a m k c l A B x).2.1 (chN (fD a m k c l A B x) (fX a m k c l A B x).1)) = w at *
  generalize (fX a m k c l A B x).2.1 (chN (fD a m k c l A B x) (fX a m k c l A B x).1) = u at *
  generalize chN (fD a m k c l A B x) (fX a m k c l A B x).1 = q at *
  generalize (fX a m k c l A B x).1 = P at *
  generalize enW m (2 ^ m) k c (a_v a).2.1 (fM k x) ((a_v a).1 4) = en at *
  generalize fM k x = ms at *
  clear key b1 b2 b3 b5 hP F3 v3 v2 v1 qs q13 F2 a1 a2 r3 hv hT I1 I2 hR
  obtain ⟨S3, fi3, fl3, fr3⟩ := h3
  have s3 : S3 = shT := I3.1
  subst s3
  have q0 : fr3 0 0 = some 1 := q0
  have q8 : fr3 0 8 = some 13 := q8
  have kB : fr3 AA 1 = some (AA + 1) := kB
  have ka : fr3 13 0 = some AA := ka
  have b4 : fi3 13 7 = nI q := b4
  have bb : fl3 (AA + 1) q = u := bb
  refine Ev.of (es := cd_139) (ml := 6) (lv := [some (.ref 0), some (.int A), some (.int B), none, none, none]) rfl rfl rfl ?_
  have g := a3 (some (.int (b01 (decide (w = ms)))), (shT, fi3, fl3, fr3)) (by
    refine go_of ?_
    by_cases hw : w = ms
    · rw [decide_eq_true hw]
      have l0 : lg_cmp w ms = 0 := by rw [lg_cmp_eq]; exact hw
      rcases hAA with rfl | rfl
      ·
        refine gp_n 2 (j' := 22) (lv' := [some (.ref 0), some (.int A), some (.int B), some (.long ms), none, some (.int (nI k))]) (st' := [.ref 0, .ref 0]) (h' := (shT, f1, fl, fr)) rfl ?_
        refine gp_of (fun _ k9 => g_getR (q' := 1) rfl rfl (by decide) k0 k9) ?_
        refine gp_n 1 (j' := 24) (lv' := [some (.ref 0), some (.int A), some (.int B), some (.long ms), none, some (.int (nI k))]) (st' := [.long ms, .ref 1, .ref 0]) (h' := (shT, f1, fl, fr)) rfl ?_
        refine gp_of (fun _ k9 => g_call (y := 58) (as := [.ref 1, .long ms]) (st' := [.ref 0]) rfl rfl (y1) k9) ?_
        refine gp_n 3 (j' := 28) (lv' := [some (.ref 0), some (.int A), some (.int B), some (.long ms), none, some (.int (nI k))]) (st' := [.ref 0, .int B, .int A, .long en, .ref 0]) (h' := (shT, f1, fl, fr)) rfl ?_
        refine gp_of (fun _ k9 => g_getR (q' := 41) rfl rfl (by decide) k12 k9) ?_
        refine gp_of (fun _ k9 => g_callv (y := 72) (as := [.ref 0, .long en, .int A, .int B, .ref 41]) (st' := []) rfl rfl (tx) k9) ?_
        refine gp_n 1 (j' := 31) (lv' := [some (.ref 0), some (.int A), some (.int B), some (.long ms), none, some (.int (nI k))]) (st' := [.ref 0]) (h' := (shT, f2, fl, fr)) rfl ?_
        refine gp_of (fun _ k9 => g_getR (q' := 13) rfl rfl (by decide) k8 k9) ?_
        refine gp_n 1 (j' := 33) (lv' := [some (.ref 0), some (.int A), some (.int B), some (.long ms), none, some (.int (nI k))]) (st' := [.ref 0, .ref 13]) (h' := (shT, f2, fl, fr)) rfl ?_
        refine gp_of (fun _ k9 => g_getR (q' := 1) rfl rfl (by decide) k0 k9) ?_
        refine gp_n 1 (j' := 35) (lv' := [some (.ref 0), some (.int A), some (.int B), some (.long ms), none, some (.int (nI k))]) (st' := [.ref 0, .ref 1, .ref 13]) (h' := (shT, f2, fl, fr)) rfl ?_
        refine gp_of (fun _ k9 => g_getR (q' := 41) rfl rfl (by decide) k12 k9) ?_
        refine gp_n 1 (j' := 37) (lv' := [some (.ref 0), some (.int A), some (.int B), some (.long ms), none, some (.int (nI k))]) (st' := [.ref 0, .ref 41, .ref 1, .ref 13]) (h' := (shT, f2, fl, fr)) rfl ?_
        refine gp_of (fun _ k9 => g_getR (q' := 1) rfl rfl (by decide) k0 k9) ?_
        refine gp_of (fun _ k9 => g_getI (x := nI l) rfl (Or.inl rfl) rfl (by decide) (c6) k9) ?_
        refine gp_n 2 (j' := 41) (lv' := [some (.ref 0), some (.int A), some (.int B), some (.long ms), none, some (.int (nI k))]) (st' := [.int (-1), .int 0, .int (nI l), .ref 41, .ref 1, .ref 13]) (h' := (shT, f2, fl, fr)) rfl ?_
        refine gp_of (fun _ k9 => g_callv (y := 82) (as := [.ref 13, .ref 1, .ref 41, .int (nI l), .int 0, .int (-1)]) (st' := []) rfl rfl (e3) k9) ?_
        refine gp_n 1 (j' := 43) (lv' := [some (.ref 0), some (.int A), some (.int B), some (.long ms), none, some (.int (nI k))]) (st' := [.ref 0]) (h' := (shT, fi3, fl3, fr3)) rfl ?_
        refine gp_of (fun _ k9 => g_getR (q' := 1) rfl rfl (by decide) q0 k9) ?_
        refine gp_n 1 (j' := 45) (lv' := [some (.ref 0), some (.int A), some (.int B), some (.long ms), none, some (.int (nI k))]) (st' := [.ref 0, .ref 1]) (h' := (shT, fi3, fl3, fr3)) rfl ?_
        refine gp_of (fun _ k9 => g_getR (q' := 13) rfl rfl (by decide) q8 k9) ?_
        refine gp_of (fun _ k9 => g_getR (q' := 14) rfl rfl (by decide) ka k9) ?_
        refine gp_of (fun _ k9 => g_getR (q' := 15) rfl rfl (by decide) kB k9) ?_
        refine gp_n 1 (j' := 49) (lv' := [some (.ref 0), some (.int A), some (.int B), some (.long ms), none, some (.int (nI k))]) (st' := [.ref 0, .ref 15, .ref 1]) (h' := (shT, fi3, fl3, fr3)) rfl ?_
        refine gp_of (fun _ k9 => g_getR (q' := 13) rfl rfl (by decide) q8 k9) ?_
        refine gp_of (fun _ k9 => g_getI (x := nI q) rfl (Or.inl rfl) rfl (by decide) (b4) k9) ?_
        refine gp_of (fun _ k9 => g_lald (k := q) (x := u) rfl rfl (rfl) (by omega) (by decide) (bb) k9) ?_
        refine gp_of (fun _ k9 => g_call (y := 108) (as := [.ref 1, .long u]) (st' := []) rfl rfl (mo) k9) ?_
        refine gp_n 2 (j' := 55) (lv' := [some (.ref 0), some (.int A), some (.int B), some (.long ms), none, some (.int (nI k))]) (st' := [.int (lg_cmp w ms)]) (h' := (shT, fi3, fl3, fr3)) rfl ?_
        refine gp_of (fun _ k9 => g_iff rfl (show ¬ (¬ (lg_cmp w ms) = (0 : Int32)) from not_not_intro l0) k9) ?_
        refine gp_n 2 (j' := 59) (lv' := [some (.ref 0), some (.int A), some (.int B), some (.long ms), none, some (.int (nI k))]) (st' := [.int 1]) (h' := (shT, fi3, fl3, fr3)) rfl ?_
        refine gp_done (g_retz rfl (by decide)) ?_
        rfl
      ·
        refine gp_n 2 (j' := 22) (lv' := [some (.ref 0), some (.int A), some (.int B), some (.long ms), none, some (.int (nI k))]) (st' := [.ref 0, .ref 0]) (h' := (shT, f1, fl, fr)) rfl ?_
        refine gp_of (fun _ k9 => g_getR (q' := 1) rfl rfl (by decide) k0 k9) ?_
        refine gp_n 1 (j' := 24) (lv' := [some (.ref 0), some (.int A), some (.int B), some (.long ms), none, some (.int (nI k))]) (st' := [.long ms, .ref 1, .ref 0]) (h' := (shT, f1, fl, fr)) rfl ?_
        refine gp_of (fun _ k9 => g_call (y := 58) (as := [.ref 1, .long ms]) (st' := [.ref 0]) rfl rfl (y1) k9) ?_
        refine gp_n 3 (j' := 28) (lv' := [some (.ref 0), some (.int A), some (.int B), some (.long ms), none, some (.int (nI k))]) (st' := [.ref 0, .int B, .int A, .long en, .ref 0]) (h' := (shT, f1, fl, fr)) rfl ?_
        refine gp_of (fun _ k9 => g_getR (q' := 41) rfl rfl (by decide) k12 k9) ?_
        refine gp_of (fun _ k9 => g_callv (y := 72) (as := [.ref 0, .long en, .int A, .int B, .ref 41]) (st' := []) rfl rfl (tx) k9) ?_
        refine gp_n 1 (j' := 31) (lv' := [some (.ref 0), some (.int A), some (.int B), some (.long ms), none, some (.int (nI k))]) (st' := [.ref 0]) (h' := (shT, f2, fl, fr)) rfl ?_
        refine gp_of (fun _ k9 => g_getR (q' := 13) rfl rfl (by decide) k8 k9) ?_
        refine gp_n 1 (j' := 33) (lv' := [some (.ref 0), some (.int A), some (.int B), some (.long ms), none, some (.int (nI k))]) (st' := [.ref 0, .ref 13]) (h' := (shT, f2, fl, fr)) rfl ?_
        refine gp_of (fun _ k9 => g_getR (q' := 1) rfl rfl (by decide) k0 k9) ?_
        refine gp_n 1 (j' := 35) (lv' := [some (.ref 0), some (.int A), some (.int B), some (.long ms), none, some (.int (nI k))]) (st' := [.ref 0, .ref 1, .ref 13]) (h' := (shT, f2, fl, fr)) rfl ?_
        refine gp_of (fun _ k9 => g_getR (q' := 41) rfl rfl (by decide) k12 k9) ?_
        refine gp_n 1 (j' := 37) (lv' := [some (.ref 0), some (.int A), some (.int B), some (.long ms), none, some (.int (nI k))]) (st' := [.ref 0, .ref 41, .ref 1, .ref 13]) (h' := (shT, f2, fl, fr)) rfl ?_
        refine gp_of (fun _ k9 => g_getR (q' := 1) rfl rfl (by decide) k0 k9) ?_
        refine gp_of (fun _ k9 => g_getI (x := nI l) rfl (Or.inl rfl) rfl (by decide) (c6) k9) ?_
        refine gp_n 2 (j' := 41) (lv' := [some (.ref 0), some (.int A), some (.int B), some (.long ms), none, some (.int (nI k))]) (st' := [.int (-1), .int 0, .int (nI l), .ref 41, .ref 1, .ref 13]) (h' := (shT, f2, fl, fr)) rfl ?_
        refine gp_of (fun _ k9 => g_callv (y := 82) (as := [.ref 13, .ref 1, .ref 41, .int (nI l), .int 0, .int (-1)]) (st' := []) rfl rfl (e3) k9) ?_
        refine gp_n 1 (j' := 43) (lv' := [some (.ref 0), some (.int A), some (.int B), some (.long ms), none, some (.int (nI k))]) (st' := [.ref 0]) (h' := (shT, fi3, fl3, fr3)) rfl ?_
        refine gp_of (fun _ k9 => g_getR (q' := 1) rfl rfl (by decide) q0 k9) ?_
        refine gp_n 1 (j' := 45) (lv' := [some (.ref 0), some (.int A), some (.int B), some (.long ms), none, some (.int (nI k))]) (st' := [.ref 0, .ref 1]) (h' := (shT, fi3, fl3, fr3)) rfl ?_
        refine gp_of (fun _ k9 => g_getR (q' := 13) rfl rfl (by decide) q8 k9) ?_
        refine gp_of (fun _ k9 => g_getR (q' := 18) rfl rfl (by decide) ka k9) ?_
        refine gp_of (fun _ k9 => g_getR (q' := 19) rfl rfl (by decide) kB k9) ?_
        refine gp_n 1 (j' := 49) (lv' := [some (.ref 0), some (.int A), some (.int B), some (.long ms), none, some (.int (nI k))]) (st' := [.ref 0, .ref 19, .ref 1]) (h' := (shT, fi3, fl3, fr3)) rfl ?_
        refine gp_of (fun _ k9 => g_getR (q' := 13) rfl rfl (by decide) q8 k9) ?_
        refine gp_of (fun _ k9 => g_getI (x := nI q) rfl (Or.inl rfl) rfl (by decide) (b4) k9) ?_
        refine gp_of (fun _ k9 => g_lald (k := q) (x := u) rfl rfl (rfl) (by omega) (by decide) (bb) k9) ?_
        refine gp_of (fun _ k9 => g_call (y := 108) (as := [.ref 1, .long u]) (st' := []) rfl rfl (mo) k9) ?_
        refine gp_n 2 (j' := 55) (lv' := [some (.ref 0), some (.int A), some (.int B), some (.long ms), none, some (.int (nI k))]) (st' := [.int (lg_cmp w ms)]) (h' := (shT, fi3, fl3, fr3)) rfl ?_
        refine gp_of (fun _ k9 => g_iff rfl (show ¬ (¬ (lg_cmp w ms) = (0 : Int32)) from not_not_intro l0) k9) ?_
        refine gp_n 2 (j' := 59) (lv' := [some (.ref 0), some (.int A), some (.int B), some (.long ms), none, some (.int (nI k))]) (st' := [.int 1]) (h' := (shT, fi3, fl3, fr3)) rfl ?_
        refine gp_done (g_retz rfl (by decide)) ?_
        rfl
    · rw [decide_eq_false hw]
      have l0 : ¬ lg_cmp w ms = 0 := by rw [lg_cmp_eq]; exact hw
      rcases hAA with rfl | rfl
      ·
        refine gp_n 2 (j' := 22) (lv' := [some (.ref 0), some (.int A), some (.int B), some (.long ms), none, some (.int (nI k))]) (st' := [.ref 0, .ref 0]) (h' := (shT, f1, fl, fr)) rfl ?_
        refine gp_of (fun _ k9 => g_getR (q' := 1) rfl rfl (by decide) k0 k9) ?_
        refine gp_n 1 (j' := 24) (lv' := [some (.ref 0), some (.int A), some (.int B), some (.long ms), none, some (.int (nI k))]) (st' := [.long ms, .ref 1, .ref 0]) (h' := (shT, f1, fl, fr)) rfl ?_
        refine gp_of (fun _ k9 => g_call (y := 58) (as := [.ref 1, .long ms]) (st' := [.ref 0]) rfl rfl (y1) k9) ?_
        refine gp_n 3 (j' := 28) (lv' := [some (.ref 0), some (.int A), some (.int B), some (.long ms), none, some (.int (nI k))]) (st' := [.ref 0, .int B, .int A, .long en, .ref 0]) (h' := (shT, f1, fl, fr)) rfl ?_
        refine gp_of (fun _ k9 => g_getR (q' := 41) rfl rfl (by decide) k12 k9) ?_
        refine gp_of (fun _ k9 => g_callv (y := 72) (as := [.ref 0, .long en, .int A, .int B, .ref 41]) (st' := []) rfl rfl (tx) k9) ?_
        refine gp_n 1 (j' := 31) (lv' := [some (.ref 0), some (.int A), some (.int B), some (.long ms), none, some (.int (nI k))]) (st' := [.ref 0]) (h' := (shT, f2, fl, fr)) rfl ?_
        refine gp_of (fun _ k9 => g_getR (q' := 13) rfl rfl (by decide) k8 k9) ?_
        refine gp_n 1 (j' := 33) (lv' := [some (.ref 0), some (.int A), some (.int B), some (.long ms), none, some (.int (nI k))]) (st' := [.ref 0, .ref 13]) (h' := (shT, f2, fl, fr)) rfl ?_
        refine gp_of (fun _ k9 => g_getR (q' := 1) rfl rfl (by decide) k0 k9) ?_
        refine gp_n 1 (j' := 35) (lv' := [some (.ref 0), some (.int A), some (.int B), some (.long ms), none, some (.int (nI k))]) (st' := [.ref 0, .ref 1, .ref 13]) (h' := (shT, f2, fl, fr)) rfl ?_
        refine gp_of (fun _ k9 => g_getR (q' := 41) rfl rfl (by decide) k12 k9) ?_
        refine gp_n 1 (j' := 37) (lv' := [some (.ref 0), some (.int A), some (.int B), some (.long ms), none, some (.int (nI k))]) (st' := [.ref 0, .ref 41, .ref 1, .ref 13]) (h' := (shT, f2, fl, fr)) rfl ?_
        refine gp_of (fun _ k9 => g_getR (q' := 1) rfl rfl (by decide) k0 k9) ?_
        refine gp_of (fun _ k9 => g_getI (x := nI l) rfl (Or.inl rfl) rfl (by decide) (c6) k9) ?_
        refine gp_n 2 (j' := 41) (lv' := [some (.ref 0), some (.int A), some (.int B), some (.long ms), none, some (.int (nI k))]) (st' := [.int (-1), .int 0, .int (nI l), .ref 41, .ref 1, .ref 13]) (h' := (shT, f2, fl, fr)) rfl ?_
        refine gp_of (fun _ k9 => g_callv (y := 82) (as := [.ref 13, .ref 1, .ref 41, .int (nI l), .int 0, .int (-1)]) (st' := []) rfl rfl (e3) k9) ?_
        refine gp_n 1 (j' := 43) (lv' := [some (.ref 0), some (.int A), some (.int B), some (.long ms), none, some (.int (nI k))]) (st' := [.ref 0]) (h' := (shT, fi3, fl3, fr3)) rfl ?_
        refine gp_of (fun _ k9 => g_getR (q' := 1) rfl rfl (by decide) q0 k9) ?_
        refine gp_n 1 (j' := 45) (lv' := [some (.ref 0), some (.int A), some (.int B), some (.long ms), none, some (.int (nI k))]) (st' := [.ref 0, .ref 1]) (h' := (shT, fi3, fl3, fr3)) rfl ?_
        refine gp_of (fun _ k9 => g_getR (q' := 13) rfl rfl (by decide) q8 k9) ?_
        refine gp_of (fun _ k9 => g_getR (q' := 14) rfl rfl (by decide) ka k9) ?_
        refine gp_of (fun _ k9 => g_getR (q' := 15) rfl rfl (by decide) kB k9) ?_
        refine gp_n 1 (j' := 49) (lv' := [some (.ref 0), some (.int A), some (.int B), some (.long ms), none, some (.int (nI k))]) (st' := [.ref 0, .ref 15, .ref 1]) (h' := (shT, fi3, fl3, fr3)) rfl ?_
        refine gp_of (fun _ k9 => g_getR (q' := 13) rfl rfl (by decide) q8 k9) ?_
        refine gp_of (fun _ k9 => g_getI (x := nI q) rfl (Or.inl rfl) rfl (by decide) (b4) k9) ?_
        refine gp_of (fun _ k9 => g_lald (k := q) (x := u) rfl rfl (rfl) (by omega) (by decide) (bb) k9) ?_
        refine gp_of (fun _ k9 => g_call (y := 108) (as := [.ref 1, .long u]) (st' := []) rfl rfl (mo) k9) ?_
        refine gp_n 2 (j' := 55) (lv' := [some (.ref 0), some (.int A), some (.int B), some (.long ms), none, some (.int (nI k))]) (st' := [.int (lg_cmp w ms)]) (h' := (shT, fi3, fl3, fr3)) rfl ?_
        refine gp_of (fun _ k9 => g_ift rfl (show ¬ (lg_cmp w ms) = (0 : Int32) from l0) k9) ?_
        refine gp_n 1 (j' := 59) (lv' := [some (.ref 0), some (.int A), some (.int B), some (.long ms), none, some (.int (nI k))]) (st' := [.int 0]) (h' := (shT, fi3, fl3, fr3)) rfl ?_
        refine gp_done (g_retz rfl (by decide)) ?_
        rfl
      ·
        refine gp_n 2 (j' := 22) (lv' := [some (.ref 0), some (.int A), some (.int B), some (.long ms), none, some (.int (nI k))]) (st' := [.ref 0, .ref 0]) (h' := (shT, f1, fl, fr)) rfl ?_
        refine gp_of (fun _ k9 => g_getR (q' := 1) rfl rfl (by decide) k0 k9) ?_
        refine gp_n 1 (j' := 24) (lv' := [some (.ref 0), some (.int A), some (.int B), some (.long ms), none, some (.int (nI k))]) (st' := [.long ms, .ref 1, .ref 0]) (h' := (shT, f1, fl, fr)) rfl ?_
        refine gp_of (fun _ k9 => g_call (y := 58) (as := [.ref 1, .long ms]) (st' := [.ref 0]) rfl rfl (y1) k9) ?_
        refine gp_n 3 (j' := 28) (lv' := [some (.ref 0), some (.int A), some (.int B), some (.long ms), none, some (.int (nI k))]) (st' := [.ref 0, .int B, .int A, .long en, .ref 0]) (h' := (shT, f1, fl, fr)) rfl ?_
        refine gp_of (fun _ k9 => g_getR (q' := 41) rfl rfl (by decide) k12 k9) ?_
        refine gp_of (fun _ k9 => g_callv (y := 72) (as := [.ref 0, .long en, .int A, .int B, .ref 41]) (st' := []) rfl rfl (tx) k9) ?_
        refine gp_n 1 (j' := 31) (lv' := [some (.ref 0), some (.int A), some (.int B), some (.long ms), none, some (.int (nI k))]) (st' := [.ref 0]) (h' := (shT, f2, fl, fr)) rfl ?_
        refine gp_of (fun _ k9 => g_getR (q' := 13) rfl rfl (by decide) k8 k9) ?_
        refine gp_n 1 (j' := 33) (lv' := [some (.ref 0), some (.int A), some (.int B), some (.long ms), none, some (.int (nI k))]) (st' := [.ref 0, .ref 13]) (h' := (shT, f2, fl, fr)) rfl ?_
        refine gp_of (fun _ k9 => g_getR (q' := 1) rfl rfl (by decide) k0 k9) ?_
        refine gp_n 1 (j' := 35) (lv' := [some (.ref 0), some (.int A), some (.int B), some (.long ms), none, some (.int (nI k))]) (st' := [.ref 0, .ref 1, .ref 13]) (h' := (shT, f2, fl, fr)) rfl ?_
        refine gp_of (fun _ k9 => g_getR (q' := 41) rfl rfl (by decide) k12 k9) ?_
        refine gp_n 1 (j' := 37) (lv' := [some (.ref 0), some (.int A), some (.int B), some (.long ms), none, some (.int (nI k))]) (st' := [.ref 0, .ref 41, .ref 1, .ref 13]) (h' := (shT, f2, fl, fr)) rfl ?_
        refine gp_of (fun _ k9 => g_getR (q' := 1) rfl rfl (by decide) k0 k9) ?_
        refine gp_of (fun _ k9 => g_getI (x := nI l) rfl (Or.inl rfl) rfl (by decide) (c6) k9) ?_
        refine gp_n 2 (j' := 41) (lv' := [some (.ref 0), some (.int A), some (.int B), some (.long ms), none, some (.int (nI k))]) (st' := [.int (-1), .int 0, .int (nI l), .ref 41, .ref 1, .ref 13]) (h' := (shT, f2, fl, fr)) rfl ?_
        refine gp_of (fun _ k9 => g_callv (y := 82) (as := [.ref 13, .ref 1, .ref 41, .int (nI l), .int 0, .int (-1)]) (st' := []) rfl rfl (e3) k9) ?_
        refine gp_n 1 (j' := 43) (lv' := [some (.ref 0), some (.int A), some (.int B), some (.long ms), none, some (.int (nI k))]) (st' := [.ref 0]) (h' := (shT, fi3, fl3, fr3)) rfl ?_
        refine gp_of (fun _ k9 => g_getR (q' := 1) rfl rfl (by decide) q0 k9) ?_
        refine gp_n 1 (j' := 45) (lv' := [some (.ref 0), some (.int A), some (.int B), some (.long ms), none, some (.int (nI k))]) (st' := [.ref 0, .ref 1]) (h' := (shT, fi3, fl3, fr3)) rfl ?_
        refine gp_of (fun _ k9 => g_getR (q' := 13) rfl rfl (by decide) q8 k9) ?_
        refine gp_of (fun _ k9 => g_getR (q' := 18) rfl rfl (by decide) ka k9) ?_
        refine gp_of (fun _ k9 => g_getR (q' := 19) rfl rfl (by decide) kB k9) ?_
        refine gp_n 1 (j' := 49) (lv' := [some (.ref 0), some (.int A), some (.int B), some (.long ms), none, some (.int (nI k))]) (st' := [.ref 0, .ref 19, .ref 1]) (h' := (shT, fi3, fl3, fr3)) rfl ?_
        refine gp_of (fun _ k9 => g_getR (q' := 13) rfl rfl (by decide) q8 k9) ?_
        refine gp_of (fun _ k9 => g_getI (x := nI q) rfl (Or.inl rfl) rfl (by decide) (b4) k9) ?_
        refine gp_of (fun _ k9 => g_lald (k := q) (x := u) rfl rfl (rfl) (by omega) (by decide) (bb) k9) ?_
        refine gp_of (fun _ k9 => g_call (y := 108) (as := [.ref 1, .long u]) (st' := []) rfl rfl (mo) k9) ?_
        refine gp_n 2 (j' := 55) (lv' := [some (.ref 0), some (.int A), some (.int B), some (.long ms), none, some (.int (nI k))]) (st' := [.int (lg_cmp w ms)]) (h' := (shT, fi3, fl3, fr3)) rfl ?_
        refine gp_of (fun _ k9 => g_ift rfl (show ¬ (lg_cmp w ms) = (0 : Int32) from l0) k9) ?_
        refine gp_n 1 (j' := 59) (lv' := [some (.ref 0), some (.int A), some (.int B), some (.long ms), none, some (.int (nI k))]) (st' := [.int 0]) (h' := (shT, fi3, fl3, fr3)) rfl ?_
        refine gp_done (g_retz rfl (by decide)) ?_
        rfl)
  refine go_of ?_
  refine gp_n 4 (j' := 4) (lv' := [some (.ref 0), some (.int A), some (.int B), some (.long 0), none, some (.int (nI 0))]) (st' := []) (h' := (shT, fi, fl, fr)) rfl ?_
  exact gp_done g rfl
