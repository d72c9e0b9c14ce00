/-! a list of 1, plainly -/
def tuN (K : Int64) (m : Nat) (S : Nat → Int32) (F : Nat) : Nat → Int64 × Int32
  | 0 => (0, 0)
  | i + 1 => (bitI (tuN K m S F i).1 i ((bl K i && decide (ndL m S (bl (tuN K m S F i).1) i 0 0 < 0)) ^^ decide (i = F)), (tuN K m S F i).2 + coS (ndL m S (bl (tuN K m S F i).1) i 0 0) ((bl K i && decide (ndL m S (bl (tuN K m S F i).1) i 0 0 < 0)) ^^ decide (i = F)))
theorem coS_b {s : Int32} {t : Bool} (h : inB 8128 s) : 0 ≤ (coS s t).toInt ∧ (coS s t).toInt ≤ 8128 := by
  unfold inB at h
  have e := i_neg (a := s) (by omega)
  have z : (0 : Int32).toInt = 0 := rfl
  unfold coS
  cases t
  · rw [if_neg (by decide)]
    split
    · rename_i h1
      have := Int32.lt_iff_toInt_lt.mp h1
      omega
    · omega
  · rw [if_pos rfl]
    split
    · rename_i h1
      have := Int32.lt_iff_toInt_lt.mp h1
      omega
    · omega
theorem coS_lt {s : Int32} (h : inB 8128 s) : (coS s true).toInt < (coS s false).toInt ↔ s < 0 := by
  unfold inB at h
  have e := i_neg (a := s) (by omega)
  have z : (0 : Int32).toInt = 0 := rfl
  have e1 : coS s true = if 0 < s then s else 0 := rfl
  have e2 : coS s false = if s < 0 then -s else 0 := rfl
  by_cases h1 : s < 0
  · have h2 := Int32.lt_iff_toInt_lt.mp h1
    rw [if_neg (fun y => Int32.lt_irrefl (Int32.lt_trans h1 y))] at e1
    rw [if_pos h1] at e2
    rw [e1, e2]
    exact ⟨fun _ => h1, fun _ => by omega⟩
  · have h2 := fun y => h1 (Int32.lt_iff_toInt_lt.mpr y)
    rw [if_neg h1] at e2
    rw [e1, e2]
    refine ⟨fun y => ?_, fun y => absurd y h1⟩
    exfalso
    split at y
    · rename_i h3
      have := Int32.lt_iff_toInt_lt.mp h3
      omega
    · omega
theorem ord_2 (K : Nat → Int) : ordF K 2 0 = if K 1 < K 0 then 1 else 0 := by
  show insO K (ordF K 1) 1 0 = _
  have o1 : ordF K 1 0 = 0 := rfl
  unfold insO
  have e : insAt K (ordF K 1) 1 1 = if K 1 < K 0 then 0 else 1 := by
    rw [insAt, o1]
    split
    · rfl
    · rfl
  rw [e]
  split
  · rfl
  · rw [if_pos (by decide)]
    exact o1
/-- one step of a list of 1 -/
theorem rd1 {kp : Bool} {m i : Nat} {S : Nat → Int32} {x : RSt} {B : Int64} {M : Int32} (hP : x.1 = 1) (hB : x.2.1 0 = B) (hM : x.2.2 0 = M) (hs : inB 8128 (ndL m S (bl B) i 0 0)) (hm : 0 ≤ M.toInt ∧ M.toInt ≤ 1000000) : (rdS kp m S 1 i x).2.1 0 = bitI B i (kp && decide (ndL m S (bl B) i 0 0 < 0)) ∧ (rdS kp m S 1 i x).2.2 0 = M + coS (ndL m S (bl B) i 0 0) (kp && decide (ndL m S (bl B) i 0 0 < 0)) := by
  have sm : rsm m S x i 0 = ndL m S (bl B) i 0 0 := by
    unfold rsm
    rw [hB]
  unfold rdS
  cases kp
  · rw [if_neg (by decide), Bool.false_and]
    refine ⟨?_, ?_⟩
    · show x.2.1 0 = bitI B i false
      rw [hB]
      rfl
    · show x.2.2 0 + coS (rsm m S x i 0) false = _
      rw [hM, sm]
  · rw [if_pos rfl, Bool.true_and]
    have c0 : cnd m S x i 0 = M + coS (ndL m S (bl B) i 0 0) false := by
      unfold cnd
      rw [show 0 / 2 = 0 from rfl, hM, sm]
      rfl
    have c1 : cnd m S x i 1 = M + coS (ndL m S (bl B) i 0 0) true := by
      unfold cnd
      rw [show 1 / 2 = 0 from rfl, hM, sm]
      rfl
    have b0 := coS_b (t := false) hs
    have b1 := coS_b (t := true) hs
    have lt := coS_lt hs
    have oo : ordR m S x i 0 = if ndL m S (bl B) i 0 0 < 0 then 1 else 0 := by
      unfold ordR
      rw [hP, ord_2, c0, c1]
      have e0 := i_add (a := M) (b := coS (ndL m S (bl B) i 0 0) false) (by omega) (by omega)
      have e1 := i_add (a := M) (b := coS (ndL m S (bl B) i 0 0) true) (by omega) (by omega)
      rw [e0, e1]
      by_cases h : ndL m S (bl B) i 0 0 < 0
      · have := lt.mpr h
        rw [if_pos (by omega), if_pos h]
      · have : ¬ (coS (ndL m S (bl B) i 0 0) true).toInt < (coS (ndL m S (bl B) i 0 0) false).toInt := fun z => h (lt.mp z)
        rw [if_neg (by omega), if_neg h]
    show bitI (x.2.1 (ordR m S x i 0 / 2)) i (decide (ordR m S x i 0 % 2 = 1)) = _ ∧ cnd m S x i (ordR m S x i 0) = _
    by_cases h : ndL m S (bl B) i 0 0 < 0
    · rw [oo, if_pos h, decide_eq_true h, c1, show 1 / 2 = 0 from rfl, hB]
      exact ⟨rfl, rfl⟩
    · rw [oo, if_neg h, decide_eq_false h, c0, show 0 / 2 = 0 from rfl, hB]
      exact ⟨rfl, rfl⟩
theorem tu_b {K : Int64} {m F : Nat} {S : Nat → Int32} (hm : m ≤ 6) (hS : ∀ s, s < 64 → -127 ≤ (S s).toInt ∧ (S s).toInt ≤ 127) : ∀ i, i ≤ 64 → 0 ≤ ((tuN K m S F i).2).toInt ∧ ((tuN K m S F i).2).toInt ≤ 8128 * i
  | 0, _ => ⟨show (0 : Int) ≤ (0 : Int32).toInt by decide, show (0 : Int32).toInt ≤ 8128 * ((0 : Nat) : Int) by decide⟩
  | i + 1, hi => by
    have ih := tu_b (K := K) (F := F) hm hS i (by omega)
    rw [tuN]
    have b := coS_b (t := ((bl K i && decide (ndL m S (bl (tuN K m S F i).1) i 0 0 < 0)) ^^ decide (i = F))) (ndL_b0 hm hS (u := bl (tuN K m S F i).1) (c := i) (l := 0) (j := 0) (Nat.zero_le m) (by decide))
    generalize coS (ndL m S (bl (tuN K m S F i).1) i 0 0) ((bl K i && decide (ndL m S (bl (tuN K m S F i).1) i 0 0 < 0)) ^^ decide (i = F)) = v at *
    show 0 ≤ ((tuN K m S F i).2 + v).toInt ∧ ((tuN K m S F i).2 + v).toInt ≤ _
    rw [i_add (by omega) (by omega)]
    omega
theorem rdF_tu {K : Int64} {m F : Nat} {S : Nat → Int32} (hm : m ≤ 6) (hF : bl K F = true) (hS : ∀ s, s < 64 → -127 ≤ (S s).toInt ∧ (S s).toInt ≤ 127) : ∀ i, i ≤ 64 → (rdF K m S F i).2.1 0 = (tuN K m S F i).1 ∧ (rdF K m S F i).2.2 0 = (tuN K m S F i).2
  | 0, _ => ⟨rfl, rfl⟩
  | i + 1, hi => by
    obtain ⟨h1, h2⟩ := rdF_tu hm hF hS i (by omega)
    have tb := tu_b (K := K) (F := F) hm hS i (by omega)
    have hs := ndL_b0 hm hS (u := bl (tuN K m S F i).1) (c := i) (l := 0) (j := 0) (Nat.zero_le m) (by decide)
    rw [rdF, tuN]
    by_cases e : i = F
    · rw [if_pos e, decide_eq_true e, show bl K i = true by rw [e]; exact hF, Bool.true_and]
      have sm : rsm m S (rdF K m S F i) i 0 = ndL m S (bl (tuN K m S F i).1) i 0 0 := by
        unfold rsm
        rw [h1]
      show bitI ((rdF K m S F i).2.1 0) i (!decide (rsm m S (rdF K m S F i) i 0 < 0)) = _ ∧ (rdF K m S F i).2.2 0 + coS (rsm m S (rdF K m S F i) i 0) (!decide (rsm m S (rdF K m S F i) i 0 < 0)) = _
      rw [sm, h1, h2, Bool.xor_true]
      exact ⟨rfl, rfl⟩
    · rw [if_neg e, decide_eq_false e, Bool.xor_false]
      exact rd1 (kp := bl K i) (rdF_P i) h1 h2 hs ⟨tb.1, by omega⟩
/-! the model reads so -/
theorem rt_go {h0 : PmH} {K : Int64} {m F : Nat} {S : Nat → Int32} (hm : m ≤ 6) (hF6 : F < 64) : ∀ (n i : Nat) (h : PmH) (l3 l4 : Option Value), i + n = 2 ^ m → HI hdT shT h → mcI K m S h → ph_l h 70 40 = (tuN K m S F i).1 → ph_i h 70 41 = (tuN K m S F i).2 → ∃ h', HI hdT shT h' ∧ mcI K m S h' ∧ ph_l h' 70 40 = (tuN K m S F (2 ^ m)).1 ∧ ph_i h' 70 41 = (tuN K m S F (2 ^ m)).2 ∧ Go pmT none cd_216 8 [some (.ref 70), some (.int (nI F)), some (.int (nI i)), l3, l4] [] h (none, h') := by
  intro n
  have p6 := pw_6 m (by omega)
  induction n with
  | zero =>
    intro i h l3 l4 hi hI hc b1 b2
    have hi : i = 2 ^ m := by omega
    rw [hi] at b1 b2 ⊢
    refine ⟨h, hI, hc, b1, b2, ?_⟩
    have cN := hc.1
    generalize nI (2 ^ m) = N at *
    clear hc b1 b2
    obtain ⟨S, fi, fl, fr⟩ := h
    have hS : S = shT := hI.1
    subst hS
    have cN : fi 70 14 = N := cN
    refine go_of ?_
    refine gp_n 2 (j' := 10) (lv' := [some (.ref 70), some (.int (nI F)), some (.int N), l3, l4]) (st' := [.ref 70, .int N]) (h' := (shT, fi, fl, fr)) rfl ?_
    refine gp_of (fun _ k9 => g_getI (x := N) rfl (Or.inl rfl) rfl (by decide) (cN) k9) ?_
    refine gp_of (fun _ k9 => g_ict rfl (show N ≤ N from Int32.le_refl _) k9) ?_
    refine gp_done (g_vret rfl) ?_
    rfl
  | succ n ih =>
    intro i h l3 l4 hi hI hc b1 b2
    have cN := hc.1
    obtain ⟨h1, e1, I1, F1⟩ := sa_ev (w := (tuN K m S F i).1) hI hm (show i < 2 ^ m by omega) hc.1 hc.2.2
    have q1 := (mc_fr (K := K) (m := m) (S := S) (x := (0, fun _ => 0, fun _ => 0)) (W := in_w iN_221) (by decide) F1).1 hc
    have d1 : ph_l h1 70 40 = (tuN K m S F i).1 := (F1 70 40 (by decide)).2.1.trans b1
    have d2 : ph_i h1 70 41 = (tuN K m S F i).2 := (F1 70 41 (by decide)).1.trans b2
    have cK : ph_l h1 70 21 = K := q1.2.1
    have lt : ¬ nI (2 ^ m) ≤ nI i := nI_ge (by omega) (by omega)
    have hs := fun h => has_ev (v := K) (i := nI i) (h := h)
    rw [hasf_bit (by omega)] at hs
    have gx := fun (h' : PmH) (a1 : HI hdT shT h') (a2 : mcI K m S h') => ih (i + 1) h' (some (.int (ndL m S (bl (tuN K m S F i).1) i 0 0))) (some (.int (b01 ((bl K i && decide (ndL m S (bl (tuN K m S F i).1) i 0 0 < 0)) ^^ decide (i = F))))) (by omega) a1 a2
    rw [tuN] at gx
    have co := fun (t : Bool) h => coM_ev (s := ndL m S (bl (tuN K m S F i).1) i 0 0) (t := t) (h := h)
    obtain ⟨S1, f1, g1, r1⟩ := h1
    have s1 : S1 = shT := I1.1
    subst s1
    have d1 : g1 70 40 = (tuN K m S F i).1 := d1
    have d2 : f1 70 41 = (tuN K m S F i).2 := d2
    have cK : g1 70 21 = K := cK
    have main : ∀ t : Bool, t = ((bl K i && decide (ndL m S (bl (tuN K m S F i).1) i 0 0 < 0)) ^^ decide (i = F)) → ∃ h', HI hdT shT h' ∧ mcI K m S h' ∧ ph_l h' 70 40 = (tuN K m S F (2 ^ m)).1 ∧ ph_i h' 70 41 = (tuN K m S F (2 ^ m)).2 ∧ Go pmT none cd_216 36 [some (.ref 70), some (.int (nI F)), some (.int (nI i)), some (.int (ndL m S (bl (tuN K m S F i).1) i 0 0)), some (.int (b01 t))] [] (shT, f1, g1, r1) (none, h') := fun t ht => by
      have J : HI hdT shT (shT, pm_u2 f1 70 41 ((tuN K m S F i).2 + coS (ndL m S (bl (tuN K m S F i).1) i 0 0) t), pm_u2 g1 70 40 (bitI (tuN K m S F i).1 i t), r1) := HI_fl (fl := g1) (HI_wi I1 (fun z => absurd z (by decide)))
      have J0 : HI hdT shT (shT, pm_u2 f1 70 41 ((tuN K m S F i).2 + coS (ndL m S (bl (tuN K m S F i).1) i 0 0) t), g1, r1) := HI_wi I1 (fun z => absurd z (by decide))
      rw [← ht] at gx
      obtain ⟨h2, I2, c2, z1, z2, z3⟩ := gx (shT, pm_u2 f1 70 41 ((tuN K m S F i).2 + coS (ndL m S (bl (tuN K m S F i).1) i 0 0) t), pm_u2 g1 70 40 (bitI (tuN K m S F i).1 i t), r1) J ⟨(show pm_u2 f1 70 41 ((tuN K m S F i).2 + coS (ndL m S (bl (tuN K m S F i).1) i 0 0) t) 70 14 = f1 70 14 from wl_ne (by decide)).trans q1.1, (show pm_u2 g1 70 40 (bitI (tuN K m S F i).1 i t) 70 21 = g1 70 21 from wl_ne (by decide)).trans cK, fun s hs => (show pm_u2 f1 70 41 ((tuN K m S F i).2 + coS (ndL m S (bl (tuN K m S F i).1) i 0 0) t) 74 s = f1 74 s from wl_ne (by omega)).trans (q1.2.2 s hs)⟩ (show pm_u2 g1 70 40 (bitI (tuN K m S F i).1 i t) 70 40 = _ from u2_eq) u2_i
      refine ⟨h2, I2, c2, z1, z2, ?_⟩
      have co := co t
      clear gx z1 z2 c2 I2 J J0 q1 ih hc e1 F1 hI hs
      generalize coS (ndL m S (bl (tuN K m S F i).1) i 0 0) t = v at *
      generalize ndL m S (bl (tuN K m S F i).1) i 0 0 = s at *
      generalize (tuN K m S F i).2 = mt at *
      generalize (tuN K m S F i).1 = w at *
      cases t
      · have eb : bitI w i false = w := rfl
        rw [eb] at z3
        have eg : pm_u2 g1 70 40 w = g1 := by
          funext p q
          by_cases z : p = 70 ∧ q = 40
          · rw [z.1, z.2, d1]
            exact u2_eq
          · exact wl_ne z
        rw [eg] at z3
        have co : ∀ h, Ev pmT 196 [.int s, .int 0] h (some (.int v)) h := co
        refine go_of ?_
        refine gp_n 2 (j' := 38) (lv' := [some (.ref 70), some (.int (nI F)), some (.int (nI i)), some (.int s), some (.int 0)]) (st' := [.int 1, .int 0]) (h' := (shT, f1, g1, r1)) rfl ?_
        refine gp_of (fun _ k9 => g_ict rfl (show ¬ (0 : Int32) = (1 : Int32) from by decide) k9) ?_
        refine gp_n 2 (j' := 49) (lv' := [some (.ref 70), some (.int (nI F)), some (.int (nI i)), some (.int s), some (.int 0)]) (st' := [.ref 70, .ref 70]) (h' := (shT, f1, g1, r1)) rfl ?_
        refine gp_of (fun _ k9 => g_getI (x := mt) rfl (Or.inl rfl) rfl (by decide) (d2) k9) ?_
        refine gp_n 2 (j' := 52) (lv' := [some (.ref 70), some (.int (nI F)), some (.int (nI i)), some (.int s), some (.int 0)]) (st' := [.int 0, .int s, .int mt, .ref 70]) (h' := (shT, f1, g1, r1)) rfl ?_
        refine gp_of (fun _ k9 => g_call (y := 196) (as := [.int s, .int 0]) (st' := [.int mt, .ref 70]) rfl rfl (co _) k9) ?_
        refine gp_n 1 (j' := 54) (lv' := [some (.ref 70), some (.int (nI F)), some (.int (nI i)), some (.int s), some (.int 0)]) (st' := [.int (mt + v), .ref 70]) (h' := (shT, f1, g1, r1)) rfl ?_
        refine gp_of (fun _ k9 => g_putI rfl (Or.inl rfl) rfl (by decide) k9) ?_
        refine gp_n 2 (j' := 8) (lv' := [some (.ref 70), some (.int (nI F)), some (.int ((nI i) + 1)), some (.int s), some (.int 0)]) (st' := []) (h' := (shT, pm_u2 f1 70 41 (mt + v), g1, r1)) rfl ?_
        rw [nI_1]
        exact gp_done z3 rfl
      · have co : ∀ h, Ev pmT 196 [.int s, .int 1] h (some (.int v)) h := co
        have eb : bitI w i true = w ||| (1 <<< ((nI i : Int32).toInt64 &&& 63)) := rfl
        rw [eb] at z3
        refine go_of ?_
        refine gp_n 2 (j' := 38) (lv' := [some (.ref 70), some (.int (nI F)), some (.int (nI i)), some (.int s), some (.int 1)]) (st' := [.int 1, .int 1]) (h' := (shT, f1, g1, r1)) rfl ?_
        refine gp_of (fun _ k9 => g_icf rfl (show ¬ (¬ (1 : Int32) = (1 : Int32)) from by decide) k9) ?_
        refine gp_n 2 (j' := 41) (lv' := [some (.ref 70), some (.int (nI F)), some (.int (nI i)), some (.int s), some (.int 1)]) (st' := [.ref 70, .ref 70]) (h' := (shT, f1, g1, r1)) rfl ?_
        refine gp_of (fun _ k9 => g_getL (x := w) rfl rfl (by decide) (d1) k9) ?_
        refine gp_n 4 (j' := 46) (lv' := [some (.ref 70), some (.int (nI F)), some (.int (nI i)), some (.int s), some (.int 1)]) (st' := [.long (w ||| ((1 : Int64) <<< ((nI i : Int32).toInt64 &&& 63))), .ref 70]) (h' := (shT, f1, g1, r1)) rfl ?_
        refine gp_of (fun _ k9 => g_putL rfl rfl (by decide) k9) ?_
        refine gp_n 2 (j' := 49) (lv' := [some (.ref 70), some (.int (nI F)), some (.int (nI i)), some (.int s), some (.int 1)]) (st' := [.ref 70, .ref 70]) (h' := (shT, f1, pm_u2 g1 70 40 (w ||| ((1 : Int64) <<< ((nI i : Int32).toInt64 &&& 63))), r1)) rfl ?_
        refine gp_of (fun _ k9 => g_getI (x := mt) rfl (Or.inl rfl) rfl (by decide) (d2) k9) ?_
        refine gp_n 2 (j' := 52) (lv' := [some (.ref 70), some (.int (nI F)), some (.int (nI i)), some (.int s), some (.int 1)]) (st' := [.int 1, .int s, .int mt, .ref 70]) (h' := (shT, f1, pm_u2 g1 70 40 (w ||| ((1 : Int64) <<< ((nI i : Int32).toInt64 &&& 63))), r1)) rfl ?_
        refine gp_of (fun _ k9 => g_call (y := 196) (as := [.int s, .int 1]) (st' := [.int mt, .ref 70]) rfl rfl (co _) k9) ?_
        refine gp_n 1 (j' := 54) (lv' := [some (.ref 70), some (.int (nI F)), some (.int (nI i)), some (.int s), some (.int 1)]) (st' := [.int (mt + v), .ref 70]) (h' := (shT, f1, pm_u2 g1 70 40 (w ||| ((1 : Int64) <<< ((nI i : Int32).toInt64 &&& 63))), r1)) rfl ?_
        refine gp_of (fun _ k9 => g_putI rfl (Or.inl rfl) rfl (by decide) k9) ?_
        refine gp_n 2 (j' := 8) (lv' := [some (.ref 70), some (.int (nI F)), some (.int ((nI i) + 1)), some (.int s), some (.int 1)]) (st' := []) (h' := (shT, pm_u2 f1 70 41 (mt + v), pm_u2 g1 70 40 (w ||| ((1 : Int64) <<< ((nI i : Int32).toInt64 &&& 63))), r1)) rfl ?_
        rw [nI_1]
        exact gp_done z3 rfl
    have main := main _ rfl
    obtain ⟨h2, I2, c2, z1, z2, z3⟩ := main
    refine ⟨h2, I2, c2, z1, z2, ?_⟩
    clear gx z1 z2 c2 I2 q1 ih hc F1 co main
    generalize ndL m S (bl (tuN K m S F i).1) i 0 0 = s at *
    generalize (tuN K m S F i).1 = w at *
    generalize nI (2 ^ m) = N at *
    have b1 : ph_l h 70 40 = w := b1
    obtain ⟨S, fi, fl, fr⟩ := h
    have hS : S = shT := hI.1
    subst hS
    have cN : fi 70 14 = N := cN
    have b1 : fl 70 40 = w := b1
    have fin : ∀ t : Bool, (if i = F then !t else t) = ((bl K i && decide (s < 0)) ^^ decide (i = F)) → Go pmT none cd_216 28 [some (.ref 70), some (.int (nI F)), some (.int (nI i)), some (.int s), l4] [.int (b01 t)] (shT, f1, g1, r1) (none, h2) := fun t ht => by
      rw [← ht] at z3
      by_cases e : i = F
      · rw [if_pos e] at z3
        have e2 : nI i = nI F := by rw [e]
        cases t
        · show Go pmT none cd_216 28 _ [.int 0] _ _
          have z3 : Go pmT none cd_216 36 [some (.ref 70), some (.int (nI F)), some (.int (nI i)), some (.int s), some (.int 1)] [] (shT, f1, g1, r1) (none, h2) := z3
          refine go_of ?_
          refine gp_n 3 (j' := 31) (lv' := [some (.ref 70), some (.int (nI F)), some (.int (nI i)), some (.int s), some (.int 0)]) (st' := [.int (nI F), .int (nI i)]) (h' := (shT, f1, g1, r1)) rfl ?_
          refine gp_of (fun _ k9 => g_icf rfl (show ¬ (¬ (nI i) = (nI F)) from not_not_intro e2) k9) ?_
          refine gp_n 4 (j' := 36) (lv' := [some (.ref 70), some (.int (nI F)), some (.int (nI i)), some (.int s), some (.int 1)]) (st' := []) (h' := (shT, f1, g1, r1)) rfl ?_
          exact gp_done z3 rfl
        · show Go pmT none cd_216 28 _ [.int 1] _ _
          have z3 : Go pmT none cd_216 36 [some (.ref 70), some (.int (nI F)), some (.int (nI i)), some (.int s), some (.int 0)] [] (shT, f1, g1, r1) (none, h2) := z3
          refine go_of ?_
          refine gp_n 3 (j' := 31) (lv' := [some (.ref 70), some (.int (nI F)), some (.int (nI i)), some (.int s), some (.int 1)]) (st' := [.int (nI F), .int (nI i)]) (h' := (shT, f1, g1, r1)) rfl ?_
          refine gp_of (fun _ k9 => g_icf rfl (show ¬ (¬ (nI i) = (nI F)) from not_not_intro e2) k9) ?_
          refine gp_n 4 (j' := 36) (lv' := [some (.ref 70), some (.int (nI F)), some (.int (nI i)), some (.int s), some (.int 0)]) (st' := []) (h' := (shT, f1, g1, r1)) rfl ?_
          exact gp_done z3 rfl
      · rw [if_neg e] at z3
        have e2 : ¬ nI i = nI F := fun z => e ((nI_eq (by omega) (by omega)).mp z)
        refine go_of ?_
        refine gp_n 3 (j' := 31) (lv' := [some (.ref 70), some (.int (nI F)), some (.int (nI i)), some (.int s), some (.int (b01 t))]) (st' := [.int (nI F), .int (nI i)]) (h' := (shT, f1, g1, r1)) rfl ?_
        refine gp_of (fun _ k9 => g_ict rfl (show ¬ (nI i) = (nI F) from e2) k9) ?_
        exact gp_done z3 rfl
    have fx : ∀ t u : Bool, t = u → (if i = F then !t else t) = (u ^^ decide (i = F)) := fun t u z => by
      subst z
      by_cases e : i = F
      · rw [if_pos e, decide_eq_true e, Bool.xor_true]
      · rw [if_neg e, decide_eq_false e, Bool.xor_false]
    refine go_of ?_
    cases hk : bl K i
    · rw [hk] at hs
      have hs : ∀ h, Ev pmT 161 [.long K, .int (nI i)] h (some (.int 0)) h := hs
      have g0 : Go pmT none cd_216 28 [some (.ref 70), some (.int (nI F)), some (.int (nI i)), some (.int s), l4] [.int 0] (shT, f1, g1, r1) (none, h2) := fin false (fx _ _ (by rw [hk, Bool.false_and]))
      refine gp_n 2 (j' := 10) (lv' := [some (.ref 70), some (.int (nI F)), some (.int (nI i)), l3, l4]) (st' := [.ref 70, .int (nI i)]) (h' := (shT, fi, fl, fr)) rfl ?_
      refine gp_of (fun _ k9 => g_getI (x := N) rfl (Or.inl rfl) rfl (by decide) (cN) k9) ?_
      refine gp_of (fun _ k9 => g_icf rfl (show ¬ (N ≤ (nI i)) from lt) k9) ?_
      refine gp_n 2 (j' := 14) (lv' := [some (.ref 70), some (.int (nI F)), some (.int (nI i)), l3, l4]) (st' := [.ref 70, .ref 70]) (h' := (shT, fi, fl, fr)) rfl ?_
      refine gp_of (fun _ k9 => g_getL (x := w) rfl rfl (by decide) (b1) k9) ?_
      refine gp_n 1 (j' := 16) (lv' := [some (.ref 70), some (.int (nI F)), some (.int (nI i)), l3, l4]) (st' := [.int (nI i), .long w, .ref 70]) (h' := (shT, fi, fl, fr)) rfl ?_
      refine gp_of (fun _ k9 => g_call (y := 193) (as := [.ref 70, .long w, .int (nI i)]) (st' := []) rfl rfl (e1) k9) ?_
      refine gp_n 2 (j' := 19) (lv' := [some (.ref 70), some (.int (nI F)), some (.int (nI i)), some (.int s), l4]) (st' := [.ref 70]) (h' := (shT, f1, g1, r1)) rfl ?_
      refine gp_of (fun _ k9 => g_getL (x := K) rfl rfl (by decide) (cK) k9) ?_
      refine gp_n 1 (j' := 21) (lv' := [some (.ref 70), some (.int (nI F)), some (.int (nI i)), some (.int s), l4]) (st' := [.int (nI i), .long K]) (h' := (shT, f1, g1, r1)) rfl ?_
      refine gp_of (fun _ k9 => g_call (y := 161) (as := [.long K, .int (nI i)]) (st' := []) rfl rfl (hs _) k9) ?_
      refine gp_of (fun _ k9 => g_ift rfl (show (0 : Int32) = (0 : Int32) from by decide) k9) ?_
      refine gp_n 1 (j' := 28) (lv' := [some (.ref 70), some (.int (nI F)), some (.int (nI i)), some (.int s), l4]) (st' := [.int 0]) (h' := (shT, f1, g1, r1)) rfl ?_
      exact gp_done g0 rfl
    · rw [hk] at hs
      have hs : ∀ h, Ev pmT 161 [.long K, .int (nI i)] h (some (.int 1)) h := hs
      by_cases h0 : s < 0
      · have g0 : Go pmT none cd_216 28 [some (.ref 70), some (.int (nI F)), some (.int (nI i)), some (.int s), l4] [.int 1] (shT, f1, g1, r1) (none, h2) := fin true (fx _ _ (by rw [hk, decide_eq_true h0]; rfl))
        refine gp_n 2 (j' := 10) (lv' := [some (.ref 70), some (.int (nI F)), some (.int (nI i)), l3, l4]) (st' := [.ref 70, .int (nI i)]) (h' := (shT, fi, fl, fr)) rfl ?_
        refine gp_of (fun _ k9 => g_getI (x := N) rfl (Or.inl rfl) rfl (by decide) (cN) k9) ?_
        refine gp_of (fun _ k9 => g_icf rfl (show ¬ (N ≤ (nI i)) from lt) k9) ?_
        refine gp_n 2 (j' := 14) (lv' := [some (.ref 70), some (.int (nI F)), some (.int (nI i)), l3, l4]) (st' := [.ref 70, .ref 70]) (h' := (shT, fi, fl, fr)) rfl ?_
        refine gp_of (fun _ k9 => g_getL (x := w) rfl rfl (by decide) (b1) k9) ?_
        refine gp_n 1 (j' := 16) (lv' := [some (.ref 70), some (.int (nI F)), some (.int (nI i)), l3, l4]) (st' := [.int (nI i), .long w, .ref 70]) (h' := (shT, fi, fl, fr)) rfl ?_
        refine gp_of (fun _ k9 => g_call (y := 193) (as := [.ref 70, .long w, .int (nI i)]) (st' := []) rfl rfl (e1) k9) ?_
        refine gp_n 2 (j' := 19) (lv' := [some (.ref 70), some (.int (nI F)), some (.int (nI i)), some (.int s), l4]) (st' := [.ref 70]) (h' := (shT, f1, g1, r1)) rfl ?_
        refine gp_of (fun _ k9 => g_getL (x := K) rfl rfl (by decide) (cK) k9) ?_
        refine gp_n 1 (j' := 21) (lv' := [some (.ref 70), some (.int (nI F)), some (.int (nI i)), some (.int s), l4]) (st' := [.int (nI i), .long K]) (h' := (shT, f1, g1, r1)) rfl ?_
        refine gp_of (fun _ k9 => g_call (y := 161) (as := [.long K, .int (nI i)]) (st' := []) rfl rfl (hs _) k9) ?_
        refine gp_of (fun _ k9 => g_iff rfl (show ¬ ((1 : Int32) = (0 : Int32)) from by decide) k9) ?_
        refine gp_n 1 (j' := 24) (lv' := [some (.ref 70), some (.int (nI F)), some (.int (nI i)), some (.int s), l4]) (st' := [.int s]) (h' := (shT, f1, g1, r1)) rfl ?_
        refine gp_of (fun _ k9 => g_iff rfl (show ¬ ((0 : Int32) ≤ s) from Int32.not_le.mpr h0) k9) ?_
        refine gp_n 2 (j' := 28) (lv' := [some (.ref 70), some (.int (nI F)), some (.int (nI i)), some (.int s), l4]) (st' := [.int 1]) (h' := (shT, f1, g1, r1)) rfl ?_
        exact gp_done g0 rfl
      · have g0 : Go pmT none cd_216 28 [some (.ref 70), some (.int (nI F)), some (.int (nI i)), some (.int s), l4] [.int 0] (shT, f1, g1, r1) (none, h2) := fin false (fx _ _ (by rw [hk, decide_eq_false h0]; rfl))
        refine gp_n 2 (j' := 10) (lv' := [some (.ref 70), some (.int (nI F)), some (.int (nI i)), l3, l4]) (st' := [.ref 70, .int (nI i)]) (h' := (shT, fi, fl, fr)) rfl ?_
        refine gp_of (fun _ k9 => g_getI (x := N) rfl (Or.inl rfl) rfl (by decide) (cN) k9) ?_
        refine gp_of (fun _ k9 => g_icf rfl (show ¬ (N ≤ (nI i)) from lt) k9) ?_
        refine gp_n 2 (j' := 14) (lv' := [some (.ref 70), some (.int (nI F)), some (.int (nI i)), l3, l4]) (st' := [.ref 70, .ref 70]) (h' := (shT, fi, fl, fr)) rfl ?_
        refine gp_of (fun _ k9 => g_getL (x := w) rfl rfl (by decide) (b1) k9) ?_
        refine gp_n 1 (j' := 16) (lv' := [some (.ref 70), some (.int (nI F)), some (.int (nI i)), l3, l4]) (st' := [.int (nI i), .long w, .ref 70]) (h' := (shT, fi, fl, fr)) rfl ?_
        refine gp_of (fun _ k9 => g_call (y := 193) (as := [.ref 70, .long w, .int (nI i)]) (st' := []) rfl rfl (e1) k9) ?_
        refine gp_n 2 (j' := 19) (lv' := [some (.ref 70), some (.int (nI F)), some (.int (nI i)), some (.int s), l4]) (st' := [.ref 70]) (h' := (shT, f1, g1, r1)) rfl ?_
        refine gp_of (fun _ k9 => g_getL (x := K) rfl rfl (by decide) (cK) k9) ?_
        refine gp_n 1 (j' := 21) (lv' := [some (.ref 70), some (.int (nI F)), some (.int (nI i)), some (.int s), l4]) (st' := [.int (nI i), .long K]) (h' := (shT, f1, g1, r1)) rfl ?_
        refine gp_of (fun _ k9 => g_call (y := 161) (as := [.long K, .int (nI i)]) (st' := []) rfl rfl (hs _) k9) ?_
        refine gp_of (fun _ k9 => g_iff rfl (show ¬ ((1 : Int32) = (0 : Int32)) from by decide) k9) ?_
        refine gp_n 1 (j' := 24) (lv' := [some (.ref 70), some (.int (nI F)), some (.int (nI i)), some (.int s), l4]) (st' := [.int s]) (h' := (shT, f1, g1, r1)) rfl ?_
        refine gp_of (fun _ k9 => g_ift rfl (show (0 : Int32) ≤ s from Int32.not_lt.mp h0) k9) ?_
        refine gp_n 1 (j' := 28) (lv' := [some (.ref 70), some (.int (nI F)), some (.int (nI i)), some (.int s), l4]) (st' := [.int 0]) (h' := (shT, f1, g1, r1)) rfl ?_
        exact gp_done g0 rfl
