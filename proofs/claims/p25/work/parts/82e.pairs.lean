def dpP (N : Nat) (K x y : Int64) : Prop := ∀ j, j < 64 → bl y j = (decide (j < N) && (bl K j && bl x (cntb K j)))
theorem dpP_eq {N : Nat} {K x y y' : Int64} (a : dpP N K x y) (b : dpP N K x y') : y = y' := bl_ext (fun i hi => (a i hi).trans (b i hi).symm)
theorem dp_ev {N : Nat} {K x : Int64} {h : PmH} (hI : HI hdT shT h) (hN : N ≤ 64) (c1 : ph_i h 1 1 = nI N) (c7 : ph_l h 1 7 = K) : ∃ y, Ev pmT 61 [.ref 1, .long x] h (some (.long y)) h ∧ dpP N K x y := by
  have hSS := hI.1
  obtain ⟨S, fi, fl, fr⟩ := h
  have hS : S = shT := hSS
  subst hS
  obtain ⟨q, g, y, y1, y2⟩ := dp_go (N := N) (K := K) (x := x) hI hN c1 c7 N 0 0 (by omega) (fun j hj => by rw [bl_0 j hj, decide_eq_false (Nat.not_lt_zero _)]; rfl)
  subst y1
  refine ⟨y, ?_, y2⟩
  refine Ev.of (es := cd_61) (ml := 7) (lv := [some (.ref 1), some (.long x), none, none, none, none, none]) rfl rfl rfl ?_
  refine go_of ?_
  refine gp_n 6 (j' := 6) (lv' := [some (.ref 1), some (.long x), none, some (.long 0), none, some (.int (nI (cntb K 0))), some (.int (nI 0))]) (st' := []) (h' := (shT, fi, fl, fr)) rfl ?_
  exact gp_done g rfl
theorem sp_go {N : Nat} {K x : Int64} {fi : Nat → Nat → Int32} {fl : Nat → Nat → Int64} {fr : Nat → Nat → Option Nat} (hN : N ≤ 64) (c1 : fi 70 14 = nI N) (c7 : fl 70 21 = K) : ∀ (n i : Nat) (y : Int64), i + n = N → (∀ j, j < 64 → bl y j = (decide (j < i) && (bl K j && bl x (cntb K j)))) → GoP pmT none cd_178 6 [some (.ref 70), some (.long x), none, some (.long y), none, some (.int (nI (cntb K i))), some (.int (nI i))] [] (shT, fi, fl, fr) (fun q => ∃ y, q = (some (.long y), (shT, fi, fl, fr)) ∧ dpP N K x y) := by
  intro n
  induction n with
  | zero =>
    intro i y hi hy
    have hi : i = N := by omega
    subst hi
    refine gp_mono (fun q (z : q = (some (.long y), (shT, fi, fl, fr))) => ⟨y, z, hy⟩) ?_
    generalize cntb K i = q
    refine gp_n 2 (j' := 8) (lv' := [some (.ref 70), some (.long x), none, some (.long y), none, some (.int (nI q)), some (.int (nI i))]) (st' := [.ref 70, .int (nI i)]) (h' := (shT, fi, fl, fr)) rfl ?_
    refine gp_of (fun _ k9 => g_getI (x := nI i) rfl (Or.inl rfl) rfl (by decide) (c1) k9) ?_
    refine gp_of (fun _ k9 => g_ict rfl (show (nI i) ≤ (nI i) from Int32.le_refl _) k9) ?_
    refine gp_n 1 (j' := 30) (lv' := [some (.ref 70), some (.long x), none, some (.long y), none, some (.int (nI q)), some (.int (nI i))]) (st' := [.long y]) (h' := (shT, fi, fl, fr)) rfl ?_
    refine gp_done (g_lret rfl) ?_
    rfl
  | succ n ih =>
    intro i y hi hy
    have hs := has_ev (v := K) (i := nI i) (h := (shT, fi, fl, fr))
    rw [hasf_bit (show i < 64 by omega)] at hs
    have cl := cntb_le K i
    have e1 : cntb K (i + 1) = cntb K i + (if bl K i = true then 1 else 0) := rfl
    cases hb : bl K i
    · rw [hb] at hs e1
      have hs : Ev pmT 161 [.long K, .int (nI i)] (shT, fi, fl, fr) (some (.int 0)) (shT, fi, fl, fr) := hs
      have g := ih (i + 1) y (by omega) (fun j hj => by
        rw [hy j hj]
        by_cases h1 : j = i
        · subst h1
          rw [hb, Bool.false_and, Bool.and_false, Bool.and_false]
        · congr 1
          exact decide_eq_decide.mpr (by omega))
      rw [e1, if_neg (by decide), Nat.add_zero] at g
      generalize cntb K i = q at *
      refine gp_n 2 (j' := 8) (lv' := [some (.ref 70), some (.long x), none, some (.long y), none, some (.int (nI q)), some (.int (nI i))]) (st' := [.ref 70, .int (nI i)]) (h' := (shT, fi, fl, fr)) rfl ?_
      refine gp_of (fun _ k9 => g_getI (x := nI N) rfl (Or.inl rfl) rfl (by decide) (c1) k9) ?_
      refine gp_of (fun _ k9 => g_icf rfl (show ¬ ((nI N) ≤ (nI i)) from nI_ge (by omega) (by omega)) k9) ?_
      refine gp_n 1 (j' := 11) (lv' := [some (.ref 70), some (.long x), none, some (.long y), none, some (.int (nI q)), some (.int (nI i))]) (st' := [.ref 70]) (h' := (shT, fi, fl, fr)) rfl ?_
      refine gp_of (fun _ k9 => g_getL (x := K) rfl rfl (by decide) (c7) k9) ?_
      refine gp_n 1 (j' := 13) (lv' := [some (.ref 70), some (.long x), none, some (.long y), none, some (.int (nI q)), some (.int (nI i))]) (st' := [.int (nI i), .long K]) (h' := (shT, fi, fl, fr)) rfl ?_
      refine gp_of (fun _ k9 => g_call (y := 161) (as := [.long K, .int (nI i)]) (st' := []) rfl rfl (hs) k9) ?_
      refine gp_of (fun _ k9 => g_iff rfl (show ¬ (¬ (0 : Int32) = (0 : Int32)) from by decide) k9) ?_
      refine gp_n 3 (j' := 6) (lv' := [some (.ref 70), some (.long x), none, some (.long y), none, some (.int (nI q)), some (.int ((nI i) + 1))]) (st' := []) (h' := (shT, fi, fl, fr)) rfl ?_
      rw [nI_1]
      exact g
    · rw [hb] at hs e1
      have hs : Ev pmT 161 [.long K, .int (nI i)] (shT, fi, fl, fr) (some (.int 1)) (shT, fi, fl, fr) := hs
      have h2 := has_ev (v := x) (i := nI (cntb K i)) (h := (shT, fi, fl, fr))
      rw [hasf_bit (show cntb K i < 64 by omega)] at h2
      have nxt : ∀ y', (∀ j, j < 64 → bl y' j = (bl y j || (bl x (cntb K i) && decide (j = i)))) → ∀ j, j < 64 → bl y' j = (decide (j < i + 1) && (bl K j && bl x (cntb K j))) := fun y' hy' j hj => by
        rw [hy' j hj, hy j hj]
        by_cases h1 : j = i
        · subst h1
          rw [decide_eq_true rfl, decide_eq_true (show j < j + 1 by omega), decide_eq_false (Nat.lt_irrefl _), hb]
          simp
        · rw [decide_eq_false h1, Bool.and_false, Bool.or_false]
          congr 1
          exact decide_eq_decide.mpr (by omega)
      cases hx : bl x (cntb K i)
      · rw [hx] at h2
        have h2 : Ev pmT 161 [.long x, .int (nI (cntb K i))] (shT, fi, fl, fr) (some (.int 0)) (shT, fi, fl, fr) := h2
        have g := ih (i + 1) y (by omega) (nxt y (fun j hj => by rw [hx, Bool.false_and, Bool.or_false]))
        rw [e1, if_pos rfl] at g
        clear nxt ih hy hx
        generalize cntb K i = q at *
        refine gp_n 2 (j' := 8) (lv' := [some (.ref 70), some (.long x), none, some (.long y), none, some (.int (nI q)), some (.int (nI i))]) (st' := [.ref 70, .int (nI i)]) (h' := (shT, fi, fl, fr)) rfl ?_
        refine gp_of (fun _ k9 => g_getI (x := nI N) rfl (Or.inl rfl) rfl (by decide) (c1) k9) ?_
        refine gp_of (fun _ k9 => g_icf rfl (show ¬ ((nI N) ≤ (nI i)) from nI_ge (by omega) (by omega)) k9) ?_
        refine gp_n 1 (j' := 11) (lv' := [some (.ref 70), some (.long x), none, some (.long y), none, some (.int (nI q)), some (.int (nI i))]) (st' := [.ref 70]) (h' := (shT, fi, fl, fr)) rfl ?_
        refine gp_of (fun _ k9 => g_getL (x := K) rfl rfl (by decide) (c7) k9) ?_
        refine gp_n 1 (j' := 13) (lv' := [some (.ref 70), some (.long x), none, some (.long y), none, some (.int (nI q)), some (.int (nI i))]) (st' := [.int (nI i), .long K]) (h' := (shT, fi, fl, fr)) rfl ?_
        refine gp_of (fun _ k9 => g_call (y := 161) (as := [.long K, .int (nI i)]) (st' := []) rfl rfl (hs) k9) ?_
        refine gp_of (fun _ k9 => g_ift rfl (show ¬ (1 : Int32) = (0 : Int32) from by decide) k9) ?_
        refine gp_n 2 (j' := 18) (lv' := [some (.ref 70), some (.long x), none, some (.long y), none, some (.int (nI q)), some (.int (nI i))]) (st' := [.int (nI q), .long x]) (h' := (shT, fi, fl, fr)) rfl ?_
        refine gp_of (fun _ k9 => g_call (y := 161) (as := [.long x, .int (nI q)]) (st' := []) rfl rfl (h2) k9) ?_
        refine gp_of (fun _ k9 => g_ift rfl (show (0 : Int32) = (0 : Int32) from by decide) k9) ?_
        refine gp_n 3 (j' := 6) (lv' := [some (.ref 70), some (.long x), none, some (.long y), none, some (.int ((nI q) + 1)), some (.int ((nI i) + 1))]) (st' := []) (h' := (shT, fi, fl, fr)) rfl ?_
        rw [nI_1, nI_1]
        exact g
      · rw [hx] at h2
        have h2 : Ev pmT 161 [.long x, .int (nI (cntb K i))] (shT, fi, fl, fr) (some (.int 1)) (shT, fi, fl, fr) := h2
        have g := ih (i + 1) (y ||| bitAt i) (by omega) (nxt _ (fun j hj => by rw [bl_or, bitAt_bl (by omega) hj, hx, Bool.true_and]))
        rw [e1, if_pos rfl] at g
        clear nxt ih hy hx
        generalize cntb K i = q at *
        refine gp_n 2 (j' := 8) (lv' := [some (.ref 70), some (.long x), none, some (.long y), none, some (.int (nI q)), some (.int (nI i))]) (st' := [.ref 70, .int (nI i)]) (h' := (shT, fi, fl, fr)) rfl ?_
        refine gp_of (fun _ k9 => g_getI (x := nI N) rfl (Or.inl rfl) rfl (by decide) (c1) k9) ?_
        refine gp_of (fun _ k9 => g_icf rfl (show ¬ ((nI N) ≤ (nI i)) from nI_ge (by omega) (by omega)) k9) ?_
        refine gp_n 1 (j' := 11) (lv' := [some (.ref 70), some (.long x), none, some (.long y), none, some (.int (nI q)), some (.int (nI i))]) (st' := [.ref 70]) (h' := (shT, fi, fl, fr)) rfl ?_
        refine gp_of (fun _ k9 => g_getL (x := K) rfl rfl (by decide) (c7) k9) ?_
        refine gp_n 1 (j' := 13) (lv' := [some (.ref 70), some (.long x), none, some (.long y), none, some (.int (nI q)), some (.int (nI i))]) (st' := [.int (nI i), .long K]) (h' := (shT, fi, fl, fr)) rfl ?_
        refine gp_of (fun _ k9 => g_call (y := 161) (as := [.long K, .int (nI i)]) (st' := []) rfl rfl (hs) k9) ?_
        refine gp_of (fun _ k9 => g_ift rfl (show ¬ (1 : Int32) = (0 : Int32) from by decide) k9) ?_
        refine gp_n 2 (j' := 18) (lv' := [some (.ref 70), some (.long x), none, some (.long y), none, some (.int (nI q)), some (.int (nI i))]) (st' := [.int (nI q), .long x]) (h' := (shT, fi, fl, fr)) rfl ?_
        refine gp_of (fun _ k9 => g_call (y := 161) (as := [.long x, .int (nI q)]) (st' := []) rfl rfl (h2) k9) ?_
        refine gp_of (fun _ k9 => g_iff rfl (show ¬ ((1 : Int32) = (0 : Int32)) from by decide) k9) ?_
        refine gp_n 5 (j' := 25) (lv' := [some (.ref 70), some (.long x), none, some (.long y), none, some (.int (nI q)), some (.int (nI i))]) (st' := [.long (y ||| ((1 : Int64) <<< ((nI i : Int32).toInt64 &&& 63)))]) (h' := (shT, fi, fl, fr)) rfl ?_
        show GoP pmT none cd_178 _ _ [.long (y ||| bitAt i)] _ _
        refine gp_n 4 (j' := 6) (lv' := [some (.ref 70), some (.long x), none, some (.long (y ||| bitAt i)), none, some (.int ((nI q) + 1)), some (.int ((nI i) + 1))]) (st' := []) (h' := (shT, fi, fl, fr)) rfl ?_
        rw [nI_1, nI_1]
        exact g
theorem sp_ev {N : Nat} {K x : Int64} {h : PmH} (hI : HI hdT shT h) (hN : N ≤ 64) (c1 : ph_i h 70 14 = nI N) (c7 : ph_l h 70 21 = K) : ∃ y, Ev pmT 178 [.ref 70, .long x] h (some (.long y)) h ∧ dpP N K x y := by
  have hSS := hI.1
  obtain ⟨S, fi, fl, fr⟩ := h
  have hS : S = shT := hSS
  subst hS
  obtain ⟨q, g, y, y1, y2⟩ := sp_go (N := N) (K := K) (x := x) (fi := fi) (fr := fr) hN c1 c7 N 0 0 (by omega) (fun j hj => by rw [bl_0 j hj, decide_eq_false (Nat.not_lt_zero _)]; rfl)
  subst y1
  refine ⟨y, ?_, y2⟩
  refine Ev.of (es := cd_178) (ml := 7) (lv := [some (.ref 70), some (.long x), none, none, none, none, none]) rfl rfl rfl ?_
  refine go_of ?_
  refine gp_n 6 (j' := 6) (lv' := [some (.ref 70), some (.long x), none, some (.long 0), none, some (.int (nI (cntb K 0))), some (.int (nI 0))]) (st' := []) (h' := (shT, fi, fl, fr)) rfl ?_
  exact gp_done g rfl
def syP (m : Nat) (K put r : Int64) : Prop := ∃ b1 b2 : Int64, (∀ i, i < 64 → bl b1 i = bfN 0 m (bl put) i) ∧ (∀ i, i < 64 → bl b2 i = bfN 0 m (bl (b1 &&& K)) i) ∧ r = if b2 &&& K = put then b2 else -1
theorem syP_eq {m : Nat} {K put r r' : Int64} (a : syP m K put r) (b : syP m K put r') : r = r' := by
  obtain ⟨a1, a2, x1, x2, x3⟩ := a
  obtain ⟨b1, b2, y1, y2, y3⟩ := b
  have e1 : a1 = b1 := bl_ext (fun i hi => (x1 i hi).trans (y1 i hi).symm)
  subst e1
  have e2 : a2 = b2 := bl_ext (fun i hi => (x2 i hi).trans (y2 i hi).symm)
  subst e2
  rw [x3, y3]
theorem sy_C1 {h : PmH} {a : AB} {w : Int64} {m k : Nat} (hI : HI hdT shT h) (hR : QC true h a) (hV : VK (a_v a) m k 0) (hc : 0 < (a_v a).1 1 ∧ fitP k w) : ∃ p r, dpP (2 ^ m) (a_v a).2.1 w p ∧ syP m (a_v a).2.1 p r ∧ Ev pmT 64 [.ref 0, .long w] h (some (.long r)) h := by
  have k1 := vk_k hV
  obtain ⟨hm, hc8, v0, v1, v2, v3, vp, vt⟩ := hV
  have p6 := pw_6 m (by omega)
  have k0 : ph_r h 0 0 = some 1 := hi_r hI rfl rfl (by decide)
  have f := hR.2.2.2.2.1
  have c0 : ph_i h 1 0 = nI m := (f.1 0 (by decide)).trans v0
  have c3 : ph_i h 1 3 = nI 0 := (f.1 3 (by decide)).trans v3
  have c7 : ph_l h 1 7 = (a_v a).2.1 := (f.2 rfl).1
  have t1 := fit1 (w := w) hI (f.1 1 (by decide)) ((f.1 2 (by decide)).trans v2) k1 hc.1 hc.2
  obtain ⟨p, ep, hp⟩ := dp_ev (N := 2 ^ m) (K := (a_v a).2.1) (x := w) hI p6.2 ((f.1 1 (by decide)).trans v1) c7
  generalize (a_v a).2.1 = K at *
  obtain ⟨b1, e1, h1⟩ := bf_ev hm (h := h) (x := p)
  obtain ⟨b2, e2, h2⟩ := bf_ev hm (h := h) (x := b1 &&& K)
  refine ⟨p, _, hp, ⟨b1, b2, h1, h2, rfl⟩, Ev.of (es := cd_64) (ml := 9) (lv := [some (.ref 0), some (.long w), none, none, none, none, none, none, none]) rfl rfl rfl ?_⟩
  obtain ⟨S, fi, fl, fr⟩ := h
  have hS : S = shT := hI.1
  subst hS
  have k0 : fr 0 0 = some 1 := k0
  have c0 : fi 1 0 = nI m := c0
  have c3 : fi 1 3 = 0 := c3
  have c7 : fl 1 7 = K := c7
  refine go_of ?_
  by_cases he : b2 &&& K = p
  · rw [if_pos he]
    refine gp_n 1 (j' := 1) (lv' := [some (.ref 0), some (.long w), none, none, none, none, none, none, none]) (st' := [.ref 0]) (h' := (shT, fi, fl, fr)) rfl ?_
    refine gp_of (fun _ k9 => g_getR (q' := 1) rfl rfl (by decide) k0 k9) ?_
    refine gp_n 1 (j' := 3) (lv' := [some (.ref 0), some (.long w), none, none, none, none, none, none, none]) (st' := [.long w, .ref 1]) (h' := (shT, fi, fl, fr)) rfl ?_
    refine gp_of (fun _ k9 => g_call (y := 56) (as := [.ref 1, .long w]) (st' := []) rfl rfl (t1) k9) ?_
    refine gp_of (fun _ k9 => g_iff rfl (show ¬ ((1 : Int32) = (0 : Int32)) from by decide) k9) ?_
    refine gp_n 1 (j' := 6) (lv' := [some (.ref 0), some (.long w), none, none, none, none, none, none, none]) (st' := [.ref 0]) (h' := (shT, fi, fl, fr)) rfl ?_
    refine gp_of (fun _ k9 => g_getR (q' := 1) rfl rfl (by decide) k0 k9) ?_
    refine gp_of (fun _ k9 => g_getI (x := 0) rfl (Or.inl rfl) rfl (by decide) (c3) k9) ?_
    refine gp_of (fun _ k9 => g_ift rfl (show (0 : Int32) = (0 : Int32) from by decide) k9) ?_
    refine gp_n 1 (j' := 12) (lv' := [some (.ref 0), some (.long w), none, none, none, none, none, none, none]) (st' := [.ref 0]) (h' := (shT, fi, fl, fr)) rfl ?_
    refine gp_of (fun _ k9 => g_getR (q' := 1) rfl rfl (by decide) k0 k9) ?_
    refine gp_n 1 (j' := 14) (lv' := [some (.ref 0), some (.long w), none, none, none, none, none, none, none]) (st' := [.long w, .ref 1]) (h' := (shT, fi, fl, fr)) rfl ?_
    refine gp_of (fun _ k9 => g_call (y := 61) (as := [.ref 1, .long w]) (st' := []) rfl rfl (ep) k9) ?_
    refine gp_n 3 (j' := 18) (lv' := [some (.ref 0), some (.long w), none, some (.long p), none, none, none, none, none]) (st' := [.ref 0, .long p]) (h' := (shT, fi, fl, fr)) rfl ?_
    refine gp_of (fun _ k9 => g_getR (q' := 1) rfl rfl (by decide) k0 k9) ?_
    refine gp_of (fun _ k9 => g_getI (x := nI m) rfl (Or.inl rfl) rfl (by decide) (c0) k9) ?_
    refine gp_of (fun _ k9 => g_call (y := 62) (as := [.long p, .int (nI m)]) (st' := []) rfl rfl (e1) k9) ?_
    refine gp_n 1 (j' := 22) (lv' := [some (.ref 0), some (.long w), none, some (.long p), none, none, none, none, none]) (st' := [.ref 0, .long b1]) (h' := (shT, fi, fl, fr)) rfl ?_
    refine gp_of (fun _ k9 => g_getR (q' := 1) rfl rfl (by decide) k0 k9) ?_
    refine gp_of (fun _ k9 => g_getL (x := K) rfl rfl (by decide) (c7) k9) ?_
    refine gp_n 4 (j' := 28) (lv' := [some (.ref 0), some (.long w), none, some (.long p), none, some (.long (b1 &&& K)), none, none, none]) (st' := [.ref 0, .long (b1 &&& K)]) (h' := (shT, fi, fl, fr)) rfl ?_
    refine gp_of (fun _ k9 => g_getR (q' := 1) rfl rfl (by decide) k0 k9) ?_
    refine gp_of (fun _ k9 => g_getI (x := nI m) rfl (Or.inl rfl) rfl (by decide) (c0) k9) ?_
    refine gp_of (fun _ k9 => g_call (y := 62) (as := [.long (b1 &&& K), .int (nI m)]) (st' := []) rfl rfl (e2) k9) ?_
    refine gp_n 3 (j' := 34) (lv' := [some (.ref 0), some (.long w), none, some (.long p), none, some (.long (b1 &&& K)), none, some (.long b2), none]) (st' := [.ref 0, .long b2]) (h' := (shT, fi, fl, fr)) rfl ?_
    refine gp_of (fun _ k9 => g_getR (q' := 1) rfl rfl (by decide) k0 k9) ?_
    refine gp_of (fun _ k9 => g_getL (x := K) rfl rfl (by decide) (c7) k9) ?_
    refine gp_n 3 (j' := 39) (lv' := [some (.ref 0), some (.long w), none, some (.long p), none, some (.long (b1 &&& K)), none, some (.long b2), none]) (st' := [.int (lg_cmp (b2 &&& K) p)]) (h' := (shT, fi, fl, fr)) rfl ?_
    refine gp_of (fun _ k9 => g_iff rfl (show ¬ (¬ (lg_cmp (b2 &&& K) p) = (0 : Int32)) from (by rw [lg_cmp_eq]; exact fun z => z he)) k9) ?_
    refine gp_n 2 (j' := 43) (lv' := [some (.ref 0), some (.long w), none, some (.long p), none, some (.long (b1 &&& K)), none, some (.long b2), none]) (st' := [.long b2]) (h' := (shT, fi, fl, fr)) rfl ?_
    refine gp_done (g_lret rfl) ?_
    rfl
  · rw [if_neg he]
    refine gp_n 1 (j' := 1) (lv' := [some (.ref 0), some (.long w), none, none, none, none, none, none, none]) (st' := [.ref 0]) (h' := (shT, fi, fl, fr)) rfl ?_
    refine gp_of (fun _ k9 => g_getR (q' := 1) rfl rfl (by decide) k0 k9) ?_
    refine gp_n 1 (j' := 3) (lv' := [some (.ref 0), some (.long w), none, none, none, none, none, none, none]) (st' := [.long w, .ref 1]) (h' := (shT, fi, fl, fr)) rfl ?_
    refine gp_of (fun _ k9 => g_call (y := 56) (as := [.ref 1, .long w]) (st' := []) rfl rfl (t1) k9) ?_
    refine gp_of (fun _ k9 => g_iff rfl (show ¬ ((1 : Int32) = (0 : Int32)) from by decide) k9) ?_
    refine gp_n 1 (j' := 6) (lv' := [some (.ref 0), some (.long w), none, none, none, none, none, none, none]) (st' := [.ref 0]) (h' := (shT, fi, fl, fr)) rfl ?_
    refine gp_of (fun _ k9 => g_getR (q' := 1) rfl rfl (by decide) k0 k9) ?_
    refine gp_of (fun _ k9 => g_getI (x := 0) rfl (Or.inl rfl) rfl (by decide) (c3) k9) ?_
    refine gp_of (fun _ k9 => g_ift rfl (show (0 : Int32) = (0 : Int32) from by decide) k9) ?_
    refine gp_n 1 (j' := 12) (lv' := [some (.ref 0), some (.long w), none, none, none, none, none, none, none]) (st' := [.ref 0]) (h' := (shT, fi, fl, fr)) rfl ?_
    refine gp_of (fun _ k9 => g_getR (q' := 1) rfl rfl (by decide) k0 k9) ?_
    refine gp_n 1 (j' := 14) (lv' := [some (.ref 0), some (.long w), none, none, none, none, none, none, none]) (st' := [.long w, .ref 1]) (h' := (shT, fi, fl, fr)) rfl ?_
    refine gp_of (fun _ k9 => g_call (y := 61) (as := [.ref 1, .long w]) (st' := []) rfl rfl (ep) k9) ?_
    refine gp_n 3 (j' := 18) (lv' := [some (.ref 0), some (.long w), none, some (.long p), none, none, none, none, none]) (st' := [.ref 0, .long p]) (h' := (shT, fi, fl, fr)) rfl ?_
    refine gp_of (fun _ k9 => g_getR (q' := 1) rfl rfl (by decide) k0 k9) ?_
    refine gp_of (fun _ k9 => g_getI (x := nI m) rfl (Or.inl rfl) rfl (by decide) (c0) k9) ?_
    refine gp_of (fun _ k9 => g_call (y := 62) (as := [.long p, .int (nI m)]) (st' := []) rfl rfl (e1) k9) ?_
    refine gp_n 1 (j' := 22) (lv' := [some (.ref 0), some (.long w), none, some (.long p), none, none, none, none, none]) (st' := [.ref 0, .long b1]) (h' := (shT, fi, fl, fr)) rfl ?_
    refine gp_of (fun _ k9 => g_getR (q' := 1) rfl rfl (by decide) k0 k9) ?_
    refine gp_of (fun _ k9 => g_getL (x := K) rfl rfl (by decide) (c7) k9) ?_
    refine gp_n 4 (j' := 28) (lv' := [some (.ref 0), some (.long w), none, some (.long p), none, some (.long (b1 &&& K)), none, none, none]) (st' := [.ref 0, .long (b1 &&& K)]) (h' := (shT, fi, fl, fr)) rfl ?_
    refine gp_of (fun _ k9 => g_getR (q' := 1) rfl rfl (by decide) k0 k9) ?_
    refine gp_of (fun _ k9 => g_getI (x := nI m) rfl (Or.inl rfl) rfl (by decide) (c0) k9) ?_
    refine gp_of (fun _ k9 => g_call (y := 62) (as := [.long (b1 &&& K), .int (nI m)]) (st' := []) rfl rfl (e2) k9) ?_
    refine gp_n 3 (j' := 34) (lv' := [some (.ref 0), some (.long w), none, some (.long p), none, some (.long (b1 &&& K)), none, some (.long b2), none]) (st' := [.ref 0, .long b2]) (h' := (shT, fi, fl, fr)) rfl ?_
    refine gp_of (fun _ k9 => g_getR (q' := 1) rfl rfl (by decide) k0 k9) ?_
    refine gp_of (fun _ k9 => g_getL (x := K) rfl rfl (by decide) (c7) k9) ?_
    refine gp_n 3 (j' := 39) (lv' := [some (.ref 0), some (.long w), none, some (.long p), none, some (.long (b1 &&& K)), none, some (.long b2), none]) (st' := [.int (lg_cmp (b2 &&& K) p)]) (h' := (shT, fi, fl, fr)) rfl ?_
    refine gp_of (fun _ k9 => g_ift rfl (show ¬ (lg_cmp (b2 &&& K) p) = (0 : Int32) from (by rw [lg_cmp_eq]; exact he)) k9) ?_
    refine gp_n 1 (j' := 43) (lv' := [some (.ref 0), some (.long w), none, some (.long p), none, some (.long (b1 &&& K)), none, some (.long b2), none]) (st' := [.long (-1)]) (h' := (shT, fi, fl, fr)) rfl ?_
    refine gp_done (g_lret rfl) ?_
    rfl
theorem sy_M1 {h : PmH} {a : AB} {w : Int64} {m k : Nat} (hI : HI hdT shT h) (hR : QM true h a) (hV : VK (a_v a) m k 0) (hc : 0 < (a_v a).1 1 ∧ fitP k w) : ∃ p r, dpP (2 ^ m) (a_v a).2.1 w p ∧ syP m (a_v a).2.1 p r ∧ Ev pmT 177 [.ref 70, .long w] h (some (.long r)) h := by
  have k1 := vk_k hV
  obtain ⟨hm, hc8, v0, v1, v2, v3, vp, vt⟩ := hV
  have p6 := pw_6 m (by omega)
  have f := hR.2.2.2.2.1
  have n1 : ph_i h 70 14 = nI (2 ^ m) := (f.1 0 (by decide)).trans v1
  have c3 : ph_i h 70 17 = nI 0 := (f.1 3 (by decide)).trans v3
  have c7 : ph_l h 70 21 = (a_v a).2.1 := (f.2 rfl).1
  have t1 := fitM1 (w := w) hI (f.1 0 (by decide)) ((f.1 2 (by decide)).trans v2) k1 hc.1 hc.2
  obtain ⟨p, ep, hp⟩ := sp_ev (N := 2 ^ m) (K := (a_v a).2.1) (x := w) hI p6.2 n1 c7
  generalize (a_v a).2.1 = K at *
  obtain ⟨b1, e1, h1⟩ := bm_ev2 hm (h := h) (x := p) (fun i hi => by
    by_cases hq : i < 64
    · rw [hp i hq, decide_eq_false (by omega), Bool.false_and]
    · exact bl_64 p (by omega))
  obtain ⟨b2, e2, h2⟩ := bm_ev2 hm (h := h) (x := b1 &&& K) (fun i hi => by
    by_cases hq : i < 64
    · rw [bl_and, vt i hi hq, Bool.and_false]
    · exact bl_64 _ (by omega))
  refine ⟨p, _, hp, ⟨b1, b2, h1, h2, rfl⟩, Ev.of (es := cd_177) (ml := 7) (lv := [some (.ref 70), some (.long w), none, none, none, none, none]) rfl rfl rfl ?_⟩
  obtain ⟨S, fi, fl, fr⟩ := h
  have hS : S = shT := hI.1
  subst hS
  have n1 : fi 70 14 = nI (2 ^ m) := n1
  have c3 : fi 70 17 = 0 := c3
  have c7 : fl 70 21 = K := c7
  refine go_of ?_
  by_cases he : b2 &&& K = p
  · rw [if_pos he]
    refine gp_n 2 (j' := 2) (lv' := [some (.ref 70), some (.long w), none, none, none, none, none]) (st' := [.long w, .ref 70]) (h' := (shT, fi, fl, fr)) rfl ?_
    refine gp_of (fun _ k9 => g_call (y := 171) (as := [.ref 70, .long w]) (st' := []) rfl rfl (t1) k9) ?_
    refine gp_of (fun _ k9 => g_iff rfl (show ¬ ((1 : Int32) = (0 : Int32)) from by decide) k9) ?_
    refine gp_n 1 (j' := 5) (lv' := [some (.ref 70), some (.long w), none, none, none, none, none]) (st' := [.ref 70]) (h' := (shT, fi, fl, fr)) rfl ?_
    refine gp_of (fun _ k9 => g_getI (x := 0) rfl (Or.inl rfl) rfl (by decide) (c3) k9) ?_
    refine gp_of (fun _ k9 => g_ift rfl (show (0 : Int32) ≤ (0 : Int32) from by decide) k9) ?_
    refine gp_n 2 (j' := 11) (lv' := [some (.ref 70), some (.long w), none, none, none, none, none]) (st' := [.long w, .ref 70]) (h' := (shT, fi, fl, fr)) rfl ?_
    refine gp_of (fun _ k9 => g_call (y := 178) (as := [.ref 70, .long w]) (st' := []) rfl rfl (ep) k9) ?_
    refine gp_n 3 (j' := 15) (lv' := [some (.ref 70), some (.long w), none, some (.long p), none, none, none]) (st' := [.ref 70, .long p]) (h' := (shT, fi, fl, fr)) rfl ?_
    refine gp_of (fun _ k9 => g_getI (x := nI (2 ^ m)) rfl (Or.inl rfl) rfl (by decide) (n1) k9) ?_
    refine gp_of (fun _ k9 => g_call (y := 175) (as := [.long p, .int (nI (2 ^ m))]) (st' := []) rfl rfl (e1) k9) ?_
    refine gp_n 1 (j' := 18) (lv' := [some (.ref 70), some (.long w), none, some (.long p), none, none, none]) (st' := [.ref 70, .long b1]) (h' := (shT, fi, fl, fr)) rfl ?_
    refine gp_of (fun _ k9 => g_getL (x := K) rfl rfl (by decide) (c7) k9) ?_
    refine gp_n 2 (j' := 21) (lv' := [some (.ref 70), some (.long w), none, some (.long p), none, none, none]) (st' := [.ref 70, .long (b1 &&& K)]) (h' := (shT, fi, fl, fr)) rfl ?_
    refine gp_of (fun _ k9 => g_getI (x := nI (2 ^ m)) rfl (Or.inl rfl) rfl (by decide) (n1) k9) ?_
    refine gp_of (fun _ k9 => g_call (y := 175) (as := [.long (b1 &&& K), .int (nI (2 ^ m))]) (st' := []) rfl rfl (e2) k9) ?_
    refine gp_n 3 (j' := 26) (lv' := [some (.ref 70), some (.long w), none, some (.long p), none, some (.long b2), none]) (st' := [.ref 70, .long b2]) (h' := (shT, fi, fl, fr)) rfl ?_
    refine gp_of (fun _ k9 => g_getL (x := K) rfl rfl (by decide) (c7) k9) ?_
    refine gp_n 3 (j' := 30) (lv' := [some (.ref 70), some (.long w), none, some (.long p), none, some (.long b2), none]) (st' := [.int (lg_cmp (b2 &&& K) p)]) (h' := (shT, fi, fl, fr)) rfl ?_
    refine gp_of (fun _ k9 => g_iff rfl (show ¬ (¬ (lg_cmp (b2 &&& K) p) = (0 : Int32)) from (by rw [lg_cmp_eq]; exact fun z => z he)) k9) ?_
    refine gp_n 2 (j' := 34) (lv' := [some (.ref 70), some (.long w), none, some (.long p), none, some (.long b2), none]) (st' := [.long b2]) (h' := (shT, fi, fl, fr)) rfl ?_
    refine gp_done (g_lret rfl) ?_
    rfl
  · rw [if_neg he]
    refine gp_n 2 (j' := 2) (lv' := [some (.ref 70), some (.long w), none, none, none, none, none]) (st' := [.long w, .ref 70]) (h' := (shT, fi, fl, fr)) rfl ?_
    refine gp_of (fun _ k9 => g_call (y := 171) (as := [.ref 70, .long w]) (st' := []) rfl rfl (t1) k9) ?_
    refine gp_of (fun _ k9 => g_iff rfl (show ¬ ((1 : Int32) = (0 : Int32)) from by decide) k9) ?_
    refine gp_n 1 (j' := 5) (lv' := [some (.ref 70), some (.long w), none, none, none, none, none]) (st' := [.ref 70]) (h' := (shT, fi, fl, fr)) rfl ?_
    refine gp_of (fun _ k9 => g_getI (x := 0) rfl (Or.inl rfl) rfl (by decide) (c3) k9) ?_
    refine gp_of (fun _ k9 => g_ift rfl (show (0 : Int32) ≤ (0 : Int32) from by decide) k9) ?_
    refine gp_n 2 (j' := 11) (lv' := [some (.ref 70), some (.long w), none, none, none, none, none]) (st' := [.long w, .ref 70]) (h' := (shT, fi, fl, fr)) rfl ?_
    refine gp_of (fun _ k9 => g_call (y := 178) (as := [.ref 70, .long w]) (st' := []) rfl rfl (ep) k9) ?_
    refine gp_n 3 (j' := 15) (lv' := [some (.ref 70), some (.long w), none, some (.long p), none, none, none]) (st' := [.ref 70, .long p]) (h' := (shT, fi, fl, fr)) rfl ?_
    refine gp_of (fun _ k9 => g_getI (x := nI (2 ^ m)) rfl (Or.inl rfl) rfl (by decide) (n1) k9) ?_
    refine gp_of (fun _ k9 => g_call (y := 175) (as := [.long p, .int (nI (2 ^ m))]) (st' := []) rfl rfl (e1) k9) ?_
    refine gp_n 1 (j' := 18) (lv' := [some (.ref 70), some (.long w), none, some (.long p), none, none, none]) (st' := [.ref 70, .long b1]) (h' := (shT, fi, fl, fr)) rfl ?_
    refine gp_of (fun _ k9 => g_getL (x := K) rfl rfl (by decide) (c7) k9) ?_
    refine gp_n 2 (j' := 21) (lv' := [some (.ref 70), some (.long w), none, some (.long p), none, none, none]) (st' := [.ref 70, .long (b1 &&& K)]) (h' := (shT, fi, fl, fr)) rfl ?_
    refine gp_of (fun _ k9 => g_getI (x := nI (2 ^ m)) rfl (Or.inl rfl) rfl (by decide) (n1) k9) ?_
    refine gp_of (fun _ k9 => g_call (y := 175) (as := [.long (b1 &&& K), .int (nI (2 ^ m))]) (st' := []) rfl rfl (e2) k9) ?_
    refine gp_n 3 (j' := 26) (lv' := [some (.ref 70), some (.long w), none, some (.long p), none, some (.long b2), none]) (st' := [.ref 70, .long b2]) (h' := (shT, fi, fl, fr)) rfl ?_
    refine gp_of (fun _ k9 => g_getL (x := K) rfl rfl (by decide) (c7) k9) ?_
    refine gp_n 3 (j' := 30) (lv' := [some (.ref 70), some (.long w), none, some (.long p), none, some (.long b2), none]) (st' := [.int (lg_cmp (b2 &&& K) p)]) (h' := (shT, fi, fl, fr)) rfl ?_
    refine gp_of (fun _ k9 => g_ift rfl (show ¬ (lg_cmp (b2 &&& K) p) = (0 : Int32) from (by rw [lg_cmp_eq]; exact he)) k9) ?_
    refine gp_n 1 (j' := 34) (lv' := [some (.ref 70), some (.long w), none, some (.long p), none, some (.long b2), none]) (st' := [.long (-1)]) (h' := (shT, fi, fl, fr)) rfl ?_
    refine gp_done (g_lret rfl) ?_
    rfl
theorem sy_C0 {L : Bool} {h : PmH} {a : AB} {w : Int64} {k c : Nat} (hI : HI hdT shT h) (hR : QC L h a) (hk : k ≤ 64) (hc8 : c ≤ 8) (e2 : (a_v a).1 2 = nI k) (e3 : (a_v a).1 3 = nI c) (hc : ¬ ((0 < (a_v a).1 1 ∧ fitP k w) ∧ c = 0)) : Ev pmT 64 [.ref 0, .long w] h (some (.long (-1))) h := by
  have k0 : ph_r h 0 0 = some 1 := hi_r hI rfl rfl (by decide)
  have f := hR.2.2.2.2.1
  have c3 : ph_i h 1 3 = nI c := (f.1 3 (by decide)).trans e3
  have t1 := fit1 (w := w) hI (f.1 1 (by decide)) ((f.1 2 (by decide)).trans e2) hk
  have t0 := fit0 (w := w) hI (f.1 1 (by decide)) ((f.1 2 (by decide)).trans e2) hk
  refine Ev.of (es := cd_64) (ml := 9) (lv := [some (.ref 0), some (.long w), none, none, none, none, none, none, none]) rfl rfl rfl ?_
  obtain ⟨S, fi, fl, fr⟩ := h
  have hS : S = shT := hI.1
  subst hS
  have k0 : fr 0 0 = some 1 := k0
  have c3 : fi 1 3 = nI c := c3
  refine go_of ?_
  by_cases hp : 0 < (a_v a).1 1 ∧ fitP k w
  · have n0 : ¬ c = 0 := fun z => hc ⟨hp, z⟩
    have nc := nI_ne0 (show 0 < c by omega) (by omega)
    refine gp_n 1 (j' := 1) (lv' := [some (.ref 0), some (.long w), none, none, none, none, none, none, none]) (st' := [.ref 0]) (h' := (shT, fi, fl, fr)) rfl ?_
    refine gp_of (fun _ k9 => g_getR (q' := 1) rfl rfl (by decide) k0 k9) ?_
    refine gp_n 1 (j' := 3) (lv' := [some (.ref 0), some (.long w), none, none, none, none, none, none, none]) (st' := [.long w, .ref 1]) (h' := (shT, fi, fl, fr)) rfl ?_
    refine gp_of (fun _ k9 => g_call (y := 56) (as := [.ref 1, .long w]) (st' := []) rfl rfl (t1 hp.1 hp.2) k9) ?_
    refine gp_of (fun _ k9 => g_iff rfl (show ¬ ((1 : Int32) = (0 : Int32)) from by decide) k9) ?_
    refine gp_n 1 (j' := 6) (lv' := [some (.ref 0), some (.long w), none, none, none, none, none, none, none]) (st' := [.ref 0]) (h' := (shT, fi, fl, fr)) rfl ?_
    refine gp_of (fun _ k9 => g_getR (q' := 1) rfl rfl (by decide) k0 k9) ?_
    refine gp_of (fun _ k9 => g_getI (x := nI c) rfl (Or.inl rfl) rfl (by decide) (c3) k9) ?_
    refine gp_of (fun _ k9 => g_iff rfl (show ¬ ((nI c) = (0 : Int32)) from nc) k9) ?_
    refine gp_n 1 (j' := 10) (lv' := [some (.ref 0), some (.long w), none, none, none, none, none, none, none]) (st' := [.long (-1)]) (h' := (shT, fi, fl, fr)) rfl ?_
    refine gp_done (g_lret rfl) ?_
    rfl
  · refine gp_n 1 (j' := 1) (lv' := [some (.ref 0), some (.long w), none, none, none, none, none, none, none]) (st' := [.ref 0]) (h' := (shT, fi, fl, fr)) rfl ?_
    refine gp_of (fun _ k9 => g_getR (q' := 1) rfl rfl (by decide) k0 k9) ?_
    refine gp_n 1 (j' := 3) (lv' := [some (.ref 0), some (.long w), none, none, none, none, none, none, none]) (st' := [.long w, .ref 1]) (h' := (shT, fi, fl, fr)) rfl ?_
    refine gp_of (fun _ k9 => g_call (y := 56) (as := [.ref 1, .long w]) (st' := []) rfl rfl (t0 hp) k9) ?_
    refine gp_of (fun _ k9 => g_ift rfl (show (0 : Int32) = (0 : Int32) from by decide) k9) ?_
    refine gp_n 1 (j' := 10) (lv' := [some (.ref 0), some (.long w), none, none, none, none, none, none, none]) (st' := [.long (-1)]) (h' := (shT, fi, fl, fr)) rfl ?_
    refine gp_done (g_lret rfl) ?_
    rfl
theorem sy_M0 {L : Bool} {h : PmH} {a : AB} {w : Int64} {k c : Nat} (hI : HI hdT shT h) (hR : QM L h a) (hk : k ≤ 64) (hc8 : c ≤ 8) (e2 : (a_v a).1 2 = nI k) (e3 : (a_v a).1 3 = nI c) (hc : ¬ ((0 < (a_v a).1 1 ∧ fitP k w) ∧ c = 0)) : Ev pmT 177 [.ref 70, .long w] h (some (.long (-1))) h := by
  have f := hR.2.2.2.2.1
  have c1 : ph_i h 70 14 = (a_v a).1 1 := f.1 0 (by decide)
  have c2 : ph_i h 70 16 = nI k := (f.1 2 (by decide)).trans e2
  have c3 : ph_i h 70 17 = nI c := (f.1 3 (by decide)).trans e3
  have t1 := fitM1 (w := w) hI c1 c2 hk
  have t0 := fitM0 (w := w) hI c1 c2 hk
  refine Ev.of (es := cd_177) (ml := 7) (lv := [some (.ref 70), some (.long w), none, none, none, none, none]) rfl rfl rfl ?_
  obtain ⟨S, fi, fl, fr⟩ := h
  have hS : S = shT := hI.1
  subst hS
  have c3 : fi 70 17 = nI c := c3
  refine go_of ?_
  by_cases hp : 0 < (a_v a).1 1 ∧ fitP k w
  · have n0 : ¬ c = 0 := fun z => hc ⟨hp, z⟩
    have nc := nI_nle (show 0 < c by omega) (by omega)
    refine gp_n 2 (j' := 2) (lv' := [some (.ref 70), some (.long w), none, none, none, none, none]) (st' := [.long w, .ref 70]) (h' := (shT, fi, fl, fr)) rfl ?_
    refine gp_of (fun _ k9 => g_call (y := 171) (as := [.ref 70, .long w]) (st' := []) rfl rfl (t1 hp.1 hp.2) k9) ?_
    refine gp_of (fun _ k9 => g_iff rfl (show ¬ ((1 : Int32) = (0 : Int32)) from by decide) k9) ?_
    refine gp_n 1 (j' := 5) (lv' := [some (.ref 70), some (.long w), none, none, none, none, none]) (st' := [.ref 70]) (h' := (shT, fi, fl, fr)) rfl ?_
    refine gp_of (fun _ k9 => g_getI (x := nI c) rfl (Or.inl rfl) rfl (by decide) (c3) k9) ?_
    refine gp_of (fun _ k9 => g_iff rfl (show ¬ ((nI c) ≤ (0 : Int32)) from nc) k9) ?_
    refine gp_n 1 (j' := 8) (lv' := [some (.ref 70), some (.long w), none, none, none, none, none]) (st' := [.long (-1)]) (h' := (shT, fi, fl, fr)) rfl ?_
    refine gp_done (g_lret rfl) ?_
    rfl
  · refine gp_n 2 (j' := 2) (lv' := [some (.ref 70), some (.long w), none, none, none, none, none]) (st' := [.long w, .ref 70]) (h' := (shT, fi, fl, fr)) rfl ?_
    refine gp_of (fun _ k9 => g_call (y := 171) (as := [.ref 70, .long w]) (st' := []) rfl rfl (t0 hp) k9) ?_
    refine gp_of (fun _ k9 => g_ift rfl (show (0 : Int32) = (0 : Int32) from by decide) k9) ?_
    refine gp_n 1 (j' := 8) (lv' := [some (.ref 70), some (.long w), none, none, none, none, none]) (st' := [.long (-1)]) (h' := (shT, fi, fl, fr)) rfl ?_
    refine gp_done (g_lret rfl) ?_
    rfl
section PAIR5
variable {h : PmH} {a : AB}
theorem p_systematic (w : Int64) (hr : REL2 h a) : PL 64 177 [.long w] h (fun x y => x = y) := by
  obtain ⟨⟨hI, hC, hM, hA⟩, hV⟩ := id hr
  have hb := hi_i (lo := 0) (hi := 8) hI (p := 1) (c := 3) rfl rfl (by decide)
  rw [hC.2.2.2.2.1.1 3 (by decide)] at hb
  obtain ⟨c, c1, c2, -⟩ := i32_nI (y := (a_v a).1 3) hb.1
  by_cases h0 : 0 < (a_v a).1 1
  · obtain ⟨m, k, c', vk⟩ := vok_N hV.1 h0
    have ec : c' = c := by
      have := vk.2.2.2.2.2.1
      rw [c1] at this
      have h8 := vk.2.1
      exact ((nI_eq (by omega) (by omega)).mp this).symm
    subst ec
    by_cases hp : (0 < (a_v a).1 1 ∧ fitP k w) ∧ c' = 0
    · obtain ⟨hp, z0⟩ := hp
      subst z0
      obtain ⟨p1, r1, q1, s1, e1⟩ := sy_C1 hI hC vk hp
      obtain ⟨p2, r2, q2, s2, e2⟩ := sy_M1 hI hM vk hp
      have ep := dpP_eq q1 q2
      subst ep
      exact ⟨_, _, h, h, a, e1, e2, hr, hI, syP_eq s1 s2⟩
    · exact ⟨_, _, h, h, a, sy_C0 hI hC (vk_k vk) vk.2.1 vk.2.2.2.2.1 c1 hp, sy_M0 hI hM (vk_k vk) vk.2.1 vk.2.2.2.2.1 c1 hp, hr, hI, rfl⟩
  · obtain ⟨k, k1, k2⟩ := k_N hr
    have hp : ¬ ((0 < (a_v a).1 1 ∧ fitP k w) ∧ c = 0) := fun z => h0 z.1.1
    exact ⟨_, _, h, h, a, sy_C0 hI hC k1 (by omega) k2 c1 hp, sy_M0 hI hM k1 (by omega) k2 c1 hp, hr, hI, rfl⟩
end PAIR5
