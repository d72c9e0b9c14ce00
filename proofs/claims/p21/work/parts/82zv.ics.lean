/-! CUT SHORT: the class's question -/
theorem bfN_ge {B : Nat} : ∀ (n l : Nat) {f : Nat → Bool}, (∀ s, B ≤ s → f s = false) → ∀ t, B ≤ t → bfN l n f t = false
  | 0, _, _, h, t, ht => h t ht
  | n + 1, l, f, h, t, ht => by
    show bfN (l + 1) n (bfl l f) t = false
    refine bfN_ge n (l + 1) (fun s hs => ?_) t ht
    unfold bfl
    rw [h s hs, h (s + 2 ^ l) (Nat.le_trans hs (Nat.le_add_right _ _))]
    split <;> rfl
theorem RDs_xt {m c lo : Nat} {S : Nat → Int32} {x y : RSt} {h : PmH} (e1 : y.1 = x.1) (e2 : ∀ p, p < x.1 → y.2.1 p = x.2.1 p ∧ y.2.2 p = x.2.2 p) (hx : RDs m S x c lo h) : RDs m S y c lo h := by
  obtain ⟨A, hA, ⟨a1, a2, a3, a4⟩, b⟩ := hx
  refine ⟨A, hA, ⟨a1, a2, a3.trans (by rw [e1]), fun p hp => ?_⟩, fun l l1 l2 p hp => ?_⟩
  · rw [e1] at hp
    rw [(e2 p hp).1, (e2 p hp).2]
    exact a4 p hp
  · rw [e1] at hp
    rw [(e2 p hp).1]
    exact b l l1 l2 p hp
theorem fr_e {K : Int64} {c q : Nat} (hc : c + 2 ^ q ≤ 64) (t : Nat) (ht : t < 64) : bl (us6 K (nI c) &&& lwb (2 ^ q)) t = (bl K (c + t) && decide (t < 2 ^ q)) := by
  have pq := Nat.two_pow_pos q
  rw [bl_and, bl_us c (by omega), lwb_bl (2 ^ q) (by omega) t ht]
theorem fr_0 {K : Int64} {c q : Nat} (hc : c + 2 ^ q ≤ 64) : us6 K (nI c) &&& lwb (2 ^ q) = 0 ↔ ∀ t, t < 2 ^ q → bl K (c + t) = false := by
  constructor
  · intro h t ht
    have z := fr_e (K := K) hc t (by omega)
    rw [h, bl_0 t (by omega), decide_eq_true ht, Bool.and_true] at z
    exact z.symm
  · intro h
    refine bl_ext (fun t ht => ?_)
    rw [fr_e hc t ht, bl_0 t ht]
    by_cases z : t < 2 ^ q
    · rw [h t z, Bool.false_and]
    · rw [decide_eq_false z, Bool.and_false]
theorem fr_1 {K : Int64} {c q : Nat} (hc : c + 2 ^ q ≤ 64) : us6 K (nI c) &&& lwb (2 ^ q) = lwb (2 ^ q) ↔ ∀ t, t < 2 ^ q → bl K (c + t) = true := by
  constructor
  · intro h t ht
    have z := fr_e (K := K) hc t (by omega)
    rw [h, lwb_bl (2 ^ q) (by omega) t (by omega), decide_eq_true ht, Bool.and_true] at z
    exact z.symm
  · intro h
    refine bl_ext (fun t ht => ?_)
    rw [fr_e hc t ht, lwb_bl (2 ^ q) (by omega) t ht]
    by_cases z : t < 2 ^ q
    · rw [h t z, Bool.true_and]
    · rw [decide_eq_false z, Bool.and_false]
/-- whether a node is cut short -/
def ctF (K : Int64) (m : Nat) (S : Nat → Int32) (most q c : Nat) : Bool := decide (∀ t, t < 2 ^ q → bl K (c + t) = false) || (decide (most = 1) && decide (∀ t, t < 2 ^ q → bl K (c + t) = true) && decide (∀ t, t < 2 ^ q → ¬ ndL m S (bl ((rdN K m S most c).2.1 0)) c q t = 0))
theorem fzn_evE {h : PmH} {m c q : Nat} {S : Nat → Int32} {x : RSt} (hI : HI hdT shT h) (hx : RDs m S x c q h) (hP : x.1 ≤ 8) (hm : m ≤ 6) (hq : q ≤ m) (hS : ∀ s, s < 64 → -127 ≤ (S s).toInt ∧ (S s).toInt ≤ 127) : ∃ h', Ev pmT 91 [.ref 13, .int (nI q)] h none h' ∧ RDs m S (x.1, x.2.1, fun p => x.2.2 p + fsm (fun j => coS (ndL m S (bl (x.2.1 p)) c q j) false) (2 ^ q)) c q h' := by
  obtain ⟨A, rfl | rfl, h1, h2⟩ := hx
  · obtain ⟨h', a1, a2, a3⟩ := fzn_ev_14 hI h1 h2 hP hm hq hS
    exact ⟨h', a1, 14, Or.inl rfl, a2, a3⟩
  · obtain ⟨h', a1, a2, a3⟩ := fzn_ev_18 hI h1 h2 hP hm hq hS
    exact ⟨h', a1, 18, Or.inr rfl, a2, a3⟩
theorem hz_evE {h : PmH} {m c q : Nat} {S : Nat → Int32} {x : RSt} (hI : HI hdT shT h) (hx : RDs m S x c q h) (hP : 1 ≤ x.1) (hm : m ≤ 6) (hq : q ≤ m) : Ev pmT 92 [.ref 13, .int (nI q)] h (some (.int (b01 (!decide (∀ t, t < 2 ^ q → ¬ ndL m S (bl (x.2.1 0)) c q t = 0))))) h := by
  obtain ⟨A, rfl | rfl, h1, h2⟩ := hx
  · exact hz_ev_14 hI h1 h2 hP hm hq
  · exact hz_ev_18 hI h1 h2 hP hm hq
theorem tk_evE {h : PmH} {m c q : Nat} {S : Nat → Int32} {x : RSt} {B : Int64} (hI : HI hdT shT h) (hx : RDs m S x c q h) (hP : x.1 = 1) (hm : m ≤ 6) (hq : q ≤ m) (hc : c < 64) (hcq : c % 2 ^ q = 0) (hB : ∀ t, t < 64 → bl B t = (bl (x.2.1 0) t || (decide (c ≤ t) && bfN 0 q (fun j => decide (j < 2 ^ q) && decide (ndL m S (bl (x.2.1 0)) c q j < 0)) (t - c)))) (hBl : ∀ t, t < c → bl B t = bl (x.2.1 0) t) : ∃ h', Ev pmT 93 [.ref 13, .int (nI c), .int (nI q)] h none h' ∧ RDs m S (1, (fun _ => B), fun _ => x.2.2 0) c q h' := by
  obtain ⟨A, rfl | rfl, h1, h2⟩ := hx
  · obtain ⟨h', a1, a2, a3⟩ := tk_ev_14 hI h1 h2 hP hm hq hc hcq hB hBl
    exact ⟨h', a1, 14, Or.inl rfl, a2, a3⟩
  · obtain ⟨h', a1, a2, a3⟩ := tk_ev_18 hI h1 h2 hP hm hq hc hcq hB hBl
    exact ⟨h', a1, 18, Or.inr rfl, a2, a3⟩
theorem ic_ev {h : PmH} {m c q most : Nat} {K : Int64} {S : Nat → Int32} (hI : HI hdT shT h) (hx : RDs m S (rdN K m S most c) c q h) (hmo1 : 1 ≤ most) (hmo : most ≤ 8) (hm : m ≤ 6) (hq : q ≤ m) (hc : c + 2 ^ q ≤ 2 ^ m) (hcq : c % 2 ^ q = 0) (hS : ∀ s, s < 64 → -127 ≤ (S s).toInt ∧ (S s).toInt ≤ 127) (c12 : ph_r h 13 12 = some 1) (c13 : ph_i h 13 13 = nI most) (c7 : ph_l h 1 7 = K) : ∃ h', Ev pmT 90 [.ref 13, .int (nI c), .int (nI q)] h (some (.int (b01 (ctF K m S most q c)))) h' ∧ (ctF K m S most q c = true → RDs m S (rdN K m S most (c + 2 ^ q)) c q h') ∧ (ctF K m S most q c = false → h' = h) ∧ HI hdT shT h' ∧ fram (in_w iN_84) h h' := by
  have p6 := pw_6 m (by omega)
  have pq := Nat.two_pow_pos q
  have hP := rd_P (K := K) (m := m) (S := S) hmo1 c
  have eb : 2 ^ q * (c / 2 ^ q) = c := by
    rw [Nat.mul_comm]
    exact dvq hcq
  have f0 := fr_0 (K := K) (c := c) (q := q) (by omega)
  have f1 := fr_1 (K := K) (c := c) (q := q) (by omega)
  have sh := shI q (by omega)
  have iv1 := fun v h' e => iv_s (v := v) (h' := h') (as := [.ref 13, .int (nI c), .int (nI q)]) vN_84 rfl (fun _ _ => gz_c (gz_r (by decide)) (gz_c (gz_i (by rw [nI_toInt (by omega)]; omega) (by rw [nI_toInt (by omega)]; omega)) (gz_c (gz_i (by rw [nI_toInt (by omega)]; omega) (by rw [nI_toInt (by omega)]; omega)) gz_n))) hI e
  have lw := lwb_ev (k := 2 ^ q) (by omega) (h := h)
  by_cases hf : ∀ t, t < 2 ^ q → bl K (c + t) = false
  · have ct : ctF K m S most q c = true := by
      unfold ctF
      rw [decide_eq_true hf]
      rfl
    have rf := rd_frz (K := K) (most := most) hm hS q (c / 2 ^ q) hq (by rw [eb]; exact hc) (by rw [eb]; exact hf)
    rw [eb] at rf
    obtain ⟨h', e1, x1⟩ := fzn_evE hI hx (by omega) hm hq hS
    rw [← rf] at x1
    have I1 := (iv_s (v := none) (as := [.ref 13, .int (nI q)]) vN_81 rfl (fun _ _ => gz_c (gz_r (by decide)) (gz_c (gz_i (by rw [nI_toInt (by omega)]; omega) (by rw [nI_toInt (by omega)]; omega)) gz_n)) hI e1).1
    have ev : Ev pmT 90 [.ref 13, .int (nI c), .int (nI q)] h (some (.int 1)) h' := by
      have g0 := f0.mpr hf
      clear x1 rf iv1 hx f0 f1 hf hS ct
      generalize 2 ^ q = Q at *
      generalize hfv : us6 K (nI c) &&& lwb Q = fv at *
      unfold us6 at hfv
      generalize lwb Q = al at *
      refine Ev.of (es := cd_90) (ml := 7) (lv := [some (.ref 13), some (.int (nI c)), some (.int (nI q)), none, none, none, none]) rfl rfl rfl ?_
      obtain ⟨S2, fi2, fl2, fr2⟩ := h'
      have s2 : S2 = shT := I1.1
      subst s2
      obtain ⟨S, fi, fl, fr⟩ := h
      have hS : S = shT := hI.1
      subst hS
      have c12 : fr 13 12 = some 1 := c12
      have c7 : fl 1 7 = K := c7
      refine go_of ?_
      refine gp_n 3 (j' := 3) (lv' := [some (.ref 13), some (.int (nI c)), some (.int (nI q)), none, none, none, none]) (st' := [.int ((1 : Int32) <<< ((nI q) &&& 31))]) (h' := (shT, fi, fl, fr)) rfl ?_
      rw [sh]
      refine gp_of (fun _ k9 => g_call (y := 54) (as := [.int (nI Q)]) (st' := []) rfl rfl (lw) k9) ?_
      refine gp_n 2 (j' := 6) (lv' := [some (.ref 13), some (.int (nI c)), some (.int (nI q)), some (.long al), none, none, none]) (st' := [.ref 13]) (h' := (shT, fi, fl, fr)) rfl ?_
      refine gp_of (fun _ k9 => g_getR (q' := 1) rfl rfl (by decide) c12 k9) ?_
      refine gp_of (fun _ k9 => g_getL (x := K) rfl rfl (by decide) (c7) k9) ?_
      refine gp_n 4 (j' := 12) (lv' := [some (.ref 13), some (.int (nI c)), some (.int (nI q)), some (.long al), none, none, none]) (st' := [.long (((K.toUInt64 >>> ((nI c : Int32).toInt64.toUInt64 &&& Int64.toUInt64 63)).toInt64) &&& al)]) (h' := (shT, fi, fl, fr)) rfl ?_
      rw [hfv]
      refine gp_n 4 (j' := 16) (lv' := [some (.ref 13), some (.int (nI c)), some (.int (nI q)), some (.long al), none, some (.long fv), none]) (st' := [.int (lg_cmp fv 0)]) (h' := (shT, fi, fl, fr)) rfl ?_
      refine gp_of (fun _ k9 => g_iff rfl (show ¬ (¬ (lg_cmp fv 0) = (0 : Int32)) from (by rw [lg_cmp_eq]; exact fun z => z g0)) k9) ?_
      refine gp_n 2 (j' := 19) (lv' := [some (.ref 13), some (.int (nI c)), some (.int (nI q)), some (.long al), none, some (.long fv), none]) (st' := [.int (nI q), .ref 13]) (h' := (shT, fi, fl, fr)) rfl ?_
      refine gp_of (fun _ k9 => g_callv (y := 91) (as := [.ref 13, .int (nI q)]) (st' := []) rfl rfl (e1) k9) ?_
      refine gp_n 1 (j' := 21) (lv' := [some (.ref 13), some (.int (nI c)), some (.int (nI q)), some (.long al), none, some (.long fv), none]) (st' := [.int 1]) (h' := (shT, fi2, fl2, fr2)) rfl ?_
      refine gp_done (g_retz rfl (by decide)) ?_
      rfl
    rw [ct]
    exact ⟨h', ev, fun _ => x1, fun z => absurd z (by decide), iv1 _ _ ev⟩
  · have nf : ¬ us6 K (nI c) &&& lwb (2 ^ q) = 0 := fun z => hf (f0.mp z)
    have no : ctF K m S most q c = false → Ev pmT 90 [.ref 13, .int (nI c), .int (nI q)] h (some (.int 0)) h → ∃ h', Ev pmT 90 [.ref 13, .int (nI c), .int (nI q)] h (some (.int (b01 (ctF K m S most q c)))) h' ∧ (ctF K m S most q c = true → RDs m S (rdN K m S most (c + 2 ^ q)) c q h') ∧ (ctF K m S most q c = false → h' = h) ∧ HI hdT shT h' ∧ fram (in_w iN_84) h h' := fun ct ev => by
      rw [ct]
      exact ⟨h, ev, fun z => absurd z (by decide), fun _ => rfl, iv1 _ _ ev⟩
    by_cases ha : ∀ t, t < 2 ^ q → bl K (c + t) = true
    · have g1 := f1.mpr ha
      by_cases hmo2 : most = 1
      · have em : nI most = 1 := by rw [hmo2]; rfl
        have hz := hz_evE hI hx hP.1 hm hq
        by_cases hs : ∀ t, t < 2 ^ q → ¬ ndL m S (bl ((rdN K m S most c).2.1 0)) c q t = 0
        · have ct : ctF K m S most q c = true := by
            unfold ctF
            rw [decide_eq_true hs, decide_eq_true ha, decide_eq_true hmo2, Bool.and_true, Bool.and_true, Bool.or_true]
          rw [decide_eq_true hs] at hz
          have hz : Ev pmT 92 [.ref 13, .int (nI q)] h (some (.int 0)) h := hz
          rw [ct]
          subst hmo2
          obtain ⟨r1, r2, r3⟩ := rd_tak (K := K) hm hS q (c / 2 ^ q) hq (by rw [eb]; exact hc) (by rw [eb]; exact ha) (by rw [eb]; exact hs)
          rw [eb] at r1 r2 r3
          have hP2 := rd_P (K := K) (m := m) (S := S) (most := 1) hmo1 (c + 2 ^ q)
          obtain ⟨h', e1, x1⟩ := tk_evE (B := (rdN K m S 1 (c + 2 ^ q)).2.1 0) hI hx (by omega) hm hq (by omega) hcq (fun t ht => by
            by_cases z : c ≤ t
            · by_cases z2 : t < c + 2 ^ q
              · obtain ⟨s, rfl⟩ : ∃ s, t = c + s := ⟨t - c, by omega⟩
                have b0 : bl ((rdN K m S 1 c).2.1 0) (c + s) = false := by
                  cases e : bl ((rdN K m S 1 c).2.1 0) (c + s)
                  · rfl
                  · exact absurd (rd_B c (by omega) 0 (c + s) ht e).1 (by omega)
                rw [r2 s (by omega), b0, Bool.false_or, decide_eq_true z, Bool.true_and, show c + s - c = s by omega]
                exact bfN_lc (q := q) (by omega) q 0 (by omega) (fun j hj => by
                  show _ = (decide (j < 2 ^ q) && _)
                  rw [decide_eq_true hj]
                  rfl) s (by omega)
              · rw [r3 t ht (by omega), bfN_ge (B := 2 ^ q) q 0 (fun s hs => by
                  show (decide (s < 2 ^ q) && _) = false
                  rw [decide_eq_false (by omega)]
                  rfl) (t - c) (by omega), Bool.and_false, Bool.or_false]
            · rw [r3 t ht (by omega), decide_eq_false z, Bool.false_and, Bool.or_false]) (fun t ht => r3 t (by omega) (by omega))
          have x2 : RDs m S (rdN K m S 1 (c + 2 ^ q)) c q h' := RDs_xt (x := (1, (fun _ => (rdN K m S 1 (c + 2 ^ q)).2.1 0), fun _ => (rdN K m S 1 c).2.2 0)) (by show (rdN K m S 1 (c + 2 ^ q)).1 = 1; omega) (fun p hp => by
            have hp : p < 1 := hp
            have hp : p = 0 := by omega
            subst hp
            exact ⟨rfl, r1⟩) x1
          have I1 := (iv_s (v := none) (as := [.ref 13, .int (nI c), .int (nI q)]) vN_83 rfl (fun _ _ => gz_c (gz_r (by decide)) (gz_c (gz_i (by rw [nI_toInt (by omega)]; omega) (by rw [nI_toInt (by omega)]; omega)) (gz_c (gz_i (by rw [nI_toInt (by omega)]; omega) (by rw [nI_toInt (by omega)]; omega)) gz_n))) hI e1).1
          have ev : Ev pmT 90 [.ref 13, .int (nI c), .int (nI q)] h (some (.int 1)) h' := by
            clear x1 x2 r1 r2 r3 iv1 hx f0 f1 hf ha hs hS ct no hP2
            generalize 2 ^ q = Q at *
            generalize hfv : us6 K (nI c) &&& lwb Q = fv at *
            unfold us6 at hfv
            generalize lwb Q = al at *
            refine Ev.of (es := cd_90) (ml := 7) (lv := [some (.ref 13), some (.int (nI c)), some (.int (nI q)), none, none, none, none]) rfl rfl rfl ?_
            obtain ⟨S2, fi2, fl2, fr2⟩ := h'
            have s2 : S2 = shT := I1.1
            subst s2
            obtain ⟨S, fi, fl, fr⟩ := h
            have hS : S = shT := hI.1
            subst hS
            have c12 : fr 13 12 = some 1 := c12
            have c13 : fi 13 13 = nI 1 := c13
            have c7 : fl 1 7 = K := c7
            refine go_of ?_
            refine gp_n 3 (j' := 3) (lv' := [some (.ref 13), some (.int (nI c)), some (.int (nI q)), none, none, none, none]) (st' := [.int ((1 : Int32) <<< ((nI q) &&& 31))]) (h' := (shT, fi, fl, fr)) rfl ?_
            rw [sh]
            refine gp_of (fun _ k9 => g_call (y := 54) (as := [.int (nI Q)]) (st' := []) rfl rfl (lw) k9) ?_
            refine gp_n 2 (j' := 6) (lv' := [some (.ref 13), some (.int (nI c)), some (.int (nI q)), some (.long al), none, none, none]) (st' := [.ref 13]) (h' := (shT, fi, fl, fr)) rfl ?_
            refine gp_of (fun _ k9 => g_getR (q' := 1) rfl rfl (by decide) c12 k9) ?_
            refine gp_of (fun _ k9 => g_getL (x := K) rfl rfl (by decide) (c7) k9) ?_
            refine gp_n 4 (j' := 12) (lv' := [some (.ref 13), some (.int (nI c)), some (.int (nI q)), some (.long al), none, none, none]) (st' := [.long (((K.toUInt64 >>> ((nI c : Int32).toInt64.toUInt64 &&& Int64.toUInt64 63)).toInt64) &&& al)]) (h' := (shT, fi, fl, fr)) rfl ?_
            rw [hfv]
            refine gp_n 4 (j' := 16) (lv' := [some (.ref 13), some (.int (nI c)), some (.int (nI q)), some (.long al), none, some (.long fv), none]) (st' := [.int (lg_cmp fv 0)]) (h' := (shT, fi, fl, fr)) rfl ?_
            refine gp_of (fun _ k9 => g_ift rfl (show ¬ (lg_cmp fv 0) = (0 : Int32) from (by rw [lg_cmp_eq]; exact nf)) k9) ?_
            refine gp_n 3 (j' := 25) (lv' := [some (.ref 13), some (.int (nI c)), some (.int (nI q)), some (.long al), none, some (.long fv), none]) (st' := [.int (lg_cmp fv al)]) (h' := (shT, fi, fl, fr)) rfl ?_
            refine gp_of (fun _ k9 => g_iff rfl (show ¬ (¬ (lg_cmp fv al) = (0 : Int32)) from (by rw [lg_cmp_eq]; exact fun z => z g1)) k9) ?_
            refine gp_n 1 (j' := 27) (lv' := [some (.ref 13), some (.int (nI c)), some (.int (nI q)), some (.long al), none, some (.long fv), none]) (st' := [.ref 13]) (h' := (shT, fi, fl, fr)) rfl ?_
            refine gp_of (fun _ k9 => g_getI (x := nI 1) rfl (Or.inl rfl) rfl (by decide) (c13) k9) ?_
            refine gp_n 1 (j' := 29) (lv' := [some (.ref 13), some (.int (nI c)), some (.int (nI q)), some (.long al), none, some (.long fv), none]) (st' := [.int 1, .int (nI 1)]) (h' := (shT, fi, fl, fr)) rfl ?_
            refine gp_of (fun _ k9 => g_icf rfl (show ¬ (¬ (nI 1) = (1 : Int32)) from (fun z => z em)) k9) ?_
            refine gp_n 2 (j' := 32) (lv' := [some (.ref 13), some (.int (nI c)), some (.int (nI q)), some (.long al), none, some (.long fv), none]) (st' := [.int (nI q), .ref 13]) (h' := (shT, fi, fl, fr)) rfl ?_
            refine gp_of (fun _ k9 => g_call (y := 92) (as := [.ref 13, .int (nI q)]) (st' := []) rfl rfl (hz) k9) ?_
            refine gp_of (fun _ k9 => g_ift rfl (show (0 : Int32) = (0 : Int32) from by decide) k9) ?_
            refine gp_n 3 (j' := 39) (lv' := [some (.ref 13), some (.int (nI c)), some (.int (nI q)), some (.long al), none, some (.long fv), none]) (st' := [.int (nI q), .int (nI c), .ref 13]) (h' := (shT, fi, fl, fr)) rfl ?_
            refine gp_of (fun _ k9 => g_callv (y := 93) (as := [.ref 13, .int (nI c), .int (nI q)]) (st' := []) rfl rfl (e1) k9) ?_
            refine gp_n 1 (j' := 41) (lv' := [some (.ref 13), some (.int (nI c)), some (.int (nI q)), some (.long al), none, some (.long fv), none]) (st' := [.int 1]) (h' := (shT, fi2, fl2, fr2)) rfl ?_
            refine gp_done (g_retz rfl (by decide)) ?_
            rfl
          exact ⟨h', ev, fun _ => x2, fun z => absurd z (by decide), iv1 _ _ ev⟩
        · rw [decide_eq_false hs] at hz
          have hz : Ev pmT 92 [.ref 13, .int (nI q)] h (some (.int 1)) h := hz
          refine no (by
            unfold ctF
            rw [decide_eq_false hf, decide_eq_false hs, Bool.and_false, Bool.or_false]) ?_
          clear iv1 hx f0 f1 hf ha hS no hs
          generalize 2 ^ q = Q at *
          generalize hfv : us6 K (nI c) &&& lwb Q = fv at *
          unfold us6 at hfv
          generalize lwb Q = al at *
          refine Ev.of (es := cd_90) (ml := 7) (lv := [some (.ref 13), some (.int (nI c)), some (.int (nI q)), none, none, none, none]) rfl rfl rfl ?_
          obtain ⟨S, fi, fl, fr⟩ := h
          have hS : S = shT := hI.1
          subst hS
          have c12 : fr 13 12 = some 1 := c12
          have c13 : fi 13 13 = nI most := c13
          have c7 : fl 1 7 = K := c7
          refine go_of ?_
          refine gp_n 3 (j' := 3) (lv' := [some (.ref 13), some (.int (nI c)), some (.int (nI q)), none, none, none, none]) (st' := [.int ((1 : Int32) <<< ((nI q) &&& 31))]) (h' := (shT, fi, fl, fr)) rfl ?_
          rw [sh]
          refine gp_of (fun _ k9 => g_call (y := 54) (as := [.int (nI Q)]) (st' := []) rfl rfl (lw) k9) ?_
          refine gp_n 2 (j' := 6) (lv' := [some (.ref 13), some (.int (nI c)), some (.int (nI q)), some (.long al), none, none, none]) (st' := [.ref 13]) (h' := (shT, fi, fl, fr)) rfl ?_
          refine gp_of (fun _ k9 => g_getR (q' := 1) rfl rfl (by decide) c12 k9) ?_
          refine gp_of (fun _ k9 => g_getL (x := K) rfl rfl (by decide) (c7) k9) ?_
          refine gp_n 4 (j' := 12) (lv' := [some (.ref 13), some (.int (nI c)), some (.int (nI q)), some (.long al), none, none, none]) (st' := [.long (((K.toUInt64 >>> ((nI c : Int32).toInt64.toUInt64 &&& Int64.toUInt64 63)).toInt64) &&& al)]) (h' := (shT, fi, fl, fr)) rfl ?_
          rw [hfv]
          refine gp_n 4 (j' := 16) (lv' := [some (.ref 13), some (.int (nI c)), some (.int (nI q)), some (.long al), none, some (.long fv), none]) (st' := [.int (lg_cmp fv 0)]) (h' := (shT, fi, fl, fr)) rfl ?_
          refine gp_of (fun _ k9 => g_ift rfl (show ¬ (lg_cmp fv 0) = (0 : Int32) from (by rw [lg_cmp_eq]; exact nf)) k9) ?_
          refine gp_n 3 (j' := 25) (lv' := [some (.ref 13), some (.int (nI c)), some (.int (nI q)), some (.long al), none, some (.long fv), none]) (st' := [.int (lg_cmp fv al)]) (h' := (shT, fi, fl, fr)) rfl ?_
          refine gp_of (fun _ k9 => g_iff rfl (show ¬ (¬ (lg_cmp fv al) = (0 : Int32)) from (by rw [lg_cmp_eq]; exact fun z => z g1)) k9) ?_
          refine gp_n 1 (j' := 27) (lv' := [some (.ref 13), some (.int (nI c)), some (.int (nI q)), some (.long al), none, some (.long fv), none]) (st' := [.ref 13]) (h' := (shT, fi, fl, fr)) rfl ?_
          refine gp_of (fun _ k9 => g_getI (x := nI most) rfl (Or.inl rfl) rfl (by decide) (c13) k9) ?_
          refine gp_n 1 (j' := 29) (lv' := [some (.ref 13), some (.int (nI c)), some (.int (nI q)), some (.long al), none, some (.long fv), none]) (st' := [.int 1, .int (nI most)]) (h' := (shT, fi, fl, fr)) rfl ?_
          refine gp_of (fun _ k9 => g_icf rfl (show ¬ (¬ (nI most) = (1 : Int32)) from (fun z => z em)) k9) ?_
          refine gp_n 2 (j' := 32) (lv' := [some (.ref 13), some (.int (nI c)), some (.int (nI q)), some (.long al), none, some (.long fv), none]) (st' := [.int (nI q), .ref 13]) (h' := (shT, fi, fl, fr)) rfl ?_
          refine gp_of (fun _ k9 => g_call (y := 92) (as := [.ref 13, .int (nI q)]) (st' := []) rfl rfl (hz) k9) ?_
          refine gp_of (fun _ k9 => g_iff rfl (show ¬ ((1 : Int32) = (0 : Int32)) from by decide) k9) ?_
          refine gp_n 1 (j' := 35) (lv' := [some (.ref 13), some (.int (nI c)), some (.int (nI q)), some (.long al), none, some (.long fv), none]) (st' := [.int 0]) (h' := (shT, fi, fl, fr)) rfl ?_
          refine gp_done (g_retz rfl (by decide)) ?_
          rfl
      · have em : ¬ nI most = 1 := fun z => hmo2 ((nI_eq (b := 1) (by omega) (by omega)).mp z)
        refine no (by
          unfold ctF
          rw [decide_eq_false hf, decide_eq_false hmo2, Bool.false_and, Bool.false_and, Bool.or_false]) ?_
        clear iv1 hx f0 f1 hf ha hS no
        generalize 2 ^ q = Q at *
        generalize hfv : us6 K (nI c) &&& lwb Q = fv at *
        unfold us6 at hfv
        generalize lwb Q = al at *
        refine Ev.of (es := cd_90) (ml := 7) (lv := [some (.ref 13), some (.int (nI c)), some (.int (nI q)), none, none, none, none]) rfl rfl rfl ?_
        obtain ⟨S, fi, fl, fr⟩ := h
        have hS : S = shT := hI.1
        subst hS
        have c12 : fr 13 12 = some 1 := c12
        have c13 : fi 13 13 = nI most := c13
        have c7 : fl 1 7 = K := c7
        refine go_of ?_
        refine gp_n 3 (j' := 3) (lv' := [some (.ref 13), some (.int (nI c)), some (.int (nI q)), none, none, none, none]) (st' := [.int ((1 : Int32) <<< ((nI q) &&& 31))]) (h' := (shT, fi, fl, fr)) rfl ?_
        rw [sh]
        refine gp_of (fun _ k9 => g_call (y := 54) (as := [.int (nI Q)]) (st' := []) rfl rfl (lw) k9) ?_
        refine gp_n 2 (j' := 6) (lv' := [some (.ref 13), some (.int (nI c)), some (.int (nI q)), some (.long al), none, none, none]) (st' := [.ref 13]) (h' := (shT, fi, fl, fr)) rfl ?_
        refine gp_of (fun _ k9 => g_getR (q' := 1) rfl rfl (by decide) c12 k9) ?_
        refine gp_of (fun _ k9 => g_getL (x := K) rfl rfl (by decide) (c7) k9) ?_
        refine gp_n 4 (j' := 12) (lv' := [some (.ref 13), some (.int (nI c)), some (.int (nI q)), some (.long al), none, none, none]) (st' := [.long (((K.toUInt64 >>> ((nI c : Int32).toInt64.toUInt64 &&& Int64.toUInt64 63)).toInt64) &&& al)]) (h' := (shT, fi, fl, fr)) rfl ?_
        rw [hfv]
        refine gp_n 4 (j' := 16) (lv' := [some (.ref 13), some (.int (nI c)), some (.int (nI q)), some (.long al), none, some (.long fv), none]) (st' := [.int (lg_cmp fv 0)]) (h' := (shT, fi, fl, fr)) rfl ?_
        refine gp_of (fun _ k9 => g_ift rfl (show ¬ (lg_cmp fv 0) = (0 : Int32) from (by rw [lg_cmp_eq]; exact nf)) k9) ?_
        refine gp_n 3 (j' := 25) (lv' := [some (.ref 13), some (.int (nI c)), some (.int (nI q)), some (.long al), none, some (.long fv), none]) (st' := [.int (lg_cmp fv al)]) (h' := (shT, fi, fl, fr)) rfl ?_
        refine gp_of (fun _ k9 => g_iff rfl (show ¬ (¬ (lg_cmp fv al) = (0 : Int32)) from (by rw [lg_cmp_eq]; exact fun z => z g1)) k9) ?_
        refine gp_n 1 (j' := 27) (lv' := [some (.ref 13), some (.int (nI c)), some (.int (nI q)), some (.long al), none, some (.long fv), none]) (st' := [.ref 13]) (h' := (shT, fi, fl, fr)) rfl ?_
        refine gp_of (fun _ k9 => g_getI (x := nI most) rfl (Or.inl rfl) rfl (by decide) (c13) k9) ?_
        refine gp_n 1 (j' := 29) (lv' := [some (.ref 13), some (.int (nI c)), some (.int (nI q)), some (.long al), none, some (.long fv), none]) (st' := [.int 1, .int (nI most)]) (h' := (shT, fi, fl, fr)) rfl ?_
        refine gp_of (fun _ k9 => g_ict rfl (show ¬ (nI most) = (1 : Int32) from em) k9) ?_
        refine gp_n 1 (j' := 35) (lv' := [some (.ref 13), some (.int (nI c)), some (.int (nI q)), some (.long al), none, some (.long fv), none]) (st' := [.int 0]) (h' := (shT, fi, fl, fr)) rfl ?_
        refine gp_done (g_retz rfl (by decide)) ?_
        rfl
    · have g1 : ¬ us6 K (nI c) &&& lwb (2 ^ q) = lwb (2 ^ q) := fun z => ha (f1.mp z)
      refine no (by
        unfold ctF
        rw [decide_eq_false hf, decide_eq_false ha, Bool.and_false, Bool.false_and, Bool.or_false]) ?_
      clear iv1 hx f0 f1 hf ha hS no
      generalize 2 ^ q = Q at *
      generalize hfv : us6 K (nI c) &&& lwb Q = fv at *
      unfold us6 at hfv
      generalize lwb Q = al at *
      refine Ev.of (es := cd_90) (ml := 7) (lv := [some (.ref 13), some (.int (nI c)), some (.int (nI q)), none, none, none, none]) rfl rfl rfl ?_
      obtain ⟨S, fi, fl, fr⟩ := h
      have hS : S = shT := hI.1
      subst hS
      have c12 : fr 13 12 = some 1 := c12
      have c13 : fi 13 13 = nI most := c13
      have c7 : fl 1 7 = K := c7
      refine go_of ?_
      refine gp_n 3 (j' := 3) (lv' := [some (.ref 13), some (.int (nI c)), some (.int (nI q)), none, none, none, none]) (st' := [.int ((1 : Int32) <<< ((nI q) &&& 31))]) (h' := (shT, fi, fl, fr)) rfl ?_
      rw [sh]
      refine gp_of (fun _ k9 => g_call (y := 54) (as := [.int (nI Q)]) (st' := []) rfl rfl (lw) k9) ?_
      refine gp_n 2 (j' := 6) (lv' := [some (.ref 13), some (.int (nI c)), some (.int (nI q)), some (.long al), none, none, none]) (st' := [.ref 13]) (h' := (shT, fi, fl, fr)) rfl ?_
      refine gp_of (fun _ k9 => g_getR (q' := 1) rfl rfl (by decide) c12 k9) ?_
      refine gp_of (fun _ k9 => g_getL (x := K) rfl rfl (by decide) (c7) k9) ?_
      refine gp_n 4 (j' := 12) (lv' := [some (.ref 13), some (.int (nI c)), some (.int (nI q)), some (.long al), none, none, none]) (st' := [.long (((K.toUInt64 >>> ((nI c : Int32).toInt64.toUInt64 &&& Int64.toUInt64 63)).toInt64) &&& al)]) (h' := (shT, fi, fl, fr)) rfl ?_
      rw [hfv]
      refine gp_n 4 (j' := 16) (lv' := [some (.ref 13), some (.int (nI c)), some (.int (nI q)), some (.long al), none, some (.long fv), none]) (st' := [.int (lg_cmp fv 0)]) (h' := (shT, fi, fl, fr)) rfl ?_
      refine gp_of (fun _ k9 => g_ift rfl (show ¬ (lg_cmp fv 0) = (0 : Int32) from (by rw [lg_cmp_eq]; exact nf)) k9) ?_
      refine gp_n 3 (j' := 25) (lv' := [some (.ref 13), some (.int (nI c)), some (.int (nI q)), some (.long al), none, some (.long fv), none]) (st' := [.int (lg_cmp fv al)]) (h' := (shT, fi, fl, fr)) rfl ?_
      refine gp_of (fun _ k9 => g_ift rfl (show ¬ (lg_cmp fv al) = (0 : Int32) from (by rw [lg_cmp_eq]; exact g1)) k9) ?_
      refine gp_n 1 (j' := 35) (lv' := [some (.ref 13), some (.int (nI c)), some (.int (nI q)), some (.long al), none, some (.long fv), none]) (st' := [.int 0]) (h' := (shT, fi, fl, fr)) rfl ?_
      refine gp_done (g_retz rfl (by decide)) ?_
      rfl
