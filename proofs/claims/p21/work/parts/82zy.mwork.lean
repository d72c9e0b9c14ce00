/-! WORK: the model's -/
theorem g_idiv {T : List PmM} {xs : PmX} {es : List PmI} {j : Nat} {lv : PmL} {st : List Value} {h : PmH} {r : Option Value × PmH} {pc n a c d q : Nat} {v : Int} {ts : List Nat} {x y : Int32} (he : es[j]? = some (pc, n, .idiv, a, c, d, q, v, ts)) (hy : ¬ y = 0) (k : Go T xs es (j + 1) lv (.int (x / y) :: st) h r) : Go T xs es j lv (.int y :: .int x :: st) h r := by
  refine Go.step he ?_ k
  simp [pm_x, pm_iz, hy, pm_nx]
theorem nI_dvs : ∀ a, a < 65 → ∀ b, b < 65 → nI a / nI b = nI (a / b) := by decide +kernel
theorem nI_hf : ∀ a, a < 65 → nI a / 2 = nI (a / 2) := by decide +kernel
theorem b01_i {a b : Bool} (h : b01 a = b01 b) : a = b := by
  cases a <;> cases b <;> first | rfl | exact absurd h (by decide)
theorem i_can {a b x : Int32} (h : a + x = b + x) : a = b := by
  have := congrArg (fun z => z - x) h
  simp only [Int32.add_sub_cancel] at this
  exact this
theorem fr_wi {W : WSt} {fi : Nat → Nat → Int32} {fl : Nat → Nat → Int64} {fr : Nat → Nat → Option Nat} {p s : Nat} {v : Int32} (hw : inW W p s = true) : fram W (shT, fi, fl, fr) (shT, pm_u2 fi p s v, fl, fr) := fun p' s' z => ⟨wl_ne (fun y => by rw [y.1, y.2, hw] at z; cases z), rfl, rfl⟩
def mwI (K : Int64) (m : Nat) (S : Nat → Int32) (w : Int64) (h : PmH) : Prop := mcI K m S h ∧ ph_l h 76 0 = w
theorem mwI_fr {K w : Int64} {m : Nat} {S : Nat → Int32} {W : WSt} {h h' : PmH} (a1 : inW W 70 14 = false) (a2 : inW W 70 21 = false) (a3 : inW W 76 0 = false) (a4 : W.all (fun q => decide (q.1 ≠ 74)) = true) (hf : fram W h h') (hx : mwI K m S w h) : mwI K m S w h' := ⟨⟨(hf _ _ a1).1.trans hx.1.1, (hf _ _ a2).2.1.trans hx.1.2.1, fun s hs => (hf 74 s (inW_all a4 (fun c hc => decide_eq_false (fun z => z rfl)))).1.trans (hx.1.2.2 s hs)⟩, (hf _ _ a3).2.1.trans hx.2⟩
theorem hsb_ev {K : Int64} {i : Nat} (hi : i < 64) {h : PmH} : Ev pmT 161 [.long K, .int (nI i)] h (some (.int (b01 (bl K i)))) h := by
  have := has_ev (v := K) (i := nI i) (h := h)
  rw [hasf_bit hi] at this
  exact this
theorem al_go {K : Int64} {c n : Nat} {t : Bool} {fi : Nat → Nat → Int32} {fl : Nat → Nat → Int64} {fr : Nat → Nat → Option Nat} (hc : c + n ≤ 64) (cK : fl 70 21 = K) : ∀ (d i : Nat), i + d = n → (∀ j, j < i → bl K (c + j) = t) → Go pmT none cd_210 2 [some (.ref 70), some (.int (nI c)), some (.int (nI n)), some (.int (b01 t)), some (.int (nI (c + i)))] [] (shT, fi, fl, fr) (some (.int (b01 (decide (∀ j, j < n → bl K (c + j) = t)))), (shT, fi, fl, fr)) := by
  intro d
  have na := nI_add c n
  induction d with
  | zero =>
    intro i hi h1
    have hi : i = n := by omega
    subst hi
    rw [decide_eq_true h1]
    generalize b01 t = bt at *
    refine go_of ?_
    refine gp_n 4 (j' := 6) (lv' := [some (.ref 70), some (.int (nI c)), some (.int (nI i)), some (.int bt), some (.int (nI (c + i)))]) (st' := [.int ((nI c) + (nI i)), .int (nI (c + i))]) (h' := (shT, fi, fl, fr)) rfl ?_
    rw [na]
    refine gp_of (fun _ k9 => g_ict rfl (show (nI (c + i)) ≤ (nI (c + i)) from Int32.le_refl _) k9) ?_
    refine gp_n 1 (j' := 18) (lv' := [some (.ref 70), some (.int (nI c)), some (.int (nI i)), some (.int bt), some (.int (nI (c + i)))]) (st' := [.int 1]) (h' := (shT, fi, fl, fr)) rfl ?_
    refine gp_done (g_retz rfl (by decide)) ?_
    rfl
  | succ d ih =>
    intro i hi h1
    have hb := hsb_ev (K := K) (i := c + i) (by omega) (h := (shT, fi, fl, fr))
    have lt : ¬ nI (c + n) ≤ nI (c + i) := nI_ge (by omega) (by omega)
    by_cases e : bl K (c + i) = t
    · have g := ih (i + 1) (by omega) (fun j hj => by
        by_cases z : j = i
        · rw [z]
          exact e
        · exact h1 j (by omega))
      have g : Go pmT none cd_210 2 [some (.ref 70), some (.int (nI c)), some (.int (nI n)), some (.int (b01 t)), some (.int (nI (c + i + 1)))] [] (shT, fi, fl, fr) (some (.int (b01 (decide (∀ j, j < n → bl K (c + j) = t)))), (shT, fi, fl, fr)) := g
      rw [e] at hb
      clear ih h1
      generalize b01 (decide (∀ j, j < n → bl K (c + j) = t)) = res at *
      generalize b01 t = bt at *
      refine go_of ?_
      refine gp_n 4 (j' := 6) (lv' := [some (.ref 70), some (.int (nI c)), some (.int (nI n)), some (.int bt), some (.int (nI (c + i)))]) (st' := [.int ((nI c) + (nI n)), .int (nI (c + i))]) (h' := (shT, fi, fl, fr)) rfl ?_
      rw [na]
      refine gp_of (fun _ k9 => g_icf rfl (show ¬ ((nI (c + n)) ≤ (nI (c + i))) from lt) k9) ?_
      refine gp_n 1 (j' := 8) (lv' := [some (.ref 70), some (.int (nI c)), some (.int (nI n)), some (.int bt), some (.int (nI (c + i)))]) (st' := [.ref 70]) (h' := (shT, fi, fl, fr)) rfl ?_
      refine gp_of (fun _ k9 => g_getL (x := K) rfl rfl (by decide) (cK) k9) ?_
      refine gp_n 1 (j' := 10) (lv' := [some (.ref 70), some (.int (nI c)), some (.int (nI n)), some (.int bt), some (.int (nI (c + i)))]) (st' := [.int (nI (c + i)), .long K]) (h' := (shT, fi, fl, fr)) rfl ?_
      refine gp_of (fun _ k9 => g_call (y := 161) (as := [.long K, .int (nI (c + i))]) (st' := []) rfl rfl (hb) k9) ?_
      refine gp_n 1 (j' := 12) (lv' := [some (.ref 70), some (.int (nI c)), some (.int (nI n)), some (.int bt), some (.int (nI (c + i)))]) (st' := [.int bt, .int bt]) (h' := (shT, fi, fl, fr)) rfl ?_
      refine gp_of (fun _ k9 => g_ict rfl (show bt = bt from rfl) k9) ?_
      refine gp_n 2 (j' := 2) (lv' := [some (.ref 70), some (.int (nI c)), some (.int (nI n)), some (.int bt), some (.int ((nI (c + i)) + 1))]) (st' := []) (h' := (shT, fi, fl, fr)) rfl ?_
      rw [nI_1]
      exact gp_done g rfl
    · have ne : ¬ b01 (bl K (c + i)) = b01 t := fun z => e (b01_i z)
      rw [decide_eq_false (fun z => e (z i (by omega)))]
      clear ih h1 e
      generalize b01 (bl K (c + i)) = bu at *
      generalize b01 t = bt at *
      refine go_of ?_
      refine gp_n 4 (j' := 6) (lv' := [some (.ref 70), some (.int (nI c)), some (.int (nI n)), some (.int bt), some (.int (nI (c + i)))]) (st' := [.int ((nI c) + (nI n)), .int (nI (c + i))]) (h' := (shT, fi, fl, fr)) rfl ?_
      rw [na]
      refine gp_of (fun _ k9 => g_icf rfl (show ¬ ((nI (c + n)) ≤ (nI (c + i))) from lt) k9) ?_
      refine gp_n 1 (j' := 8) (lv' := [some (.ref 70), some (.int (nI c)), some (.int (nI n)), some (.int bt), some (.int (nI (c + i)))]) (st' := [.ref 70]) (h' := (shT, fi, fl, fr)) rfl ?_
      refine gp_of (fun _ k9 => g_getL (x := K) rfl rfl (by decide) (cK) k9) ?_
      refine gp_n 1 (j' := 10) (lv' := [some (.ref 70), some (.int (nI c)), some (.int (nI n)), some (.int bt), some (.int (nI (c + i)))]) (st' := [.int (nI (c + i)), .long K]) (h' := (shT, fi, fl, fr)) rfl ?_
      refine gp_of (fun _ k9 => g_call (y := 161) (as := [.long K, .int (nI (c + i))]) (st' := []) rfl rfl (hb) k9) ?_
      refine gp_n 1 (j' := 12) (lv' := [some (.ref 70), some (.int (nI c)), some (.int (nI n)), some (.int bt), some (.int (nI (c + i)))]) (st' := [.int bt, .int bu]) (h' := (shT, fi, fl, fr)) rfl ?_
      refine gp_of (fun _ k9 => g_icf rfl (show ¬ (bu = bt) from ne) k9) ?_
      refine gp_n 1 (j' := 14) (lv' := [some (.ref 70), some (.int (nI c)), some (.int (nI n)), some (.int bt), some (.int (nI (c + i)))]) (st' := [.int 0]) (h' := (shT, fi, fl, fr)) rfl ?_
      refine gp_done (g_retz rfl (by decide)) ?_
      rfl
theorem al_ev {K : Int64} {c n : Nat} (t : Bool) {h : PmH} (hI : HI hdT shT h) (hc : c + n ≤ 64) (cK : ph_l h 70 21 = K) : Ev pmT 210 [.ref 70, .int (nI c), .int (nI n), .int (b01 t)] h (some (.int (b01 (decide (∀ j, j < n → bl K (c + j) = t))))) h := by
  refine Ev.of (es := cd_210) (ml := 5) (lv := [some (.ref 70), some (.int (nI c)), some (.int (nI n)), some (.int (b01 t)), none]) rfl rfl rfl ?_
  obtain ⟨S, fi, fl, fr⟩ := h
  have hS : S = shT := hI.1
  subst hS
  have cK : fl 70 21 = K := cK
  have g := al_go (c := c) (n := n) (t := t) (fi := fi) (fr := fr) hc cK n 0 (by omega) (fun j hj => absurd hj (Nat.not_lt_zero j))
  rw [Nat.add_zero] at g
  generalize b01 (decide (∀ j, j < n → bl K (c + j) = t)) = res at *
  generalize b01 t = bt at *
  refine go_of ?_
  refine gp_n 2 (j' := 2) (lv' := [some (.ref 70), some (.int (nI c)), some (.int (nI n)), some (.int bt), some (.int (nI c))]) (st' := []) (h' := (shT, fi, fl, fr)) rfl ?_
  exact gp_done g rfl
theorem su_go {n : Nat} {vc : Int32} {X : Nat → Int32} {fi : Nat → Nat → Int32} {fl : Nat → Nat → Int64} {fr : Nat → Nat → Option Nat} (hn : n ≤ 64) (k24 : fr 70 24 = some 75) (hX : ∀ j, j < n → fi 75 j = X j) : ∀ (d i : Nat), i + d = n → (∀ j, j < i → ¬ X j = 0) → Go pmT none cd_211 10 [some (.ref 70), some (.int vc), some (.int (nI n)), some (.int (nI i))] [] (shT, fi, fl, fr) (some (.int (b01 (decide (∀ j, j < n → ¬ X j = 0)))), (shT, fi, fl, fr)) := by
  intro d
  induction d with
  | zero =>
    intro i hi h1
    have hi : i = n := by omega
    subst hi
    rw [decide_eq_true h1]
    refine go_of ?_
    refine gp_n 2 (j' := 12) (lv' := [some (.ref 70), some (.int vc), some (.int (nI i)), some (.int (nI i))]) (st' := [.int (nI i), .int (nI i)]) (h' := (shT, fi, fl, fr)) rfl ?_
    refine gp_of (fun _ k9 => g_ict rfl (show (nI i) ≤ (nI i) from Int32.le_refl _) k9) ?_
    refine gp_n 1 (j' := 23) (lv' := [some (.ref 70), some (.int vc), some (.int (nI i)), some (.int (nI i))]) (st' := [.int 1]) (h' := (shT, fi, fl, fr)) rfl ?_
    refine gp_done (g_retz rfl (by decide)) ?_
    rfl
  | succ d ih =>
    intro i hi h1
    have xi := hX i (by omega)
    have lt : ¬ nI n ≤ nI i := nI_ge (by omega) (by omega)
    by_cases e : X i = 0
    · rw [decide_eq_false (fun z => z i (by omega) e)]
      rw [e] at xi
      refine go_of ?_
      refine gp_n 2 (j' := 12) (lv' := [some (.ref 70), some (.int vc), some (.int (nI n)), some (.int (nI i))]) (st' := [.int (nI n), .int (nI i)]) (h' := (shT, fi, fl, fr)) rfl ?_
      refine gp_of (fun _ k9 => g_icf rfl (show ¬ ((nI n) ≤ (nI i)) from lt) k9) ?_
      refine gp_n 1 (j' := 14) (lv' := [some (.ref 70), some (.int vc), some (.int (nI n)), some (.int (nI i))]) (st' := [.ref 70]) (h' := (shT, fi, fl, fr)) rfl ?_
      refine gp_of (fun _ k9 => g_getR (q' := 75) rfl rfl (by decide) k24 k9) ?_
      refine gp_n 1 (j' := 16) (lv' := [some (.ref 70), some (.int vc), some (.int (nI n)), some (.int (nI i))]) (st' := [.int (nI i), .ref 75]) (h' := (shT, fi, fl, fr)) rfl ?_
      refine gp_of (fun _ k9 => g_iald (k := i) (x := 0) rfl rfl (rfl) (by omega) (by decide) (xi) k9) ?_
      refine gp_of (fun _ k9 => g_iff rfl (show ¬ (¬ (0 : Int32) = (0 : Int32)) from by decide) k9) ?_
      refine gp_n 1 (j' := 19) (lv' := [some (.ref 70), some (.int vc), some (.int (nI n)), some (.int (nI i))]) (st' := [.int 0]) (h' := (shT, fi, fl, fr)) rfl ?_
      refine gp_done (g_retz rfl (by decide)) ?_
      rfl
    · have g := ih (i + 1) (by omega) (fun j hj => by
        by_cases z : j = i
        · rw [z]
          exact e
        · exact h1 j (by omega))
      generalize b01 (decide (∀ j, j < n → ¬ X j = 0)) = res at *
      clear ih h1 hX
      generalize X i = x at *
      refine go_of ?_
      refine gp_n 2 (j' := 12) (lv' := [some (.ref 70), some (.int vc), some (.int (nI n)), some (.int (nI i))]) (st' := [.int (nI n), .int (nI i)]) (h' := (shT, fi, fl, fr)) rfl ?_
      refine gp_of (fun _ k9 => g_icf rfl (show ¬ ((nI n) ≤ (nI i)) from lt) k9) ?_
      refine gp_n 1 (j' := 14) (lv' := [some (.ref 70), some (.int vc), some (.int (nI n)), some (.int (nI i))]) (st' := [.ref 70]) (h' := (shT, fi, fl, fr)) rfl ?_
      refine gp_of (fun _ k9 => g_getR (q' := 75) rfl rfl (by decide) k24 k9) ?_
      refine gp_n 1 (j' := 16) (lv' := [some (.ref 70), some (.int vc), some (.int (nI n)), some (.int (nI i))]) (st' := [.int (nI i), .ref 75]) (h' := (shT, fi, fl, fr)) rfl ?_
      refine gp_of (fun _ k9 => g_iald (k := i) (x := x) rfl rfl (rfl) (by omega) (by decide) (xi) k9) ?_
      refine gp_of (fun _ k9 => g_ift rfl (show ¬ x = (0 : Int32) from e) k9) ?_
      refine gp_n 2 (j' := 10) (lv' := [some (.ref 70), some (.int vc), some (.int (nI n)), some (.int ((nI i) + 1))]) (st' := []) (h' := (shT, fi, fl, fr)) rfl ?_
      rw [nI_1]
      exact gp_done g rfl
theorem su_ev {K w : Int64} {m c l : Nat} {S : Nat → Int32} {h : PmH} (hI : HI hdT shT h) (hx : mwI K m S w h) (hm : m ≤ 6) (hc : c < 2 ^ m) (hl : l ≤ m) : ∃ h', Ev pmT 211 [.ref 70, .int (nI c), .int (nI (2 ^ l))] h (some (.int (b01 (decide (∀ j, j < 2 ^ l → ¬ ndL m S (bl w) c l j = 0))))) h' ∧ HI hdT shT h' := by
  have p6 := pw_6 l (by omega)
  obtain ⟨h1, e1, x1, I1, F1⟩ := lay_ev (w := w) hI hm hc hl hx.1.1 hx.1.2.2
  have k26 : ph_r h 70 26 = some 76 := hi_r hI rfl rfl (by decide)
  have k24 : ph_r h1 70 24 = some 75 := hi_r I1 rfl rfl (by decide)
  have cw := hx.2
  refine ⟨h1, ?_, I1⟩
  obtain ⟨S1, fi1, fl1, fr1⟩ := h1
  have s1 : S1 = shT := I1.1
  subst s1
  have g := su_go (n := 2 ^ l) (vc := nI c) (fi := fi1) (fl := fl1) p6.2 k24 x1 (2 ^ l) 0 (by omega) (fun j hj => absurd hj (Nat.not_lt_zero j))
  generalize b01 (decide (∀ j, j < 2 ^ l → ¬ ndL m S (bl w) c l j = 0)) = res at *
  clear x1 hx F1
  generalize nI (2 ^ l) = z at *
  refine Ev.of (es := cd_211) (ml := 4) (lv := [some (.ref 70), some (.int (nI c)), some (.int z), none]) rfl rfl rfl ?_
  obtain ⟨S, fi, fl, fr⟩ := h
  have hS : S = shT := hI.1
  subst hS
  have k26 : fr 70 26 = some 76 := k26
  have cw : fl 76 0 = w := cw
  refine go_of ?_
  refine gp_n 2 (j' := 2) (lv' := [some (.ref 70), some (.int (nI c)), some (.int z), none]) (st' := [.ref 70, .ref 70]) (h' := (shT, fi, fl, fr)) rfl ?_
  refine gp_of (fun _ k9 => g_getR (q' := 76) rfl rfl (by decide) k26 k9) ?_
  refine gp_n 1 (j' := 4) (lv' := [some (.ref 70), some (.int (nI c)), some (.int z), none]) (st' := [.int 0, .ref 76, .ref 70]) (h' := (shT, fi, fl, fr)) rfl ?_
  refine gp_of (fun _ k9 => g_lald (k := 0) (x := w) rfl rfl (rfl) (by decide) (by decide) (cw) k9) ?_
  refine gp_n 2 (j' := 7) (lv' := [some (.ref 70), some (.int (nI c)), some (.int z), none]) (st' := [.int z, .int (nI c), .long w, .ref 70]) (h' := (shT, fi, fl, fr)) rfl ?_
  refine gp_of (fun _ k9 => g_callv (y := 194) (as := [.ref 70, .long w, .int (nI c), .int z]) (st' := []) rfl rfl (e1) k9) ?_
  refine gp_n 2 (j' := 10) (lv' := [some (.ref 70), some (.int (nI c)), some (.int z), some (.int (nI 0))]) (st' := []) (h' := (shT, fi1, fl1, fr1)) rfl ?_
  exact gp_done g rfl
/-- what the model asks of a node -/
def ctM (K : Int64) (m : Nat) (S : Nat → Int32) (most : Nat) (w : Int64) (q c : Nat) : Bool := decide (∀ t, t < 2 ^ q → bl K (c + t) = false) || (decide (most = 1) && decide (∀ t, t < 2 ^ q → bl K (c + t) = true) && decide (∀ t, t < 2 ^ q → ¬ ndL m S (bl w) c q t = 0))
theorem ct_eq {K : Int64} {m most q c : Nat} {S : Nat → Int32} (hm : m ≤ 6) (hS : ∀ s, s < 64 → -127 ≤ (S s).toInt ∧ (S s).toInt ≤ 127) (hq : q ≤ m) (hc : c < 2 ^ m) : ctM K m S most ((rdN K m S most (2 ^ m)).2.1 0) q c = ctF K m S most q c := by
  have p6 := pw_6 m (by omega)
  unfold ctM ctF
  by_cases h1 : most = 1
  · subst h1
    have : ndL m S (bl ((rdN K m S 1 (2 ^ m)).2.1 0)) c q = ndL m S (bl ((rdN K m S 1 c).2.1 0)) c q := ndL_cg (m - q) q (by omega) rfl (fun t ht => by
      have z := rdN_up (K := K) hm hS (c := c) (2 ^ m - c) (by omega) t (by have := Nat.div_mul_le_self c (2 ^ q); omega)
      rw [show c + (2 ^ m - c) = 2 ^ m by omega] at z
      exact z)
    rw [this]
  · rw [decide_eq_false h1]
    rfl
theorem mc_ev {K w : Int64} {m most c q : Nat} {S : Nat → Int32} {h : PmH} (hI : HI hdT shT h) (hx : mwI K m S w h) (hm : m ≤ 6) (hmo1 : 1 ≤ most) (hmo : most ≤ 8) (hq : q ≤ m) (hc : c + 2 ^ q ≤ 2 ^ m) : ∃ h', Ev pmT 209 [.ref 70, .int (nI most), .int (nI c), .int (nI (2 ^ q))] h (some (.int (b01 (ctM K m S most w q c)))) h' ∧ HI hdT shT h' ∧ fram (in_w iN_223) h h' := by
  have p6 := pw_6 m (by omega)
  have pq := Nat.two_pow_pos q
  have iv1 := fun v h' e => iv_s (v := v) (h' := h') (as := [.ref 70, .int (nI most), .int (nI c), .int (nI (2 ^ q))]) vN_223 rfl (fun _ _ => gz_c (gz_r (by decide)) (gz_c (gz_i (by rw [nI_toInt (by omega)]; omega) (by rw [nI_toInt (by omega)]; omega)) (gz_c (gz_a _) (gz_c (gz_i (by rw [nI_toInt (by omega)]; omega) (by rw [nI_toInt (by omega)]; omega)) gz_n)))) hI e
  have a0 := al_ev (c := c) (n := 2 ^ q) false hI (by omega) hx.1.2.1
  have a1 := al_ev (c := c) (n := 2 ^ q) true hI (by omega) hx.1.2.1
  obtain ⟨h1, e1, I1⟩ := su_ev hI hx hm (c := c) (l := q) (by omega) hq
  have a0 : Ev pmT 210 [.ref 70, .int (nI c), .int (nI (2 ^ q)), .int 0] h (some (.int (b01 (decide (∀ j, j < 2 ^ q → bl K (c + j) = false))))) h := a0
  have a1 : Ev pmT 210 [.ref 70, .int (nI c), .int (nI (2 ^ q)), .int 1] h (some (.int (b01 (decide (∀ j, j < 2 ^ q → bl K (c + j) = true))))) h := a1
  unfold ctM
  have em : decide (most = 1) = true → nI most = 1 := fun z => by rw [of_decide_eq_true z]; rfl
  have en : decide (most = 1) = false → ¬ nI most = 1 := fun z y => (of_decide_eq_false z) ((nI_eq (b := 1) (by omega) (by omega)).mp y)
  generalize decide (∀ j, j < 2 ^ q → bl K (c + j) = false) = d0 at *
  generalize decide (∀ j, j < 2 ^ q → bl K (c + j) = true) = d1 at *
  generalize decide (∀ j, j < 2 ^ q → ¬ ndL m S (bl w) c q j = 0) = d2 at *
  generalize decide (most = 1) = d3 at *
  clear hx
  generalize nI (2 ^ q) = z at *
  cases d0
  · have a0 : Ev pmT 210 [.ref 70, .int (nI c), .int z, .int 0] h (some (.int 0)) h := a0
    cases d3
    · have en := en rfl
      have ev : Ev pmT 209 [.ref 70, .int (nI most), .int (nI c), .int z] h (some (.int 0)) h := by
        clear iv1
        refine Ev.of (es := cd_209) (ml := 4) (lv := [some (.ref 70), some (.int (nI most)), some (.int (nI c)), some (.int z)]) rfl rfl rfl ?_
        obtain ⟨S, fi, fl, fr⟩ := h
        have hS : S = shT := hI.1
        subst hS
        refine go_of ?_
        refine gp_n 4 (j' := 4) (lv' := [some (.ref 70), some (.int (nI most)), some (.int (nI c)), some (.int z)]) (st' := [.int 0, .int z, .int (nI c), .ref 70]) (h' := (shT, fi, fl, fr)) rfl ?_
        refine gp_of (fun _ k9 => g_call (y := 210) (as := [.ref 70, .int (nI c), .int z, .int 0]) (st' := []) rfl rfl (a0) k9) ?_
        refine gp_of (fun _ k9 => g_iff rfl (show ¬ (¬ (0 : Int32) = (0 : Int32)) from by decide) k9) ?_
        refine gp_n 2 (j' := 8) (lv' := [some (.ref 70), some (.int (nI most)), some (.int (nI c)), some (.int z)]) (st' := [.int 1, .int (nI most)]) (h' := (shT, fi, fl, fr)) rfl ?_
        refine gp_of (fun _ k9 => g_ict rfl (show ¬ (nI most) = (1 : Int32) from en) k9) ?_
        refine gp_n 1 (j' := 23) (lv' := [some (.ref 70), some (.int (nI most)), some (.int (nI c)), some (.int z)]) (st' := [.int 0]) (h' := (shT, fi, fl, fr)) rfl ?_
        refine gp_done (g_retz rfl (by decide)) ?_
        rfl
      exact ⟨h, ev, iv1 _ _ ev⟩
    · have em := em rfl
      cases d1
      · have a1 : Ev pmT 210 [.ref 70, .int (nI c), .int z, .int 1] h (some (.int 0)) h := a1
        have ev : Ev pmT 209 [.ref 70, .int (nI most), .int (nI c), .int z] h (some (.int 0)) h := by
          clear iv1
          refine Ev.of (es := cd_209) (ml := 4) (lv := [some (.ref 70), some (.int (nI most)), some (.int (nI c)), some (.int z)]) rfl rfl rfl ?_
          obtain ⟨S, fi, fl, fr⟩ := h
          have hS : S = shT := hI.1
          subst hS
          refine go_of ?_
          refine gp_n 4 (j' := 4) (lv' := [some (.ref 70), some (.int (nI most)), some (.int (nI c)), some (.int z)]) (st' := [.int 0, .int z, .int (nI c), .ref 70]) (h' := (shT, fi, fl, fr)) rfl ?_
          refine gp_of (fun _ k9 => g_call (y := 210) (as := [.ref 70, .int (nI c), .int z, .int 0]) (st' := []) rfl rfl (a0) k9) ?_
          refine gp_of (fun _ k9 => g_iff rfl (show ¬ (¬ (0 : Int32) = (0 : Int32)) from by decide) k9) ?_
          refine gp_n 2 (j' := 8) (lv' := [some (.ref 70), some (.int (nI most)), some (.int (nI c)), some (.int z)]) (st' := [.int 1, .int (nI most)]) (h' := (shT, fi, fl, fr)) rfl ?_
          refine gp_of (fun _ k9 => g_icf rfl (show ¬ (¬ (nI most) = (1 : Int32)) from (fun y => y em)) k9) ?_
          refine gp_n 4 (j' := 13) (lv' := [some (.ref 70), some (.int (nI most)), some (.int (nI c)), some (.int z)]) (st' := [.int 1, .int z, .int (nI c), .ref 70]) (h' := (shT, fi, fl, fr)) rfl ?_
          refine gp_of (fun _ k9 => g_call (y := 210) (as := [.ref 70, .int (nI c), .int z, .int 1]) (st' := []) rfl rfl (a1) k9) ?_
          refine gp_of (fun _ k9 => g_ift rfl (show (0 : Int32) = (0 : Int32) from by decide) k9) ?_
          refine gp_n 1 (j' := 23) (lv' := [some (.ref 70), some (.int (nI most)), some (.int (nI c)), some (.int z)]) (st' := [.int 0]) (h' := (shT, fi, fl, fr)) rfl ?_
          refine gp_done (g_retz rfl (by decide)) ?_
          rfl
        exact ⟨h, ev, iv1 _ _ ev⟩
      · have a1 : Ev pmT 210 [.ref 70, .int (nI c), .int z, .int 1] h (some (.int 1)) h := a1
        cases d2
        · have e1 : Ev pmT 211 [.ref 70, .int (nI c), .int z] h (some (.int 0)) h1 := e1
          have ev : Ev pmT 209 [.ref 70, .int (nI most), .int (nI c), .int z] h (some (.int 0)) h1 := by
            clear iv1
            refine Ev.of (es := cd_209) (ml := 4) (lv := [some (.ref 70), some (.int (nI most)), some (.int (nI c)), some (.int z)]) rfl rfl rfl ?_
            obtain ⟨S1, fi1, fl1, fr1⟩ := h1
            have s1 : S1 = shT := I1.1
            subst s1
            obtain ⟨S, fi, fl, fr⟩ := h
            have hS : S = shT := hI.1
            subst hS
            refine go_of ?_
            refine gp_n 4 (j' := 4) (lv' := [some (.ref 70), some (.int (nI most)), some (.int (nI c)), some (.int z)]) (st' := [.int 0, .int z, .int (nI c), .ref 70]) (h' := (shT, fi, fl, fr)) rfl ?_
            refine gp_of (fun _ k9 => g_call (y := 210) (as := [.ref 70, .int (nI c), .int z, .int 0]) (st' := []) rfl rfl (a0) k9) ?_
            refine gp_of (fun _ k9 => g_iff rfl (show ¬ (¬ (0 : Int32) = (0 : Int32)) from by decide) k9) ?_
            refine gp_n 2 (j' := 8) (lv' := [some (.ref 70), some (.int (nI most)), some (.int (nI c)), some (.int z)]) (st' := [.int 1, .int (nI most)]) (h' := (shT, fi, fl, fr)) rfl ?_
            refine gp_of (fun _ k9 => g_icf rfl (show ¬ (¬ (nI most) = (1 : Int32)) from (fun y => y em)) k9) ?_
            refine gp_n 4 (j' := 13) (lv' := [some (.ref 70), some (.int (nI most)), some (.int (nI c)), some (.int z)]) (st' := [.int 1, .int z, .int (nI c), .ref 70]) (h' := (shT, fi, fl, fr)) rfl ?_
            refine gp_of (fun _ k9 => g_call (y := 210) (as := [.ref 70, .int (nI c), .int z, .int 1]) (st' := []) rfl rfl (a1) k9) ?_
            refine gp_of (fun _ k9 => g_iff rfl (show ¬ ((1 : Int32) = (0 : Int32)) from by decide) k9) ?_
            refine gp_n 3 (j' := 18) (lv' := [some (.ref 70), some (.int (nI most)), some (.int (nI c)), some (.int z)]) (st' := [.int z, .int (nI c), .ref 70]) (h' := (shT, fi, fl, fr)) rfl ?_
            refine gp_of (fun _ k9 => g_call (y := 211) (as := [.ref 70, .int (nI c), .int z]) (st' := []) rfl rfl (e1) k9) ?_
            refine gp_of (fun _ k9 => g_ift rfl (show (0 : Int32) = (0 : Int32) from by decide) k9) ?_
            refine gp_n 1 (j' := 23) (lv' := [some (.ref 70), some (.int (nI most)), some (.int (nI c)), some (.int z)]) (st' := [.int 0]) (h' := (shT, fi1, fl1, fr1)) rfl ?_
            refine gp_done (g_retz rfl (by decide)) ?_
            rfl
          exact ⟨h1, ev, iv1 _ _ ev⟩
        · have e1 : Ev pmT 211 [.ref 70, .int (nI c), .int z] h (some (.int 1)) h1 := e1
          have ev : Ev pmT 209 [.ref 70, .int (nI most), .int (nI c), .int z] h (some (.int 1)) h1 := by
            clear iv1
            refine Ev.of (es := cd_209) (ml := 4) (lv := [some (.ref 70), some (.int (nI most)), some (.int (nI c)), some (.int z)]) rfl rfl rfl ?_
            obtain ⟨S1, fi1, fl1, fr1⟩ := h1
            have s1 : S1 = shT := I1.1
            subst s1
            obtain ⟨S, fi, fl, fr⟩ := h
            have hS : S = shT := hI.1
            subst hS
            refine go_of ?_
            refine gp_n 4 (j' := 4) (lv' := [some (.ref 70), some (.int (nI most)), some (.int (nI c)), some (.int z)]) (st' := [.int 0, .int z, .int (nI c), .ref 70]) (h' := (shT, fi, fl, fr)) rfl ?_
            refine gp_of (fun _ k9 => g_call (y := 210) (as := [.ref 70, .int (nI c), .int z, .int 0]) (st' := []) rfl rfl (a0) k9) ?_
            refine gp_of (fun _ k9 => g_iff rfl (show ¬ (¬ (0 : Int32) = (0 : Int32)) from by decide) k9) ?_
            refine gp_n 2 (j' := 8) (lv' := [some (.ref 70), some (.int (nI most)), some (.int (nI c)), some (.int z)]) (st' := [.int 1, .int (nI most)]) (h' := (shT, fi, fl, fr)) rfl ?_
            refine gp_of (fun _ k9 => g_icf rfl (show ¬ (¬ (nI most) = (1 : Int32)) from (fun y => y em)) k9) ?_
            refine gp_n 4 (j' := 13) (lv' := [some (.ref 70), some (.int (nI most)), some (.int (nI c)), some (.int z)]) (st' := [.int 1, .int z, .int (nI c), .ref 70]) (h' := (shT, fi, fl, fr)) rfl ?_
            refine gp_of (fun _ k9 => g_call (y := 210) (as := [.ref 70, .int (nI c), .int z, .int 1]) (st' := []) rfl rfl (a1) k9) ?_
            refine gp_of (fun _ k9 => g_iff rfl (show ¬ ((1 : Int32) = (0 : Int32)) from by decide) k9) ?_
            refine gp_n 3 (j' := 18) (lv' := [some (.ref 70), some (.int (nI most)), some (.int (nI c)), some (.int z)]) (st' := [.int z, .int (nI c), .ref 70]) (h' := (shT, fi, fl, fr)) rfl ?_
            refine gp_of (fun _ k9 => g_call (y := 211) (as := [.ref 70, .int (nI c), .int z]) (st' := []) rfl rfl (e1) k9) ?_
            refine gp_of (fun _ k9 => g_iff rfl (show ¬ ((1 : Int32) = (0 : Int32)) from by decide) k9) ?_
            refine gp_n 2 (j' := 23) (lv' := [some (.ref 70), some (.int (nI most)), some (.int (nI c)), some (.int z)]) (st' := [.int 1]) (h' := (shT, fi1, fl1, fr1)) rfl ?_
            refine gp_done (g_retz rfl (by decide)) ?_
            rfl
          exact ⟨h1, ev, iv1 _ _ ev⟩
  · have a0 : Ev pmT 210 [.ref 70, .int (nI c), .int z, .int 0] h (some (.int 1)) h := a0
    have ev : Ev pmT 209 [.ref 70, .int (nI most), .int (nI c), .int z] h (some (.int 1)) h := by
      clear iv1
      refine Ev.of (es := cd_209) (ml := 4) (lv := [some (.ref 70), some (.int (nI most)), some (.int (nI c)), some (.int z)]) rfl rfl rfl ?_
      obtain ⟨S, fi, fl, fr⟩ := h
      have hS : S = shT := hI.1
      subst hS
      refine go_of ?_
      refine gp_n 4 (j' := 4) (lv' := [some (.ref 70), some (.int (nI most)), some (.int (nI c)), some (.int z)]) (st' := [.int 0, .int z, .int (nI c), .ref 70]) (h' := (shT, fi, fl, fr)) rfl ?_
      refine gp_of (fun _ k9 => g_call (y := 210) (as := [.ref 70, .int (nI c), .int z, .int 0]) (st' := []) rfl rfl (a0) k9) ?_
      refine gp_of (fun _ k9 => g_ift rfl (show ¬ (1 : Int32) = (0 : Int32) from by decide) k9) ?_
      refine gp_n 2 (j' := 23) (lv' := [some (.ref 70), some (.int (nI most)), some (.int (nI c)), some (.int z)]) (st' := [.int 1]) (h' := (shT, fi, fl, fr)) rfl ?_
      refine gp_done (g_retz rfl (by decide)) ?_
      rfl
    exact ⟨h, ev, iv1 _ _ ev⟩
theorem bs_le {m l c : Nat} (hl : l ≤ m) (hc : c < 2 ^ m) : c / 2 ^ l * 2 ^ l + 2 ^ l ≤ 2 ^ m ∧ (c / 2 ^ l * 2 ^ l) % 2 ^ l = 0 := by
  have e : 2 ^ m = 2 ^ (m - l) * 2 ^ l := by rw [← Nat.pow_add]; congr 1; omega
  have k : c / 2 ^ l < 2 ^ (m - l) := by
    rw [Nat.div_lt_iff_lt_mul (Nat.two_pow_pos l), ← e]
    exact hc
  refine ⟨?_, Nat.mul_mod_left _ _⟩
  rw [← Nat.succ_mul, e]
  exact Nat.mul_le_mul_right _ k
theorem gt_go {K w : Int64} {m most c q : Nat} {S : Nat → Int32} {ct : Nat → Nat → Bool} (hm : m ≤ 6) (hmo1 : 1 ≤ most) (hmo : most ≤ 8) (hq : q ≤ m) (hc : c < 2 ^ m) (hct : ∀ l c', l ≤ m → c' < 2 ^ m → ctM K m S most w l c' = ct l c') : ∀ (n d : Nat) (h : PmH), d + n = m - q → goN ct m c d = true → HI hdT shT h → mwI K m S w h → ∃ h', Go pmT none cd_208 3 [some (.ref 70), some (.int (nI most)), some (.int 1), some (.int (nI c)), some (.int (nI (2 ^ q))), some (.int (nI (2 ^ (m - d))))] [] h (some (.int (b01 (gon ct m q c))), h') ∧ HI hdT shT h' := by
  intro n
  have p6 := pw_6 m (by omega)
  induction n with
  | zero =>
    intro d h hd hg hI hx
    have e : m - d = q := by omega
    have hg : gon ct m q c = true := by
      unfold gon
      rw [show m - q = d by omega]
      exact hg
    rw [e, hg]
    refine ⟨h, ?_, hI⟩
    clear hx hct
    generalize nI (2 ^ q) = z at *
    obtain ⟨S, fi, fl, fr⟩ := h
    have hS : S = shT := hI.1
    subst hS
    refine go_of ?_
    refine gp_n 1 (j' := 4) (lv' := [some (.ref 70), some (.int (nI most)), some (.int 1), some (.int (nI c)), some (.int z), some (.int z)]) (st' := [.int 1]) (h' := (shT, fi, fl, fr)) rfl ?_
    refine gp_of (fun _ k9 => g_iff rfl (show ¬ ((1 : Int32) = (0 : Int32)) from by decide) k9) ?_
    refine gp_n 2 (j' := 7) (lv' := [some (.ref 70), some (.int (nI most)), some (.int 1), some (.int (nI c)), some (.int z), some (.int z)]) (st' := [.int z, .int z]) (h' := (shT, fi, fl, fr)) rfl ?_
    refine gp_of (fun _ k9 => g_ict rfl (show z ≤ z from Int32.le_refl _) k9) ?_
    refine gp_n 1 (j' := 26) (lv' := [some (.ref 70), some (.int (nI most)), some (.int 1), some (.int (nI c)), some (.int z), some (.int z)]) (st' := [.int 1]) (h' := (shT, fi, fl, fr)) rfl ?_
    refine gp_done (g_retz rfl (by decide)) ?_
    rfl
  | succ n ih =>
    intro d h hd hg hI hx
    have pd := pw_6 (m - d) (by omega)
    have lt2 : 2 ^ q < 2 ^ (m - d) := Nat.pow_lt_pow_right (by decide) (by omega)
    have lt : ¬ nI (2 ^ (m - d)) ≤ nI (2 ^ q) := nI_ge (by omega) (by omega)
    have nz : ¬ nI (2 ^ (m - d)) = 0 := nI_ne0 (by omega) (by omega)
    have dvm : nI c / nI (2 ^ (m - d)) * nI (2 ^ (m - d)) = nI (c / 2 ^ (m - d) * 2 ^ (m - d)) := by rw [nI_dvs c (by omega) _ (by omega), nI_mul]
    obtain ⟨b1, b2⟩ := bs_le (l := m - d) (c := c) (by omega) hc
    obtain ⟨h1, e1, I1, F1⟩ := mc_ev hI hx hm hmo1 hmo (q := m - d) (c := c / 2 ^ (m - d) * 2 ^ (m - d)) (by omega) b1
    rw [hct (m - d) _ (by omega) (by omega)] at e1
    cases hc1 : ct (m - d) (c / 2 ^ (m - d) * 2 ^ (m - d))
    · rw [hc1] at e1
      have e1 : Ev pmT 209 [.ref 70, .int (nI most), .int (nI (c / 2 ^ (m - d) * 2 ^ (m - d))), .int (nI (2 ^ (m - d)))] h (some (.int 0)) h1 := e1
      obtain ⟨h2, g, I2⟩ := ih (d + 1) h1 (by omega) (by rw [goN, hg, hc1]; rfl) I1 (mwI_fr (by decide) (by decide) (by decide) (by decide) F1 hx)
      refine ⟨h2, ?_, I2⟩
      have hh : nI (2 ^ (m - d)) / 2 = nI (2 ^ (m - (d + 1))) := by
        rw [nI_hf _ (by omega), show m - d = m - (d + 1) + 1 by omega, Nat.pow_succ, Nat.mul_div_cancel _ (by decide)]
      clear ih hx hct F1 hg
      generalize b01 (gon ct m q c) = res at *
      generalize nI (c / 2 ^ (m - d) * 2 ^ (m - d)) = y at *
      generalize nI (2 ^ (m - (d + 1))) = z2 at *
      generalize nI (2 ^ (m - d)) = z1 at *
      generalize nI (2 ^ q) = z at *
      obtain ⟨S1, fi1, fl1, fr1⟩ := h1
      have s1 : S1 = shT := I1.1
      subst s1
      obtain ⟨S, fi, fl, fr⟩ := h
      have hS : S = shT := hI.1
      subst hS
      refine go_of ?_
      refine gp_n 1 (j' := 4) (lv' := [some (.ref 70), some (.int (nI most)), some (.int 1), some (.int (nI c)), some (.int z), some (.int z1)]) (st' := [.int 1]) (h' := (shT, fi, fl, fr)) rfl ?_
      refine gp_of (fun _ k9 => g_iff rfl (show ¬ ((1 : Int32) = (0 : Int32)) from by decide) k9) ?_
      refine gp_n 2 (j' := 7) (lv' := [some (.ref 70), some (.int (nI most)), some (.int 1), some (.int (nI c)), some (.int z), some (.int z1)]) (st' := [.int z, .int z1]) (h' := (shT, fi, fl, fr)) rfl ?_
      refine gp_of (fun _ k9 => g_icf rfl (show ¬ (z1 ≤ z) from lt) k9) ?_
      refine gp_n 4 (j' := 12) (lv' := [some (.ref 70), some (.int (nI most)), some (.int 1), some (.int (nI c)), some (.int z), some (.int z1)]) (st' := [.int z1, .int (nI c), .int (nI most), .ref 70]) (h' := (shT, fi, fl, fr)) rfl ?_
      refine gp_of (fun _ k9 => g_idiv rfl (nz) k9) ?_
      refine gp_n 2 (j' := 15) (lv' := [some (.ref 70), some (.int (nI most)), some (.int 1), some (.int (nI c)), some (.int z), some (.int z1)]) (st' := [.int (((nI c) / z1) * z1), .int (nI most), .ref 70]) (h' := (shT, fi, fl, fr)) rfl ?_
      rw [dvm]
      refine gp_n 1 (j' := 16) (lv' := [some (.ref 70), some (.int (nI most)), some (.int 1), some (.int (nI c)), some (.int z), some (.int z1)]) (st' := [.int z1, .int y, .int (nI most), .ref 70]) (h' := (shT, fi, fl, fr)) rfl ?_
      refine gp_of (fun _ k9 => g_call (y := 209) (as := [.ref 70, .int (nI most), .int y, .int z1]) (st' := []) rfl rfl (e1) k9) ?_
      refine gp_of (fun _ k9 => g_ift rfl (show (0 : Int32) = (0 : Int32) from by decide) k9) ?_
      refine gp_n 5 (j' := 3) (lv' := [some (.ref 70), some (.int (nI most)), some (.int 1), some (.int (nI c)), some (.int z), some (.int (z1 / 2))]) (st' := []) (h' := (shT, fi1, fl1, fr1)) rfl ?_
      rw [hh]
      exact gp_done g rfl
    · rw [hc1] at e1
      have e1 : Ev pmT 209 [.ref 70, .int (nI most), .int (nI (c / 2 ^ (m - d) * 2 ^ (m - d))), .int (nI (2 ^ (m - d)))] h (some (.int 1)) h1 := e1
      rw [gon_no (q := q) (l := m - d) (by omega) (by omega) hc1]
      refine ⟨h1, ?_, I1⟩
      clear ih hx hct F1 hg
      generalize nI (c / 2 ^ (m - d) * 2 ^ (m - d)) = y at *
      generalize nI (2 ^ (m - d)) = z1 at *
      generalize nI (2 ^ q) = z at *
      obtain ⟨S1, fi1, fl1, fr1⟩ := h1
      have s1 : S1 = shT := I1.1
      subst s1
      obtain ⟨S, fi, fl, fr⟩ := h
      have hS : S = shT := hI.1
      subst hS
      refine go_of ?_
      refine gp_n 1 (j' := 4) (lv' := [some (.ref 70), some (.int (nI most)), some (.int 1), some (.int (nI c)), some (.int z), some (.int z1)]) (st' := [.int 1]) (h' := (shT, fi, fl, fr)) rfl ?_
      refine gp_of (fun _ k9 => g_iff rfl (show ¬ ((1 : Int32) = (0 : Int32)) from by decide) k9) ?_
      refine gp_n 2 (j' := 7) (lv' := [some (.ref 70), some (.int (nI most)), some (.int 1), some (.int (nI c)), some (.int z), some (.int z1)]) (st' := [.int z, .int z1]) (h' := (shT, fi, fl, fr)) rfl ?_
      refine gp_of (fun _ k9 => g_icf rfl (show ¬ (z1 ≤ z) from lt) k9) ?_
      refine gp_n 4 (j' := 12) (lv' := [some (.ref 70), some (.int (nI most)), some (.int 1), some (.int (nI c)), some (.int z), some (.int z1)]) (st' := [.int z1, .int (nI c), .int (nI most), .ref 70]) (h' := (shT, fi, fl, fr)) rfl ?_
      refine gp_of (fun _ k9 => g_idiv rfl (nz) k9) ?_
      refine gp_n 2 (j' := 15) (lv' := [some (.ref 70), some (.int (nI most)), some (.int 1), some (.int (nI c)), some (.int z), some (.int z1)]) (st' := [.int (((nI c) / z1) * z1), .int (nI most), .ref 70]) (h' := (shT, fi, fl, fr)) rfl ?_
      rw [dvm]
      refine gp_n 1 (j' := 16) (lv' := [some (.ref 70), some (.int (nI most)), some (.int 1), some (.int (nI c)), some (.int z), some (.int z1)]) (st' := [.int z1, .int y, .int (nI most), .ref 70]) (h' := (shT, fi, fl, fr)) rfl ?_
      refine gp_of (fun _ k9 => g_call (y := 209) (as := [.ref 70, .int (nI most), .int y, .int z1]) (st' := []) rfl rfl (e1) k9) ?_
      refine gp_of (fun _ k9 => g_iff rfl (show ¬ ((1 : Int32) = (0 : Int32)) from by decide) k9) ?_
      refine gp_n 1 (j' := 19) (lv' := [some (.ref 70), some (.int (nI most)), some (.int 1), some (.int (nI c)), some (.int z), some (.int z1)]) (st' := [.int 0]) (h' := (shT, fi1, fl1, fr1)) rfl ?_
      refine gp_done (g_retz rfl (by decide)) ?_
      rfl
theorem gt_ev {K w : Int64} {m most c q : Nat} {S : Nat → Int32} {ct : Nat → Nat → Bool} {h : PmH} (hm : m ≤ 6) (hmo1 : 1 ≤ most) (hmo : most ≤ 8) (hq : q ≤ m) (hc : c < 2 ^ m) (hct : ∀ l c', l ≤ m → c' < 2 ^ m → ctM K m S most w l c' = ct l c') (hI : HI hdT shT h) (hx : mwI K m S w h) : ∃ h', Ev pmT 208 [.ref 70, .int (nI most), .int 1, .int (nI c), .int (nI (2 ^ q))] h (some (.int (b01 (gon ct m q c)))) h' ∧ HI hdT shT h' := by
  obtain ⟨h', g, I1⟩ := gt_go hm hmo1 hmo hq hc hct (m - q) 0 h (by omega) rfl hI hx
  refine ⟨h', ?_, I1⟩
  have cN := hx.1.1
  rw [Nat.sub_zero] at g
  clear hx hct
  generalize b01 (gon ct m q c) = res at *
  generalize nI (2 ^ q) = z at *
  generalize nI (2 ^ m) = zN at *
  refine Ev.of (es := cd_208) (ml := 6) (lv := [some (.ref 70), some (.int (nI most)), some (.int 1), some (.int (nI c)), some (.int z), none]) rfl rfl rfl ?_
  obtain ⟨S, fi, fl, fr⟩ := h
  have hS : S = shT := hI.1
  subst hS
  have cN : fi 70 14 = zN := cN
  refine go_of ?_
  refine gp_n 1 (j' := 1) (lv' := [some (.ref 70), some (.int (nI most)), some (.int 1), some (.int (nI c)), some (.int z), none]) (st' := [.ref 70]) (h' := (shT, fi, fl, fr)) rfl ?_
  refine gp_of (fun _ k9 => g_getI (x := zN) rfl (Or.inl rfl) rfl (by decide) (cN) k9) ?_
  refine gp_n 1 (j' := 3) (lv' := [some (.ref 70), some (.int (nI most)), some (.int 1), some (.int (nI c)), some (.int z), some (.int zN)]) (st' := []) (h' := (shT, fi, fl, fr)) rfl ?_
  exact gp_done g rfl
theorem gt_ev0 {most c : Int32} {z zN : Int32} {h : PmH} (hI : HI hdT shT h) (cN : ph_i h 70 14 = zN) : Ev pmT 208 [.ref 70, .int most, .int 0, .int c, .int z] h (some (.int 1)) h := by
  refine Ev.of (es := cd_208) (ml := 6) (lv := [some (.ref 70), some (.int most), some (.int 0), some (.int c), some (.int z), none]) rfl rfl rfl ?_
  obtain ⟨S, fi, fl, fr⟩ := h
  have hS : S = shT := hI.1
  subst hS
  have cN : fi 70 14 = zN := cN
  refine go_of ?_
  refine gp_n 1 (j' := 1) (lv' := [some (.ref 70), some (.int most), some (.int 0), some (.int c), some (.int z), none]) (st' := [.ref 70]) (h' := (shT, fi, fl, fr)) rfl ?_
  refine gp_of (fun _ k9 => g_getI (x := zN) rfl (Or.inl rfl) rfl (by decide) (cN) k9) ?_
  refine gp_n 2 (j' := 4) (lv' := [some (.ref 70), some (.int most), some (.int 0), some (.int c), some (.int z), some (.int zN)]) (st' := [.int 0]) (h' := (shT, fi, fl, fr)) rfl ?_
  refine gp_of (fun _ k9 => g_ift rfl (show (0 : Int32) = (0 : Int32) from by decide) k9) ?_
  refine gp_n 1 (j' := 26) (lv' := [some (.ref 70), some (.int most), some (.int 0), some (.int c), some (.int z), some (.int zN)]) (st' := [.int 1]) (h' := (shT, fi, fl, fr)) rfl ?_
  refine gp_done (g_retz rfl (by decide)) ?_
  rfl
theorem rd_s1 {K : Int64} {m most : Nat} {S : Nat → Int32} (i : Nat) : (rdN K m S most (i + 1)).1 = if bl K i = true then min (2 * (rdN K m S most i).1) most else (rdN K m S most i).1 := by
  show (rdS (bl K i) m S most i (rdN K m S most i)).1 = _
  unfold rdS
  split <;> rfl
theorem pa_go {K : Int64} {m most c : Nat} {S : Nat → Int32} {fi : Nat → Nat → Int32} {fl : Nat → Nat → Int64} {fr : Nat → Nat → Option Nat} (hmo1 : 1 ≤ most) (hmo : most ≤ 8) (hc : c ≤ 64) (cK : fl 70 21 = K) : ∀ (n i : Nat), i + n = c → Go pmT none cd_212 4 [some (.ref 70), some (.int (nI most)), some (.int (nI c)), some (.int (nI (rdN K m S most i).1)), some (.int (nI i))] [] (shT, fi, fl, fr) (some (.int (nI (rdN K m S most c).1)), (shT, fi, fl, fr)) := by
  intro n
  induction n with
  | zero =>
    intro i hi
    have hi : i = c := by omega
    subst hi
    generalize (rdN K m S most i).1 = P at *
    refine go_of ?_
    refine gp_n 2 (j' := 6) (lv' := [some (.ref 70), some (.int (nI most)), some (.int (nI i)), some (.int (nI P)), some (.int (nI i))]) (st' := [.int (nI i), .int (nI i)]) (h' := (shT, fi, fl, fr)) rfl ?_
    refine gp_of (fun _ k9 => g_ict rfl (show (nI i) ≤ (nI i) from Int32.le_refl _) k9) ?_
    refine gp_n 1 (j' := 28) (lv' := [some (.ref 70), some (.int (nI most)), some (.int (nI i)), some (.int (nI P)), some (.int (nI i))]) (st' := [.int (nI P)]) (h' := (shT, fi, fl, fr)) rfl ?_
    refine gp_done (g_ret rfl) ?_
    rfl
  | succ n ih =>
    intro i hi
    have hP := rd_P (K := K) (m := m) (S := S) hmo1 i
    have hb := hsb_ev (K := K) (i := i) (by omega) (h := (shT, fi, fl, fr))
    have lt : ¬ nI c ≤ nI i := nI_ge (by omega) (by omega)
    have g := ih (i + 1) (by omega)
    rw [rd_s1] at g
    have m2 : (2 : Int32) * nI (rdN K m S most i).1 = nI (2 * (rdN K m S most i).1) := nI_mul 2 _
    cases e : bl K i
    · rw [e] at hb g
      rw [if_neg (by decide)] at g
      have hb : Ev pmT 161 [.long K, .int (nI i)] (shT, fi, fl, fr) (some (.int 0)) (shT, fi, fl, fr) := hb
      clear ih
      generalize (rdN K m S most c).1 = res at *
      generalize (rdN K m S most i).1 = P at *
      refine go_of ?_
      refine gp_n 2 (j' := 6) (lv' := [some (.ref 70), some (.int (nI most)), some (.int (nI c)), some (.int (nI P)), some (.int (nI i))]) (st' := [.int (nI c), .int (nI i)]) (h' := (shT, fi, fl, fr)) rfl ?_
      refine gp_of (fun _ k9 => g_icf rfl (show ¬ ((nI c) ≤ (nI i)) from lt) k9) ?_
      refine gp_n 1 (j' := 8) (lv' := [some (.ref 70), some (.int (nI most)), some (.int (nI c)), some (.int (nI P)), some (.int (nI i))]) (st' := [.ref 70]) (h' := (shT, fi, fl, fr)) rfl ?_
      refine gp_of (fun _ k9 => g_getL (x := K) rfl rfl (by decide) (cK) k9) ?_
      refine gp_n 1 (j' := 10) (lv' := [some (.ref 70), some (.int (nI most)), some (.int (nI c)), some (.int (nI P)), some (.int (nI i))]) (st' := [.int (nI i), .long K]) (h' := (shT, fi, fl, fr)) rfl ?_
      refine gp_of (fun _ k9 => g_call (y := 161) (as := [.long K, .int (nI i)]) (st' := []) rfl rfl (hb) k9) ?_
      refine gp_of (fun _ k9 => g_ift rfl (show (0 : Int32) = (0 : Int32) from by decide) k9) ?_
      refine gp_n 4 (j' := 4) (lv' := [some (.ref 70), some (.int (nI most)), some (.int (nI c)), some (.int (nI P)), some (.int ((nI i) + 1))]) (st' := []) (h' := (shT, fi, fl, fr)) rfl ?_
      rw [nI_1]
      exact gp_done g rfl
    · rw [e] at hb g
      rw [if_pos rfl] at g
      have hb : Ev pmT 161 [.long K, .int (nI i)] (shT, fi, fl, fr) (some (.int 1)) (shT, fi, fl, fr) := hb
      clear ih
      generalize (rdN K m S most c).1 = res at *
      generalize (rdN K m S most i).1 = P at *
      by_cases le : 2 * P ≤ most
      · rw [Nat.min_eq_left le] at g
        refine go_of ?_
        refine gp_n 2 (j' := 6) (lv' := [some (.ref 70), some (.int (nI most)), some (.int (nI c)), some (.int (nI P)), some (.int (nI i))]) (st' := [.int (nI c), .int (nI i)]) (h' := (shT, fi, fl, fr)) rfl ?_
        refine gp_of (fun _ k9 => g_icf rfl (show ¬ ((nI c) ≤ (nI i)) from lt) k9) ?_
        refine gp_n 1 (j' := 8) (lv' := [some (.ref 70), some (.int (nI most)), some (.int (nI c)), some (.int (nI P)), some (.int (nI i))]) (st' := [.ref 70]) (h' := (shT, fi, fl, fr)) rfl ?_
        refine gp_of (fun _ k9 => g_getL (x := K) rfl rfl (by decide) (cK) k9) ?_
        refine gp_n 1 (j' := 10) (lv' := [some (.ref 70), some (.int (nI most)), some (.int (nI c)), some (.int (nI P)), some (.int (nI i))]) (st' := [.int (nI i), .long K]) (h' := (shT, fi, fl, fr)) rfl ?_
        refine gp_of (fun _ k9 => g_call (y := 161) (as := [.long K, .int (nI i)]) (st' := []) rfl rfl (hb) k9) ?_
        refine gp_of (fun _ k9 => g_iff rfl (show ¬ ((1 : Int32) = (0 : Int32)) from by decide) k9) ?_
        refine gp_n 4 (j' := 16) (lv' := [some (.ref 70), some (.int (nI most)), some (.int (nI c)), some (.int (nI P)), some (.int (nI i))]) (st' := [.int (nI most), .int ((2 : Int32) * (nI P))]) (h' := (shT, fi, fl, fr)) rfl ?_
        rw [m2]
        refine gp_of (fun _ k9 => g_ict rfl (show (nI (2 * P)) ≤ (nI most) from nI_le (by omega) (by omega)) k9) ?_
        refine gp_n 4 (j' := 24) (lv' := [some (.ref 70), some (.int (nI most)), some (.int (nI c)), some (.int (nI P)), some (.int (nI i))]) (st' := [.int ((2 : Int32) * (nI P))]) (h' := (shT, fi, fl, fr)) rfl ?_
        rw [m2]
        refine gp_n 3 (j' := 4) (lv' := [some (.ref 70), some (.int (nI most)), some (.int (nI c)), some (.int (nI (2 * P))), some (.int ((nI i) + 1))]) (st' := []) (h' := (shT, fi, fl, fr)) rfl ?_
        rw [nI_1]
        exact gp_done g rfl
      · rw [Nat.min_eq_right (by omega)] at g
        refine go_of ?_
        refine gp_n 2 (j' := 6) (lv' := [some (.ref 70), some (.int (nI most)), some (.int (nI c)), some (.int (nI P)), some (.int (nI i))]) (st' := [.int (nI c), .int (nI i)]) (h' := (shT, fi, fl, fr)) rfl ?_
        refine gp_of (fun _ k9 => g_icf rfl (show ¬ ((nI c) ≤ (nI i)) from lt) k9) ?_
        refine gp_n 1 (j' := 8) (lv' := [some (.ref 70), some (.int (nI most)), some (.int (nI c)), some (.int (nI P)), some (.int (nI i))]) (st' := [.ref 70]) (h' := (shT, fi, fl, fr)) rfl ?_
        refine gp_of (fun _ k9 => g_getL (x := K) rfl rfl (by decide) (cK) k9) ?_
        refine gp_n 1 (j' := 10) (lv' := [some (.ref 70), some (.int (nI most)), some (.int (nI c)), some (.int (nI P)), some (.int (nI i))]) (st' := [.int (nI i), .long K]) (h' := (shT, fi, fl, fr)) rfl ?_
        refine gp_of (fun _ k9 => g_call (y := 161) (as := [.long K, .int (nI i)]) (st' := []) rfl rfl (hb) k9) ?_
        refine gp_of (fun _ k9 => g_iff rfl (show ¬ ((1 : Int32) = (0 : Int32)) from by decide) k9) ?_
        refine gp_n 4 (j' := 16) (lv' := [some (.ref 70), some (.int (nI most)), some (.int (nI c)), some (.int (nI P)), some (.int (nI i))]) (st' := [.int (nI most), .int ((2 : Int32) * (nI P))]) (h' := (shT, fi, fl, fr)) rfl ?_
        rw [m2]
        refine gp_of (fun _ k9 => g_icf rfl (show ¬ ((nI (2 * P)) ≤ (nI most)) from nI_ge (by omega) (by omega)) k9) ?_
        refine gp_n 5 (j' := 4) (lv' := [some (.ref 70), some (.int (nI most)), some (.int (nI c)), some (.int (nI most)), some (.int ((nI i) + 1))]) (st' := []) (h' := (shT, fi, fl, fr)) rfl ?_
        rw [nI_1]
        exact gp_done g rfl
theorem pa_ev {K : Int64} {m most c : Nat} {S : Nat → Int32} {h : PmH} (hI : HI hdT shT h) (hmo1 : 1 ≤ most) (hmo : most ≤ 8) (hc : c ≤ 64) (cK : ph_l h 70 21 = K) : Ev pmT 212 [.ref 70, .int (nI most), .int (nI c)] h (some (.int (nI (rdN K m S most c).1))) h := by
  refine Ev.of (es := cd_212) (ml := 5) (lv := [some (.ref 70), some (.int (nI most)), some (.int (nI c)), none, none]) rfl rfl rfl ?_
  obtain ⟨S, fi, fl, fr⟩ := h
  have hS : S = shT := hI.1
  subst hS
  have cK : fl 70 21 = K := cK
  have g := pa_go (m := m) (S := S) (fi := fi) (fr := fr) hmo1 hmo hc cK c 0 (by omega)
  generalize nI (rdN K m S most c).1 = res at *
  have g : Go pmT none cd_212 4 [some (.ref 70), some (.int (nI most)), some (.int (nI c)), some (.int 1), some (.int 0)] [] (shT, fi, fl, fr) (some (.int res), (shT, fi, fl, fr)) := g
  refine go_of ?_
  refine gp_n 4 (j' := 4) (lv' := [some (.ref 70), some (.int (nI most)), some (.int (nI c)), some (.int 1), some (.int 0)]) (st' := []) (h' := (shT, fi, fl, fr)) rfl ?_
  exact gp_done g rfl
