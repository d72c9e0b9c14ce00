theorem zr_loop {N : Int32} : ∀ (n b : Nat) (fi : Nat → Nat → Int32) (fl : Nat → Nat → Int64) (fr : Nat → Nat → Option Nat), b + n = 64 → fr 70 22 = some 74 → fi 70 14 = N → Go pmT none cd_149 76 [some (.ref 70), some (.int 1), some (.int (nI b))] [] (shT, fi, fl, fr) (some (.int N), (shT, fu fi 74 b n (fun _ => 0), fl, fr)) := by
  intro n
  induction n with
  | zero =>
    intro b fi fl fr hb k22 c14
    have hb : b = 64 := by omega
    subst hb
    rw [fu_0]
    refine go_of ?_
    refine gp_n 2 (j' := 78) (lv' := [some (.ref 70), some (.int 1), some (.int (nI 64))]) (st' := [.int 64, .int (nI 64)]) (h' := (shT, fi, fl, fr)) rfl ?_
    refine gp_of (fun _ k9 => g_ict rfl (show (64 : Int32) ≤ (nI 64) from by decide) k9) ?_
    refine gp_n 1 (j' := 87) (lv' := [some (.ref 70), some (.int 1), some (.int (nI 64))]) (st' := [.ref 70]) (h' := (shT, fi, fl, fr)) rfl ?_
    refine gp_of (fun _ k9 => g_getI (x := N) rfl (Or.inl rfl) rfl (by decide) (c14) k9) ?_
    refine gp_done (g_ret rfl) ?_
    rfl
  | succ n ih =>
    intro b fi fl fr hb k22 c14
    have g := ih (b + 1) (pm_u2 fi 74 b 0) fl fr (by omega) k22 c14
    rw [fu_s (f := fi) (p := 74) (lo := b) (n := n) (g := fun _ => 0) (g' := fun _ => 0) (fun i => rfl)] at g
    refine go_of ?_
    refine gp_n 2 (j' := 78) (lv' := [some (.ref 70), some (.int 1), some (.int (nI b))]) (st' := [.int 64, .int (nI b)]) (h' := (shT, fi, fl, fr)) rfl ?_
    refine gp_of (fun _ k9 => g_icf rfl (show ¬ ((64 : Int32) ≤ (nI b)) from nI_ge (b := 64) (by omega) (by decide)) k9) ?_
    refine gp_n 1 (j' := 80) (lv' := [some (.ref 70), some (.int 1), some (.int (nI b))]) (st' := [.ref 70]) (h' := (shT, fi, fl, fr)) rfl ?_
    refine gp_of (fun _ k9 => g_getR (q' := 74) rfl rfl (by decide) k22 k9) ?_
    refine gp_n 2 (j' := 83) (lv' := [some (.ref 70), some (.int 1), some (.int (nI b))]) (st' := [.int 0, .int (nI b), .ref 74]) (h' := (shT, fi, fl, fr)) rfl ?_
    refine gp_of (fun _ k9 => g_iast (k := b) rfl rfl (rfl) (by omega) (by decide) k9) ?_
    refine gp_n 2 (j' := 76) (lv' := [some (.ref 70), some (.int 1), some (.int ((nI b) + 1))]) (st' := []) (h' := (shT, pm_u2 fi 74 b 0, fl, fr)) rfl ?_
    rw [nI_1]
    exact gp_done g rfl
theorem cm_57 {N c kp : Nat} {K w : Int64} {bb : Bool} {fi : Nat → Nat → Int32} {fl : Nat → Nat → Int64} {fr : Nat → Nat → Option Nat} (k5 : fr 70 5 = some 73) (k22 : fr 70 22 = some 74) (t2 : fi 73 2 = b01 bb) (c14 : fi 70 14 = nI N) (c17 : fi 70 17 = nI c) (c7 : fi 70 7 = nI kp) (c8 : fl 70 8 = K) (hk : bb = true → c ≤ popc K) : Go pmT none cd_149 57 [some (.ref 70), some (.int 1), none] [.long w, .ref 70] (shT, fi, fl, fr) (some (.int (nI N)), (shT, fu (pm_u2 fi 70 16 (nI (if bb = true then popc K - c else kp))) 74 0 64 (fun _ => 0), pm_u2 fl 70 21 w, fr)) := by
  have so := so_ev (K := K) (h := (shT, fi, pm_u2 fl 70 21 w, fr))
  have lp := zr_loop (N := nI N) 64 0 (pm_u2 fi 70 16 (nI (if bb = true then popc K - c else kp))) (pm_u2 fl 70 21 w) fr (by omega) k22 c14
  refine go_of ?_
  cases bb
  · have t2 : fi 73 2 = 0 := t2
    rw [if_neg (by decide)] at lp ⊢
    refine gp_of (fun _ k9 => g_putL rfl rfl (by decide) k9) ?_
    refine gp_n 2 (j' := 60) (lv' := [some (.ref 70), some (.int 1), none]) (st' := [.ref 70, .ref 70]) (h' := (shT, fi, pm_u2 fl 70 21 w, fr)) rfl ?_
    refine gp_of (fun _ k9 => g_getR (q' := 73) rfl rfl (by decide) k5 k9) ?_
    refine gp_n 1 (j' := 62) (lv' := [some (.ref 70), some (.int 1), none]) (st' := [.int 2, .ref 73, .ref 70]) (h' := (shT, fi, pm_u2 fl 70 21 w, fr)) rfl ?_
    refine gp_of (fun _ k9 => g_bald (k := 2) (x := 0) rfl rfl (by decide) (rfl) (by decide) (by decide) (t2) k9) ?_
    refine gp_of (fun _ k9 => g_ift rfl (show (0 : Int32) = (0 : Int32) from by decide) k9) ?_
    refine gp_n 1 (j' := 72) (lv' := [some (.ref 70), some (.int 1), none]) (st' := [.ref 70, .ref 70]) (h' := (shT, fi, pm_u2 fl 70 21 w, fr)) rfl ?_
    refine gp_of (fun _ k9 => g_getI (x := nI kp) rfl (Or.inl rfl) rfl (by decide) (c7) k9) ?_
    refine gp_of (fun _ k9 => g_putI rfl (Or.inl rfl) rfl (by decide) k9) ?_
    refine gp_n 2 (j' := 76) (lv' := [some (.ref 70), some (.int 1), some (.int (nI 0))]) (st' := []) (h' := (shT, pm_u2 fi 70 16 (nI kp), pm_u2 fl 70 21 w, fr)) rfl ?_
    exact gp_done lp rfl
  · have t2 : fi 73 2 = 1 := t2
    rw [if_pos rfl] at lp ⊢
    have es : nI (popc K) - nI c = nI (popc K - c) := pk_sub (hk rfl)
    refine gp_of (fun _ k9 => g_putL rfl rfl (by decide) k9) ?_
    refine gp_n 2 (j' := 60) (lv' := [some (.ref 70), some (.int 1), none]) (st' := [.ref 70, .ref 70]) (h' := (shT, fi, pm_u2 fl 70 21 w, fr)) rfl ?_
    refine gp_of (fun _ k9 => g_getR (q' := 73) rfl rfl (by decide) k5 k9) ?_
    refine gp_n 1 (j' := 62) (lv' := [some (.ref 70), some (.int 1), none]) (st' := [.int 2, .ref 73, .ref 70]) (h' := (shT, fi, pm_u2 fl 70 21 w, fr)) rfl ?_
    refine gp_of (fun _ k9 => g_bald (k := 2) (x := 1) rfl rfl (by decide) (rfl) (by decide) (by decide) (t2) k9) ?_
    refine gp_of (fun _ k9 => g_iff rfl (show ¬ ((1 : Int32) = (0 : Int32)) from by decide) k9) ?_
    refine gp_n 1 (j' := 65) (lv' := [some (.ref 70), some (.int 1), none]) (st' := [.ref 70, .ref 70]) (h' := (shT, fi, pm_u2 fl 70 21 w, fr)) rfl ?_
    refine gp_of (fun _ k9 => g_getL (x := K) rfl rfl (by decide) (c8) k9) ?_
    refine gp_of (fun _ k9 => g_call (y := 160) (as := [.long K]) (st' := [.ref 70]) rfl rfl (so) k9) ?_
    refine gp_n 1 (j' := 68) (lv' := [some (.ref 70), some (.int 1), none]) (st' := [.ref 70, .int (nI (popc K)), .ref 70]) (h' := (shT, fi, pm_u2 fl 70 21 w, fr)) rfl ?_
    refine gp_of (fun _ k9 => g_getI (x := nI c) rfl (Or.inl rfl) rfl (by decide) (c17) k9) ?_
    refine gp_n 2 (j' := 73) (lv' := [some (.ref 70), some (.int 1), none]) (st' := [.int ((nI (popc K)) - (nI c)), .ref 70]) (h' := (shT, fi, pm_u2 fl 70 21 w, fr)) rfl ?_
    rw [es]
    refine gp_of (fun _ k9 => g_putI rfl (Or.inl rfl) rfl (by decide) k9) ?_
    refine gp_n 2 (j' := 76) (lv' := [some (.ref 70), some (.int 1), some (.int (nI 0))]) (st' := []) (h' := (shT, pm_u2 fi 70 16 (nI (popc K - c)), pm_u2 fl 70 21 w, fr)) rfl ?_
    exact gp_done lp rfl
def mW : WSt := (70, 1) :: (70, 14) :: (70, 15) :: (70, 16) :: (70, 17) :: (70, 18) :: (70, 19) :: (70, 20) :: (70, 21) :: (74, 9999) :: (lW ++ in_w iM_keepsAct)
def h6c (h : PmH) (R : RC) : PmH := h_i (h_i (h_i (h_i (h_i (h_i h 70 15 (nI R.2.1)) 70 14 (nI (2 ^ R.2.1))) 70 17 (nI R.2.2.2.1)) 70 18 (nI R.2.2.2.2.1)) 70 19 (nI R.2.2.2.2.2.1)) 70 20 (nI R.2.2.2.2.2.2.1)
theorem h6_I {h : PmH} {R : RC} (hI : HI hdT shT h) (hR : rc_ok R) : HI hdT shT (h6c h R) := by
  obtain ⟨b1, ⟨b2, b3⟩, b4, b5, b6, b7⟩ := hR
  have p6 := pw_6 R.2.1 (by omega)
  have w : ∀ (g : PmH) (c n m : Nat), hd_at hdT shT 70 c = (0, 0, (m : Int), []) → n ≤ m → m < 100 → HI hdT shT g → HI hdT shT (h_i g 70 c (nI n)) := fun g c n m hd hn hm hg => HI_wi hg (fun _ => by
    rw [hd]
    show (0 : Int) ≤ _ ∧ _ ≤ (m : Int)
    rw [nI_toInt (by omega)]
    omega)
  exact w _ 20 _ 8 rfl b6 (by decide) (hd70 (hd70 (w _ 17 _ 8 rfl b5 (by decide) (w _ 14 _ 64 rfl p6.2 (by decide) (w _ 15 _ 6 rfl b3 (by decide) hI))) rfl) rfl)
theorem h6_n {h : PmH} {R : RC} {p s : Nat} (hn : ¬ (p = 70 ∧ (s = 14 ∨ s = 15 ∨ (17 ≤ s ∧ s ≤ 20)))) : ph_i (h6c h R) p s = ph_i h p s := by
  unfold h6c
  rw [h_n (by omega), h_n (by omega), h_n (by omega), h_n (by omega), h_n (by omega), h_n (by omega)]
theorem cod_M {L : Bool} {h : PmH} {a : AB} (hI : HI hdT shT h) (hR : QM L h a) (hA : AOK a) : (∃ R K h', parseS (a_tb a) (a_tl a) = some R ∧ kS R K ∧ Ev pmT 149 [.ref 70] h (some (.int (nI (2 ^ R.2.1)))) h' ∧ QM L h' (a_setv (v_code R K) (a_push (a_tape 0 a))) ∧ HI hdT shT h' ∧ fram mW h h') ∨ (∃ x h', parseS (a_tb a) (a_tl a) = none ∧ Ev pmT 149 [.ref 70] h (some (.int x)) h' ∧ QM L h' (a_tape 0 a) ∧ HI hdT shT h' ∧ fram mW h h') := by
  obtain ⟨⟨v1, h1⟩, ev1, I1, F1, z⟩ := ra_ev hA.1 hA.2.2.1 hI hR.2.1 hR.2.2.1 hR.1
  have I1 : HI hdT shT h1 := I1
  have F1 : fram lW h h1 := F1
  have R1 := QM_fr (show irM lW = true by decide) F1 hR
  have I2 : HI hdT shT (h_i h1 70 1 0) := HI_wi I1 (fun _ => by
    rw [show hd_at hdT shT 70 1 = (0, 0, 200, []) from rfl]
    decide)
  have R2 : QM L (h_i h1 70 1 0) (a_tape 0 a) := QM_t R1 h_e (fun p s hp => h_n hp) (fun _ _ => rfl)
  have F2 : fram mW h (h_i h1 70 1 0) := fram.tr (fram.up (show subW lW mW = true by decide) F1) (fram_wi (by decide))
  have ev1 : Ev pmT 150 [.ref 70] h v1 h1 := ev1
  have st : ∀ x : Int32, v1 = some (.int x) → ∀ v h', Go pmT none cd_149 6 [some (.ref 70), some (.int x), none] [] (h_i h1 70 1 0) (v, h') → Ev pmT 149 [.ref 70] h v h' := by
    intro x hx v h' g
    subst hx
    refine Ev.of (es := cd_149) (ml := 3) (lv := [some (.ref 70), none, none]) rfl rfl rfl ?_
    clear z R1 R2 F1 F2 I2 hR
    obtain ⟨S1, fi1, fl1, fr1⟩ := h1
    have s1 : S1 = shT := I1.1
    subst s1
    obtain ⟨S, fi, fl, fr⟩ := h
    have hS : S = shT := hI.1
    subst hS
    refine go_of ?_
    refine gp_n 1 (j' := 1) (lv' := [some (.ref 70), none, none]) (st' := [.ref 70]) (h' := (shT, fi, fl, fr)) rfl ?_
    refine gp_of (fun _ k9 => g_call (y := 150) (as := [.ref 70]) (st' := []) rfl rfl (ev1) k9) ?_
    refine gp_n 3 (j' := 5) (lv' := [some (.ref 70), some (.int x), none]) (st' := [.int 0, .ref 70]) (h' := (shT, fi1, fl1, fr1)) rfl ?_
    refine gp_of (fun _ k9 => g_putI rfl (Or.inl rfl) rfl (by decide) k9) ?_
    exact gp_done g rfl
  rcases z with ⟨R, e, z1, z2, z3⟩ | ⟨z1, z2⟩
  · have z2 : v1 = some (.int 1) := z2
    have z3 : mp_S (a_tb a) (a_tl a) e R h1 := z3
    have hRk : rc_ok R ∧ okR R = true := by
      unfold parseS at z1
      cases hs : sizeS (a_tb a) (a_tl a) 0 with
      | none => rw [hs] at z1; cases z1
      | some q =>
        rw [hs] at z1
        have z1 : (linesS (a_tb a) (a_tl a) (a_tl a + 1) q.1 q.2).bind (fun y => if okR y.1 = true then some y.1 else none) = some R := z1
        cases hl : linesS (a_tb a) (a_tl a) (a_tl a + 1) q.1 q.2 with
        | none => rw [hl] at z1; cases z1
        | some y =>
          rw [hl] at z1
          have z1 : (if okR y.1 = true then some y.1 else none) = some R := z1
          split at z1
          · rename_i ho
            cases z1
            exact ⟨lines_ok _ _ _ _ _ (size_ok hs) hl, ho⟩
          · cases z1
    obtain ⟨rc, ok⟩ := hRk
    obtain ⟨h3, ev3, R3, I3, F3⟩ := ka_ev I2 R2 hA.2.1
    obtain ⟨a0, a1, a2, a3, a4, a5, a6⟩ := z3.2.1
    have kp : ∀ p s, inW (in_w iM_keepsAct) p s = false → ¬ (p = 70 ∧ s = 1) → ph_i h3 p s = ph_i h1 p s ∧ ph_l h3 p s = ph_l h1 p s := fun p s hw hn => ⟨((F3 p s hw).1).trans (h_n hn), (F3 p s hw).2.1⟩
    have d6 : ph_i h3 70 6 = nI R.2.1 := ((kp 70 6 (by decide) (by decide)).1).trans a0
    have d7 : ph_i h3 70 7 = nI R.2.2.1 := ((kp 70 7 (by decide) (by decide)).1).trans a1
    have d8 : ph_l h3 70 8 = R.2.2.2.2.2.2.2 := ((kp 70 8 (by decide) (by decide)).2).trans a2
    have d9 : ph_i h3 70 9 = nI R.2.2.2.1 := ((kp 70 9 (by decide) (by decide)).1).trans a3
    have d10 : ph_i h3 70 10 = nI R.2.2.2.2.1 := ((kp 70 10 (by decide) (by decide)).1).trans a4
    have d11 : ph_i h3 70 11 = nI R.2.2.2.2.2.1 := ((kp 70 11 (by decide) (by decide)).1).trans a5
    have d12 : ph_i h3 70 12 = nI R.2.2.2.2.2.2.1 := ((kp 70 12 (by decide) (by decide)).1).trans a6
    have t2 : ph_i h3 73 2 = b01 (R.1.testBit 2) := ((kp 73 2 (by decide) (by decide)).1).trans (z3.2.2.1.2 2 (by decide) (by decide))
    have I4 := h6_I (R := R) I3 rc
    have sh := (sh_2 R.2.1 (by have := rc.2.1.2; omega)).1
    -- the kept ones
    have fin : ∀ (w : Int64) (g : PmH), kS R w → HI hdT shT g → (∀ p s, ph_i g p s = ph_i (h6c h3 R) p s ∧ ph_l g p s = ph_l (h6c h3 R) p s ∧ ph_r g p s = ph_r (h6c h3 R) p s) → (∀ r, Go pmT none cd_149 57 [some (.ref 70), some (.int 1), none] [.long w, .ref 70] g r → Go pmT none cd_149 6 [some (.ref 70), some (.int 1), none] [] (h_i h1 70 1 0) r) → ∃ R K h', parseS (a_tb a) (a_tl a) = some R ∧ kS R K ∧ Ev pmT 149 [.ref 70] h (some (.int (nI (2 ^ R.2.1)))) h' ∧ QM L h' (a_setv (v_code R K) (a_push (a_tape 0 a))) ∧ HI hdT shT h' ∧ fram mW h h' := by
      intro w g hw Ig eg hg
      have e14 : ph_i g 70 14 = nI (2 ^ R.2.1) := ((eg 70 14).1).trans (by unfold h6c; rw [h_n (by decide), h_n (by decide), h_n (by decide), h_n (by decide), h_e])
      have e15 : ph_i g 70 15 = nI R.2.1 := ((eg 70 15).1).trans (by unfold h6c; rw [h_n (by decide), h_n (by decide), h_n (by decide), h_n (by decide), h_n (by decide), h_e])
      have e17 : ph_i g 70 17 = nI R.2.2.2.1 := ((eg 70 17).1).trans (by unfold h6c; rw [h_n (by decide), h_n (by decide), h_n (by decide), h_e])
      have e18 : ph_i g 70 18 = nI R.2.2.2.2.1 := ((eg 70 18).1).trans (by unfold h6c; rw [h_n (by decide), h_n (by decide), h_e])
      have e19 : ph_i g 70 19 = nI R.2.2.2.2.2.1 := ((eg 70 19).1).trans (by unfold h6c; rw [h_n (by decide), h_e])
      have e20 : ph_i g 70 20 = nI R.2.2.2.2.2.2.1 := ((eg 70 20).1).trans h_e
      have hkk : R.1.testBit 2 = true → R.2.2.2.1 ≤ popc R.2.2.2.2.2.2.2 := fun hb => by
        unfold okR at ok
        rw [if_pos hb] at ok
        have := of_decide_eq_true ok
        omega
      have hkN : (if R.1.testBit 2 = true then popc R.2.2.2.2.2.2.2 - R.2.2.2.1 else R.2.2.1) = kN R := rfl
      have cm := cm_57 (w := w) (bb := R.1.testBit 2) (kp := R.2.2.1) (K := R.2.2.2.2.2.2.2) (fi := ph_i g) (fl := ph_l g) (fr := ph_r g) (hi_r Ig rfl rfl (by decide)) (hi_r Ig rfl rfl (by decide)) (((eg 73 2).1).trans ((h6_n (by decide)).trans t2)) e14 e17 (((eg 70 7).1).trans ((h6_n (by decide)).trans d7)) (((eg 70 8).2.1).trans d8) hkk
      rw [hkN] at cm
      have gg : g = (shT, ph_i g, ph_l g, ph_r g) := by
        have := Ig.1
        rw [← this]
      rw [← gg] at cm
      have ev := st 1 z2 _ _ (hg _ cm)
      have nk : ∀ p s, ¬ (p = 70 ∧ 14 ≤ s ∧ s ≤ 20) → ¬ p = 74 → fu (pm_u2 (ph_i g) 70 16 (nI (kN R))) 74 0 64 (fun _ => 0) p s = ph_i h3 p s := fun p s hp h74 => by
        rw [fu_ne h74, u2_ne (by omega), (eg p s).1, h6_n (by omega)]
      have nl : ∀ p s, ¬ (p = 70 ∧ s = 21) → pm_u2 (ph_l g) 70 21 w p s = ph_l h3 p s := fun p s hp => by
        rw [u2_ne hp]
        exact (eg p s).2.1
      have nf : fram mW h3 (shT, fu (pm_u2 (ph_i g) 70 16 (nI (kN R))) 74 0 64 (fun _ => 0), pm_u2 (ph_l g) 70 21 w, ph_r g) := by
        intro p s hw
        have h3' : ∀ c, inW mW 70 c = true → ¬ (p = 70 ∧ s = c) := fun c hc z => by
          rw [z.1, z.2, hc] at hw
          cases hw
        have h74 : ¬ p = 74 := fun z => by
          have : inW mW 74 s = true := by
            show (mW.any fun q => q.1 == 74 && (q.2 == s || q.2 == 9999)) = true
            exact List.any_eq_true.mpr ⟨(74, 9999), by decide, by simp⟩
          rw [z, this] at hw
          cases hw
        refine ⟨nk p s (fun z => ?_) h74, nl p s (h3' 21 rfl), (eg p s).2.2⟩
        have hs : s = 14 ∨ s = 15 ∨ s = 16 ∨ s = 17 ∨ s = 18 ∨ s = 19 ∨ s = 20 := by omega
        rcases hs with rfl | rfl | rfl | rfl | rfl | rfl | rfl
        · exact h3' 14 rfl ⟨z.1, rfl⟩
        · exact h3' 15 rfl ⟨z.1, rfl⟩
        · exact h3' 16 rfl ⟨z.1, rfl⟩
        · exact h3' 17 rfl ⟨z.1, rfl⟩
        · exact h3' 18 rfl ⟨z.1, rfl⟩
        · exact h3' 19 rfl ⟨z.1, rfl⟩
        · exact h3' 20 rfl ⟨z.1, rfl⟩
      have Ik : HI hdT shT (h_i g 70 16 (nI (kN R))) := HI_wi Ig (fun _ => by
        rw [show hd_at hdT shT 70 16 = (0, 0, 64, []) from rfl]
        have := kN_le rc
        show (0 : Int) ≤ _ ∧ _ ≤ (64 : Int)
        rw [nI_toInt (by omega)]
        omega)
      have If : HI hdT shT (shT, fu (pm_u2 (ph_i g) 70 16 (nI (kN R))) 74 0 64 (fun _ => 0), pm_u2 (ph_l g) 70 21 w, ph_r g) := by
        refine ⟨rfl, fun p s t n hs hn => ?_⟩
        have hd := Ik.2 p s t n hs hn
        by_cases h74 : p = 74
        · subst h74
          have : hd_at hdT shT 74 s = (9, 0, 0, []) := by
            show (hdT.getD 74 []).getD (s % (hdT.getD 74 []).length) (9, 0, 0, []) = _
            rfl
          rw [this]
          trivial
        · unfold hd_ok at hd ⊢
          rw [phi_mk, fu_ne h74]
          exact hd
      refine ⟨R, w, _, z1, hw, ev, QM_v R3 (fun p s hp h74 => nk p s hp h74) (fun p s hp => nl p s (by omega)) ⟨fun j hj => ?_, fun hL => ⟨?_, fun s hs => ?_⟩⟩, If, fram.tr F2 (fram.tr (fram.up (by decide) F3) nf)⟩
      · rw [phi_mk, fu_ne (by decide)]
        have hj7 : j = 0 ∨ j = 1 ∨ j = 2 ∨ j = 3 ∨ j = 4 ∨ j = 5 ∨ j = 6 := by omega
        rcases hj7 with rfl | rfl | rfl | rfl | rfl | rfl | rfl
        · rw [u2_ne (by decide)]; exact e14
        · rw [u2_ne (by decide)]; exact e15
        · exact u2_eq
        · rw [u2_ne (by decide)]; exact e17
        · rw [u2_ne (by decide)]; exact e18
        · rw [u2_ne (by decide)]; exact e19
        · rw [u2_ne (by decide)]; exact e20
      · rw [phl_mk, u2_eq]
        rfl
      · rw [phi_mk, fu_in (by omega) (by omega)]
        rfl
    left
    cases hb : R.1.testBit 2
    · -- keep
      rw [hb] at t2
      obtain ⟨v5, h5, ev5, I5, F5, p5⟩ := iv_ev vN_307 (as := [.ref 70, .int (nI R.2.2.1 + nI R.2.2.2.1)]) rfl (fun _ _ => gz_c (gz_r (by decide)) (gz_c (gz_a _) gz_n)) I4
      obtain ⟨w, rfl⟩ := pv_l rfl p5
      have hw : kS R w := by
        unfold kS
        rw [if_neg (by rw [hb]; decide)]
        have p6 := pw_6 R.2.1 (by have := rc.2.1.2; omega)
        have b4 := rc.2.2.1
        have b5 := rc.2.2.2.1
        obtain ⟨K', ek, kk⟩ := ky_ev (N := 2 ^ R.2.1) (m := R.2.1) (q := R.2.2.1 + R.2.2.2.1) (er := nI R.2.2.2.2.2.1) I4 p6.2 rc.2.1.2 (by omega) (by unfold h6c; rw [h_n (by decide), h_n (by decide), h_n (by decide), h_n (by decide), h_e]) (by unfold h6c; rw [h_n (by decide), h_e]) (by unfold h6c; rw [h_n (by decide), h_n (by decide), h_n (by decide), h_n (by decide), h_n (by decide), h_e])
        have ev5 : Ev pmT 164 [.ref 70, .int (nI R.2.2.1 + nI R.2.2.2.1)] (h6c h3 R) (some (.long w)) h5 := ev5
        rw [nI_add] at ev5
        obtain ⟨e1, -⟩ := ev_det ev5 ek
        cases e1
        exact kk
      refine fin w h5 hw I5 (fun p s => F5 p s rfl) (fun r g => ?_)
      have k5 : ph_r h3 70 5 = some 73 := hi_r I3 rfl rfl (by decide)
      clear fin st R1 R2 R3 F1 F2 F3 F5 z3 kp ev1 hR a0 a1 a2 a3 a4 a5 a6
      generalize h_i h1 70 1 0 = h2 at *
      have ev5 : Ev pmT 164 [.ref 70, .int (nI R.2.2.1 + nI R.2.2.2.1)] (h6c h3 R) (some (.long w)) h5 := ev5
      obtain ⟨S3, fi3, fl3, fr3⟩ := h3
      have s3 : S3 = shT := I3.1
      subst s3
      have k5 : fr3 70 5 = some 73 := k5
      have d6 : fi3 70 6 = nI R.2.1 := d6
      have d7 : fi3 70 7 = nI R.2.2.1 := d7
      have d9 : fi3 70 9 = nI R.2.2.2.1 := d9
      have d10 : fi3 70 10 = nI R.2.2.2.2.1 := d10
      have d11 : fi3 70 11 = nI R.2.2.2.2.2.1 := d11
      have d12 : fi3 70 12 = nI R.2.2.2.2.2.2.1 := d12
      have t2 : fi3 73 2 = 0 := t2
      obtain ⟨S5, fi5, fl5, fr5⟩ := h5
      have s5 : S5 = shT := I5.1
      subst s5
      obtain ⟨S, fi, fl, fr⟩ := h2
      have hS : S = shT := I2.1
      subst hS
      refine go_of ?_
      refine gp_n 1 (j' := 7) (lv' := [some (.ref 70), some (.int 1), none]) (st' := [.int 1]) (h' := (shT, fi, fl, fr)) rfl ?_
      refine gp_of (fun _ k9 => g_ift rfl (show ¬ (1 : Int32) = (0 : Int32) from by decide) k9) ?_
      refine gp_n 1 (j' := 14) (lv' := [some (.ref 70), some (.int 1), none]) (st' := [.ref 70]) (h' := (shT, fi, fl, fr)) rfl ?_
      refine gp_of (fun _ k9 => g_callv (y := 162) (as := [.ref 70]) (st' := []) rfl rfl (ev3) k9) ?_
      refine gp_n 2 (j' := 17) (lv' := [some (.ref 70), some (.int 1), none]) (st' := [.ref 70, .ref 70]) (h' := (shT, fi3, fl3, fr3)) rfl ?_
      refine gp_of (fun _ k9 => g_getI (x := nI R.2.1) rfl (Or.inl rfl) rfl (by decide) (d6) k9) ?_
      refine gp_of (fun _ k9 => g_putI rfl (Or.inl rfl) rfl (by decide) k9) ?_
      refine gp_n 3 (j' := 22) (lv' := [some (.ref 70), some (.int 1), none]) (st' := [.ref 70, .int 1, .ref 70]) (h' := (shT, pm_u2 fi3 70 15 (nI R.2.1), fl3, fr3)) rfl ?_
      refine gp_of (fun _ k9 => g_getI (x := nI R.2.1) rfl (Or.inl rfl) rfl (by decide) (rfl) k9) ?_
      refine gp_n 1 (j' := 24) (lv' := [some (.ref 70), some (.int 1), none]) (st' := [.int ((1 : Int32) <<< ((nI R.2.1) &&& 31)), .ref 70]) (h' := (shT, pm_u2 fi3 70 15 (nI R.2.1), fl3, fr3)) rfl ?_
      rw [sh]
      refine gp_of (fun _ k9 => g_putI rfl (Or.inl rfl) rfl (by decide) k9) ?_
      refine gp_n 2 (j' := 27) (lv' := [some (.ref 70), some (.int 1), none]) (st' := [.ref 70, .ref 70]) (h' := (shT, pm_u2 (pm_u2 fi3 70 15 (nI R.2.1)) 70 14 (nI (2 ^ R.2.1)), fl3, fr3)) rfl ?_
      refine gp_of (fun _ k9 => g_getI (x := nI R.2.2.2.1) rfl (Or.inl rfl) rfl (by decide) (d9) k9) ?_
      refine gp_of (fun _ k9 => g_putI rfl (Or.inl rfl) rfl (by decide) k9) ?_
      refine gp_n 2 (j' := 31) (lv' := [some (.ref 70), some (.int 1), none]) (st' := [.ref 70, .ref 70]) (h' := (shT, pm_u2 (pm_u2 (pm_u2 fi3 70 15 (nI R.2.1)) 70 14 (nI (2 ^ R.2.1))) 70 17 (nI R.2.2.2.1), fl3, fr3)) rfl ?_
      refine gp_of (fun _ k9 => g_getI (x := nI R.2.2.2.2.1) rfl (Or.inl rfl) rfl (by decide) (d10) k9) ?_
      refine gp_of (fun _ k9 => g_putI rfl (Or.inl rfl) rfl (by decide) k9) ?_
      refine gp_n 2 (j' := 35) (lv' := [some (.ref 70), some (.int 1), none]) (st' := [.ref 70, .ref 70]) (h' := (shT, pm_u2 (pm_u2 (pm_u2 (pm_u2 fi3 70 15 (nI R.2.1)) 70 14 (nI (2 ^ R.2.1))) 70 17 (nI R.2.2.2.1)) 70 18 (nI R.2.2.2.2.1), fl3, fr3)) rfl ?_
      refine gp_of (fun _ k9 => g_getI (x := nI R.2.2.2.2.2.1) rfl (Or.inl rfl) rfl (by decide) (d11) k9) ?_
      refine gp_of (fun _ k9 => g_putI rfl (Or.inl rfl) rfl (by decide) k9) ?_
      refine gp_n 2 (j' := 39) (lv' := [some (.ref 70), some (.int 1), none]) (st' := [.ref 70, .ref 70]) (h' := (shT, pm_u2 (pm_u2 (pm_u2 (pm_u2 (pm_u2 fi3 70 15 (nI R.2.1)) 70 14 (nI (2 ^ R.2.1))) 70 17 (nI R.2.2.2.1)) 70 18 (nI R.2.2.2.2.1)) 70 19 (nI R.2.2.2.2.2.1), fl3, fr3)) rfl ?_
      refine gp_of (fun _ k9 => g_getI (x := nI R.2.2.2.2.2.2.1) rfl (Or.inl rfl) rfl (by decide) (d12) k9) ?_
      refine gp_of (fun _ k9 => g_putI rfl (Or.inl rfl) rfl (by decide) k9) ?_
      refine gp_n 2 (j' := 43) (lv' := [some (.ref 70), some (.int 1), none]) (st' := [.ref 70, .ref 70]) (h' := (shT, pm_u2 (pm_u2 (pm_u2 (pm_u2 (pm_u2 (pm_u2 fi3 70 15 (nI R.2.1)) 70 14 (nI (2 ^ R.2.1))) 70 17 (nI R.2.2.2.1)) 70 18 (nI R.2.2.2.2.1)) 70 19 (nI R.2.2.2.2.2.1)) 70 20 (nI R.2.2.2.2.2.2.1), fl3, fr3)) rfl ?_
      refine gp_of (fun _ k9 => g_getR (q' := 73) rfl rfl (by decide) k5 k9) ?_
      refine gp_n 1 (j' := 45) (lv' := [some (.ref 70), some (.int 1), none]) (st' := [.int 2, .ref 73, .ref 70]) (h' := (shT, pm_u2 (pm_u2 (pm_u2 (pm_u2 (pm_u2 (pm_u2 fi3 70 15 (nI R.2.1)) 70 14 (nI (2 ^ R.2.1))) 70 17 (nI R.2.2.2.1)) 70 18 (nI R.2.2.2.2.1)) 70 19 (nI R.2.2.2.2.2.1)) 70 20 (nI R.2.2.2.2.2.2.1), fl3, fr3)) rfl ?_
      refine gp_of (fun _ k9 => g_bald (k := 2) (x := 0) rfl rfl (by decide) (rfl) (by decide) (by decide) (t2) k9) ?_
      refine gp_of (fun _ k9 => g_ift rfl (show (0 : Int32) = (0 : Int32) from by decide) k9) ?_
      refine gp_n 2 (j' := 52) (lv' := [some (.ref 70), some (.int 1), none]) (st' := [.ref 70, .ref 70, .ref 70]) (h' := (shT, pm_u2 (pm_u2 (pm_u2 (pm_u2 (pm_u2 (pm_u2 fi3 70 15 (nI R.2.1)) 70 14 (nI (2 ^ R.2.1))) 70 17 (nI R.2.2.2.1)) 70 18 (nI R.2.2.2.2.1)) 70 19 (nI R.2.2.2.2.2.1)) 70 20 (nI R.2.2.2.2.2.2.1), fl3, fr3)) rfl ?_
      refine gp_of (fun _ k9 => g_getI (x := nI R.2.2.1) rfl (Or.inl rfl) rfl (by decide) (d7) k9) ?_
      refine gp_n 1 (j' := 54) (lv' := [some (.ref 70), some (.int 1), none]) (st' := [.ref 70, .int (nI R.2.2.1), .ref 70, .ref 70]) (h' := (shT, pm_u2 (pm_u2 (pm_u2 (pm_u2 (pm_u2 (pm_u2 fi3 70 15 (nI R.2.1)) 70 14 (nI (2 ^ R.2.1))) 70 17 (nI R.2.2.2.1)) 70 18 (nI R.2.2.2.2.1)) 70 19 (nI R.2.2.2.2.2.1)) 70 20 (nI R.2.2.2.2.2.2.1), fl3, fr3)) rfl ?_
      refine gp_of (fun _ k9 => g_getI (x := nI R.2.2.2.1) rfl (Or.inl rfl) rfl (by decide) (rfl) k9) ?_
      refine gp_n 1 (j' := 56) (lv' := [some (.ref 70), some (.int 1), none]) (st' := [.int ((nI R.2.2.1) + (nI R.2.2.2.1)), .ref 70, .ref 70]) (h' := (shT, pm_u2 (pm_u2 (pm_u2 (pm_u2 (pm_u2 (pm_u2 fi3 70 15 (nI R.2.1)) 70 14 (nI (2 ^ R.2.1))) 70 17 (nI R.2.2.2.1)) 70 18 (nI R.2.2.2.2.1)) 70 19 (nI R.2.2.2.2.2.1)) 70 20 (nI R.2.2.2.2.2.2.1), fl3, fr3)) rfl ?_
      refine gp_of (fun _ k9 => g_call (y := 164) (as := [.ref 70, .int ((nI R.2.2.1) + (nI R.2.2.2.1))]) (st' := [.ref 70]) rfl rfl (ev5) k9) ?_
      exact gp_done g rfl
    · -- info
      rw [hb] at t2
      refine fin R.2.2.2.2.2.2.2 (h6c h3 R) (by unfold kS; rw [if_pos hb]) I4 (fun p s => ⟨rfl, rfl, rfl⟩) (fun r g => ?_)
      have k5 : ph_r h3 70 5 = some 73 := hi_r I3 rfl rfl (by decide)
      clear fin st R1 R2 R3 F1 F2 F3 z3 kp ev1 hR a0 a1 a2 a3 a4 a5 a6
      generalize h_i h1 70 1 0 = h2 at *
      obtain ⟨S3, fi3, fl3, fr3⟩ := h3
      have s3 : S3 = shT := I3.1
      subst s3
      have k5 : fr3 70 5 = some 73 := k5
      have d6 : fi3 70 6 = nI R.2.1 := d6
      have d7 : fi3 70 7 = nI R.2.2.1 := d7
      have d9 : fi3 70 9 = nI R.2.2.2.1 := d9
      have d10 : fi3 70 10 = nI R.2.2.2.2.1 := d10
      have d11 : fi3 70 11 = nI R.2.2.2.2.2.1 := d11
      have d12 : fi3 70 12 = nI R.2.2.2.2.2.2.1 := d12
      have d8 : fl3 70 8 = R.2.2.2.2.2.2.2 := d8
      have t2 : fi3 73 2 = 1 := t2
      obtain ⟨S, fi, fl, fr⟩ := h2
      have hS : S = shT := I2.1
      subst hS
      refine go_of ?_
      refine gp_n 1 (j' := 7) (lv' := [some (.ref 70), some (.int 1), none]) (st' := [.int 1]) (h' := (shT, fi, fl, fr)) rfl ?_
      refine gp_of (fun _ k9 => g_ift rfl (show ¬ (1 : Int32) = (0 : Int32) from by decide) k9) ?_
      refine gp_n 1 (j' := 14) (lv' := [some (.ref 70), some (.int 1), none]) (st' := [.ref 70]) (h' := (shT, fi, fl, fr)) rfl ?_
      refine gp_of (fun _ k9 => g_callv (y := 162) (as := [.ref 70]) (st' := []) rfl rfl (ev3) k9) ?_
      refine gp_n 2 (j' := 17) (lv' := [some (.ref 70), some (.int 1), none]) (st' := [.ref 70, .ref 70]) (h' := (shT, fi3, fl3, fr3)) rfl ?_
      refine gp_of (fun _ k9 => g_getI (x := nI R.2.1) rfl (Or.inl rfl) rfl (by decide) (d6) k9) ?_
      refine gp_of (fun _ k9 => g_putI rfl (Or.inl rfl) rfl (by decide) k9) ?_
      refine gp_n 3 (j' := 22) (lv' := [some (.ref 70), some (.int 1), none]) (st' := [.ref 70, .int 1, .ref 70]) (h' := (shT, pm_u2 fi3 70 15 (nI R.2.1), fl3, fr3)) rfl ?_
      refine gp_of (fun _ k9 => g_getI (x := nI R.2.1) rfl (Or.inl rfl) rfl (by decide) (rfl) k9) ?_
      refine gp_n 1 (j' := 24) (lv' := [some (.ref 70), some (.int 1), none]) (st' := [.int ((1 : Int32) <<< ((nI R.2.1) &&& 31)), .ref 70]) (h' := (shT, pm_u2 fi3 70 15 (nI R.2.1), fl3, fr3)) rfl ?_
      rw [sh]
      refine gp_of (fun _ k9 => g_putI rfl (Or.inl rfl) rfl (by decide) k9) ?_
      refine gp_n 2 (j' := 27) (lv' := [some (.ref 70), some (.int 1), none]) (st' := [.ref 70, .ref 70]) (h' := (shT, pm_u2 (pm_u2 fi3 70 15 (nI R.2.1)) 70 14 (nI (2 ^ R.2.1)), fl3, fr3)) rfl ?_
      refine gp_of (fun _ k9 => g_getI (x := nI R.2.2.2.1) rfl (Or.inl rfl) rfl (by decide) (d9) k9) ?_
      refine gp_of (fun _ k9 => g_putI rfl (Or.inl rfl) rfl (by decide) k9) ?_
      refine gp_n 2 (j' := 31) (lv' := [some (.ref 70), some (.int 1), none]) (st' := [.ref 70, .ref 70]) (h' := (shT, pm_u2 (pm_u2 (pm_u2 fi3 70 15 (nI R.2.1)) 70 14 (nI (2 ^ R.2.1))) 70 17 (nI R.2.2.2.1), fl3, fr3)) rfl ?_
      refine gp_of (fun _ k9 => g_getI (x := nI R.2.2.2.2.1) rfl (Or.inl rfl) rfl (by decide) (d10) k9) ?_
      refine gp_of (fun _ k9 => g_putI rfl (Or.inl rfl) rfl (by decide) k9) ?_
      refine gp_n 2 (j' := 35) (lv' := [some (.ref 70), some (.int 1), none]) (st' := [.ref 70, .ref 70]) (h' := (shT, pm_u2 (pm_u2 (pm_u2 (pm_u2 fi3 70 15 (nI R.2.1)) 70 14 (nI (2 ^ R.2.1))) 70 17 (nI R.2.2.2.1)) 70 18 (nI R.2.2.2.2.1), fl3, fr3)) rfl ?_
      refine gp_of (fun _ k9 => g_getI (x := nI R.2.2.2.2.2.1) rfl (Or.inl rfl) rfl (by decide) (d11) k9) ?_
      refine gp_of (fun _ k9 => g_putI rfl (Or.inl rfl) rfl (by decide) k9) ?_
      refine gp_n 2 (j' := 39) (lv' := [some (.ref 70), some (.int 1), none]) (st' := [.ref 70, .ref 70]) (h' := (shT, pm_u2 (pm_u2 (pm_u2 (pm_u2 (pm_u2 fi3 70 15 (nI R.2.1)) 70 14 (nI (2 ^ R.2.1))) 70 17 (nI R.2.2.2.1)) 70 18 (nI R.2.2.2.2.1)) 70 19 (nI R.2.2.2.2.2.1), fl3, fr3)) rfl ?_
      refine gp_of (fun _ k9 => g_getI (x := nI R.2.2.2.2.2.2.1) rfl (Or.inl rfl) rfl (by decide) (d12) k9) ?_
      refine gp_of (fun _ k9 => g_putI rfl (Or.inl rfl) rfl (by decide) k9) ?_
      refine gp_n 2 (j' := 43) (lv' := [some (.ref 70), some (.int 1), none]) (st' := [.ref 70, .ref 70]) (h' := (shT, pm_u2 (pm_u2 (pm_u2 (pm_u2 (pm_u2 (pm_u2 fi3 70 15 (nI R.2.1)) 70 14 (nI (2 ^ R.2.1))) 70 17 (nI R.2.2.2.1)) 70 18 (nI R.2.2.2.2.1)) 70 19 (nI R.2.2.2.2.2.1)) 70 20 (nI R.2.2.2.2.2.2.1), fl3, fr3)) rfl ?_
      refine gp_of (fun _ k9 => g_getR (q' := 73) rfl rfl (by decide) k5 k9) ?_
      refine gp_n 1 (j' := 45) (lv' := [some (.ref 70), some (.int 1), none]) (st' := [.int 2, .ref 73, .ref 70]) (h' := (shT, pm_u2 (pm_u2 (pm_u2 (pm_u2 (pm_u2 (pm_u2 fi3 70 15 (nI R.2.1)) 70 14 (nI (2 ^ R.2.1))) 70 17 (nI R.2.2.2.1)) 70 18 (nI R.2.2.2.2.1)) 70 19 (nI R.2.2.2.2.2.1)) 70 20 (nI R.2.2.2.2.2.2.1), fl3, fr3)) rfl ?_
      refine gp_of (fun _ k9 => g_bald (k := 2) (x := 1) rfl rfl (by decide) (rfl) (by decide) (by decide) (t2) k9) ?_
      refine gp_of (fun _ k9 => g_iff rfl (show ¬ ((1 : Int32) = (0 : Int32)) from by decide) k9) ?_
      refine gp_n 1 (j' := 48) (lv' := [some (.ref 70), some (.int 1), none]) (st' := [.ref 70, .ref 70]) (h' := (shT, pm_u2 (pm_u2 (pm_u2 (pm_u2 (pm_u2 (pm_u2 fi3 70 15 (nI R.2.1)) 70 14 (nI (2 ^ R.2.1))) 70 17 (nI R.2.2.2.1)) 70 18 (nI R.2.2.2.2.1)) 70 19 (nI R.2.2.2.2.2.1)) 70 20 (nI R.2.2.2.2.2.2.1), fl3, fr3)) rfl ?_
      refine gp_of (fun _ k9 => g_getL (x := R.2.2.2.2.2.2.2) rfl rfl (by decide) (d8) k9) ?_
      refine gp_n 1 (j' := 57) (lv' := [some (.ref 70), some (.int 1), none]) (st' := [.long R.2.2.2.2.2.2.2, .ref 70]) (h' := (shT, pm_u2 (pm_u2 (pm_u2 (pm_u2 (pm_u2 (pm_u2 fi3 70 15 (nI R.2.1)) 70 14 (nI (2 ^ R.2.1))) 70 17 (nI R.2.2.2.1)) 70 18 (nI R.2.2.2.2.1)) 70 19 (nI R.2.2.2.2.2.1)) 70 20 (nI R.2.2.2.2.2.2.1), fl3, fr3)) rfl ?_
      exact gp_done g rfl
  · have z2 : v1 = some (.int 0) := z2
    refine Or.inr ⟨-2 - ph_i h1 70 3, h_i h1 70 1 0, z1, st 0 z2 _ _ ?_, R2, I2, F2⟩
    clear st R1 R2 F1 F2 hR I2 ev1
    obtain ⟨S, fi, fl, fr⟩ := h1
    have hS : S = shT := I1.1
    subst hS
    refine go_of ?_
    show GoP pmT none cd_149 6 _ _ (shT, pm_u2 fi 70 1 0, fl, fr) _
    refine gp_n 1 (j' := 7) (lv' := [some (.ref 70), some (.int 0), none]) (st' := [.int 0]) (h' := (shT, pm_u2 fi 70 1 0, fl, fr)) rfl ?_
    refine gp_of (fun _ k9 => g_iff rfl (show ¬ (¬ (0 : Int32) = (0 : Int32)) from by decide) k9) ?_
    refine gp_n 2 (j' := 10) (lv' := [some (.ref 70), some (.int 0), none]) (st' := [.ref 70, .int (-2)]) (h' := (shT, pm_u2 fi 70 1 0, fl, fr)) rfl ?_
    refine gp_of (fun _ k9 => g_getI (x := fi 70 3) rfl (Or.inl rfl) rfl (by decide) (rfl) k9) ?_
    refine gp_n 1 (j' := 12) (lv' := [some (.ref 70), some (.int 0), none]) (st' := [.int (((-2) : Int32) - (fi 70 3))]) (h' := (shT, pm_u2 fi 70 1 0, fl, fr)) rfl ?_
    refine gp_done (g_ret rfl) ?_
    rfl
