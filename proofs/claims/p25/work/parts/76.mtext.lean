theorem so_go {K : Int64} {h : PmH} : ∀ (n b : Nat), b + n = 64 → Go pmT none cd_160 4 [some (.long K), none, some (.int (nI (cntb K b))), some (.int (nI b))] [] h (some (.int (nI (popc K))), h) := by
  intro n
  induction n with
  | zero =>
    intro b hb
    have hb : b = 64 := by omega
    subst hb
    refine go_of ?_
    refine gp_n 2 (j' := 6) (lv' := [some (.long K), none, some (.int (nI (cntb K 64))), some (.int (nI 64))]) (st' := [.int 64, .int (nI 64)]) (h' := h) rfl ?_
    refine gp_of (fun _ k9 => g_ict rfl (show (64 : Int32) ≤ (nI 64) from by decide) k9) ?_
    refine gp_n 1 (j' := 20) (lv' := [some (.long K), none, some (.int (nI (cntb K 64))), some (.int (nI 64))]) (st' := [.int (nI (cntb K 64))]) (h' := h) rfl ?_
    refine gp_done (g_ret rfl) ?_
    rfl
  | succ n ih =>
    intro b hb
    have g := ih (b + 1) (by omega)
    have hs := has_ev (v := K) (i := nI b) (h := h)
    rw [hasf_bit (by omega)] at hs
    cases hc : bl K b
    · rw [hc] at hs
      have e1 : cntb K (b + 1) = cntb K b := by
        show cntb K b + (if bl K b = true then 1 else 0) = _
        rw [hc]
        rfl
      rw [e1] at g
      have hs : Ev pmT 161 [.long K, .int (nI b)] h (some (.int 0)) h := hs
      refine go_of ?_
      refine gp_n 2 (j' := 6) (lv' := [some (.long K), none, some (.int (nI (cntb K b))), some (.int (nI b))]) (st' := [.int 64, .int (nI b)]) (h' := h) rfl ?_
      refine gp_of (fun _ k9 => g_icf rfl (show ¬ ((64 : Int32) ≤ (nI b)) from nI_ge (b := 64) (by omega) (by decide)) k9) ?_
      refine gp_n 3 (j' := 10) (lv' := [some (.long K), none, some (.int (nI (cntb K b))), some (.int (nI b))]) (st' := [.int (nI b), .long K, .int (nI (cntb K b))]) (h' := h) rfl ?_
      refine gp_of (fun _ k9 => g_call (y := 161) (as := [.long K, .int (nI b)]) (st' := [.int (nI (cntb K b))]) rfl rfl (hs) k9) ?_
      refine gp_of (fun _ k9 => g_ift rfl (show (0 : Int32) = (0 : Int32) from by decide) k9) ?_
      refine gp_n 2 (j' := 16) (lv' := [some (.long K), none, some (.int (nI (cntb K b))), some (.int (nI b))]) (st' := [.int ((nI (cntb K b)) + 0)]) (h' := h) rfl ?_
      rw [show nI (cntb K b) + 0 = nI (cntb K b) from nI_add _ 0]
      refine gp_n 3 (j' := 4) (lv' := [some (.long K), none, some (.int (nI (cntb K b))), some (.int ((nI b) + 1))]) (st' := []) (h' := h) rfl ?_
      rw [nI_1]
      exact gp_done g rfl
    · rw [hc] at hs
      have e1 : cntb K (b + 1) = cntb K b + 1 := by
        show cntb K b + (if bl K b = true then 1 else 0) = _
        rw [hc]
        rfl
      rw [e1] at g
      have hs : Ev pmT 161 [.long K, .int (nI b)] h (some (.int 1)) h := hs
      refine go_of ?_
      refine gp_n 2 (j' := 6) (lv' := [some (.long K), none, some (.int (nI (cntb K b))), some (.int (nI b))]) (st' := [.int 64, .int (nI b)]) (h' := h) rfl ?_
      refine gp_of (fun _ k9 => g_icf rfl (show ¬ ((64 : Int32) ≤ (nI b)) from nI_ge (b := 64) (by omega) (by decide)) k9) ?_
      refine gp_n 3 (j' := 10) (lv' := [some (.long K), none, some (.int (nI (cntb K b))), some (.int (nI b))]) (st' := [.int (nI b), .long K, .int (nI (cntb K b))]) (h' := h) rfl ?_
      refine gp_of (fun _ k9 => g_call (y := 161) (as := [.long K, .int (nI b)]) (st' := [.int (nI (cntb K b))]) rfl rfl (hs) k9) ?_
      refine gp_of (fun _ k9 => g_iff rfl (show ¬ ((1 : Int32) = (0 : Int32)) from by decide) k9) ?_
      refine gp_n 3 (j' := 16) (lv' := [some (.long K), none, some (.int (nI (cntb K b))), some (.int (nI b))]) (st' := [.int ((nI (cntb K b)) + 1)]) (h' := h) rfl ?_
      rw [nI_1 (cntb K b)]
      refine gp_n 3 (j' := 4) (lv' := [some (.long K), none, some (.int (nI (cntb K b + 1))), some (.int ((nI b) + 1))]) (st' := []) (h' := h) rfl ?_
      rw [nI_1]
      exact gp_done g rfl
theorem so_ev {K : Int64} {h : PmH} : Ev pmT 160 [.long K] h (some (.int (nI (popc K)))) h := by
  refine Ev.of (es := cd_160) (ml := 4) (lv := [some (.long K), none, none, none]) rfl rfl rfl ?_
  have g := so_go (K := K) (h := h) 64 0 (by omega)
  refine go_of ?_
  refine gp_n 4 (j' := 4) (lv' := [some (.long K), none, some (.int (nI (cntb K 0))), some (.int (nI 0))]) (st' := []) (h' := h) rfl ?_
  exact gp_done g rfl
theorem h70_ne {h : PmH} {c p s : Nat} {x : Int32} (hn : ¬ (p = 70 ∧ s = c)) : ph_i (h_i h 70 c x) p s = ph_i h p s := h_n hn
def h_l (h : PmH) (p c : Nat) (x : Int64) : PmH := (ph_s h, ph_i h, pm_u2 (ph_l h) p c x, ph_r h)
def iW : WSt := [(70, 2), (70, 3), (70, 8), (70, 13)]
def mp_I (F : Nat → Int32) (t p m : Nat) (K : Int64) (h : PmH) : Prop := mp_P F t p h ∧ ph_i h 70 6 = nI m ∧ ph_l h 70 8 = K ∧ p ≤ t
theorem inf_M {F : Nat → Int32} {t m : Nat} (ht : t ≤ 200) (hF : ∀ s, byR (F s)) (hm : m ≤ 6) : ∀ (q i least p : Nat) (K : Int64) (h : PmH), i + q = 65 → i ≤ least → least ≤ 64 → mp_I F t p m K h → GoP pmT none cd_159 4 [some (.ref 70), some (.int (nI least)), some (.int 1)] [] h (fun r => (∃ K' e, infoS F t (2 ^ m) q least p K = some (K', e) ∧ r.1 = some (.int 1) ∧ mp_I F t e m K' r.2 ∧ fram iW h r.2) ∨ (infoS F t (2 ^ m) q least p K = none ∧ r.1 = some (.int 0) ∧ HI hdT shT r.2 ∧ fram iW h r.2)) := by
  intro q
  induction q with
  | zero =>
    intro i least p K h h1 h2 h3 hP
    omega
  | succ q ih =>
    intro i least p K h h1 h2 h3 hP
    obtain ⟨P, e6, e8, hpt⟩ := hP
    have p6 := pw_6 m (by omega)
    have sh := (sh_2 m (by omega)).1
    have es : nI (2 ^ m) - 1 = nI (2 ^ m - 1) := pk_sub (b := 1) p6.1
    rw [infoS]
    rcases rd_ev (lo := least) (hi := 2 ^ m - 1) ht hF hpt P (by omega) (by omega) with ⟨v, e1, h1', q1, q2, q3, q4, q5, q6⟩ | ⟨q1, h1', q2, q3, q4⟩
    · rw [q1]
      simp only [Option.bind_some]
      have hv := num_e q1
      have f6 : ph_i h1' 70 6 = nI m := ((q6 70 6 (by decide)).1).trans e6
      have f8 : ph_l h1' 70 8 = K := ((q6 70 8 (by decide)).2.1).trans e8
      have P2 : mp_P F t e1 (h_l h1' 70 8 (K ||| bitAt v)) := ⟨HI_wl q4.1, q4.2.1, q4.2.2.1, q4.2.2.2.1, q4.2.2.2.2⟩
      have n2 := nx_ev ht hF q2 P2
      have B1 : sk F t cB e1 ≤ t := sk_le _ _ q2
      have P3 := mpl_P (q := sk F t cB e1) P2
      have fr3 : fram iW h (mpl (h_l h1' 70 8 (K ||| bitAt v)) (sk F t cB e1)) := fram.tr (fram.up (by decide) q6) (fram.tr (fram_wl (by decide)) (fram_wi (by decide)))
      have g6 : ph_i (mpl (h_l h1' 70 8 (K ||| bitAt v)) (sk F t cB e1)) 70 6 = nI m := (h_n (by decide)).trans f6
      have g8 : ph_l (mpl (h_l h1' 70 8 (K ||| bitAt v)) (sk F t cB e1)) 70 8 = K ||| bitAt v := by
        show pm_u2 (ph_l h1') 70 8 (K ||| bitAt v) 70 8 = _
        rw [u2_eq]
      have g2 : ph_i (mpl (h_l h1' 70 8 (K ||| bitAt v)) (sk F t cB e1)) 70 2 = nI (sk F t cB e1) := h_e
      generalize sk F t cB e1 = B at *
      -- up to the comma
      have pref : ∀ Q, GoP pmT none cd_159 34 [some (.ref 70), some (.int (nI (v + 1))), some (.int 1)] [.int (bA F t B)] (mpl (h_l h1' 70 8 (K ||| bitAt v)) B) Q → GoP pmT none cd_159 4 [some (.ref 70), some (.int (nI least)), some (.int 1)] [] h Q := by
        intro Q g
        clear P3 fr3 g6 g8 g2 ih
        have I1 := q4.1
        have n2 : Ev pmT 153 [.ref 70] (h_l h1' 70 8 (K ||| bitAt v)) (some (.int (bA F t B))) (mpl (h_l h1' 70 8 (K ||| bitAt v)) B) := n2
        obtain ⟨S1, fi1, fl1, fr1⟩ := h1'
        have s1 : S1 = shT := I1.1
        subst s1
        have f8 : fl1 70 8 = K := f8
        have q5 : fi1 70 13 = nI v := q5
        obtain ⟨S, fi, fl, fr⟩ := h
        have hS : S = shT := P.1.1
        subst hS
        have e6 : fi 70 6 = nI m := e6
        refine gp_n 1 (j' := 5) (lv' := [some (.ref 70), some (.int (nI least)), some (.int 1)]) (st' := [.int 1]) (h' := (shT, fi, fl, fr)) rfl ?_
        refine gp_of (fun _ k9 => g_iff rfl (show ¬ ((1 : Int32) = (0 : Int32)) from by decide) k9) ?_
        refine gp_n 4 (j' := 10) (lv' := [some (.ref 70), some (.int (nI least)), some (.int 1)]) (st' := [.ref 70, .int 1, .int (nI least), .ref 70]) (h' := (shT, fi, fl, fr)) rfl ?_
        refine gp_of (fun _ k9 => g_getI (x := nI m) rfl (Or.inl rfl) rfl (by decide) (e6) k9) ?_
        refine gp_n 1 (j' := 12) (lv' := [some (.ref 70), some (.int (nI least)), some (.int 1)]) (st' := [.int ((1 : Int32) <<< ((nI m) &&& 31)), .int (nI least), .ref 70]) (h' := (shT, fi, fl, fr)) rfl ?_
        rw [sh]
        refine gp_n 2 (j' := 14) (lv' := [some (.ref 70), some (.int (nI least)), some (.int 1)]) (st' := [.int ((nI (2 ^ m)) - 1), .int (nI least), .ref 70]) (h' := (shT, fi, fl, fr)) rfl ?_
        rw [es]
        refine gp_of (fun _ k9 => g_call (y := 157) (as := [.ref 70, .int (nI least), .int (nI (2 ^ m - 1))]) (st' := []) rfl rfl (q3) k9) ?_
        refine gp_of (fun _ k9 => g_ift rfl (show ¬ (1 : Int32) = (0 : Int32) from by decide) k9) ?_
        refine gp_n 2 (j' := 20) (lv' := [some (.ref 70), some (.int (nI least)), some (.int 1)]) (st' := [.ref 70, .ref 70]) (h' := (shT, fi1, fl1, fr1)) rfl ?_
        refine gp_of (fun _ k9 => g_getL (x := K) rfl rfl (by decide) (f8) k9) ?_
        refine gp_n 2 (j' := 23) (lv' := [some (.ref 70), some (.int (nI least)), some (.int 1)]) (st' := [.ref 70, .long 1, .long K, .ref 70]) (h' := (shT, fi1, fl1, fr1)) rfl ?_
        refine gp_of (fun _ k9 => g_getI (x := nI v) rfl (Or.inl rfl) rfl (by decide) (q5) k9) ?_
        refine gp_n 2 (j' := 26) (lv' := [some (.ref 70), some (.int (nI least)), some (.int 1)]) (st' := [.long (K ||| ((1 : Int64) <<< ((nI v : Int32).toInt64 &&& 63))), .ref 70]) (h' := (shT, fi1, fl1, fr1)) rfl ?_
        show GoP pmT none cd_159 _ _ [.long (K ||| bitAt v), _] _ _
        refine gp_of (fun _ k9 => g_putL rfl rfl (by decide) k9) ?_
        refine gp_n 1 (j' := 28) (lv' := [some (.ref 70), some (.int (nI least)), some (.int 1)]) (st' := [.ref 70]) (h' := (shT, fi1, pm_u2 fl1 70 8 (K ||| bitAt v), fr1)) rfl ?_
        refine gp_of (fun _ k9 => g_getI (x := nI v) rfl (Or.inl rfl) rfl (by decide) (q5) k9) ?_
        refine gp_n 2 (j' := 31) (lv' := [some (.ref 70), some (.int (nI least)), some (.int 1)]) (st' := [.int ((nI v) + 1)]) (h' := (shT, fi1, pm_u2 fl1 70 8 (K ||| bitAt v), fr1)) rfl ?_
        rw [nI_1 v]
        refine gp_n 2 (j' := 33) (lv' := [some (.ref 70), some (.int (nI (v + 1))), some (.int 1)]) (st' := [.ref 70]) (h' := (shT, fi1, pm_u2 fl1 70 8 (K ||| bitAt v), fr1)) rfl ?_
        refine gp_of (fun _ k9 => g_call (y := 153) (as := [.ref 70]) (st' := []) rfl rfl (n2) k9) ?_
        exact g
      refine pref _ ?_
      by_cases hc : B < t ∧ F B = 44
      · have hA : bA F t B = 44 := (bA_eq hF (by decide) (by decide)).mpr hc
        rw [if_pos hc]
        have R2 := ih (i + 1) (v + 1) (B + 1) (K ||| bitAt v) (mpl (mpl (h_l h1' 70 8 (K ||| bitAt v)) B) (B + 1)) (by omega) (by omega) (by omega) ⟨mpl_P P3, (h_n (by decide)).trans g6, g8, by omega⟩
        have R3 : GoP pmT none cd_159 4 [some (.ref 70), some (.int (nI (v + 1))), some (.int 1)] [] (mpl (mpl (h_l h1' 70 8 (K ||| bitAt v)) B) (B + 1)) (fun r => (∃ K' e, infoS F t (2 ^ m) q (v + 1) (B + 1) (K ||| bitAt v) = some (K', e) ∧ r.1 = some (.int 1) ∧ mp_I F t e m K' r.2 ∧ fram iW h r.2) ∨ (infoS F t (2 ^ m) q (v + 1) (B + 1) (K ||| bitAt v) = none ∧ r.1 = some (.int 0) ∧ HI hdT shT r.2 ∧ fram iW h r.2)) := by
          refine gp_mono (fun r hr => ?_) R2
          have f9 : fram iW h (mpl (mpl (h_l h1' 70 8 (K ||| bitAt v)) B) (B + 1)) := fram.tr fr3 (fram_wi (by decide))
          rcases hr with ⟨K', e, a1, a2, a3, a4⟩ | ⟨a1, a2, a3, a4⟩
          · exact Or.inl ⟨K', e, a1, a2, a3, fram.tr f9 a4⟩
          · exact Or.inr ⟨a1, a2, a3, fram.tr f9 a4⟩
        have I3 := P3.1
        clear R2 ih pref P2 P3 fr3 g6 g8 n2 q3 q4 q6 f6 f8 P
        generalize mpl (h_l h1' 70 8 (K ||| bitAt v)) B = h2 at *
        obtain ⟨S, fi, fl, fr⟩ := h2
        have hS : S = shT := I3.1
        subst hS
        have g2 : fi 70 2 = nI B := g2
        refine gp_n 1 (j' := 35) (lv' := [some (.ref 70), some (.int (nI (v + 1))), some (.int 1)]) (st' := [.int 44, .int (bA F t B)]) (h' := (shT, fi, fl, fr)) rfl ?_
        refine gp_of (fun _ k9 => g_icf rfl (show ¬ (¬ (bA F t B) = (44 : Int32)) from fun z => z hA) k9) ?_
        refine gp_n 4 (j' := 41) (lv' := [some (.ref 70), some (.int (nI (v + 1))), some (.int 1)]) (st' := [.int 1]) (h' := (shT, fi, fl, fr)) rfl ?_
        refine gp_of (fun _ k9 => g_iff rfl (show ¬ ((1 : Int32) = (0 : Int32)) from by decide) k9) ?_
        refine gp_n 2 (j' := 44) (lv' := [some (.ref 70), some (.int (nI (v + 1))), some (.int 1)]) (st' := [.ref 70, .ref 70]) (h' := (shT, fi, fl, fr)) rfl ?_
        refine gp_of (fun _ k9 => g_getI (x := nI B) rfl (Or.inl rfl) rfl (by decide) (g2) k9) ?_
        refine gp_n 2 (j' := 47) (lv' := [some (.ref 70), some (.int (nI (v + 1))), some (.int 1)]) (st' := [.int ((nI B) + 1), .ref 70]) (h' := (shT, fi, fl, fr)) rfl ?_
        rw [nI_1 B]
        refine gp_of (fun _ k9 => g_putI rfl (Or.inl rfl) rfl (by decide) k9) ?_
        refine gp_n 1 (j' := 4) (lv' := [some (.ref 70), some (.int (nI (v + 1))), some (.int 1)]) (st' := []) (h' := (shT, pm_u2 fi 70 2 (nI (B + 1)), fl, fr)) rfl ?_
        exact R3
      · have hA : ¬ bA F t B = 44 := fun z => hc ((bA_eq hF (by decide) (by decide)).mp z)
        rw [if_neg hc]
        have fin : ∀ r : Option Value × PmH, r = (some (.int 1), mpl (h_l h1' 70 8 (K ||| bitAt v)) B) → ((∃ K' e, some (K ||| bitAt v, B) = some (K', e) ∧ r.1 = some (.int 1) ∧ mp_I F t e m K' r.2 ∧ fram iW h r.2) ∨ (some (K ||| bitAt v, B) = none ∧ r.1 = some (.int 0) ∧ HI hdT shT r.2 ∧ fram iW h r.2)) := fun r hr => by
          subst hr
          exact Or.inl ⟨_, _, rfl, rfl, ⟨P3, g6, g8, B1⟩, fr3⟩
        refine gp_mono fin ?_
        have I3 := P3.1
        clear fin ih pref P2 P3 fr3 g6 g8 n2 q3 q4 q6 f6 f8 P
        generalize mpl (h_l h1' 70 8 (K ||| bitAt v)) B = h2 at *
        obtain ⟨S, fi, fl, fr⟩ := h2
        have hS : S = shT := I3.1
        subst hS
        refine gp_n 1 (j' := 35) (lv' := [some (.ref 70), some (.int (nI (v + 1))), some (.int 1)]) (st' := [.int 44, .int (bA F t B)]) (h' := (shT, fi, fl, fr)) rfl ?_
        refine gp_of (fun _ k9 => g_ict rfl (show ¬ (bA F t B) = (44 : Int32) from hA) k9) ?_
        refine gp_n 3 (j' := 41) (lv' := [some (.ref 70), some (.int (nI (v + 1))), some (.int 0)]) (st' := [.int 0]) (h' := (shT, fi, fl, fr)) rfl ?_
        refine gp_of (fun _ k9 => g_ift rfl (show (0 : Int32) = (0 : Int32) from by decide) k9) ?_
        refine gp_n 1 (j' := 5) (lv' := [some (.ref 70), some (.int (nI (v + 1))), some (.int 0)]) (st' := [.int 0]) (h' := (shT, fi, fl, fr)) rfl ?_
        refine gp_of (fun _ k9 => g_ift rfl (show (0 : Int32) = (0 : Int32) from by decide) k9) ?_
        refine gp_n 1 (j' := 50) (lv' := [some (.ref 70), some (.int (nI (v + 1))), some (.int 0)]) (st' := [.int 1]) (h' := (shT, fi, fl, fr)) rfl ?_
        refine gp_done (g_retz rfl (by decide)) ?_
        rfl
    · rw [q1]
      refine gp_mono (fun r (hr : r = (some (.int 0), h1')) => Or.inr ⟨rfl, by rw [hr], by rw [hr]; exact q3, by rw [hr]; exact fram.up (by decide) q4⟩) ?_
      have I1 := q3
      clear ih q3 q4
      obtain ⟨S1, fi1, fl1, fr1⟩ := h1'
      have s1 : S1 = shT := I1.1
      subst s1
      obtain ⟨S, fi, fl, fr⟩ := h
      have hS : S = shT := P.1.1
      subst hS
      have e6 : fi 70 6 = nI m := e6
      refine gp_n 1 (j' := 5) (lv' := [some (.ref 70), some (.int (nI least)), some (.int 1)]) (st' := [.int 1]) (h' := (shT, fi, fl, fr)) rfl ?_
      refine gp_of (fun _ k9 => g_iff rfl (show ¬ ((1 : Int32) = (0 : Int32)) from by decide) k9) ?_
      refine gp_n 4 (j' := 10) (lv' := [some (.ref 70), some (.int (nI least)), some (.int 1)]) (st' := [.ref 70, .int 1, .int (nI least), .ref 70]) (h' := (shT, fi, fl, fr)) rfl ?_
      refine gp_of (fun _ k9 => g_getI (x := nI m) rfl (Or.inl rfl) rfl (by decide) (e6) k9) ?_
      refine gp_n 1 (j' := 12) (lv' := [some (.ref 70), some (.int (nI least)), some (.int 1)]) (st' := [.int ((1 : Int32) <<< ((nI m) &&& 31)), .int (nI least), .ref 70]) (h' := (shT, fi, fl, fr)) rfl ?_
      rw [sh]
      refine gp_n 2 (j' := 14) (lv' := [some (.ref 70), some (.int (nI least)), some (.int 1)]) (st' := [.int ((nI (2 ^ m)) - 1), .int (nI least), .ref 70]) (h' := (shT, fi, fl, fr)) rfl ?_
      rw [es]
      refine gp_of (fun _ k9 => g_call (y := 157) (as := [.ref 70, .int (nI least), .int (nI (2 ^ m - 1))]) (st' := []) rfl rfl (q2) k9) ?_
      refine gp_of (fun _ k9 => g_iff rfl (show ¬ (¬ (0 : Int32) = (0 : Int32)) from by decide) k9) ?_
      refine gp_n 1 (j' := 17) (lv' := [some (.ref 70), some (.int (nI least)), some (.int 1)]) (st' := [.int 0]) (h' := (shT, fi1, fl1, fr1)) rfl ?_
      refine gp_done (g_retz rfl (by decide)) ?_
      rfl
