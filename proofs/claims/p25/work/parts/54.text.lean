def dv (x : Int32) : Nat := x.toInt.toNat - 48
def vcn (F : Nat → Int32) (t : Nat) : Nat → Nat → Nat → Nat
  | 0, _, v => v
  | n + 1, p, v => if p < t ∧ cD (F p) = true then vcn F t n (p + 1) (min 1000000 (10 * v + dv (F p))) else v
theorem cD_nI {x : Int32} (h : cD x = true) : ∃ c, x = nI c ∧ 48 ≤ c ∧ c ≤ 57 := by
  unfold cD at h
  simp only [Bool.and_eq_true, decide_eq_true_eq] at h
  rw [Int32.le_iff_toInt_le, Int32.le_iff_toInt_le] at h
  have h1 : (48 : Int32).toInt = 48 := rfl
  have h2 : (57 : Int32).toInt = 57 := rfl
  obtain ⟨c, c1, c2, c3⟩ := i32_nI (y := x) (by omega)
  exact ⟨c, c1, by omega, by omega⟩
theorem dv_nI {c : Nat} (hc : c < 2 ^ 31) : dv (nI c) = c - 48 := by
  unfold dv
  rw [nI_toInt hc]
  omega
theorem nmb_e {x : Int32} {v : Nat} (h : cD x = true) : (10 : Int32) * nI v + x - 48 = nI (10 * v + dv x) := by
  obtain ⟨c, rfl, c1, c2⟩ := cD_nI h
  rw [dv_nI (by omega), show (10 : Int32) = nI 10 from rfl, show (48 : Int32) = nI 48 from rfl, pk_mul, nI_add, pk_sub (by omega)]
  congr 1
  omega
theorem dv_le {x : Int32} (h : cD x = true) : dv x ≤ 9 := by
  obtain ⟨c, rfl, c1, c2⟩ := cD_nI h
  rw [dv_nI (by omega)]
  omega
theorem nmb_min {w : Nat} (hw : w < 2 ^ 31) : (if (1000000 : Int32) ≤ nI w then (1000000 : Int32) else nI w) = nI (min 1000000 w) := by
  by_cases h : 1000000 ≤ w
  · rw [if_pos (show (1000000 : Int32) ≤ nI w from nI_le (a := 1000000) h hw), Nat.min_eq_left h]
    rfl
  · rw [if_neg (show ¬ (1000000 : Int32) ≤ nI w from nI_ge (a := w) (b := 1000000) (by omega) (by decide)), Nat.min_eq_right (by omega)]
theorem ft_hpl {h : PmH} {q : Nat} : ph_i (hpl h q) 8 5 = ph_i h 8 5 := by
  show pm_u2 (ph_i h) 8 4 (nI q) 8 5 = _
  simp [pm_u2]
theorem nm_go {F : Nat → Int32} {t b : Nat} {lo hi : Int32} {r : Option Value × PmH} (ht : t ≤ 200) : ∀ (n p v : Nat) (h : PmH), t - p = n → p ≤ t → v ≤ 1000000 → pc_P F t p h → Go pmT none cd_33 50 [some (.ref 8), some (.int lo), some (.int hi), some (.int (nI b)), some (.int (nI (vcn F t n p v)))] [] (hpl h (sk F t cD p)) r → Go pmT none cd_33 21 [some (.ref 8), some (.int lo), some (.int hi), some (.int (nI b)), some (.int (nI v))] [] h r := by
  intro n
  induction n with
  | zero =>
    intro p v h hn hpt hv hP g
    rw [sk_out (by omega), hpl_id hP.2.2.2.1] at g
    obtain ⟨S, fi, fl, fr⟩ := h
    have hS : S = shT := hP.1.1
    subst hS
    have r_8_2 : fr 8 2 = some 7 := hP.2.1
    have e3 : fi 8 3 = nI t := hP.2.2.1
    have e4 : fi 8 4 = nI p := hP.2.2.2.1
    have eF : ∀ s, fi 7 s = F s := hP.2.2.2.2
    refine g_n 1 (j' := 22) (lv' := [some (.ref 8), some (.int lo), some (.int hi), some (.int (nI b)), some (.int (nI v))]) (st' := [.ref 8]) (h' := (shT, fi, fl, fr)) rfl ?_
    refine g_getI (x := nI p) rfl (Or.inl rfl) rfl (by decide) (e4) ?_
    refine g_n 1 (j' := 24) (lv' := [some (.ref 8), some (.int lo), some (.int hi), some (.int (nI b)), some (.int (nI v))]) (st' := [.ref 8, .int (nI p)]) (h' := (shT, fi, fl, fr)) rfl ?_
    refine g_getI (x := nI t) rfl (Or.inl rfl) rfl (by decide) (e3) ?_
    refine g_ict rfl (show (nI t) ≤ (nI p) from nI_le (by omega) (by omega)) ?_
    exact g
  | succ n ih =>
    intro p v h hn hpt hv hP g
    have hp : p < t := by omega
    have a1 := ad_ev ht hpt hP
    rw [vcn] at g
    by_cases hc : cD (F p) = true
    · rw [if_pos ⟨hp, hc⟩] at a1 g
      have hm := nmb_min (w := 10 * v + dv (F p)) (by have := dv_le hc; omega)
      rw [sk_in hp hc, ← hpl_2 (a := p + 1)] at g
      have g2 := ih (p + 1) (min 1000000 (10 * v + dv (F p))) (hpl h (p + 1)) (by omega) (by omega) (Nat.min_le_left _ _) (hpl_P hP) g
      obtain ⟨S, fi, fl, fr⟩ := h
      have hS : S = shT := hP.1.1
      subst hS
      have r_8_2 : fr 8 2 = some 7 := hP.2.1
      have e3 : fi 8 3 = nI t := hP.2.2.1
      have e4 : fi 8 4 = nI p := hP.2.2.2.1
      have eF : ∀ s, fi 7 s = F s := hP.2.2.2.2
      refine g_n 1 (j' := 22) (lv' := [some (.ref 8), some (.int lo), some (.int hi), some (.int (nI b)), some (.int (nI v))]) (st' := [.ref 8]) (h' := (shT, fi, fl, fr)) rfl ?_
      refine g_getI (x := nI p) rfl (Or.inl rfl) rfl (by decide) (e4) ?_
      refine g_n 1 (j' := 24) (lv' := [some (.ref 8), some (.int lo), some (.int hi), some (.int (nI b)), some (.int (nI v))]) (st' := [.ref 8, .int (nI p)]) (h' := (shT, fi, fl, fr)) rfl ?_
      refine g_getI (x := nI t) rfl (Or.inl rfl) rfl (by decide) (e3) ?_
      refine g_icf rfl (show ¬ ((nI t) ≤ (nI p)) from nI_ge hp (by omega)) ?_
      refine g_n 1 (j' := 27) (lv' := [some (.ref 8), some (.int lo), some (.int hi), some (.int (nI b)), some (.int (nI v))]) (st' := [.ref 8]) (h' := (shT, fi, fl, fr)) rfl ?_
      refine g_call (y := 34) (as := [.ref 8]) (st' := []) rfl rfl (a1) ?_
      refine g_iff rfl (show ¬ ((1 : Int32) = (0 : Int32)) from by decide) ?_
      refine g_n 5 (j' := 34) (lv' := [some (.ref 8), some (.int lo), some (.int hi), some (.int (nI b)), some (.int (nI v))]) (st' := [.ref 8, .int (10 * (nI v)), .int 1000000]) (h' := (shT, fi, fl, fr)) rfl ?_
      refine g_getR (q' := 7) rfl rfl (by decide) r_8_2 ?_
      refine g_n 1 (j' := 36) (lv' := [some (.ref 8), some (.int lo), some (.int hi), some (.int (nI b)), some (.int (nI v))]) (st' := [.ref 8, .ref 7, .int (10 * (nI v)), .int 1000000]) (h' := (shT, fi, fl, fr)) rfl ?_
      refine g_getI (x := nI p) rfl (Or.inl rfl) rfl (by decide) (e4) ?_
      refine g_bald (k := p) (x := F p) rfl rfl (by decide) (rfl) (by omega) (by decide) (eF p) ?_
      refine g_n 3 (j' := 41) (lv' := [some (.ref 8), some (.int lo), some (.int hi), some (.int (nI b)), some (.int (nI v))]) (st' := [.int (((10 * (nI v)) + (F p)) - 48), .int 1000000]) (h' := (shT, fi, fl, fr)) rfl ?_
      rw [nmb_e hc]
      refine g_call (y := 15) (as := [.int 1000000, .int (nI (10 * v + dv (F p)))]) (st' := []) rfl rfl (hm ▸ min_ev) ?_
      refine g_n 3 (j' := 45) (lv' := [some (.ref 8), some (.int lo), some (.int hi), some (.int (nI b)), some (.int (nI (min 1000000 (10 * v + dv (F p)))))]) (st' := [.ref 8, .ref 8]) (h' := (shT, fi, fl, fr)) rfl ?_
      refine g_getI (x := nI p) rfl (Or.inl rfl) rfl (by decide) (e4) ?_
      refine g_n 2 (j' := 48) (lv' := [some (.ref 8), some (.int lo), some (.int hi), some (.int (nI b)), some (.int (nI (min 1000000 (10 * v + dv (F p)))))]) (st' := [.int ((nI p) + 1), .ref 8]) (h' := (shT, fi, fl, fr)) rfl ?_
      rw [nI_1 p]
      refine g_putI rfl (Or.inl rfl) rfl (by decide) ?_
      refine g_n 1 (j' := 21) (lv' := [some (.ref 8), some (.int lo), some (.int hi), some (.int (nI b)), some (.int (nI (min 1000000 (10 * v + dv (F p)))))]) (st' := []) (h' := (shT, pm_u2 fi 8 4 (nI (p + 1)), fl, fr)) rfl ?_
      exact g2
    · rw [if_neg (fun z => hc z.2)] at a1 g
      rw [sk_out (fun z => hc z.2), hpl_id hP.2.2.2.1] at g
      obtain ⟨S, fi, fl, fr⟩ := h
      have hS : S = shT := hP.1.1
      subst hS
      have r_8_2 : fr 8 2 = some 7 := hP.2.1
      have e3 : fi 8 3 = nI t := hP.2.2.1
      have e4 : fi 8 4 = nI p := hP.2.2.2.1
      have eF : ∀ s, fi 7 s = F s := hP.2.2.2.2
      refine g_n 1 (j' := 22) (lv' := [some (.ref 8), some (.int lo), some (.int hi), some (.int (nI b)), some (.int (nI v))]) (st' := [.ref 8]) (h' := (shT, fi, fl, fr)) rfl ?_
      refine g_getI (x := nI p) rfl (Or.inl rfl) rfl (by decide) (e4) ?_
      refine g_n 1 (j' := 24) (lv' := [some (.ref 8), some (.int lo), some (.int hi), some (.int (nI b)), some (.int (nI v))]) (st' := [.ref 8, .int (nI p)]) (h' := (shT, fi, fl, fr)) rfl ?_
      refine g_getI (x := nI t) rfl (Or.inl rfl) rfl (by decide) (e3) ?_
      refine g_icf rfl (show ¬ ((nI t) ≤ (nI p)) from nI_ge hp (by omega)) ?_
      refine g_n 1 (j' := 27) (lv' := [some (.ref 8), some (.int lo), some (.int hi), some (.int (nI b)), some (.int (nI v))]) (st' := [.ref 8]) (h' := (shT, fi, fl, fr)) rfl ?_
      refine g_call (y := 34) (as := [.ref 8]) (st' := []) rfl rfl (a1) ?_
      refine g_ift rfl (show (0 : Int32) = (0 : Int32) from rfl) ?_
      exact g
/-- a number from p on: its value and where it ends, or none -/
def num (F : Nat → Int32) (t lo hi p : Nat) : Option (Nat × Nat) := if sk F t cB p < t ∧ cD (F (sk F t cB p)) = true ∧ lo ≤ vcn F t (t - sk F t cB p) (sk F t cB p) 0 ∧ vcn F t (t - sk F t cB p) (sk F t cB p) 0 ≤ hi then some (vcn F t (t - sk F t cB p) (sk F t cB p) 0, sk F t cD (sk F t cB p)) else none
theorem vcn_le {F : Nat → Int32} {t : Nat} : ∀ (n p v : Nat), v ≤ 1000000 → vcn F t n p v ≤ 1000000
  | 0, _, _, h => h
  | n + 1, p, v, h => by
    rw [vcn]
    split
    · exact vcn_le n (p + 1) _ (Nat.min_le_left _ _)
    · exact h
/-- a fault stands -/
def pc_X (F : Nat → Int32) (t : Nat) (h h' : PmH) (W : WSt) : Prop := ¬ ph_i h' 8 5 = 0 ∧ fram W h h' ∧ ∃ p, p ≤ t ∧ pc_P F t p h'
theorem hft_P {F : Nat → Int32} {t p : Nat} {h : PmH} {x : Int32} (hP : pc_P F t p h) : pc_P F t p (hft h x) := by
  refine ⟨hd8 hP.1 rfl, hP.2.1, ?_, ?_, fun s => ?_⟩
  · show pm_u2 (ph_i h) 8 5 x 8 3 = _
    simp [pm_u2]
    exact hP.2.2.1
  · show pm_u2 (ph_i h) 8 5 x 8 4 = _
    simp [pm_u2]
    exact hP.2.2.2.1
  · show pm_u2 (ph_i h) 8 5 x 7 s = _
    simp [pm_u2]
    exact hP.2.2.2.2 s
theorem hft_X {F : Nat → Int32} {t p q k : Nat} {h h0 : PmH} (hP : pc_P F t p h) (hp : p ≤ t) (hq : q ≤ 200) (h1 : 1 ≤ k) (h2 : k ≤ 7) {W : WSt} (hf : fram W h0 h) (hw : inW W 8 5 = true) : pc_X F t h0 (hft h (8 * nI q + nI k)) W := by
  refine ⟨?_, fram.tr hf (fram_wi hw), p, hp, hft_P hP⟩
  show ¬ pm_u2 (ph_i h) 8 5 (8 * nI q + nI k) 8 5 = 0
  have : pm_u2 (ph_i h) 8 5 (8 * nI q + nI k) 8 5 = 8 * nI q + nI k := by simp [pm_u2]
  rw [this]
  exact bm_ne hq h1 h2
theorem nb_f {h : PmH} (hI : HI hdT shT h) {lo hi : Int32} (e5 : ¬ ph_i h 8 5 = 0) : Ev pmT 33 [.ref 8, .int lo, .int hi] h (some (.int 0)) h := by
  refine Ev.of (es := cd_33) (ml := 5) (lv := [some (.ref 8), some (.int lo), some (.int hi), none, none]) rfl rfl rfl ?_
  obtain ⟨S, fi, fl, fr⟩ := h
  have hS : S = shT := hI.1
  subst hS
  have e5 : ¬ fi 8 5 = 0 := e5
  refine g_n 1 (j' := 1) (lv' := [some (.ref 8), some (.int lo), some (.int hi), none, none]) (st' := [.ref 8]) (h' := (shT, fi, fl, fr)) rfl ?_
  refine g_getI (x := fi 8 5) rfl (Or.inl rfl) rfl (by decide) (rfl) ?_
  refine g_iff rfl (show ¬ ((fi 8 5) = (0 : Int32)) from e5) ?_
  refine g_n 1 (j' := 4) (lv' := [some (.ref 8), some (.int lo), some (.int hi), none, none]) (st' := [.int 0]) (h' := (shT, fi, fl, fr)) rfl ?_
  exact g_ret rfl
theorem nb_ev {F : Nat → Int32} {t p lo hi : Nat} {h : PmH} (ht : t ≤ 200) (hpt : p ≤ t) (hP : pc_P F t p h) (e5 : ph_i h 8 5 = 0) (hlo : lo ≤ 1000) (hhi : hi ≤ 1000) : (∃ v e, num F t lo hi p = some (v, e) ∧ lo ≤ v ∧ v ≤ hi ∧ e ≤ t ∧ p < e ∧ Ev pmT 33 [.ref 8, .int (nI lo), .int (nI hi)] h (some (.int (nI v))) (hpl h e)) ∨ (num F t lo hi p = none ∧ ∃ x h', Ev pmT 33 [.ref 8, .int (nI lo), .int (nI hi)] h (some (.int x)) h' ∧ pc_X F t h h' [(8, 4), (8, 5)]) := by
  have s1 := sb_ev ht hpt hP
  have B1 : sk F t cB p ≤ t := sk_le _ _ hpt
  have B0 : p ≤ sk F t cB p := sk_ge _ _
  have hP2 := hpl_P (q := sk F t cB p) hP
  have f2 : ph_i (hpl h (sk F t cB p)) 8 5 = 0 := ft_hpl.trans e5
  have a1 := ad_ev ht B1 hP2
  generalize hB : sk F t cB p = B at *
  by_cases hd : B < t ∧ cD (F B) = true
  · rw [if_pos hd] at a1
    have E1 : sk F t cD B ≤ t := sk_le _ _ B1
    have E0 : B < sk F t cD B := by
      rw [sk_in hd.1 hd.2]
      exact Nat.lt_of_lt_of_le (Nat.lt_succ_self B) (sk_ge _ _)
    have V1 : vcn F t (t - B) B 0 ≤ 1000000 := vcn_le _ _ _ (by omega)
    generalize hV : vcn F t (t - B) B 0 = V at *
    have hP3 := hpl_P (q := sk F t cD B) hP2
    have f3 : ph_i (hpl (hpl h B) (sk F t cD B)) 8 5 = 0 := ft_hpl.trans f2
    have pref : ∀ r, Go pmT none cd_33 50 [some (.ref 8), some (.int (nI lo)), some (.int (nI hi)), some (.int (nI B)), some (.int (nI V))] [] (hpl (hpl h B) (sk F t cD B)) r → Go pmT none cd_33 0 [some (.ref 8), some (.int (nI lo)), some (.int (nI hi)), none, none] [] h r := by
      intro r g
      have g2 := nm_go (b := B) (lo := nI lo) (hi := nI hi) ht (t - B) B 0 (hpl h B) rfl B1 (by omega) hP2 (by rw [hV]; exact g)
      obtain ⟨S, fi, fl, fr⟩ := h
      have hS : S = shT := hP.1.1
      subst hS
      have r_8_2 : fr 8 2 = some 7 := hP.2.1
      have e3 : fi 8 3 = nI t := hP.2.2.1
      have e4 : fi 8 4 = nI p := hP.2.2.2.1
      have eF : ∀ s, fi 7 s = F s := hP.2.2.2.2
      have e5 : fi 8 5 = 0 := e5
      have e4B : pm_u2 fi 8 4 (nI B) 8 4 = nI B := by simp [pm_u2]
      refine g_n 1 (j' := 1) (lv' := [some (.ref 8), some (.int (nI lo)), some (.int (nI hi)), none, none]) (st' := [.ref 8]) (h' := (shT, fi, fl, fr)) rfl ?_
      refine g_getI (x := 0) rfl (Or.inl rfl) rfl (by decide) (e5) ?_
      refine g_ift rfl (show (0 : Int32) = (0 : Int32) from rfl) ?_
      refine g_n 1 (j' := 6) (lv' := [some (.ref 8), some (.int (nI lo)), some (.int (nI hi)), none, none]) (st' := [.ref 8]) (h' := (shT, fi, fl, fr)) rfl ?_
      refine g_callv (y := 18) (as := [.ref 8]) (st' := []) rfl rfl (s1) ?_
      refine g_n 1 (j' := 8) (lv' := [some (.ref 8), some (.int (nI lo)), some (.int (nI hi)), none, none]) (st' := [.ref 8]) (h' := (shT, pm_u2 fi 8 4 (nI B), fl, fr)) rfl ?_
      refine g_getI (x := nI B) rfl (Or.inl rfl) rfl (by decide) (e4B) ?_
      refine g_n 2 (j' := 11) (lv' := [some (.ref 8), some (.int (nI lo)), some (.int (nI hi)), some (.int (nI B)), none]) (st' := [.ref 8]) (h' := (shT, pm_u2 fi 8 4 (nI B), fl, fr)) rfl ?_
      refine g_call (y := 34) (as := [.ref 8]) (st' := []) rfl rfl (a1) ?_
      refine g_ift rfl (show ¬ (1 : Int32) = (0 : Int32) from by decide) ?_
      refine g_n 2 (j' := 21) (lv' := [some (.ref 8), some (.int (nI lo)), some (.int (nI hi)), some (.int (nI B)), some (.int (nI 0))]) (st' := []) (h' := (shT, pm_u2 fi 8 4 (nI B), fl, fr)) rfl ?_
      exact g2
    by_cases h1 : lo ≤ V
    · by_cases h2 : V ≤ hi
      · left
        refine ⟨V, sk F t cD B, ?_, h1, h2, E1, by omega, Ev.of (es := cd_33) (ml := 5) (lv := [some (.ref 8), some (.int (nI lo)), some (.int (nI hi)), none, none]) rfl rfl rfl (pref _ ?_)⟩
        · unfold num
          rw [hB, hV, if_pos ⟨hd.1, hd.2, h1, h2⟩]
        · rw [hpl_2]
          refine g_n 2 (j' := 52) (lv' := [some (.ref 8), some (.int (nI lo)), some (.int (nI hi)), some (.int (nI B)), some (.int (nI V))]) (st' := [.int (nI lo), .int (nI V)]) (h' := (hpl h (sk F t cD B))) rfl ?_
          refine g_icf rfl (show ¬ ((nI V) < (nI lo)) from nI_nlt h1 (by omega)) ?_
          refine g_n 2 (j' := 55) (lv' := [some (.ref 8), some (.int (nI lo)), some (.int (nI hi)), some (.int (nI B)), some (.int (nI V))]) (st' := [.int (nI hi), .int (nI V)]) (h' := (hpl h (sk F t cD B))) rfl ?_
          refine g_ict rfl (show (nI V) ≤ (nI hi) from nI_le h2 (by omega)) ?_
          refine g_n 1 (j' := 61) (lv' := [some (.ref 8), some (.int (nI lo)), some (.int (nI hi)), some (.int (nI B)), some (.int (nI V))]) (st' := [.int (nI V)]) (h' := (hpl h (sk F t cD B))) rfl ?_
          exact g_ret rfl
      · right
        have bm := bm_ev (w := nI B) (k := nI 2) hP3.1 f3
        have X := hft_X (q := B) (k := 2) hP3 E1 (by omega) (by omega) (by omega) (W := [(8, 4), (8, 5)]) (fram.tr (fram.up (by decide) hpl_fr) (fram.up (by decide) hpl_fr)) (by decide)
        refine ⟨?_, nI V, _, Ev.of (es := cd_33) (ml := 5) (lv := [some (.ref 8), some (.int (nI lo)), some (.int (nI hi)), none, none]) rfl rfl rfl (pref _ ?_), X⟩
        · unfold num
          rw [hB, hV, if_neg (fun z => h2 z.2.2.2)]
        · have hS3 := hP3.1.1
          generalize hpl (hpl h B) (sk F t cD B) = h3 at *
          obtain ⟨S3, fi3, fl3, fr3⟩ := h3
          have hS3 : S3 = shT := hS3
          subst hS3
          refine g_n 2 (j' := 52) (lv' := [some (.ref 8), some (.int (nI lo)), some (.int (nI hi)), some (.int (nI B)), some (.int (nI V))]) (st' := [.int (nI lo), .int (nI V)]) (h' := (shT, fi3, fl3, fr3)) rfl ?_
          refine g_icf rfl (show ¬ ((nI V) < (nI lo)) from nI_nlt h1 (by omega)) ?_
          refine g_n 2 (j' := 55) (lv' := [some (.ref 8), some (.int (nI lo)), some (.int (nI hi)), some (.int (nI B)), some (.int (nI V))]) (st' := [.int (nI hi), .int (nI V)]) (h' := (shT, fi3, fl3, fr3)) rfl ?_
          refine g_icf rfl (show ¬ ((nI V) ≤ (nI hi)) from nI_ge (by omega) (by omega)) ?_
          refine g_n 3 (j' := 59) (lv' := [some (.ref 8), some (.int (nI lo)), some (.int (nI hi)), some (.int (nI B)), some (.int (nI V))]) (st' := [.int (nI 2), .int (nI B), .ref 8]) (h' := (shT, fi3, fl3, fr3)) rfl ?_
          refine g_callv (y := 32) (as := [.ref 8, .int (nI B), .int (nI 2)]) (st' := []) rfl rfl (bm) ?_
          refine g_n 1 (j' := 61) (lv' := [some (.ref 8), some (.int (nI lo)), some (.int (nI hi)), some (.int (nI B)), some (.int (nI V))]) (st' := [.int (nI V)]) (h' := (hft (shT, fi3, fl3, fr3) (8 * nI B + nI 2))) rfl ?_
          exact g_ret rfl
    · right
      have bm := bm_ev (w := nI B) (k := nI 2) hP3.1 f3
      have X := hft_X (q := B) (k := 2) hP3 E1 (by omega) (by omega) (by omega) (W := [(8, 4), (8, 5)]) (fram.tr (fram.up (by decide) hpl_fr) (fram.up (by decide) hpl_fr)) (by decide)
      refine ⟨?_, nI V, _, Ev.of (es := cd_33) (ml := 5) (lv := [some (.ref 8), some (.int (nI lo)), some (.int (nI hi)), none, none]) rfl rfl rfl (pref _ ?_), X⟩
      · unfold num
        rw [hB, hV, if_neg (fun z => h1 z.2.2.1)]
      · have hS3 := hP3.1.1
        generalize hpl (hpl h B) (sk F t cD B) = h3 at *
        obtain ⟨S3, fi3, fl3, fr3⟩ := h3
        have hS3 : S3 = shT := hS3
        subst hS3
        refine g_n 2 (j' := 52) (lv' := [some (.ref 8), some (.int (nI lo)), some (.int (nI hi)), some (.int (nI B)), some (.int (nI V))]) (st' := [.int (nI lo), .int (nI V)]) (h' := (shT, fi3, fl3, fr3)) rfl ?_
        refine g_ict rfl (show (nI V) < (nI lo) from nI_lt (by omega) (by omega)) ?_
        refine g_n 3 (j' := 59) (lv' := [some (.ref 8), some (.int (nI lo)), some (.int (nI hi)), some (.int (nI B)), some (.int (nI V))]) (st' := [.int (nI 2), .int (nI B), .ref 8]) (h' := (shT, fi3, fl3, fr3)) rfl ?_
        refine g_callv (y := 32) (as := [.ref 8, .int (nI B), .int (nI 2)]) (st' := []) rfl rfl (bm) ?_
        refine g_n 1 (j' := 61) (lv' := [some (.ref 8), some (.int (nI lo)), some (.int (nI hi)), some (.int (nI B)), some (.int (nI V))]) (st' := [.int (nI V)]) (h' := (hft (shT, fi3, fl3, fr3) (8 * nI B + nI 2))) rfl ?_
        exact g_ret rfl
  · right
    rw [if_neg hd] at a1
    have bm := bm_ev (w := nI B) (k := nI 1) hP2.1 f2
    have X := hft_X (q := B) (k := 1) hP2 B1 (by omega) (by omega) (by omega) (W := [(8, 4), (8, 5)]) (fram.up (by decide) hpl_fr) (by decide)
    refine ⟨?_, 0, _, Ev.of (es := cd_33) (ml := 5) (lv := [some (.ref 8), some (.int (nI lo)), some (.int (nI hi)), none, none]) rfl rfl rfl ?_, X⟩
    · unfold num
      rw [hB, if_neg (fun z => hd ⟨z.1, z.2.1⟩)]
    · obtain ⟨S, fi, fl, fr⟩ := h
      have hS : S = shT := hP.1.1
      subst hS
      have r_8_2 : fr 8 2 = some 7 := hP.2.1
      have e3 : fi 8 3 = nI t := hP.2.2.1
      have e4 : fi 8 4 = nI p := hP.2.2.2.1
      have eF : ∀ s, fi 7 s = F s := hP.2.2.2.2
      have e5 : fi 8 5 = 0 := e5
      have e4B : pm_u2 fi 8 4 (nI B) 8 4 = nI B := by simp [pm_u2]
      refine g_n 1 (j' := 1) (lv' := [some (.ref 8), some (.int (nI lo)), some (.int (nI hi)), none, none]) (st' := [.ref 8]) (h' := (shT, fi, fl, fr)) rfl ?_
      refine g_getI (x := 0) rfl (Or.inl rfl) rfl (by decide) (e5) ?_
      refine g_ift rfl (show (0 : Int32) = (0 : Int32) from rfl) ?_
      refine g_n 1 (j' := 6) (lv' := [some (.ref 8), some (.int (nI lo)), some (.int (nI hi)), none, none]) (st' := [.ref 8]) (h' := (shT, fi, fl, fr)) rfl ?_
      refine g_callv (y := 18) (as := [.ref 8]) (st' := []) rfl rfl (s1) ?_
      refine g_n 1 (j' := 8) (lv' := [some (.ref 8), some (.int (nI lo)), some (.int (nI hi)), none, none]) (st' := [.ref 8]) (h' := (shT, pm_u2 fi 8 4 (nI B), fl, fr)) rfl ?_
      refine g_getI (x := nI B) rfl (Or.inl rfl) rfl (by decide) (e4B) ?_
      refine g_n 2 (j' := 11) (lv' := [some (.ref 8), some (.int (nI lo)), some (.int (nI hi)), some (.int (nI B)), none]) (st' := [.ref 8]) (h' := (shT, pm_u2 fi 8 4 (nI B), fl, fr)) rfl ?_
      refine g_call (y := 34) (as := [.ref 8]) (st' := []) rfl rfl (a1) ?_
      refine g_iff rfl (show ¬ (¬ (0 : Int32) = (0 : Int32)) from fun z => z rfl) ?_
      refine g_n 3 (j' := 16) (lv' := [some (.ref 8), some (.int (nI lo)), some (.int (nI hi)), some (.int (nI B)), none]) (st' := [.int (nI 1), .int (nI B), .ref 8]) (h' := (shT, pm_u2 fi 8 4 (nI B), fl, fr)) rfl ?_
      refine g_callv (y := 32) (as := [.ref 8, .int (nI B), .int (nI 1)]) (st' := []) rfl rfl (bm) ?_
      refine g_n 1 (j' := 18) (lv' := [some (.ref 8), some (.int (nI lo)), some (.int (nI hi)), some (.int (nI B)), none]) (st' := [.int 0]) (h' := (hft (hpl (shT, fi, fl, fr) B) (8 * nI B + nI 1))) rfl ?_
      exact g_ret rfl
