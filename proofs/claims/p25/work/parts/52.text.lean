/-! THE TEXT: what both parsers look for -/
def skb (F : Nat → Int32) (t : Nat) (c : Int32 → Bool) : Nat → Nat → Nat
  | 0, p => p
  | n + 1, p => if p < t ∧ c (F p) = true then skb F t c n (p + 1) else p
/-- the first place from p on that isn't such a byte -/
def sk (F : Nat → Int32) (t : Nat) (c : Int32 → Bool) (p : Nat) : Nat := skb F t c (t - p) p
theorem sk_in {F : Nat → Int32} {t : Nat} {c : Int32 → Bool} {p : Nat} (hp : p < t) (hc : c (F p) = true) : sk F t c p = sk F t c (p + 1) := by
  unfold sk
  rw [show t - p = (t - (p + 1)) + 1 by omega, skb, if_pos ⟨hp, hc⟩]
theorem sk_out {F : Nat → Int32} {t : Nat} {c : Int32 → Bool} {p : Nat} (h : ¬ (p < t ∧ c (F p) = true)) : sk F t c p = p := by
  unfold sk
  cases hn : t - p with
  | zero => rfl
  | succ n => rw [skb, if_neg h]
theorem sk_ge {F : Nat → Int32} {t : Nat} {c : Int32 → Bool} : ∀ (n p : Nat), p ≤ skb F t c n p
  | 0, p => Nat.le_refl p
  | n + 1, p => by
    rw [skb]
    split
    · exact Nat.le_trans (Nat.le_succ p) (sk_ge n (p + 1))
    · exact Nat.le_refl p
theorem sk_le {F : Nat → Int32} {t : Nat} {c : Int32 → Bool} : ∀ (n p : Nat), p ≤ t → skb F t c n p ≤ t
  | 0, p, h => h
  | n + 1, p, h => by
    rw [skb]
    split
    · rename_i hq
      exact sk_le n (p + 1) (by omega)
    · exact h
def cB (x : Int32) : Bool := decide (x = 32)
def cL (x : Int32) : Bool := decide (97 ≤ x) && decide (x ≤ 122)
def cD (x : Int32) : Bool := decide (48 ≤ x) && decide (x ≤ 57)
/-- the parser of the class stands at p, t bytes are there -/
def pc_P (F : Nat → Int32) (t p : Nat) (h : PmH) : Prop := HI hdT shT h ∧ ph_r h 8 2 = some 7 ∧ ph_i h 8 3 = nI t ∧ ph_i h 8 4 = nI p ∧ ∀ s, ph_i h 7 s = F s
def hpl (h : PmH) (q : Nat) : PmH := (ph_s h, pm_u2 (ph_i h) 8 4 (nI q), ph_l h, ph_r h)
theorem pm_u2_same {f : Nat → Nat → Int32} {p s : Nat} : pm_u2 f p s (f p s) = f := by
  funext p' s'
  by_cases hp : p' = p
  · subst hp
    by_cases hs : s' = s
    · subst hs
      simp [pm_u2, pm_uf]
    · simp [pm_u2, pm_uf, hs]
  · simp [pm_u2, pm_uf, hp]
theorem pm_u2_2 {f : Nat → Nat → Int32} {p s : Nat} {x y : Int32} : pm_u2 (pm_u2 f p s x) p s y = pm_u2 f p s y := by
  funext p' s'
  by_cases hp : p' = p
  · subst hp
    by_cases hs : s' = s
    · subst hs
      simp [pm_u2, pm_uf]
    · simp [pm_u2, pm_uf, hs]
  · simp [pm_u2, pm_uf, hp]
theorem hpl_id {h : PmH} {p : Nat} (e : ph_i h 8 4 = nI p) : hpl h p = h := by
  unfold hpl
  rw [← e, pm_u2_same]
theorem hpl_2 {h : PmH} {a b : Nat} : hpl (hpl h a) b = hpl h b := by
  unfold hpl
  show (ph_s h, pm_u2 (pm_u2 (ph_i h) 8 4 (nI a)) 8 4 (nI b), ph_l h, ph_r h) = _
  rw [pm_u2_2]
theorem hd8 {h : PmH} {c : Nat} {x : Int32} (hI : HI hdT shT h) (hd : (hd_at hdT shT 8 c).1 = 9) : HI hdT shT (ph_s h, pm_u2 (ph_i h) 8 c x, ph_l h, ph_r h) := HI_wi hI (fun z => by rw [hd] at z; cases z)
theorem hpl_P {F : Nat → Int32} {t p q : Nat} {h : PmH} (hP : pc_P F t p h) : pc_P F t q (hpl h q) := by
  refine ⟨hd8 hP.1 rfl, hP.2.1, ?_, ?_, fun s => ?_⟩
  · show pm_u2 (ph_i h) 8 4 (nI q) 8 3 = _
    simp [pm_u2]
    exact hP.2.2.1
  · show pm_u2 (ph_i h) 8 4 (nI q) 8 4 = _
    simp [pm_u2]
  · show pm_u2 (ph_i h) 8 4 (nI q) 7 s = _
    simp [pm_u2]
    exact hP.2.2.2.2 s
theorem hpl_fr {h : PmH} {q : Nat} : fram [(8, 4)] h (hpl h q) := fram_wi rfl
theorem sb_go {F : Nat → Int32} {t : Nat} (ht : t ≤ 200) : ∀ (n p : Nat) (h : PmH), t - p = n → p ≤ t → pc_P F t p h → Go pmT none cd_18 0 [some (.ref 8)] [] h (none, hpl h (sk F t cB p)) := by
  intro n
  induction n with
  | zero =>
    intro p h hn hpt hP
    rw [sk_out (by omega), hpl_id hP.2.2.2.1]
    obtain ⟨S, fi, fl, fr⟩ := h
    have hS : S = shT := hP.1.1
    subst hS
    have r_8_2 : fr 8 2 = some 7 := hP.2.1
    have e3 : fi 8 3 = nI t := hP.2.2.1
    have e4 : fi 8 4 = nI p := hP.2.2.2.1
    have eF : ∀ s, fi 7 s = F s := hP.2.2.2.2
    refine g_n 1 (j' := 1) (lv' := [some (.ref 8)]) (st' := [.ref 8]) (h' := (shT, fi, fl, fr)) rfl ?_
    refine g_getI (x := nI p) rfl (Or.inl rfl) rfl (by decide) (e4) ?_
    refine g_n 1 (j' := 3) (lv' := [some (.ref 8)]) (st' := [.ref 8, .int (nI p)]) (h' := (shT, fi, fl, fr)) rfl ?_
    refine g_getI (x := nI t) rfl (Or.inl rfl) rfl (by decide) (e3) ?_
    refine g_ict rfl (show (nI t) ≤ (nI p) from nI_le (by omega) (by omega)) ?_
    exact g_vret rfl
  | succ n ih =>
    intro p h hn hpt hP
    have hp : p < t := by omega
    by_cases hc : F p = 32
    · have g := ih (p + 1) (hpl h (p + 1)) (by omega) (by omega) (hpl_P hP)
      rw [hpl_2, ← sk_in hp (decide_eq_true hc)] at g
      obtain ⟨S, fi, fl, fr⟩ := h
      have hS : S = shT := hP.1.1
      subst hS
      have r_8_2 : fr 8 2 = some 7 := hP.2.1
      have e3 : fi 8 3 = nI t := hP.2.2.1
      have e4 : fi 8 4 = nI p := hP.2.2.2.1
      have eF : ∀ s, fi 7 s = F s := hP.2.2.2.2
      refine g_n 1 (j' := 1) (lv' := [some (.ref 8)]) (st' := [.ref 8]) (h' := (shT, fi, fl, fr)) rfl ?_
      refine g_getI (x := nI p) rfl (Or.inl rfl) rfl (by decide) (e4) ?_
      refine g_n 1 (j' := 3) (lv' := [some (.ref 8)]) (st' := [.ref 8, .int (nI p)]) (h' := (shT, fi, fl, fr)) rfl ?_
      refine g_getI (x := nI t) rfl (Or.inl rfl) rfl (by decide) (e3) ?_
      refine g_icf rfl (show ¬ ((nI t) ≤ (nI p)) from nI_ge hp (by omega)) ?_
      refine g_n 1 (j' := 6) (lv' := [some (.ref 8)]) (st' := [.ref 8]) (h' := (shT, fi, fl, fr)) rfl ?_
      refine g_getR (q' := 7) rfl rfl (by decide) r_8_2 ?_
      refine g_n 1 (j' := 8) (lv' := [some (.ref 8)]) (st' := [.ref 8, .ref 7]) (h' := (shT, fi, fl, fr)) rfl ?_
      refine g_getI (x := nI p) rfl (Or.inl rfl) rfl (by decide) (e4) ?_
      refine g_bald (k := p) (x := F p) rfl rfl (by decide) (rfl) (by omega) (by decide) (eF p) ?_
      refine g_n 1 (j' := 11) (lv' := [some (.ref 8)]) (st' := [.int 32, .int (F p)]) (h' := (shT, fi, fl, fr)) rfl ?_
      refine g_icf rfl (show ¬ (¬ (F p) = (32 : Int32)) from fun z => z hc) ?_
      refine g_n 2 (j' := 14) (lv' := [some (.ref 8)]) (st' := [.ref 8, .ref 8]) (h' := (shT, fi, fl, fr)) rfl ?_
      refine g_getI (x := nI p) rfl (Or.inl rfl) rfl (by decide) (e4) ?_
      refine g_n 2 (j' := 17) (lv' := [some (.ref 8)]) (st' := [.int ((nI p) + 1), .ref 8]) (h' := (shT, fi, fl, fr)) rfl ?_
      rw [nI_1 p]
      refine g_putI rfl (Or.inl rfl) rfl (by decide) ?_
      refine g_n 1 (j' := 0) (lv' := [some (.ref 8)]) (st' := []) (h' := (shT, pm_u2 fi 8 4 (nI (p + 1)), fl, fr)) rfl ?_
      exact g
    · rw [sk_out (fun z => hc (of_decide_eq_true z.2)), hpl_id hP.2.2.2.1]
      obtain ⟨S, fi, fl, fr⟩ := h
      have hS : S = shT := hP.1.1
      subst hS
      have r_8_2 : fr 8 2 = some 7 := hP.2.1
      have e3 : fi 8 3 = nI t := hP.2.2.1
      have e4 : fi 8 4 = nI p := hP.2.2.2.1
      have eF : ∀ s, fi 7 s = F s := hP.2.2.2.2
      refine g_n 1 (j' := 1) (lv' := [some (.ref 8)]) (st' := [.ref 8]) (h' := (shT, fi, fl, fr)) rfl ?_
      refine g_getI (x := nI p) rfl (Or.inl rfl) rfl (by decide) (e4) ?_
      refine g_n 1 (j' := 3) (lv' := [some (.ref 8)]) (st' := [.ref 8, .int (nI p)]) (h' := (shT, fi, fl, fr)) rfl ?_
      refine g_getI (x := nI t) rfl (Or.inl rfl) rfl (by decide) (e3) ?_
      refine g_icf rfl (show ¬ ((nI t) ≤ (nI p)) from nI_ge hp (by omega)) ?_
      refine g_n 1 (j' := 6) (lv' := [some (.ref 8)]) (st' := [.ref 8]) (h' := (shT, fi, fl, fr)) rfl ?_
      refine g_getR (q' := 7) rfl rfl (by decide) r_8_2 ?_
      refine g_n 1 (j' := 8) (lv' := [some (.ref 8)]) (st' := [.ref 8, .ref 7]) (h' := (shT, fi, fl, fr)) rfl ?_
      refine g_getI (x := nI p) rfl (Or.inl rfl) rfl (by decide) (e4) ?_
      refine g_bald (k := p) (x := F p) rfl rfl (by decide) (rfl) (by omega) (by decide) (eF p) ?_
      refine g_n 1 (j' := 11) (lv' := [some (.ref 8)]) (st' := [.int 32, .int (F p)]) (h' := (shT, fi, fl, fr)) rfl ?_
      refine g_ict rfl (show ¬ (F p) = (32 : Int32) from hc) ?_
      exact g_vret rfl
theorem sb_ev {F : Nat → Int32} {t p : Nat} {h : PmH} (ht : t ≤ 200) (hpt : p ≤ t) (hP : pc_P F t p h) : Ev pmT 18 [.ref 8] h none (hpl h (sk F t cB p)) := Ev.of (es := cd_18) (ml := 1) (lv := [some (.ref 8)]) rfl rfl rfl (sb_go ht _ p h rfl hpt hP)
theorem sl_go {F : Nat → Int32} {t : Nat} (ht : t ≤ 200) : ∀ (n p : Nat) (h : PmH), t - p = n → p ≤ t → pc_P F t p h → Go pmT none cd_19 0 [some (.ref 8)] [] h (none, hpl h (sk F t cL p)) := by
  intro n
  induction n with
  | zero =>
    intro p h hn hpt hP
    rw [sk_out (by omega), hpl_id hP.2.2.2.1]
    obtain ⟨S, fi, fl, fr⟩ := h
    have hS : S = shT := hP.1.1
    subst hS
    have r_8_2 : fr 8 2 = some 7 := hP.2.1
    have e3 : fi 8 3 = nI t := hP.2.2.1
    have e4 : fi 8 4 = nI p := hP.2.2.2.1
    have eF : ∀ s, fi 7 s = F s := hP.2.2.2.2
    refine g_n 1 (j' := 1) (lv' := [some (.ref 8)]) (st' := [.ref 8]) (h' := (shT, fi, fl, fr)) rfl ?_
    refine g_getI (x := nI p) rfl (Or.inl rfl) rfl (by decide) (e4) ?_
    refine g_n 1 (j' := 3) (lv' := [some (.ref 8)]) (st' := [.ref 8, .int (nI p)]) (h' := (shT, fi, fl, fr)) rfl ?_
    refine g_getI (x := nI t) rfl (Or.inl rfl) rfl (by decide) (e3) ?_
    refine g_ict rfl (show (nI t) ≤ (nI p) from nI_le (by omega) (by omega)) ?_
    exact g_vret rfl
  | succ n ih =>
    intro p h hn hpt hP
    have hp : p < t := by omega
    by_cases hc1 : F p < 97
    · rw [sk_out (fun z => by
        have z2 := z.2
        unfold cL at z2
        simp only [Bool.and_eq_true, decide_eq_true_eq] at z2
        exact Int32.not_lt.mpr z2.1 hc1), hpl_id hP.2.2.2.1]
      obtain ⟨S, fi, fl, fr⟩ := h
      have hS : S = shT := hP.1.1
      subst hS
      have r_8_2 : fr 8 2 = some 7 := hP.2.1
      have e3 : fi 8 3 = nI t := hP.2.2.1
      have e4 : fi 8 4 = nI p := hP.2.2.2.1
      have eF : ∀ s, fi 7 s = F s := hP.2.2.2.2
      refine g_n 1 (j' := 1) (lv' := [some (.ref 8)]) (st' := [.ref 8]) (h' := (shT, fi, fl, fr)) rfl ?_
      refine g_getI (x := nI p) rfl (Or.inl rfl) rfl (by decide) (e4) ?_
      refine g_n 1 (j' := 3) (lv' := [some (.ref 8)]) (st' := [.ref 8, .int (nI p)]) (h' := (shT, fi, fl, fr)) rfl ?_
      refine g_getI (x := nI t) rfl (Or.inl rfl) rfl (by decide) (e3) ?_
      refine g_icf rfl (show ¬ ((nI t) ≤ (nI p)) from nI_ge hp (by omega)) ?_
      refine g_n 1 (j' := 6) (lv' := [some (.ref 8)]) (st' := [.ref 8]) (h' := (shT, fi, fl, fr)) rfl ?_
      refine g_getR (q' := 7) rfl rfl (by decide) r_8_2 ?_
      refine g_n 1 (j' := 8) (lv' := [some (.ref 8)]) (st' := [.ref 8, .ref 7]) (h' := (shT, fi, fl, fr)) rfl ?_
      refine g_getI (x := nI p) rfl (Or.inl rfl) rfl (by decide) (e4) ?_
      refine g_bald (k := p) (x := F p) rfl rfl (by decide) (rfl) (by omega) (by decide) (eF p) ?_
      refine g_n 1 (j' := 11) (lv' := [some (.ref 8)]) (st' := [.int 97, .int (F p)]) (h' := (shT, fi, fl, fr)) rfl ?_
      refine g_ict rfl (show (F p) < (97 : Int32) from hc1) ?_
      exact g_vret rfl
    · by_cases hc2 : 122 < F p
      · rw [sk_out (fun z => by
          have z2 := z.2
          unfold cL at z2
          simp only [Bool.and_eq_true, decide_eq_true_eq] at z2
          exact Int32.not_lt.mpr z2.2 hc2), hpl_id hP.2.2.2.1]
        obtain ⟨S, fi, fl, fr⟩ := h
        have hS : S = shT := hP.1.1
        subst hS
        have r_8_2 : fr 8 2 = some 7 := hP.2.1
        have e3 : fi 8 3 = nI t := hP.2.2.1
        have e4 : fi 8 4 = nI p := hP.2.2.2.1
        have eF : ∀ s, fi 7 s = F s := hP.2.2.2.2
        refine g_n 1 (j' := 1) (lv' := [some (.ref 8)]) (st' := [.ref 8]) (h' := (shT, fi, fl, fr)) rfl ?_
        refine g_getI (x := nI p) rfl (Or.inl rfl) rfl (by decide) (e4) ?_
        refine g_n 1 (j' := 3) (lv' := [some (.ref 8)]) (st' := [.ref 8, .int (nI p)]) (h' := (shT, fi, fl, fr)) rfl ?_
        refine g_getI (x := nI t) rfl (Or.inl rfl) rfl (by decide) (e3) ?_
        refine g_icf rfl (show ¬ ((nI t) ≤ (nI p)) from nI_ge hp (by omega)) ?_
        refine g_n 1 (j' := 6) (lv' := [some (.ref 8)]) (st' := [.ref 8]) (h' := (shT, fi, fl, fr)) rfl ?_
        refine g_getR (q' := 7) rfl rfl (by decide) r_8_2 ?_
        refine g_n 1 (j' := 8) (lv' := [some (.ref 8)]) (st' := [.ref 8, .ref 7]) (h' := (shT, fi, fl, fr)) rfl ?_
        refine g_getI (x := nI p) rfl (Or.inl rfl) rfl (by decide) (e4) ?_
        refine g_bald (k := p) (x := F p) rfl rfl (by decide) (rfl) (by omega) (by decide) (eF p) ?_
        refine g_n 1 (j' := 11) (lv' := [some (.ref 8)]) (st' := [.int 97, .int (F p)]) (h' := (shT, fi, fl, fr)) rfl ?_
        refine g_icf rfl (show ¬ ((F p) < (97 : Int32)) from hc1) ?_
        refine g_n 1 (j' := 13) (lv' := [some (.ref 8)]) (st' := [.ref 8]) (h' := (shT, fi, fl, fr)) rfl ?_
        refine g_getR (q' := 7) rfl rfl (by decide) r_8_2 ?_
        refine g_n 1 (j' := 15) (lv' := [some (.ref 8)]) (st' := [.ref 8, .ref 7]) (h' := (shT, fi, fl, fr)) rfl ?_
        refine g_getI (x := nI p) rfl (Or.inl rfl) rfl (by decide) (e4) ?_
        refine g_bald (k := p) (x := F p) rfl rfl (by decide) (rfl) (by omega) (by decide) (eF p) ?_
        refine g_n 1 (j' := 18) (lv' := [some (.ref 8)]) (st' := [.int 122, .int (F p)]) (h' := (shT, fi, fl, fr)) rfl ?_
        refine g_ict rfl (show (122 : Int32) < (F p) from hc2) ?_
        exact g_vret rfl
      · have g := ih (p + 1) (hpl h (p + 1)) (by omega) (by omega) (hpl_P hP)
        rw [hpl_2, ← sk_in hp (by unfold cL; rw [decide_eq_true (Int32.not_lt.mp hc1), decide_eq_true (Int32.not_lt.mp hc2)]; rfl)] at g
        obtain ⟨S, fi, fl, fr⟩ := h
        have hS : S = shT := hP.1.1
        subst hS
        have r_8_2 : fr 8 2 = some 7 := hP.2.1
        have e3 : fi 8 3 = nI t := hP.2.2.1
        have e4 : fi 8 4 = nI p := hP.2.2.2.1
        have eF : ∀ s, fi 7 s = F s := hP.2.2.2.2
        refine g_n 1 (j' := 1) (lv' := [some (.ref 8)]) (st' := [.ref 8]) (h' := (shT, fi, fl, fr)) rfl ?_
        refine g_getI (x := nI p) rfl (Or.inl rfl) rfl (by decide) (e4) ?_
        refine g_n 1 (j' := 3) (lv' := [some (.ref 8)]) (st' := [.ref 8, .int (nI p)]) (h' := (shT, fi, fl, fr)) rfl ?_
        refine g_getI (x := nI t) rfl (Or.inl rfl) rfl (by decide) (e3) ?_
        refine g_icf rfl (show ¬ ((nI t) ≤ (nI p)) from nI_ge hp (by omega)) ?_
        refine g_n 1 (j' := 6) (lv' := [some (.ref 8)]) (st' := [.ref 8]) (h' := (shT, fi, fl, fr)) rfl ?_
        refine g_getR (q' := 7) rfl rfl (by decide) r_8_2 ?_
        refine g_n 1 (j' := 8) (lv' := [some (.ref 8)]) (st' := [.ref 8, .ref 7]) (h' := (shT, fi, fl, fr)) rfl ?_
        refine g_getI (x := nI p) rfl (Or.inl rfl) rfl (by decide) (e4) ?_
        refine g_bald (k := p) (x := F p) rfl rfl (by decide) (rfl) (by omega) (by decide) (eF p) ?_
        refine g_n 1 (j' := 11) (lv' := [some (.ref 8)]) (st' := [.int 97, .int (F p)]) (h' := (shT, fi, fl, fr)) rfl ?_
        refine g_icf rfl (show ¬ ((F p) < (97 : Int32)) from hc1) ?_
        refine g_n 1 (j' := 13) (lv' := [some (.ref 8)]) (st' := [.ref 8]) (h' := (shT, fi, fl, fr)) rfl ?_
        refine g_getR (q' := 7) rfl rfl (by decide) r_8_2 ?_
        refine g_n 1 (j' := 15) (lv' := [some (.ref 8)]) (st' := [.ref 8, .ref 7]) (h' := (shT, fi, fl, fr)) rfl ?_
        refine g_getI (x := nI p) rfl (Or.inl rfl) rfl (by decide) (e4) ?_
        refine g_bald (k := p) (x := F p) rfl rfl (by decide) (rfl) (by omega) (by decide) (eF p) ?_
        refine g_n 1 (j' := 18) (lv' := [some (.ref 8)]) (st' := [.int 122, .int (F p)]) (h' := (shT, fi, fl, fr)) rfl ?_
        refine g_icf rfl (show ¬ ((122 : Int32) < (F p)) from hc2) ?_
        refine g_n 2 (j' := 21) (lv' := [some (.ref 8)]) (st' := [.ref 8, .ref 8]) (h' := (shT, fi, fl, fr)) rfl ?_
        refine g_getI (x := nI p) rfl (Or.inl rfl) rfl (by decide) (e4) ?_
        refine g_n 2 (j' := 24) (lv' := [some (.ref 8)]) (st' := [.int ((nI p) + 1), .ref 8]) (h' := (shT, fi, fl, fr)) rfl ?_
        rw [nI_1 p]
        refine g_putI rfl (Or.inl rfl) rfl (by decide) ?_
        refine g_n 1 (j' := 0) (lv' := [some (.ref 8)]) (st' := []) (h' := (shT, pm_u2 fi 8 4 (nI (p + 1)), fl, fr)) rfl ?_
        exact g
theorem sl_ev {F : Nat → Int32} {t p : Nat} {h : PmH} (ht : t ≤ 200) (hpt : p ≤ t) (hP : pc_P F t p h) : Ev pmT 19 [.ref 8] h none (hpl h (sk F t cL p)) := Ev.of (es := cd_19) (ml := 1) (lv := [some (.ref 8)]) rfl rfl rfl (sl_go ht _ p h rfl hpt hP)
theorem ad_ev {F : Nat → Int32} {t p : Nat} {h : PmH} (ht : t ≤ 200) (hpt : p ≤ t) (hP : pc_P F t p h) : Ev pmT 34 [.ref 8] h (some (.int (if p < t ∧ cD (F p) = true then 1 else 0))) h := by
  refine Ev.of (es := cd_34) (ml := 1) (lv := [some (.ref 8)]) rfl rfl rfl ?_
  obtain ⟨S, fi, fl, fr⟩ := h
  have hS : S = shT := hP.1.1
  subst hS
  have r_8_2 : fr 8 2 = some 7 := hP.2.1
  have e3 : fi 8 3 = nI t := hP.2.2.1
  have e4 : fi 8 4 = nI p := hP.2.2.2.1
  have eF : ∀ s, fi 7 s = F s := hP.2.2.2.2
  by_cases hp : p < t
  · by_cases hc1 : F p < 48
    · rw [if_neg (fun z => by
        have z2 := z.2
        unfold cD at z2
        simp only [Bool.and_eq_true, decide_eq_true_eq] at z2
        exact Int32.not_lt.mpr z2.1 hc1)]
      refine g_n 1 (j' := 1) (lv' := [some (.ref 8)]) (st' := [.ref 8]) (h' := (shT, fi, fl, fr)) rfl ?_
      refine g_getI (x := nI p) rfl (Or.inl rfl) rfl (by decide) (e4) ?_
      refine g_n 1 (j' := 3) (lv' := [some (.ref 8)]) (st' := [.ref 8, .int (nI p)]) (h' := (shT, fi, fl, fr)) rfl ?_
      refine g_getI (x := nI t) rfl (Or.inl rfl) rfl (by decide) (e3) ?_
      refine g_icf rfl (show ¬ ((nI t) ≤ (nI p)) from nI_ge hp (by omega)) ?_
      refine g_n 1 (j' := 6) (lv' := [some (.ref 8)]) (st' := [.ref 8]) (h' := (shT, fi, fl, fr)) rfl ?_
      refine g_getR (q' := 7) rfl rfl (by decide) r_8_2 ?_
      refine g_n 1 (j' := 8) (lv' := [some (.ref 8)]) (st' := [.ref 8, .ref 7]) (h' := (shT, fi, fl, fr)) rfl ?_
      refine g_getI (x := nI p) rfl (Or.inl rfl) rfl (by decide) (e4) ?_
      refine g_bald (k := p) (x := F p) rfl rfl (by decide) (rfl) (by omega) (by decide) (eF p) ?_
      refine g_n 1 (j' := 11) (lv' := [some (.ref 8)]) (st' := [.int 48, .int (F p)]) (h' := (shT, fi, fl, fr)) rfl ?_
      refine g_ict rfl (show (F p) < (48 : Int32) from hc1) ?_
      refine g_n 1 (j' := 22) (lv' := [some (.ref 8)]) (st' := [.int 0]) (h' := (shT, fi, fl, fr)) rfl ?_
      exact g_retz rfl (by decide)
    · by_cases hc2 : 57 < F p
      · rw [if_neg (fun z => by
          have z2 := z.2
          unfold cD at z2
          simp only [Bool.and_eq_true, decide_eq_true_eq] at z2
          exact Int32.not_lt.mpr z2.2 hc2)]
        refine g_n 1 (j' := 1) (lv' := [some (.ref 8)]) (st' := [.ref 8]) (h' := (shT, fi, fl, fr)) rfl ?_
        refine g_getI (x := nI p) rfl (Or.inl rfl) rfl (by decide) (e4) ?_
        refine g_n 1 (j' := 3) (lv' := [some (.ref 8)]) (st' := [.ref 8, .int (nI p)]) (h' := (shT, fi, fl, fr)) rfl ?_
        refine g_getI (x := nI t) rfl (Or.inl rfl) rfl (by decide) (e3) ?_
        refine g_icf rfl (show ¬ ((nI t) ≤ (nI p)) from nI_ge hp (by omega)) ?_
        refine g_n 1 (j' := 6) (lv' := [some (.ref 8)]) (st' := [.ref 8]) (h' := (shT, fi, fl, fr)) rfl ?_
        refine g_getR (q' := 7) rfl rfl (by decide) r_8_2 ?_
        refine g_n 1 (j' := 8) (lv' := [some (.ref 8)]) (st' := [.ref 8, .ref 7]) (h' := (shT, fi, fl, fr)) rfl ?_
        refine g_getI (x := nI p) rfl (Or.inl rfl) rfl (by decide) (e4) ?_
        refine g_bald (k := p) (x := F p) rfl rfl (by decide) (rfl) (by omega) (by decide) (eF p) ?_
        refine g_n 1 (j' := 11) (lv' := [some (.ref 8)]) (st' := [.int 48, .int (F p)]) (h' := (shT, fi, fl, fr)) rfl ?_
        refine g_icf rfl (show ¬ ((F p) < (48 : Int32)) from hc1) ?_
        refine g_n 1 (j' := 13) (lv' := [some (.ref 8)]) (st' := [.ref 8]) (h' := (shT, fi, fl, fr)) rfl ?_
        refine g_getR (q' := 7) rfl rfl (by decide) r_8_2 ?_
        refine g_n 1 (j' := 15) (lv' := [some (.ref 8)]) (st' := [.ref 8, .ref 7]) (h' := (shT, fi, fl, fr)) rfl ?_
        refine g_getI (x := nI p) rfl (Or.inl rfl) rfl (by decide) (e4) ?_
        refine g_bald (k := p) (x := F p) rfl rfl (by decide) (rfl) (by omega) (by decide) (eF p) ?_
        refine g_n 1 (j' := 18) (lv' := [some (.ref 8)]) (st' := [.int 57, .int (F p)]) (h' := (shT, fi, fl, fr)) rfl ?_
        refine g_ict rfl (show (57 : Int32) < (F p) from hc2) ?_
        refine g_n 1 (j' := 22) (lv' := [some (.ref 8)]) (st' := [.int 0]) (h' := (shT, fi, fl, fr)) rfl ?_
        exact g_retz rfl (by decide)
      · rw [if_pos ⟨hp, by unfold cD; rw [decide_eq_true (Int32.not_lt.mp hc1), decide_eq_true (Int32.not_lt.mp hc2)]; rfl⟩]
        refine g_n 1 (j' := 1) (lv' := [some (.ref 8)]) (st' := [.ref 8]) (h' := (shT, fi, fl, fr)) rfl ?_
        refine g_getI (x := nI p) rfl (Or.inl rfl) rfl (by decide) (e4) ?_
        refine g_n 1 (j' := 3) (lv' := [some (.ref 8)]) (st' := [.ref 8, .int (nI p)]) (h' := (shT, fi, fl, fr)) rfl ?_
        refine g_getI (x := nI t) rfl (Or.inl rfl) rfl (by decide) (e3) ?_
        refine g_icf rfl (show ¬ ((nI t) ≤ (nI p)) from nI_ge hp (by omega)) ?_
        refine g_n 1 (j' := 6) (lv' := [some (.ref 8)]) (st' := [.ref 8]) (h' := (shT, fi, fl, fr)) rfl ?_
        refine g_getR (q' := 7) rfl rfl (by decide) r_8_2 ?_
        refine g_n 1 (j' := 8) (lv' := [some (.ref 8)]) (st' := [.ref 8, .ref 7]) (h' := (shT, fi, fl, fr)) rfl ?_
        refine g_getI (x := nI p) rfl (Or.inl rfl) rfl (by decide) (e4) ?_
        refine g_bald (k := p) (x := F p) rfl rfl (by decide) (rfl) (by omega) (by decide) (eF p) ?_
        refine g_n 1 (j' := 11) (lv' := [some (.ref 8)]) (st' := [.int 48, .int (F p)]) (h' := (shT, fi, fl, fr)) rfl ?_
        refine g_icf rfl (show ¬ ((F p) < (48 : Int32)) from hc1) ?_
        refine g_n 1 (j' := 13) (lv' := [some (.ref 8)]) (st' := [.ref 8]) (h' := (shT, fi, fl, fr)) rfl ?_
        refine g_getR (q' := 7) rfl rfl (by decide) r_8_2 ?_
        refine g_n 1 (j' := 15) (lv' := [some (.ref 8)]) (st' := [.ref 8, .ref 7]) (h' := (shT, fi, fl, fr)) rfl ?_
        refine g_getI (x := nI p) rfl (Or.inl rfl) rfl (by decide) (e4) ?_
        refine g_bald (k := p) (x := F p) rfl rfl (by decide) (rfl) (by omega) (by decide) (eF p) ?_
        refine g_n 1 (j' := 18) (lv' := [some (.ref 8)]) (st' := [.int 57, .int (F p)]) (h' := (shT, fi, fl, fr)) rfl ?_
        refine g_icf rfl (show ¬ ((57 : Int32) < (F p)) from hc2) ?_
        refine g_n 2 (j' := 22) (lv' := [some (.ref 8)]) (st' := [.int 1]) (h' := (shT, fi, fl, fr)) rfl ?_
        exact g_retz rfl (by decide)
  · rw [if_neg (fun z => hp z.1)]
    refine g_n 1 (j' := 1) (lv' := [some (.ref 8)]) (st' := [.ref 8]) (h' := (shT, fi, fl, fr)) rfl ?_
    refine g_getI (x := nI p) rfl (Or.inl rfl) rfl (by decide) (e4) ?_
    refine g_n 1 (j' := 3) (lv' := [some (.ref 8)]) (st' := [.ref 8, .int (nI p)]) (h' := (shT, fi, fl, fr)) rfl ?_
    refine g_getI (x := nI t) rfl (Or.inl rfl) rfl (by decide) (e3) ?_
    refine g_ict rfl (show (nI t) ≤ (nI p) from nI_le (by omega) (by omega)) ?_
    refine g_n 1 (j' := 22) (lv' := [some (.ref 8)]) (st' := [.int 0]) (h' := (shT, fi, fl, fr)) rfl ?_
    exact g_retz rfl (by decide)
def hft (h : PmH) (x : Int32) : PmH := (ph_s h, pm_u2 (ph_i h) 8 5 x, ph_l h, ph_r h)
theorem bm_ev {h : PmH} (hI : HI hdT shT h) {w k : Int32} (e5 : ph_i h 8 5 = 0) : Ev pmT 32 [.ref 8, .int w, .int k] h none (hft h (8 * w + k)) := by
  refine Ev.of (es := cd_32) (ml := 3) (lv := [some (.ref 8), some (.int w), some (.int k)]) rfl rfl rfl ?_
  obtain ⟨S, fi, fl, fr⟩ := h
  have hS : S = shT := hI.1
  subst hS
  have e5 : fi 8 5 = 0 := e5
  refine g_n 1 (j' := 1) (lv' := [some (.ref 8), some (.int w), some (.int k)]) (st' := [.ref 8]) (h' := (shT, fi, fl, fr)) rfl ?_
  refine g_getI (x := 0) rfl (Or.inl rfl) rfl (by decide) (e5) ?_
  refine g_iff rfl (show ¬ (¬ (0 : Int32) = (0 : Int32)) from fun z => z rfl) ?_
  refine g_n 6 (j' := 9) (lv' := [some (.ref 8), some (.int w), some (.int k)]) (st' := [.int ((8 * w) + k), .ref 8]) (h' := (shT, fi, fl, fr)) rfl ?_
  refine g_putI rfl (Or.inl rfl) rfl (by decide) ?_
  exact g_vret rfl
theorem bm_ne {p k : Nat} (hp : p ≤ 200) (h1 : 1 ≤ k) (h2 : k ≤ 7) : ¬ (8 * nI p + nI k : Int32) = 0 := by
  rw [show (8 : Int32) = nI 8 from rfl, pk_mul, nI_add]
  exact nI_ne0 (by omega) (by omega)
theorem min_ev {a b : Int32} {h : PmH} : Ev pmT 15 [.int a, .int b] h (some (.int (if a ≤ b then a else b))) h := by
  refine Ev.of (es := cd_15) (ml := 2) (lv := [some (.int a), some (.int b)]) rfl rfl rfl ?_
  refine g_n 2 (j' := 2) (lv' := [some (.int a), some (.int b)]) (st' := [.int b, .int a]) (h' := h) rfl ?_
  refine g_ic rfl (fun hc => ?_) (fun hc => ?_)
  · replace hc : b < a := hc
    rw [if_neg (by first | exact hc | exact Int32.not_le.mpr hc)]
    refine g_n 1 (j' := 6) (lv' := [some (.int a), some (.int b)]) (st' := [.int b]) (h' := h) rfl ?_
    exact g_ret rfl
  · replace hc : ¬ (b < a) := hc
    rw [if_pos (by first | exact hc | exact Int32.not_lt.mp hc)]
    refine g_n 2 (j' := 6) (lv' := [some (.int a), some (.int b)]) (st' := [.int a]) (h' := h) rfl ?_
    exact g_ret rfl
