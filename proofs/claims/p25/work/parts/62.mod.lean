/-- cells lo on, n of them, of one place -/
def fu {α : Type} (f : Nat → Nat → α) (p lo n : Nat) (g : Nat → α) : Nat → Nat → α := pm_uf f p (fun i => if lo ≤ i ∧ i < lo + n then g (i - lo) else f p i)
theorem fu_0 {α : Type} {f : Nat → Nat → α} {p lo : Nat} {g : Nat → α} : fu f p lo 0 g = f := by
  funext q s
  unfold fu pm_uf
  by_cases hq : q = p
  · subst hq
    rw [if_pos rfl, if_neg (by omega)]
  · rw [if_neg hq]
theorem fu_s {α : Type} {f : Nat → Nat → α} {p lo n : Nat} {g g' : Nat → α} (hg : ∀ i, g' i = g (i + 1)) : fu (pm_u2 f p lo (g 0)) p (lo + 1) n g' = fu f p lo (n + 1) g := by
  funext q s
  unfold fu pm_uf
  by_cases hq : q = p
  · subst hq
    rw [if_pos rfl, if_pos rfl]
    by_cases h1 : lo + 1 ≤ s ∧ s < lo + 1 + n
    · rw [if_pos h1, if_pos (by omega), hg, show s - (lo + 1) + 1 = s - lo by omega]
    · rw [if_neg h1]
      by_cases h2 : s = lo
      · subst h2
        rw [if_pos (by omega)]
        simp [pm_u2]
      · rw [if_neg (by omega)]
        simp [pm_u2, h2]
  · rw [if_neg hq, if_neg hq]
    simp [pm_u2, hq]
theorem fu_in {α : Type} {f : Nat → Nat → α} {p lo n s : Nat} {g : Nat → α} (h1 : lo ≤ s) (h2 : s < lo + n) : fu f p lo n g p s = g (s - lo) := by
  unfold fu pm_uf
  rw [if_pos rfl, if_pos ⟨h1, h2⟩]
theorem fu_out {α : Type} {f : Nat → Nat → α} {p lo n s : Nat} {g : Nat → α} (h : ¬ (lo ≤ s ∧ s < lo + n)) : fu f p lo n g p s = f p s := by
  unfold fu pm_uf
  rw [if_pos rfl, if_neg h]
theorem fu_ne {α : Type} {f : Nat → Nat → α} {p lo n q s : Nat} {g : Nat → α} (h : ¬ q = p) : fu f p lo n g q s = f q s := by
  unfold fu pm_uf
  rw [if_neg h]
theorem u2_ne {α : Type} {f : Nat → Nat → α} {p k q s : Nat} {x : α} (h : ¬ (q = p ∧ s = k)) : pm_u2 f p k x q s = f q s := wl_ne h
theorem u2_eq {α : Type} {f : Nat → Nat → α} {p k : Nat} {x : α} : pm_u2 f p k x p k = x := by simp [pm_u2]
theorem u2_i {S : List (Nat × Nat)} {f : Nat → Nat → Int32} {fl : Nat → Nat → Int64} {fr : Nat → Nat → Option Nat} {p k : Nat} {x : Int32} : ph_i (S, pm_u2 f p k x, fl, fr) p k = x := u2_eq
theorem u2_n {S : List (Nat × Nat)} {f : Nat → Nat → Int32} {fl : Nat → Nat → Int64} {fr : Nat → Nat → Option Nat} {p k q s : Nat} {x : Int32} (h : ¬ (q = p ∧ s = k)) : ph_i (S, pm_u2 f p k x, fl, fr) q s = f q s := u2_ne h
theorem n72 (r : Nat) : (72 : Int32) * nI r = nI (72 * r) := pk_mul 72 r
theorem nadd (a b : Nat) : nI a + nI b = nI (a + b) := nI_add a b
theorem kp_loop {r : Nat} (hr : r ≤ 13) : ∀ (n b : Nat) (fi : Nat → Nat → Int32) (fl : Nat → Nat → Int64) (fr : Nat → Nat → Option Nat), b + n = 64 → fr 70 50 = some 91 → fr 70 51 = some 92 → fr 70 22 = some 74 → Go pmT none cd_163 60 [some (.ref 70), some (.int (nI r)), some (.int (nI (72 * r))), some (.int (nI b))] [] (shT, fi, fl, fr) (none, (shT, fu fi 91 (72 * r + 8 + b) n (fun i => fi 74 (b + i)), pm_u2 fl 92 r (fl 70 21), fr)) := by
  intro n
  induction n with
  | zero =>
    intro b fi fl fr hb r_70_50 r_70_51 r_70_22
    have hb : b = 64 := by omega
    subst hb
    rw [fu_0]
    refine go_of ?_
    refine gp_n 2 (j' := 62) (lv' := [some (.ref 70), some (.int (nI r)), some (.int (nI (72 * r))), some (.int (nI 64))]) (st' := [.int 64, .int (nI 64)]) (h' := (shT, fi, fl, fr)) rfl ?_
    refine gp_of (fun _ k9 => g_ict rfl (show (64 : Int32) ≤ (nI 64) from by decide) k9) ?_
    refine gp_n 1 (j' := 78) (lv' := [some (.ref 70), some (.int (nI r)), some (.int (nI (72 * r))), some (.int (nI 64))]) (st' := [.ref 70]) (h' := (shT, fi, fl, fr)) rfl ?_
    refine gp_of (fun _ k9 => g_getR (q' := 92) rfl rfl (by decide) r_70_51 k9) ?_
    refine gp_n 2 (j' := 81) (lv' := [some (.ref 70), some (.int (nI r)), some (.int (nI (72 * r))), some (.int (nI 64))]) (st' := [.ref 70, .int (nI r), .ref 92]) (h' := (shT, fi, fl, fr)) rfl ?_
    refine gp_of (fun _ k9 => g_getL (x := fl 70 21) rfl rfl (by decide) (rfl) k9) ?_
    refine gp_of (fun _ k9 => g_last (k := r) rfl rfl (rfl) (by omega) (by decide) k9) ?_
    refine gp_done (g_vret rfl) ?_
    rfl
  | succ n ih =>
    intro b fi fl fr hb r_70_50 r_70_51 r_70_22
    have g := ih (b + 1) (pm_u2 fi 91 (72 * r + 8 + b) (fi 74 b)) fl fr (by omega) r_70_50 r_70_51 r_70_22
    have e1 := fu_s (f := fi) (p := 91) (lo := 72 * r + 8 + b) (n := n) (g := fun i => fi 74 (b + i)) (g' := fun i => pm_u2 fi 91 (72 * r + 8 + b) (fi 74 b) 74 (b + 1 + i)) (fun i => by show fi 74 (b + 1 + i) = fi 74 (b + (i + 1)); rw [show b + 1 + i = b + (i + 1) by omega])
    have e1 : fu (pm_u2 fi 91 (72 * r + 8 + b) (fi 74 b)) 91 (72 * r + 8 + (b + 1)) n (fun i => pm_u2 fi 91 (72 * r + 8 + b) (fi 74 b) 74 (b + 1 + i)) = fu fi 91 (72 * r + 8 + b) (n + 1) (fun i => fi 74 (b + i)) := e1
    rw [e1] at g
    refine go_of ?_
    refine gp_n 2 (j' := 62) (lv' := [some (.ref 70), some (.int (nI r)), some (.int (nI (72 * r))), some (.int (nI b))]) (st' := [.int 64, .int (nI b)]) (h' := (shT, fi, fl, fr)) rfl ?_
    refine gp_of (fun _ k9 => g_icf rfl (show ¬ ((64 : Int32) ≤ (nI b)) from nI_ge (b := 64) (by omega) (by decide)) k9) ?_
    refine gp_n 1 (j' := 64) (lv' := [some (.ref 70), some (.int (nI r)), some (.int (nI (72 * r))), some (.int (nI b))]) (st' := [.ref 70]) (h' := (shT, fi, fl, fr)) rfl ?_
    refine gp_of (fun _ k9 => g_getR (q' := 91) rfl rfl (by decide) r_70_50 k9) ?_
    refine gp_n 6 (j' := 71) (lv' := [some (.ref 70), some (.int (nI r)), some (.int (nI (72 * r))), some (.int (nI b))]) (st' := [.ref 70, .int (((nI (72 * r)) + 8) + (nI b)), .ref 91]) (h' := (shT, fi, fl, fr)) rfl ?_
    refine gp_of (fun _ k9 => g_getR (q' := 74) rfl rfl (by decide) r_70_22 k9) ?_
    refine gp_n 1 (j' := 73) (lv' := [some (.ref 70), some (.int (nI r)), some (.int (nI (72 * r))), some (.int (nI b))]) (st' := [.int (nI b), .ref 74, .int (((nI (72 * r)) + 8) + (nI b)), .ref 91]) (h' := (shT, fi, fl, fr)) rfl ?_
    refine gp_of (fun _ k9 => g_iald (k := b) (x := fi 74 b) rfl rfl (rfl) (by omega) (by decide) (rfl) k9) ?_
    refine gp_of (fun _ k9 => g_iast (k := 72 * r + 8 + b) rfl rfl ((show nI (72 * r) + nI 8 + nI b = _ by rw [nadd, nadd])) (by omega) (by decide) k9) ?_
    refine gp_n 2 (j' := 60) (lv' := [some (.ref 70), some (.int (nI r)), some (.int (nI (72 * r))), some (.int ((nI b) + 1))]) (st' := []) (h' := (shT, pm_u2 fi 91 (72 * r + 8 + b) (fi 74 b), fl, fr)) rfl ?_
    rw [nI_1]
    exact gp_done g rfl
theorem kp_ev {r : Nat} {h : PmH} (hI : HI hdT shT h) (hr : r ≤ 13) : ∃ h', Ev pmT 163 [.ref 70, .int (nI r)] h none h' ∧ ph_s h' = shT ∧ (∀ L v, csM L h v → csH L h' r v) ∧ (∀ p s, ¬ (p = 91 ∧ 72 * r ≤ s ∧ s < 72 * r + 72) → ph_i h' p s = ph_i h p s) ∧ (∀ p s, ¬ (p = 92 ∧ s = r) → ph_l h' p s = ph_l h p s) ∧ ∀ p s, ph_r h' p s = ph_r h p s := by
  have k50 : ph_r h 70 50 = some 91 := hi_r hI rfl rfl (by decide)
  have k51 : ph_r h 70 51 = some 92 := hi_r hI rfl rfl (by decide)
  have k22 : ph_r h 70 22 = some 74 := hi_r hI rfl rfl (by decide)
  obtain ⟨S, fi, fl, fr⟩ := h
  have hS : S = shT := hI.1
  subst hS
  have r_70_50 : fr 70 50 = some 91 := k50
  have r_70_51 : fr 70 51 = some 92 := k51
  have r_70_22 : fr 70 22 = some 74 := k22
  have lp := kp_loop hr 64 0 (pm_u2 (pm_u2 (pm_u2 (pm_u2 (pm_u2 (pm_u2 (pm_u2 fi 91 (72 * r + 0) (fi 70 14)) 91 (72 * r + 1) (fi 70 15)) 91 (72 * r + 2) (fi 70 16)) 91 (72 * r + 3) (fi 70 17)) 91 (72 * r + 4) (fi 70 18)) 91 (72 * r + 5) (fi 70 19)) 91 (72 * r + 6) (fi 70 20)) fl fr (by omega) r_70_50 r_70_51 r_70_22
  have main : GoP pmT none cd_163 0 [some (.ref 70), some (.int (nI r)), none, none] [] (shT, fi, fl, fr) (fun z => z = (none, (shT, fu (pm_u2 (pm_u2 (pm_u2 (pm_u2 (pm_u2 (pm_u2 (pm_u2 fi 91 (72 * r + 0) (fi 70 14)) 91 (72 * r + 1) (fi 70 15)) 91 (72 * r + 2) (fi 70 16)) 91 (72 * r + 3) (fi 70 17)) 91 (72 * r + 4) (fi 70 18)) 91 (72 * r + 5) (fi 70 19)) 91 (72 * r + 6) (fi 70 20)) 91 (72 * r + 8 + 0) 64 (fun i => (pm_u2 (pm_u2 (pm_u2 (pm_u2 (pm_u2 (pm_u2 (pm_u2 fi 91 (72 * r + 0) (fi 70 14)) 91 (72 * r + 1) (fi 70 15)) 91 (72 * r + 2) (fi 70 16)) 91 (72 * r + 3) (fi 70 17)) 91 (72 * r + 4) (fi 70 18)) 91 (72 * r + 5) (fi 70 19)) 91 (72 * r + 6) (fi 70 20)) 74 (0 + i)), pm_u2 fl 92 r (fl 70 21), fr))) := by
    refine gp_n 3 (j' := 3) (lv' := [some (.ref 70), some (.int (nI r)), none, none]) (st' := [.int ((72 : Int32) * (nI r))]) (h' := (shT, fi, fl, fr)) rfl ?_
    rw [n72]
    refine gp_n 2 (j' := 5) (lv' := [some (.ref 70), some (.int (nI r)), some (.int (nI (72 * r))), none]) (st' := [.ref 70]) (h' := (shT, fi, fl, fr)) rfl ?_
    refine gp_of (fun _ k9 => g_getR (q' := 91) rfl rfl (by decide) r_70_50 k9) ?_
    refine gp_n 2 (j' := 8) (lv' := [some (.ref 70), some (.int (nI r)), some (.int (nI (72 * r))), none]) (st' := [.ref 70, .int (nI (72 * r)), .ref 91]) (h' := (shT, fi, fl, fr)) rfl ?_
    refine gp_of (fun _ k9 => g_getI (x := fi 70 14) rfl (Or.inl rfl) rfl (by decide) (rfl) k9) ?_
    refine gp_of (fun _ k9 => g_iast (k := 72 * r + 0) rfl rfl (rfl) (by omega) (by decide) k9) ?_
    refine gp_n 1 (j' := 11) (lv' := [some (.ref 70), some (.int (nI r)), some (.int (nI (72 * r))), none]) (st' := [.ref 70]) (h' := (shT, pm_u2 fi 91 (72 * r + 0) (fi 70 14), fl, fr)) rfl ?_
    refine gp_of (fun _ k9 => g_getR (q' := 91) rfl rfl (by decide) r_70_50 k9) ?_
    refine gp_n 4 (j' := 16) (lv' := [some (.ref 70), some (.int (nI r)), some (.int (nI (72 * r))), none]) (st' := [.ref 70, .int ((nI (72 * r)) + 1), .ref 91]) (h' := (shT, pm_u2 fi 91 (72 * r + 0) (fi 70 14), fl, fr)) rfl ?_
    refine gp_of (fun _ k9 => g_getI (x := (pm_u2 fi 91 (72 * r + 0) (fi 70 14)) 70 15) rfl (Or.inl rfl) rfl (by decide) (rfl) k9) ?_
    refine gp_of (fun _ k9 => g_iast (k := 72 * r + 1) rfl rfl (nadd (72 * r) 1) (by omega) (by decide) k9) ?_
    refine gp_n 1 (j' := 19) (lv' := [some (.ref 70), some (.int (nI r)), some (.int (nI (72 * r))), none]) (st' := [.ref 70]) (h' := (shT, pm_u2 (pm_u2 fi 91 (72 * r + 0) (fi 70 14)) 91 (72 * r + 1) ((pm_u2 fi 91 (72 * r + 0) (fi 70 14)) 70 15), fl, fr)) rfl ?_
    refine gp_of (fun _ k9 => g_getR (q' := 91) rfl rfl (by decide) r_70_50 k9) ?_
    refine gp_n 4 (j' := 24) (lv' := [some (.ref 70), some (.int (nI r)), some (.int (nI (72 * r))), none]) (st' := [.ref 70, .int ((nI (72 * r)) + 2), .ref 91]) (h' := (shT, pm_u2 (pm_u2 fi 91 (72 * r + 0) (fi 70 14)) 91 (72 * r + 1) ((pm_u2 fi 91 (72 * r + 0) (fi 70 14)) 70 15), fl, fr)) rfl ?_
    refine gp_of (fun _ k9 => g_getI (x := (pm_u2 (pm_u2 fi 91 (72 * r + 0) (fi 70 14)) 91 (72 * r + 1) ((pm_u2 fi 91 (72 * r + 0) (fi 70 14)) 70 15)) 70 16) rfl (Or.inl rfl) rfl (by decide) (rfl) k9) ?_
    refine gp_of (fun _ k9 => g_iast (k := 72 * r + 2) rfl rfl (nadd (72 * r) 2) (by omega) (by decide) k9) ?_
    refine gp_n 1 (j' := 27) (lv' := [some (.ref 70), some (.int (nI r)), some (.int (nI (72 * r))), none]) (st' := [.ref 70]) (h' := (shT, pm_u2 (pm_u2 (pm_u2 fi 91 (72 * r + 0) (fi 70 14)) 91 (72 * r + 1) ((pm_u2 fi 91 (72 * r + 0) (fi 70 14)) 70 15)) 91 (72 * r + 2) ((pm_u2 (pm_u2 fi 91 (72 * r + 0) (fi 70 14)) 91 (72 * r + 1) ((pm_u2 fi 91 (72 * r + 0) (fi 70 14)) 70 15)) 70 16), fl, fr)) rfl ?_
    refine gp_of (fun _ k9 => g_getR (q' := 91) rfl rfl (by decide) r_70_50 k9) ?_
    refine gp_n 4 (j' := 32) (lv' := [some (.ref 70), some (.int (nI r)), some (.int (nI (72 * r))), none]) (st' := [.ref 70, .int ((nI (72 * r)) + 3), .ref 91]) (h' := (shT, pm_u2 (pm_u2 (pm_u2 fi 91 (72 * r + 0) (fi 70 14)) 91 (72 * r + 1) ((pm_u2 fi 91 (72 * r + 0) (fi 70 14)) 70 15)) 91 (72 * r + 2) ((pm_u2 (pm_u2 fi 91 (72 * r + 0) (fi 70 14)) 91 (72 * r + 1) ((pm_u2 fi 91 (72 * r + 0) (fi 70 14)) 70 15)) 70 16), fl, fr)) rfl ?_
    refine gp_of (fun _ k9 => g_getI (x := (pm_u2 (pm_u2 (pm_u2 fi 91 (72 * r + 0) (fi 70 14)) 91 (72 * r + 1) ((pm_u2 fi 91 (72 * r + 0) (fi 70 14)) 70 15)) 91 (72 * r + 2) ((pm_u2 (pm_u2 fi 91 (72 * r + 0) (fi 70 14)) 91 (72 * r + 1) ((pm_u2 fi 91 (72 * r + 0) (fi 70 14)) 70 15)) 70 16)) 70 17) rfl (Or.inl rfl) rfl (by decide) (rfl) k9) ?_
    refine gp_of (fun _ k9 => g_iast (k := 72 * r + 3) rfl rfl (nadd (72 * r) 3) (by omega) (by decide) k9) ?_
    refine gp_n 1 (j' := 35) (lv' := [some (.ref 70), some (.int (nI r)), some (.int (nI (72 * r))), none]) (st' := [.ref 70]) (h' := (shT, pm_u2 (pm_u2 (pm_u2 (pm_u2 fi 91 (72 * r + 0) (fi 70 14)) 91 (72 * r + 1) ((pm_u2 fi 91 (72 * r + 0) (fi 70 14)) 70 15)) 91 (72 * r + 2) ((pm_u2 (pm_u2 fi 91 (72 * r + 0) (fi 70 14)) 91 (72 * r + 1) ((pm_u2 fi 91 (72 * r + 0) (fi 70 14)) 70 15)) 70 16)) 91 (72 * r + 3) ((pm_u2 (pm_u2 (pm_u2 fi 91 (72 * r + 0) (fi 70 14)) 91 (72 * r + 1) ((pm_u2 fi 91 (72 * r + 0) (fi 70 14)) 70 15)) 91 (72 * r + 2) ((pm_u2 (pm_u2 fi 91 (72 * r + 0) (fi 70 14)) 91 (72 * r + 1) ((pm_u2 fi 91 (72 * r + 0) (fi 70 14)) 70 15)) 70 16)) 70 17), fl, fr)) rfl ?_
    refine gp_of (fun _ k9 => g_getR (q' := 91) rfl rfl (by decide) r_70_50 k9) ?_
    refine gp_n 4 (j' := 40) (lv' := [some (.ref 70), some (.int (nI r)), some (.int (nI (72 * r))), none]) (st' := [.ref 70, .int ((nI (72 * r)) + 4), .ref 91]) (h' := (shT, pm_u2 (pm_u2 (pm_u2 (pm_u2 fi 91 (72 * r + 0) (fi 70 14)) 91 (72 * r + 1) ((pm_u2 fi 91 (72 * r + 0) (fi 70 14)) 70 15)) 91 (72 * r + 2) ((pm_u2 (pm_u2 fi 91 (72 * r + 0) (fi 70 14)) 91 (72 * r + 1) ((pm_u2 fi 91 (72 * r + 0) (fi 70 14)) 70 15)) 70 16)) 91 (72 * r + 3) ((pm_u2 (pm_u2 (pm_u2 fi 91 (72 * r + 0) (fi 70 14)) 91 (72 * r + 1) ((pm_u2 fi 91 (72 * r + 0) (fi 70 14)) 70 15)) 91 (72 * r + 2) ((pm_u2 (pm_u2 fi 91 (72 * r + 0) (fi 70 14)) 91 (72 * r + 1) ((pm_u2 fi 91 (72 * r + 0) (fi 70 14)) 70 15)) 70 16)) 70 17), fl, fr)) rfl ?_
    refine gp_of (fun _ k9 => g_getI (x := (pm_u2 (pm_u2 (pm_u2 (pm_u2 fi 91 (72 * r + 0) (fi 70 14)) 91 (72 * r + 1) ((pm_u2 fi 91 (72 * r + 0) (fi 70 14)) 70 15)) 91 (72 * r + 2) ((pm_u2 (pm_u2 fi 91 (72 * r + 0) (fi 70 14)) 91 (72 * r + 1) ((pm_u2 fi 91 (72 * r + 0) (fi 70 14)) 70 15)) 70 16)) 91 (72 * r + 3) ((pm_u2 (pm_u2 (pm_u2 fi 91 (72 * r + 0) (fi 70 14)) 91 (72 * r + 1) ((pm_u2 fi 91 (72 * r + 0) (fi 70 14)) 70 15)) 91 (72 * r + 2) ((pm_u2 (pm_u2 fi 91 (72 * r + 0) (fi 70 14)) 91 (72 * r + 1) ((pm_u2 fi 91 (72 * r + 0) (fi 70 14)) 70 15)) 70 16)) 70 17)) 70 18) rfl (Or.inl rfl) rfl (by decide) (rfl) k9) ?_
    refine gp_of (fun _ k9 => g_iast (k := 72 * r + 4) rfl rfl (nadd (72 * r) 4) (by omega) (by decide) k9) ?_
    refine gp_n 1 (j' := 43) (lv' := [some (.ref 70), some (.int (nI r)), some (.int (nI (72 * r))), none]) (st' := [.ref 70]) (h' := (shT, pm_u2 (pm_u2 (pm_u2 (pm_u2 (pm_u2 fi 91 (72 * r + 0) (fi 70 14)) 91 (72 * r + 1) ((pm_u2 fi 91 (72 * r + 0) (fi 70 14)) 70 15)) 91 (72 * r + 2) ((pm_u2 (pm_u2 fi 91 (72 * r + 0) (fi 70 14)) 91 (72 * r + 1) ((pm_u2 fi 91 (72 * r + 0) (fi 70 14)) 70 15)) 70 16)) 91 (72 * r + 3) ((pm_u2 (pm_u2 (pm_u2 fi 91 (72 * r + 0) (fi 70 14)) 91 (72 * r + 1) ((pm_u2 fi 91 (72 * r + 0) (fi 70 14)) 70 15)) 91 (72 * r + 2) ((pm_u2 (pm_u2 fi 91 (72 * r + 0) (fi 70 14)) 91 (72 * r + 1) ((pm_u2 fi 91 (72 * r + 0) (fi 70 14)) 70 15)) 70 16)) 70 17)) 91 (72 * r + 4) ((pm_u2 (pm_u2 (pm_u2 (pm_u2 fi 91 (72 * r + 0) (fi 70 14)) 91 (72 * r + 1) ((pm_u2 fi 91 (72 * r + 0) (fi 70 14)) 70 15)) 91 (72 * r + 2) ((pm_u2 (pm_u2 fi 91 (72 * r + 0) (fi 70 14)) 91 (72 * r + 1) ((pm_u2 fi 91 (72 * r + 0) (fi 70 14)) 70 15)) 70 16)) 91 (72 * r + 3) ((pm_u2 (pm_u2 (pm_u2 fi 91 (72 * r + 0) (fi 70 14)) 91 (72 * r + 1) ((pm_u2 fi 91 (72 * r + 0) (fi 70 14)) 70 15)) 91 (72 * r + 2) ((pm_u2 (pm_u2 fi 91 (72 * r + 0) (fi 70 14)) 91 (72 * r + 1) ((pm_u2 fi 91 (72 * r + 0) (fi 70 14)) 70 15)) 70 16)) 70 17)) 70 18), fl, fr)) rfl ?_
    refine gp_of (fun _ k9 => g_getR (q' := 91) rfl rfl (by decide) r_70_50 k9) ?_
    refine gp_n 4 (j' := 48) (lv' := [some (.ref 70), some (.int (nI r)), some (.int (nI (72 * r))), none]) (st' := [.ref 70, .int ((nI (72 * r)) + 5), .ref 91]) (h' := (shT, pm_u2 (pm_u2 (pm_u2 (pm_u2 (pm_u2 fi 91 (72 * r + 0) (fi 70 14)) 91 (72 * r + 1) ((pm_u2 fi 91 (72 * r + 0) (fi 70 14)) 70 15)) 91 (72 * r + 2) ((pm_u2 (pm_u2 fi 91 (72 * r + 0) (fi 70 14)) 91 (72 * r + 1) ((pm_u2 fi 91 (72 * r + 0) (fi 70 14)) 70 15)) 70 16)) 91 (72 * r + 3) ((pm_u2 (pm_u2 (pm_u2 fi 91 (72 * r + 0) (fi 70 14)) 91 (72 * r + 1) ((pm_u2 fi 91 (72 * r + 0) (fi 70 14)) 70 15)) 91 (72 * r + 2) ((pm_u2 (pm_u2 fi 91 (72 * r + 0) (fi 70 14)) 91 (72 * r + 1) ((pm_u2 fi 91 (72 * r + 0) (fi 70 14)) 70 15)) 70 16)) 70 17)) 91 (72 * r + 4) ((pm_u2 (pm_u2 (pm_u2 (pm_u2 fi 91 (72 * r + 0) (fi 70 14)) 91 (72 * r + 1) ((pm_u2 fi 91 (72 * r + 0) (fi 70 14)) 70 15)) 91 (72 * r + 2) ((pm_u2 (pm_u2 fi 91 (72 * r + 0) (fi 70 14)) 91 (72 * r + 1) ((pm_u2 fi 91 (72 * r + 0) (fi 70 14)) 70 15)) 70 16)) 91 (72 * r + 3) ((pm_u2 (pm_u2 (pm_u2 fi 91 (72 * r + 0) (fi 70 14)) 91 (72 * r + 1) ((pm_u2 fi 91 (72 * r + 0) (fi 70 14)) 70 15)) 91 (72 * r + 2) ((pm_u2 (pm_u2 fi 91 (72 * r + 0) (fi 70 14)) 91 (72 * r + 1) ((pm_u2 fi 91 (72 * r + 0) (fi 70 14)) 70 15)) 70 16)) 70 17)) 70 18), fl, fr)) rfl ?_
    refine gp_of (fun _ k9 => g_getI (x := (pm_u2 (pm_u2 (pm_u2 (pm_u2 (pm_u2 fi 91 (72 * r + 0) (fi 70 14)) 91 (72 * r + 1) ((pm_u2 fi 91 (72 * r + 0) (fi 70 14)) 70 15)) 91 (72 * r + 2) ((pm_u2 (pm_u2 fi 91 (72 * r + 0) (fi 70 14)) 91 (72 * r + 1) ((pm_u2 fi 91 (72 * r + 0) (fi 70 14)) 70 15)) 70 16)) 91 (72 * r + 3) ((pm_u2 (pm_u2 (pm_u2 fi 91 (72 * r + 0) (fi 70 14)) 91 (72 * r + 1) ((pm_u2 fi 91 (72 * r + 0) (fi 70 14)) 70 15)) 91 (72 * r + 2) ((pm_u2 (pm_u2 fi 91 (72 * r + 0) (fi 70 14)) 91 (72 * r + 1) ((pm_u2 fi 91 (72 * r + 0) (fi 70 14)) 70 15)) 70 16)) 70 17)) 91 (72 * r + 4) ((pm_u2 (pm_u2 (pm_u2 (pm_u2 fi 91 (72 * r + 0) (fi 70 14)) 91 (72 * r + 1) ((pm_u2 fi 91 (72 * r + 0) (fi 70 14)) 70 15)) 91 (72 * r + 2) ((pm_u2 (pm_u2 fi 91 (72 * r + 0) (fi 70 14)) 91 (72 * r + 1) ((pm_u2 fi 91 (72 * r + 0) (fi 70 14)) 70 15)) 70 16)) 91 (72 * r + 3) ((pm_u2 (pm_u2 (pm_u2 fi 91 (72 * r + 0) (fi 70 14)) 91 (72 * r + 1) ((pm_u2 fi 91 (72 * r + 0) (fi 70 14)) 70 15)) 91 (72 * r + 2) ((pm_u2 (pm_u2 fi 91 (72 * r + 0) (fi 70 14)) 91 (72 * r + 1) ((pm_u2 fi 91 (72 * r + 0) (fi 70 14)) 70 15)) 70 16)) 70 17)) 70 18)) 70 19) rfl (Or.inl rfl) rfl (by decide) (rfl) k9) ?_
    refine gp_of (fun _ k9 => g_iast (k := 72 * r + 5) rfl rfl (nadd (72 * r) 5) (by omega) (by decide) k9) ?_
    refine gp_n 1 (j' := 51) (lv' := [some (.ref 70), some (.int (nI r)), some (.int (nI (72 * r))), none]) (st' := [.ref 70]) (h' := (shT, pm_u2 (pm_u2 (pm_u2 (pm_u2 (pm_u2 (pm_u2 fi 91 (72 * r + 0) (fi 70 14)) 91 (72 * r + 1) ((pm_u2 fi 91 (72 * r + 0) (fi 70 14)) 70 15)) 91 (72 * r + 2) ((pm_u2 (pm_u2 fi 91 (72 * r + 0) (fi 70 14)) 91 (72 * r + 1) ((pm_u2 fi 91 (72 * r + 0) (fi 70 14)) 70 15)) 70 16)) 91 (72 * r + 3) ((pm_u2 (pm_u2 (pm_u2 fi 91 (72 * r + 0) (fi 70 14)) 91 (72 * r + 1) ((pm_u2 fi 91 (72 * r + 0) (fi 70 14)) 70 15)) 91 (72 * r + 2) ((pm_u2 (pm_u2 fi 91 (72 * r + 0) (fi 70 14)) 91 (72 * r + 1) ((pm_u2 fi 91 (72 * r + 0) (fi 70 14)) 70 15)) 70 16)) 70 17)) 91 (72 * r + 4) ((pm_u2 (pm_u2 (pm_u2 (pm_u2 fi 91 (72 * r + 0) (fi 70 14)) 91 (72 * r + 1) ((pm_u2 fi 91 (72 * r + 0) (fi 70 14)) 70 15)) 91 (72 * r + 2) ((pm_u2 (pm_u2 fi 91 (72 * r + 0) (fi 70 14)) 91 (72 * r + 1) ((pm_u2 fi 91 (72 * r + 0) (fi 70 14)) 70 15)) 70 16)) 91 (72 * r + 3) ((pm_u2 (pm_u2 (pm_u2 fi 91 (72 * r + 0) (fi 70 14)) 91 (72 * r + 1) ((pm_u2 fi 91 (72 * r + 0) (fi 70 14)) 70 15)) 91 (72 * r + 2) ((pm_u2 (pm_u2 fi 91 (72 * r + 0) (fi 70 14)) 91 (72 * r + 1) ((pm_u2 fi 91 (72 * r + 0) (fi 70 14)) 70 15)) 70 16)) 70 17)) 70 18)) 91 (72 * r + 5) ((pm_u2 (pm_u2 (pm_u2 (pm_u2 (pm_u2 fi 91 (72 * r + 0) (fi 70 14)) 91 (72 * r + 1) ((pm_u2 fi 91 (72 * r + 0) (fi 70 14)) 70 15)) 91 (72 * r + 2) ((pm_u2 (pm_u2 fi 91 (72 * r + 0) (fi 70 14)) 91 (72 * r + 1) ((pm_u2 fi 91 (72 * r + 0) (fi 70 14)) 70 15)) 70 16)) 91 (72 * r + 3) ((pm_u2 (pm_u2 (pm_u2 fi 91 (72 * r + 0) (fi 70 14)) 91 (72 * r + 1) ((pm_u2 fi 91 (72 * r + 0) (fi 70 14)) 70 15)) 91 (72 * r + 2) ((pm_u2 (pm_u2 fi 91 (72 * r + 0) (fi 70 14)) 91 (72 * r + 1) ((pm_u2 fi 91 (72 * r + 0) (fi 70 14)) 70 15)) 70 16)) 70 17)) 91 (72 * r + 4) ((pm_u2 (pm_u2 (pm_u2 (pm_u2 fi 91 (72 * r + 0) (fi 70 14)) 91 (72 * r + 1) ((pm_u2 fi 91 (72 * r + 0) (fi 70 14)) 70 15)) 91 (72 * r + 2) ((pm_u2 (pm_u2 fi 91 (72 * r + 0) (fi 70 14)) 91 (72 * r + 1) ((pm_u2 fi 91 (72 * r + 0) (fi 70 14)) 70 15)) 70 16)) 91 (72 * r + 3) ((pm_u2 (pm_u2 (pm_u2 fi 91 (72 * r + 0) (fi 70 14)) 91 (72 * r + 1) ((pm_u2 fi 91 (72 * r + 0) (fi 70 14)) 70 15)) 91 (72 * r + 2) ((pm_u2 (pm_u2 fi 91 (72 * r + 0) (fi 70 14)) 91 (72 * r + 1) ((pm_u2 fi 91 (72 * r + 0) (fi 70 14)) 70 15)) 70 16)) 70 17)) 70 18)) 70 19), fl, fr)) rfl ?_
    refine gp_of (fun _ k9 => g_getR (q' := 91) rfl rfl (by decide) r_70_50 k9) ?_
    refine gp_n 4 (j' := 56) (lv' := [some (.ref 70), some (.int (nI r)), some (.int (nI (72 * r))), none]) (st' := [.ref 70, .int ((nI (72 * r)) + 6), .ref 91]) (h' := (shT, pm_u2 (pm_u2 (pm_u2 (pm_u2 (pm_u2 (pm_u2 fi 91 (72 * r + 0) (fi 70 14)) 91 (72 * r + 1) ((pm_u2 fi 91 (72 * r + 0) (fi 70 14)) 70 15)) 91 (72 * r + 2) ((pm_u2 (pm_u2 fi 91 (72 * r + 0) (fi 70 14)) 91 (72 * r + 1) ((pm_u2 fi 91 (72 * r + 0) (fi 70 14)) 70 15)) 70 16)) 91 (72 * r + 3) ((pm_u2 (pm_u2 (pm_u2 fi 91 (72 * r + 0) (fi 70 14)) 91 (72 * r + 1) ((pm_u2 fi 91 (72 * r + 0) (fi 70 14)) 70 15)) 91 (72 * r + 2) ((pm_u2 (pm_u2 fi 91 (72 * r + 0) (fi 70 14)) 91 (72 * r + 1) ((pm_u2 fi 91 (72 * r + 0) (fi 70 14)) 70 15)) 70 16)) 70 17)) 91 (72 * r + 4) ((pm_u2 (pm_u2 (pm_u2 (pm_u2 fi 91 (72 * r + 0) (fi 70 14)) 91 (72 * r + 1) ((pm_u2 fi 91 (72 * r + 0) (fi 70 14)) 70 15)) 91 (72 * r + 2) ((pm_u2 (pm_u2 fi 91 (72 * r + 0) (fi 70 14)) 91 (72 * r + 1) ((pm_u2 fi 91 (72 * r + 0) (fi 70 14)) 70 15)) 70 16)) 91 (72 * r + 3) ((pm_u2 (pm_u2 (pm_u2 fi 91 (72 * r + 0) (fi 70 14)) 91 (72 * r + 1) ((pm_u2 fi 91 (72 * r + 0) (fi 70 14)) 70 15)) 91 (72 * r + 2) ((pm_u2 (pm_u2 fi 91 (72 * r + 0) (fi 70 14)) 91 (72 * r + 1) ((pm_u2 fi 91 (72 * r + 0) (fi 70 14)) 70 15)) 70 16)) 70 17)) 70 18)) 91 (72 * r + 5) ((pm_u2 (pm_u2 (pm_u2 (pm_u2 (pm_u2 fi 91 (72 * r + 0) (fi 70 14)) 91 (72 * r + 1) ((pm_u2 fi 91 (72 * r + 0) (fi 70 14)) 70 15)) 91 (72 * r + 2) ((pm_u2 (pm_u2 fi 91 (72 * r + 0) (fi 70 14)) 91 (72 * r + 1) ((pm_u2 fi 91 (72 * r + 0) (fi 70 14)) 70 15)) 70 16)) 91 (72 * r + 3) ((pm_u2 (pm_u2 (pm_u2 fi 91 (72 * r + 0) (fi 70 14)) 91 (72 * r + 1) ((pm_u2 fi 91 (72 * r + 0) (fi 70 14)) 70 15)) 91 (72 * r + 2) ((pm_u2 (pm_u2 fi 91 (72 * r + 0) (fi 70 14)) 91 (72 * r + 1) ((pm_u2 fi 91 (72 * r + 0) (fi 70 14)) 70 15)) 70 16)) 70 17)) 91 (72 * r + 4) ((pm_u2 (pm_u2 (pm_u2 (pm_u2 fi 91 (72 * r + 0) (fi 70 14)) 91 (72 * r + 1) ((pm_u2 fi 91 (72 * r + 0) (fi 70 14)) 70 15)) 91 (72 * r + 2) ((pm_u2 (pm_u2 fi 91 (72 * r + 0) (fi 70 14)) 91 (72 * r + 1) ((pm_u2 fi 91 (72 * r + 0) (fi 70 14)) 70 15)) 70 16)) 91 (72 * r + 3) ((pm_u2 (pm_u2 (pm_u2 fi 91 (72 * r + 0) (fi 70 14)) 91 (72 * r + 1) ((pm_u2 fi 91 (72 * r + 0) (fi 70 14)) 70 15)) 91 (72 * r + 2) ((pm_u2 (pm_u2 fi 91 (72 * r + 0) (fi 70 14)) 91 (72 * r + 1) ((pm_u2 fi 91 (72 * r + 0) (fi 70 14)) 70 15)) 70 16)) 70 17)) 70 18)) 70 19), fl, fr)) rfl ?_
    refine gp_of (fun _ k9 => g_getI (x := (pm_u2 (pm_u2 (pm_u2 (pm_u2 (pm_u2 (pm_u2 fi 91 (72 * r + 0) (fi 70 14)) 91 (72 * r + 1) ((pm_u2 fi 91 (72 * r + 0) (fi 70 14)) 70 15)) 91 (72 * r + 2) ((pm_u2 (pm_u2 fi 91 (72 * r + 0) (fi 70 14)) 91 (72 * r + 1) ((pm_u2 fi 91 (72 * r + 0) (fi 70 14)) 70 15)) 70 16)) 91 (72 * r + 3) ((pm_u2 (pm_u2 (pm_u2 fi 91 (72 * r + 0) (fi 70 14)) 91 (72 * r + 1) ((pm_u2 fi 91 (72 * r + 0) (fi 70 14)) 70 15)) 91 (72 * r + 2) ((pm_u2 (pm_u2 fi 91 (72 * r + 0) (fi 70 14)) 91 (72 * r + 1) ((pm_u2 fi 91 (72 * r + 0) (fi 70 14)) 70 15)) 70 16)) 70 17)) 91 (72 * r + 4) ((pm_u2 (pm_u2 (pm_u2 (pm_u2 fi 91 (72 * r + 0) (fi 70 14)) 91 (72 * r + 1) ((pm_u2 fi 91 (72 * r + 0) (fi 70 14)) 70 15)) 91 (72 * r + 2) ((pm_u2 (pm_u2 fi 91 (72 * r + 0) (fi 70 14)) 91 (72 * r + 1) ((pm_u2 fi 91 (72 * r + 0) (fi 70 14)) 70 15)) 70 16)) 91 (72 * r + 3) ((pm_u2 (pm_u2 (pm_u2 fi 91 (72 * r + 0) (fi 70 14)) 91 (72 * r + 1) ((pm_u2 fi 91 (72 * r + 0) (fi 70 14)) 70 15)) 91 (72 * r + 2) ((pm_u2 (pm_u2 fi 91 (72 * r + 0) (fi 70 14)) 91 (72 * r + 1) ((pm_u2 fi 91 (72 * r + 0) (fi 70 14)) 70 15)) 70 16)) 70 17)) 70 18)) 91 (72 * r + 5) ((pm_u2 (pm_u2 (pm_u2 (pm_u2 (pm_u2 fi 91 (72 * r + 0) (fi 70 14)) 91 (72 * r + 1) ((pm_u2 fi 91 (72 * r + 0) (fi 70 14)) 70 15)) 91 (72 * r + 2) ((pm_u2 (pm_u2 fi 91 (72 * r + 0) (fi 70 14)) 91 (72 * r + 1) ((pm_u2 fi 91 (72 * r + 0) (fi 70 14)) 70 15)) 70 16)) 91 (72 * r + 3) ((pm_u2 (pm_u2 (pm_u2 fi 91 (72 * r + 0) (fi 70 14)) 91 (72 * r + 1) ((pm_u2 fi 91 (72 * r + 0) (fi 70 14)) 70 15)) 91 (72 * r + 2) ((pm_u2 (pm_u2 fi 91 (72 * r + 0) (fi 70 14)) 91 (72 * r + 1) ((pm_u2 fi 91 (72 * r + 0) (fi 70 14)) 70 15)) 70 16)) 70 17)) 91 (72 * r + 4) ((pm_u2 (pm_u2 (pm_u2 (pm_u2 fi 91 (72 * r + 0) (fi 70 14)) 91 (72 * r + 1) ((pm_u2 fi 91 (72 * r + 0) (fi 70 14)) 70 15)) 91 (72 * r + 2) ((pm_u2 (pm_u2 fi 91 (72 * r + 0) (fi 70 14)) 91 (72 * r + 1) ((pm_u2 fi 91 (72 * r + 0) (fi 70 14)) 70 15)) 70 16)) 91 (72 * r + 3) ((pm_u2 (pm_u2 (pm_u2 fi 91 (72 * r + 0) (fi 70 14)) 91 (72 * r + 1) ((pm_u2 fi 91 (72 * r + 0) (fi 70 14)) 70 15)) 91 (72 * r + 2) ((pm_u2 (pm_u2 fi 91 (72 * r + 0) (fi 70 14)) 91 (72 * r + 1) ((pm_u2 fi 91 (72 * r + 0) (fi 70 14)) 70 15)) 70 16)) 70 17)) 70 18)) 70 19)) 70 20) rfl (Or.inl rfl) rfl (by decide) (rfl) k9) ?_
    refine gp_of (fun _ k9 => g_iast (k := 72 * r + 6) rfl rfl (nadd (72 * r) 6) (by omega) (by decide) k9) ?_
    refine gp_n 2 (j' := 60) (lv' := [some (.ref 70), some (.int (nI r)), some (.int (nI (72 * r))), some (.int (nI 0))]) (st' := []) (h' := (shT, pm_u2 (pm_u2 (pm_u2 (pm_u2 (pm_u2 (pm_u2 (pm_u2 fi 91 (72 * r + 0) (fi 70 14)) 91 (72 * r + 1) ((pm_u2 fi 91 (72 * r + 0) (fi 70 14)) 70 15)) 91 (72 * r + 2) ((pm_u2 (pm_u2 fi 91 (72 * r + 0) (fi 70 14)) 91 (72 * r + 1) ((pm_u2 fi 91 (72 * r + 0) (fi 70 14)) 70 15)) 70 16)) 91 (72 * r + 3) ((pm_u2 (pm_u2 (pm_u2 fi 91 (72 * r + 0) (fi 70 14)) 91 (72 * r + 1) ((pm_u2 fi 91 (72 * r + 0) (fi 70 14)) 70 15)) 91 (72 * r + 2) ((pm_u2 (pm_u2 fi 91 (72 * r + 0) (fi 70 14)) 91 (72 * r + 1) ((pm_u2 fi 91 (72 * r + 0) (fi 70 14)) 70 15)) 70 16)) 70 17)) 91 (72 * r + 4) ((pm_u2 (pm_u2 (pm_u2 (pm_u2 fi 91 (72 * r + 0) (fi 70 14)) 91 (72 * r + 1) ((pm_u2 fi 91 (72 * r + 0) (fi 70 14)) 70 15)) 91 (72 * r + 2) ((pm_u2 (pm_u2 fi 91 (72 * r + 0) (fi 70 14)) 91 (72 * r + 1) ((pm_u2 fi 91 (72 * r + 0) (fi 70 14)) 70 15)) 70 16)) 91 (72 * r + 3) ((pm_u2 (pm_u2 (pm_u2 fi 91 (72 * r + 0) (fi 70 14)) 91 (72 * r + 1) ((pm_u2 fi 91 (72 * r + 0) (fi 70 14)) 70 15)) 91 (72 * r + 2) ((pm_u2 (pm_u2 fi 91 (72 * r + 0) (fi 70 14)) 91 (72 * r + 1) ((pm_u2 fi 91 (72 * r + 0) (fi 70 14)) 70 15)) 70 16)) 70 17)) 70 18)) 91 (72 * r + 5) ((pm_u2 (pm_u2 (pm_u2 (pm_u2 (pm_u2 fi 91 (72 * r + 0) (fi 70 14)) 91 (72 * r + 1) ((pm_u2 fi 91 (72 * r + 0) (fi 70 14)) 70 15)) 91 (72 * r + 2) ((pm_u2 (pm_u2 fi 91 (72 * r + 0) (fi 70 14)) 91 (72 * r + 1) ((pm_u2 fi 91 (72 * r + 0) (fi 70 14)) 70 15)) 70 16)) 91 (72 * r + 3) ((pm_u2 (pm_u2 (pm_u2 fi 91 (72 * r + 0) (fi 70 14)) 91 (72 * r + 1) ((pm_u2 fi 91 (72 * r + 0) (fi 70 14)) 70 15)) 91 (72 * r + 2) ((pm_u2 (pm_u2 fi 91 (72 * r + 0) (fi 70 14)) 91 (72 * r + 1) ((pm_u2 fi 91 (72 * r + 0) (fi 70 14)) 70 15)) 70 16)) 70 17)) 91 (72 * r + 4) ((pm_u2 (pm_u2 (pm_u2 (pm_u2 fi 91 (72 * r + 0) (fi 70 14)) 91 (72 * r + 1) ((pm_u2 fi 91 (72 * r + 0) (fi 70 14)) 70 15)) 91 (72 * r + 2) ((pm_u2 (pm_u2 fi 91 (72 * r + 0) (fi 70 14)) 91 (72 * r + 1) ((pm_u2 fi 91 (72 * r + 0) (fi 70 14)) 70 15)) 70 16)) 91 (72 * r + 3) ((pm_u2 (pm_u2 (pm_u2 fi 91 (72 * r + 0) (fi 70 14)) 91 (72 * r + 1) ((pm_u2 fi 91 (72 * r + 0) (fi 70 14)) 70 15)) 91 (72 * r + 2) ((pm_u2 (pm_u2 fi 91 (72 * r + 0) (fi 70 14)) 91 (72 * r + 1) ((pm_u2 fi 91 (72 * r + 0) (fi 70 14)) 70 15)) 70 16)) 70 17)) 70 18)) 70 19)) 91 (72 * r + 6) ((pm_u2 (pm_u2 (pm_u2 (pm_u2 (pm_u2 (pm_u2 fi 91 (72 * r + 0) (fi 70 14)) 91 (72 * r + 1) ((pm_u2 fi 91 (72 * r + 0) (fi 70 14)) 70 15)) 91 (72 * r + 2) ((pm_u2 (pm_u2 fi 91 (72 * r + 0) (fi 70 14)) 91 (72 * r + 1) ((pm_u2 fi 91 (72 * r + 0) (fi 70 14)) 70 15)) 70 16)) 91 (72 * r + 3) ((pm_u2 (pm_u2 (pm_u2 fi 91 (72 * r + 0) (fi 70 14)) 91 (72 * r + 1) ((pm_u2 fi 91 (72 * r + 0) (fi 70 14)) 70 15)) 91 (72 * r + 2) ((pm_u2 (pm_u2 fi 91 (72 * r + 0) (fi 70 14)) 91 (72 * r + 1) ((pm_u2 fi 91 (72 * r + 0) (fi 70 14)) 70 15)) 70 16)) 70 17)) 91 (72 * r + 4) ((pm_u2 (pm_u2 (pm_u2 (pm_u2 fi 91 (72 * r + 0) (fi 70 14)) 91 (72 * r + 1) ((pm_u2 fi 91 (72 * r + 0) (fi 70 14)) 70 15)) 91 (72 * r + 2) ((pm_u2 (pm_u2 fi 91 (72 * r + 0) (fi 70 14)) 91 (72 * r + 1) ((pm_u2 fi 91 (72 * r + 0) (fi 70 14)) 70 15)) 70 16)) 91 (72 * r + 3) ((pm_u2 (pm_u2 (pm_u2 fi 91 (72 * r + 0) (fi 70 14)) 91 (72 * r + 1) ((pm_u2 fi 91 (72 * r + 0) (fi 70 14)) 70 15)) 91 (72 * r + 2) ((pm_u2 (pm_u2 fi 91 (72 * r + 0) (fi 70 14)) 91 (72 * r + 1) ((pm_u2 fi 91 (72 * r + 0) (fi 70 14)) 70 15)) 70 16)) 70 17)) 70 18)) 91 (72 * r + 5) ((pm_u2 (pm_u2 (pm_u2 (pm_u2 (pm_u2 fi 91 (72 * r + 0) (fi 70 14)) 91 (72 * r + 1) ((pm_u2 fi 91 (72 * r + 0) (fi 70 14)) 70 15)) 91 (72 * r + 2) ((pm_u2 (pm_u2 fi 91 (72 * r + 0) (fi 70 14)) 91 (72 * r + 1) ((pm_u2 fi 91 (72 * r + 0) (fi 70 14)) 70 15)) 70 16)) 91 (72 * r + 3) ((pm_u2 (pm_u2 (pm_u2 fi 91 (72 * r + 0) (fi 70 14)) 91 (72 * r + 1) ((pm_u2 fi 91 (72 * r + 0) (fi 70 14)) 70 15)) 91 (72 * r + 2) ((pm_u2 (pm_u2 fi 91 (72 * r + 0) (fi 70 14)) 91 (72 * r + 1) ((pm_u2 fi 91 (72 * r + 0) (fi 70 14)) 70 15)) 70 16)) 70 17)) 91 (72 * r + 4) ((pm_u2 (pm_u2 (pm_u2 (pm_u2 fi 91 (72 * r + 0) (fi 70 14)) 91 (72 * r + 1) ((pm_u2 fi 91 (72 * r + 0) (fi 70 14)) 70 15)) 91 (72 * r + 2) ((pm_u2 (pm_u2 fi 91 (72 * r + 0) (fi 70 14)) 91 (72 * r + 1) ((pm_u2 fi 91 (72 * r + 0) (fi 70 14)) 70 15)) 70 16)) 91 (72 * r + 3) ((pm_u2 (pm_u2 (pm_u2 fi 91 (72 * r + 0) (fi 70 14)) 91 (72 * r + 1) ((pm_u2 fi 91 (72 * r + 0) (fi 70 14)) 70 15)) 91 (72 * r + 2) ((pm_u2 (pm_u2 fi 91 (72 * r + 0) (fi 70 14)) 91 (72 * r + 1) ((pm_u2 fi 91 (72 * r + 0) (fi 70 14)) 70 15)) 70 16)) 70 17)) 70 18)) 70 19)) 70 20), fl, fr)) rfl ?_
    exact gp_done lp rfl
  obtain ⟨z, g, hz⟩ := main
  subst hz
  refine ⟨_, Ev.of (es := cd_163) (ml := 4) (lv := [some (.ref 70), some (.int (nI r)), none, none]) rfl rfl rfl g, rfl, fun L v hc => ⟨fun j hj => ?_, fun hL => ⟨?_, fun s hs => ?_⟩⟩, fun p s hp => ?_, fun p s hp => u2_ne hp, fun p s => rfl⟩
  · rw [phi_mk, fu_out (by omega)]
    have hj7 : j = 0 ∨ j = 1 ∨ j = 2 ∨ j = 3 ∨ j = 4 ∨ j = 5 ∨ j = 6 := by omega
    rcases hj7 with rfl | rfl | rfl | rfl | rfl | rfl | rfl
    all_goals (refine Eq.trans ?_ (hc.1 _ (by omega)); simp [ph_i, pm_u2])
  · show pm_u2 fl 92 r (fl 70 21) 92 r = v.2.1
    rw [u2_eq]
    exact (hc.2 hL).1
  · rw [phi_mk, fu_in (by omega) (by omega)]
    show fi 74 (0 + (72 * r + 8 + s - (72 * r + 8 + 0))) = v.2.2 s
    rw [show 0 + (72 * r + 8 + s - (72 * r + 8 + 0)) = s by omega]
    exact (hc.2 hL).2 s hs
  · rw [phi_mk, phi_mk]
    by_cases h9 : p = 91
    · subst h9
      rw [fu_out (by omega)]
      rw [u2_ne (by omega), u2_ne (by omega), u2_ne (by omega), u2_ne (by omega), u2_ne (by omega), u2_ne (by omega), u2_ne (by omega)]
    · rw [fu_ne h9]
      rw [u2_ne (by omega), u2_ne (by omega), u2_ne (by omega), u2_ne (by omega), u2_ne (by omega), u2_ne (by omega), u2_ne (by omega)]
theorem gb_loop {r : Nat} (hr : r ≤ 13) : ∀ (n b : Nat) (fi : Nat → Nat → Int32) (fl : Nat → Nat → Int64) (fr : Nat → Nat → Option Nat), b + n = 64 → fr 70 50 = some 91 → fr 70 51 = some 92 → fr 70 22 = some 74 → Go pmT none cd_229 60 [some (.ref 70), some (.int (nI r)), some (.int (nI (72 * r))), some (.int (nI b))] [] (shT, fi, fl, fr) (none, (shT, fu fi 74 b n (fun i => fi 91 (72 * r + 8 + b + i)), pm_u2 fl 70 21 (fl 92 r), fr)) := by
  intro n
  induction n with
  | zero =>
    intro b fi fl fr hb r_70_50 r_70_51 r_70_22
    have hb : b = 64 := by omega
    subst hb
    rw [fu_0]
    refine go_of ?_
    refine gp_n 2 (j' := 62) (lv' := [some (.ref 70), some (.int (nI r)), some (.int (nI (72 * r))), some (.int (nI 64))]) (st' := [.int 64, .int (nI 64)]) (h' := (shT, fi, fl, fr)) rfl ?_
    refine gp_of (fun _ k9 => g_ict rfl (show (64 : Int32) ≤ (nI 64) from by decide) k9) ?_
    refine gp_n 2 (j' := 79) (lv' := [some (.ref 70), some (.int (nI r)), some (.int (nI (72 * r))), some (.int (nI 64))]) (st' := [.ref 70, .ref 70]) (h' := (shT, fi, fl, fr)) rfl ?_
    refine gp_of (fun _ k9 => g_getR (q' := 92) rfl rfl (by decide) r_70_51 k9) ?_
    refine gp_n 1 (j' := 81) (lv' := [some (.ref 70), some (.int (nI r)), some (.int (nI (72 * r))), some (.int (nI 64))]) (st' := [.int (nI r), .ref 92, .ref 70]) (h' := (shT, fi, fl, fr)) rfl ?_
    refine gp_of (fun _ k9 => g_lald (k := r) (x := fl 92 r) rfl rfl (rfl) (by omega) (by decide) (rfl) k9) ?_
    refine gp_of (fun _ k9 => g_putL rfl rfl (by decide) k9) ?_
    refine gp_done (g_vret rfl) ?_
    rfl
  | succ n ih =>
    intro b fi fl fr hb r_70_50 r_70_51 r_70_22
    have g := ih (b + 1) (pm_u2 fi 74 b (fi 91 (72 * r + 8 + b))) fl fr (by omega) r_70_50 r_70_51 r_70_22
    have e1 : fu (pm_u2 fi 74 b (fi 91 (72 * r + 8 + b))) 74 (b + 1) n (fun i => pm_u2 fi 74 b (fi 91 (72 * r + 8 + b)) 91 (72 * r + 8 + (b + 1) + i)) = fu fi 74 b (n + 1) (fun i => fi 91 (72 * r + 8 + b + i)) := fu_s (f := fi) (p := 74) (lo := b) (n := n) (g := fun i => fi 91 (72 * r + 8 + b + i)) (fun i => by show fi 91 (72 * r + 8 + (b + 1) + i) = fi 91 (72 * r + 8 + b + (i + 1)); rw [show 72 * r + 8 + (b + 1) + i = 72 * r + 8 + b + (i + 1) by omega])
    rw [e1] at g
    refine go_of ?_
    refine gp_n 2 (j' := 62) (lv' := [some (.ref 70), some (.int (nI r)), some (.int (nI (72 * r))), some (.int (nI b))]) (st' := [.int 64, .int (nI b)]) (h' := (shT, fi, fl, fr)) rfl ?_
    refine gp_of (fun _ k9 => g_icf rfl (show ¬ ((64 : Int32) ≤ (nI b)) from nI_ge (b := 64) (by omega) (by decide)) k9) ?_
    refine gp_n 1 (j' := 64) (lv' := [some (.ref 70), some (.int (nI r)), some (.int (nI (72 * r))), some (.int (nI b))]) (st' := [.ref 70]) (h' := (shT, fi, fl, fr)) rfl ?_
    refine gp_of (fun _ k9 => g_getR (q' := 74) rfl rfl (by decide) r_70_22 k9) ?_
    refine gp_n 2 (j' := 67) (lv' := [some (.ref 70), some (.int (nI r)), some (.int (nI (72 * r))), some (.int (nI b))]) (st' := [.ref 70, .int (nI b), .ref 74]) (h' := (shT, fi, fl, fr)) rfl ?_
    refine gp_of (fun _ k9 => g_getR (q' := 91) rfl rfl (by decide) r_70_50 k9) ?_
    refine gp_n 5 (j' := 73) (lv' := [some (.ref 70), some (.int (nI r)), some (.int (nI (72 * r))), some (.int (nI b))]) (st' := [.int (((nI (72 * r)) + 8) + (nI b)), .ref 91, .int (nI b), .ref 74]) (h' := (shT, fi, fl, fr)) rfl ?_
    refine gp_of (fun _ k9 => g_iald (k := 72 * r + 8 + b) (x := fi 91 (72 * r + 8 + b)) rfl rfl ((show nI (72 * r) + nI 8 + nI b = _ by rw [nadd, nadd])) (by omega) (by decide) (rfl) k9) ?_
    refine gp_of (fun _ k9 => g_iast (k := b) rfl rfl (rfl) (by omega) (by decide) k9) ?_
    refine gp_n 2 (j' := 60) (lv' := [some (.ref 70), some (.int (nI r)), some (.int (nI (72 * r))), some (.int ((nI b) + 1))]) (st' := []) (h' := (shT, pm_u2 fi 74 b (fi 91 (72 * r + 8 + b)), fl, fr)) rfl ?_
    rw [nI_1]
    exact gp_done g rfl
theorem gb_ev {r : Nat} {h : PmH} (hI : HI hdT shT h) (hr : r ≤ 13) : ∃ h', Ev pmT 229 [.ref 70, .int (nI r)] h none h' ∧ ph_s h' = shT ∧ (∀ L v, csH L h r v → csM L h' v) ∧ (∀ p s, ¬ (p = 70 ∧ 14 ≤ s ∧ s ≤ 20) → ¬ p = 74 → ph_i h' p s = ph_i h p s) ∧ (∀ p s, ¬ (p = 70 ∧ s = 21) → ph_l h' p s = ph_l h p s) ∧ ∀ p s, ph_r h' p s = ph_r h p s := by
  have k50 : ph_r h 70 50 = some 91 := hi_r hI rfl rfl (by decide)
  have k51 : ph_r h 70 51 = some 92 := hi_r hI rfl rfl (by decide)
  have k22 : ph_r h 70 22 = some 74 := hi_r hI rfl rfl (by decide)
  obtain ⟨S, fi, fl, fr⟩ := h
  have hS : S = shT := hI.1
  subst hS
  have r_70_50 : fr 70 50 = some 91 := k50
  have r_70_51 : fr 70 51 = some 92 := k51
  have r_70_22 : fr 70 22 = some 74 := k22
  have lp := gb_loop hr 64 0 (pm_u2 (pm_u2 (pm_u2 (pm_u2 (pm_u2 (pm_u2 (pm_u2 fi 70 14 (fi 91 (72 * r + 0))) 70 15 (fi 91 (72 * r + 1))) 70 16 (fi 91 (72 * r + 2))) 70 17 (fi 91 (72 * r + 3))) 70 18 (fi 91 (72 * r + 4))) 70 19 (fi 91 (72 * r + 5))) 70 20 (fi 91 (72 * r + 6))) fl fr (by omega) r_70_50 r_70_51 r_70_22
  have main : GoP pmT none cd_229 0 [some (.ref 70), some (.int (nI r)), none, none] [] (shT, fi, fl, fr) (fun z => z = (none, (shT, fu (pm_u2 (pm_u2 (pm_u2 (pm_u2 (pm_u2 (pm_u2 (pm_u2 fi 70 14 (fi 91 (72 * r + 0))) 70 15 (fi 91 (72 * r + 1))) 70 16 (fi 91 (72 * r + 2))) 70 17 (fi 91 (72 * r + 3))) 70 18 (fi 91 (72 * r + 4))) 70 19 (fi 91 (72 * r + 5))) 70 20 (fi 91 (72 * r + 6))) 74 0 64 (fun i => (pm_u2 (pm_u2 (pm_u2 (pm_u2 (pm_u2 (pm_u2 (pm_u2 fi 70 14 (fi 91 (72 * r + 0))) 70 15 (fi 91 (72 * r + 1))) 70 16 (fi 91 (72 * r + 2))) 70 17 (fi 91 (72 * r + 3))) 70 18 (fi 91 (72 * r + 4))) 70 19 (fi 91 (72 * r + 5))) 70 20 (fi 91 (72 * r + 6))) 91 (72 * r + 8 + 0 + i)), pm_u2 fl 70 21 (fl 92 r), fr))) := by
    refine gp_n 3 (j' := 3) (lv' := [some (.ref 70), some (.int (nI r)), none, none]) (st' := [.int ((72 : Int32) * (nI r))]) (h' := (shT, fi, fl, fr)) rfl ?_
    rw [n72]
    refine gp_n 3 (j' := 6) (lv' := [some (.ref 70), some (.int (nI r)), some (.int (nI (72 * r))), none]) (st' := [.ref 70, .ref 70]) (h' := (shT, fi, fl, fr)) rfl ?_
    refine gp_of (fun _ k9 => g_getR (q' := 91) rfl rfl (by decide) r_70_50 k9) ?_
    refine gp_n 1 (j' := 8) (lv' := [some (.ref 70), some (.int (nI r)), some (.int (nI (72 * r))), none]) (st' := [.int (nI (72 * r)), .ref 91, .ref 70]) (h' := (shT, fi, fl, fr)) rfl ?_
    refine gp_of (fun _ k9 => g_iald (k := 72 * r + 0) (x := fi 91 (72 * r + 0)) rfl rfl (rfl) (by omega) (by decide) (rfl) k9) ?_
    refine gp_of (fun _ k9 => g_putI rfl (Or.inl rfl) rfl (by decide) k9) ?_
    refine gp_n 2 (j' := 12) (lv' := [some (.ref 70), some (.int (nI r)), some (.int (nI (72 * r))), none]) (st' := [.ref 70, .ref 70]) (h' := (shT, pm_u2 fi 70 14 (fi 91 (72 * r + 0)), fl, fr)) rfl ?_
    refine gp_of (fun _ k9 => g_getR (q' := 91) rfl rfl (by decide) r_70_50 k9) ?_
    refine gp_n 3 (j' := 16) (lv' := [some (.ref 70), some (.int (nI r)), some (.int (nI (72 * r))), none]) (st' := [.int ((nI (72 * r)) + 1), .ref 91, .ref 70]) (h' := (shT, pm_u2 fi 70 14 (fi 91 (72 * r + 0)), fl, fr)) rfl ?_
    refine gp_of (fun _ k9 => g_iald (k := 72 * r + 1) (x := fi 91 (72 * r + 1)) rfl rfl (nadd (72 * r) 1) (by omega) (by decide) (rfl) k9) ?_
    refine gp_of (fun _ k9 => g_putI rfl (Or.inl rfl) rfl (by decide) k9) ?_
    refine gp_n 2 (j' := 20) (lv' := [some (.ref 70), some (.int (nI r)), some (.int (nI (72 * r))), none]) (st' := [.ref 70, .ref 70]) (h' := (shT, pm_u2 (pm_u2 fi 70 14 (fi 91 (72 * r + 0))) 70 15 (fi 91 (72 * r + 1)), fl, fr)) rfl ?_
    refine gp_of (fun _ k9 => g_getR (q' := 91) rfl rfl (by decide) r_70_50 k9) ?_
    refine gp_n 3 (j' := 24) (lv' := [some (.ref 70), some (.int (nI r)), some (.int (nI (72 * r))), none]) (st' := [.int ((nI (72 * r)) + 2), .ref 91, .ref 70]) (h' := (shT, pm_u2 (pm_u2 fi 70 14 (fi 91 (72 * r + 0))) 70 15 (fi 91 (72 * r + 1)), fl, fr)) rfl ?_
    refine gp_of (fun _ k9 => g_iald (k := 72 * r + 2) (x := fi 91 (72 * r + 2)) rfl rfl (nadd (72 * r) 2) (by omega) (by decide) (rfl) k9) ?_
    refine gp_of (fun _ k9 => g_putI rfl (Or.inl rfl) rfl (by decide) k9) ?_
    refine gp_n 2 (j' := 28) (lv' := [some (.ref 70), some (.int (nI r)), some (.int (nI (72 * r))), none]) (st' := [.ref 70, .ref 70]) (h' := (shT, pm_u2 (pm_u2 (pm_u2 fi 70 14 (fi 91 (72 * r + 0))) 70 15 (fi 91 (72 * r + 1))) 70 16 (fi 91 (72 * r + 2)), fl, fr)) rfl ?_
    refine gp_of (fun _ k9 => g_getR (q' := 91) rfl rfl (by decide) r_70_50 k9) ?_
    refine gp_n 3 (j' := 32) (lv' := [some (.ref 70), some (.int (nI r)), some (.int (nI (72 * r))), none]) (st' := [.int ((nI (72 * r)) + 3), .ref 91, .ref 70]) (h' := (shT, pm_u2 (pm_u2 (pm_u2 fi 70 14 (fi 91 (72 * r + 0))) 70 15 (fi 91 (72 * r + 1))) 70 16 (fi 91 (72 * r + 2)), fl, fr)) rfl ?_
    refine gp_of (fun _ k9 => g_iald (k := 72 * r + 3) (x := fi 91 (72 * r + 3)) rfl rfl (nadd (72 * r) 3) (by omega) (by decide) (rfl) k9) ?_
    refine gp_of (fun _ k9 => g_putI rfl (Or.inl rfl) rfl (by decide) k9) ?_
    refine gp_n 2 (j' := 36) (lv' := [some (.ref 70), some (.int (nI r)), some (.int (nI (72 * r))), none]) (st' := [.ref 70, .ref 70]) (h' := (shT, pm_u2 (pm_u2 (pm_u2 (pm_u2 fi 70 14 (fi 91 (72 * r + 0))) 70 15 (fi 91 (72 * r + 1))) 70 16 (fi 91 (72 * r + 2))) 70 17 (fi 91 (72 * r + 3)), fl, fr)) rfl ?_
    refine gp_of (fun _ k9 => g_getR (q' := 91) rfl rfl (by decide) r_70_50 k9) ?_
    refine gp_n 3 (j' := 40) (lv' := [some (.ref 70), some (.int (nI r)), some (.int (nI (72 * r))), none]) (st' := [.int ((nI (72 * r)) + 4), .ref 91, .ref 70]) (h' := (shT, pm_u2 (pm_u2 (pm_u2 (pm_u2 fi 70 14 (fi 91 (72 * r + 0))) 70 15 (fi 91 (72 * r + 1))) 70 16 (fi 91 (72 * r + 2))) 70 17 (fi 91 (72 * r + 3)), fl, fr)) rfl ?_
    refine gp_of (fun _ k9 => g_iald (k := 72 * r + 4) (x := fi 91 (72 * r + 4)) rfl rfl (nadd (72 * r) 4) (by omega) (by decide) (rfl) k9) ?_
    refine gp_of (fun _ k9 => g_putI rfl (Or.inl rfl) rfl (by decide) k9) ?_
    refine gp_n 2 (j' := 44) (lv' := [some (.ref 70), some (.int (nI r)), some (.int (nI (72 * r))), none]) (st' := [.ref 70, .ref 70]) (h' := (shT, pm_u2 (pm_u2 (pm_u2 (pm_u2 (pm_u2 fi 70 14 (fi 91 (72 * r + 0))) 70 15 (fi 91 (72 * r + 1))) 70 16 (fi 91 (72 * r + 2))) 70 17 (fi 91 (72 * r + 3))) 70 18 (fi 91 (72 * r + 4)), fl, fr)) rfl ?_
    refine gp_of (fun _ k9 => g_getR (q' := 91) rfl rfl (by decide) r_70_50 k9) ?_
    refine gp_n 3 (j' := 48) (lv' := [some (.ref 70), some (.int (nI r)), some (.int (nI (72 * r))), none]) (st' := [.int ((nI (72 * r)) + 5), .ref 91, .ref 70]) (h' := (shT, pm_u2 (pm_u2 (pm_u2 (pm_u2 (pm_u2 fi 70 14 (fi 91 (72 * r + 0))) 70 15 (fi 91 (72 * r + 1))) 70 16 (fi 91 (72 * r + 2))) 70 17 (fi 91 (72 * r + 3))) 70 18 (fi 91 (72 * r + 4)), fl, fr)) rfl ?_
    refine gp_of (fun _ k9 => g_iald (k := 72 * r + 5) (x := fi 91 (72 * r + 5)) rfl rfl (nadd (72 * r) 5) (by omega) (by decide) (rfl) k9) ?_
    refine gp_of (fun _ k9 => g_putI rfl (Or.inl rfl) rfl (by decide) k9) ?_
    refine gp_n 2 (j' := 52) (lv' := [some (.ref 70), some (.int (nI r)), some (.int (nI (72 * r))), none]) (st' := [.ref 70, .ref 70]) (h' := (shT, pm_u2 (pm_u2 (pm_u2 (pm_u2 (pm_u2 (pm_u2 fi 70 14 (fi 91 (72 * r + 0))) 70 15 (fi 91 (72 * r + 1))) 70 16 (fi 91 (72 * r + 2))) 70 17 (fi 91 (72 * r + 3))) 70 18 (fi 91 (72 * r + 4))) 70 19 (fi 91 (72 * r + 5)), fl, fr)) rfl ?_
    refine gp_of (fun _ k9 => g_getR (q' := 91) rfl rfl (by decide) r_70_50 k9) ?_
    refine gp_n 3 (j' := 56) (lv' := [some (.ref 70), some (.int (nI r)), some (.int (nI (72 * r))), none]) (st' := [.int ((nI (72 * r)) + 6), .ref 91, .ref 70]) (h' := (shT, pm_u2 (pm_u2 (pm_u2 (pm_u2 (pm_u2 (pm_u2 fi 70 14 (fi 91 (72 * r + 0))) 70 15 (fi 91 (72 * r + 1))) 70 16 (fi 91 (72 * r + 2))) 70 17 (fi 91 (72 * r + 3))) 70 18 (fi 91 (72 * r + 4))) 70 19 (fi 91 (72 * r + 5)), fl, fr)) rfl ?_
    refine gp_of (fun _ k9 => g_iald (k := 72 * r + 6) (x := fi 91 (72 * r + 6)) rfl rfl (nadd (72 * r) 6) (by omega) (by decide) (rfl) k9) ?_
    refine gp_of (fun _ k9 => g_putI rfl (Or.inl rfl) rfl (by decide) k9) ?_
    refine gp_n 2 (j' := 60) (lv' := [some (.ref 70), some (.int (nI r)), some (.int (nI (72 * r))), some (.int (nI 0))]) (st' := []) (h' := (shT, pm_u2 (pm_u2 (pm_u2 (pm_u2 (pm_u2 (pm_u2 (pm_u2 fi 70 14 (fi 91 (72 * r + 0))) 70 15 (fi 91 (72 * r + 1))) 70 16 (fi 91 (72 * r + 2))) 70 17 (fi 91 (72 * r + 3))) 70 18 (fi 91 (72 * r + 4))) 70 19 (fi 91 (72 * r + 5))) 70 20 (fi 91 (72 * r + 6)), fl, fr)) rfl ?_
    exact gp_done lp rfl
  obtain ⟨z, g, hz⟩ := main
  subst hz
  refine ⟨_, Ev.of (es := cd_229) (ml := 4) (lv := [some (.ref 70), some (.int (nI r)), none, none]) rfl rfl rfl g, rfl, fun L v hc => ⟨fun j hj => ?_, fun hL => ⟨?_, fun s hs => ?_⟩⟩, fun p s hp hp2 => ?_, fun p s hp => u2_ne hp, fun p s => rfl⟩
  · rw [phi_mk, fu_ne (by decide)]
    have hj7 : j = 0 ∨ j = 1 ∨ j = 2 ∨ j = 3 ∨ j = 4 ∨ j = 5 ∨ j = 6 := by omega
    rcases hj7 with rfl | rfl | rfl | rfl | rfl | rfl | rfl
    all_goals (refine Eq.trans ?_ (hc.1 _ (by omega)); simp [ph_i, pm_u2])
  · show pm_u2 fl 70 21 (fl 92 r) 70 21 = v.2.1
    rw [u2_eq]
    exact (hc.2 hL).1
  · rw [phi_mk, fu_in (by omega) (by omega)]
    show fi 91 (72 * r + 8 + 0 + (s - 0)) = v.2.2 s
    rw [show 72 * r + 8 + 0 + (s - 0) = 72 * r + 8 + s by omega]
    exact (hc.2 hL).2 s hs
  · rw [phi_mk, phi_mk, fu_ne hp2]
    rw [u2_ne (by omega), u2_ne (by omega), u2_ne (by omega), u2_ne (by omega), u2_ne (by omega), u2_ne (by omega), u2_ne (by omega)]
theorem ka_loop1 {r : Option Value × PmH} : ∀ (n b : Nat) (fi : Nat → Nat → Int32) (fl : Nat → Nat → Int64) (fr : Nat → Nat → Option Nat), b + n = 864 → 72 ≤ b → fr 70 50 = some 91 → Go pmT none cd_162 21 [some (.ref 70), some (.int (nI 864))] [] (shT, fu fi 91 (b - 72) n (fun i => fi 91 (b + i)), fl, fr) r → Go pmT none cd_162 6 [some (.ref 70), some (.int (nI b))] [] (shT, fi, fl, fr) r := by
  intro n
  induction n with
  | zero =>
    intro b fi fl fr hb h72 r_70_50 k
    have hb : b = 864 := by omega
    subst hb
    rw [fu_0] at k
    refine go_of ?_
    refine gp_n 2 (j' := 8) (lv' := [some (.ref 70), some (.int (nI 864))]) (st' := [.int 864, .int (nI 864)]) (h' := (shT, fi, fl, fr)) rfl ?_
    refine gp_of (fun _ k9 => g_ict rfl (show (864 : Int32) ≤ (nI 864) from by decide) k9) ?_
    exact gp_done k rfl
  | succ n ih =>
    intro b fi fl fr hb h72 r_70_50 k
    have e1 : fu (pm_u2 fi 91 (b - 72) (fi 91 b)) 91 (b + 1 - 72) n (fun i => pm_u2 fi 91 (b - 72) (fi 91 b) 91 (b + 1 + i)) = fu fi 91 (b - 72) (n + 1) (fun i => fi 91 (b + i)) := by
      rw [show b + 1 - 72 = b - 72 + 1 by omega]
      exact fu_s (f := fi) (p := 91) (lo := b - 72) (n := n) (g := fun i => fi 91 (b + i)) (fun i => by
        show pm_u2 fi 91 (b - 72) (fi 91 b) 91 (b + 1 + i) = fi 91 (b + (i + 1))
        rw [u2_ne (by omega), show b + 1 + i = b + (i + 1) by omega])
    have g := ih (b + 1) (pm_u2 fi 91 (b - 72) (fi 91 b)) fl fr (by omega) (by omega) r_70_50 (by rw [e1]; exact k)
    refine go_of ?_
    refine gp_n 2 (j' := 8) (lv' := [some (.ref 70), some (.int (nI b))]) (st' := [.int 864, .int (nI b)]) (h' := (shT, fi, fl, fr)) rfl ?_
    refine gp_of (fun _ k9 => g_icf rfl (show ¬ ((864 : Int32) ≤ (nI b)) from nI_ge (b := 864) (by omega) (by decide)) k9) ?_
    refine gp_n 1 (j' := 10) (lv' := [some (.ref 70), some (.int (nI b))]) (st' := [.ref 70]) (h' := (shT, fi, fl, fr)) rfl ?_
    refine gp_of (fun _ k9 => g_getR (q' := 91) rfl rfl (by decide) r_70_50 k9) ?_
    refine gp_n 4 (j' := 15) (lv' := [some (.ref 70), some (.int (nI b))]) (st' := [.ref 70, .int ((nI b) - 72), .ref 91]) (h' := (shT, fi, fl, fr)) rfl ?_
    refine gp_of (fun _ k9 => g_getR (q' := 91) rfl rfl (by decide) r_70_50 k9) ?_
    refine gp_n 1 (j' := 17) (lv' := [some (.ref 70), some (.int (nI b))]) (st' := [.int (nI b), .ref 91, .int ((nI b) - 72), .ref 91]) (h' := (shT, fi, fl, fr)) rfl ?_
    refine gp_of (fun _ k9 => g_iald (k := b) (x := fi 91 b) rfl rfl (rfl) (by omega) (by decide) (rfl) k9) ?_
    refine gp_of (fun _ k9 => g_iast (k := b - 72) rfl rfl ((show nI b - nI 72 = _ from pk_sub h72)) (by omega) (by decide) k9) ?_
    refine gp_n 2 (j' := 6) (lv' := [some (.ref 70), some (.int ((nI b) + 1))]) (st' := []) (h' := (shT, pm_u2 fi 91 (b - 72) (fi 91 b), fl, fr)) rfl ?_
    rw [nI_1]
    exact gp_done g rfl
theorem ka_loop2 {r : Option Value × PmH} : ∀ (n b : Nat) (fi : Nat → Nat → Int32) (fl : Nat → Nat → Int64) (fr : Nat → Nat → Option Nat), b + n = 12 → 1 ≤ b → fr 70 51 = some 92 → Go pmT none cd_162 38 [some (.ref 70), some (.int (nI 12))] [] (shT, fi, fu fl 92 (b - 1) n (fun i => fl 92 (b + i)), fr) r → Go pmT none cd_162 23 [some (.ref 70), some (.int (nI b))] [] (shT, fi, fl, fr) r := by
  intro n
  induction n with
  | zero =>
    intro b fi fl fr hb h72 r_70_51 k
    have hb : b = 12 := by omega
    subst hb
    rw [fu_0] at k
    refine go_of ?_
    refine gp_n 2 (j' := 25) (lv' := [some (.ref 70), some (.int (nI 12))]) (st' := [.int 12, .int (nI 12)]) (h' := (shT, fi, fl, fr)) rfl ?_
    refine gp_of (fun _ k9 => g_ict rfl (show (12 : Int32) ≤ (nI 12) from by decide) k9) ?_
    exact gp_done k rfl
  | succ n ih =>
    intro b fi fl fr hb h72 r_70_51 k
    have e1 : fu (pm_u2 fl 92 (b - 1) (fl 92 b)) 92 (b + 1 - 1) n (fun i => pm_u2 fl 92 (b - 1) (fl 92 b) 92 (b + 1 + i)) = fu fl 92 (b - 1) (n + 1) (fun i => fl 92 (b + i)) := by
      rw [show b + 1 - 1 = b - 1 + 1 by omega]
      exact fu_s (f := fl) (p := 92) (lo := b - 1) (n := n) (g := fun i => fl 92 (b + i)) (fun i => by
        show pm_u2 fl 92 (b - 1) (fl 92 b) 92 (b + 1 + i) = fl 92 (b + (i + 1))
        rw [u2_ne (by omega), show b + 1 + i = b + (i + 1) by omega])
    have g := ih (b + 1) fi (pm_u2 fl 92 (b - 1) (fl 92 b)) fr (by omega) (by omega) r_70_51 (by rw [e1]; exact k)
    refine go_of ?_
    refine gp_n 2 (j' := 25) (lv' := [some (.ref 70), some (.int (nI b))]) (st' := [.int 12, .int (nI b)]) (h' := (shT, fi, fl, fr)) rfl ?_
    refine gp_of (fun _ k9 => g_icf rfl (show ¬ ((12 : Int32) ≤ (nI b)) from nI_ge (b := 12) (by omega) (by decide)) k9) ?_
    refine gp_n 1 (j' := 27) (lv' := [some (.ref 70), some (.int (nI b))]) (st' := [.ref 70]) (h' := (shT, fi, fl, fr)) rfl ?_
    refine gp_of (fun _ k9 => g_getR (q' := 92) rfl rfl (by decide) r_70_51 k9) ?_
    refine gp_n 4 (j' := 32) (lv' := [some (.ref 70), some (.int (nI b))]) (st' := [.ref 70, .int ((nI b) - 1), .ref 92]) (h' := (shT, fi, fl, fr)) rfl ?_
    refine gp_of (fun _ k9 => g_getR (q' := 92) rfl rfl (by decide) r_70_51 k9) ?_
    refine gp_n 1 (j' := 34) (lv' := [some (.ref 70), some (.int (nI b))]) (st' := [.int (nI b), .ref 92, .int ((nI b) - 1), .ref 92]) (h' := (shT, fi, fl, fr)) rfl ?_
    refine gp_of (fun _ k9 => g_lald (k := b) (x := fl 92 b) rfl rfl (rfl) (by omega) (by decide) (rfl) k9) ?_
    refine gp_of (fun _ k9 => g_last (k := b - 1) rfl rfl ((show nI b - nI 1 = _ from pk_sub h72)) (by omega) (by decide) k9) ?_
    refine gp_n 2 (j' := 23) (lv' := [some (.ref 70), some (.int ((nI b) + 1))]) (st' := []) (h' := (shT, fi, pm_u2 fl 92 (b - 1) (fl 92 b), fr)) rfl ?_
    rw [nI_1]
    exact gp_done g rfl
/-- the model's keepsAct -/
theorem ka_ev {L : Bool} {h : PmH} {a : AB} (hI : HI hdT shT h) (hR : QM L h a) (hq : a_q a ≤ 12) : ∃ h', Ev pmT 162 [.ref 70] h none h' ∧ QM L h' (a_push a) ∧ HI hdT shT h' ∧ fram (in_w iM_keepsAct) h h' := by
  obtain ⟨a1, b, c, d, f, g, q, i⟩ := hR
  have k50 : ph_r h 70 50 = some 91 := hi_r hI rfl rfl (by decide)
  have k51 : ph_r h 70 51 = some 92 := hi_r hI rfl rfl (by decide)
  have fin : ∀ h', Ev pmT 162 [.ref 70] h none h' → QM L h' (a_push a) → ∃ h', Ev pmT 162 [.ref 70] h none h' ∧ QM L h' (a_push a) ∧ HI hdT shT h' ∧ fram (in_w iM_keepsAct) h h' := fun h' ev hr => by
    obtain ⟨J1, J2⟩ := iv_s vM_keepsAct (as := [.ref 70]) rfl (fun _ _ => gz_c (gz_r (by decide)) gz_n) hI ev
    exact ⟨h', ev, hr, J1, J2⟩
  -- from the call of keeps on
  have tail : ∀ (h2 : PmH) (r : Nat) (l : Option Value), HI hdT shT h2 → r ≤ 11 → ph_i h2 70 53 = nI r → ∃ h3, (∀ z, Go pmT none cd_162 44 [some (.ref 70), l] [] h2 z ↔ z = (none, (ph_s h3, pm_u2 (ph_i h3) 70 53 (nI (r + 1)), ph_l h3, ph_r h3))) ∧ ph_s h3 = shT ∧ (∀ L v, csM L h2 v → csH L h3 r v) ∧ (∀ p s, ¬ (p = 91 ∧ 72 * r ≤ s ∧ s < 72 * r + 72) → ph_i h3 p s = ph_i h2 p s) ∧ (∀ p s, ¬ (p = 92 ∧ s = r) → ph_l h3 p s = ph_l h2 p s) ∧ ∀ p s, ph_r h3 p s = ph_r h2 p s := by
    intro h2 r l I2 hr e53
    obtain ⟨h3, ev3, s3, c1, c2, c3, c4⟩ := kp_ev I2 (r := r) (by omega)
    have e53' : ph_i h3 70 53 = nI r := (c2 70 53 (by omega)).trans e53
    refine ⟨h3, fun z => ?_, s3, c1, c2, c3, c4⟩
    have g : Go pmT none cd_162 44 [some (.ref 70), l] [] h2 (none, (ph_s h3, pm_u2 (ph_i h3) 70 53 (nI (r + 1)), ph_l h3, ph_r h3)) := by
      obtain ⟨S2, fi2, fl2, fr2⟩ := h2
      have s2 : S2 = shT := I2.1
      subst s2
      obtain ⟨S3, fi3, fl3, fr3⟩ := h3
      have s3 : S3 = shT := s3
      subst s3
      have e53 : fi2 70 53 = nI r := e53
      have e53' : fi3 70 53 = nI r := e53'
      refine go_of ?_
      refine gp_n 2 (j' := 46) (lv' := [some (.ref 70), l]) (st' := [.ref 70, .ref 70]) (h' := (shT, fi2, fl2, fr2)) rfl ?_
      refine gp_of (fun _ k9 => g_getI (x := nI r) rfl (Or.inl rfl) rfl (by decide) (e53) k9) ?_
      refine gp_of (fun _ k9 => g_callv (y := 163) (as := [.ref 70, .int (nI r)]) (st' := []) rfl rfl (ev3) k9) ?_
      refine gp_n 2 (j' := 50) (lv' := [some (.ref 70), l]) (st' := [.ref 70, .ref 70]) (h' := (shT, fi3, fl3, fr3)) rfl ?_
      refine gp_of (fun _ k9 => g_getI (x := nI r) rfl (Or.inl rfl) rfl (by decide) (e53') k9) ?_
      refine gp_n 2 (j' := 53) (lv' := [some (.ref 70), l]) (st' := [.int ((nI r) + 1), .ref 70]) (h' := (shT, fi3, fl3, fr3)) rfl ?_
      rw [nI_1]
      refine gp_of (fun _ k9 => g_putI rfl (Or.inl rfl) rfl (by decide) k9) ?_
      refine gp_done (g_vret rfl) ?_
      rfl
    exact ⟨fun gz => go_det gz g, fun hz => hz ▸ g⟩
  by_cases h12 : a_q a = 12
  · -- full: all go one down
    rw [h12] at g
    obtain ⟨S, fi, fl, fr⟩ := h
    have hS : S = shT := hI.1
    subst hS
    have r_70_50 : fr 70 50 = some 91 := k50
    have r_70_51 : fr 70 51 = some 92 := k51
    have g : fi 70 53 = nI 12 := g
    have fm : fu fi 91 (72 - 72) 792 (fun i => fi 91 (72 + i)) 70 53 = nI 12 := (fu_ne (by decide)).trans g
    generalize hfi : fu fi 91 (72 - 72) 792 (fun i => fi 91 (72 + i)) = f2 at *
    generalize hfl : fu fl 92 (1 - 1) 11 (fun i => fl 92 (1 + i)) = l2 at *
    have I2 : HI hdT shT (shT, pm_u2 f2 70 53 (nI 11), l2, fr) := by
      refine ⟨rfl, fun p s t n hs hn => ?_⟩
      have hd := hI.2 p s t n hs hn
      by_cases hp : p = 70 ∧ s = 53
      · obtain ⟨rfl, rfl⟩ := hp
        show (0 : Int) ≤ (pm_u2 f2 70 53 (nI 11) 70 53).toInt ∧ (pm_u2 f2 70 53 (nI 11) 70 53).toInt ≤ 12
        rw [u2_eq]
        decide
      · have e1 : ph_i (shT, pm_u2 f2 70 53 (nI 11), l2, fr) p s = if p = 91 ∧ s < 792 then fi 91 (s + 72) else fi p s := by
          refine (u2_ne hp).trans ?_
          rw [← hfi]
          by_cases h9 : p = 91
          · subst h9
            by_cases hs9 : s < 792
            · rw [if_pos ⟨rfl, hs9⟩, fu_in (by omega) (by omega), show 72 + (s - (72 - 72)) = s + 72 by omega]
            · rw [if_neg (by omega), fu_out (by omega)]
          · rw [if_neg (fun z => h9 z.1), fu_ne h9]
        by_cases h9 : p = 91 ∧ s < 792
        · obtain ⟨rfl, h9⟩ := h9
          rw [if_pos ⟨rfl, h9⟩] at e1
          have hd2 := hI.2 91 (s + 72) t n hs (by cases hs; omega)
          have hrow : hd_at hdT shT 91 (s + 72) = hd_at hdT shT 91 s := by
            show (hdT.getD 91 []).getD ((s + 72) % (hdT.getD 91 []).length) (9, 0, 0, []) = (hdT.getD 91 []).getD (s % (hdT.getD 91 []).length) (9, 0, 0, [])
            rw [show (hdT.getD 91 []).length = 72 from rfl, Nat.add_mod_right]
          rw [hrow] at hd2
          unfold hd_ok at hd2 ⊢
          rw [e1]
          have hn2 : ¬ (hd_at hdT shT 91 s).1 = 2 := by
            have hm : s % 72 < 72 := Nat.mod_lt _ (by decide)
            have he : hd_at hdT shT 91 s = (hdT.getD 91 []).getD (s % 72) (9, 0, 0, []) := rfl
            rw [he]
            have : ∀ k, k < 72 → ¬ ((hdT.getD 91 []).getD k (9, 0, 0, [])).1 = 2 := by decide +kernel
            exact this _ hm
          split at hd2
          · exact hd2
          · rename_i z
            exact absurd z hn2
          · trivial
        · rw [if_neg h9] at e1
          unfold hd_ok at hd ⊢
          rw [e1]
          exact hd
    obtain ⟨h3, t1, t2, t3, t4, t5, t6⟩ := tail (shT, pm_u2 f2 70 53 (nI 11), l2, fr) 11 (some (.int (nI 12))) I2 (by omega) u2_i
    have gt := (t1 _).mpr rfl
    have ev : Ev pmT 162 [.ref 70] (shT, fi, fl, fr) none (ph_s h3, pm_u2 (ph_i h3) 70 53 (nI (11 + 1)), ph_l h3, ph_r h3) := by
      refine Ev.of (es := cd_162) (ml := 2) (lv := [some (.ref 70), none]) rfl rfl rfl ?_
      have m38 : Go pmT none cd_162 38 [some (.ref 70), some (.int (nI 12))] [] (shT, f2, l2, fr) (none, (ph_s h3, pm_u2 (ph_i h3) 70 53 (nI (11 + 1)), ph_l h3, ph_r h3)) := by
        refine go_of ?_
        refine gp_n 2 (j' := 40) (lv' := [some (.ref 70), some (.int (nI 12))]) (st' := [.ref 70, .ref 70]) (h' := (shT, f2, l2, fr)) rfl ?_
        refine gp_of (fun _ k9 => g_getI (x := nI 12) rfl (Or.inl rfl) rfl (by decide) (fm) k9) ?_
        refine gp_n 2 (j' := 43) (lv' := [some (.ref 70), some (.int (nI 12))]) (st' := [.int ((nI 12) - 1), .ref 70]) (h' := (shT, f2, l2, fr)) rfl ?_
        rw [show nI 12 - 1 = nI 11 from rfl]
        refine gp_of (fun _ k9 => g_putI rfl (Or.inl rfl) rfl (by decide) k9) ?_
        exact gp_done gt rfl
      have m21 : Go pmT none cd_162 21 [some (.ref 70), some (.int (nI 864))] [] (shT, f2, fl, fr) (none, (ph_s h3, pm_u2 (ph_i h3) 70 53 (nI (11 + 1)), ph_l h3, ph_r h3)) := by
        have := ka_loop2 (r := (none, (ph_s h3, pm_u2 (ph_i h3) 70 53 (nI (11 + 1)), ph_l h3, ph_r h3))) 11 1 f2 fl fr (by omega) (by omega) r_70_51 (by rw [hfl]; exact m38)
        refine go_of ?_
        refine gp_n 2 (j' := 23) (lv' := [some (.ref 70), some (.int (nI 1))]) (st' := []) (h' := (shT, f2, fl, fr)) rfl ?_
        exact gp_done this rfl
      have m6 := ka_loop1 (r := (none, (ph_s h3, pm_u2 (ph_i h3) 70 53 (nI (11 + 1)), ph_l h3, ph_r h3))) 792 72 fi fl fr (by omega) (by omega) r_70_50 (by rw [hfi]; exact m21)
      refine go_of ?_
      refine gp_n 1 (j' := 1) (lv' := [some (.ref 70), none]) (st' := [.ref 70]) (h' := (shT, fi, fl, fr)) rfl ?_
      refine gp_of (fun _ k9 => g_getI (x := nI 12) rfl (Or.inl rfl) rfl (by decide) (g) k9) ?_
      refine gp_n 1 (j' := 3) (lv' := [some (.ref 70), none]) (st' := [.int 12, .int (nI 12)]) (h' := (shT, fi, fl, fr)) rfl ?_
      refine gp_of (fun _ k9 => g_icf rfl (show ¬ (¬ (nI 12) = (12 : Int32)) from fun z => z rfl) k9) ?_
      refine gp_n 2 (j' := 6) (lv' := [some (.ref 70), some (.int (nI 72))]) (st' := []) (h' := (shT, fi, fl, fr)) rfl ?_
      exact gp_done m6 rfl
    refine fin _ ev ?_
    have ne : ∀ p s, ¬ (p = 70 ∧ s = 53) → ph_i (ph_s h3, pm_u2 (ph_i h3) 70 53 (nI (11 + 1)), ph_l h3, ph_r h3) p s = ph_i h3 p s := fun p s hp => u2_ne hp
    have old : ∀ p s, ¬ (p = 70 ∧ s = 53) → ¬ p = 91 → ph_i h3 p s = fi p s := fun p s hp h9 => (t4 p s (by omega)).trans ((u2_ne hp).trans (by rw [← hfi]; exact fu_ne h9))
    have oldl : ∀ p s, ¬ p = 92 → ph_l h3 p s = fl p s := fun p s h9 => (t5 p s (by omega)).trans (show l2 p s = fl p s by rw [← hfl]; exact fu_ne h9)
    have rows : ∀ r v, r < 11 → csH L (shT, fi, fl, fr) (r + 1) v → csH L (ph_s h3, pm_u2 (ph_i h3) 70 53 (nI (11 + 1)), ph_l h3, ph_r h3) r v := fun r v hr hc => by
      have e9 : ∀ s, s < 792 → ph_i (ph_s h3, pm_u2 (ph_i h3) 70 53 (nI (11 + 1)), ph_l h3, ph_r h3) 91 s = fi 91 (s + 72) := fun s hs => by
        rw [ne 91 s (by omega), t4 91 s (by omega), u2_n (by omega), ← hfi, fu_in (by omega) (by omega), show 72 + (s - (72 - 72)) = s + 72 by omega]
      refine ⟨fun j hj => ?_, fun hL => ⟨?_, fun s hs => ?_⟩⟩
      · rw [e9 _ (by omega), show 72 * r + j + 72 = 72 * (r + 1) + j by omega]
        exact hc.1 j hj
      · refine ((t5 92 r (by omega)).trans ?_).trans (hc.2 hL).1
        show l2 92 r = fl 92 (r + 1)
        rw [← hfl, fu_in (by omega) (by omega), show 1 + (r - (1 - 1)) = r + 1 by omega]
      · rw [e9 _ (by omega), show 72 * r + 8 + s + 72 = 72 * (r + 1) + 8 + s by omega]
        exact (hc.2 hL).2 s hs
    have cm : csM L (shT, pm_u2 f2 70 53 (nI 11), l2, fr) (a_v a) := csM_fr f (fun j hj => by rw [u2_n (by omega), ← hfi, fu_ne (by decide)]) (by rw [phl_mk, phl_mk, ← hfl, fu_ne (by decide)]) (fun s _ => by rw [u2_n (by omega), ← hfi, fu_ne (by decide)])
    have q12 : min 12 (a_q a + 1) = 12 := by omega
    refine ⟨fun j hj => (ne _ _ (by omega)).trans ((old _ _ (by omega) (by omega)).trans (a1 j hj)), (ne _ _ (by omega)).trans ((old _ _ (by omega) (by omega)).trans b), fun s => (ne _ _ (by omega)).trans ((old _ _ (by omega) (by omega)).trans (c s)), fun hL => (ne _ _ (by omega)).trans ((old _ _ (by omega) (by omega)).trans (d hL)), csM_fr f (fun j hj => (ne _ _ (by omega)).trans (old _ _ (by omega) (by omega))) (oldl _ _ (by omega)) (fun s _ => (ne _ _ (by omega)).trans (old _ _ (by omega) (by omega))), ?_, fun k hk => ?_, fun k hk => ?_⟩
    · show pm_u2 (ph_i h3) 70 53 (nI (11 + 1)) 70 53 = nI (min 12 (a_q a + 1))
      rw [u2_eq, q12]
    · have hk : k < min 12 (a_q a + 1) := hk
      show csH L _ (min 12 (a_q a + 1) - 1 - k) _
      rw [q12] at hk ⊢
      cases k with
      | zero => exact csH_fr (t3 L _ cm) (fun j _ => ne _ _ (by omega)) rfl (fun s _ => ne _ _ (by omega))
      | succ k =>
        refine rows _ _ (by omega) ?_
        have := q k (by omega)
        rw [h12, show 12 - 1 - k = 12 - 1 - (k + 1) + 1 by omega] at this
        exact this
    · have ik := i k hk
      show match a_m a k with
        | none => _
        | some v => _
      cases hm : a_m a k with
      | none =>
        rw [hm] at ik
        exact (ne _ _ (by omega)).trans ((old _ _ (by omega) (by omega)).trans ik)
      | some v =>
        rw [hm] at ik
        have e9 : ∀ s, 864 ≤ s → ph_i (ph_s h3, pm_u2 (ph_i h3) 70 53 (nI (11 + 1)), ph_l h3, ph_r h3) 91 s = fi 91 s := fun s hs => by
          rw [ne 91 s (by omega), t4 91 s (by omega), u2_n (by omega), ← hfi, fu_out (by omega)]
        refine ⟨(ne _ _ (by omega)).trans ((old _ _ (by omega) (by omega)).trans ik.1), csH_fr ik.2 (fun j _ => e9 _ (by omega)) ?_ (fun s _ => e9 _ (by omega))⟩
        refine (t5 92 (12 + k) (by omega)).trans ?_
        show l2 92 (12 + k) = fl 92 (12 + k)
        rw [← hfl, fu_out (by omega)]
  · obtain ⟨h3, t1, t2, t3, t4, t5, t6⟩ := tail h (a_q a) none hI (by omega) g
    have gt := (t1 _).mpr rfl
    have ev : Ev pmT 162 [.ref 70] h none (ph_s h3, pm_u2 (ph_i h3) 70 53 (nI (a_q a + 1)), ph_l h3, ph_r h3) := by
      refine Ev.of (es := cd_162) (ml := 2) (lv := [some (.ref 70), none]) rfl rfl rfl ?_
      have nq : ¬ nI (a_q a) = 12 := fun z => h12 ((nI_eq (b := 12) (by omega) (by decide)).mp z)
      obtain ⟨S, fi, fl, fr⟩ := h
      have hS : S = shT := hI.1
      subst hS
      have g : fi 70 53 = nI (a_q a) := g
      refine go_of ?_
      refine gp_n 1 (j' := 1) (lv' := [some (.ref 70), none]) (st' := [.ref 70]) (h' := (shT, fi, fl, fr)) rfl ?_
      refine gp_of (fun _ k9 => g_getI (x := nI (a_q a)) rfl (Or.inl rfl) rfl (by decide) (g) k9) ?_
      refine gp_n 1 (j' := 3) (lv' := [some (.ref 70), none]) (st' := [.int 12, .int (nI (a_q a))]) (h' := (shT, fi, fl, fr)) rfl ?_
      refine gp_of (fun _ k9 => g_ict rfl (show ¬ (nI (a_q a)) = (12 : Int32) from nq) k9) ?_
      exact gp_done gt rfl
    refine fin _ ev ?_
    have ne : ∀ p s, ¬ (p = 70 ∧ s = 53) → ph_i (ph_s h3, pm_u2 (ph_i h3) 70 53 (nI (a_q a + 1)), ph_l h3, ph_r h3) p s = ph_i h3 p s := fun p s hp => u2_ne hp
    have old : ∀ p s, ¬ (p = 70 ∧ s = 53) → ¬ p = 91 → ph_i (ph_s h3, pm_u2 (ph_i h3) 70 53 (nI (a_q a + 1)), ph_l h3, ph_r h3) p s = ph_i h p s := fun p s hp h9 => (ne p s hp).trans (t4 p s (by omega))
    have q12 : min 12 (a_q a + 1) = a_q a + 1 := by omega
    have rw9 : ∀ r v, ¬ r = a_q a → csH L h r v → csH L (ph_s h3, pm_u2 (ph_i h3) 70 53 (nI (a_q a + 1)), ph_l h3, ph_r h3) r v := fun r v hr hc => csH_fr hc (fun j hj => (ne _ _ (by omega)).trans (t4 _ _ (by omega))) (t5 _ _ (by omega)) (fun s hs => (ne _ _ (by omega)).trans (t4 _ _ (by omega)))
    refine ⟨fun j hj => (old _ _ (by omega) (by omega)).trans (a1 j hj), (old _ _ (by omega) (by omega)).trans b, fun s => (old _ _ (by omega) (by omega)).trans (c s), fun hL => (old _ _ (by omega) (by omega)).trans (d hL), csM_fr f (fun j hj => old _ _ (by omega) (by omega)) (t5 _ _ (by omega)) (fun s _ => old _ _ (by omega) (by omega)), ?_, fun k hk => ?_, fun k hk => ?_⟩
    · show pm_u2 (ph_i h3) 70 53 (nI (a_q a + 1)) 70 53 = nI (min 12 (a_q a + 1))
      rw [u2_eq, q12]
    · have hk : k < min 12 (a_q a + 1) := hk
      show csH L _ (min 12 (a_q a + 1) - 1 - k) _
      rw [q12] at hk ⊢
      cases k with
      | zero => exact csH_fr (t3 L _ f) (fun j _ => ne _ _ (by omega)) rfl (fun s _ => ne _ _ (by omega))
      | succ k =>
        refine rw9 _ _ (by omega) ?_
        have := q k (by omega)
        rw [show a_q a - 1 - k = a_q a + 1 - 1 - (k + 1) by omega] at this
        exact this
    · have ik := i k hk
      show match a_m a k with
        | none => _
        | some v => _
      cases hm : a_m a k with
      | none =>
        rw [hm] at ik
        exact (old _ _ (by omega) (by omega)).trans ik
      | some v =>
        rw [hm] at ik
        exact ⟨(old _ _ (by omega) (by omega)).trans ik.1, rw9 _ _ (by omega) ik.2⟩
