theorem pv_rg {v : Option Value} {I : Inst} {lo hi : Int} (hp : in_p I = [(some (zi lo hi), [], [])]) (h : ∃ P ∈ in_p I, pv P.1 v) : ∃ x : Int32, v = some (.int x) ∧ lo ≤ x.toInt ∧ x.toInt ≤ hi := by
  obtain ⟨P, h1, h2⟩ := h
  rw [hp, List.mem_singleton] at h1
  subst h1
  obtain ⟨w, e1, e2⟩ := h2
  obtain ⟨x, e3, e4, e5, -⟩ := e2 [] pm_h0
  exact ⟨x, by rw [e1, e3], e4, e5⟩
theorem HI_fu {p lo n : Nat} {g : Nat → Int32} {fi : Nat → Nat → Int32} {fl : Nat → Nat → Int64} {fr : Nat → Nat → Option Nat} (hp : ∀ s, hd_at hdT shT p s = (9, 0, 0, [])) (hI : HI hdT shT (shT, fi, fl, fr)) : HI hdT shT (shT, fu fi p lo n g, fl, fr) := by
  refine ⟨rfl, fun q s t m hs hm => ?_⟩
  have hd := hI.2 q s t m hs hm
  by_cases h74 : q = p
  · subst h74
    rw [hp s]
    trivial
  · unfold hd_ok at hd ⊢
    rw [phi_mk, fu_ne h74]
    exact hd
theorem hd_90 (s : Nat) : hd_at hdT shT 90 s = (9, 0, 0, []) := by
  show (hdT.getD 90 []).getD (s % (hdT.getD 90 []).length) (9, 0, 0, []) = _
  rfl
theorem hd_74 (s : Nat) : hd_at hdT shT 74 s = (9, 0, 0, []) := by
  show (hdT.getD 74 []).getD (s % (hdT.getD 74 []).length) (9, 0, 0, []) = _
  rfl
theorem fm_l1 {n0 x y t X : Int32} {fl : Nat → Nat → Int64} {fr : Nat → Nat → Option Nat} {r : Option Value × PmH} (k49 : fr 70 49 = some 90) (k22 : fr 70 22 = some 74) : ∀ (n b : Nat) (fi : Nat → Nat → Int32), b + n = 64 → Go pmT none cd_227 39 [some (.ref 70), some (.int n0), some (.int x), some (.int y), some (.int t), some (.int X), some (.int (nI 64)), none, none, none, none, none] [] (shT, fu fi 90 b n (fun j => fi 74 (b + j)), fl, fr) r → Go pmT none cd_227 26 [some (.ref 70), some (.int n0), some (.int x), some (.int y), some (.int t), some (.int X), some (.int (nI b)), none, none, none, none, none] [] (shT, fi, fl, fr) r := by
  intro n
  induction n with
  | zero =>
    intro b fi hb k
    have hb : b = 64 := by omega
    subst hb
    rw [fu_0] at k
    refine go_of ?_
    refine gp_n 2 (j' := 28) (lv' := [some (.ref 70), some (.int n0), some (.int x), some (.int y), some (.int t), some (.int X), some (.int (nI 64)), none, none, none, none, none]) (st' := [.int 64, .int (nI 64)]) (h' := (shT, fi, fl, fr)) rfl ?_
    refine gp_of (fun _ k9 => g_ict rfl (show (64 : Int32) ≤ (nI 64) from by decide) k9) ?_
    exact gp_done k rfl
  | succ n ih =>
    intro b fi hb k
    have e1 : fu (pm_u2 fi 90 b (fi 74 (b + 0))) 90 (b + 1) n (fun j => pm_u2 fi 90 b (fi 74 (b + 0)) 74 (b + 1 + j)) = fu fi 90 b (n + 1) (fun j => fi 74 (b + j)) := fu_s (f := fi) (p := 90) (lo := b) (n := n) (g := fun j => fi 74 (b + j)) (fun j => by
      show pm_u2 fi 90 b (fi 74 (b + 0)) 74 (b + 1 + j) = fi 74 (b + (j + 1))
      rw [u2_ne (fun z => absurd z.1 (by decide)), show b + 1 + j = b + (j + 1) by omega])
    have g := ih (b + 1) (pm_u2 fi 90 b (fi 74 (b + 0))) (by omega) (by rw [e1]; exact k)
    rw [Nat.add_zero] at g
    refine go_of ?_
    refine gp_n 2 (j' := 28) (lv' := [some (.ref 70), some (.int n0), some (.int x), some (.int y), some (.int t), some (.int X), some (.int (nI b)), none, none, none, none, none]) (st' := [.int 64, .int (nI b)]) (h' := (shT, fi, fl, fr)) rfl ?_
    refine gp_of (fun _ k9 => g_icf rfl (show ¬ ((64 : Int32) ≤ (nI b)) from nI_ge (b := 64) (by omega) (by decide)) k9) ?_
    refine gp_n 1 (j' := 30) (lv' := [some (.ref 70), some (.int n0), some (.int x), some (.int y), some (.int t), some (.int X), some (.int (nI b)), none, none, none, none, none]) (st' := [.ref 70]) (h' := (shT, fi, fl, fr)) rfl ?_
    refine gp_of (fun _ k9 => g_getR (q' := 90) rfl rfl (by decide) k49 k9) ?_
    refine gp_n 2 (j' := 33) (lv' := [some (.ref 70), some (.int n0), some (.int x), some (.int y), some (.int t), some (.int X), some (.int (nI b)), none, none, none, none, none]) (st' := [.ref 70, .int (nI b), .ref 90]) (h' := (shT, fi, fl, fr)) rfl ?_
    refine gp_of (fun _ k9 => g_getR (q' := 74) rfl rfl (by decide) k22 k9) ?_
    refine gp_n 1 (j' := 35) (lv' := [some (.ref 70), some (.int n0), some (.int x), some (.int y), some (.int t), some (.int X), some (.int (nI b)), none, none, none, none, none]) (st' := [.int (nI b), .ref 74, .int (nI b), .ref 90]) (h' := (shT, fi, fl, fr)) rfl ?_
    refine gp_of (fun _ k9 => g_iald (k := b) (x := fi 74 b) rfl rfl (rfl) (by omega) (by decide) (rfl) k9) ?_
    refine gp_of (fun _ k9 => g_iast (k := b) rfl rfl (rfl) (by omega) (by decide) k9) ?_
    refine gp_n 2 (j' := 26) (lv' := [some (.ref 70), some (.int n0), some (.int x), some (.int y), some (.int t), some (.int X), some (.int ((nI b) + 1)), none, none, none, none, none]) (st' := []) (h' := (shT, pm_u2 fi 90 b (fi 74 b), fl, fr)) rfl ?_
    rw [nI_1]
    exact gp_done g rfl
theorem fm_l2 {n0 x y t X : Int32} {l6 l7 : Int32} {l9 l11 : Option Value} {fl : Nat → Nat → Int64} {fr : Nat → Nat → Option Nat} {Q : Option Value × PmH → Prop} (k49 : fr 70 49 = some 90) (k22 : fr 70 22 = some 74) : ∀ (n b : Nat) (fi : Nat → Nat → Int32), b + n = 64 → GoP pmT none cd_227 121 [some (.ref 70), some (.int n0), some (.int x), some (.int y), some (.int t), some (.int X), some (.int l6), some (.int l7), some (.int (nI 64)), l9, none, l11] [] (shT, fu fi 74 b n (fun j => fi 90 (b + j)), fl, fr) Q → GoP pmT none cd_227 108 [some (.ref 70), some (.int n0), some (.int x), some (.int y), some (.int t), some (.int X), some (.int l6), some (.int l7), some (.int (nI b)), l9, none, l11] [] (shT, fi, fl, fr) Q := by
  intro n
  induction n with
  | zero =>
    intro b fi hb k
    have hb : b = 64 := by omega
    subst hb
    rw [fu_0] at k
    refine gp_n 2 (j' := 110) (lv' := [some (.ref 70), some (.int n0), some (.int x), some (.int y), some (.int t), some (.int X), some (.int l6), some (.int l7), some (.int (nI 64)), l9, none, l11]) (st' := [.int 64, .int (nI 64)]) (h' := (shT, fi, fl, fr)) rfl ?_
    refine gp_of (fun _ k9 => g_ict rfl (show (64 : Int32) ≤ (nI 64) from by decide) k9) ?_
    exact k
  | succ n ih =>
    intro b fi hb k
    have e1 : fu (pm_u2 fi 74 b (fi 90 (b + 0))) 74 (b + 1) n (fun j => pm_u2 fi 74 b (fi 90 (b + 0)) 90 (b + 1 + j)) = fu fi 74 b (n + 1) (fun j => fi 90 (b + j)) := fu_s (f := fi) (p := 74) (lo := b) (n := n) (g := fun j => fi 90 (b + j)) (fun j => by
      show pm_u2 fi 74 b (fi 90 (b + 0)) 90 (b + 1 + j) = fi 90 (b + (j + 1))
      rw [u2_ne (fun z => absurd z.1 (by decide)), show b + 1 + j = b + (j + 1) by omega])
    have g := ih (b + 1) (pm_u2 fi 74 b (fi 90 (b + 0))) (by omega) (by rw [e1]; exact k)
    rw [Nat.add_zero] at g
    refine gp_n 2 (j' := 110) (lv' := [some (.ref 70), some (.int n0), some (.int x), some (.int y), some (.int t), some (.int X), some (.int l6), some (.int l7), some (.int (nI b)), l9, none, l11]) (st' := [.int 64, .int (nI b)]) (h' := (shT, fi, fl, fr)) rfl ?_
    refine gp_of (fun _ k9 => g_icf rfl (show ¬ ((64 : Int32) ≤ (nI b)) from nI_ge (b := 64) (by omega) (by decide)) k9) ?_
    refine gp_n 1 (j' := 112) (lv' := [some (.ref 70), some (.int n0), some (.int x), some (.int y), some (.int t), some (.int X), some (.int l6), some (.int l7), some (.int (nI b)), l9, none, l11]) (st' := [.ref 70]) (h' := (shT, fi, fl, fr)) rfl ?_
    refine gp_of (fun _ k9 => g_getR (q' := 74) rfl rfl (by decide) k22 k9) ?_
    refine gp_n 2 (j' := 115) (lv' := [some (.ref 70), some (.int n0), some (.int x), some (.int y), some (.int t), some (.int X), some (.int l6), some (.int l7), some (.int (nI b)), l9, none, l11]) (st' := [.ref 70, .int (nI b), .ref 74]) (h' := (shT, fi, fl, fr)) rfl ?_
    refine gp_of (fun _ k9 => g_getR (q' := 90) rfl rfl (by decide) k49 k9) ?_
    refine gp_n 1 (j' := 117) (lv' := [some (.ref 70), some (.int n0), some (.int x), some (.int y), some (.int t), some (.int X), some (.int l6), some (.int l7), some (.int (nI b)), l9, none, l11]) (st' := [.int (nI b), .ref 90, .int (nI b), .ref 74]) (h' := (shT, fi, fl, fr)) rfl ?_
    refine gp_of (fun _ k9 => g_iald (k := b) (x := fi 90 b) rfl rfl (rfl) (by omega) (by decide) (rfl) k9) ?_
    refine gp_of (fun _ k9 => g_iast (k := b) rfl rfl (rfl) (by omega) (by decide) k9) ?_
    refine gp_n 2 (j' := 108) (lv' := [some (.ref 70), some (.int n0), some (.int x), some (.int y), some (.int t), some (.int X), some (.int l6), some (.int l7), some (.int ((nI b) + 1)), l9, none, l11]) (st' := []) (h' := (shT, pm_u2 fi 74 b (fi 90 b), fl, fr)) rfl ?_
    rw [nI_1]
    exact g
def sav (h : PmH) (S : Nat → Int32) : Prop := ∀ s, s < 64 → ph_i h 90 s = S s
theorem sav_fr {W : WSt} {h h' : PmH} {S : Nat → Int32} (hw : (W.all fun q => decide (¬ q.1 = 90)) = true) (hf : fram W h h') (hs : sav h S) : sav h' S := fun s h1 => ((hf 90 s (inW_all hw (fun c _ => rfl))).1).trans (hs s h1)
theorem fm_in {n0 x y t X : Int32} {kk : Nat} {l6 l7 l8 : Int32} {S : Nat → Int32} {Q : Option Value × PmH → Prop} (hk : kk ≤ 64) (kq : ∀ (h : PmH) (w : Int64), HI hdT shT h → sav h S → GoP pmT none cd_227 69 [some (.ref 70), some (.int n0), some (.int x), some (.int y), some (.int t), some (.int X), some (.int l6), some (.int l7), some (.int l8), some (.long w), none, some (.int (nI kk))] [] h Q) : ∀ (n j : Nat) (w : Int64) (h : PmH), j + n = kk → HI hdT shT h → ph_i h 70 16 = nI kk → sav h S → GoP pmT none cd_227 52 [some (.ref 70), some (.int n0), some (.int x), some (.int y), some (.int t), some (.int X), some (.int l6), some (.int l7), some (.int l8), some (.long w), none, some (.int (nI j))] [] h Q := by
  intro n
  induction n with
  | zero =>
    intro j w h hj hI c16 hS
    have hj : j = kk := by omega
    subst hj
    have g := kq h w hI hS
    clear kq hS
    obtain ⟨S, fi, fl, fr⟩ := h
    have hS : S = shT := hI.1
    subst hS
    have c16 : fi 70 16 = nI j := c16
    refine gp_n 2 (j' := 54) (lv' := [some (.ref 70), some (.int n0), some (.int x), some (.int y), some (.int t), some (.int X), some (.int l6), some (.int l7), some (.int l8), some (.long w), none, some (.int (nI j))]) (st' := [.ref 70, .int (nI j)]) (h' := (shT, fi, fl, fr)) rfl ?_
    refine gp_of (fun _ k9 => g_getI (x := nI j) rfl (Or.inl rfl) rfl (by decide) (c16) k9) ?_
    refine gp_of (fun _ k9 => g_ict rfl (show (nI j) ≤ (nI j) from Int32.le_refl _) k9) ?_
    exact g
  | succ n ih =>
    intro j w h hj hI c16 hS
    obtain ⟨v2, h2, ev2, I2, F2, p2⟩ := iv_ev vN_204 (as := [.ref 70, .int 2]) rfl (fun _ _ => gz_c (gz_r (by decide)) (gz_c (gz_i (by decide) (by decide)) gz_n)) hI
    obtain ⟨z, rfl⟩ := pv_i' (by decide) p2
    have g := fun w' => ih (j + 1) w' h2 (by omega) I2 (((F2 70 16 (by decide)).1).trans c16) (sav_fr (by decide) F2 hS)
    clear ih F2 hS kq
    obtain ⟨S2, fi2, fl2, fr2⟩ := h2
    have s2 : S2 = shT := I2.1
    subst s2
    obtain ⟨S, fi, fl, fr⟩ := h
    have hS : S = shT := hI.1
    subst hS
    have c16 : fi 70 16 = nI kk := c16
    refine gp_n 2 (j' := 54) (lv' := [some (.ref 70), some (.int n0), some (.int x), some (.int y), some (.int t), some (.int X), some (.int l6), some (.int l7), some (.int l8), some (.long w), none, some (.int (nI j))]) (st' := [.ref 70, .int (nI j)]) (h' := (shT, fi, fl, fr)) rfl ?_
    refine gp_of (fun _ k9 => g_getI (x := nI kk) rfl (Or.inl rfl) rfl (by decide) (c16) k9) ?_
    refine gp_of (fun _ k9 => g_icf rfl (show ¬ ((nI kk) ≤ (nI j)) from nI_ge (by omega) (by omega)) k9) ?_
    refine gp_n 2 (j' := 58) (lv' := [some (.ref 70), some (.int n0), some (.int x), some (.int y), some (.int t), some (.int X), some (.int l6), some (.int l7), some (.int l8), some (.long w), none, some (.int (nI j))]) (st' := [.int 2, .ref 70]) (h' := (shT, fi, fl, fr)) rfl ?_
    refine gp_of (fun _ k9 => g_call (y := 185) (as := [.ref 70, .int 2]) (st' := []) rfl rfl (ev2) k9) ?_
    refine gp_n 1 (j' := 60) (lv' := [some (.ref 70), some (.int n0), some (.int x), some (.int y), some (.int t), some (.int X), some (.int l6), some (.int l7), some (.int l8), some (.long w), none, some (.int (nI j))]) (st' := [.int 1, .int z]) (h' := (shT, fi2, fl2, fr2)) rfl ?_
    refine gp_ic rfl (fun hc1 => ?_) (fun hc1 => ?_)
    · replace hc1 : ¬ z = (1 : Int32) := hc1
      refine gp_n 2 (j' := 52) (lv' := [some (.ref 70), some (.int n0), some (.int x), some (.int y), some (.int t), some (.int X), some (.int l6), some (.int l7), some (.int l8), some (.long w), none, some (.int ((nI j) + 1))]) (st' := []) (h' := (shT, fi2, fl2, fr2)) rfl ?_
      rw [nI_1]
      exact g _
    · replace hc1 : ¬ (¬ z = (1 : Int32)) := hc1
      refine gp_n 8 (j' := 52) (lv' := [some (.ref 70), some (.int n0), some (.int x), some (.int y), some (.int t), some (.int X), some (.int l6), some (.int l7), some (.int l8), some (.long (w ||| ((1 : Int64) <<< ((nI j : Int32).toInt64 &&& 63)))), none, some (.int ((nI j) + 1))]) (st' := []) (h' := (shT, fi2, fl2, fr2)) rfl ?_
      rw [nI_1]
      exact g _
theorem fm_go {NN : Nat} {x y t X : Int32} {S : Nat → Int32} (hN : NN ≤ 40) (hx : 0 ≤ x ∧ x ≤ 100) (hy : 0 ≤ y ∧ y ≤ 100) : ∀ (n i : Nat) (l6 l7 : Int32) (l9 l11 : Option Value) (h : PmH), HI hdT shT h → sav h S → i + n = NN → GoP pmT none cd_227 45 [some (.ref 70), some (.int (nI NN)), some (.int x), some (.int y), some (.int t), some (.int X), some (.int l6), some (.int l7), some (.int (nI i)), l9, none, l11] [] h (fun r => ph_i r.2 70 23 = X ∧ ∀ s, s < 64 → ph_i r.2 74 s = S s) := by
  intro n
  have xb := i32_bd hx
  have yb := i32_bd hy
  induction n with
  | zero =>
    intro i l6 l7 l9 l11 h hI hS hi
    have hi : i = NN := by omega
    subst hi
    have k49 : ph_r h 70 49 = some 90 := hi_r hI rfl rfl (by decide)
    have k22 : ph_r h 70 22 = some 74 := hi_r hI rfl rfl (by decide)
    obtain ⟨S, fi, fl, fr⟩ := h
    have hS : S = shT := hI.1
    subst hS
    have k49 : fr 70 49 = some 90 := k49
    have k22 : fr 70 22 = some 74 := k22
    have hS : ∀ s, s < 64 → fi 90 s = S s := hS
    have fin : GoP pmT none cd_227 121 [some (.ref 70), some (.int (nI i)), some (.int x), some (.int y), some (.int t), some (.int X), some (.int l6), some (.int l7), some (.int (nI 64)), l9, none, l11] [] (shT, fu fi 74 0 64 (fun j => fi 90 (0 + j)), fl, fr) (fun r => ph_i r.2 70 23 = X ∧ ∀ s, s < 64 → ph_i r.2 74 s = S s) := by
      have hq : ∀ s, s < 64 → fu fi 74 0 64 (fun j => fi 90 (0 + j)) 74 s = S s := fun s hs => by
        rw [fu_in (by omega) (by omega), show 0 + (s - 0) = s by omega]
        exact hS s hs
      generalize fu fi 74 0 64 (fun j => fi 90 (0 + j)) = f2 at *
      refine gp_n 2 (j' := 123) (lv' := [some (.ref 70), some (.int (nI i)), some (.int x), some (.int y), some (.int t), some (.int X), some (.int l6), some (.int l7), some (.int (nI 64)), l9, none, l11]) (st' := [.int X, .ref 70]) (h' := (shT, f2, fl, fr)) rfl ?_
      refine gp_of (fun _ k9 => g_putI rfl (Or.inl rfl) rfl (by decide) k9) ?_
      refine gp_n 1 (j' := 125) (lv' := [some (.ref 70), some (.int (nI i)), some (.int x), some (.int y), some (.int t), some (.int X), some (.int l6), some (.int l7), some (.int (nI 64)), l9, none, l11]) (st' := [.int t]) (h' := (shT, pm_u2 f2 70 23 X, fl, fr)) rfl ?_
      refine gp_if rfl (fun hc1 => ?_) (fun hc1 => ?_)
      · replace hc1 : ¬ t = (0 : Int32) := hc1
        refine gp_n 1 (j' := 129) (lv' := [some (.ref 70), some (.int (nI i)), some (.int x), some (.int y), some (.int t), some (.int X), some (.int l6), some (.int l7), some (.int (nI 64)), l9, none, l11]) (st' := [.int l7]) (h' := (shT, pm_u2 f2 70 23 X, fl, fr)) rfl ?_
        refine gp_done (g_ret rfl) ?_
        exact ⟨u2_i, fun s hs => (u2_n (fun z => absurd z.1 (by decide))).trans (hq s hs)⟩
      · replace hc1 : ¬ (¬ t = (0 : Int32)) := hc1
        refine gp_n 2 (j' := 129) (lv' := [some (.ref 70), some (.int (nI i)), some (.int x), some (.int y), some (.int t), some (.int X), some (.int l6), some (.int l7), some (.int (nI 64)), l9, none, l11]) (st' := [.int l6]) (h' := (shT, pm_u2 f2 70 23 X, fl, fr)) rfl ?_
        refine gp_done (g_ret rfl) ?_
        exact ⟨u2_i, fun s hs => (u2_n (fun z => absurd z.1 (by decide))).trans (hq s hs)⟩
    have lp := fm_l2 (x := x) (y := y) (t := t) (X := X) (n0 := nI i) (l6 := l6) (l7 := l7) (l9 := l9) (l11 := l11) (fl := fl) k49 k22 64 0 fi (by omega) fin
    refine gp_n 2 (j' := 47) (lv' := [some (.ref 70), some (.int (nI i)), some (.int x), some (.int y), some (.int t), some (.int X), some (.int l6), some (.int l7), some (.int (nI i)), l9, none, l11]) (st' := [.int (nI i), .int (nI i)]) (h' := (shT, fi, fl, fr)) rfl ?_
    refine gp_of (fun _ k9 => g_ict rfl (show (nI i) ≤ (nI i) from Int32.le_refl _) k9) ?_
    refine gp_n 2 (j' := 108) (lv' := [some (.ref 70), some (.int (nI i)), some (.int x), some (.int y), some (.int t), some (.int X), some (.int l6), some (.int l7), some (.int (nI 0)), l9, none, l11]) (st' := []) (h' := (shT, fi, fl, fr)) rfl ?_
    exact lp
  | succ n ih =>
    intro i l6 l7 l9 l11 h hI hS hi
    have b16 := hi_i (lo := 0) (hi := 64) hI (p := 70) (c := 16) rfl rfl (by decide)
    obtain ⟨kk, k1, k2, -⟩ := i32_nI (y := ph_i h 70 16) b16.1
    have main : ∀ (h : PmH) (w : Int64), HI hdT shT h → sav h S → GoP pmT none cd_227 69 [some (.ref 70), some (.int (nI NN)), some (.int x), some (.int y), some (.int t), some (.int X), some (.int l6), some (.int l7), some (.int (nI i)), some (.long w), none, some (.int (nI kk))] [] h (fun r => ph_i r.2 70 23 = X ∧ ∀ s, s < 64 → ph_i r.2 74 s = S s) := by
      intro h w hI hS
      obtain ⟨v1, h1, ev1, I1, F1, p1⟩ := iv_ev vN_177 (as := [.ref 70, .long w]) rfl (fun _ _ => gz_c (gz_r (by decide)) (gz_c (gz_l _) gz_n)) hI
      obtain ⟨w1, rfl⟩ := pv_l rfl p1
      have S1 := sav_fr (by decide) F1 hS
      have nb := hi_i (lo := 0) (hi := 64) I1 (p := 70) (c := 14) rfl rfl (by decide)
      obtain ⟨v2, h2, ev2, I2, F2, p2⟩ := iv_ev vN_178 (as := [.long w1, .int (ph_i h1 70 14)]) rfl (fun _ _ => gz_c (gz_l _) (gz_c (gz_i nb.1 nb.2) gz_n)) I1
      obtain ⟨w2, rfl⟩ := pv_l rfl p2
      have S2 := sav_fr (by decide) F2 S1
      obtain ⟨v3, h3, ev3, I3, F3, p3⟩ := iv_ev vN_205 (as := [.ref 70, .long w2, .int x, .int y]) rfl (fun _ _ => gz_c (gz_r (by decide)) (gz_c (gz_l _) (gz_c (gz_i xb.1 xb.2) (gz_c (gz_i yb.1 yb.2) gz_n)))) I2
      have := pv_n rfl p3
      subst this
      have S3 := sav_fr (by decide) F3 S2
      have lb := hi_i (lo := 0) (hi := 8) I3 (p := 70) (c := 20) rfl rfl (by decide)
      obtain ⟨v4, h4, ev4, I4, F4, p4⟩ := iv_ev vM_reading (as := [.ref 70, .int (ph_i h3 70 20)]) rfl (fun _ _ => gz_c (gz_r (by decide)) (gz_c (gz_i lb.1 lb.2) gz_n)) I3
      have := pv_n rfl p4
      subst this
      have S4 := sav_fr (by decide) F4 S3
      obtain ⟨v5, h5, ev5, I5, F5, p5⟩ := iv_ev vN_214 (as := [.ref 70]) rfl (fun _ _ => gz_c (gz_r (by decide)) gz_n) I4
      obtain ⟨zx, rfl, z1, z2⟩ := pv_rg rfl p5
      obtain ⟨zi', rfl, z4, -⟩ := i32_nI (y := zx) z1
      have z7 : zi' < 8 := by omega
      have S5 := sav_fr (by decide) F5 S4
      obtain ⟨v6, h6, ev6, I6, F6, p6⟩ := iv_ev vN_211 (as := [.ref 70, .long (ph_l h5 76 zi')]) rfl (fun _ _ => gz_c (gz_r (by decide)) (gz_c (gz_l _) gz_n)) I5
      obtain ⟨w6, rfl⟩ := pv_l rfl p6
      have S6 := sav_fr (by decide) F6 S5
      obtain ⟨v7, h7, ev7, I7, F7, p7⟩ := iv_ev vN_213 (as := [.ref 70]) rfl (fun _ _ => gz_c (gz_r (by decide)) gz_n) I6
      obtain ⟨z8, rfl⟩ := pv_i' (by decide) p7
      have S7 := sav_fr (by decide) F7 S6
      have g6 := fun l6 l7 => ih (i + 1) l6 l7 (some (.long w)) (some (.int (nI kk))) h6 I6 S6 (by omega)
      have g7 := fun l6 l7 => ih (i + 1) l6 l7 (some (.long w)) (some (.int (nI kk))) h7 I7 S7 (by omega)
      have k26 : ph_r h4 70 26 = some 76 := hi_r I4 rfl rfl (by decide)
      clear ih S1 S2 S3 S4 S5 S6 S7 F1 F2 F3 F4 F5 F6 F7 hS
      obtain ⟨T1, fi1, fl1, fr1⟩ := h1
      have s1 : T1 = shT := I1.1
      subst s1
      obtain ⟨T2, fi2, fl2, fr2⟩ := h2
      have s2 : T2 = shT := I2.1
      subst s2
      obtain ⟨T3, fi3, fl3, fr3⟩ := h3
      have s3 : T3 = shT := I3.1
      subst s3
      obtain ⟨T4, fi4, fl4, fr4⟩ := h4
      have s4 : T4 = shT := I4.1
      subst s4
      obtain ⟨T5, fi5, fl5, fr5⟩ := h5
      have s5 : T5 = shT := I5.1
      subst s5
      obtain ⟨T6, fi6, fl6, fr6⟩ := h6
      have s6 : T6 = shT := I6.1
      subst s6
      obtain ⟨T7, fi7, fl7, fr7⟩ := h7
      have s7 : T7 = shT := I7.1
      subst s7
      have k26 : fr4 70 26 = some 76 := k26
      obtain ⟨S, fi, fl, fr⟩ := h
      have hS : S = shT := hI.1
      subst hS
      refine gp_n 3 (j' := 72) (lv' := [some (.ref 70), some (.int (nI NN)), some (.int x), some (.int y), some (.int t), some (.int X), some (.int l6), some (.int l7), some (.int (nI i)), some (.long w), none, some (.int (nI kk))]) (st' := [.long w, .ref 70, .ref 70]) (h' := (shT, fi, fl, fr)) rfl ?_
      refine gp_of (fun _ k9 => g_call (y := 173) (as := [.ref 70, .long w]) (st' := [.ref 70]) rfl rfl (ev1) k9) ?_
      refine gp_n 1 (j' := 74) (lv' := [some (.ref 70), some (.int (nI NN)), some (.int x), some (.int y), some (.int t), some (.int X), some (.int l6), some (.int l7), some (.int (nI i)), some (.long w), none, some (.int (nI kk))]) (st' := [.ref 70, .long w1, .ref 70]) (h' := (shT, fi1, fl1, fr1)) rfl ?_
      refine gp_of (fun _ k9 => g_getI (x := fi1 70 14) rfl (Or.inl rfl) rfl (by decide) (rfl) k9) ?_
      refine gp_of (fun _ k9 => g_call (y := 175) (as := [.long w1, .int (fi1 70 14)]) (st' := [.ref 70]) rfl rfl (ev2) k9) ?_
      refine gp_n 2 (j' := 78) (lv' := [some (.ref 70), some (.int (nI NN)), some (.int x), some (.int y), some (.int t), some (.int X), some (.int l6), some (.int l7), some (.int (nI i)), some (.long w), none, some (.int (nI kk))]) (st' := [.int y, .int x, .long w2, .ref 70]) (h' := (shT, fi2, fl2, fr2)) rfl ?_
      refine gp_of (fun _ k9 => g_callv (y := 184) (as := [.ref 70, .long w2, .int x, .int y]) (st' := []) rfl rfl (ev3) k9) ?_
      refine gp_n 2 (j' := 81) (lv' := [some (.ref 70), some (.int (nI NN)), some (.int x), some (.int y), some (.int t), some (.int X), some (.int l6), some (.int l7), some (.int (nI i)), some (.long w), none, some (.int (nI kk))]) (st' := [.ref 70, .ref 70]) (h' := (shT, fi3, fl3, fr3)) rfl ?_
      refine gp_of (fun _ k9 => g_getI (x := fi3 70 20) rfl (Or.inl rfl) rfl (by decide) (rfl) k9) ?_
      refine gp_of (fun _ k9 => g_callv (y := 191) (as := [.ref 70, .int (fi3 70 20)]) (st' := []) rfl rfl (ev4) k9) ?_
      refine gp_n 2 (j' := 85) (lv' := [some (.ref 70), some (.int (nI NN)), some (.int x), some (.int y), some (.int t), some (.int X), some (.int l6), some (.int l7), some (.int (nI i)), some (.long w), none, some (.int (nI kk))]) (st' := [.ref 70, .ref 70]) (h' := (shT, fi4, fl4, fr4)) rfl ?_
      refine gp_of (fun _ k9 => g_getR (q' := 76) rfl rfl (by decide) k26 k9) ?_
      refine gp_n 1 (j' := 87) (lv' := [some (.ref 70), some (.int (nI NN)), some (.int x), some (.int y), some (.int t), some (.int X), some (.int l6), some (.int l7), some (.int (nI i)), some (.long w), none, some (.int (nI kk))]) (st' := [.ref 70, .ref 76, .ref 70]) (h' := (shT, fi4, fl4, fr4)) rfl ?_
      refine gp_of (fun _ k9 => g_call (y := 199) (as := [.ref 70]) (st' := [.ref 76, .ref 70]) rfl rfl (ev5) k9) ?_
      refine gp_of (fun _ k9 => g_lald (k := zi') (x := fl5 76 zi') rfl rfl (rfl) (by omega) (by decide) (rfl) k9) ?_
      refine gp_of (fun _ k9 => g_call (y := 202) (as := [.ref 70, .long (fl5 76 zi')]) (st' := []) rfl rfl (ev6) k9) ?_
      refine gp_n 2 (j' := 92) (lv' := [some (.ref 70), some (.int (nI NN)), some (.int x), some (.int y), some (.int t), some (.int X), some (.int l6), some (.int l7), some (.int (nI i)), some (.long w), none, some (.int (nI kk))]) (st' := [.int (lg_cmp w6 w)]) (h' := (shT, fi6, fl6, fr6)) rfl ?_
      refine gp_if rfl (fun hc1 => ?_) (fun hc1 => ?_)
      · replace hc1 : ¬ (lg_cmp w6 w) = (0 : Int32) := hc1
        refine gp_n 3 (j' := 97) (lv' := [some (.ref 70), some (.int (nI NN)), some (.int x), some (.int y), some (.int t), some (.int X), some (.int (l6 + 1)), some (.int l7), some (.int (nI i)), some (.long w), none, some (.int (nI kk))]) (st' := [.ref 70, .int l7]) (h' := (shT, fi6, fl6, fr6)) rfl ?_
        refine gp_of (fun _ k9 => g_call (y := 200) (as := [.ref 70]) (st' := [.int l7]) rfl rfl (ev7) k9) ?_
        refine gp_if rfl (fun hc2 => ?_) (fun hc2 => ?_)
        · replace hc2 : z8 < (0 : Int32) := hc2
          refine gp_n 5 (j' := 45) (lv' := [some (.ref 70), some (.int (nI NN)), some (.int x), some (.int y), some (.int t), some (.int X), some (.int (l6 + 1)), some (.int (l7 + 0)), some (.int ((nI i) + 1)), some (.long w), none, some (.int (nI kk))]) (st' := []) (h' := (shT, fi7, fl7, fr7)) rfl ?_
          rw [nI_1]
          first
          | exact g6 _ _
          | exact g7 _ _
        · replace hc2 : ¬ (z8 < (0 : Int32)) := hc2
          refine gp_n 6 (j' := 45) (lv' := [some (.ref 70), some (.int (nI NN)), some (.int x), some (.int y), some (.int t), some (.int X), some (.int (l6 + 1)), some (.int (l7 + 1)), some (.int ((nI i) + 1)), some (.long w), none, some (.int (nI kk))]) (st' := []) (h' := (shT, fi7, fl7, fr7)) rfl ?_
          rw [nI_1]
          first
          | exact g6 _ _
          | exact g7 _ _
      · replace hc1 : ¬ (¬ (lg_cmp w6 w) = (0 : Int32)) := hc1
        refine gp_n 3 (j' := 45) (lv' := [some (.ref 70), some (.int (nI NN)), some (.int x), some (.int y), some (.int t), some (.int X), some (.int l6), some (.int l7), some (.int ((nI i) + 1)), some (.long w), none, some (.int (nI kk))]) (st' := []) (h' := (shT, fi6, fl6, fr6)) rfl ?_
        rw [nI_1]
        first
        | exact g6 _ _
        | exact g7 _ _
    have inn := fm_in (n0 := nI NN) (x := x) (y := y) (t := t) (X := X) (l6 := l6) (l7 := l7) (l8 := nI i) (by omega) main kk 0 0 h (by omega) hI k1 hS
    clear main ih
    obtain ⟨S, fi, fl, fr⟩ := h
    have hS : S = shT := hI.1
    subst hS
    refine gp_n 2 (j' := 47) (lv' := [some (.ref 70), some (.int (nI NN)), some (.int x), some (.int y), some (.int t), some (.int X), some (.int l6), some (.int l7), some (.int (nI i)), l9, none, l11]) (st' := [.int (nI NN), .int (nI i)]) (h' := (shT, fi, fl, fr)) rfl ?_
    refine gp_of (fun _ k9 => g_icf rfl (show ¬ ((nI NN) ≤ (nI i)) from nI_ge (by omega) (by omega)) k9) ?_
    refine gp_n 4 (j' := 52) (lv' := [some (.ref 70), some (.int (nI NN)), some (.int x), some (.int y), some (.int t), some (.int X), some (.int l6), some (.int l7), some (.int (nI i)), some (.long 0), none, some (.int (nI 0))]) (st' := []) (h' := (shT, fi, fl, fr)) rfl ?_
    exact inn
theorem frx_M {h : PmH} (hI : HI hdT shT h) {n x y t : Int32} : EvP 227 [.ref 70, .int n, .int x, .int y, .int t] h (fun r => ph_i r.2 70 23 = ph_i h 70 23 ∧ ∀ s, s < 64 → ph_i r.2 74 s = ph_i h 74 s) := by
  have k49 : ph_r h 70 49 = some 90 := hi_r hI rfl rfl (by decide)
  have k22 : ph_r h 70 22 = some 74 := hi_r hI rfl rfl (by decide)
  have t1 := isc1 (n := ph_i h 70 14) hI rfl
  have t0 := isc0 (n := ph_i h 70 14) hI rfl
  have x1 := nse1 (x := x) (y := y) hI
  have x0 := nse0 (x := x) (y := y) hI
  have y0 := nse2 (x := x) (y := y) hI
  refine EvP.of (es := cd_227) (ml := 12) (lv := [some (.ref 70), some (.int n), some (.int x), some (.int y), some (.int t), none, none, none, none, none, none, none]) rfl rfl rfl ?_
  obtain ⟨S, fi, fl, fr⟩ := h
  have hS : S = shT := hI.1
  subst hS
  have k49 : fr 70 49 = some 90 := k49
  have k22 : fr 70 22 = some 74 := k22
  by_cases p0 : 0 < fi 70 14
  case neg =>
    refine gp_n 1 (j' := 1) (lv' := [some (.ref 70), some (.int n), some (.int x), some (.int y), some (.int t), none, none, none, none, none, none, none]) (st' := [.ref 70]) (h' := (shT, fi, fl, fr)) rfl ?_
    refine gp_of (fun _ k9 => g_call (y := 172) (as := [.ref 70]) (st' := []) rfl rfl (t0 p0) k9) ?_
    refine gp_of (fun _ k9 => g_ift rfl (show (0 : Int32) = (0 : Int32) from by decide) k9) ?_
    refine gp_n 1 (j' := 20) (lv' := [some (.ref 70), some (.int n), some (.int x), some (.int y), some (.int t), none, none, none, none, none, none, none]) (st' := [.int (-1)]) (h' := (shT, fi, fl, fr)) rfl ?_
    refine gp_done (g_ret rfl) ?_
    exact ⟨rfl, fun _ _ => rfl⟩
  have tt := t1 p0
  by_cases pn : 1 ≤ n ∧ n ≤ 40
  case neg =>
    have tn := isin_0 (x := n) 1 40 (l1 := 1) (l2 := 40) (h := (shT, fi, fl, fr)) (by decide) (by decide) pn
    refine gp_n 1 (j' := 1) (lv' := [some (.ref 70), some (.int n), some (.int x), some (.int y), some (.int t), none, none, none, none, none, none, none]) (st' := [.ref 70]) (h' := (shT, fi, fl, fr)) rfl ?_
    refine gp_of (fun _ k9 => g_call (y := 172) (as := [.ref 70]) (st' := []) rfl rfl (tt) k9) ?_
    refine gp_of (fun _ k9 => g_iff rfl (show ¬ ((1 : Int32) = (0 : Int32)) from by decide) k9) ?_
    refine gp_n 4 (j' := 7) (lv' := [some (.ref 70), some (.int n), some (.int x), some (.int y), some (.int t), none, none, none, none, none, none, none]) (st' := [.long 40, .long 1, .long n.toInt64]) (h' := (shT, fi, fl, fr)) rfl ?_
    refine gp_of (fun _ k9 => g_call (y := 148) (as := [.long n.toInt64, .long 1, .long 40]) (st' := []) rfl rfl (tn) k9) ?_
    refine gp_of (fun _ k9 => g_ift rfl (show (0 : Int32) = (0 : Int32) from by decide) k9) ?_
    refine gp_n 1 (j' := 20) (lv' := [some (.ref 70), some (.int n), some (.int x), some (.int y), some (.int t), none, none, none, none, none, none, none]) (st' := [.int (-1)]) (h' := (shT, fi, fl, fr)) rfl ?_
    refine gp_done (g_ret rfl) ?_
    exact ⟨rfl, fun _ _ => rfl⟩
  have tn := isin_1 (x := n) 1 40 (l1 := 1) (l2 := 40) (h := (shT, fi, fl, fr)) (by decide) (by decide) pn
  by_cases px : 0 ≤ x ∧ x ≤ 100
  case neg =>
    have tx := x0 px
    refine gp_n 1 (j' := 1) (lv' := [some (.ref 70), some (.int n), some (.int x), some (.int y), some (.int t), none, none, none, none, none, none, none]) (st' := [.ref 70]) (h' := (shT, fi, fl, fr)) rfl ?_
    refine gp_of (fun _ k9 => g_call (y := 172) (as := [.ref 70]) (st' := []) rfl rfl (tt) k9) ?_
    refine gp_of (fun _ k9 => g_iff rfl (show ¬ ((1 : Int32) = (0 : Int32)) from by decide) k9) ?_
    refine gp_n 4 (j' := 7) (lv' := [some (.ref 70), some (.int n), some (.int x), some (.int y), some (.int t), none, none, none, none, none, none, none]) (st' := [.long 40, .long 1, .long n.toInt64]) (h' := (shT, fi, fl, fr)) rfl ?_
    refine gp_of (fun _ k9 => g_call (y := 148) (as := [.long n.toInt64, .long 1, .long 40]) (st' := []) rfl rfl (tn) k9) ?_
    refine gp_of (fun _ k9 => g_iff rfl (show ¬ ((1 : Int32) = (0 : Int32)) from by decide) k9) ?_
    refine gp_n 2 (j' := 11) (lv' := [some (.ref 70), some (.int n), some (.int x), some (.int y), some (.int t), none, none, none, none, none, none, none]) (st' := [.int y, .int x]) (h' := (shT, fi, fl, fr)) rfl ?_
    refine gp_of (fun _ k9 => g_call (y := 183) (as := [.int x, .int y]) (st' := []) rfl rfl (tx) k9) ?_
    refine gp_of (fun _ k9 => g_ift rfl (show (0 : Int32) = (0 : Int32) from by decide) k9) ?_
    refine gp_n 1 (j' := 20) (lv' := [some (.ref 70), some (.int n), some (.int x), some (.int y), some (.int t), none, none, none, none, none, none, none]) (st' := [.int (-1)]) (h' := (shT, fi, fl, fr)) rfl ?_
    refine gp_done (g_ret rfl) ?_
    exact ⟨rfl, fun _ _ => rfl⟩
  by_cases py : 0 ≤ y ∧ y ≤ 100
  case neg =>
    have tx := y0 px py
    refine gp_n 1 (j' := 1) (lv' := [some (.ref 70), some (.int n), some (.int x), some (.int y), some (.int t), none, none, none, none, none, none, none]) (st' := [.ref 70]) (h' := (shT, fi, fl, fr)) rfl ?_
    refine gp_of (fun _ k9 => g_call (y := 172) (as := [.ref 70]) (st' := []) rfl rfl (tt) k9) ?_
    refine gp_of (fun _ k9 => g_iff rfl (show ¬ ((1 : Int32) = (0 : Int32)) from by decide) k9) ?_
    refine gp_n 4 (j' := 7) (lv' := [some (.ref 70), some (.int n), some (.int x), some (.int y), some (.int t), none, none, none, none, none, none, none]) (st' := [.long 40, .long 1, .long n.toInt64]) (h' := (shT, fi, fl, fr)) rfl ?_
    refine gp_of (fun _ k9 => g_call (y := 148) (as := [.long n.toInt64, .long 1, .long 40]) (st' := []) rfl rfl (tn) k9) ?_
    refine gp_of (fun _ k9 => g_iff rfl (show ¬ ((1 : Int32) = (0 : Int32)) from by decide) k9) ?_
    refine gp_n 2 (j' := 11) (lv' := [some (.ref 70), some (.int n), some (.int x), some (.int y), some (.int t), none, none, none, none, none, none, none]) (st' := [.int y, .int x]) (h' := (shT, fi, fl, fr)) rfl ?_
    refine gp_of (fun _ k9 => g_call (y := 183) (as := [.int x, .int y]) (st' := []) rfl rfl (tx) k9) ?_
    refine gp_of (fun _ k9 => g_ift rfl (show (0 : Int32) = (0 : Int32) from by decide) k9) ?_
    refine gp_n 1 (j' := 20) (lv' := [some (.ref 70), some (.int n), some (.int x), some (.int y), some (.int t), none, none, none, none, none, none, none]) (st' := [.int (-1)]) (h' := (shT, fi, fl, fr)) rfl ?_
    refine gp_done (g_ret rfl) ?_
    exact ⟨rfl, fun _ _ => rfl⟩
  have tx := x1 ⟨px, py⟩
  by_cases pt : 0 ≤ t ∧ t ≤ 1
  case neg =>
    have ty := isin_0 (x := t) 0 1 (l1 := 0) (l2 := 1) (h := (shT, fi, fl, fr)) (by decide) (by decide) pt
    refine gp_n 1 (j' := 1) (lv' := [some (.ref 70), some (.int n), some (.int x), some (.int y), some (.int t), none, none, none, none, none, none, none]) (st' := [.ref 70]) (h' := (shT, fi, fl, fr)) rfl ?_
    refine gp_of (fun _ k9 => g_call (y := 172) (as := [.ref 70]) (st' := []) rfl rfl (tt) k9) ?_
    refine gp_of (fun _ k9 => g_iff rfl (show ¬ ((1 : Int32) = (0 : Int32)) from by decide) k9) ?_
    refine gp_n 4 (j' := 7) (lv' := [some (.ref 70), some (.int n), some (.int x), some (.int y), some (.int t), none, none, none, none, none, none, none]) (st' := [.long 40, .long 1, .long n.toInt64]) (h' := (shT, fi, fl, fr)) rfl ?_
    refine gp_of (fun _ k9 => g_call (y := 148) (as := [.long n.toInt64, .long 1, .long 40]) (st' := []) rfl rfl (tn) k9) ?_
    refine gp_of (fun _ k9 => g_iff rfl (show ¬ ((1 : Int32) = (0 : Int32)) from by decide) k9) ?_
    refine gp_n 2 (j' := 11) (lv' := [some (.ref 70), some (.int n), some (.int x), some (.int y), some (.int t), none, none, none, none, none, none, none]) (st' := [.int y, .int x]) (h' := (shT, fi, fl, fr)) rfl ?_
    refine gp_of (fun _ k9 => g_call (y := 183) (as := [.int x, .int y]) (st' := []) rfl rfl (tx) k9) ?_
    refine gp_of (fun _ k9 => g_iff rfl (show ¬ ((1 : Int32) = (0 : Int32)) from by decide) k9) ?_
    refine gp_n 4 (j' := 17) (lv' := [some (.ref 70), some (.int n), some (.int x), some (.int y), some (.int t), none, none, none, none, none, none, none]) (st' := [.long 1, .long 0, .long t.toInt64]) (h' := (shT, fi, fl, fr)) rfl ?_
    refine gp_of (fun _ k9 => g_call (y := 148) (as := [.long t.toInt64, .long 0, .long 1]) (st' := []) rfl rfl (ty) k9) ?_
    refine gp_of (fun _ k9 => g_iff rfl (show ¬ (¬ (0 : Int32) = (0 : Int32)) from by decide) k9) ?_
    refine gp_n 1 (j' := 20) (lv' := [some (.ref 70), some (.int n), some (.int x), some (.int y), some (.int t), none, none, none, none, none, none, none]) (st' := [.int (-1)]) (h' := (shT, fi, fl, fr)) rfl ?_
    refine gp_done (g_ret rfl) ?_
    exact ⟨rfl, fun _ _ => rfl⟩
  have ty := isin_1 (x := t) 0 1 (l1 := 0) (l2 := 1) (h := (shT, fi, fl, fr)) (by decide) (by decide) pt
  obtain ⟨NN, e1, e2⟩ : ∃ NN, NN ≤ 40 ∧ n = nI NN := by
    have h3 := Int32.le_iff_toInt_le.mp pn.1
    have h4 := Int32.le_iff_toInt_le.mp pn.2
    rw [show (1 : Int32).toInt = 1 from rfl] at h3
    rw [show (40 : Int32).toInt = 40 from rfl] at h4
    obtain ⟨NN, e1, e2, -⟩ := i32_nI (y := n) (by omega)
    exact ⟨NN, by omega, e1⟩
  subst e2
  obtain ⟨r, g, q⟩ := fm_go (NN := NN) (x := x) (y := y) (t := t) (X := fi 70 23) (S := fun s => fi 74 s) e1 px py NN 0 0 0 none none (shT, fu fi 90 0 64 (fun j => fi 74 (0 + j)), fl, fr) (HI_fu hd_90 hI) (fun s hs => by
    show fu fi 90 0 64 (fun j => fi 74 (0 + j)) 90 s = _
    rw [fu_in (by omega) (by omega), show 0 + (s - 0) = s by omega]) (by omega)
  refine ⟨r, ?_, q⟩
  have m39 : Go pmT none cd_227 39 [some (.ref 70), some (.int (nI NN)), some (.int x), some (.int y), some (.int t), some (.int (fi 70 23)), some (.int (nI 64)), none, none, none, none, none] [] (shT, fu fi 90 0 64 (fun j => fi 74 (0 + j)), fl, fr) r := by
    generalize fu fi 90 0 64 (fun j => fi 74 (0 + j)) = f2 at *
    refine go_of ?_
    refine gp_n 6 (j' := 45) (lv' := [some (.ref 70), some (.int (nI NN)), some (.int x), some (.int y), some (.int t), some (.int (fi 70 23)), some (.int 0), some (.int 0), some (.int (nI 0)), none, none, none]) (st' := []) (h' := (shT, f2, fl, fr)) rfl ?_
    exact gp_done g rfl
  have m26 := fm_l1 (n0 := nI NN) (x := x) (y := y) (t := t) (X := fi 70 23) k49 k22 64 0 fi (by omega) m39
  refine go_of ?_
  refine gp_n 1 (j' := 1) (lv' := [some (.ref 70), some (.int (nI NN)), some (.int x), some (.int y), some (.int t), none, none, none, none, none, none, none]) (st' := [.ref 70]) (h' := (shT, fi, fl, fr)) rfl ?_
  refine gp_of (fun _ k9 => g_call (y := 172) (as := [.ref 70]) (st' := []) rfl rfl (tt) k9) ?_
  refine gp_of (fun _ k9 => g_iff rfl (show ¬ ((1 : Int32) = (0 : Int32)) from by decide) k9) ?_
  refine gp_n 4 (j' := 7) (lv' := [some (.ref 70), some (.int (nI NN)), some (.int x), some (.int y), some (.int t), none, none, none, none, none, none, none]) (st' := [.long 40, .long 1, .long ((nI NN).toInt64)]) (h' := (shT, fi, fl, fr)) rfl ?_
  refine gp_of (fun _ k9 => g_call (y := 148) (as := [.long ((nI NN).toInt64), .long 1, .long 40]) (st' := []) rfl rfl (tn) k9) ?_
  refine gp_of (fun _ k9 => g_iff rfl (show ¬ ((1 : Int32) = (0 : Int32)) from by decide) k9) ?_
  refine gp_n 2 (j' := 11) (lv' := [some (.ref 70), some (.int (nI NN)), some (.int x), some (.int y), some (.int t), none, none, none, none, none, none, none]) (st' := [.int y, .int x]) (h' := (shT, fi, fl, fr)) rfl ?_
  refine gp_of (fun _ k9 => g_call (y := 183) (as := [.int x, .int y]) (st' := []) rfl rfl (tx) k9) ?_
  refine gp_of (fun _ k9 => g_iff rfl (show ¬ ((1 : Int32) = (0 : Int32)) from by decide) k9) ?_
  refine gp_n 4 (j' := 17) (lv' := [some (.ref 70), some (.int (nI NN)), some (.int x), some (.int y), some (.int t), none, none, none, none, none, none, none]) (st' := [.long 1, .long 0, .long t.toInt64]) (h' := (shT, fi, fl, fr)) rfl ?_
  refine gp_of (fun _ k9 => g_call (y := 148) (as := [.long t.toInt64, .long 0, .long 1]) (st' := []) rfl rfl (ty) k9) ?_
  refine gp_of (fun _ k9 => g_ift rfl (show ¬ (1 : Int32) = (0 : Int32) from by decide) k9) ?_
  refine gp_n 1 (j' := 22) (lv' := [some (.ref 70), some (.int (nI NN)), some (.int x), some (.int y), some (.int t), none, none, none, none, none, none, none]) (st' := [.ref 70]) (h' := (shT, fi, fl, fr)) rfl ?_
  refine gp_of (fun _ k9 => g_getI (x := fi 70 23) rfl (Or.inl rfl) rfl (by decide) (rfl) k9) ?_
  refine gp_n 3 (j' := 26) (lv' := [some (.ref 70), some (.int (nI NN)), some (.int x), some (.int y), some (.int t), some (.int (fi 70 23)), some (.int (nI 0)), none, none, none, none, none]) (st' := []) (h' := (shT, fi, fl, fr)) rfl ?_
  exact gp_done m26 rfl
theorem frm_M {h : PmH} {a : AB} (hI : HI hdT shT h) (hR : QM true h a) (n x y t : Int32) : ∃ v h', Ev pmT 227 [.ref 70, .int n, .int x, .int y, .int t] h (some (.int v)) h' ∧ QM true h' a ∧ HI hdT shT h' ∧ fram (in_w iN_239) h h' := by
  obtain ⟨v1, h1, e1, I1, F1, p1⟩ := iv_ev vN_239 (as := [.ref 70, .int n, .int x, .int y, .int t]) rfl (fun _ _ => gz_c (gz_r (by decide)) (gz_c (gz_a _) (gz_c (gz_a _) (gz_c (gz_a _) (gz_c (gz_a _) gz_n))))) hI
  obtain ⟨v, rfl⟩ := pv_i' (by decide) p1
  obtain ⟨r, e2, q1, q2⟩ := frx_M hI (n := n) (x := x) (y := y) (t := t)
  obtain ⟨-, e3⟩ := ev_det e1 e2
  rw [← e3] at q1 q2
  have R1 := QM_sx (x := a_x a) (S := (a_v a).2.2) (show irM0 (in_w iN_239) = true by decide) F1 hR (q1.trans (hR.2.2.2.1 rfl)) (fun s hs => (q2 s hs).trans ((hR.2.2.2.2.1.2 rfl).2 s hs))
  exact ⟨v, h1, e1, R1, I1, F1⟩
