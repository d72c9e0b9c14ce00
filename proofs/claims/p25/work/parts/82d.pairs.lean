def zeN (S : Nat → Int32) : Nat → Nat
  | 0 => 0
  | n + 1 => zeN S n + (if S n = 0 then 1 else 0)
theorem ze_go {N : Nat} {S : Nat → Int32} {fi : Nat → Nat → Int32} {fl : Nat → Nat → Int64} {fr : Nat → Nat → Option Nat} (hN : N ≤ 64) (k8 : fr 1 8 = some 2) (c1 : fi 1 1 = nI N) (hS : ∀ s, s < 64 → fi 2 s = S s) : ∀ (n j : Nat), j + n = N → Go pmT none cd_144 4 [some (.ref 1), some (.int (nI (zeN S j))), some (.int (nI j))] [] (shT, fi, fl, fr) (some (.int (nI (zeN S N))), (shT, fi, fl, fr)) := by
  intro n
  induction n with
  | zero =>
    intro j hj
    have hj : j = N := by omega
    subst hj
    generalize zeN S j = q
    refine go_of ?_
    refine gp_n 2 (j' := 6) (lv' := [some (.ref 1), some (.int (nI q)), some (.int (nI j))]) (st' := [.ref 1, .int (nI j)]) (h' := (shT, fi, fl, fr)) rfl ?_
    refine gp_of (fun _ k9 => g_getI (x := nI j) rfl (Or.inl rfl) rfl (by decide) (c1) k9) ?_
    refine gp_of (fun _ k9 => g_ict rfl (show (nI j) ≤ (nI j) from Int32.le_refl _) k9) ?_
    refine gp_n 1 (j' := 22) (lv' := [some (.ref 1), some (.int (nI q)), some (.int (nI j))]) (st' := [.int (nI q)]) (h' := (shT, fi, fl, fr)) rfl ?_
    refine gp_done (g_ret rfl) ?_
    rfl
  | succ n ih =>
    intro j hj
    have g := ih (j + 1) (by omega)
    have e1 : zeN S (j + 1) = zeN S j + (if S j = 0 then 1 else 0) := rfl
    rw [e1] at g
    have sj := hS j (by omega)
    by_cases hz : S j = 0
    · rw [if_pos hz] at g
      generalize zeN S j = q at *
      refine go_of ?_
      refine gp_n 2 (j' := 6) (lv' := [some (.ref 1), some (.int (nI q)), some (.int (nI j))]) (st' := [.ref 1, .int (nI j)]) (h' := (shT, fi, fl, fr)) rfl ?_
      refine gp_of (fun _ k9 => g_getI (x := nI N) rfl (Or.inl rfl) rfl (by decide) (c1) k9) ?_
      refine gp_of (fun _ k9 => g_icf rfl (show ¬ ((nI N) ≤ (nI j)) from nI_ge (by omega) (by omega)) k9) ?_
      refine gp_n 2 (j' := 10) (lv' := [some (.ref 1), some (.int (nI q)), some (.int (nI j))]) (st' := [.ref 1, .int (nI q)]) (h' := (shT, fi, fl, fr)) rfl ?_
      refine gp_of (fun _ k9 => g_getR (q' := 2) rfl rfl (by decide) k8 k9) ?_
      refine gp_n 1 (j' := 12) (lv' := [some (.ref 1), some (.int (nI q)), some (.int (nI j))]) (st' := [.int (nI j), .ref 2, .int (nI q)]) (h' := (shT, fi, fl, fr)) rfl ?_
      refine gp_of (fun _ k9 => g_iald (k := j) (x := S j) rfl rfl (rfl) (by omega) (by decide) (sj) k9) ?_
      refine gp_of (fun _ k9 => g_iff rfl (show ¬ (¬ (S j) = (0 : Int32)) from fun z => z hz) k9) ?_
      refine gp_n 3 (j' := 18) (lv' := [some (.ref 1), some (.int (nI q)), some (.int (nI j))]) (st' := [.int ((nI q) + 1)]) (h' := (shT, fi, fl, fr)) rfl ?_
      rw [show nI q + 1 = nI (q + 1) from nI_add q 1]
      refine gp_n 3 (j' := 4) (lv' := [some (.ref 1), some (.int (nI (q + 1))), some (.int ((nI j) + 1))]) (st' := []) (h' := (shT, fi, fl, fr)) rfl ?_
      rw [nI_1]
      exact gp_done g rfl
    · rw [if_neg hz] at g
      generalize zeN S j = q at *
      refine go_of ?_
      refine gp_n 2 (j' := 6) (lv' := [some (.ref 1), some (.int (nI q)), some (.int (nI j))]) (st' := [.ref 1, .int (nI j)]) (h' := (shT, fi, fl, fr)) rfl ?_
      refine gp_of (fun _ k9 => g_getI (x := nI N) rfl (Or.inl rfl) rfl (by decide) (c1) k9) ?_
      refine gp_of (fun _ k9 => g_icf rfl (show ¬ ((nI N) ≤ (nI j)) from nI_ge (by omega) (by omega)) k9) ?_
      refine gp_n 2 (j' := 10) (lv' := [some (.ref 1), some (.int (nI q)), some (.int (nI j))]) (st' := [.ref 1, .int (nI q)]) (h' := (shT, fi, fl, fr)) rfl ?_
      refine gp_of (fun _ k9 => g_getR (q' := 2) rfl rfl (by decide) k8 k9) ?_
      refine gp_n 1 (j' := 12) (lv' := [some (.ref 1), some (.int (nI q)), some (.int (nI j))]) (st' := [.int (nI j), .ref 2, .int (nI q)]) (h' := (shT, fi, fl, fr)) rfl ?_
      refine gp_of (fun _ k9 => g_iald (k := j) (x := S j) rfl rfl (rfl) (by omega) (by decide) (sj) k9) ?_
      refine gp_of (fun _ k9 => g_ift rfl (show ¬ (S j) = (0 : Int32) from hz) k9) ?_
      refine gp_n 2 (j' := 18) (lv' := [some (.ref 1), some (.int (nI q)), some (.int (nI j))]) (st' := [.int ((nI q) + 0)]) (h' := (shT, fi, fl, fr)) rfl ?_
      rw [show nI q + 0 = nI (q + 0) from nI_add q 0]
      refine gp_n 3 (j' := 4) (lv' := [some (.ref 1), some (.int (nI (q + 0))), some (.int ((nI j) + 1))]) (st' := []) (h' := (shT, fi, fl, fr)) rfl ?_
      rw [nI_1]
      exact gp_done g rfl
theorem ze_ev {N : Nat} {S : Nat → Int32} {h : PmH} (hI : HI hdT shT h) (hN : N ≤ 64) (c1 : ph_i h 1 1 = nI N) (hS : ∀ s, s < 64 → ph_i h 2 s = S s) : Ev pmT 144 [.ref 1] h (some (.int (nI (zeN S N)))) h := by
  have k8 : ph_r h 1 8 = some 2 := hi_r hI rfl rfl (by decide)
  refine Ev.of (es := cd_144) (ml := 3) (lv := [some (.ref 1), none, none]) rfl rfl rfl ?_
  obtain ⟨S, fi, fl, fr⟩ := h
  have hS : S = shT := hI.1
  subst hS
  have g := ze_go (fl := fl) hN k8 c1 hS N 0 (by omega)
  refine go_of ?_
  refine gp_n 4 (j' := 4) (lv' := [some (.ref 1), some (.int (nI (zeN S 0))), some (.int (nI 0))]) (st' := []) (h' := (shT, fi, fl, fr)) rfl ?_
  exact gp_done g rfl
theorem zm_go {N : Nat} {S : Nat → Int32} {fi : Nat → Nat → Int32} {fl : Nat → Nat → Int64} {fr : Nat → Nat → Option Nat} (hN : N ≤ 64) (k8 : fr 70 22 = some 74) (c1 : fi 70 14 = nI N) (hS : ∀ s, s < 64 → fi 74 s = S s) : ∀ (n j : Nat), j + n = N → Go pmT none cd_233 4 [some (.ref 70), some (.int (nI (zeN S j))), some (.int (nI j))] [] (shT, fi, fl, fr) (some (.int (nI (zeN S N))), (shT, fi, fl, fr)) := by
  intro n
  induction n with
  | zero =>
    intro j hj
    have hj : j = N := by omega
    subst hj
    generalize zeN S j = q
    refine go_of ?_
    refine gp_n 2 (j' := 6) (lv' := [some (.ref 70), some (.int (nI q)), some (.int (nI j))]) (st' := [.ref 70, .int (nI j)]) (h' := (shT, fi, fl, fr)) rfl ?_
    refine gp_of (fun _ k9 => g_getI (x := nI j) rfl (Or.inl rfl) rfl (by decide) (c1) k9) ?_
    refine gp_of (fun _ k9 => g_ict rfl (show (nI j) ≤ (nI j) from Int32.le_refl _) k9) ?_
    refine gp_n 1 (j' := 22) (lv' := [some (.ref 70), some (.int (nI q)), some (.int (nI j))]) (st' := [.int (nI q)]) (h' := (shT, fi, fl, fr)) rfl ?_
    refine gp_done (g_ret rfl) ?_
    rfl
  | succ n ih =>
    intro j hj
    have g := ih (j + 1) (by omega)
    have e1 : zeN S (j + 1) = zeN S j + (if S j = 0 then 1 else 0) := rfl
    rw [e1] at g
    have sj := hS j (by omega)
    by_cases hz : S j = 0
    · rw [if_pos hz] at g
      generalize zeN S j = q at *
      refine go_of ?_
      refine gp_n 2 (j' := 6) (lv' := [some (.ref 70), some (.int (nI q)), some (.int (nI j))]) (st' := [.ref 70, .int (nI j)]) (h' := (shT, fi, fl, fr)) rfl ?_
      refine gp_of (fun _ k9 => g_getI (x := nI N) rfl (Or.inl rfl) rfl (by decide) (c1) k9) ?_
      refine gp_of (fun _ k9 => g_icf rfl (show ¬ ((nI N) ≤ (nI j)) from nI_ge (by omega) (by omega)) k9) ?_
      refine gp_n 2 (j' := 10) (lv' := [some (.ref 70), some (.int (nI q)), some (.int (nI j))]) (st' := [.ref 70, .int (nI q)]) (h' := (shT, fi, fl, fr)) rfl ?_
      refine gp_of (fun _ k9 => g_getR (q' := 74) rfl rfl (by decide) k8 k9) ?_
      refine gp_n 1 (j' := 12) (lv' := [some (.ref 70), some (.int (nI q)), some (.int (nI j))]) (st' := [.int (nI j), .ref 74, .int (nI q)]) (h' := (shT, fi, fl, fr)) rfl ?_
      refine gp_of (fun _ k9 => g_iald (k := j) (x := S j) rfl rfl (rfl) (by omega) (by decide) (sj) k9) ?_
      refine gp_of (fun _ k9 => g_iff rfl (show ¬ (¬ (S j) = (0 : Int32)) from fun z => z hz) k9) ?_
      refine gp_n 3 (j' := 18) (lv' := [some (.ref 70), some (.int (nI q)), some (.int (nI j))]) (st' := [.int ((nI q) + 1)]) (h' := (shT, fi, fl, fr)) rfl ?_
      rw [show nI q + 1 = nI (q + 1) from nI_add q 1]
      refine gp_n 3 (j' := 4) (lv' := [some (.ref 70), some (.int (nI (q + 1))), some (.int ((nI j) + 1))]) (st' := []) (h' := (shT, fi, fl, fr)) rfl ?_
      rw [nI_1]
      exact gp_done g rfl
    · rw [if_neg hz] at g
      generalize zeN S j = q at *
      refine go_of ?_
      refine gp_n 2 (j' := 6) (lv' := [some (.ref 70), some (.int (nI q)), some (.int (nI j))]) (st' := [.ref 70, .int (nI j)]) (h' := (shT, fi, fl, fr)) rfl ?_
      refine gp_of (fun _ k9 => g_getI (x := nI N) rfl (Or.inl rfl) rfl (by decide) (c1) k9) ?_
      refine gp_of (fun _ k9 => g_icf rfl (show ¬ ((nI N) ≤ (nI j)) from nI_ge (by omega) (by omega)) k9) ?_
      refine gp_n 2 (j' := 10) (lv' := [some (.ref 70), some (.int (nI q)), some (.int (nI j))]) (st' := [.ref 70, .int (nI q)]) (h' := (shT, fi, fl, fr)) rfl ?_
      refine gp_of (fun _ k9 => g_getR (q' := 74) rfl rfl (by decide) k8 k9) ?_
      refine gp_n 1 (j' := 12) (lv' := [some (.ref 70), some (.int (nI q)), some (.int (nI j))]) (st' := [.int (nI j), .ref 74, .int (nI q)]) (h' := (shT, fi, fl, fr)) rfl ?_
      refine gp_of (fun _ k9 => g_iald (k := j) (x := S j) rfl rfl (rfl) (by omega) (by decide) (sj) k9) ?_
      refine gp_of (fun _ k9 => g_ift rfl (show ¬ (S j) = (0 : Int32) from hz) k9) ?_
      refine gp_n 2 (j' := 18) (lv' := [some (.ref 70), some (.int (nI q)), some (.int (nI j))]) (st' := [.int ((nI q) + 0)]) (h' := (shT, fi, fl, fr)) rfl ?_
      rw [show nI q + 0 = nI (q + 0) from nI_add q 0]
      refine gp_n 3 (j' := 4) (lv' := [some (.ref 70), some (.int (nI (q + 0))), some (.int ((nI j) + 1))]) (st' := []) (h' := (shT, fi, fl, fr)) rfl ?_
      rw [nI_1]
      exact gp_done g rfl
theorem zm_ev {N : Nat} {S : Nat → Int32} {h : PmH} (hI : HI hdT shT h) (hN : N ≤ 64) (c1 : ph_i h 70 14 = nI N) (hS : ∀ s, s < 64 → ph_i h 74 s = S s) : Ev pmT 233 [.ref 70] h (some (.int (nI (zeN S N)))) h := by
  have k8 : ph_r h 70 22 = some 74 := hi_r hI rfl rfl (by decide)
  refine Ev.of (es := cd_233) (ml := 3) (lv := [some (.ref 70), none, none]) rfl rfl rfl ?_
  obtain ⟨S, fi, fl, fr⟩ := h
  have hS : S = shT := hI.1
  subst hS
  have g := zm_go (fl := fl) hN k8 c1 hS N 0 (by omega)
  refine go_of ?_
  refine gp_n 4 (j' := 4) (lv' := [some (.ref 70), some (.int (nI (zeN S 0))), some (.int (nI 0))]) (st' := []) (h' := (shT, fi, fl, fr)) rfl ?_
  exact gp_done g rfl
theorem g_tsd {T : List PmM} {xs : PmX} {es : List PmI} {j : Nat} {lv : PmL} {st : List Value} {h : PmH} {r : Option Value × PmH} {pc n a c d q : Nat} {v : Int} {ts : List Nat} {x : Int32} {df lo hi : Int} {os : Array Int} (he : es[j]? = some (pc, n, .tableswitch df lo hi os, a, c, d, q, v, ts)) (hx : x.toInt < lo ∨ hi < x.toInt) (k : Go T xs es a lv st h r) : Go T xs es j lv (.int x :: st) h r := by
  refine Go.step he ?_ k
  show pm_tsw lo hi _ lv (.int x :: st) h = _
  unfold pm_tsw
  simp only []
  rw [if_pos hx]
  rfl
def cnS (a : AB) (N : Nat) (k : Nat) : Int32 := match k with
  | 0 => (a_v a).1 1
  | 1 => (a_v a).1 2
  | 2 => (a_v a).1 3
  | 3 => (a_v a).1 4
  | 4 => (a_v a).1 5
  | 5 => (a_v a).1 6
  | 6 => nI (a_q a)
  | 7 => a_x a
  | 8 => nI (a_tl a)
  | _ => nI (zeN (a_v a).2.2 N)
theorem cn_C {h : PmH} {a : AB} {N : Nat} (hI : HI hdT shT h) (hR : QC true h a) (hN : N ≤ 64) (e1 : (a_v a).1 1 = nI N) : ∀ k, k < 10 → Ev pmT 143 [.ref 0, .int (nI k)] h (some (.int (cnS a N k))) h := by
  have k0 : ph_r h 0 0 = some 1 := hi_r hI rfl rfl (by decide)
  have k6 : ph_r h 0 6 = some 6 := hi_r hI rfl rfl (by decide)
  have f := hR.2.2.2.2.1
  have ze := ze_ev hI hN ((f.1 1 (by decide)).trans e1) (f.2 rfl).2
  have q3 : ph_i h 0 3 = nI (a_q a) := hR.2.2.2.2.2.1
  have q13 : ph_i h 0 13 = a_x a := hR.2.2.2.1 rfl
  have q61 : ph_i h 6 1 = nI (a_tl a) := hR.2.1
  have d1 : ph_i h 1 1 = (a_v a).1 1 := f.1 1 (by decide)
  have d2 : ph_i h 1 2 = (a_v a).1 2 := f.1 2 (by decide)
  have d3 : ph_i h 1 3 = (a_v a).1 3 := f.1 3 (by decide)
  have d4 : ph_i h 1 4 = (a_v a).1 4 := f.1 4 (by decide)
  have d5 : ph_i h 1 5 = (a_v a).1 5 := f.1 5 (by decide)
  have d6 : ph_i h 1 6 = (a_v a).1 6 := f.1 6 (by decide)
  clear f hR
  obtain ⟨S, fi, fl, fr⟩ := h
  have hS : S = shT := hI.1
  subst hS
  have k0 : fr 0 0 = some 1 := k0
  have k6 : fr 0 6 = some 6 := k6
  have q3 : fi 0 3 = nI (a_q a) := q3
  have q13 : fi 0 13 = a_x a := q13
  have q61 : fi 6 1 = nI (a_tl a) := q61
  have d1 : fi 1 1 = (a_v a).1 1 := d1
  have d2 : fi 1 2 = (a_v a).1 2 := d2
  have d3 : fi 1 3 = (a_v a).1 3 := d3
  have d4 : fi 1 4 = (a_v a).1 4 := d4
  have d5 : fi 1 5 = (a_v a).1 5 := d5
  have d6 : fi 1 6 = (a_v a).1 6 := d6
  intro k hk
  refine Ev.of (es := cd_143) (ml := 2) (lv := [some (.ref 0), some (.int (nI k))]) rfl rfl rfl ?_
  refine go_of ?_
  match k, hk with
  | 0, _ =>
    refine gp_n 3 (j' := 3) (lv' := [some (.ref 0), some (.int 0)]) (st' := [.ref 0]) (h' := (shT, fi, fl, fr)) rfl ?_
    refine gp_of (fun _ k9 => g_getR (q' := 1) rfl rfl (by decide) k0 k9) ?_
    refine gp_of (fun _ k9 => g_getI (x := (a_v a).1 1) rfl (Or.inl rfl) rfl (by decide) (d1) k9) ?_
    refine gp_done (g_ret rfl) ?_
    rfl
  | 1, _ =>
    refine gp_n 3 (j' := 7) (lv' := [some (.ref 0), some (.int 1)]) (st' := [.ref 0]) (h' := (shT, fi, fl, fr)) rfl ?_
    refine gp_of (fun _ k9 => g_getR (q' := 1) rfl rfl (by decide) k0 k9) ?_
    refine gp_of (fun _ k9 => g_getI (x := (a_v a).1 2) rfl (Or.inl rfl) rfl (by decide) (d2) k9) ?_
    refine gp_done (g_ret rfl) ?_
    rfl
  | 2, _ =>
    refine gp_n 3 (j' := 11) (lv' := [some (.ref 0), some (.int 2)]) (st' := [.ref 0]) (h' := (shT, fi, fl, fr)) rfl ?_
    refine gp_of (fun _ k9 => g_getR (q' := 1) rfl rfl (by decide) k0 k9) ?_
    refine gp_of (fun _ k9 => g_getI (x := (a_v a).1 3) rfl (Or.inl rfl) rfl (by decide) (d3) k9) ?_
    refine gp_done (g_ret rfl) ?_
    rfl
  | 3, _ =>
    refine gp_n 3 (j' := 15) (lv' := [some (.ref 0), some (.int 3)]) (st' := [.ref 0]) (h' := (shT, fi, fl, fr)) rfl ?_
    refine gp_of (fun _ k9 => g_getR (q' := 1) rfl rfl (by decide) k0 k9) ?_
    refine gp_of (fun _ k9 => g_getI (x := (a_v a).1 4) rfl (Or.inl rfl) rfl (by decide) (d4) k9) ?_
    refine gp_done (g_ret rfl) ?_
    rfl
  | 4, _ =>
    refine gp_n 3 (j' := 19) (lv' := [some (.ref 0), some (.int 4)]) (st' := [.ref 0]) (h' := (shT, fi, fl, fr)) rfl ?_
    refine gp_of (fun _ k9 => g_getR (q' := 1) rfl rfl (by decide) k0 k9) ?_
    refine gp_of (fun _ k9 => g_getI (x := (a_v a).1 5) rfl (Or.inl rfl) rfl (by decide) (d5) k9) ?_
    refine gp_done (g_ret rfl) ?_
    rfl
  | 5, _ =>
    refine gp_n 3 (j' := 23) (lv' := [some (.ref 0), some (.int 5)]) (st' := [.ref 0]) (h' := (shT, fi, fl, fr)) rfl ?_
    refine gp_of (fun _ k9 => g_getR (q' := 1) rfl rfl (by decide) k0 k9) ?_
    refine gp_of (fun _ k9 => g_getI (x := (a_v a).1 6) rfl (Or.inl rfl) rfl (by decide) (d6) k9) ?_
    refine gp_done (g_ret rfl) ?_
    rfl
  | 6, _ =>
    refine gp_n 3 (j' := 27) (lv' := [some (.ref 0), some (.int 6)]) (st' := [.ref 0]) (h' := (shT, fi, fl, fr)) rfl ?_
    refine gp_of (fun _ k9 => g_getI (x := nI (a_q a)) rfl (Or.inl rfl) rfl (by decide) (q3) k9) ?_
    refine gp_done (g_ret rfl) ?_
    rfl
  | 7, _ =>
    refine gp_n 3 (j' := 30) (lv' := [some (.ref 0), some (.int 7)]) (st' := [.ref 0]) (h' := (shT, fi, fl, fr)) rfl ?_
    refine gp_of (fun _ k9 => g_getI (x := a_x a) rfl (Or.inl rfl) rfl (by decide) (q13) k9) ?_
    refine gp_done (g_ret rfl) ?_
    rfl
  | 8, _ =>
    refine gp_n 3 (j' := 33) (lv' := [some (.ref 0), some (.int 8)]) (st' := [.ref 0]) (h' := (shT, fi, fl, fr)) rfl ?_
    refine gp_of (fun _ k9 => g_getR (q' := 6) rfl rfl (by decide) k6 k9) ?_
    refine gp_of (fun _ k9 => g_getI (x := nI (a_tl a)) rfl (Or.inl rfl) rfl (by decide) (q61) k9) ?_
    refine gp_done (g_ret rfl) ?_
    rfl
  | 9, _ =>
    refine gp_n 3 (j' := 37) (lv' := [some (.ref 0), some (.int 9)]) (st' := [.ref 0]) (h' := (shT, fi, fl, fr)) rfl ?_
    refine gp_of (fun _ k9 => g_getR (q' := 1) rfl rfl (by decide) k0 k9) ?_
    refine gp_of (fun _ k9 => g_call (y := 144) (as := [.ref 1]) (st' := []) rfl rfl (ze) k9) ?_
    refine gp_done (g_ret rfl) ?_
    rfl
  | _ + 10, h => exact absurd h (by omega)
theorem cn_M {h : PmH} {a : AB} {N : Nat} (hI : HI hdT shT h) (hR : QM true h a) (hN : N ≤ 64) (e1 : (a_v a).1 1 = nI N) : ∀ k, k < 10 → Ev pmT 232 [.ref 70, .int (nI k)] h (some (.int (cnS a N k))) h := by
  have f := hR.2.2.2.2.1
  have c14 : ph_i h 70 14 = (a_v a).1 1 := f.1 0 (by decide)
  have ze := zm_ev hI hN (c14.trans e1) (f.2 rfl).2
  have q3 : ph_i h 70 53 = nI (a_q a) := hR.2.2.2.2.2.1
  have q13 : ph_i h 70 23 = a_x a := hR.2.2.2.1 rfl
  have q61 : ph_i h 70 1 = nI (a_tl a) := hR.2.1
  have d2 : ph_i h 70 16 = (a_v a).1 2 := f.1 2 (by decide)
  have d3 : ph_i h 70 17 = (a_v a).1 3 := f.1 3 (by decide)
  have d4 : ph_i h 70 18 = (a_v a).1 4 := f.1 4 (by decide)
  have d5 : ph_i h 70 19 = (a_v a).1 5 := f.1 5 (by decide)
  have d6 : ph_i h 70 20 = (a_v a).1 6 := f.1 6 (by decide)
  clear f hR
  obtain ⟨S, fi, fl, fr⟩ := h
  have hS : S = shT := hI.1
  subst hS
  have c14 : fi 70 14 = (a_v a).1 1 := c14
  have q3 : fi 70 53 = nI (a_q a) := q3
  have q13 : fi 70 23 = a_x a := q13
  have q61 : fi 70 1 = nI (a_tl a) := q61
  have d2 : fi 70 16 = (a_v a).1 2 := d2
  have d3 : fi 70 17 = (a_v a).1 3 := d3
  have d4 : fi 70 18 = (a_v a).1 4 := d4
  have d5 : fi 70 19 = (a_v a).1 5 := d5
  have d6 : fi 70 20 = (a_v a).1 6 := d6
  intro k hk
  refine Ev.of (es := cd_232) (ml := 2) (lv := [some (.ref 70), some (.int (nI k))]) rfl rfl rfl ?_
  refine go_of ?_
  match k, hk with
  | 0, _ =>
    refine gp_n 3 (j' := 3) (lv' := [some (.ref 70), some (.int 0)]) (st' := [.ref 70]) (h' := (shT, fi, fl, fr)) rfl ?_
    refine gp_of (fun _ k9 => g_getI (x := (a_v a).1 1) rfl (Or.inl rfl) rfl (by decide) (c14) k9) ?_
    refine gp_done (g_ret rfl) ?_
    rfl
  | 1, _ =>
    refine gp_n 3 (j' := 6) (lv' := [some (.ref 70), some (.int 1)]) (st' := [.ref 70]) (h' := (shT, fi, fl, fr)) rfl ?_
    refine gp_of (fun _ k9 => g_getI (x := (a_v a).1 2) rfl (Or.inl rfl) rfl (by decide) (d2) k9) ?_
    refine gp_done (g_ret rfl) ?_
    rfl
  | 2, _ =>
    refine gp_n 3 (j' := 9) (lv' := [some (.ref 70), some (.int 2)]) (st' := [.ref 70]) (h' := (shT, fi, fl, fr)) rfl ?_
    refine gp_of (fun _ k9 => g_getI (x := (a_v a).1 3) rfl (Or.inl rfl) rfl (by decide) (d3) k9) ?_
    refine gp_done (g_ret rfl) ?_
    rfl
  | 3, _ =>
    refine gp_n 3 (j' := 12) (lv' := [some (.ref 70), some (.int 3)]) (st' := [.ref 70]) (h' := (shT, fi, fl, fr)) rfl ?_
    refine gp_of (fun _ k9 => g_getI (x := (a_v a).1 4) rfl (Or.inl rfl) rfl (by decide) (d4) k9) ?_
    refine gp_done (g_ret rfl) ?_
    rfl
  | 4, _ =>
    refine gp_n 3 (j' := 15) (lv' := [some (.ref 70), some (.int 4)]) (st' := [.ref 70]) (h' := (shT, fi, fl, fr)) rfl ?_
    refine gp_of (fun _ k9 => g_getI (x := (a_v a).1 5) rfl (Or.inl rfl) rfl (by decide) (d5) k9) ?_
    refine gp_done (g_ret rfl) ?_
    rfl
  | 5, _ =>
    refine gp_n 3 (j' := 18) (lv' := [some (.ref 70), some (.int 5)]) (st' := [.ref 70]) (h' := (shT, fi, fl, fr)) rfl ?_
    refine gp_of (fun _ k9 => g_getI (x := (a_v a).1 6) rfl (Or.inl rfl) rfl (by decide) (d6) k9) ?_
    refine gp_done (g_ret rfl) ?_
    rfl
  | 6, _ =>
    refine gp_n 3 (j' := 21) (lv' := [some (.ref 70), some (.int 6)]) (st' := [.ref 70]) (h' := (shT, fi, fl, fr)) rfl ?_
    refine gp_of (fun _ k9 => g_getI (x := nI (a_q a)) rfl (Or.inl rfl) rfl (by decide) (q3) k9) ?_
    refine gp_done (g_ret rfl) ?_
    rfl
  | 7, _ =>
    refine gp_n 3 (j' := 24) (lv' := [some (.ref 70), some (.int 7)]) (st' := [.ref 70]) (h' := (shT, fi, fl, fr)) rfl ?_
    refine gp_of (fun _ k9 => g_getI (x := a_x a) rfl (Or.inl rfl) rfl (by decide) (q13) k9) ?_
    refine gp_done (g_ret rfl) ?_
    rfl
  | 8, _ =>
    refine gp_n 3 (j' := 27) (lv' := [some (.ref 70), some (.int 8)]) (st' := [.ref 70]) (h' := (shT, fi, fl, fr)) rfl ?_
    refine gp_of (fun _ k9 => g_getI (x := nI (a_tl a)) rfl (Or.inl rfl) rfl (by decide) (q61) k9) ?_
    refine gp_done (g_ret rfl) ?_
    rfl
  | 9, _ =>
    refine gp_n 3 (j' := 30) (lv' := [some (.ref 70), some (.int 9)]) (st' := [.ref 70]) (h' := (shT, fi, fl, fr)) rfl ?_
    refine gp_of (fun _ k9 => g_call (y := 233) (as := [.ref 70]) (st' := []) rfl rfl (ze) k9) ?_
    refine gp_done (g_ret rfl) ?_
    rfl
  | _ + 10, h => exact absurd h (by omega)
theorem cn_C0 {h : PmH} {x : Int32} (hI : HI hdT shT h) (hx : x.toInt < 0 ∨ 9 < x.toInt) : Ev pmT 143 [.ref 0, .int x] h (some (.int (-1))) h := by
  refine Ev.of (es := cd_143) (ml := 2) (lv := [some (.ref 0), some (.int x)]) rfl rfl rfl ?_
  obtain ⟨S, fi, fl, fr⟩ := h
  have hS : S = shT := hI.1
  subst hS
  refine go_of ?_
  refine gp_n 1 (j' := 1) (lv' := [some (.ref 0), some (.int x)]) (st' := [.int x]) (h' := (shT, fi, fl, fr)) rfl ?_
  refine gp_of (fun _ k9 => g_tsd rfl (hx) k9) ?_
  refine gp_n 1 (j' := 41) (lv' := [some (.ref 0), some (.int x)]) (st' := [.int (-1)]) (h' := (shT, fi, fl, fr)) rfl ?_
  refine gp_done (g_ret rfl) ?_
  rfl
theorem cn_M0 {h : PmH} {x : Int32} (hI : HI hdT shT h) (hx : x.toInt < 0 ∨ 9 < x.toInt) : Ev pmT 232 [.ref 70, .int x] h (some (.int (-1))) h := by
  refine Ev.of (es := cd_232) (ml := 2) (lv := [some (.ref 70), some (.int x)]) rfl rfl rfl ?_
  obtain ⟨S, fi, fl, fr⟩ := h
  have hS : S = shT := hI.1
  subst hS
  refine go_of ?_
  refine gp_n 1 (j' := 1) (lv' := [some (.ref 70), some (.int x)]) (st' := [.int x]) (h' := (shT, fi, fl, fr)) rfl ?_
  refine gp_of (fun _ k9 => g_tsd rfl (hx) k9) ?_
  refine gp_n 1 (j' := 33) (lv' := [some (.ref 70), some (.int x)]) (st' := [.int (-1)]) (h' := (shT, fi, fl, fr)) rfl ?_
  refine gp_done (g_ret rfl) ?_
  rfl
section PAIR4
variable {h : PmH} {a : AB}
theorem p_count (x : Int32) (hr : REL2 h a) : PI 143 232 [.int x] h (fun x y => x = y) := by
  obtain ⟨⟨hI, hC, hM, hA⟩, hV⟩ := id hr
  obtain ⟨N, n1, n2⟩ := n_N hr
  by_cases hx : x.toInt < 0 ∨ 9 < x.toInt
  · exact ⟨_, _, h, h, a, cn_C0 hI hx, cn_M0 hI hx, hr, hI, rfl⟩
  · obtain ⟨k, k1, k2, -⟩ := i32_nI (y := x) (by omega)
    subst k1
    exact ⟨_, _, h, h, a, cn_C hI hC n1 n2 k (by omega), cn_M hI hM n1 n2 k (by omega), hr, hI, rfl⟩
end PAIR4
