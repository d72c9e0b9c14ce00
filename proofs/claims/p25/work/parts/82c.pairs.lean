theorem pc_low {K : Int64} {b : Nat} (hb : b ≤ 64) : popc (K &&& lwb b) = cntb K b := by
  unfold popc
  rw [cntb_P, cntb_P]
  have e : ∀ i, i < 64 → bl (K &&& lwb b) i = (bl K i && decide (i < b)) := fun i hi => by rw [bl_and, lwb_bl b (by omega) i hi]
  have t := cntP_tp (P := bl (K &&& lwb b)) (N := b) (64 - b) (fun i h1 h2 => by rw [e i (by omega), decide_eq_false (by omega), Bool.and_false])
  rw [show b + (64 - b) = 64 by omega] at t
  rw [t]
  exact cntP_cg b (fun j hj => by rw [e j (by omega), decide_eq_true hj, Bool.and_true])
def kpS (a : AB) (b : Nat) : Int32 := if bl (a_v a).2.1 b = true then nI (cntb (a_v a).2.1 b) else -2
theorem ke_C0 {L : Bool} {h : PmH} {a : AB} {x : Int32} (hI : HI hdT shT h) (hR : QC L h a) (hc : ¬ (0 ≤ x ∧ x < (a_v a).1 1)) : Ev pmT 53 [.ref 0, .int x] h (some (.int (-1))) h := by
  have k0 : ph_r h 0 0 = some 1 := hi_r hI rfl rfl (by decide)
  have t0 := hch0 (x := x) hI (hR.2.2.2.2.1.1 1 (by decide)) hc
  refine Ev.of (es := cd_53) (ml := 2) (lv := [some (.ref 0), some (.int x)]) rfl rfl rfl ?_
  obtain ⟨S, fi, fl, fr⟩ := h
  have hS : S = shT := hI.1
  subst hS
  have k0 : fr 0 0 = some 1 := k0
  refine go_of ?_
  refine gp_n 1 (j' := 1) (lv' := [some (.ref 0), some (.int x)]) (st' := [.ref 0]) (h' := (shT, fi, fl, fr)) rfl ?_
  refine gp_of (fun _ k9 => g_getR (q' := 1) rfl rfl (by decide) k0 k9) ?_
  refine gp_n 1 (j' := 3) (lv' := [some (.ref 0), some (.int x)]) (st' := [.int x, .ref 1]) (h' := (shT, fi, fl, fr)) rfl ?_
  refine gp_of (fun _ k9 => g_call (y := 52) (as := [.ref 1, .int x]) (st' := []) rfl rfl (t0) k9) ?_
  refine gp_of (fun _ k9 => g_iff rfl (show ¬ (¬ (0 : Int32) = (0 : Int32)) from by decide) k9) ?_
  refine gp_n 1 (j' := 6) (lv' := [some (.ref 0), some (.int x)]) (st' := [.int (-1)]) (h' := (shT, fi, fl, fr)) rfl ?_
  refine gp_done (g_ret rfl) ?_
  rfl
theorem ke_C1 {h : PmH} {a : AB} {b : Nat} (hI : HI hdT shT h) (hR : QC true h a) (hb : b < 64) (hc : 0 ≤ nI b ∧ nI b < (a_v a).1 1) : Ev pmT 53 [.ref 0, .int (nI b)] h (some (.int (kpS a b))) h := by
  have k0 : ph_r h 0 0 = some 1 := hi_r hI rfl rfl (by decide)
  have t1 := hch1 (x := nI b) hI (hR.2.2.2.2.1.1 1 (by decide)) hc
  have c7 : ph_l h 1 7 = (a_v a).2.1 := (hR.2.2.2.2.1.2 rfl).1
  have kp := kp_ev_1 hI c7 hb
  have lw := lwb_ev (k := b) (by omega) (h := h)
  have bc := bc_ev (x := (a_v a).2.1 &&& lwb b) (h := h)
  rw [bc_ok, pc_low (by omega)] at bc
  unfold kpS
  generalize (a_v a).2.1 = K at *
  refine Ev.of (es := cd_53) (ml := 2) (lv := [some (.ref 0), some (.int (nI b))]) rfl rfl rfl ?_
  obtain ⟨S, fi, fl, fr⟩ := h
  have hS : S = shT := hI.1
  subst hS
  have k0 : fr 0 0 = some 1 := k0
  have c7 : fl 1 7 = K := c7
  refine go_of ?_
  generalize cntb K b = q at *
  cases hk : bl K b
  · rw [hk] at kp
    have kp : Ev pmT 47 [.ref 1, .int (nI b)] (shT, fi, fl, fr) (some (.int 0)) (shT, fi, fl, fr) := kp
    rw [if_neg (by decide)]
    refine gp_n 1 (j' := 1) (lv' := [some (.ref 0), some (.int (nI b))]) (st' := [.ref 0]) (h' := (shT, fi, fl, fr)) rfl ?_
    refine gp_of (fun _ k9 => g_getR (q' := 1) rfl rfl (by decide) k0 k9) ?_
    refine gp_n 1 (j' := 3) (lv' := [some (.ref 0), some (.int (nI b))]) (st' := [.int (nI b), .ref 1]) (h' := (shT, fi, fl, fr)) rfl ?_
    refine gp_of (fun _ k9 => g_call (y := 52) (as := [.ref 1, .int (nI b)]) (st' := []) rfl rfl (t1) k9) ?_
    refine gp_of (fun _ k9 => g_ift rfl (show ¬ (1 : Int32) = (0 : Int32) from by decide) k9) ?_
    refine gp_n 1 (j' := 8) (lv' := [some (.ref 0), some (.int (nI b))]) (st' := [.ref 0]) (h' := (shT, fi, fl, fr)) rfl ?_
    refine gp_of (fun _ k9 => g_getR (q' := 1) rfl rfl (by decide) k0 k9) ?_
    refine gp_n 1 (j' := 10) (lv' := [some (.ref 0), some (.int (nI b))]) (st' := [.int (nI b), .ref 1]) (h' := (shT, fi, fl, fr)) rfl ?_
    refine gp_of (fun _ k9 => g_call (y := 47) (as := [.ref 1, .int (nI b)]) (st' := []) rfl rfl (kp) k9) ?_
    refine gp_of (fun _ k9 => g_iff rfl (show ¬ (¬ (0 : Int32) = (0 : Int32)) from by decide) k9) ?_
    refine gp_n 1 (j' := 13) (lv' := [some (.ref 0), some (.int (nI b))]) (st' := [.int (-2)]) (h' := (shT, fi, fl, fr)) rfl ?_
    refine gp_done (g_ret rfl) ?_
    rfl
  · rw [hk] at kp
    have kp : Ev pmT 47 [.ref 1, .int (nI b)] (shT, fi, fl, fr) (some (.int 1)) (shT, fi, fl, fr) := kp
    rw [if_pos rfl]
    refine gp_n 1 (j' := 1) (lv' := [some (.ref 0), some (.int (nI b))]) (st' := [.ref 0]) (h' := (shT, fi, fl, fr)) rfl ?_
    refine gp_of (fun _ k9 => g_getR (q' := 1) rfl rfl (by decide) k0 k9) ?_
    refine gp_n 1 (j' := 3) (lv' := [some (.ref 0), some (.int (nI b))]) (st' := [.int (nI b), .ref 1]) (h' := (shT, fi, fl, fr)) rfl ?_
    refine gp_of (fun _ k9 => g_call (y := 52) (as := [.ref 1, .int (nI b)]) (st' := []) rfl rfl (t1) k9) ?_
    refine gp_of (fun _ k9 => g_ift rfl (show ¬ (1 : Int32) = (0 : Int32) from by decide) k9) ?_
    refine gp_n 1 (j' := 8) (lv' := [some (.ref 0), some (.int (nI b))]) (st' := [.ref 0]) (h' := (shT, fi, fl, fr)) rfl ?_
    refine gp_of (fun _ k9 => g_getR (q' := 1) rfl rfl (by decide) k0 k9) ?_
    refine gp_n 1 (j' := 10) (lv' := [some (.ref 0), some (.int (nI b))]) (st' := [.int (nI b), .ref 1]) (h' := (shT, fi, fl, fr)) rfl ?_
    refine gp_of (fun _ k9 => g_call (y := 47) (as := [.ref 1, .int (nI b)]) (st' := []) rfl rfl (kp) k9) ?_
    refine gp_of (fun _ k9 => g_ift rfl (show ¬ (1 : Int32) = (0 : Int32) from by decide) k9) ?_
    refine gp_n 1 (j' := 15) (lv' := [some (.ref 0), some (.int (nI b))]) (st' := [.ref 0]) (h' := (shT, fi, fl, fr)) rfl ?_
    refine gp_of (fun _ k9 => g_getR (q' := 1) rfl rfl (by decide) k0 k9) ?_
    refine gp_of (fun _ k9 => g_getL (x := K) rfl rfl (by decide) (c7) k9) ?_
    refine gp_n 1 (j' := 18) (lv' := [some (.ref 0), some (.int (nI b))]) (st' := [.int (nI b), .long K]) (h' := (shT, fi, fl, fr)) rfl ?_
    refine gp_of (fun _ k9 => g_call (y := 54) (as := [.int (nI b)]) (st' := [.long K]) rfl rfl (lw) k9) ?_
    refine gp_n 1 (j' := 20) (lv' := [some (.ref 0), some (.int (nI b))]) (st' := [.long (K &&& (lwb b))]) (h' := (shT, fi, fl, fr)) rfl ?_
    refine gp_of (fun _ k9 => g_call (y := 43) (as := [.long (K &&& (lwb b))]) (st' := []) rfl rfl (bc) k9) ?_
    refine gp_done (g_ret rfl) ?_
    rfl
theorem ke_M0 {L : Bool} {h : PmH} {a : AB} {x : Int32} (hI : HI hdT shT h) (hR : QM L h a) (hc : ¬ (0 ≤ x ∧ x < (a_v a).1 1)) : Ev pmT 169 [.ref 70, .int x] h (some (.int (-1))) h := by
  have t0 := ich0 (x := x) (n := (a_v a).1 1) hI (hR.2.2.2.2.1.1 0 (by decide)) hc
  refine Ev.of (es := cd_169) (ml := 4) (lv := [some (.ref 70), some (.int x), none, none]) rfl rfl rfl ?_
  obtain ⟨S, fi, fl, fr⟩ := h
  have hS : S = shT := hI.1
  subst hS
  refine go_of ?_
  refine gp_n 2 (j' := 2) (lv' := [some (.ref 70), some (.int x), none, none]) (st' := [.int x, .ref 70]) (h' := (shT, fi, fl, fr)) rfl ?_
  refine gp_of (fun _ k9 => g_call (y := 168) (as := [.ref 70, .int x]) (st' := []) rfl rfl (t0) k9) ?_
  refine gp_of (fun _ k9 => g_iff rfl (show ¬ (¬ (0 : Int32) = (0 : Int32)) from by decide) k9) ?_
  refine gp_n 1 (j' := 5) (lv' := [some (.ref 70), some (.int x), none, none]) (st' := [.int (-1)]) (h' := (shT, fi, fl, fr)) rfl ?_
  refine gp_done (g_ret rfl) ?_
  rfl
theorem ke_go {K : Int64} {b : Nat} {fi : Nat → Nat → Int32} {fl : Nat → Nat → Int64} {fr : Nat → Nat → Option Nat} (hb : b < 64) (c7 : fl 70 21 = K) : ∀ (n j : Nat), j + n = b → Go pmT none cd_169 17 [some (.ref 70), some (.int (nI b)), some (.int (nI (cntb K j))), some (.int (nI j))] [] (shT, fi, fl, fr) (some (.int (nI (cntb K b))), (shT, fi, fl, fr)) := by
  intro n
  induction n with
  | zero =>
    intro j hj
    have hj : j = b := by omega
    subst hj
    generalize cntb K j = q
    refine go_of ?_
    refine gp_n 2 (j' := 19) (lv' := [some (.ref 70), some (.int (nI j)), some (.int (nI q)), some (.int (nI j))]) (st' := [.int (nI j), .int (nI j)]) (h' := (shT, fi, fl, fr)) rfl ?_
    refine gp_of (fun _ k9 => g_ict rfl (show (nI j) ≤ (nI j) from Int32.le_refl _) k9) ?_
    refine gp_n 1 (j' := 34) (lv' := [some (.ref 70), some (.int (nI j)), some (.int (nI q)), some (.int (nI j))]) (st' := [.int (nI q)]) (h' := (shT, fi, fl, fr)) rfl ?_
    refine gp_done (g_ret rfl) ?_
    rfl
  | succ n ih =>
    intro j hj
    have hs := has_ev (v := K) (i := nI j) (h := (shT, fi, fl, fr))
    rw [hasf_bit (show j < 64 by omega)] at hs
    have g := ih (j + 1) (by omega)
    have e1 : cntb K (j + 1) = cntb K j + (if bl K j = true then 1 else 0) := rfl
    rw [e1] at g
    cases hk : bl K j
    · rw [hk] at hs g
      have hs : Ev pmT 161 [.long K, .int (nI j)] (shT, fi, fl, fr) (some (.int 0)) (shT, fi, fl, fr) := hs
      rw [if_neg (by decide)] at g
      generalize cntb K j = q at *
      refine go_of ?_
      refine gp_n 2 (j' := 19) (lv' := [some (.ref 70), some (.int (nI b)), some (.int (nI q)), some (.int (nI j))]) (st' := [.int (nI b), .int (nI j)]) (h' := (shT, fi, fl, fr)) rfl ?_
      refine gp_of (fun _ k9 => g_icf rfl (show ¬ ((nI b) ≤ (nI j)) from nI_ge (by omega) (by omega)) k9) ?_
      refine gp_n 2 (j' := 22) (lv' := [some (.ref 70), some (.int (nI b)), some (.int (nI q)), some (.int (nI j))]) (st' := [.ref 70, .int (nI q)]) (h' := (shT, fi, fl, fr)) rfl ?_
      refine gp_of (fun _ k9 => g_getL (x := K) rfl rfl (by decide) (c7) k9) ?_
      refine gp_n 1 (j' := 24) (lv' := [some (.ref 70), some (.int (nI b)), some (.int (nI q)), some (.int (nI j))]) (st' := [.int (nI j), .long K, .int (nI q)]) (h' := (shT, fi, fl, fr)) rfl ?_
      refine gp_of (fun _ k9 => g_call (y := 161) (as := [.long K, .int (nI j)]) (st' := [.int (nI q)]) rfl rfl (hs) k9) ?_
      refine gp_of (fun _ k9 => g_ift rfl (show (0 : Int32) = (0 : Int32) from by decide) k9) ?_
      refine gp_n 2 (j' := 30) (lv' := [some (.ref 70), some (.int (nI b)), some (.int (nI q)), some (.int (nI j))]) (st' := [.int ((nI q) + 0)]) (h' := (shT, fi, fl, fr)) rfl ?_
      rw [show nI q + 0 = nI (q + 0) from nI_add q 0]
      refine gp_n 3 (j' := 17) (lv' := [some (.ref 70), some (.int (nI b)), some (.int (nI (q + 0))), some (.int ((nI j) + 1))]) (st' := []) (h' := (shT, fi, fl, fr)) rfl ?_
      rw [nI_1]
      exact gp_done g rfl
    · rw [hk] at hs g
      have hs : Ev pmT 161 [.long K, .int (nI j)] (shT, fi, fl, fr) (some (.int 1)) (shT, fi, fl, fr) := hs
      rw [if_pos rfl] at g
      generalize cntb K j = q at *
      refine go_of ?_
      refine gp_n 2 (j' := 19) (lv' := [some (.ref 70), some (.int (nI b)), some (.int (nI q)), some (.int (nI j))]) (st' := [.int (nI b), .int (nI j)]) (h' := (shT, fi, fl, fr)) rfl ?_
      refine gp_of (fun _ k9 => g_icf rfl (show ¬ ((nI b) ≤ (nI j)) from nI_ge (by omega) (by omega)) k9) ?_
      refine gp_n 2 (j' := 22) (lv' := [some (.ref 70), some (.int (nI b)), some (.int (nI q)), some (.int (nI j))]) (st' := [.ref 70, .int (nI q)]) (h' := (shT, fi, fl, fr)) rfl ?_
      refine gp_of (fun _ k9 => g_getL (x := K) rfl rfl (by decide) (c7) k9) ?_
      refine gp_n 1 (j' := 24) (lv' := [some (.ref 70), some (.int (nI b)), some (.int (nI q)), some (.int (nI j))]) (st' := [.int (nI j), .long K, .int (nI q)]) (h' := (shT, fi, fl, fr)) rfl ?_
      refine gp_of (fun _ k9 => g_call (y := 161) (as := [.long K, .int (nI j)]) (st' := [.int (nI q)]) rfl rfl (hs) k9) ?_
      refine gp_of (fun _ k9 => g_iff rfl (show ¬ ((1 : Int32) = (0 : Int32)) from by decide) k9) ?_
      refine gp_n 3 (j' := 30) (lv' := [some (.ref 70), some (.int (nI b)), some (.int (nI q)), some (.int (nI j))]) (st' := [.int ((nI q) + 1)]) (h' := (shT, fi, fl, fr)) rfl ?_
      rw [show nI q + 1 = nI (q + 1) from nI_add q 1]
      refine gp_n 3 (j' := 17) (lv' := [some (.ref 70), some (.int (nI b)), some (.int (nI (q + 1))), some (.int ((nI j) + 1))]) (st' := []) (h' := (shT, fi, fl, fr)) rfl ?_
      rw [nI_1]
      exact gp_done g rfl
theorem ke_M1 {h : PmH} {a : AB} {b : Nat} (hI : HI hdT shT h) (hR : QM true h a) (hb : b < 64) (hc : 0 ≤ nI b ∧ nI b < (a_v a).1 1) : Ev pmT 169 [.ref 70, .int (nI b)] h (some (.int (kpS a b))) h := by
  have t1 := ich1 (x := nI b) (n := (a_v a).1 1) hI (hR.2.2.2.2.1.1 0 (by decide)) hc
  have c7 : ph_l h 70 21 = (a_v a).2.1 := (hR.2.2.2.2.1.2 rfl).1
  have hs := has_ev (v := (a_v a).2.1) (i := nI b) (h := h)
  rw [hasf_bit hb] at hs
  unfold kpS
  generalize (a_v a).2.1 = K at *
  refine Ev.of (es := cd_169) (ml := 4) (lv := [some (.ref 70), some (.int (nI b)), none, none]) rfl rfl rfl ?_
  obtain ⟨S, fi, fl, fr⟩ := h
  have hS : S = shT := hI.1
  subst hS
  have c7 : fl 70 21 = K := c7
  have g := ke_go (fi := fi) (fr := fr) hb c7 b 0 (by omega)
  refine go_of ?_
  cases hk : bl K b
  · rw [hk] at hs
    have hs : Ev pmT 161 [.long K, .int (nI b)] (shT, fi, fl, fr) (some (.int 0)) (shT, fi, fl, fr) := hs
    rw [if_neg (by decide)]
    refine gp_n 2 (j' := 2) (lv' := [some (.ref 70), some (.int (nI b)), none, none]) (st' := [.int (nI b), .ref 70]) (h' := (shT, fi, fl, fr)) rfl ?_
    refine gp_of (fun _ k9 => g_call (y := 168) (as := [.ref 70, .int (nI b)]) (st' := []) rfl rfl (t1) k9) ?_
    refine gp_of (fun _ k9 => g_ift rfl (show ¬ (1 : Int32) = (0 : Int32) from by decide) k9) ?_
    refine gp_n 1 (j' := 7) (lv' := [some (.ref 70), some (.int (nI b)), none, none]) (st' := [.ref 70]) (h' := (shT, fi, fl, fr)) rfl ?_
    refine gp_of (fun _ k9 => g_getL (x := K) rfl rfl (by decide) (c7) k9) ?_
    refine gp_n 1 (j' := 9) (lv' := [some (.ref 70), some (.int (nI b)), none, none]) (st' := [.int (nI b), .long K]) (h' := (shT, fi, fl, fr)) rfl ?_
    refine gp_of (fun _ k9 => g_call (y := 161) (as := [.long K, .int (nI b)]) (st' := []) rfl rfl (hs) k9) ?_
    refine gp_of (fun _ k9 => g_iff rfl (show ¬ (¬ (0 : Int32) = (0 : Int32)) from by decide) k9) ?_
    refine gp_n 1 (j' := 12) (lv' := [some (.ref 70), some (.int (nI b)), none, none]) (st' := [.int (-2)]) (h' := (shT, fi, fl, fr)) rfl ?_
    refine gp_done (g_ret rfl) ?_
    rfl
  · rw [hk] at hs
    have hs : Ev pmT 161 [.long K, .int (nI b)] (shT, fi, fl, fr) (some (.int 1)) (shT, fi, fl, fr) := hs
    rw [if_pos rfl]
    refine gp_n 2 (j' := 2) (lv' := [some (.ref 70), some (.int (nI b)), none, none]) (st' := [.int (nI b), .ref 70]) (h' := (shT, fi, fl, fr)) rfl ?_
    refine gp_of (fun _ k9 => g_call (y := 168) (as := [.ref 70, .int (nI b)]) (st' := []) rfl rfl (t1) k9) ?_
    refine gp_of (fun _ k9 => g_ift rfl (show ¬ (1 : Int32) = (0 : Int32) from by decide) k9) ?_
    refine gp_n 1 (j' := 7) (lv' := [some (.ref 70), some (.int (nI b)), none, none]) (st' := [.ref 70]) (h' := (shT, fi, fl, fr)) rfl ?_
    refine gp_of (fun _ k9 => g_getL (x := K) rfl rfl (by decide) (c7) k9) ?_
    refine gp_n 1 (j' := 9) (lv' := [some (.ref 70), some (.int (nI b)), none, none]) (st' := [.int (nI b), .long K]) (h' := (shT, fi, fl, fr)) rfl ?_
    refine gp_of (fun _ k9 => g_call (y := 161) (as := [.long K, .int (nI b)]) (st' := []) rfl rfl (hs) k9) ?_
    refine gp_of (fun _ k9 => g_ift rfl (show ¬ (1 : Int32) = (0 : Int32) from by decide) k9) ?_
    refine gp_n 4 (j' := 17) (lv' := [some (.ref 70), some (.int (nI b)), some (.int (nI (cntb K 0))), some (.int (nI 0))]) (st' := []) (h' := (shT, fi, fl, fr)) rfl ?_
    exact gp_done g rfl
section PAIR3
variable {h : PmH} {a : AB}
theorem p_kept (x : Int32) (hr : REL2 h a) : PI 53 169 [.int x] h (fun x y => x = y) := by
  obtain ⟨⟨hI, hC, hM, hA⟩, hV⟩ := id hr
  by_cases hc : 0 ≤ x ∧ x < (a_v a).1 1
  · obtain ⟨b, b1, rfl, -⟩ := ix_of (n_le hI hC) hc
    exact ⟨_, _, h, h, a, ke_C1 hI hC b1 hc, ke_M1 hI hM b1 hc, hr, hI, rfl⟩
  · exact ⟨_, _, h, h, a, ke_C0 hI hC hc, ke_M0 hI hM hc, hr, hI, rfl⟩
end PAIR3
