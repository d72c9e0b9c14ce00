def mqI (a : AB) (m k c : Nat) (x : SQ) (h : PmH) : Prop := HI hdT shT h ∧ mcI (a_v a).2.1 m (a_v a).2.2 h ∧ ph_i h 70 16 = nI k ∧ ph_i h 70 17 = nI c ∧ ph_i h 70 18 = (a_v a).1 4 ∧ ph_i h 70 45 = nI x.1 ∧ ∀ j, j < x.1 → ph_l h 87 j = x.2.2.2.1 j ∧ ph_i h 88 j = (if x.2.2.2.2 j = true then nI (x.2.2.1 j) else -1) ∧ ph_i h 89 j = nI (x.2.1 j)
theorem qE_lt {x : SQ} {i j : Nat} (hi : x.2.2.1 i ≤ 64) (hj : x.2.2.1 j ≤ 64) : cdE (qE x i) < cdE (qE x j) ↔ x.2.1 i < x.2.1 j ∨ (x.2.1 i = x.2.1 j ∧ (x.2.2.1 j < x.2.2.1 i ∨ (x.2.2.1 i = x.2.2.1 j ∧ rvB (x.2.2.2.1 i) 64 < rvB (x.2.2.2.1 j) 64))) := by
  rw [cd_lt]
  show 128 * x.2.1 i + (64 - x.2.2.1 i) < 128 * x.2.1 j + (64 - x.2.2.1 j) ∨ (128 * x.2.1 i + (64 - x.2.2.1 i) = 128 * x.2.1 j + (64 - x.2.2.1 j) ∧ rvB (x.2.2.2.1 i) 64 < rvB (x.2.2.2.1 j) 64) ↔ _
  omega
theorem iaL_go {u : Int64} {p q : Int32} {i0 : Nat} {h : PmH} (h64 : i0 < 64) (hx : bl u i0 = true) (hl : ∀ j, j < i0 → bl u j = false) : ∀ (n i : Nat), i + n = i0 → ∀ r, Go pmT none cd_221 62 [some (.ref 70), some (.int p), some (.int q), some (.long u), none, some (.int (nI i0))] [] h r → Go pmT none cd_221 56 [some (.ref 70), some (.int p), some (.int q), some (.long u), none, some (.int (nI i))] [] h r := by
  intro n
  induction n with
  | zero =>
    intro i hi r k
    have hi : i = i0 := by omega
    subst hi
    have hs := has_ev (v := u) (i := nI i) (h := h)
    rw [hasf_bit h64, hx, if_pos rfl] at hs
    refine go_of ?_
    refine gp_n 2 (j' := 58) (lv' := [some (.ref 70), some (.int p), some (.int q), some (.long u), none, some (.int (nI i))]) (st' := [.int (nI i), .long u]) (h' := h) rfl ?_
    refine gp_of (fun _ k9 => g_call (y := 161) (as := [.long u, .int (nI i)]) (st' := []) rfl rfl (hs) k9) ?_
    refine gp_of (fun _ k9 => g_ift rfl (show ¬ (1 : Int32) = (0 : Int32) from by decide) k9) ?_
    exact gp_done k rfl
  | succ n ih =>
    intro i hi r k
    have g := ih (i + 1) (by omega) r k
    have hs := has_ev (v := u) (i := nI i) (h := h)
    rw [hasf_bit (by omega), hl i (by omega), if_neg (by decide)] at hs
    refine go_of ?_
    refine gp_n 2 (j' := 58) (lv' := [some (.ref 70), some (.int p), some (.int q), some (.long u), none, some (.int (nI i))]) (st' := [.int (nI i), .long u]) (h' := h) rfl ?_
    refine gp_of (fun _ k9 => g_call (y := 161) (as := [.long u, .int (nI i)]) (st' := []) rfl rfl (hs) k9) ?_
    refine gp_of (fun _ k9 => g_iff rfl (show ¬ (¬ (0 : Int32) = (0 : Int32)) from by decide) k9) ?_
    refine gp_n 2 (j' := 56) (lv' := [some (.ref 70), some (.int p), some (.int q), some (.long u), none, some (.int ((nI i) + 1))]) (st' := []) (h' := h) rfl ?_
    rw [nI_1]
    exact gp_done g rfl
theorem iaM_ev {a : AB} {m k c i j : Nat} {x : SQ} {h : PmH} (hm : m ≤ 6) (hx : mqI a m k c x h) (hq : QI (a_v a).2.1 (2 ^ m) x) (hn : x.1 ≤ 3100) (hi : i < x.1) (hj : j < x.1) (hij : ¬ i = j) (li : x.2.2.2.2 i = true) (lj : x.2.2.2.2 j = true) : Ev pmT 221 [.ref 70, .int (nI i), .int (nI j)] h (some (.int (b01 (decide (cdE (qE x i) < cdE (qE x j)))))) h := by
  have p6 := pw_6 m (by omega)
  obtain ⟨hI, -, -, -, -, -, hc⟩ := hx
  obtain ⟨i1, i2, i3⟩ := hc i hi
  obtain ⟨j1, j2, j3⟩ := hc j hj
  rw [li, if_pos rfl] at i2
  rw [lj, if_pos rfl] at j2
  obtain ⟨a1, a2, -⟩ := hq.1 i hi li
  obtain ⟨b1, b2, -⟩ := hq.1 j hj lj
  obtain ⟨t, t1, t2, t3⟩ := hq.2 i j hi hj hij li lj
  have ql := qE_lt (x := x) (i := i) (j := j) (by omega) (by omega)
  have k42 : ph_r h 70 42 = some 87 := hi_r hI rfl rfl (by decide)
  have k43 : ph_r h 70 43 = some 88 := hi_r hI rfl rfl (by decide)
  have k44 : ph_r h 70 44 = some 89 := hi_r hI rfl rfl (by decide)
  have nb : ¬ x.2.2.2.1 i = x.2.2.2.1 j := fun z => t3 (by rw [z])
  obtain ⟨i0, f1, f2, f3⟩ := fst_ne nb
  have ux : bl (x.2.2.2.1 i ^^^ x.2.2.2.1 j) i0 = true := by
    rw [bl_xor]
    cases hu : bl (x.2.2.2.1 i) i0 <;> cases hv : bl (x.2.2.2.1 j) i0 <;> rw [hu, hv] at f3 <;> first | rfl | exact absurd rfl f3
  have ul : ∀ t, t < i0 → bl (x.2.2.2.1 i ^^^ x.2.2.2.1 j) t = false := fun t ht => by rw [bl_xor, f2 t ht, Bool.xor_self]
  have rvt : bl (x.2.2.2.1 i) i0 = false → rvB (x.2.2.2.1 i) 64 < rvB (x.2.2.2.1 j) 64 := fun z => rvB_ls f2 z (by
    cases hv : bl (x.2.2.2.1 j) i0
    · rw [z, hv] at f3
      exact absurd rfl f3
    · rfl) 64 f1
  have rvf : bl (x.2.2.2.1 i) i0 = true → rvB (x.2.2.2.1 j) 64 < rvB (x.2.2.2.1 i) 64 := fun z => rvB_ls (fun t ht => (f2 t ht).symm) (by
    cases hv : bl (x.2.2.2.1 j) i0
    · rfl
    · rw [z, hv] at f3
      exact absurd rfl f3) z 64 f1
  have hs := has_ev (v := x.2.2.2.1 i) (i := nI i0) (h := h)
  rw [hasf_bit f1] at hs
  have lg := fun r => iaL_go (p := nI i) (q := nI j) (h := h) f1 ux ul i0 0 (by omega) r
  clear hc hq t1 t2 t3 f2 f3 ux ul nb
  obtain ⟨S, fi, fl, fr⟩ := h
  have hS : S = shT := hI.1
  subst hS
  have i1 : fl 87 i = x.2.2.2.1 i := i1
  have j1 : fl 87 j = x.2.2.2.1 j := j1
  have i2 : fi 88 i = nI (x.2.2.1 i) := i2
  have j2 : fi 88 j = nI (x.2.2.1 j) := j2
  have i3 : fi 89 i = nI (x.2.1 i) := i3
  have j3 : fi 89 j = nI (x.2.1 j) := j3
  have k42 : fr 70 42 = some 87 := k42
  have k43 : fr 70 43 = some 88 := k43
  have k44 : fr 70 44 = some 89 := k44
  generalize cdE (qE x i) = ci at *
  generalize cdE (qE x j) = cj at *
  generalize x.2.1 i = Mi at *
  generalize x.2.1 j = Mj at *
  generalize x.2.2.1 i = di at *
  generalize x.2.2.1 j = dj at *
  generalize x.2.2.2.1 i = u at *
  generalize x.2.2.2.1 j = v at *
  refine Ev.of (es := cd_221) (ml := 6) (lv := [some (.ref 70), some (.int (nI i)), some (.int (nI j)), none, none, none]) rfl rfl rfl ?_
  rcases Nat.lt_trichotomy Mi Mj with zM | zM | zM
  · rw [decide_eq_true (ql.mpr (Or.inl zM))]
    have ne : ¬ nI Mi = nI Mj := fun y => by
      have := (nI_eq (by omega) (by omega)).mp y
      omega
    have lt : ¬ nI Mj ≤ nI Mi := nI_ge zM (by omega)
    refine go_of ?_
    refine gp_n 1 (j' := 1) (lv' := [some (.ref 70), some (.int (nI i)), some (.int (nI j)), none, none, none]) (st' := [.ref 70]) (h' := (shT, fi, fl, fr)) rfl ?_
    refine gp_of (fun _ k9 => g_getR (q' := 89) rfl rfl (by decide) k44 k9) ?_
    refine gp_n 1 (j' := 3) (lv' := [some (.ref 70), some (.int (nI i)), some (.int (nI j)), none, none, none]) (st' := [.int (nI i), .ref 89]) (h' := (shT, fi, fl, fr)) rfl ?_
    refine gp_of (fun _ k9 => g_iald (k := i) (x := nI Mi) rfl rfl (rfl) (by omega) (by decide) (i3) k9) ?_
    refine gp_n 1 (j' := 5) (lv' := [some (.ref 70), some (.int (nI i)), some (.int (nI j)), none, none, none]) (st' := [.ref 70, .int (nI Mi)]) (h' := (shT, fi, fl, fr)) rfl ?_
    refine gp_of (fun _ k9 => g_getR (q' := 89) rfl rfl (by decide) k44 k9) ?_
    refine gp_n 1 (j' := 7) (lv' := [some (.ref 70), some (.int (nI i)), some (.int (nI j)), none, none, none]) (st' := [.int (nI j), .ref 89, .int (nI Mi)]) (h' := (shT, fi, fl, fr)) rfl ?_
    refine gp_of (fun _ k9 => g_iald (k := j) (x := nI Mj) rfl rfl (rfl) (by omega) (by decide) (j3) k9) ?_
    refine gp_of (fun _ k9 => g_icf rfl (show ¬ ((nI Mi) = (nI Mj)) from ne) k9) ?_
    refine gp_n 1 (j' := 10) (lv' := [some (.ref 70), some (.int (nI i)), some (.int (nI j)), none, none, none]) (st' := [.ref 70]) (h' := (shT, fi, fl, fr)) rfl ?_
    refine gp_of (fun _ k9 => g_getR (q' := 89) rfl rfl (by decide) k44 k9) ?_
    refine gp_n 1 (j' := 12) (lv' := [some (.ref 70), some (.int (nI i)), some (.int (nI j)), none, none, none]) (st' := [.int (nI i), .ref 89]) (h' := (shT, fi, fl, fr)) rfl ?_
    refine gp_of (fun _ k9 => g_iald (k := i) (x := nI Mi) rfl rfl (rfl) (by omega) (by decide) (i3) k9) ?_
    refine gp_n 1 (j' := 14) (lv' := [some (.ref 70), some (.int (nI i)), some (.int (nI j)), none, none, none]) (st' := [.ref 70, .int (nI Mi)]) (h' := (shT, fi, fl, fr)) rfl ?_
    refine gp_of (fun _ k9 => g_getR (q' := 89) rfl rfl (by decide) k44 k9) ?_
    refine gp_n 1 (j' := 16) (lv' := [some (.ref 70), some (.int (nI i)), some (.int (nI j)), none, none, none]) (st' := [.int (nI j), .ref 89, .int (nI Mi)]) (h' := (shT, fi, fl, fr)) rfl ?_
    refine gp_of (fun _ k9 => g_iald (k := j) (x := nI Mj) rfl rfl (rfl) (by omega) (by decide) (j3) k9) ?_
    refine gp_of (fun _ k9 => g_icf rfl (show ¬ ((nI Mj) ≤ (nI Mi)) from lt) k9) ?_
    refine gp_n 2 (j' := 21) (lv' := [some (.ref 70), some (.int (nI i)), some (.int (nI j)), none, none, none]) (st' := [.int 1]) (h' := (shT, fi, fl, fr)) rfl ?_
    refine gp_done (g_retz rfl (by decide)) ?_
    rfl
  · subst zM
    rcases Nat.lt_trichotomy di dj with zd | zd | zd
    · rw [decide_eq_false (fun z => by have := ql.mp z; omega)]
      have ne : ¬ nI di = nI dj := fun y => by
        have := (nI_eq (by omega) (by omega)).mp y
        omega
      have le : nI di ≤ nI dj := nI_le (by omega) (by omega)
      refine go_of ?_
      refine gp_n 1 (j' := 1) (lv' := [some (.ref 70), some (.int (nI i)), some (.int (nI j)), none, none, none]) (st' := [.ref 70]) (h' := (shT, fi, fl, fr)) rfl ?_
      refine gp_of (fun _ k9 => g_getR (q' := 89) rfl rfl (by decide) k44 k9) ?_
      refine gp_n 1 (j' := 3) (lv' := [some (.ref 70), some (.int (nI i)), some (.int (nI j)), none, none, none]) (st' := [.int (nI i), .ref 89]) (h' := (shT, fi, fl, fr)) rfl ?_
      refine gp_of (fun _ k9 => g_iald (k := i) (x := nI Mi) rfl rfl (rfl) (by omega) (by decide) (i3) k9) ?_
      refine gp_n 1 (j' := 5) (lv' := [some (.ref 70), some (.int (nI i)), some (.int (nI j)), none, none, none]) (st' := [.ref 70, .int (nI Mi)]) (h' := (shT, fi, fl, fr)) rfl ?_
      refine gp_of (fun _ k9 => g_getR (q' := 89) rfl rfl (by decide) k44 k9) ?_
      refine gp_n 1 (j' := 7) (lv' := [some (.ref 70), some (.int (nI i)), some (.int (nI j)), none, none, none]) (st' := [.int (nI j), .ref 89, .int (nI Mi)]) (h' := (shT, fi, fl, fr)) rfl ?_
      refine gp_of (fun _ k9 => g_iald (k := j) (x := nI Mi) rfl rfl (rfl) (by omega) (by decide) (j3) k9) ?_
      refine gp_of (fun _ k9 => g_ict rfl (show (nI Mi) = (nI Mi) from rfl) k9) ?_
      refine gp_n 1 (j' := 23) (lv' := [some (.ref 70), some (.int (nI i)), some (.int (nI j)), none, none, none]) (st' := [.ref 70]) (h' := (shT, fi, fl, fr)) rfl ?_
      refine gp_of (fun _ k9 => g_getR (q' := 88) rfl rfl (by decide) k43 k9) ?_
      refine gp_n 1 (j' := 25) (lv' := [some (.ref 70), some (.int (nI i)), some (.int (nI j)), none, none, none]) (st' := [.int (nI i), .ref 88]) (h' := (shT, fi, fl, fr)) rfl ?_
      refine gp_of (fun _ k9 => g_iald (k := i) (x := nI di) rfl rfl (rfl) (by omega) (by decide) (i2) k9) ?_
      refine gp_n 1 (j' := 27) (lv' := [some (.ref 70), some (.int (nI i)), some (.int (nI j)), none, none, none]) (st' := [.ref 70, .int (nI di)]) (h' := (shT, fi, fl, fr)) rfl ?_
      refine gp_of (fun _ k9 => g_getR (q' := 88) rfl rfl (by decide) k43 k9) ?_
      refine gp_n 1 (j' := 29) (lv' := [some (.ref 70), some (.int (nI i)), some (.int (nI j)), none, none, none]) (st' := [.int (nI j), .ref 88, .int (nI di)]) (h' := (shT, fi, fl, fr)) rfl ?_
      refine gp_of (fun _ k9 => g_iald (k := j) (x := nI dj) rfl rfl (rfl) (by omega) (by decide) (j2) k9) ?_
      refine gp_of (fun _ k9 => g_icf rfl (show ¬ ((nI di) = (nI dj)) from ne) k9) ?_
      refine gp_n 1 (j' := 32) (lv' := [some (.ref 70), some (.int (nI i)), some (.int (nI j)), none, none, none]) (st' := [.ref 70]) (h' := (shT, fi, fl, fr)) rfl ?_
      refine gp_of (fun _ k9 => g_getR (q' := 88) rfl rfl (by decide) k43 k9) ?_
      refine gp_n 1 (j' := 34) (lv' := [some (.ref 70), some (.int (nI i)), some (.int (nI j)), none, none, none]) (st' := [.int (nI i), .ref 88]) (h' := (shT, fi, fl, fr)) rfl ?_
      refine gp_of (fun _ k9 => g_iald (k := i) (x := nI di) rfl rfl (rfl) (by omega) (by decide) (i2) k9) ?_
      refine gp_n 1 (j' := 36) (lv' := [some (.ref 70), some (.int (nI i)), some (.int (nI j)), none, none, none]) (st' := [.ref 70, .int (nI di)]) (h' := (shT, fi, fl, fr)) rfl ?_
      refine gp_of (fun _ k9 => g_getR (q' := 88) rfl rfl (by decide) k43 k9) ?_
      refine gp_n 1 (j' := 38) (lv' := [some (.ref 70), some (.int (nI i)), some (.int (nI j)), none, none, none]) (st' := [.int (nI j), .ref 88, .int (nI di)]) (h' := (shT, fi, fl, fr)) rfl ?_
      refine gp_of (fun _ k9 => g_iald (k := j) (x := nI dj) rfl rfl (rfl) (by omega) (by decide) (j2) k9) ?_
      refine gp_of (fun _ k9 => g_ict rfl (show (nI di) ≤ (nI dj) from le) k9) ?_
      refine gp_n 1 (j' := 43) (lv' := [some (.ref 70), some (.int (nI i)), some (.int (nI j)), none, none, none]) (st' := [.int 0]) (h' := (shT, fi, fl, fr)) rfl ?_
      refine gp_done (g_retz rfl (by decide)) ?_
      rfl
    · subst zd
      cases hb : bl u i0
      · rw [hb, if_neg (by decide)] at hs
        have rvt := rvt hb
        rw [decide_eq_true (ql.mpr (Or.inr ⟨rfl, Or.inr ⟨rfl, rvt⟩⟩))]
        have lg := lg (some (.int 1), (shT, fi, fl, fr)) (by
          refine go_of ?_
          refine gp_n 1 (j' := 63) (lv' := [some (.ref 70), some (.int (nI i)), some (.int (nI j)), some (.long (u ^^^ v)), none, some (.int (nI i0))]) (st' := [.ref 70]) (h' := (shT, fi, fl, fr)) rfl ?_
          refine gp_of (fun _ k9 => g_getR (q' := 87) rfl rfl (by decide) k42 k9) ?_
          refine gp_n 1 (j' := 65) (lv' := [some (.ref 70), some (.int (nI i)), some (.int (nI j)), some (.long (u ^^^ v)), none, some (.int (nI i0))]) (st' := [.int (nI i), .ref 87]) (h' := (shT, fi, fl, fr)) rfl ?_
          refine gp_of (fun _ k9 => g_lald (k := i) (x := u) rfl rfl (rfl) (by omega) (by decide) (i1) k9) ?_
          refine gp_n 1 (j' := 67) (lv' := [some (.ref 70), some (.int (nI i)), some (.int (nI j)), some (.long (u ^^^ v)), none, some (.int (nI i0))]) (st' := [.int (nI i0), .long u]) (h' := (shT, fi, fl, fr)) rfl ?_
          refine gp_of (fun _ k9 => g_call (y := 161) (as := [.long u, .int (nI i0)]) (st' := []) rfl rfl (hs) k9) ?_
          refine gp_of (fun _ k9 => g_iff rfl (show ¬ (¬ (0 : Int32) = (0 : Int32)) from by decide) k9) ?_
          refine gp_n 2 (j' := 72) (lv' := [some (.ref 70), some (.int (nI i)), some (.int (nI j)), some (.long (u ^^^ v)), none, some (.int (nI i0))]) (st' := [.int 1]) (h' := (shT, fi, fl, fr)) rfl ?_
          refine gp_done (g_retz rfl (by decide)) ?_
          rfl)
        refine go_of ?_
        refine gp_n 1 (j' := 1) (lv' := [some (.ref 70), some (.int (nI i)), some (.int (nI j)), none, none, none]) (st' := [.ref 70]) (h' := (shT, fi, fl, fr)) rfl ?_
        refine gp_of (fun _ k9 => g_getR (q' := 89) rfl rfl (by decide) k44 k9) ?_
        refine gp_n 1 (j' := 3) (lv' := [some (.ref 70), some (.int (nI i)), some (.int (nI j)), none, none, none]) (st' := [.int (nI i), .ref 89]) (h' := (shT, fi, fl, fr)) rfl ?_
        refine gp_of (fun _ k9 => g_iald (k := i) (x := nI Mi) rfl rfl (rfl) (by omega) (by decide) (i3) k9) ?_
        refine gp_n 1 (j' := 5) (lv' := [some (.ref 70), some (.int (nI i)), some (.int (nI j)), none, none, none]) (st' := [.ref 70, .int (nI Mi)]) (h' := (shT, fi, fl, fr)) rfl ?_
        refine gp_of (fun _ k9 => g_getR (q' := 89) rfl rfl (by decide) k44 k9) ?_
        refine gp_n 1 (j' := 7) (lv' := [some (.ref 70), some (.int (nI i)), some (.int (nI j)), none, none, none]) (st' := [.int (nI j), .ref 89, .int (nI Mi)]) (h' := (shT, fi, fl, fr)) rfl ?_
        refine gp_of (fun _ k9 => g_iald (k := j) (x := nI Mi) rfl rfl (rfl) (by omega) (by decide) (j3) k9) ?_
        refine gp_of (fun _ k9 => g_ict rfl (show (nI Mi) = (nI Mi) from rfl) k9) ?_
        refine gp_n 1 (j' := 23) (lv' := [some (.ref 70), some (.int (nI i)), some (.int (nI j)), none, none, none]) (st' := [.ref 70]) (h' := (shT, fi, fl, fr)) rfl ?_
        refine gp_of (fun _ k9 => g_getR (q' := 88) rfl rfl (by decide) k43 k9) ?_
        refine gp_n 1 (j' := 25) (lv' := [some (.ref 70), some (.int (nI i)), some (.int (nI j)), none, none, none]) (st' := [.int (nI i), .ref 88]) (h' := (shT, fi, fl, fr)) rfl ?_
        refine gp_of (fun _ k9 => g_iald (k := i) (x := nI di) rfl rfl (rfl) (by omega) (by decide) (i2) k9) ?_
        refine gp_n 1 (j' := 27) (lv' := [some (.ref 70), some (.int (nI i)), some (.int (nI j)), none, none, none]) (st' := [.ref 70, .int (nI di)]) (h' := (shT, fi, fl, fr)) rfl ?_
        refine gp_of (fun _ k9 => g_getR (q' := 88) rfl rfl (by decide) k43 k9) ?_
        refine gp_n 1 (j' := 29) (lv' := [some (.ref 70), some (.int (nI i)), some (.int (nI j)), none, none, none]) (st' := [.int (nI j), .ref 88, .int (nI di)]) (h' := (shT, fi, fl, fr)) rfl ?_
        refine gp_of (fun _ k9 => g_iald (k := j) (x := nI di) rfl rfl (rfl) (by omega) (by decide) (j2) k9) ?_
        refine gp_of (fun _ k9 => g_ict rfl (show (nI di) = (nI di) from rfl) k9) ?_
        refine gp_n 1 (j' := 45) (lv' := [some (.ref 70), some (.int (nI i)), some (.int (nI j)), none, none, none]) (st' := [.ref 70]) (h' := (shT, fi, fl, fr)) rfl ?_
        refine gp_of (fun _ k9 => g_getR (q' := 87) rfl rfl (by decide) k42 k9) ?_
        refine gp_n 1 (j' := 47) (lv' := [some (.ref 70), some (.int (nI i)), some (.int (nI j)), none, none, none]) (st' := [.int (nI i), .ref 87]) (h' := (shT, fi, fl, fr)) rfl ?_
        refine gp_of (fun _ k9 => g_lald (k := i) (x := u) rfl rfl (rfl) (by omega) (by decide) (i1) k9) ?_
        refine gp_n 1 (j' := 49) (lv' := [some (.ref 70), some (.int (nI i)), some (.int (nI j)), none, none, none]) (st' := [.ref 70, .long u]) (h' := (shT, fi, fl, fr)) rfl ?_
        refine gp_of (fun _ k9 => g_getR (q' := 87) rfl rfl (by decide) k42 k9) ?_
        refine gp_n 1 (j' := 51) (lv' := [some (.ref 70), some (.int (nI i)), some (.int (nI j)), none, none, none]) (st' := [.int (nI j), .ref 87, .long u]) (h' := (shT, fi, fl, fr)) rfl ?_
        refine gp_of (fun _ k9 => g_lald (k := j) (x := v) rfl rfl (rfl) (by omega) (by decide) (j1) k9) ?_
        refine gp_n 4 (j' := 56) (lv' := [some (.ref 70), some (.int (nI i)), some (.int (nI j)), some (.long (u ^^^ v)), none, some (.int (nI 0))]) (st' := []) (h' := (shT, fi, fl, fr)) rfl ?_
        exact gp_done lg rfl
      · rw [hb, if_pos rfl] at hs
        have rvf := rvf hb
        rw [decide_eq_false (fun z => by have := ql.mp z; omega)]
        have lg := lg (some (.int 0), (shT, fi, fl, fr)) (by
          refine go_of ?_
          refine gp_n 1 (j' := 63) (lv' := [some (.ref 70), some (.int (nI i)), some (.int (nI j)), some (.long (u ^^^ v)), none, some (.int (nI i0))]) (st' := [.ref 70]) (h' := (shT, fi, fl, fr)) rfl ?_
          refine gp_of (fun _ k9 => g_getR (q' := 87) rfl rfl (by decide) k42 k9) ?_
          refine gp_n 1 (j' := 65) (lv' := [some (.ref 70), some (.int (nI i)), some (.int (nI j)), some (.long (u ^^^ v)), none, some (.int (nI i0))]) (st' := [.int (nI i), .ref 87]) (h' := (shT, fi, fl, fr)) rfl ?_
          refine gp_of (fun _ k9 => g_lald (k := i) (x := u) rfl rfl (rfl) (by omega) (by decide) (i1) k9) ?_
          refine gp_n 1 (j' := 67) (lv' := [some (.ref 70), some (.int (nI i)), some (.int (nI j)), some (.long (u ^^^ v)), none, some (.int (nI i0))]) (st' := [.int (nI i0), .long u]) (h' := (shT, fi, fl, fr)) rfl ?_
          refine gp_of (fun _ k9 => g_call (y := 161) (as := [.long u, .int (nI i0)]) (st' := []) rfl rfl (hs) k9) ?_
          refine gp_of (fun _ k9 => g_ift rfl (show ¬ (1 : Int32) = (0 : Int32) from by decide) k9) ?_
          refine gp_n 1 (j' := 72) (lv' := [some (.ref 70), some (.int (nI i)), some (.int (nI j)), some (.long (u ^^^ v)), none, some (.int (nI i0))]) (st' := [.int 0]) (h' := (shT, fi, fl, fr)) rfl ?_
          refine gp_done (g_retz rfl (by decide)) ?_
          rfl)
        refine go_of ?_
        refine gp_n 1 (j' := 1) (lv' := [some (.ref 70), some (.int (nI i)), some (.int (nI j)), none, none, none]) (st' := [.ref 70]) (h' := (shT, fi, fl, fr)) rfl ?_
        refine gp_of (fun _ k9 => g_getR (q' := 89) rfl rfl (by decide) k44 k9) ?_
        refine gp_n 1 (j' := 3) (lv' := [some (.ref 70), some (.int (nI i)), some (.int (nI j)), none, none, none]) (st' := [.int (nI i), .ref 89]) (h' := (shT, fi, fl, fr)) rfl ?_
        refine gp_of (fun _ k9 => g_iald (k := i) (x := nI Mi) rfl rfl (rfl) (by omega) (by decide) (i3) k9) ?_
        refine gp_n 1 (j' := 5) (lv' := [some (.ref 70), some (.int (nI i)), some (.int (nI j)), none, none, none]) (st' := [.ref 70, .int (nI Mi)]) (h' := (shT, fi, fl, fr)) rfl ?_
        refine gp_of (fun _ k9 => g_getR (q' := 89) rfl rfl (by decide) k44 k9) ?_
        refine gp_n 1 (j' := 7) (lv' := [some (.ref 70), some (.int (nI i)), some (.int (nI j)), none, none, none]) (st' := [.int (nI j), .ref 89, .int (nI Mi)]) (h' := (shT, fi, fl, fr)) rfl ?_
        refine gp_of (fun _ k9 => g_iald (k := j) (x := nI Mi) rfl rfl (rfl) (by omega) (by decide) (j3) k9) ?_
        refine gp_of (fun _ k9 => g_ict rfl (show (nI Mi) = (nI Mi) from rfl) k9) ?_
        refine gp_n 1 (j' := 23) (lv' := [some (.ref 70), some (.int (nI i)), some (.int (nI j)), none, none, none]) (st' := [.ref 70]) (h' := (shT, fi, fl, fr)) rfl ?_
        refine gp_of (fun _ k9 => g_getR (q' := 88) rfl rfl (by decide) k43 k9) ?_
        refine gp_n 1 (j' := 25) (lv' := [some (.ref 70), some (.int (nI i)), some (.int (nI j)), none, none, none]) (st' := [.int (nI i), .ref 88]) (h' := (shT, fi, fl, fr)) rfl ?_
        refine gp_of (fun _ k9 => g_iald (k := i) (x := nI di) rfl rfl (rfl) (by omega) (by decide) (i2) k9) ?_
        refine gp_n 1 (j' := 27) (lv' := [some (.ref 70), some (.int (nI i)), some (.int (nI j)), none, none, none]) (st' := [.ref 70, .int (nI di)]) (h' := (shT, fi, fl, fr)) rfl ?_
        refine gp_of (fun _ k9 => g_getR (q' := 88) rfl rfl (by decide) k43 k9) ?_
        refine gp_n 1 (j' := 29) (lv' := [some (.ref 70), some (.int (nI i)), some (.int (nI j)), none, none, none]) (st' := [.int (nI j), .ref 88, .int (nI di)]) (h' := (shT, fi, fl, fr)) rfl ?_
        refine gp_of (fun _ k9 => g_iald (k := j) (x := nI di) rfl rfl (rfl) (by omega) (by decide) (j2) k9) ?_
        refine gp_of (fun _ k9 => g_ict rfl (show (nI di) = (nI di) from rfl) k9) ?_
        refine gp_n 1 (j' := 45) (lv' := [some (.ref 70), some (.int (nI i)), some (.int (nI j)), none, none, none]) (st' := [.ref 70]) (h' := (shT, fi, fl, fr)) rfl ?_
        refine gp_of (fun _ k9 => g_getR (q' := 87) rfl rfl (by decide) k42 k9) ?_
        refine gp_n 1 (j' := 47) (lv' := [some (.ref 70), some (.int (nI i)), some (.int (nI j)), none, none, none]) (st' := [.int (nI i), .ref 87]) (h' := (shT, fi, fl, fr)) rfl ?_
        refine gp_of (fun _ k9 => g_lald (k := i) (x := u) rfl rfl (rfl) (by omega) (by decide) (i1) k9) ?_
        refine gp_n 1 (j' := 49) (lv' := [some (.ref 70), some (.int (nI i)), some (.int (nI j)), none, none, none]) (st' := [.ref 70, .long u]) (h' := (shT, fi, fl, fr)) rfl ?_
        refine gp_of (fun _ k9 => g_getR (q' := 87) rfl rfl (by decide) k42 k9) ?_
        refine gp_n 1 (j' := 51) (lv' := [some (.ref 70), some (.int (nI i)), some (.int (nI j)), none, none, none]) (st' := [.int (nI j), .ref 87, .long u]) (h' := (shT, fi, fl, fr)) rfl ?_
        refine gp_of (fun _ k9 => g_lald (k := j) (x := v) rfl rfl (rfl) (by omega) (by decide) (j1) k9) ?_
        refine gp_n 4 (j' := 56) (lv' := [some (.ref 70), some (.int (nI i)), some (.int (nI j)), some (.long (u ^^^ v)), none, some (.int (nI 0))]) (st' := []) (h' := (shT, fi, fl, fr)) rfl ?_
        exact gp_done lg rfl
    · rw [decide_eq_true (ql.mpr (Or.inr ⟨rfl, Or.inl zd⟩))]
      have ne : ¬ nI di = nI dj := fun y => by
        have := (nI_eq (by omega) (by omega)).mp y
        omega
      have gt : ¬ nI di ≤ nI dj := nI_ge zd (by omega)
      refine go_of ?_
      refine gp_n 1 (j' := 1) (lv' := [some (.ref 70), some (.int (nI i)), some (.int (nI j)), none, none, none]) (st' := [.ref 70]) (h' := (shT, fi, fl, fr)) rfl ?_
      refine gp_of (fun _ k9 => g_getR (q' := 89) rfl rfl (by decide) k44 k9) ?_
      refine gp_n 1 (j' := 3) (lv' := [some (.ref 70), some (.int (nI i)), some (.int (nI j)), none, none, none]) (st' := [.int (nI i), .ref 89]) (h' := (shT, fi, fl, fr)) rfl ?_
      refine gp_of (fun _ k9 => g_iald (k := i) (x := nI Mi) rfl rfl (rfl) (by omega) (by decide) (i3) k9) ?_
      refine gp_n 1 (j' := 5) (lv' := [some (.ref 70), some (.int (nI i)), some (.int (nI j)), none, none, none]) (st' := [.ref 70, .int (nI Mi)]) (h' := (shT, fi, fl, fr)) rfl ?_
      refine gp_of (fun _ k9 => g_getR (q' := 89) rfl rfl (by decide) k44 k9) ?_
      refine gp_n 1 (j' := 7) (lv' := [some (.ref 70), some (.int (nI i)), some (.int (nI j)), none, none, none]) (st' := [.int (nI j), .ref 89, .int (nI Mi)]) (h' := (shT, fi, fl, fr)) rfl ?_
      refine gp_of (fun _ k9 => g_iald (k := j) (x := nI Mi) rfl rfl (rfl) (by omega) (by decide) (j3) k9) ?_
      refine gp_of (fun _ k9 => g_ict rfl (show (nI Mi) = (nI Mi) from rfl) k9) ?_
      refine gp_n 1 (j' := 23) (lv' := [some (.ref 70), some (.int (nI i)), some (.int (nI j)), none, none, none]) (st' := [.ref 70]) (h' := (shT, fi, fl, fr)) rfl ?_
      refine gp_of (fun _ k9 => g_getR (q' := 88) rfl rfl (by decide) k43 k9) ?_
      refine gp_n 1 (j' := 25) (lv' := [some (.ref 70), some (.int (nI i)), some (.int (nI j)), none, none, none]) (st' := [.int (nI i), .ref 88]) (h' := (shT, fi, fl, fr)) rfl ?_
      refine gp_of (fun _ k9 => g_iald (k := i) (x := nI di) rfl rfl (rfl) (by omega) (by decide) (i2) k9) ?_
      refine gp_n 1 (j' := 27) (lv' := [some (.ref 70), some (.int (nI i)), some (.int (nI j)), none, none, none]) (st' := [.ref 70, .int (nI di)]) (h' := (shT, fi, fl, fr)) rfl ?_
      refine gp_of (fun _ k9 => g_getR (q' := 88) rfl rfl (by decide) k43 k9) ?_
      refine gp_n 1 (j' := 29) (lv' := [some (.ref 70), some (.int (nI i)), some (.int (nI j)), none, none, none]) (st' := [.int (nI j), .ref 88, .int (nI di)]) (h' := (shT, fi, fl, fr)) rfl ?_
      refine gp_of (fun _ k9 => g_iald (k := j) (x := nI dj) rfl rfl (rfl) (by omega) (by decide) (j2) k9) ?_
      refine gp_of (fun _ k9 => g_icf rfl (show ¬ ((nI di) = (nI dj)) from ne) k9) ?_
      refine gp_n 1 (j' := 32) (lv' := [some (.ref 70), some (.int (nI i)), some (.int (nI j)), none, none, none]) (st' := [.ref 70]) (h' := (shT, fi, fl, fr)) rfl ?_
      refine gp_of (fun _ k9 => g_getR (q' := 88) rfl rfl (by decide) k43 k9) ?_
      refine gp_n 1 (j' := 34) (lv' := [some (.ref 70), some (.int (nI i)), some (.int (nI j)), none, none, none]) (st' := [.int (nI i), .ref 88]) (h' := (shT, fi, fl, fr)) rfl ?_
      refine gp_of (fun _ k9 => g_iald (k := i) (x := nI di) rfl rfl (rfl) (by omega) (by decide) (i2) k9) ?_
      refine gp_n 1 (j' := 36) (lv' := [some (.ref 70), some (.int (nI i)), some (.int (nI j)), none, none, none]) (st' := [.ref 70, .int (nI di)]) (h' := (shT, fi, fl, fr)) rfl ?_
      refine gp_of (fun _ k9 => g_getR (q' := 88) rfl rfl (by decide) k43 k9) ?_
      refine gp_n 1 (j' := 38) (lv' := [some (.ref 70), some (.int (nI i)), some (.int (nI j)), none, none, none]) (st' := [.int (nI j), .ref 88, .int (nI di)]) (h' := (shT, fi, fl, fr)) rfl ?_
      refine gp_of (fun _ k9 => g_iald (k := j) (x := nI dj) rfl rfl (rfl) (by omega) (by decide) (j2) k9) ?_
      refine gp_of (fun _ k9 => g_icf rfl (show ¬ ((nI di) ≤ (nI dj)) from gt) k9) ?_
      refine gp_n 2 (j' := 43) (lv' := [some (.ref 70), some (.int (nI i)), some (.int (nI j)), none, none, none]) (st' := [.int 1]) (h' := (shT, fi, fl, fr)) rfl ?_
      refine gp_done (g_retz rfl (by decide)) ?_
      rfl
  · rw [decide_eq_false (fun z => by have := ql.mp z; omega)]
    have ne : ¬ nI Mi = nI Mj := fun y => by
      have := (nI_eq (by omega) (by omega)).mp y
      omega
    have le : nI Mj ≤ nI Mi := nI_le (by omega) (by omega)
    refine go_of ?_
    refine gp_n 1 (j' := 1) (lv' := [some (.ref 70), some (.int (nI i)), some (.int (nI j)), none, none, none]) (st' := [.ref 70]) (h' := (shT, fi, fl, fr)) rfl ?_
    refine gp_of (fun _ k9 => g_getR (q' := 89) rfl rfl (by decide) k44 k9) ?_
    refine gp_n 1 (j' := 3) (lv' := [some (.ref 70), some (.int (nI i)), some (.int (nI j)), none, none, none]) (st' := [.int (nI i), .ref 89]) (h' := (shT, fi, fl, fr)) rfl ?_
    refine gp_of (fun _ k9 => g_iald (k := i) (x := nI Mi) rfl rfl (rfl) (by omega) (by decide) (i3) k9) ?_
    refine gp_n 1 (j' := 5) (lv' := [some (.ref 70), some (.int (nI i)), some (.int (nI j)), none, none, none]) (st' := [.ref 70, .int (nI Mi)]) (h' := (shT, fi, fl, fr)) rfl ?_
    refine gp_of (fun _ k9 => g_getR (q' := 89) rfl rfl (by decide) k44 k9) ?_
    refine gp_n 1 (j' := 7) (lv' := [some (.ref 70), some (.int (nI i)), some (.int (nI j)), none, none, none]) (st' := [.int (nI j), .ref 89, .int (nI Mi)]) (h' := (shT, fi, fl, fr)) rfl ?_
    refine gp_of (fun _ k9 => g_iald (k := j) (x := nI Mj) rfl rfl (rfl) (by omega) (by decide) (j3) k9) ?_
    refine gp_of (fun _ k9 => g_icf rfl (show ¬ ((nI Mi) = (nI Mj)) from ne) k9) ?_
    refine gp_n 1 (j' := 10) (lv' := [some (.ref 70), some (.int (nI i)), some (.int (nI j)), none, none, none]) (st' := [.ref 70]) (h' := (shT, fi, fl, fr)) rfl ?_
    refine gp_of (fun _ k9 => g_getR (q' := 89) rfl rfl (by decide) k44 k9) ?_
    refine gp_n 1 (j' := 12) (lv' := [some (.ref 70), some (.int (nI i)), some (.int (nI j)), none, none, none]) (st' := [.int (nI i), .ref 89]) (h' := (shT, fi, fl, fr)) rfl ?_
    refine gp_of (fun _ k9 => g_iald (k := i) (x := nI Mi) rfl rfl (rfl) (by omega) (by decide) (i3) k9) ?_
    refine gp_n 1 (j' := 14) (lv' := [some (.ref 70), some (.int (nI i)), some (.int (nI j)), none, none, none]) (st' := [.ref 70, .int (nI Mi)]) (h' := (shT, fi, fl, fr)) rfl ?_
    refine gp_of (fun _ k9 => g_getR (q' := 89) rfl rfl (by decide) k44 k9) ?_
    refine gp_n 1 (j' := 16) (lv' := [some (.ref 70), some (.int (nI i)), some (.int (nI j)), none, none, none]) (st' := [.int (nI j), .ref 89, .int (nI Mi)]) (h' := (shT, fi, fl, fr)) rfl ?_
    refine gp_of (fun _ k9 => g_iald (k := j) (x := nI Mj) rfl rfl (rfl) (by omega) (by decide) (j3) k9) ?_
    refine gp_of (fun _ k9 => g_ict rfl (show (nI Mj) ≤ (nI Mi) from le) k9) ?_
    refine gp_n 1 (j' := 21) (lv' := [some (.ref 70), some (.int (nI i)), some (.int (nI j)), none, none, none]) (st' := [.int 0]) (h' := (shT, fi, fl, fr)) rfl ?_
    refine gp_done (g_retz rfl (by decide)) ?_
    rfl
theorem bbM_go {a : AB} {m k c : Nat} {x : SQ} {h : PmH} (hm : m ≤ 6) (hx : mqI a m k c x h) (hq : QI (a_v a).2.1 (2 ^ m) x) (hn : x.1 ≤ 3100) : ∀ (n i : Nat), i + n = x.1 → Go pmT none cd_220 4 [some (.ref 70), some (.int (oI (bst (fun j => ((cdE (qE x j) : Nat) : Int)) x.2.2.2.2 i))), some (.int (nI i))] [] h (some (.int (oI (qb x))), h) := by
  intro n
  have hI := hx.1
  have c45 := hx.2.2.2.2.2.1
  have k43 : ph_r h 70 43 = some 88 := hi_r hI rfl rfl (by decide)
  induction n with
  | zero =>
    intro i hi
    have e : bst (fun j => ((cdE (qE x j) : Nat) : Int)) x.2.2.2.2 i = qb x := by
      have hi : i = x.1 := by omega
      rw [hi]
      rfl
    rw [e]
    have hi : x.1 = i := by omega
    rw [hi] at c45
    clear hx hq e hi
    generalize oI (qb x) = r at *
    obtain ⟨S, fi, fl, fr⟩ := h
    have hS : S = shT := hI.1
    subst hS
    have c45 : fi 70 45 = nI i := c45
    refine go_of ?_
    refine gp_n 2 (j' := 6) (lv' := [some (.ref 70), some (.int r), some (.int (nI i))]) (st' := [.ref 70, .int (nI i)]) (h' := (shT, fi, fl, fr)) rfl ?_
    refine gp_of (fun _ k9 => g_getI (x := nI i) rfl (Or.inl rfl) rfl (by decide) (c45) k9) ?_
    refine gp_of (fun _ k9 => g_ict rfl (show (nI i) ≤ (nI i) from Int32.le_refl _) k9) ?_
    refine gp_n 1 (j' := 25) (lv' := [some (.ref 70), some (.int r), some (.int (nI i))]) (st' := [.int r]) (h' := (shT, fi, fl, fr)) rfl ?_
    refine gp_done (g_ret rfl) ?_
    rfl
  | succ n ih =>
    intro i hi
    have g := ih (i + 1) (by omega)
    have bp := bst_p (K := fun j => ((cdE (qE x j) : Nat) : Int)) (L := x.2.2.2.2) i
    obtain ⟨-, i2, -⟩ := hx.2.2.2.2.2.2 i (by omega)
    have lt : ¬ nI x.1 ≤ nI i := nI_ge (by omega) (by omega)
    rw [bst] at g
    cases hv : x.2.2.2.2 i
    · rw [hv, if_neg (by decide)] at g i2
      clear hx hq ih bp
      generalize oI (qb x) = r at *
      generalize oI (bst (fun j => ((cdE (qE x j) : Nat) : Int)) x.2.2.2.2 i) = e at *
      generalize nI x.1 = N at *
      obtain ⟨S, fi, fl, fr⟩ := h
      have hS : S = shT := hI.1
      subst hS
      have c45 : fi 70 45 = N := c45
      have i2 : fi 88 i = -1 := i2
      have k43 : fr 70 43 = some 88 := k43
      refine go_of ?_
      refine gp_n 2 (j' := 6) (lv' := [some (.ref 70), some (.int e), some (.int (nI i))]) (st' := [.ref 70, .int (nI i)]) (h' := (shT, fi, fl, fr)) rfl ?_
      refine gp_of (fun _ k9 => g_getI (x := N) rfl (Or.inl rfl) rfl (by decide) (c45) k9) ?_
      refine gp_of (fun _ k9 => g_icf rfl (show ¬ (N ≤ (nI i)) from lt) k9) ?_
      refine gp_n 1 (j' := 9) (lv' := [some (.ref 70), some (.int e), some (.int (nI i))]) (st' := [.ref 70]) (h' := (shT, fi, fl, fr)) rfl ?_
      refine gp_of (fun _ k9 => g_getR (q' := 88) rfl rfl (by decide) k43 k9) ?_
      refine gp_n 1 (j' := 11) (lv' := [some (.ref 70), some (.int e), some (.int (nI i))]) (st' := [.int (nI i), .ref 88]) (h' := (shT, fi, fl, fr)) rfl ?_
      refine gp_of (fun _ k9 => g_iald (k := i) (x := (-1)) rfl rfl (rfl) (by omega) (by decide) (i2) k9) ?_
      refine gp_of (fun _ k9 => g_ift rfl (show ((-1) : Int32) < (0 : Int32) from by decide) k9) ?_
      refine gp_n 2 (j' := 4) (lv' := [some (.ref 70), some (.int e), some (.int ((nI i) + 1))]) (st' := []) (h' := (shT, fi, fl, fr)) rfl ?_
      rw [nI_1]
      exact gp_done g rfl
    · rw [hv, if_pos rfl] at g i2
      have d64 := (hq.1 i (by omega) hv).1
      have p6 := pw_6 m (by omega)
      have nn : ¬ nI (x.2.2.1 i) < 0 := nI_pos (by omega)
      cases hb : bst (fun j => ((cdE (qE x j) : Nat) : Int)) x.2.2.2.2 i with
      | none =>
        rw [hb] at g
        have g : Go pmT none cd_220 4 [some (.ref 70), some (.int (nI i)), some (.int (nI (i + 1)))] [] h (some (.int (oI (qb x))), h) := g
        show Go pmT none cd_220 4 [some (.ref 70), some (.int (-1)), some (.int (nI i))] [] h _
        clear hx hq ih bp
        generalize oI (qb x) = r at *
        generalize nI (x.2.2.1 i) = di at *
        generalize nI x.1 = N at *
        obtain ⟨S, fi, fl, fr⟩ := h
        have hS : S = shT := hI.1
        subst hS
        have c45 : fi 70 45 = N := c45
        have i2 : fi 88 i = di := i2
        have k43 : fr 70 43 = some 88 := k43
        refine go_of ?_
        refine gp_n 2 (j' := 6) (lv' := [some (.ref 70), some (.int (-1)), some (.int (nI i))]) (st' := [.ref 70, .int (nI i)]) (h' := (shT, fi, fl, fr)) rfl ?_
        refine gp_of (fun _ k9 => g_getI (x := N) rfl (Or.inl rfl) rfl (by decide) (c45) k9) ?_
        refine gp_of (fun _ k9 => g_icf rfl (show ¬ (N ≤ (nI i)) from lt) k9) ?_
        refine gp_n 1 (j' := 9) (lv' := [some (.ref 70), some (.int (-1)), some (.int (nI i))]) (st' := [.ref 70]) (h' := (shT, fi, fl, fr)) rfl ?_
        refine gp_of (fun _ k9 => g_getR (q' := 88) rfl rfl (by decide) k43 k9) ?_
        refine gp_n 1 (j' := 11) (lv' := [some (.ref 70), some (.int (-1)), some (.int (nI i))]) (st' := [.int (nI i), .ref 88]) (h' := (shT, fi, fl, fr)) rfl ?_
        refine gp_of (fun _ k9 => g_iald (k := i) (x := di) rfl rfl (rfl) (by omega) (by decide) (i2) k9) ?_
        refine gp_of (fun _ k9 => g_iff rfl (show ¬ (di < (0 : Int32)) from nn) k9) ?_
        refine gp_n 1 (j' := 14) (lv' := [some (.ref 70), some (.int (-1)), some (.int (nI i))]) (st' := [.int (-1)]) (h' := (shT, fi, fl, fr)) rfl ?_
        refine gp_of (fun _ k9 => g_ift rfl (show ((-1) : Int32) < (0 : Int32) from by decide) k9) ?_
        refine gp_n 4 (j' := 4) (lv' := [some (.ref 70), some (.int (nI i)), some (.int ((nI i) + 1))]) (st' := []) (h' := (shT, fi, fl, fr)) rfl ?_
        rw [nI_1]
        exact gp_done g rfl
      | some b =>
        rw [hb] at g bp
        obtain ⟨b1, b2, -⟩ := bp
        have nb : ¬ nI b < 0 := nI_pos (by omega)
        have ia := iaM_ev hm hx hq hn (i := i) (j := b) (by omega) (by omega) (by omega) hv b2
        have g5 : Go pmT none cd_220 4 [some (.ref 70), some (.int (oI (if ((cdE (qE x i) : Nat) : Int) < ((cdE (qE x b) : Nat) : Int) then some i else some b))), some (.int (nI (i + 1)))] [] h (some (.int (oI (qb x))), h) := g
        show Go pmT none cd_220 4 [some (.ref 70), some (.int (nI b)), some (.int (nI i))] [] h _
        clear hx hq ih g hb b2
        generalize oI (qb x) = r at *
        generalize nI (x.2.2.1 i) = di at *
        generalize nI x.1 = N at *
        by_cases hc : cdE (qE x i) < cdE (qE x b)
        · rw [if_pos (Int.ofNat_lt.mpr hc)] at g5
          have g : Go pmT none cd_220 4 [some (.ref 70), some (.int (nI i)), some (.int (nI (i + 1)))] [] h (some (.int r), h) := g5
          rw [decide_eq_true hc] at ia
          have ia : Ev pmT 221 [.ref 70, .int (nI i), .int (nI b)] h (some (.int 1)) h := ia
          obtain ⟨S, fi, fl, fr⟩ := h
          have hS : S = shT := hI.1
          subst hS
          have c45 : fi 70 45 = N := c45
          have i2 : fi 88 i = di := i2
          have k43 : fr 70 43 = some 88 := k43
          refine go_of ?_
          refine gp_n 2 (j' := 6) (lv' := [some (.ref 70), some (.int (nI b)), some (.int (nI i))]) (st' := [.ref 70, .int (nI i)]) (h' := (shT, fi, fl, fr)) rfl ?_
          refine gp_of (fun _ k9 => g_getI (x := N) rfl (Or.inl rfl) rfl (by decide) (c45) k9) ?_
          refine gp_of (fun _ k9 => g_icf rfl (show ¬ (N ≤ (nI i)) from lt) k9) ?_
          refine gp_n 1 (j' := 9) (lv' := [some (.ref 70), some (.int (nI b)), some (.int (nI i))]) (st' := [.ref 70]) (h' := (shT, fi, fl, fr)) rfl ?_
          refine gp_of (fun _ k9 => g_getR (q' := 88) rfl rfl (by decide) k43 k9) ?_
          refine gp_n 1 (j' := 11) (lv' := [some (.ref 70), some (.int (nI b)), some (.int (nI i))]) (st' := [.int (nI i), .ref 88]) (h' := (shT, fi, fl, fr)) rfl ?_
          refine gp_of (fun _ k9 => g_iald (k := i) (x := di) rfl rfl (rfl) (by omega) (by decide) (i2) k9) ?_
          refine gp_of (fun _ k9 => g_iff rfl (show ¬ (di < (0 : Int32)) from nn) k9) ?_
          refine gp_n 1 (j' := 14) (lv' := [some (.ref 70), some (.int (nI b)), some (.int (nI i))]) (st' := [.int (nI b)]) (h' := (shT, fi, fl, fr)) rfl ?_
          refine gp_of (fun _ k9 => g_iff rfl (show ¬ ((nI b) < (0 : Int32)) from nb) k9) ?_
          refine gp_n 3 (j' := 18) (lv' := [some (.ref 70), some (.int (nI b)), some (.int (nI i))]) (st' := [.int (nI b), .int (nI i), .ref 70]) (h' := (shT, fi, fl, fr)) rfl ?_
          refine gp_of (fun _ k9 => g_call (y := 221) (as := [.ref 70, .int (nI i), .int (nI b)]) (st' := []) rfl rfl (ia) k9) ?_
          refine gp_of (fun _ k9 => g_iff rfl (show ¬ ((1 : Int32) = (0 : Int32)) from by decide) k9) ?_
          refine gp_n 4 (j' := 4) (lv' := [some (.ref 70), some (.int (nI i)), some (.int ((nI i) + 1))]) (st' := []) (h' := (shT, fi, fl, fr)) rfl ?_
          rw [nI_1]
          exact gp_done g rfl
        · rw [if_neg (fun z => hc (Int.ofNat_lt.mp z))] at g5
          have g : Go pmT none cd_220 4 [some (.ref 70), some (.int (nI b)), some (.int (nI (i + 1)))] [] h (some (.int r), h) := g5
          rw [decide_eq_false hc] at ia
          have ia : Ev pmT 221 [.ref 70, .int (nI i), .int (nI b)] h (some (.int 0)) h := ia
          obtain ⟨S, fi, fl, fr⟩ := h
          have hS : S = shT := hI.1
          subst hS
          have c45 : fi 70 45 = N := c45
          have i2 : fi 88 i = di := i2
          have k43 : fr 70 43 = some 88 := k43
          refine go_of ?_
          refine gp_n 2 (j' := 6) (lv' := [some (.ref 70), some (.int (nI b)), some (.int (nI i))]) (st' := [.ref 70, .int (nI i)]) (h' := (shT, fi, fl, fr)) rfl ?_
          refine gp_of (fun _ k9 => g_getI (x := N) rfl (Or.inl rfl) rfl (by decide) (c45) k9) ?_
          refine gp_of (fun _ k9 => g_icf rfl (show ¬ (N ≤ (nI i)) from lt) k9) ?_
          refine gp_n 1 (j' := 9) (lv' := [some (.ref 70), some (.int (nI b)), some (.int (nI i))]) (st' := [.ref 70]) (h' := (shT, fi, fl, fr)) rfl ?_
          refine gp_of (fun _ k9 => g_getR (q' := 88) rfl rfl (by decide) k43 k9) ?_
          refine gp_n 1 (j' := 11) (lv' := [some (.ref 70), some (.int (nI b)), some (.int (nI i))]) (st' := [.int (nI i), .ref 88]) (h' := (shT, fi, fl, fr)) rfl ?_
          refine gp_of (fun _ k9 => g_iald (k := i) (x := di) rfl rfl (rfl) (by omega) (by decide) (i2) k9) ?_
          refine gp_of (fun _ k9 => g_iff rfl (show ¬ (di < (0 : Int32)) from nn) k9) ?_
          refine gp_n 1 (j' := 14) (lv' := [some (.ref 70), some (.int (nI b)), some (.int (nI i))]) (st' := [.int (nI b)]) (h' := (shT, fi, fl, fr)) rfl ?_
          refine gp_of (fun _ k9 => g_iff rfl (show ¬ ((nI b) < (0 : Int32)) from nb) k9) ?_
          refine gp_n 3 (j' := 18) (lv' := [some (.ref 70), some (.int (nI b)), some (.int (nI i))]) (st' := [.int (nI b), .int (nI i), .ref 70]) (h' := (shT, fi, fl, fr)) rfl ?_
          refine gp_of (fun _ k9 => g_call (y := 221) (as := [.ref 70, .int (nI i), .int (nI b)]) (st' := []) rfl rfl (ia) k9) ?_
          refine gp_of (fun _ k9 => g_ift rfl (show (0 : Int32) = (0 : Int32) from by decide) k9) ?_
          refine gp_n 2 (j' := 4) (lv' := [some (.ref 70), some (.int (nI b)), some (.int ((nI i) + 1))]) (st' := []) (h' := (shT, fi, fl, fr)) rfl ?_
          rw [nI_1]
          exact gp_done g rfl
theorem bbM_ev {a : AB} {m k c : Nat} {x : SQ} {h : PmH} (hm : m ≤ 6) (hx : mqI a m k c x h) (hq : QI (a_v a).2.1 (2 ^ m) x) (hn : x.1 ≤ 3100) : Ev pmT 220 [.ref 70] h (some (.int (oI (qb x)))) h := by
  have g := bbM_go hm hx hq hn x.1 0 (by omega)
  have g : Go pmT none cd_220 4 [some (.ref 70), some (.int (-1)), some (.int (nI 0))] [] h (some (.int (oI (qb x))), h) := g
  generalize oI (qb x) = r at *
  refine Ev.of (es := cd_220) (ml := 3) (lv := [some (.ref 70), none, none]) rfl rfl rfl ?_
  refine go_of ?_
  refine gp_n 4 (j' := 4) (lv' := [some (.ref 70), some (.int (-1)), some (.int (nI 0))]) (st' := []) (h' := h) rfl ?_
  exact gp_done g rfl
theorem bg_M {h : PmH} {m a : Nat} {its : Int64} {len met : Int32} : ph_i (bg_h h m its len met) 89 a = if a = m then met else ph_i h 89 a := by
  show pm_u2 (pm_u2 (pm_u2 (ph_i h) 88 m len) 89 m met) 70 45 (nI (m + 1)) 89 a = _
  simp [pm_u2]
theorem bg_o {h : PmH} {m p s : Nat} {its : Int64} {len met : Int32} (h1 : ¬ p = 88) (h2 : ¬ p = 89) (h3 : ¬ (p = 70 ∧ s = 45)) : ph_i (bg_h h m its len met) p s = ph_i h p s := by
  show pm_u2 (pm_u2 (pm_u2 (ph_i h) 88 m len) 89 m met) 70 45 (nI (m + 1)) p s = _
  exact (wl_ne h3).trans ((wl_ne (fun z => h2 z.1)).trans (wl_ne (fun z => h1 z.1)))
theorem bgM {a : AB} {m k c M d : Nat} {B : Int64} {x : SQ} {h : PmH} (hx : mqI a m k c x h) (hn : x.1 < 3100) : Ev pmT 219 [.ref 70, .long B, .int (nI d), .int (nI M)] h none (bg_h h x.1 B (nI d) (nI M)) ∧ mqI a m k c (qAdd x M d B) (bg_h h x.1 B (nI d) (nI M)) := by
  obtain ⟨hI, ⟨y1, y2, y3⟩, y4, y5, y6, y7, y8⟩ := hx
  refine ⟨bg_ev hI y7 hn, bg_HI hI, ⟨(bg_o (by decide) (by decide) (by decide)).trans y1, (show pm_u2 (ph_l h) 87 x.1 B 70 21 = ph_l h 70 21 from wl_ne (by omega)).trans y2, fun s hs => (bg_o (by decide) (by decide) (by omega)).trans (y3 s hs)⟩, (bg_o (by decide) (by decide) (by decide)).trans y4, (bg_o (by decide) (by decide) (by decide)).trans y5, (bg_o (by decide) (by decide) (by decide)).trans y6, bg_45, fun j hj => ?_⟩
  have hj : j < x.1 + 1 := hj
  rw [bg_L, bg_B, bg_M]
  by_cases e : j = x.1
  · rw [if_pos e, if_pos e, if_pos e]
    rw [show (qAdd x M d B).2.1 j = M from if_pos e, show (qAdd x M d B).2.2.1 j = d from if_pos e, show (qAdd x M d B).2.2.2.1 j = B from if_pos e, show (qAdd x M d B).2.2.2.2 j = true from if_pos e, if_pos rfl]
    exact ⟨rfl, rfl, rfl⟩
  · rw [if_neg e, if_neg e, if_neg e]
    rw [show (qAdd x M d B).2.1 j = x.2.1 j from if_neg e, show (qAdd x M d B).2.2.1 j = x.2.2.1 j from if_neg e, show (qAdd x M d B).2.2.2.1 j = x.2.2.2.1 j from if_neg e, show (qAdd x M d B).2.2.2.2 j = x.2.2.2.2 j from if_neg e]
    exact y8 j (by omega)
theorem ddM {a : AB} {m k c b : Nat} {x : SQ} {h : PmH} (hx : mqI a m k c x h) : mqI a m k c (qDel x b) (dd_h h b) := by
  obtain ⟨hI, ⟨y1, y2, y3⟩, y4, y5, y6, y7, y8⟩ := hx
  have wu : ∀ p s, ¬ p = 88 → ph_i (dd_h h b) p s = ph_i h p s := fun p s z => (show pm_u2 (ph_i h) 88 b (-1) p s = ph_i h p s from wl_ne (fun w => z w.1))
  have J : HI hdT shT (dd_h h b) := HI_wi hI (fun z => by
    have : hd_at hdT shT 88 b = (9, 0, 0, []) := rfl
    rw [this] at z
    cases z)
  refine ⟨J, ⟨(wu 70 14 (by decide)).trans y1, y2, fun s hs => (wu 74 s (by decide)).trans (y3 s hs)⟩, (wu 70 16 (by decide)).trans y4, (wu 70 17 (by decide)).trans y5, (wu 70 18 (by decide)).trans y6, (wu 70 45 (by decide)).trans y7, fun j hj => ?_⟩
  obtain ⟨z1, z2, z3⟩ := y8 j hj
  refine ⟨z1, ?_, (wu 89 j (by decide)).trans z3⟩
  show pm_u2 (ph_i h) 88 b (-1) 88 j = if (if j = b then false else x.2.2.2.2 j) = true then nI (x.2.2.1 j) else -1
  by_cases e : j = b
  · subst e
    rw [if_pos rfl, if_neg (by decide)]
    exact u2_eq
  · rw [if_neg e]
    exact (wl_ne (fun w => e w.2)).trans z2
theorem saM {a : AB} {m k c d : Nat} {w : Int64} {x : SQ} {h : PmH} (hm : m ≤ 6) (hd : d < 2 ^ m) (hx : mqI a m k c x h) : ∃ h', Ev pmT 193 [.ref 70, .long w, .int (nI d)] h (some (.int (ndL m (a_v a).2.2 (bl w) d 0 0))) h' ∧ mqI a m k c x h' ∧ fram (in_w iN_221) h h' := by
  obtain ⟨hI, ⟨y1, y2, y3⟩, y4, y5, y6, y7, y8⟩ := hx
  obtain ⟨h', e, I1, F⟩ := sa_ev (w := w) (S := (a_v a).2.2) hI hm hd y1 y3
  exact ⟨h', e, ⟨I1, ⟨(F 70 14 rfl).1.trans y1, (F 70 21 rfl).2.1.trans y2, fun s hs => (F 74 s rfl).1.trans (y3 s hs)⟩, (F 70 16 rfl).1.trans y4, (F 70 17 rfl).1.trans y5, (F 70 18 rfl).1.trans y6, (F 70 45 rfl).1.trans y7, fun j hj => ⟨(F 87 j rfl).2.1.trans (y8 j hj).1, (F 88 j rfl).1.trans (y8 j hj).2.1, (F 89 j rfl).1.trans (y8 j hj).2.2⟩⟩, F⟩
theorem goM {a : AB} {m k c b : Nat} {x : SQ} {h : PmH} (vk : VK (a_v a) m k c) (hB : ∀ s, s < 64 → -127 ≤ ((a_v a).2.2 s).toInt ∧ ((a_v a).2.2 s).toInt ≤ 127) (hx : mqI a m k c x h) (hn : x.1 + 2 ≤ 3100) (hb : b < x.1) (lb : x.2.2.2.2 b = true) (hd : x.2.2.1 b < 2 ^ m) : ∃ h', Ev pmT 222 [.ref 70, .int (nI b)] h none h' ∧ mqI a m k c (qGo (a_v a).2.1 m (a_v a).2.2 x b) h' ∧ ph_i h' 70 46 = ph_i h 70 46 := by
  have p6 := pw_6 m (by have := vk.1; omega)
  have sb := ndL_b0 vk.1 hB (u := bl (x.2.2.2.1 b)) (c := x.2.2.1 b) (l := 0) (j := 0) (Nat.zero_le m) (by decide)
  obtain ⟨n0, n1⟩ := coN_e (t := false) sb
  obtain ⟨m0, m1⟩ := coN_e (t := true) sb
  have hI := hx.1
  obtain ⟨x1, x2, x3⟩ := hx.2.2.2.2.2.2 b hb
  rw [lb, if_pos rfl] at x2
  have d1 := ddM (b := b) hx
  obtain ⟨h1, e1, s1, F1⟩ := saM (w := x.2.2.2.1 b) vk.1 hd d1
  obtain ⟨e2, s2⟩ := bgM (M := x.2.1 b + coN (qS m (a_v a).2.2 x b) false) (d := x.2.2.1 b + 1) (B := x.2.2.2.1 b) s1 (show x.1 < 3100 by omega)
  have e2 : Ev pmT 219 [.ref 70, .long (x.2.2.2.1 b), .int (nI (x.2.2.1 b + 1)), .int (nI (x.2.1 b + coN (qS m (a_v a).2.2 x b) false))] h1 none (bg_h h1 x.1 (x.2.2.2.1 b) (nI (x.2.2.1 b + 1)) (nI (x.2.1 b + coN (qS m (a_v a).2.2 x b) false))) := e2
  have s2 : mqI a m k c (qG0 m (a_v a).2.2 x b) (bg_h h1 x.1 (x.2.2.2.1 b) (nI (x.2.2.1 b + 1)) (nI (x.2.1 b + coN (qS m (a_v a).2.2 x b) false))) := s2
  have I1 := s1.1
  have I2 := s2.1
  have z1 : ph_l h1 87 b = x.2.2.2.1 b := (s1.2.2.2.2.2.2 b hb).1
  have z3 : ph_i h1 89 b = nI (x.2.1 b) := (s1.2.2.2.2.2.2 b hb).2.2
  have w1 : ph_l (bg_h h1 x.1 (x.2.2.2.1 b) (nI (x.2.2.1 b + 1)) (nI (x.2.1 b + coN (qS m (a_v a).2.2 x b) false))) 87 b = x.2.2.2.1 b := by
    rw [bg_B, if_neg (by omega)]
    exact z1
  have w3 : ph_i (bg_h h1 x.1 (x.2.2.2.1 b) (nI (x.2.2.1 b + 1)) (nI (x.2.1 b + coN (qS m (a_v a).2.2 x b) false))) 89 b = nI (x.2.1 b) := by
    rw [bg_M, if_neg (by omega)]
    exact z3
  have g46 : ph_i (bg_h h1 x.1 (x.2.2.2.1 b) (nI (x.2.2.1 b + 1)) (nI (x.2.1 b + coN (qS m (a_v a).2.2 x b) false))) 70 46 = ph_i h 70 46 := (bg_o (by decide) (by decide) (by decide)).trans ((F1 70 46 rfl).1.trans (show pm_u2 (ph_i h) 88 b (-1) 70 46 = ph_i h 70 46 from wl_ne (by omega)))
  have cK := s2.2.1.2.1
  have hs := fun h => has_ev (v := (a_v a).2.1) (i := nI (x.2.2.1 b)) (h := h)
  rw [hasf_bit (by omega)] at hs
  have k42 : ph_r h 70 42 = some 87 := hi_r hI rfl rfl (by decide)
  have k43 : ph_r h 70 43 = some 88 := hi_r hI rfl rfl (by decide)
  have q42 : ph_r h1 70 42 = some 87 := hi_r I1 rfl rfl (by decide)
  have q44 : ph_r h1 70 44 = some 89 := hi_r I1 rfl rfl (by decide)
  have n1 : coS (qS m (a_v a).2.2 x b) false = nI (coN (qS m (a_v a).2.2 x b) false) := n1
  have m1 : coS (qS m (a_v a).2.2 x b) true = nI (coN (qS m (a_v a).2.2 x b) true) := m1
  have pn0 : ∀ h, Ev pmT 196 [.int (qS m (a_v a).2.2 x b), .int 0] h (some (.int (nI (coN (qS m (a_v a).2.2 x b) false)))) h := fun h => by
    have := coM_ev (s := qS m (a_v a).2.2 x b) (t := false) (h := h)
    rw [n1] at this
    exact this
  have pn1 : ∀ h, Ev pmT 196 [.int (qS m (a_v a).2.2 x b), .int 1] h (some (.int (nI (coN (qS m (a_v a).2.2 x b) true)))) h := fun h => by
    have := coM_ev (s := qS m (a_v a).2.2 x b) (t := true) (h := h)
    rw [m1] at this
    exact this
  have ad0 : nI (x.2.1 b) + nI (coN (qS m (a_v a).2.2 x b) false) = nI (x.2.1 b + coN (qS m (a_v a).2.2 x b) false) := nI_add _ _
  have ad1 : nI (x.2.1 b) + nI (coN (qS m (a_v a).2.2 x b) true) = nI (x.2.1 b + coN (qS m (a_v a).2.2 x b) true) := nI_add _ _
  have e1 : Ev pmT 193 [.ref 70, .long (x.2.2.2.1 b), .int (nI (x.2.2.1 b))] (dd_h h b) (some (.int (qS m (a_v a).2.2 x b))) h1 := e1
  have b31 : b < 3100 := by omega
  generalize hh2 : bg_h h1 x.1 (x.2.2.2.1 b) (nI (x.2.2.1 b + 1)) (nI (x.2.1 b + coN (qS m (a_v a).2.2 x b) false)) = h2 at *
  have r42 : ph_r h2 70 42 = some 87 := hi_r I2 rfl rfl (by decide)
  have r44 : ph_r h2 70 44 = some 89 := hi_r I2 rfl rfl (by decide)
  have e1 : Ev pmT 193 [.ref 70, .long (x.2.2.2.1 b), .int (nI (x.2.2.1 b))] (ph_s h, pm_u2 (ph_i h) 88 b (-1), ph_l h, ph_r h) (some (.int (qS m (a_v a).2.2 x b))) h1 := e1
  cases hk : bl (a_v a).2.1 (x.2.2.1 b)
  · rw [hk, if_neg (by decide)] at hs
    have eG : qGo (a_v a).2.1 m (a_v a).2.2 x b = qG0 m (a_v a).2.2 x b := by
      unfold qGo
      rw [hk, if_neg (by decide)]
    rw [eG]
    refine ⟨h2, ?_, s2, g46⟩
    clear s1 s2 d1 hx eG sb n1 m1 pn1 ad1 hh2 g46 F1 w1 w3
    generalize x.2.1 b + coN (qS m (a_v a).2.2 x b) false = M1 at *
    generalize coN (qS m (a_v a).2.2 x b) false = u0 at *
    generalize qS m (a_v a).2.2 x b = sv at *
    generalize x.2.1 b = M0 at *
    generalize x.2.2.1 b = d0 at *
    generalize x.2.2.2.1 b = B0 at *
    generalize (a_v a).2.1 = K at *
    obtain ⟨S2, fi2, fl2, fr2⟩ := h2
    have s2 : S2 = shT := I2.1
    subst s2
    obtain ⟨S1, fi1, fl1, fr1⟩ := h1
    have s1 : S1 = shT := I1.1
    subst s1
    have cK : fl2 70 21 = K := cK
    have pn0 := pn0 (shT, fi1, fl1, fr1)
    have hs := hs (shT, fi2, fl2, fr2)
    have z1 : fl1 87 b = B0 := z1
    have z3 : fi1 89 b = nI M0 := z3
    have q42 : fr1 70 42 = some 87 := q42
    have q44 : fr1 70 44 = some 89 := q44
    obtain ⟨S, fi, fl, fr⟩ := h
    have hS : S = shT := hI.1
    subst hS
    have x1 : fl 87 b = B0 := x1
    have x2 : fi 88 b = nI d0 := x2
    have k42 : fr 70 42 = some 87 := k42
    have k43 : fr 70 43 = some 88 := k43
    refine Ev.of (es := cd_222) (ml := 4) (lv := [some (.ref 70), some (.int (nI b)), none, none]) rfl rfl rfl ?_
    refine go_of ?_
    refine gp_n 1 (j' := 1) (lv' := [some (.ref 70), some (.int (nI b)), none, none]) (st' := [.ref 70]) (h' := (shT, fi, fl, fr)) rfl ?_
    refine gp_of (fun _ k9 => g_getR (q' := 88) rfl rfl (by decide) k43 k9) ?_
    refine gp_n 1 (j' := 3) (lv' := [some (.ref 70), some (.int (nI b)), none, none]) (st' := [.int (nI b), .ref 88]) (h' := (shT, fi, fl, fr)) rfl ?_
    refine gp_of (fun _ k9 => g_iald (k := b) (x := nI d0) rfl rfl (rfl) (by omega) (by decide) (x2) k9) ?_
    refine gp_n 2 (j' := 6) (lv' := [some (.ref 70), some (.int (nI b)), some (.int (nI d0)), none]) (st' := [.ref 70]) (h' := (shT, fi, fl, fr)) rfl ?_
    refine gp_of (fun _ k9 => g_getR (q' := 88) rfl rfl (by decide) k43 k9) ?_
    refine gp_n 2 (j' := 9) (lv' := [some (.ref 70), some (.int (nI b)), some (.int (nI d0)), none]) (st' := [.int (-1), .int (nI b), .ref 88]) (h' := (shT, fi, fl, fr)) rfl ?_
    refine gp_of (fun _ k9 => g_iast (k := b) rfl rfl (rfl) (by omega) (by decide) k9) ?_
    refine gp_n 2 (j' := 12) (lv' := [some (.ref 70), some (.int (nI b)), some (.int (nI d0)), none]) (st' := [.ref 70, .ref 70]) (h' := (shT, pm_u2 fi 88 b (-1), fl, fr)) rfl ?_
    refine gp_of (fun _ k9 => g_getR (q' := 87) rfl rfl (by decide) k42 k9) ?_
    refine gp_n 1 (j' := 14) (lv' := [some (.ref 70), some (.int (nI b)), some (.int (nI d0)), none]) (st' := [.int (nI b), .ref 87, .ref 70]) (h' := (shT, pm_u2 fi 88 b (-1), fl, fr)) rfl ?_
    refine gp_of (fun _ k9 => g_lald (k := b) (x := B0) rfl rfl (rfl) (by omega) (by decide) (x1) k9) ?_
    refine gp_n 1 (j' := 16) (lv' := [some (.ref 70), some (.int (nI b)), some (.int (nI d0)), none]) (st' := [.int (nI d0), .long B0, .ref 70]) (h' := (shT, pm_u2 fi 88 b (-1), fl, fr)) rfl ?_
    refine gp_of (fun _ k9 => g_call (y := 193) (as := [.ref 70, .long B0, .int (nI d0)]) (st' := []) rfl rfl (e1) k9) ?_
    refine gp_n 3 (j' := 20) (lv' := [some (.ref 70), some (.int (nI b)), some (.int (nI d0)), some (.int sv)]) (st' := [.ref 70, .ref 70]) (h' := (shT, fi1, fl1, fr1)) rfl ?_
    refine gp_of (fun _ k9 => g_getR (q' := 87) rfl rfl (by decide) q42 k9) ?_
    refine gp_n 1 (j' := 22) (lv' := [some (.ref 70), some (.int (nI b)), some (.int (nI d0)), some (.int sv)]) (st' := [.int (nI b), .ref 87, .ref 70]) (h' := (shT, fi1, fl1, fr1)) rfl ?_
    refine gp_of (fun _ k9 => g_lald (k := b) (x := B0) rfl rfl (rfl) (by omega) (by decide) (z1) k9) ?_
    refine gp_n 3 (j' := 26) (lv' := [some (.ref 70), some (.int (nI b)), some (.int (nI d0)), some (.int sv)]) (st' := [.int ((nI d0) + 1), .long B0, .ref 70]) (h' := (shT, fi1, fl1, fr1)) rfl ?_
    rw [nI_1]
    refine gp_n 1 (j' := 27) (lv' := [some (.ref 70), some (.int (nI b)), some (.int (nI d0)), some (.int sv)]) (st' := [.ref 70, .int (nI (d0 + 1)), .long B0, .ref 70]) (h' := (shT, fi1, fl1, fr1)) rfl ?_
    refine gp_of (fun _ k9 => g_getR (q' := 89) rfl rfl (by decide) q44 k9) ?_
    refine gp_n 1 (j' := 29) (lv' := [some (.ref 70), some (.int (nI b)), some (.int (nI d0)), some (.int sv)]) (st' := [.int (nI b), .ref 89, .int (nI (d0 + 1)), .long B0, .ref 70]) (h' := (shT, fi1, fl1, fr1)) rfl ?_
    refine gp_of (fun _ k9 => g_iald (k := b) (x := nI M0) rfl rfl (rfl) (by omega) (by decide) (z3) k9) ?_
    refine gp_n 2 (j' := 32) (lv' := [some (.ref 70), some (.int (nI b)), some (.int (nI d0)), some (.int sv)]) (st' := [.int 0, .int sv, .int (nI M0), .int (nI (d0 + 1)), .long B0, .ref 70]) (h' := (shT, fi1, fl1, fr1)) rfl ?_
    refine gp_of (fun _ k9 => g_call (y := 196) (as := [.int sv, .int 0]) (st' := [.int (nI M0), .int (nI (d0 + 1)), .long B0, .ref 70]) rfl rfl (pn0) k9) ?_
    refine gp_n 1 (j' := 34) (lv' := [some (.ref 70), some (.int (nI b)), some (.int (nI d0)), some (.int sv)]) (st' := [.int ((nI M0) + (nI u0)), .int (nI (d0 + 1)), .long B0, .ref 70]) (h' := (shT, fi1, fl1, fr1)) rfl ?_
    rw [ad0]
    refine gp_of (fun _ k9 => g_callv (y := 219) (as := [.ref 70, .long B0, .int (nI (d0 + 1)), .int (nI M1)]) (st' := []) rfl rfl (e2) k9) ?_
    refine gp_n 1 (j' := 36) (lv' := [some (.ref 70), some (.int (nI b)), some (.int (nI d0)), some (.int sv)]) (st' := [.ref 70]) (h' := (shT, fi2, fl2, fr2)) rfl ?_
    refine gp_of (fun _ k9 => g_getL (x := K) rfl rfl (by decide) (cK) k9) ?_
    refine gp_n 1 (j' := 38) (lv' := [some (.ref 70), some (.int (nI b)), some (.int (nI d0)), some (.int sv)]) (st' := [.int (nI d0), .long K]) (h' := (shT, fi2, fl2, fr2)) rfl ?_
    refine gp_of (fun _ k9 => g_call (y := 161) (as := [.long K, .int (nI d0)]) (st' := []) rfl rfl (hs) k9) ?_
    refine gp_of (fun _ k9 => g_ift rfl (show (0 : Int32) = (0 : Int32) from by decide) k9) ?_
    refine gp_done (g_vret rfl) ?_
    rfl
  · rw [hk, if_pos rfl] at hs
    have eG : qGo (a_v a).2.1 m (a_v a).2.2 x b = qAdd (qG0 m (a_v a).2.2 x b) (x.2.1 b + coN (qS m (a_v a).2.2 x b) true) (x.2.2.1 b + 1) (x.2.2.2.1 b ||| bitAt (x.2.2.1 b)) := by
      unfold qGo
      rw [hk, if_pos rfl]
    rw [eG]
    obtain ⟨e3, s3⟩ := bgM (M := x.2.1 b + coN (qS m (a_v a).2.2 x b) true) (d := x.2.2.1 b + 1) (B := x.2.2.2.1 b ||| bitAt (x.2.2.1 b)) s2 (show x.1 + 1 < 3100 by omega)
    refine ⟨_, ?_, s3, (bg_o (by decide) (by decide) (by decide)).trans g46⟩
    have I3 := s3.1
    clear s3
    have e3 : Ev pmT 219 [.ref 70, .long (x.2.2.2.1 b ||| (1 <<< ((nI (x.2.2.1 b) : Int32).toInt64 &&& 63))), .int (nI (x.2.2.1 b + 1)), .int (nI (x.2.1 b + coN (qS m (a_v a).2.2 x b) true))] h2 none (bg_h h2 (qG0 m (a_v a).2.2 x b).1 (x.2.2.2.1 b ||| bitAt (x.2.2.1 b)) (nI (x.2.2.1 b + 1)) (nI (x.2.1 b + coN (qS m (a_v a).2.2 x b) true))) := e3
    generalize bg_h h2 (qG0 m (a_v a).2.2 x b).1 (x.2.2.2.1 b ||| bitAt (x.2.2.1 b)) (nI (x.2.2.1 b + 1)) (nI (x.2.1 b + coN (qS m (a_v a).2.2 x b) true)) = h3 at *
    clear s1 s2 d1 hx eG sb n1 m1 hh2 g46 F1
    generalize x.2.1 b + coN (qS m (a_v a).2.2 x b) false = M1 at *
    generalize x.2.1 b + coN (qS m (a_v a).2.2 x b) true = M2 at *
    generalize coN (qS m (a_v a).2.2 x b) false = u0 at *
    generalize coN (qS m (a_v a).2.2 x b) true = u1 at *
    generalize qS m (a_v a).2.2 x b = sv at *
    generalize x.2.1 b = M0 at *
    generalize x.2.2.1 b = d0 at *
    generalize x.2.2.2.1 b = B0 at *
    generalize (a_v a).2.1 = K at *
    obtain ⟨S3, fi3, fl3, fr3⟩ := h3
    have s3 : S3 = shT := I3.1
    subst s3
    obtain ⟨S2, fi2, fl2, fr2⟩ := h2
    have s2 : S2 = shT := I2.1
    subst s2
    obtain ⟨S1, fi1, fl1, fr1⟩ := h1
    have s1 : S1 = shT := I1.1
    subst s1
    have cK : fl2 70 21 = K := cK
    have pn0 := pn0 (shT, fi1, fl1, fr1)
    have pn1 := pn1 (shT, fi2, fl2, fr2)
    have hs := hs (shT, fi2, fl2, fr2)
    have z1 : fl1 87 b = B0 := z1
    have z3 : fi1 89 b = nI M0 := z3
    have w1 : fl2 87 b = B0 := w1
    have w3 : fi2 89 b = nI M0 := w3
    have q42 : fr1 70 42 = some 87 := q42
    have q44 : fr1 70 44 = some 89 := q44
    have r42 : fr2 70 42 = some 87 := r42
    have r44 : fr2 70 44 = some 89 := r44
    obtain ⟨S, fi, fl, fr⟩ := h
    have hS : S = shT := hI.1
    subst hS
    have x1 : fl 87 b = B0 := x1
    have x2 : fi 88 b = nI d0 := x2
    have k42 : fr 70 42 = some 87 := k42
    have k43 : fr 70 43 = some 88 := k43
    refine Ev.of (es := cd_222) (ml := 4) (lv := [some (.ref 70), some (.int (nI b)), none, none]) rfl rfl rfl ?_
    refine go_of ?_
    refine gp_n 1 (j' := 1) (lv' := [some (.ref 70), some (.int (nI b)), none, none]) (st' := [.ref 70]) (h' := (shT, fi, fl, fr)) rfl ?_
    refine gp_of (fun _ k9 => g_getR (q' := 88) rfl rfl (by decide) k43 k9) ?_
    refine gp_n 1 (j' := 3) (lv' := [some (.ref 70), some (.int (nI b)), none, none]) (st' := [.int (nI b), .ref 88]) (h' := (shT, fi, fl, fr)) rfl ?_
    refine gp_of (fun _ k9 => g_iald (k := b) (x := nI d0) rfl rfl (rfl) (by omega) (by decide) (x2) k9) ?_
    refine gp_n 2 (j' := 6) (lv' := [some (.ref 70), some (.int (nI b)), some (.int (nI d0)), none]) (st' := [.ref 70]) (h' := (shT, fi, fl, fr)) rfl ?_
    refine gp_of (fun _ k9 => g_getR (q' := 88) rfl rfl (by decide) k43 k9) ?_
    refine gp_n 2 (j' := 9) (lv' := [some (.ref 70), some (.int (nI b)), some (.int (nI d0)), none]) (st' := [.int (-1), .int (nI b), .ref 88]) (h' := (shT, fi, fl, fr)) rfl ?_
    refine gp_of (fun _ k9 => g_iast (k := b) rfl rfl (rfl) (by omega) (by decide) k9) ?_
    refine gp_n 2 (j' := 12) (lv' := [some (.ref 70), some (.int (nI b)), some (.int (nI d0)), none]) (st' := [.ref 70, .ref 70]) (h' := (shT, pm_u2 fi 88 b (-1), fl, fr)) rfl ?_
    refine gp_of (fun _ k9 => g_getR (q' := 87) rfl rfl (by decide) k42 k9) ?_
    refine gp_n 1 (j' := 14) (lv' := [some (.ref 70), some (.int (nI b)), some (.int (nI d0)), none]) (st' := [.int (nI b), .ref 87, .ref 70]) (h' := (shT, pm_u2 fi 88 b (-1), fl, fr)) rfl ?_
    refine gp_of (fun _ k9 => g_lald (k := b) (x := B0) rfl rfl (rfl) (by omega) (by decide) (x1) k9) ?_
    refine gp_n 1 (j' := 16) (lv' := [some (.ref 70), some (.int (nI b)), some (.int (nI d0)), none]) (st' := [.int (nI d0), .long B0, .ref 70]) (h' := (shT, pm_u2 fi 88 b (-1), fl, fr)) rfl ?_
    refine gp_of (fun _ k9 => g_call (y := 193) (as := [.ref 70, .long B0, .int (nI d0)]) (st' := []) rfl rfl (e1) k9) ?_
    refine gp_n 3 (j' := 20) (lv' := [some (.ref 70), some (.int (nI b)), some (.int (nI d0)), some (.int sv)]) (st' := [.ref 70, .ref 70]) (h' := (shT, fi1, fl1, fr1)) rfl ?_
    refine gp_of (fun _ k9 => g_getR (q' := 87) rfl rfl (by decide) q42 k9) ?_
    refine gp_n 1 (j' := 22) (lv' := [some (.ref 70), some (.int (nI b)), some (.int (nI d0)), some (.int sv)]) (st' := [.int (nI b), .ref 87, .ref 70]) (h' := (shT, fi1, fl1, fr1)) rfl ?_
    refine gp_of (fun _ k9 => g_lald (k := b) (x := B0) rfl rfl (rfl) (by omega) (by decide) (z1) k9) ?_
    refine gp_n 3 (j' := 26) (lv' := [some (.ref 70), some (.int (nI b)), some (.int (nI d0)), some (.int sv)]) (st' := [.int ((nI d0) + 1), .long B0, .ref 70]) (h' := (shT, fi1, fl1, fr1)) rfl ?_
    rw [nI_1]
    refine gp_n 1 (j' := 27) (lv' := [some (.ref 70), some (.int (nI b)), some (.int (nI d0)), some (.int sv)]) (st' := [.ref 70, .int (nI (d0 + 1)), .long B0, .ref 70]) (h' := (shT, fi1, fl1, fr1)) rfl ?_
    refine gp_of (fun _ k9 => g_getR (q' := 89) rfl rfl (by decide) q44 k9) ?_
    refine gp_n 1 (j' := 29) (lv' := [some (.ref 70), some (.int (nI b)), some (.int (nI d0)), some (.int sv)]) (st' := [.int (nI b), .ref 89, .int (nI (d0 + 1)), .long B0, .ref 70]) (h' := (shT, fi1, fl1, fr1)) rfl ?_
    refine gp_of (fun _ k9 => g_iald (k := b) (x := nI M0) rfl rfl (rfl) (by omega) (by decide) (z3) k9) ?_
    refine gp_n 2 (j' := 32) (lv' := [some (.ref 70), some (.int (nI b)), some (.int (nI d0)), some (.int sv)]) (st' := [.int 0, .int sv, .int (nI M0), .int (nI (d0 + 1)), .long B0, .ref 70]) (h' := (shT, fi1, fl1, fr1)) rfl ?_
    refine gp_of (fun _ k9 => g_call (y := 196) (as := [.int sv, .int 0]) (st' := [.int (nI M0), .int (nI (d0 + 1)), .long B0, .ref 70]) rfl rfl (pn0) k9) ?_
    refine gp_n 1 (j' := 34) (lv' := [some (.ref 70), some (.int (nI b)), some (.int (nI d0)), some (.int sv)]) (st' := [.int ((nI M0) + (nI u0)), .int (nI (d0 + 1)), .long B0, .ref 70]) (h' := (shT, fi1, fl1, fr1)) rfl ?_
    rw [ad0]
    refine gp_of (fun _ k9 => g_callv (y := 219) (as := [.ref 70, .long B0, .int (nI (d0 + 1)), .int (nI M1)]) (st' := []) rfl rfl (e2) k9) ?_
    refine gp_n 1 (j' := 36) (lv' := [some (.ref 70), some (.int (nI b)), some (.int (nI d0)), some (.int sv)]) (st' := [.ref 70]) (h' := (shT, fi2, fl2, fr2)) rfl ?_
    refine gp_of (fun _ k9 => g_getL (x := K) rfl rfl (by decide) (cK) k9) ?_
    refine gp_n 1 (j' := 38) (lv' := [some (.ref 70), some (.int (nI b)), some (.int (nI d0)), some (.int sv)]) (st' := [.int (nI d0), .long K]) (h' := (shT, fi2, fl2, fr2)) rfl ?_
    refine gp_of (fun _ k9 => g_call (y := 161) (as := [.long K, .int (nI d0)]) (st' := []) rfl rfl (hs) k9) ?_
    refine gp_of (fun _ k9 => g_iff rfl (show ¬ ((1 : Int32) = (0 : Int32)) from by decide) k9) ?_
    refine gp_n 2 (j' := 42) (lv' := [some (.ref 70), some (.int (nI b)), some (.int (nI d0)), some (.int sv)]) (st' := [.ref 70, .ref 70]) (h' := (shT, fi2, fl2, fr2)) rfl ?_
    refine gp_of (fun _ k9 => g_getR (q' := 87) rfl rfl (by decide) r42 k9) ?_
    refine gp_n 1 (j' := 44) (lv' := [some (.ref 70), some (.int (nI b)), some (.int (nI d0)), some (.int sv)]) (st' := [.int (nI b), .ref 87, .ref 70]) (h' := (shT, fi2, fl2, fr2)) rfl ?_
    refine gp_of (fun _ k9 => g_lald (k := b) (x := B0) rfl rfl (rfl) (by omega) (by decide) (w1) k9) ?_
    refine gp_n 7 (j' := 52) (lv' := [some (.ref 70), some (.int (nI b)), some (.int (nI d0)), some (.int sv)]) (st' := [.int ((nI d0) + 1), .long (B0 ||| ((1 : Int64) <<< ((nI d0 : Int32).toInt64 &&& 63))), .ref 70]) (h' := (shT, fi2, fl2, fr2)) rfl ?_
    rw [nI_1]
    refine gp_n 1 (j' := 53) (lv' := [some (.ref 70), some (.int (nI b)), some (.int (nI d0)), some (.int sv)]) (st' := [.ref 70, .int (nI (d0 + 1)), .long (B0 ||| ((1 : Int64) <<< ((nI d0 : Int32).toInt64 &&& 63))), .ref 70]) (h' := (shT, fi2, fl2, fr2)) rfl ?_
    refine gp_of (fun _ k9 => g_getR (q' := 89) rfl rfl (by decide) r44 k9) ?_
    refine gp_n 1 (j' := 55) (lv' := [some (.ref 70), some (.int (nI b)), some (.int (nI d0)), some (.int sv)]) (st' := [.int (nI b), .ref 89, .int (nI (d0 + 1)), .long (B0 ||| ((1 : Int64) <<< ((nI d0 : Int32).toInt64 &&& 63))), .ref 70]) (h' := (shT, fi2, fl2, fr2)) rfl ?_
    refine gp_of (fun _ k9 => g_iald (k := b) (x := nI M0) rfl rfl (rfl) (by omega) (by decide) (w3) k9) ?_
    refine gp_n 2 (j' := 58) (lv' := [some (.ref 70), some (.int (nI b)), some (.int (nI d0)), some (.int sv)]) (st' := [.int 1, .int sv, .int (nI M0), .int (nI (d0 + 1)), .long (B0 ||| ((1 : Int64) <<< ((nI d0 : Int32).toInt64 &&& 63))), .ref 70]) (h' := (shT, fi2, fl2, fr2)) rfl ?_
    refine gp_of (fun _ k9 => g_call (y := 196) (as := [.int sv, .int 1]) (st' := [.int (nI M0), .int (nI (d0 + 1)), .long (B0 ||| ((1 : Int64) <<< ((nI d0 : Int32).toInt64 &&& 63))), .ref 70]) rfl rfl (pn1) k9) ?_
    refine gp_n 1 (j' := 60) (lv' := [some (.ref 70), some (.int (nI b)), some (.int (nI d0)), some (.int sv)]) (st' := [.int ((nI M0) + (nI u1)), .int (nI (d0 + 1)), .long (B0 ||| ((1 : Int64) <<< ((nI d0 : Int32).toInt64 &&& 63))), .ref 70]) (h' := (shT, fi2, fl2, fr2)) rfl ?_
    rw [ad1]
    refine gp_of (fun _ k9 => g_callv (y := 219) (as := [.ref 70, .long (B0 ||| ((1 : Int64) <<< ((nI d0 : Int32).toInt64 &&& 63))), .int (nI (d0 + 1)), .int (nI M2)]) (st' := []) rfl rfl (e3) k9) ?_
    refine gp_done (g_vret rfl) ?_
    rfl
