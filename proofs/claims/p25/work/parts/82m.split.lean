theorem nI_mul (a b : Nat) : nI a * nI b = nI (a * b) := by
  apply Int32.toBitVec_inj.mp
  rw [Int32.toBitVec_mul]
  show BitVec.ofNat 32 a * BitVec.ofNat 32 b = BitVec.ofNat 32 (a * b)
  exact (BitVec.ofNat_mul a b).symm
def rdI (A : Nat) (x : RSt) (h : PmH) : Prop := ph_r h 13 0 = some A ∧ ph_r h 13 1 = some (32 - A) ∧ ph_i h A 0 = nI x.1 ∧ ∀ p, p < x.1 → ph_l h (A + 1) p = x.2.1 p ∧ ph_i h (A + 2) p = x.2.2 p
def rwI (A m : Nat) (S : Nat → Int32) (x : RSt) (c lo : Nat) (h : PmH) : Prop := ∀ l, lo ≤ l → l ≤ m → ∀ p, p < x.1 → ∃ r, r < 8 ∧ ph_i h (A + 3) (8 * l + p) = nI r ∧ ∀ j, j < 2 ^ l → ph_i h 27 (ixS l r + j) = ndL m S (bl (x.2.1 p)) c l j
def trI (c Q : Nat) (mt : Nat → Int32) (st : Nat → Nat) (h : PmH) : Prop := ∀ r, r < Q → ph_i h 24 (8 * c + r) = mt r ∧ ph_i h 25 (8 * c + r) = nI (st r)
theorem hf_i : ∀ i, i < 16 → nI i >>> (1 &&& 31) = nI (i / 2) := by decide
theorem od_i : ∀ i, i < 16 → nI i &&& 1 = b01 (decide (i % 2 = 1)) := by decide
theorem bitI_e {w : Int64} {c q : Nat} (hq : q < 16) : w ||| ((nI q &&& 1).toInt64 <<< ((nI c : Int32).toInt64 &&& 63)) = bitI w c (decide (q % 2 = 1)) := by
  rw [od_i q hq]
  unfold bitI
  cases decide (q % 2 = 1)
  · rw [if_neg (by decide)]
    refine bl_ext (fun i hi => ?_)
    rw [bl_or]
    have e : ((b01 false).toInt64 <<< ((nI c : Int32).toInt64 &&& 63) : Int64) = 0 := by
      show (0 : Int64) <<< _ = 0
      apply Int64.toBitVec_inj.mp
      rw [Int64.toBitVec_shiftLeft]
      exact BitVec.zero_shiftLeft _
    rw [e, bl_0 i hi, Bool.or_false]
  · rw [if_pos rfl]
    rfl
theorem sp1_14 {c P : Nat} {pen : Int32 → Bool → Int32} {Mt s Kc : Nat → Int32} {l4 l5 l6 : Option Value} {fl : Nat → Nat → Int64} {fr : Nat → Nat → Option Nat} (hP : P ≤ 8) (k0 : fr 13 0 = some 14) (k2 : fr 14 2 = some 16) (k3 : fr 14 3 = some 17) (kS : fr 13 9 = some 27) (k10 : fr 13 10 = some 28) (k11 : fr 13 11 = some 29) (hs : ∀ p, p < P → ∀ t h, Ev pmT 77 [.int (s p), .int (b01 t)] h (some (.int (pen (s p) t))) h) (hK : ∀ q, Kc q = Mt (q / 2) + pen (s (q / 2)) (decide (q % 2 = 1))) : ∀ (n i : Nat) (fi : Nat → Nat → Int32), i + n = 2 * P → (∀ p, p < P → fi 16 p = Mt p) → (∀ p, p < P → ∃ r, r < 8 ∧ fi 17 (8 * 0 + p) = nI r ∧ fi 27 (ixS 0 r + 0) = s p) → (∀ t, t < i → fi 28 t = Kc t) → (∀ a, a < i → fi 29 a = nI (ordF (fun t => (Kc t).toInt) i a)) → ∃ fi', (∀ t, t < 2 * P → fi' 28 t = Kc t) ∧ (∀ a, a < 2 * P → fi' 29 a = nI (ordF (fun t => (Kc t).toInt) (2 * P) a)) ∧ (∀ p s, ¬ p = 28 → ¬ p = 29 → fi' p s = fi p s) ∧ ∀ r, Go pmT none cd_101 41 [some (.ref 13), some (.int (nI c)), some (.int (nI (2 * P))), some (.int (nI (2 * P))), l4, l5, l6] [] (shT, fi', fl, fr) r → Go pmT none cd_101 8 [some (.ref 13), some (.int (nI c)), some (.int (nI (2 * P))), some (.int (nI i)), l4, l5, l6] [] (shT, fi, fl, fr) r := by
  intro n
  induction n with
  | zero =>
    intro i fi hi hM hR h28 h29
    have hi : i = 2 * P := by omega
    subst hi
    refine ⟨fi, h28, h29, fun _ _ _ _ => rfl, fun r k => ?_⟩
    generalize nI (2 * P) = M at *
    refine go_of ?_
    refine gp_n 2 (j' := 10) (lv' := [some (.ref 13), some (.int (nI c)), some (.int M), some (.int M), l4, l5, l6]) (st' := [.int M, .int M]) (h' := (shT, fi, fl, fr)) rfl ?_
    refine gp_of (fun _ k9 => g_ict rfl (show M ≤ M from Int32.le_refl _) k9) ?_
    exact gp_done k rfl
  | succ n ih =>
    intro i fi hi hM hR h28 h29
    obtain ⟨r, r1, r2, r3⟩ := hR (i / 2) (by omega)
    have mt := hM (i / 2) (by omega)
    have tp := ixS_top (l := 0) (r := r) (by decide) r1
    have ps : Ev pmT 88 [.ref 13, .int 0, .int (nI (i / 2))] (shT, fi, fl, fr) (some (.int (nI (ixS 0 r)))) (shT, fi, fl, fr) := ps_ev_14 (l := 0) (by decide) (by omega) r1 k0 k3 r2
    have pn := hs (i / 2) (by omega) (decide (i % 2 = 1)) (shT, fi, fl, fr)
    have hf := hf_i i (by omega)
    have hb := od_i i (by omega)
    have srF := srt_F (fun t => (Kc t).toInt) i
    obtain ⟨f1, a1, a2, a3⟩ := so2_ev (q := i) (Kc := Kc) (o := ordF (fun t => (Kc t).toInt) i) (fi := pm_u2 fi 28 i (Kc i)) (fl := fl) (by omega) srF.1 k10 k11 (fun x hx => (show pm_u2 fi 28 i (Kc i) 29 x = fi 29 x from wl_ne (by omega)).trans (h29 x hx)) (fun x hx => by
      by_cases e : x = i
      · rw [e]
        exact u2_eq
      · exact (show pm_u2 fi 28 i (Kc i) 28 x = fi 28 x from wl_ne (by omega)).trans (h28 x (by omega)))
    have fr1 : ∀ p s, ¬ p = 28 → ¬ p = 29 → f1 p s = fi p s := fun p s z1 z2 => (a2 p s z2).trans (wl_ne (by omega))
    obtain ⟨f2, b1, b2, b3, b4⟩ := ih (i + 1) f1 (by omega) (fun p hp => (fr1 _ _ (by decide) (by decide)).trans (hM p hp)) (fun p hp => by
      obtain ⟨r, r1, r2, r3⟩ := hR p hp
      exact ⟨r, r1, (fr1 _ _ (by decide) (by decide)).trans r2, (fr1 _ _ (by decide) (by decide)).trans r3⟩) (fun t ht => by
      refine (a2 28 t (by decide)).trans ?_
      by_cases e : t = i
      · rw [e]
        exact u2_eq
      · exact (show pm_u2 fi 28 i (Kc i) 28 t = fi 28 t from wl_ne (by omega)).trans (h28 t (by omega))) (fun a ha => a1 a ha)
    refine ⟨f2, b1, b2, fun p s z1 z2 => (b3 p s z1 z2).trans (fr1 p s z1 z2), fun r' k => ?_⟩
    have g := b4 r' k
    have kc := hK i
    clear b4 ih b1 b2 b3 a1 hR hM h28 h29 fr1 a2 srF
    have nle : ¬ nI (2 * P) ≤ nI i := nI_ge (by omega) (by omega)
    rw [kc] at a3
    generalize Mt (i / 2) = x at *
    generalize s (i / 2) = y at *
    generalize pen y (decide (i % 2 = 1)) = v at *
    generalize nI (2 * P) = M at *
    have r3 : fi 27 (ixS 0 r) = y := r3
    have tp : ixS 0 r < 1016 := by omega
    generalize ixS 0 r = ix at *
    refine go_of ?_
    refine gp_n 2 (j' := 10) (lv' := [some (.ref 13), some (.int (nI c)), some (.int M), some (.int (nI i)), l4, l5, l6]) (st' := [.int M, .int (nI i)]) (h' := (shT, fi, fl, fr)) rfl ?_
    refine gp_of (fun _ k9 => g_icf rfl (show ¬ (M ≤ (nI i)) from nle) k9) ?_
    refine gp_n 1 (j' := 12) (lv' := [some (.ref 13), some (.int (nI c)), some (.int M), some (.int (nI i)), l4, l5, l6]) (st' := [.ref 13]) (h' := (shT, fi, fl, fr)) rfl ?_
    refine gp_of (fun _ k9 => g_getR (q' := 28) rfl rfl (by decide) k10 k9) ?_
    refine gp_n 2 (j' := 15) (lv' := [some (.ref 13), some (.int (nI c)), some (.int M), some (.int (nI i)), l4, l5, l6]) (st' := [.ref 13, .int (nI i), .ref 28]) (h' := (shT, fi, fl, fr)) rfl ?_
    refine gp_of (fun _ k9 => g_getR (q' := 14) rfl rfl (by decide) k0 k9) ?_
    refine gp_of (fun _ k9 => g_getR (q' := 16) rfl rfl (by decide) k2 k9) ?_
    refine gp_n 3 (j' := 20) (lv' := [some (.ref 13), some (.int (nI c)), some (.int M), some (.int (nI i)), l4, l5, l6]) (st' := [.int ((nI i) >>> (1 &&& 31)), .ref 16, .int (nI i), .ref 28]) (h' := (shT, fi, fl, fr)) rfl ?_
    refine gp_of (fun _ k9 => g_iald (k := i / 2) (x := x) rfl rfl (hf) (by omega) (by decide) (mt) k9) ?_
    refine gp_n 1 (j' := 22) (lv' := [some (.ref 13), some (.int (nI c)), some (.int M), some (.int (nI i)), l4, l5, l6]) (st' := [.ref 13, .int x, .int (nI i), .ref 28]) (h' := (shT, fi, fl, fr)) rfl ?_
    refine gp_of (fun _ k9 => g_getR (q' := 27) rfl rfl (by decide) kS k9) ?_
    refine gp_n 5 (j' := 28) (lv' := [some (.ref 13), some (.int (nI c)), some (.int M), some (.int (nI i)), l4, l5, l6]) (st' := [.int ((nI i) >>> (1 &&& 31)), .int 0, .ref 13, .ref 27, .int x, .int (nI i), .ref 28]) (h' := (shT, fi, fl, fr)) rfl ?_
    rw [hf]
    refine gp_of (fun _ k9 => g_call (y := 88) (as := [.ref 13, .int 0, .int (nI (i / 2))]) (st' := [.ref 27, .int x, .int (nI i), .ref 28]) rfl rfl (ps) k9) ?_
    refine gp_of (fun _ k9 => g_iald (k := ix) (x := y) rfl rfl (rfl) (by omega) (by decide) (r3) k9) ?_
    refine gp_n 3 (j' := 33) (lv' := [some (.ref 13), some (.int (nI c)), some (.int M), some (.int (nI i)), l4, l5, l6]) (st' := [.int ((nI i) &&& 1), .int y, .int x, .int (nI i), .ref 28]) (h' := (shT, fi, fl, fr)) rfl ?_
    rw [hb]
    refine gp_of (fun _ k9 => g_call (y := 77) (as := [.int y, .int (b01 (decide (i % 2 = 1)))]) (st' := [.int x, .int (nI i), .ref 28]) rfl rfl (pn) k9) ?_
    refine gp_n 1 (j' := 35) (lv' := [some (.ref 13), some (.int (nI c)), some (.int M), some (.int (nI i)), l4, l5, l6]) (st' := [.int (x + v), .int (nI i), .ref 28]) (h' := (shT, fi, fl, fr)) rfl ?_
    refine gp_of (fun _ k9 => g_iast (k := i) rfl rfl (rfl) (by omega) (by decide) k9) ?_
    refine gp_n 2 (j' := 38) (lv' := [some (.ref 13), some (.int (nI c)), some (.int M), some (.int (nI i)), l4, l5, l6]) (st' := [.int (nI i), .ref 13]) (h' := (shT, pm_u2 fi 28 i (x + v), fl, fr)) rfl ?_
    refine gp_of (fun _ k9 => g_callv (y := 102) (as := [.ref 13, .int (nI i)]) (st' := []) rfl rfl (a3) k9) ?_
    refine gp_n 2 (j' := 8) (lv' := [some (.ref 13), some (.int (nI c)), some (.int M), some (.int ((nI i) + 1)), l4, l5, l6]) (st' := []) (h' := (shT, f1, fl, fr)) rfl ?_
    rw [nI_1]
    exact gp_done g rfl
theorem sp2_14 {c P most : Nat} {Mt Kc : Nat → Int32} {B : Nat → Int64} {oo : Nat → Nat} {R0 : Nat → Nat → Int32} {fr : Nat → Nat → Option Nat} (hP : P ≤ 8) (hmo : most ≤ 8) (hc : c < 64) (k0 : fr 13 0 = some 14) (kn : fr 13 1 = some 18) (kB : fr 14 1 = some 15) (k3 : fr 14 3 = some 17) (n1 : fr 18 1 = some 19) (n2 : fr 18 2 = some 20) (n3 : fr 18 3 = some 21) (k10 : fr 13 10 = some 28) (k11 : fr 13 11 = some 29) (kT : fr 13 2 = some 22) (t1 : fr 22 1 = some 24) (t2 : fr 22 2 = some 25) (ho : ∀ a, a < 2 * P → oo a < 2 * P) : ∀ (n i : Nat) (fi : Nat → Nat → Int32) (fl : Nat → Nat → Int64), i + n = min (2 * P) most → fi 13 13 = nI most → (∀ t, t < 2 * P → fi 28 t = Kc t) → (∀ a, a < 2 * P → fi 29 a = nI (oo a)) → (∀ p, p < P → fl 15 p = B p) → (∀ l p, l < 7 → p < P → fi 17 (8 * l + p) = R0 l p) → fi 18 0 = nI i → ∃ fi' fl', fi' 18 0 = nI (min (2 * P) most) ∧ (∀ t, i ≤ t → t < min (2 * P) most → fl' 19 t = bitI (B (oo t / 2)) c (decide (oo t % 2 = 1)) ∧ fi' 20 t = Kc (oo t) ∧ (∀ l, l < 7 → fi' 21 (8 * l + t) = R0 l (oo t / 2)) ∧ fi' 24 (8 * c + t) = Kc (oo t) ∧ fi' 25 (8 * c + t) = nI (oo t)) ∧ (∀ q s, ¬ (q = 18 ∧ s = 0) → ¬ (q = 20 ∧ i ≤ s) → ¬ (q = 21 ∧ i ≤ s % 8) → ¬ ((q = 24 ∨ q = 25) ∧ 8 * c + i ≤ s ∧ s < 8 * c + 8) → fi' q s = fi q s) ∧ (∀ q s, ¬ (q = 19 ∧ i ≤ s) → fl' q s = fl q s) ∧ ∀ r, (∀ l4 l5 l6, Go pmT none cd_101 98 [some (.ref 13), some (.int (nI c)), some (.int (nI (2 * P))), some (.int (nI (min (2 * P) most))), l4, l5, l6] [] (shT, fi', fl', fr) r) → ∀ l4 l5 l6, Go pmT none cd_101 46 [some (.ref 13), some (.int (nI c)), some (.int (nI (2 * P))), some (.int (nI i)), l4, l5, l6] [] (shT, fi, fl, fr) r := by
  intro n
  induction n with
  | zero =>
    intro i fi fl hi c13 h28 h29 hB hR ct
    refine ⟨fi, fl, by rw [← show i = min (2 * P) most by omega]; exact ct, fun t z1 z2 => absurd z2 (by omega), fun _ _ _ _ _ _ => rfl, fun _ _ _ => rfl, fun r k l4 l5 l6 => ?_⟩
    have hi : i = min (2 * P) most := by omega
    rw [← hi] at k
    refine go_of ?_
    by_cases hq : 2 * P ≤ i
    · have le1 : nI (2 * P) ≤ nI i := nI_le hq (by omega)
      generalize nI (2 * P) = M at *
      refine gp_n 2 (j' := 48) (lv' := [some (.ref 13), some (.int (nI c)), some (.int M), some (.int (nI i)), l4, l5, l6]) (st' := [.int M, .int (nI i)]) (h' := (shT, fi, fl, fr)) rfl ?_
      refine gp_of (fun _ k9 => g_ict rfl (show M ≤ (nI i) from le1) k9) ?_
      exact gp_done (k _ _ _) rfl
    · have le1 : ¬ nI (2 * P) ≤ nI i := nI_ge (by omega) (by omega)
      have le2 : nI most ≤ nI i := nI_le (by omega) (by omega)
      generalize nI (2 * P) = M at *
      refine gp_n 2 (j' := 48) (lv' := [some (.ref 13), some (.int (nI c)), some (.int M), some (.int (nI i)), l4, l5, l6]) (st' := [.int M, .int (nI i)]) (h' := (shT, fi, fl, fr)) rfl ?_
      refine gp_of (fun _ k9 => g_icf rfl (show ¬ (M ≤ (nI i)) from le1) k9) ?_
      refine gp_n 2 (j' := 51) (lv' := [some (.ref 13), some (.int (nI c)), some (.int M), some (.int (nI i)), l4, l5, l6]) (st' := [.ref 13, .int (nI i)]) (h' := (shT, fi, fl, fr)) rfl ?_
      refine gp_of (fun _ k9 => g_getI (x := nI most) rfl (Or.inl rfl) rfl (by decide) (c13) k9) ?_
      refine gp_of (fun _ k9 => g_ict rfl (show (nI most) ≤ (nI i) from le2) k9) ?_
      exact gp_done (k _ _ _) rfl
  | succ n ih =>
    intro i fi fl hi c13 h28 h29 hB hR ct
    have le1 : ¬ nI (2 * P) ≤ nI i := nI_ge (by omega) (by omega)
    have le2 : ¬ nI most ≤ nI i := nI_ge (by omega) (by omega)
    have oi := h29 i (by omega)
    have o1 := ho i (by omega)
    have ki := h28 (oo i) o1
    have hf := hf_i (oo i) (by omega)
    have bB := hB (oo i / 2) (by omega)
    have bt := bitI_e (w := B (oo i / 2)) (c := c) (q := oo i) (by omega)
    obtain ⟨f1, ⟨a1, a2, a3⟩, a4, a5⟩ := ac_ev_14 (p := oo i / 2) (t := i) (w := bitI (B (oo i / 2)) c (decide (oo i % 2 = 1))) (x := Kc (oo i)) (fi := fi) (fl := fl) (fr := fr) (by omega) (by omega) k3 n3 n1 n2 ct
    have pt := pt_ev (c := c) (p := i) (x := Kc (oo i)) (y := nI (oo i)) (fi := f1) (fl := pm_u2 fl 19 i (bitI (B (oo i / 2)) c (decide (oo i % 2 = 1)))) (fr := fr) hc (by omega) t1 t2
    have fA : ∀ q s, ¬ q = 18 → ¬ q = 20 → ¬ q = 21 → f1 q s = fi q s := fun q s z1 z2 z3 => a4 q s (fun z => z3 z.1) (fun z => z2 z.1) (fun z => z1 z.1)
    have fB : ∀ q s, ¬ (q = 24 ∧ s = 8 * c + i) → ¬ (q = 25 ∧ s = 8 * c + i) → pm_u2 (pm_u2 f1 24 (8 * c + i) (Kc (oo i))) 25 (8 * c + i) (nI (oo i)) q s = f1 q s := fun q s z1 z2 => (wl_ne z2).trans (wl_ne z1)
    have e24 : pm_u2 (pm_u2 f1 24 (8 * c + i) (Kc (oo i))) 25 (8 * c + i) (nI (oo i)) 24 (8 * c + i) = Kc (oo i) := (wl_ne (fun z => absurd z.1 (by decide))).trans u2_eq
    have e25 : pm_u2 (pm_u2 f1 24 (8 * c + i) (Kc (oo i))) 25 (8 * c + i) (nI (oo i)) 25 (8 * c + i) = nI (oo i) := u2_eq
    have e28 : f1 28 (oo i) = Kc (oo i) := (fA _ _ (by decide) (by decide) (by decide)).trans ki
    generalize hF : pm_u2 (pm_u2 f1 24 (8 * c + i) (Kc (oo i))) 25 (8 * c + i) (nI (oo i)) = f2 at *
    have fC : ∀ q s, ¬ q = 18 → ¬ q = 20 → ¬ q = 21 → ¬ q = 24 → ¬ q = 25 → f2 q s = fi q s := fun q s z1 z2 z3 z4 z5 => (fB q s (fun z => z4 z.1) (fun z => z5 z.1)).trans (fA q s z1 z2 z3)
    obtain ⟨f3, l3, b0, b1, b2, b3, b4⟩ := ih (i + 1) f2 (pm_u2 fl 19 i (bitI (B (oo i / 2)) c (decide (oo i % 2 = 1)))) (by omega) ((fC _ _ (by decide) (by decide) (by decide) (by decide) (by decide)).trans c13) (fun t ht => (fC _ _ (by decide) (by decide) (by decide) (by decide) (by decide)).trans (h28 t ht)) (fun a ha => (fC _ _ (by decide) (by decide) (by decide) (by decide) (by decide)).trans (h29 a ha)) (fun p hp => (wl_ne (fun z => absurd z.1 (by decide))).trans (hB p hp)) (fun l p hl hp => (fC _ _ (by decide) (by decide) (by decide) (by decide) (by decide)).trans (hR l p hl hp)) ((fB _ _ (fun z => absurd z.1 (by decide)) (fun z => absurd z.1 (by decide))).trans a1)
    refine ⟨f3, l3, b0, fun t z1 z2 => ?_, fun q s z1 z2 z3 z4 => ?_, fun q s z1 => (b3 q s (fun z => z1 ⟨z.1, by omega⟩)).trans (wl_ne (fun z => z1 ⟨z.1, by omega⟩)), fun r k l4 l5 l6 => ?_⟩
    · by_cases e : t = i
      · subst e
        refine ⟨(b3 _ _ (by omega)).trans u2_eq, ?_, fun l hl => ?_, ?_, ?_⟩
        · exact (b2 _ _ (by omega) (by omega) (by omega) (by omega)).trans ((fB _ _ (by omega) (by omega)).trans a2)
        · exact (b2 _ _ (by omega) (by omega) (by omega) (by omega)).trans ((fB _ _ (by omega) (by omega)).trans ((a3 l hl).trans (hR l _ hl (by omega))))
        · exact (b2 _ _ (by omega) (by omega) (by omega) (by omega)).trans e24
        · exact (b2 _ _ (by omega) (by omega) (by omega) (by omega)).trans e25
      · exact b1 t (by omega) z2
    · refine (b2 q s z1 (by omega) (by omega) (by omega)).trans ((fB q s (by omega) (by omega)).trans (a4 q s (fun ⟨y1, l', y2⟩ => z3 ⟨y1, by omega⟩) (by omega) z1))
    have g := b4 r k
    have i16 : i < 16 := by omega
    clear b4 ih b1 b2 b3 b0 hR h28 h29 fA fB fC e24 e25 a1 a2 a3 a4 hB
    subst hF
    generalize nI (2 * P) = M at *
    generalize hW : bitI (B (oo i / 2)) c (decide (oo i % 2 = 1)) = W at *
    generalize B (oo i / 2) = w at *
    generalize Kc (oo i) = x at *
    generalize oo i = q at *
    generalize min (2 * P) most = MM at *
    refine go_of ?_
    refine gp_n 2 (j' := 48) (lv' := [some (.ref 13), some (.int (nI c)), some (.int M), some (.int (nI i)), l4, l5, l6]) (st' := [.int M, .int (nI i)]) (h' := (shT, fi, fl, fr)) rfl ?_
    refine gp_of (fun _ k9 => g_icf rfl (show ¬ (M ≤ (nI i)) from le1) k9) ?_
    refine gp_n 2 (j' := 51) (lv' := [some (.ref 13), some (.int (nI c)), some (.int M), some (.int (nI i)), l4, l5, l6]) (st' := [.ref 13, .int (nI i)]) (h' := (shT, fi, fl, fr)) rfl ?_
    refine gp_of (fun _ k9 => g_getI (x := nI most) rfl (Or.inl rfl) rfl (by decide) (c13) k9) ?_
    refine gp_of (fun _ k9 => g_icf rfl (show ¬ ((nI most) ≤ (nI i)) from le2) k9) ?_
    refine gp_n 1 (j' := 54) (lv' := [some (.ref 13), some (.int (nI c)), some (.int M), some (.int (nI i)), l4, l5, l6]) (st' := [.ref 13]) (h' := (shT, fi, fl, fr)) rfl ?_
    refine gp_of (fun _ k9 => g_getR (q' := 29) rfl rfl (by decide) k11 k9) ?_
    refine gp_n 1 (j' := 56) (lv' := [some (.ref 13), some (.int (nI c)), some (.int M), some (.int (nI i)), l4, l5, l6]) (st' := [.int (nI i), .ref 29]) (h' := (shT, fi, fl, fr)) rfl ?_
    refine gp_of (fun _ k9 => g_iald (k := i) (x := nI q) rfl rfl (rfl) (by omega) (by decide) (oi) k9) ?_
    refine gp_n 2 (j' := 59) (lv' := [some (.ref 13), some (.int (nI c)), some (.int M), some (.int (nI i)), some (.int (nI q)), l5, l6]) (st' := [.ref 13]) (h' := (shT, fi, fl, fr)) rfl ?_
    refine gp_of (fun _ k9 => g_getR (q' := 14) rfl rfl (by decide) k0 k9) ?_
    refine gp_of (fun _ k9 => g_getR (q' := 15) rfl rfl (by decide) kB k9) ?_
    refine gp_n 3 (j' := 64) (lv' := [some (.ref 13), some (.int (nI c)), some (.int M), some (.int (nI i)), some (.int (nI q)), l5, l6]) (st' := [.int ((nI q) >>> (1 &&& 31)), .ref 15]) (h' := (shT, fi, fl, fr)) rfl ?_
    refine gp_of (fun _ k9 => g_lald (k := q / 2) (x := w) rfl rfl (hf) (by omega) (by decide) (bB) k9) ?_
    refine gp_n 7 (j' := 72) (lv' := [some (.ref 13), some (.int (nI c)), some (.int M), some (.int (nI i)), some (.int (nI q)), l5, l6]) (st' := [.long (w ||| ((((nI q) &&& 1).toInt64) <<< ((nI c : Int32).toInt64 &&& 63)))]) (h' := (shT, fi, fl, fr)) rfl ?_
    rw [bt]
    refine gp_n 2 (j' := 74) (lv' := [some (.ref 13), some (.int (nI c)), some (.int M), some (.int (nI i)), some (.int (nI q)), some (.long W), none]) (st' := [.ref 13]) (h' := (shT, fi, fl, fr)) rfl ?_
    refine gp_of (fun _ k9 => g_getR (q' := 18) rfl rfl (by decide) kn k9) ?_
    refine gp_n 1 (j' := 76) (lv' := [some (.ref 13), some (.int (nI c)), some (.int M), some (.int (nI i)), some (.int (nI q)), some (.long W), none]) (st' := [.ref 13, .ref 18]) (h' := (shT, fi, fl, fr)) rfl ?_
    refine gp_of (fun _ k9 => g_getR (q' := 14) rfl rfl (by decide) k0 k9) ?_
    refine gp_n 3 (j' := 80) (lv' := [some (.ref 13), some (.int (nI c)), some (.int M), some (.int (nI i)), some (.int (nI q)), some (.long W), none]) (st' := [.int ((nI q) >>> (1 &&& 31)), .ref 14, .ref 18]) (h' := (shT, fi, fl, fr)) rfl ?_
    rw [hf]
    refine gp_n 2 (j' := 82) (lv' := [some (.ref 13), some (.int (nI c)), some (.int M), some (.int (nI i)), some (.int (nI q)), some (.long W), none]) (st' := [.ref 13, .long W, .int (nI (q / 2)), .ref 14, .ref 18]) (h' := (shT, fi, fl, fr)) rfl ?_
    refine gp_of (fun _ k9 => g_getR (q' := 28) rfl rfl (by decide) k10 k9) ?_
    refine gp_n 1 (j' := 84) (lv' := [some (.ref 13), some (.int (nI c)), some (.int M), some (.int (nI i)), some (.int (nI q)), some (.long W), none]) (st' := [.int (nI q), .ref 28, .long W, .int (nI (q / 2)), .ref 14, .ref 18]) (h' := (shT, fi, fl, fr)) rfl ?_
    refine gp_of (fun _ k9 => g_iald (k := q) (x := x) rfl rfl (rfl) (by omega) (by decide) (ki) k9) ?_
    refine gp_of (fun _ k9 => g_callv (y := 104) (as := [.ref 18, .ref 14, .int (nI (q / 2)), .long W, .int x]) (st' := []) rfl rfl (a5) k9) ?_
    refine gp_n 1 (j' := 87) (lv' := [some (.ref 13), some (.int (nI c)), some (.int M), some (.int (nI i)), some (.int (nI q)), some (.long W), none]) (st' := [.ref 13]) (h' := (shT, f1, (pm_u2 fl 19 i W), fr)) rfl ?_
    refine gp_of (fun _ k9 => g_getR (q' := 22) rfl rfl (by decide) kT k9) ?_
    refine gp_n 3 (j' := 91) (lv' := [some (.ref 13), some (.int (nI c)), some (.int M), some (.int (nI i)), some (.int (nI q)), some (.long W), none]) (st' := [.ref 13, .int (nI i), .int (nI c), .ref 22]) (h' := (shT, f1, (pm_u2 fl 19 i W), fr)) rfl ?_
    refine gp_of (fun _ k9 => g_getR (q' := 28) rfl rfl (by decide) k10 k9) ?_
    refine gp_n 1 (j' := 93) (lv' := [some (.ref 13), some (.int (nI c)), some (.int M), some (.int (nI i)), some (.int (nI q)), some (.long W), none]) (st' := [.int (nI q), .ref 28, .int (nI i), .int (nI c), .ref 22]) (h' := (shT, f1, (pm_u2 fl 19 i W), fr)) rfl ?_
    refine gp_of (fun _ k9 => g_iald (k := q) (x := x) rfl rfl (rfl) (by omega) (by decide) (e28) k9) ?_
    refine gp_n 1 (j' := 95) (lv' := [some (.ref 13), some (.int (nI c)), some (.int M), some (.int (nI i)), some (.int (nI q)), some (.long W), none]) (st' := [.int (nI q), .int x, .int (nI i), .int (nI c), .ref 22]) (h' := (shT, f1, (pm_u2 fl 19 i W), fr)) rfl ?_
    refine gp_of (fun _ k9 => g_callv (y := 99) (as := [.ref 22, .int (nI c), .int (nI i), .int x, .int (nI q)]) (st' := []) rfl rfl (pt) k9) ?_
    refine gp_n 2 (j' := 46) (lv' := [some (.ref 13), some (.int (nI c)), some (.int M), some (.int ((nI i) + 1)), some (.int (nI q)), some (.long W), none]) (st' := []) (h' := (shT, (pm_u2 (pm_u2 f1 24 (8 * c + i) x) 25 (8 * c + i) (nI q)), (pm_u2 fl 19 i W), fr)) rfl ?_
    rw [nI_1]
    exact gp_done (g _ _ _) rfl
theorem sp1_18 {c P : Nat} {pen : Int32 → Bool → Int32} {Mt s Kc : Nat → Int32} {l4 l5 l6 : Option Value} {fl : Nat → Nat → Int64} {fr : Nat → Nat → Option Nat} (hP : P ≤ 8) (k0 : fr 13 0 = some 18) (k2 : fr 18 2 = some 20) (k3 : fr 18 3 = some 21) (kS : fr 13 9 = some 27) (k10 : fr 13 10 = some 28) (k11 : fr 13 11 = some 29) (hs : ∀ p, p < P → ∀ t h, Ev pmT 77 [.int (s p), .int (b01 t)] h (some (.int (pen (s p) t))) h) (hK : ∀ q, Kc q = Mt (q / 2) + pen (s (q / 2)) (decide (q % 2 = 1))) : ∀ (n i : Nat) (fi : Nat → Nat → Int32), i + n = 2 * P → (∀ p, p < P → fi 20 p = Mt p) → (∀ p, p < P → ∃ r, r < 8 ∧ fi 21 (8 * 0 + p) = nI r ∧ fi 27 (ixS 0 r + 0) = s p) → (∀ t, t < i → fi 28 t = Kc t) → (∀ a, a < i → fi 29 a = nI (ordF (fun t => (Kc t).toInt) i a)) → ∃ fi', (∀ t, t < 2 * P → fi' 28 t = Kc t) ∧ (∀ a, a < 2 * P → fi' 29 a = nI (ordF (fun t => (Kc t).toInt) (2 * P) a)) ∧ (∀ p s, ¬ p = 28 → ¬ p = 29 → fi' p s = fi p s) ∧ ∀ r, Go pmT none cd_101 41 [some (.ref 13), some (.int (nI c)), some (.int (nI (2 * P))), some (.int (nI (2 * P))), l4, l5, l6] [] (shT, fi', fl, fr) r → Go pmT none cd_101 8 [some (.ref 13), some (.int (nI c)), some (.int (nI (2 * P))), some (.int (nI i)), l4, l5, l6] [] (shT, fi, fl, fr) r := by
  intro n
  induction n with
  | zero =>
    intro i fi hi hM hR h28 h29
    have hi : i = 2 * P := by omega
    subst hi
    refine ⟨fi, h28, h29, fun _ _ _ _ => rfl, fun r k => ?_⟩
    generalize nI (2 * P) = M at *
    refine go_of ?_
    refine gp_n 2 (j' := 10) (lv' := [some (.ref 13), some (.int (nI c)), some (.int M), some (.int M), l4, l5, l6]) (st' := [.int M, .int M]) (h' := (shT, fi, fl, fr)) rfl ?_
    refine gp_of (fun _ k9 => g_ict rfl (show M ≤ M from Int32.le_refl _) k9) ?_
    exact gp_done k rfl
  | succ n ih =>
    intro i fi hi hM hR h28 h29
    obtain ⟨r, r1, r2, r3⟩ := hR (i / 2) (by omega)
    have mt := hM (i / 2) (by omega)
    have tp := ixS_top (l := 0) (r := r) (by decide) r1
    have ps : Ev pmT 88 [.ref 13, .int 0, .int (nI (i / 2))] (shT, fi, fl, fr) (some (.int (nI (ixS 0 r)))) (shT, fi, fl, fr) := ps_ev_18 (l := 0) (by decide) (by omega) r1 k0 k3 r2
    have pn := hs (i / 2) (by omega) (decide (i % 2 = 1)) (shT, fi, fl, fr)
    have hf := hf_i i (by omega)
    have hb := od_i i (by omega)
    have srF := srt_F (fun t => (Kc t).toInt) i
    obtain ⟨f1, a1, a2, a3⟩ := so2_ev (q := i) (Kc := Kc) (o := ordF (fun t => (Kc t).toInt) i) (fi := pm_u2 fi 28 i (Kc i)) (fl := fl) (by omega) srF.1 k10 k11 (fun x hx => (show pm_u2 fi 28 i (Kc i) 29 x = fi 29 x from wl_ne (by omega)).trans (h29 x hx)) (fun x hx => by
      by_cases e : x = i
      · rw [e]
        exact u2_eq
      · exact (show pm_u2 fi 28 i (Kc i) 28 x = fi 28 x from wl_ne (by omega)).trans (h28 x (by omega)))
    have fr1 : ∀ p s, ¬ p = 28 → ¬ p = 29 → f1 p s = fi p s := fun p s z1 z2 => (a2 p s z2).trans (wl_ne (by omega))
    obtain ⟨f2, b1, b2, b3, b4⟩ := ih (i + 1) f1 (by omega) (fun p hp => (fr1 _ _ (by decide) (by decide)).trans (hM p hp)) (fun p hp => by
      obtain ⟨r, r1, r2, r3⟩ := hR p hp
      exact ⟨r, r1, (fr1 _ _ (by decide) (by decide)).trans r2, (fr1 _ _ (by decide) (by decide)).trans r3⟩) (fun t ht => by
      refine (a2 28 t (by decide)).trans ?_
      by_cases e : t = i
      · rw [e]
        exact u2_eq
      · exact (show pm_u2 fi 28 i (Kc i) 28 t = fi 28 t from wl_ne (by omega)).trans (h28 t (by omega))) (fun a ha => a1 a ha)
    refine ⟨f2, b1, b2, fun p s z1 z2 => (b3 p s z1 z2).trans (fr1 p s z1 z2), fun r' k => ?_⟩
    have g := b4 r' k
    have kc := hK i
    clear b4 ih b1 b2 b3 a1 hR hM h28 h29 fr1 a2 srF
    have nle : ¬ nI (2 * P) ≤ nI i := nI_ge (by omega) (by omega)
    rw [kc] at a3
    generalize Mt (i / 2) = x at *
    generalize s (i / 2) = y at *
    generalize pen y (decide (i % 2 = 1)) = v at *
    generalize nI (2 * P) = M at *
    have r3 : fi 27 (ixS 0 r) = y := r3
    have tp : ixS 0 r < 1016 := by omega
    generalize ixS 0 r = ix at *
    refine go_of ?_
    refine gp_n 2 (j' := 10) (lv' := [some (.ref 13), some (.int (nI c)), some (.int M), some (.int (nI i)), l4, l5, l6]) (st' := [.int M, .int (nI i)]) (h' := (shT, fi, fl, fr)) rfl ?_
    refine gp_of (fun _ k9 => g_icf rfl (show ¬ (M ≤ (nI i)) from nle) k9) ?_
    refine gp_n 1 (j' := 12) (lv' := [some (.ref 13), some (.int (nI c)), some (.int M), some (.int (nI i)), l4, l5, l6]) (st' := [.ref 13]) (h' := (shT, fi, fl, fr)) rfl ?_
    refine gp_of (fun _ k9 => g_getR (q' := 28) rfl rfl (by decide) k10 k9) ?_
    refine gp_n 2 (j' := 15) (lv' := [some (.ref 13), some (.int (nI c)), some (.int M), some (.int (nI i)), l4, l5, l6]) (st' := [.ref 13, .int (nI i), .ref 28]) (h' := (shT, fi, fl, fr)) rfl ?_
    refine gp_of (fun _ k9 => g_getR (q' := 18) rfl rfl (by decide) k0 k9) ?_
    refine gp_of (fun _ k9 => g_getR (q' := 20) rfl rfl (by decide) k2 k9) ?_
    refine gp_n 3 (j' := 20) (lv' := [some (.ref 13), some (.int (nI c)), some (.int M), some (.int (nI i)), l4, l5, l6]) (st' := [.int ((nI i) >>> (1 &&& 31)), .ref 20, .int (nI i), .ref 28]) (h' := (shT, fi, fl, fr)) rfl ?_
    refine gp_of (fun _ k9 => g_iald (k := i / 2) (x := x) rfl rfl (hf) (by omega) (by decide) (mt) k9) ?_
    refine gp_n 1 (j' := 22) (lv' := [some (.ref 13), some (.int (nI c)), some (.int M), some (.int (nI i)), l4, l5, l6]) (st' := [.ref 13, .int x, .int (nI i), .ref 28]) (h' := (shT, fi, fl, fr)) rfl ?_
    refine gp_of (fun _ k9 => g_getR (q' := 27) rfl rfl (by decide) kS k9) ?_
    refine gp_n 5 (j' := 28) (lv' := [some (.ref 13), some (.int (nI c)), some (.int M), some (.int (nI i)), l4, l5, l6]) (st' := [.int ((nI i) >>> (1 &&& 31)), .int 0, .ref 13, .ref 27, .int x, .int (nI i), .ref 28]) (h' := (shT, fi, fl, fr)) rfl ?_
    rw [hf]
    refine gp_of (fun _ k9 => g_call (y := 88) (as := [.ref 13, .int 0, .int (nI (i / 2))]) (st' := [.ref 27, .int x, .int (nI i), .ref 28]) rfl rfl (ps) k9) ?_
    refine gp_of (fun _ k9 => g_iald (k := ix) (x := y) rfl rfl (rfl) (by omega) (by decide) (r3) k9) ?_
    refine gp_n 3 (j' := 33) (lv' := [some (.ref 13), some (.int (nI c)), some (.int M), some (.int (nI i)), l4, l5, l6]) (st' := [.int ((nI i) &&& 1), .int y, .int x, .int (nI i), .ref 28]) (h' := (shT, fi, fl, fr)) rfl ?_
    rw [hb]
    refine gp_of (fun _ k9 => g_call (y := 77) (as := [.int y, .int (b01 (decide (i % 2 = 1)))]) (st' := [.int x, .int (nI i), .ref 28]) rfl rfl (pn) k9) ?_
    refine gp_n 1 (j' := 35) (lv' := [some (.ref 13), some (.int (nI c)), some (.int M), some (.int (nI i)), l4, l5, l6]) (st' := [.int (x + v), .int (nI i), .ref 28]) (h' := (shT, fi, fl, fr)) rfl ?_
    refine gp_of (fun _ k9 => g_iast (k := i) rfl rfl (rfl) (by omega) (by decide) k9) ?_
    refine gp_n 2 (j' := 38) (lv' := [some (.ref 13), some (.int (nI c)), some (.int M), some (.int (nI i)), l4, l5, l6]) (st' := [.int (nI i), .ref 13]) (h' := (shT, pm_u2 fi 28 i (x + v), fl, fr)) rfl ?_
    refine gp_of (fun _ k9 => g_callv (y := 102) (as := [.ref 13, .int (nI i)]) (st' := []) rfl rfl (a3) k9) ?_
    refine gp_n 2 (j' := 8) (lv' := [some (.ref 13), some (.int (nI c)), some (.int M), some (.int ((nI i) + 1)), l4, l5, l6]) (st' := []) (h' := (shT, f1, fl, fr)) rfl ?_
    rw [nI_1]
    exact gp_done g rfl
theorem sp2_18 {c P most : Nat} {Mt Kc : Nat → Int32} {B : Nat → Int64} {oo : Nat → Nat} {R0 : Nat → Nat → Int32} {fr : Nat → Nat → Option Nat} (hP : P ≤ 8) (hmo : most ≤ 8) (hc : c < 64) (k0 : fr 13 0 = some 18) (kn : fr 13 1 = some 14) (kB : fr 18 1 = some 19) (k3 : fr 18 3 = some 21) (n1 : fr 14 1 = some 15) (n2 : fr 14 2 = some 16) (n3 : fr 14 3 = some 17) (k10 : fr 13 10 = some 28) (k11 : fr 13 11 = some 29) (kT : fr 13 2 = some 22) (t1 : fr 22 1 = some 24) (t2 : fr 22 2 = some 25) (ho : ∀ a, a < 2 * P → oo a < 2 * P) : ∀ (n i : Nat) (fi : Nat → Nat → Int32) (fl : Nat → Nat → Int64), i + n = min (2 * P) most → fi 13 13 = nI most → (∀ t, t < 2 * P → fi 28 t = Kc t) → (∀ a, a < 2 * P → fi 29 a = nI (oo a)) → (∀ p, p < P → fl 19 p = B p) → (∀ l p, l < 7 → p < P → fi 21 (8 * l + p) = R0 l p) → fi 14 0 = nI i → ∃ fi' fl', fi' 14 0 = nI (min (2 * P) most) ∧ (∀ t, i ≤ t → t < min (2 * P) most → fl' 15 t = bitI (B (oo t / 2)) c (decide (oo t % 2 = 1)) ∧ fi' 16 t = Kc (oo t) ∧ (∀ l, l < 7 → fi' 17 (8 * l + t) = R0 l (oo t / 2)) ∧ fi' 24 (8 * c + t) = Kc (oo t) ∧ fi' 25 (8 * c + t) = nI (oo t)) ∧ (∀ q s, ¬ (q = 14 ∧ s = 0) → ¬ (q = 16 ∧ i ≤ s) → ¬ (q = 17 ∧ i ≤ s % 8) → ¬ ((q = 24 ∨ q = 25) ∧ 8 * c + i ≤ s ∧ s < 8 * c + 8) → fi' q s = fi q s) ∧ (∀ q s, ¬ (q = 15 ∧ i ≤ s) → fl' q s = fl q s) ∧ ∀ r, (∀ l4 l5 l6, Go pmT none cd_101 98 [some (.ref 13), some (.int (nI c)), some (.int (nI (2 * P))), some (.int (nI (min (2 * P) most))), l4, l5, l6] [] (shT, fi', fl', fr) r) → ∀ l4 l5 l6, Go pmT none cd_101 46 [some (.ref 13), some (.int (nI c)), some (.int (nI (2 * P))), some (.int (nI i)), l4, l5, l6] [] (shT, fi, fl, fr) r := by
  intro n
  induction n with
  | zero =>
    intro i fi fl hi c13 h28 h29 hB hR ct
    refine ⟨fi, fl, by rw [← show i = min (2 * P) most by omega]; exact ct, fun t z1 z2 => absurd z2 (by omega), fun _ _ _ _ _ _ => rfl, fun _ _ _ => rfl, fun r k l4 l5 l6 => ?_⟩
    have hi : i = min (2 * P) most := by omega
    rw [← hi] at k
    refine go_of ?_
    by_cases hq : 2 * P ≤ i
    · have le1 : nI (2 * P) ≤ nI i := nI_le hq (by omega)
      generalize nI (2 * P) = M at *
      refine gp_n 2 (j' := 48) (lv' := [some (.ref 13), some (.int (nI c)), some (.int M), some (.int (nI i)), l4, l5, l6]) (st' := [.int M, .int (nI i)]) (h' := (shT, fi, fl, fr)) rfl ?_
      refine gp_of (fun _ k9 => g_ict rfl (show M ≤ (nI i) from le1) k9) ?_
      exact gp_done (k _ _ _) rfl
    · have le1 : ¬ nI (2 * P) ≤ nI i := nI_ge (by omega) (by omega)
      have le2 : nI most ≤ nI i := nI_le (by omega) (by omega)
      generalize nI (2 * P) = M at *
      refine gp_n 2 (j' := 48) (lv' := [some (.ref 13), some (.int (nI c)), some (.int M), some (.int (nI i)), l4, l5, l6]) (st' := [.int M, .int (nI i)]) (h' := (shT, fi, fl, fr)) rfl ?_
      refine gp_of (fun _ k9 => g_icf rfl (show ¬ (M ≤ (nI i)) from le1) k9) ?_
      refine gp_n 2 (j' := 51) (lv' := [some (.ref 13), some (.int (nI c)), some (.int M), some (.int (nI i)), l4, l5, l6]) (st' := [.ref 13, .int (nI i)]) (h' := (shT, fi, fl, fr)) rfl ?_
      refine gp_of (fun _ k9 => g_getI (x := nI most) rfl (Or.inl rfl) rfl (by decide) (c13) k9) ?_
      refine gp_of (fun _ k9 => g_ict rfl (show (nI most) ≤ (nI i) from le2) k9) ?_
      exact gp_done (k _ _ _) rfl
  | succ n ih =>
    intro i fi fl hi c13 h28 h29 hB hR ct
    have le1 : ¬ nI (2 * P) ≤ nI i := nI_ge (by omega) (by omega)
    have le2 : ¬ nI most ≤ nI i := nI_ge (by omega) (by omega)
    have oi := h29 i (by omega)
    have o1 := ho i (by omega)
    have ki := h28 (oo i) o1
    have hf := hf_i (oo i) (by omega)
    have bB := hB (oo i / 2) (by omega)
    have bt := bitI_e (w := B (oo i / 2)) (c := c) (q := oo i) (by omega)
    obtain ⟨f1, ⟨a1, a2, a3⟩, a4, a5⟩ := ac_ev_18 (p := oo i / 2) (t := i) (w := bitI (B (oo i / 2)) c (decide (oo i % 2 = 1))) (x := Kc (oo i)) (fi := fi) (fl := fl) (fr := fr) (by omega) (by omega) k3 n3 n1 n2 ct
    have pt := pt_ev (c := c) (p := i) (x := Kc (oo i)) (y := nI (oo i)) (fi := f1) (fl := pm_u2 fl 15 i (bitI (B (oo i / 2)) c (decide (oo i % 2 = 1)))) (fr := fr) hc (by omega) t1 t2
    have fA : ∀ q s, ¬ q = 14 → ¬ q = 16 → ¬ q = 17 → f1 q s = fi q s := fun q s z1 z2 z3 => a4 q s (fun z => z3 z.1) (fun z => z2 z.1) (fun z => z1 z.1)
    have fB : ∀ q s, ¬ (q = 24 ∧ s = 8 * c + i) → ¬ (q = 25 ∧ s = 8 * c + i) → pm_u2 (pm_u2 f1 24 (8 * c + i) (Kc (oo i))) 25 (8 * c + i) (nI (oo i)) q s = f1 q s := fun q s z1 z2 => (wl_ne z2).trans (wl_ne z1)
    have e24 : pm_u2 (pm_u2 f1 24 (8 * c + i) (Kc (oo i))) 25 (8 * c + i) (nI (oo i)) 24 (8 * c + i) = Kc (oo i) := (wl_ne (fun z => absurd z.1 (by decide))).trans u2_eq
    have e25 : pm_u2 (pm_u2 f1 24 (8 * c + i) (Kc (oo i))) 25 (8 * c + i) (nI (oo i)) 25 (8 * c + i) = nI (oo i) := u2_eq
    have e28 : f1 28 (oo i) = Kc (oo i) := (fA _ _ (by decide) (by decide) (by decide)).trans ki
    generalize hF : pm_u2 (pm_u2 f1 24 (8 * c + i) (Kc (oo i))) 25 (8 * c + i) (nI (oo i)) = f2 at *
    have fC : ∀ q s, ¬ q = 14 → ¬ q = 16 → ¬ q = 17 → ¬ q = 24 → ¬ q = 25 → f2 q s = fi q s := fun q s z1 z2 z3 z4 z5 => (fB q s (fun z => z4 z.1) (fun z => z5 z.1)).trans (fA q s z1 z2 z3)
    obtain ⟨f3, l3, b0, b1, b2, b3, b4⟩ := ih (i + 1) f2 (pm_u2 fl 15 i (bitI (B (oo i / 2)) c (decide (oo i % 2 = 1)))) (by omega) ((fC _ _ (by decide) (by decide) (by decide) (by decide) (by decide)).trans c13) (fun t ht => (fC _ _ (by decide) (by decide) (by decide) (by decide) (by decide)).trans (h28 t ht)) (fun a ha => (fC _ _ (by decide) (by decide) (by decide) (by decide) (by decide)).trans (h29 a ha)) (fun p hp => (wl_ne (fun z => absurd z.1 (by decide))).trans (hB p hp)) (fun l p hl hp => (fC _ _ (by decide) (by decide) (by decide) (by decide) (by decide)).trans (hR l p hl hp)) ((fB _ _ (fun z => absurd z.1 (by decide)) (fun z => absurd z.1 (by decide))).trans a1)
    refine ⟨f3, l3, b0, fun t z1 z2 => ?_, fun q s z1 z2 z3 z4 => ?_, fun q s z1 => (b3 q s (fun z => z1 ⟨z.1, by omega⟩)).trans (wl_ne (fun z => z1 ⟨z.1, by omega⟩)), fun r k l4 l5 l6 => ?_⟩
    · by_cases e : t = i
      · subst e
        refine ⟨(b3 _ _ (by omega)).trans u2_eq, ?_, fun l hl => ?_, ?_, ?_⟩
        · exact (b2 _ _ (by omega) (by omega) (by omega) (by omega)).trans ((fB _ _ (by omega) (by omega)).trans a2)
        · exact (b2 _ _ (by omega) (by omega) (by omega) (by omega)).trans ((fB _ _ (by omega) (by omega)).trans ((a3 l hl).trans (hR l _ hl (by omega))))
        · exact (b2 _ _ (by omega) (by omega) (by omega) (by omega)).trans e24
        · exact (b2 _ _ (by omega) (by omega) (by omega) (by omega)).trans e25
      · exact b1 t (by omega) z2
    · refine (b2 q s z1 (by omega) (by omega) (by omega)).trans ((fB q s (by omega) (by omega)).trans (a4 q s (fun ⟨y1, l', y2⟩ => z3 ⟨y1, by omega⟩) (by omega) z1))
    have g := b4 r k
    have i16 : i < 16 := by omega
    clear b4 ih b1 b2 b3 b0 hR h28 h29 fA fB fC e24 e25 a1 a2 a3 a4 hB
    subst hF
    generalize nI (2 * P) = M at *
    generalize hW : bitI (B (oo i / 2)) c (decide (oo i % 2 = 1)) = W at *
    generalize B (oo i / 2) = w at *
    generalize Kc (oo i) = x at *
    generalize oo i = q at *
    generalize min (2 * P) most = MM at *
    refine go_of ?_
    refine gp_n 2 (j' := 48) (lv' := [some (.ref 13), some (.int (nI c)), some (.int M), some (.int (nI i)), l4, l5, l6]) (st' := [.int M, .int (nI i)]) (h' := (shT, fi, fl, fr)) rfl ?_
    refine gp_of (fun _ k9 => g_icf rfl (show ¬ (M ≤ (nI i)) from le1) k9) ?_
    refine gp_n 2 (j' := 51) (lv' := [some (.ref 13), some (.int (nI c)), some (.int M), some (.int (nI i)), l4, l5, l6]) (st' := [.ref 13, .int (nI i)]) (h' := (shT, fi, fl, fr)) rfl ?_
    refine gp_of (fun _ k9 => g_getI (x := nI most) rfl (Or.inl rfl) rfl (by decide) (c13) k9) ?_
    refine gp_of (fun _ k9 => g_icf rfl (show ¬ ((nI most) ≤ (nI i)) from le2) k9) ?_
    refine gp_n 1 (j' := 54) (lv' := [some (.ref 13), some (.int (nI c)), some (.int M), some (.int (nI i)), l4, l5, l6]) (st' := [.ref 13]) (h' := (shT, fi, fl, fr)) rfl ?_
    refine gp_of (fun _ k9 => g_getR (q' := 29) rfl rfl (by decide) k11 k9) ?_
    refine gp_n 1 (j' := 56) (lv' := [some (.ref 13), some (.int (nI c)), some (.int M), some (.int (nI i)), l4, l5, l6]) (st' := [.int (nI i), .ref 29]) (h' := (shT, fi, fl, fr)) rfl ?_
    refine gp_of (fun _ k9 => g_iald (k := i) (x := nI q) rfl rfl (rfl) (by omega) (by decide) (oi) k9) ?_
    refine gp_n 2 (j' := 59) (lv' := [some (.ref 13), some (.int (nI c)), some (.int M), some (.int (nI i)), some (.int (nI q)), l5, l6]) (st' := [.ref 13]) (h' := (shT, fi, fl, fr)) rfl ?_
    refine gp_of (fun _ k9 => g_getR (q' := 18) rfl rfl (by decide) k0 k9) ?_
    refine gp_of (fun _ k9 => g_getR (q' := 19) rfl rfl (by decide) kB k9) ?_
    refine gp_n 3 (j' := 64) (lv' := [some (.ref 13), some (.int (nI c)), some (.int M), some (.int (nI i)), some (.int (nI q)), l5, l6]) (st' := [.int ((nI q) >>> (1 &&& 31)), .ref 19]) (h' := (shT, fi, fl, fr)) rfl ?_
    refine gp_of (fun _ k9 => g_lald (k := q / 2) (x := w) rfl rfl (hf) (by omega) (by decide) (bB) k9) ?_
    refine gp_n 7 (j' := 72) (lv' := [some (.ref 13), some (.int (nI c)), some (.int M), some (.int (nI i)), some (.int (nI q)), l5, l6]) (st' := [.long (w ||| ((((nI q) &&& 1).toInt64) <<< ((nI c : Int32).toInt64 &&& 63)))]) (h' := (shT, fi, fl, fr)) rfl ?_
    rw [bt]
    refine gp_n 2 (j' := 74) (lv' := [some (.ref 13), some (.int (nI c)), some (.int M), some (.int (nI i)), some (.int (nI q)), some (.long W), none]) (st' := [.ref 13]) (h' := (shT, fi, fl, fr)) rfl ?_
    refine gp_of (fun _ k9 => g_getR (q' := 14) rfl rfl (by decide) kn k9) ?_
    refine gp_n 1 (j' := 76) (lv' := [some (.ref 13), some (.int (nI c)), some (.int M), some (.int (nI i)), some (.int (nI q)), some (.long W), none]) (st' := [.ref 13, .ref 14]) (h' := (shT, fi, fl, fr)) rfl ?_
    refine gp_of (fun _ k9 => g_getR (q' := 18) rfl rfl (by decide) k0 k9) ?_
    refine gp_n 3 (j' := 80) (lv' := [some (.ref 13), some (.int (nI c)), some (.int M), some (.int (nI i)), some (.int (nI q)), some (.long W), none]) (st' := [.int ((nI q) >>> (1 &&& 31)), .ref 18, .ref 14]) (h' := (shT, fi, fl, fr)) rfl ?_
    rw [hf]
    refine gp_n 2 (j' := 82) (lv' := [some (.ref 13), some (.int (nI c)), some (.int M), some (.int (nI i)), some (.int (nI q)), some (.long W), none]) (st' := [.ref 13, .long W, .int (nI (q / 2)), .ref 18, .ref 14]) (h' := (shT, fi, fl, fr)) rfl ?_
    refine gp_of (fun _ k9 => g_getR (q' := 28) rfl rfl (by decide) k10 k9) ?_
    refine gp_n 1 (j' := 84) (lv' := [some (.ref 13), some (.int (nI c)), some (.int M), some (.int (nI i)), some (.int (nI q)), some (.long W), none]) (st' := [.int (nI q), .ref 28, .long W, .int (nI (q / 2)), .ref 18, .ref 14]) (h' := (shT, fi, fl, fr)) rfl ?_
    refine gp_of (fun _ k9 => g_iald (k := q) (x := x) rfl rfl (rfl) (by omega) (by decide) (ki) k9) ?_
    refine gp_of (fun _ k9 => g_callv (y := 104) (as := [.ref 14, .ref 18, .int (nI (q / 2)), .long W, .int x]) (st' := []) rfl rfl (a5) k9) ?_
    refine gp_n 1 (j' := 87) (lv' := [some (.ref 13), some (.int (nI c)), some (.int M), some (.int (nI i)), some (.int (nI q)), some (.long W), none]) (st' := [.ref 13]) (h' := (shT, f1, (pm_u2 fl 15 i W), fr)) rfl ?_
    refine gp_of (fun _ k9 => g_getR (q' := 22) rfl rfl (by decide) kT k9) ?_
    refine gp_n 3 (j' := 91) (lv' := [some (.ref 13), some (.int (nI c)), some (.int M), some (.int (nI i)), some (.int (nI q)), some (.long W), none]) (st' := [.ref 13, .int (nI i), .int (nI c), .ref 22]) (h' := (shT, f1, (pm_u2 fl 15 i W), fr)) rfl ?_
    refine gp_of (fun _ k9 => g_getR (q' := 28) rfl rfl (by decide) k10 k9) ?_
    refine gp_n 1 (j' := 93) (lv' := [some (.ref 13), some (.int (nI c)), some (.int M), some (.int (nI i)), some (.int (nI q)), some (.long W), none]) (st' := [.int (nI q), .ref 28, .int (nI i), .int (nI c), .ref 22]) (h' := (shT, f1, (pm_u2 fl 15 i W), fr)) rfl ?_
    refine gp_of (fun _ k9 => g_iald (k := q) (x := x) rfl rfl (rfl) (by omega) (by decide) (e28) k9) ?_
    refine gp_n 1 (j' := 95) (lv' := [some (.ref 13), some (.int (nI c)), some (.int M), some (.int (nI i)), some (.int (nI q)), some (.long W), none]) (st' := [.int (nI q), .int x, .int (nI i), .int (nI c), .ref 22]) (h' := (shT, f1, (pm_u2 fl 15 i W), fr)) rfl ?_
    refine gp_of (fun _ k9 => g_callv (y := 99) (as := [.ref 22, .int (nI c), .int (nI i), .int x, .int (nI q)]) (st' := []) rfl rfl (pt) k9) ?_
    refine gp_n 2 (j' := 46) (lv' := [some (.ref 13), some (.int (nI c)), some (.int M), some (.int ((nI i) + 1)), some (.int (nI q)), some (.long W), none]) (st' := []) (h' := (shT, (pm_u2 (pm_u2 f1 24 (8 * c + i) x) 25 (8 * c + i) (nI q)), (pm_u2 fl 15 i W), fr)) rfl ?_
    rw [nI_1]
    exact gp_done (g _ _ _) rfl
theorem cl_ev_18 {fi : Nat → Nat → Int32} {fl : Nat → Nat → Int64} {fr : Nat → Nat → Option Nat} : Ev pmT 103 [.ref 18] (shT, fi, fl, fr) none (shT, pm_u2 fi 18 0 0, fl, fr) := by
  refine Ev.of (es := cd_103) (ml := 1) (lv := [some (.ref 18)]) rfl rfl rfl ?_
  refine go_of ?_
  refine gp_n 2 (j' := 2) (lv' := [some (.ref 18)]) (st' := [.int 0, .ref 18]) (h' := (shT, fi, fl, fr)) rfl ?_
  refine gp_of (fun _ k9 => g_putI rfl (Or.inl rfl) rfl (by decide) k9) ?_
  refine gp_done (g_vret rfl) ?_
  rfl
theorem sp_ev_14 {h : PmH} {m c most : Nat} {S : Nat → Int32} {x : RSt} (hI : HI hdT shT h) (hx : rdI 14 x h) (hw : rwI 14 m S x c 0 h) (hP : x.1 ≤ 8) (c13 : ph_i h 13 13 = nI most) (hmo : most ≤ 8) (hm : m ≤ 6) (hc : c < 64) (hS : ∀ s, s < 64 → -127 ≤ (S s).toInt ∧ (S s).toInt ≤ 127) : ∃ h', Ev pmT 101 [.ref 13, .int (nI c)] h none h' ∧ rdI 18 (rdS true m S most c x) h' ∧ rwI 18 m S (rdS true m S most c x) c 0 h' ∧ trI c (rdS true m S most c x).1 (rdS true m S most c x).2.2 (ordR m S x c) h' ∧ (∀ s, ¬ (8 * c ≤ s ∧ s < 8 * c + 8) → ph_i h' 24 s = ph_i h 24 s ∧ ph_i h' 25 s = ph_i h 25 s) ∧ HI hdT shT h' ∧ fram (in_w iN_105) h h' := by
  have kB : ph_r h 14 1 = some 15 := hi_r hI rfl rfl (by decide)
  have k2 : ph_r h 14 2 = some 16 := hi_r hI rfl rfl (by decide)
  have k3 : ph_r h 14 3 = some 17 := hi_r hI rfl rfl (by decide)
  have n1 : ph_r h 18 1 = some 19 := hi_r hI rfl rfl (by decide)
  have n2 : ph_r h 18 2 = some 20 := hi_r hI rfl rfl (by decide)
  have n3 : ph_r h 18 3 = some 21 := hi_r hI rfl rfl (by decide)
  have kS : ph_r h 13 9 = some 27 := hi_r hI rfl rfl (by decide)
  have k10 : ph_r h 13 10 = some 28 := hi_r hI rfl rfl (by decide)
  have k11 : ph_r h 13 11 = some 29 := hi_r hI rfl rfl (by decide)
  have kT : ph_r h 13 2 = some 22 := hi_r hI rfl rfl (by decide)
  have t1 : ph_r h 22 1 = some 24 := hi_r hI rfl rfl (by decide)
  have t2 : ph_r h 22 2 = some 25 := hi_r hI rfl rfl (by decide)
  obtain ⟨k0, kn, cP, hM⟩ := hx
  have kn : ph_r h 13 1 = some 18 := kn
  have iv1 := fun h' e => iv_s (v := none) (h' := h') (as := [.ref 13, .int (nI c)]) vN_105 rfl (fun _ _ => gz_c (gz_r (by decide)) (gz_c (gz_i (by rw [nI_toInt (by omega)]; omega) (by rw [nI_toInt (by omega)]; omega)) gz_n)) hI e
  obtain ⟨S, fi, fl, fr⟩ := h
  have hS : S = shT := hI.1
  subst hS
  have sr := srt_F (fun q => (cnd m S x c q).toInt) (2 * x.1)
  obtain ⟨f1, a1, a2, a3, a4⟩ := sp1_14 (c := c) (P := x.1) (pen := coS) (Mt := x.2.2) (s := rsm m S x c) (Kc := cnd m S x c) (l4 := none) (l5 := none) (l6 := none) (fl := fl) hP k0 k2 k3 kS k10 k11 (fun p hp t h => pny_ev2 (ndL_b0 hm hS (Nat.zero_le m) (by decide))) (fun _ => rfl) (2 * x.1) 0 fi (by omega) (fun p hp => (hM p hp).2) (fun p hp => by
    obtain ⟨r, r1, r2, r3⟩ := hw 0 (Nat.le_refl _) (Nat.zero_le m) p hp
    exact ⟨r, r1, r2, r3 0 (by decide)⟩) (fun t ht => absurd ht (Nat.not_lt_zero t)) (fun t ht => absurd ht (Nat.not_lt_zero t))
  have g1 : ∀ q s, ¬ q = 28 → ¬ q = 29 → ¬ q = 18 → pm_u2 f1 18 0 0 q s = fi q s := fun q s z1 z2 z3 => (wl_ne (fun z => z3 z.1)).trans (a3 q s z1 z2)
  have cl := cl_ev_18 (fi := f1) (fl := fl) (fr := fr)
  obtain ⟨f2, l2, b0, b1, b2, b3, b4⟩ := sp2_14 (c := c) (P := x.1) (most := most) (Mt := x.2.2) (Kc := cnd m S x c) (B := x.2.1) (oo := ordR m S x c) (R0 := fun l p => fi 17 (8 * l + p)) (fr := fr) hP hmo hc k0 kn kB k3 n1 n2 n3 k10 k11 kT t1 t2 sr.1 (min (2 * x.1) most) 0 (pm_u2 f1 18 0 0) fl (by omega) ((g1 _ _ (by decide) (by decide) (by decide)).trans c13) (fun t ht => (show pm_u2 f1 18 0 0 28 t = f1 28 t from wl_ne (by omega)).trans (a1 t ht)) (fun t ht => (show pm_u2 f1 18 0 0 29 t = f1 29 t from wl_ne (by omega)).trans (a2 t ht)) (fun p hp => (hM p hp).1) (fun l p _ _ => g1 _ _ (by decide) (by decide) (by decide)) u2_eq
  have g2 : ∀ q s, ¬ q = 28 → ¬ q = 29 → ¬ q = 18 → ¬ q = 20 → ¬ q = 21 → ¬ ((q = 24 ∨ q = 25) ∧ 8 * c ≤ s ∧ s < 8 * c + 8) → f2 q s = fi q s := fun q s z1 z2 z3 z4 z5 z6 => (b2 q s (by omega) (by omega) (by omega) (by omega)).trans (g1 q s z1 z2 z3)
  have ev : Ev pmT 101 [.ref 13, .int (nI c)] (shT, fi, fl, fr) none (shT, f2, l2, pm_u2 (pm_u2 fr 13 0 (some 18)) 13 1 (some 14)) := by
    refine Ev.of (es := cd_101) (ml := 7) (lv := [some (.ref 13), some (.int (nI c)), none, none, none, none, none]) rfl rfl rfl ?_
    have e2 : (2 : Int32) * nI x.1 = nI (2 * x.1) := nI_mul 2 x.1
    have k0 : fr 13 0 = some 14 := k0
    have kn : fr 13 1 = some 18 := kn
    have cP : fi 14 0 = nI x.1 := cP
    have g := a4 (none, (shT, f2, l2, pm_u2 (pm_u2 fr 13 0 (some 18)) 13 1 (some 14)))
    have b5 := b4 (none, (shT, f2, l2, pm_u2 (pm_u2 fr 13 0 (some 18)) 13 1 (some 14)))
    clear a4 b4 b0 b1 b2 b3 g1 g2 sr a1 a2 a3 hw hM iv1
    rw [← e2] at g b5
    generalize nI x.1 = P at *
    generalize nI (min (2 * x.1) most) = MM at *
    have b5 := b5 (fun l4 l5 l6 => by
      refine go_of ?_
      refine gp_n 1 (j' := 99) (lv' := [some (.ref 13), some (.int (nI c)), some (.int (2 * P)), some (.int MM), l4, l5, l6]) (st' := [.ref 13]) (h' := (shT, f2, l2, fr)) rfl ?_
      refine gp_of (fun _ k9 => g_getR (q' := 14) rfl rfl (by decide) k0 k9) ?_
      refine gp_n 3 (j' := 103) (lv' := [some (.ref 13), some (.int (nI c)), some (.int (2 * P)), some (.ref 14), l4, l5, l6]) (st' := [.ref 13, .ref 13]) (h' := (shT, f2, l2, fr)) rfl ?_
      refine gp_of (fun _ k9 => g_getR (q' := 18) rfl rfl (by decide) kn k9) ?_
      refine gp_of (fun _ k9 => g_putR rfl rfl (by decide) k9) ?_
      refine gp_n 2 (j' := 107) (lv' := [some (.ref 13), some (.int (nI c)), some (.int (2 * P)), some (.ref 14), l4, l5, l6]) (st' := [.ref 14, .ref 13]) (h' := (shT, f2, l2, pm_u2 fr 13 0 (some 18))) rfl ?_
      refine gp_of (fun _ k9 => g_putR rfl rfl (by decide) k9) ?_
      refine gp_done (g_vret rfl) ?_
      rfl)
    have g := g (by
      refine go_of ?_
      refine gp_n 1 (j' := 42) (lv' := [some (.ref 13), some (.int (nI c)), some (.int (2 * P)), some (.int (2 * P)), none, none, none]) (st' := [.ref 13]) (h' := (shT, f1, fl, fr)) rfl ?_
      refine gp_of (fun _ k9 => g_getR (q' := 18) rfl rfl (by decide) kn k9) ?_
      refine gp_of (fun _ k9 => g_callv (y := 103) (as := [.ref 18]) (st' := []) rfl rfl (cl) k9) ?_
      refine gp_n 2 (j' := 46) (lv' := [some (.ref 13), some (.int (nI c)), some (.int (2 * P)), some (.int (nI 0)), none, none, none]) (st' := []) (h' := (shT, (pm_u2 f1 18 0 0), fl, fr)) rfl ?_
      exact gp_done (b5 none none none) rfl)
    refine go_of ?_
    refine gp_n 2 (j' := 2) (lv' := [some (.ref 13), some (.int (nI c)), none, none, none, none, none]) (st' := [.ref 13, .int 2]) (h' := (shT, fi, fl, fr)) rfl ?_
    refine gp_of (fun _ k9 => g_getR (q' := 14) rfl rfl (by decide) k0 k9) ?_
    refine gp_of (fun _ k9 => g_getI (x := P) rfl (Or.inl rfl) rfl (by decide) (cP) k9) ?_
    refine gp_n 4 (j' := 8) (lv' := [some (.ref 13), some (.int (nI c)), some (.int (2 * P)), some (.int (nI 0)), none, none, none]) (st' := []) (h' := (shT, fi, fl, fr)) rfl ?_
    exact gp_done g rfl
  obtain ⟨I2, F2⟩ := iv1 _ ev
  refine ⟨_, ev, ?_, ?_, ?_, fun s hs => ⟨g2 24 s (by decide) (by decide) (by decide) (by decide) (by decide) (by omega), g2 25 s (by decide) (by decide) (by decide) (by decide) (by decide) (by omega)⟩, I2, F2⟩
  · refine ⟨show pm_u2 (pm_u2 fr 13 0 (some 18)) 13 1 (some 14) 13 0 = some 18 from (wl_ne (by decide)).trans u2_eq, show pm_u2 (pm_u2 fr 13 0 (some 18)) 13 1 (some 14) 13 1 = some 14 from u2_eq, b0, fun p hp => ?_⟩
    have := b1 p (Nat.zero_le p) hp
    exact ⟨this.1, this.2.1⟩
  · intro l h1 h2 p hp
    have hp : p < min (2 * x.1) most := hp
    have bp := b1 p (Nat.zero_le p) hp
    have op := sr.1 p (by omega)
    have op : ordR m S x c p < 2 * x.1 := op
    obtain ⟨r, r1, r2, r3⟩ := hw l h1 h2 (ordR m S x c p / 2) (by omega)
    refine ⟨r, r1, (bp.2.2.1 l (by omega)).trans r2, fun j hj => ?_⟩
    refine (g2 27 _ (by decide) (by decide) (by decide) (by decide) (by decide) (by omega)).trans ((r3 j hj).trans ?_)
    show _ = ndL m S (bl (bitI (x.2.1 (ordR m S x c p / 2)) c (decide (ordR m S x c p % 2 = 1)))) c l j
    rw [ndL_cg (m - l) l (by omega) rfl (fun t ht => ?_)]
    have := Nat.div_mul_le_self c (2 ^ l)
    rw [bitI_bl hc (by omega), decide_eq_false (show ¬ t = c by omega), Bool.and_false, Bool.or_false]
  · intro r hr
    have hr : r < min (2 * x.1) most := hr
    have := b1 r (Nat.zero_le r) hr
    exact ⟨this.2.2.2.1, this.2.2.2.2⟩
theorem cl_ev_14 {fi : Nat → Nat → Int32} {fl : Nat → Nat → Int64} {fr : Nat → Nat → Option Nat} : Ev pmT 103 [.ref 14] (shT, fi, fl, fr) none (shT, pm_u2 fi 14 0 0, fl, fr) := by
  refine Ev.of (es := cd_103) (ml := 1) (lv := [some (.ref 14)]) rfl rfl rfl ?_
  refine go_of ?_
  refine gp_n 2 (j' := 2) (lv' := [some (.ref 14)]) (st' := [.int 0, .ref 14]) (h' := (shT, fi, fl, fr)) rfl ?_
  refine gp_of (fun _ k9 => g_putI rfl (Or.inl rfl) rfl (by decide) k9) ?_
  refine gp_done (g_vret rfl) ?_
  rfl
theorem sp_ev_18 {h : PmH} {m c most : Nat} {S : Nat → Int32} {x : RSt} (hI : HI hdT shT h) (hx : rdI 18 x h) (hw : rwI 18 m S x c 0 h) (hP : x.1 ≤ 8) (c13 : ph_i h 13 13 = nI most) (hmo : most ≤ 8) (hm : m ≤ 6) (hc : c < 64) (hS : ∀ s, s < 64 → -127 ≤ (S s).toInt ∧ (S s).toInt ≤ 127) : ∃ h', Ev pmT 101 [.ref 13, .int (nI c)] h none h' ∧ rdI 14 (rdS true m S most c x) h' ∧ rwI 14 m S (rdS true m S most c x) c 0 h' ∧ trI c (rdS true m S most c x).1 (rdS true m S most c x).2.2 (ordR m S x c) h' ∧ (∀ s, ¬ (8 * c ≤ s ∧ s < 8 * c + 8) → ph_i h' 24 s = ph_i h 24 s ∧ ph_i h' 25 s = ph_i h 25 s) ∧ HI hdT shT h' ∧ fram (in_w iN_105) h h' := by
  have kB : ph_r h 18 1 = some 19 := hi_r hI rfl rfl (by decide)
  have k2 : ph_r h 18 2 = some 20 := hi_r hI rfl rfl (by decide)
  have k3 : ph_r h 18 3 = some 21 := hi_r hI rfl rfl (by decide)
  have n1 : ph_r h 14 1 = some 15 := hi_r hI rfl rfl (by decide)
  have n2 : ph_r h 14 2 = some 16 := hi_r hI rfl rfl (by decide)
  have n3 : ph_r h 14 3 = some 17 := hi_r hI rfl rfl (by decide)
  have kS : ph_r h 13 9 = some 27 := hi_r hI rfl rfl (by decide)
  have k10 : ph_r h 13 10 = some 28 := hi_r hI rfl rfl (by decide)
  have k11 : ph_r h 13 11 = some 29 := hi_r hI rfl rfl (by decide)
  have kT : ph_r h 13 2 = some 22 := hi_r hI rfl rfl (by decide)
  have t1 : ph_r h 22 1 = some 24 := hi_r hI rfl rfl (by decide)
  have t2 : ph_r h 22 2 = some 25 := hi_r hI rfl rfl (by decide)
  obtain ⟨k0, kn, cP, hM⟩ := hx
  have kn : ph_r h 13 1 = some 14 := kn
  have iv1 := fun h' e => iv_s (v := none) (h' := h') (as := [.ref 13, .int (nI c)]) vN_105 rfl (fun _ _ => gz_c (gz_r (by decide)) (gz_c (gz_i (by rw [nI_toInt (by omega)]; omega) (by rw [nI_toInt (by omega)]; omega)) gz_n)) hI e
  obtain ⟨S, fi, fl, fr⟩ := h
  have hS : S = shT := hI.1
  subst hS
  have sr := srt_F (fun q => (cnd m S x c q).toInt) (2 * x.1)
  obtain ⟨f1, a1, a2, a3, a4⟩ := sp1_18 (c := c) (P := x.1) (pen := coS) (Mt := x.2.2) (s := rsm m S x c) (Kc := cnd m S x c) (l4 := none) (l5 := none) (l6 := none) (fl := fl) hP k0 k2 k3 kS k10 k11 (fun p hp t h => pny_ev2 (ndL_b0 hm hS (Nat.zero_le m) (by decide))) (fun _ => rfl) (2 * x.1) 0 fi (by omega) (fun p hp => (hM p hp).2) (fun p hp => by
    obtain ⟨r, r1, r2, r3⟩ := hw 0 (Nat.le_refl _) (Nat.zero_le m) p hp
    exact ⟨r, r1, r2, r3 0 (by decide)⟩) (fun t ht => absurd ht (Nat.not_lt_zero t)) (fun t ht => absurd ht (Nat.not_lt_zero t))
  have g1 : ∀ q s, ¬ q = 28 → ¬ q = 29 → ¬ q = 14 → pm_u2 f1 14 0 0 q s = fi q s := fun q s z1 z2 z3 => (wl_ne (fun z => z3 z.1)).trans (a3 q s z1 z2)
  have cl := cl_ev_14 (fi := f1) (fl := fl) (fr := fr)
  obtain ⟨f2, l2, b0, b1, b2, b3, b4⟩ := sp2_18 (c := c) (P := x.1) (most := most) (Mt := x.2.2) (Kc := cnd m S x c) (B := x.2.1) (oo := ordR m S x c) (R0 := fun l p => fi 21 (8 * l + p)) (fr := fr) hP hmo hc k0 kn kB k3 n1 n2 n3 k10 k11 kT t1 t2 sr.1 (min (2 * x.1) most) 0 (pm_u2 f1 14 0 0) fl (by omega) ((g1 _ _ (by decide) (by decide) (by decide)).trans c13) (fun t ht => (show pm_u2 f1 14 0 0 28 t = f1 28 t from wl_ne (by omega)).trans (a1 t ht)) (fun t ht => (show pm_u2 f1 14 0 0 29 t = f1 29 t from wl_ne (by omega)).trans (a2 t ht)) (fun p hp => (hM p hp).1) (fun l p _ _ => g1 _ _ (by decide) (by decide) (by decide)) u2_eq
  have g2 : ∀ q s, ¬ q = 28 → ¬ q = 29 → ¬ q = 14 → ¬ q = 16 → ¬ q = 17 → ¬ ((q = 24 ∨ q = 25) ∧ 8 * c ≤ s ∧ s < 8 * c + 8) → f2 q s = fi q s := fun q s z1 z2 z3 z4 z5 z6 => (b2 q s (by omega) (by omega) (by omega) (by omega)).trans (g1 q s z1 z2 z3)
  have ev : Ev pmT 101 [.ref 13, .int (nI c)] (shT, fi, fl, fr) none (shT, f2, l2, pm_u2 (pm_u2 fr 13 0 (some 14)) 13 1 (some 18)) := by
    refine Ev.of (es := cd_101) (ml := 7) (lv := [some (.ref 13), some (.int (nI c)), none, none, none, none, none]) rfl rfl rfl ?_
    have e2 : (2 : Int32) * nI x.1 = nI (2 * x.1) := nI_mul 2 x.1
    have k0 : fr 13 0 = some 18 := k0
    have kn : fr 13 1 = some 14 := kn
    have cP : fi 18 0 = nI x.1 := cP
    have g := a4 (none, (shT, f2, l2, pm_u2 (pm_u2 fr 13 0 (some 14)) 13 1 (some 18)))
    have b5 := b4 (none, (shT, f2, l2, pm_u2 (pm_u2 fr 13 0 (some 14)) 13 1 (some 18)))
    clear a4 b4 b0 b1 b2 b3 g1 g2 sr a1 a2 a3 hw hM iv1
    rw [← e2] at g b5
    generalize nI x.1 = P at *
    generalize nI (min (2 * x.1) most) = MM at *
    have b5 := b5 (fun l4 l5 l6 => by
      refine go_of ?_
      refine gp_n 1 (j' := 99) (lv' := [some (.ref 13), some (.int (nI c)), some (.int (2 * P)), some (.int MM), l4, l5, l6]) (st' := [.ref 13]) (h' := (shT, f2, l2, fr)) rfl ?_
      refine gp_of (fun _ k9 => g_getR (q' := 18) rfl rfl (by decide) k0 k9) ?_
      refine gp_n 3 (j' := 103) (lv' := [some (.ref 13), some (.int (nI c)), some (.int (2 * P)), some (.ref 18), l4, l5, l6]) (st' := [.ref 13, .ref 13]) (h' := (shT, f2, l2, fr)) rfl ?_
      refine gp_of (fun _ k9 => g_getR (q' := 14) rfl rfl (by decide) kn k9) ?_
      refine gp_of (fun _ k9 => g_putR rfl rfl (by decide) k9) ?_
      refine gp_n 2 (j' := 107) (lv' := [some (.ref 13), some (.int (nI c)), some (.int (2 * P)), some (.ref 18), l4, l5, l6]) (st' := [.ref 18, .ref 13]) (h' := (shT, f2, l2, pm_u2 fr 13 0 (some 14))) rfl ?_
      refine gp_of (fun _ k9 => g_putR rfl rfl (by decide) k9) ?_
      refine gp_done (g_vret rfl) ?_
      rfl)
    have g := g (by
      refine go_of ?_
      refine gp_n 1 (j' := 42) (lv' := [some (.ref 13), some (.int (nI c)), some (.int (2 * P)), some (.int (2 * P)), none, none, none]) (st' := [.ref 13]) (h' := (shT, f1, fl, fr)) rfl ?_
      refine gp_of (fun _ k9 => g_getR (q' := 14) rfl rfl (by decide) kn k9) ?_
      refine gp_of (fun _ k9 => g_callv (y := 103) (as := [.ref 14]) (st' := []) rfl rfl (cl) k9) ?_
      refine gp_n 2 (j' := 46) (lv' := [some (.ref 13), some (.int (nI c)), some (.int (2 * P)), some (.int (nI 0)), none, none, none]) (st' := []) (h' := (shT, (pm_u2 f1 14 0 0), fl, fr)) rfl ?_
      exact gp_done (b5 none none none) rfl)
    refine go_of ?_
    refine gp_n 2 (j' := 2) (lv' := [some (.ref 13), some (.int (nI c)), none, none, none, none, none]) (st' := [.ref 13, .int 2]) (h' := (shT, fi, fl, fr)) rfl ?_
    refine gp_of (fun _ k9 => g_getR (q' := 18) rfl rfl (by decide) k0 k9) ?_
    refine gp_of (fun _ k9 => g_getI (x := P) rfl (Or.inl rfl) rfl (by decide) (cP) k9) ?_
    refine gp_n 4 (j' := 8) (lv' := [some (.ref 13), some (.int (nI c)), some (.int (2 * P)), some (.int (nI 0)), none, none, none]) (st' := []) (h' := (shT, fi, fl, fr)) rfl ?_
    exact gp_done g rfl
  obtain ⟨I2, F2⟩ := iv1 _ ev
  refine ⟨_, ev, ?_, ?_, ?_, fun s hs => ⟨g2 24 s (by decide) (by decide) (by decide) (by decide) (by decide) (by omega), g2 25 s (by decide) (by decide) (by decide) (by decide) (by decide) (by omega)⟩, I2, F2⟩
  · refine ⟨show pm_u2 (pm_u2 fr 13 0 (some 14)) 13 1 (some 18) 13 0 = some 14 from (wl_ne (by decide)).trans u2_eq, show pm_u2 (pm_u2 fr 13 0 (some 14)) 13 1 (some 18) 13 1 = some 18 from u2_eq, b0, fun p hp => ?_⟩
    have := b1 p (Nat.zero_le p) hp
    exact ⟨this.1, this.2.1⟩
  · intro l h1 h2 p hp
    have hp : p < min (2 * x.1) most := hp
    have bp := b1 p (Nat.zero_le p) hp
    have op := sr.1 p (by omega)
    have op : ordR m S x c p < 2 * x.1 := op
    obtain ⟨r, r1, r2, r3⟩ := hw l h1 h2 (ordR m S x c p / 2) (by omega)
    refine ⟨r, r1, (bp.2.2.1 l (by omega)).trans r2, fun j hj => ?_⟩
    refine (g2 27 _ (by decide) (by decide) (by decide) (by decide) (by decide) (by omega)).trans ((r3 j hj).trans ?_)
    show _ = ndL m S (bl (bitI (x.2.1 (ordR m S x c p / 2)) c (decide (ordR m S x c p % 2 = 1)))) c l j
    rw [ndL_cg (m - l) l (by omega) rfl (fun t ht => ?_)]
    have := Nat.div_mul_le_self c (2 ^ l)
    rw [bitI_bl hc (by omega), decide_eq_false (show ¬ t = c by omega), Bool.and_false, Bool.or_false]
  · intro r hr
    have hr : r < min (2 * x.1) most := hr
    have := b1 r (Nat.zero_le r) hr
    exact ⟨this.2.2.2.1, this.2.2.2.2⟩
