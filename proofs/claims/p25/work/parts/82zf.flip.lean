theorem chG_14 {h : PmH} {m most k c : Nat} {K : Int64} {po F : Int32} {x : RSt} (hI : HI hdT shT h) (hm : m ≤ 6) (hP : 1 ≤ x.1 ∧ x.1 ≤ 8) (hs : ∀ p t, t < 64 → bl (x.2.1 p) t = true → t < 2 ^ m ∧ bl K t = true) (hp : popc K = k + c) (hc8 : c ≤ 8) (hK : ∀ i, 2 ^ m ≤ i → i < 64 → bl K i = false) (hx : rdI 14 x h) (hn : cnI K m most F h) (c2 : ph_i h 1 2 = nI k) (c3 : ph_i h 1 3 = nI c) (c4 : ph_i h 1 4 = po) : ∃ h', Ev pmT 105 [.ref 13] h none h' ∧ ph_i h' 13 7 = nI (chN (fun p => decide (hdP K (2 ^ m) k c po (x.2.1 p))) x.1) ∧ ph_i h' 13 8 = b01 (hoN (fun p => decide (hdP K (2 ^ m) k c po (x.2.1 p))) x.1) ∧ HI hdT shT h' ∧ fram (in_w iN_112) h h' := by
  have kB : ph_r h 14 1 = some 15 := hi_r hI rfl rfl (by decide)
  have p6 := pw_6 m (by omega)
  have iv1 := fun h' e => iv_s (v := none) (h' := h') (as := [.ref 13]) vN_112 rfl (fun _ _ => gz_c (gz_r (by decide)) gz_n) hI e
  obtain ⟨k0, kn, cP, hM⟩ := hx
  obtain ⟨S, fi, fl, fr⟩ := h
  have hS : S = shT := hI.1
  subst hS
  have J1 : HI hdT shT (shT, pm_u2 fi 13 7 0, fl, fr) := HI_wi hI (fun _ => by decide)
  have J1 : HI hdT shT (shT, pm_u2 (pm_u2 fi 13 7 0) 13 8 0, fl, fr) := HI_wi J1 (fun _ => by decide)
  obtain ⟨f2, b1, b2, b3, b4⟩ := cho_14 (P := x.1) (D := fun p => decide (hdP K (2 ^ m) k c po (x.2.1 p))) (B := x.2.1) (fi := pm_u2 (pm_u2 fi 13 7 0) 13 8 0) (fl := fl) (fr := fr) (by omega) k0 kB hn.1 cP (fun p hp => (hM p hp).1) ((wl_ne (by decide)).trans u2_eq) u2_eq (fun p hp2 => hd_C J1 p6.2 hp hc8 hK (fun j hj hb => hs p j hj hb) hn.2.2.2.2.2.2 c2 c3 c4 hn.2.2.2.2.1) x.1 0 (by omega) rfl
  have ev : Ev pmT 105 [.ref 13] (shT, fi, fl, fr) none (shT, f2, fl, fr) := by
    clear iv1 hM b1 b2 b3 hn
    refine Ev.of (es := cd_105) (ml := 2) (lv := [some (.ref 13), none]) rfl rfl rfl ?_
    refine go_of ?_
    refine gp_n 2 (j' := 2) (lv' := [some (.ref 13), none]) (st' := [.int 0, .ref 13]) (h' := (shT, fi, fl, fr)) rfl ?_
    refine gp_of (fun _ k9 => g_putI rfl (Or.inl rfl) rfl (by decide) k9) ?_
    refine gp_n 2 (j' := 5) (lv' := [some (.ref 13), none]) (st' := [.int 0, .ref 13]) (h' := (shT, pm_u2 fi 13 7 0, fl, fr)) rfl ?_
    refine gp_of (fun _ k9 => g_putI rfl (Or.inr ⟨rfl, by decide⟩) rfl (by decide) k9) ?_
    refine gp_n 2 (j' := 8) (lv' := [some (.ref 13), some (.int (nI 0))]) (st' := []) (h' := (shT, pm_u2 (pm_u2 fi 13 7 0) 13 8 0, fl, fr)) rfl ?_
    exact gp_done b4 rfl
  exact ⟨_, ev, b1, b2, iv1 _ ev⟩
theorem chG_18 {h : PmH} {m most k c : Nat} {K : Int64} {po F : Int32} {x : RSt} (hI : HI hdT shT h) (hm : m ≤ 6) (hP : 1 ≤ x.1 ∧ x.1 ≤ 8) (hs : ∀ p t, t < 64 → bl (x.2.1 p) t = true → t < 2 ^ m ∧ bl K t = true) (hp : popc K = k + c) (hc8 : c ≤ 8) (hK : ∀ i, 2 ^ m ≤ i → i < 64 → bl K i = false) (hx : rdI 18 x h) (hn : cnI K m most F h) (c2 : ph_i h 1 2 = nI k) (c3 : ph_i h 1 3 = nI c) (c4 : ph_i h 1 4 = po) : ∃ h', Ev pmT 105 [.ref 13] h none h' ∧ ph_i h' 13 7 = nI (chN (fun p => decide (hdP K (2 ^ m) k c po (x.2.1 p))) x.1) ∧ ph_i h' 13 8 = b01 (hoN (fun p => decide (hdP K (2 ^ m) k c po (x.2.1 p))) x.1) ∧ HI hdT shT h' ∧ fram (in_w iN_112) h h' := by
  have kB : ph_r h 18 1 = some 19 := hi_r hI rfl rfl (by decide)
  have p6 := pw_6 m (by omega)
  have iv1 := fun h' e => iv_s (v := none) (h' := h') (as := [.ref 13]) vN_112 rfl (fun _ _ => gz_c (gz_r (by decide)) gz_n) hI e
  obtain ⟨k0, kn, cP, hM⟩ := hx
  obtain ⟨S, fi, fl, fr⟩ := h
  have hS : S = shT := hI.1
  subst hS
  have J1 : HI hdT shT (shT, pm_u2 fi 13 7 0, fl, fr) := HI_wi hI (fun _ => by decide)
  have J1 : HI hdT shT (shT, pm_u2 (pm_u2 fi 13 7 0) 13 8 0, fl, fr) := HI_wi J1 (fun _ => by decide)
  obtain ⟨f2, b1, b2, b3, b4⟩ := cho_18 (P := x.1) (D := fun p => decide (hdP K (2 ^ m) k c po (x.2.1 p))) (B := x.2.1) (fi := pm_u2 (pm_u2 fi 13 7 0) 13 8 0) (fl := fl) (fr := fr) (by omega) k0 kB hn.1 cP (fun p hp => (hM p hp).1) ((wl_ne (by decide)).trans u2_eq) u2_eq (fun p hp2 => hd_C J1 p6.2 hp hc8 hK (fun j hj hb => hs p j hj hb) hn.2.2.2.2.2.2 c2 c3 c4 hn.2.2.2.2.1) x.1 0 (by omega) rfl
  have ev : Ev pmT 105 [.ref 13] (shT, fi, fl, fr) none (shT, f2, fl, fr) := by
    clear iv1 hM b1 b2 b3 hn
    refine Ev.of (es := cd_105) (ml := 2) (lv := [some (.ref 13), none]) rfl rfl rfl ?_
    refine go_of ?_
    refine gp_n 2 (j' := 2) (lv' := [some (.ref 13), none]) (st' := [.int 0, .ref 13]) (h' := (shT, fi, fl, fr)) rfl ?_
    refine gp_of (fun _ k9 => g_putI rfl (Or.inl rfl) rfl (by decide) k9) ?_
    refine gp_n 2 (j' := 5) (lv' := [some (.ref 13), none]) (st' := [.int 0, .ref 13]) (h' := (shT, pm_u2 fi 13 7 0, fl, fr)) rfl ?_
    refine gp_of (fun _ k9 => g_putI rfl (Or.inr ⟨rfl, by decide⟩) rfl (by decide) k9) ?_
    refine gp_n 2 (j' := 8) (lv' := [some (.ref 13), some (.int (nI 0))]) (st' := []) (h' := (shT, pm_u2 (pm_u2 fi 13 7 0) 13 8 0, fl, fr)) rfl ?_
    exact gp_done b4 rfl
  exact ⟨_, ev, b1, b2, iv1 _ ev⟩
/-- what such a reading leaves -/
def roF (K : Int64) (m k c : Nat) (po : Int32) (S : Nat → Int32) (F : Nat) (h : PmH) : Prop := ∃ A, (A = 14 ∨ A = 18) ∧ rdI A (rdF K m S F (2 ^ m)) h ∧ ph_i h 13 8 = b01 (decide (hdP K (2 ^ m) k c po ((rdF K m S F (2 ^ m)).2.1 0)))
theorem ho_1 {D : Nat → Bool} : hoN D 1 = D 0 := by
  unfold hoN
  show (match fhN D 0 with
    | some q => some q
    | none => if D 0 = true then some 0 else none).isSome = D 0
  show (if D 0 = true then some 0 else none).isSome = D 0
  cases D 0 <;> rfl
theorem chF {h : PmH} {m k c F : Nat} {K : Int64} {po : Int32} {S : Nat → Int32} (hF : bl K F = true) (hI : HI hdT shT h) (hm : m ≤ 6) (hp : popc K = k + c) (hc8 : c ≤ 8) (hK : ∀ i, 2 ^ m ≤ i → i < 64 → bl K i = false) (hx : rgF K m S F (2 ^ m) h) (hn : cnI K m 1 (nI F) h) (c2 : ph_i h 1 2 = nI k) (c3 : ph_i h 1 3 = nI c) (c4 : ph_i h 1 4 = po) : ∃ h', Ev pmT 105 [.ref 13] h none h' ∧ roF K m k c po S F h' ∧ HI hdT shT h' ∧ fram (in_w iN_112) h h' := by
  have p6 := pw_6 m (by omega)
  have hP := rdF_P (K := K) (m := m) (S := S) (F := F) (2 ^ m)
  have e7 : ∀ s, s < 7 → inW (in_w iN_112) 13 s = false := by decide
  rcases hx with ⟨z1, -⟩ | ⟨-, A, hA, a1, a2⟩
  · omega
  · obtain ⟨h', e1, b1, b2, I1, F1⟩ : ∃ h', Ev pmT 105 [.ref 13] h none h' ∧ ph_i h' 13 7 = nI (chN (fun p => decide (hdP K (2 ^ m) k c po ((rdF K m S F (2 ^ m)).2.1 p))) (rdF K m S F (2 ^ m)).1) ∧ ph_i h' 13 8 = b01 (hoN (fun p => decide (hdP K (2 ^ m) k c po ((rdF K m S F (2 ^ m)).2.1 p))) (rdF K m S F (2 ^ m)).1) ∧ HI hdT shT h' ∧ fram (in_w iN_112) h h' := by
      rcases hA with rfl | rfl
      · exact chG_14 hI hm (by omega) (fun p t ht hb => rdF_B hF (2 ^ m) p6.2 p t ht hb) hp hc8 hK a1 hn c2 c3 c4
      · exact chG_18 hI hm (by omega) (fun p t ht hb => rdF_B hF (2 ^ m) p6.2 p t ht hb) hp hc8 hK a1 hn c2 c3 c4
    rw [hP, ho_1] at b2
    refine ⟨h', e1, ⟨A, hA, rdI_cg hA (fun p s z1 z2 => ?_) (F1 13 0 (e7 0 (by decide))).2.2 (F1 13 1 (e7 1 (by decide))).2.2 a1, b2⟩, I1, F1⟩
    have : inW (in_w iN_112) p s = false := inW_all (f := fun q => decide (q.1 = 13)) (by decide) (fun c hc => decide_eq_false (show ¬ p = 13 by omega))
    exact ⟨(F1 p s this).1, (F1 p s this).2.1⟩
theorem ruF_go {m F : Nat} {K : Int64} {S : Nat → Int32} (hF : bl K F = true) (hF6 : F < 64) (hm : m ≤ 6) (hS : ∀ s, s < 64 → -127 ≤ (S s).toInt ∧ (S s).toInt ≤ 127) : ∀ (n c : Nat) (h : PmH), c + n = 2 ^ m → HI hdT shT h → rgF K m S F c h → cnI K m 1 (nI F) h → ∃ h', rgF K m S F (2 ^ m) h' ∧ cnI K m 1 (nI F) h' ∧ HI hdT shT h' ∧ fram (in_w iN_107) h h' ∧ ∀ r, Go pmT none cd_82 57 [some (.ref 13), some (.ref 1), some (.ref 2), some (.int (nI 1)), some (.int 0), some (.int (nI F)), some (.int (nI (2 ^ m))), some (.int (nI (2 ^ m)))] [] h' r → Go pmT none cd_82 41 [some (.ref 13), some (.ref 1), some (.ref 2), some (.int (nI 1)), some (.int 0), some (.int (nI F)), some (.int (nI c)), some (.int (nI c))] [] h r := by
  intro n
  have p6 := pw_6 m (by omega)
  induction n with
  | zero =>
    intro c h hc hI hx hn
    have hc : c = 2 ^ m := by omega
    subst hc
    refine ⟨h, hx, hn, hI, fram.rf _ _, fun r k => ?_⟩
    have c12 := hn.1
    have cN := hn.2.2.2.2.2.2
    generalize 2 ^ m = N at *
    clear hx hn
    obtain ⟨S, fi, fl, fr⟩ := h
    have hS : S = shT := hI.1
    subst hS
    have c12 : fr 13 12 = some 1 := c12
    have cN : fi 1 1 = nI N := cN
    refine go_of ?_
    by_cases h64 : N = 64
    · 
      refine gp_n 2 (j' := 43) (lv' := [some (.ref 13), some (.ref 1), some (.ref 2), some (.int (nI 1)), some (.int 0), some (.int (nI F)), some (.int (nI N)), some (.int (nI N))]) (st' := [.int 64, .int (nI N)]) (h' := (shT, fi, fl, fr)) rfl ?_
      refine gp_of (fun _ k9 => g_ict rfl (show (64 : Int32) ≤ (nI N) from nI_le (a := 64) (by omega) (by omega)) k9) ?_
      exact gp_done k rfl
    · 
      refine gp_n 2 (j' := 43) (lv' := [some (.ref 13), some (.ref 1), some (.ref 2), some (.int (nI 1)), some (.int 0), some (.int (nI F)), some (.int (nI N)), some (.int (nI N))]) (st' := [.int 64, .int (nI N)]) (h' := (shT, fi, fl, fr)) rfl ?_
      refine gp_of (fun _ k9 => g_icf rfl (show ¬ ((64 : Int32) ≤ (nI N)) from nI_ge (b := 64) (by omega) (by omega)) k9) ?_
      refine gp_n 2 (j' := 46) (lv' := [some (.ref 13), some (.ref 1), some (.ref 2), some (.int (nI 1)), some (.int 0), some (.int (nI F)), some (.int (nI N)), some (.int (nI N))]) (st' := [.ref 13, .int (nI N)]) (h' := (shT, fi, fl, fr)) rfl ?_
      refine gp_of (fun _ k9 => g_getR (q' := 1) rfl rfl (by decide) c12 k9) ?_
      refine gp_of (fun _ k9 => g_getI (x := nI N) rfl (Or.inl rfl) rfl (by decide) (cN) k9) ?_
      refine gp_of (fun _ k9 => g_ict rfl (show (nI N) ≤ (nI N) from Int32.le_refl _) k9) ?_
      exact gp_done k rfl
  | succ n ih =>
    intro c h hc hI hx hn
    obtain ⟨h1, e1, x1, n1, I1, F1⟩ := rgF_st hF hF6 hm (by omega) hS hI hx hn
    obtain ⟨h2, x2, n2, I2, F2, g0⟩ := ih (c + 1) h1 (by omega) I1 x1 n1
    refine ⟨h2, x2, n2, I2, fram.tr F1 F2, fun r k => ?_⟩
    have g := g0 r k
    clear g0
    have c12 := hn.1
    have cN := hn.2.2.2.2.2.2
    generalize 2 ^ m = N at *
    clear hx hn x1 n1 x2 n2 F1 F2 ih
    obtain ⟨S1, fi1, fl1, fr1⟩ := h1
    have s1 : S1 = shT := I1.1
    subst s1
    obtain ⟨S, fi, fl, fr⟩ := h
    have hS : S = shT := hI.1
    subst hS
    have c12 : fr 13 12 = some 1 := c12
    have cN : fi 1 1 = nI N := cN
    refine go_of ?_
    refine gp_n 2 (j' := 43) (lv' := [some (.ref 13), some (.ref 1), some (.ref 2), some (.int (nI 1)), some (.int 0), some (.int (nI F)), some (.int (nI c)), some (.int (nI c))]) (st' := [.int 64, .int (nI c)]) (h' := (shT, fi, fl, fr)) rfl ?_
    refine gp_of (fun _ k9 => g_icf rfl (show ¬ ((64 : Int32) ≤ (nI c)) from nI_ge (b := 64) (by omega) (by omega)) k9) ?_
    refine gp_n 2 (j' := 46) (lv' := [some (.ref 13), some (.ref 1), some (.ref 2), some (.int (nI 1)), some (.int 0), some (.int (nI F)), some (.int (nI c)), some (.int (nI c))]) (st' := [.ref 13, .int (nI c)]) (h' := (shT, fi, fl, fr)) rfl ?_
    refine gp_of (fun _ k9 => g_getR (q' := 1) rfl rfl (by decide) c12 k9) ?_
    refine gp_of (fun _ k9 => g_getI (x := nI N) rfl (Or.inl rfl) rfl (by decide) (cN) k9) ?_
    refine gp_of (fun _ k9 => g_icf rfl (show ¬ ((nI N) ≤ (nI c)) from nI_ge (by omega) (by omega)) k9) ?_
    refine gp_n 3 (j' := 52) (lv' := [some (.ref 13), some (.ref 1), some (.ref 2), some (.int (nI 1)), some (.int 0), some (.int (nI F)), some (.int (nI c)), some (.int (nI c))]) (st' := [.int (nI c), .ref 13, .int (nI c)]) (h' := (shT, fi, fl, fr)) rfl ?_
    refine gp_of (fun _ k9 => g_call (y := 85) (as := [.ref 13, .int (nI c)]) (st' := [.int (nI c)]) rfl rfl (e1) k9) ?_
    refine gp_n 4 (j' := 41) (lv' := [some (.ref 13), some (.ref 1), some (.ref 2), some (.int (nI 1)), some (.int 0), some (.int (nI F)), some (.int ((nI c) + 1)), some (.int ((nI c) + 1))]) (st' := []) (h' := (shT, fi1, fl1, fr1)) rfl ?_
    rw [nI_1]
    exact gp_done g rfl
theorem ruF_ev_14 {h : PmH} {m k c F : Nat} {K : Int64} {po : Int32} {S : Nat → Int32} (hI : HI hdT shT h) (k0 : ph_r h 13 0 = some 14) (kn : ph_r h 13 1 = some (32 - 14)) (hm : m ≤ 6) (hF : bl K F = true) (hF6 : F < 64) (hp : popc K = k + c) (hc8 : c ≤ 8) (hK : ∀ i, 2 ^ m ≤ i → i < 64 → bl K i = false) (hH : ∀ s, s < 2 ^ m → ph_i h 2 s = S s) (hS : ∀ s, s < 64 → -127 ≤ (S s).toInt ∧ (S s).toInt ≤ 127) (c0 : ph_i h 1 0 = nI m) (c1 : ph_i h 1 1 = nI (2 ^ m)) (c2 : ph_i h 1 2 = nI k) (c3 : ph_i h 1 3 = nI c) (c4 : ph_i h 1 4 = po) (c7 : ph_l h 1 7 = K) : ∃ h', Ev pmT 82 [.ref 13, .ref 1, .ref 2, .int (nI 1), .int 0, .int (nI F)] h none h' ∧ roF K m k c po S F h' ∧ HI hdT shT h' ∧ fram (in_w iN_113) h h' := by
  have k1 : ph_r h 14 1 = some 15 := hi_r hI rfl rfl (by decide)
  have k2 : ph_r h 14 2 = some 16 := hi_r hI rfl rfl (by decide)
  have k3 : ph_r h 14 3 = some 17 := hi_r hI rfl rfl (by decide)
  have kS : ph_r h 13 9 = some 27 := hi_r hI rfl rfl (by decide)
  have p6 := pw_6 m (by omega)
  have iv1 := fun h' e => iv_s (v := none) (h' := h') (as := [.ref 13, .ref 1, .ref 2, .int (nI 1), .int 0, .int (nI F)]) vN_113 rfl (fun _ _ => gz_c (gz_r (by decide)) (gz_c (gz_r (by decide)) (gz_c (gz_r (by decide)) (gz_c (gz_i (by rw [nI_toInt (by omega)]; omega) (by rw [nI_toInt (by omega)]; omega)) (gz_c (gz_i (by decide) (by decide)) (gz_c (gz_a _) gz_n)))))) hI e
  obtain ⟨S, fi, fl, fr⟩ := h
  have hS : S = shT := hI.1
  subst hS
  have k0 : fr 13 0 = some 14 := k0
  have kn : fr 13 1 = some 18 := kn
  have kS : fr 13 9 = some 27 := kS
  have c0 : fi 1 0 = nI m := c0
  have c1 : fi 1 1 = nI (2 ^ m) := c1
  have J : HI hdT shT (shT, fi, fl, pm_u2 fr 13 12 (some 1)) := HI_wr hI (fun _ => by decide)
  have J : HI hdT shT (shT, pm_u2 fi 13 13 (nI 1), fl, pm_u2 fr 13 12 (some 1)) := HI_wi J (fun _ => by decide)
  have J : HI hdT shT (shT, pm_u2 (pm_u2 fi 13 13 (nI 1)) 13 14 0, fl, pm_u2 fr 13 12 (some 1)) := HI_wi J (fun _ => by decide)
  have J : HI hdT shT (shT, pm_u2 (pm_u2 (pm_u2 fi 13 13 (nI 1)) 13 14 0) 13 15 (nI F), fl, pm_u2 fr 13 12 (some 1)) := HI_wi J (fun z => absurd z (by decide))
  have J : HI hdT shT (shT, pm_u2 (pm_u2 (pm_u2 (pm_u2 fi 13 13 (nI 1)) 13 14 0) 13 15 (nI F)) 13 4 0, fl, pm_u2 fr 13 12 (some 1)) := HI_wi J (fun z => absurd z (by decide))
  have J : HI hdT shT (shT, pm_u2 (pm_u2 (pm_u2 (pm_u2 (pm_u2 fi 13 13 (nI 1)) 13 14 0) 13 15 (nI F)) 13 4 0) 13 5 0, fl, pm_u2 fr 13 12 (some 1)) := HI_wi J (fun z => absurd z (by decide))
  have J : HI hdT shT (shT, pm_u2 (pm_u2 (pm_u2 (pm_u2 (pm_u2 (pm_u2 fi 13 13 (nI 1)) 13 14 0) 13 15 (nI F)) 13 4 0) 13 5 0) 13 6 0, fl, pm_u2 fr 13 12 (some 1)) := HI_wi J (fun z => absurd z (by decide))
  have w6 : pm_u2 (pm_u2 (pm_u2 (pm_u2 (pm_u2 (pm_u2 fi 13 13 (nI 1)) 13 14 0) 13 15 (nI F)) 13 4 0) 13 5 0) 13 6 0 13 6 = 0 := rfl
  have w5 : pm_u2 (pm_u2 (pm_u2 (pm_u2 (pm_u2 (pm_u2 fi 13 13 (nI 1)) 13 14 0) 13 15 (nI F)) 13 4 0) 13 5 0) 13 6 0 13 5 = 0 := rfl
  have w4 : pm_u2 (pm_u2 (pm_u2 (pm_u2 (pm_u2 (pm_u2 fi 13 13 (nI 1)) 13 14 0) 13 15 (nI F)) 13 4 0) 13 5 0) 13 6 0 13 4 = 0 := rfl
  have w15 : pm_u2 (pm_u2 (pm_u2 (pm_u2 (pm_u2 (pm_u2 fi 13 13 (nI 1)) 13 14 0) 13 15 (nI F)) 13 4 0) 13 5 0) 13 6 0 13 15 = nI F := rfl
  have w14 : pm_u2 (pm_u2 (pm_u2 (pm_u2 (pm_u2 (pm_u2 fi 13 13 (nI 1)) 13 14 0) 13 15 (nI F)) 13 4 0) 13 5 0) 13 6 0 13 14 = 0 := rfl
  have w13 : pm_u2 (pm_u2 (pm_u2 (pm_u2 (pm_u2 (pm_u2 fi 13 13 (nI 1)) 13 14 0) 13 15 (nI F)) 13 4 0) 13 5 0) 13 6 0 13 13 = nI 1 := rfl
  have wO : ∀ p s, ¬ p = 13 → pm_u2 (pm_u2 (pm_u2 (pm_u2 (pm_u2 (pm_u2 fi 13 13 (nI 1)) 13 14 0) 13 15 (nI F)) 13 4 0) 13 5 0) 13 6 0 p s = fi p s := fun p s z => (wl_ne (by omega)).trans ((wl_ne (by omega)).trans ((wl_ne (by omega)).trans ((wl_ne (by omega)).trans ((wl_ne (by omega)).trans (wl_ne (by omega))))))
  generalize hF1 : pm_u2 (pm_u2 (pm_u2 (pm_u2 (pm_u2 (pm_u2 fi 13 13 (nI 1)) 13 14 0) 13 15 (nI F)) 13 4 0) 13 5 0) 13 6 0 = f1 at *
  obtain ⟨f2, a1, a2, a3, a4, a5⟩ := af_ev_14 (fi := f1) (fl := fl) (fr := pm_u2 fr 13 12 (some 1)) k1 k2 k3
  have J2 := (iv_s (v := none) (as := [.ref 14]) vN_53 rfl (fun _ _ => gz_c (gz_r (by decide)) gz_n) J a5).1
  have ow := ow_ev (l := m) (p := 0) (h := (shT, f2, pm_u2 fl 15 0 0, pm_u2 fr 13 12 (some 1))) (by omega) (by decide)
  have tp := ixS_top (l := m) (r := 0) hm (by decide)
  have J3 := HI_uf27 (g := va_cpy (f2 2) (f2 27) 0 (ixS m 0) (2 ^ m)) J2
  have wQ : ∀ p s, ¬ p = 13 → ¬ p = 14 → ¬ p = 16 → ¬ p = 17 → f2 p s = fi p s := fun p s z1 z2 z3 z4 => (a4 p s z2 z3 z4).trans (wO p s z1)
  have wP : ∀ p s, ¬ p = 27 → pm_uf f2 27 (va_cpy (f2 2) (f2 27) 0 (ixS m 0) (2 ^ m)) p s = f2 p s := fun p s z => by
    unfold pm_uf
    rw [if_neg z]
  have w27 : ∀ j, j < 2 ^ m → pm_uf f2 27 (va_cpy (f2 2) (f2 27) 0 (ixS m 0) (2 ^ m)) 27 (ixS m 0 + j) = S j := fun j hj => by
    unfold pm_uf va_cpy
    rw [if_pos rfl, if_pos (by omega), show 0 + (ixS m 0 + j - ixS m 0) = j by omega]
    exact (wQ _ _ (by decide) (by decide) (by decide) (by decide)).trans (hH j hj)
  generalize hF3 : pm_uf f2 27 (va_cpy (f2 2) (f2 27) 0 (ixS m 0) (2 ^ m)) = f3 at *
  have a4' : ∀ s, f2 13 s = f1 13 s := fun s => a4 13 s (by decide) (by decide) (by decide)
  have hx : rgF K m S F 0 (shT, f3, pm_u2 fl 15 0 0, pm_u2 fr 13 12 (some 1)) := by
    refine Or.inl ⟨rfl, 14, by decide, ⟨k0, kn, (wP _ _ (by decide)).trans a1, fun p hp => ?_⟩, fun l l1 l2 p hp => ?_⟩
    · have hp : p < 1 := hp
      have hp : p = 0 := by omega
      subst hp
      exact ⟨show pm_u2 fl 15 0 0 15 0 = 0 from u2_eq, (wP _ _ (by decide)).trans a2⟩
    · have hp : p < 1 := hp
      have hp : p = 0 := by omega
      subst hp
      have hl : l = m := by omega
      subst hl
      refine ⟨0, by decide, (wP _ _ (by decide)).trans (a3 l (by omega)), fun j hj => ?_⟩
      rw [ndL_m]
      exact w27 j hj
  have hn : cnI K m 1 (nI F) (shT, f3, pm_u2 fl 15 0 0, pm_u2 fr 13 12 (some 1)) := ⟨show pm_u2 fr 13 12 (some 1) 13 12 = some 1 from u2_eq, (wP _ _ (by decide)).trans ((a4' 13).trans w13), (wP _ _ (by decide)).trans ((a4' 14).trans w14), (wP _ _ (by decide)).trans ((a4' 15).trans w15), c7, (wP _ _ (by decide)).trans ((wQ _ _ (by decide) (by decide) (by decide) (by decide)).trans c0), (wP _ _ (by decide)).trans ((wQ _ _ (by decide) (by decide) (by decide) (by decide)).trans c1)⟩
  have d1 : ∀ s, f3 1 s = fi 1 s := fun s => (wP _ _ (by decide)).trans (wQ _ _ (by decide) (by decide) (by decide) (by decide))
  obtain ⟨h4, x4, n4, I4, F4, g⟩ := ruF_go hF hF6 hm hS (2 ^ m) 0 _ (by omega) J3 hx hn
  have e4 : ∀ s, ph_i h4 1 s = fi 1 s := fun s => ((F4 1 s rfl).1).trans (d1 s)
  obtain ⟨h5, e5, x5, I5, F5⟩ := chF hF I4 hm hp hc8 hK x4 n4 ((e4 2).trans c2) ((e4 3).trans c3) ((e4 4).trans c4)
  have ev : Ev pmT 82 [.ref 13, .ref 1, .ref 2, .int (nI 1), .int 0, .int (nI F)] (shT, fi, fl, fr) none h5 := by
    have g := g (none, h5)
    have c0f : f2 1 0 = nI m := (wQ _ _ (by decide) (by decide) (by decide) (by decide)).trans c0
    have c1f : f2 1 1 = nI (2 ^ m) := (wQ _ _ (by decide) (by decide) (by decide) (by decide)).trans c1
    have t64 : 2 ^ m ≤ 64 := p6.2
    clear x5 F5 x4 n4 F4 e4 hx hn w27 wQ wO a1 a2 a3 a4 iv1 J J2 J3 d1 a4' w4 w5 w6 w13 w14 w15 p6 wP hH
    generalize ixS m 0 = ix at *
    generalize 2 ^ m = N at *
    subst hF3
    subst hF1
    obtain ⟨S4, fi4, fl4, fr4⟩ := h4
    have s4 : S4 = shT := I4.1
    subst s4
    obtain ⟨S5, fi5, fl5, fr5⟩ := h5
    have s5 : S5 = shT := I5.1
    subst s5
    have g := g (by
      refine go_of ?_
      refine gp_n 1 (j' := 58) (lv' := [some (.ref 13), some (.ref 1), some (.ref 2), some (.int (nI 1)), some (.int 0), some (.int (nI F)), some (.int (nI N)), some (.int (nI N))]) (st' := [.ref 13]) (h' := (shT, fi4, fl4, fr4)) rfl ?_
      refine gp_of (fun _ k9 => g_callv (y := 105) (as := [.ref 13]) (st' := []) rfl rfl (e5) k9) ?_
      refine gp_done (g_vret rfl) ?_
      rfl)
    refine Ev.of (es := cd_82) (ml := 8) (lv := [some (.ref 13), some (.ref 1), some (.ref 2), some (.int (nI 1)), some (.int 0), some (.int (nI F)), none, none]) rfl rfl rfl ?_
    refine go_of ?_
    refine gp_n 2 (j' := 2) (lv' := [some (.ref 13), some (.ref 1), some (.ref 2), some (.int (nI 1)), some (.int 0), some (.int (nI F)), none, none]) (st' := [.ref 1, .ref 13]) (h' := (shT, fi, fl, fr)) rfl ?_
    refine gp_of (fun _ k9 => g_putR rfl rfl (by decide) k9) ?_
    refine gp_n 2 (j' := 5) (lv' := [some (.ref 13), some (.ref 1), some (.ref 2), some (.int (nI 1)), some (.int 0), some (.int (nI F)), none, none]) (st' := [.int (nI 1), .ref 13]) (h' := (shT, fi, fl, pm_u2 fr 13 12 (some 1))) rfl ?_
    refine gp_of (fun _ k9 => g_putI rfl (Or.inl rfl) rfl (by decide) k9) ?_
    refine gp_n 2 (j' := 8) (lv' := [some (.ref 13), some (.ref 1), some (.ref 2), some (.int (nI 1)), some (.int 0), some (.int (nI F)), none, none]) (st' := [.int 0, .ref 13]) (h' := (shT, pm_u2 fi 13 13 (nI 1), fl, pm_u2 fr 13 12 (some 1))) rfl ?_
    refine gp_of (fun _ k9 => g_putI rfl (Or.inr ⟨rfl, by decide⟩) rfl (by decide) k9) ?_
    refine gp_n 2 (j' := 11) (lv' := [some (.ref 13), some (.ref 1), some (.ref 2), some (.int (nI 1)), some (.int 0), some (.int (nI F)), none, none]) (st' := [.int (nI F), .ref 13]) (h' := (shT, pm_u2 (pm_u2 fi 13 13 (nI 1)) 13 14 0, fl, pm_u2 fr 13 12 (some 1))) rfl ?_
    refine gp_of (fun _ k9 => g_putI rfl (Or.inl rfl) rfl (by decide) k9) ?_
    refine gp_n 2 (j' := 14) (lv' := [some (.ref 13), some (.ref 1), some (.ref 2), some (.int (nI 1)), some (.int 0), some (.int (nI F)), none, none]) (st' := [.int 0, .ref 13]) (h' := (shT, pm_u2 (pm_u2 (pm_u2 fi 13 13 (nI 1)) 13 14 0) 13 15 (nI F), fl, pm_u2 fr 13 12 (some 1))) rfl ?_
    refine gp_of (fun _ k9 => g_putI rfl (Or.inl rfl) rfl (by decide) k9) ?_
    refine gp_n 2 (j' := 17) (lv' := [some (.ref 13), some (.ref 1), some (.ref 2), some (.int (nI 1)), some (.int 0), some (.int (nI F)), none, none]) (st' := [.int 0, .ref 13]) (h' := (shT, pm_u2 (pm_u2 (pm_u2 (pm_u2 fi 13 13 (nI 1)) 13 14 0) 13 15 (nI F)) 13 4 0, fl, pm_u2 fr 13 12 (some 1))) rfl ?_
    refine gp_of (fun _ k9 => g_putI rfl (Or.inl rfl) rfl (by decide) k9) ?_
    refine gp_n 2 (j' := 20) (lv' := [some (.ref 13), some (.ref 1), some (.ref 2), some (.int (nI 1)), some (.int 0), some (.int (nI F)), none, none]) (st' := [.int 0, .ref 13]) (h' := (shT, pm_u2 (pm_u2 (pm_u2 (pm_u2 (pm_u2 fi 13 13 (nI 1)) 13 14 0) 13 15 (nI F)) 13 4 0) 13 5 0, fl, pm_u2 fr 13 12 (some 1))) rfl ?_
    refine gp_of (fun _ k9 => g_putI rfl (Or.inl rfl) rfl (by decide) k9) ?_
    refine gp_n 1 (j' := 22) (lv' := [some (.ref 13), some (.ref 1), some (.ref 2), some (.int (nI 1)), some (.int 0), some (.int (nI F)), none, none]) (st' := [.ref 13]) (h' := (shT, pm_u2 (pm_u2 (pm_u2 (pm_u2 (pm_u2 (pm_u2 fi 13 13 (nI 1)) 13 14 0) 13 15 (nI F)) 13 4 0) 13 5 0) 13 6 0, fl, pm_u2 fr 13 12 (some 1))) rfl ?_
    refine gp_of (fun _ k9 => g_getR (q' := 14) rfl rfl (by decide) k0 k9) ?_
    refine gp_of (fun _ k9 => g_callv (y := 83) (as := [.ref 14]) (st' := []) rfl rfl (a5) k9) ?_
    refine gp_n 3 (j' := 27) (lv' := [some (.ref 13), some (.ref 1), some (.ref 2), some (.int (nI 1)), some (.int 0), some (.int (nI F)), none, none]) (st' := [.ref 13, .int 0, .ref 2]) (h' := (shT, f2, (pm_u2 fl 15 0 0), (pm_u2 fr 13 12 (some 1)))) rfl ?_
    refine gp_of (fun _ k9 => g_getR (q' := 27) rfl rfl (by decide) kS k9) ?_
    refine gp_n 1 (j' := 29) (lv' := [some (.ref 13), some (.ref 1), some (.ref 2), some (.int (nI 1)), some (.int 0), some (.int (nI F)), none, none]) (st' := [.ref 13, .ref 27, .int 0, .ref 2]) (h' := (shT, f2, (pm_u2 fl 15 0 0), (pm_u2 fr 13 12 (some 1)))) rfl ?_
    refine gp_of (fun _ k9 => g_getR (q' := 1) rfl rfl (by decide) rfl k9) ?_
    refine gp_of (fun _ k9 => g_getI (x := nI m) rfl (Or.inl rfl) rfl (by decide) (c0f) k9) ?_
    refine gp_n 1 (j' := 32) (lv' := [some (.ref 13), some (.ref 1), some (.ref 2), some (.int (nI 1)), some (.int 0), some (.int (nI F)), none, none]) (st' := [.int 0, .int (nI m), .ref 27, .int 0, .ref 2]) (h' := (shT, f2, (pm_u2 fl 15 0 0), (pm_u2 fr 13 12 (some 1)))) rfl ?_
    refine gp_of (fun _ k9 => g_call (y := 84) (as := [.int (nI m), .int 0]) (st' := [.ref 27, .int 0, .ref 2]) rfl rfl (ow) k9) ?_
    refine gp_n 1 (j' := 34) (lv' := [some (.ref 13), some (.ref 1), some (.ref 2), some (.int (nI 1)), some (.int 0), some (.int (nI F)), none, none]) (st' := [.ref 13, .int (nI ix), .ref 27, .int 0, .ref 2]) (h' := (shT, f2, (pm_u2 fl 15 0 0), (pm_u2 fr 13 12 (some 1)))) rfl ?_
    refine gp_of (fun _ k9 => g_getR (q' := 1) rfl rfl (by decide) rfl k9) ?_
    refine gp_of (fun _ k9 => g_getI (x := nI N) rfl (Or.inl rfl) rfl (by decide) (c1f) k9) ?_
    refine gp_of (fun _ k9 => g_cpyN (n0 := 64) (n1 := 1016) rfl rfl rfl (by omega) (by omega) (by decide) (by decide) k9) ?_
    refine gp_n 4 (j' := 41) (lv' := [some (.ref 13), some (.ref 1), some (.ref 2), some (.int (nI 1)), some (.int 0), some (.int (nI F)), some (.int (nI 0)), some (.int (nI 0))]) (st' := []) (h' := (shT, (pm_uf f2 27 (va_cpy (f2 2) (f2 27) 0 ix N)), (pm_u2 fl 15 0 0), (pm_u2 fr 13 12 (some 1)))) rfl ?_
    exact gp_done g rfl
  exact ⟨h5, ev, x5, iv1 _ ev⟩
theorem ruF_ev_18 {h : PmH} {m k c F : Nat} {K : Int64} {po : Int32} {S : Nat → Int32} (hI : HI hdT shT h) (k0 : ph_r h 13 0 = some 18) (kn : ph_r h 13 1 = some (32 - 18)) (hm : m ≤ 6) (hF : bl K F = true) (hF6 : F < 64) (hp : popc K = k + c) (hc8 : c ≤ 8) (hK : ∀ i, 2 ^ m ≤ i → i < 64 → bl K i = false) (hH : ∀ s, s < 2 ^ m → ph_i h 2 s = S s) (hS : ∀ s, s < 64 → -127 ≤ (S s).toInt ∧ (S s).toInt ≤ 127) (c0 : ph_i h 1 0 = nI m) (c1 : ph_i h 1 1 = nI (2 ^ m)) (c2 : ph_i h 1 2 = nI k) (c3 : ph_i h 1 3 = nI c) (c4 : ph_i h 1 4 = po) (c7 : ph_l h 1 7 = K) : ∃ h', Ev pmT 82 [.ref 13, .ref 1, .ref 2, .int (nI 1), .int 0, .int (nI F)] h none h' ∧ roF K m k c po S F h' ∧ HI hdT shT h' ∧ fram (in_w iN_113) h h' := by
  have k1 : ph_r h 18 1 = some 19 := hi_r hI rfl rfl (by decide)
  have k2 : ph_r h 18 2 = some 20 := hi_r hI rfl rfl (by decide)
  have k3 : ph_r h 18 3 = some 21 := hi_r hI rfl rfl (by decide)
  have kS : ph_r h 13 9 = some 27 := hi_r hI rfl rfl (by decide)
  have p6 := pw_6 m (by omega)
  have iv1 := fun h' e => iv_s (v := none) (h' := h') (as := [.ref 13, .ref 1, .ref 2, .int (nI 1), .int 0, .int (nI F)]) vN_113 rfl (fun _ _ => gz_c (gz_r (by decide)) (gz_c (gz_r (by decide)) (gz_c (gz_r (by decide)) (gz_c (gz_i (by rw [nI_toInt (by omega)]; omega) (by rw [nI_toInt (by omega)]; omega)) (gz_c (gz_i (by decide) (by decide)) (gz_c (gz_a _) gz_n)))))) hI e
  obtain ⟨S, fi, fl, fr⟩ := h
  have hS : S = shT := hI.1
  subst hS
  have k0 : fr 13 0 = some 18 := k0
  have kn : fr 13 1 = some 14 := kn
  have kS : fr 13 9 = some 27 := kS
  have c0 : fi 1 0 = nI m := c0
  have c1 : fi 1 1 = nI (2 ^ m) := c1
  have J : HI hdT shT (shT, fi, fl, pm_u2 fr 13 12 (some 1)) := HI_wr hI (fun _ => by decide)
  have J : HI hdT shT (shT, pm_u2 fi 13 13 (nI 1), fl, pm_u2 fr 13 12 (some 1)) := HI_wi J (fun _ => by decide)
  have J : HI hdT shT (shT, pm_u2 (pm_u2 fi 13 13 (nI 1)) 13 14 0, fl, pm_u2 fr 13 12 (some 1)) := HI_wi J (fun _ => by decide)
  have J : HI hdT shT (shT, pm_u2 (pm_u2 (pm_u2 fi 13 13 (nI 1)) 13 14 0) 13 15 (nI F), fl, pm_u2 fr 13 12 (some 1)) := HI_wi J (fun z => absurd z (by decide))
  have J : HI hdT shT (shT, pm_u2 (pm_u2 (pm_u2 (pm_u2 fi 13 13 (nI 1)) 13 14 0) 13 15 (nI F)) 13 4 0, fl, pm_u2 fr 13 12 (some 1)) := HI_wi J (fun z => absurd z (by decide))
  have J : HI hdT shT (shT, pm_u2 (pm_u2 (pm_u2 (pm_u2 (pm_u2 fi 13 13 (nI 1)) 13 14 0) 13 15 (nI F)) 13 4 0) 13 5 0, fl, pm_u2 fr 13 12 (some 1)) := HI_wi J (fun z => absurd z (by decide))
  have J : HI hdT shT (shT, pm_u2 (pm_u2 (pm_u2 (pm_u2 (pm_u2 (pm_u2 fi 13 13 (nI 1)) 13 14 0) 13 15 (nI F)) 13 4 0) 13 5 0) 13 6 0, fl, pm_u2 fr 13 12 (some 1)) := HI_wi J (fun z => absurd z (by decide))
  have w6 : pm_u2 (pm_u2 (pm_u2 (pm_u2 (pm_u2 (pm_u2 fi 13 13 (nI 1)) 13 14 0) 13 15 (nI F)) 13 4 0) 13 5 0) 13 6 0 13 6 = 0 := rfl
  have w5 : pm_u2 (pm_u2 (pm_u2 (pm_u2 (pm_u2 (pm_u2 fi 13 13 (nI 1)) 13 14 0) 13 15 (nI F)) 13 4 0) 13 5 0) 13 6 0 13 5 = 0 := rfl
  have w4 : pm_u2 (pm_u2 (pm_u2 (pm_u2 (pm_u2 (pm_u2 fi 13 13 (nI 1)) 13 14 0) 13 15 (nI F)) 13 4 0) 13 5 0) 13 6 0 13 4 = 0 := rfl
  have w15 : pm_u2 (pm_u2 (pm_u2 (pm_u2 (pm_u2 (pm_u2 fi 13 13 (nI 1)) 13 14 0) 13 15 (nI F)) 13 4 0) 13 5 0) 13 6 0 13 15 = nI F := rfl
  have w14 : pm_u2 (pm_u2 (pm_u2 (pm_u2 (pm_u2 (pm_u2 fi 13 13 (nI 1)) 13 14 0) 13 15 (nI F)) 13 4 0) 13 5 0) 13 6 0 13 14 = 0 := rfl
  have w13 : pm_u2 (pm_u2 (pm_u2 (pm_u2 (pm_u2 (pm_u2 fi 13 13 (nI 1)) 13 14 0) 13 15 (nI F)) 13 4 0) 13 5 0) 13 6 0 13 13 = nI 1 := rfl
  have wO : ∀ p s, ¬ p = 13 → pm_u2 (pm_u2 (pm_u2 (pm_u2 (pm_u2 (pm_u2 fi 13 13 (nI 1)) 13 14 0) 13 15 (nI F)) 13 4 0) 13 5 0) 13 6 0 p s = fi p s := fun p s z => (wl_ne (by omega)).trans ((wl_ne (by omega)).trans ((wl_ne (by omega)).trans ((wl_ne (by omega)).trans ((wl_ne (by omega)).trans (wl_ne (by omega))))))
  generalize hF1 : pm_u2 (pm_u2 (pm_u2 (pm_u2 (pm_u2 (pm_u2 fi 13 13 (nI 1)) 13 14 0) 13 15 (nI F)) 13 4 0) 13 5 0) 13 6 0 = f1 at *
  obtain ⟨f2, a1, a2, a3, a4, a5⟩ := af_ev_18 (fi := f1) (fl := fl) (fr := pm_u2 fr 13 12 (some 1)) k1 k2 k3
  have J2 := (iv_s (v := none) (as := [.ref 18]) vN_53 rfl (fun _ _ => gz_c (gz_r (by decide)) gz_n) J a5).1
  have ow := ow_ev (l := m) (p := 0) (h := (shT, f2, pm_u2 fl 19 0 0, pm_u2 fr 13 12 (some 1))) (by omega) (by decide)
  have tp := ixS_top (l := m) (r := 0) hm (by decide)
  have J3 := HI_uf27 (g := va_cpy (f2 2) (f2 27) 0 (ixS m 0) (2 ^ m)) J2
  have wQ : ∀ p s, ¬ p = 13 → ¬ p = 18 → ¬ p = 20 → ¬ p = 21 → f2 p s = fi p s := fun p s z1 z2 z3 z4 => (a4 p s z2 z3 z4).trans (wO p s z1)
  have wP : ∀ p s, ¬ p = 27 → pm_uf f2 27 (va_cpy (f2 2) (f2 27) 0 (ixS m 0) (2 ^ m)) p s = f2 p s := fun p s z => by
    unfold pm_uf
    rw [if_neg z]
  have w27 : ∀ j, j < 2 ^ m → pm_uf f2 27 (va_cpy (f2 2) (f2 27) 0 (ixS m 0) (2 ^ m)) 27 (ixS m 0 + j) = S j := fun j hj => by
    unfold pm_uf va_cpy
    rw [if_pos rfl, if_pos (by omega), show 0 + (ixS m 0 + j - ixS m 0) = j by omega]
    exact (wQ _ _ (by decide) (by decide) (by decide) (by decide)).trans (hH j hj)
  generalize hF3 : pm_uf f2 27 (va_cpy (f2 2) (f2 27) 0 (ixS m 0) (2 ^ m)) = f3 at *
  have a4' : ∀ s, f2 13 s = f1 13 s := fun s => a4 13 s (by decide) (by decide) (by decide)
  have hx : rgF K m S F 0 (shT, f3, pm_u2 fl 19 0 0, pm_u2 fr 13 12 (some 1)) := by
    refine Or.inl ⟨rfl, 18, by decide, ⟨k0, kn, (wP _ _ (by decide)).trans a1, fun p hp => ?_⟩, fun l l1 l2 p hp => ?_⟩
    · have hp : p < 1 := hp
      have hp : p = 0 := by omega
      subst hp
      exact ⟨show pm_u2 fl 19 0 0 19 0 = 0 from u2_eq, (wP _ _ (by decide)).trans a2⟩
    · have hp : p < 1 := hp
      have hp : p = 0 := by omega
      subst hp
      have hl : l = m := by omega
      subst hl
      refine ⟨0, by decide, (wP _ _ (by decide)).trans (a3 l (by omega)), fun j hj => ?_⟩
      rw [ndL_m]
      exact w27 j hj
  have hn : cnI K m 1 (nI F) (shT, f3, pm_u2 fl 19 0 0, pm_u2 fr 13 12 (some 1)) := ⟨show pm_u2 fr 13 12 (some 1) 13 12 = some 1 from u2_eq, (wP _ _ (by decide)).trans ((a4' 13).trans w13), (wP _ _ (by decide)).trans ((a4' 14).trans w14), (wP _ _ (by decide)).trans ((a4' 15).trans w15), c7, (wP _ _ (by decide)).trans ((wQ _ _ (by decide) (by decide) (by decide) (by decide)).trans c0), (wP _ _ (by decide)).trans ((wQ _ _ (by decide) (by decide) (by decide) (by decide)).trans c1)⟩
  have d1 : ∀ s, f3 1 s = fi 1 s := fun s => (wP _ _ (by decide)).trans (wQ _ _ (by decide) (by decide) (by decide) (by decide))
  obtain ⟨h4, x4, n4, I4, F4, g⟩ := ruF_go hF hF6 hm hS (2 ^ m) 0 _ (by omega) J3 hx hn
  have e4 : ∀ s, ph_i h4 1 s = fi 1 s := fun s => ((F4 1 s rfl).1).trans (d1 s)
  obtain ⟨h5, e5, x5, I5, F5⟩ := chF hF I4 hm hp hc8 hK x4 n4 ((e4 2).trans c2) ((e4 3).trans c3) ((e4 4).trans c4)
  have ev : Ev pmT 82 [.ref 13, .ref 1, .ref 2, .int (nI 1), .int 0, .int (nI F)] (shT, fi, fl, fr) none h5 := by
    have g := g (none, h5)
    have c0f : f2 1 0 = nI m := (wQ _ _ (by decide) (by decide) (by decide) (by decide)).trans c0
    have c1f : f2 1 1 = nI (2 ^ m) := (wQ _ _ (by decide) (by decide) (by decide) (by decide)).trans c1
    have t64 : 2 ^ m ≤ 64 := p6.2
    clear x5 F5 x4 n4 F4 e4 hx hn w27 wQ wO a1 a2 a3 a4 iv1 J J2 J3 d1 a4' w4 w5 w6 w13 w14 w15 p6 wP hH
    generalize ixS m 0 = ix at *
    generalize 2 ^ m = N at *
    subst hF3
    subst hF1
    obtain ⟨S4, fi4, fl4, fr4⟩ := h4
    have s4 : S4 = shT := I4.1
    subst s4
    obtain ⟨S5, fi5, fl5, fr5⟩ := h5
    have s5 : S5 = shT := I5.1
    subst s5
    have g := g (by
      refine go_of ?_
      refine gp_n 1 (j' := 58) (lv' := [some (.ref 13), some (.ref 1), some (.ref 2), some (.int (nI 1)), some (.int 0), some (.int (nI F)), some (.int (nI N)), some (.int (nI N))]) (st' := [.ref 13]) (h' := (shT, fi4, fl4, fr4)) rfl ?_
      refine gp_of (fun _ k9 => g_callv (y := 105) (as := [.ref 13]) (st' := []) rfl rfl (e5) k9) ?_
      refine gp_done (g_vret rfl) ?_
      rfl)
    refine Ev.of (es := cd_82) (ml := 8) (lv := [some (.ref 13), some (.ref 1), some (.ref 2), some (.int (nI 1)), some (.int 0), some (.int (nI F)), none, none]) rfl rfl rfl ?_
    refine go_of ?_
    refine gp_n 2 (j' := 2) (lv' := [some (.ref 13), some (.ref 1), some (.ref 2), some (.int (nI 1)), some (.int 0), some (.int (nI F)), none, none]) (st' := [.ref 1, .ref 13]) (h' := (shT, fi, fl, fr)) rfl ?_
    refine gp_of (fun _ k9 => g_putR rfl rfl (by decide) k9) ?_
    refine gp_n 2 (j' := 5) (lv' := [some (.ref 13), some (.ref 1), some (.ref 2), some (.int (nI 1)), some (.int 0), some (.int (nI F)), none, none]) (st' := [.int (nI 1), .ref 13]) (h' := (shT, fi, fl, pm_u2 fr 13 12 (some 1))) rfl ?_
    refine gp_of (fun _ k9 => g_putI rfl (Or.inl rfl) rfl (by decide) k9) ?_
    refine gp_n 2 (j' := 8) (lv' := [some (.ref 13), some (.ref 1), some (.ref 2), some (.int (nI 1)), some (.int 0), some (.int (nI F)), none, none]) (st' := [.int 0, .ref 13]) (h' := (shT, pm_u2 fi 13 13 (nI 1), fl, pm_u2 fr 13 12 (some 1))) rfl ?_
    refine gp_of (fun _ k9 => g_putI rfl (Or.inr ⟨rfl, by decide⟩) rfl (by decide) k9) ?_
    refine gp_n 2 (j' := 11) (lv' := [some (.ref 13), some (.ref 1), some (.ref 2), some (.int (nI 1)), some (.int 0), some (.int (nI F)), none, none]) (st' := [.int (nI F), .ref 13]) (h' := (shT, pm_u2 (pm_u2 fi 13 13 (nI 1)) 13 14 0, fl, pm_u2 fr 13 12 (some 1))) rfl ?_
    refine gp_of (fun _ k9 => g_putI rfl (Or.inl rfl) rfl (by decide) k9) ?_
    refine gp_n 2 (j' := 14) (lv' := [some (.ref 13), some (.ref 1), some (.ref 2), some (.int (nI 1)), some (.int 0), some (.int (nI F)), none, none]) (st' := [.int 0, .ref 13]) (h' := (shT, pm_u2 (pm_u2 (pm_u2 fi 13 13 (nI 1)) 13 14 0) 13 15 (nI F), fl, pm_u2 fr 13 12 (some 1))) rfl ?_
    refine gp_of (fun _ k9 => g_putI rfl (Or.inl rfl) rfl (by decide) k9) ?_
    refine gp_n 2 (j' := 17) (lv' := [some (.ref 13), some (.ref 1), some (.ref 2), some (.int (nI 1)), some (.int 0), some (.int (nI F)), none, none]) (st' := [.int 0, .ref 13]) (h' := (shT, pm_u2 (pm_u2 (pm_u2 (pm_u2 fi 13 13 (nI 1)) 13 14 0) 13 15 (nI F)) 13 4 0, fl, pm_u2 fr 13 12 (some 1))) rfl ?_
    refine gp_of (fun _ k9 => g_putI rfl (Or.inl rfl) rfl (by decide) k9) ?_
    refine gp_n 2 (j' := 20) (lv' := [some (.ref 13), some (.ref 1), some (.ref 2), some (.int (nI 1)), some (.int 0), some (.int (nI F)), none, none]) (st' := [.int 0, .ref 13]) (h' := (shT, pm_u2 (pm_u2 (pm_u2 (pm_u2 (pm_u2 fi 13 13 (nI 1)) 13 14 0) 13 15 (nI F)) 13 4 0) 13 5 0, fl, pm_u2 fr 13 12 (some 1))) rfl ?_
    refine gp_of (fun _ k9 => g_putI rfl (Or.inl rfl) rfl (by decide) k9) ?_
    refine gp_n 1 (j' := 22) (lv' := [some (.ref 13), some (.ref 1), some (.ref 2), some (.int (nI 1)), some (.int 0), some (.int (nI F)), none, none]) (st' := [.ref 13]) (h' := (shT, pm_u2 (pm_u2 (pm_u2 (pm_u2 (pm_u2 (pm_u2 fi 13 13 (nI 1)) 13 14 0) 13 15 (nI F)) 13 4 0) 13 5 0) 13 6 0, fl, pm_u2 fr 13 12 (some 1))) rfl ?_
    refine gp_of (fun _ k9 => g_getR (q' := 18) rfl rfl (by decide) k0 k9) ?_
    refine gp_of (fun _ k9 => g_callv (y := 83) (as := [.ref 18]) (st' := []) rfl rfl (a5) k9) ?_
    refine gp_n 3 (j' := 27) (lv' := [some (.ref 13), some (.ref 1), some (.ref 2), some (.int (nI 1)), some (.int 0), some (.int (nI F)), none, none]) (st' := [.ref 13, .int 0, .ref 2]) (h' := (shT, f2, (pm_u2 fl 19 0 0), (pm_u2 fr 13 12 (some 1)))) rfl ?_
    refine gp_of (fun _ k9 => g_getR (q' := 27) rfl rfl (by decide) kS k9) ?_
    refine gp_n 1 (j' := 29) (lv' := [some (.ref 13), some (.ref 1), some (.ref 2), some (.int (nI 1)), some (.int 0), some (.int (nI F)), none, none]) (st' := [.ref 13, .ref 27, .int 0, .ref 2]) (h' := (shT, f2, (pm_u2 fl 19 0 0), (pm_u2 fr 13 12 (some 1)))) rfl ?_
    refine gp_of (fun _ k9 => g_getR (q' := 1) rfl rfl (by decide) rfl k9) ?_
    refine gp_of (fun _ k9 => g_getI (x := nI m) rfl (Or.inl rfl) rfl (by decide) (c0f) k9) ?_
    refine gp_n 1 (j' := 32) (lv' := [some (.ref 13), some (.ref 1), some (.ref 2), some (.int (nI 1)), some (.int 0), some (.int (nI F)), none, none]) (st' := [.int 0, .int (nI m), .ref 27, .int 0, .ref 2]) (h' := (shT, f2, (pm_u2 fl 19 0 0), (pm_u2 fr 13 12 (some 1)))) rfl ?_
    refine gp_of (fun _ k9 => g_call (y := 84) (as := [.int (nI m), .int 0]) (st' := [.ref 27, .int 0, .ref 2]) rfl rfl (ow) k9) ?_
    refine gp_n 1 (j' := 34) (lv' := [some (.ref 13), some (.ref 1), some (.ref 2), some (.int (nI 1)), some (.int 0), some (.int (nI F)), none, none]) (st' := [.ref 13, .int (nI ix), .ref 27, .int 0, .ref 2]) (h' := (shT, f2, (pm_u2 fl 19 0 0), (pm_u2 fr 13 12 (some 1)))) rfl ?_
    refine gp_of (fun _ k9 => g_getR (q' := 1) rfl rfl (by decide) rfl k9) ?_
    refine gp_of (fun _ k9 => g_getI (x := nI N) rfl (Or.inl rfl) rfl (by decide) (c1f) k9) ?_
    refine gp_of (fun _ k9 => g_cpyN (n0 := 64) (n1 := 1016) rfl rfl rfl (by omega) (by omega) (by decide) (by decide) k9) ?_
    refine gp_n 4 (j' := 41) (lv' := [some (.ref 13), some (.ref 1), some (.ref 2), some (.int (nI 1)), some (.int 0), some (.int (nI F)), some (.int (nI 0)), some (.int (nI 0))]) (st' := []) (h' := (shT, (pm_uf f2 27 (va_cpy (f2 2) (f2 27) 0 ix N)), (pm_u2 fl 19 0 0), (pm_u2 fr 13 12 (some 1)))) rfl ?_
    exact gp_done g rfl
  exact ⟨h5, ev, x5, iv1 _ ev⟩
theorem ruF_ev {h : PmH} {m k c F : Nat} {K : Int64} {po : Int32} {S : Nat → Int32} (hI : HI hdT shT h) (hr : RD h) (hm : m ≤ 6) (hF : bl K F = true) (hF6 : F < 64) (hp : popc K = k + c) (hc8 : c ≤ 8) (hK : ∀ i, 2 ^ m ≤ i → i < 64 → bl K i = false) (hH : ∀ s, s < 2 ^ m → ph_i h 2 s = S s) (hS : ∀ s, s < 64 → -127 ≤ (S s).toInt ∧ (S s).toInt ≤ 127) (c0 : ph_i h 1 0 = nI m) (c1 : ph_i h 1 1 = nI (2 ^ m)) (c2 : ph_i h 1 2 = nI k) (c3 : ph_i h 1 3 = nI c) (c4 : ph_i h 1 4 = po) (c7 : ph_l h 1 7 = K) : ∃ h', Ev pmT 82 [.ref 13, .ref 1, .ref 2, .int (nI 1), .int 0, .int (nI F)] h none h' ∧ roF K m k c po S F h' ∧ HI hdT shT h' ∧ fram (in_w iN_113) h h' := by
  obtain ⟨A, rfl | rfl, a1, a2⟩ := hr
  · exact ruF_ev_14 hI a1 a2 hm hF hF6 hp hc8 hK hH hS c0 c1 c2 c3 c4 c7
  · exact ruF_ev_18 hI a1 a2 hm hF hF6 hp hc8 hK hH hS c0 c1 c2 c3 c4 c7
