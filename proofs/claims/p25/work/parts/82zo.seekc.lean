theorem nI_and {q : Nat} (hq : q < 2 ^ 31) : nI q &&& 127 = nI (q % 128) := by
  apply Int32.toBitVec_inj.mp
  apply BitVec.eq_of_toNat_eq
  rw [Int32.toBitVec_and, BitVec.toNat_and]
  show BitVec.toNat (BitVec.ofNat 32 q) &&& 127 = BitVec.toNat (BitVec.ofNat 32 (q % 128))
  rw [BitVec.toNat_ofNat, BitVec.toNat_ofNat, Nat.mod_eq_of_lt (show q < 2 ^ 32 by omega), Nat.mod_eq_of_lt (show q % 128 < 2 ^ 32 by omega)]
  exact Nat.and_two_pow_sub_one_eq_mod q 7
theorem nI_shr {q : Nat} (hq : q < 2 ^ 31) : nI q >>> (7 &&& 31) = nI (q / 128) := by
  apply Int32.toInt_inj.mp
  rw [nI_toInt (show q / 128 < 2 ^ 31 by omega)]
  show ((nI q).toBitVec.sshiftRight ((nI 7 &&& 31).toBitVec.smod 32).toNat).toInt = _
  rw [show ((nI 7 &&& 31).toBitVec.smod 32).toNat = 7 from rfl, BitVec.toInt_sshiftRight, Int.shiftRight_eq_div_pow]
  show (nI q).toInt / _ = _
  rw [nI_toInt hq]
  rfl
theorem key_d {M d : Nat} (hd : d ≤ 64) (hM : M ≤ 520192) : (64 : Int32) - (nI (128 * M + (64 - d)) &&& 127) = nI d := by
  rw [nI_and (by omega), show (128 * M + (64 - d)) % 128 = 64 - d by omega]
  have := nI_sub (a := 64) (b := 64 - d) (by omega) (by decide)
  rw [show 64 - (64 - d) = d by omega] at this
  exact this
theorem key_M {M d : Nat} (hd : d ≤ 64) (hM : M ≤ 520192) : nI (128 * M + (64 - d)) >>> (7 &&& 31) = nI M := by
  rw [nI_shr (by omega), show (128 * M + (64 - d)) / 128 = M by omega]
theorem grC {a : AB} {m k c l n b : Nat} {x : SQ} {h : PmH} (vk : VK (a_v a) m k c) (hB : ∀ s, s < 64 → -127 ≤ ((a_v a).2.2 s).toInt ∧ ((a_v a).2.2 s).toInt ≤ 127) (hs : skC a m k c l (qDel x b) n h) (hn : n + 2 ≤ 1502) (hq : QI (a_v a).2.1 (2 ^ m) x) (hb : b < x.1) (lb : x.2.2.2.2 b = true) (hd : x.2.2.1 b < 2 ^ m) : ∃ h' n', n' ≤ n + 2 ∧ Ev pmT 125 [.ref 34, .ref 1, .int (nI (x.2.1 b)), .int (nI (x.2.2.1 b)), .long (x.2.2.2.1 b)] h none h' ∧ skC a m k c l (qGo (a_v a).2.1 m (a_v a).2.2 x b) n' h' ∧ sm4 h h' := by
  have p6 := pw_6 m (by have := vk.1; omega)
  obtain ⟨a1, a2, a3⟩ := hq.1 b hb lb
  have sb := ndL_b0 vk.1 hB (u := bl (x.2.2.2.1 b)) (c := x.2.2.1 b) (l := 0) (j := 0) (Nat.zero_le m) (by decide)
  obtain ⟨n0, n1⟩ := coN_e (t := false) sb
  obtain ⟨m0, m1⟩ := coN_e (t := true) sb
  have q0 := QI_g0 vk.1 hB hq hb lb hd
  have qq := QI_go vk.1 hB hq hb lb hd
  obtain ⟨h1, e1, s1, t1⟩ := saC (w := x.2.2.2.1 b) hs vk.1 hd
  obtain ⟨h2, e2, s2, t2⟩ := psC (M := x.2.1 b + coN (qS m (a_v a).2.2 x b) false) (d := x.2.2.1 b + 1) (B := x.2.2.2.1 b) s1 (by omega) (by omega) (by have n0 : coN (qS m (a_v a).2.2 x b) false ≤ 8128 := n0; omega) q0
  have I1 := s1.1
  have I2 := s2.1
  have hI := hs.1
  have kp := kp_ev_1 I2 (i := x.2.2.1 b) s2.2.1.2.2.2.2.2.2 (by omega)
  have pn0 : ∀ h, Ev pmT 77 [.int (qS m (a_v a).2.2 x b), .int 0] h (some (.int (nI (coN (qS m (a_v a).2.2 x b) false)))) h := fun h => by
    have := pny_ev2 (S := qS m (a_v a).2.2 x b) (t := false) (h := h) sb
    rw [show coS (qS m (a_v a).2.2 x b) false = nI (coN (qS m (a_v a).2.2 x b) false) from n1] at this
    exact this
  have pn1 : ∀ h, Ev pmT 77 [.int (qS m (a_v a).2.2 x b), .int 1] h (some (.int (nI (coN (qS m (a_v a).2.2 x b) true)))) h := fun h => by
    have := pny_ev2 (S := qS m (a_v a).2.2 x b) (t := true) (h := h) sb
    rw [show coS (qS m (a_v a).2.2 x b) true = nI (coN (qS m (a_v a).2.2 x b) true) from m1] at this
    exact this
  have ad0 : nI (x.2.1 b) + nI (coN (qS m (a_v a).2.2 x b) false) = nI (x.2.1 b + coN (qS m (a_v a).2.2 x b) false) := nI_add _ _
  have ad1 : nI (x.2.1 b) + nI (coN (qS m (a_v a).2.2 x b) true) = nI (x.2.1 b + coN (qS m (a_v a).2.2 x b) true) := nI_add _ _
  have e1 : Ev pmT 126 [.ref 34, .ref 1, .int (nI (x.2.2.1 b)), .long (x.2.2.2.1 b)] h (some (.int (qS m (a_v a).2.2 x b))) h1 := e1
  have m0 : coN (qS m (a_v a).2.2 x b) true ≤ 8128 := m0
  cases hk : bl (a_v a).2.1 (x.2.2.1 b)
  · rw [hk] at kp
    have kp : Ev pmT 47 [.ref 1, .int (nI (x.2.2.1 b))] h2 (some (.int 0)) h2 := kp
    have eG : qGo (a_v a).2.1 m (a_v a).2.2 x b = qG0 m (a_v a).2.2 x b := by
      unfold qGo
      rw [hk, if_neg (by decide)]
    rw [eG]
    refine ⟨h2, n + 1, by omega, ?_, s2, sm4_tr t1 t2⟩
    clear s1 s2 t1 t2 q0 qq eG hs hq a3 sb n1 m1 pn1 ad1
    generalize x.2.1 b + coN (qS m (a_v a).2.2 x b) false = M1 at *
    generalize coN (qS m (a_v a).2.2 x b) false = u0 at *
    generalize qS m (a_v a).2.2 x b = sv at *
    generalize x.2.1 b = M0 at *
    generalize x.2.2.1 b = d0 at *
    generalize x.2.2.2.1 b = B0 at *
    obtain ⟨S2, fi2, fl2, fr2⟩ := h2
    have s2 : S2 = shT := I2.1
    subst s2
    obtain ⟨S1, fi1, fl1, fr1⟩ := h1
    have s1 : S1 = shT := I1.1
    subst s1
    have pn0 := pn0 (shT, fi1, fl1, fr1)
    obtain ⟨S, fi, fl, fr⟩ := h
    have hS : S = shT := hI.1
    subst hS
    refine Ev.of (es := cd_125) (ml := 7) (lv := [some (.ref 34), some (.ref 1), some (.int (nI M0)), some (.int (nI d0)), some (.long B0), none, none]) rfl rfl rfl ?_
    refine go_of ?_
    refine gp_n 4 (j' := 4) (lv' := [some (.ref 34), some (.ref 1), some (.int (nI M0)), some (.int (nI d0)), some (.long B0), none, none]) (st' := [.long B0, .int (nI d0), .ref 1, .ref 34]) (h' := (shT, fi, fl, fr)) rfl ?_
    refine gp_of (fun _ k9 => g_call (y := 126) (as := [.ref 34, .ref 1, .int (nI d0), .long B0]) (st' := []) rfl rfl (e1) k9) ?_
    refine gp_n 5 (j' := 10) (lv' := [some (.ref 34), some (.ref 1), some (.int (nI M0)), some (.int (nI d0)), some (.long B0), none, some (.int sv)]) (st' := [.int 0, .int sv, .int (nI M0), .ref 34]) (h' := (shT, fi1, fl1, fr1)) rfl ?_
    refine gp_of (fun _ k9 => g_call (y := 77) (as := [.int sv, .int 0]) (st' := [.int (nI M0), .ref 34]) rfl rfl (pn0) k9) ?_
    refine gp_n 1 (j' := 12) (lv' := [some (.ref 34), some (.ref 1), some (.int (nI M0)), some (.int (nI d0)), some (.long B0), none, some (.int sv)]) (st' := [.int ((nI M0) + (nI u0)), .ref 34]) (h' := (shT, fi1, fl1, fr1)) rfl ?_
    rw [ad0]
    refine gp_n 3 (j' := 15) (lv' := [some (.ref 34), some (.ref 1), some (.int (nI M0)), some (.int (nI d0)), some (.long B0), none, some (.int sv)]) (st' := [.int ((nI d0) + 1), .int (nI M1), .ref 34]) (h' := (shT, fi1, fl1, fr1)) rfl ?_
    rw [nI_1]
    refine gp_n 1 (j' := 16) (lv' := [some (.ref 34), some (.ref 1), some (.int (nI M0)), some (.int (nI d0)), some (.long B0), none, some (.int sv)]) (st' := [.long B0, .int (nI (d0 + 1)), .int (nI M1), .ref 34]) (h' := (shT, fi1, fl1, fr1)) rfl ?_
    refine gp_of (fun _ k9 => g_callv (y := 119) (as := [.ref 34, .int (nI M1), .int (nI (d0 + 1)), .long B0]) (st' := []) rfl rfl (e2) k9) ?_
    refine gp_n 2 (j' := 19) (lv' := [some (.ref 34), some (.ref 1), some (.int (nI M0)), some (.int (nI d0)), some (.long B0), none, some (.int sv)]) (st' := [.int (nI d0), .ref 1]) (h' := (shT, fi2, fl2, fr2)) rfl ?_
    refine gp_of (fun _ k9 => g_call (y := 47) (as := [.ref 1, .int (nI d0)]) (st' := []) rfl rfl (kp) k9) ?_
    refine gp_of (fun _ k9 => g_ift rfl (show (0 : Int32) = (0 : Int32) from by decide) k9) ?_
    refine gp_done (g_vret rfl) ?_
    rfl
  · rw [hk] at kp
    have kp : Ev pmT 47 [.ref 1, .int (nI (x.2.2.1 b))] h2 (some (.int 1)) h2 := kp
    have eG : qGo (a_v a).2.1 m (a_v a).2.2 x b = qAdd (qG0 m (a_v a).2.2 x b) (x.2.1 b + coN (qS m (a_v a).2.2 x b) true) (x.2.2.1 b + 1) (x.2.2.2.1 b ||| bitAt (x.2.2.1 b)) := by
      unfold qGo
      rw [hk, if_pos rfl]
    rw [eG] at qq ⊢
    obtain ⟨h3, e3, s3, t3⟩ := psC (M := x.2.1 b + coN (qS m (a_v a).2.2 x b) true) (d := x.2.2.1 b + 1) (B := x.2.2.2.1 b ||| bitAt (x.2.2.1 b)) s2 (by omega) (by omega) (by omega) qq
    refine ⟨h3, n + 1 + 1, by omega, ?_, s3, sm4_tr (sm4_tr t1 t2) t3⟩
    have I3 := s3.1
    have e3 : Ev pmT 119 [.ref 34, .int (nI (x.2.1 b + coN (qS m (a_v a).2.2 x b) true)), .int (nI (x.2.2.1 b + 1)), .long (x.2.2.2.1 b ||| (1 <<< ((nI (x.2.2.1 b) : Int32).toInt64 &&& 63)))] h2 none h3 := e3
    clear s1 s2 s3 t1 t2 t3 q0 qq eG hs hq a3 sb n1 m1
    generalize x.2.1 b + coN (qS m (a_v a).2.2 x b) false = M1 at *
    generalize x.2.1 b + coN (qS m (a_v a).2.2 x b) true = M2 at *
    generalize coN (qS m (a_v a).2.2 x b) false = u0 at *
    generalize coN (qS m (a_v a).2.2 x b) true = u1 at *
    generalize qS m (a_v a).2.2 x b = sv at *
    generalize x.2.1 b = M0 at *
    generalize x.2.2.1 b = d0 at *
    generalize x.2.2.2.1 b = B0 at *
    obtain ⟨S3, fi3, fl3, fr3⟩ := h3
    have s3 : S3 = shT := I3.1
    subst s3
    obtain ⟨S2, fi2, fl2, fr2⟩ := h2
    have s2 : S2 = shT := I2.1
    subst s2
    obtain ⟨S1, fi1, fl1, fr1⟩ := h1
    have s1 : S1 = shT := I1.1
    subst s1
    have pn0 := pn0 (shT, fi1, fl1, fr1)
    have pn1 := pn1 (shT, fi2, fl2, fr2)
    obtain ⟨S, fi, fl, fr⟩ := h
    have hS : S = shT := hI.1
    subst hS
    refine Ev.of (es := cd_125) (ml := 7) (lv := [some (.ref 34), some (.ref 1), some (.int (nI M0)), some (.int (nI d0)), some (.long B0), none, none]) rfl rfl rfl ?_
    refine go_of ?_
    refine gp_n 4 (j' := 4) (lv' := [some (.ref 34), some (.ref 1), some (.int (nI M0)), some (.int (nI d0)), some (.long B0), none, none]) (st' := [.long B0, .int (nI d0), .ref 1, .ref 34]) (h' := (shT, fi, fl, fr)) rfl ?_
    refine gp_of (fun _ k9 => g_call (y := 126) (as := [.ref 34, .ref 1, .int (nI d0), .long B0]) (st' := []) rfl rfl (e1) k9) ?_
    refine gp_n 5 (j' := 10) (lv' := [some (.ref 34), some (.ref 1), some (.int (nI M0)), some (.int (nI d0)), some (.long B0), none, some (.int sv)]) (st' := [.int 0, .int sv, .int (nI M0), .ref 34]) (h' := (shT, fi1, fl1, fr1)) rfl ?_
    refine gp_of (fun _ k9 => g_call (y := 77) (as := [.int sv, .int 0]) (st' := [.int (nI M0), .ref 34]) rfl rfl (pn0) k9) ?_
    refine gp_n 1 (j' := 12) (lv' := [some (.ref 34), some (.ref 1), some (.int (nI M0)), some (.int (nI d0)), some (.long B0), none, some (.int sv)]) (st' := [.int ((nI M0) + (nI u0)), .ref 34]) (h' := (shT, fi1, fl1, fr1)) rfl ?_
    rw [ad0]
    refine gp_n 3 (j' := 15) (lv' := [some (.ref 34), some (.ref 1), some (.int (nI M0)), some (.int (nI d0)), some (.long B0), none, some (.int sv)]) (st' := [.int ((nI d0) + 1), .int (nI M1), .ref 34]) (h' := (shT, fi1, fl1, fr1)) rfl ?_
    rw [nI_1]
    refine gp_n 1 (j' := 16) (lv' := [some (.ref 34), some (.ref 1), some (.int (nI M0)), some (.int (nI d0)), some (.long B0), none, some (.int sv)]) (st' := [.long B0, .int (nI (d0 + 1)), .int (nI M1), .ref 34]) (h' := (shT, fi1, fl1, fr1)) rfl ?_
    refine gp_of (fun _ k9 => g_callv (y := 119) (as := [.ref 34, .int (nI M1), .int (nI (d0 + 1)), .long B0]) (st' := []) rfl rfl (e2) k9) ?_
    refine gp_n 2 (j' := 19) (lv' := [some (.ref 34), some (.ref 1), some (.int (nI M0)), some (.int (nI d0)), some (.long B0), none, some (.int sv)]) (st' := [.int (nI d0), .ref 1]) (h' := (shT, fi2, fl2, fr2)) rfl ?_
    refine gp_of (fun _ k9 => g_call (y := 47) (as := [.ref 1, .int (nI d0)]) (st' := []) rfl rfl (kp) k9) ?_
    refine gp_of (fun _ k9 => g_iff rfl (show ¬ ((1 : Int32) = (0 : Int32)) from by decide) k9) ?_
    refine gp_n 4 (j' := 25) (lv' := [some (.ref 34), some (.ref 1), some (.int (nI M0)), some (.int (nI d0)), some (.long B0), none, some (.int sv)]) (st' := [.int 1, .int sv, .int (nI M0), .ref 34]) (h' := (shT, fi2, fl2, fr2)) rfl ?_
    refine gp_of (fun _ k9 => g_call (y := 77) (as := [.int sv, .int 1]) (st' := [.int (nI M0), .ref 34]) rfl rfl (pn1) k9) ?_
    refine gp_n 1 (j' := 27) (lv' := [some (.ref 34), some (.ref 1), some (.int (nI M0)), some (.int (nI d0)), some (.long B0), none, some (.int sv)]) (st' := [.int ((nI M0) + (nI u1)), .ref 34]) (h' := (shT, fi2, fl2, fr2)) rfl ?_
    rw [ad1]
    refine gp_n 3 (j' := 30) (lv' := [some (.ref 34), some (.ref 1), some (.int (nI M0)), some (.int (nI d0)), some (.long B0), none, some (.int sv)]) (st' := [.int ((nI d0) + 1), .int (nI M2), .ref 34]) (h' := (shT, fi2, fl2, fr2)) rfl ?_
    rw [nI_1]
    refine gp_n 5 (j' := 35) (lv' := [some (.ref 34), some (.ref 1), some (.int (nI M0)), some (.int (nI d0)), some (.long B0), none, some (.int sv)]) (st' := [.long (B0 ||| ((1 : Int64) <<< ((nI d0 : Int32).toInt64 &&& 63))), .int (nI (d0 + 1)), .int (nI M2), .ref 34]) (h' := (shT, fi2, fl2, fr2)) rfl ?_
    refine gp_of (fun _ k9 => g_callv (y := 119) (as := [.ref 34, .int (nI M2), .int (nI (d0 + 1)), .long (B0 ||| ((1 : Int64) <<< ((nI d0 : Int32).toInt64 &&& 63)))]) (st' := []) rfl rfl (e3) k9) ?_
    refine gp_done (g_vret rfl) ?_
    rfl
/-- whether its check holds -/
def skK (a : AB) (m k c : Nat) (B : Int64) : Bool := decide (hdP (a_v a).2.1 (2 ^ m) k c ((a_v a).1 4) B)
/-- one goes on -/
theorem goC {a : AB} {m k c l n b : Nat} {x : SQ} {h : PmH} (vk : VK (a_v a) m k c) (hB : ∀ s, s < 64 → -127 ≤ ((a_v a).2.2 s).toInt ∧ ((a_v a).2.2 s).toInt ≤ 127) (hs : skC a m k c l x (n + 1) h) (hn : n + 2 ≤ 1502) (hq : QI (a_v a).2.1 (2 ^ m) x) (hb : qb x = some b) : ∃ h', Ev pmT 122 [.ref 34, .ref 1] h none h' ∧ ((x.2.2.1 b < 2 ^ m ∧ (∃ n', n' ≤ n + 2 ∧ skC a m k c l (qGo (a_v a).2.1 m (a_v a).2.2 x b) n' h') ∧ sm4 h h') ∨ (¬ x.2.2.1 b < 2 ^ m ∧ skK a m k c (x.2.2.2.1 b) = true ∧ HI hdT shT h' ∧ ph_i h' 34 0 = 1 ∧ ph_i h' 34 1 = nI (x.2.1 b) ∧ ph_l h' 34 2 = x.2.2.2.1 b ∧ ph_i h' 34 3 = ph_i h 34 3) ∨ (¬ x.2.2.1 b < 2 ^ m ∧ skK a m k c (x.2.2.2.1 b) = false ∧ skC a m k c l (qDel x b) n h' ∧ sm4 h h')) := by
  have p6 := pw_6 m (by have := vk.1; omega)
  obtain ⟨b1, b2, -⟩ := qb_p hb
  obtain ⟨a1, a2, a3⟩ := hq.1 b b1 b2
  have tp : ph_i h 35 0 = nI (128 * x.2.1 b + (64 - x.2.2.1 b)) ∧ ph_l h 36 0 = x.2.2.2.1 b := by
    obtain ⟨hI, hv, h2, c6, D, d1, d2, d3, d4⟩ := hs
    have := (SR_top d1 d4 hb).2
    have z := d3 0 (by omega)
    rw [this] at z
    exact z
  have kd := key_d (M := x.2.1 b) (d := x.2.2.1 b) (by omega) (by omega)
  have kM := key_M (M := x.2.1 b) (d := x.2.2.1 b) (by omega) (by omega)
  obtain ⟨h1, e1, s1, t1⟩ := drC hs (by omega) hq hb
  have hI := hs.1
  have I1 := s1.1
  have k4 : ph_r h 34 4 = some 35 := hi_r hI rfl rfl (by decide)
  have k5 : ph_r h 34 5 = some 36 := hi_r hI rfl rfl (by decide)
  have c1 : ph_i h1 1 1 = nI (2 ^ m) := s1.2.1.2.1
  obtain ⟨tp1, tp2⟩ := tp
  by_cases hd : x.2.2.1 b < 2 ^ m
  · obtain ⟨h2, n2, n3, e2, s2, t2⟩ := grC vk hB s1 hn hq b1 b2 hd
    refine ⟨h2, ?_, Or.inl ⟨hd, ⟨n2, n3, s2⟩, sm4_tr t1 t2⟩⟩
    have I2 := s2.1
    have lt : ¬ nI (2 ^ m) ≤ nI (x.2.2.1 b) := nI_ge hd (by omega)
    clear s1 s2 t1 t2 hs hq a3
    generalize 128 * x.2.1 b + (64 - x.2.2.1 b) = key at *
    generalize x.2.1 b = M0 at *
    generalize x.2.2.1 b = d0 at *
    generalize x.2.2.2.1 b = B0 at *
    generalize nI (2 ^ m) = N at *
    obtain ⟨S2, fi2, fl2, fr2⟩ := h2
    have s2 : S2 = shT := I2.1
    subst s2
    obtain ⟨S1, fi1, fl1, fr1⟩ := h1
    have s1 : S1 = shT := I1.1
    subst s1
    have c1 : fi1 1 1 = N := c1
    obtain ⟨S, fi, fl, fr⟩ := h
    have hS : S = shT := hI.1
    subst hS
    have tp1 : fi 35 0 = nI key := tp1
    have tp2 : fl 36 0 = B0 := tp2
    have k4 : fr 34 4 = some 35 := k4
    have k5 : fr 34 5 = some 36 := k5
    refine Ev.of (es := cd_122) (ml := 6) (lv := [some (.ref 34), some (.ref 1), none, none, none, none]) rfl rfl rfl ?_
    refine go_of ?_
    refine gp_n 2 (j' := 2) (lv' := [some (.ref 34), some (.ref 1), none, none, none, none]) (st' := [.ref 34, .int 64]) (h' := (shT, fi, fl, fr)) rfl ?_
    refine gp_of (fun _ k9 => g_getR (q' := 35) rfl rfl (by decide) k4 k9) ?_
    refine gp_n 1 (j' := 4) (lv' := [some (.ref 34), some (.ref 1), none, none, none, none]) (st' := [.int 0, .ref 35, .int 64]) (h' := (shT, fi, fl, fr)) rfl ?_
    refine gp_of (fun _ k9 => g_iald (k := 0) (x := nI key) rfl rfl (rfl) (by decide) (by decide) (tp1) k9) ?_
    refine gp_n 3 (j' := 8) (lv' := [some (.ref 34), some (.ref 1), none, none, none, none]) (st' := [.int ((64 : Int32) - ((nI key) &&& 127))]) (h' := (shT, fi, fl, fr)) rfl ?_
    rw [kd]
    refine gp_n 2 (j' := 10) (lv' := [some (.ref 34), some (.ref 1), some (.int (nI d0)), none, none, none]) (st' := [.ref 34]) (h' := (shT, fi, fl, fr)) rfl ?_
    refine gp_of (fun _ k9 => g_getR (q' := 35) rfl rfl (by decide) k4 k9) ?_
    refine gp_n 1 (j' := 12) (lv' := [some (.ref 34), some (.ref 1), some (.int (nI d0)), none, none, none]) (st' := [.int 0, .ref 35]) (h' := (shT, fi, fl, fr)) rfl ?_
    refine gp_of (fun _ k9 => g_iald (k := 0) (x := nI key) rfl rfl (rfl) (by decide) (by decide) (tp1) k9) ?_
    refine gp_n 2 (j' := 15) (lv' := [some (.ref 34), some (.ref 1), some (.int (nI d0)), none, none, none]) (st' := [.int ((nI key) >>> (7 &&& 31))]) (h' := (shT, fi, fl, fr)) rfl ?_
    rw [kM]
    refine gp_n 2 (j' := 17) (lv' := [some (.ref 34), some (.ref 1), some (.int (nI d0)), some (.int (nI M0)), none, none]) (st' := [.ref 34]) (h' := (shT, fi, fl, fr)) rfl ?_
    refine gp_of (fun _ k9 => g_getR (q' := 36) rfl rfl (by decide) k5 k9) ?_
    refine gp_n 1 (j' := 19) (lv' := [some (.ref 34), some (.ref 1), some (.int (nI d0)), some (.int (nI M0)), none, none]) (st' := [.int 0, .ref 36]) (h' := (shT, fi, fl, fr)) rfl ?_
    refine gp_of (fun _ k9 => g_lald (k := 0) (x := B0) rfl rfl (rfl) (by decide) (by decide) (tp2) k9) ?_
    refine gp_n 2 (j' := 22) (lv' := [some (.ref 34), some (.ref 1), some (.int (nI d0)), some (.int (nI M0)), some (.long B0), none]) (st' := [.ref 34]) (h' := (shT, fi, fl, fr)) rfl ?_
    refine gp_of (fun _ k9 => g_callv (y := 123) (as := [.ref 34]) (st' := []) rfl rfl (e1) k9) ?_
    refine gp_n 2 (j' := 25) (lv' := [some (.ref 34), some (.ref 1), some (.int (nI d0)), some (.int (nI M0)), some (.long B0), none]) (st' := [.ref 1, .int (nI d0)]) (h' := (shT, fi1, fl1, fr1)) rfl ?_
    refine gp_of (fun _ k9 => g_getI (x := N) rfl (Or.inl rfl) rfl (by decide) (c1) k9) ?_
    refine gp_of (fun _ k9 => g_icf rfl (show ¬ (N ≤ (nI d0)) from lt) k9) ?_
    refine gp_n 5 (j' := 32) (lv' := [some (.ref 34), some (.ref 1), some (.int (nI d0)), some (.int (nI M0)), some (.long B0), none]) (st' := [.long B0, .int (nI d0), .int (nI M0), .ref 1, .ref 34]) (h' := (shT, fi1, fl1, fr1)) rfl ?_
    refine gp_of (fun _ k9 => g_callv (y := 125) (as := [.ref 34, .ref 1, .int (nI M0), .int (nI d0), .long B0]) (st' := []) rfl rfl (e2) k9) ?_
    refine gp_n 1 (j' := 47) (lv' := [some (.ref 34), some (.ref 1), some (.int (nI d0)), some (.int (nI M0)), some (.long B0), none]) (st' := []) (h' := (shT, fi2, fl2, fr2)) rfl ?_
    refine gp_done (g_vret rfl) ?_
    rfl
  · have ge : nI (2 ^ m) ≤ nI (x.2.2.1 b) := nI_le (by omega) (by omega)
    have v1 := s1.2.1
    have hd2 := hd_C (ch := x.2.2.2.1 b) I1 p6.2 vk.2.2.2.2.2.2.1 vk.2.1 vk.2.2.2.2.2.2.2 (fun j hj z => ⟨by have := (a3 j hj z).1; omega, (a3 j hj z).2⟩) v1.2.1 v1.2.2.1 v1.2.2.2.1 v1.2.2.2.2.1 v1.2.2.2.2.2.2
    have hd2 : Ev pmT 106 [.ref 1, .long (x.2.2.2.1 b)] h1 (some (.int (b01 (skK a m k c (x.2.2.2.1 b))))) h1 := hd2
    cases hk : skK a m k c (x.2.2.2.1 b)
    · rw [hk] at hd2
      have hd2 : Ev pmT 106 [.ref 1, .long (x.2.2.2.1 b)] h1 (some (.int 0)) h1 := hd2
      refine ⟨h1, ?_, Or.inr (Or.inr ⟨hd, rfl, s1, t1⟩)⟩
      clear s1 t1 hs hq a3 v1 hk
      generalize 128 * x.2.1 b + (64 - x.2.2.1 b) = key at *
      generalize x.2.1 b = M0 at *
      generalize x.2.2.1 b = d0 at *
      generalize x.2.2.2.1 b = B0 at *
      generalize nI (2 ^ m) = N at *
      obtain ⟨S1, fi1, fl1, fr1⟩ := h1
      have s1 : S1 = shT := I1.1
      subst s1
      have c1 : fi1 1 1 = N := c1
      obtain ⟨S, fi, fl, fr⟩ := h
      have hS : S = shT := hI.1
      subst hS
      have tp1 : fi 35 0 = nI key := tp1
      have tp2 : fl 36 0 = B0 := tp2
      have k4 : fr 34 4 = some 35 := k4
      have k5 : fr 34 5 = some 36 := k5
      refine Ev.of (es := cd_122) (ml := 6) (lv := [some (.ref 34), some (.ref 1), none, none, none, none]) rfl rfl rfl ?_
      refine go_of ?_
      refine gp_n 2 (j' := 2) (lv' := [some (.ref 34), some (.ref 1), none, none, none, none]) (st' := [.ref 34, .int 64]) (h' := (shT, fi, fl, fr)) rfl ?_
      refine gp_of (fun _ k9 => g_getR (q' := 35) rfl rfl (by decide) k4 k9) ?_
      refine gp_n 1 (j' := 4) (lv' := [some (.ref 34), some (.ref 1), none, none, none, none]) (st' := [.int 0, .ref 35, .int 64]) (h' := (shT, fi, fl, fr)) rfl ?_
      refine gp_of (fun _ k9 => g_iald (k := 0) (x := nI key) rfl rfl (rfl) (by decide) (by decide) (tp1) k9) ?_
      refine gp_n 3 (j' := 8) (lv' := [some (.ref 34), some (.ref 1), none, none, none, none]) (st' := [.int ((64 : Int32) - ((nI key) &&& 127))]) (h' := (shT, fi, fl, fr)) rfl ?_
      rw [kd]
      refine gp_n 2 (j' := 10) (lv' := [some (.ref 34), some (.ref 1), some (.int (nI d0)), none, none, none]) (st' := [.ref 34]) (h' := (shT, fi, fl, fr)) rfl ?_
      refine gp_of (fun _ k9 => g_getR (q' := 35) rfl rfl (by decide) k4 k9) ?_
      refine gp_n 1 (j' := 12) (lv' := [some (.ref 34), some (.ref 1), some (.int (nI d0)), none, none, none]) (st' := [.int 0, .ref 35]) (h' := (shT, fi, fl, fr)) rfl ?_
      refine gp_of (fun _ k9 => g_iald (k := 0) (x := nI key) rfl rfl (rfl) (by decide) (by decide) (tp1) k9) ?_
      refine gp_n 2 (j' := 15) (lv' := [some (.ref 34), some (.ref 1), some (.int (nI d0)), none, none, none]) (st' := [.int ((nI key) >>> (7 &&& 31))]) (h' := (shT, fi, fl, fr)) rfl ?_
      rw [kM]
      refine gp_n 2 (j' := 17) (lv' := [some (.ref 34), some (.ref 1), some (.int (nI d0)), some (.int (nI M0)), none, none]) (st' := [.ref 34]) (h' := (shT, fi, fl, fr)) rfl ?_
      refine gp_of (fun _ k9 => g_getR (q' := 36) rfl rfl (by decide) k5 k9) ?_
      refine gp_n 1 (j' := 19) (lv' := [some (.ref 34), some (.ref 1), some (.int (nI d0)), some (.int (nI M0)), none, none]) (st' := [.int 0, .ref 36]) (h' := (shT, fi, fl, fr)) rfl ?_
      refine gp_of (fun _ k9 => g_lald (k := 0) (x := B0) rfl rfl (rfl) (by decide) (by decide) (tp2) k9) ?_
      refine gp_n 2 (j' := 22) (lv' := [some (.ref 34), some (.ref 1), some (.int (nI d0)), some (.int (nI M0)), some (.long B0), none]) (st' := [.ref 34]) (h' := (shT, fi, fl, fr)) rfl ?_
      refine gp_of (fun _ k9 => g_callv (y := 123) (as := [.ref 34]) (st' := []) rfl rfl (e1) k9) ?_
      refine gp_n 2 (j' := 25) (lv' := [some (.ref 34), some (.ref 1), some (.int (nI d0)), some (.int (nI M0)), some (.long B0), none]) (st' := [.ref 1, .int (nI d0)]) (h' := (shT, fi1, fl1, fr1)) rfl ?_
      refine gp_of (fun _ k9 => g_getI (x := N) rfl (Or.inl rfl) rfl (by decide) (c1) k9) ?_
      refine gp_of (fun _ k9 => g_ict rfl (show N ≤ (nI d0) from ge) k9) ?_
      refine gp_n 2 (j' := 36) (lv' := [some (.ref 34), some (.ref 1), some (.int (nI d0)), some (.int (nI M0)), some (.long B0), none]) (st' := [.long B0, .ref 1]) (h' := (shT, fi1, fl1, fr1)) rfl ?_
      refine gp_of (fun _ k9 => g_call (y := 106) (as := [.ref 1, .long B0]) (st' := []) rfl rfl (hd2) k9) ?_
      refine gp_of (fun _ k9 => g_ift rfl (show (0 : Int32) = (0 : Int32) from by decide) k9) ?_
      refine gp_done (g_vret rfl) ?_
      rfl
    · rw [hk] at hd2
      have hd2 : Ev pmT 106 [.ref 1, .long (x.2.2.2.1 b)] h1 (some (.int 1)) h1 := hd2
      have J := HI_wi (p := 34) (s := 0) (x := 1) I1 (fun _ => ⟨by decide, by decide⟩)
      have J := HI_wi (p := 34) (s := 1) (x := nI (x.2.1 b)) J (fun y => absurd y (by decide))
      have J := HI_wl (p := 34) (s := 2) (x := x.2.2.2.1 b) J
      refine ⟨(ph_s h1, pm_u2 (pm_u2 (ph_i h1) 34 0 1) 34 1 (nI (x.2.1 b)), pm_u2 (ph_l h1) 34 2 (x.2.2.2.1 b), ph_r h1), ?_, Or.inr (Or.inl ⟨hd, rfl, J, (show pm_u2 (pm_u2 (ph_i h1) 34 0 1) 34 1 (nI (x.2.1 b)) 34 0 = 1 from (wl_ne (by decide)).trans u2_eq), (show pm_u2 (pm_u2 (ph_i h1) 34 0 1) 34 1 (nI (x.2.1 b)) 34 1 = nI (x.2.1 b) from u2_eq), (show pm_u2 (ph_l h1) 34 2 (x.2.2.2.1 b) 34 2 = x.2.2.2.1 b from u2_eq), (show pm_u2 (pm_u2 (ph_i h1) 34 0 1) 34 1 (nI (x.2.1 b)) 34 3 = ph_i h1 34 3 from (wl_ne (by decide)).trans (wl_ne (by decide))).trans (t1 3 (by decide)).1⟩)⟩
      clear s1 t1 hs hq a3 v1 hk J
      generalize 128 * x.2.1 b + (64 - x.2.2.1 b) = key at *
      generalize x.2.1 b = M0 at *
      generalize x.2.2.1 b = d0 at *
      generalize x.2.2.2.1 b = B0 at *
      generalize nI (2 ^ m) = N at *
      obtain ⟨S1, fi1, fl1, fr1⟩ := h1
      have s1 : S1 = shT := I1.1
      subst s1
      have c1 : fi1 1 1 = N := c1
      obtain ⟨S, fi, fl, fr⟩ := h
      have hS : S = shT := hI.1
      subst hS
      have tp1 : fi 35 0 = nI key := tp1
      have tp2 : fl 36 0 = B0 := tp2
      have k4 : fr 34 4 = some 35 := k4
      have k5 : fr 34 5 = some 36 := k5
      refine Ev.of (es := cd_122) (ml := 6) (lv := [some (.ref 34), some (.ref 1), none, none, none, none]) rfl rfl rfl ?_
      refine go_of ?_
      refine gp_n 2 (j' := 2) (lv' := [some (.ref 34), some (.ref 1), none, none, none, none]) (st' := [.ref 34, .int 64]) (h' := (shT, fi, fl, fr)) rfl ?_
      refine gp_of (fun _ k9 => g_getR (q' := 35) rfl rfl (by decide) k4 k9) ?_
      refine gp_n 1 (j' := 4) (lv' := [some (.ref 34), some (.ref 1), none, none, none, none]) (st' := [.int 0, .ref 35, .int 64]) (h' := (shT, fi, fl, fr)) rfl ?_
      refine gp_of (fun _ k9 => g_iald (k := 0) (x := nI key) rfl rfl (rfl) (by decide) (by decide) (tp1) k9) ?_
      refine gp_n 3 (j' := 8) (lv' := [some (.ref 34), some (.ref 1), none, none, none, none]) (st' := [.int ((64 : Int32) - ((nI key) &&& 127))]) (h' := (shT, fi, fl, fr)) rfl ?_
      rw [kd]
      refine gp_n 2 (j' := 10) (lv' := [some (.ref 34), some (.ref 1), some (.int (nI d0)), none, none, none]) (st' := [.ref 34]) (h' := (shT, fi, fl, fr)) rfl ?_
      refine gp_of (fun _ k9 => g_getR (q' := 35) rfl rfl (by decide) k4 k9) ?_
      refine gp_n 1 (j' := 12) (lv' := [some (.ref 34), some (.ref 1), some (.int (nI d0)), none, none, none]) (st' := [.int 0, .ref 35]) (h' := (shT, fi, fl, fr)) rfl ?_
      refine gp_of (fun _ k9 => g_iald (k := 0) (x := nI key) rfl rfl (rfl) (by decide) (by decide) (tp1) k9) ?_
      refine gp_n 2 (j' := 15) (lv' := [some (.ref 34), some (.ref 1), some (.int (nI d0)), none, none, none]) (st' := [.int ((nI key) >>> (7 &&& 31))]) (h' := (shT, fi, fl, fr)) rfl ?_
      rw [kM]
      refine gp_n 2 (j' := 17) (lv' := [some (.ref 34), some (.ref 1), some (.int (nI d0)), some (.int (nI M0)), none, none]) (st' := [.ref 34]) (h' := (shT, fi, fl, fr)) rfl ?_
      refine gp_of (fun _ k9 => g_getR (q' := 36) rfl rfl (by decide) k5 k9) ?_
      refine gp_n 1 (j' := 19) (lv' := [some (.ref 34), some (.ref 1), some (.int (nI d0)), some (.int (nI M0)), none, none]) (st' := [.int 0, .ref 36]) (h' := (shT, fi, fl, fr)) rfl ?_
      refine gp_of (fun _ k9 => g_lald (k := 0) (x := B0) rfl rfl (rfl) (by decide) (by decide) (tp2) k9) ?_
      refine gp_n 2 (j' := 22) (lv' := [some (.ref 34), some (.ref 1), some (.int (nI d0)), some (.int (nI M0)), some (.long B0), none]) (st' := [.ref 34]) (h' := (shT, fi, fl, fr)) rfl ?_
      refine gp_of (fun _ k9 => g_callv (y := 123) (as := [.ref 34]) (st' := []) rfl rfl (e1) k9) ?_
      refine gp_n 2 (j' := 25) (lv' := [some (.ref 34), some (.ref 1), some (.int (nI d0)), some (.int (nI M0)), some (.long B0), none]) (st' := [.ref 1, .int (nI d0)]) (h' := (shT, fi1, fl1, fr1)) rfl ?_
      refine gp_of (fun _ k9 => g_getI (x := N) rfl (Or.inl rfl) rfl (by decide) (c1) k9) ?_
      refine gp_of (fun _ k9 => g_ict rfl (show N ≤ (nI d0) from ge) k9) ?_
      refine gp_n 2 (j' := 36) (lv' := [some (.ref 34), some (.ref 1), some (.int (nI d0)), some (.int (nI M0)), some (.long B0), none]) (st' := [.long B0, .ref 1]) (h' := (shT, fi1, fl1, fr1)) rfl ?_
      refine gp_of (fun _ k9 => g_call (y := 106) (as := [.ref 1, .long B0]) (st' := []) rfl rfl (hd2) k9) ?_
      refine gp_of (fun _ k9 => g_iff rfl (show ¬ ((1 : Int32) = (0 : Int32)) from by decide) k9) ?_
      refine gp_n 2 (j' := 40) (lv' := [some (.ref 34), some (.ref 1), some (.int (nI d0)), some (.int (nI M0)), some (.long B0), none]) (st' := [.int 1, .ref 34]) (h' := (shT, fi1, fl1, fr1)) rfl ?_
      refine gp_of (fun _ k9 => g_putI rfl (Or.inr ⟨rfl, by decide⟩) rfl (by decide) k9) ?_
      refine gp_n 2 (j' := 43) (lv' := [some (.ref 34), some (.ref 1), some (.int (nI d0)), some (.int (nI M0)), some (.long B0), none]) (st' := [.int (nI M0), .ref 34]) (h' := (shT, pm_u2 fi1 34 0 1, fl1, fr1)) rfl ?_
      refine gp_of (fun _ k9 => g_putI rfl (Or.inl rfl) rfl (by decide) k9) ?_
      refine gp_n 2 (j' := 46) (lv' := [some (.ref 34), some (.ref 1), some (.int (nI d0)), some (.int (nI M0)), some (.long B0), none]) (st' := [.long B0, .ref 34]) (h' := (shT, pm_u2 (pm_u2 fi1 34 0 1) 34 1 (nI M0), fl1, fr1)) rfl ?_
      refine gp_of (fun _ k9 => g_putL rfl rfl (by decide) k9) ?_
      refine gp_done (g_vret rfl) ?_
      rfl
def skR (a : AB) (m k c n t : Nat) (x : SQ) : Nat × Option (Nat × Int64) := seekN (a_v a).2.1 m (a_v a).2.2 (skK a m k c) n t x
def skO (R : Nat × Option (Nat × Int64)) (h : PmH) : Prop := ph_i h 34 3 = nI R.1 ∧ ph_i h 34 0 = b01 R.2.isSome ∧ ∀ M B, R.2 = some (M, B) → ph_i h 34 1 = nI M ∧ ph_l h 34 2 = B
theorem rnC_go {a : AB} {m k c l : Nat} (vk : VK (a_v a) m k c) (hB : ∀ s, s < 64 → -127 ≤ ((a_v a).2.2 s).toInt ∧ ((a_v a).2.2 s).toInt ≤ 127) : ∀ (w t n : Nat) (x : SQ) (h : PmH), t + w = 1500 → n ≤ t + 1 → skC a m k c l x n h → QI (a_v a).2.1 (2 ^ m) x → ph_i h 34 3 = nI t → ph_i h 34 0 = 0 → ∃ h', HI hdT shT h' ∧ skO (skR a m k c w t x) h' ∧ Go pmT none cd_118 14 [some (.ref 34), some (.ref 1)] [] h (none, h') := by
  intro w
  induction w with
  | zero =>
    intro t n x h ht hn hs hq c3 c0
    have hI := hs.1
    have ht : t = 1500 := by omega
    subst ht
    refine ⟨h, hI, ⟨c3, c0, fun M B z => by cases z⟩, ?_⟩
    clear hs
    obtain ⟨S, fi, fl, fr⟩ := h
    have hS : S = shT := hI.1
    subst hS
    have c3 : fi 34 3 = 1500 := c3
    refine go_of ?_
    refine gp_n 1 (j' := 15) (lv' := [some (.ref 34), some (.ref 1)]) (st' := [.ref 34]) (h' := (shT, fi, fl, fr)) rfl ?_
    refine gp_of (fun _ k9 => g_getI (x := 1500) rfl (Or.inl rfl) rfl (by decide) (c3) k9) ?_
    refine gp_n 1 (j' := 17) (lv' := [some (.ref 34), some (.ref 1)]) (st' := [.int 1500, .int 1500]) (h' := (shT, fi, fl, fr)) rfl ?_
    refine gp_of (fun _ k9 => g_ict rfl (show (1500 : Int32) ≤ (1500 : Int32) from by decide) k9) ?_
    refine gp_done (g_vret rfl) ?_
    rfl
  | succ w ih =>
    intro t n x h ht hn hs hq c3 c0
    have hI := hs.1
    have lt : ¬ (1500 : Int32) ≤ nI t := nI_ge (b := 1500) (by omega) (by decide)
    have c6 := hs.2.2.2.1
    have eR : skR a m k c (w + 1) t x = match qb x with
      | none => (t, none)
      | some i => if x.2.2.1 i < 2 ^ m then skR a m k c w (t + 1) (qGo (a_v a).2.1 m (a_v a).2.2 x i) else if skK a m k c (x.2.2.2.1 i) = true then (t + 1, some (x.2.1 i, x.2.2.2.1 i)) else skR a m k c w (t + 1) (qDel x i) := rfl
    cases hb : qb x with
    | none =>
      rw [hb] at eR
      have eR : skR a m k c (w + 1) t x = (t, none) := eR
      rw [eR]
      have n0 : n = 0 := by
        obtain ⟨-, -, -, -, D, d1, d2, d3, d4⟩ := hs
        exact SR_0 d4 hb
      subst n0
      refine ⟨h, hI, ⟨c3, c0, fun M B z => by cases z⟩, ?_⟩
      clear hs ih
      obtain ⟨S, fi, fl, fr⟩ := h
      have hS : S = shT := hI.1
      subst hS
      have c3 : fi 34 3 = nI t := c3
      have c6 : fi 34 6 = 0 := c6
      refine go_of ?_
      refine gp_n 1 (j' := 15) (lv' := [some (.ref 34), some (.ref 1)]) (st' := [.ref 34]) (h' := (shT, fi, fl, fr)) rfl ?_
      refine gp_of (fun _ k9 => g_getI (x := nI t) rfl (Or.inl rfl) rfl (by decide) (c3) k9) ?_
      refine gp_n 1 (j' := 17) (lv' := [some (.ref 34), some (.ref 1)]) (st' := [.int 1500, .int (nI t)]) (h' := (shT, fi, fl, fr)) rfl ?_
      refine gp_of (fun _ k9 => g_icf rfl (show ¬ ((1500 : Int32) ≤ (nI t)) from lt) k9) ?_
      refine gp_n 1 (j' := 19) (lv' := [some (.ref 34), some (.ref 1)]) (st' := [.ref 34]) (h' := (shT, fi, fl, fr)) rfl ?_
      refine gp_of (fun _ k9 => g_getI (x := 0) rfl (Or.inl rfl) rfl (by decide) (c6) k9) ?_
      refine gp_of (fun _ k9 => g_ift rfl (show (0 : Int32) ≤ (0 : Int32) from by decide) k9) ?_
      refine gp_done (g_vret rfl) ?_
      rfl
    | some b =>
      rw [hb] at eR
      have eR : skR a m k c (w + 1) t x = if x.2.2.1 b < 2 ^ m then skR a m k c w (t + 1) (qGo (a_v a).2.1 m (a_v a).2.2 x b) else if skK a m k c (x.2.2.2.1 b) = true then (t + 1, some (x.2.1 b, x.2.2.2.1 b)) else skR a m k c w (t + 1) (qDel x b) := eR
      obtain ⟨b1, b2, -⟩ := qb_p hb
      have n0 : 0 < n := by
        obtain ⟨-, -, -, -, D, d1, d2, d3, d4⟩ := hs
        exact (SR_top d1 d4 hb).1
      obtain ⟨n, rfl⟩ : ∃ n', n = n' + 1 := ⟨n - 1, by omega⟩
      have wu : ∀ p s, ¬ (p = 34 ∧ s = 3) → pm_u2 (ph_i h) 34 3 (nI (t + 1)) p s = ph_i h p s := fun p s z => wl_ne z
      have s2 : skC a m k c l x (n + 1) (ph_s h, pm_u2 (ph_i h) 34 3 (nI (t + 1)), ph_l h, ph_r h) := by
        obtain ⟨y1, y2, y3, y4, D, d1, d2, d3, d4⟩ := hs
        exact ⟨HI_wi hI (fun y => absurd y (by decide)), vC_cg (h := h) (fun s => wu 1 s (by omega)) (fun _ => rfl) y2, fun s hs => (wu 2 s (by omega)).trans (y3 s hs), (wu 34 6 (by decide)).trans y4, D, d1, d2, fun i hi => ⟨(wu 35 i (by omega)).trans (d3 i hi).1, (d3 i hi).2⟩, d4⟩
      obtain ⟨h2, e2, o2⟩ := goC vk hB s2 (by omega) hq hb
      have I2 : HI hdT shT h2 := by
        rcases o2 with ⟨-, ⟨n', -, z⟩, -⟩ | ⟨-, -, z, -⟩ | ⟨-, -, z, -⟩
        · exact z.1
        · exact z
        · exact z.1
      have main : (∃ h', HI hdT shT h' ∧ skO (skR a m k c (w + 1) t x) h' ∧ Go pmT none cd_118 14 [some (.ref 34), some (.ref 1)] [] h2 (none, h')) := by
        rcases o2 with ⟨z1, ⟨n', z2, z3⟩, z4⟩ | ⟨z1, z2, z3, z4, z5, z6, z7⟩ | ⟨z1, z2, z3, z4⟩
        · rw [eR, if_pos z1]
          exact ih (t + 1) n' _ h2 (by omega) (by omega) z3 (QI_go vk.1 hB hq b1 b2 z1) ((z4 3 (by decide)).1.trans u2_i) (((z4 0 (by decide)).1.trans (wu 34 0 (by decide))).trans c0)
        · rw [eR, if_neg z1, if_pos z2]
          have z7 : ph_i h2 34 3 = nI (t + 1) := z7.trans u2_i
          refine ⟨h2, I2, ⟨z7, z4, fun M B z => ?_⟩, ?_⟩
          · have z := Prod.mk.inj (Option.some.inj z)
            rw [← z.1, ← z.2]
            exact ⟨z5, z6⟩
          clear ih hs s2 e2 hq
          obtain ⟨S2, fi2, fl2, fr2⟩ := h2
          have hS2 : S2 = shT := I2.1
          subst hS2
          have z7 : fi2 34 3 = nI (t + 1) := z7
          have z4 : fi2 34 0 = 1 := z4
          refine go_of ?_
          refine gp_n 1 (j' := 15) (lv' := [some (.ref 34), some (.ref 1)]) (st' := [.ref 34]) (h' := (shT, fi2, fl2, fr2)) rfl ?_
          refine gp_of (fun _ k9 => g_getI (x := nI (t + 1)) rfl (Or.inl rfl) rfl (by decide) (z7) k9) ?_
          refine gp_n 1 (j' := 17) (lv' := [some (.ref 34), some (.ref 1)]) (st' := [.int 1500, .int (nI (t + 1))]) (h' := (shT, fi2, fl2, fr2)) rfl ?_
          refine gp_ic rfl (fun hc1 => ?_) (fun hc1 => ?_)
          · replace hc1 : (1500 : Int32) ≤ (nI (t + 1)) := hc1
            refine gp_done (g_vret rfl) ?_
            rfl
          · replace hc1 : ¬ ((1500 : Int32) ≤ (nI (t + 1))) := hc1
            refine gp_n 1 (j' := 19) (lv' := [some (.ref 34), some (.ref 1)]) (st' := [.ref 34]) (h' := (shT, fi2, fl2, fr2)) rfl ?_
            refine gp_of (fun _ k9 => g_getI (x := fi2 34 6) rfl (Or.inl rfl) rfl (by decide) (rfl) k9) ?_
            refine gp_if rfl (fun hc2 => ?_) (fun hc2 => ?_)
            · replace hc2 : (fi2 34 6) ≤ (0 : Int32) := hc2
              refine gp_done (g_vret rfl) ?_
              rfl
            · replace hc2 : ¬ ((fi2 34 6) ≤ (0 : Int32)) := hc2
              refine gp_n 1 (j' := 22) (lv' := [some (.ref 34), some (.ref 1)]) (st' := [.ref 34]) (h' := (shT, fi2, fl2, fr2)) rfl ?_
              refine gp_of (fun _ k9 => g_getI (x := 1) rfl (Or.inr rfl) rfl (by decide) (z4) k9) ?_
              refine gp_of (fun _ k9 => g_ift rfl (show ¬ (1 : Int32) = (0 : Int32) from by decide) k9) ?_
              refine gp_done (g_vret rfl) ?_
              rfl
        · rw [eR, if_neg z1, if_neg (by rw [z2]; decide)]
          exact ih (t + 1) n _ h2 (by omega) (by omega) z3 (QI_del hq) ((z4 3 (by decide)).1.trans u2_i) (((z4 0 (by decide)).1.trans (wu 34 0 (by decide))).trans c0)
      obtain ⟨h3, I3, o3, g⟩ := main
      refine ⟨h3, I3, o3, ?_⟩
      have gt : ¬ nI (n + 1) ≤ 0 := nI_ge (a := 0) (by omega) (by omega)
      clear o3 hs s2 o2 ih eR hq wu
      obtain ⟨S2, fi2, fl2, fr2⟩ := h2
      have hS2 : S2 = shT := I2.1
      subst hS2
      obtain ⟨S, fi, fl, fr⟩ := h
      have hS : S = shT := hI.1
      subst hS
      have c3 : fi 34 3 = nI t := c3
      have c6 : fi 34 6 = nI (n + 1) := c6
      have c0 : fi 34 0 = 0 := c0
      refine go_of ?_
      refine gp_n 1 (j' := 15) (lv' := [some (.ref 34), some (.ref 1)]) (st' := [.ref 34]) (h' := (shT, fi, fl, fr)) rfl ?_
      refine gp_of (fun _ k9 => g_getI (x := nI t) rfl (Or.inl rfl) rfl (by decide) (c3) k9) ?_
      refine gp_n 1 (j' := 17) (lv' := [some (.ref 34), some (.ref 1)]) (st' := [.int 1500, .int (nI t)]) (h' := (shT, fi, fl, fr)) rfl ?_
      refine gp_of (fun _ k9 => g_icf rfl (show ¬ ((1500 : Int32) ≤ (nI t)) from lt) k9) ?_
      refine gp_n 1 (j' := 19) (lv' := [some (.ref 34), some (.ref 1)]) (st' := [.ref 34]) (h' := (shT, fi, fl, fr)) rfl ?_
      refine gp_of (fun _ k9 => g_getI (x := nI (n + 1)) rfl (Or.inl rfl) rfl (by decide) (c6) k9) ?_
      refine gp_of (fun _ k9 => g_iff rfl (show ¬ ((nI (n + 1)) ≤ (0 : Int32)) from gt) k9) ?_
      refine gp_n 1 (j' := 22) (lv' := [some (.ref 34), some (.ref 1)]) (st' := [.ref 34]) (h' := (shT, fi, fl, fr)) rfl ?_
      refine gp_of (fun _ k9 => g_getI (x := 0) rfl (Or.inr rfl) rfl (by decide) (c0) k9) ?_
      refine gp_of (fun _ k9 => g_iff rfl (show ¬ (¬ (0 : Int32) = (0 : Int32)) from by decide) k9) ?_
      refine gp_n 2 (j' := 26) (lv' := [some (.ref 34), some (.ref 1)]) (st' := [.ref 34, .ref 34]) (h' := (shT, fi, fl, fr)) rfl ?_
      refine gp_of (fun _ k9 => g_getI (x := nI t) rfl (Or.inl rfl) rfl (by decide) (c3) k9) ?_
      refine gp_n 2 (j' := 29) (lv' := [some (.ref 34), some (.ref 1)]) (st' := [.int ((nI t) + 1), .ref 34]) (h' := (shT, fi, fl, fr)) rfl ?_
      rw [nI_1]
      refine gp_of (fun _ k9 => g_putI rfl (Or.inl rfl) rfl (by decide) k9) ?_
      refine gp_n 2 (j' := 32) (lv' := [some (.ref 34), some (.ref 1)]) (st' := [.ref 1, .ref 34]) (h' := (shT, pm_u2 fi 34 3 (nI (t + 1)), fl, fr)) rfl ?_
      refine gp_of (fun _ k9 => g_callv (y := 122) (as := [.ref 34, .ref 1]) (st' := []) rfl rfl (e2) k9) ?_
      refine gp_n 1 (j' := 14) (lv' := [some (.ref 34), some (.ref 1)]) (st' := []) (h' := (shT, fi2, fl2, fr2)) rfl ?_
      exact gp_done g rfl
theorem rnC_ev {h : PmH} {a : AB} {m k c l : Nat} (hr : REL2 h a) (vk : VK (a_v a) m k c) (hl : (a_v a).1 6 = nI l) (hB : ∀ s, s < 64 → -127 ≤ ((a_v a).2.2 s).toInt ∧ ((a_v a).2.2 s).toInt ≤ 127) : ∃ h', Ev pmT 118 [.ref 34, .ref 1] h none h' ∧ HI hdT shT h' ∧ skO (skR a m k c 1500 0 q_0) h' ∧ fram (in_w iN_138) h h' := by
  have hI := hr.1.1
  have f := hr.1.2.1.2.2.2.2.1
  have J := HI_wi (p := 34) (s := 0) (x := 0) hI (fun _ => ⟨by decide, by decide⟩)
  have J := HI_wi (p := 34) (s := 3) (x := 0) J (fun y => absurd y (by decide))
  have J := HI_wi (p := 34) (s := 6) (x := 0) J (fun _ => ⟨by decide, by decide⟩)
  have J : HI hdT shT (ph_s h, pm_u2 (pm_u2 (pm_u2 (ph_i h) 34 0 0) 34 3 0) 34 6 0, ph_l h, ph_r h) := J
  have wu : ∀ p s, ¬ p = 34 → pm_u2 (pm_u2 (pm_u2 (ph_i h) 34 0 0) 34 3 0) 34 6 0 p s = ph_i h p s := fun p s z => (wl_ne (by omega)).trans ((wl_ne (by omega)).trans (wl_ne (by omega)))
  have w0 : pm_u2 (pm_u2 (pm_u2 (ph_i h) 34 0 0) 34 3 0) 34 6 0 34 0 = 0 := (wl_ne (by decide)).trans ((wl_ne (by decide)).trans u2_eq)
  have w3 : pm_u2 (pm_u2 (pm_u2 (ph_i h) 34 0 0) 34 3 0) 34 6 0 34 3 = 0 := (wl_ne (by decide)).trans u2_eq
  have w6 : pm_u2 (pm_u2 (pm_u2 (ph_i h) 34 0 0) 34 3 0) 34 6 0 34 6 = 0 := u2_eq
  have v1 : vC a m k c l h := ⟨(f.1 0 (by decide)).trans vk.2.2.1, (f.1 1 (by decide)).trans vk.2.2.2.1, (f.1 2 (by decide)).trans vk.2.2.2.2.1, (f.1 3 (by decide)).trans vk.2.2.2.2.2.1, f.1 4 (by decide), (f.1 6 (by decide)).trans hl, (f.2 rfl).1⟩
  have s0 : skC a m k c l ((0, (fun _ => 0), (fun _ => 0), (fun _ => 0), fun _ => false) : SQ) 0 (ph_s h, pm_u2 (pm_u2 (pm_u2 (ph_i h) 34 0 0) 34 3 0) 34 6 0, ph_l h, ph_r h) := ⟨J, vC_cg (h := h) (fun s => wu 1 s (by decide)) (fun _ => rfl) v1, fun s hs => (wu 2 s (by decide)).trans ((f.2 rfl).2 s hs), w6, fun _ => (0, 0), fun i _ hi => absurd hi (Nat.not_lt_zero i), fun i hi => absurd hi (Nat.not_lt_zero i), fun i hi => absurd hi (Nat.not_lt_zero i), ⟨fun i j hi => absurd hi (Nat.not_lt_zero i), fun e => ⟨fun z => by obtain ⟨i, i1, -⟩ := z; exact absurd i1 (Nat.not_lt_zero i), fun z => by obtain ⟨i, i1, -⟩ := z; exact absurd i1 (Nat.not_lt_zero i)⟩⟩⟩
  obtain ⟨h1, e1, s1, t1⟩ := psC (M := 0) (d := 0) (B := 0) (K := (a_v a).2.1) (N := 2 ^ m) s0 (by decide) (by decide) (by decide) QI_0
  have e1 : Ev pmT 119 [.ref 34, .int 0, .int 0, .long 0] (ph_s h, pm_u2 (pm_u2 (pm_u2 (ph_i h) 34 0 0) 34 3 0) 34 6 0, ph_l h, ph_r h) none h1 := e1
  obtain ⟨h2, I2, o2, g⟩ := rnC_go (l := l) vk hB 1500 0 1 q_0 h1 (by decide) (by decide) s1 QI_0 ((t1 3 (by decide)).1.trans w3) ((t1 0 (by decide)).1.trans w0)
  obtain ⟨v, h', e3, I3, F3, -⟩ := iv_ev vN_138 (as := [.ref 34, .ref 1]) rfl (fun _ _ => gz_c (gz_r (by decide)) (gz_c (gz_r (by decide)) gz_n)) hI
  have e2 : Ev pmT 118 [.ref 34, .ref 1] h none h2 := by
    have I1 := s1.1
    clear s0 s1 t1 o2 J wu w0 w3 w6 v1 f hr e3
    refine Ev.of (es := cd_118) (ml := 2) (lv := [some (.ref 34), some (.ref 1)]) rfl rfl rfl ?_
    obtain ⟨S1, fi1, fl1, fr1⟩ := h1
    have s1 : S1 = shT := I1.1
    subst s1
    obtain ⟨S, fi, fl, fr⟩ := h
    have hS : S = shT := hI.1
    subst hS
    refine go_of ?_
    refine gp_n 2 (j' := 2) (lv' := [some (.ref 34), some (.ref 1)]) (st' := [.int 0, .ref 34]) (h' := (shT, fi, fl, fr)) rfl ?_
    refine gp_of (fun _ k9 => g_putI rfl (Or.inr ⟨rfl, by decide⟩) rfl (by decide) k9) ?_
    refine gp_n 2 (j' := 5) (lv' := [some (.ref 34), some (.ref 1)]) (st' := [.int 0, .ref 34]) (h' := (shT, pm_u2 fi 34 0 0, fl, fr)) rfl ?_
    refine gp_of (fun _ k9 => g_putI rfl (Or.inl rfl) rfl (by decide) k9) ?_
    refine gp_n 2 (j' := 8) (lv' := [some (.ref 34), some (.ref 1)]) (st' := [.int 0, .ref 34]) (h' := (shT, pm_u2 (pm_u2 fi 34 0 0) 34 3 0, fl, fr)) rfl ?_
    refine gp_of (fun _ k9 => g_putI rfl (Or.inl rfl) rfl (by decide) k9) ?_
    refine gp_n 4 (j' := 13) (lv' := [some (.ref 34), some (.ref 1)]) (st' := [.long 0, .int 0, .int 0, .ref 34]) (h' := (shT, pm_u2 (pm_u2 (pm_u2 fi 34 0 0) 34 3 0) 34 6 0, fl, fr)) rfl ?_
    refine gp_of (fun _ k9 => g_callv (y := 119) (as := [.ref 34, .int 0, .int 0, .long 0]) (st' := []) rfl rfl (e1) k9) ?_
    exact gp_done g rfl
  obtain ⟨y1, y2⟩ := ev_det e2 e3
  subst y1 y2
  exact ⟨h2, e2, I2, o2, F3⟩
/-- what sought answers -/
def skV (a : AB) (m k c w : Nat) : Int32 := match (skR a m k c 1500 0 q_0).2 with
  | none => -3
  | some r => if w = 0 then nI r.1 else nI (skR a m k c 1500 0 q_0).1
def skW (a : AB) (m k c : Nat) : Int64 := match (skR a m k c 1500 0 q_0).2 with
  | none => -1
  | some r => mgW (a_v a).2.1 (2 ^ m) k r.2
theorem sk_C {h : PmH} {a : AB} {m k c l w : Nat} (hr : REL2 h a) (h0 : 0 < (a_v a).1 1) (vk : VK (a_v a) m k c) (hl : (a_v a).1 6 = nI l) (hB : ∀ s, s < 64 → -127 ≤ ((a_v a).2.2 s).toInt ∧ ((a_v a).2.2 s).toInt ≤ 127) (hw : w < 2) : ∃ h', Ev pmT 117 [.ref 0, .int (nI w)] h (some (.int (skV a m k c w))) h' := by
  have hI := hr.1.1
  have t1 := told1 hI (hr.1.2.1.2.2.2.2.1.1 1 (by decide)) h0
  have k0 : ph_r h 0 0 = some 1 := hi_r hI rfl rfl (by decide)
  have k10 : ph_r h 0 10 = some 34 := hi_r hI rfl rfl (by decide)
  obtain ⟨h1, e1, I1, ⟨o1, o2, o3⟩, -⟩ := rnC_ev hr vk hl hB
  have q10 : ph_r h1 0 10 = some 34 := hi_r I1 rfl rfl (by decide)
  refine ⟨h1, ?_⟩
  have hw : w = 0 ∨ w = 1 := by omega
  clear hr
  unfold skV
  generalize skR a m k c 1500 0 q_0 = R at *
  obtain ⟨R1, R2⟩ := R
  have o1 : ph_i h1 34 3 = nI R1 := o1
  cases R2 with
  | none =>
    have o2 : ph_i h1 34 0 = 0 := o2
    obtain ⟨S1, fi1, fl1, fr1⟩ := h1
    have s1 : S1 = shT := I1.1
    subst s1
    have q10 : fr1 0 10 = some 34 := q10
    have o2 : fi1 34 0 = 0 := o2
    obtain ⟨S, fi, fl, fr⟩ := h
    have hS : S = shT := hI.1
    subst hS
    have k0 : fr 0 0 = some 1 := k0
    have k10 : fr 0 10 = some 34 := k10
    show Ev pmT 117 _ _ (some (.int (-3))) _
    rcases hw with rfl | rfl
    · refine Ev.of (es := cd_117) (ml := 2) (lv := [some (.ref 0), some (.int 0)]) rfl rfl rfl ?_
      refine go_of ?_
      refine gp_n 1 (j' := 1) (lv' := [some (.ref 0), some (.int 0)]) (st' := [.ref 0]) (h' := (shT, fi, fl, fr)) rfl ?_
      refine gp_of (fun _ k9 => g_getR (q' := 1) rfl rfl (by decide) k0 k9) ?_
      refine gp_of (fun _ k9 => g_call (y := 57) (as := [.ref 1]) (st' := []) rfl rfl (t1) k9) ?_
      refine gp_of (fun _ k9 => g_iff rfl (show ¬ ((1 : Int32) = (0 : Int32)) from by decide) k9) ?_
      refine gp_n 1 (j' := 5) (lv' := [some (.ref 0), some (.int 0)]) (st' := [.int 0]) (h' := (shT, fi, fl, fr)) rfl ?_
      refine gp_of (fun _ k9 => g_iff rfl (show ¬ ((0 : Int32) < (0 : Int32)) from by decide) k9) ?_
      refine gp_n 2 (j' := 8) (lv' := [some (.ref 0), some (.int 0)]) (st' := [.int 1, .int 0]) (h' := (shT, fi, fl, fr)) rfl ?_
      refine gp_of (fun _ k9 => g_ict rfl (show (0 : Int32) ≤ (1 : Int32) from by decide) k9) ?_
      refine gp_n 1 (j' := 12) (lv' := [some (.ref 0), some (.int 0)]) (st' := [.ref 0]) (h' := (shT, fi, fl, fr)) rfl ?_
      refine gp_of (fun _ k9 => g_getR (q' := 34) rfl rfl (by decide) k10 k9) ?_
      refine gp_n 1 (j' := 14) (lv' := [some (.ref 0), some (.int 0)]) (st' := [.ref 0, .ref 34]) (h' := (shT, fi, fl, fr)) rfl ?_
      refine gp_of (fun _ k9 => g_getR (q' := 1) rfl rfl (by decide) k0 k9) ?_
      refine gp_of (fun _ k9 => g_callv (y := 118) (as := [.ref 34, .ref 1]) (st' := []) rfl rfl (e1) k9) ?_
      refine gp_n 1 (j' := 17) (lv' := [some (.ref 0), some (.int 0)]) (st' := [.ref 0]) (h' := (shT, fi1, fl1, fr1)) rfl ?_
      refine gp_of (fun _ k9 => g_getR (q' := 34) rfl rfl (by decide) q10 k9) ?_
      refine gp_of (fun _ k9 => g_getI (x := 0) rfl (Or.inr rfl) rfl (by decide) (o2) k9) ?_
      refine gp_of (fun _ k9 => g_iff rfl (show ¬ (¬ (0 : Int32) = (0 : Int32)) from by decide) k9) ?_
      refine gp_n 1 (j' := 21) (lv' := [some (.ref 0), some (.int 0)]) (st' := [.int (-3)]) (h' := (shT, fi1, fl1, fr1)) rfl ?_
      refine gp_done (g_ret rfl) ?_
      rfl
    · refine Ev.of (es := cd_117) (ml := 2) (lv := [some (.ref 0), some (.int 1)]) rfl rfl rfl ?_
      refine go_of ?_
      refine gp_n 1 (j' := 1) (lv' := [some (.ref 0), some (.int 1)]) (st' := [.ref 0]) (h' := (shT, fi, fl, fr)) rfl ?_
      refine gp_of (fun _ k9 => g_getR (q' := 1) rfl rfl (by decide) k0 k9) ?_
      refine gp_of (fun _ k9 => g_call (y := 57) (as := [.ref 1]) (st' := []) rfl rfl (t1) k9) ?_
      refine gp_of (fun _ k9 => g_iff rfl (show ¬ ((1 : Int32) = (0 : Int32)) from by decide) k9) ?_
      refine gp_n 1 (j' := 5) (lv' := [some (.ref 0), some (.int 1)]) (st' := [.int 1]) (h' := (shT, fi, fl, fr)) rfl ?_
      refine gp_of (fun _ k9 => g_iff rfl (show ¬ ((1 : Int32) < (0 : Int32)) from by decide) k9) ?_
      refine gp_n 2 (j' := 8) (lv' := [some (.ref 0), some (.int 1)]) (st' := [.int 1, .int 1]) (h' := (shT, fi, fl, fr)) rfl ?_
      refine gp_of (fun _ k9 => g_ict rfl (show (1 : Int32) ≤ (1 : Int32) from by decide) k9) ?_
      refine gp_n 1 (j' := 12) (lv' := [some (.ref 0), some (.int 1)]) (st' := [.ref 0]) (h' := (shT, fi, fl, fr)) rfl ?_
      refine gp_of (fun _ k9 => g_getR (q' := 34) rfl rfl (by decide) k10 k9) ?_
      refine gp_n 1 (j' := 14) (lv' := [some (.ref 0), some (.int 1)]) (st' := [.ref 0, .ref 34]) (h' := (shT, fi, fl, fr)) rfl ?_
      refine gp_of (fun _ k9 => g_getR (q' := 1) rfl rfl (by decide) k0 k9) ?_
      refine gp_of (fun _ k9 => g_callv (y := 118) (as := [.ref 34, .ref 1]) (st' := []) rfl rfl (e1) k9) ?_
      refine gp_n 1 (j' := 17) (lv' := [some (.ref 0), some (.int 1)]) (st' := [.ref 0]) (h' := (shT, fi1, fl1, fr1)) rfl ?_
      refine gp_of (fun _ k9 => g_getR (q' := 34) rfl rfl (by decide) q10 k9) ?_
      refine gp_of (fun _ k9 => g_getI (x := 0) rfl (Or.inr rfl) rfl (by decide) (o2) k9) ?_
      refine gp_of (fun _ k9 => g_iff rfl (show ¬ (¬ (0 : Int32) = (0 : Int32)) from by decide) k9) ?_
      refine gp_n 1 (j' := 21) (lv' := [some (.ref 0), some (.int 1)]) (st' := [.int (-3)]) (h' := (shT, fi1, fl1, fr1)) rfl ?_
      refine gp_done (g_ret rfl) ?_
      rfl
  | some r =>
    obtain ⟨M, B⟩ := r
    have o2 : ph_i h1 34 0 = 1 := o2
    obtain ⟨o4, -⟩ := o3 M B rfl
    obtain ⟨S1, fi1, fl1, fr1⟩ := h1
    have s1 : S1 = shT := I1.1
    subst s1
    have q10 : fr1 0 10 = some 34 := q10
    have o1 : fi1 34 3 = nI R1 := o1
    have o2 : fi1 34 0 = 1 := o2
    have o4 : fi1 34 1 = nI M := o4
    obtain ⟨S, fi, fl, fr⟩ := h
    have hS : S = shT := hI.1
    subst hS
    have k0 : fr 0 0 = some 1 := k0
    have k10 : fr 0 10 = some 34 := k10
    rcases hw with rfl | rfl
    · show Ev pmT 117 [.ref 0, .int 0] _ (some (.int (nI M))) _
      refine Ev.of (es := cd_117) (ml := 2) (lv := [some (.ref 0), some (.int 0)]) rfl rfl rfl ?_
      refine go_of ?_
      refine gp_n 1 (j' := 1) (lv' := [some (.ref 0), some (.int 0)]) (st' := [.ref 0]) (h' := (shT, fi, fl, fr)) rfl ?_
      refine gp_of (fun _ k9 => g_getR (q' := 1) rfl rfl (by decide) k0 k9) ?_
      refine gp_of (fun _ k9 => g_call (y := 57) (as := [.ref 1]) (st' := []) rfl rfl (t1) k9) ?_
      refine gp_of (fun _ k9 => g_iff rfl (show ¬ ((1 : Int32) = (0 : Int32)) from by decide) k9) ?_
      refine gp_n 1 (j' := 5) (lv' := [some (.ref 0), some (.int 0)]) (st' := [.int 0]) (h' := (shT, fi, fl, fr)) rfl ?_
      refine gp_of (fun _ k9 => g_iff rfl (show ¬ ((0 : Int32) < (0 : Int32)) from by decide) k9) ?_
      refine gp_n 2 (j' := 8) (lv' := [some (.ref 0), some (.int 0)]) (st' := [.int 1, .int 0]) (h' := (shT, fi, fl, fr)) rfl ?_
      refine gp_of (fun _ k9 => g_ict rfl (show (0 : Int32) ≤ (1 : Int32) from by decide) k9) ?_
      refine gp_n 1 (j' := 12) (lv' := [some (.ref 0), some (.int 0)]) (st' := [.ref 0]) (h' := (shT, fi, fl, fr)) rfl ?_
      refine gp_of (fun _ k9 => g_getR (q' := 34) rfl rfl (by decide) k10 k9) ?_
      refine gp_n 1 (j' := 14) (lv' := [some (.ref 0), some (.int 0)]) (st' := [.ref 0, .ref 34]) (h' := (shT, fi, fl, fr)) rfl ?_
      refine gp_of (fun _ k9 => g_getR (q' := 1) rfl rfl (by decide) k0 k9) ?_
      refine gp_of (fun _ k9 => g_callv (y := 118) (as := [.ref 34, .ref 1]) (st' := []) rfl rfl (e1) k9) ?_
      refine gp_n 1 (j' := 17) (lv' := [some (.ref 0), some (.int 0)]) (st' := [.ref 0]) (h' := (shT, fi1, fl1, fr1)) rfl ?_
      refine gp_of (fun _ k9 => g_getR (q' := 34) rfl rfl (by decide) q10 k9) ?_
      refine gp_of (fun _ k9 => g_getI (x := 1) rfl (Or.inr rfl) rfl (by decide) (o2) k9) ?_
      refine gp_of (fun _ k9 => g_ift rfl (show ¬ (1 : Int32) = (0 : Int32) from by decide) k9) ?_
      refine gp_n 1 (j' := 23) (lv' := [some (.ref 0), some (.int 0)]) (st' := [.int 0]) (h' := (shT, fi1, fl1, fr1)) rfl ?_
      refine gp_of (fun _ k9 => g_iff rfl (show ¬ (¬ (0 : Int32) = (0 : Int32)) from by decide) k9) ?_
      refine gp_n 1 (j' := 25) (lv' := [some (.ref 0), some (.int 0)]) (st' := [.ref 0]) (h' := (shT, fi1, fl1, fr1)) rfl ?_
      refine gp_of (fun _ k9 => g_getR (q' := 34) rfl rfl (by decide) q10 k9) ?_
      refine gp_of (fun _ k9 => g_getI (x := nI M) rfl (Or.inl rfl) rfl (by decide) (o4) k9) ?_
      refine gp_n 1 (j' := 31) (lv' := [some (.ref 0), some (.int 0)]) (st' := [.int (nI M)]) (h' := (shT, fi1, fl1, fr1)) rfl ?_
      refine gp_done (g_ret rfl) ?_
      rfl
    · show Ev pmT 117 [.ref 0, .int 1] _ (some (.int (nI R1))) _
      refine Ev.of (es := cd_117) (ml := 2) (lv := [some (.ref 0), some (.int 1)]) rfl rfl rfl ?_
      refine go_of ?_
      refine gp_n 1 (j' := 1) (lv' := [some (.ref 0), some (.int 1)]) (st' := [.ref 0]) (h' := (shT, fi, fl, fr)) rfl ?_
      refine gp_of (fun _ k9 => g_getR (q' := 1) rfl rfl (by decide) k0 k9) ?_
      refine gp_of (fun _ k9 => g_call (y := 57) (as := [.ref 1]) (st' := []) rfl rfl (t1) k9) ?_
      refine gp_of (fun _ k9 => g_iff rfl (show ¬ ((1 : Int32) = (0 : Int32)) from by decide) k9) ?_
      refine gp_n 1 (j' := 5) (lv' := [some (.ref 0), some (.int 1)]) (st' := [.int 1]) (h' := (shT, fi, fl, fr)) rfl ?_
      refine gp_of (fun _ k9 => g_iff rfl (show ¬ ((1 : Int32) < (0 : Int32)) from by decide) k9) ?_
      refine gp_n 2 (j' := 8) (lv' := [some (.ref 0), some (.int 1)]) (st' := [.int 1, .int 1]) (h' := (shT, fi, fl, fr)) rfl ?_
      refine gp_of (fun _ k9 => g_ict rfl (show (1 : Int32) ≤ (1 : Int32) from by decide) k9) ?_
      refine gp_n 1 (j' := 12) (lv' := [some (.ref 0), some (.int 1)]) (st' := [.ref 0]) (h' := (shT, fi, fl, fr)) rfl ?_
      refine gp_of (fun _ k9 => g_getR (q' := 34) rfl rfl (by decide) k10 k9) ?_
      refine gp_n 1 (j' := 14) (lv' := [some (.ref 0), some (.int 1)]) (st' := [.ref 0, .ref 34]) (h' := (shT, fi, fl, fr)) rfl ?_
      refine gp_of (fun _ k9 => g_getR (q' := 1) rfl rfl (by decide) k0 k9) ?_
      refine gp_of (fun _ k9 => g_callv (y := 118) (as := [.ref 34, .ref 1]) (st' := []) rfl rfl (e1) k9) ?_
      refine gp_n 1 (j' := 17) (lv' := [some (.ref 0), some (.int 1)]) (st' := [.ref 0]) (h' := (shT, fi1, fl1, fr1)) rfl ?_
      refine gp_of (fun _ k9 => g_getR (q' := 34) rfl rfl (by decide) q10 k9) ?_
      refine gp_of (fun _ k9 => g_getI (x := 1) rfl (Or.inr rfl) rfl (by decide) (o2) k9) ?_
      refine gp_of (fun _ k9 => g_ift rfl (show ¬ (1 : Int32) = (0 : Int32) from by decide) k9) ?_
      refine gp_n 1 (j' := 23) (lv' := [some (.ref 0), some (.int 1)]) (st' := [.int 1]) (h' := (shT, fi1, fl1, fr1)) rfl ?_
      refine gp_of (fun _ k9 => g_ift rfl (show ¬ (1 : Int32) = (0 : Int32) from by decide) k9) ?_
      refine gp_n 1 (j' := 29) (lv' := [some (.ref 0), some (.int 1)]) (st' := [.ref 0]) (h' := (shT, fi1, fl1, fr1)) rfl ?_
      refine gp_of (fun _ k9 => g_getR (q' := 34) rfl rfl (by decide) q10 k9) ?_
      refine gp_of (fun _ k9 => g_getI (x := nI R1) rfl (Or.inl rfl) rfl (by decide) (o1) k9) ?_
      refine gp_done (g_ret rfl) ?_
      rfl
theorem sw_C {h : PmH} {a : AB} {m k c l : Nat} (hr : REL2 h a) (h0 : 0 < (a_v a).1 1) (vk : VK (a_v a) m k c) (hl : (a_v a).1 6 = nI l) (hB : ∀ s, s < 64 → -127 ≤ ((a_v a).2.2 s).toInt ∧ ((a_v a).2.2 s).toInt ≤ 127) : ∃ h', Ev pmT 127 [.ref 0] h (some (.long (skW a m k c))) h' := by
  have hI := hr.1.1
  have t1 := told1 hI (hr.1.2.1.2.2.2.2.1.1 1 (by decide)) h0
  have k0 : ph_r h 0 0 = some 1 := hi_r hI rfl rfl (by decide)
  have k10 : ph_r h 0 10 = some 34 := hi_r hI rfl rfl (by decide)
  obtain ⟨h1, e1, I1, ⟨o1, o2, o3⟩, F1⟩ := rnC_ev hr vk hl hB
  have r1 : REL2 h1 a := q_fr (by decide) (by decide) I1 F1 hr
  have q10 : ph_r h1 0 10 = some 34 := hi_r I1 rfl rfl (by decide)
  have q0 : ph_r h1 0 0 = some 1 := hi_r I1 rfl rfl (by decide)
  have mo := fun ch => mo_C2 r1 vk ch
  refine ⟨h1, ?_⟩
  clear hr r1 F1
  unfold skW
  generalize skR a m k c 1500 0 q_0 = R at *
  obtain ⟨R1, R2⟩ := R
  cases R2 with
  | none =>
    have o2 : ph_i h1 34 0 = 0 := o2
    obtain ⟨S1, fi1, fl1, fr1⟩ := h1
    have s1 : S1 = shT := I1.1
    subst s1
    have q10 : fr1 0 10 = some 34 := q10
    have o2 : fi1 34 0 = 0 := o2
    obtain ⟨S, fi, fl, fr⟩ := h
    have hS : S = shT := hI.1
    subst hS
    have k0 : fr 0 0 = some 1 := k0
    have k10 : fr 0 10 = some 34 := k10
    show Ev pmT 127 _ _ (some (.long (-1))) _
    refine Ev.of (es := cd_127) (ml := 1) (lv := [some (.ref 0)]) rfl rfl rfl ?_
    refine go_of ?_
    refine gp_n 1 (j' := 1) (lv' := [some (.ref 0)]) (st' := [.ref 0]) (h' := (shT, fi, fl, fr)) rfl ?_
    refine gp_of (fun _ k9 => g_getR (q' := 1) rfl rfl (by decide) k0 k9) ?_
    refine gp_of (fun _ k9 => g_call (y := 57) (as := [.ref 1]) (st' := []) rfl rfl (t1) k9) ?_
    refine gp_of (fun _ k9 => g_ift rfl (show ¬ (1 : Int32) = (0 : Int32) from by decide) k9) ?_
    refine gp_n 1 (j' := 7) (lv' := [some (.ref 0)]) (st' := [.ref 0]) (h' := (shT, fi, fl, fr)) rfl ?_
    refine gp_of (fun _ k9 => g_getR (q' := 34) rfl rfl (by decide) k10 k9) ?_
    refine gp_n 1 (j' := 9) (lv' := [some (.ref 0)]) (st' := [.ref 0, .ref 34]) (h' := (shT, fi, fl, fr)) rfl ?_
    refine gp_of (fun _ k9 => g_getR (q' := 1) rfl rfl (by decide) k0 k9) ?_
    refine gp_of (fun _ k9 => g_callv (y := 118) (as := [.ref 34, .ref 1]) (st' := []) rfl rfl (e1) k9) ?_
    refine gp_n 1 (j' := 12) (lv' := [some (.ref 0)]) (st' := [.ref 0]) (h' := (shT, fi1, fl1, fr1)) rfl ?_
    refine gp_of (fun _ k9 => g_getR (q' := 34) rfl rfl (by decide) q10 k9) ?_
    refine gp_of (fun _ k9 => g_getI (x := 0) rfl (Or.inr rfl) rfl (by decide) (o2) k9) ?_
    refine gp_of (fun _ k9 => g_ift rfl (show (0 : Int32) = (0 : Int32) from by decide) k9) ?_
    refine gp_n 1 (j' := 23) (lv' := [some (.ref 0)]) (st' := [.long (-1)]) (h' := (shT, fi1, fl1, fr1)) rfl ?_
    refine gp_done (g_lret rfl) ?_
    rfl
  | some r =>
    obtain ⟨M, B⟩ := r
    have o2 : ph_i h1 34 0 = 1 := o2
    obtain ⟨-, o4⟩ := o3 M B rfl
    show Ev pmT 127 _ _ (some (.long (mgW (a_v a).2.1 (2 ^ m) k B))) _
    have mo := mo B
    generalize mgW (a_v a).2.1 (2 ^ m) k B = mv at *
    obtain ⟨S1, fi1, fl1, fr1⟩ := h1
    have s1 : S1 = shT := I1.1
    subst s1
    have q10 : fr1 0 10 = some 34 := q10
    have q0 : fr1 0 0 = some 1 := q0
    have o2 : fi1 34 0 = 1 := o2
    have o4 : fl1 34 2 = B := o4
    obtain ⟨S, fi, fl, fr⟩ := h
    have hS : S = shT := hI.1
    subst hS
    have k0 : fr 0 0 = some 1 := k0
    have k10 : fr 0 10 = some 34 := k10
    refine Ev.of (es := cd_127) (ml := 1) (lv := [some (.ref 0)]) rfl rfl rfl ?_
    refine go_of ?_
    refine gp_n 1 (j' := 1) (lv' := [some (.ref 0)]) (st' := [.ref 0]) (h' := (shT, fi, fl, fr)) rfl ?_
    refine gp_of (fun _ k9 => g_getR (q' := 1) rfl rfl (by decide) k0 k9) ?_
    refine gp_of (fun _ k9 => g_call (y := 57) (as := [.ref 1]) (st' := []) rfl rfl (t1) k9) ?_
    refine gp_of (fun _ k9 => g_ift rfl (show ¬ (1 : Int32) = (0 : Int32) from by decide) k9) ?_
    refine gp_n 1 (j' := 7) (lv' := [some (.ref 0)]) (st' := [.ref 0]) (h' := (shT, fi, fl, fr)) rfl ?_
    refine gp_of (fun _ k9 => g_getR (q' := 34) rfl rfl (by decide) k10 k9) ?_
    refine gp_n 1 (j' := 9) (lv' := [some (.ref 0)]) (st' := [.ref 0, .ref 34]) (h' := (shT, fi, fl, fr)) rfl ?_
    refine gp_of (fun _ k9 => g_getR (q' := 1) rfl rfl (by decide) k0 k9) ?_
    refine gp_of (fun _ k9 => g_callv (y := 118) (as := [.ref 34, .ref 1]) (st' := []) rfl rfl (e1) k9) ?_
    refine gp_n 1 (j' := 12) (lv' := [some (.ref 0)]) (st' := [.ref 0]) (h' := (shT, fi1, fl1, fr1)) rfl ?_
    refine gp_of (fun _ k9 => g_getR (q' := 34) rfl rfl (by decide) q10 k9) ?_
    refine gp_of (fun _ k9 => g_getI (x := 1) rfl (Or.inr rfl) rfl (by decide) (o2) k9) ?_
    refine gp_of (fun _ k9 => g_iff rfl (show ¬ ((1 : Int32) = (0 : Int32)) from by decide) k9) ?_
    refine gp_n 1 (j' := 16) (lv' := [some (.ref 0)]) (st' := [.ref 0]) (h' := (shT, fi1, fl1, fr1)) rfl ?_
    refine gp_of (fun _ k9 => g_getR (q' := 1) rfl rfl (by decide) q0 k9) ?_
    refine gp_n 1 (j' := 18) (lv' := [some (.ref 0)]) (st' := [.ref 0, .ref 1]) (h' := (shT, fi1, fl1, fr1)) rfl ?_
    refine gp_of (fun _ k9 => g_getR (q' := 34) rfl rfl (by decide) q10 k9) ?_
    refine gp_of (fun _ k9 => g_getL (x := B) rfl rfl (by decide) (o4) k9) ?_
    refine gp_of (fun _ k9 => g_call (y := 108) (as := [.ref 1, .long B]) (st' := []) rfl rfl (mo) k9) ?_
    refine gp_n 1 (j' := 23) (lv' := [some (.ref 0)]) (st' := [.long mv]) (h' := (shT, fi1, fl1, fr1)) rfl ?_
    refine gp_done (g_lret rfl) ?_
    rfl
theorem sk_C0 {h : PmH} {a : AB} {x : Int32} (hr : REL2 h a) (hn : ¬ (0 < (a_v a).1 1 ∧ (0 ≤ x ∧ x ≤ 1))) : Ev pmT 117 [.ref 0, .int x] h (some (.int (-1))) h := by
  have hI := hr.1.1
  have t1 := told1 hI (hr.1.2.1.2.2.2.2.1.1 1 (by decide))
  have t0 := told0 hI (hr.1.2.1.2.2.2.2.1.1 1 (by decide))
  have k0 : ph_r h 0 0 = some 1 := hi_r hI rfl rfl (by decide)
  refine Ev.of (es := cd_117) (ml := 2) (lv := [some (.ref 0), some (.int x)]) rfl rfl rfl ?_
  clear hr
  obtain ⟨S, fi, fl, fr⟩ := h
  have hS : S = shT := hI.1
  subst hS
  have k0 : fr 0 0 = some 1 := k0
  refine go_of ?_
  by_cases h0 : 0 < (a_v a).1 1
  · have t1 := t1 h0
    by_cases h1 : x < 0
    ·
      refine gp_n 1 (j' := 1) (lv' := [some (.ref 0), some (.int x)]) (st' := [.ref 0]) (h' := (shT, fi, fl, fr)) rfl ?_
      refine gp_of (fun _ k9 => g_getR (q' := 1) rfl rfl (by decide) k0 k9) ?_
      refine gp_of (fun _ k9 => g_call (y := 57) (as := [.ref 1]) (st' := []) rfl rfl (t1) k9) ?_
      refine gp_of (fun _ k9 => g_iff rfl (show ¬ ((1 : Int32) = (0 : Int32)) from by decide) k9) ?_
      refine gp_n 1 (j' := 5) (lv' := [some (.ref 0), some (.int x)]) (st' := [.int x]) (h' := (shT, fi, fl, fr)) rfl ?_
      refine gp_of (fun _ k9 => g_ift rfl (show x < (0 : Int32) from h1) k9) ?_
      refine gp_n 1 (j' := 10) (lv' := [some (.ref 0), some (.int x)]) (st' := [.int (-1)]) (h' := (shT, fi, fl, fr)) rfl ?_
      refine gp_done (g_ret rfl) ?_
      rfl
    · have h2 : ¬ x ≤ 1 := fun z => hn ⟨h0, Int32.not_lt.mp h1, z⟩
      refine gp_n 1 (j' := 1) (lv' := [some (.ref 0), some (.int x)]) (st' := [.ref 0]) (h' := (shT, fi, fl, fr)) rfl ?_
      refine gp_of (fun _ k9 => g_getR (q' := 1) rfl rfl (by decide) k0 k9) ?_
      refine gp_of (fun _ k9 => g_call (y := 57) (as := [.ref 1]) (st' := []) rfl rfl (t1) k9) ?_
      refine gp_of (fun _ k9 => g_iff rfl (show ¬ ((1 : Int32) = (0 : Int32)) from by decide) k9) ?_
      refine gp_n 1 (j' := 5) (lv' := [some (.ref 0), some (.int x)]) (st' := [.int x]) (h' := (shT, fi, fl, fr)) rfl ?_
      refine gp_of (fun _ k9 => g_iff rfl (show ¬ (x < (0 : Int32)) from h1) k9) ?_
      refine gp_n 2 (j' := 8) (lv' := [some (.ref 0), some (.int x)]) (st' := [.int 1, .int x]) (h' := (shT, fi, fl, fr)) rfl ?_
      refine gp_of (fun _ k9 => g_icf rfl (show ¬ (x ≤ (1 : Int32)) from h2) k9) ?_
      refine gp_n 1 (j' := 10) (lv' := [some (.ref 0), some (.int x)]) (st' := [.int (-1)]) (h' := (shT, fi, fl, fr)) rfl ?_
      refine gp_done (g_ret rfl) ?_
      rfl
  · have t0 := t0 h0
    refine gp_n 1 (j' := 1) (lv' := [some (.ref 0), some (.int x)]) (st' := [.ref 0]) (h' := (shT, fi, fl, fr)) rfl ?_
    refine gp_of (fun _ k9 => g_getR (q' := 1) rfl rfl (by decide) k0 k9) ?_
    refine gp_of (fun _ k9 => g_call (y := 57) (as := [.ref 1]) (st' := []) rfl rfl (t0) k9) ?_
    refine gp_of (fun _ k9 => g_ift rfl (show (0 : Int32) = (0 : Int32) from by decide) k9) ?_
    refine gp_n 1 (j' := 10) (lv' := [some (.ref 0), some (.int x)]) (st' := [.int (-1)]) (h' := (shT, fi, fl, fr)) rfl ?_
    refine gp_done (g_ret rfl) ?_
    rfl
theorem sw_C0 {h : PmH} {a : AB} (hr : REL2 h a) (hn : ¬ 0 < (a_v a).1 1) : Ev pmT 127 [.ref 0] h (some (.long (-1))) h := by
  have hI := hr.1.1
  have t0 := told0 hI (hr.1.2.1.2.2.2.2.1.1 1 (by decide)) hn
  have k0 : ph_r h 0 0 = some 1 := hi_r hI rfl rfl (by decide)
  refine Ev.of (es := cd_127) (ml := 1) (lv := [some (.ref 0)]) rfl rfl rfl ?_
  clear hr
  obtain ⟨S, fi, fl, fr⟩ := h
  have hS : S = shT := hI.1
  subst hS
  have k0 : fr 0 0 = some 1 := k0
  refine go_of ?_
  refine gp_n 1 (j' := 1) (lv' := [some (.ref 0)]) (st' := [.ref 0]) (h' := (shT, fi, fl, fr)) rfl ?_
  refine gp_of (fun _ k9 => g_getR (q' := 1) rfl rfl (by decide) k0 k9) ?_
  refine gp_of (fun _ k9 => g_call (y := 57) (as := [.ref 1]) (st' := []) rfl rfl (t0) k9) ?_
  refine gp_of (fun _ k9 => g_iff rfl (show ¬ (¬ (0 : Int32) = (0 : Int32)) from by decide) k9) ?_
  refine gp_n 1 (j' := 5) (lv' := [some (.ref 0)]) (st' := [.long (-1)]) (h' := (shT, fi, fl, fr)) rfl ?_
  refine gp_done (g_lret rfl) ?_
  rfl
