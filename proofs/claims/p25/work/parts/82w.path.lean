/-- what path answers -/
def ptV (K : Int64) (m : Nat) (S : Nat → Int32) (l b p w : Nat) : Int32 := if p < (rdN K m S l (b + 1)).1 then (if w = 0 then (rdN K m S l (b + 1)).2.2 p else if w = 1 then b01 (decide (stpR (bl K b) m S (rdN K m S l b) b p % 2 = 1)) else nI (stpR (bl K b) m S (rdN K m S l b) b p / 2)) else -2
theorem stp_lt {K : Int64} {m l b p : Nat} {S : Nat → Int32} (l1 : 1 ≤ l) (l8 : l ≤ 8) (hp : p < (rdN K m S l (b + 1)).1) : stpR (bl K b) m S (rdN K m S l b) b p < 16 := by
  have hP := rd_P (K := K) (m := m) (S := S) l1 b
  have hQ := rd_P (K := K) (m := m) (S := S) l1 (b + 1)
  rw [rdN] at hp
  unfold rdS at hp
  unfold stpR
  cases hk : bl K b
  · rw [if_neg (by decide)]
    rw [hk, if_neg (by decide)] at hp
    have hp : p < (rdN K m S l b).1 := hp
    omega
  · rw [if_pos rfl]
    rw [hk, if_pos rfl] at hp
    have hp : p < min (2 * (rdN K m S l b).1) l := hp
    have := (srt_F (fun q => (cnd m S (rdN K m S l b) b q).toInt) (2 * (rdN K m S l b).1)).1 p (by omega)
    have this : ordR m S (rdN K m S l b) b p < 2 * (rdN K m S l b).1 := this
    omega
theorem pt_C {h h1 : PmH} {a : AB} {m k c l b p w : Nat} (hr : REL3 h a) (hb : 0 ≤ nI b ∧ nI b < (a_v a).1 1) (b64 : b < 2 ^ m) (m6 : m ≤ 6) (l1 : 1 ≤ l) (l8 : l ≤ 8) (e1 : Ev pmT 81 [.ref 0] h none h1) (hx : roI (a_v a).2.1 m k c ((a_v a).1 4) (a_v a).2.2 l h1) (I1 : HI hdT shT h1) (hp : p < 2 ^ 31) (hw : w < 3) : Ev pmT 110 [.ref 0, .int (nI b), .int (nI p), .int (nI w)] h (some (.int (ptV (a_v a).2.1 m (a_v a).2.2 l b p w))) h1 := by
  have hI := hr.1.1.1
  have p6 := pw_6 m (by omega)
  have t1 := hch1 (x := nI b) hI (hr.1.1.2.1.2.2.2.2.1.1 1 (by decide)) hb
  have k0 : ph_r h 0 0 = some 1 := hi_r hI rfl rfl (by decide)
  have q8 : ph_r h1 0 8 = some 13 := hi_r I1 rfl rfl (by decide)
  have qT : ph_r h1 13 2 = some 22 := hi_r I1 rfl rfl (by decide)
  have q22 : ph_r h1 22 0 = some 23 := hi_r I1 rfl rfl (by decide)
  have q24 : ph_r h1 22 1 = some 24 := hi_r I1 rfl rfl (by decide)
  have q25 : ph_r h1 22 2 = some 25 := hi_r I1 rfl rfl (by decide)
  have hP := rd_P (K := (a_v a).2.1) (m := m) (S := (a_v a).2.2) l1 (b + 1)
  obtain ⟨A, hA, a1, a2, a3, a4, a5⟩ := hx
  obtain ⟨c1, c2, c3⟩ := a2 b b64
  have cP : ph_i h1 23 b = nI (rdN (a_v a).2.1 m (a_v a).2.2 l (b + 1)).1 := c2
  have c1 : ∀ r, r < (rdN (a_v a).2.1 m (a_v a).2.2 l (b + 1)).1 → ph_i h1 24 (8 * b + r) = (rdN (a_v a).2.1 m (a_v a).2.2 l (b + 1)).2.2 r ∧ ph_i h1 25 (8 * b + r) = nI (stpR (bl (a_v a).2.1 b) m (a_v a).2.2 (rdN (a_v a).2.1 m (a_v a).2.2 l b) b r) := c1
  have st := stp_lt (K := (a_v a).2.1) (m := m) (b := b) (p := p) (S := (a_v a).2.2) l1 l8
  unfold ptV
  generalize stpR (bl (a_v a).2.1 b) m (a_v a).2.2 (rdN (a_v a).2.1 m (a_v a).2.2 l b) b = sp at *
  generalize (rdN (a_v a).2.1 m (a_v a).2.2 l (b + 1)).2.2 = mt at *
  generalize (rdN (a_v a).2.1 m (a_v a).2.2 l (b + 1)).1 = P at *
  clear a1 a2 a3 a4 a5 hr c2 c3
  obtain ⟨S1, fi1, fl1, fr1⟩ := h1
  have s1 : S1 = shT := I1.1
  subst s1
  have q8 : fr1 0 8 = some 13 := q8
  have qT : fr1 13 2 = some 22 := qT
  have q22 : fr1 22 0 = some 23 := q22
  have q24 : fr1 22 1 = some 24 := q24
  have q25 : fr1 22 2 = some 25 := q25
  have cP : fi1 23 b = nI P := cP
  obtain ⟨S, fi, fl, fr⟩ := h
  have hS : S = shT := hI.1
  subst hS
  have k0 : fr 0 0 = some 1 := k0
  have w3 : w = 0 ∨ w = 1 ∨ w = 2 := by omega
  by_cases hq : p < P
  · rw [if_pos hq]
    have x24 : fi1 24 (8 * b + p) = mt p := (c1 p hq).1
    have x25 : fi1 25 (8 * b + p) = nI (sp p) := (c1 p hq).2
    have st := st hq
    have i8 := ix8_e b (by omega) p (by omega)
    have od := od_i (sp p) st
    have hf := hf_i (sp p) st
    generalize mt p = u at *
    generalize sp p = s at *
    rcases w3 with rfl | rfl | rfl
    · refine Ev.of (es := cd_110) (ml := 5) (lv := [some (.ref 0), some (.int (nI b)), some (.int (nI p)), some (.int 0), none]) rfl rfl rfl ?_
      rw [if_pos rfl]
      refine go_of ?_
      refine gp_n 1 (j' := 1) (lv' := [some (.ref 0), some (.int (nI b)), some (.int (nI p)), some (.int 0), none]) (st' := [.ref 0]) (h' := (shT, fi, fl, fr)) rfl ?_
      refine gp_of (fun _ k9 => g_getR (q' := 1) rfl rfl (by decide) k0 k9) ?_
      refine gp_n 1 (j' := 3) (lv' := [some (.ref 0), some (.int (nI b)), some (.int (nI p)), some (.int 0), none]) (st' := [.int (nI b), .ref 1]) (h' := (shT, fi, fl, fr)) rfl ?_
      refine gp_of (fun _ k9 => g_call (y := 52) (as := [.ref 1, .int (nI b)]) (st' := []) rfl rfl (t1) k9) ?_
      refine gp_of (fun _ k9 => g_iff rfl (show ¬ ((1 : Int32) = (0 : Int32)) from by decide) k9) ?_
      refine gp_n 1 (j' := 6) (lv' := [some (.ref 0), some (.int (nI b)), some (.int (nI p)), some (.int 0), none]) (st' := [.int (nI p)]) (h' := (shT, fi, fl, fr)) rfl ?_
      refine gp_of (fun _ k9 => g_iff rfl (show ¬ ((nI p) < (0 : Int32)) from nI_pos hp) k9) ?_
      refine gp_n 1 (j' := 8) (lv' := [some (.ref 0), some (.int (nI b)), some (.int (nI p)), some (.int 0), none]) (st' := [.int 0]) (h' := (shT, fi, fl, fr)) rfl ?_
      refine gp_of (fun _ k9 => g_iff rfl (show ¬ ((0 : Int32) < (0 : Int32)) from by decide) k9) ?_
      refine gp_n 2 (j' := 11) (lv' := [some (.ref 0), some (.int (nI b)), some (.int (nI p)), some (.int 0), none]) (st' := [.int 2, .int 0]) (h' := (shT, fi, fl, fr)) rfl ?_
      refine gp_of (fun _ k9 => g_ict rfl (show (0 : Int32) ≤ (2 : Int32) from by decide) k9) ?_
      refine gp_n 1 (j' := 15) (lv' := [some (.ref 0), some (.int (nI b)), some (.int (nI p)), some (.int 0), none]) (st' := [.ref 0]) (h' := (shT, fi, fl, fr)) rfl ?_
      refine gp_of (fun _ k9 => g_callv (y := 81) (as := [.ref 0]) (st' := []) rfl rfl (e1) k9) ?_
      refine gp_n 2 (j' := 18) (lv' := [some (.ref 0), some (.int (nI b)), some (.int (nI p)), some (.int 0), none]) (st' := [.ref 0, .int (nI p)]) (h' := (shT, fi1, fl1, fr1)) rfl ?_
      refine gp_of (fun _ k9 => g_getR (q' := 13) rfl rfl (by decide) q8 k9) ?_
      refine gp_of (fun _ k9 => g_getR (q' := 22) rfl rfl (by decide) qT k9) ?_
      refine gp_of (fun _ k9 => g_getR (q' := 23) rfl rfl (by decide) q22 k9) ?_
      refine gp_n 1 (j' := 22) (lv' := [some (.ref 0), some (.int (nI b)), some (.int (nI p)), some (.int 0), none]) (st' := [.int (nI b), .ref 23, .int (nI p)]) (h' := (shT, fi1, fl1, fr1)) rfl ?_
      refine gp_of (fun _ k9 => g_iald (k := b) (x := nI P) rfl rfl (rfl) (by omega) (by decide) (cP) k9) ?_
      refine gp_of (fun _ k9 => g_ict rfl (show (nI p) < (nI P) from nI_lt hq (by omega)) k9) ?_
      refine gp_n 5 (j' := 31) (lv' := [some (.ref 0), some (.int (nI b)), some (.int (nI p)), some (.int 0), none]) (st' := [.int (((nI b) * 8) + (nI p))]) (h' := (shT, fi1, fl1, fr1)) rfl ?_
      rw [i8]
      refine gp_n 4 (j' := 35) (lv' := [some (.ref 0), some (.int (nI b)), some (.int (nI p)), some (.int 0), some (.int (nI (8 * b + p)))]) (st' := [.ref 0]) (h' := (shT, fi1, fl1, fr1)) rfl ?_
      refine gp_of (fun _ k9 => g_getR (q' := 13) rfl rfl (by decide) q8 k9) ?_
      refine gp_of (fun _ k9 => g_getR (q' := 22) rfl rfl (by decide) qT k9) ?_
      refine gp_of (fun _ k9 => g_getR (q' := 24) rfl rfl (by decide) q24 k9) ?_
      refine gp_n 1 (j' := 39) (lv' := [some (.ref 0), some (.int (nI b)), some (.int (nI p)), some (.int 0), some (.int (nI (8 * b + p)))]) (st' := [.int (nI (8 * b + p)), .ref 24]) (h' := (shT, fi1, fl1, fr1)) rfl ?_
      refine gp_of (fun _ k9 => g_iald (k := 8 * b + p) (x := u) rfl rfl (rfl) (by omega) (by decide) (x24) k9) ?_
      refine gp_done (g_ret rfl) ?_
      rfl
    · refine Ev.of (es := cd_110) (ml := 5) (lv := [some (.ref 0), some (.int (nI b)), some (.int (nI p)), some (.int 1), none]) rfl rfl rfl ?_
      rw [if_neg (by decide), if_pos rfl, ← od]
      refine go_of ?_
      refine gp_n 1 (j' := 1) (lv' := [some (.ref 0), some (.int (nI b)), some (.int (nI p)), some (.int 1), none]) (st' := [.ref 0]) (h' := (shT, fi, fl, fr)) rfl ?_
      refine gp_of (fun _ k9 => g_getR (q' := 1) rfl rfl (by decide) k0 k9) ?_
      refine gp_n 1 (j' := 3) (lv' := [some (.ref 0), some (.int (nI b)), some (.int (nI p)), some (.int 1), none]) (st' := [.int (nI b), .ref 1]) (h' := (shT, fi, fl, fr)) rfl ?_
      refine gp_of (fun _ k9 => g_call (y := 52) (as := [.ref 1, .int (nI b)]) (st' := []) rfl rfl (t1) k9) ?_
      refine gp_of (fun _ k9 => g_iff rfl (show ¬ ((1 : Int32) = (0 : Int32)) from by decide) k9) ?_
      refine gp_n 1 (j' := 6) (lv' := [some (.ref 0), some (.int (nI b)), some (.int (nI p)), some (.int 1), none]) (st' := [.int (nI p)]) (h' := (shT, fi, fl, fr)) rfl ?_
      refine gp_of (fun _ k9 => g_iff rfl (show ¬ ((nI p) < (0 : Int32)) from nI_pos hp) k9) ?_
      refine gp_n 1 (j' := 8) (lv' := [some (.ref 0), some (.int (nI b)), some (.int (nI p)), some (.int 1), none]) (st' := [.int 1]) (h' := (shT, fi, fl, fr)) rfl ?_
      refine gp_of (fun _ k9 => g_iff rfl (show ¬ ((1 : Int32) < (0 : Int32)) from by decide) k9) ?_
      refine gp_n 2 (j' := 11) (lv' := [some (.ref 0), some (.int (nI b)), some (.int (nI p)), some (.int 1), none]) (st' := [.int 2, .int 1]) (h' := (shT, fi, fl, fr)) rfl ?_
      refine gp_of (fun _ k9 => g_ict rfl (show (1 : Int32) ≤ (2 : Int32) from by decide) k9) ?_
      refine gp_n 1 (j' := 15) (lv' := [some (.ref 0), some (.int (nI b)), some (.int (nI p)), some (.int 1), none]) (st' := [.ref 0]) (h' := (shT, fi, fl, fr)) rfl ?_
      refine gp_of (fun _ k9 => g_callv (y := 81) (as := [.ref 0]) (st' := []) rfl rfl (e1) k9) ?_
      refine gp_n 2 (j' := 18) (lv' := [some (.ref 0), some (.int (nI b)), some (.int (nI p)), some (.int 1), none]) (st' := [.ref 0, .int (nI p)]) (h' := (shT, fi1, fl1, fr1)) rfl ?_
      refine gp_of (fun _ k9 => g_getR (q' := 13) rfl rfl (by decide) q8 k9) ?_
      refine gp_of (fun _ k9 => g_getR (q' := 22) rfl rfl (by decide) qT k9) ?_
      refine gp_of (fun _ k9 => g_getR (q' := 23) rfl rfl (by decide) q22 k9) ?_
      refine gp_n 1 (j' := 22) (lv' := [some (.ref 0), some (.int (nI b)), some (.int (nI p)), some (.int 1), none]) (st' := [.int (nI b), .ref 23, .int (nI p)]) (h' := (shT, fi1, fl1, fr1)) rfl ?_
      refine gp_of (fun _ k9 => g_iald (k := b) (x := nI P) rfl rfl (rfl) (by omega) (by decide) (cP) k9) ?_
      refine gp_of (fun _ k9 => g_ict rfl (show (nI p) < (nI P) from nI_lt hq (by omega)) k9) ?_
      refine gp_n 5 (j' := 31) (lv' := [some (.ref 0), some (.int (nI b)), some (.int (nI p)), some (.int 1), none]) (st' := [.int (((nI b) * 8) + (nI p))]) (h' := (shT, fi1, fl1, fr1)) rfl ?_
      rw [i8]
      refine gp_n 4 (j' := 42) (lv' := [some (.ref 0), some (.int (nI b)), some (.int (nI p)), some (.int 1), some (.int (nI (8 * b + p)))]) (st' := [.ref 0]) (h' := (shT, fi1, fl1, fr1)) rfl ?_
      refine gp_of (fun _ k9 => g_getR (q' := 13) rfl rfl (by decide) q8 k9) ?_
      refine gp_of (fun _ k9 => g_getR (q' := 22) rfl rfl (by decide) qT k9) ?_
      refine gp_of (fun _ k9 => g_getR (q' := 25) rfl rfl (by decide) q25 k9) ?_
      refine gp_n 1 (j' := 46) (lv' := [some (.ref 0), some (.int (nI b)), some (.int (nI p)), some (.int 1), some (.int (nI (8 * b + p)))]) (st' := [.int (nI (8 * b + p)), .ref 25]) (h' := (shT, fi1, fl1, fr1)) rfl ?_
      refine gp_of (fun _ k9 => g_iald (k := 8 * b + p) (x := nI s) rfl rfl (rfl) (by omega) (by decide) (x25) k9) ?_
      refine gp_n 2 (j' := 49) (lv' := [some (.ref 0), some (.int (nI b)), some (.int (nI p)), some (.int 1), some (.int (nI (8 * b + p)))]) (st' := [.int ((nI s) &&& 1)]) (h' := (shT, fi1, fl1, fr1)) rfl ?_
      refine gp_done (g_ret rfl) ?_
      rfl
    · refine Ev.of (es := cd_110) (ml := 5) (lv := [some (.ref 0), some (.int (nI b)), some (.int (nI p)), some (.int 2), none]) rfl rfl rfl ?_
      rw [if_neg (by decide), if_neg (by decide), ← hf]
      refine go_of ?_
      refine gp_n 1 (j' := 1) (lv' := [some (.ref 0), some (.int (nI b)), some (.int (nI p)), some (.int 2), none]) (st' := [.ref 0]) (h' := (shT, fi, fl, fr)) rfl ?_
      refine gp_of (fun _ k9 => g_getR (q' := 1) rfl rfl (by decide) k0 k9) ?_
      refine gp_n 1 (j' := 3) (lv' := [some (.ref 0), some (.int (nI b)), some (.int (nI p)), some (.int 2), none]) (st' := [.int (nI b), .ref 1]) (h' := (shT, fi, fl, fr)) rfl ?_
      refine gp_of (fun _ k9 => g_call (y := 52) (as := [.ref 1, .int (nI b)]) (st' := []) rfl rfl (t1) k9) ?_
      refine gp_of (fun _ k9 => g_iff rfl (show ¬ ((1 : Int32) = (0 : Int32)) from by decide) k9) ?_
      refine gp_n 1 (j' := 6) (lv' := [some (.ref 0), some (.int (nI b)), some (.int (nI p)), some (.int 2), none]) (st' := [.int (nI p)]) (h' := (shT, fi, fl, fr)) rfl ?_
      refine gp_of (fun _ k9 => g_iff rfl (show ¬ ((nI p) < (0 : Int32)) from nI_pos hp) k9) ?_
      refine gp_n 1 (j' := 8) (lv' := [some (.ref 0), some (.int (nI b)), some (.int (nI p)), some (.int 2), none]) (st' := [.int 2]) (h' := (shT, fi, fl, fr)) rfl ?_
      refine gp_of (fun _ k9 => g_iff rfl (show ¬ ((2 : Int32) < (0 : Int32)) from by decide) k9) ?_
      refine gp_n 2 (j' := 11) (lv' := [some (.ref 0), some (.int (nI b)), some (.int (nI p)), some (.int 2), none]) (st' := [.int 2, .int 2]) (h' := (shT, fi, fl, fr)) rfl ?_
      refine gp_of (fun _ k9 => g_ict rfl (show (2 : Int32) ≤ (2 : Int32) from by decide) k9) ?_
      refine gp_n 1 (j' := 15) (lv' := [some (.ref 0), some (.int (nI b)), some (.int (nI p)), some (.int 2), none]) (st' := [.ref 0]) (h' := (shT, fi, fl, fr)) rfl ?_
      refine gp_of (fun _ k9 => g_callv (y := 81) (as := [.ref 0]) (st' := []) rfl rfl (e1) k9) ?_
      refine gp_n 2 (j' := 18) (lv' := [some (.ref 0), some (.int (nI b)), some (.int (nI p)), some (.int 2), none]) (st' := [.ref 0, .int (nI p)]) (h' := (shT, fi1, fl1, fr1)) rfl ?_
      refine gp_of (fun _ k9 => g_getR (q' := 13) rfl rfl (by decide) q8 k9) ?_
      refine gp_of (fun _ k9 => g_getR (q' := 22) rfl rfl (by decide) qT k9) ?_
      refine gp_of (fun _ k9 => g_getR (q' := 23) rfl rfl (by decide) q22 k9) ?_
      refine gp_n 1 (j' := 22) (lv' := [some (.ref 0), some (.int (nI b)), some (.int (nI p)), some (.int 2), none]) (st' := [.int (nI b), .ref 23, .int (nI p)]) (h' := (shT, fi1, fl1, fr1)) rfl ?_
      refine gp_of (fun _ k9 => g_iald (k := b) (x := nI P) rfl rfl (rfl) (by omega) (by decide) (cP) k9) ?_
      refine gp_of (fun _ k9 => g_ict rfl (show (nI p) < (nI P) from nI_lt hq (by omega)) k9) ?_
      refine gp_n 5 (j' := 31) (lv' := [some (.ref 0), some (.int (nI b)), some (.int (nI p)), some (.int 2), none]) (st' := [.int (((nI b) * 8) + (nI p))]) (h' := (shT, fi1, fl1, fr1)) rfl ?_
      rw [i8]
      refine gp_n 4 (j' := 51) (lv' := [some (.ref 0), some (.int (nI b)), some (.int (nI p)), some (.int 2), some (.int (nI (8 * b + p)))]) (st' := [.ref 0]) (h' := (shT, fi1, fl1, fr1)) rfl ?_
      refine gp_of (fun _ k9 => g_getR (q' := 13) rfl rfl (by decide) q8 k9) ?_
      refine gp_of (fun _ k9 => g_getR (q' := 22) rfl rfl (by decide) qT k9) ?_
      refine gp_of (fun _ k9 => g_getR (q' := 25) rfl rfl (by decide) q25 k9) ?_
      refine gp_n 1 (j' := 55) (lv' := [some (.ref 0), some (.int (nI b)), some (.int (nI p)), some (.int 2), some (.int (nI (8 * b + p)))]) (st' := [.int (nI (8 * b + p)), .ref 25]) (h' := (shT, fi1, fl1, fr1)) rfl ?_
      refine gp_of (fun _ k9 => g_iald (k := 8 * b + p) (x := nI s) rfl rfl (rfl) (by omega) (by decide) (x25) k9) ?_
      refine gp_n 2 (j' := 58) (lv' := [some (.ref 0), some (.int (nI b)), some (.int (nI p)), some (.int 2), some (.int (nI (8 * b + p)))]) (st' := [.int ((nI s) >>> (1 &&& 31))]) (h' := (shT, fi1, fl1, fr1)) rfl ?_
      refine gp_done (g_ret rfl) ?_
      rfl
  · rw [if_neg hq]
    rcases w3 with rfl | rfl | rfl
    · refine Ev.of (es := cd_110) (ml := 5) (lv := [some (.ref 0), some (.int (nI b)), some (.int (nI p)), some (.int 0), none]) rfl rfl rfl ?_
      refine go_of ?_
      refine gp_n 1 (j' := 1) (lv' := [some (.ref 0), some (.int (nI b)), some (.int (nI p)), some (.int 0), none]) (st' := [.ref 0]) (h' := (shT, fi, fl, fr)) rfl ?_
      refine gp_of (fun _ k9 => g_getR (q' := 1) rfl rfl (by decide) k0 k9) ?_
      refine gp_n 1 (j' := 3) (lv' := [some (.ref 0), some (.int (nI b)), some (.int (nI p)), some (.int 0), none]) (st' := [.int (nI b), .ref 1]) (h' := (shT, fi, fl, fr)) rfl ?_
      refine gp_of (fun _ k9 => g_call (y := 52) (as := [.ref 1, .int (nI b)]) (st' := []) rfl rfl (t1) k9) ?_
      refine gp_of (fun _ k9 => g_iff rfl (show ¬ ((1 : Int32) = (0 : Int32)) from by decide) k9) ?_
      refine gp_n 1 (j' := 6) (lv' := [some (.ref 0), some (.int (nI b)), some (.int (nI p)), some (.int 0), none]) (st' := [.int (nI p)]) (h' := (shT, fi, fl, fr)) rfl ?_
      refine gp_of (fun _ k9 => g_iff rfl (show ¬ ((nI p) < (0 : Int32)) from nI_pos hp) k9) ?_
      refine gp_n 1 (j' := 8) (lv' := [some (.ref 0), some (.int (nI b)), some (.int (nI p)), some (.int 0), none]) (st' := [.int 0]) (h' := (shT, fi, fl, fr)) rfl ?_
      refine gp_of (fun _ k9 => g_iff rfl (show ¬ ((0 : Int32) < (0 : Int32)) from by decide) k9) ?_
      refine gp_n 2 (j' := 11) (lv' := [some (.ref 0), some (.int (nI b)), some (.int (nI p)), some (.int 0), none]) (st' := [.int 2, .int 0]) (h' := (shT, fi, fl, fr)) rfl ?_
      refine gp_of (fun _ k9 => g_ict rfl (show (0 : Int32) ≤ (2 : Int32) from by decide) k9) ?_
      refine gp_n 1 (j' := 15) (lv' := [some (.ref 0), some (.int (nI b)), some (.int (nI p)), some (.int 0), none]) (st' := [.ref 0]) (h' := (shT, fi, fl, fr)) rfl ?_
      refine gp_of (fun _ k9 => g_callv (y := 81) (as := [.ref 0]) (st' := []) rfl rfl (e1) k9) ?_
      refine gp_n 2 (j' := 18) (lv' := [some (.ref 0), some (.int (nI b)), some (.int (nI p)), some (.int 0), none]) (st' := [.ref 0, .int (nI p)]) (h' := (shT, fi1, fl1, fr1)) rfl ?_
      refine gp_of (fun _ k9 => g_getR (q' := 13) rfl rfl (by decide) q8 k9) ?_
      refine gp_of (fun _ k9 => g_getR (q' := 22) rfl rfl (by decide) qT k9) ?_
      refine gp_of (fun _ k9 => g_getR (q' := 23) rfl rfl (by decide) q22 k9) ?_
      refine gp_n 1 (j' := 22) (lv' := [some (.ref 0), some (.int (nI b)), some (.int (nI p)), some (.int 0), none]) (st' := [.int (nI b), .ref 23, .int (nI p)]) (h' := (shT, fi1, fl1, fr1)) rfl ?_
      refine gp_of (fun _ k9 => g_iald (k := b) (x := nI P) rfl rfl (rfl) (by omega) (by decide) (cP) k9) ?_
      refine gp_of (fun _ k9 => g_icf rfl (show ¬ ((nI p) < (nI P)) from nI_nlt (by omega) hp) k9) ?_
      refine gp_n 1 (j' := 25) (lv' := [some (.ref 0), some (.int (nI b)), some (.int (nI p)), some (.int 0), none]) (st' := [.int (-2)]) (h' := (shT, fi1, fl1, fr1)) rfl ?_
      refine gp_done (g_ret rfl) ?_
      rfl
    · refine Ev.of (es := cd_110) (ml := 5) (lv := [some (.ref 0), some (.int (nI b)), some (.int (nI p)), some (.int 1), none]) rfl rfl rfl ?_
      refine go_of ?_
      refine gp_n 1 (j' := 1) (lv' := [some (.ref 0), some (.int (nI b)), some (.int (nI p)), some (.int 1), none]) (st' := [.ref 0]) (h' := (shT, fi, fl, fr)) rfl ?_
      refine gp_of (fun _ k9 => g_getR (q' := 1) rfl rfl (by decide) k0 k9) ?_
      refine gp_n 1 (j' := 3) (lv' := [some (.ref 0), some (.int (nI b)), some (.int (nI p)), some (.int 1), none]) (st' := [.int (nI b), .ref 1]) (h' := (shT, fi, fl, fr)) rfl ?_
      refine gp_of (fun _ k9 => g_call (y := 52) (as := [.ref 1, .int (nI b)]) (st' := []) rfl rfl (t1) k9) ?_
      refine gp_of (fun _ k9 => g_iff rfl (show ¬ ((1 : Int32) = (0 : Int32)) from by decide) k9) ?_
      refine gp_n 1 (j' := 6) (lv' := [some (.ref 0), some (.int (nI b)), some (.int (nI p)), some (.int 1), none]) (st' := [.int (nI p)]) (h' := (shT, fi, fl, fr)) rfl ?_
      refine gp_of (fun _ k9 => g_iff rfl (show ¬ ((nI p) < (0 : Int32)) from nI_pos hp) k9) ?_
      refine gp_n 1 (j' := 8) (lv' := [some (.ref 0), some (.int (nI b)), some (.int (nI p)), some (.int 1), none]) (st' := [.int 1]) (h' := (shT, fi, fl, fr)) rfl ?_
      refine gp_of (fun _ k9 => g_iff rfl (show ¬ ((1 : Int32) < (0 : Int32)) from by decide) k9) ?_
      refine gp_n 2 (j' := 11) (lv' := [some (.ref 0), some (.int (nI b)), some (.int (nI p)), some (.int 1), none]) (st' := [.int 2, .int 1]) (h' := (shT, fi, fl, fr)) rfl ?_
      refine gp_of (fun _ k9 => g_ict rfl (show (1 : Int32) ≤ (2 : Int32) from by decide) k9) ?_
      refine gp_n 1 (j' := 15) (lv' := [some (.ref 0), some (.int (nI b)), some (.int (nI p)), some (.int 1), none]) (st' := [.ref 0]) (h' := (shT, fi, fl, fr)) rfl ?_
      refine gp_of (fun _ k9 => g_callv (y := 81) (as := [.ref 0]) (st' := []) rfl rfl (e1) k9) ?_
      refine gp_n 2 (j' := 18) (lv' := [some (.ref 0), some (.int (nI b)), some (.int (nI p)), some (.int 1), none]) (st' := [.ref 0, .int (nI p)]) (h' := (shT, fi1, fl1, fr1)) rfl ?_
      refine gp_of (fun _ k9 => g_getR (q' := 13) rfl rfl (by decide) q8 k9) ?_
      refine gp_of (fun _ k9 => g_getR (q' := 22) rfl rfl (by decide) qT k9) ?_
      refine gp_of (fun _ k9 => g_getR (q' := 23) rfl rfl (by decide) q22 k9) ?_
      refine gp_n 1 (j' := 22) (lv' := [some (.ref 0), some (.int (nI b)), some (.int (nI p)), some (.int 1), none]) (st' := [.int (nI b), .ref 23, .int (nI p)]) (h' := (shT, fi1, fl1, fr1)) rfl ?_
      refine gp_of (fun _ k9 => g_iald (k := b) (x := nI P) rfl rfl (rfl) (by omega) (by decide) (cP) k9) ?_
      refine gp_of (fun _ k9 => g_icf rfl (show ¬ ((nI p) < (nI P)) from nI_nlt (by omega) hp) k9) ?_
      refine gp_n 1 (j' := 25) (lv' := [some (.ref 0), some (.int (nI b)), some (.int (nI p)), some (.int 1), none]) (st' := [.int (-2)]) (h' := (shT, fi1, fl1, fr1)) rfl ?_
      refine gp_done (g_ret rfl) ?_
      rfl
    · refine Ev.of (es := cd_110) (ml := 5) (lv := [some (.ref 0), some (.int (nI b)), some (.int (nI p)), some (.int 2), none]) rfl rfl rfl ?_
      refine go_of ?_
      refine gp_n 1 (j' := 1) (lv' := [some (.ref 0), some (.int (nI b)), some (.int (nI p)), some (.int 2), none]) (st' := [.ref 0]) (h' := (shT, fi, fl, fr)) rfl ?_
      refine gp_of (fun _ k9 => g_getR (q' := 1) rfl rfl (by decide) k0 k9) ?_
      refine gp_n 1 (j' := 3) (lv' := [some (.ref 0), some (.int (nI b)), some (.int (nI p)), some (.int 2), none]) (st' := [.int (nI b), .ref 1]) (h' := (shT, fi, fl, fr)) rfl ?_
      refine gp_of (fun _ k9 => g_call (y := 52) (as := [.ref 1, .int (nI b)]) (st' := []) rfl rfl (t1) k9) ?_
      refine gp_of (fun _ k9 => g_iff rfl (show ¬ ((1 : Int32) = (0 : Int32)) from by decide) k9) ?_
      refine gp_n 1 (j' := 6) (lv' := [some (.ref 0), some (.int (nI b)), some (.int (nI p)), some (.int 2), none]) (st' := [.int (nI p)]) (h' := (shT, fi, fl, fr)) rfl ?_
      refine gp_of (fun _ k9 => g_iff rfl (show ¬ ((nI p) < (0 : Int32)) from nI_pos hp) k9) ?_
      refine gp_n 1 (j' := 8) (lv' := [some (.ref 0), some (.int (nI b)), some (.int (nI p)), some (.int 2), none]) (st' := [.int 2]) (h' := (shT, fi, fl, fr)) rfl ?_
      refine gp_of (fun _ k9 => g_iff rfl (show ¬ ((2 : Int32) < (0 : Int32)) from by decide) k9) ?_
      refine gp_n 2 (j' := 11) (lv' := [some (.ref 0), some (.int (nI b)), some (.int (nI p)), some (.int 2), none]) (st' := [.int 2, .int 2]) (h' := (shT, fi, fl, fr)) rfl ?_
      refine gp_of (fun _ k9 => g_ict rfl (show (2 : Int32) ≤ (2 : Int32) from by decide) k9) ?_
      refine gp_n 1 (j' := 15) (lv' := [some (.ref 0), some (.int (nI b)), some (.int (nI p)), some (.int 2), none]) (st' := [.ref 0]) (h' := (shT, fi, fl, fr)) rfl ?_
      refine gp_of (fun _ k9 => g_callv (y := 81) (as := [.ref 0]) (st' := []) rfl rfl (e1) k9) ?_
      refine gp_n 2 (j' := 18) (lv' := [some (.ref 0), some (.int (nI b)), some (.int (nI p)), some (.int 2), none]) (st' := [.ref 0, .int (nI p)]) (h' := (shT, fi1, fl1, fr1)) rfl ?_
      refine gp_of (fun _ k9 => g_getR (q' := 13) rfl rfl (by decide) q8 k9) ?_
      refine gp_of (fun _ k9 => g_getR (q' := 22) rfl rfl (by decide) qT k9) ?_
      refine gp_of (fun _ k9 => g_getR (q' := 23) rfl rfl (by decide) q22 k9) ?_
      refine gp_n 1 (j' := 22) (lv' := [some (.ref 0), some (.int (nI b)), some (.int (nI p)), some (.int 2), none]) (st' := [.int (nI b), .ref 23, .int (nI p)]) (h' := (shT, fi1, fl1, fr1)) rfl ?_
      refine gp_of (fun _ k9 => g_iald (k := b) (x := nI P) rfl rfl (rfl) (by omega) (by decide) (cP) k9) ?_
      refine gp_of (fun _ k9 => g_icf rfl (show ¬ ((nI p) < (nI P)) from nI_nlt (by omega) hp) k9) ?_
      refine gp_n 1 (j' := 25) (lv' := [some (.ref 0), some (.int (nI b)), some (.int (nI p)), some (.int 2), none]) (st' := [.int (-2)]) (h' := (shT, fi1, fl1, fr1)) rfl ?_
      refine gp_done (g_ret rfl) ?_
      rfl
theorem pt_M {h h1 : PmH} {a : AB} {m k c l b p w : Nat} (hr : REL2 h a) (hb : 0 ≤ nI b ∧ nI b < (a_v a).1 1) (b64 : b < 2 ^ m) (m6 : m ≤ 6) (hl : (a_v a).1 6 = nI l) (l1 : 1 ≤ l) (l8 : l ≤ 8) (e1 : Ev pmT 191 [.ref 70, .int (nI l)] h none h1) (hx : mrI (a_v a).2.1 m (a_v a).2.2 l (2 ^ m) h1) (I1 : HI hdT shT h1) (hp : p < 2 ^ 31) (hw : w < 3) : Ev pmT 204 [.ref 70, .int (nI b), .int (nI p), .int (nI w)] h (some (.int (ptV (a_v a).2.1 m (a_v a).2.2 l b p w))) h1 := by
  have hI := hr.1.1
  have p6 := pw_6 m (by omega)
  have c0 : ph_i h 70 14 = (a_v a).1 1 := hr.1.2.2.1.2.2.2.2.1.1 0 (by decide)
  have c6 : ph_i h 70 20 = nI l := (hr.1.2.2.1.2.2.2.2.1.1 6 (by decide)).trans hl
  have t1 := ich1 (x := nI b) hI c0 hb
  have q31 : ph_r h1 70 31 = some 81 := hi_r I1 rfl rfl (by decide)
  have q32 : ph_r h1 70 32 = some 82 := hi_r I1 rfl rfl (by decide)
  have q33 : ph_r h1 70 33 = some 83 := hi_r I1 rfl rfl (by decide)
  have q34 : ph_r h1 70 34 = some 84 := hi_r I1 rfl rfl (by decide)
  have hP := rd_P (K := (a_v a).2.1) (m := m) (S := (a_v a).2.2) l1 (b + 1)
  obtain ⟨c1, cP, -⟩ := hx.2.2 b b64
  unfold ptV
  unfold mtI at c1
  generalize stpR (bl (a_v a).2.1 b) m (a_v a).2.2 (rdN (a_v a).2.1 m (a_v a).2.2 l b) b = sp at *
  generalize (rdN (a_v a).2.1 m (a_v a).2.2 l (b + 1)).2.2 = mt at *
  generalize (rdN (a_v a).2.1 m (a_v a).2.2 l (b + 1)).1 = P at *
  clear hr hx
  obtain ⟨S1, fi1, fl1, fr1⟩ := h1
  have s1 : S1 = shT := I1.1
  subst s1
  have q31 : fr1 70 31 = some 81 := q31
  have q32 : fr1 70 32 = some 82 := q32
  have q33 : fr1 70 33 = some 83 := q33
  have q34 : fr1 70 34 = some 84 := q34
  have cP : fi1 81 b = nI P := cP
  obtain ⟨S, fi, fl, fr⟩ := h
  have hS : S = shT := hI.1
  subst hS
  have c6 : fi 70 20 = nI l := c6
  have isi := fun (x : Int32) h => isin_1 (x := x) 0 2 (l1 := 0) (l2 := 2) (h := h) (by decide) (by decide)
  have w3 : w = 0 ∨ w = 1 ∨ w = 2 := by omega
  by_cases hq : p < P
  · rw [if_pos hq]
    have x82 : fi1 82 (8 * b + p) = mt p := (c1 p hq).1
    have x83 : fi1 83 (8 * b + p) = b01 (decide (sp p % 2 = 1)) := (c1 p hq).2.1
    have x84 : fi1 84 (8 * b + p) = nI (sp p / 2) := (c1 p hq).2.2
    have i8 : (8 : Int32) * nI b + nI p = nI (8 * b + p) := by rw [Int32.mul_comm]; exact ix8_e b (by omega) p (by omega)
    generalize mt p = u at *
    generalize b01 (decide (sp p % 2 = 1)) = v at *
    generalize nI (sp p / 2) = z at *
    rcases w3 with rfl | rfl | rfl
    · refine Ev.of (es := cd_204) (ml := 5) (lv := [some (.ref 70), some (.int (nI b)), some (.int (nI p)), some (.int 0), none]) rfl rfl rfl ?_
      rw [if_pos rfl]
      have isw := isi 0 (shT, fi, fl, fr) (by decide)
      refine go_of ?_
      refine gp_n 2 (j' := 2) (lv' := [some (.ref 70), some (.int (nI b)), some (.int (nI p)), some (.int 0), none]) (st' := [.int (nI b), .ref 70]) (h' := (shT, fi, fl, fr)) rfl ?_
      refine gp_of (fun _ k9 => g_call (y := 168) (as := [.ref 70, .int (nI b)]) (st' := []) rfl rfl (t1) k9) ?_
      refine gp_of (fun _ k9 => g_iff rfl (show ¬ ((1 : Int32) = (0 : Int32)) from by decide) k9) ?_
      refine gp_n 1 (j' := 5) (lv' := [some (.ref 70), some (.int (nI b)), some (.int (nI p)), some (.int 0), none]) (st' := [.int (nI p)]) (h' := (shT, fi, fl, fr)) rfl ?_
      refine gp_of (fun _ k9 => g_iff rfl (show ¬ ((nI p) < (0 : Int32)) from nI_pos hp) k9) ?_
      refine gp_n 4 (j' := 10) (lv' := [some (.ref 70), some (.int (nI b)), some (.int (nI p)), some (.int 0), none]) (st' := [.long 2, .long 0, .long 0]) (h' := (shT, fi, fl, fr)) rfl ?_
      refine gp_of (fun _ k9 => g_call (y := 148) (as := [.long 0, .long 0, .long 2]) (st' := []) rfl rfl (isw) k9) ?_
      refine gp_of (fun _ k9 => g_ift rfl (show ¬ (1 : Int32) = (0 : Int32) from by decide) k9) ?_
      refine gp_n 2 (j' := 16) (lv' := [some (.ref 70), some (.int (nI b)), some (.int (nI p)), some (.int 0), none]) (st' := [.ref 70, .ref 70]) (h' := (shT, fi, fl, fr)) rfl ?_
      refine gp_of (fun _ k9 => g_getI (x := nI l) rfl (Or.inl rfl) rfl (by decide) (c6) k9) ?_
      refine gp_of (fun _ k9 => g_callv (y := 191) (as := [.ref 70, .int (nI l)]) (st' := []) rfl rfl (e1) k9) ?_
      refine gp_n 2 (j' := 20) (lv' := [some (.ref 70), some (.int (nI b)), some (.int (nI p)), some (.int 0), none]) (st' := [.ref 70, .int (nI p)]) (h' := (shT, fi1, fl1, fr1)) rfl ?_
      refine gp_of (fun _ k9 => g_getR (q' := 81) rfl rfl (by decide) q31 k9) ?_
      refine gp_n 1 (j' := 22) (lv' := [some (.ref 70), some (.int (nI b)), some (.int (nI p)), some (.int 0), none]) (st' := [.int (nI b), .ref 81, .int (nI p)]) (h' := (shT, fi1, fl1, fr1)) rfl ?_
      refine gp_of (fun _ k9 => g_iald (k := b) (x := nI P) rfl rfl (rfl) (by omega) (by decide) (cP) k9) ?_
      refine gp_of (fun _ k9 => g_ict rfl (show (nI p) < (nI P) from nI_lt hq (by omega)) k9) ?_
      refine gp_n 5 (j' := 31) (lv' := [some (.ref 70), some (.int (nI b)), some (.int (nI p)), some (.int 0), none]) (st' := [.int (((8 : Int32) * (nI b)) + (nI p))]) (h' := (shT, fi1, fl1, fr1)) rfl ?_
      rw [i8]
      refine gp_n 2 (j' := 33) (lv' := [some (.ref 70), some (.int (nI b)), some (.int (nI p)), some (.int 0), some (.int (nI (8 * b + p)))]) (st' := [.int 0]) (h' := (shT, fi1, fl1, fr1)) rfl ?_
      refine gp_of (fun _ k9 => g_iff rfl (show ¬ (¬ (0 : Int32) = (0 : Int32)) from by decide) k9) ?_
      refine gp_n 1 (j' := 35) (lv' := [some (.ref 70), some (.int (nI b)), some (.int (nI p)), some (.int 0), some (.int (nI (8 * b + p)))]) (st' := [.ref 70]) (h' := (shT, fi1, fl1, fr1)) rfl ?_
      refine gp_of (fun _ k9 => g_getR (q' := 82) rfl rfl (by decide) q32 k9) ?_
      refine gp_n 1 (j' := 37) (lv' := [some (.ref 70), some (.int (nI b)), some (.int (nI p)), some (.int 0), some (.int (nI (8 * b + p)))]) (st' := [.int (nI (8 * b + p)), .ref 82]) (h' := (shT, fi1, fl1, fr1)) rfl ?_
      refine gp_of (fun _ k9 => g_iald (k := 8 * b + p) (x := u) rfl rfl (rfl) (by omega) (by decide) (x82) k9) ?_
      refine gp_n 1 (j' := 51) (lv' := [some (.ref 70), some (.int (nI b)), some (.int (nI p)), some (.int 0), some (.int (nI (8 * b + p)))]) (st' := [.int u]) (h' := (shT, fi1, fl1, fr1)) rfl ?_
      refine gp_done (g_ret rfl) ?_
      rfl
    · refine Ev.of (es := cd_204) (ml := 5) (lv := [some (.ref 70), some (.int (nI b)), some (.int (nI p)), some (.int 1), none]) rfl rfl rfl ?_
      rw [if_neg (by decide), if_pos rfl]
      have isw := isi 1 (shT, fi, fl, fr) (by decide)
      refine go_of ?_
      refine gp_n 2 (j' := 2) (lv' := [some (.ref 70), some (.int (nI b)), some (.int (nI p)), some (.int 1), none]) (st' := [.int (nI b), .ref 70]) (h' := (shT, fi, fl, fr)) rfl ?_
      refine gp_of (fun _ k9 => g_call (y := 168) (as := [.ref 70, .int (nI b)]) (st' := []) rfl rfl (t1) k9) ?_
      refine gp_of (fun _ k9 => g_iff rfl (show ¬ ((1 : Int32) = (0 : Int32)) from by decide) k9) ?_
      refine gp_n 1 (j' := 5) (lv' := [some (.ref 70), some (.int (nI b)), some (.int (nI p)), some (.int 1), none]) (st' := [.int (nI p)]) (h' := (shT, fi, fl, fr)) rfl ?_
      refine gp_of (fun _ k9 => g_iff rfl (show ¬ ((nI p) < (0 : Int32)) from nI_pos hp) k9) ?_
      refine gp_n 4 (j' := 10) (lv' := [some (.ref 70), some (.int (nI b)), some (.int (nI p)), some (.int 1), none]) (st' := [.long 2, .long 0, .long 1]) (h' := (shT, fi, fl, fr)) rfl ?_
      refine gp_of (fun _ k9 => g_call (y := 148) (as := [.long 1, .long 0, .long 2]) (st' := []) rfl rfl (isw) k9) ?_
      refine gp_of (fun _ k9 => g_ift rfl (show ¬ (1 : Int32) = (0 : Int32) from by decide) k9) ?_
      refine gp_n 2 (j' := 16) (lv' := [some (.ref 70), some (.int (nI b)), some (.int (nI p)), some (.int 1), none]) (st' := [.ref 70, .ref 70]) (h' := (shT, fi, fl, fr)) rfl ?_
      refine gp_of (fun _ k9 => g_getI (x := nI l) rfl (Or.inl rfl) rfl (by decide) (c6) k9) ?_
      refine gp_of (fun _ k9 => g_callv (y := 191) (as := [.ref 70, .int (nI l)]) (st' := []) rfl rfl (e1) k9) ?_
      refine gp_n 2 (j' := 20) (lv' := [some (.ref 70), some (.int (nI b)), some (.int (nI p)), some (.int 1), none]) (st' := [.ref 70, .int (nI p)]) (h' := (shT, fi1, fl1, fr1)) rfl ?_
      refine gp_of (fun _ k9 => g_getR (q' := 81) rfl rfl (by decide) q31 k9) ?_
      refine gp_n 1 (j' := 22) (lv' := [some (.ref 70), some (.int (nI b)), some (.int (nI p)), some (.int 1), none]) (st' := [.int (nI b), .ref 81, .int (nI p)]) (h' := (shT, fi1, fl1, fr1)) rfl ?_
      refine gp_of (fun _ k9 => g_iald (k := b) (x := nI P) rfl rfl (rfl) (by omega) (by decide) (cP) k9) ?_
      refine gp_of (fun _ k9 => g_ict rfl (show (nI p) < (nI P) from nI_lt hq (by omega)) k9) ?_
      refine gp_n 5 (j' := 31) (lv' := [some (.ref 70), some (.int (nI b)), some (.int (nI p)), some (.int 1), none]) (st' := [.int (((8 : Int32) * (nI b)) + (nI p))]) (h' := (shT, fi1, fl1, fr1)) rfl ?_
      rw [i8]
      refine gp_n 2 (j' := 33) (lv' := [some (.ref 70), some (.int (nI b)), some (.int (nI p)), some (.int 1), some (.int (nI (8 * b + p)))]) (st' := [.int 1]) (h' := (shT, fi1, fl1, fr1)) rfl ?_
      refine gp_of (fun _ k9 => g_ift rfl (show ¬ (1 : Int32) = (0 : Int32) from by decide) k9) ?_
      refine gp_n 2 (j' := 41) (lv' := [some (.ref 70), some (.int (nI b)), some (.int (nI p)), some (.int 1), some (.int (nI (8 * b + p)))]) (st' := [.int 1, .int 1]) (h' := (shT, fi1, fl1, fr1)) rfl ?_
      refine gp_of (fun _ k9 => g_icf rfl (show ¬ (¬ (1 : Int32) = (1 : Int32)) from by decide) k9) ?_
      refine gp_n 1 (j' := 43) (lv' := [some (.ref 70), some (.int (nI b)), some (.int (nI p)), some (.int 1), some (.int (nI (8 * b + p)))]) (st' := [.ref 70]) (h' := (shT, fi1, fl1, fr1)) rfl ?_
      refine gp_of (fun _ k9 => g_getR (q' := 83) rfl rfl (by decide) q33 k9) ?_
      refine gp_n 1 (j' := 45) (lv' := [some (.ref 70), some (.int (nI b)), some (.int (nI p)), some (.int 1), some (.int (nI (8 * b + p)))]) (st' := [.int (nI (8 * b + p)), .ref 83]) (h' := (shT, fi1, fl1, fr1)) rfl ?_
      refine gp_of (fun _ k9 => g_iald (k := 8 * b + p) (x := v) rfl rfl (rfl) (by omega) (by decide) (x83) k9) ?_
      refine gp_n 1 (j' := 51) (lv' := [some (.ref 70), some (.int (nI b)), some (.int (nI p)), some (.int 1), some (.int (nI (8 * b + p)))]) (st' := [.int v]) (h' := (shT, fi1, fl1, fr1)) rfl ?_
      refine gp_done (g_ret rfl) ?_
      rfl
    · refine Ev.of (es := cd_204) (ml := 5) (lv := [some (.ref 70), some (.int (nI b)), some (.int (nI p)), some (.int 2), none]) rfl rfl rfl ?_
      rw [if_neg (by decide), if_neg (by decide)]
      have isw := isi 2 (shT, fi, fl, fr) (by decide)
      refine go_of ?_
      refine gp_n 2 (j' := 2) (lv' := [some (.ref 70), some (.int (nI b)), some (.int (nI p)), some (.int 2), none]) (st' := [.int (nI b), .ref 70]) (h' := (shT, fi, fl, fr)) rfl ?_
      refine gp_of (fun _ k9 => g_call (y := 168) (as := [.ref 70, .int (nI b)]) (st' := []) rfl rfl (t1) k9) ?_
      refine gp_of (fun _ k9 => g_iff rfl (show ¬ ((1 : Int32) = (0 : Int32)) from by decide) k9) ?_
      refine gp_n 1 (j' := 5) (lv' := [some (.ref 70), some (.int (nI b)), some (.int (nI p)), some (.int 2), none]) (st' := [.int (nI p)]) (h' := (shT, fi, fl, fr)) rfl ?_
      refine gp_of (fun _ k9 => g_iff rfl (show ¬ ((nI p) < (0 : Int32)) from nI_pos hp) k9) ?_
      refine gp_n 4 (j' := 10) (lv' := [some (.ref 70), some (.int (nI b)), some (.int (nI p)), some (.int 2), none]) (st' := [.long 2, .long 0, .long 2]) (h' := (shT, fi, fl, fr)) rfl ?_
      refine gp_of (fun _ k9 => g_call (y := 148) (as := [.long 2, .long 0, .long 2]) (st' := []) rfl rfl (isw) k9) ?_
      refine gp_of (fun _ k9 => g_ift rfl (show ¬ (1 : Int32) = (0 : Int32) from by decide) k9) ?_
      refine gp_n 2 (j' := 16) (lv' := [some (.ref 70), some (.int (nI b)), some (.int (nI p)), some (.int 2), none]) (st' := [.ref 70, .ref 70]) (h' := (shT, fi, fl, fr)) rfl ?_
      refine gp_of (fun _ k9 => g_getI (x := nI l) rfl (Or.inl rfl) rfl (by decide) (c6) k9) ?_
      refine gp_of (fun _ k9 => g_callv (y := 191) (as := [.ref 70, .int (nI l)]) (st' := []) rfl rfl (e1) k9) ?_
      refine gp_n 2 (j' := 20) (lv' := [some (.ref 70), some (.int (nI b)), some (.int (nI p)), some (.int 2), none]) (st' := [.ref 70, .int (nI p)]) (h' := (shT, fi1, fl1, fr1)) rfl ?_
      refine gp_of (fun _ k9 => g_getR (q' := 81) rfl rfl (by decide) q31 k9) ?_
      refine gp_n 1 (j' := 22) (lv' := [some (.ref 70), some (.int (nI b)), some (.int (nI p)), some (.int 2), none]) (st' := [.int (nI b), .ref 81, .int (nI p)]) (h' := (shT, fi1, fl1, fr1)) rfl ?_
      refine gp_of (fun _ k9 => g_iald (k := b) (x := nI P) rfl rfl (rfl) (by omega) (by decide) (cP) k9) ?_
      refine gp_of (fun _ k9 => g_ict rfl (show (nI p) < (nI P) from nI_lt hq (by omega)) k9) ?_
      refine gp_n 5 (j' := 31) (lv' := [some (.ref 70), some (.int (nI b)), some (.int (nI p)), some (.int 2), none]) (st' := [.int (((8 : Int32) * (nI b)) + (nI p))]) (h' := (shT, fi1, fl1, fr1)) rfl ?_
      rw [i8]
      refine gp_n 2 (j' := 33) (lv' := [some (.ref 70), some (.int (nI b)), some (.int (nI p)), some (.int 2), some (.int (nI (8 * b + p)))]) (st' := [.int 2]) (h' := (shT, fi1, fl1, fr1)) rfl ?_
      refine gp_of (fun _ k9 => g_ift rfl (show ¬ (2 : Int32) = (0 : Int32) from by decide) k9) ?_
      refine gp_n 2 (j' := 41) (lv' := [some (.ref 70), some (.int (nI b)), some (.int (nI p)), some (.int 2), some (.int (nI (8 * b + p)))]) (st' := [.int 1, .int 2]) (h' := (shT, fi1, fl1, fr1)) rfl ?_
      refine gp_of (fun _ k9 => g_ict rfl (show ¬ (2 : Int32) = (1 : Int32) from by decide) k9) ?_
      refine gp_n 1 (j' := 48) (lv' := [some (.ref 70), some (.int (nI b)), some (.int (nI p)), some (.int 2), some (.int (nI (8 * b + p)))]) (st' := [.ref 70]) (h' := (shT, fi1, fl1, fr1)) rfl ?_
      refine gp_of (fun _ k9 => g_getR (q' := 84) rfl rfl (by decide) q34 k9) ?_
      refine gp_n 1 (j' := 50) (lv' := [some (.ref 70), some (.int (nI b)), some (.int (nI p)), some (.int 2), some (.int (nI (8 * b + p)))]) (st' := [.int (nI (8 * b + p)), .ref 84]) (h' := (shT, fi1, fl1, fr1)) rfl ?_
      refine gp_of (fun _ k9 => g_iald (k := 8 * b + p) (x := z) rfl rfl (rfl) (by omega) (by decide) (x84) k9) ?_
      refine gp_done (g_ret rfl) ?_
      rfl
  · rw [if_neg hq]
    rcases w3 with rfl | rfl | rfl
    · refine Ev.of (es := cd_204) (ml := 5) (lv := [some (.ref 70), some (.int (nI b)), some (.int (nI p)), some (.int 0), none]) rfl rfl rfl ?_
      have isw := isi 0 (shT, fi, fl, fr) (by decide)
      refine go_of ?_
      refine gp_n 2 (j' := 2) (lv' := [some (.ref 70), some (.int (nI b)), some (.int (nI p)), some (.int 0), none]) (st' := [.int (nI b), .ref 70]) (h' := (shT, fi, fl, fr)) rfl ?_
      refine gp_of (fun _ k9 => g_call (y := 168) (as := [.ref 70, .int (nI b)]) (st' := []) rfl rfl (t1) k9) ?_
      refine gp_of (fun _ k9 => g_iff rfl (show ¬ ((1 : Int32) = (0 : Int32)) from by decide) k9) ?_
      refine gp_n 1 (j' := 5) (lv' := [some (.ref 70), some (.int (nI b)), some (.int (nI p)), some (.int 0), none]) (st' := [.int (nI p)]) (h' := (shT, fi, fl, fr)) rfl ?_
      refine gp_of (fun _ k9 => g_iff rfl (show ¬ ((nI p) < (0 : Int32)) from nI_pos hp) k9) ?_
      refine gp_n 4 (j' := 10) (lv' := [some (.ref 70), some (.int (nI b)), some (.int (nI p)), some (.int 0), none]) (st' := [.long 2, .long 0, .long 0]) (h' := (shT, fi, fl, fr)) rfl ?_
      refine gp_of (fun _ k9 => g_call (y := 148) (as := [.long 0, .long 0, .long 2]) (st' := []) rfl rfl (isw) k9) ?_
      refine gp_of (fun _ k9 => g_ift rfl (show ¬ (1 : Int32) = (0 : Int32) from by decide) k9) ?_
      refine gp_n 2 (j' := 16) (lv' := [some (.ref 70), some (.int (nI b)), some (.int (nI p)), some (.int 0), none]) (st' := [.ref 70, .ref 70]) (h' := (shT, fi, fl, fr)) rfl ?_
      refine gp_of (fun _ k9 => g_getI (x := nI l) rfl (Or.inl rfl) rfl (by decide) (c6) k9) ?_
      refine gp_of (fun _ k9 => g_callv (y := 191) (as := [.ref 70, .int (nI l)]) (st' := []) rfl rfl (e1) k9) ?_
      refine gp_n 2 (j' := 20) (lv' := [some (.ref 70), some (.int (nI b)), some (.int (nI p)), some (.int 0), none]) (st' := [.ref 70, .int (nI p)]) (h' := (shT, fi1, fl1, fr1)) rfl ?_
      refine gp_of (fun _ k9 => g_getR (q' := 81) rfl rfl (by decide) q31 k9) ?_
      refine gp_n 1 (j' := 22) (lv' := [some (.ref 70), some (.int (nI b)), some (.int (nI p)), some (.int 0), none]) (st' := [.int (nI b), .ref 81, .int (nI p)]) (h' := (shT, fi1, fl1, fr1)) rfl ?_
      refine gp_of (fun _ k9 => g_iald (k := b) (x := nI P) rfl rfl (rfl) (by omega) (by decide) (cP) k9) ?_
      refine gp_of (fun _ k9 => g_icf rfl (show ¬ ((nI p) < (nI P)) from nI_nlt (by omega) hp) k9) ?_
      refine gp_n 1 (j' := 25) (lv' := [some (.ref 70), some (.int (nI b)), some (.int (nI p)), some (.int 0), none]) (st' := [.int (-2)]) (h' := (shT, fi1, fl1, fr1)) rfl ?_
      refine gp_done (g_ret rfl) ?_
      rfl
    · refine Ev.of (es := cd_204) (ml := 5) (lv := [some (.ref 70), some (.int (nI b)), some (.int (nI p)), some (.int 1), none]) rfl rfl rfl ?_
      have isw := isi 1 (shT, fi, fl, fr) (by decide)
      refine go_of ?_
      refine gp_n 2 (j' := 2) (lv' := [some (.ref 70), some (.int (nI b)), some (.int (nI p)), some (.int 1), none]) (st' := [.int (nI b), .ref 70]) (h' := (shT, fi, fl, fr)) rfl ?_
      refine gp_of (fun _ k9 => g_call (y := 168) (as := [.ref 70, .int (nI b)]) (st' := []) rfl rfl (t1) k9) ?_
      refine gp_of (fun _ k9 => g_iff rfl (show ¬ ((1 : Int32) = (0 : Int32)) from by decide) k9) ?_
      refine gp_n 1 (j' := 5) (lv' := [some (.ref 70), some (.int (nI b)), some (.int (nI p)), some (.int 1), none]) (st' := [.int (nI p)]) (h' := (shT, fi, fl, fr)) rfl ?_
      refine gp_of (fun _ k9 => g_iff rfl (show ¬ ((nI p) < (0 : Int32)) from nI_pos hp) k9) ?_
      refine gp_n 4 (j' := 10) (lv' := [some (.ref 70), some (.int (nI b)), some (.int (nI p)), some (.int 1), none]) (st' := [.long 2, .long 0, .long 1]) (h' := (shT, fi, fl, fr)) rfl ?_
      refine gp_of (fun _ k9 => g_call (y := 148) (as := [.long 1, .long 0, .long 2]) (st' := []) rfl rfl (isw) k9) ?_
      refine gp_of (fun _ k9 => g_ift rfl (show ¬ (1 : Int32) = (0 : Int32) from by decide) k9) ?_
      refine gp_n 2 (j' := 16) (lv' := [some (.ref 70), some (.int (nI b)), some (.int (nI p)), some (.int 1), none]) (st' := [.ref 70, .ref 70]) (h' := (shT, fi, fl, fr)) rfl ?_
      refine gp_of (fun _ k9 => g_getI (x := nI l) rfl (Or.inl rfl) rfl (by decide) (c6) k9) ?_
      refine gp_of (fun _ k9 => g_callv (y := 191) (as := [.ref 70, .int (nI l)]) (st' := []) rfl rfl (e1) k9) ?_
      refine gp_n 2 (j' := 20) (lv' := [some (.ref 70), some (.int (nI b)), some (.int (nI p)), some (.int 1), none]) (st' := [.ref 70, .int (nI p)]) (h' := (shT, fi1, fl1, fr1)) rfl ?_
      refine gp_of (fun _ k9 => g_getR (q' := 81) rfl rfl (by decide) q31 k9) ?_
      refine gp_n 1 (j' := 22) (lv' := [some (.ref 70), some (.int (nI b)), some (.int (nI p)), some (.int 1), none]) (st' := [.int (nI b), .ref 81, .int (nI p)]) (h' := (shT, fi1, fl1, fr1)) rfl ?_
      refine gp_of (fun _ k9 => g_iald (k := b) (x := nI P) rfl rfl (rfl) (by omega) (by decide) (cP) k9) ?_
      refine gp_of (fun _ k9 => g_icf rfl (show ¬ ((nI p) < (nI P)) from nI_nlt (by omega) hp) k9) ?_
      refine gp_n 1 (j' := 25) (lv' := [some (.ref 70), some (.int (nI b)), some (.int (nI p)), some (.int 1), none]) (st' := [.int (-2)]) (h' := (shT, fi1, fl1, fr1)) rfl ?_
      refine gp_done (g_ret rfl) ?_
      rfl
    · refine Ev.of (es := cd_204) (ml := 5) (lv := [some (.ref 70), some (.int (nI b)), some (.int (nI p)), some (.int 2), none]) rfl rfl rfl ?_
      have isw := isi 2 (shT, fi, fl, fr) (by decide)
      refine go_of ?_
      refine gp_n 2 (j' := 2) (lv' := [some (.ref 70), some (.int (nI b)), some (.int (nI p)), some (.int 2), none]) (st' := [.int (nI b), .ref 70]) (h' := (shT, fi, fl, fr)) rfl ?_
      refine gp_of (fun _ k9 => g_call (y := 168) (as := [.ref 70, .int (nI b)]) (st' := []) rfl rfl (t1) k9) ?_
      refine gp_of (fun _ k9 => g_iff rfl (show ¬ ((1 : Int32) = (0 : Int32)) from by decide) k9) ?_
      refine gp_n 1 (j' := 5) (lv' := [some (.ref 70), some (.int (nI b)), some (.int (nI p)), some (.int 2), none]) (st' := [.int (nI p)]) (h' := (shT, fi, fl, fr)) rfl ?_
      refine gp_of (fun _ k9 => g_iff rfl (show ¬ ((nI p) < (0 : Int32)) from nI_pos hp) k9) ?_
      refine gp_n 4 (j' := 10) (lv' := [some (.ref 70), some (.int (nI b)), some (.int (nI p)), some (.int 2), none]) (st' := [.long 2, .long 0, .long 2]) (h' := (shT, fi, fl, fr)) rfl ?_
      refine gp_of (fun _ k9 => g_call (y := 148) (as := [.long 2, .long 0, .long 2]) (st' := []) rfl rfl (isw) k9) ?_
      refine gp_of (fun _ k9 => g_ift rfl (show ¬ (1 : Int32) = (0 : Int32) from by decide) k9) ?_
      refine gp_n 2 (j' := 16) (lv' := [some (.ref 70), some (.int (nI b)), some (.int (nI p)), some (.int 2), none]) (st' := [.ref 70, .ref 70]) (h' := (shT, fi, fl, fr)) rfl ?_
      refine gp_of (fun _ k9 => g_getI (x := nI l) rfl (Or.inl rfl) rfl (by decide) (c6) k9) ?_
      refine gp_of (fun _ k9 => g_callv (y := 191) (as := [.ref 70, .int (nI l)]) (st' := []) rfl rfl (e1) k9) ?_
      refine gp_n 2 (j' := 20) (lv' := [some (.ref 70), some (.int (nI b)), some (.int (nI p)), some (.int 2), none]) (st' := [.ref 70, .int (nI p)]) (h' := (shT, fi1, fl1, fr1)) rfl ?_
      refine gp_of (fun _ k9 => g_getR (q' := 81) rfl rfl (by decide) q31 k9) ?_
      refine gp_n 1 (j' := 22) (lv' := [some (.ref 70), some (.int (nI b)), some (.int (nI p)), some (.int 2), none]) (st' := [.int (nI b), .ref 81, .int (nI p)]) (h' := (shT, fi1, fl1, fr1)) rfl ?_
      refine gp_of (fun _ k9 => g_iald (k := b) (x := nI P) rfl rfl (rfl) (by omega) (by decide) (cP) k9) ?_
      refine gp_of (fun _ k9 => g_icf rfl (show ¬ ((nI p) < (nI P)) from nI_nlt (by omega) hp) k9) ?_
      refine gp_n 1 (j' := 25) (lv' := [some (.ref 70), some (.int (nI b)), some (.int (nI p)), some (.int 2), none]) (st' := [.int (-2)]) (h' := (shT, fi1, fl1, fr1)) rfl ?_
      refine gp_done (g_ret rfl) ?_
      rfl
theorem pt_C0 {h : PmH} {a : AB} {x y z : Int32} (hr : REL3 h a) (hn : ¬ ((0 ≤ x ∧ x < (a_v a).1 1) ∧ ¬ y < 0 ∧ (0 ≤ z ∧ z ≤ 2))) : Ev pmT 110 [.ref 0, .int x, .int y, .int z] h (some (.int (-1))) h := by
  have hI := hr.1.1.1
  have t1 := hch1 (x := x) hI (hr.1.1.2.1.2.2.2.2.1.1 1 (by decide))
  have t0 := hch0 (x := x) hI (hr.1.1.2.1.2.2.2.2.1.1 1 (by decide))
  have k0 : ph_r h 0 0 = some 1 := hi_r hI rfl rfl (by decide)
  refine Ev.of (es := cd_110) (ml := 5) (lv := [some (.ref 0), some (.int x), some (.int y), some (.int z), none]) rfl rfl rfl ?_
  clear hr
  obtain ⟨S, fi, fl, fr⟩ := h
  have hS : S = shT := hI.1
  subst hS
  have k0 : fr 0 0 = some 1 := k0
  refine go_of ?_
  by_cases h0 : 0 ≤ x ∧ x < (a_v a).1 1
  · have t1 := t1 h0
    by_cases h1 : y < 0
    ·
      refine gp_n 1 (j' := 1) (lv' := [some (.ref 0), some (.int x), some (.int y), some (.int z), none]) (st' := [.ref 0]) (h' := (shT, fi, fl, fr)) rfl ?_
      refine gp_of (fun _ k9 => g_getR (q' := 1) rfl rfl (by decide) k0 k9) ?_
      refine gp_n 1 (j' := 3) (lv' := [some (.ref 0), some (.int x), some (.int y), some (.int z), none]) (st' := [.int x, .ref 1]) (h' := (shT, fi, fl, fr)) rfl ?_
      refine gp_of (fun _ k9 => g_call (y := 52) (as := [.ref 1, .int x]) (st' := []) rfl rfl (t1) k9) ?_
      refine gp_of (fun _ k9 => g_iff rfl (show ¬ ((1 : Int32) = (0 : Int32)) from by decide) k9) ?_
      refine gp_n 1 (j' := 6) (lv' := [some (.ref 0), some (.int x), some (.int y), some (.int z), none]) (st' := [.int y]) (h' := (shT, fi, fl, fr)) rfl ?_
      refine gp_of (fun _ k9 => g_ift rfl (show y < (0 : Int32) from h1) k9) ?_
      refine gp_n 1 (j' := 13) (lv' := [some (.ref 0), some (.int x), some (.int y), some (.int z), none]) (st' := [.int (-1)]) (h' := (shT, fi, fl, fr)) rfl ?_
      refine gp_done (g_ret rfl) ?_
      rfl
    · by_cases h2 : z < 0
      ·
        refine gp_n 1 (j' := 1) (lv' := [some (.ref 0), some (.int x), some (.int y), some (.int z), none]) (st' := [.ref 0]) (h' := (shT, fi, fl, fr)) rfl ?_
        refine gp_of (fun _ k9 => g_getR (q' := 1) rfl rfl (by decide) k0 k9) ?_
        refine gp_n 1 (j' := 3) (lv' := [some (.ref 0), some (.int x), some (.int y), some (.int z), none]) (st' := [.int x, .ref 1]) (h' := (shT, fi, fl, fr)) rfl ?_
        refine gp_of (fun _ k9 => g_call (y := 52) (as := [.ref 1, .int x]) (st' := []) rfl rfl (t1) k9) ?_
        refine gp_of (fun _ k9 => g_iff rfl (show ¬ ((1 : Int32) = (0 : Int32)) from by decide) k9) ?_
        refine gp_n 1 (j' := 6) (lv' := [some (.ref 0), some (.int x), some (.int y), some (.int z), none]) (st' := [.int y]) (h' := (shT, fi, fl, fr)) rfl ?_
        refine gp_of (fun _ k9 => g_iff rfl (show ¬ (y < (0 : Int32)) from h1) k9) ?_
        refine gp_n 1 (j' := 8) (lv' := [some (.ref 0), some (.int x), some (.int y), some (.int z), none]) (st' := [.int z]) (h' := (shT, fi, fl, fr)) rfl ?_
        refine gp_of (fun _ k9 => g_ift rfl (show z < (0 : Int32) from h2) k9) ?_
        refine gp_n 1 (j' := 13) (lv' := [some (.ref 0), some (.int x), some (.int y), some (.int z), none]) (st' := [.int (-1)]) (h' := (shT, fi, fl, fr)) rfl ?_
        refine gp_done (g_ret rfl) ?_
        rfl
      · have h3 : ¬ z ≤ 2 := fun q => hn ⟨h0, h1, Int32.not_lt.mp h2, q⟩
        refine gp_n 1 (j' := 1) (lv' := [some (.ref 0), some (.int x), some (.int y), some (.int z), none]) (st' := [.ref 0]) (h' := (shT, fi, fl, fr)) rfl ?_
        refine gp_of (fun _ k9 => g_getR (q' := 1) rfl rfl (by decide) k0 k9) ?_
        refine gp_n 1 (j' := 3) (lv' := [some (.ref 0), some (.int x), some (.int y), some (.int z), none]) (st' := [.int x, .ref 1]) (h' := (shT, fi, fl, fr)) rfl ?_
        refine gp_of (fun _ k9 => g_call (y := 52) (as := [.ref 1, .int x]) (st' := []) rfl rfl (t1) k9) ?_
        refine gp_of (fun _ k9 => g_iff rfl (show ¬ ((1 : Int32) = (0 : Int32)) from by decide) k9) ?_
        refine gp_n 1 (j' := 6) (lv' := [some (.ref 0), some (.int x), some (.int y), some (.int z), none]) (st' := [.int y]) (h' := (shT, fi, fl, fr)) rfl ?_
        refine gp_of (fun _ k9 => g_iff rfl (show ¬ (y < (0 : Int32)) from h1) k9) ?_
        refine gp_n 1 (j' := 8) (lv' := [some (.ref 0), some (.int x), some (.int y), some (.int z), none]) (st' := [.int z]) (h' := (shT, fi, fl, fr)) rfl ?_
        refine gp_of (fun _ k9 => g_iff rfl (show ¬ (z < (0 : Int32)) from h2) k9) ?_
        refine gp_n 2 (j' := 11) (lv' := [some (.ref 0), some (.int x), some (.int y), some (.int z), none]) (st' := [.int 2, .int z]) (h' := (shT, fi, fl, fr)) rfl ?_
        refine gp_of (fun _ k9 => g_icf rfl (show ¬ (z ≤ (2 : Int32)) from h3) k9) ?_
        refine gp_n 1 (j' := 13) (lv' := [some (.ref 0), some (.int x), some (.int y), some (.int z), none]) (st' := [.int (-1)]) (h' := (shT, fi, fl, fr)) rfl ?_
        refine gp_done (g_ret rfl) ?_
        rfl
  · have t0 := t0 h0
    refine gp_n 1 (j' := 1) (lv' := [some (.ref 0), some (.int x), some (.int y), some (.int z), none]) (st' := [.ref 0]) (h' := (shT, fi, fl, fr)) rfl ?_
    refine gp_of (fun _ k9 => g_getR (q' := 1) rfl rfl (by decide) k0 k9) ?_
    refine gp_n 1 (j' := 3) (lv' := [some (.ref 0), some (.int x), some (.int y), some (.int z), none]) (st' := [.int x, .ref 1]) (h' := (shT, fi, fl, fr)) rfl ?_
    refine gp_of (fun _ k9 => g_call (y := 52) (as := [.ref 1, .int x]) (st' := []) rfl rfl (t0) k9) ?_
    refine gp_of (fun _ k9 => g_ift rfl (show (0 : Int32) = (0 : Int32) from by decide) k9) ?_
    refine gp_n 1 (j' := 13) (lv' := [some (.ref 0), some (.int x), some (.int y), some (.int z), none]) (st' := [.int (-1)]) (h' := (shT, fi, fl, fr)) rfl ?_
    refine gp_done (g_ret rfl) ?_
    rfl
theorem pt_M0 {h : PmH} {a : AB} {x y z : Int32} (hr : REL3 h a) (hn : ¬ ((0 ≤ x ∧ x < (a_v a).1 1) ∧ ¬ y < 0 ∧ (0 ≤ z ∧ z ≤ 2))) : Ev pmT 204 [.ref 70, .int x, .int y, .int z] h (some (.int (-1))) h := by
  have hI := hr.1.1.1
  have c0 : ph_i h 70 14 = (a_v a).1 1 := hr.1.1.2.2.1.2.2.2.2.1.1 0 (by decide)
  have t1 := ich1 (x := x) hI c0
  have t0 := ich0 (x := x) hI c0
  refine Ev.of (es := cd_204) (ml := 5) (lv := [some (.ref 70), some (.int x), some (.int y), some (.int z), none]) rfl rfl rfl ?_
  clear hr
  obtain ⟨S, fi, fl, fr⟩ := h
  have hS : S = shT := hI.1
  subst hS
  refine go_of ?_
  by_cases h0 : 0 ≤ x ∧ x < (a_v a).1 1
  · have t1 := t1 h0
    by_cases h1 : y < 0
    ·
      refine gp_n 2 (j' := 2) (lv' := [some (.ref 70), some (.int x), some (.int y), some (.int z), none]) (st' := [.int x, .ref 70]) (h' := (shT, fi, fl, fr)) rfl ?_
      refine gp_of (fun _ k9 => g_call (y := 168) (as := [.ref 70, .int x]) (st' := []) rfl rfl (t1) k9) ?_
      refine gp_of (fun _ k9 => g_iff rfl (show ¬ ((1 : Int32) = (0 : Int32)) from by decide) k9) ?_
      refine gp_n 1 (j' := 5) (lv' := [some (.ref 70), some (.int x), some (.int y), some (.int z), none]) (st' := [.int y]) (h' := (shT, fi, fl, fr)) rfl ?_
      refine gp_of (fun _ k9 => g_ift rfl (show y < (0 : Int32) from h1) k9) ?_
      refine gp_n 1 (j' := 13) (lv' := [some (.ref 70), some (.int x), some (.int y), some (.int z), none]) (st' := [.int (-1)]) (h' := (shT, fi, fl, fr)) rfl ?_
      refine gp_done (g_ret rfl) ?_
      rfl
    · have isw := isin_0 (x := z) 0 2 (l1 := 0) (l2 := 2) (h := (shT, fi, fl, fr)) (by decide) (by decide) (fun q => hn ⟨h0, h1, q⟩)
      refine gp_n 2 (j' := 2) (lv' := [some (.ref 70), some (.int x), some (.int y), some (.int z), none]) (st' := [.int x, .ref 70]) (h' := (shT, fi, fl, fr)) rfl ?_
      refine gp_of (fun _ k9 => g_call (y := 168) (as := [.ref 70, .int x]) (st' := []) rfl rfl (t1) k9) ?_
      refine gp_of (fun _ k9 => g_iff rfl (show ¬ ((1 : Int32) = (0 : Int32)) from by decide) k9) ?_
      refine gp_n 1 (j' := 5) (lv' := [some (.ref 70), some (.int x), some (.int y), some (.int z), none]) (st' := [.int y]) (h' := (shT, fi, fl, fr)) rfl ?_
      refine gp_of (fun _ k9 => g_iff rfl (show ¬ (y < (0 : Int32)) from h1) k9) ?_
      refine gp_n 4 (j' := 10) (lv' := [some (.ref 70), some (.int x), some (.int y), some (.int z), none]) (st' := [.long 2, .long 0, .long z.toInt64]) (h' := (shT, fi, fl, fr)) rfl ?_
      refine gp_of (fun _ k9 => g_call (y := 148) (as := [.long z.toInt64, .long 0, .long 2]) (st' := []) rfl rfl (isw) k9) ?_
      refine gp_of (fun _ k9 => g_iff rfl (show ¬ (¬ (0 : Int32) = (0 : Int32)) from by decide) k9) ?_
      refine gp_n 1 (j' := 13) (lv' := [some (.ref 70), some (.int x), some (.int y), some (.int z), none]) (st' := [.int (-1)]) (h' := (shT, fi, fl, fr)) rfl ?_
      refine gp_done (g_ret rfl) ?_
      rfl
  · have t0 := t0 h0
    refine gp_n 2 (j' := 2) (lv' := [some (.ref 70), some (.int x), some (.int y), some (.int z), none]) (st' := [.int x, .ref 70]) (h' := (shT, fi, fl, fr)) rfl ?_
    refine gp_of (fun _ k9 => g_call (y := 168) (as := [.ref 70, .int x]) (st' := []) rfl rfl (t0) k9) ?_
    refine gp_of (fun _ k9 => g_ift rfl (show (0 : Int32) = (0 : Int32) from by decide) k9) ?_
    refine gp_n 1 (j' := 13) (lv' := [some (.ref 70), some (.int x), some (.int y), some (.int z), none]) (st' := [.int (-1)]) (h' := (shT, fi, fl, fr)) rfl ?_
    refine gp_done (g_ret rfl) ?_
    rfl
theorem p3_path {h : PmH} {a : AB} (x y z : Int32) (hr : REL3 h a) : PI3 110 204 [.int x, .int y, .int z] h (fun x y => x = y) := by
  have hI := hr.1.1.1
  by_cases hn : (0 ≤ x ∧ x < (a_v a).1 1) ∧ ¬ y < 0 ∧ (0 ≤ z ∧ z ≤ 2)
  · obtain ⟨hx, hy, hz⟩ := id hn
    have h0 : 0 < (a_v a).1 1 := Int32.lt_of_le_of_lt hx.1 hx.2
    obtain ⟨p, hp, rfl⟩ := nI_of hy
    obtain ⟨w, hw, rfl⟩ : ∃ w, w < 3 ∧ z = nI w := by
      obtain ⟨j, j1, j2⟩ := nI_of2 (n := 2) (M := 2) rfl (Int32.not_lt.mpr hz.1) hz.2
      exact ⟨j, by omega, j2⟩
    obtain ⟨b, b1, rfl, b2⟩ := ix_of (n_le hI hr.1.1.2.1) hx
    obtain ⟨m, k, c, l, vk, hl, l1, l8⟩ := rd_get hr h0
    have p6 := pw_6 m (by have := vk.1; omega)
    have bN : b < 2 ^ m := by
      rw [vk.2.2.2.1, nI_toInt (by omega)] at b2
      omega
    obtain ⟨h1, e1, x1, I1, F1⟩ := rh_C hr vk hl l1 l8
    have r1 := rd_pair hr vk l1 l8 x1 I1 F1
    obtain ⟨h2, e2, I2, x2, F2⟩ := run_M r1.1 vk l1 l8
    have r2 := rd_pairM r1 I2 F2
    exact ⟨_, _, h1, h2, a, pt_C hr hx bN vk.1 l1 l8 e1 x1 I1 hp hw, pt_M (k := k) (c := c) r1.1 hx bN vk.1 hl l1 l8 e2 x2 I2 hp hw, r2, I1, rfl⟩
  · exact ⟨_, _, h, h, a, pt_C0 hr hn, pt_M0 hr hn, hr, hI, rfl⟩
