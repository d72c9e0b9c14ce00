theorem sm_C0 {L : Bool} {h : PmH} {a : AB} {x : Int32} (hI : HI hdT shT h) (hR : QC L h a) (hc : ¬ (0 ≤ x ∧ x < (a_v a).1 1)) : Ev pmT 74 [.ref 0, .int x] h (some (.int (-2147483648))) h := by
  have k0 : ph_r h 0 0 = some 1 := hi_r hI rfl rfl (by decide)
  have t0 := hch0 (x := x) hI (hR.2.2.2.2.1.1 1 (by decide)) hc
  refine Ev.of (es := cd_74) (ml := 2) (lv := [some (.ref 0), some (.int x)]) rfl rfl rfl ?_
  obtain ⟨S, fi, fl, fr⟩ := h
  have hS : S = shT := hI.1
  subst hS
  have k0 : fr 0 0 = some 1 := k0
  refine go_of ?_
  refine gp_n 1 (j' := 1) (lv' := [some (.ref 0), some (.int x)]) (st' := [.ref 0]) (h' := (shT, fi, fl, fr)) rfl ?_
  refine gp_of (fun _ k9 => g_getR (q' := 1) rfl rfl (by decide) k0 k9) ?_
  refine gp_n 1 (j' := 3) (lv' := [some (.ref 0), some (.int x)]) (st' := [.int x, .ref 1]) (h' := (shT, fi, fl, fr)) rfl ?_
  refine gp_of (fun _ k9 => g_call (y := 52) (as := [.ref 1, .int x]) (st' := []) rfl rfl (t0) k9) ?_
  refine gp_of (fun _ k9 => g_ift rfl (show (0 : Int32) = (0 : Int32) from by decide) k9) ?_
  refine gp_n 1 (j' := 12) (lv' := [some (.ref 0), some (.int x)]) (st' := [.int (-2147483648)]) (h' := (shT, fi, fl, fr)) rfl ?_
  refine gp_done (g_ret rfl) ?_
  rfl
theorem sm_C1 {h : PmH} {a : AB} {b : Nat} (hI : HI hdT shT h) (hR : QC true h a) (hb : b < 64) (hc : 0 ≤ nI b ∧ nI b < (a_v a).1 1) : Ev pmT 74 [.ref 0, .int (nI b)] h (some (.int ((a_v a).2.2 b))) h := by
  have k0 : ph_r h 0 0 = some 1 := hi_r hI rfl rfl (by decide)
  have k8 : ph_r h 1 8 = some 2 := hi_r hI rfl rfl (by decide)
  have t1 := hch1 (x := nI b) hI (hR.2.2.2.2.1.1 1 (by decide)) hc
  have s1 : ph_i h 2 b = (a_v a).2.2 b := (hR.2.2.2.2.1.2 rfl).2 b hb
  refine Ev.of (es := cd_74) (ml := 2) (lv := [some (.ref 0), some (.int (nI b))]) rfl rfl rfl ?_
  obtain ⟨S, fi, fl, fr⟩ := h
  have hS : S = shT := hI.1
  subst hS
  have k0 : fr 0 0 = some 1 := k0
  have k8 : fr 1 8 = some 2 := k8
  have s1 : fi 2 b = (a_v a).2.2 b := s1
  refine go_of ?_
  refine gp_n 1 (j' := 1) (lv' := [some (.ref 0), some (.int (nI b))]) (st' := [.ref 0]) (h' := (shT, fi, fl, fr)) rfl ?_
  refine gp_of (fun _ k9 => g_getR (q' := 1) rfl rfl (by decide) k0 k9) ?_
  refine gp_n 1 (j' := 3) (lv' := [some (.ref 0), some (.int (nI b))]) (st' := [.int (nI b), .ref 1]) (h' := (shT, fi, fl, fr)) rfl ?_
  refine gp_of (fun _ k9 => g_call (y := 52) (as := [.ref 1, .int (nI b)]) (st' := []) rfl rfl (t1) k9) ?_
  refine gp_of (fun _ k9 => g_iff rfl (show ¬ ((1 : Int32) = (0 : Int32)) from by decide) k9) ?_
  refine gp_n 1 (j' := 6) (lv' := [some (.ref 0), some (.int (nI b))]) (st' := [.ref 0]) (h' := (shT, fi, fl, fr)) rfl ?_
  refine gp_of (fun _ k9 => g_getR (q' := 1) rfl rfl (by decide) k0 k9) ?_
  refine gp_of (fun _ k9 => g_getR (q' := 2) rfl rfl (by decide) k8 k9) ?_
  refine gp_n 1 (j' := 9) (lv' := [some (.ref 0), some (.int (nI b))]) (st' := [.int (nI b), .ref 2]) (h' := (shT, fi, fl, fr)) rfl ?_
  refine gp_of (fun _ k9 => g_iald (k := b) (x := (a_v a).2.2 b) rfl rfl (rfl) (by omega) (by decide) (s1) k9) ?_
  refine gp_n 1 (j' := 12) (lv' := [some (.ref 0), some (.int (nI b))]) (st' := [.int ((a_v a).2.2 b)]) (h' := (shT, fi, fl, fr)) rfl ?_
  refine gp_done (g_ret rfl) ?_
  rfl
theorem sm_M0 {L : Bool} {h : PmH} {a : AB} {x : Int32} (hI : HI hdT shT h) (hR : QM L h a) (hc : ¬ (0 ≤ x ∧ x < (a_v a).1 1)) : Ev pmT 186 [.ref 70, .int x] h (some (.int (-2147483648))) h := by
  have t0 := ich0 (x := x) (n := (a_v a).1 1) hI (hR.2.2.2.2.1.1 0 (by decide)) hc
  refine Ev.of (es := cd_186) (ml := 2) (lv := [some (.ref 70), some (.int x)]) rfl rfl rfl ?_
  obtain ⟨S, fi, fl, fr⟩ := h
  have hS : S = shT := hI.1
  subst hS
  refine go_of ?_
  refine gp_n 2 (j' := 2) (lv' := [some (.ref 70), some (.int x)]) (st' := [.int x, .ref 70]) (h' := (shT, fi, fl, fr)) rfl ?_
  refine gp_of (fun _ k9 => g_call (y := 168) (as := [.ref 70, .int x]) (st' := []) rfl rfl (t0) k9) ?_
  refine gp_of (fun _ k9 => g_ift rfl (show (0 : Int32) = (0 : Int32) from by decide) k9) ?_
  refine gp_n 1 (j' := 10) (lv' := [some (.ref 70), some (.int x)]) (st' := [.int (-2147483648)]) (h' := (shT, fi, fl, fr)) rfl ?_
  refine gp_done (g_ret rfl) ?_
  rfl
theorem sm_M1 {h : PmH} {a : AB} {b : Nat} (hI : HI hdT shT h) (hR : QM true h a) (hb : b < 64) (hc : 0 ≤ nI b ∧ nI b < (a_v a).1 1) : Ev pmT 186 [.ref 70, .int (nI b)] h (some (.int ((a_v a).2.2 b))) h := by
  have k22 : ph_r h 70 22 = some 74 := hi_r hI rfl rfl (by decide)
  have t1 := ich1 (x := nI b) (n := (a_v a).1 1) hI (hR.2.2.2.2.1.1 0 (by decide)) hc
  have s1 : ph_i h 74 b = (a_v a).2.2 b := (hR.2.2.2.2.1.2 rfl).2 b hb
  refine Ev.of (es := cd_186) (ml := 2) (lv := [some (.ref 70), some (.int (nI b))]) rfl rfl rfl ?_
  obtain ⟨S, fi, fl, fr⟩ := h
  have hS : S = shT := hI.1
  subst hS
  have k22 : fr 70 22 = some 74 := k22
  have s1 : fi 74 b = (a_v a).2.2 b := s1
  refine go_of ?_
  refine gp_n 2 (j' := 2) (lv' := [some (.ref 70), some (.int (nI b))]) (st' := [.int (nI b), .ref 70]) (h' := (shT, fi, fl, fr)) rfl ?_
  refine gp_of (fun _ k9 => g_call (y := 168) (as := [.ref 70, .int (nI b)]) (st' := []) rfl rfl (t1) k9) ?_
  refine gp_of (fun _ k9 => g_iff rfl (show ¬ ((1 : Int32) = (0 : Int32)) from by decide) k9) ?_
  refine gp_n 1 (j' := 5) (lv' := [some (.ref 70), some (.int (nI b))]) (st' := [.ref 70]) (h' := (shT, fi, fl, fr)) rfl ?_
  refine gp_of (fun _ k9 => g_getR (q' := 74) rfl rfl (by decide) k22 k9) ?_
  refine gp_n 1 (j' := 7) (lv' := [some (.ref 70), some (.int (nI b))]) (st' := [.int (nI b), .ref 74]) (h' := (shT, fi, fl, fr)) rfl ?_
  refine gp_of (fun _ k9 => g_iald (k := b) (x := (a_v a).2.2 b) rfl rfl (rfl) (by omega) (by decide) (s1) k9) ?_
  refine gp_n 1 (j' := 10) (lv' := [some (.ref 70), some (.int (nI b))]) (st' := [.int ((a_v a).2.2 b)]) (h' := (shT, fi, fl, fr)) rfl ?_
  refine gp_done (g_ret rfl) ?_
  rfl
theorem wo_C0 {L : Bool} {h : PmH} {a : AB} {w : Int64} {k : Nat} (hI : HI hdT shT h) (hR : QC L h a) (hk : k ≤ 64) (e2 : (a_v a).1 2 = nI k) (hc : ¬ (0 < (a_v a).1 1 ∧ fitP k w)) : Ev pmT 55 [.ref 0, .long w] h (some (.long 0)) h := by
  have k0 : ph_r h 0 0 = some 1 := hi_r hI rfl rfl (by decide)
  have f := hR.2.2.2.2.1
  have t0 := fit0 (w := w) hI (f.1 1 (by decide)) ((f.1 2 (by decide)).trans e2) hk hc
  refine Ev.of (es := cd_55) (ml := 3) (lv := [some (.ref 0), some (.long w), none]) rfl rfl rfl ?_
  obtain ⟨S, fi, fl, fr⟩ := h
  have hS : S = shT := hI.1
  subst hS
  have k0 : fr 0 0 = some 1 := k0
  refine go_of ?_
  refine gp_n 1 (j' := 1) (lv' := [some (.ref 0), some (.long w), none]) (st' := [.ref 0]) (h' := (shT, fi, fl, fr)) rfl ?_
  refine gp_of (fun _ k9 => g_getR (q' := 1) rfl rfl (by decide) k0 k9) ?_
  refine gp_n 1 (j' := 3) (lv' := [some (.ref 0), some (.long w), none]) (st' := [.long w, .ref 1]) (h' := (shT, fi, fl, fr)) rfl ?_
  refine gp_of (fun _ k9 => g_call (y := 56) (as := [.ref 1, .long w]) (st' := []) rfl rfl (t0) k9) ?_
  refine gp_of (fun _ k9 => g_ift rfl (show (0 : Int32) = (0 : Int32) from by decide) k9) ?_
  refine gp_n 1 (j' := 11) (lv' := [some (.ref 0), some (.long w), none]) (st' := [.long 0]) (h' := (shT, fi, fl, fr)) rfl ?_
  refine gp_done (g_lret rfl) ?_
  rfl
theorem wo_C1 {h : PmH} {a : AB} {w : Int64} {m k c : Nat} (hI : HI hdT shT h) (hR : QC true h a) (hV : VK (a_v a) m k c) (hc : 0 < (a_v a).1 1 ∧ fitP k w) : ∃ w2, wdP m (2 ^ m) k c (a_v a).2.1 w ((a_v a).1 4) w2 ∧ Ev pmT 55 [.ref 0, .long w] h (some (.long w2)) h := by
  have k1 := vk_k hV
  obtain ⟨hm, hc8, v0, v1, v2, v3, vp, vt⟩ := hV
  have p6 := pw_6 m (by omega)
  have p64 := popc_le (a_v a).2.1
  have k0 : ph_r h 0 0 = some 1 := hi_r hI rfl rfl (by decide)
  have f := hR.2.2.2.2.1
  have t1 := fit1 (w := w) hI (f.1 1 (by decide)) ((f.1 2 (by decide)).trans v2) k1 hc.1 hc.2
  obtain ⟨w2, ev2, hw2⟩ := en_ev (m := m) (N := 2 ^ m) (k := k) (c := c) (K := (a_v a).2.1) (w := w) (po := (a_v a).1 4) hI hm p6.2 (by omega) hc8 hc.2 ((f.1 0 (by decide)).trans v0) ((f.1 1 (by decide)).trans v1) ((f.1 3 (by decide)).trans v3) ((f.1 2 (by decide)).trans v2) (f.1 4 (by decide)) (f.2 rfl).1
  refine ⟨w2, hw2, Ev.of (es := cd_55) (ml := 3) (lv := [some (.ref 0), some (.long w), none]) rfl rfl rfl ?_⟩
  obtain ⟨S, fi, fl, fr⟩ := h
  have hS : S = shT := hI.1
  subst hS
  have k0 : fr 0 0 = some 1 := k0
  refine go_of ?_
  refine gp_n 1 (j' := 1) (lv' := [some (.ref 0), some (.long w), none]) (st' := [.ref 0]) (h' := (shT, fi, fl, fr)) rfl ?_
  refine gp_of (fun _ k9 => g_getR (q' := 1) rfl rfl (by decide) k0 k9) ?_
  refine gp_n 1 (j' := 3) (lv' := [some (.ref 0), some (.long w), none]) (st' := [.long w, .ref 1]) (h' := (shT, fi, fl, fr)) rfl ?_
  refine gp_of (fun _ k9 => g_call (y := 56) (as := [.ref 1, .long w]) (st' := []) rfl rfl (t1) k9) ?_
  refine gp_of (fun _ k9 => g_iff rfl (show ¬ ((1 : Int32) = (0 : Int32)) from by decide) k9) ?_
  refine gp_n 1 (j' := 6) (lv' := [some (.ref 0), some (.long w), none]) (st' := [.ref 0]) (h' := (shT, fi, fl, fr)) rfl ?_
  refine gp_of (fun _ k9 => g_getR (q' := 1) rfl rfl (by decide) k0 k9) ?_
  refine gp_n 1 (j' := 8) (lv' := [some (.ref 0), some (.long w), none]) (st' := [.long w, .ref 1]) (h' := (shT, fi, fl, fr)) rfl ?_
  refine gp_of (fun _ k9 => g_call (y := 58) (as := [.ref 1, .long w]) (st' := []) rfl rfl (ev2) k9) ?_
  refine gp_n 1 (j' := 11) (lv' := [some (.ref 0), some (.long w), none]) (st' := [.long w2]) (h' := (shT, fi, fl, fr)) rfl ?_
  refine gp_done (g_lret rfl) ?_
  rfl
theorem wo_M0 {L : Bool} {h : PmH} {a : AB} {w : Int64} {k : Nat} (hI : HI hdT shT h) (hR : QM L h a) (hk : k ≤ 64) (e2 : (a_v a).1 2 = nI k) (hc : ¬ (0 < (a_v a).1 1 ∧ fitP k w)) : Ev pmT 170 [.ref 70, .long w] h (some (.long 0)) h := by
  have f := hR.2.2.2.2.1
  have c1 : ph_i h 70 14 = (a_v a).1 1 := f.1 0 (by decide)
  have c2 : ph_i h 70 16 = nI k := (f.1 2 (by decide)).trans e2
  have t0 := fitM0 (w := w) hI c1 c2 hk hc
  refine Ev.of (es := cd_170) (ml := 3) (lv := [some (.ref 70), some (.long w), none]) rfl rfl rfl ?_
  obtain ⟨S, fi, fl, fr⟩ := h
  have hS : S = shT := hI.1
  subst hS
  refine go_of ?_
  refine gp_n 2 (j' := 2) (lv' := [some (.ref 70), some (.long w), none]) (st' := [.long w, .ref 70]) (h' := (shT, fi, fl, fr)) rfl ?_
  refine gp_of (fun _ k9 => g_call (y := 171) (as := [.ref 70, .long w]) (st' := []) rfl rfl (t0) k9) ?_
  refine gp_of (fun _ k9 => g_ift rfl (show (0 : Int32) = (0 : Int32) from by decide) k9) ?_
  refine gp_n 1 (j' := 12) (lv' := [some (.ref 70), some (.long w), none]) (st' := [.long 0]) (h' := (shT, fi, fl, fr)) rfl ?_
  refine gp_done (g_lret rfl) ?_
  rfl
theorem wo_M1 {h : PmH} {a : AB} {w : Int64} {m k c : Nat} (hI : HI hdT shT h) (hR : QM true h a) (hV : VK (a_v a) m k c) (hc : 0 < (a_v a).1 1 ∧ fitP k w) : ∃ w2, wdP m (2 ^ m) k c (a_v a).2.1 w ((a_v a).1 4) w2 ∧ Ev pmT 170 [.ref 70, .long w] h (some (.long w2)) h := by
  have k1 := vk_k hV
  obtain ⟨hm, hc8, v0, v1, v2, v3, vp, vt⟩ := hV
  have p6 := pw_6 m (by omega)
  have f := hR.2.2.2.2.1
  have c1 : ph_i h 70 14 = (a_v a).1 1 := f.1 0 (by decide)
  have c2 : ph_i h 70 16 = nI k := (f.1 2 (by decide)).trans v2
  have n1 : ph_i h 70 14 = nI (2 ^ m) := c1.trans v1
  have t1 := fitM1 (w := w) hI c1 c2 k1 hc.1 hc.2
  obtain ⟨z, ev2, hz⟩ := ch_ev2 (N := 2 ^ m) (k := k) (c := c) (K := (a_v a).2.1) (w := w) (po := (a_v a).1 4) hI p6.2 vp hc8 n1 c2 ((f.1 3 (by decide)).trans v3) (f.1 4 (by decide)) (f.2 rfl).1
  obtain ⟨w2, ev3, hw2⟩ := wm_ev (m := m) (k := k) (c := c) (K := (a_v a).2.1) (w := w) (po := (a_v a).1 4) (h := h) hm hz
  refine ⟨w2, hw2, Ev.of (es := cd_170) (ml := 3) (lv := [some (.ref 70), some (.long w), none]) rfl rfl rfl ?_⟩
  obtain ⟨S, fi, fl, fr⟩ := h
  have hS : S = shT := hI.1
  subst hS
  have n1 : fi 70 14 = nI (2 ^ m) := n1
  refine go_of ?_
  refine gp_n 2 (j' := 2) (lv' := [some (.ref 70), some (.long w), none]) (st' := [.long w, .ref 70]) (h' := (shT, fi, fl, fr)) rfl ?_
  refine gp_of (fun _ k9 => g_call (y := 171) (as := [.ref 70, .long w]) (st' := []) rfl rfl (t1) k9) ?_
  refine gp_of (fun _ k9 => g_iff rfl (show ¬ ((1 : Int32) = (0 : Int32)) from by decide) k9) ?_
  refine gp_n 2 (j' := 6) (lv' := [some (.ref 70), some (.long w), none]) (st' := [.long w, .ref 70]) (h' := (shT, fi, fl, fr)) rfl ?_
  refine gp_of (fun _ k9 => g_call (y := 173) (as := [.ref 70, .long w]) (st' := []) rfl rfl (ev2) k9) ?_
  refine gp_n 1 (j' := 8) (lv' := [some (.ref 70), some (.long w), none]) (st' := [.ref 70, .long z]) (h' := (shT, fi, fl, fr)) rfl ?_
  refine gp_of (fun _ k9 => g_getI (x := nI (2 ^ m)) rfl (Or.inl rfl) rfl (by decide) (n1) k9) ?_
  refine gp_of (fun _ k9 => g_call (y := 175) (as := [.long z, .int (nI (2 ^ m))]) (st' := []) rfl rfl (ev3) k9) ?_
  refine gp_n 1 (j' := 12) (lv' := [some (.ref 70), some (.long w), none]) (st' := [.long w2]) (h' := (shT, fi, fl, fr)) rfl ?_
  refine gp_done (g_lret rfl) ?_
  rfl
section PAIR2
variable {h : PmH} {a : AB}
theorem p_sum (x : Int32) (hr : REL2 h a) : PI 74 186 [.int x] h (fun x y => x = y) := by
  obtain ⟨⟨hI, hC, hM, hA⟩, hV⟩ := id hr
  by_cases hc : 0 ≤ x ∧ x < (a_v a).1 1
  · obtain ⟨b, b1, rfl, -⟩ := ix_of (n_le hI hC) hc
    exact ⟨_, _, h, h, a, sm_C1 hI hC b1 hc, sm_M1 hI hM b1 hc, hr, hI, rfl⟩
  · exact ⟨_, _, h, h, a, sm_C0 hI hC hc, sm_M0 hI hM hc, hr, hI, rfl⟩
theorem p_word (w : Int64) (hr : REL2 h a) : PL 55 170 [.long w] h (fun x y => x = y) := by
  obtain ⟨⟨hI, hC, hM, hA⟩, hV⟩ := id hr
  by_cases h0 : 0 < (a_v a).1 1
  · obtain ⟨m, k, c, vk⟩ := vok_N hV.1 h0
    by_cases hp : 0 < (a_v a).1 1 ∧ fitP k w
    · obtain ⟨w1, q1, e1⟩ := wo_C1 hI hC vk hp
      obtain ⟨w2, q2, e2⟩ := wo_M1 hI hM vk hp
      exact ⟨_, _, h, h, a, e1, e2, hr, hI, wdP_eq q1 q2⟩
    · exact ⟨_, _, h, h, a, wo_C0 hI hC (vk_k vk) vk.2.2.2.2.1 hp, wo_M0 hI hM (vk_k vk) vk.2.2.2.2.1 hp, hr, hI, rfl⟩
  · obtain ⟨k, k1, k2⟩ := k_N hr
    have hp : ¬ (0 < (a_v a).1 1 ∧ fitP k w) := fun z => h0 z.1
    exact ⟨_, _, h, h, a, wo_C0 hI hC k1 k2 hp, wo_M0 hI hM k1 k2 hp, hr, hI, rfl⟩
theorem p_goodness (x : Int32) (hr : REL2 h a) : PL 51 167 [.int x] h (fun x y => x = y) := by
  obtain ⟨⟨hI, hC, hM, hA⟩, hV⟩ := id hr
  have hb := hi_i (lo := 0) (hi := 6) hI (p := 1) (c := 0) rfl rfl (by decide)
  rw [hC.2.2.2.2.1.1 0 (by decide)] at hb
  obtain ⟨m, e1, e2, -⟩ := i32_nI (y := (a_v a).1 0) hb.1
  exact ⟨_, _, h, h, a, god_C hI hC (by omega) e1, god_M hI hM (by omega) e1, hr, hI, rfl⟩
theorem p_check (w : Int64) (hr : REL2 h a) : PI 63 176 [.long w] h (fun x y => x = y) := by
  obtain ⟨⟨hI, hC, hM, hA⟩, hV⟩ := id hr
  obtain ⟨k, k1, k2⟩ := k_N hr
  have hb := hi_i (lo := 0) (hi := 8) hI (p := 1) (c := 3) rfl rfl (by decide)
  rw [hC.2.2.2.2.1.1 3 (by decide)] at hb
  obtain ⟨c, c1, c2, -⟩ := i32_nI (y := (a_v a).1 3) hb.1
  obtain ⟨x, e1, x1, x2⟩ := chk_C (w := w) hI hC k1 (show c ≤ 8 by omega) k2 c1
  obtain ⟨y, e2, y1, y2⟩ := chk_M (w := w) hI hM k1 (show c ≤ 8 by omega) k2 c1
  refine ⟨x, y, h, h, a, e1, e2, hr, hI, ?_⟩
  by_cases hp : 0 < (a_v a).1 1 ∧ fitP k w
  · rw [x1 hp, y1 hp]
  · rw [x2 hp, y2 hp]
end PAIR2
