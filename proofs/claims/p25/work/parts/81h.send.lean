def a_sx (x : Int32) (S : Nat → Int32) (a : AB) : AB := (a_tl a, a_tb a, x, ((a_v a).1, (a_v a).2.1, S), a_q a, a_p a, a_m a)
theorem QC_sx {W : WSt} {h h' : PmH} {a : AB} {x : Int32} {S : Nat → Int32} (hw : irC0 W = true) (hf : fram W h h') (hr : QC true h a) (ex : ph_i h' 0 13 = x) (es : ∀ s, s < 64 → ph_i h' 2 s = S s) : QC true h' (a_sx x S a) := by
  have e : ∀ p s, ((p < 8 ∧ ¬ p = 2 ∧ ¬ (p = 0 ∧ ¬ s < 13)) ∨ p = 10 ∨ (42 ≤ p ∧ p < 70)) → ph_i h' p s = ph_i h p s ∧ ph_l h' p s = ph_l h p s ∧ ph_r h' p s = ph_r h p s := fun p s hp => hf p s (irC0_in hw hp)
  have cc : ∀ o v, 42 ≤ o ∧ o + 1 < 70 → csC true h o v → csC true h' o v := fun o v ho hc => csC_fr hc (fun i _ => (e o i (by omega)).1) (e o 7 (by omega)).2.1 (fun s _ => (e (o + 1) s (by omega)).1)
  obtain ⟨⟨a1, a2, a3⟩, b, c, d, f, g, ⟨q, q1, q2, q3⟩, i⟩ := hr
  refine ⟨⟨fun j hj => ((e 3 j (by omega)).2.2).trans (a1 j hj), fun j hj => ((e 4 j (by omega)).2.2).trans (a2 j hj), fun s hs => ((e 10 s (by omega)).1).trans (a3 s hs)⟩, ((e 6 1 (by omega)).1).trans b, fun s => ((e 7 s (by omega)).1).trans (c s), fun _ => ex, ⟨fun i hi => ((e 1 i (by omega)).1).trans (f.1 i hi), fun _ => ⟨((e 1 7 (by omega)).2.1).trans (f.2 rfl).1, es⟩⟩, ((e 0 3 (by omega)).1).trans g, ⟨q, q1, ((e 0 2 (by omega)).1).trans q2, fun k hk => cc _ _ ⟨pst_in.1, by have := pst_in (e := q) (i := k); omega⟩ (q3 k hk)⟩, fun k hk => ?_⟩
  have ik := i k hk
  show match a_m a k with
    | none => _
    | some v => _
  cases hm : a_m a k with
  | none =>
    rw [hm] at ik
    exact ((e 5 k (by omega)).1).trans ik
  | some v =>
    rw [hm] at ik
    exact ⟨((e 5 k (by omega)).1).trans ik.1, cc _ _ (by omega) ik.2⟩
theorem QM_sx {W : WSt} {h h' : PmH} {a : AB} {x : Int32} {S : Nat → Int32} (hw : irM0 W = true) (hf : fram W h h') (hr : QM true h a) (ex : ph_i h' 70 23 = x) (es : ∀ s, s < 64 → ph_i h' 74 s = S s) : QM true h' (a_sx x S a) := by
  have e : ∀ p s, (p = 71 ∨ p = 72 ∨ (91 ≤ p) ∨ (p = 70 ∧ (s = 1 ∨ (14 ≤ s ∧ s < 22) ∨ s = 53))) → ph_i h' p s = ph_i h p s ∧ ph_l h' p s = ph_l h p s ∧ ph_r h' p s = ph_r h p s := fun p s hp => hf p s (irM0_in hw hp)
  obtain ⟨a1, b, c, d, f, g, q, i⟩ := hr
  have ch : ∀ r v, csH true h r v → csH true h' r v := fun r v hc => csH_fr hc (fun j _ => (e 91 _ (by omega)).1) (e 92 r (by omega)).2.1 (fun s _ => (e 91 _ (by omega)).1)
  refine ⟨fun j hj => ((e 72 j (by omega)).1).trans (a1 j hj), ((e 70 1 (by omega)).1).trans b, fun s => ((e 71 s (by omega)).1).trans (c s), fun _ => ex, ⟨fun j hj => ((e 70 (14 + j) (by omega)).1).trans (f.1 j hj), fun _ => ⟨((e 70 21 (by omega)).2.1).trans (f.2 rfl).1, es⟩⟩, ((e 70 53 (by omega)).1).trans g, fun k hk => ch _ _ (q k hk), fun k hk => ?_⟩
  have ik := i k hk
  show match a_m a k with
    | none => _
    | some v => _
  cases hm : a_m a k with
  | none =>
    rw [hm] at ik
    exact ((e 93 k (by omega)).1).trans ik
  | some v =>
    rw [hm] at ik
    exact ⟨((e 93 k (by omega)).1).trans ik.1, ch _ _ ik.2⟩
/-- what holds of a vector by itself -/
def VK (v : VS) (m k c : Nat) : Prop := m ≤ 6 ∧ c ≤ 8 ∧ v.1 0 = nI m ∧ v.1 1 = nI (2 ^ m) ∧ v.1 2 = nI k ∧ v.1 3 = nI c ∧ popc v.2.1 = k + c ∧ ∀ i, 2 ^ m ≤ i → i < 64 → bl v.2.1 i = false
def VSB (v : VS) : Prop := ∀ s, s < 64 → -127 ≤ (v.2.2 s).toInt ∧ (v.2.2 s).toInt ≤ 127
/-- a code has a bit and paths -/
def VX (v : VS) : Prop := v.1 1 = 0 ∨ ∃ k l, v.1 2 = nI k ∧ 1 ≤ k ∧ k ≤ 64 ∧ v.1 6 = nI l ∧ 1 ≤ l ∧ l ≤ 8
def VOK (v : VS) : Prop := (v.1 1 = 0 ∨ ∃ m k c, VK v m k c) ∧ VSB v ∧ VX v
theorem clp_bd (v : Int32) : -127 ≤ (clp v).toInt ∧ (clp v).toInt ≤ 127 := by
  have h9 : (127 : Int32).toInt = 127 := rfl
  have h8 : (-127 : Int32).toInt = -127 := rfl
  by_cases h1 : v ≤ 127
  · by_cases h2 : -127 ≤ v
    · rw [clp_md h1 h2]
      have i1 := Int32.le_iff_toInt_le.mp h1
      have i2 := Int32.le_iff_toInt_le.mp h2
      omega
    · rw [clp_lo h2]
      omega
  · rw [clp_hi h1]
    omega
def nS (N : Nat) (a b : Int32) (w : Int64) (x : Int32) (S : Nat → Int32) (s : Nat) : Int32 := if 0 ≤ s ∧ s < 0 + N then noi (fun x => drw x (2 * b + 1)) a b (bl w s) (itN lcg (s - 0) x) else S s
theorem nS_bd {N : Nat} {a b : Int32} {w : Int64} {x : Int32} {S : Nat → Int32} (hS : ∀ s, s < 64 → -127 ≤ (S s).toInt ∧ (S s).toInt ≤ 127) : ∀ s, s < 64 → -127 ≤ (nS N a b w x S s).toInt ∧ (nS N a b w x S s).toInt ≤ 127 := fun s hs => by
  unfold nS
  split
  · exact clp_bd _
  · exact hS s hs
theorem h_eta {h : PmH} (hI : HI hdT shT h) : h = (shT, ph_i h, ph_l h, ph_r h) := by
  have := hI.1
  rw [← this]
theorem snd_C2 {h : PmH} {a : AB} {w : Int64} {x y : Int32} {m k c : Nat} (hI : HI hdT shT h) (hR : QC true h a) (hq : a_q a ≤ 12) (hV : VK (a_v a) m k c) (hP : P_send w x y k a) : ∃ h' w2, wdP m (2 ^ m) k c (a_v a).2.1 w ((a_v a).1 4) w2 ∧ Ev pmT 70 [.ref 0, .long w, .int x, .int y] h (some (.int ((a_v a).1 1))) h' ∧ QC true h' (a_sx (itN lcg (2 ^ m) (a_x a)) (nS (2 ^ m) x y w2 (a_x a) (a_v a).2.2) (a_push a)) ∧ HI hdT shT h' ∧ fram (in_w iN_42) h h' := by
  obtain ⟨hm, hc8, v0, v1, v2, v3, vp, vt⟩ := hV
  have p6 := pw_6 m (by omega)
  have p64 := popc_le (a_v a).2.1
  have hk : k ≤ 64 := by omega
  have f := hR.2.2.2.2.1
  have c1 := f.1 1 (by decide)
  have c2 := (f.1 2 (by decide)).trans v2
  have k0 : ph_r h 0 0 = some 1 := hi_r hI rfl rfl (by decide)
  have t1 := fit1 (w := w) hI c1 c2 hk hP.1.1 hP.1.2
  have x1 := iss1 (x := x) hI hP.2.1
  have y1 := iss1 (x := y) hI hP.2.2
  obtain ⟨h1, ev1, R1, I1, F1⟩ := rem_ev hI hR hq
  have g1 := R1.2.2.2.2.1
  obtain ⟨w2, ev2, hw2⟩ := en_ev (m := m) (N := 2 ^ m) (k := k) (c := c) (K := (a_v a).2.1) (w := w) (po := (a_v a).1 4) I1 hm p6.2 (by omega) hc8 hP.1.2 ((g1.1 0 (by decide)).trans v0) ((g1.1 1 (by decide)).trans v1) ((g1.1 3 (by decide)).trans v3) ((g1.1 2 (by decide)).trans v2) (g1.1 4 (by decide)) (g1.2 rfl).1
  have xb := i32_bd hP.2.1
  have yb := i32_bd hP.2.2
  have m1 : ph_r h1 0 0 = some 1 := hi_r I1 rfl rfl (by decide)
  have m8 : ph_r h1 1 8 = some 2 := hi_r I1 rfl rfl (by decide)
  have gs : ∀ s, s < 64 → ph_i h1 2 s = (a_v a).2.2 s := fun s hs => (g1.2 rfl).2 s hs
  have x11 : ph_i h1 0 13 = a_x a := R1.2.2.2.1 rfl
  have tx := tx_ev_2 (a := x) (b := y) (x := a_x a) (w := w2) (fi := ph_i h1) (fl := ph_l h1) (fr := ph_r h1) p6.2 m1 (str_pos hP.2.2) ((g1.1 1 (by decide)).trans v1) x11
  rw [← h_eta I1] at tx
  obtain ⟨h3, e3⟩ : ∃ h3, h3 = (shT, txF lcg (fun x => drw x (2 * y + 1)) 0 13 2 x y w2 (2 ^ m) 0 (a_x a) (ph_i h1), ph_l h1, ph_r h1) := ⟨_, rfl⟩
  rw [← e3] at tx
  obtain ⟨I3, F3⟩ := iv_s vN_41 (as := [.ref 0, .long w2, .int x, .int y, .ref 2]) rfl (fun _ _ => gz_c (gz_r (by decide)) (gz_c (gz_l _) (gz_c (gz_i xb.1 xb.2) (gz_c (gz_i yb.1 yb.2) (gz_c (gz_r (by decide)) gz_n))))) I1 tx
  have R3 := QC_sx (x := itN lcg (2 ^ m) (a_x a)) (S := nS (2 ^ m) x y w2 (a_x a) (a_v a).2.2) (show irC0 (in_w iN_41) = true by decide) F3 R1 (by
    rw [e3]
    exact txF_x (by decide) _ _ _ _ x11) (fun s hs => by
    rw [e3]
    show txF lcg (fun x => drw x (2 * y + 1)) 0 13 2 x y w2 (2 ^ m) 0 (a_x a) (ph_i h1) 2 s = _
    rw [txF_s (by decide)]
    unfold nS
    rw [gs s hs])
  have m3 : ph_r h3 0 0 = some 1 := hi_r I3 rfl rfl (by decide)
  have d1 : ph_i h3 1 1 = (a_v a).1 1 := R3.2.2.2.2.1.1 1 (by decide)
  have ev : Ev pmT 70 [.ref 0, .long w, .int x, .int y] h (some (.int ((a_v a).1 1))) h3 := by
    refine Ev.of (es := cd_70) (ml := 5) (lv := [some (.ref 0), some (.long w), none, some (.int x), some (.int y)]) rfl rfl rfl ?_
    clear gs R3 e3 F3 R1 F1 g1 hw2 f hR x11 c1 c2
    obtain ⟨S1, fi1, fl1, fr1⟩ := h1
    have s1 : S1 = shT := I1.1
    subst s1
    have m1 : fr1 0 0 = some 1 := m1
    obtain ⟨S3, fi3, fl3, fr3⟩ := h3
    have s3 : S3 = shT := I3.1
    subst s3
    have m3 : fr3 0 0 = some 1 := m3
    have m8 : fr1 1 8 = some 2 := m8
    have d1 : fi3 1 1 = (a_v a).1 1 := d1
    obtain ⟨S, fi, fl, fr⟩ := h
    have hS : S = shT := hI.1
    subst hS
    have k0 : fr 0 0 = some 1 := k0
    refine go_of ?_
    refine gp_n 1 (j' := 1) (lv' := [some (.ref 0), some (.long w), none, some (.int x), some (.int y)]) (st' := [.ref 0]) (h' := (shT, fi, fl, fr)) rfl ?_
    refine gp_of (fun _ k9 => g_getR (q' := 1) rfl rfl (by decide) k0 k9) ?_
    refine gp_n 1 (j' := 3) (lv' := [some (.ref 0), some (.long w), none, some (.int x), some (.int y)]) (st' := [.long w, .ref 1]) (h' := (shT, fi, fl, fr)) rfl ?_
    refine gp_of (fun _ k9 => g_call (y := 56) (as := [.ref 1, .long w]) (st' := []) rfl rfl (t1) k9) ?_
    refine gp_of (fun _ k9 => g_iff rfl (show ¬ ((1 : Int32) = (0 : Int32)) from by decide) k9) ?_
    refine gp_n 1 (j' := 6) (lv' := [some (.ref 0), some (.long w), none, some (.int x), some (.int y)]) (st' := [.int x]) (h' := (shT, fi, fl, fr)) rfl ?_
    refine gp_of (fun _ k9 => g_call (y := 71) (as := [.int x]) (st' := []) rfl rfl (x1) k9) ?_
    refine gp_of (fun _ k9 => g_iff rfl (show ¬ ((1 : Int32) = (0 : Int32)) from by decide) k9) ?_
    refine gp_n 1 (j' := 9) (lv' := [some (.ref 0), some (.long w), none, some (.int x), some (.int y)]) (st' := [.int y]) (h' := (shT, fi, fl, fr)) rfl ?_
    refine gp_of (fun _ k9 => g_call (y := 71) (as := [.int y]) (st' := []) rfl rfl (y1) k9) ?_
    refine gp_of (fun _ k9 => g_ift rfl (show ¬ (1 : Int32) = (0 : Int32) from by decide) k9) ?_
    refine gp_n 1 (j' := 14) (lv' := [some (.ref 0), some (.long w), none, some (.int x), some (.int y)]) (st' := [.ref 0]) (h' := (shT, fi, fl, fr)) rfl ?_
    refine gp_of (fun _ k9 => g_callv (y := 49) (as := [.ref 0]) (st' := []) rfl rfl (ev1) k9) ?_
    refine gp_n 2 (j' := 17) (lv' := [some (.ref 0), some (.long w), none, some (.int x), some (.int y)]) (st' := [.ref 0, .ref 0]) (h' := (shT, fi1, fl1, fr1)) rfl ?_
    refine gp_of (fun _ k9 => g_getR (q' := 1) rfl rfl (by decide) m1 k9) ?_
    refine gp_n 1 (j' := 19) (lv' := [some (.ref 0), some (.long w), none, some (.int x), some (.int y)]) (st' := [.long w, .ref 1, .ref 0]) (h' := (shT, fi1, fl1, fr1)) rfl ?_
    refine gp_of (fun _ k9 => g_call (y := 58) (as := [.ref 1, .long w]) (st' := [.ref 0]) rfl rfl (ev2) k9) ?_
    refine gp_n 3 (j' := 23) (lv' := [some (.ref 0), some (.long w), none, some (.int x), some (.int y)]) (st' := [.ref 0, .int y, .int x, .long w2, .ref 0]) (h' := (shT, fi1, fl1, fr1)) rfl ?_
    refine gp_of (fun _ k9 => g_getR (q' := 1) rfl rfl (by decide) m1 k9) ?_
    refine gp_of (fun _ k9 => g_getR (q' := 2) rfl rfl (by decide) m8 k9) ?_
    refine gp_of (fun _ k9 => g_callv (y := 72) (as := [.ref 0, .long w2, .int x, .int y, .ref 2]) (st' := []) rfl rfl (tx) k9) ?_
    refine gp_n 1 (j' := 27) (lv' := [some (.ref 0), some (.long w), none, some (.int x), some (.int y)]) (st' := [.ref 0]) (h' := (shT, fi3, fl3, fr3)) rfl ?_
    refine gp_of (fun _ k9 => g_getR (q' := 1) rfl rfl (by decide) m3 k9) ?_
    refine gp_of (fun _ k9 => g_getI (x := (a_v a).1 1) rfl (Or.inl rfl) rfl (by decide) (d1) k9) ?_
    refine gp_done (g_ret rfl) ?_
    rfl
  obtain ⟨J1, J2⟩ := iv_s vN_42 (as := [.ref 0, .long w, .int x, .int y]) rfl (fun _ _ => gz_c (gz_r (by decide)) (gz_c (gz_l _) (gz_c (gz_a _) (gz_c (gz_a _) gz_n)))) hI ev
  exact ⟨h3, w2, hw2, ev, R3, J1, J2⟩
theorem snd_M2 {h : PmH} {a : AB} {w : Int64} {x y : Int32} {m k c : Nat} (hI : HI hdT shT h) (hR : QM true h a) (hq : a_q a ≤ 12) (hx : 0 ≤ (a_x a).toInt) (hV : VK (a_v a) m k c) (hP : P_send w x y k a) : ∃ h' w2, wdP m (2 ^ m) k c (a_v a).2.1 w ((a_v a).1 4) w2 ∧ Ev pmT 182 [.ref 70, .long w, .int x, .int y] h (some (.int ((a_v a).1 1))) h' ∧ QM true h' (a_sx (itN lcg (2 ^ m) (a_x a)) (nS (2 ^ m) x y w2 (a_x a) (a_v a).2.2) (a_push a)) ∧ HI hdT shT h' ∧ fram (in_w iN_206) h h' := by
  obtain ⟨hm, hc8, v0, v1, v2, v3, vp, vt⟩ := hV
  have p6 := pw_6 m (by omega)
  have p64 := popc_le (a_v a).2.1
  have hk : k ≤ 64 := by omega
  have f := hR.2.2.2.2.1
  have c1 : ph_i h 70 14 = (a_v a).1 1 := f.1 0 (by decide)
  have c2 : ph_i h 70 16 = nI k := (f.1 2 (by decide)).trans v2
  have t1 := fitM1 (w := w) hI c1 c2 hk hP.1.1 hP.1.2
  have y1 := nse1 (x := x) (y := y) hI hP.2
  obtain ⟨h1, ev1, R1, I1, F1⟩ := ka_ev hI hR hq
  have g1 := R1.2.2.2.2.1
  have n1 : ph_i h1 70 14 = nI (2 ^ m) := (g1.1 0 (by decide)).trans v1
  obtain ⟨z, ev2, hz⟩ := ch_ev2 (N := 2 ^ m) (k := k) (c := c) (K := (a_v a).2.1) (w := w) (po := (a_v a).1 4) I1 p6.2 vp hc8 n1 ((g1.1 2 (by decide)).trans v2) ((g1.1 3 (by decide)).trans v3) (g1.1 4 (by decide)) (g1.2 rfl).1
  obtain ⟨w2, ev3, hw2⟩ := wm_ev (m := m) (k := k) (c := c) (K := (a_v a).2.1) (w := w) (po := (a_v a).1 4) (h := h1) hm hz
  have xb := i32_bd hP.2.1
  have yb := i32_bd hP.2.2
  have gs : ∀ s, s < 64 → ph_i h1 74 s = (a_v a).2.2 s := fun s hs => (g1.2 rfl).2 s hs
  have x11 : ph_i h1 70 23 = a_x a := R1.2.2.2.1 rfl
  have tx := sx_ev (a := x) (b := y) (x := a_x a) (w := w2) (fi := ph_i h1) (fl := ph_l h1) (fr := ph_r h1) p6.2 (hi_r I1 rfl rfl (by decide)) (str_pos hP.2.2) n1 x11 hx
  rw [← h_eta I1] at tx
  obtain ⟨h4, e4⟩ : ∃ h4, h4 = (shT, txF lcg (fun x => drw x (2 * y + 1)) 70 23 74 x y w2 (2 ^ m) 0 (a_x a) (ph_i h1), ph_l h1, ph_r h1) := ⟨_, rfl⟩
  rw [← e4] at tx
  obtain ⟨I4, F4⟩ := iv_s vN_205 (as := [.ref 70, .long w2, .int x, .int y]) rfl (fun _ _ => gz_c (gz_r (by decide)) (gz_c (gz_l _) (gz_c (gz_i xb.1 xb.2) (gz_c (gz_i yb.1 yb.2) gz_n)))) I1 tx
  have R4 := QM_sx (x := itN lcg (2 ^ m) (a_x a)) (S := nS (2 ^ m) x y w2 (a_x a) (a_v a).2.2) (show irM0 (in_w iN_205) = true by decide) F4 R1 (by
    rw [e4]
    exact txF_x (by decide) _ _ _ _ x11) (fun s hs => by
    rw [e4]
    show txF lcg (fun x => drw x (2 * y + 1)) 70 23 74 x y w2 (2 ^ m) 0 (a_x a) (ph_i h1) 74 s = _
    rw [txF_s (by decide)]
    unfold nS
    rw [gs s hs])
  have d4 : ph_i h4 70 14 = (a_v a).1 1 := R4.2.2.2.2.1.1 0 (by decide)
  have ev : Ev pmT 182 [.ref 70, .long w, .int x, .int y] h (some (.int ((a_v a).1 1))) h4 := by
    refine Ev.of (es := cd_182) (ml := 5) (lv := [some (.ref 70), some (.long w), none, some (.int x), some (.int y)]) rfl rfl rfl ?_
    clear gs R4 e4 F4 R1 F1 g1 hw2 f hR x11 c1 c2
    obtain ⟨S1, fi1, fl1, fr1⟩ := h1
    have s1 : S1 = shT := I1.1
    subst s1
    obtain ⟨S4, fi4, fl4, fr4⟩ := h4
    have s4 : S4 = shT := I4.1
    subst s4
    have n1 : fi1 70 14 = nI (2 ^ m) := n1
    have d4 : fi4 70 14 = (a_v a).1 1 := d4
    obtain ⟨S, fi, fl, fr⟩ := h
    have hS : S = shT := hI.1
    subst hS
    refine go_of ?_
    refine gp_n 2 (j' := 2) (lv' := [some (.ref 70), some (.long w), none, some (.int x), some (.int y)]) (st' := [.long w, .ref 70]) (h' := (shT, fi, fl, fr)) rfl ?_
    refine gp_of (fun _ k9 => g_call (y := 171) (as := [.ref 70, .long w]) (st' := []) rfl rfl (t1) k9) ?_
    refine gp_of (fun _ k9 => g_iff rfl (show ¬ ((1 : Int32) = (0 : Int32)) from by decide) k9) ?_
    refine gp_n 2 (j' := 6) (lv' := [some (.ref 70), some (.long w), none, some (.int x), some (.int y)]) (st' := [.int y, .int x]) (h' := (shT, fi, fl, fr)) rfl ?_
    refine gp_of (fun _ k9 => g_call (y := 183) (as := [.int x, .int y]) (st' := []) rfl rfl (y1) k9) ?_
    refine gp_of (fun _ k9 => g_ift rfl (show ¬ (1 : Int32) = (0 : Int32) from by decide) k9) ?_
    refine gp_n 1 (j' := 11) (lv' := [some (.ref 70), some (.long w), none, some (.int x), some (.int y)]) (st' := [.ref 70]) (h' := (shT, fi, fl, fr)) rfl ?_
    refine gp_of (fun _ k9 => g_callv (y := 162) (as := [.ref 70]) (st' := []) rfl rfl (ev1) k9) ?_
    refine gp_n 3 (j' := 15) (lv' := [some (.ref 70), some (.long w), none, some (.int x), some (.int y)]) (st' := [.long w, .ref 70, .ref 70]) (h' := (shT, fi1, fl1, fr1)) rfl ?_
    refine gp_of (fun _ k9 => g_call (y := 173) (as := [.ref 70, .long w]) (st' := [.ref 70]) rfl rfl (ev2) k9) ?_
    refine gp_n 1 (j' := 17) (lv' := [some (.ref 70), some (.long w), none, some (.int x), some (.int y)]) (st' := [.ref 70, .long z, .ref 70]) (h' := (shT, fi1, fl1, fr1)) rfl ?_
    refine gp_of (fun _ k9 => g_getI (x := nI (2 ^ m)) rfl (Or.inl rfl) rfl (by decide) (n1) k9) ?_
    refine gp_of (fun _ k9 => g_call (y := 175) (as := [.long z, .int (nI (2 ^ m))]) (st' := [.ref 70]) rfl rfl (ev3) k9) ?_
    refine gp_n 2 (j' := 21) (lv' := [some (.ref 70), some (.long w), none, some (.int x), some (.int y)]) (st' := [.int y, .int x, .long w2, .ref 70]) (h' := (shT, fi1, fl1, fr1)) rfl ?_
    refine gp_of (fun _ k9 => g_callv (y := 184) (as := [.ref 70, .long w2, .int x, .int y]) (st' := []) rfl rfl (tx) k9) ?_
    refine gp_n 1 (j' := 23) (lv' := [some (.ref 70), some (.long w), none, some (.int x), some (.int y)]) (st' := [.ref 70]) (h' := (shT, fi4, fl4, fr4)) rfl ?_
    refine gp_of (fun _ k9 => g_getI (x := (a_v a).1 1) rfl (Or.inl rfl) rfl (by decide) (d4) k9) ?_
    refine gp_done (g_ret rfl) ?_
    rfl
  obtain ⟨J1, J2⟩ := iv_s vN_206 (as := [.ref 70, .long w, .int x, .int y]) rfl (fun _ _ => gz_c (gz_r (by decide)) (gz_c (gz_l _) (gz_c (gz_a _) (gz_c (gz_a _) gz_n)))) hI ev
  exact ⟨h4, w2, hw2, ev, R4, J1, J2⟩
