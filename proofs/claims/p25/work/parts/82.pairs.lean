theorem avo_push {a : AB} (h : AVO a) : AVO (a_push a) := ⟨h.1, fun i hi => by
    have hi : i < min 12 (a_q a + 1) := hi
    cases i with
    | zero => exact h.1
    | succ i => exact h.2.1 i (by omega), h.2.2⟩
theorem avo_setv {a : AB} {v : VS} (h : AVO a) (hv : VOK v) : AVO (a_setv v a) := ⟨hv, h.2.1, h.2.2⟩
theorem avo_undo {a : AB} (h : AVO a) (hq : 0 < a_q a) : AVO (a_undo a) := ⟨h.2.1 0 hq, fun i hi => h.2.1 (i + 1) (by have : i < a_q a - 1 := hi; omega), h.2.2⟩
theorem avo_image {a : AB} {k : Nat} (h : AVO a) : AVO (a_image k a) := ⟨h.1, h.2.1, fun j v hj e => by
    have e : (if j = k then some (a_v a) else a_m a j) = some v := e
    split at e
    · cases e
      exact h.1
    · exact h.2.2 j v hj e⟩
theorem avo_back {a : AB} {v : VS} (h : AVO a) (hv : VOK v) : AVO (a_back v a) := ⟨hv, fun i hi => absurd (show i < 0 from hi) (Nat.not_lt_zero _), h.2.2⟩
theorem hv_bd {x : Int32} (h : -128 ≤ x.toInt ∧ x.toInt ≤ 127) : -127 ≤ (hv x).toInt ∧ (hv x).toInt ≤ 127 := by
  have h8 : (-127 : Int32).toInt = -127 := rfl
  have h7 : (-128 : Int32).toInt = -128 := rfl
  unfold hv
  split
  · rw [h8]
    omega
  · rename_i q
    have : ¬ x.toInt = -128 := fun z => q (Int32.toInt_inj.mp (z.trans h7.symm))
    omega
theorem vok_list {v : VS} {x : Int32} (hx : 1 ≤ x ∧ x ≤ 8) (h : VOK v) : VOK (v_list x v) := ⟨h.1, h.2.1, by
    rcases h.2.2 with z | ⟨k, l, e1, e2, e3, e4, e5, e6⟩
    · exact Or.inl z
    · have b1 := Int32.le_iff_toInt_le.mp hx.1
      have b2 := Int32.le_iff_toInt_le.mp hx.2
      rw [show (1 : Int32).toInt = 1 from rfl] at b1
      rw [show (8 : Int32).toInt = 8 from rfl] at b2
      obtain ⟨n, f1, f2, -⟩ := i32_nI (y := x) (by omega)
      exact Or.inr ⟨k, n, e1, e2, e3, f1, by omega, by omega⟩⟩
theorem vok_sum {v : VS} {b : Nat} {x : Int32} (hx : -127 ≤ x ∧ x ≤ 127) (h : VOK v) : VOK (v_sum b x v) := ⟨h.1, fun s hs => by
    have := i32_bd hx
    show -127 ≤ ((if s = b then x else v.2.2 s)).toInt ∧ ((if s = b then x else v.2.2 s)).toInt ≤ 127
    split
    · exact this
    · exact h.2.1 s hs, h.2.2⟩
theorem vok_hear {v : VS} {N : Nat} {tb : Nat → Int32} (ht : ∀ s, -128 ≤ (tb s).toInt ∧ (tb s).toInt ≤ 127) (h : VOK v) : VOK (v_hear N tb v) := ⟨h.1, fun s hs => by
    show -127 ≤ ((if s < N then hv (tb s) else v.2.2 s)).toInt ∧ ((if s < N then hv (tb s) else v.2.2 s)).toInt ≤ 127
    split
    · exact hv_bd (ht s)
    · exact h.2.1 s hs, h.2.2⟩
theorem avo_sx {a : AB} {x : Int32} {S : Nat → Int32} (h : AVO a) (hS : ∀ s, s < 64 → -127 ≤ (S s).toInt ∧ (S s).toInt ≤ 127) : AVO (a_sx x S a) := ⟨⟨h.1.1, hS, h.1.2.2⟩, h.2⟩
theorem vok_N {v : VS} (h : VOK v) (hn : 0 < v.1 1) : ∃ m k c, VK v m k c := h.1.resolve_left (fun z => by rw [z] at hn; exact absurd hn (by decide))
theorem vk_k {v : VS} {m k c : Nat} (h : VK v m k c) : k ≤ 64 := by
  have := popc_le v.2.1
  have := h.2.2.2.2.2.2.1
  omega
/-- both calls come back, and the states go together -/
def PI (yC yM : Nat) (as : List Value) (h : PmH) (E : Int32 → Int32 → Prop) : Prop := ∃ (x y : Int32) (h1 h2 : PmH) (a' : AB), Ev pmT yC (.ref 0 :: as) h (some (.int x)) h1 ∧ Ev pmT yM (.ref 70 :: as) h1 (some (.int y)) h2 ∧ REL2 h2 a' ∧ HI hdT shT h1 ∧ E x y
def PL (yC yM : Nat) (as : List Value) (h : PmH) (E : Int64 → Int64 → Prop) : Prop := ∃ (x y : Int64) (h1 h2 : PmH) (a' : AB), Ev pmT yC (.ref 0 :: as) h (some (.long x)) h1 ∧ Ev pmT yM (.ref 70 :: as) h1 (some (.long y)) h2 ∧ REL2 h2 a' ∧ HI hdT shT h1 ∧ E x y
theorem q_fr {W : WSt} {h h' : PmH} {a : AB} (w1 : irC W = true) (w2 : irM W = true) (hI : HI hdT shT h') (hf : fram W h h') (hr : REL2 h a) : REL2 h' a := ⟨⟨hI, QC_fr w1 hf hr.1.2.1, QM_fr w2 hf hr.1.2.2.1, hr.1.2.2.2⟩, hr.2⟩
/-- calls that only ask -/
theorem qI {IC IM : Inst} {as : List Value} {h : PmH} {a : AB} (hC : iv pmT hdT shT IC) (hM : iv pmT hdT shT IM) (oC : in_o IC = []) (oM : in_o IM = []) (gC : ∀ (lv : PmL) (h' : PmH), gst lv h' ((in_a IC).map nt) (.ref 0 :: as)) (gM : ∀ (lv : PmL) (h' : PmH), gst lv h' ((in_a IM).map nt) (.ref 70 :: as)) (kC : ipk IC = true) (kM : ipk IM = true) (w1 : irC (in_w IC) = true) (w2 : irM (in_w IC) = true) (w3 : irC (in_w IM) = true) (w4 : irM (in_w IM) = true) (hr : REL2 h a) : PI (in_y IC) (in_y IM) as h (fun _ _ => True) := by
  obtain ⟨v1, h1, e1, I1, F1, p1⟩ := iv_ev hC oC gC hr.1.1
  have R1 := q_fr w1 w2 I1 F1 hr
  obtain ⟨v2, h2, e2, I2, F2, p2⟩ := iv_ev hM oM gM I1
  have R2 := q_fr w3 w4 I2 F2 R1
  obtain ⟨x, rfl⟩ := pv_i' kC p1
  obtain ⟨y, rfl⟩ := pv_i' kM p2
  exact ⟨x, y, h1, h2, a, e1, e2, R2, I1, trivial⟩
theorem qL {IC IM : Inst} {as : List Value} {h : PmH} {a : AB} (hC : iv pmT hdT shT IC) (hM : iv pmT hdT shT IM) (oC : in_o IC = []) (oM : in_o IM = []) (gC : ∀ (lv : PmL) (h' : PmH), gst lv h' ((in_a IC).map nt) (.ref 0 :: as)) (gM : ∀ (lv : PmL) (h' : PmH), gst lv h' ((in_a IM).map nt) (.ref 70 :: as)) (kC : in_p IC = [(some zl, [], [])]) (kM : in_p IM = [(some zl, [], [])]) (w1 : irC (in_w IC) = true) (w2 : irM (in_w IC) = true) (w3 : irC (in_w IM) = true) (w4 : irM (in_w IM) = true) (hr : REL2 h a) : PL (in_y IC) (in_y IM) as h (fun _ _ => True) := by
  obtain ⟨v1, h1, e1, I1, F1, p1⟩ := iv_ev hC oC gC hr.1.1
  have R1 := q_fr w1 w2 I1 F1 hr
  obtain ⟨v2, h2, e2, I2, F2, p2⟩ := iv_ev hM oM gM I1
  have R2 := q_fr w3 w4 I2 F2 R1
  obtain ⟨x, rfl⟩ := pv_l kC p1
  obtain ⟨y, rfl⟩ := pv_l kM p2
  exact ⟨x, y, h1, h2, a, e1, e2, R2, I1, trivial⟩
section PAIR
variable {h : PmH} {a : AB}
theorem p_feed (a1 a2 a3 a4 a5 : Int32) (hr : REL2 h a) : PI 10 146 [.int a1, .int a2, .int a3, .int a4, .int a5] h (fun x y => x = y) := by
  obtain ⟨⟨hI, hC, hM, hA⟩, hV⟩ := id hr
  by_cases hp : a_tl a ≤ 180
  · obtain ⟨h1, e1, c1, I1, F1⟩ := fed_C (a1 := a1) (a2 := a2) (a3 := a3) (a4 := a4) (a5 := a5) hI hC hp
    obtain ⟨h2, e2, c2, I2, F2⟩ := fed_M (a1 := a1) (a2 := a2) (a3 := a3) (a4 := a4) (a5 := a5) I1 (QM_fr (show irM (in_w iN_1) = true by decide) F1 hM) hp
    refine ⟨_, _, h1, h2, _, e1, e2, ⟨⟨I2, QC_fr (show irC (in_w iN_163) = true by decide) F2 c1, c2, ⟨?_, hA.2.1, fun s => ?_, hA.2.2.2⟩⟩, hV⟩, I1, rfl⟩
    · show a_tl a + 20 ≤ 200
      omega
    · show -128 ≤ ((if a_tl a ≤ s ∧ s < a_tl a + 20 then fd a1 a2 a3 a4 a5 (s - a_tl a) else a_tb a s)).toInt ∧ ((if a_tl a ≤ s ∧ s < a_tl a + 20 then fd a1 a2 a3 a4 a5 (s - a_tl a) else a_tb a s)).toInt ≤ 127
      split
      · unfold fd
        split
        · exact bt_in _ _
        · split
          · exact bt_in _ _
          · split
            · exact bt_in _ _
            · split
              · exact bt_in _ _
              · exact bt_in _ _
      · exact hA.2.2.1 s
  · exact ⟨-1, -1, h, h, a, fed_C0 hI hC hA.1 (by omega), fed_M0 hI hM hA.1 (by omega), hr, hI, rfl⟩
theorem p_end (x : Int32) (hr : REL2 h a) : PI 12 147 [.int x] h (fun x y => x = y) := by
  obtain ⟨⟨hI, hC, hM, hA⟩, hV⟩ := id hr
  by_cases hp : P_end x a
  · have h0 := Int32.le_iff_toInt_le.mp hp.1
    obtain ⟨t, rfl, e2, e3⟩ := i32_nI (y := x) h0
    have ht : t ≤ a_tl a := (nI_leI e3 (by have := hA.1; omega)).mp hp.2
    obtain ⟨h1, e1, c1, I1, F1⟩ := end_C hI hC ht hA.1
    obtain ⟨h2, e2, c2, I2, F2⟩ := end_M I1 (QM_fr (show irM (in_w iN_2) = true by decide) F1 hM) ht hA.1
    exact ⟨_, _, h1, h2, _, e1, e2, ⟨⟨I2, QC_fr (show irC (in_w iN_164) = true by decide) F2 c1, c2, ⟨Nat.le_trans ht hA.1, hA.2⟩⟩, hV⟩, I1, rfl⟩
  · exact ⟨-1, -1, h, h, a, end_C0 hI hC hp, end_M0 hI hM hp, hr, hI, rfl⟩
theorem push_q (a : AB) : a_q (a_push a) ≤ 12 := Nat.min_le_left _ _
theorem p_code (hr : REL2 h a) : PI 13 149 [] h (fun _ _ => True) := by
  obtain ⟨⟨hI, hC, hM, hA⟩, hV⟩ := id hr
  rcases cod_C hI hC hA with ⟨R, K, h1, z1, ⟨z2, z3, z4⟩, e1, c1, I1, F1⟩ | ⟨x, h1, z1, e1, c1, I1, F1⟩
  · rcases cod_M I1 (QM_fr (show irM cW = true by decide) F1 hM) hA with ⟨R', K', h2, y1, y2, e2, c2, I2, F2⟩ | ⟨x, h2, y1, e2, c2, I2, F2⟩
    · rw [z1] at y1
      cases y1
      have hK := kS_eq z4 y2
      subst hK
      exact ⟨_, _, h1, h2, _, e1, e2, ⟨⟨I2, QC_fr (show irC mW = true by decide) F2 c1, c2, ⟨Nat.zero_le _, push_q _, hA.2.2⟩⟩, avo_setv (avo_push hV) ⟨Or.inr ⟨_, _, _, vok_code z2 z3 z4⟩, fun s _ => (show -127 ≤ (0 : Int32).toInt ∧ (0 : Int32).toInt ≤ 127 by decide), vx_code z2 z3 (parse_kl z1).1 (parse_kl z1).2⟩⟩, I1, trivial⟩
    · rw [z1] at y1
      cases y1
  · rcases cod_M I1 (QM_fr (show irM cW = true by decide) F1 hM) hA with ⟨R', K', h2, y1, y2, e2, c2, I2, F2⟩ | ⟨x', h2, y1, e2, c2, I2, F2⟩
    · rw [z1] at y1
      cases y1
    · exact ⟨_, _, h1, h2, _, e1, e2, ⟨⟨I2, QC_fr (show irC mW = true by decide) F2 c1, c2, ⟨Nat.zero_le _, hA.2⟩⟩, hV⟩, I1, trivial⟩
theorem n_N (hr : REL2 h a) : ∃ N, N ≤ 64 ∧ (a_v a).1 1 = nI N := by
  have hb := n_le hr.1.1 hr.1.2.1
  obtain ⟨N, e1, e2, -⟩ := i32_nI (y := (a_v a).1 1) hb.1
  exact ⟨N, by omega, e1⟩
theorem k_N (hr : REL2 h a) : ∃ k, k ≤ 64 ∧ (a_v a).1 2 = nI k := by
  have hb := hi_i (lo := 0) (hi := 64) hr.1.1 (p := 1) (c := 2) rfl rfl (by decide)
  rw [hr.1.2.1.2.2.2.2.1.1 2 (by decide)] at hb
  obtain ⟨N, e1, e2, -⟩ := i32_nI (y := (a_v a).1 2) hb.1
  exact ⟨N, by omega, e1⟩
theorem p_hear (hr : REL2 h a) : PI 68 180 [] h (fun x y => x = y) := by
  obtain ⟨⟨hI, hC, hM, hA⟩, hV⟩ := id hr
  by_cases hp : P_hear a
  · obtain ⟨N, n1, n2⟩ := n_N hr
    obtain ⟨h1, e1, c1, I1, F1⟩ := her_C hI hC hA n1 n2 hp
    obtain ⟨h2, e2, c2, I2, F2⟩ := her_M I1 (QM_fr (show irM (in_w iN_31) = true by decide) F1 hM) hA n1 n2 hp
    exact ⟨_, _, h1, h2, _, e1, e2, ⟨⟨I2, QC_fr (show irC (in_w iN_185) = true by decide) F2 c1, c2, ⟨Nat.zero_le _, push_q _, hA.2.2⟩⟩, avo_setv (a := a_push a) (v := v_hear N (a_tb a) (a_v a)) (avo_push hV) (vok_hear hA.2.2.1 hV.1)⟩, I1, rfl⟩
  · exact ⟨-1, -1, h, h, a, her_C0 hI hC hp, her_M0 hI hM hp, hr, hI, rfl⟩
theorem p_tell (y x : Int32) (hr : REL2 h a) : PI 69 181 [.int y, .int x] h (fun x y => x = y) := by
  obtain ⟨⟨hI, hC, hM, hA⟩, hV⟩ := id hr
  by_cases hp : P_tell y x a
  · obtain ⟨b, b1, rfl, -⟩ := ix_of (n_le hI hC) hp.1
    obtain ⟨h1, e1, c1, I1, F1⟩ := tel_C hI hC hA.2.1 b1 hp
    obtain ⟨h2, e2, c2, I2, F2⟩ := tel_M I1 (QM_fr (show irM (in_w iN_32) = true by decide) F1 hM) hA.2.1 b1 hp
    exact ⟨_, _, h1, h2, _, e1, e2, ⟨⟨I2, QC_fr (show irC (in_w iN_186) = true by decide) F2 c1, c2, ⟨hA.1, push_q _, hA.2.2⟩⟩, avo_setv (avo_push hV) (vok_sum hp.2 hV.1)⟩, I1, ((hC.2.2.2.2.1.2 rfl).2 b b1).trans (((QM_fr (show irM (in_w iN_32) = true by decide) F1 hM).2.2.2.2.1.2 rfl).2 b b1).symm⟩
  · exact ⟨_, _, h, h, a, tel_C0 hI hC hp, tel_M0 hI hM hp, hr, hI, rfl⟩
theorem p_send (w : Int64) (x y : Int32) (hr : REL2 h a) : PI 70 182 [.long w, .int x, .int y] h (fun x y => x = y) := by
  obtain ⟨⟨hI, hC, hM, hA⟩, hV⟩ := id hr
  by_cases h0 : 0 < (a_v a).1 1
  · obtain ⟨m, k, c, vk⟩ := vok_N hV.1 h0
    have k1 := vk_k vk
    have k2 := vk.2.2.2.2.1
    by_cases hp : P_send w x y k a
    · obtain ⟨h1, w1, q1, e1, c1, I1, F1⟩ := snd_C2 hI hC hA.2.1 vk hp
      obtain ⟨h2, w2, q2, e2, c2, I2, F2⟩ := snd_M2 I1 (QM_fr (show irM (in_w iN_42) = true by decide) F1 hM) hA.2.1 hA.2.2.2 vk hp
      have hw := wdP_eq q1 q2
      subst hw
      exact ⟨_, _, h1, h2, _, e1, e2, ⟨⟨I2, QC_fr (show irC (in_w iN_206) = true by decide) F2 c1, c2, ⟨hA.1, push_q _, hA.2.2.1, itN_pos (fun _ => lcg_pos) _ _ hA.2.2.2⟩⟩, avo_sx (avo_push hV) (nS_bd hV.1.2.1)⟩, I1, rfl⟩
    · exact ⟨_, _, h, h, a, snd_C0 hI hC k1 k2 hp, snd_M0 hI hM k1 k2 hp, hr, hI, rfl⟩
  · obtain ⟨k, k1, k2⟩ := k_N hr
    have hp : ¬ P_send w x y k a := fun z => h0 z.1.1
    exact ⟨_, _, h, h, a, snd_C0 hI hC k1 k2 hp, snd_M0 hI hM k1 k2 hp, hr, hI, rfl⟩
theorem p_list (x : Int32) (hr : REL2 h a) : PI 78 189 [.int x] h (fun x y => x = y) := by
  obtain ⟨⟨hI, hC, hM, hA⟩, hV⟩ := id hr
  by_cases hp : P_list x a
  · obtain ⟨h1, e1, c1, I1, F1⟩ := lst_C hI hC hA.2.1 hp
    obtain ⟨h2, e2, c2, I2, F2⟩ := lst_M I1 (QM_fr (show irM (in_w iN_52) = true by decide) F1 hM) hA.2.1 hp
    exact ⟨_, _, h1, h2, _, e1, e2, ⟨⟨I2, QC_fr (show irC (in_w iN_210) = true by decide) F2 c1, c2, ⟨hA.1, push_q _, hA.2.2⟩⟩, avo_setv (avo_push hV) (vok_list hp.2.1 hV.1)⟩, I1, rfl⟩
  · exact ⟨_, _, h, h, a, lst_C0 hI hC hp, lst_M0 hI hM hp, hr, hI, rfl⟩
theorem p_draws (x : Int32) (hr : REL2 h a) : PI 137 226 [.int x] h (fun x y => x = y) := by
  obtain ⟨⟨hI, hC, hM, hA⟩, hV⟩ := id hr
  by_cases hp : x < 0
  · exact ⟨_, _, h, h, a, drw_C0 hI hp, drw_M0 hI hp, hr, hI, rfl⟩
  · have hp := Int32.not_lt.mp hp
    obtain ⟨h1, e1, c1, I1, F1⟩ := drw_C hI hC hp
    obtain ⟨h2, e2, c2, I2, F2⟩ := drw_M I1 (QM_fr (show irM (in_w iN_150) = true by decide) F1 hM) hp
    exact ⟨_, _, h1, h2, _, e1, e2, ⟨⟨I2, QC_fr (show irC (in_w iN_238) = true by decide) F2 c1, c2, ⟨hA.1, hA.2.1, hA.2.2.1, Int32.le_iff_toInt_le.mp hp⟩⟩, hV⟩, I1, (hC.2.2.2.1 rfl).trans ((QM_fr (show irM (in_w iN_150) = true by decide) F1 hM).2.2.2.1 rfl).symm⟩
theorem p_undo (hr : REL2 h a) : PI 140 228 [] h (fun x y => x = y) := by
  obtain ⟨⟨hI, hC, hM, hA⟩, hV⟩ := id hr
  by_cases hp : a_q a = 0
  · exact ⟨_, _, h, h, a, und_C0 hI hC hp, und_M0 hI hM hp, hr, hI, rfl⟩
  · obtain ⟨h1, e1, c1, I1, F1⟩ := und_C hI hC hA.2.1 (by omega)
    obtain ⟨h2, e2, c2, I2, F2⟩ := und_M I1 (QM_fr (show irM (in_w iN_156) = true by decide) F1 hM) hA.2.1 (by omega)
    refine ⟨_, _, h1, h2, _, e1, e2, ⟨⟨I2, QC_fr (show irC (in_w iN_267) = true by decide) F2 c1, c2, ⟨hA.1, ?_, hA.2.2⟩⟩, avo_undo hV (by omega)⟩, I1, rfl⟩
    show a_q a - 1 ≤ 12
    have := hA.2.1
    omega
theorem x_01 (x : Int32) : (x < 0 ∨ 2 ≤ x) ∨ ∃ n, n < 2 ∧ x = nI n := by
  by_cases h1 : x < 0
  · exact Or.inl (Or.inl h1)
  · by_cases h2 : 2 ≤ x
    · exact Or.inl (Or.inr h2)
    · have h3 := Int32.le_iff_toInt_le.mp (Int32.not_lt.mp h1)
      have h4 := Int32.lt_iff_toInt_lt.mp (Int32.not_le.mp h2)
      obtain ⟨n, e1, e2, -⟩ := i32_nI (y := x) h3
      rw [show (2 : Int32).toInt = 2 from rfl] at h4
      exact Or.inr ⟨n, by omega, e1⟩
theorem p_image (x : Int32) (hr : REL2 h a) : PI 141 230 [.int x] h (fun x y => x = y) := by
  obtain ⟨⟨hI, hC, hM, hA⟩, hV⟩ := id hr
  rcases x_01 x with hp | ⟨n, n1, rfl⟩
  · exact ⟨_, _, h, h, a, img_C0 hI hp, img_M0 hI hp, hr, hI, rfl⟩
  · obtain ⟨h1, e1, c1, I1, F1⟩ := img_C hI hC n1
    obtain ⟨h2, e2, c2, I2, F2⟩ := img_M I1 (QM_fr (show irM (in_w iN_158) = true by decide) F1 hM) hA.2.1 n1
    exact ⟨_, _, h1, h2, _, e1, e2, ⟨⟨I2, QC_fr (show irC (in_w iN_295) = true by decide) F2 c1, c2, hA⟩, avo_image hV⟩, I1, rfl⟩
theorem p_back (x : Int32) (hr : REL2 h a) : PI 142 231 [.int x] h (fun x y => x = y) := by
  obtain ⟨⟨hI, hC, hM, hA⟩, hV⟩ := id hr
  rcases x_01 x with hp | ⟨n, n1, rfl⟩
  · exact ⟨_, _, h, h, a, bck_C0 hI hp, bck_M0 hI hp, hr, hI, rfl⟩
  · cases hm : a_m a n with
    | none => exact ⟨_, _, h, h, a, bck_C1 hI hC n1 hm, bck_M1 hI hM n1 hm, hr, hI, rfl⟩
    | some v =>
      obtain ⟨h1, e1, c1, I1, F1⟩ := bck_C hI hC n1 hm
      obtain ⟨h2, e2, c2, I2, F2⟩ := bck_M I1 (QM_fr (show irM (in_w iN_160) = true by decide) F1 hM) n1 hm
      exact ⟨_, _, h1, h2, _, e1, e2, ⟨⟨I2, QC_fr (show irC (in_w iN_296) = true by decide) F2 c1, c2, ⟨hA.1, Nat.zero_le _, hA.2.2⟩⟩, avo_back hV (hV.2.2 n v n1 hm)⟩, I1, rfl⟩
theorem p_read  (hr : REL2 h a) : PL 80 190 [] h (fun _ _ => True) := qL vN_117 vN_215 rfl rfl (fun _ _ => gz_c (gz_r (by decide)) (gz_n)) (fun _ _ => gz_c (gz_r (by decide)) (gz_n)) rfl rfl (by decide) (by decide) (by decide) (by decide) hr
theorem p_told (x0 : Int32) (hr : REL2 h a) : PI 109 203 [.int x0] h (fun _ _ => True) := qI vN_118 vN_216 rfl rfl (fun _ _ => gz_c (gz_r (by decide)) (gz_c (gz_a _) (gz_n))) (fun _ _ => gz_c (gz_r (by decide)) (gz_c (gz_a _) (gz_n))) (by decide) (by decide) (by decide) (by decide) (by decide) (by decide) hr
theorem p_path (x0 : Int32) (x1 : Int32) (x2 : Int32) (hr : REL2 h a) : PI 110 204 [.int x0, .int x1, .int x2] h (fun _ _ => True) := qI vN_119 vN_217 rfl rfl (fun _ _ => gz_c (gz_r (by decide)) (gz_c (gz_a _) (gz_c (gz_a _) (gz_c (gz_a _) (gz_n))))) (fun _ _ => gz_c (gz_r (by decide)) (gz_c (gz_a _) (gz_c (gz_a _) (gz_c (gz_a _) (gz_n))))) (by decide) (by decide) (by decide) (by decide) (by decide) (by decide) hr
theorem p_message (x0 : Int32) (hr : REL2 h a) : PL 111 205 [.int x0] h (fun _ _ => True) := qL vN_120 vN_218 rfl rfl (fun _ _ => gz_c (gz_r (by decide)) (gz_c (gz_a _) (gz_n))) (fun _ _ => gz_c (gz_r (by decide)) (gz_c (gz_a _) (gz_n))) rfl rfl (by decide) (by decide) (by decide) (by decide) hr
theorem p_work (x0 : Int32) (x1 : Int32) (x2 : Int32) (hz : x1 = 0 ∨ x1 = 1) (hr : REL2 h a) : PI 112 206 [.int x0, .int x1, .int x2] h (fun _ _ => True) := qI vN_121 vN_227 rfl rfl (fun _ _ => gz_c (gz_r (by decide)) (gz_c (gz_a _) (gz_c (gz_i (by rcases hz with rfl | rfl <;> decide) (by rcases hz with rfl | rfl <;> decide)) (gz_c (gz_a _) (gz_n))))) (fun _ _ => gz_c (gz_r (by decide)) (gz_c (gz_a _) (gz_c (gz_i (by rcases hz with rfl | rfl <;> decide) (by rcases hz with rfl | rfl <;> decide)) (gz_c (gz_a _) (gz_n))))) (by decide) (by decide) (by decide) (by decide) (by decide) (by decide) hr
theorem p_grown (x0 : Int32) (hr : REL2 h a) : PI 113 213 [.int x0] h (fun _ _ => True) := qI vN_122 vN_228 rfl rfl (fun _ _ => gz_c (gz_r (by decide)) (gz_c (gz_a _) (gz_n))) (fun _ _ => gz_c (gz_r (by decide)) (gz_c (gz_a _) (gz_n))) (by decide) (by decide) (by decide) (by decide) (by decide) (by decide) hr
theorem p_flipped (x0 : Int32) (hr : REL2 h a) : PI 114 214 [.int x0] h (fun _ _ => True) := qI vN_126 vN_233 rfl rfl (fun _ _ => gz_c (gz_r (by decide)) (gz_c (gz_a _) (gz_n))) (fun _ _ => gz_c (gz_r (by decide)) (gz_c (gz_a _) (gz_n))) (by decide) (by decide) (by decide) (by decide) (by decide) (by decide) hr
theorem p_sought (x0 : Int32) (hr : REL2 h a) : PI 117 217 [.int x0] h (fun _ _ => True) := qI vN_139 vN_234 rfl rfl (fun _ _ => gz_c (gz_r (by decide)) (gz_c (gz_a _) (gz_n))) (fun _ _ => gz_c (gz_r (by decide)) (gz_c (gz_a _) (gz_n))) (by decide) (by decide) (by decide) (by decide) (by decide) (by decide) hr
theorem p_soughtMessage  (hr : REL2 h a) : PL 127 223 [] h (fun _ _ => True) := qL vN_140 vN_235 rfl rfl (fun _ _ => gz_c (gz_r (by decide)) (gz_n)) (fun _ _ => gz_c (gz_r (by decide)) (gz_n)) rfl rfl (by decide) (by decide) (by decide) (by decide) hr
theorem p_nearest (x0 : Int32) (hr : REL2 h a) : PI 128 224 [.int x0] h (fun _ _ => True) := qI vN_147 vN_236 rfl rfl (fun _ _ => gz_c (gz_r (by decide)) (gz_c (gz_a _) (gz_n))) (fun _ _ => gz_c (gz_r (by decide)) (gz_c (gz_a _) (gz_n))) (by decide) (by decide) (by decide) (by decide) (by decide) (by decide) hr
theorem p_weights (x0 : Int32) (hr : REL2 h a) : PI 135 225 [.int x0] h (fun _ _ => True) := qI vN_149 vN_237 rfl rfl (fun _ _ => gz_c (gz_r (by decide)) (gz_c (gz_a _) (gz_n))) (fun _ _ => gz_c (gz_r (by decide)) (gz_c (gz_a _) (gz_n))) (by decide) (by decide) (by decide) (by decide) (by decide) (by decide) hr
theorem p_frames (x0 x1 x2 x3 : Int32) (hr : REL2 h a) : PI 138 227 [.int x0, .int x1, .int x2, .int x3] h (fun _ _ => True) := by
  obtain ⟨⟨hI, hC, hM, hA⟩, hV⟩ := id hr
  obtain ⟨v1, h1, e1, c1, I1, F1⟩ := frm_C hI hC x0 x1 x2 x3
  obtain ⟨v2, h2, e2, c2, I2, F2⟩ := frm_M I1 (QM_fr (show irM (in_w iN_154) = true by decide) F1 hM) x0 x1 x2 x3
  exact ⟨_, _, h1, h2, a, e1, e2, ⟨⟨I2, QC_fr (show irC (in_w iN_239) = true by decide) F2 c1, c2, hA⟩, hV⟩, I1, trivial⟩
end PAIR
