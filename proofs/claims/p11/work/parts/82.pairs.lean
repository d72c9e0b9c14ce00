theorem QC_K {h : PmH} {b : AB} {R : RC} {K K' : Int64} (hr : QC false h (a_setv (v_code R K) b)) : QC false h (a_setv (v_code R K') b) := by
  obtain ⟨a1, b1, c, d, f, g, q, i⟩ := hr
  exact ⟨a1, b1, c, (fun z => nomatch z), ⟨f.1, (fun z => nomatch z)⟩, g, q, i⟩
theorem QM_K {h : PmH} {b : AB} {R : RC} {K K' : Int64} (hr : QM false h (a_setv (v_code R K) b)) : QM false h (a_setv (v_code R K') b) := by
  obtain ⟨a1, b1, c, d, f, g, q, i⟩ := hr
  exact ⟨a1, b1, c, (fun z => nomatch z), ⟨f.1, (fun z => nomatch z)⟩, g, q, i⟩
/-- both calls come back, and the states go together -/
def PI (yC yM : Nat) (as : List Value) (h : PmH) (E : Int32 → Int32 → Prop) : Prop := ∃ (x y : Int32) (h1 h2 : PmH) (a' : AB), Ev pmT yC (.ref 0 :: as) h (some (.int x)) h1 ∧ Ev pmT yM (.ref 70 :: as) h1 (some (.int y)) h2 ∧ REL false h2 a' ∧ HI hdT shT h1 ∧ E x y
def PL (yC yM : Nat) (as : List Value) (h : PmH) (E : Int64 → Int64 → Prop) : Prop := ∃ (x y : Int64) (h1 h2 : PmH) (a' : AB), Ev pmT yC (.ref 0 :: as) h (some (.long x)) h1 ∧ Ev pmT yM (.ref 70 :: as) h1 (some (.long y)) h2 ∧ REL false h2 a' ∧ HI hdT shT h1 ∧ E x y
theorem pv_ii {v : Option Value} {I : Inst} (hp : ∀ P ∈ in_p I, ∃ B, P.1 = some B ∧ av_k B = 0) (h : ∃ P ∈ in_p I, pv P.1 v) : ∃ x, v = some (.int x) := by
  obtain ⟨P, h1, h2⟩ := h
  obtain ⟨B, e1, e2⟩ := hp P h1
  rw [e1] at h2
  obtain ⟨w, e3, e4⟩ := h2
  obtain ⟨x, e5, -⟩ := gv_k0 (A := nt B) e2 (e4 [] pm_h0)
  exact ⟨x, by rw [e3, e5]⟩
def ipk (I : Inst) : Bool := (in_p I).all (fun P => match P.1 with
  | some B => av_k B == 0
  | none => false)
theorem pv_i' {v : Option Value} {I : Inst} (hp : ipk I = true) (h : ∃ P ∈ in_p I, pv P.1 v) : ∃ x, v = some (.int x) := by
  refine pv_ii (fun P hP => ?_) h
  have := List.all_eq_true.mp hp P hP
  cases hq : P.1 with
  | none => rw [hq] at this; cases this
  | some B => rw [hq] at this; exact ⟨B, rfl, beq_iff_eq.mp this⟩
theorem q_fr {W : WSt} {h h' : PmH} {a : AB} (w1 : irC0 W = true) (w2 : irM0 W = true) (hI : HI hdT shT h') (hf : fram W h h') (hr : REL false h a) : REL false h' a := ⟨hI, QC_fr0 w1 hf hr.2.1, QM_fr0 w2 hf hr.2.2.1, hr.2.2.2⟩
/-- calls that only ask -/
theorem qI {IC IM : Inst} {as : List Value} {h : PmH} {a : AB} (hC : iv pmT hdT shT IC) (hM : iv pmT hdT shT IM) (oC : in_o IC = []) (oM : in_o IM = []) (gC : ∀ (lv : PmL) (h' : PmH), gst lv h' ((in_a IC).map nt) (.ref 0 :: as)) (gM : ∀ (lv : PmL) (h' : PmH), gst lv h' ((in_a IM).map nt) (.ref 70 :: as)) (kC : ipk IC = true) (kM : ipk IM = true) (w1 : irC0 (in_w IC) = true) (w2 : irM0 (in_w IC) = true) (w3 : irC0 (in_w IM) = true) (w4 : irM0 (in_w IM) = true) (hr : REL false h a) : PI (in_y IC) (in_y IM) as h (fun _ _ => True) := by
  obtain ⟨v1, h1, e1, I1, F1, p1⟩ := iv_ev hC oC gC hr.1
  have R1 := q_fr w1 w2 I1 F1 hr
  obtain ⟨v2, h2, e2, I2, F2, p2⟩ := iv_ev hM oM gM I1
  have R2 := q_fr w3 w4 I2 F2 R1
  obtain ⟨x, rfl⟩ := pv_i' kC p1
  obtain ⟨y, rfl⟩ := pv_i' kM p2
  exact ⟨x, y, h1, h2, a, e1, e2, R2, I1, trivial⟩
theorem qL {IC IM : Inst} {as : List Value} {h : PmH} {a : AB} (hC : iv pmT hdT shT IC) (hM : iv pmT hdT shT IM) (oC : in_o IC = []) (oM : in_o IM = []) (gC : ∀ (lv : PmL) (h' : PmH), gst lv h' ((in_a IC).map nt) (.ref 0 :: as)) (gM : ∀ (lv : PmL) (h' : PmH), gst lv h' ((in_a IM).map nt) (.ref 70 :: as)) (kC : in_p IC = [(some zl, [], [])]) (kM : in_p IM = [(some zl, [], [])]) (w1 : irC0 (in_w IC) = true) (w2 : irM0 (in_w IC) = true) (w3 : irC0 (in_w IM) = true) (w4 : irM0 (in_w IM) = true) (hr : REL false h a) : PL (in_y IC) (in_y IM) as h (fun _ _ => True) := by
  obtain ⟨v1, h1, e1, I1, F1, p1⟩ := iv_ev hC oC gC hr.1
  have R1 := q_fr w1 w2 I1 F1 hr
  obtain ⟨v2, h2, e2, I2, F2, p2⟩ := iv_ev hM oM gM I1
  have R2 := q_fr w3 w4 I2 F2 R1
  obtain ⟨x, rfl⟩ := pv_l kC p1
  obtain ⟨y, rfl⟩ := pv_l kM p2
  exact ⟨x, y, h1, h2, a, e1, e2, R2, I1, trivial⟩
section PAIR
variable {h : PmH} {a : AB}
theorem cmb {WC WM : WSt} {h1 h2 : PmH} {a' : AB} (hr : REL false h a) (hA : AOK a') (c1 : QC false h1 a') (F1 : fram WC h h1) (w1 : irM WC = true) (m2 : QM false h1 a → QM false h2 a') (I2 : HI hdT shT h2) (F2 : fram WM h1 h2) (w2 : irC WM = true) : REL false h2 a' := ⟨I2, QC_fr w2 F2 c1, m2 (QM_fr w1 F1 hr.2.2.1), hA⟩
theorem p_feed (a1 a2 a3 a4 a5 : Int32) (hr : REL false h a) : PI 10 146 [.int a1, .int a2, .int a3, .int a4, .int a5] h (fun x y => x = y) := by
  obtain ⟨hI, hC, hM, hA⟩ := id hr
  by_cases hp : a_tl a ≤ 180
  · obtain ⟨h1, e1, c1, I1, F1⟩ := fed_C (a1 := a1) (a2 := a2) (a3 := a3) (a4 := a4) (a5 := a5) hI hC hp
    obtain ⟨h2, e2, c2, I2, F2⟩ := fed_M (a1 := a1) (a2 := a2) (a3 := a3) (a4 := a4) (a5 := a5) I1 (QM_fr (show irM (in_w iN_1) = true by decide) F1 hM) hp
    refine ⟨_, _, h1, h2, _, e1, e2, ⟨I2, QC_fr (show irC (in_w iN_163) = true by decide) F2 c1, c2, ⟨?_, hA.2.1, fun s => ?_, hA.2.2.2⟩⟩, I1, rfl⟩
    · show a_tl a + 20 ≤ 200
      omega
    · show -128 ≤ ((if a_tl a ≤ s ∧ s < a_tl a + 20 then fd a1 a2 a3 a4 a5 (s - a_tl a) else a_tb a s)).toInt ∧ ((if a_tl a ≤ s ∧ s < a_tl a + 20 then fd a1 a2 a3 a4 a5 (s - a_tl a) else a_tb a s)).toInt ≤ 127
      split
      · unfold fd
        split
        · exact bt_in _ _
        · split
          · exact bt_in _ _
          · split
            · exact bt_in _ _
            · split
              · exact bt_in _ _
              · exact bt_in _ _
      · exact hA.2.2.1 s
  · exact ⟨-1, -1, h, h, a, fed_C0 hI hC hA.1 (by omega), fed_M0 hI hM hA.1 (by omega), hr, hI, rfl⟩
theorem p_end (x : Int32) (hr : REL false h a) : PI 12 147 [.int x] h (fun x y => x = y) := by
  obtain ⟨hI, hC, hM, hA⟩ := id hr
  by_cases hp : P_end x a
  · have h0 := Int32.le_iff_toInt_le.mp hp.1
    obtain ⟨t, rfl, e2, e3⟩ := i32_nI (y := x) h0
    have ht : t ≤ a_tl a := (nI_leI e3 (by have := hA.1; omega)).mp hp.2
    obtain ⟨h1, e1, c1, I1, F1⟩ := end_C hI hC ht hA.1
    obtain ⟨h2, e2, c2, I2, F2⟩ := end_M I1 (QM_fr (show irM (in_w iN_2) = true by decide) F1 hM) ht hA.1
    exact ⟨_, _, h1, h2, _, e1, e2, ⟨I2, QC_fr (show irC (in_w iN_164) = true by decide) F2 c1, c2, ⟨Nat.le_trans ht hA.1, hA.2⟩⟩, I1, rfl⟩
  · exact ⟨-1, -1, h, h, a, end_C0 hI hC hp, end_M0 hI hM hp, hr, hI, rfl⟩
theorem push_q (a : AB) : a_q (a_push a) ≤ 12 := Nat.min_le_left _ _
theorem p_code (hr : REL false h a) : PI 13 149 [] h (fun _ _ => True) := by
  obtain ⟨hI, hC, hM, hA⟩ := id hr
  rcases cod_C hI hC hA with ⟨R, K, h1, z1, z2, e1, c1, I1, F1⟩ | ⟨x, h1, z1, e1, c1, I1, F1⟩
  · rcases cod_M I1 (QM_fr (show irM cW = true by decide) F1 hM) hA with ⟨R', K', h2, y1, e2, c2, I2, F2⟩ | ⟨x, h2, y1, e2, c2, I2, F2⟩
    · rw [z1] at y1
      cases y1
      exact ⟨_, _, h1, h2, _, e1, e2, ⟨I2, QC_fr (show irC mW = true by decide) F2 (QC_K (K' := K') c1), c2, ⟨Nat.zero_le _, push_q _, hA.2.2⟩⟩, I1, trivial⟩
    · rw [z1] at y1
      cases y1
  · rcases cod_M I1 (QM_fr (show irM cW = true by decide) F1 hM) hA with ⟨R', K', h2, y1, e2, c2, I2, F2⟩ | ⟨x', h2, y1, e2, c2, I2, F2⟩
    · rw [z1] at y1
      cases y1
    · exact ⟨_, _, h1, h2, _, e1, e2, ⟨I2, QC_fr (show irC mW = true by decide) F2 c1, c2, ⟨Nat.zero_le _, hA.2⟩⟩, I1, trivial⟩
theorem n_N (hr : REL false h a) : ∃ N, N ≤ 64 ∧ (a_v a).1 1 = nI N := by
  have hb := n_le hr.1 hr.2.1
  obtain ⟨N, e1, e2, -⟩ := i32_nI (y := (a_v a).1 1) hb.1
  exact ⟨N, by omega, e1⟩
theorem k_N (hr : REL false h a) : ∃ k, k ≤ 64 ∧ (a_v a).1 2 = nI k := by
  have hb := hi_i (lo := 0) (hi := 64) hr.1 (p := 1) (c := 2) rfl rfl (by decide)
  rw [hr.2.1.2.2.2.2.1.1 2 (by decide)] at hb
  obtain ⟨N, e1, e2, -⟩ := i32_nI (y := (a_v a).1 2) hb.1
  exact ⟨N, by omega, e1⟩
theorem p_hear (hr : REL false h a) : PI 68 180 [] h (fun x y => x = y) := by
  obtain ⟨hI, hC, hM, hA⟩ := id hr
  by_cases hp : P_hear a
  · obtain ⟨N, n1, n2⟩ := n_N hr
    obtain ⟨h1, e1, c1, I1, F1⟩ := her_C hI hC hA n1 n2 hp
    obtain ⟨h2, e2, c2, I2, F2⟩ := her_M I1 (QM_fr (show irM (in_w iN_31) = true by decide) F1 hM) hA n1 n2 hp
    exact ⟨_, _, h1, h2, _, e1, e2, ⟨I2, QC_fr (show irC (in_w iN_185) = true by decide) F2 c1, c2, ⟨Nat.zero_le _, push_q _, hA.2.2⟩⟩, I1, rfl⟩
  · exact ⟨-1, -1, h, h, a, her_C0 hI hC hp, her_M0 hI hM hp, hr, hI, rfl⟩
theorem p_tell (y x : Int32) (hr : REL false h a) : PI 69 181 [.int y, .int x] h (fun _ _ => True) := by
  obtain ⟨hI, hC, hM, hA⟩ := id hr
  by_cases hp : P_tell y x a
  · obtain ⟨b, b1, rfl, -⟩ := ix_of (n_le hI hC) hp.1
    obtain ⟨h1, e1, c1, I1, F1⟩ := tel_C hI hC hA.2.1 b1 hp
    obtain ⟨h2, e2, c2, I2, F2⟩ := tel_M I1 (QM_fr (show irM (in_w iN_32) = true by decide) F1 hM) hA.2.1 b1 hp
    exact ⟨_, _, h1, h2, _, e1, e2, ⟨I2, QC_fr (show irC (in_w iN_186) = true by decide) F2 c1, c2, ⟨hA.1, push_q _, hA.2.2⟩⟩, I1, trivial⟩
  · exact ⟨_, _, h, h, a, tel_C0 hI hC hp, tel_M0 hI hM hp, hr, hI, trivial⟩
theorem p_send (w : Int64) (x y : Int32) (hr : REL false h a) : PI 70 182 [.long w, .int x, .int y] h (fun x y => x = y) := by
  obtain ⟨hI, hC, hM, hA⟩ := id hr
  obtain ⟨k, k1, k2⟩ := k_N hr
  by_cases hp : P_send w x y k a
  · obtain ⟨h1, e1, c1, I1, F1⟩ := snd_C hI hC hA.2.1 k1 k2 hp
    obtain ⟨h2, e2, c2, I2, F2⟩ := snd_M I1 (QM_fr (show irM (in_w iN_42) = true by decide) F1 hM) hA.2.1 k1 k2 hp
    exact ⟨_, _, h1, h2, _, e1, e2, ⟨I2, QC_fr (show irC (in_w iN_206) = true by decide) F2 c1, c2, ⟨hA.1, push_q _, hA.2.2⟩⟩, I1, rfl⟩
  · exact ⟨_, _, h, h, a, snd_C0 hI hC k1 k2 hp, snd_M0 hI hM k1 k2 hp, hr, hI, rfl⟩
theorem p_list (x : Int32) (hr : REL false h a) : PI 78 189 [.int x] h (fun x y => x = y) := by
  obtain ⟨hI, hC, hM, hA⟩ := id hr
  by_cases hp : P_list x a
  · obtain ⟨h1, e1, c1, I1, F1⟩ := lst_C hI hC hA.2.1 hp
    obtain ⟨h2, e2, c2, I2, F2⟩ := lst_M I1 (QM_fr (show irM (in_w iN_52) = true by decide) F1 hM) hA.2.1 hp
    exact ⟨_, _, h1, h2, _, e1, e2, ⟨I2, QC_fr (show irC (in_w iN_210) = true by decide) F2 c1, c2, ⟨hA.1, push_q _, hA.2.2⟩⟩, I1, rfl⟩
  · exact ⟨_, _, h, h, a, lst_C0 hI hC hp, lst_M0 hI hM hp, hr, hI, rfl⟩
theorem p_draws (x : Int32) (hr : REL false h a) : PI 137 226 [.int x] h (fun _ _ => True) := by
  obtain ⟨hI, hC, hM, hA⟩ := id hr
  by_cases hp : x < 0
  · exact ⟨_, _, h, h, a, drw_C0 hI hp, drw_M0 hI hp, hr, hI, trivial⟩
  · have hp := Int32.not_lt.mp hp
    obtain ⟨h1, e1, c1, I1, F1⟩ := drw_C hI hC hp
    obtain ⟨h2, e2, c2, I2, F2⟩ := drw_M I1 (QM_fr (show irM (in_w iN_150) = true by decide) F1 hM) hp
    exact ⟨_, _, h1, h2, _, e1, e2, ⟨I2, QC_fr (show irC (in_w iN_238) = true by decide) F2 c1, c2, ⟨hA.1, hA.2.1, hA.2.2.1, Int32.le_iff_toInt_le.mp hp⟩⟩, I1, trivial⟩
theorem p_undo (hr : REL false h a) : PI 140 228 [] h (fun x y => x = y) := by
  obtain ⟨hI, hC, hM, hA⟩ := id hr
  by_cases hp : a_q a = 0
  · exact ⟨_, _, h, h, a, und_C0 hI hC hp, und_M0 hI hM hp, hr, hI, rfl⟩
  · obtain ⟨h1, e1, c1, I1, F1⟩ := und_C hI hC hA.2.1 (by omega)
    obtain ⟨h2, e2, c2, I2, F2⟩ := und_M I1 (QM_fr (show irM (in_w iN_156) = true by decide) F1 hM) hA.2.1 (by omega)
    refine ⟨_, _, h1, h2, _, e1, e2, ⟨I2, QC_fr (show irC (in_w iN_267) = true by decide) F2 c1, c2, ⟨hA.1, ?_, hA.2.2⟩⟩, I1, rfl⟩
    show a_q a - 1 ≤ 12
    have := hA.2.1
    omega
theorem x_01 (x : Int32) : (x < 0 ∨ 2 ≤ x) ∨ ∃ n, n < 2 ∧ x = nI n := by
  by_cases h1 : x < 0
  · exact Or.inl (Or.inl h1)
  · by_cases h2 : 2 ≤ x
    · exact Or.inl (Or.inr h2)
    · have h3 := Int32.le_iff_toInt_le.mp (Int32.not_lt.mp h1)
      have h4 := Int32.lt_iff_toInt_lt.mp (Int32.not_le.mp h2)
      obtain ⟨n, e1, e2, -⟩ := i32_nI (y := x) h3
      rw [show (2 : Int32).toInt = 2 from rfl] at h4
      exact Or.inr ⟨n, by omega, e1⟩
theorem p_image (x : Int32) (hr : REL false h a) : PI 141 230 [.int x] h (fun x y => x = y) := by
  obtain ⟨hI, hC, hM, hA⟩ := id hr
  rcases x_01 x with hp | ⟨n, n1, rfl⟩
  · exact ⟨_, _, h, h, a, img_C0 hI hp, img_M0 hI hp, hr, hI, rfl⟩
  · obtain ⟨h1, e1, c1, I1, F1⟩ := img_C hI hC n1
    obtain ⟨h2, e2, c2, I2, F2⟩ := img_M I1 (QM_fr (show irM (in_w iN_158) = true by decide) F1 hM) hA.2.1 n1
    exact ⟨_, _, h1, h2, _, e1, e2, ⟨I2, QC_fr (show irC (in_w iN_295) = true by decide) F2 c1, c2, hA⟩, I1, rfl⟩
theorem p_back (x : Int32) (hr : REL false h a) : PI 142 231 [.int x] h (fun x y => x = y) := by
  obtain ⟨hI, hC, hM, hA⟩ := id hr
  rcases x_01 x with hp | ⟨n, n1, rfl⟩
  · exact ⟨_, _, h, h, a, bck_C0 hI hp, bck_M0 hI hp, hr, hI, rfl⟩
  · cases hm : a_m a n with
    | none => exact ⟨_, _, h, h, a, bck_C1 hI hC n1 hm, bck_M1 hI hM n1 hm, hr, hI, rfl⟩
    | some v =>
      obtain ⟨h1, e1, c1, I1, F1⟩ := bck_C hI hC n1 hm
      obtain ⟨h2, e2, c2, I2, F2⟩ := bck_M I1 (QM_fr (show irM (in_w iN_160) = true by decide) F1 hM) n1 hm
      exact ⟨_, _, h1, h2, _, e1, e2, ⟨I2, QC_fr (show irC (in_w iN_296) = true by decide) F2 c1, c2, ⟨hA.1, Nat.zero_le _, hA.2.2⟩⟩, I1, rfl⟩
theorem p_goodness (x0 : Int32) (hr : REL false h a) : PL 51 167 [.int x0] h (fun _ _ => True) := qL vN_9 vN_171 rfl rfl (fun _ _ => gz_c (gz_r (by decide)) (gz_c (gz_a _) (gz_n))) (fun _ _ => gz_c (gz_r (by decide)) (gz_c (gz_a _) (gz_n))) rfl rfl (by decide) (by decide) (by decide) (by decide) hr
theorem p_kept (x0 : Int32) (hr : REL false h a) : PI 53 169 [.int x0] h (fun _ _ => True) := qI vN_13 vN_173 rfl rfl (fun _ _ => gz_c (gz_r (by decide)) (gz_c (gz_a _) (gz_n))) (fun _ _ => gz_c (gz_r (by decide)) (gz_c (gz_a _) (gz_n))) (by decide) (by decide) (by decide) (by decide) (by decide) (by decide) hr
theorem p_word (x0 : Int64) (hr : REL false h a) : PL 55 170 [.long x0] h (fun _ _ => True) := qL vN_21 vN_179 rfl rfl (fun _ _ => gz_c (gz_r (by decide)) (gz_c (gz_l _) (gz_n))) (fun _ _ => gz_c (gz_r (by decide)) (gz_c (gz_l _) (gz_n))) rfl rfl (by decide) (by decide) (by decide) (by decide) hr
theorem p_check (x0 : Int64) (hr : REL false h a) : PI 63 176 [.long x0] h (fun _ _ => True) := qI vN_22 vN_180 rfl rfl (fun _ _ => gz_c (gz_r (by decide)) (gz_c (gz_l _) (gz_n))) (fun _ _ => gz_c (gz_r (by decide)) (gz_c (gz_l _) (gz_n))) (by decide) (by decide) (by decide) (by decide) (by decide) (by decide) hr
theorem p_systematic (x0 : Int64) (hr : REL false h a) : PL 64 177 [.long x0] h (fun _ _ => True) := qL vN_23 vN_182 rfl rfl (fun _ _ => gz_c (gz_r (by decide)) (gz_c (gz_l _) (gz_n))) (fun _ _ => gz_c (gz_r (by decide)) (gz_c (gz_l _) (gz_n))) rfl rfl (by decide) (by decide) (by decide) (by decide) hr
theorem p_row (x0 : Int32) (hr : REL false h a) : PI 65 179 [.int x0] h (fun _ _ => True) := qI vN_26 vN_184 rfl rfl (fun _ _ => gz_c (gz_r (by decide)) (gz_c (gz_a _) (gz_n))) (fun _ _ => gz_c (gz_r (by decide)) (gz_c (gz_a _) (gz_n))) (by decide) (by decide) (by decide) (by decide) (by decide) (by decide) hr
theorem p_sum (x0 : Int32) (hr : REL false h a) : PI 74 186 [.int x0] h (fun _ _ => True) := qI vN_43 vN_207 rfl rfl (fun _ _ => gz_c (gz_r (by decide)) (gz_c (gz_a _) (gz_n))) (fun _ _ => gz_c (gz_r (by decide)) (gz_c (gz_a _) (gz_n))) (by decide) (by decide) (by decide) (by decide) (by decide) (by decide) hr
theorem p_distance (x0 : Int64) (hr : REL false h a) : PI 75 187 [.long x0] h (fun _ _ => True) := qI vN_46 vN_209 rfl rfl (fun _ _ => gz_c (gz_r (by decide)) (gz_c (gz_l _) (gz_n))) (fun _ _ => gz_c (gz_r (by decide)) (gz_c (gz_l _) (gz_n))) (by decide) (by decide) (by decide) (by decide) (by decide) (by decide) hr
theorem p_read  (hr : REL false h a) : PL 80 190 [] h (fun _ _ => True) := qL vN_117 vN_215 rfl rfl (fun _ _ => gz_c (gz_r (by decide)) (gz_n)) (fun _ _ => gz_c (gz_r (by decide)) (gz_n)) rfl rfl (by decide) (by decide) (by decide) (by decide) hr
theorem p_told (x0 : Int32) (hr : REL false h a) : PI 109 203 [.int x0] h (fun _ _ => True) := qI vN_118 vN_216 rfl rfl (fun _ _ => gz_c (gz_r (by decide)) (gz_c (gz_a _) (gz_n))) (fun _ _ => gz_c (gz_r (by decide)) (gz_c (gz_a _) (gz_n))) (by decide) (by decide) (by decide) (by decide) (by decide) (by decide) hr
theorem p_path (x0 : Int32) (x1 : Int32) (x2 : Int32) (hr : REL false h a) : PI 110 204 [.int x0, .int x1, .int x2] h (fun _ _ => True) := qI vN_119 vN_217 rfl rfl (fun _ _ => gz_c (gz_r (by decide)) (gz_c (gz_a _) (gz_c (gz_a _) (gz_c (gz_a _) (gz_n))))) (fun _ _ => gz_c (gz_r (by decide)) (gz_c (gz_a _) (gz_c (gz_a _) (gz_c (gz_a _) (gz_n))))) (by decide) (by decide) (by decide) (by decide) (by decide) (by decide) hr
theorem p_message (x0 : Int32) (hr : REL false h a) : PL 111 205 [.int x0] h (fun _ _ => True) := qL vN_120 vN_218 rfl rfl (fun _ _ => gz_c (gz_r (by decide)) (gz_c (gz_a _) (gz_n))) (fun _ _ => gz_c (gz_r (by decide)) (gz_c (gz_a _) (gz_n))) rfl rfl (by decide) (by decide) (by decide) (by decide) hr
theorem p_work (x0 : Int32) (x1 : Int32) (x2 : Int32) (hz : x1 = 0 ∨ x1 = 1) (hr : REL false h a) : PI 112 206 [.int x0, .int x1, .int x2] h (fun _ _ => True) := qI vN_121 vN_227 rfl rfl (fun _ _ => gz_c (gz_r (by decide)) (gz_c (gz_a _) (gz_c (gz_i (by rcases hz with rfl | rfl <;> decide) (by rcases hz with rfl | rfl <;> decide)) (gz_c (gz_a _) (gz_n))))) (fun _ _ => gz_c (gz_r (by decide)) (gz_c (gz_a _) (gz_c (gz_i (by rcases hz with rfl | rfl <;> decide) (by rcases hz with rfl | rfl <;> decide)) (gz_c (gz_a _) (gz_n))))) (by decide) (by decide) (by decide) (by decide) (by decide) (by decide) hr
theorem p_grown (x0 : Int32) (hr : REL false h a) : PI 113 213 [.int x0] h (fun _ _ => True) := qI vN_122 vN_228 rfl rfl (fun _ _ => gz_c (gz_r (by decide)) (gz_c (gz_a _) (gz_n))) (fun _ _ => gz_c (gz_r (by decide)) (gz_c (gz_a _) (gz_n))) (by decide) (by decide) (by decide) (by decide) (by decide) (by decide) hr
theorem p_flipped (x0 : Int32) (hr : REL false h a) : PI 114 214 [.int x0] h (fun _ _ => True) := qI vN_126 vN_233 rfl rfl (fun _ _ => gz_c (gz_r (by decide)) (gz_c (gz_a _) (gz_n))) (fun _ _ => gz_c (gz_r (by decide)) (gz_c (gz_a _) (gz_n))) (by decide) (by decide) (by decide) (by decide) (by decide) (by decide) hr
theorem p_sought (x0 : Int32) (hr : REL false h a) : PI 117 217 [.int x0] h (fun _ _ => True) := qI vN_139 vN_234 rfl rfl (fun _ _ => gz_c (gz_r (by decide)) (gz_c (gz_a _) (gz_n))) (fun _ _ => gz_c (gz_r (by decide)) (gz_c (gz_a _) (gz_n))) (by decide) (by decide) (by decide) (by decide) (by decide) (by decide) hr
theorem p_soughtMessage  (hr : REL false h a) : PL 127 223 [] h (fun _ _ => True) := qL vN_140 vN_235 rfl rfl (fun _ _ => gz_c (gz_r (by decide)) (gz_n)) (fun _ _ => gz_c (gz_r (by decide)) (gz_n)) rfl rfl (by decide) (by decide) (by decide) (by decide) hr
theorem p_nearest (x0 : Int32) (hr : REL false h a) : PI 128 224 [.int x0] h (fun _ _ => True) := qI vN_147 vN_236 rfl rfl (fun _ _ => gz_c (gz_r (by decide)) (gz_c (gz_a _) (gz_n))) (fun _ _ => gz_c (gz_r (by decide)) (gz_c (gz_a _) (gz_n))) (by decide) (by decide) (by decide) (by decide) (by decide) (by decide) hr
theorem p_weights (x0 : Int32) (hr : REL false h a) : PI 135 225 [.int x0] h (fun _ _ => True) := qI vN_149 vN_237 rfl rfl (fun _ _ => gz_c (gz_r (by decide)) (gz_c (gz_a _) (gz_n))) (fun _ _ => gz_c (gz_r (by decide)) (gz_c (gz_a _) (gz_n))) (by decide) (by decide) (by decide) (by decide) (by decide) (by decide) hr
theorem p_frames (x0 : Int32) (x1 : Int32) (x2 : Int32) (x3 : Int32) (hr : REL false h a) : PI 138 227 [.int x0, .int x1, .int x2, .int x3] h (fun _ _ => True) := qI vN_154 vN_239 rfl rfl (fun _ _ => gz_c (gz_r (by decide)) (gz_c (gz_a _) (gz_c (gz_a _) (gz_c (gz_a _) (gz_c (gz_a _) (gz_n)))))) (fun _ _ => gz_c (gz_r (by decide)) (gz_c (gz_a _) (gz_c (gz_a _) (gz_c (gz_a _) (gz_c (gz_a _) (gz_n)))))) (by decide) (by decide) (by decide) (by decide) (by decide) (by decide) hr
theorem p_count (x0 : Int32) (hr : REL false h a) : PI 143 232 [.int x0] h (fun _ _ => True) := qI vN_162 vN_298 rfl rfl (fun _ _ => gz_c (gz_r (by decide)) (gz_c (gz_a _) (gz_n))) (fun _ _ => gz_c (gz_r (by decide)) (gz_c (gz_a _) (gz_n))) (by decide) (by decide) (by decide) (by decide) (by decide) (by decide) hr
end PAIR
