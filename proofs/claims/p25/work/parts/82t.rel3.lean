/-! THE THIRD LEVEL -/
def REL3 (h : PmH) (a : AB) : Prop := REL2 h a ∧ RD h
def PI3 (yC yM : Nat) (as : List Value) (h : PmH) (E : Int32 → Int32 → Prop) : Prop := ∃ (x y : Int32) (h1 h2 : PmH) (a' : AB), Ev pmT yC (.ref 0 :: as) h (some (.int x)) h1 ∧ Ev pmT yM (.ref 70 :: as) h1 (some (.int y)) h2 ∧ REL3 h2 a' ∧ HI hdT shT h1 ∧ E x y
def PL3 (yC yM : Nat) (as : List Value) (h : PmH) (E : Int64 → Int64 → Prop) : Prop := ∃ (x y : Int64) (h1 h2 : PmH) (a' : AB), Ev pmT yC (.ref 0 :: as) h (some (.long x)) h1 ∧ Ev pmT yM (.ref 70 :: as) h1 (some (.long y)) h2 ∧ REL3 h2 a' ∧ HI hdT shT h1 ∧ E x y
theorem l3I {IM : Inst} {yC : Nat} {as : List Value} {h : PmH} {E : Int32 → Int32 → Prop} (vM : iv pmT hdT shT IM) (oM : in_o IM = []) (gM : ∀ (lv : PmL) (h' : PmH), gst lv h' ((in_a IM).map nt) (.ref 70 :: as)) (w0 : inW (in_w IM) 13 0 = false) (w1 : inW (in_w IM) 13 1 = false) (hC : ∀ v h1, Ev pmT yC (.ref 0 :: as) h v h1 → RD h1) (p : PI yC (in_y IM) as h E) : PI3 yC (in_y IM) as h E := by
  obtain ⟨x, y, h1, h2, a', e1, e2, r, I1, e⟩ := p
  exact ⟨x, y, h1, h2, a', e1, e2, ⟨r, RD_fr w0 w1 (iv_s vM oM gM I1 e2).2 (hC _ _ e1)⟩, I1, e⟩
theorem l3L {IM : Inst} {yC : Nat} {as : List Value} {h : PmH} {E : Int64 → Int64 → Prop} (vM : iv pmT hdT shT IM) (oM : in_o IM = []) (gM : ∀ (lv : PmL) (h' : PmH), gst lv h' ((in_a IM).map nt) (.ref 70 :: as)) (w0 : inW (in_w IM) 13 0 = false) (w1 : inW (in_w IM) 13 1 = false) (hC : ∀ v h1, Ev pmT yC (.ref 0 :: as) h v h1 → RD h1) (p : PL yC (in_y IM) as h E) : PL3 yC (in_y IM) as h E := by
  obtain ⟨x, y, h1, h2, a', e1, e2, r, I1, e⟩ := p
  exact ⟨x, y, h1, h2, a', e1, e2, ⟨r, RD_fr w0 w1 (iv_s vM oM gM I1 e2).2 (hC _ _ e1)⟩, I1, e⟩
theorem c3 {IC : Inst} {as : List Value} {h : PmH} {a : AB} (vC : iv pmT hdT shT IC) (oC : in_o IC = []) (gC : ∀ (lv : PmL) (h' : PmH), gst lv h' ((in_a IC).map nt) (.ref 0 :: as)) (w0 : inW (in_w IC) 13 0 = false) (w1 : inW (in_w IC) 13 1 = false) (hr : REL3 h a) : ∀ v h1, Ev pmT (in_y IC) (.ref 0 :: as) h v h1 → RD h1 := fun _ _ e => RD_fr w0 w1 (iv_s vC oC gC hr.1.1.1 e).2 hr.2
section P3
variable {h : PmH} {a : AB}
theorem p3_feed (x0 : Int32) (x1 : Int32) (x2 : Int32) (x3 : Int32) (x4 : Int32) (hr : REL3 h a) : PI3 10 146 [.int x0, .int x1, .int x2, .int x3, .int x4] h (fun x y => x = y) := l3I vN_163 rfl (fun _ _ => gz_c (gz_r (by decide)) (gz_c (gz_a _) (gz_c (gz_a _) (gz_c (gz_a _) (gz_c (gz_a _) (gz_c (gz_a _) gz_n)))))) (by decide) (by decide) (c3 vN_1 rfl (fun _ _ => gz_c (gz_r (by decide)) (gz_c (gz_a _) (gz_c (gz_a _) (gz_c (gz_a _) (gz_c (gz_a _) (gz_c (gz_a _) gz_n)))))) (by decide) (by decide) hr) (p_feed x0 x1 x2 x3 x4 hr.1)
theorem p3_end (x0 : Int32) (hr : REL3 h a) : PI3 12 147 [.int x0] h (fun x y => x = y) := l3I vN_164 rfl (fun _ _ => gz_c (gz_r (by decide)) (gz_c (gz_a _) gz_n)) (by decide) (by decide) (c3 vN_2 rfl (fun _ _ => gz_c (gz_r (by decide)) (gz_c (gz_a _) gz_n)) (by decide) (by decide) hr) (p_end x0 hr.1)
theorem p3_goodness (x0 : Int32) (hr : REL3 h a) : PL3 51 167 [.int x0] h (fun x y => x = y) := l3L vN_171 rfl (fun _ _ => gz_c (gz_r (by decide)) (gz_c (gz_a _) gz_n)) (by decide) (by decide) (c3 vN_9 rfl (fun _ _ => gz_c (gz_r (by decide)) (gz_c (gz_a _) gz_n)) (by decide) (by decide) hr) (p_goodness x0 hr.1)
theorem p3_kept (x0 : Int32) (hr : REL3 h a) : PI3 53 169 [.int x0] h (fun x y => x = y) := l3I vN_173 rfl (fun _ _ => gz_c (gz_r (by decide)) (gz_c (gz_a _) gz_n)) (by decide) (by decide) (c3 vN_13 rfl (fun _ _ => gz_c (gz_r (by decide)) (gz_c (gz_a _) gz_n)) (by decide) (by decide) hr) (p_kept x0 hr.1)
theorem p3_word (x0 : Int64) (hr : REL3 h a) : PL3 55 170 [.long x0] h (fun x y => x = y) := l3L vN_179 rfl (fun _ _ => gz_c (gz_r (by decide)) (gz_c (gz_l _) gz_n)) (by decide) (by decide) (c3 vN_21 rfl (fun _ _ => gz_c (gz_r (by decide)) (gz_c (gz_l _) gz_n)) (by decide) (by decide) hr) (p_word x0 hr.1)
theorem p3_check (x0 : Int64) (hr : REL3 h a) : PI3 63 176 [.long x0] h (fun x y => x = y) := l3I vN_180 rfl (fun _ _ => gz_c (gz_r (by decide)) (gz_c (gz_l _) gz_n)) (by decide) (by decide) (c3 vN_22 rfl (fun _ _ => gz_c (gz_r (by decide)) (gz_c (gz_l _) gz_n)) (by decide) (by decide) hr) (p_check x0 hr.1)
theorem p3_systematic (x0 : Int64) (hr : REL3 h a) : PL3 64 177 [.long x0] h (fun x y => x = y) := l3L vN_182 rfl (fun _ _ => gz_c (gz_r (by decide)) (gz_c (gz_l _) gz_n)) (by decide) (by decide) (c3 vN_23 rfl (fun _ _ => gz_c (gz_r (by decide)) (gz_c (gz_l _) gz_n)) (by decide) (by decide) hr) (p_systematic x0 hr.1)
theorem p3_row (x0 : Int32) (hr : REL3 h a) : PI3 65 179 [.int x0] h (fun x y => x = y) := l3I vN_184 rfl (fun _ _ => gz_c (gz_r (by decide)) (gz_c (gz_a _) gz_n)) (by decide) (by decide) (c3 vN_26 rfl (fun _ _ => gz_c (gz_r (by decide)) (gz_c (gz_a _) gz_n)) (by decide) (by decide) hr) (p_row x0 hr.1)
theorem p3_hear  (hr : REL3 h a) : PI3 68 180 [] h (fun x y => x = y) := l3I vN_185 rfl (fun _ _ => gz_c (gz_r (by decide)) gz_n) (by decide) (by decide) (c3 vN_31 rfl (fun _ _ => gz_c (gz_r (by decide)) gz_n) (by decide) (by decide) hr) (p_hear  hr.1)
theorem p3_tell (x0 : Int32) (x1 : Int32) (hr : REL3 h a) : PI3 69 181 [.int x0, .int x1] h (fun x y => x = y) := l3I vN_186 rfl (fun _ _ => gz_c (gz_r (by decide)) (gz_c (gz_a _) (gz_c (gz_a _) gz_n))) (by decide) (by decide) (c3 vN_32 rfl (fun _ _ => gz_c (gz_r (by decide)) (gz_c (gz_a _) (gz_c (gz_a _) gz_n))) (by decide) (by decide) hr) (p_tell x0 x1 hr.1)
theorem p3_send (x0 : Int64) (x1 : Int32) (x2 : Int32) (hr : REL3 h a) : PI3 70 182 [.long x0, .int x1, .int x2] h (fun x y => x = y) := l3I vN_206 rfl (fun _ _ => gz_c (gz_r (by decide)) (gz_c (gz_l _) (gz_c (gz_a _) (gz_c (gz_a _) gz_n)))) (by decide) (by decide) (c3 vN_42 rfl (fun _ _ => gz_c (gz_r (by decide)) (gz_c (gz_l _) (gz_c (gz_a _) (gz_c (gz_a _) gz_n)))) (by decide) (by decide) hr) (p_send x0 x1 x2 hr.1)
theorem p3_sum (x0 : Int32) (hr : REL3 h a) : PI3 74 186 [.int x0] h (fun x y => x = y) := l3I vN_207 rfl (fun _ _ => gz_c (gz_r (by decide)) (gz_c (gz_a _) gz_n)) (by decide) (by decide) (c3 vN_43 rfl (fun _ _ => gz_c (gz_r (by decide)) (gz_c (gz_a _) gz_n)) (by decide) (by decide) hr) (p_sum x0 hr.1)
theorem p3_distance (x0 : Int64) (hr : REL3 h a) : PI3 75 187 [.long x0] h (fun x y => x = y) := l3I vN_209 rfl (fun _ _ => gz_c (gz_r (by decide)) (gz_c (gz_l _) gz_n)) (by decide) (by decide) (c3 vN_46 rfl (fun _ _ => gz_c (gz_r (by decide)) (gz_c (gz_l _) gz_n)) (by decide) (by decide) hr) (p_distance x0 hr.1)
theorem p3_list (x0 : Int32) (hr : REL3 h a) : PI3 78 189 [.int x0] h (fun x y => x = y) := l3I vN_210 rfl (fun _ _ => gz_c (gz_r (by decide)) (gz_c (gz_a _) gz_n)) (by decide) (by decide) (c3 vN_52 rfl (fun _ _ => gz_c (gz_r (by decide)) (gz_c (gz_a _) gz_n)) (by decide) (by decide) hr) (p_list x0 hr.1)
theorem p3_sought (x0 : Int32) (hr : REL3 h a) : PI3 117 217 [.int x0] h (fun _ _ => True) := l3I vN_234 rfl (fun _ _ => gz_c (gz_r (by decide)) (gz_c (gz_a _) gz_n)) (by decide) (by decide) (c3 vN_139 rfl (fun _ _ => gz_c (gz_r (by decide)) (gz_c (gz_a _) gz_n)) (by decide) (by decide) hr) (p_sought x0 hr.1)
theorem p3_soughtMessage  (hr : REL3 h a) : PL3 127 223 [] h (fun _ _ => True) := l3L vN_235 rfl (fun _ _ => gz_c (gz_r (by decide)) gz_n) (by decide) (by decide) (c3 vN_140 rfl (fun _ _ => gz_c (gz_r (by decide)) gz_n) (by decide) (by decide) hr) (p_soughtMessage  hr.1)
theorem p3_nearest (x0 : Int32) (hr : REL3 h a) : PI3 128 224 [.int x0] h (fun _ _ => True) := l3I vN_236 rfl (fun _ _ => gz_c (gz_r (by decide)) (gz_c (gz_a _) gz_n)) (by decide) (by decide) (c3 vN_147 rfl (fun _ _ => gz_c (gz_r (by decide)) (gz_c (gz_a _) gz_n)) (by decide) (by decide) hr) (p_nearest x0 hr.1)
theorem p3_weights (x0 : Int32) (hr : REL3 h a) : PI3 135 225 [.int x0] h (fun _ _ => True) := l3I vN_237 rfl (fun _ _ => gz_c (gz_r (by decide)) (gz_c (gz_a _) gz_n)) (by decide) (by decide) (c3 vN_149 rfl (fun _ _ => gz_c (gz_r (by decide)) (gz_c (gz_a _) gz_n)) (by decide) (by decide) hr) (p_weights x0 hr.1)
theorem p3_draws (x0 : Int32) (hr : REL3 h a) : PI3 137 226 [.int x0] h (fun x y => x = y) := l3I vN_238 rfl (fun _ _ => gz_c (gz_r (by decide)) (gz_c (gz_a _) gz_n)) (by decide) (by decide) (c3 vN_150 rfl (fun _ _ => gz_c (gz_r (by decide)) (gz_c (gz_a _) gz_n)) (by decide) (by decide) hr) (p_draws x0 hr.1)
theorem p3_undo  (hr : REL3 h a) : PI3 140 228 [] h (fun x y => x = y) := l3I vN_267 rfl (fun _ _ => gz_c (gz_r (by decide)) gz_n) (by decide) (by decide) (c3 vN_156 rfl (fun _ _ => gz_c (gz_r (by decide)) gz_n) (by decide) (by decide) hr) (p_undo  hr.1)
theorem p3_image (x0 : Int32) (hr : REL3 h a) : PI3 141 230 [.int x0] h (fun x y => x = y) := l3I vN_295 rfl (fun _ _ => gz_c (gz_r (by decide)) (gz_c (gz_a _) gz_n)) (by decide) (by decide) (c3 vN_158 rfl (fun _ _ => gz_c (gz_r (by decide)) (gz_c (gz_a _) gz_n)) (by decide) (by decide) hr) (p_image x0 hr.1)
theorem p3_back (x0 : Int32) (hr : REL3 h a) : PI3 142 231 [.int x0] h (fun x y => x = y) := l3I vN_296 rfl (fun _ _ => gz_c (gz_r (by decide)) (gz_c (gz_a _) gz_n)) (by decide) (by decide) (c3 vN_160 rfl (fun _ _ => gz_c (gz_r (by decide)) (gz_c (gz_a _) gz_n)) (by decide) (by decide) hr) (p_back x0 hr.1)
theorem p3_count (x0 : Int32) (hr : REL3 h a) : PI3 143 232 [.int x0] h (fun x y => x = y) := l3I vN_298 rfl (fun _ _ => gz_c (gz_r (by decide)) (gz_c (gz_a _) gz_n)) (by decide) (by decide) (c3 vN_162 rfl (fun _ _ => gz_c (gz_r (by decide)) (gz_c (gz_a _) gz_n)) (by decide) (by decide) hr) (p_count x0 hr.1)
theorem p3_code (hr : REL3 h a) : PI3 13 149 [] h (fun _ _ => True) := by
  obtain ⟨⟨⟨hI, hC, hM, hA⟩, hV⟩, hR⟩ := id hr
  obtain ⟨x, y, h1, h2, a', e1, e2, r, I1, e⟩ := p_code hr.1
  refine ⟨x, y, h1, h2, a', e1, e2, ⟨r, ?_⟩, I1, e⟩
  have r1 : RD h1 ∧ ∃ a, QM true h1 a ∧ AOK a := by
    rcases cod_C hI hC hA with ⟨R, K, g1, z1, z2, f1, c1, J1, F1⟩ | ⟨x, g1, z1, f1, c1, J1, F1⟩
    · obtain ⟨-, rfl⟩ := ev_det e1 f1
      exact ⟨RD_fr (by decide) (by decide) F1 hR, a, QM_fr (show irM cW = true by decide) F1 hM, hA⟩
    · obtain ⟨-, rfl⟩ := ev_det e1 f1
      exact ⟨RD_fr (by decide) (by decide) F1 hR, a, QM_fr (show irM cW = true by decide) F1 hM, hA⟩
  obtain ⟨r1, a2, m2, A2⟩ := r1
  rcases cod_M I1 m2 A2 with ⟨R, K, g1, z1, z2, f1, c1, J1, F1⟩ | ⟨x, g1, z1, f1, c1, J1, F1⟩
  · obtain ⟨-, rfl⟩ := ev_det e2 f1
    exact RD_fr (by decide) (by decide) F1 r1
  · obtain ⟨-, rfl⟩ := ev_det e2 f1
    exact RD_fr (by decide) (by decide) F1 r1
end P3
theorem rd_of {y : Nat} {as : List Value} {h : PmH} (p : EvP y as h RDQ) : ∀ v h1, Ev pmT y as h v h1 → RD h1 := fun v h1 e => by
  obtain ⟨r, er, q⟩ := p
  obtain ⟨-, e4⟩ := ev_det er e
  rw [← e4]
  exact q
theorem x_03 (x : Int32) (h1 : ¬ x < 0) (h2 : x ≤ 3) : x = 0 ∨ x = 1 ∨ x = 2 ∨ x = 3 := by
  have h3 := Int32.le_iff_toInt_le.mp (Int32.not_lt.mp h1)
  have h4 := Int32.le_iff_toInt_le.mp h2
  rw [show (3 : Int32).toInt = 3 from rfl] at h4
  obtain ⟨n, rfl, e2, -⟩ := i32_nI (y := x) h3
  rw [nI_toInt (by omega)] at h4
  have : n = 0 ∨ n = 1 ∨ n = 2 ∨ n = 3 := by omega
  rcases this with rfl | rfl | rfl | rfl
  · exact Or.inl rfl
  · exact Or.inr (Or.inl rfl)
  · exact Or.inr (Or.inr (Or.inl rfl))
  · exact Or.inr (Or.inr (Or.inr rfl))
theorem wkw_0 {h : PmH} {x w : Int32} (hI : HI hdT shT h) (hr : RD h) : EvP 112 [.ref 0, .int x, .int 0, .int w] h RDQ := by
  have k0 : ph_r h 0 0 = some 1 := hi_r hI rfl rfl (by decide)
  have k8 : ph_r h 0 8 = some 13 := hi_r hI rfl rfl (by decide)
  have s8 : ph_r h 1 8 = some 2 := hi_r hI rfl rfl (by decide)
  have t1 := told1 (n := ph_i h 1 1) hI rfl
  have t0 := told0 (n := ph_i h 1 1) hI rfl
  have l1 := isl1 (x := x) hI
  have l0 := isl0 (x := x) hI
  refine EvP.of (es := cd_112) (ml := 4) (lv := [some (.ref 0), some (.int x), some (.int 0), some (.int w)]) rfl rfl rfl ?_
  by_cases p0 : 0 < ph_i h 1 1
  case neg =>
    have tt := t0 p0
    clear t0 t1 l1 l0
    obtain ⟨S, fi, fl, fr⟩ := h
    have hS : S = shT := hI.1
    subst hS
    have k0 : fr 0 0 = some 1 := k0

    refine gp_n 1 (j' := 1) (lv' := [some (.ref 0), some (.int x), some (.int 0), some (.int w)]) (st' := [.ref 0]) (h' := (shT, fi, fl, fr)) rfl ?_
    refine gp_of (fun _ k9 => g_getR (q' := 1) rfl rfl (by decide) k0 k9) ?_
    refine gp_of (fun _ k9 => g_call (y := 57) (as := [.ref 1]) (st' := []) rfl rfl (tt) k9) ?_
    refine gp_of (fun _ k9 => g_ift rfl (show (0 : Int32) = (0 : Int32) from by decide) k9) ?_
    refine gp_n 1 (j' := 13) (lv' := [some (.ref 0), some (.int x), some (.int 0), some (.int w)]) (st' := [.int (-1)]) (h' := (shT, fi, fl, fr)) rfl ?_
    refine gp_done (g_ret rfl) ?_
    exact hr
  have tt := t1 p0
  by_cases p1 : 1 ≤ x ∧ x ≤ 8
  case neg =>
    have ll := l0 p1
    clear t0 t1 l1 l0
    obtain ⟨S, fi, fl, fr⟩ := h
    have hS : S = shT := hI.1
    subst hS
    have k0 : fr 0 0 = some 1 := k0

    refine gp_n 1 (j' := 1) (lv' := [some (.ref 0), some (.int x), some (.int 0), some (.int w)]) (st' := [.ref 0]) (h' := (shT, fi, fl, fr)) rfl ?_
    refine gp_of (fun _ k9 => g_getR (q' := 1) rfl rfl (by decide) k0 k9) ?_
    refine gp_of (fun _ k9 => g_call (y := 57) (as := [.ref 1]) (st' := []) rfl rfl (tt) k9) ?_
    refine gp_of (fun _ k9 => g_iff rfl (show ¬ ((1 : Int32) = (0 : Int32)) from by decide) k9) ?_
    refine gp_n 1 (j' := 5) (lv' := [some (.ref 0), some (.int x), some (.int 0), some (.int w)]) (st' := [.int x]) (h' := (shT, fi, fl, fr)) rfl ?_
    refine gp_of (fun _ k9 => g_call (y := 79) (as := [.int x]) (st' := []) rfl rfl (ll) k9) ?_
    refine gp_of (fun _ k9 => g_ift rfl (show (0 : Int32) = (0 : Int32) from by decide) k9) ?_
    refine gp_n 1 (j' := 13) (lv' := [some (.ref 0), some (.int x), some (.int 0), some (.int w)]) (st' := [.int (-1)]) (h' := (shT, fi, fl, fr)) rfl ?_
    refine gp_done (g_ret rfl) ?_
    exact hr
  have ll := l1 p1
  obtain ⟨h3, e3, r3, I3, F3⟩ := ruw_0 (q := x) (F := -1) hI hr (by have := Int32.le_iff_toInt_le.mp p1.1; rw [show (1 : Int32).toInt = 1 from rfl] at this; omega) (by have := Int32.le_iff_toInt_le.mp p1.2; rw [show (8 : Int32).toInt = 8 from rfl] at this; omega)
  have q8 : ph_r h3 0 8 = some 13 := hi_r I3 rfl rfl (by decide)
  have k30 : ∀ A, (A = 14 ∨ A = 18) → ph_r h3 A 2 = some (A + 2) := fun A hA => by
    rcases hA with rfl | rfl
    · exact hi_r I3 rfl rfl (by decide)
    · exact hi_r I3 rfl rfl (by decide)
  obtain ⟨A, hA, a1, -⟩ := id r3
  have kA := k30 A hA
  clear F3 k30 t0 t1 l1 l0
  obtain ⟨S3, f3, l3, x3⟩ := h3
  have s3 : S3 = shT := I3.1
  subst s3
  have a1 : x3 13 0 = some A := a1
  have kA : x3 A 2 = some (A + 2) := kA
  have q8 : x3 0 8 = some 13 := q8
  obtain ⟨S, fi, fl, fr⟩ := h
  have hS : S = shT := hI.1
  subst hS
  have k0 : fr 0 0 = some 1 := k0
  have k8 : fr 0 8 = some 13 := k8
  have s8 : fr 1 8 = some 2 := s8
  have fin : ∀ ww : Int32, ¬ ww < 0 → ww ≤ 3 → GoP pmT none cd_112 25 [some (.ref 0), some (.int x), some (.int 0), some (.int ww)] [] (shT, f3, l3, x3) RDQ := fun ww w1 w2 => by
    rcases x_03 ww w1 w2 with rfl | rfl | rfl | rfl
    ·
      refine gp_n 3 (j' := 28) (lv' := [some (.ref 0), some (.int x), some (.int 0), some (.int 0)]) (st' := [.ref 0]) (h' := (shT, f3, l3, x3)) rfl ?_
      refine gp_of (fun _ k9 => g_getR (q' := 13) rfl rfl (by decide) q8 k9) ?_
      refine gp_of (fun _ k9 => g_getI (x := f3 13 4) rfl (Or.inl rfl) rfl (by decide) (rfl) k9) ?_
      refine gp_done (g_ret rfl) ?_
      exact r3
    ·
      refine gp_n 3 (j' := 32) (lv' := [some (.ref 0), some (.int x), some (.int 0), some (.int 1)]) (st' := [.ref 0]) (h' := (shT, f3, l3, x3)) rfl ?_
      refine gp_of (fun _ k9 => g_getR (q' := 13) rfl rfl (by decide) q8 k9) ?_
      refine gp_of (fun _ k9 => g_getI (x := f3 13 5) rfl (Or.inl rfl) rfl (by decide) (rfl) k9) ?_
      refine gp_done (g_ret rfl) ?_
      exact r3
    ·
      refine gp_n 3 (j' := 36) (lv' := [some (.ref 0), some (.int x), some (.int 0), some (.int 2)]) (st' := [.ref 0]) (h' := (shT, f3, l3, x3)) rfl ?_
      refine gp_of (fun _ k9 => g_getR (q' := 13) rfl rfl (by decide) q8 k9) ?_
      refine gp_of (fun _ k9 => g_getI (x := f3 13 6) rfl (Or.inl rfl) rfl (by decide) (rfl) k9) ?_
      refine gp_done (g_ret rfl) ?_
      exact r3
    · rcases hA with rfl | rfl
      ·
        refine gp_n 3 (j' := 40) (lv' := [some (.ref 0), some (.int x), some (.int 0), some (.int 3)]) (st' := [.ref 0]) (h' := (shT, f3, l3, x3)) rfl ?_
        refine gp_of (fun _ k9 => g_getR (q' := 13) rfl rfl (by decide) q8 k9) ?_
        refine gp_of (fun _ k9 => g_getR (q' := 14) rfl rfl (by decide) a1 k9) ?_
        refine gp_of (fun _ k9 => g_getR (q' := 16) rfl rfl (by decide) kA k9) ?_
        refine gp_n 1 (j' := 44) (lv' := [some (.ref 0), some (.int x), some (.int 0), some (.int 3)]) (st' := [.int 0, .ref 16]) (h' := (shT, f3, l3, x3)) rfl ?_
        refine gp_of (fun _ k9 => g_iald (k := 0) (x := f3 16 0) rfl rfl (rfl) (by decide) (by decide) (rfl) k9) ?_
        refine gp_done (g_ret rfl) ?_
        exact r3
      ·
        refine gp_n 3 (j' := 40) (lv' := [some (.ref 0), some (.int x), some (.int 0), some (.int 3)]) (st' := [.ref 0]) (h' := (shT, f3, l3, x3)) rfl ?_
        refine gp_of (fun _ k9 => g_getR (q' := 13) rfl rfl (by decide) q8 k9) ?_
        refine gp_of (fun _ k9 => g_getR (q' := 18) rfl rfl (by decide) a1 k9) ?_
        refine gp_of (fun _ k9 => g_getR (q' := 20) rfl rfl (by decide) kA k9) ?_
        refine gp_n 1 (j' := 44) (lv' := [some (.ref 0), some (.int x), some (.int 0), some (.int 3)]) (st' := [.int 0, .ref 20]) (h' := (shT, f3, l3, x3)) rfl ?_
        refine gp_of (fun _ k9 => g_iald (k := 0) (x := f3 20 0) rfl rfl (rfl) (by decide) (by decide) (rfl) k9) ?_
        refine gp_done (g_ret rfl) ?_
        exact r3
  refine gp_n 1 (j' := 1) (lv' := [some (.ref 0), some (.int x), some (.int 0), some (.int w)]) (st' := [.ref 0]) (h' := (shT, fi, fl, fr)) rfl ?_
  refine gp_of (fun _ k9 => g_getR (q' := 1) rfl rfl (by decide) k0 k9) ?_
  refine gp_of (fun _ k9 => g_call (y := 57) (as := [.ref 1]) (st' := []) rfl rfl (tt) k9) ?_
  refine gp_of (fun _ k9 => g_iff rfl (show ¬ ((1 : Int32) = (0 : Int32)) from by decide) k9) ?_
  refine gp_n 1 (j' := 5) (lv' := [some (.ref 0), some (.int x), some (.int 0), some (.int w)]) (st' := [.int x]) (h' := (shT, fi, fl, fr)) rfl ?_
  refine gp_of (fun _ k9 => g_call (y := 79) (as := [.int x]) (st' := []) rfl rfl (ll) k9) ?_
  refine gp_of (fun _ k9 => g_iff rfl (show ¬ ((1 : Int32) = (0 : Int32)) from by decide) k9) ?_
  refine gp_n 1 (j' := 8) (lv' := [some (.ref 0), some (.int x), some (.int 0), some (.int w)]) (st' := [.int w]) (h' := (shT, fi, fl, fr)) rfl ?_
  refine gp_if rfl (fun hw1 => ?_) (fun hw1 => ?_)
  · replace hw1 : w < (0 : Int32) := hw1
    refine gp_n 1 (j' := 13) (lv' := [some (.ref 0), some (.int x), some (.int 0), some (.int w)]) (st' := [.int (-1)]) (h' := (shT, fi, fl, fr)) rfl ?_
    refine gp_done (g_ret rfl) ?_
    exact hr
  · replace hw1 : ¬ (w < (0 : Int32)) := hw1
    refine gp_n 2 (j' := 11) (lv' := [some (.ref 0), some (.int x), some (.int 0), some (.int w)]) (st' := [.int 3, .int w]) (h' := (shT, fi, fl, fr)) rfl ?_
    refine gp_ic rfl (fun hw2 => ?_) (fun hw2 => ?_)
    · replace hw2 : w ≤ (3 : Int32) := hw2
      refine gp_n 1 (j' := 15) (lv' := [some (.ref 0), some (.int x), some (.int 0), some (.int w)]) (st' := [.ref 0]) (h' := (shT, fi, fl, fr)) rfl ?_
      refine gp_of (fun _ k9 => g_getR (q' := 13) rfl rfl (by decide) k8 k9) ?_
      refine gp_n 1 (j' := 17) (lv' := [some (.ref 0), some (.int x), some (.int 0), some (.int w)]) (st' := [.ref 0, .ref 13]) (h' := (shT, fi, fl, fr)) rfl ?_
      refine gp_of (fun _ k9 => g_getR (q' := 1) rfl rfl (by decide) k0 k9) ?_
      refine gp_n 1 (j' := 19) (lv' := [some (.ref 0), some (.int x), some (.int 0), some (.int w)]) (st' := [.ref 0, .ref 1, .ref 13]) (h' := (shT, fi, fl, fr)) rfl ?_
      refine gp_of (fun _ k9 => g_getR (q' := 1) rfl rfl (by decide) k0 k9) ?_
      refine gp_of (fun _ k9 => g_getR (q' := 2) rfl rfl (by decide) s8 k9) ?_
      refine gp_n 3 (j' := 24) (lv' := [some (.ref 0), some (.int x), some (.int 0), some (.int w)]) (st' := [.int (-1), .int 0, .int x, .ref 2, .ref 1, .ref 13]) (h' := (shT, fi, fl, fr)) rfl ?_
      refine gp_of (fun _ k9 => g_callv (y := 82) (as := [.ref 13, .ref 1, .ref 2, .int x, .int 0, .int (-1)]) (st' := []) rfl rfl (e3) k9) ?_
      exact fin w hw1 hw2
    · replace hw2 : ¬ (w ≤ (3 : Int32)) := hw2
      refine gp_n 1 (j' := 13) (lv' := [some (.ref 0), some (.int x), some (.int 0), some (.int w)]) (st' := [.int (-1)]) (h' := (shT, fi, fl, fr)) rfl ?_
      refine gp_done (g_ret rfl) ?_
      exact hr
theorem wkw_1 {h : PmH} {x w : Int32} (hI : HI hdT shT h) (hr : RD h) : EvP 112 [.ref 0, .int x, .int 1, .int w] h RDQ := by
  have k0 : ph_r h 0 0 = some 1 := hi_r hI rfl rfl (by decide)
  have k8 : ph_r h 0 8 = some 13 := hi_r hI rfl rfl (by decide)
  have s8 : ph_r h 1 8 = some 2 := hi_r hI rfl rfl (by decide)
  have t1 := told1 (n := ph_i h 1 1) hI rfl
  have t0 := told0 (n := ph_i h 1 1) hI rfl
  have l1 := isl1 (x := x) hI
  have l0 := isl0 (x := x) hI
  refine EvP.of (es := cd_112) (ml := 4) (lv := [some (.ref 0), some (.int x), some (.int 1), some (.int w)]) rfl rfl rfl ?_
  by_cases p0 : 0 < ph_i h 1 1
  case neg =>
    have tt := t0 p0
    clear t0 t1 l1 l0
    obtain ⟨S, fi, fl, fr⟩ := h
    have hS : S = shT := hI.1
    subst hS
    have k0 : fr 0 0 = some 1 := k0

    refine gp_n 1 (j' := 1) (lv' := [some (.ref 0), some (.int x), some (.int 1), some (.int w)]) (st' := [.ref 0]) (h' := (shT, fi, fl, fr)) rfl ?_
    refine gp_of (fun _ k9 => g_getR (q' := 1) rfl rfl (by decide) k0 k9) ?_
    refine gp_of (fun _ k9 => g_call (y := 57) (as := [.ref 1]) (st' := []) rfl rfl (tt) k9) ?_
    refine gp_of (fun _ k9 => g_ift rfl (show (0 : Int32) = (0 : Int32) from by decide) k9) ?_
    refine gp_n 1 (j' := 13) (lv' := [some (.ref 0), some (.int x), some (.int 1), some (.int w)]) (st' := [.int (-1)]) (h' := (shT, fi, fl, fr)) rfl ?_
    refine gp_done (g_ret rfl) ?_
    exact hr
  have tt := t1 p0
  by_cases p1 : 1 ≤ x ∧ x ≤ 8
  case neg =>
    have ll := l0 p1
    clear t0 t1 l1 l0
    obtain ⟨S, fi, fl, fr⟩ := h
    have hS : S = shT := hI.1
    subst hS
    have k0 : fr 0 0 = some 1 := k0

    refine gp_n 1 (j' := 1) (lv' := [some (.ref 0), some (.int x), some (.int 1), some (.int w)]) (st' := [.ref 0]) (h' := (shT, fi, fl, fr)) rfl ?_
    refine gp_of (fun _ k9 => g_getR (q' := 1) rfl rfl (by decide) k0 k9) ?_
    refine gp_of (fun _ k9 => g_call (y := 57) (as := [.ref 1]) (st' := []) rfl rfl (tt) k9) ?_
    refine gp_of (fun _ k9 => g_iff rfl (show ¬ ((1 : Int32) = (0 : Int32)) from by decide) k9) ?_
    refine gp_n 1 (j' := 5) (lv' := [some (.ref 0), some (.int x), some (.int 1), some (.int w)]) (st' := [.int x]) (h' := (shT, fi, fl, fr)) rfl ?_
    refine gp_of (fun _ k9 => g_call (y := 79) (as := [.int x]) (st' := []) rfl rfl (ll) k9) ?_
    refine gp_of (fun _ k9 => g_ift rfl (show (0 : Int32) = (0 : Int32) from by decide) k9) ?_
    refine gp_n 1 (j' := 13) (lv' := [some (.ref 0), some (.int x), some (.int 1), some (.int w)]) (st' := [.int (-1)]) (h' := (shT, fi, fl, fr)) rfl ?_
    refine gp_done (g_ret rfl) ?_
    exact hr
  have ll := l1 p1
  obtain ⟨h3, e3, r3, I3, F3⟩ := ruw_1 (q := x) (F := -1) hI hr (by have := Int32.le_iff_toInt_le.mp p1.1; rw [show (1 : Int32).toInt = 1 from rfl] at this; omega) (by have := Int32.le_iff_toInt_le.mp p1.2; rw [show (8 : Int32).toInt = 8 from rfl] at this; omega)
  have q8 : ph_r h3 0 8 = some 13 := hi_r I3 rfl rfl (by decide)
  have k30 : ∀ A, (A = 14 ∨ A = 18) → ph_r h3 A 2 = some (A + 2) := fun A hA => by
    rcases hA with rfl | rfl
    · exact hi_r I3 rfl rfl (by decide)
    · exact hi_r I3 rfl rfl (by decide)
  obtain ⟨A, hA, a1, -⟩ := id r3
  have kA := k30 A hA
  clear F3 k30 t0 t1 l1 l0
  obtain ⟨S3, f3, l3, x3⟩ := h3
  have s3 : S3 = shT := I3.1
  subst s3
  have a1 : x3 13 0 = some A := a1
  have kA : x3 A 2 = some (A + 2) := kA
  have q8 : x3 0 8 = some 13 := q8
  obtain ⟨S, fi, fl, fr⟩ := h
  have hS : S = shT := hI.1
  subst hS
  have k0 : fr 0 0 = some 1 := k0
  have k8 : fr 0 8 = some 13 := k8
  have s8 : fr 1 8 = some 2 := s8
  have fin : ∀ ww : Int32, ¬ ww < 0 → ww ≤ 3 → GoP pmT none cd_112 25 [some (.ref 0), some (.int x), some (.int 1), some (.int ww)] [] (shT, f3, l3, x3) RDQ := fun ww w1 w2 => by
    rcases x_03 ww w1 w2 with rfl | rfl | rfl | rfl
    ·
      refine gp_n 3 (j' := 28) (lv' := [some (.ref 0), some (.int x), some (.int 1), some (.int 0)]) (st' := [.ref 0]) (h' := (shT, f3, l3, x3)) rfl ?_
      refine gp_of (fun _ k9 => g_getR (q' := 13) rfl rfl (by decide) q8 k9) ?_
      refine gp_of (fun _ k9 => g_getI (x := f3 13 4) rfl (Or.inl rfl) rfl (by decide) (rfl) k9) ?_
      refine gp_done (g_ret rfl) ?_
      exact r3
    ·
      refine gp_n 3 (j' := 32) (lv' := [some (.ref 0), some (.int x), some (.int 1), some (.int 1)]) (st' := [.ref 0]) (h' := (shT, f3, l3, x3)) rfl ?_
      refine gp_of (fun _ k9 => g_getR (q' := 13) rfl rfl (by decide) q8 k9) ?_
      refine gp_of (fun _ k9 => g_getI (x := f3 13 5) rfl (Or.inl rfl) rfl (by decide) (rfl) k9) ?_
      refine gp_done (g_ret rfl) ?_
      exact r3
    ·
      refine gp_n 3 (j' := 36) (lv' := [some (.ref 0), some (.int x), some (.int 1), some (.int 2)]) (st' := [.ref 0]) (h' := (shT, f3, l3, x3)) rfl ?_
      refine gp_of (fun _ k9 => g_getR (q' := 13) rfl rfl (by decide) q8 k9) ?_
      refine gp_of (fun _ k9 => g_getI (x := f3 13 6) rfl (Or.inl rfl) rfl (by decide) (rfl) k9) ?_
      refine gp_done (g_ret rfl) ?_
      exact r3
    · rcases hA with rfl | rfl
      ·
        refine gp_n 3 (j' := 40) (lv' := [some (.ref 0), some (.int x), some (.int 1), some (.int 3)]) (st' := [.ref 0]) (h' := (shT, f3, l3, x3)) rfl ?_
        refine gp_of (fun _ k9 => g_getR (q' := 13) rfl rfl (by decide) q8 k9) ?_
        refine gp_of (fun _ k9 => g_getR (q' := 14) rfl rfl (by decide) a1 k9) ?_
        refine gp_of (fun _ k9 => g_getR (q' := 16) rfl rfl (by decide) kA k9) ?_
        refine gp_n 1 (j' := 44) (lv' := [some (.ref 0), some (.int x), some (.int 1), some (.int 3)]) (st' := [.int 0, .ref 16]) (h' := (shT, f3, l3, x3)) rfl ?_
        refine gp_of (fun _ k9 => g_iald (k := 0) (x := f3 16 0) rfl rfl (rfl) (by decide) (by decide) (rfl) k9) ?_
        refine gp_done (g_ret rfl) ?_
        exact r3
      ·
        refine gp_n 3 (j' := 40) (lv' := [some (.ref 0), some (.int x), some (.int 1), some (.int 3)]) (st' := [.ref 0]) (h' := (shT, f3, l3, x3)) rfl ?_
        refine gp_of (fun _ k9 => g_getR (q' := 13) rfl rfl (by decide) q8 k9) ?_
        refine gp_of (fun _ k9 => g_getR (q' := 18) rfl rfl (by decide) a1 k9) ?_
        refine gp_of (fun _ k9 => g_getR (q' := 20) rfl rfl (by decide) kA k9) ?_
        refine gp_n 1 (j' := 44) (lv' := [some (.ref 0), some (.int x), some (.int 1), some (.int 3)]) (st' := [.int 0, .ref 20]) (h' := (shT, f3, l3, x3)) rfl ?_
        refine gp_of (fun _ k9 => g_iald (k := 0) (x := f3 20 0) rfl rfl (rfl) (by decide) (by decide) (rfl) k9) ?_
        refine gp_done (g_ret rfl) ?_
        exact r3
  refine gp_n 1 (j' := 1) (lv' := [some (.ref 0), some (.int x), some (.int 1), some (.int w)]) (st' := [.ref 0]) (h' := (shT, fi, fl, fr)) rfl ?_
  refine gp_of (fun _ k9 => g_getR (q' := 1) rfl rfl (by decide) k0 k9) ?_
  refine gp_of (fun _ k9 => g_call (y := 57) (as := [.ref 1]) (st' := []) rfl rfl (tt) k9) ?_
  refine gp_of (fun _ k9 => g_iff rfl (show ¬ ((1 : Int32) = (0 : Int32)) from by decide) k9) ?_
  refine gp_n 1 (j' := 5) (lv' := [some (.ref 0), some (.int x), some (.int 1), some (.int w)]) (st' := [.int x]) (h' := (shT, fi, fl, fr)) rfl ?_
  refine gp_of (fun _ k9 => g_call (y := 79) (as := [.int x]) (st' := []) rfl rfl (ll) k9) ?_
  refine gp_of (fun _ k9 => g_iff rfl (show ¬ ((1 : Int32) = (0 : Int32)) from by decide) k9) ?_
  refine gp_n 1 (j' := 8) (lv' := [some (.ref 0), some (.int x), some (.int 1), some (.int w)]) (st' := [.int w]) (h' := (shT, fi, fl, fr)) rfl ?_
  refine gp_if rfl (fun hw1 => ?_) (fun hw1 => ?_)
  · replace hw1 : w < (0 : Int32) := hw1
    refine gp_n 1 (j' := 13) (lv' := [some (.ref 0), some (.int x), some (.int 1), some (.int w)]) (st' := [.int (-1)]) (h' := (shT, fi, fl, fr)) rfl ?_
    refine gp_done (g_ret rfl) ?_
    exact hr
  · replace hw1 : ¬ (w < (0 : Int32)) := hw1
    refine gp_n 2 (j' := 11) (lv' := [some (.ref 0), some (.int x), some (.int 1), some (.int w)]) (st' := [.int 3, .int w]) (h' := (shT, fi, fl, fr)) rfl ?_
    refine gp_ic rfl (fun hw2 => ?_) (fun hw2 => ?_)
    · replace hw2 : w ≤ (3 : Int32) := hw2
      refine gp_n 1 (j' := 15) (lv' := [some (.ref 0), some (.int x), some (.int 1), some (.int w)]) (st' := [.ref 0]) (h' := (shT, fi, fl, fr)) rfl ?_
      refine gp_of (fun _ k9 => g_getR (q' := 13) rfl rfl (by decide) k8 k9) ?_
      refine gp_n 1 (j' := 17) (lv' := [some (.ref 0), some (.int x), some (.int 1), some (.int w)]) (st' := [.ref 0, .ref 13]) (h' := (shT, fi, fl, fr)) rfl ?_
      refine gp_of (fun _ k9 => g_getR (q' := 1) rfl rfl (by decide) k0 k9) ?_
      refine gp_n 1 (j' := 19) (lv' := [some (.ref 0), some (.int x), some (.int 1), some (.int w)]) (st' := [.ref 0, .ref 1, .ref 13]) (h' := (shT, fi, fl, fr)) rfl ?_
      refine gp_of (fun _ k9 => g_getR (q' := 1) rfl rfl (by decide) k0 k9) ?_
      refine gp_of (fun _ k9 => g_getR (q' := 2) rfl rfl (by decide) s8 k9) ?_
      refine gp_n 3 (j' := 24) (lv' := [some (.ref 0), some (.int x), some (.int 1), some (.int w)]) (st' := [.int (-1), .int 1, .int x, .ref 2, .ref 1, .ref 13]) (h' := (shT, fi, fl, fr)) rfl ?_
      refine gp_of (fun _ k9 => g_callv (y := 82) (as := [.ref 13, .ref 1, .ref 2, .int x, .int 1, .int (-1)]) (st' := []) rfl rfl (e3) k9) ?_
      exact fin w hw1 hw2
    · replace hw2 : ¬ (w ≤ (3 : Int32)) := hw2
      refine gp_n 1 (j' := 13) (lv' := [some (.ref 0), some (.int x), some (.int 1), some (.int w)]) (st' := [.int (-1)]) (h' := (shT, fi, fl, fr)) rfl ?_
      refine gp_done (g_ret rfl) ?_
      exact hr
theorem flw {h : PmH} {w : Int32} (hI : HI hdT shT h) (hr : RD h) : EvP 114 [.ref 0, .int w] h RDQ := by
  have k0 : ph_r h 0 0 = some 1 := hi_r hI rfl rfl (by decide)
  have k8 : ph_r h 0 8 = some 13 := hi_r hI rfl rfl (by decide)
  have k9 : ph_r h 0 9 = some 32 := hi_r hI rfl rfl (by decide)
  have t1 := told1 (n := ph_i h 1 1) hI rfl
  have t0 := told0 (n := ph_i h 1 1) hI rfl
  refine EvP.of (es := cd_114) (ml := 2) (lv := [some (.ref 0), some (.int w)]) rfl rfl rfl ?_
  by_cases p0 : 0 < ph_i h 1 1
  case neg =>
    have tt := t0 p0
    clear t0 t1
    obtain ⟨S, fi, fl, fr⟩ := h
    have hS : S = shT := hI.1
    subst hS
    have k0 : fr 0 0 = some 1 := k0

    refine gp_n 1 (j' := 1) (lv' := [some (.ref 0), some (.int w)]) (st' := [.ref 0]) (h' := (shT, fi, fl, fr)) rfl ?_
    refine gp_of (fun _ k9 => g_getR (q' := 1) rfl rfl (by decide) k0 k9) ?_
    refine gp_of (fun _ k9 => g_call (y := 57) (as := [.ref 1]) (st' := []) rfl rfl (tt) k9) ?_
    refine gp_of (fun _ k9 => g_ift rfl (show (0 : Int32) = (0 : Int32) from by decide) k9) ?_
    refine gp_n 1 (j' := 10) (lv' := [some (.ref 0), some (.int w)]) (st' := [.int (-1)]) (h' := (shT, fi, fl, fr)) rfl ?_
    refine gp_done (g_ret rfl) ?_
    exact hr
  have tt := t1 p0
  obtain ⟨h3, e3, r3, I3, F3⟩ := fpw_ev hI hr
  have q9 : ph_r h3 0 9 = some 32 := hi_r I3 rfl rfl (by decide)
  clear F3 t0 t1
  obtain ⟨S3, f3, l3, x3⟩ := h3
  have s3 : S3 = shT := I3.1
  subst s3
  have q9 : x3 0 9 = some 32 := q9
  obtain ⟨S, fi, fl, fr⟩ := h
  have hS : S = shT := hI.1
  subst hS
  have k0 : fr 0 0 = some 1 := k0
  have k8 : fr 0 8 = some 13 := k8
  have kF : fr 0 9 = some 32 := k9
  have fin : ∀ ww : Int32, ¬ ww < 0 → ww ≤ 3 → GoP pmT none cd_114 18 [some (.ref 0), some (.int ww)] [] (shT, f3, l3, x3) RDQ := fun ww w1 w2 => by
    rcases x_03 ww w1 w2 with rfl | rfl | rfl | rfl
    ·
      refine gp_n 3 (j' := 21) (lv' := [some (.ref 0), some (.int 0)]) (st' := [.ref 0]) (h' := (shT, f3, l3, x3)) rfl ?_
      refine gp_of (fun _ k9 => g_getR (q' := 32) rfl rfl (by decide) q9 k9) ?_
      refine gp_of (fun _ k9 => g_getI (x := f3 32 0) rfl (Or.inl rfl) rfl (by decide) (rfl) k9) ?_
      refine gp_done (g_ret rfl) ?_
      exact r3
    ·
      refine gp_n 3 (j' := 25) (lv' := [some (.ref 0), some (.int 1)]) (st' := [.ref 0]) (h' := (shT, f3, l3, x3)) rfl ?_
      refine gp_of (fun _ k9 => g_getR (q' := 32) rfl rfl (by decide) q9 k9) ?_
      refine gp_of (fun _ k9 => g_getI (x := f3 32 1) rfl (Or.inl rfl) rfl (by decide) (rfl) k9) ?_
      refine gp_done (g_ret rfl) ?_
      exact r3
    ·
      refine gp_n 3 (j' := 29) (lv' := [some (.ref 0), some (.int 2)]) (st' := [.ref 0]) (h' := (shT, f3, l3, x3)) rfl ?_
      refine gp_of (fun _ k9 => g_getR (q' := 32) rfl rfl (by decide) q9 k9) ?_
      refine gp_of (fun _ k9 => g_getI (x := f3 32 2) rfl (Or.inl rfl) rfl (by decide) (rfl) k9) ?_
      refine gp_done (g_ret rfl) ?_
      exact r3
    ·
      refine gp_n 3 (j' := 33) (lv' := [some (.ref 0), some (.int 3)]) (st' := [.ref 0]) (h' := (shT, f3, l3, x3)) rfl ?_
      refine gp_of (fun _ k9 => g_getR (q' := 32) rfl rfl (by decide) q9 k9) ?_
      refine gp_of (fun _ k9 => g_getI (x := f3 32 3) rfl (Or.inr rfl) rfl (by decide) (rfl) k9) ?_
      refine gp_if rfl (fun hc1 => ?_) (fun hc1 => ?_)
      · replace hc1 : (f3 32 3) = (0 : Int32) := hc1
        refine gp_n 1 (j' := 39) (lv' := [some (.ref 0), some (.int 3)]) (st' := [.int 0]) (h' := (shT, f3, l3, x3)) rfl ?_
        refine gp_done (g_ret rfl) ?_
        exact r3
      · replace hc1 : ¬ ((f3 32 3) = (0 : Int32)) := hc1
        refine gp_n 2 (j' := 39) (lv' := [some (.ref 0), some (.int 3)]) (st' := [.int 1]) (h' := (shT, f3, l3, x3)) rfl ?_
        refine gp_done (g_ret rfl) ?_
        exact r3
  refine gp_n 1 (j' := 1) (lv' := [some (.ref 0), some (.int w)]) (st' := [.ref 0]) (h' := (shT, fi, fl, fr)) rfl ?_
  refine gp_of (fun _ k9 => g_getR (q' := 1) rfl rfl (by decide) k0 k9) ?_
  refine gp_of (fun _ k9 => g_call (y := 57) (as := [.ref 1]) (st' := []) rfl rfl (tt) k9) ?_
  refine gp_of (fun _ k9 => g_iff rfl (show ¬ ((1 : Int32) = (0 : Int32)) from by decide) k9) ?_
  refine gp_n 1 (j' := 5) (lv' := [some (.ref 0), some (.int w)]) (st' := [.int w]) (h' := (shT, fi, fl, fr)) rfl ?_
  refine gp_if rfl (fun hw1 => ?_) (fun hw1 => ?_)
  · replace hw1 : w < (0 : Int32) := hw1
    refine gp_n 1 (j' := 10) (lv' := [some (.ref 0), some (.int w)]) (st' := [.int (-1)]) (h' := (shT, fi, fl, fr)) rfl ?_
    refine gp_done (g_ret rfl) ?_
    exact hr
  · replace hw1 : ¬ (w < (0 : Int32)) := hw1
    refine gp_n 2 (j' := 8) (lv' := [some (.ref 0), some (.int w)]) (st' := [.int 3, .int w]) (h' := (shT, fi, fl, fr)) rfl ?_
    refine gp_ic rfl (fun hw2 => ?_) (fun hw2 => ?_)
    · replace hw2 : w ≤ (3 : Int32) := hw2
      refine gp_n 1 (j' := 12) (lv' := [some (.ref 0), some (.int w)]) (st' := [.ref 0]) (h' := (shT, fi, fl, fr)) rfl ?_
      refine gp_of (fun _ k9 => g_getR (q' := 32) rfl rfl (by decide) kF k9) ?_
      refine gp_n 1 (j' := 14) (lv' := [some (.ref 0), some (.int w)]) (st' := [.ref 0, .ref 32]) (h' := (shT, fi, fl, fr)) rfl ?_
      refine gp_of (fun _ k9 => g_getR (q' := 1) rfl rfl (by decide) k0 k9) ?_
      refine gp_n 1 (j' := 16) (lv' := [some (.ref 0), some (.int w)]) (st' := [.ref 0, .ref 1, .ref 32]) (h' := (shT, fi, fl, fr)) rfl ?_
      refine gp_of (fun _ k9 => g_getR (q' := 13) rfl rfl (by decide) k8 k9) ?_
      refine gp_of (fun _ k9 => g_callv (y := 115) (as := [.ref 32, .ref 1, .ref 13]) (st' := []) rfl rfl (e3) k9) ?_
      exact fin w hw1 hw2
    · replace hw2 : ¬ (w ≤ (3 : Int32)) := hw2
      refine gp_n 1 (j' := 10) (lv' := [some (.ref 0), some (.int w)]) (st' := [.int (-1)]) (h' := (shT, fi, fl, fr)) rfl ?_
      refine gp_done (g_ret rfl) ?_
      exact hr
section P4
variable {h : PmH} {a : AB}
theorem p3_flipped (x0 : Int32) (hr : REL3 h a) : PI3 114 214 [.int x0] h (fun _ _ => True) := l3I vN_233 rfl (fun _ _ => gz_c (gz_r (by decide)) (gz_c (gz_a _) gz_n)) (by decide) (by decide) (rd_of (flw hr.1.1.1 hr.2)) (p_flipped x0 hr.1)
theorem p3_work (x0 x1 x2 : Int32) (hz : x1 = 0 ∨ x1 = 1) (hr : REL3 h a) : PI3 112 206 [.int x0, .int x1, .int x2] h (fun _ _ => True) := l3I vN_227 rfl (fun _ _ => gz_c (gz_r (by decide)) (gz_c (gz_a _) (gz_c (gz_i (by rcases hz with rfl | rfl <;> decide) (by rcases hz with rfl | rfl <;> decide)) (gz_c (gz_a _) gz_n)))) (by decide) (by decide) (by
    rcases hz with rfl | rfl
    · exact rd_of (wkw_0 hr.1.1.1 hr.2)
    · exact rd_of (wkw_1 hr.1.1.1 hr.2)) (p_work x0 x1 x2 hz hr.1)
end P4
