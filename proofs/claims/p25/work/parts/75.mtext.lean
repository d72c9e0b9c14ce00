def byR (x : Int32) : Prop := -128 ≤ x.toInt ∧ x.toInt ≤ 127
def b255c (k : Nat) : Bool := (decide ((Int32.ofInt ((k : Int) - 128)).toInt < 0) || decide ((Int32.ofInt ((k : Int) - 128)) &&& 255 = Int32.ofInt ((k : Int) - 128))) && (decide (0 ≤ (Int32.ofInt ((k : Int) - 128)).toInt) || decide (128 ≤ ((Int32.ofInt ((k : Int) - 128)) &&& 255).toInt))
theorem b255c_ok : (List.range 256).all b255c = true := by decide +kernel
theorem b255 {x : Int32} (hx : byR x) : (0 ≤ x.toInt → x &&& 255 = x) ∧ (x.toInt < 0 → 128 ≤ (x &&& 255).toInt) := by
  have hk := List.all_eq_true.mp b255c_ok (x.toInt + 128).toNat (List.mem_range.mpr (by have := hx.1; have := hx.2; omega))
  have e1 : (((x.toInt + 128).toNat : Nat) : Int) - 128 = x.toInt := by have := hx.1; omega
  unfold b255c at hk
  rw [e1, Int32.ofInt_toInt] at hk
  simp only [Bool.and_eq_true, Bool.or_eq_true, decide_eq_true_eq] at hk
  constructor
  · intro h
    rcases hk.1 with z | z
    · omega
    · exact z
  · intro h
    rcases hk.2 with z | z
    · omega
    · exact z
/-- bytes below 128 are told apart -/
theorem b255_eq {x : Int32} (hx : byR x) {c : Int32} (h0 : 0 ≤ c.toInt) (h1 : c.toInt < 128) : x &&& 255 = c ↔ x = c := by
  obtain ⟨b1, b2⟩ := b255 hx
  by_cases h : 0 ≤ x.toInt
  · rw [b1 h]
  · have h3 := b2 (by omega)
    constructor
    · intro z
      rw [z] at h3
      omega
    · intro z
      rw [z] at h
      omega
theorem b255_in {x : Int32} (hx : byR x) {lo hi : Int32} (h0 : 0 ≤ lo.toInt) (h1 : hi.toInt < 128) : (lo ≤ x &&& 255 ∧ x &&& 255 ≤ hi) ↔ (lo ≤ x ∧ x ≤ hi) := by
  obtain ⟨b1, b2⟩ := b255 hx
  by_cases h : 0 ≤ x.toInt
  · rw [b1 h]
  · have h3 := b2 (by omega)
    rw [Int32.le_iff_toInt_le, Int32.le_iff_toInt_le, Int32.le_iff_toInt_le, Int32.le_iff_toInt_le]
    omega
def bA (F : Nat → Int32) (t k : Nat) : Int32 := if k < t then F k &&& 255 else -1
theorem bA_eq {F : Nat → Int32} {t k : Nat} (hF : ∀ s, byR (F s)) {c : Int32} (h0 : 0 ≤ c.toInt) (h1 : c.toInt < 128) : bA F t k = c ↔ (k < t ∧ F k = c) := by
  unfold bA
  by_cases h : k < t
  · rw [if_pos h, b255_eq (hF k) h0 h1]
    exact ⟨fun z => ⟨h, z⟩, fun z => z.2⟩
  · rw [if_neg h]
    constructor
    · intro z
      rw [← z] at h0
      exact absurd h0 (by decide)
    · exact fun z => absurd z.1 h
theorem bA_in {F : Nat → Int32} {t k : Nat} (hF : ∀ s, byR (F s)) {lo hi : Int32} (h0 : 0 ≤ lo.toInt) (h1 : hi.toInt < 128) : (lo ≤ bA F t k ∧ bA F t k ≤ hi) ↔ (k < t ∧ lo ≤ F k ∧ F k ≤ hi) := by
  unfold bA
  by_cases h : k < t
  · rw [if_pos h, b255_in (hF k) h0 h1]
    exact ⟨fun z => ⟨h, z⟩, fun z => z.2⟩
  · rw [if_neg h]
    constructor
    · intro z
      have := Int32.le_iff_toInt_le.mp z.1
      rw [show (-1 : Int32).toInt = -1 from by decide] at this
      omega
    · exact fun z => absurd z.1 h
theorem bA_L {F : Nat → Int32} {t k : Nat} (hF : ∀ s, byR (F s)) : (97 ≤ bA F t k ∧ bA F t k ≤ 122) ↔ (k < t ∧ cL (F k) = true) := by
  rw [bA_in hF (by decide) (by decide)]
  unfold cL
  simp only [Bool.and_eq_true, decide_eq_true_eq]
theorem bA_D {F : Nat → Int32} {t k : Nat} (hF : ∀ s, byR (F s)) : (48 ≤ bA F t k ∧ bA F t k ≤ 57) ↔ (k < t ∧ cD (F k) = true) := by
  rw [bA_in hF (by decide) (by decide)]
  unfold cD
  simp only [Bool.and_eq_true, decide_eq_true_eq]
theorem isL1 {h : PmH} (hI : HI hdT shT h) {x : Int32} (hc : 97 ≤ x ∧ x ≤ 122) : Ev pmT 155 [.int x] h (some (.int 1)) h := by
  refine Ev.of (es := cd_155) (ml := 1) (lv := [some (.int x)]) rfl rfl rfl ?_
  obtain ⟨S, fi, fl, fr⟩ := h
  have hS : S = shT := hI.1
  subst hS
  refine go_of ?_
  refine gp_n 2 (j' := 2) (lv' := [some (.int x)]) (st' := [.int 97, .int x]) (h' := (shT, fi, fl, fr)) rfl ?_
  refine gp_of (fun _ k9 => g_icf rfl (show ¬ (x < (97 : Int32)) from Int32.not_lt.mpr hc.1) k9) ?_
  refine gp_n 2 (j' := 5) (lv' := [some (.int x)]) (st' := [.int 122, .int x]) (h' := (shT, fi, fl, fr)) rfl ?_
  refine gp_of (fun _ k9 => g_icf rfl (show ¬ ((122 : Int32) < x) from Int32.not_lt.mpr hc.2) k9) ?_
  refine gp_n 2 (j' := 9) (lv' := [some (.int x)]) (st' := [.int 1]) (h' := (shT, fi, fl, fr)) rfl ?_
  refine gp_done (g_retz rfl (by decide)) ?_
  rfl
theorem isL0 {h : PmH} (hI : HI hdT shT h) {x : Int32} (hc : ¬ (97 ≤ x ∧ x ≤ 122)) : Ev pmT 155 [.int x] h (some (.int 0)) h := by
  refine Ev.of (es := cd_155) (ml := 1) (lv := [some (.int x)]) rfl rfl rfl ?_
  obtain ⟨S, fi, fl, fr⟩ := h
  have hS : S = shT := hI.1
  subst hS
  refine go_of ?_
  refine gp_n 2 (j' := 2) (lv' := [some (.int x)]) (st' := [.int 97, .int x]) (h' := (shT, fi, fl, fr)) rfl ?_
  refine gp_ic rfl (fun hd => ?_) (fun hd => ?_)
  · replace hd : x < (97 : Int32) := hd
    refine gp_n 1 (j' := 9) (lv' := [some (.int x)]) (st' := [.int 0]) (h' := (shT, fi, fl, fr)) rfl ?_
    refine gp_done (g_retz rfl (by decide)) ?_
    rfl
  · replace hd : ¬ (x < (97 : Int32)) := hd
    refine gp_n 2 (j' := 5) (lv' := [some (.int x)]) (st' := [.int 122, .int x]) (h' := (shT, fi, fl, fr)) rfl ?_
    refine gp_of (fun _ k9 => g_ict rfl (show (122 : Int32) < x from Int32.not_le.mp (fun z => hc ⟨Int32.not_lt.mp hd, z⟩)) k9) ?_
    refine gp_n 1 (j' := 9) (lv' := [some (.int x)]) (st' := [.int 0]) (h' := (shT, fi, fl, fr)) rfl ?_
    refine gp_done (g_retz rfl (by decide)) ?_
    rfl
theorem isD1 {h : PmH} (hI : HI hdT shT h) {x : Int32} (hc : 48 ≤ x ∧ x ≤ 57) : Ev pmT 158 [.int x] h (some (.int 1)) h := by
  refine Ev.of (es := cd_158) (ml := 1) (lv := [some (.int x)]) rfl rfl rfl ?_
  obtain ⟨S, fi, fl, fr⟩ := h
  have hS : S = shT := hI.1
  subst hS
  refine go_of ?_
  refine gp_n 2 (j' := 2) (lv' := [some (.int x)]) (st' := [.int 48, .int x]) (h' := (shT, fi, fl, fr)) rfl ?_
  refine gp_of (fun _ k9 => g_icf rfl (show ¬ (x < (48 : Int32)) from Int32.not_lt.mpr hc.1) k9) ?_
  refine gp_n 2 (j' := 5) (lv' := [some (.int x)]) (st' := [.int 57, .int x]) (h' := (shT, fi, fl, fr)) rfl ?_
  refine gp_of (fun _ k9 => g_icf rfl (show ¬ ((57 : Int32) < x) from Int32.not_lt.mpr hc.2) k9) ?_
  refine gp_n 2 (j' := 9) (lv' := [some (.int x)]) (st' := [.int 1]) (h' := (shT, fi, fl, fr)) rfl ?_
  refine gp_done (g_retz rfl (by decide)) ?_
  rfl
theorem isD0 {h : PmH} (hI : HI hdT shT h) {x : Int32} (hc : ¬ (48 ≤ x ∧ x ≤ 57)) : Ev pmT 158 [.int x] h (some (.int 0)) h := by
  refine Ev.of (es := cd_158) (ml := 1) (lv := [some (.int x)]) rfl rfl rfl ?_
  obtain ⟨S, fi, fl, fr⟩ := h
  have hS : S = shT := hI.1
  subst hS
  refine go_of ?_
  refine gp_n 2 (j' := 2) (lv' := [some (.int x)]) (st' := [.int 48, .int x]) (h' := (shT, fi, fl, fr)) rfl ?_
  refine gp_ic rfl (fun hd => ?_) (fun hd => ?_)
  · replace hd : x < (48 : Int32) := hd
    refine gp_n 1 (j' := 9) (lv' := [some (.int x)]) (st' := [.int 0]) (h' := (shT, fi, fl, fr)) rfl ?_
    refine gp_done (g_retz rfl (by decide)) ?_
    rfl
  · replace hd : ¬ (x < (48 : Int32)) := hd
    refine gp_n 2 (j' := 5) (lv' := [some (.int x)]) (st' := [.int 57, .int x]) (h' := (shT, fi, fl, fr)) rfl ?_
    refine gp_of (fun _ k9 => g_ict rfl (show (57 : Int32) < x from Int32.not_le.mp (fun z => hc ⟨Int32.not_lt.mp hd, z⟩)) k9) ?_
    refine gp_n 1 (j' := 9) (lv' := [some (.int x)]) (st' := [.int 0]) (h' := (shT, fi, fl, fr)) rfl ?_
    refine gp_done (g_retz rfl (by decide)) ?_
    rfl
/-- the model's parser stands at p -/
def mp_P (F : Nat → Int32) (t p : Nat) (h : PmH) : Prop := HI hdT shT h ∧ ph_i h 70 1 = nI t ∧ ph_i h 70 2 = nI p ∧ (∀ s, ph_i h 71 s = F s) ∧ QM0 h
def mpl (h : PmH) (q : Nat) : PmH := h_i h 70 2 (nI q)
theorem h70_P {F : Nat → Int32} {t p c : Nat} {x : Int32} {h : PmH} (hP : mp_P F t p h) (hd : (hd_at hdT shT 70 c).1 = 9) (h1 : ¬ c = 1) (h2 : ¬ c = 2) : mp_P F t p (h_i h 70 c x) := ⟨hd70 hP.1 hd, (h_n (by omega)).trans hP.2.1, (h_n (by omega)).trans hP.2.2.1, fun s => (h_n (by omega)).trans (hP.2.2.2.1 s), fun i hi => (h_n (by omega)).trans (hP.2.2.2.2 i hi)⟩
theorem mpl_P {F : Nat → Int32} {t p q : Nat} {h : PmH} (hP : mp_P F t p h) : mp_P F t q (mpl h q) := ⟨hd70 hP.1 rfl, (h_n (by decide)).trans hP.2.1, h_e, fun s => (h_n (by omega)).trans (hP.2.2.2.1 s), fun i hi => (h_n (by omega)).trans (hP.2.2.2.2 i hi)⟩
theorem mpl_id {h : PmH} {p : Nat} (e : ph_i h 70 2 = nI p) : mpl h p = h := by
  unfold mpl h_i
  rw [← e, pm_u2_same]
theorem mpl_2 {h : PmH} {a b : Nat} : mpl (mpl h a) b = mpl h b := by
  unfold mpl h_i
  show (ph_s h, pm_u2 (pm_u2 (ph_i h) 70 2 (nI a)) 70 2 (nI b), ph_l h, ph_r h) = _
  rw [pm_u2_2]
theorem ba_ev {F : Nat → Int32} {t p k : Nat} {h : PmH} (ht : t ≤ 200) (hk : k ≤ 1000) (hP : mp_P F t p h) : Ev pmT 154 [.ref 70, .int (nI k)] h (some (.int (bA F t k))) h := by
  have k0 : ph_r h 70 0 = some 71 := hi_r hP.1 rfl rfl (by decide)
  have e1 := hP.2.1
  have eF := hP.2.2.2.1
  refine Ev.of (es := cd_154) (ml := 2) (lv := [some (.ref 70), some (.int (nI k))]) rfl rfl rfl ?_
  obtain ⟨S, fi, fl, fr⟩ := h
  have hS : S = shT := hP.1.1
  subst hS
  have k0 : fr 70 0 = some 71 := k0
  have e1 : fi 70 1 = nI t := e1
  have eF : ∀ s, fi 71 s = F s := eF
  refine go_of ?_
  unfold bA
  by_cases hc : k < t
  · rw [if_pos hc]
    refine gp_n 2 (j' := 2) (lv' := [some (.ref 70), some (.int (nI k))]) (st' := [.ref 70, .int (nI k)]) (h' := (shT, fi, fl, fr)) rfl ?_
    refine gp_of (fun _ k9 => g_getI (x := nI t) rfl (Or.inl rfl) rfl (by decide) (e1) k9) ?_
    refine gp_of (fun _ k9 => g_icf rfl (show ¬ ((nI t) ≤ (nI k)) from nI_ge hc (by omega)) k9) ?_
    refine gp_n 1 (j' := 5) (lv' := [some (.ref 70), some (.int (nI k))]) (st' := [.ref 70]) (h' := (shT, fi, fl, fr)) rfl ?_
    refine gp_of (fun _ k9 => g_getR (q' := 71) rfl rfl (by decide) k0 k9) ?_
    refine gp_n 1 (j' := 7) (lv' := [some (.ref 70), some (.int (nI k))]) (st' := [.int (nI k), .ref 71]) (h' := (shT, fi, fl, fr)) rfl ?_
    refine gp_of (fun _ k9 => g_bald (k := k) (x := F k) rfl rfl (by decide) (rfl) (by omega) (by decide) (eF k) k9) ?_
    refine gp_n 3 (j' := 12) (lv' := [some (.ref 70), some (.int (nI k))]) (st' := [.int ((F k) &&& 255)]) (h' := (shT, fi, fl, fr)) rfl ?_
    refine gp_done (g_ret rfl) ?_
    rfl
  · rw [if_neg hc]
    refine gp_n 2 (j' := 2) (lv' := [some (.ref 70), some (.int (nI k))]) (st' := [.ref 70, .int (nI k)]) (h' := (shT, fi, fl, fr)) rfl ?_
    refine gp_of (fun _ k9 => g_getI (x := nI t) rfl (Or.inl rfl) rfl (by decide) (e1) k9) ?_
    refine gp_of (fun _ k9 => g_ict rfl (show (nI t) ≤ (nI k) from nI_le (by omega) (by omega)) k9) ?_
    refine gp_n 1 (j' := 12) (lv' := [some (.ref 70), some (.int (nI k))]) (st' := [.int (-1)]) (h' := (shT, fi, fl, fr)) rfl ?_
    refine gp_done (g_ret rfl) ?_
    rfl
theorem nx_go {F : Nat → Int32} {t : Nat} (ht : t ≤ 200) (hF : ∀ s, byR (F s)) : ∀ (n p : Nat) (h : PmH), t - p = n → p ≤ t → mp_P F t p h → Go pmT none cd_153 0 [some (.ref 70)] [] h (some (.int (bA F t (sk F t cB p))), mpl h (sk F t cB p)) := by
  intro n
  induction n with
  | zero =>
    intro p h hn hpt hP
    rw [sk_out (by omega), mpl_id hP.2.2.1]
    have b1 := ba_ev ht (show p ≤ 1000 by omega) hP
    have hc : ¬ bA F t p = 32 := by rw [bA_eq hF (by decide) (by decide)]; omega
    have e2 := hP.2.2.1
    obtain ⟨S, fi, fl, fr⟩ := h
    have hS : S = shT := hP.1.1
    subst hS
    have e2 : fi 70 2 = nI p := e2
    refine go_of ?_
    refine gp_n 2 (j' := 2) (lv' := [some (.ref 70)]) (st' := [.ref 70, .ref 70]) (h' := (shT, fi, fl, fr)) rfl ?_
    refine gp_of (fun _ k9 => g_getI (x := nI p) rfl (Or.inl rfl) rfl (by decide) (e2) k9) ?_
    refine gp_of (fun _ k9 => g_call (y := 154) (as := [.ref 70, .int (nI p)]) (st' := []) rfl rfl (b1) k9) ?_
    refine gp_n 1 (j' := 5) (lv' := [some (.ref 70)]) (st' := [.int 32, .int (bA F t p)]) (h' := (shT, fi, fl, fr)) rfl ?_
    refine gp_of (fun _ k9 => g_ict rfl (show ¬ (bA F t p) = (32 : Int32) from hc) k9) ?_
    refine gp_n 2 (j' := 15) (lv' := [some (.ref 70)]) (st' := [.ref 70, .ref 70]) (h' := (shT, fi, fl, fr)) rfl ?_
    refine gp_of (fun _ k9 => g_getI (x := nI p) rfl (Or.inl rfl) rfl (by decide) (e2) k9) ?_
    refine gp_of (fun _ k9 => g_call (y := 154) (as := [.ref 70, .int (nI p)]) (st' := []) rfl rfl (b1) k9) ?_
    refine gp_done (g_ret rfl) ?_
    rfl
  | succ n ih =>
    intro p h hn hpt hP
    have b1 := ba_ev ht (show p ≤ 1000 by omega) hP
    have e2 := hP.2.2.1
    by_cases hc : bA F t p = 32
    · have hc2 := (bA_eq hF (by decide) (by decide)).mp hc
      have g := ih (p + 1) (mpl h (p + 1)) (by omega) (by omega) (mpl_P hP)
      rw [mpl_2, ← sk_in hc2.1 (decide_eq_true hc2.2)] at g
      obtain ⟨S, fi, fl, fr⟩ := h
      have hS : S = shT := hP.1.1
      subst hS
      have e2 : fi 70 2 = nI p := e2
      refine go_of ?_
      refine gp_n 2 (j' := 2) (lv' := [some (.ref 70)]) (st' := [.ref 70, .ref 70]) (h' := (shT, fi, fl, fr)) rfl ?_
      refine gp_of (fun _ k9 => g_getI (x := nI p) rfl (Or.inl rfl) rfl (by decide) (e2) k9) ?_
      refine gp_of (fun _ k9 => g_call (y := 154) (as := [.ref 70, .int (nI p)]) (st' := []) rfl rfl (b1) k9) ?_
      refine gp_n 1 (j' := 5) (lv' := [some (.ref 70)]) (st' := [.int 32, .int (bA F t p)]) (h' := (shT, fi, fl, fr)) rfl ?_
      refine gp_of (fun _ k9 => g_icf rfl (show ¬ (¬ (bA F t p) = (32 : Int32)) from fun z => z hc) k9) ?_
      refine gp_n 2 (j' := 8) (lv' := [some (.ref 70)]) (st' := [.ref 70, .ref 70]) (h' := (shT, fi, fl, fr)) rfl ?_
      refine gp_of (fun _ k9 => g_getI (x := nI p) rfl (Or.inl rfl) rfl (by decide) (e2) k9) ?_
      refine gp_n 2 (j' := 11) (lv' := [some (.ref 70)]) (st' := [.int ((nI p) + 1), .ref 70]) (h' := (shT, fi, fl, fr)) rfl ?_
      rw [nI_1 p]
      refine gp_of (fun _ k9 => g_putI rfl (Or.inl rfl) rfl (by decide) k9) ?_
      refine gp_n 1 (j' := 0) (lv' := [some (.ref 70)]) (st' := []) (h' := (shT, pm_u2 fi 70 2 (nI (p + 1)), fl, fr)) rfl ?_
      exact gp_done g rfl
    · rw [sk_out (fun z => hc ((bA_eq hF (by decide) (by decide)).mpr ⟨z.1, of_decide_eq_true z.2⟩)), mpl_id e2]
      obtain ⟨S, fi, fl, fr⟩ := h
      have hS : S = shT := hP.1.1
      subst hS
      have e2 : fi 70 2 = nI p := e2
      refine go_of ?_
      refine gp_n 2 (j' := 2) (lv' := [some (.ref 70)]) (st' := [.ref 70, .ref 70]) (h' := (shT, fi, fl, fr)) rfl ?_
      refine gp_of (fun _ k9 => g_getI (x := nI p) rfl (Or.inl rfl) rfl (by decide) (e2) k9) ?_
      refine gp_of (fun _ k9 => g_call (y := 154) (as := [.ref 70, .int (nI p)]) (st' := []) rfl rfl (b1) k9) ?_
      refine gp_n 1 (j' := 5) (lv' := [some (.ref 70)]) (st' := [.int 32, .int (bA F t p)]) (h' := (shT, fi, fl, fr)) rfl ?_
      refine gp_of (fun _ k9 => g_ict rfl (show ¬ (bA F t p) = (32 : Int32) from hc) k9) ?_
      refine gp_n 2 (j' := 15) (lv' := [some (.ref 70)]) (st' := [.ref 70, .ref 70]) (h' := (shT, fi, fl, fr)) rfl ?_
      refine gp_of (fun _ k9 => g_getI (x := nI p) rfl (Or.inl rfl) rfl (by decide) (e2) k9) ?_
      refine gp_of (fun _ k9 => g_call (y := 154) (as := [.ref 70, .int (nI p)]) (st' := []) rfl rfl (b1) k9) ?_
      refine gp_done (g_ret rfl) ?_
      rfl
theorem nx_ev {F : Nat → Int32} {t p : Nat} {h : PmH} (ht : t ≤ 200) (hF : ∀ s, byR (F s)) (hpt : p ≤ t) (hP : mp_P F t p h) : Ev pmT 153 [.ref 70] h (some (.int (bA F t (sk F t cB p)))) (mpl h (sk F t cB p)) := Ev.of (es := cd_153) (ml := 1) (lv := [some (.ref 70)]) rfl rfl rfl (nx_go ht hF _ p h rfl hpt hP)
theorem fa_ev {h : PmH} (hI : HI hdT shT h) {x y : Int32} : Ev pmT 156 [.ref 70, .int x, .int y] h (some (.int 0)) (h_i h 70 3 (8 * y + x)) := by
  refine Ev.of (es := cd_156) (ml := 3) (lv := [some (.ref 70), some (.int x), some (.int y)]) rfl rfl rfl ?_
  obtain ⟨S, fi, fl, fr⟩ := h
  have hS : S = shT := hI.1
  subst hS
  refine go_of ?_
  refine gp_n 6 (j' := 6) (lv' := [some (.ref 70), some (.int x), some (.int y)]) (st' := [.int (((8 : Int32) * y) + x), .ref 70]) (h' := (shT, fi, fl, fr)) rfl ?_
  refine gp_of (fun _ k9 => g_putI rfl (Or.inl rfl) rfl (by decide) k9) ?_
  refine gp_n 1 (j' := 8) (lv' := [some (.ref 70), some (.int x), some (.int y)]) (st' := [.int 0]) (h' := (shT, pm_u2 fi 70 3 (((8 : Int32) * y) + x), fl, fr)) rfl ?_
  refine gp_done (g_retz rfl (by decide)) ?_
  rfl
def vmn (F : Nat → Int32) (t : Nat) : Nat → Nat → Nat → Nat
  | 0, _, v => v
  | n + 1, p, v => if p < t ∧ cD (F p) = true then vmn F t n (p + 1) (if 99999 < v then v else 10 * v + dv (F p)) else v
theorem vmn_rel {F : Nat → Int32} {t : Nat} : ∀ (n p v v' : Nat), (v = v' ∨ (99999 < v ∧ 99999 < v')) → (vmn F t n p v = vcn F t n p v' ∨ (99999 < vmn F t n p v ∧ 99999 < vcn F t n p v'))
  | 0, _, _, _, h => h
  | n + 1, p, v, v', h => by
    rw [vmn, vcn]
    by_cases hc : p < t ∧ cD (F p) = true
    · rw [if_pos hc, if_pos hc]
      have hd := dv_le hc.2
      refine vmn_rel n (p + 1) _ _ ?_
      rcases h with rfl | h
      · by_cases h9 : 99999 < v
        · rw [if_pos h9]
          exact Or.inr ⟨h9, by omega⟩
        · rw [if_neg h9]
          exact Or.inl (by omega)
      · rw [if_pos h.1]
        exact Or.inr ⟨h.1, by omega⟩
    · rw [if_neg hc, if_neg hc]
      exact h
theorem vmn_le {F : Nat → Int32} {t : Nat} : ∀ (n p v : Nat), v ≤ 999999 → vmn F t n p v ≤ 999999
  | 0, _, _, h => h
  | n + 1, p, v, h => by
    rw [vmn]
    split
    · rename_i hc
      have hd := dv_le hc.2
      refine vmn_le n (p + 1) _ ?_
      split <;> omega
    · exact h
theorem vm_e {F : Nat → Int32} {p v : Nat} (hF : byR (F p)) (h : cD (F p) = true) : (10 : Int64) * lN v + (F p &&& 255).toInt64 - 48 = lN (10 * v + dv (F p)) := by
  obtain ⟨c, e1, e2, e3⟩ := cD_nI h
  have e4 : F p &&& 255 = F p := (b255 hF).1 (by rw [e1, nI_toInt (by omega)]; omega)
  rw [e4, e1, nI_l (by omega), show (10 : Int64) = lN 10 from rfl, show (48 : Int64) = lN 48 from rfl, lN_mul, lN_add, lN_sub (by omega), dv_nI (by omega)]
  congr 1
  omega
theorem rd_loop {F : Nat → Int32} {t b : Nat} {lo hi : Int32} {r : Option Value × PmH} (ht : t ≤ 200) (hF : ∀ s, byR (F s)) : ∀ (n p v : Nat) (h : PmH), t - p = n → p ≤ t → v ≤ 999999 → mp_P F t p h → Go pmT none cd_157 46 [some (.ref 70), some (.int lo), some (.int hi), some (.int (nI b)), some (.long (lN (vmn F t n p v))), none] [] (mpl h (sk F t cD p)) r → Go pmT none cd_157 15 [some (.ref 70), some (.int lo), some (.int hi), some (.int (nI b)), some (.long (lN v)), none] [] h r := by
  intro n
  induction n with
  | zero =>
    intro p v h hn hpt hv hP k
    rw [sk_out (by omega), mpl_id hP.2.2.1] at k
    have b1 := ba_ev ht (show p ≤ 1000 by omega) hP
    have d0 := isD0 (x := bA F t p) hP.1 (by rw [bA_D hF]; omega)
    have e2 := hP.2.2.1
    obtain ⟨S, fi, fl, fr⟩ := h
    have hS : S = shT := hP.1.1
    subst hS
    have e2 : fi 70 2 = nI p := e2
    refine go_of ?_
    refine gp_n 2 (j' := 17) (lv' := [some (.ref 70), some (.int lo), some (.int hi), some (.int (nI b)), some (.long (lN v)), none]) (st' := [.ref 70, .ref 70]) (h' := (shT, fi, fl, fr)) rfl ?_
    refine gp_of (fun _ k9 => g_getI (x := nI p) rfl (Or.inl rfl) rfl (by decide) (e2) k9) ?_
    refine gp_of (fun _ k9 => g_call (y := 154) (as := [.ref 70, .int (nI p)]) (st' := []) rfl rfl (b1) k9) ?_
    refine gp_of (fun _ k9 => g_call (y := 158) (as := [.int (bA F t p)]) (st' := []) rfl rfl (d0) k9) ?_
    refine gp_of (fun _ k9 => g_ift rfl (show (0 : Int32) = (0 : Int32) from by decide) k9) ?_
    exact gp_done k rfl
  | succ n ih =>
    intro p v h hn hpt hv hP k
    have b1 := ba_ev ht (show p ≤ 1000 by omega) hP
    have e2 := hP.2.2.1
    by_cases hc : p < t ∧ cD (F p) = true
    · have d1 := isD1 (x := bA F t p) hP.1 ((bA_D hF).mpr hc)
      have hd := dv_le hc.2
      have eA : bA F t p = F p &&& 255 := if_pos hc.1
      rw [eA] at b1 d1
      rw [vmn, if_pos hc, sk_in hc.1 hc.2] at k
      have g := ih (p + 1) (if 99999 < v then v else 10 * v + dv (F p)) (mpl h (p + 1)) (by omega) (by omega) (by split <;> omega) (mpl_P hP) (by rw [mpl_2]; exact k)
      by_cases h9 : 99999 < v
      · rw [if_pos h9] at g
        obtain ⟨S, fi, fl, fr⟩ := h
        have hS : S = shT := hP.1.1
        subst hS
        have e2 : fi 70 2 = nI p := e2
        refine go_of ?_
        refine gp_n 2 (j' := 17) (lv' := [some (.ref 70), some (.int lo), some (.int hi), some (.int (nI b)), some (.long (lN v)), none]) (st' := [.ref 70, .ref 70]) (h' := (shT, fi, fl, fr)) rfl ?_
        refine gp_of (fun _ k9 => g_getI (x := nI p) rfl (Or.inl rfl) rfl (by decide) (e2) k9) ?_
        refine gp_of (fun _ k9 => g_call (y := 154) (as := [.ref 70, .int (nI p)]) (st' := []) rfl rfl (b1) k9) ?_
        refine gp_of (fun _ k9 => g_call (y := 158) (as := [.int (F p &&& 255)]) (st' := []) rfl rfl (d1) k9) ?_
        refine gp_of (fun _ k9 => g_iff rfl (show ¬ ((1 : Int32) = (0 : Int32)) from by decide) k9) ?_
        refine gp_n 3 (j' := 24) (lv' := [some (.ref 70), some (.int lo), some (.int hi), some (.int (nI b)), some (.long (lN v)), none]) (st' := [.int (lg_cmp (lN v) 99999)]) (h' := (shT, fi, fl, fr)) rfl ?_
        refine gp_of (fun _ k9 => g_iff rfl (show ¬ ((lg_cmp (lN v) 99999) ≤ (0 : Int32)) from (by rw [lg_cmp_le]; exact fun z => absurd ((lN_le (b := 99999) (by omega) (by decide)).mp z) (by omega))) k9) ?_
        refine gp_n 5 (j' := 41) (lv' := [some (.ref 70), some (.int lo), some (.int hi), some (.int (nI b)), some (.long (lN v)), none]) (st' := [.ref 70, .ref 70]) (h' := (shT, fi, fl, fr)) rfl ?_
        refine gp_of (fun _ k9 => g_getI (x := nI p) rfl (Or.inl rfl) rfl (by decide) (e2) k9) ?_
        refine gp_n 2 (j' := 44) (lv' := [some (.ref 70), some (.int lo), some (.int hi), some (.int (nI b)), some (.long (lN v)), none]) (st' := [.int ((nI p) + 1), .ref 70]) (h' := (shT, fi, fl, fr)) rfl ?_
        rw [nI_1 p]
        refine gp_of (fun _ k9 => g_putI rfl (Or.inl rfl) rfl (by decide) k9) ?_
        refine gp_n 1 (j' := 15) (lv' := [some (.ref 70), some (.int lo), some (.int hi), some (.int (nI b)), some (.long (lN v)), none]) (st' := []) (h' := (shT, pm_u2 fi 70 2 (nI (p + 1)), fl, fr)) rfl ?_
        exact gp_done g rfl
      · rw [if_neg h9] at g
        have ve := vm_e (v := v) (hF p) hc.2
        obtain ⟨S, fi, fl, fr⟩ := h
        have hS : S = shT := hP.1.1
        subst hS
        have e2 : fi 70 2 = nI p := e2
        refine go_of ?_
        refine gp_n 2 (j' := 17) (lv' := [some (.ref 70), some (.int lo), some (.int hi), some (.int (nI b)), some (.long (lN v)), none]) (st' := [.ref 70, .ref 70]) (h' := (shT, fi, fl, fr)) rfl ?_
        refine gp_of (fun _ k9 => g_getI (x := nI p) rfl (Or.inl rfl) rfl (by decide) (e2) k9) ?_
        refine gp_of (fun _ k9 => g_call (y := 154) (as := [.ref 70, .int (nI p)]) (st' := []) rfl rfl (b1) k9) ?_
        refine gp_of (fun _ k9 => g_call (y := 158) (as := [.int (F p &&& 255)]) (st' := []) rfl rfl (d1) k9) ?_
        refine gp_of (fun _ k9 => g_iff rfl (show ¬ ((1 : Int32) = (0 : Int32)) from by decide) k9) ?_
        refine gp_n 3 (j' := 24) (lv' := [some (.ref 70), some (.int lo), some (.int hi), some (.int (nI b)), some (.long (lN v)), none]) (st' := [.int (lg_cmp (lN v) 99999)]) (h' := (shT, fi, fl, fr)) rfl ?_
        refine gp_of (fun _ k9 => g_ift rfl (show (lg_cmp (lN v) 99999) ≤ (0 : Int32) from (by rw [lg_cmp_le]; exact (lN_le (b := 99999) (by omega) (by decide)).mpr (by omega))) k9) ?_
        refine gp_n 5 (j' := 32) (lv' := [some (.ref 70), some (.int lo), some (.int hi), some (.int (nI b)), some (.long (lN v)), none]) (st' := [.ref 70, .ref 70, .long ((10 : Int64) * (lN v))]) (h' := (shT, fi, fl, fr)) rfl ?_
        refine gp_of (fun _ k9 => g_getI (x := nI p) rfl (Or.inl rfl) rfl (by decide) (e2) k9) ?_
        refine gp_of (fun _ k9 => g_call (y := 154) (as := [.ref 70, .int (nI p)]) (st' := [.long ((10 : Int64) * (lN v))]) rfl rfl (b1) k9) ?_
        refine gp_n 4 (j' := 38) (lv' := [some (.ref 70), some (.int lo), some (.int hi), some (.int (nI b)), some (.long (lN v)), none]) (st' := [.long ((((10 : Int64) * (lN v)) + ((F p &&& 255).toInt64)) - 48)]) (h' := (shT, fi, fl, fr)) rfl ?_
        rw [ve]
        refine gp_n 3 (j' := 41) (lv' := [some (.ref 70), some (.int lo), some (.int hi), some (.int (nI b)), some (.long (lN (10 * v + dv (F p)))), none]) (st' := [.ref 70, .ref 70]) (h' := (shT, fi, fl, fr)) rfl ?_
        refine gp_of (fun _ k9 => g_getI (x := nI p) rfl (Or.inl rfl) rfl (by decide) (e2) k9) ?_
        refine gp_n 2 (j' := 44) (lv' := [some (.ref 70), some (.int lo), some (.int hi), some (.int (nI b)), some (.long (lN (10 * v + dv (F p)))), none]) (st' := [.int ((nI p) + 1), .ref 70]) (h' := (shT, fi, fl, fr)) rfl ?_
        rw [nI_1 p]
        refine gp_of (fun _ k9 => g_putI rfl (Or.inl rfl) rfl (by decide) k9) ?_
        refine gp_n 1 (j' := 15) (lv' := [some (.ref 70), some (.int lo), some (.int hi), some (.int (nI b)), some (.long (lN (10 * v + dv (F p)))), none]) (st' := []) (h' := (shT, pm_u2 fi 70 2 (nI (p + 1)), fl, fr)) rfl ?_
        exact gp_done g rfl
    · have d0 := isD0 (x := bA F t p) hP.1 (fun z => hc ((bA_D hF).mp z))
      rw [vmn, if_neg hc, sk_out hc, mpl_id e2] at k
      obtain ⟨S, fi, fl, fr⟩ := h
      have hS : S = shT := hP.1.1
      subst hS
      have e2 : fi 70 2 = nI p := e2
      refine go_of ?_
      refine gp_n 2 (j' := 17) (lv' := [some (.ref 70), some (.int lo), some (.int hi), some (.int (nI b)), some (.long (lN v)), none]) (st' := [.ref 70, .ref 70]) (h' := (shT, fi, fl, fr)) rfl ?_
      refine gp_of (fun _ k9 => g_getI (x := nI p) rfl (Or.inl rfl) rfl (by decide) (e2) k9) ?_
      refine gp_of (fun _ k9 => g_call (y := 154) (as := [.ref 70, .int (nI p)]) (st' := []) rfl rfl (b1) k9) ?_
      refine gp_of (fun _ k9 => g_call (y := 158) (as := [.int (bA F t p)]) (st' := []) rfl rfl (d0) k9) ?_
      refine gp_of (fun _ k9 => g_ift rfl (show (0 : Int32) = (0 : Int32) from by decide) k9) ?_
      exact gp_done k rfl
def rW : WSt := [(70, 2), (70, 3), (70, 13)]
/-- the model's reads: the same number, or none -/
theorem rd_ev {F : Nat → Int32} {t p lo hi : Nat} {h : PmH} (ht : t ≤ 200) (hF : ∀ s, byR (F s)) (hpt : p ≤ t) (hP : mp_P F t p h) (hlo : lo ≤ 1000) (hhi : hi ≤ 1000) : (∃ v e h', num F t lo hi p = some (v, e) ∧ e ≤ t ∧ Ev pmT 157 [.ref 70, .int (nI lo), .int (nI hi)] h (some (.int 1)) h' ∧ mp_P F t e h' ∧ ph_i h' 70 13 = nI v ∧ fram rW h h') ∨ (num F t lo hi p = none ∧ ∃ h', Ev pmT 157 [.ref 70, .int (nI lo), .int (nI hi)] h (some (.int 0)) h' ∧ HI hdT shT h' ∧ fram rW h h') := by
  have n1 := nx_ev ht hF hpt hP
  have B1 : sk F t cB p ≤ t := sk_le _ _ hpt
  have P1 := mpl_P (q := sk F t cB p) hP
  have f1 : fram rW h (mpl h (sk F t cB p)) := fram_wi (by decide)
  unfold num
  generalize sk F t cB p = B at *
  have rel := vmn_rel (F := F) (t := t) (t - B) B 0 0 (Or.inl rfl)
  have vle := vmn_le (F := F) (t := t) (t - B) B 0 (by omega)
  have E1 : sk F t cD B ≤ t := sk_le _ _ B1
  have lp := fun r => rd_loop (b := B) (lo := nI lo) (hi := nI hi) (r := r) ht hF (t - B) B 0 (mpl h B) rfl B1 (by omega) P1
  rw [mpl_2] at lp
  generalize hvm : vmn F t (t - B) B 0 = vm at *
  generalize hvc : vcn F t (t - B) B 0 = vc at *
  generalize hE : sk F t cD B = E at *
  have P2 := mpl_P (q := E) hP
  have P3 : mp_P F t E (h_i (mpl h E) 70 13 (nI vm)) := h70_P P2 rfl (by decide) (by decide)
  have f3 : fram rW h (h_i (mpl h E) 70 13 (nI vm)) := fram.tr (fram_wi (by decide)) (fram_wi (by decide))
  have st : ∀ v h', Go pmT none cd_157 2 [some (.ref 70), some (.int (nI lo)), some (.int (nI hi)), none, none, none] [.int (bA F t B)] (mpl h B) (v, h') → Ev pmT 157 [.ref 70, .int (nI lo), .int (nI hi)] h v h' := by
    intro v h' g
    refine Ev.of (es := cd_157) (ml := 6) (lv := [some (.ref 70), some (.int (nI lo)), some (.int (nI hi)), none, none, none]) rfl rfl rfl ?_
    have hI := hP.1
    clear lp P1 P2 P3 f1 f3
    obtain ⟨S, fi, fl, fr⟩ := h
    have hS : S = shT := hI.1
    subst hS
    refine go_of ?_
    refine gp_n 1 (j' := 1) (lv' := [some (.ref 70), some (.int (nI lo)), some (.int (nI hi)), none, none, none]) (st' := [.ref 70]) (h' := (shT, fi, fl, fr)) rfl ?_
    refine gp_of (fun _ k9 => g_call (y := 153) (as := [.ref 70]) (st' := []) rfl rfl (n1) k9) ?_
    exact gp_done g rfl
  by_cases hd : B < t ∧ cD (F B) = true
  · have d1 := isD1 (x := bA F t B) P1.1 ((bA_D hF).mpr hd)
    have mid : ∀ v h', Go pmT none cd_157 46 [some (.ref 70), some (.int (nI lo)), some (.int (nI hi)), some (.int (nI B)), some (.long (lN vm)), none] [] (mpl h E) (v, h') → Ev pmT 157 [.ref 70, .int (nI lo), .int (nI hi)] h v h' := by
      intro v h' g
      refine st v h' ?_
      have g2 := lp _ g
      have e2 : ph_i (mpl h B) 70 2 = nI B := h_e
      have hI := P1.1
      clear lp st f1 f3 P1 P2 P3 n1
      generalize mpl h B = h1 at *
      obtain ⟨S, fi, fl, fr⟩ := h1
      have hS : S = shT := hI.1
      subst hS
      have e2 : fi 70 2 = nI B := e2
      refine go_of ?_
      refine gp_of (fun _ k9 => g_call (y := 158) (as := [.int (bA F t B)]) (st' := []) rfl rfl (d1) k9) ?_
      refine gp_of (fun _ k9 => g_ift rfl (show ¬ (1 : Int32) = (0 : Int32) from by decide) k9) ?_
      refine gp_n 1 (j' := 11) (lv' := [some (.ref 70), some (.int (nI lo)), some (.int (nI hi)), none, none, none]) (st' := [.ref 70]) (h' := (shT, fi, fl, fr)) rfl ?_
      refine gp_of (fun _ k9 => g_getI (x := nI B) rfl (Or.inl rfl) rfl (by decide) (e2) k9) ?_
      refine gp_n 3 (j' := 15) (lv' := [some (.ref 70), some (.int (nI lo)), some (.int (nI hi)), some (.int (nI B)), some (.long (lN 0)), none]) (st' := []) (h' := (shT, fi, fl, fr)) rfl ?_
      exact gp_done g2 rfl
    have hIE := P2.1
    have i1 := isin_ev (x := nI vm) (nI lo) (nI hi) (h := h_i (mpl h E) 70 13 (nI vm)) rfl rfl
    rw [nI_l (n := vm) (by omega)] at i1
    have hin : (decide (nI lo ≤ nI vm) && decide (nI vm ≤ nI hi)) = decide (lo ≤ vm ∧ vm ≤ hi) := by
      rw [Bool.decide_and]
      congr 1
      · exact decide_eq_decide.mpr (nI_leI (by omega) (by omega))
      · exact decide_eq_decide.mpr (nI_leI (by omega) (by omega))
    rw [hin] at i1
    by_cases hc : lo ≤ vm ∧ vm ≤ hi
    · have evc : vm = vc := by omega
      rw [decide_eq_true hc] at i1
      rw [if_pos ⟨hd.1, hd.2, by omega, by omega⟩]
      refine Or.inl ⟨vc, E, _, rfl, E1, mid _ _ ?_, P3, by rw [← evc]; exact h_e, f3⟩
      clear mid st lp P2 P3 f1 f3 n1 P1 hP
      generalize mpl h E = h1 at *
      have i1 : Ev pmT 148 [.long (lN vm), .long (nI lo).toInt64, .long (nI hi).toInt64] (h_i h1 70 13 (nI vm)) (some (.int 1)) (h_i h1 70 13 (nI vm)) := i1
      obtain ⟨S, fi, fl, fr⟩ := h1
      have hS : S = shT := hIE.1
      subst hS
      refine go_of ?_
      refine gp_n 3 (j' := 49) (lv' := [some (.ref 70), some (.int (nI lo)), some (.int (nI hi)), some (.int (nI B)), some (.long (lN vm)), none]) (st' := [.int ((lN vm).toInt32), .ref 70]) (h' := (shT, fi, fl, fr)) rfl ?_
      rw [lN_i]
      refine gp_of (fun _ k9 => g_putI rfl (Or.inl rfl) rfl (by decide) k9) ?_
      refine gp_n 5 (j' := 55) (lv' := [some (.ref 70), some (.int (nI lo)), some (.int (nI hi)), some (.int (nI B)), some (.long (lN vm)), none]) (st' := [.long ((nI hi).toInt64), .long ((nI lo).toInt64), .long (lN vm)]) (h' := (shT, pm_u2 fi 70 13 (nI vm), fl, fr)) rfl ?_
      refine gp_of (fun _ k9 => g_call (y := 148) (as := [.long (lN vm), .long ((nI lo).toInt64), .long ((nI hi).toInt64)]) (st' := []) rfl rfl (i1) k9) ?_
      refine gp_of (fun _ k9 => g_ift rfl (show ¬ (1 : Int32) = (0 : Int32) from by decide) k9) ?_
      refine gp_n 2 (j' := 65) (lv' := [some (.ref 70), some (.int (nI lo)), some (.int (nI hi)), some (.int (nI B)), some (.long (lN vm)), none]) (st' := [.int 1]) (h' := (shT, pm_u2 fi 70 13 (nI vm), fl, fr)) rfl ?_
      refine gp_done (g_retz rfl (by decide)) ?_
      rfl
    · rw [decide_eq_false hc] at i1
      rw [if_neg (fun z => hc (by omega))]
      have fa := fa_ev (x := 2) (y := nI B) P3.1
      have I4 : HI hdT shT (h_i (h_i (mpl h E) 70 13 (nI vm)) 70 3 (8 * nI B + 2)) := hd70 P3.1 rfl
      refine Or.inr ⟨rfl, _, mid _ _ ?_, I4, fram.tr f3 (fram_wi (by decide))⟩
      clear mid st lp P2 P3 f1 f3 n1 P1 hP I4
      generalize mpl h E = h1 at *
      have i1 : Ev pmT 148 [.long (lN vm), .long (nI lo).toInt64, .long (nI hi).toInt64] (h_i h1 70 13 (nI vm)) (some (.int 0)) (h_i h1 70 13 (nI vm)) := i1
      obtain ⟨S, fi, fl, fr⟩ := h1
      have hS : S = shT := hIE.1
      subst hS
      refine go_of ?_
      refine gp_n 3 (j' := 49) (lv' := [some (.ref 70), some (.int (nI lo)), some (.int (nI hi)), some (.int (nI B)), some (.long (lN vm)), none]) (st' := [.int ((lN vm).toInt32), .ref 70]) (h' := (shT, fi, fl, fr)) rfl ?_
      rw [lN_i]
      refine gp_of (fun _ k9 => g_putI rfl (Or.inl rfl) rfl (by decide) k9) ?_
      refine gp_n 5 (j' := 55) (lv' := [some (.ref 70), some (.int (nI lo)), some (.int (nI hi)), some (.int (nI B)), some (.long (lN vm)), none]) (st' := [.long ((nI hi).toInt64), .long ((nI lo).toInt64), .long (lN vm)]) (h' := (shT, pm_u2 fi 70 13 (nI vm), fl, fr)) rfl ?_
      refine gp_of (fun _ k9 => g_call (y := 148) (as := [.long (lN vm), .long ((nI lo).toInt64), .long ((nI hi).toInt64)]) (st' := []) rfl rfl (i1) k9) ?_
      refine gp_of (fun _ k9 => g_iff rfl (show ¬ (¬ (0 : Int32) = (0 : Int32)) from by decide) k9) ?_
      refine gp_n 3 (j' := 60) (lv' := [some (.ref 70), some (.int (nI lo)), some (.int (nI hi)), some (.int (nI B)), some (.long (lN vm)), none]) (st' := [.int (nI B), .int 2, .ref 70]) (h' := (shT, pm_u2 fi 70 13 (nI vm), fl, fr)) rfl ?_
      refine gp_of (fun _ k9 => g_call (y := 156) (as := [.ref 70, .int 2, .int (nI B)]) (st' := []) rfl rfl (fa) k9) ?_
      refine gp_of (fun _ k9 => g_ift rfl (show (0 : Int32) = (0 : Int32) from by decide) k9) ?_
      refine gp_n 1 (j' := 65) (lv' := [some (.ref 70), some (.int (nI lo)), some (.int (nI hi)), some (.int (nI B)), some (.long (lN vm)), none]) (st' := [.int 0]) (h' := (shT, pm_u2 (pm_u2 fi 70 13 (nI vm)) 70 3 (8 * nI B + 2), fl, fr)) rfl ?_
      refine gp_done (g_retz rfl (by decide)) ?_
      rfl
  · have d0 := isD0 (x := bA F t B) P1.1 (fun z => hd ((bA_D hF).mp z))
    rw [if_neg (fun z => hd ⟨z.1, z.2.1⟩)]
    have fa := fa_ev (x := 1) (y := nI B) P1.1
    have I4 : HI hdT shT (h_i (mpl h B) 70 3 (8 * nI B + 1)) := hd70 P1.1 rfl
    refine Or.inr ⟨rfl, _, st _ _ ?_, I4, fram.tr f1 (fram_wi (by decide))⟩
    have e2 : ph_i (mpl h B) 70 2 = nI B := h_e
    have hI := P1.1
    clear lp st f1 f3 P1 P2 P3 n1 I4 hP
    generalize mpl h B = h1 at *
    obtain ⟨S, fi, fl, fr⟩ := h1
    have hS : S = shT := hI.1
    subst hS
    have e2 : fi 70 2 = nI B := e2
    refine go_of ?_
    refine gp_of (fun _ k9 => g_call (y := 158) (as := [.int (bA F t B)]) (st' := []) rfl rfl (d0) k9) ?_
    refine gp_of (fun _ k9 => g_iff rfl (show ¬ (¬ (0 : Int32) = (0 : Int32)) from by decide) k9) ?_
    refine gp_n 3 (j' := 7) (lv' := [some (.ref 70), some (.int (nI lo)), some (.int (nI hi)), none, none, none]) (st' := [.ref 70, .int 1, .ref 70]) (h' := (shT, fi, fl, fr)) rfl ?_
    refine gp_of (fun _ k9 => g_getI (x := nI B) rfl (Or.inl rfl) rfl (by decide) (e2) k9) ?_
    refine gp_of (fun _ k9 => g_call (y := 156) (as := [.ref 70, .int 1, .int (nI B)]) (st' := []) rfl rfl (fa) k9) ?_
    refine gp_done (g_retz rfl (by decide)) ?_
    rfl
