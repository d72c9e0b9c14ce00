theorem told1 {h : PmH} (hI : HI hdT shT h) {n : Int32} (c1 : ph_i h 1 1 = n) (hc : 0 < n) : Ev pmT 57 [.ref 1] h (some (.int 1)) h := by
  refine Ev.of (es := cd_57) (ml := 1) (lv := [some (.ref 1)]) rfl rfl rfl ?_
  obtain ⟨S, fi, fl, fr⟩ := h
  have hS : S = shT := hI.1
  subst hS
  have c1 : fi 1 1 = n := c1
  refine go_of ?_
  refine gp_n 1 (j' := 1) (lv' := [some (.ref 1)]) (st' := [.ref 1]) (h' := (shT, fi, fl, fr)) rfl ?_
  refine gp_of (fun _ k9 => g_getI (x := n) rfl (Or.inl rfl) rfl (by decide) (c1) k9) ?_
  refine gp_of (fun _ k9 => g_iff rfl (show ¬ (n ≤ (0 : Int32)) from Int32.not_le.mpr hc) k9) ?_
  refine gp_n 2 (j' := 6) (lv' := [some (.ref 1)]) (st' := [.int 1]) (h' := (shT, fi, fl, fr)) rfl ?_
  refine gp_done (g_retz rfl (by decide)) ?_
  rfl
theorem told0 {h : PmH} (hI : HI hdT shT h) {n : Int32} (c1 : ph_i h 1 1 = n) (hc : ¬ 0 < n) : Ev pmT 57 [.ref 1] h (some (.int 0)) h := by
  refine Ev.of (es := cd_57) (ml := 1) (lv := [some (.ref 1)]) rfl rfl rfl ?_
  obtain ⟨S, fi, fl, fr⟩ := h
  have hS : S = shT := hI.1
  subst hS
  have c1 : fi 1 1 = n := c1
  refine go_of ?_
  refine gp_n 1 (j' := 1) (lv' := [some (.ref 1)]) (st' := [.ref 1]) (h' := (shT, fi, fl, fr)) rfl ?_
  refine gp_of (fun _ k9 => g_getI (x := n) rfl (Or.inl rfl) rfl (by decide) (c1) k9) ?_
  refine gp_of (fun _ k9 => g_ift rfl (show n ≤ (0 : Int32) from Int32.not_lt.mp hc) k9) ?_
  refine gp_n 1 (j' := 6) (lv' := [some (.ref 1)]) (st' := [.int 0]) (h' := (shT, fi, fl, fr)) rfl ?_
  refine gp_done (g_retz rfl (by decide)) ?_
  rfl
theorem isc1 {h : PmH} (hI : HI hdT shT h) {n : Int32} (c1 : ph_i h 70 14 = n) (hc : 0 < n) : Ev pmT 172 [.ref 70] h (some (.int 1)) h := by
  refine Ev.of (es := cd_172) (ml := 1) (lv := [some (.ref 70)]) rfl rfl rfl ?_
  obtain ⟨S, fi, fl, fr⟩ := h
  have hS : S = shT := hI.1
  subst hS
  have c1 : fi 70 14 = n := c1
  refine go_of ?_
  refine gp_n 1 (j' := 1) (lv' := [some (.ref 70)]) (st' := [.ref 70]) (h' := (shT, fi, fl, fr)) rfl ?_
  refine gp_of (fun _ k9 => g_getI (x := n) rfl (Or.inl rfl) rfl (by decide) (c1) k9) ?_
  refine gp_of (fun _ k9 => g_iff rfl (show ¬ (n ≤ (0 : Int32)) from Int32.not_le.mpr hc) k9) ?_
  refine gp_n 2 (j' := 6) (lv' := [some (.ref 70)]) (st' := [.int 1]) (h' := (shT, fi, fl, fr)) rfl ?_
  refine gp_done (g_retz rfl (by decide)) ?_
  rfl
theorem isc0 {h : PmH} (hI : HI hdT shT h) {n : Int32} (c1 : ph_i h 70 14 = n) (hc : ¬ 0 < n) : Ev pmT 172 [.ref 70] h (some (.int 0)) h := by
  refine Ev.of (es := cd_172) (ml := 1) (lv := [some (.ref 70)]) rfl rfl rfl ?_
  obtain ⟨S, fi, fl, fr⟩ := h
  have hS : S = shT := hI.1
  subst hS
  have c1 : fi 70 14 = n := c1
  refine go_of ?_
  refine gp_n 1 (j' := 1) (lv' := [some (.ref 70)]) (st' := [.ref 70]) (h' := (shT, fi, fl, fr)) rfl ?_
  refine gp_of (fun _ k9 => g_getI (x := n) rfl (Or.inl rfl) rfl (by decide) (c1) k9) ?_
  refine gp_of (fun _ k9 => g_ift rfl (show n ≤ (0 : Int32) from Int32.not_lt.mp hc) k9) ?_
  refine gp_n 1 (j' := 6) (lv' := [some (.ref 70)]) (st' := [.int 0]) (h' := (shT, fi, fl, fr)) rfl ?_
  refine gp_done (g_retz rfl (by decide)) ?_
  rfl
theorem hch1 {h : PmH} (hI : HI hdT shT h) {n : Int32} (c1 : ph_i h 1 1 = n) {x : Int32} (hc : 0 ≤ x ∧ x < n) : Ev pmT 52 [.ref 1, .int x] h (some (.int 1)) h := by
  refine Ev.of (es := cd_52) (ml := 2) (lv := [some (.ref 1), some (.int x)]) rfl rfl rfl ?_
  obtain ⟨S, fi, fl, fr⟩ := h
  have hS : S = shT := hI.1
  subst hS
  have c1 : fi 1 1 = n := c1
  refine go_of ?_
  refine gp_n 1 (j' := 1) (lv' := [some (.ref 1), some (.int x)]) (st' := [.int x]) (h' := (shT, fi, fl, fr)) rfl ?_
  refine gp_of (fun _ k9 => g_iff rfl (show ¬ (x < (0 : Int32)) from Int32.not_lt.mpr hc.1) k9) ?_
  refine gp_n 2 (j' := 4) (lv' := [some (.ref 1), some (.int x)]) (st' := [.ref 1, .int x]) (h' := (shT, fi, fl, fr)) rfl ?_
  refine gp_of (fun _ k9 => g_getI (x := n) rfl (Or.inl rfl) rfl (by decide) (c1) k9) ?_
  refine gp_of (fun _ k9 => g_icf rfl (show ¬ (n ≤ x) from Int32.not_le.mpr hc.2) k9) ?_
  refine gp_n 2 (j' := 9) (lv' := [some (.ref 1), some (.int x)]) (st' := [.int 1]) (h' := (shT, fi, fl, fr)) rfl ?_
  refine gp_done (g_retz rfl (by decide)) ?_
  rfl
theorem hch0 {h : PmH} (hI : HI hdT shT h) {n : Int32} (c1 : ph_i h 1 1 = n) {x : Int32} (hc : ¬ (0 ≤ x ∧ x < n)) : Ev pmT 52 [.ref 1, .int x] h (some (.int 0)) h := by
  refine Ev.of (es := cd_52) (ml := 2) (lv := [some (.ref 1), some (.int x)]) rfl rfl rfl ?_
  obtain ⟨S, fi, fl, fr⟩ := h
  have hS : S = shT := hI.1
  subst hS
  have c1 : fi 1 1 = n := c1
  refine go_of ?_
  refine gp_n 1 (j' := 1) (lv' := [some (.ref 1), some (.int x)]) (st' := [.int x]) (h' := (shT, fi, fl, fr)) rfl ?_
  refine gp_if rfl (fun hd => ?_) (fun hd => ?_)
  · replace hd : x < (0 : Int32) := hd
    refine gp_n 1 (j' := 9) (lv' := [some (.ref 1), some (.int x)]) (st' := [.int 0]) (h' := (shT, fi, fl, fr)) rfl ?_
    refine gp_done (g_retz rfl (by decide)) ?_
    rfl
  · replace hd : ¬ (x < (0 : Int32)) := hd
    refine gp_n 2 (j' := 4) (lv' := [some (.ref 1), some (.int x)]) (st' := [.ref 1, .int x]) (h' := (shT, fi, fl, fr)) rfl ?_
    refine gp_of (fun _ k9 => g_getI (x := n) rfl (Or.inl rfl) rfl (by decide) (c1) k9) ?_
    refine gp_of (fun _ k9 => g_ict rfl (show n ≤ x from Int32.not_lt.mp (fun z => hc ⟨Int32.not_lt.mp hd, z⟩)) k9) ?_
    refine gp_n 1 (j' := 9) (lv' := [some (.ref 1), some (.int x)]) (st' := [.int 0]) (h' := (shT, fi, fl, fr)) rfl ?_
    refine gp_done (g_retz rfl (by decide)) ?_
    rfl
theorem ich1 {h : PmH} (hI : HI hdT shT h) {n : Int32} (c1 : ph_i h 70 14 = n) {x : Int32} (hc : 0 ≤ x ∧ x < n) : Ev pmT 168 [.ref 70, .int x] h (some (.int 1)) h := by
  refine Ev.of (es := cd_168) (ml := 2) (lv := [some (.ref 70), some (.int x)]) rfl rfl rfl ?_
  obtain ⟨S, fi, fl, fr⟩ := h
  have hS : S = shT := hI.1
  subst hS
  have c1 : fi 70 14 = n := c1
  refine go_of ?_
  refine gp_n 1 (j' := 1) (lv' := [some (.ref 70), some (.int x)]) (st' := [.int x]) (h' := (shT, fi, fl, fr)) rfl ?_
  refine gp_of (fun _ k9 => g_iff rfl (show ¬ (x < (0 : Int32)) from Int32.not_lt.mpr hc.1) k9) ?_
  refine gp_n 2 (j' := 4) (lv' := [some (.ref 70), some (.int x)]) (st' := [.ref 70, .int x]) (h' := (shT, fi, fl, fr)) rfl ?_
  refine gp_of (fun _ k9 => g_getI (x := n) rfl (Or.inl rfl) rfl (by decide) (c1) k9) ?_
  refine gp_of (fun _ k9 => g_icf rfl (show ¬ (n ≤ x) from Int32.not_le.mpr hc.2) k9) ?_
  refine gp_n 2 (j' := 9) (lv' := [some (.ref 70), some (.int x)]) (st' := [.int 1]) (h' := (shT, fi, fl, fr)) rfl ?_
  refine gp_done (g_retz rfl (by decide)) ?_
  rfl
theorem ich0 {h : PmH} (hI : HI hdT shT h) {n : Int32} (c1 : ph_i h 70 14 = n) {x : Int32} (hc : ¬ (0 ≤ x ∧ x < n)) : Ev pmT 168 [.ref 70, .int x] h (some (.int 0)) h := by
  refine Ev.of (es := cd_168) (ml := 2) (lv := [some (.ref 70), some (.int x)]) rfl rfl rfl ?_
  obtain ⟨S, fi, fl, fr⟩ := h
  have hS : S = shT := hI.1
  subst hS
  have c1 : fi 70 14 = n := c1
  refine go_of ?_
  refine gp_n 1 (j' := 1) (lv' := [some (.ref 70), some (.int x)]) (st' := [.int x]) (h' := (shT, fi, fl, fr)) rfl ?_
  refine gp_if rfl (fun hd => ?_) (fun hd => ?_)
  · replace hd : x < (0 : Int32) := hd
    refine gp_n 1 (j' := 9) (lv' := [some (.ref 70), some (.int x)]) (st' := [.int 0]) (h' := (shT, fi, fl, fr)) rfl ?_
    refine gp_done (g_retz rfl (by decide)) ?_
    rfl
  · replace hd : ¬ (x < (0 : Int32)) := hd
    refine gp_n 2 (j' := 4) (lv' := [some (.ref 70), some (.int x)]) (st' := [.ref 70, .int x]) (h' := (shT, fi, fl, fr)) rfl ?_
    refine gp_of (fun _ k9 => g_getI (x := n) rfl (Or.inl rfl) rfl (by decide) (c1) k9) ?_
    refine gp_of (fun _ k9 => g_ict rfl (show n ≤ x from Int32.not_lt.mp (fun z => hc ⟨Int32.not_lt.mp hd, z⟩)) k9) ?_
    refine gp_n 1 (j' := 9) (lv' := [some (.ref 70), some (.int x)]) (st' := [.int 0]) (h' := (shT, fi, fl, fr)) rfl ?_
    refine gp_done (g_retz rfl (by decide)) ?_
    rfl
theorem isl1 {h : PmH} (hI : HI hdT shT h) {x : Int32} (hc : 1 ≤ x ∧ x ≤ 8) : Ev pmT 79 [.int x] h (some (.int 1)) h := by
  refine Ev.of (es := cd_79) (ml := 1) (lv := [some (.int x)]) rfl rfl rfl ?_
  obtain ⟨S, fi, fl, fr⟩ := h
  have hS : S = shT := hI.1
  subst hS
  refine go_of ?_
  refine gp_n 2 (j' := 2) (lv' := [some (.int x)]) (st' := [.int 1, .int x]) (h' := (shT, fi, fl, fr)) rfl ?_
  refine gp_of (fun _ k9 => g_icf rfl (show ¬ (x < (1 : Int32)) from Int32.not_lt.mpr hc.1) k9) ?_
  refine gp_n 2 (j' := 5) (lv' := [some (.int x)]) (st' := [.int 8, .int x]) (h' := (shT, fi, fl, fr)) rfl ?_
  refine gp_of (fun _ k9 => g_icf rfl (show ¬ ((8 : Int32) < x) from Int32.not_lt.mpr hc.2) k9) ?_
  refine gp_n 2 (j' := 9) (lv' := [some (.int x)]) (st' := [.int 1]) (h' := (shT, fi, fl, fr)) rfl ?_
  refine gp_done (g_retz rfl (by decide)) ?_
  rfl
theorem isl0 {h : PmH} (hI : HI hdT shT h) {x : Int32} (hc : ¬ (1 ≤ x ∧ x ≤ 8)) : Ev pmT 79 [.int x] h (some (.int 0)) h := by
  refine Ev.of (es := cd_79) (ml := 1) (lv := [some (.int x)]) rfl rfl rfl ?_
  obtain ⟨S, fi, fl, fr⟩ := h
  have hS : S = shT := hI.1
  subst hS
  refine go_of ?_
  refine gp_n 2 (j' := 2) (lv' := [some (.int x)]) (st' := [.int 1, .int x]) (h' := (shT, fi, fl, fr)) rfl ?_
  refine gp_ic rfl (fun hd => ?_) (fun hd => ?_)
  · replace hd : x < (1 : Int32) := hd
    refine gp_n 1 (j' := 9) (lv' := [some (.int x)]) (st' := [.int 0]) (h' := (shT, fi, fl, fr)) rfl ?_
    refine gp_done (g_retz rfl (by decide)) ?_
    rfl
  · replace hd : ¬ (x < (1 : Int32)) := hd
    refine gp_n 2 (j' := 5) (lv' := [some (.int x)]) (st' := [.int 8, .int x]) (h' := (shT, fi, fl, fr)) rfl ?_
    refine gp_of (fun _ k9 => g_ict rfl (show (8 : Int32) < x from Int32.not_le.mp (fun z => hc ⟨Int32.not_lt.mp hd, z⟩)) k9) ?_
    refine gp_n 1 (j' := 9) (lv' := [some (.int x)]) (st' := [.int 0]) (h' := (shT, fi, fl, fr)) rfl ?_
    refine gp_done (g_retz rfl (by decide)) ?_
    rfl
theorem iss1 {h : PmH} (hI : HI hdT shT h) {x : Int32} (hc : 0 ≤ x ∧ x ≤ 100) : Ev pmT 71 [.int x] h (some (.int 1)) h := by
  refine Ev.of (es := cd_71) (ml := 1) (lv := [some (.int x)]) rfl rfl rfl ?_
  obtain ⟨S, fi, fl, fr⟩ := h
  have hS : S = shT := hI.1
  subst hS
  refine go_of ?_
  refine gp_n 1 (j' := 1) (lv' := [some (.int x)]) (st' := [.int x]) (h' := (shT, fi, fl, fr)) rfl ?_
  refine gp_of (fun _ k9 => g_iff rfl (show ¬ (x < (0 : Int32)) from Int32.not_lt.mpr hc.1) k9) ?_
  refine gp_n 2 (j' := 4) (lv' := [some (.int x)]) (st' := [.int 100, .int x]) (h' := (shT, fi, fl, fr)) rfl ?_
  refine gp_of (fun _ k9 => g_icf rfl (show ¬ ((100 : Int32) < x) from Int32.not_lt.mpr hc.2) k9) ?_
  refine gp_n 2 (j' := 8) (lv' := [some (.int x)]) (st' := [.int 1]) (h' := (shT, fi, fl, fr)) rfl ?_
  refine gp_done (g_retz rfl (by decide)) ?_
  rfl
theorem iss0 {h : PmH} (hI : HI hdT shT h) {x : Int32} (hc : ¬ (0 ≤ x ∧ x ≤ 100)) : Ev pmT 71 [.int x] h (some (.int 0)) h := by
  refine Ev.of (es := cd_71) (ml := 1) (lv := [some (.int x)]) rfl rfl rfl ?_
  obtain ⟨S, fi, fl, fr⟩ := h
  have hS : S = shT := hI.1
  subst hS
  refine go_of ?_
  refine gp_n 1 (j' := 1) (lv' := [some (.int x)]) (st' := [.int x]) (h' := (shT, fi, fl, fr)) rfl ?_
  refine gp_if rfl (fun hd => ?_) (fun hd => ?_)
  · replace hd : x < (0 : Int32) := hd
    refine gp_n 1 (j' := 8) (lv' := [some (.int x)]) (st' := [.int 0]) (h' := (shT, fi, fl, fr)) rfl ?_
    refine gp_done (g_retz rfl (by decide)) ?_
    rfl
  · replace hd : ¬ (x < (0 : Int32)) := hd
    refine gp_n 2 (j' := 4) (lv' := [some (.int x)]) (st' := [.int 100, .int x]) (h' := (shT, fi, fl, fr)) rfl ?_
    refine gp_of (fun _ k9 => g_ict rfl (show (100 : Int32) < x from Int32.not_le.mp (fun z => hc ⟨Int32.not_lt.mp hd, z⟩)) k9) ?_
    refine gp_n 1 (j' := 8) (lv' := [some (.int x)]) (st' := [.int 0]) (h' := (shT, fi, fl, fr)) rfl ?_
    refine gp_done (g_retz rfl (by decide)) ?_
    rfl
theorem isin_1 {x : Int32} (lo hi : Int32) {l1 l2 : Int64} {h : PmH} (e1 : l1 = lo.toInt64) (e2 : l2 = hi.toInt64) (hc : lo ≤ x ∧ x ≤ hi) : Ev pmT 148 [.long x.toInt64, .long l1, .long l2] h (some (.int 1)) h := by
  have := isin_ev (x := x) lo hi (h := h) e1 e2
  rw [decide_eq_true hc.1, decide_eq_true hc.2] at this
  exact this
theorem isin_0 {x : Int32} (lo hi : Int32) {l1 l2 : Int64} {h : PmH} (e1 : l1 = lo.toInt64) (e2 : l2 = hi.toInt64) (hc : ¬ (lo ≤ x ∧ x ≤ hi)) : Ev pmT 148 [.long x.toInt64, .long l1, .long l2] h (some (.int 0)) h := by
  have := isin_ev (x := x) lo hi (h := h) e1 e2
  rw [show (decide (lo ≤ x) && decide (x ≤ hi)) = false by
    rw [Bool.and_eq_false_iff, decide_eq_false_iff_not, decide_eq_false_iff_not]
    exact Decidable.not_and_iff_or_not.mp hc] at this
  exact this
theorem nse1 {h : PmH} (hI : HI hdT shT h) {x y : Int32} (hc : (0 ≤ x ∧ x ≤ 100) ∧ (0 ≤ y ∧ y ≤ 100)) : Ev pmT 183 [.int x, .int y] h (some (.int 1)) h := by
  refine Ev.of (es := cd_183) (ml := 2) (lv := [some (.int x), some (.int y)]) rfl rfl rfl ?_
  obtain ⟨S, fi, fl, fr⟩ := h
  have hS : S = shT := hI.1
  subst hS
  refine go_of ?_
  refine gp_n 4 (j' := 4) (lv' := [some (.int x), some (.int y)]) (st' := [.long 100, .long 0, .long x.toInt64]) (h' := (shT, fi, fl, fr)) rfl ?_
  refine gp_of (fun _ k9 => g_call (y := 148) (as := [.long x.toInt64, .long 0, .long 100]) (st' := []) rfl rfl (isin_1 0 100 (by decide) (by decide) hc.1) k9) ?_
  refine gp_of (fun _ k9 => g_iff rfl (show ¬ ((1 : Int32) = (0 : Int32)) from by decide) k9) ?_
  refine gp_n 4 (j' := 10) (lv' := [some (.int x), some (.int y)]) (st' := [.long 100, .long 0, .long y.toInt64]) (h' := (shT, fi, fl, fr)) rfl ?_
  refine gp_of (fun _ k9 => g_call (y := 148) (as := [.long y.toInt64, .long 0, .long 100]) (st' := []) rfl rfl (isin_1 0 100 (by decide) (by decide) hc.2) k9) ?_
  refine gp_of (fun _ k9 => g_iff rfl (show ¬ ((1 : Int32) = (0 : Int32)) from by decide) k9) ?_
  refine gp_n 2 (j' := 15) (lv' := [some (.int x), some (.int y)]) (st' := [.int 1]) (h' := (shT, fi, fl, fr)) rfl ?_
  refine gp_done (g_retz rfl (by decide)) ?_
  rfl
theorem nse0 {h : PmH} (hI : HI hdT shT h) {x y : Int32} (hc : ¬ (0 ≤ x ∧ x ≤ 100)) : Ev pmT 183 [.int x, .int y] h (some (.int 0)) h := by
  refine Ev.of (es := cd_183) (ml := 2) (lv := [some (.int x), some (.int y)]) rfl rfl rfl ?_
  obtain ⟨S, fi, fl, fr⟩ := h
  have hS : S = shT := hI.1
  subst hS
  refine go_of ?_
  refine gp_n 4 (j' := 4) (lv' := [some (.int x), some (.int y)]) (st' := [.long 100, .long 0, .long x.toInt64]) (h' := (shT, fi, fl, fr)) rfl ?_
  refine gp_of (fun _ k9 => g_call (y := 148) (as := [.long x.toInt64, .long 0, .long 100]) (st' := []) rfl rfl (isin_0 0 100 (by decide) (by decide) hc) k9) ?_
  refine gp_of (fun _ k9 => g_ift rfl (show (0 : Int32) = (0 : Int32) from by decide) k9) ?_
  refine gp_n 1 (j' := 15) (lv' := [some (.int x), some (.int y)]) (st' := [.int 0]) (h' := (shT, fi, fl, fr)) rfl ?_
  refine gp_done (g_retz rfl (by decide)) ?_
  rfl
theorem nse2 {h : PmH} (hI : HI hdT shT h) {x y : Int32} (hd : 0 ≤ x ∧ x ≤ 100) (hc : ¬ (0 ≤ y ∧ y ≤ 100)) : Ev pmT 183 [.int x, .int y] h (some (.int 0)) h := by
  refine Ev.of (es := cd_183) (ml := 2) (lv := [some (.int x), some (.int y)]) rfl rfl rfl ?_
  obtain ⟨S, fi, fl, fr⟩ := h
  have hS : S = shT := hI.1
  subst hS
  refine go_of ?_
  refine gp_n 4 (j' := 4) (lv' := [some (.int x), some (.int y)]) (st' := [.long 100, .long 0, .long x.toInt64]) (h' := (shT, fi, fl, fr)) rfl ?_
  refine gp_of (fun _ k9 => g_call (y := 148) (as := [.long x.toInt64, .long 0, .long 100]) (st' := []) rfl rfl (isin_1 0 100 (by decide) (by decide) hd) k9) ?_
  refine gp_of (fun _ k9 => g_iff rfl (show ¬ ((1 : Int32) = (0 : Int32)) from by decide) k9) ?_
  refine gp_n 4 (j' := 10) (lv' := [some (.int x), some (.int y)]) (st' := [.long 100, .long 0, .long y.toInt64]) (h' := (shT, fi, fl, fr)) rfl ?_
  refine gp_of (fun _ k9 => g_call (y := 148) (as := [.long y.toInt64, .long 0, .long 100]) (st' := []) rfl rfl (isin_0 0 100 (by decide) (by decide) hc) k9) ?_
  refine gp_of (fun _ k9 => g_ift rfl (show (0 : Int32) = (0 : Int32) from by decide) k9) ?_
  refine gp_n 1 (j' := 15) (lv' := [some (.int x), some (.int y)]) (st' := [.int 0]) (h' := (shT, fi, fl, fr)) rfl ?_
  refine gp_done (g_retz rfl (by decide)) ?_
  rfl
def v_list (x : Int32) (v : VS) : VS := ((fun i => if i = 6 then x else v.1 i), v.2)
def a_setv (v : VS) (a : AB) : AB := (a_tl a, a_tb a, a_x a, v, a_q a, a_p a, a_m a)
def h_i (h : PmH) (p c : Nat) (x : Int32) : PmH := (ph_s h, pm_u2 (ph_i h) p c x, ph_l h, ph_r h)
theorem h_n {h : PmH} {p c q s : Nat} {x : Int32} (hn : ¬ (q = p ∧ s = c)) : ph_i (h_i h p c x) q s = ph_i h q s := u2_n hn
theorem h_e {h : PmH} {p c : Nat} {x : Int32} : ph_i (h_i h p c x) p c = x := u2_i
/-- the class's own vector changes, the rest stays -/
theorem QC_v {L : Bool} {h h' : PmH} {a : AB} {v : VS} (hr : QC L h a) (e1 : ∀ p s, ¬ p = 1 → ¬ p = 2 → ph_i h' p s = ph_i h p s) (e2 : ∀ p s, ¬ p = 1 → ph_l h' p s = ph_l h p s) (e3 : ∀ p s, ph_r h' p s = ph_r h p s) (hv : csC L h' 1 v) : QC L h' (a_setv v a) := by
  obtain ⟨⟨a1, a2, a3⟩, b, c, d, f, g, ⟨e, q1, q2, q3⟩, i⟩ := hr
  have cd : ∀ o v, 3 ≤ o → csC L h o v → csC L h' o v := fun o v ho hc => csC_fr hc (fun i _ => e1 _ _ (by omega) (by omega)) (e2 _ _ (by omega)) (fun s _ => e1 _ _ (by omega) (by omega))
  refine ⟨⟨fun j hj => (e3 3 j).trans (a1 j hj), fun j hj => (e3 4 j).trans (a2 j hj), fun s hs => (e1 10 s (by omega) (by omega)).trans (a3 s hs)⟩, (e1 6 1 (by omega) (by omega)).trans b, fun s => (e1 7 s (by omega) (by omega)).trans (c s), fun hL => (e1 0 13 (by omega) (by omega)).trans (d hL), hv, (e1 0 3 (by omega) (by omega)).trans g, ⟨e, q1, (e1 0 2 (by omega) (by omega)).trans q2, fun k hk => cd _ _ (by have := pst_in (e := e) (i := k); omega) (q3 k hk)⟩, fun k hk => ?_⟩
  have ik := i k hk
  show match a_m a k with
    | none => _
    | some v => _
  cases hm : a_m a k with
  | none =>
    rw [hm] at ik
    exact (e1 5 k (by omega) (by omega)).trans ik
  | some v =>
    rw [hm] at ik
    exact ⟨(e1 5 k (by omega) (by omega)).trans ik.1, cd _ _ (by omega) ik.2⟩
theorem QM_v {L : Bool} {h h' : PmH} {a : AB} {v : VS} (hr : QM L h a) (e1 : ∀ p s, ¬ (p = 70 ∧ 14 ≤ s ∧ s ≤ 20) → ¬ p = 74 → ph_i h' p s = ph_i h p s) (e2 : ∀ p s, ¬ p = 70 → ph_l h' p s = ph_l h p s) (hv : csM L h' v) : QM L h' (a_setv v a) := by
  obtain ⟨a1, b, c, d, f, g, q, i⟩ := hr
  have ch : ∀ r v, csH L h r v → csH L h' r v := fun r v hc => csH_fr hc (fun j _ => e1 _ _ (by omega) (by omega)) (e2 _ _ (by omega)) (fun s _ => e1 _ _ (by omega) (by omega))
  refine ⟨fun j hj => (e1 _ _ (by omega) (by omega)).trans (a1 j hj), (e1 _ _ (by omega) (by omega)).trans b, fun s => (e1 _ _ (by omega) (by omega)).trans (c s), fun hL => (e1 _ _ (by omega) (by omega)).trans (d hL), hv, (e1 _ _ (by omega) (by omega)).trans g, fun k hk => ch _ _ (q k hk), fun k hk => ?_⟩
  have ik := i k hk
  show match a_m a k with
    | none => _
    | some v => _
  cases hm : a_m a k with
  | none =>
    rw [hm] at ik
    exact (e1 _ _ (by omega) (by omega)).trans ik
  | some v =>
    rw [hm] at ik
    exact ⟨(e1 _ _ (by omega) (by omega)).trans ik.1, ch _ _ ik.2⟩
def P_list (x : Int32) (a : AB) : Prop := 0 < (a_v a).1 1 ∧ (1 ≤ x ∧ x ≤ 8) ∧ ¬ x = (a_v a).1 6
theorem lst_C0 {L : Bool} {h : PmH} {a : AB} {x : Int32} (hI : HI hdT shT h) (hR : QC L h a) (hP : ¬ P_list x a) : Ev pmT 78 [.ref 0, .int x] h (some (.int (-1))) h := by
  have f := hR.2.2.2.2.1
  have c1 := f.1 1 (by decide)
  have c6 := f.1 6 (by decide)
  have k0 : ph_r h 0 0 = some 1 := hi_r hI rfl rfl (by decide)
  have t1 := told1 hI c1
  have t0 := told0 hI c1
  have l1 := isl1 (x := x) hI
  have l0 := isl0 (x := x) hI
  refine Ev.of (es := cd_78) (ml := 3) (lv := [some (.ref 0), some (.int x), none]) rfl rfl rfl ?_
  obtain ⟨S, fi, fl, fr⟩ := h
  have hS : S = shT := hI.1
  subst hS
  have k0 : fr 0 0 = some 1 := k0
  have c6 : fi 1 6 = (a_v a).1 6 := c6
  refine go_of ?_
  by_cases p1 : 0 < (a_v a).1 1
  · by_cases p2 : 1 ≤ x ∧ x ≤ 8
    · have p3 : x = (a_v a).1 6 := Classical.byContradiction (fun z => hP ⟨p1, p2, z⟩)
      refine gp_n 1 (j' := 1) (lv' := [some (.ref 0), some (.int x), none]) (st' := [.ref 0]) (h' := (shT, fi, fl, fr)) rfl ?_
      refine gp_of (fun _ k9 => g_getR (q' := 1) rfl rfl (by decide) k0 k9) ?_
      refine gp_of (fun _ k9 => g_call (y := 57) (as := [.ref 1]) (st' := []) rfl rfl (t1 p1) k9) ?_
      refine gp_of (fun _ k9 => g_iff rfl (show ¬ ((1 : Int32) = (0 : Int32)) from by decide) k9) ?_
      refine gp_n 1 (j' := 5) (lv' := [some (.ref 0), some (.int x), none]) (st' := [.int x]) (h' := (shT, fi, fl, fr)) rfl ?_
      refine gp_of (fun _ k9 => g_call (y := 79) (as := [.int x]) (st' := []) rfl rfl (l1 p2) k9) ?_
      refine gp_of (fun _ k9 => g_iff rfl (show ¬ ((1 : Int32) = (0 : Int32)) from by decide) k9) ?_
      refine gp_n 2 (j' := 9) (lv' := [some (.ref 0), some (.int x), none]) (st' := [.ref 0, .int x]) (h' := (shT, fi, fl, fr)) rfl ?_
      refine gp_of (fun _ k9 => g_getR (q' := 1) rfl rfl (by decide) k0 k9) ?_
      refine gp_of (fun _ k9 => g_getI (x := (a_v a).1 6) rfl (Or.inl rfl) rfl (by decide) (c6) k9) ?_
      refine gp_of (fun _ k9 => g_icf rfl (show ¬ (¬ x = ((a_v a).1 6)) from fun z => z p3) k9) ?_
      refine gp_n 1 (j' := 13) (lv' := [some (.ref 0), some (.int x), none]) (st' := [.int (-1)]) (h' := (shT, fi, fl, fr)) rfl ?_
      refine gp_done (g_ret rfl) ?_
      rfl
    · refine gp_n 1 (j' := 1) (lv' := [some (.ref 0), some (.int x), none]) (st' := [.ref 0]) (h' := (shT, fi, fl, fr)) rfl ?_
      refine gp_of (fun _ k9 => g_getR (q' := 1) rfl rfl (by decide) k0 k9) ?_
      refine gp_of (fun _ k9 => g_call (y := 57) (as := [.ref 1]) (st' := []) rfl rfl (t1 p1) k9) ?_
      refine gp_of (fun _ k9 => g_iff rfl (show ¬ ((1 : Int32) = (0 : Int32)) from by decide) k9) ?_
      refine gp_n 1 (j' := 5) (lv' := [some (.ref 0), some (.int x), none]) (st' := [.int x]) (h' := (shT, fi, fl, fr)) rfl ?_
      refine gp_of (fun _ k9 => g_call (y := 79) (as := [.int x]) (st' := []) rfl rfl (l0 p2) k9) ?_
      refine gp_of (fun _ k9 => g_ift rfl (show (0 : Int32) = (0 : Int32) from by decide) k9) ?_
      refine gp_n 1 (j' := 13) (lv' := [some (.ref 0), some (.int x), none]) (st' := [.int (-1)]) (h' := (shT, fi, fl, fr)) rfl ?_
      refine gp_done (g_ret rfl) ?_
      rfl
  · refine gp_n 1 (j' := 1) (lv' := [some (.ref 0), some (.int x), none]) (st' := [.ref 0]) (h' := (shT, fi, fl, fr)) rfl ?_
    refine gp_of (fun _ k9 => g_getR (q' := 1) rfl rfl (by decide) k0 k9) ?_
    refine gp_of (fun _ k9 => g_call (y := 57) (as := [.ref 1]) (st' := []) rfl rfl (t0 p1) k9) ?_
    refine gp_of (fun _ k9 => g_ift rfl (show (0 : Int32) = (0 : Int32) from by decide) k9) ?_
    refine gp_n 1 (j' := 13) (lv' := [some (.ref 0), some (.int x), none]) (st' := [.int (-1)]) (h' := (shT, fi, fl, fr)) rfl ?_
    refine gp_done (g_ret rfl) ?_
    rfl
theorem lst_C {L : Bool} {h : PmH} {a : AB} {x : Int32} (hI : HI hdT shT h) (hR : QC L h a) (hq : a_q a ≤ 12) (hP : P_list x a) : ∃ h', Ev pmT 78 [.ref 0, .int x] h (some (.int ((a_v a).1 6))) h' ∧ QC L h' (a_setv (v_list x (a_v a)) (a_push a)) ∧ HI hdT shT h' ∧ fram (in_w iN_52) h h' := by
  have f := hR.2.2.2.2.1
  have c1 := f.1 1 (by decide)
  have c6 := f.1 6 (by decide)
  have k0 : ph_r h 0 0 = some 1 := hi_r hI rfl rfl (by decide)
  have t1 := told1 hI c1 hP.1
  have l1 := isl1 hI hP.2.1
  obtain ⟨h1, ev1, R1, I1, F1⟩ := rem_ev hI hR hq
  have f1 := R1.2.2.2.2.1
  have d6 : ph_i h1 1 6 = (a_v a).1 6 := f1.1 6 (by decide)
  have m0 : ph_r h1 0 0 = some 1 := hi_r I1 rfl rfl (by decide)
  have ev : Ev pmT 78 [.ref 0, .int x] h (some (.int ((a_v a).1 6))) (h_i h1 1 6 x) := by
    refine Ev.of (es := cd_78) (ml := 3) (lv := [some (.ref 0), some (.int x), none]) rfl rfl rfl ?_
    obtain ⟨S1, fi1, fl1, fr1⟩ := h1
    have s1 : S1 = shT := I1.1
    subst s1
    obtain ⟨S, fi, fl, fr⟩ := h
    have hS : S = shT := hI.1
    subst hS
    have k0 : fr 0 0 = some 1 := k0
    have m0 : fr1 0 0 = some 1 := m0
    have c6 : fi 1 6 = (a_v a).1 6 := c6
    have d6 : fi1 1 6 = (a_v a).1 6 := d6
    refine go_of ?_
    refine gp_n 1 (j' := 1) (lv' := [some (.ref 0), some (.int x), none]) (st' := [.ref 0]) (h' := (shT, fi, fl, fr)) rfl ?_
    refine gp_of (fun _ k9 => g_getR (q' := 1) rfl rfl (by decide) k0 k9) ?_
    refine gp_of (fun _ k9 => g_call (y := 57) (as := [.ref 1]) (st' := []) rfl rfl (t1) k9) ?_
    refine gp_of (fun _ k9 => g_iff rfl (show ¬ ((1 : Int32) = (0 : Int32)) from by decide) k9) ?_
    refine gp_n 1 (j' := 5) (lv' := [some (.ref 0), some (.int x), none]) (st' := [.int x]) (h' := (shT, fi, fl, fr)) rfl ?_
    refine gp_of (fun _ k9 => g_call (y := 79) (as := [.int x]) (st' := []) rfl rfl (l1) k9) ?_
    refine gp_of (fun _ k9 => g_iff rfl (show ¬ ((1 : Int32) = (0 : Int32)) from by decide) k9) ?_
    refine gp_n 2 (j' := 9) (lv' := [some (.ref 0), some (.int x), none]) (st' := [.ref 0, .int x]) (h' := (shT, fi, fl, fr)) rfl ?_
    refine gp_of (fun _ k9 => g_getR (q' := 1) rfl rfl (by decide) k0 k9) ?_
    refine gp_of (fun _ k9 => g_getI (x := (a_v a).1 6) rfl (Or.inl rfl) rfl (by decide) (c6) k9) ?_
    refine gp_of (fun _ k9 => g_ict rfl (show ¬ x = ((a_v a).1 6) from hP.2.2) k9) ?_
    refine gp_n 1 (j' := 15) (lv' := [some (.ref 0), some (.int x), none]) (st' := [.ref 0]) (h' := (shT, fi, fl, fr)) rfl ?_
    refine gp_of (fun _ k9 => g_callv (y := 49) (as := [.ref 0]) (st' := []) rfl rfl (ev1) k9) ?_
    refine gp_n 1 (j' := 17) (lv' := [some (.ref 0), some (.int x), none]) (st' := [.ref 0]) (h' := (shT, fi1, fl1, fr1)) rfl ?_
    refine gp_of (fun _ k9 => g_getR (q' := 1) rfl rfl (by decide) m0 k9) ?_
    refine gp_of (fun _ k9 => g_getI (x := (a_v a).1 6) rfl (Or.inl rfl) rfl (by decide) (d6) k9) ?_
    refine gp_n 2 (j' := 21) (lv' := [some (.ref 0), some (.int x), some (.int ((a_v a).1 6))]) (st' := [.ref 0]) (h' := (shT, fi1, fl1, fr1)) rfl ?_
    refine gp_of (fun _ k9 => g_getR (q' := 1) rfl rfl (by decide) m0 k9) ?_
    refine gp_n 1 (j' := 23) (lv' := [some (.ref 0), some (.int x), some (.int ((a_v a).1 6))]) (st' := [.int x, .ref 1]) (h' := (shT, fi1, fl1, fr1)) rfl ?_
    refine gp_of (fun _ k9 => g_putI rfl (Or.inl rfl) rfl (by decide) k9) ?_
    refine gp_n 1 (j' := 25) (lv' := [some (.ref 0), some (.int x), some (.int ((a_v a).1 6))]) (st' := [.int ((a_v a).1 6)]) (h' := (shT, pm_u2 fi1 1 6 x, fl1, fr1)) rfl ?_
    refine gp_done (g_ret rfl) ?_
    rfl
  obtain ⟨J1, J2⟩ := iv_s vN_52 (as := [.ref 0, .int x]) rfl (fun _ _ => gz_c (gz_r (by decide)) (gz_c (gz_a _) gz_n)) hI ev
  refine ⟨_, ev, QC_v R1 (fun p s h1 _ => h_n (by omega)) (fun _ _ _ => rfl) (fun _ _ => rfl) ⟨fun i hi => ?_, fun hL => ⟨(f1.2 hL).1, fun s hs => (h_n (by omega)).trans ((f1.2 hL).2 s hs)⟩⟩, J1, J2⟩
  by_cases h6 : i = 6
  · subst h6
    exact h_e
  · rw [h_n (by omega)]
    show _ = if i = 6 then x else (a_v a).1 i
    rw [if_neg h6]
    exact f1.1 i hi
theorem lst_M0 {L : Bool} {h : PmH} {a : AB} {x : Int32} (hI : HI hdT shT h) (hR : QM L h a) (hP : ¬ P_list x a) : Ev pmT 189 [.ref 70, .int x] h (some (.int (-1))) h := by
  have f := hR.2.2.2.2.1
  have c1 : ph_i h 70 14 = (a_v a).1 1 := f.1 0 (by decide)
  have c6 : ph_i h 70 20 = (a_v a).1 6 := f.1 6 (by decide)
  have t1 := isc1 hI c1
  have t0 := isc0 hI c1
  have l1 := isin_1 (x := x) 1 8 (l1 := 1) (l2 := 8) (h := h) (by decide) (by decide)
  have l0 := isin_0 (x := x) 1 8 (l1 := 1) (l2 := 8) (h := h) (by decide) (by decide)
  refine Ev.of (es := cd_189) (ml := 3) (lv := [some (.ref 70), some (.int x), none]) rfl rfl rfl ?_
  obtain ⟨S, fi, fl, fr⟩ := h
  have hS : S = shT := hI.1
  subst hS
  have c6 : fi 70 20 = (a_v a).1 6 := c6
  refine go_of ?_
  by_cases p1 : 0 < (a_v a).1 1
  · by_cases p2 : 1 ≤ x ∧ x ≤ 8
    · have p3 : x = (a_v a).1 6 := Classical.byContradiction (fun z => hP ⟨p1, p2, z⟩)
      refine gp_n 1 (j' := 1) (lv' := [some (.ref 70), some (.int x), none]) (st' := [.ref 70]) (h' := (shT, fi, fl, fr)) rfl ?_
      refine gp_of (fun _ k9 => g_call (y := 172) (as := [.ref 70]) (st' := []) rfl rfl (t1 p1) k9) ?_
      refine gp_of (fun _ k9 => g_iff rfl (show ¬ ((1 : Int32) = (0 : Int32)) from by decide) k9) ?_
      refine gp_n 4 (j' := 7) (lv' := [some (.ref 70), some (.int x), none]) (st' := [.long 8, .long 1, .long x.toInt64]) (h' := (shT, fi, fl, fr)) rfl ?_
      refine gp_of (fun _ k9 => g_call (y := 148) (as := [.long x.toInt64, .long 1, .long 8]) (st' := []) rfl rfl (l1 p2) k9) ?_
      refine gp_of (fun _ k9 => g_iff rfl (show ¬ ((1 : Int32) = (0 : Int32)) from by decide) k9) ?_
      refine gp_n 1 (j' := 10) (lv' := [some (.ref 70), some (.int x), none]) (st' := [.ref 70]) (h' := (shT, fi, fl, fr)) rfl ?_
      refine gp_of (fun _ k9 => g_getI (x := (a_v a).1 6) rfl (Or.inl rfl) rfl (by decide) (c6) k9) ?_
      refine gp_n 1 (j' := 12) (lv' := [some (.ref 70), some (.int x), none]) (st' := [.int x, .int ((a_v a).1 6)]) (h' := (shT, fi, fl, fr)) rfl ?_
      refine gp_of (fun _ k9 => g_icf rfl (show ¬ (¬ ((a_v a).1 6) = x) from fun z => z p3.symm) k9) ?_
      refine gp_n 1 (j' := 14) (lv' := [some (.ref 70), some (.int x), none]) (st' := [.int (-1)]) (h' := (shT, fi, fl, fr)) rfl ?_
      refine gp_done (g_ret rfl) ?_
      rfl
    · refine gp_n 1 (j' := 1) (lv' := [some (.ref 70), some (.int x), none]) (st' := [.ref 70]) (h' := (shT, fi, fl, fr)) rfl ?_
      refine gp_of (fun _ k9 => g_call (y := 172) (as := [.ref 70]) (st' := []) rfl rfl (t1 p1) k9) ?_
      refine gp_of (fun _ k9 => g_iff rfl (show ¬ ((1 : Int32) = (0 : Int32)) from by decide) k9) ?_
      refine gp_n 4 (j' := 7) (lv' := [some (.ref 70), some (.int x), none]) (st' := [.long 8, .long 1, .long x.toInt64]) (h' := (shT, fi, fl, fr)) rfl ?_
      refine gp_of (fun _ k9 => g_call (y := 148) (as := [.long x.toInt64, .long 1, .long 8]) (st' := []) rfl rfl (l0 p2) k9) ?_
      refine gp_of (fun _ k9 => g_ift rfl (show (0 : Int32) = (0 : Int32) from by decide) k9) ?_
      refine gp_n 1 (j' := 14) (lv' := [some (.ref 70), some (.int x), none]) (st' := [.int (-1)]) (h' := (shT, fi, fl, fr)) rfl ?_
      refine gp_done (g_ret rfl) ?_
      rfl
  · refine gp_n 1 (j' := 1) (lv' := [some (.ref 70), some (.int x), none]) (st' := [.ref 70]) (h' := (shT, fi, fl, fr)) rfl ?_
    refine gp_of (fun _ k9 => g_call (y := 172) (as := [.ref 70]) (st' := []) rfl rfl (t0 p1) k9) ?_
    refine gp_of (fun _ k9 => g_ift rfl (show (0 : Int32) = (0 : Int32) from by decide) k9) ?_
    refine gp_n 1 (j' := 14) (lv' := [some (.ref 70), some (.int x), none]) (st' := [.int (-1)]) (h' := (shT, fi, fl, fr)) rfl ?_
    refine gp_done (g_ret rfl) ?_
    rfl
theorem lst_M {L : Bool} {h : PmH} {a : AB} {x : Int32} (hI : HI hdT shT h) (hR : QM L h a) (hq : a_q a ≤ 12) (hP : P_list x a) : ∃ h', Ev pmT 189 [.ref 70, .int x] h (some (.int ((a_v a).1 6))) h' ∧ QM L h' (a_setv (v_list x (a_v a)) (a_push a)) ∧ HI hdT shT h' ∧ fram (in_w iN_210) h h' := by
  have f := hR.2.2.2.2.1
  have c1 : ph_i h 70 14 = (a_v a).1 1 := f.1 0 (by decide)
  have c6 : ph_i h 70 20 = (a_v a).1 6 := f.1 6 (by decide)
  have t1 := isc1 hI c1 hP.1
  have l1 := isin_1 (x := x) 1 8 (l1 := 1) (l2 := 8) (h := h) (by decide) (by decide) hP.2.1
  obtain ⟨h1, ev1, R1, I1, F1⟩ := ka_ev hI hR hq
  have f1 := R1.2.2.2.2.1
  have d6 : ph_i h1 70 20 = (a_v a).1 6 := f1.1 6 (by decide)
  have ev : Ev pmT 189 [.ref 70, .int x] h (some (.int ((a_v a).1 6))) (h_i h1 70 20 x) := by
    refine Ev.of (es := cd_189) (ml := 3) (lv := [some (.ref 70), some (.int x), none]) rfl rfl rfl ?_
    obtain ⟨S1, fi1, fl1, fr1⟩ := h1
    have s1 : S1 = shT := I1.1
    subst s1
    obtain ⟨S, fi, fl, fr⟩ := h
    have hS : S = shT := hI.1
    subst hS
    have c6 : fi 70 20 = (a_v a).1 6 := c6
    have d6 : fi1 70 20 = (a_v a).1 6 := d6
    refine go_of ?_
    refine gp_n 1 (j' := 1) (lv' := [some (.ref 70), some (.int x), none]) (st' := [.ref 70]) (h' := (shT, fi, fl, fr)) rfl ?_
    refine gp_of (fun _ k9 => g_call (y := 172) (as := [.ref 70]) (st' := []) rfl rfl (t1) k9) ?_
    refine gp_of (fun _ k9 => g_iff rfl (show ¬ ((1 : Int32) = (0 : Int32)) from by decide) k9) ?_
    refine gp_n 4 (j' := 7) (lv' := [some (.ref 70), some (.int x), none]) (st' := [.long 8, .long 1, .long x.toInt64]) (h' := (shT, fi, fl, fr)) rfl ?_
    refine gp_of (fun _ k9 => g_call (y := 148) (as := [.long x.toInt64, .long 1, .long 8]) (st' := []) rfl rfl (l1) k9) ?_
    refine gp_of (fun _ k9 => g_iff rfl (show ¬ ((1 : Int32) = (0 : Int32)) from by decide) k9) ?_
    refine gp_n 1 (j' := 10) (lv' := [some (.ref 70), some (.int x), none]) (st' := [.ref 70]) (h' := (shT, fi, fl, fr)) rfl ?_
    refine gp_of (fun _ k9 => g_getI (x := (a_v a).1 6) rfl (Or.inl rfl) rfl (by decide) (c6) k9) ?_
    refine gp_n 1 (j' := 12) (lv' := [some (.ref 70), some (.int x), none]) (st' := [.int x, .int ((a_v a).1 6)]) (h' := (shT, fi, fl, fr)) rfl ?_
    refine gp_of (fun _ k9 => g_ict rfl (show ¬ ((a_v a).1 6) = x from fun z => hP.2.2 z.symm) k9) ?_
    refine gp_n 1 (j' := 16) (lv' := [some (.ref 70), some (.int x), none]) (st' := [.ref 70]) (h' := (shT, fi, fl, fr)) rfl ?_
    refine gp_of (fun _ k9 => g_callv (y := 162) (as := [.ref 70]) (st' := []) rfl rfl (ev1) k9) ?_
    refine gp_n 1 (j' := 18) (lv' := [some (.ref 70), some (.int x), none]) (st' := [.ref 70]) (h' := (shT, fi1, fl1, fr1)) rfl ?_
    refine gp_of (fun _ k9 => g_getI (x := (a_v a).1 6) rfl (Or.inl rfl) rfl (by decide) (d6) k9) ?_
    refine gp_n 3 (j' := 22) (lv' := [some (.ref 70), some (.int x), some (.int ((a_v a).1 6))]) (st' := [.int x, .ref 70]) (h' := (shT, fi1, fl1, fr1)) rfl ?_
    refine gp_of (fun _ k9 => g_putI rfl (Or.inl rfl) rfl (by decide) k9) ?_
    refine gp_n 1 (j' := 24) (lv' := [some (.ref 70), some (.int x), some (.int ((a_v a).1 6))]) (st' := [.int ((a_v a).1 6)]) (h' := (shT, pm_u2 fi1 70 20 x, fl1, fr1)) rfl ?_
    refine gp_done (g_ret rfl) ?_
    rfl
  obtain ⟨J1, J2⟩ := iv_s vN_210 (as := [.ref 70, .int x]) rfl (fun _ _ => gz_c (gz_r (by decide)) (gz_c (gz_a _) gz_n)) hI ev
  refine ⟨_, ev, QM_v R1 (fun p s h1 _ => h_n (by omega)) (fun _ _ _ => rfl) ⟨fun i hi => ?_, fun hL => ⟨(f1.2 hL).1, fun s hs => (h_n (by omega)).trans ((f1.2 hL).2 s hs)⟩⟩, J1, J2⟩
  by_cases h6 : i = 6
  · subst h6
    exact h_e
  · rw [h_n (by omega)]
    show _ = if sg i = 6 then x else (a_v a).1 (sg i)
    rw [if_neg (by unfold sg; split <;> (try split) <;> omega)]
    exact f1.1 i hi
