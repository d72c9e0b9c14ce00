/-- the things of both objects, once made -/
def shT : List (Nat × Nat) := [(19, 14), (16, 9), (0, 64), (4, 12), (4, 2), (1, 2), (17, 2), (2, 200), (11, 7), (16, 9), (0, 64), (3, 64), (2, 0), (14, 16), (13, 4), (3, 8), (0, 8), (0, 56), (13, 4), (3, 8), (0, 8), (0, 56), (18, 3), (0, 64), (0, 512), (0, 512), (0, 64), (0, 1016), (0, 16), (0, 16), (16, 9), (0, 64), (12, 5), (0, 64), (15, 8), (0, 1502), (3, 1502), (0, 64), (10, 4), (3, 12), (3, 7), (0, 64), (16, 9), (0, 64), (16, 9), (0, 64), (16, 9), (0, 64), (16, 9), (0, 64), (16, 9), (0, 64), (16, 9), (0, 64), (16, 9), (0, 64), (16, 9), (0, 64), (16, 9), (0, 64), (16, 9), (0, 64), (16, 9), (0, 64), (16, 9), (0, 64), (16, 9), (0, 64), (16, 9), (0, 64), (20, 54), (2, 200), (2, 30), (1, 6), (0, 64), (0, 64), (3, 8), (0, 8), (3, 16), (0, 16), (0, 16), (0, 64), (0, 512), (0, 512), (0, 512), (0, 64), (0, 64), (3, 3100), (0, 3100), (0, 3100), (0, 64), (0, 1008), (3, 14), (1, 2)]
/-- what their cells keep to -/
def hdT : HDt := [[(2, 0, 0, [1]), (2, 0, 0, [3]), (0, 0, 11, []), (0, 0, 12, []), (2, 0, 0, [4]), (2, 0, 0, [5]), (2, 0, 0, [6]), (2, 0, 0, [8]), (2, 0, 0, [13]), (2, 0, 0, [32]), (2, 0, 0, [34]), (2, 0, 0, [38]), (2, 0, 0, [41])],
  [(0, 0, 6, []), (0, 0, 64, []), (0, 0, 64, []), (0, 0, 8, []), (9, 0, 0, []), (9, 0, 0, []), (0, 0, 8, []), (9, 0, 0, []), (2, 0, 0, [2])],
  [],
  [(2, 0, 0, [42, 44, 46, 48, 50, 52, 54, 56, 58, 60, 62, 64])],
  [(2, 0, 0, [66, 68])],
  [],
  [(2, 0, 0, [7]), (0, 0, 200, [])],
  [],
  [(2, 0, 0, [9]), (2, 0, 0, [11]), (2, 0, 0, [12, 7])],
  [(0, 0, 6, []), (0, 0, 64, []), (9, 0, 0, []), (9, 0, 0, []), (9, 0, 0, []), (9, 0, 0, []), (9, 0, 0, []), (9, 0, 0, []), (2, 0, 0, [10])],
  [],
  [],
  [],
  [(2, 0, 0, [14, 18]), (2, 0, 0, [14, 18]), (2, 0, 0, [22]), (2, 0, 0, [26]), (9, 0, 0, []), (9, 0, 0, []), (9, 0, 0, []), (0, 0, 7, []), (0, 0, 1, []), (2, 0, 0, [27]), (2, 0, 0, [28]), (2, 0, 0, [29]), (2, 0, 0, [30, 1]), (0, 0, 8, []), (0, 0, 1, [])],
  [(0, 0, 8, []), (2, 0, 0, [15]), (2, 0, 0, [16]), (2, 0, 0, [17])],
  [],
  [],
  [(0, 0, 7, [])],
  [(0, 0, 8, []), (2, 0, 0, [19]), (2, 0, 0, [20]), (2, 0, 0, [21])],
  [],
  [],
  [(0, 0, 7, [])],
  [(2, 0, 0, [23]), (2, 0, 0, [24]), (2, 0, 0, [25])],
  [(0, 0, 8, [])],
  [],
  [],
  [],
  [],
  [],
  [(0, 0, 15, [])],
  [(0, 0, 6, []), (0, 0, 64, []), (0, 0, 64, []), (0, 0, 8, []), (9, 0, 0, []), (9, 0, 0, []), (0, 0, 8, []), (9, 0, 0, []), (2, 0, 0, [31])],
  [],
  [(9, 0, 0, []), (9, 0, 0, []), (9, 0, 0, []), (0, 0, 1, []), (2, 0, 0, [33])],
  [],
  [(0, 0, 1, []), (9, 0, 0, []), (9, 0, 0, []), (9, 0, 0, []), (2, 0, 0, [35]), (2, 0, 0, [36]), (0, 0, 1502, []), (2, 0, 0, [37])],
  [],
  [],
  [],
  [(9, 0, 0, []), (9, 0, 0, []), (2, 0, 0, [39]), (2, 0, 0, [40])],
  [],
  [],
  [],
  [(0, 0, 6, []), (0, 0, 64, []), (0, 0, 64, []), (0, 0, 8, []), (9, 0, 0, []), (9, 0, 0, []), (0, 0, 8, []), (9, 0, 0, []), (2, 0, 0, [43])],
  [],
  [(0, 0, 6, []), (0, 0, 64, []), (0, 0, 64, []), (0, 0, 8, []), (9, 0, 0, []), (9, 0, 0, []), (0, 0, 8, []), (9, 0, 0, []), (2, 0, 0, [45])],
  [],
  [(0, 0, 6, []), (0, 0, 64, []), (0, 0, 64, []), (0, 0, 8, []), (9, 0, 0, []), (9, 0, 0, []), (0, 0, 8, []), (9, 0, 0, []), (2, 0, 0, [47])],
  [],
  [(0, 0, 6, []), (0, 0, 64, []), (0, 0, 64, []), (0, 0, 8, []), (9, 0, 0, []), (9, 0, 0, []), (0, 0, 8, []), (9, 0, 0, []), (2, 0, 0, [49])],
  [],
  [(0, 0, 6, []), (0, 0, 64, []), (0, 0, 64, []), (0, 0, 8, []), (9, 0, 0, []), (9, 0, 0, []), (0, 0, 8, []), (9, 0, 0, []), (2, 0, 0, [51])],
  [],
  [(0, 0, 6, []), (0, 0, 64, []), (0, 0, 64, []), (0, 0, 8, []), (9, 0, 0, []), (9, 0, 0, []), (0, 0, 8, []), (9, 0, 0, []), (2, 0, 0, [53])],
  [],
  [(0, 0, 6, []), (0, 0, 64, []), (0, 0, 64, []), (0, 0, 8, []), (9, 0, 0, []), (9, 0, 0, []), (0, 0, 8, []), (9, 0, 0, []), (2, 0, 0, [55])],
  [],
  [(0, 0, 6, []), (0, 0, 64, []), (0, 0, 64, []), (0, 0, 8, []), (9, 0, 0, []), (9, 0, 0, []), (0, 0, 8, []), (9, 0, 0, []), (2, 0, 0, [57])],
  [],
  [(0, 0, 6, []), (0, 0, 64, []), (0, 0, 64, []), (0, 0, 8, []), (9, 0, 0, []), (9, 0, 0, []), (0, 0, 8, []), (9, 0, 0, []), (2, 0, 0, [59])],
  [],
  [(0, 0, 6, []), (0, 0, 64, []), (0, 0, 64, []), (0, 0, 8, []), (9, 0, 0, []), (9, 0, 0, []), (0, 0, 8, []), (9, 0, 0, []), (2, 0, 0, [61])],
  [],
  [(0, 0, 6, []), (0, 0, 64, []), (0, 0, 64, []), (0, 0, 8, []), (9, 0, 0, []), (9, 0, 0, []), (0, 0, 8, []), (9, 0, 0, []), (2, 0, 0, [63])],
  [],
  [(0, 0, 6, []), (0, 0, 64, []), (0, 0, 64, []), (0, 0, 8, []), (9, 0, 0, []), (9, 0, 0, []), (0, 0, 8, []), (9, 0, 0, []), (2, 0, 0, [65])],
  [],
  [(0, 0, 6, []), (0, 0, 64, []), (0, 0, 64, []), (0, 0, 8, []), (9, 0, 0, []), (9, 0, 0, []), (0, 0, 8, []), (9, 0, 0, []), (2, 0, 0, [67])],
  [],
  [(0, 0, 6, []), (0, 0, 64, []), (0, 0, 64, []), (0, 0, 8, []), (9, 0, 0, []), (9, 0, 0, []), (0, 0, 8, []), (9, 0, 0, []), (2, 0, 0, [69])],
  [],
  [(2, 0, 0, [71]), (0, 0, 200, []), (9, 0, 0, []), (9, 0, 0, []), (2, 0, 0, [72]), (2, 0, 0, [73]), (9, 0, 0, []), (9, 0, 0, []), (9, 0, 0, []), (9, 0, 0, []), (9, 0, 0, []), (9, 0, 0, []), (9, 0, 0, []), (9, 0, 0, []), (0, 0, 64, []), (0, 0, 6, []), (0, 0, 64, []), (0, 0, 8, []), (9, 0, 0, []), (9, 0, 0, []), (0, 0, 8, []), (9, 0, 0, []), (2, 0, 0, [74]), (9, 0, 0, []), (2, 0, 0, [75]), (0, 0, 8, []), (2, 0, 0, [76]), (2, 0, 0, [77]), (2, 0, 0, [78]), (2, 0, 0, [79]), (2, 0, 0, [80]), (2, 0, 0, [81]), (2, 0, 0, [82]), (2, 0, 0, [83]), (2, 0, 0, [84]), (2, 0, 0, [85]), (9, 0, 0, []), (9, 0, 0, []), (9, 0, 0, []), (2, 0, 0, [86]), (9, 0, 0, []), (9, 0, 0, []), (2, 0, 0, [87]), (2, 0, 0, [88]), (2, 0, 0, [89]), (9, 0, 0, []), (9, 0, 0, []), (9, 0, 0, []), (9, 0, 0, []), (2, 0, 0, [90]), (2, 0, 0, [91]), (2, 0, 0, [92]), (2, 0, 0, [93]), (0, 0, 12, [])],
  [],
  [],
  [],
  [],
  [],
  [],
  [],
  [],
  [],
  [],
  [(0, 0, 8, [])],
  [],
  [],
  [],
  [],
  [],
  [],
  [],
  [],
  [],
  [(0, 0, 64, []), (0, 0, 6, []), (0, 0, 64, []), (0, 0, 8, []), (9, 0, 0, []), (9, 0, 0, []), (0, 0, 8, []), (9, 0, 0, []), (9, 0, 0, []), (9, 0, 0, []), (9, 0, 0, []), (9, 0, 0, []), (9, 0, 0, []), (9, 0, 0, []), (9, 0, 0, []), (9, 0, 0, []), (9, 0, 0, []), (9, 0, 0, []), (9, 0, 0, []), (9, 0, 0, []), (9, 0, 0, []), (9, 0, 0, []), (9, 0, 0, []), (9, 0, 0, []), (9, 0, 0, []), (9, 0, 0, []), (9, 0, 0, []), (9, 0, 0, []), (9, 0, 0, []), (9, 0, 0, []), (9, 0, 0, []), (9, 0, 0, []), (9, 0, 0, []), (9, 0, 0, []), (9, 0, 0, []), (9, 0, 0, []), (9, 0, 0, []), (9, 0, 0, []), (9, 0, 0, []), (9, 0, 0, []), (9, 0, 0, []), (9, 0, 0, []), (9, 0, 0, []), (9, 0, 0, []), (9, 0, 0, []), (9, 0, 0, []), (9, 0, 0, []), (9, 0, 0, []), (9, 0, 0, []), (9, 0, 0, []), (9, 0, 0, []), (9, 0, 0, []), (9, 0, 0, []), (9, 0, 0, []), (9, 0, 0, []), (9, 0, 0, []), (9, 0, 0, []), (9, 0, 0, []), (9, 0, 0, []), (9, 0, 0, []), (9, 0, 0, []), (9, 0, 0, []), (9, 0, 0, []), (9, 0, 0, []), (9, 0, 0, []), (9, 0, 0, []), (9, 0, 0, []), (9, 0, 0, []), (9, 0, 0, []), (9, 0, 0, []), (9, 0, 0, []), (9, 0, 0, [])],
  [],
  []]
abbrev za : AV := (0, -2147483648, 2147483647, [], 0, 0, 0)
abbrev zi (lo hi : Int) : AV := (0, lo, hi, [], 0, 0, 0)
abbrev zt (lo hi : Int) (t a b : Nat) : AV := (0, lo, hi, [], t, a, b)
abbrev zl : AV := (1, 0, 0, [], 0, 0, 0)
abbrev zu : AV := (9, 0, 0, [], 0, 0, 0)
abbrev zr (ps : List Nat) : AV := (2, 0, 0, ps, 0, 0, 0)
abbrev zx (ps : List Nat) : AV := (3, 0, 0, ps, 0, 0, 0)
theorem iv_spl {T : List PmM} {HD : HDt} {S : List (Nat × Nat)} {I I1 I2 : Inst} {i : Nat} {lo c hi : Int} (h1 : iv T HD S I1) (h2 : iv T HD S I2) (y1 : in_y I1 = in_y I) (y2 : in_y I2 = in_y I) (o1 : in_o I1 = []) (o2 : in_o I2 = []) (a0 : (in_a I)[i]? = some (0, lo, hi, [], 0, 0, 0)) (a1 : in_a I1 = (in_a I).set i (0, lo, c, [], 0, 0, 0)) (a2 : in_a I2 = (in_a I).set i (0, c + 1, hi, [], 0, 0, 0)) (w1 : subW (in_w I1) (in_w I) = true) (w2 : subW (in_w I2) (in_w I) = true) (p0 : in_p I = (in_p I1).map (fun P => (P.1, P.2.1, (i, lo, c) :: P.2.2)) ++ (in_p I2).map (fun P => (P.1, P.2.1, (i, c + 1, hi) :: P.2.2))) : iv T HD S I := by
  intro as h hg ho hI
  have hat : ((in_a I).map nt)[i]? = some (0, lo, hi, [], 0, 0, 0) := by
    rw [List.getElem?_map, a0]
    rfl
  obtain ⟨v, v1, v2⟩ := gst_at (hg [] h) hat
  obtain ⟨x, rfl, x1, x2, -⟩ := gv_k0 rfl v2
  have x1 : lo ≤ x.toInt := x1
  have x2 : x.toInt ≤ hi := x2
  by_cases hx : x.toInt ≤ c
  · have hg1 : ∀ (lv : PmL) (h' : PmH), gst lv h' ((in_a I1).map nt) as := by
      intro lv h'
      rw [a1, List.map_set]
      exact gst_set (hg lv h') v1 ⟨x, rfl, x1, hx, trivial⟩
    obtain ⟨v, h', e1, ⟨P, P1, P2, P3, P4⟩, e3, e4⟩ := h1 as h hg1 (by rw [o1]; exact fun q hq => absurd hq List.not_mem_nil) hI
    rw [y1] at e1
    refine ⟨v, h', e1, ⟨(P.1, P.2.1, (i, lo, c) :: P.2.2), by rw [p0]; exact List.mem_append_left _ (List.mem_map.mpr ⟨P, P1, rfl⟩), P2, P3, ?_⟩, e3, fram.up w1 e4⟩
    intro q hq
    rcases List.mem_cons.mp hq with rfl | hq
    · exact ⟨x, Or.inl v1, x1, hx⟩
    · exact P4 q hq
  · have hx2 : c + 1 ≤ x.toInt := by omega
    have hg1 : ∀ (lv : PmL) (h' : PmH), gst lv h' ((in_a I2).map nt) as := by
      intro lv h'
      rw [a2, List.map_set]
      exact gst_set (hg lv h') v1 ⟨x, rfl, hx2, x2, trivial⟩
    obtain ⟨v, h', e1, ⟨P, P1, P2, P3, P4⟩, e3, e4⟩ := h2 as h hg1 (by rw [o2]; exact fun q hq => absurd hq List.not_mem_nil) hI
    rw [y2] at e1
    refine ⟨v, h', e1, ⟨(P.1, P.2.1, (i, c + 1, hi) :: P.2.2), by rw [p0]; exact List.mem_append_right _ (List.mem_map.mpr ⟨P, P1, rfl⟩), P2, P3, ?_⟩, e3, fram.up w2 e4⟩
    intro q hq
    rcases List.mem_cons.mp hq with rfl | hq
    · exact ⟨x, Or.inl v1, hx2, x2⟩
    · exact P4 q hq
theorem Ev.of {T : List PmM} {y ml : Nat} {as : List Value} {es : List PmI} {lv : PmL} {h h' : PmH} {v : Option Value} (h1 : pm_cd T y = es) (h2 : pm_ml T y = ml) (h3 : pm_en ml as = lv) (k : Go T none es 0 lv [] h (v, h')) : Ev T y as h v h' := by
  unfold Ev
  rw [h1, h2, h3]
  exact k
theorem isin1 {vv lo hi : Int64} {h : PmH} (hn : lo ≤ vv ∧ vv ≤ hi) : Ev pmT 148 [.long vv, .long lo, .long hi] h (some (.int 1)) h := by
  refine Ev.of (es := cd_148) (ml := 6) (lv := [some (.long vv), none, some (.long lo), none, some (.long hi), none]) rfl rfl rfl ?_
  refine g_n 3 (j' := 3) (lv' := [some (.long vv), none, some (.long lo), none, some (.long hi), none]) (st' := [.int (lg_cmp vv lo)]) (h' := h) rfl ?_
  refine g_iff rfl (fun hc => ?_) ?_
  · replace hc : lg_cmp vv lo < 0 := hc
    rw [lg_cmp_lt] at hc
    exact Int64.not_lt.mpr hn.1 hc
  · refine g_n 3 (j' := 7) (lv' := [some (.long vv), none, some (.long lo), none, some (.long hi), none]) (st' := [.int (lg_cmp vv hi)]) (h' := h) rfl ?_
    refine g_iff rfl (fun hd => ?_) ?_
    · replace hd : 0 < lg_cmp vv hi := hd
      rw [lg_cmp_gt] at hd
      exact Int64.not_lt.mpr hn.2 hd
    · refine g_n 2 (j' := 11) (lv' := [some (.long vv), none, some (.long lo), none, some (.long hi), none]) (st' := [.int 1]) (h' := h) rfl ?_
      exact g_retz rfl (by decide)
theorem isin0 {vv lo hi : Int64} {h : PmH} (hn : ¬ (lo ≤ vv ∧ vv ≤ hi)) : Ev pmT 148 [.long vv, .long lo, .long hi] h (some (.int 0)) h := by
  refine Ev.of (es := cd_148) (ml := 6) (lv := [some (.long vv), none, some (.long lo), none, some (.long hi), none]) rfl rfl rfl ?_
  refine g_n 3 (j' := 3) (lv' := [some (.long vv), none, some (.long lo), none, some (.long hi), none]) (st' := [.int (lg_cmp vv lo)]) (h' := h) rfl ?_
  refine g_if rfl (fun hc => ?_) (fun hc => ?_)
  · refine g_n 1 (j' := 11) (lv' := [some (.long vv), none, some (.long lo), none, some (.long hi), none]) (st' := [.int 0]) (h' := h) rfl ?_
    exact g_retz rfl (by decide)
  · replace hc : ¬ (lg_cmp vv lo < 0) := hc
    refine g_n 3 (j' := 7) (lv' := [some (.long vv), none, some (.long lo), none, some (.long hi), none]) (st' := [.int (lg_cmp vv hi)]) (h' := h) rfl ?_
    refine g_if rfl (fun hd => ?_) (fun hd => ?_)
    · refine g_n 1 (j' := 11) (lv' := [some (.long vv), none, some (.long lo), none, some (.long hi), none]) (st' := [.int 0]) (h' := h) rfl ?_
      exact g_retz rfl (by decide)
    · replace hd : ¬ (0 < lg_cmp vv hi) := hd
      rw [lg_cmp_lt] at hc
      rw [lg_cmp_gt] at hd
      exact absurd ⟨Int64.not_lt.mp hc, Int64.not_lt.mp hd⟩ hn
def iM_isin (a b c d : Int) : Inst := (148, [(5, -2147483648, 2147483647, [], 0, 0, 0), (5, a, b, [], 0, 0, 0), (5, c, d, [], 0, 0, 0)], [], [(some (0, 1, 1, [], 0, 0, 0), [], [(0, a, d)]), (some (0, 0, 0, [], 0, 0, 0), [], [])], [])
theorem i64_le {x y : Int32} : x.toInt64 ≤ y.toInt64 ↔ x.toInt ≤ y.toInt := by
  rw [Int64.le_iff_toInt_le, Int32.toInt_toInt64, Int32.toInt_toInt64]
theorem gst_z {lv : PmL} {h : PmH} {st : List Value} (g : gst lv h [] st) : st = [] := by
  cases st with
  | nil => rfl
  | cons _ _ => exact g.elim
theorem vM_isin (a b c d : Int) : iv pmT hdT shT (iM_isin a b c d) := by
  intro as h hg ho hI
  obtain ⟨v1, s1, rfl, g1, g⟩ := gst_c (hg [] h)
  obtain ⟨v2, s2, rfl, g2, g⟩ := gst_c g
  obtain ⟨v3, s3, rfl, g3, g⟩ := gst_c g
  have := gst_z g
  subst this
  obtain ⟨x, rfl, -⟩ := gv_k5 rfl g1
  obtain ⟨y, rfl, y1, -⟩ := gv_k5 rfl g2
  obtain ⟨z, rfl, -, z2, -⟩ := gv_k5 rfl g3
  have y1 : a ≤ y.toInt := y1
  have z2 : z.toInt ≤ d := z2
  by_cases hn : y.toInt64 ≤ x.toInt64 ∧ x.toInt64 ≤ z.toInt64
  · refine ⟨some (.int 1), h, isin1 hn, ⟨(some (0, 1, 1, [], 0, 0, 0), [], [(0, a, d)]), List.mem_cons_self, ⟨_, rfl, fun _ _ => ⟨1, rfl, by decide, by decide, trivial⟩⟩, fun q hq => absurd hq List.not_mem_nil, ?_⟩, hI, fram.rf _ _⟩
    intro q hq
    rw [List.mem_singleton.mp hq]
    rw [i64_le, i64_le] at hn
    exact ⟨x, Or.inr rfl, Int.le_trans y1 hn.1, Int.le_trans hn.2 z2⟩
  · exact ⟨some (.int 0), h, isin0 hn, ⟨(some (0, 0, 0, [], 0, 0, 0), [], []), List.mem_cons_of_mem _ List.mem_cons_self, ⟨_, rfl, fun _ _ => ⟨0, rfl, by decide, by decide, trivial⟩⟩, fun q hq => absurd hq List.not_mem_nil, fun q hq => absurd hq List.not_mem_nil⟩, hI, fram.rf _ _⟩
/-! trailing zeros -/
def us_ (x y : Int32) : Int32 := (x.toUInt32 >>> (y.toUInt32 &&& Int32.toUInt32 31)).toInt32
def nz0 (n y : Int32) : Int32 := n + us_ y 1
def nz1 (n y : Int32) : Int32 := if y ≤ 4 then nz0 n y else nz0 (n + 2) (us_ y 2)
def nz2 (n y : Int32) : Int32 := if y ≤ 16 then nz1 n y else nz1 (n + 4) (us_ y 4)
def nz3 (n y : Int32) : Int32 := if y ≤ 256 then nz2 n y else nz2 (n + 8) (us_ y 8)
def nz4 (n y : Int32) : Int32 := if y ≤ 65536 then nz3 n y else nz3 (n + 16) (us_ y 16)
def nzf (x : Int32) : Int32 := if 0 < ((x ^^^ -1) &&& (x - 1)) then nz4 1 ((x ^^^ -1) &&& (x - 1)) else ((x ^^^ -1) &&& (x - 1)) &&& 32
section NZ
variable {n y x : Int32} {h : PmH}
theorem nz0_go : Go pmT none cd_86 48 [some (.int y), some (.int n)] [] h (some (.int (nz0 n y)), h) := by
  refine g_n 5 (j' := 53) (lv' := [some (.int y), some (.int n)]) (st' := [.int (n + us_ y 1)]) (h' := h) rfl ?_
  exact g_ret rfl
theorem nz1_go : Go pmT none cd_86 40 [some (.int y), some (.int n)] [] h (some (.int (nz1 n y)), h) := by
  refine g_n 2 (j' := 42) (lv' := [some (.int y), some (.int n)]) (st' := [.int 4, .int y]) (h' := h) rfl ?_
  unfold nz1
  refine g_ic rfl (fun hc => ?_) (fun hc => ?_)
  · replace hc : y ≤ 4 := hc
    rw [if_pos hc]
    exact nz0_go
  · replace hc : ¬ y ≤ 4 := hc
    rw [if_neg hc]
    refine g_n 5 (j' := 48) (lv' := [some (.int (us_ y 2)), some (.int (n + 2))]) (st' := []) (h' := h) rfl ?_
    exact nz0_go
theorem nz2_go : Go pmT none cd_86 32 [some (.int y), some (.int n)] [] h (some (.int (nz2 n y)), h) := by
  refine g_n 2 (j' := 34) (lv' := [some (.int y), some (.int n)]) (st' := [.int 16, .int y]) (h' := h) rfl ?_
  unfold nz2
  refine g_ic rfl (fun hc => ?_) (fun hc => ?_)
  · replace hc : y ≤ 16 := hc
    rw [if_pos hc]
    exact nz1_go
  · replace hc : ¬ y ≤ 16 := hc
    rw [if_neg hc]
    refine g_n 5 (j' := 40) (lv' := [some (.int (us_ y 4)), some (.int (n + 4))]) (st' := []) (h' := h) rfl ?_
    exact nz1_go
theorem nz3_go : Go pmT none cd_86 24 [some (.int y), some (.int n)] [] h (some (.int (nz3 n y)), h) := by
  refine g_n 2 (j' := 26) (lv' := [some (.int y), some (.int n)]) (st' := [.int 256, .int y]) (h' := h) rfl ?_
  unfold nz3
  refine g_ic rfl (fun hc => ?_) (fun hc => ?_)
  · replace hc : y ≤ 256 := hc
    rw [if_pos hc]
    exact nz2_go
  · replace hc : ¬ y ≤ 256 := hc
    rw [if_neg hc]
    refine g_n 5 (j' := 32) (lv' := [some (.int (us_ y 8)), some (.int (n + 8))]) (st' := []) (h' := h) rfl ?_
    exact nz2_go
theorem nz4_go : Go pmT none cd_86 16 [some (.int y), some (.int n)] [] h (some (.int (nz4 n y)), h) := by
  refine g_n 2 (j' := 18) (lv' := [some (.int y), some (.int n)]) (st' := [.int 65536, .int y]) (h' := h) rfl ?_
  unfold nz4
  refine g_ic rfl (fun hc => ?_) (fun hc => ?_)
  · replace hc : y ≤ 65536 := hc
    rw [if_pos hc]
    exact nz3_go
  · replace hc : ¬ y ≤ 65536 := hc
    rw [if_neg hc]
    refine g_n 5 (j' := 24) (lv' := [some (.int (us_ y 16)), some (.int (n + 16))]) (st' := []) (h' := h) rfl ?_
    exact nz3_go
theorem nzf_ev : Ev pmT 86 [.int x] h (some (.int (nzf x))) h := by
  refine Ev.of (es := cd_86) (ml := 2) (lv := [some (.int x), none]) rfl rfl rfl ?_
  refine g_n 9 (j' := 9) (lv' := [some (.int ((x ^^^ -1) &&& (x - 1))), none]) (st' := [.int ((x ^^^ -1) &&& (x - 1))]) (h' := h) rfl ?_
  unfold nzf
  refine g_if rfl (fun hc => ?_) (fun hc => ?_)
  · replace hc : 0 < ((x ^^^ -1) &&& (x - 1)) := hc
    rw [if_pos hc]
    refine g_n 2 (j' := 16) (lv' := [some (.int ((x ^^^ -1) &&& (x - 1))), some (.int 1)]) (st' := []) (h' := h) rfl ?_
    exact nz4_go
  · replace hc : ¬ 0 < ((x ^^^ -1) &&& (x - 1)) := hc
    rw [if_neg hc]
    refine g_n 3 (j' := 13) (lv' := [some (.int ((x ^^^ -1) &&& (x - 1))), none]) (st' := [.int (((x ^^^ -1) &&& (x - 1)) &&& 32)]) (h' := h) rfl ?_
    exact g_ret rfl
end NZ
def nz_ck (m : Int) (k : Nat) : Bool := decide (0 ≤ (nzf (Int32.ofInt ((k : Int) + 1))).toInt) && decide ((nzf (Int32.ofInt ((k : Int) + 1))).toInt ≤ m)
theorem nz_ck6 : (List.range 63).all (nz_ck 5) = true := by decide +kernel
theorem nz_ck12 : (List.range 4095).all (nz_ck 11) = true := by decide +kernel
theorem nz_bd {N : Nat} {m : Int} (hck : (List.range N).all (nz_ck m) = true) {x : Int32} (h1 : 1 ≤ x.toInt) (h2 : x.toInt ≤ (N : Int)) : 0 ≤ (nzf x).toInt ∧ (nzf x).toInt ≤ m := by
  have hk := List.all_eq_true.mp hck (x.toInt.toNat - 1) (List.mem_range.mpr (by omega))
  have e1 : ((x.toInt.toNat - 1 : Nat) : Int) + 1 = x.toInt := by omega
  unfold nz_ck at hk
  rw [e1, Int32.ofInt_toInt] at hk
  simp only [Bool.and_eq_true, decide_eq_true_eq] at hk
  exact hk
def iM_ntz6 : Inst := (86, [(zi 1 63)], [], [(some (zi 0 5), [], [])], [])
def iM_ntz12 : Inst := (86, [(zi 1 4095)], [], [(some (zi 0 11), [], [])], [])
theorem vM_ntz6 : iv pmT hdT shT iM_ntz6 := by
  intro as h hg ho hI
  obtain ⟨v1, s1, rfl, g1, g⟩ := gst_c (hg [] h)
  have := gst_z g
  subst this
  obtain ⟨x, rfl, x1, x2, -⟩ := gv_k0 rfl g1
  obtain ⟨b1, b2⟩ := nz_bd nz_ck6 (x := x) x1 x2
  exact ⟨some (.int (nzf x)), h, nzf_ev, ⟨(some (zi 0 5), [], []), List.mem_cons_self, ⟨_, rfl, fun _ _ => ⟨_, rfl, b1, b2, trivial⟩⟩, fun q hq => absurd hq List.not_mem_nil, fun q hq => absurd hq List.not_mem_nil⟩, hI, fram.rf _ _⟩
theorem vM_ntz12 : iv pmT hdT shT iM_ntz12 := by
  intro as h hg ho hI
  obtain ⟨v1, s1, rfl, g1, g⟩ := gst_c (hg [] h)
  have := gst_z g
  subst this
  obtain ⟨x, rfl, x1, x2, -⟩ := gv_k0 rfl g1
  obtain ⟨b1, b2⟩ := nz_bd nz_ck12 (x := x) x1 x2
  exact ⟨some (.int (nzf x)), h, nzf_ev, ⟨(some (zi 0 11), [], []), List.mem_cons_self, ⟨_, rfl, fun _ _ => ⟨_, rfl, b1, b2, trivial⟩⟩, fun q hq => absurd hq List.not_mem_nil, fun q hq => absurd hq List.not_mem_nil⟩, hI, fram.rf _ _⟩
