section PMA
variable {p : Program} {l : Launch} {e : Env} {R : Room} {s : State} {m : MethodId} {args : Array Value} {below : List Frame} {meth : Method} {c : Code} {Q : State → Prop} {T : List PmM} {M : PmM} {b : Nat} {x : Nat → Value} {ta : Nat → ClassId} {D : va_G} {xs : PmX} {h0 : PmH} {j j' : Nat} {lv lv' : PmL} {st st' : List Value} {h h' : PmH} {en : PmI}
theorem pm_s_iaload (C : pm_C p R s m args meth c T M b x ta D xs h0) (he : (mm_cd M)[j]? = some en) (hx : pm_x xs en j lv st h = some (.inl (j', lv', st', h'))) (k : pm_G p l e R s m args below meth c Q M b x ta D h0 j' lv' st' h') (hi : pi_i en = .iaload) : pm_G p l e R s m args below meth c Q M b x ta D h0 j lv st h := by
  obtain ⟨hx1, hb, hml, hown, hts, hK, hsz, hfr, hlo, hnm, hxr, hcM, hT⟩ := C
  have hck := pck_at hcM he (pm_x_live hx)
  have hd := pck_d1 hck (i := .iaload) hi rfl rfl
  have hnx := pck_nx hck (i := .iaload) hi rfl rfl rfl
  have hpc := pm_pc_at he
  unfold pm_x at hx
  rw [hi] at hx
  simp only [pm_iald, pm_nx] at hx
  split at hx
  · rename_i i q r
    split at hx
    · rename_i n hsh
      split at hx
      · cases hx
      · rename_i hq
        cases hx
        intro H locs ls hP hS hl
        have kk := k H locs ls hP hS hl
        rw [hnx] at kk
        rw [hpc]
        exact va_iald hx1 hb hK.1 hP q 0 (pm_w_to hsh rfl) rfl hq hd kk
    · cases hx
  · rename_i i q r
    split at hx
    · rename_i h9
      subst h9
      split at hx
      · rename_i nn ff
        split at hx
        · cases hx
        · rename_i hq
          cases hx
          obtain ⟨t, z1, z2, z3, z4⟩ := hK.2.2.2.2.2.1 _ rfl
          intro H locs ls hP hS hl
          have kk := k H locs ls hP hS hl
          rw [hnx] at kk
          rw [hpc, List.map_cons, List.map_cons, show pm_v b x (.retAddr 41) = x 41 from rfl, z1]
          exact va_sld hx1 hb z2 z4 (Nat.not_le.mpr z3) hS hq hd kk
      · cases hx
    · cases hx
  · cases hx
theorem pm_s_baload (C : pm_C p R s m args meth c T M b x ta D xs h0) (he : (mm_cd M)[j]? = some en) (hx : pm_x xs en j lv st h = some (.inl (j', lv', st', h'))) (k : pm_G p l e R s m args below meth c Q M b x ta D h0 j' lv' st' h') (hi : pi_i en = .baload) : pm_G p l e R s m args below meth c Q M b x ta D h0 j lv st h := by
  obtain ⟨hx1, hb, hml, hown, hts, hK, hsz, hfr, hlo, hnm, hxr, hcM, hT⟩ := C
  have hck := pck_at hcM he (pm_x_live hx)
  have hd := pck_d1 hck (i := .baload) hi rfl rfl
  have hnx := pck_nx hck (i := .baload) hi rfl rfl rfl
  have hpc := pm_pc_at he
  unfold pm_x at hx
  rw [hi] at hx
  simp only [pm_bald, pm_nx] at hx
  split at hx
  · rename_i i q r
    split at hx
    · rename_i n hsh
      split at hx
      · cases hx
      · rename_i hq
        cases hx
        intro H locs ls hP hS hl
        have kk := k H locs ls hP hS hl
        rw [hnx] at kk
        rw [hpc]
        exact va_zald hx1 hb hK.1 hP q 1 (pm_w_to hsh rfl) rfl hq hd kk
    · rename_i n hsh
      split at hx
      · cases hx
      · rename_i hq
        cases hx
        intro H locs ls hP hS hl
        have kk := k H locs ls hP hS hl
        rw [hnx] at kk
        rw [hpc]
        exact va_bald hx1 hb hK.1 hP q 2 (pm_w_to hsh rfl) rfl hq hd kk
    · cases hx
  · rename_i i q r
    split at hx
    · rename_i h9
      split at hx
      · cases hx
      · rename_i hq
        cases hx
        obtain ⟨⟨adK, adV, e1, e2⟩, -⟩ := hK.2.2.2
        have hlt : q - 16 < 6 := by omega
        obtain ⟨z1, z2, -⟩ := e2 (q - 16) hlt
        rw [show 16 + (q - 16) = q by omega] at z2
        intro H locs ls hP hS hl
        have kk := k H locs ls hP hS hl
        rw [hnx] at kk
        rw [hpc, List.map_cons, List.map_cons, show pm_v b x (.retAddr q) = x q from rfl, z2]
        exact va_tb hx1 hb (e1.1 (q - 16) hlt).2.2.2 hS hq rfl hd kk
    · cases hx
  · cases hx
theorem pm_s_laload (C : pm_C p R s m args meth c T M b x ta D xs h0) (he : (mm_cd M)[j]? = some en) (hx : pm_x xs en j lv st h = some (.inl (j', lv', st', h'))) (k : pm_G p l e R s m args below meth c Q M b x ta D h0 j' lv' st' h') (hi : pi_i en = .laload) : pm_G p l e R s m args below meth c Q M b x ta D h0 j lv st h := by
  obtain ⟨hx1, hb, hml, hown, hts, hK, hsz, hfr, hlo, hnm, hxr, hcM, hT⟩ := C
  have hck := pck_at hcM he (pm_x_live hx)
  have hd := pck_d1 hck (i := .laload) hi rfl rfl
  have hnx := pck_nx hck (i := .laload) hi rfl rfl rfl
  have hpc := pm_pc_at he
  unfold pm_x at hx
  rw [hi] at hx
  simp only [pm_lald, pm_nx] at hx
  split at hx
  · rename_i i q r
    split at hx
    · rename_i n hsh
      split at hx
      · cases hx
      · rename_i hq
        cases hx
        intro H locs ls hP hS hl
        have kk := k H locs ls hP hS hl
        rw [hnx] at kk
        rw [hpc]
        exact va_lald hx1 hb hK.1 hP q 3 (pm_w_to hsh rfl) rfl hq hd kk
    · cases hx
  · rename_i i q r
    split at hx
    · rename_i h9
      subst h9
      split at hx
      · cases hx
      · rename_i hq
        cases hx
        obtain ⟨-, ⟨t, z1, z2, -⟩, -⟩ := hK.2.2.2
        intro H locs ls hP hS hl
        have kk := k H locs ls hP hS hl
        rw [hnx] at kk
        rw [hpc, List.map_cons, List.map_cons, show pm_v b x (.retAddr 40) = x 40 from rfl, z1]
        exact va_tl hx1 hb z2 hS hq rfl hd kk
    · cases hx
  · cases hx
theorem pm_s_aaload (C : pm_C p R s m args meth c T M b x ta D xs h0) (he : (mm_cd M)[j]? = some en) (hx : pm_x xs en j lv st h = some (.inl (j', lv', st', h'))) (k : pm_G p l e R s m args below meth c Q M b x ta D h0 j' lv' st' h') (hi : pi_i en = .aaload) : pm_G p l e R s m args below meth c Q M b x ta D h0 j lv st h := by
  obtain ⟨hx1, hb, hml, hown, hts, hK, hsz, hfr, hlo, hnm, hxr, hcM, hT⟩ := C
  have hck := pck_at hcM he (pm_x_live hx)
  have hd := pck_d1 hck (i := .aaload) hi rfl rfl
  have hnx := pck_nx hck (i := .aaload) hi rfl rfl rfl
  have hpc := pm_pc_at he
  unfold pm_x at hx
  rw [hi] at hx
  simp only [pm_aald, pm_nx] at hx
  split at hx
  · rename_i i q r
    split at hx
    · rename_i n hsh
      split at hx
      · cases hx
      · rename_i hq
        cases hx
        intro H locs ls hP hS hl
        have kk := k H locs ls hP hS hl
        rw [hnx] at kk
        rw [hpc]
        rw [List.map_cons, pm_v_rv] at kk
        exact va_aldq hx1 hb hK.1 hP q 4 (pm_w_to hsh rfl) rfl hq hd kk
    · cases hx
  · cases hx
theorem pm_s_iastore (C : pm_C p R s m args meth c T M b x ta D xs h0) (he : (mm_cd M)[j]? = some en) (hx : pm_x xs en j lv st h = some (.inl (j', lv', st', h'))) (k : pm_G p l e R s m args below meth c Q M b x ta D h0 j' lv' st' h') (hi : pi_i en = .iastore) : pm_G p l e R s m args below meth c Q M b x ta D h0 j lv st h := by
  obtain ⟨hx1, hb, hml, hown, hts, hK, hsz, hfr, hlo, hnm, hxr, hcM, hT⟩ := C
  have hck := pck_at hcM he (pm_x_live hx)
  have hd := pck_d1 hck (i := .iastore) hi rfl rfl
  have hnx := pck_nx hck (i := .iastore) hi rfl rfl rfl
  have hpc := pm_pc_at he
  unfold pm_x at hx
  rw [hi] at hx
  simp only [pm_iast, pm_nx] at hx
  split at hx
  · rename_i v i q r
    split at hx
    · rename_i n hsh
      split at hx
      · cases hx
      · rename_i hq
        cases hx
        intro H locs ls hP hS hl
        rw [hpc]
        refine va_iast hx1 hb hK.1 hP (pm_D b x ta h) hS q 0 (pm_w_to hsh rfl) rfl hq hd (fun H1 locs1 hP1 hD1 hS1 => ?_)
        rw [pm_w_set (h := h) (h' := (ph_s h, pm_u2 (ph_i h) q i.toNatClampNeg v, ph_l h, ph_r h)) rfl hsh ?_ (fun p' q' hp => pm_e_i q' (pm_u2_ne hp))] at hP1
        · have kk := k H1 locs1 ls hP1 hS1 hl
          rw [hnx] at kk
          exact kk
        · simp only [pm_e, ph_i, ph_l, pm_u2_eq]
          rfl
    · cases hx
  · cases hx
theorem pm_s_bastore (C : pm_C p R s m args meth c T M b x ta D xs h0) (he : (mm_cd M)[j]? = some en) (hx : pm_x xs en j lv st h = some (.inl (j', lv', st', h'))) (k : pm_G p l e R s m args below meth c Q M b x ta D h0 j' lv' st' h') (hi : pi_i en = .bastore) : pm_G p l e R s m args below meth c Q M b x ta D h0 j lv st h := by
  obtain ⟨hx1, hb, hml, hown, hts, hK, hsz, hfr, hlo, hnm, hxr, hcM, hT⟩ := C
  have hck := pck_at hcM he (pm_x_live hx)
  have hd := pck_d1 hck (i := .bastore) hi rfl rfl
  have hnx := pck_nx hck (i := .bastore) hi rfl rfl rfl
  have hpc := pm_pc_at he
  unfold pm_x at hx
  rw [hi] at hx
  simp only [pm_bast, pm_nx] at hx
  split at hx
  · rename_i v i q r
    split at hx
    · rename_i n hsh
      split at hx
      · cases hx
      · rename_i hq
        cases hx
        intro H locs ls hP hS hl
        rw [hpc]
        refine va_zast hx1 hb hK.1 hP (pm_D b x ta h) hS q 1 (pm_w_to hsh rfl) rfl hq hd (fun H1 locs1 hP1 hD1 hS1 => ?_)
        rw [pm_w_set (h := h) (h' := (ph_s h, pm_u2 (ph_i h) q i.toNatClampNeg (vp_nar .boolean v), ph_l h, ph_r h)) rfl hsh ?_ (fun p' q' hp => pm_e_i q' (pm_u2_ne hp))] at hP1
        · have kk := k H1 locs1 ls hP1 hS1 hl
          rw [hnx] at kk
          exact kk
        · simp only [pm_e, ph_i, ph_l, pm_u2_eq]
          rfl
    · rename_i n hsh
      split at hx
      · cases hx
      · rename_i hq
        cases hx
        intro H locs ls hP hS hl
        rw [hpc]
        refine va_bast hx1 hb hK.1 hP (pm_D b x ta h) hS q 2 (pm_w_to hsh rfl) rfl hq hd (fun H1 locs1 hP1 hD1 hS1 => ?_)
        rw [pm_w_set (h := h) (h' := (ph_s h, pm_u2 (ph_i h) q i.toNatClampNeg (vp_nar .byte v), ph_l h, ph_r h)) rfl hsh ?_ (fun p' q' hp => pm_e_i q' (pm_u2_ne hp))] at hP1
        · have kk := k H1 locs1 ls hP1 hS1 hl
          rw [hnx] at kk
          exact kk
        · simp only [pm_e, ph_i, ph_l, pm_u2_eq]
          rfl
    · cases hx
  · cases hx
theorem pm_s_lastore (C : pm_C p R s m args meth c T M b x ta D xs h0) (he : (mm_cd M)[j]? = some en) (hx : pm_x xs en j lv st h = some (.inl (j', lv', st', h'))) (k : pm_G p l e R s m args below meth c Q M b x ta D h0 j' lv' st' h') (hi : pi_i en = .lastore) : pm_G p l e R s m args below meth c Q M b x ta D h0 j lv st h := by
  obtain ⟨hx1, hb, hml, hown, hts, hK, hsz, hfr, hlo, hnm, hxr, hcM, hT⟩ := C
  have hck := pck_at hcM he (pm_x_live hx)
  have hd := pck_d1 hck (i := .lastore) hi rfl rfl
  have hnx := pck_nx hck (i := .lastore) hi rfl rfl rfl
  have hpc := pm_pc_at he
  unfold pm_x at hx
  rw [hi] at hx
  simp only [pm_last, pm_nx] at hx
  split at hx
  · rename_i v i q r
    split at hx
    · rename_i n hsh
      split at hx
      · cases hx
      · rename_i hq
        cases hx
        intro H locs ls hP hS hl
        rw [hpc]
        refine va_last hx1 hb hK.1 hP (pm_D b x ta h) hS q 3 (pm_w_to hsh rfl) rfl hq hd (fun H1 locs1 hP1 hD1 hS1 => ?_)
        rw [pm_w_set (h := h) (h' := (ph_s h, ph_i h, pm_u2 (ph_l h) q i.toNatClampNeg v, ph_r h)) rfl hsh ?_ (fun p' q' hp => pm_e_l q' (pm_u2_ne hp))] at hP1
        · have kk := k H1 locs1 ls hP1 hS1 hl
          rw [hnx] at kk
          exact kk
        · simp only [pm_e, ph_i, ph_l, pm_u2_eq]
          rfl
    · cases hx
  · cases hx
theorem pm_s_aastore (C : pm_C p R s m args meth c T M b x ta D xs h0) (he : (mm_cd M)[j]? = some en) (hx : pm_x xs en j lv st h = some (.inl (j', lv', st', h'))) (k : pm_G p l e R s m args below meth c Q M b x ta D h0 j' lv' st' h') (hi : pi_i en = .aastore) : pm_G p l e R s m args below meth c Q M b x ta D h0 j lv st h := by
  obtain ⟨hx1, hb, hml, hown, hts, hK, hsz, hfr, hlo, hnm, hxr, hcM, hT⟩ := C
  have hck := pck_at hcM he (pm_x_live hx)
  have hd := pck_d1 hck (i := .aastore) hi rfl rfl
  have hnx := pck_nx hck (i := .aastore) hi rfl rfl rfl
  have hpc := pm_pc_at he
  unfold pm_x at hx
  rw [hi] at hx
  simp only [pm_aast, pm_nx] at hx
  split at hx
  · rename_i v i q r
    split at hx
    · rename_i n n2 hsh hsv
      split at hx
      · cases hx
      · rename_i hq
        cases hx
        intro H locs ls hP hS hl
        rw [hpc]
        refine va_astq hx1 hb hK.1 hP (pm_D b x ta h) hS q 4 v 6 (r := (RX6, TX6, 9)) (pm_w_to hsh rfl) rfl (pm_w_to hsv (pm_e_obj b x ta h v 6 n2)) rfl hq hd (fun H1 locs1 hP1 hD1 hS1 => ?_)
        rw [pm_w_set (h := h) (h' := (ph_s h, ph_i h, ph_l h, pm_u2 (ph_r h) q i.toNatClampNeg (some v))) rfl hsh ?_ (fun p' q' hp => pm_e_r q' (pm_u2_ne hp))] at hP1
        · have kk := k H1 locs1 ls hP1 hS1 hl
          rw [hnx] at kk
          exact kk
        · simp only [pm_e, ph_r, pm_u2_eq]
          congr 7
          funext j
          by_cases hj : j = i.toNatClampNeg
          · simp [va_up, hj, pm_ro]
          · simp [va_up, hj]
    · cases hx
  · cases hx
theorem pm_s_arraylength (C : pm_C p R s m args meth c T M b x ta D xs h0) (he : (mm_cd M)[j]? = some en) (hx : pm_x xs en j lv st h = some (.inl (j', lv', st', h'))) (k : pm_G p l e R s m args below meth c Q M b x ta D h0 j' lv' st' h') (hi : pi_i en = .arraylength) : pm_G p l e R s m args below meth c Q M b x ta D h0 j lv st h := by
  obtain ⟨hx1, hb, hml, hown, hts, hK, hsz, hfr, hlo, hnm, hxr, hcM, hT⟩ := C
  have hck := pck_at hcM he (pm_x_live hx)
  have hd := pck_d1 hck (i := .arraylength) hi rfl rfl
  have hnx := pck_nx hck (i := .arraylength) hi rfl rfl rfl
  have hpc := pm_pc_at he
  unfold pm_x at hx
  rw [hi] at hx
  simp only [pm_len, pm_nx] at hx
  split at hx
  · rename_i q r
    split at hx
    · rename_i t n hsh
      split at hx
      · rename_i ht
        cases hx
        intro H locs ls hP hS hl
        have kk := k H locs ls hP hS hl
        rw [hnx] at kk
        rw [hpc]
        rcases t with _ | _ | _ | _ | _ | t
        · exact va_alen hx1 hb hK.1 hP q 0 (pm_w_to hsh rfl) rfl rfl hd kk
        · exact va_alen hx1 hb hK.1 hP q 1 (pm_w_to hsh rfl) rfl rfl hd kk
        · exact va_alen hx1 hb hK.1 hP q 2 (pm_w_to hsh rfl) rfl rfl hd kk
        · exact va_alen hx1 hb hK.1 hP q 3 (pm_w_to hsh rfl) rfl rfl hd kk
        · exact va_alen hx1 hb hK.1 hP q 4 (pm_w_to hsh rfl) rfl rfl hd kk
        · omega
      · cases hx
    · cases hx
  · rename_i q r
    split at hx
    · rename_i n hn
      cases hx
      unfold pm_xl at hn
      by_cases h41 : q = 41
      · subst h41
        rw [if_pos rfl] at hn
        obtain ⟨qq, hqq, hqn⟩ := Option.map_eq_some_iff.mp hn
        subst hqn
        obtain ⟨t, z1, z2, z3, z4⟩ := hK.2.2.2.2.2.1 _ hqq
        intro H locs ls hP hS hl
        have kk := k H locs ls hP hS hl
        rw [hnx] at kk
        rw [hpc, List.map_cons, show pm_v b x (.retAddr 41) = x 41 from rfl, z1]
        exact va_slen hx1 hb z2 z4 (Nat.not_le.mpr z3) hS hd kk
      · rw [if_neg h41] at hn
        by_cases h9 : 16 ≤ q ∧ q < 22
        · rw [if_pos h9] at hn
          cases hn
          obtain ⟨⟨adK, adV, e1, e2⟩, -⟩ := hK.2.2.2
          have hlt : q - 16 < 6 := by omega
          obtain ⟨z1, z2, -⟩ := e2 (q - 16) hlt
          rw [show 16 + (q - 16) = q by omega] at z2
          intro H locs ls hP hS hl
          have kk := k H locs ls hP hS hl
          rw [hnx] at kk
          rw [hpc, List.map_cons, show pm_v b x (.retAddr q) = x q from rfl, z2]
          exact va_tlen hx1 hb (e1.1 (q - 16) hlt).2.2.2 hS rfl hd kk
        · rw [if_neg h9] at hn
          cases hn
    · cases hx
  · cases hx
theorem pm_s_ldc {i : Nat} (C : pm_C p R s m args meth c T M b x ta D xs h0) (he : (mm_cd M)[j]? = some en) (hx : pm_x xs en j lv st h = some (.inl (j', lv', st', h'))) (k : pm_G p l e R s m args below meth c Q M b x ta D h0 j' lv' st' h') (hi : pi_i en = .ldc i) : pm_G p l e R s m args below meth c Q M b x ta D h0 j lv st h := by
  obtain ⟨hx1, hb, hml, hown, hts, hK, hsz, hfr, hlo, hnm, hxr, hcM, hT⟩ := C
  have hck := pck_at hcM he (pm_x_live hx)
  have hd := pck_d1 hck (i := .ldc i) hi rfl rfl
  have hnx := pck_nx hck (i := .ldc i) hi rfl rfl rfl
  have hpc := pm_pc_at he
  have hc2 := hck
  simp only [pm_ck, hi, Bool.and_eq_true, decide_eq_true_eq] at hc2
  replace hc2 := hc2.2
  unfold pm_x at hx
  rw [hi] at hx
  simp only [pm_nx] at hx
  split at hx
  · rename_i h9
    rw [h9] at hc2
    cases hx
    intro H locs ls hP hS hl
    have kk := k H locs ls hP hS hl
    rw [hnx] at kk
    rw [hpc]
    exact lv_ldc hx1 hb hown (hts _ (pm_has_in hc2)) hd kk
  · rename_i h9
    cases hx
    have hc3 : (mm_nm M).cls = RX1 ∧ pi_a en < 6 ∧ pm_SI.getD (pi_a en) 0 = i := by
      revert hc2
      split
      · rename_i h8
        exact absurd h8 h9
      · intro hc2
        simpa using hc2
    obtain ⟨⟨adK, adV, e1, e2⟩, -⟩ := hK.2.2.2
    obtain ⟨z1, z2, z3⟩ := e2 _ hc3.2.1
    intro H locs ls hP hS hl
    have kk := k H locs ls hP hS hl
    rw [hnx] at kk
    rw [List.map_cons, show pm_v b x (.retAddr (pi_a en)) = x (pi_a en) from rfl, z1] at kk
    rw [hpc]
    rw [hc3.1] at hown
    rw [hc3.2.2] at z3
    exact va_ldcS hx1 hb hown z3 hd kk
theorem pm_s_ldc_w {i : Nat} (C : pm_C p R s m args meth c T M b x ta D xs h0) (he : (mm_cd M)[j]? = some en) (hx : pm_x xs en j lv st h = some (.inl (j', lv', st', h'))) (k : pm_G p l e R s m args below meth c Q M b x ta D h0 j' lv' st' h') (hi : pi_i en = .ldc_w i) : pm_G p l e R s m args below meth c Q M b x ta D h0 j lv st h := by
  obtain ⟨hx1, hb, hml, hown, hts, hK, hsz, hfr, hlo, hnm, hxr, hcM, hT⟩ := C
  have hck := pck_at hcM he (pm_x_live hx)
  have hd := pck_d1 hck (i := .ldc_w i) hi rfl rfl
  have hnx := pck_nx hck (i := .ldc_w i) hi rfl rfl rfl
  have hpc := pm_pc_at he
  have hc2 := hck
  simp only [pm_ck, hi, Bool.and_eq_true, decide_eq_true_eq] at hc2
  replace hc2 := hc2.2
  unfold pm_x at hx
  rw [hi] at hx
  simp only [pm_nx] at hx
  cases hx
  intro H locs ls hP hS hl
  have kk := k H locs ls hP hS hl
  rw [hnx] at kk
  rw [hpc]
  exact lv_ldcw hx1 hb hown (hts _ (pm_has_in hc2)) hd kk
theorem pm_s_ldc2_w {i : Nat} (C : pm_C p R s m args meth c T M b x ta D xs h0) (he : (mm_cd M)[j]? = some en) (hx : pm_x xs en j lv st h = some (.inl (j', lv', st', h'))) (k : pm_G p l e R s m args below meth c Q M b x ta D h0 j' lv' st' h') (hi : pi_i en = .ldc2_w i) : pm_G p l e R s m args below meth c Q M b x ta D h0 j lv st h := by
  obtain ⟨hx1, hb, hml, hown, hts, hK, hsz, hfr, hlo, hnm, hxr, hcM, hT⟩ := C
  have hck := pck_at hcM he (pm_x_live hx)
  have hd := pck_d1 hck (i := .ldc2_w i) hi rfl rfl
  have hnx := pck_nx hck (i := .ldc2_w i) hi rfl rfl rfl
  have hpc := pm_pc_at he
  have hc2 := hck
  simp only [pm_ck, hi, Bool.and_eq_true, decide_eq_true_eq] at hc2
  replace hc2 := hc2.2
  unfold pm_x at hx
  rw [hi] at hx
  simp only [pm_nx] at hx
  cases hx
  intro H locs ls hP hS hl
  have kk := k H locs ls hP hS hl
  rw [hnx] at kk
  rw [hpc]
  exact lv_ldc2 hx1 hb hown (hts _ (pm_has_in hc2)) hd kk
theorem pm_s_getstatic {i : Nat} (C : pm_C p R s m args meth c T M b x ta D xs h0) (he : (mm_cd M)[j]? = some en) (hx : pm_x xs en j lv st h = some (.inl (j', lv', st', h'))) (k : pm_G p l e R s m args below meth c Q M b x ta D h0 j' lv' st' h') (hi : pi_i en = .getstatic i) : pm_G p l e R s m args below meth c Q M b x ta D h0 j lv st h := by
  obtain ⟨hx1, hb, hml, hown, hts, hK, hsz, hfr, hlo, hnm, hxr, hcM, hT⟩ := C
  have hck := pck_at hcM he (pm_x_live hx)
  have hd := pck_d1 hck (i := .getstatic i) hi rfl rfl
  have hnx := pck_nx hck (i := .getstatic i) hi rfl rfl rfl
  have hpc := pm_pc_at he
  have hc2 := hck
  simp only [pm_ck, hi, Bool.and_eq_true, decide_eq_true_eq] at hc2
  replace hc2 := hc2.2
  unfold pm_x at hx
  rw [hi] at hx
  obtain ⟨-, ⟨t, z1, z2, z3⟩, -, z4, z5⟩ := hK.2.2.2
  simp only [pm_gs, pm_nx] at hx
  split at hx
  · rename_i h9
    rw [h9] at hc2
    simp only [Bool.and_eq_true, decide_eq_true_eq] at hc2
    cases hx
    intro H locs ls hP hS hl
    have kk := k H locs ls hP hS hl
    rw [hnx, hc2.1] at kk
    rw [hpc]
    exact va_gets hx1 hb z4 hS hown (hts _ (pm_has_in hc2.2)) (fun _ h9 => h9) hd kk
  · rename_i h9
    cases hx
    intro H locs ls hP hS hl
    have kk := k H locs ls hP hS hl
    rw [hnx] at kk
    rw [List.map_cons, show pm_v b x (.retAddr (pi_a en)) = x (pi_a en) from rfl] at kk
    rw [hpc]
    revert hc2
    split
    · rename_i h8
      exact absurd h8 h9
    · intro hc2
      simp only [Bool.and_eq_true, decide_eq_true_eq] at hc2
      rw [hc2.1, z1] at kk
      exact va_gets hx1 hb z3 hS hown (hts _ (pm_has_in hc2.2)) (fun _ h9 => h9) hd kk
    · intro hc2
      simp only [Bool.and_eq_true, decide_eq_true_eq] at hc2
      rw [hc2.1] at kk
      exact va_gets hx1 hb z5 hS hown (hts _ (pm_has_in hc2.2)) (fun _ h9 => h9) hd kk
theorem pm_s_tableswitch {d lo up : Int} {offs : Array Int} (C : pm_C p R s m args meth c T M b x ta D xs h0) (he : (mm_cd M)[j]? = some en) (hx : pm_x xs en j lv st h = some (.inl (j', lv', st', h'))) (k : pm_G p l e R s m args below meth c Q M b x ta D h0 j' lv' st' h') (hi : pi_i en = .tableswitch d lo up offs) : pm_G p l e R s m args below meth c Q M b x ta D h0 j lv st h := by
  obtain ⟨hx1, hb, hml, hown, hts, hK, hsz, hfr, hlo, hnm, hxr, hcM, hT⟩ := C
  have hck := pck_at hcM he (pm_x_live hx)
  have hd := pck_dec hck
  rw [hi] at hd
  have hpc := pm_pc_at he
  have hc2 := hck
  simp only [pm_ck, hi, Bool.and_eq_true, decide_eq_true_eq] at hc2
  obtain ⟨g1, g2⟩ := hc2.2
  unfold pm_x at hx
  rw [hi] at hx
  simp only [pm_tsw, pm_nx] at hx
  split at hx
  · rename_i v r
    split at hx
    · rename_i hq
      cases hx
      intro H locs ls hP hS hl
      rw [hpc]
      exact lv_tableOut hx1 hb hd hq g1 (k H locs ls hP hS hl)
    · rename_i hq
      split at hx
      · rename_i t ht
        cases hx
        intro H locs ls hP hS hl
        rw [hpc]
        refine lv_tableIn (off := (pm_pc (mm_cd M) j' : Int) - (pi_pc en : Int)) (tgt := pm_pc (mm_cd M) j') hx1 hb hd (fun z => hq (Or.inl z)) (fun z => hq (Or.inr z)) ?_ (by omega) (k H locs ls hP hS hl)
        rw [← Array.getElem?_toList, g2, List.getElem?_map, ht]
        rfl
      · cases hx
  · cases hx
theorem pm_lsw_off {M : PmM} {pc : Nat} {d v : Int} : ∀ (ps : List (Int × Int)) (ts : List Nat), ps.map (fun q => q.2) = ts.map (fun t => (pm_pc (mm_cd M) t : Int) - (pc : Int)) →
    (∀ q, (ps.zip ts).find? (fun q => q.1.1 == v) = some q → Op.lookupswitch.offset ps d v = (pm_pc (mm_cd M) q.2 : Int) - (pc : Int)) ∧ ((ps.zip ts).find? (fun q => q.1.1 == v) = none → Op.lookupswitch.offset ps d v = d) := by
  intro ps
  induction ps with
  | nil => intro ts _; exact ⟨fun q h => by simp at h, fun _ => rfl⟩
  | cons a ps ih =>
    intro ts ht
    cases ts with
    | nil => simp at ht
    | cons t ts =>
      simp only [List.map_cons, List.cons.injEq] at ht
      obtain ⟨a1, a2⟩ := a
      by_cases hv : a1 = v
      · subst hv
        refine ⟨fun q hq => ?_, fun hq => ?_⟩
        · simp at hq
          subst hq
          simpa [Op.lookupswitch.offset] using ht.1
        · simp at hq
      · have hf : (((a1, a2) :: ps).zip (t :: ts)).find? (fun q => q.1.1 == v) = (ps.zip ts).find? (fun q => q.1.1 == v) := by
          simp [hv]
        rw [hf]
        simp only [Op.lookupswitch.offset, if_neg hv]
        exact ih ts ht.2
theorem pm_s_lookupswitch {d : Int} {ps : Array (Int × Int)} (C : pm_C p R s m args meth c T M b x ta D xs h0) (he : (mm_cd M)[j]? = some en) (hx : pm_x xs en j lv st h = some (.inl (j', lv', st', h'))) (k : pm_G p l e R s m args below meth c Q M b x ta D h0 j' lv' st' h') (hi : pi_i en = .lookupswitch d ps) : pm_G p l e R s m args below meth c Q M b x ta D h0 j lv st h := by
  obtain ⟨hx1, hb, hml, hown, hts, hK, hsz, hfr, hlo, hnm, hxr, hcM, hT⟩ := C
  have hck := pck_at hcM he (pm_x_live hx)
  have hd := pck_dec hck
  rw [hi] at hd
  have hpc := pm_pc_at he
  have hc2 := hck
  simp only [pm_ck, hi, Bool.and_eq_true, decide_eq_true_eq] at hc2
  obtain ⟨⟨g1, g2⟩, g3⟩ := hc2.2
  unfold pm_x at hx
  rw [hi] at hx
  simp only [pm_lsw, pm_nx] at hx
  split at hx
  · rename_i v r
    split at hx
    · rename_i q hq
      cases hx
      intro H locs ls hP hS hl
      rw [hpc]
      exact lv_lookup (tgt := pm_pc (mm_cd M) q.2) hx1 hb hd g3 ((pm_lsw_off _ _ g2).1 q hq) (by omega) (k H locs ls hP hS hl)
    · rename_i hq
      cases hx
      intro H locs ls hP hS hl
      rw [hpc]
      exact lv_lookup hx1 hb hd g3 ((pm_lsw_off _ _ g2).2 hq) g1 (k H locs ls hP hS hl)
  · cases hx
theorem pm_s_objinit {i : Nat} (C : pm_C p R s m args meth c T M b x ta D xs h0) (he : (mm_cd M)[j]? = some en) (hx : pm_x xs en j lv st h = some (.inl (j', lv', st', h'))) (k : pm_G p l e R s m args below meth c Q M b x ta D h0 j' lv' st' h') (hd6 : pi_d en = 6) (hi : pi_i en = .invokespecial i) : pm_G p l e R s m args below meth c Q M b x ta D h0 j lv st h := by
  obtain ⟨hx1, hb, hml, hown, hts, hK, hsz, hfr, hlo, hnm, hxr, hcM, hT⟩ := C
  have hck := pck_at hcM he (pm_x_live hx)
  have hd := pck_d1 hck (i := .invokespecial i) hi rfl rfl
  have hnx := pck_nx hck (i := .invokespecial i) hi rfl rfl rfl
  have hpc := pm_pc_at he
  have hc2 := hck
  simp only [pm_ck, hi, Bool.and_eq_true, decide_eq_true_eq] at hc2
  replace hc2 := hc2.2
  unfold pm_x at hx
  rw [hi] at hx
  simp only [hd6, pm_obj, pm_nx] at hx
  rw [hd6] at hc2
  simp only [Bool.and_eq_true, decide_eq_true_eq] at hc2
  obtain ⟨⟨g1, g2⟩, g3⟩ := hc2
  split at hx
  · rename_i q r
    split at hx
    · cases hx
    · rename_i h8
      cases hx
      intro H locs ls hP hS hl
      have kk := k H locs ls hP hS hl
      rw [hnx] at kk
      rw [hpc]
      refine W.objInit hx1 hb hown (hts _ (pm_has_in g3)) (hts _ pm_oi_m) (hts _ pm_oi_c) rfl (by rw [hml]; exact hl.1) rfl hd (by omega) ?_ kk
      show 2 * 0 + _ + 12 ≤ _
      rw [pm_cats (pm_xc hxr)]
      omega
  · cases hx
theorem pm_s_copy {i : Nat} (C : pm_C p R s m args meth c T M b x ta D xs h0) (he : (mm_cd M)[j]? = some en) (hx : pm_x xs en j lv st h = some (.inl (j', lv', st', h'))) (k : pm_G p l e R s m args below meth c Q M b x ta D h0 j' lv' st' h') (hd7 : pi_d en = 7) (hi : pi_i en = .invokestatic i) : pm_G p l e R s m args below meth c Q M b x ta D h0 j lv st h := by
  obtain ⟨hx1, hb, hml, hown, hts, hK, hsz, hfr, hlo, hnm, hxr, hcM, hT⟩ := C
  have hck := pck_at hcM he (pm_x_live hx)
  have hd := pck_d1 hck (i := .invokestatic i) hi rfl rfl
  have hnx := pck_nx hck (i := .invokestatic i) hi rfl rfl rfl
  have hpc := pm_pc_at he
  have hc2 := hck
  simp only [pm_ck, hi, Bool.and_eq_true, decide_eq_true_eq] at hc2
  replace hc2 := hc2.2
  unfold pm_x at hx
  rw [hi] at hx
  simp only [hd7, pm_cpy, pm_nx] at hx
  rw [hd7] at hc2
  simp only [Bool.and_eq_true, decide_eq_true_eq] at hc2
  obtain ⟨⟨g1, g2⟩, g3⟩ := hc2
  split at hx
  · rename_i n dp q sp q0 r
    split at hx
    · rename_i n0 n1 hs0 hs1
      split at hx
      · cases hx
      · rename_i h8
        cases hx
        simp only [not_or] at h8
        obtain ⟨u1, u2, u3, u4, u5, u6⟩ := h8
        intro H locs ls hP hS hl
        rw [hpc]
        refine va_copyi hx1 hb (by rw [hml]; exact hl.1.symm) hown (hts _ (pm_has_in g3)) (hts _ pm_cp_n) (hts _ pm_cp_s) (hts _ pm_cp_i) hK.1 hP (pm_D b x ta h) hS q0 q 0 0 (pm_w_to hs0 rfl) (pm_w_to hs1 rfl) rfl rfl rfl u1 u2 u3 (by omega) (by omega) (fun _ _ => rfl) (by omega) ?_ hd (fun H1 locs1 hP1 hD1 hS1 => ?_)
        · rw [pm_cats (pm_xc hxr)]
          show _ + (7 + 11) ≤ _
          omega
        · rw [pm_w_set (h := h) (h' := (ph_s h, pm_uf (ph_i h) q (va_cpy (ph_i h q0) (ph_i h q) sp.toNatClampNeg dp.toNatClampNeg n.toNatClampNeg), ph_l h, ph_r h)) rfl hs1 ?_ (fun p' q' hp => pm_e_i q' (pm_uf_ne hp))] at hP1
          · have kk := k H1 locs1 ls hP1 hS1 hl
            rw [hnx] at kk
            exact kk
          · simp only [pm_e, ph_i, pm_uf_eq]
    · cases hx
  · cases hx
end PMA
