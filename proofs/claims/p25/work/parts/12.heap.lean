theorem pm_in_of {C : String} {TT : u_T} {N : Nat} (ps : List Nat) (h : (List.range N).all (fun k => pm_has (ps.getD k 0) (u_lay C TT k)) = true) : ∀ w ∈ u_ws C TT N, w ∈ pm_ws := by
  intro w hw
  obtain ⟨k, hk, rfl⟩ := List.mem_map.mp hw
  exact pm_has_in (List.all_eq_true.mp h k hk)
def pm_tk (t : FieldType) (k : Nat) : Bool := match k, t with
  | 0, .int => true
  | 1, .long => true
  | 2, .object _ => true
  | 2, .array _ => true
  | 3, .boolean => true
  | _, _ => false
/-- what is known of a class -/
def pm_cf (ci : Nat) (C : String) (TT : u_T) (N : Nat) : Prop := (∀ w ∈ u_ws C TT N, w ∈ pm_ws) ∧ Cond.instantiable C N ∈ pm_ws ∧ Cond.initialized C ∈ pm_ws ∧ ∃ ty : Nat → FieldType, (∀ k, k < N → parseFieldDescriptor (TT k).2.2.1 = some (ty k)) ∧ (∀ a, a < N → ∀ b, b < N → a ≠ b → (TT a).2.1 ≠ (TT b).2.1) ∧ ∀ k, k < N → pm_tk (ty k) (pm_k ci k) = true
theorem pm_cf0 : pm_cf 0 RX0 TX0 4 := ⟨pm_in_of [428, 430, 432, 434] (by decide +kernel), pm_has_in (q := 417) (by decide +kernel), pm_has_in (q := 108) (by decide +kernel), tyX0, tyX0_ok, nmX0, fun k hk => List.all_eq_true.mp (show (List.range 4).all (fun k => pm_tk (tyX0 k) (pm_k 0 k)) = true by decide +kernel) k (List.mem_range.mpr hk)⟩
theorem pm_cf1 : pm_cf 1 RX1 TX1 7 := ⟨pm_in_of [225, 227, 229, 231, 233, 235, 237] (by decide +kernel), pm_has_in (q := 210) (by decide +kernel), pm_has_in (q := 102) (by decide +kernel), tyX1, tyX1_ok, nmX1, fun k hk => List.all_eq_true.mp (show (List.range 7).all (fun k => pm_tk (tyX1 k) (pm_k 1 k)) = true by decide +kernel) k (List.mem_range.mpr hk)⟩
theorem pm_cf2 : pm_cf 2 RX2 TX2 5 := ⟨pm_in_of [370, 372, 374, 376, 378] (by decide +kernel), pm_has_in (q := 356) (by decide +kernel), pm_has_in (q := 106) (by decide +kernel), tyX2, tyX2_ok, nmX2, fun k hk => List.all_eq_true.mp (show (List.range 5).all (fun k => pm_tk (tyX2 k) (pm_k 2 k)) = true by decide +kernel) k (List.mem_range.mpr hk)⟩
theorem pm_cf3 : pm_cf 3 RX3 TX3 4 := ⟨pm_in_of [265, 267, 269, 271] (by decide +kernel), pm_has_in (q := 248) (by decide +kernel), pm_has_in (q := 104) (by decide +kernel), tyX3, tyX3_ok, nmX3, fun k hk => List.all_eq_true.mp (show (List.range 4).all (fun k => pm_tk (tyX3 k) (pm_k 3 k)) = true by decide +kernel) k (List.mem_range.mpr hk)⟩
theorem pm_cf4 : pm_cf 4 RX4 TX4 16 := ⟨pm_in_of [322, 324, 326, 328, 330, 332, 334, 336, 338, 340, 342, 344, 346, 348, 350, 352] (by decide +kernel), pm_has_in (q := 242) (by decide +kernel), pm_has_in (q := 103) (by decide +kernel), tyX4, tyX4_ok, nmX4, fun k hk => List.all_eq_true.mp (show (List.range 16).all (fun k => pm_tk (tyX4 k) (pm_k 4 k)) = true by decide +kernel) k (List.mem_range.mpr hk)⟩
theorem pm_cf5 : pm_cf 5 RX5 TX5 8 := ⟨pm_in_of [399, 401, 403, 405, 407, 409, 411, 413] (by decide +kernel), pm_has_in (q := 382) (by decide +kernel), pm_has_in (q := 107) (by decide +kernel), tyX5, tyX5_ok, nmX5, fun k hk => List.all_eq_true.mp (show (List.range 8).all (fun k => pm_tk (tyX5 k) (pm_k 5 k)) = true by decide +kernel) k (List.mem_range.mpr hk)⟩
theorem pm_cf6 : pm_cf 6 RX6 TX6 9 := ⟨pm_in_of [169, 171, 173, 175, 177, 179, 181, 183, 185] (by decide +kernel), pm_has_in (q := 127) (by decide +kernel), pm_has_in (q := 100) (by decide +kernel), tyX6, tyX6_ok, nmX6, fun k hk => List.all_eq_true.mp (show (List.range 9).all (fun k => pm_tk (tyX6 k) (pm_k 6 k)) = true by decide +kernel) k (List.mem_range.mpr hk)⟩
theorem pm_cf7 : pm_cf 7 RX7 TX7 2 := ⟨pm_in_of [202, 204] (by decide +kernel), pm_has_in (q := 191) (by decide +kernel), pm_has_in (q := 101) (by decide +kernel), tyX7, tyX7_ok, nmX7, fun k hk => List.all_eq_true.mp (show (List.range 2).all (fun k => pm_tk (tyX7 k) (pm_k 7 k)) = true by decide +kernel) k (List.mem_range.mpr hk)⟩
theorem pm_cf8 : pm_cf 8 RX8 TX8 3 := ⟨pm_in_of [287, 289, 291] (by decide +kernel), pm_has_in (q := 275) (by decide +kernel), pm_has_in (q := 105) (by decide +kernel), tyX8, tyX8_ok, nmX8, fun k hk => List.all_eq_true.mp (show (List.range 3).all (fun k => pm_tk (tyX8 k) (pm_k 8 k)) = true by decide +kernel) k (List.mem_range.mpr hk)⟩
theorem pm_cf9 : pm_cf 9 RX9 TX9 14 := ⟨pm_in_of [451, 453, 455, 457, 459, 461, 463, 465, 467, 469, 471, 473, 475, 477] (by decide +kernel), pm_has_in (q := 119) (by decide +kernel), pm_has_in (q := 99) (by decide +kernel), tyX9, tyX9_ok, nmX9, fun k hk => List.all_eq_true.mp (show (List.range 14).all (fun k => pm_tk (tyX9 k) (pm_k 9 k)) = true by decide +kernel) k (List.mem_range.mpr hk)⟩
theorem pm_cf10 : pm_cf 10 RX10 TX10 54 := ⟨pm_in_of [1128, 1130, 1132, 1134, 1136, 1138, 1140, 1142, 1144, 1146, 1148, 1150, 1152, 1154, 1156, 1158, 1160, 1162, 1164, 1166, 1168, 1170, 1172, 1174, 1176, 1178, 1180, 1182, 1184, 1186, 1188, 1190, 1192, 1194, 1196, 1198, 1200, 1202, 1204, 1206, 1208, 1210, 1212, 1214, 1216, 1218, 1220, 1222, 1224, 1226, 1228, 1230, 1232, 1234] (by decide +kernel), pm_has_in (q := 1069) (by decide +kernel), pm_has_in (q := 109) (by decide +kernel), tyX10, tyX10_ok, nmX10, fun k hk => List.all_eq_true.mp (show (List.range 54).all (fun k => pm_tk (tyX10 k) (pm_k 10 k)) = true by decide +kernel) k (List.mem_range.mpr hk)⟩
theorem pm_cf_all {ci : Nat} {q : vw_C} (h : vwCl[ci]? = some q) : pm_cf ci q.1 q.2.1 q.2.2 := by
  match ci, h with
  | 0, h => cases h; exact pm_cf0
  | 1, h => cases h; exact pm_cf1
  | 2, h => cases h; exact pm_cf2
  | 3, h => cases h; exact pm_cf3
  | 4, h => cases h; exact pm_cf4
  | 5, h => cases h; exact pm_cf5
  | 6, h => cases h; exact pm_cf6
  | 7, h => cases h; exact pm_cf7
  | 8, h => cases h; exact pm_cf8
  | 9, h => cases h; exact pm_cf9
  | 10, h => cases h; exact pm_cf10
  | k + 11, h => simp [vwCl] at h
theorem pm_ac_int : Cond.arrayClass .int ∈ pm_ws := pm_has_in (q := 188) (by decide +kernel)
theorem pm_ac_boolean : Cond.arrayClass .boolean ∈ pm_ws := pm_has_in (q := 207) (by decide +kernel)
theorem pm_ac_byte : Cond.arrayClass .byte ∈ pm_ws := pm_has_in (q := 208) (by decide +kernel)
theorem pm_ac_long : Cond.arrayClass .long ∈ pm_ws := pm_has_in (q := 240) (by decide +kernel)
theorem pm_cp_n : Cond.native arraycopyName ∈ pm_ws := pm_has_in (q := 660) (by decide +kernel)
theorem pm_cp_s : Cond.static arraycopyName ∈ pm_ws := pm_has_in (q := 659) (by decide +kernel)
theorem pm_cp_i : Cond.initialized "java/lang/System" ∈ pm_ws := pm_has_in (q := 116) (by decide +kernel)
theorem pm_oi_m : Cond.instanceMethod objectInit ∈ pm_ws := pm_has_in (q := 124) (by decide +kernel)
theorem pm_oi_c : Cond.code objectInit ⟨#[0xb1]⟩ 1 none ∈ pm_ws := pm_has_in (q := 125) (by decide +kernel)
theorem pm_cats {b : Nat} {x : Nat → Value} (hx : ∀ k, (x k).category = 1) (st : List Value) : ((st.map (pm_v b x)).map fun v => v.category).sum = (st.map fun v => v.category).sum := by
  induction st with
  | nil => rfl
  | cons a st ih => simp only [List.map_cons, List.sum_cons, pm_v_cat hx, ih]
section PMH
variable {p : Program} {l : Launch} {e : Env} {R : Room} {s : State} {m : MethodId} {args : Array Value} {below : List Frame} {meth : Method} {c : Code} {Q : State → Prop} {T : List PmM} {M : PmM} {b : Nat} {x : Nat → Value} {ta : Nat → ClassId} {D : va_G} {xs : PmX} {h0 : PmH} {j j' : Nat} {lv lv' : PmL} {st st' : List Value} {h h' : PmH} {en : PmI}
theorem pm_s_getfield {idx : Nat} (C : pm_C p R s m args meth c T M b x ta D xs h0) (he : (mm_cd M)[j]? = some en) (hx : pm_x xs en j lv st h = some (.inl (j', lv', st', h'))) (k : pm_G p l e R s m args below meth c Q M b x ta D h0 j' lv' st' h') (hi : pi_i en = .getfield idx) : pm_G p l e R s m args below meth c Q M b x ta D h0 j lv st h := by
  obtain ⟨hx1, hb, hml, hown, hts, hK, hsz, hfr, hlo, hnm, hxr, hcM, hT⟩ := C
  have hck := pck_at hcM he (pm_x_live hx)
  have hd := pck_d1 hck (i := .getfield idx) hi rfl rfl
  have hnx := pck_nx hck (i := .getfield idx) hi rfl rfl rfl
  have hpc := pm_pc_at he
  have hc2 := hck
  simp only [pm_ck, hi, Bool.and_eq_true, decide_eq_true_eq] at hc2
  replace hc2 := hc2.2
  unfold pm_x at hx
  rw [hi] at hx
  simp only [pm_get, pm_nx] at hx
  split at hx
  · rename_i q r
    split at hx
    · rename_i t n hsh
      split at hx
      · rename_i hq
        cases hx
        intro H locs ls hP hS hl
        have kk := k H locs ls hP hS hl
        rw [hnx] at kk
        rw [hpc]
        have hw : (pm_w b x ta h)[q]? = some (b + q, .inr (pi_a en, pm_fs b x h q (pi_a en) n)) := by
          rw [hq.1] at hsh
          exact pm_w_to hsh (pm_e_obj ..)
        obtain ⟨r9, hr9, -⟩ := hP q _ hw
        have hcl : vwCl[pi_a en]? = some r9 := hr9
        have h99 : ¬ pi_a en = 99 := by
          intro z
          rw [z] at hcl
          simp [vwCl] at hcl
        rw [if_neg h99, hcl] at hc2
        obtain ⟨CC, TT, N⟩ := r9
        simp only [Bool.and_eq_true, decide_eq_true_eq] at hc2
        obtain ⟨⟨g1, g2⟩, g3⟩ := hc2
        rw [g2] at kk
        exact va_get (D := D) (ci := pi_a en) (C := CC) (T := TT) (N := N) hx1 hb hts (pm_cf_all hcl).1 hown hK.1 hP q hw hcl (pi_c en) g1 (hts _ (pm_has_in g3)) (fun _ h9 => h9) (pm_fs_at hq.2) hd kk
      · cases hx
    · cases hx
  · rename_i q r
    split at hx
    · rename_i hq
      obtain ⟨⟨adK, adV, e1, e2⟩, -⟩ := hK.2.2.2
      obtain ⟨z1, z2, -⟩ := e2 q hq.2
      rw [if_pos hq.1] at hc2
      split at hx
      · rename_i h9
        rw [if_pos h9] at hc2
        cases hx
        intro H locs ls hP hS hl
        have kk := k H locs ls hP hS hl
        rw [hnx] at kk
        rw [hpc]
        rw [List.map_cons] at kk ⊢
        rw [show pm_v b x (.retAddr (16 + q)) = x (16 + q) from rfl, z2] at kk
        rw [show pm_v b x (.retAddr q) = x q from rfl, z1]
        exact vk_getf hx1 hb (e1.1 q hq.2).2.2.1 hS hown (hts _ (pm_has_in hc2)) (fun _ h9 => h9) hd kk
      · rename_i h9
        rw [if_neg h9] at hc2
        cases hx
        intro H locs ls hP hS hl
        have kk := k H locs ls hP hS hl
        rw [hnx] at kk
        rw [hpc]
        rw [List.map_cons] at kk ⊢
        rw [show pm_v b x (.retAddr q) = x q from rfl, z1]
        exact vk_getf hx1 hb (e1.1 q hq.2).2.1 hS hown (hts _ (pm_has_in hc2)) (fun _ h9 => h9) hd kk
    · cases hx
  · cases hx
/-- a field is written, any kind -/
theorem pm_put1 {idx q n : Nat} {v : Value} {r : List Value} (C : pm_C p R s m args meth c T M b x ta D xs h0) (he : (mm_cd M)[j]? = some en) (hi : pi_i en = .putfield idx) (hsh : (ph_s h)[q]? = some (10 + pi_a en, n)) (hn : pi_c en < n)
    (hv : ∀ ty, pm_tk ty (pi_d en) = true → narrow ty (pm_v b x v) = pm_v b x v ∧ fits ty (pm_v b x v) = true) (hs : ph_s h' = ph_s h)
    (h1 : pi_d en = pm_k (pi_a en) (pi_c en) → pm_e b x ta h' q (10 + pi_a en, n) = .inr (pi_a en, (pm_fs b x h q (pi_a en) n).set (pi_c en) (pm_v b x v))) (h2 : ∀ p' q', p' ≠ q → pm_e b x ta h' p' q' = pm_e b x ta h p' q')
    (k : pm_G p l e R s m args below meth c Q M b x ta D h0 (j + 1) lv r h') : pm_G p l e R s m args below meth c Q M b x ta D h0 j lv (v :: .ref q :: r) h := by
  obtain ⟨hx1, hb, hml, hown, hts, hK, hsz, hfr, hlo, hnm, hxr, hcM, hT⟩ := C
  have hck := pck_at hcM he (by rw [hi]; rfl)
  have hd := pck_d1 hck (i := .putfield idx) hi rfl rfl
  have hnx := pck_nx hck (i := .putfield idx) hi rfl rfl rfl
  have hpc := pm_pc_at he
  have hc2 := hck
  simp only [pm_ck, hi, Bool.and_eq_true, decide_eq_true_eq] at hc2
  replace hc2 := hc2.2
  intro H locs ls hP hS hl
  rw [hpc]
  have hw : (pm_w b x ta h)[q]? = some (b + q, .inr (pi_a en, pm_fs b x h q (pi_a en) n)) := pm_w_to hsh (pm_e_obj ..)
  obtain ⟨r9, hr9, -⟩ := hP q _ hw
  have hcl : vwCl[pi_a en]? = some r9 := hr9
  rw [hcl] at hc2
  obtain ⟨CC, TT, N⟩ := r9
  simp only [Bool.and_eq_true, decide_eq_true_eq, Bool.or_eq_true, Bool.not_eq_true'] at hc2
  obtain ⟨⟨⟨g1, g2⟩, g3⟩, g4⟩ := hc2
  obtain ⟨f1, f2, f3, ty, f4, f5, f6⟩ := pm_cf_all hcl
  have hset := pm_w_set (e := .inr (pi_a en, (pm_fs b x h q (pi_a en) n).set (pi_c en) (pm_v b x v))) hs hsh (h1 g2) h2
  have hv9 := hv (ty (pi_c en)) (by rw [g2]; exact f6 _ g1)
  have fin : ∀ (H1 : Heap) (locs1 : List Loc), va_P D vwCl ((pm_w b x ta h).set q (b + q, .inr (pi_a en, (pm_fs b x h q (pi_a en) n).set (pi_c en) (pm_v b x v)))) H1 → va_D (fun q => b ≤ q) ((pm_w b x ta h).set q (b + q, .inr (pi_a en, (pm_fs b x h q (pi_a en) n).set (pi_c en) (pm_v b x v)))) → va_S (fun q => b ≤ q) s.heap H1 locs1 → W p l e R s m args below meth c H1 locs1 ((ph_s h).length - (ph_s h0).length) (pm_sz h - pm_sz h0) Q (F0 m (pi_pc en + 3) ls (r.map (pm_v b x))) := by
    intro H1 locs1 hP1 hD1 hS1
    rw [hset] at hP1
    have kk := k H1 locs1 ls hP1 hS1 hl
    rw [hnx, hs] at kk
    rw [show pm_sz h' = pm_sz h by simp only [pm_sz, hs]] at kk
    exact kk
  rcases g4 with g4 | g4
  · exact va_put (D := D) (ci := pi_a en) (C := CC) (T := TT) (N := N) hx1 hb hts f1 ty f4 f5 hown hK.1 hP (pm_D b x ta h) hS q hw hcl (pi_c en) g1 (hts _ (pm_has_in g3)) (fun _ h9 => h9) g4 (f4 _ g1) hv9.1 hv9.2 (by rw [pm_fs_len]; exact hn) hd fin
  · by_cases g5 : (TT (pi_c en)).2.2.2 = true
    · exact va_putF (D := D) (ci := pi_a en) (C := CC) (T := TT) (N := N) hx1 hb hts f1 ty f4 f5 hown hK.1 hP (pm_D b x ta h) hS q hw hcl (pi_c en) g1 (hts _ (pm_has_in g3)) (fun _ h9 => h9) g5 (hnm g4.2) g4.1 (f4 _ g1) hv9.1 hv9.2 (by rw [pm_fs_len]; exact hn) hd fin
    · exact va_put (D := D) (ci := pi_a en) (C := CC) (T := TT) (N := N) hx1 hb hts f1 ty f4 f5 hown hK.1 hP (pm_D b x ta h) hS q hw hcl (pi_c en) g1 (hts _ (pm_has_in g3)) (fun _ h9 => h9) (by simpa using g5) (f4 _ g1) hv9.1 hv9.2 (by rw [pm_fs_len]; exact hn) hd fin
theorem pm_s_putfield {idx : Nat} (C : pm_C p R s m args meth c T M b x ta D xs h0) (he : (mm_cd M)[j]? = some en) (hx : pm_x xs en j lv st h = some (.inl (j', lv', st', h'))) (k : pm_G p l e R s m args below meth c Q M b x ta D h0 j' lv' st' h') (hi : pi_i en = .putfield idx) : pm_G p l e R s m args below meth c Q M b x ta D h0 j lv st h := by
  unfold pm_x at hx
  rw [hi] at hx
  simp only [pm_put, pm_nx] at hx
  split at hx
  · rename_i v q r
    split at hx
    · rename_i t n hsh
      split at hx
      · rename_i hq
        cases hx
        obtain ⟨q1, q2, q3⟩ := hq
        subst q1
        refine pm_put1 (v := .int v) (h' := (ph_s h, pm_u2 (ph_i h) q (pi_c en) v, ph_l h, ph_r h)) C he hi hsh q2 (fun ty hty => ?_) rfl (fun g2 => ?_) (fun p' q' hp => pm_e_i q' (pm_u2_ne hp)) k
        · rcases q3 with q3 | ⟨q3, q4⟩
          · rw [q3] at hty
            cases ty <;> first | exact ⟨rfl, rfl⟩ | (exact absurd (show false = true from hty) (by decide))
          · rw [q3] at hty
            rcases q4 with q4 | q4 <;> subst q4 <;> cases ty <;> first | exact ⟨rfl, rfl⟩ | (exact absurd (show false = true from hty) (by decide))
        · rw [pm_e_obj]
          congr 2
          refine (pm_fs_set q2 ?_ (fun s' hs' => ?_)).symm
          · rw [← g2]
            rcases q3 with q3 | ⟨q3, -⟩ <;> rw [q3] <;> simp [pm_fv, ph_i, pm_u2, pm_v]
          · unfold pm_fv
            split <;> simp [ph_i, ph_l, ph_r, pm_u2, hs']
      · cases hx
    · cases hx
  · rename_i v q r
    split at hx
    · rename_i t n hsh
      split at hx
      · rename_i hq
        cases hx
        obtain ⟨q1, q2, q3⟩ := hq
        subst q1
        refine pm_put1 (v := .long v) (h' := (ph_s h, ph_i h, pm_u2 (ph_l h) q (pi_c en) v, ph_r h)) C he hi hsh q2 (fun ty hty => ?_) rfl (fun g2 => ?_) (fun p' q' hp => pm_e_l q' (pm_u2_ne hp)) k
        · rw [q3] at hty
          cases ty <;> first | exact ⟨rfl, rfl⟩ | (exact absurd (show false = true from hty) (by decide))
        · rw [pm_e_obj]
          congr 2
          refine (pm_fs_set q2 ?_ (fun s' hs' => ?_)).symm
          · rw [← g2, q3]
            simp [pm_fv, ph_l, pm_u2, pm_v]
          · unfold pm_fv
            split <;> simp [ph_i, ph_l, ph_r, pm_u2, hs']
      · cases hx
    · cases hx
  · rename_i v q r
    split at hx
    · rename_i t n hsh
      split at hx
      · rename_i hq
        cases hx
        obtain ⟨q1, q2, q3⟩ := hq
        subst q1
        refine pm_put1 (v := .ref v) (h' := (ph_s h, ph_i h, ph_l h, pm_u2 (ph_r h) q (pi_c en) (some v))) C he hi hsh q2 (fun ty hty => ?_) rfl (fun g2 => ?_) (fun p' q' hp => pm_e_r q' (pm_u2_ne hp)) k
        · rw [q3] at hty
          cases ty <;> first | exact ⟨rfl, rfl⟩ | (exact absurd (show false = true from hty) (by decide))
        · rw [pm_e_obj]
          congr 2
          refine (pm_fs_set q2 ?_ (fun s' hs' => ?_)).symm
          · rw [← g2, q3]
            simp [pm_fv, ph_r, pm_u2, pm_v, pm_rv]
          · unfold pm_fv
            split <;> simp [ph_i, ph_l, ph_r, pm_u2, hs']
      · cases hx
    · cases hx
  · cases hx
end PMH

