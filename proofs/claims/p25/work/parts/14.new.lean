def pm_le (h h' : PmH) : Prop := (ph_s h).length ≤ (ph_s h').length ∧ pm_sz h ≤ pm_sz h'
theorem pm_le.rf (h : PmH) : pm_le h h := ⟨Nat.le_refl _, Nat.le_refl _⟩
theorem pm_le.tr {h1 h2 h3 : PmH} (a : pm_le h1 h2) (b : pm_le h2 h3) : pm_le h1 h3 := ⟨Nat.le_trans a.1 b.1, Nat.le_trans a.2 b.2⟩
theorem pm_le.eq {h h' : PmH} (hs : ph_s h' = ph_s h) : pm_le h h' := by
  unfold pm_le pm_sz
  rw [hs]
  exact ⟨Nat.le_refl _, Nat.le_refl _⟩
theorem pm_le.push {h h' : PmH} {q : Nat × Nat} (hs : ph_s h' = ph_s h ++ [q]) : pm_le h h' := by
  unfold pm_le pm_sz
  rw [hs]
  simp
theorem pm_x_le {xs : PmX} {e : PmI} {j j' : Nat} {lv lv' : PmL} {st st' : List Value} {h h' : PmH} (hx : pm_x xs e j lv st h = some (.inl (j', lv', st', h'))) : pm_le h h' := by
  unfold pm_x at hx
  split at hx <;> (try simp only [pm_nx, pm_ii, pm_iz, pm_i1, pm_l1, pm_ll, pm_lz, pm_li, pm_ild, pm_lld, pm_ald, pm_ist, pm_lst, pm_ast, pm_br, pm_get, pm_put, pm_iald, pm_bald, pm_lald, pm_aald, pm_iast, pm_bast, pm_last, pm_aast, pm_len, pm_new, pm_nwa, pm_cpy, pm_call, pm_obj, pm_ret, pm_lret, pm_vret, pm_dup, pm_dup2, pm_pop, pm_pop2, pm_inc, pm_tsw, pm_lsw, pm_if, pm_ic, pm_gs] at hx) <;>
    (repeat' (first | cases hx | split at hx)) <;> first | exact pm_le.rf _ | exact pm_le.eq rfl | exact pm_le.push rfl
section PMN
variable {p : Program} {l : Launch} {e : Env} {R : Room} {s : State} {m : MethodId} {args : Array Value} {below : List Frame} {meth : Method} {c : Code} {Q : State → Prop} {T : List PmM} {M : PmM} {b : Nat} {x : Nat → Value} {ta : Nat → ClassId} {D : va_G} {xs : PmX} {h0 : PmH} {j j' : Nat} {lv lv' : PmL} {st st' : List Value} {h h' : PmH} {en : PmI}
theorem pm_fresh {q : Nat} {e9 : va_E} {H1 : Heap} (hP : va_P D vwCl (pm_w b x ta h ++ [(q, e9)]) H1) (hD : va_D (fun q => b ≤ q) (pm_w b x ta h ++ [(q, e9)])) (hz : H1.size ≤ b + (ph_s h).length + 1) : q = b + (ph_s h).length := by
  have hl : (pm_w b x ta h).length = (ph_s h).length := by simp [pm_w]
  have ha : (pm_w b x ta h ++ [(q, e9)])[(ph_s h).length]? = some (q, e9) := by
    rw [List.getElem?_append_right (by omega), hl]
    simp
  have h1 : q < H1.size := (hP _ _ ha).lt
  have h2 : b ≤ q := hD.2 _ _ ha
  by_cases h3 : q < b + (ph_s h).length
  · have h4 : q - b < (ph_s h).length := by omega
    have h5 : (pm_w b x ta h ++ [(q, e9)])[q - b]? = some (b + (q - b), pm_e b x ta h (q - b) (ph_s h)[q - b]) := by
      rw [List.getElem?_append_left (by omega), pm_w_at, List.getElem?_eq_getElem h4]
      rfl
    have h6 := hD.1 _ _ _ _ h5 ha (show b + (q - b) = q by omega)
    omega
  · omega
/-- a new cell -/
theorem pm_alloc {t n pc' : Nat} {r : List Value} {e9 : va_E} {locs : List Loc} {ls : Array Slot} (hsz : s.heap.size = b + (ph_s h0).length) (hm : pm_le h0 h) (hs : ph_s h' = ph_s h ++ [(t, n)]) (he9 : pm_e b x ta h' (ph_s h).length (t, n) = e9)
    (ho : ∀ p' q', p' < (ph_s h).length → pm_e b x ta h' p' q' = pm_e b x ta h p' q') (k : pm_G p l e R s m args below meth c Q M b x ta D h0 (j + 1) lv (.ref (ph_s h).length :: r) h') (hl : pm_lv b x (mm_ml M) lv ls) (hnx : pm_pc (mm_cd M) (j + 1) = pc') :
    ∀ (q : Nat) (H1 : Heap), va_P D vwCl (pm_w b x ta h ++ [(q, e9)]) H1 → va_D (fun q => b ≤ q) (pm_w b x ta h ++ [(q, e9)]) → va_S (fun q => b ≤ q) s.heap H1 locs →
      W p l e R s m args below meth c H1 locs ((ph_s h).length - (ph_s h0).length + 1) (pm_sz h - pm_sz h0 + n) Q (F0 m pc' ls (.ref q :: r.map (pm_v b x))) := by
  intro q H1 hP1 hD1 hS1 TT hTT X
  have hz := X.heapSize
  rw [hTT, hsz] at hz
  obtain ⟨m1, m2⟩ := hm
  have hq : q = b + (ph_s h).length := pm_fresh hP1 hD1 (by omega)
  subst hq
  rw [pm_w_push hs he9 ho] at hP1
  have kk := k H1 locs ls hP1 hS1 hl
  have e1 : (ph_s h').length - (ph_s h0).length = (ph_s h).length - (ph_s h0).length + 1 := by rw [hs]; simp; omega
  have e2 : pm_sz h' - pm_sz h0 = pm_sz h - pm_sz h0 + n := by
    have : pm_sz h' = pm_sz h + n := by simp [pm_sz, hs]
    omega
  rw [e1, e2, hnx] at kk
  exact kk TT hTT X
theorem pm_e_new {b : Nat} {x : Nat → Value} {ta : Nat → ClassId} {h : PmH} {S9 : List (Nat × Nat)} {f1 : Nat → Int32} {f2 : Nat → Int64} {f3 : Nat → Option Nat} (p' : Nat) (q' : Nat × Nat) (hp : p' < (ph_s h).length) :
    pm_e b x ta (S9, pm_uf (ph_i h) (ph_s h).length f1, pm_uf (ph_l h) (ph_s h).length f2, pm_uf (ph_r h) (ph_s h).length f3) p' q' = pm_e b x ta h p' q' := by
  obtain ⟨t, n⟩ := q'
  have hne : p' ≠ (ph_s h).length := by omega
  have h1 : pm_uf (ph_i h) (ph_s h).length f1 p' = ph_i h p' := pm_uf_ne hne
  have h2 : pm_uf (ph_l h) (ph_s h).length f2 p' = ph_l h p' := pm_uf_ne hne
  have h3 : pm_uf (ph_r h) (ph_s h).length f3 p' = ph_r h p' := pm_uf_ne hne
  simp only [ph_i, ph_l, ph_r, ph_s] at h1 h2 h3
  rcases t with _ | _ | _ | _ | _ | t <;> simp [pm_e, pm_fs, pm_fv, ph_i, ph_l, ph_r, ph_s, h1, h2, h3]
theorem pm_s_new {idx : Nat} (C : pm_C p R s m args meth c T M b x ta D xs h0) (he : (mm_cd M)[j]? = some en) (hx : pm_x xs en j lv st h = some (.inl (j', lv', st', h'))) (k : pm_G p l e R s m args below meth c Q M b x ta D h0 j' lv' st' h') (hm : pm_le h0 h) (hcap : (ph_s h').length - (ph_s h0).length ≤ R.cells ∧ pm_sz h' - pm_sz h0 ≤ R.slots) (hi : pi_i en = .new idx) : pm_G p l e R s m args below meth c Q M b x ta D h0 j lv st h := by
  obtain ⟨hx1, hb, hml, hown, hts, hK, hsz, hfr, hlo, hnm, hxr, hcM, hT⟩ := C
  have hck := pck_at hcM he (pm_x_live hx)
  have hd := pck_d1 hck (i := .new idx) hi rfl rfl
  have hnx := pck_nx hck (i := .new idx) hi rfl rfl rfl
  have hpc := pm_pc_at he
  have hc2 := hck
  simp only [pm_ck, hi, Bool.and_eq_true, decide_eq_true_eq] at hc2
  replace hc2 := hc2.2
  unfold pm_x at hx
  rw [hi] at hx
  simp only [pm_new, pm_nx] at hx
  cases hx
  intro H locs ls hP hS hl
  rw [hpc]
  cases hcl : vwCl[pi_a en]? with
  | none => rw [hcl] at hc2; exact absurd hc2 (by simp)
  | some r9 =>
    rw [hcl] at hc2
    obtain ⟨CC, TT, N⟩ := r9
    simp only [Bool.and_eq_true, decide_eq_true_eq] at hc2
    obtain ⟨g1, g2⟩ := hc2
    obtain ⟨f1, f2, f3, ty, f4, f5, f6⟩ := pm_cf_all hcl
    obtain ⟨m1, m2⟩ := hm
    simp only [ph_s, pm_sz, List.length_append, List.length_singleton, List.map_append, List.map_cons, List.map_nil, List.sum_append, List.sum_cons, List.sum_nil] at hcap m1 m2
    rw [g1] at hcap k
    refine va_new (ci := pi_a en) (fs := (List.range N).map fun s => pm_v b x (match pm_k (pi_a en) s with | 1 => .long 0 | 2 => .null | _ => .int 0)) (C := CC) (T := TT) (N := N) hx1 hb hts f1 ty f4 hown (hts _ (pm_has_in g2)) (hts _ f2) (hts _ f3) hK.1 hP (pm_D b x ta h) hS (fun q hq => Nat.le_trans (by rw [hsz]; omega) hq) hcl (fun j hj => ?_) (by simp only [ph_s]; omega) (by simp only [ph_s, pm_sz]; omega) hd (pm_alloc hsz ⟨m1, m2⟩ rfl ?_ (fun p' q' hp => pm_e_new p' q' hp) k hl hnx)
    · have h7 := f6 j hj
      have h8 : vp_V ((List.range N).map fun s => pm_v b x (match pm_k (pi_a en) s with | 1 => .long 0 | 2 => .null | _ => .int 0)) j = pm_v b x (match pm_k (pi_a en) j with | 1 => .long 0 | 2 => .null | _ => .int 0) := by
        simp [vp_V, List.getD_eq_getElem?_getD, hj]
      rw [h8]
      generalize ty j = tj at h7
      generalize pm_k (pi_a en) j = kj at h7
      rcases kj with _ | _ | _ | _ | kj <;> cases tj <;> first | rfl | exact absurd (show false = true from h7) (by decide)
    · rw [pm_e_obj]
      congr 2
      unfold pm_fs
      congr 1
      funext s9
      unfold pm_fv
      generalize pm_k (pi_a en) s9 = k9
      rcases k9 with _ | _ | _ | k9 <;> simp [ph_i, ph_l, ph_r, pm_uf, pm_rv]
theorem pm_s_newarray {t9 : ArrayType} (C : pm_C p R s m args meth c T M b x ta D xs h0) (he : (mm_cd M)[j]? = some en) (hx : pm_x xs en j lv st h = some (.inl (j', lv', st', h'))) (k : pm_G p l e R s m args below meth c Q M b x ta D h0 j' lv' st' h') (hm : pm_le h0 h) (hcap : (ph_s h').length - (ph_s h0).length ≤ R.cells ∧ pm_sz h' - pm_sz h0 ≤ R.slots) (hi : pi_i en = .newarray t9) : pm_G p l e R s m args below meth c Q M b x ta D h0 j lv st h := by
  obtain ⟨hx1, hb, hml, hown, hts, hK, hsz, hfr, hlo, hnm, hxr, hcM, hT⟩ := C
  have hck := pck_at hcM he (pm_x_live hx)
  have hd := pck_d1 hck (i := .newarray t9) hi rfl rfl
  have hnx := pck_nx hck (i := .newarray t9) hi rfl rfl rfl
  have hpc := pm_pc_at he
  have hc2 := hck
  simp only [pm_ck, hi, Bool.and_eq_true, decide_eq_true_eq] at hc2
  replace hc2 := hc2.2
  unfold pm_x at hx
  rw [hi] at hx
  simp only [pm_nwa, pm_nx] at hx
  split at hx
  · rename_i n r
    split at hx
    · cases hx
    · rename_i h8
      simp only [not_or] at h8
      obtain ⟨u1, u2⟩ := h8
      cases hx
      intro H locs ls hP hS hl
      rw [hpc]
      obtain ⟨m1, m2⟩ := hm
      simp only [ph_s, pm_sz, List.length_append, List.length_singleton, List.map_append, List.map_cons, List.map_nil, List.sum_append, List.sum_cons, List.sum_nil] at hcap m1 m2
      have hA : ∀ q, s.heap.size ≤ q → b ≤ q := fun q hq => Nat.le_trans (by rw [hsz]; omega) hq
      generalize hdd : pi_d en = dd at hc2 k
      have tyq : ∀ (ty : FieldType) (k1 : Nat), (pm_tys ta)[k1]? = some (ta k1, ty) → (∀ cA : ClassId, va_RA s cA ty → s.vm.findClass ("[" ++ ty.toString) = some cA) → ∀ cA : ClassId, va_K D vwCl (pm_tys ta ++ [(cA, ty)]) s → cA = ta k1 := by
        intro ty k1 hk1 hra cA hK2
        have a1 := hra _ (hK.1.2 k1 _ hk1).2
        have a2 := hra _ (hK2.2 5 (cA, ty) rfl).2
        exact Option.some.inj (a2.symm.trans a1)
      rcases dd with _ | _ | _ | _ | dd
      · cases hc2
        refine va_newa (atype := .int) (a0 := (n.toNatClampNeg, .inl (fun _ => 0))) hx1 hb (hts _ pm_ac_int) rfl hK.1 hP (pm_D b x ta h) hS hA (fun _ => rfl) u1 rfl (by show _ * 4 ≤ _; omega) (by simp only [ph_s]; omega) (by simp only [ph_s, pm_sz]; omega) hd (fun q cA H1 hK2 hP1 hD1 hS1 => ?_)
        have := tyq .int 0 rfl (fun _ h9 => h9) cA hK2
        subst this
        exact pm_alloc hsz ⟨m1, m2⟩ rfl (by simp only [pm_e, ph_i, pm_uf_eq]) (fun p' q' hp => pm_e_new p' q' hp) k hl hnx q H1 hP1 hD1 hS1
      · cases hc2
        refine va_newa (atype := .boolean) (a0 := (n.toNatClampNeg, .inl (fun _ => 0))) hx1 hb (hts _ pm_ac_boolean) rfl hK.1 hP (pm_D b x ta h) hS hA (fun _ => rfl) u1 rfl (by show _ * 1 ≤ _; omega) (by simp only [ph_s]; omega) (by simp only [ph_s, pm_sz]; omega) hd (fun q cA H1 hK2 hP1 hD1 hS1 => ?_)
        have := tyq .boolean 1 rfl (fun _ h9 => h9) cA hK2
        subst this
        exact pm_alloc hsz ⟨m1, m2⟩ rfl (by simp only [pm_e, ph_i, pm_uf_eq]) (fun p' q' hp => pm_e_new p' q' hp) k hl hnx q H1 hP1 hD1 hS1
      · cases hc2
        refine va_newa (atype := .byte) (a0 := (n.toNatClampNeg, .inl (fun _ => 0))) hx1 hb (hts _ pm_ac_byte) rfl hK.1 hP (pm_D b x ta h) hS hA (fun _ => rfl) u1 rfl (by show _ * 1 ≤ _; omega) (by simp only [ph_s]; omega) (by simp only [ph_s, pm_sz]; omega) hd (fun q cA H1 hK2 hP1 hD1 hS1 => ?_)
        have := tyq .byte 2 rfl (fun _ h9 => h9) cA hK2
        subst this
        exact pm_alloc hsz ⟨m1, m2⟩ rfl (by simp only [pm_e, ph_i, pm_uf_eq]) (fun p' q' hp => pm_e_new p' q' hp) k hl hnx q H1 hP1 hD1 hS1
      · cases hc2
        refine va_newa (atype := .long) (a0 := (n.toNatClampNeg, .inr (.inl (fun _ => 0)))) hx1 hb (hts _ pm_ac_long) rfl hK.1 hP (pm_D b x ta h) hS hA (fun _ => rfl) u1 rfl (by show _ * 8 ≤ _; omega) (by simp only [ph_s]; omega) (by simp only [ph_s, pm_sz]; omega) hd (fun q cA H1 hK2 hP1 hD1 hS1 => ?_)
        have := tyq .long 3 rfl (fun _ h9 => h9) cA hK2
        subst this
        exact pm_alloc hsz ⟨m1, m2⟩ rfl (by simp only [pm_e, ph_l, pm_uf_eq]) (fun p' q' hp => pm_e_new p' q' hp) k hl hnx q H1 hP1 hD1 hS1
      · exact absurd hc2 (by simp [pm_aty])
  · cases hx
theorem pm_s_anewarray {idx : Nat} (C : pm_C p R s m args meth c T M b x ta D xs h0) (he : (mm_cd M)[j]? = some en) (hx : pm_x xs en j lv st h = some (.inl (j', lv', st', h'))) (k : pm_G p l e R s m args below meth c Q M b x ta D h0 j' lv' st' h') (hm : pm_le h0 h) (hcap : (ph_s h').length - (ph_s h0).length ≤ R.cells ∧ pm_sz h' - pm_sz h0 ≤ R.slots) (hi : pi_i en = .anewarray idx) : pm_G p l e R s m args below meth c Q M b x ta D h0 j lv st h := by
  obtain ⟨hx1, hb, hml, hown, hts, hK, hsz, hfr, hlo, hnm, hxr, hcM, hT⟩ := C
  have hck := pck_at hcM he (pm_x_live hx)
  have hd := pck_d1 hck (i := .anewarray idx) hi rfl rfl
  have hnx := pck_nx hck (i := .anewarray idx) hi rfl rfl rfl
  have hpc := pm_pc_at he
  have hc2 := hck
  simp only [pm_ck, hi, Bool.and_eq_true, decide_eq_true_eq] at hc2
  replace hc2 := hc2.2
  unfold pm_x at hx
  rw [hi] at hx
  simp only [pm_nwa, pm_nx] at hx
  split at hx
  · rename_i n r
    split at hx
    · cases hx
    · rename_i h8
      simp only [not_or] at h8
      obtain ⟨u1, u2⟩ := h8
      cases hx
      intro H locs ls hP hS hl
      rw [hpc]
      obtain ⟨m1, m2⟩ := hm
      simp only [ph_s, pm_sz, List.length_append, List.length_singleton, List.map_append, List.map_cons, List.map_nil, List.sum_append, List.sum_cons, List.sum_nil] at hcap m1 m2
      have hA : ∀ q, s.heap.size ≤ q → b ≤ q := fun q hq => Nat.le_trans (by rw [hsz]; omega) hq
      refine va_newq (C := RX6) hx1 hb hown (hts _ (pm_has_in hc2)) hK.2.2.1 hK.1 hP (pm_D b x ta h) hS hA u1 rfl (by omega) (by simp only [ph_s]; omega) (by simp only [ph_s, pm_sz]; omega) hd (fun q cA H1 hK2 hP1 hD1 hS1 => ?_)
      have : cA = ta 4 := by
        obtain ⟨_, _, -, -, -, a1⟩ := (hK.1.2 4 (ta 4, .object RX6) rfl).2
        obtain ⟨_, _, -, -, -, a2⟩ := (hK2.2 5 (cA, .object RX6) rfl).2
        exact Option.some.inj (a2.symm.trans a1)
      subst this
      refine pm_alloc hsz ⟨m1, m2⟩ rfl ?_ (fun p' q' hp => pm_e_new p' q' hp) k hl hnx q H1 hP1 hD1 hS1
      simp only [pm_e, ph_r, pm_uf_eq]
      rfl
  · cases hx
end PMN
