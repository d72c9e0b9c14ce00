/-! THE CONTEXT of a method's body -/
def pm_tys (ta : Nat → ClassId) : List (ClassId × FieldType) := [(ta 0, .int), (ta 1, .boolean), (ta 2, .byte), (ta 3, .long), (ta 4, .object RX6)]
def pm_Ext (b : Nat) (x : Nat → Value) (xs : PmX) (U : State) (H : Heap) : Prop :=
  (∃ adK adV : Nat → Nat, vk_S 6 pm_JL pm_JB adK adV (fun q => b ≤ q) U H ∧ ∀ i, i < 6 → x i = .ref (adK i) ∧ x (16 + i) = .ref (adV i) ∧ vk_R RX1 (pm_SI.getD i 0) (pm_ST.getD i "") (adK i) U) ∧
  (∃ t : Nat, x 40 = .ref t ∧ va_T .long t 6 (fun j => .long (pm_LW.getD j 0)) (fun q => b ≤ q) U H ∧ va_Z "ButterflyCode" "LOWER" "[J" (.ref t) (fun q => b ≤ q) U H) ∧
  (∀ q, xs = some q → ∃ t : Nat, x 41 = .ref t ∧ va_X t q.1 q.2 U H ∧ t < b ∧ t < H.size) ∧
  va_Z "java/lang/String" "COMPACT_STRINGS" "Z" (.int 1) (fun q => b ≤ q) U H ∧
  va_Z "jdk/internal/util/Preconditions" "SIOOBE_FORMATTER" "Ljava/util/function/BiFunction;" (x 60) (fun q => b ≤ q) U H
def pm_K (b : Nat) (x : Nat → Value) (ta : Nat → ClassId) (D : va_G) (xs : PmX) (U : State) : Prop :=
  va_K D vwCl (pm_tys ta) U ∧ (∀ w ∈ pm_nl, va_Nw w U) ∧ va_AO RX6 U ∧ pm_Ext b x xs U U.heap
theorem pm_nl_is {w : Cond} (h : w ∈ pm_nl) : ∃ a i y k, w = .methodLinkNest a i y k := by
  have h1 := (List.mem_filter.mp h).2
  cases w <;> first | exact ⟨_, _, _, _, rfl⟩ | (exact absurd (show false = true from h1) (by decide))
theorem pm_Ext.to {b : Nat} {x : Nat → Value} {xs : PmX} {u U : State} {H H1 : Heap} (hW : u.WarmedH U.vm) (hq : ∀ a : Nat, a < H.size → ¬ b ≤ a → H1[a]? = H[a]?) (hz : H.size ≤ H1.size) (h : pm_Ext b x xs u H) : pm_Ext b x xs U H1 := by
  obtain ⟨⟨adK, adV, h1, h2⟩, ⟨t, h3, h4, h5⟩, h6, h10, h11⟩ := h
  exact ⟨⟨adK, adV, (h1.moved hW.alike).kept hq, fun i hi => ⟨(h2 i hi).1, (h2 i hi).2.1, (h2 i hi).2.2.warm hW⟩⟩, ⟨t, h3, (h4.moved hW.alike).kept hq, (h5.moved hW.alike).kept hq⟩,
    fun q hq9 => (by obtain ⟨t2, g6, h7, h8, h9⟩ := h6 q hq9; exact ⟨t2, g6, (h7.moved hW.alike).kept (hq t2 h9 (Nat.not_le.mpr h8)), h8, Nat.lt_of_lt_of_le h9 hz⟩), (h10.moved hW.alike).kept hq, (h11.moved hW.alike).kept hq⟩
theorem pm_K.to {b : Nat} {x : Nat → Value} {ta : Nat → ClassId} {D : va_G} {xs : PmX} {u U : State} {H : Heap} {locs : List Loc} (hW : u.WarmedH U.vm) (hU : U.heap = H) (hS : va_S (fun q => b ≤ q) u.heap H locs) (h : pm_K b x ta D xs u) : pm_K b x ta D xs U := by
  obtain ⟨h1, h2, h3, h4⟩ := h
  refine ⟨va_K.moved hW.alike h1, fun w hw => ?_, va_AO.moved hW.alike h3, ?_⟩
  · obtain ⟨a, i, y, k, rfl⟩ := pm_nl_is hw
    exact va_Nw.warmM hW (h2 _ hw)
  · rw [hU]
    exact h4.to hW hS.2.1 hS.1
theorem pm_K.no {b : Nat} {x : Nat → Value} {ta : Nat → ClassId} {D : va_G} {xs : PmX} {u : State} (h : pm_K b x ta D xs u) : pm_K b x ta D none u := ⟨h.1, h.2.1, h.2.2.1, h.2.2.2.1, h.2.2.2.2.1, (fun q hq => by cases hq), h.2.2.2.2.2.2⟩
def pm_C (p : Program) (R : Room) (s : State) (m : MethodId) (args : Array Value) (meth : Method) (c : Code) (T : List PmM) (M : PmM) (b : Nat) (x : Nat → Value) (ta : Nat → ClassId) (D : va_G) (xs : PmX) (h0 : PmH) : Prop :=
  p.tables.exec = Jvm.exec ∧ c.code = mm_by M ∧ c.maxLocals = mm_ml M ∧ s.vm.findClass (mm_nm M).cls = some m.cls ∧ (∀ w ∈ pm_ws, w.before args s = true) ∧ pm_K b x ta D xs s ∧ s.heap.size = b + (ph_s h0).length ∧ mm_fr M ≤ R.frames ∧ mm_lo M ≤ R.locals ∧ ((mm_nm M).name = "<init>" → meth.name = "<init>") ∧ (∀ k, x k = .null ∨ ∃ a, x k = .ref a) ∧ pm_ckI T M = true ∧ pm_ok T
def pm_G (p : Program) (l : Launch) (e : Env) (R : Room) (s : State) (m : MethodId) (args : Array Value) (below : List Frame) (meth : Method) (c : Code) (Q : State → Prop) (M : PmM) (b : Nat) (x : Nat → Value) (ta : Nat → ClassId) (D : va_G) (h0 : PmH) (j : Nat) (lv : PmL) (st : List Value) (h : PmH) : Prop :=
  ∀ (H : Heap) (locs : List Loc) (ls : Array Slot), va_P D vwCl (pm_w b x ta h) H → va_S (fun q => b ≤ q) s.heap H locs → pm_lv b x (mm_ml M) lv ls →
    W p l e R s m args below meth c H locs ((ph_s h).length - (ph_s h0).length) (pm_sz h - pm_sz h0) Q (F0 m (pm_pc (mm_cd M) j) ls (st.map (pm_v b x)))
theorem pm_xc {x : Nat → Value} (h : ∀ k, x k = .null ∨ ∃ a, x k = .ref a) (k : Nat) : (x k).category = 1 := by
  rcases h k with h | ⟨a, h⟩ <;> rw [h] <;> rfl
section PMS
variable {p : Program} {l : Launch} {e : Env} {R : Room} {s : State} {m : MethodId} {args : Array Value} {below : List Frame} {meth : Method} {c : Code} {Q : State → Prop} {T : List PmM} {M : PmM} {b : Nat} {x : Nat → Value} {ta : Nat → ClassId} {D : va_G} {xs : PmX} {h0 : PmH} {j j' : Nat} {lv lv' : PmL} {st st' : List Value} {h h' : PmH} {en : PmI}

theorem pm_s_iconst {n : Int} (C : pm_C p R s m args meth c T M b x ta D xs h0) (he : (mm_cd M)[j]? = some en) (hx : pm_x xs en j lv st h = some (.inl (j', lv', st', h'))) (k : pm_G p l e R s m args below meth c Q M b x ta D h0 j' lv' st' h') (hi : pi_i en = .iconst n) : pm_G p l e R s m args below meth c Q M b x ta D h0 j lv st h := by
  obtain ⟨hx1, hb, hml, hown, hts, hK, hsz, hfr, hlo, hnm, hxr, hcM, hT⟩ := C
  have hck := pck_at hcM he (pm_x_live hx)
  have hd := pck_d1 hck (i := .iconst n) hi rfl rfl
  have hnx := pck_nx hck (i := .iconst n) hi rfl rfl rfl
  have hpc := pm_pc_at he
  unfold pm_x at hx
  rw [hi] at hx
  simp only [pm_nx] at hx
  cases hx
  intro H locs ls hP hS hl
  have kk := k H locs ls hP hS hl
  rw [hnx] at kk
  rw [hpc]
  exact lv_iconst hx1 hb hd rfl kk
theorem pm_s_bipush {n : Int} (C : pm_C p R s m args meth c T M b x ta D xs h0) (he : (mm_cd M)[j]? = some en) (hx : pm_x xs en j lv st h = some (.inl (j', lv', st', h'))) (k : pm_G p l e R s m args below meth c Q M b x ta D h0 j' lv' st' h') (hi : pi_i en = .bipush n) : pm_G p l e R s m args below meth c Q M b x ta D h0 j lv st h := by
  obtain ⟨hx1, hb, hml, hown, hts, hK, hsz, hfr, hlo, hnm, hxr, hcM, hT⟩ := C
  have hck := pck_at hcM he (pm_x_live hx)
  have hd := pck_d1 hck (i := .bipush n) hi rfl rfl
  have hnx := pck_nx hck (i := .bipush n) hi rfl rfl rfl
  have hpc := pm_pc_at he
  unfold pm_x at hx
  rw [hi] at hx
  simp only [pm_nx] at hx
  cases hx
  intro H locs ls hP hS hl
  have kk := k H locs ls hP hS hl
  rw [hnx] at kk
  rw [hpc]
  exact lv_bipush hx1 hb hd rfl kk
theorem pm_s_sipush {n : Int} (C : pm_C p R s m args meth c T M b x ta D xs h0) (he : (mm_cd M)[j]? = some en) (hx : pm_x xs en j lv st h = some (.inl (j', lv', st', h'))) (k : pm_G p l e R s m args below meth c Q M b x ta D h0 j' lv' st' h') (hi : pi_i en = .sipush n) : pm_G p l e R s m args below meth c Q M b x ta D h0 j lv st h := by
  obtain ⟨hx1, hb, hml, hown, hts, hK, hsz, hfr, hlo, hnm, hxr, hcM, hT⟩ := C
  have hck := pck_at hcM he (pm_x_live hx)
  have hd := pck_d1 hck (i := .sipush n) hi rfl rfl
  have hnx := pck_nx hck (i := .sipush n) hi rfl rfl rfl
  have hpc := pm_pc_at he
  unfold pm_x at hx
  rw [hi] at hx
  simp only [pm_nx] at hx
  cases hx
  intro H locs ls hP hS hl
  have kk := k H locs ls hP hS hl
  rw [hnx] at kk
  rw [hpc]
  exact lv_sipush hx1 hb hd rfl kk
theorem pm_s_lconst {n : Fin 2} (C : pm_C p R s m args meth c T M b x ta D xs h0) (he : (mm_cd M)[j]? = some en) (hx : pm_x xs en j lv st h = some (.inl (j', lv', st', h'))) (k : pm_G p l e R s m args below meth c Q M b x ta D h0 j' lv' st' h') (hi : pi_i en = .lconst n) : pm_G p l e R s m args below meth c Q M b x ta D h0 j lv st h := by
  obtain ⟨hx1, hb, hml, hown, hts, hK, hsz, hfr, hlo, hnm, hxr, hcM, hT⟩ := C
  have hck := pck_at hcM he (pm_x_live hx)
  have hd := pck_d1 hck (i := .lconst n) hi rfl rfl
  have hnx := pck_nx hck (i := .lconst n) hi rfl rfl rfl
  have hpc := pm_pc_at he
  unfold pm_x at hx
  rw [hi] at hx
  simp only [pm_nx] at hx
  cases hx
  intro H locs ls hP hS hl
  have kk := k H locs ls hP hS hl
  rw [hnx] at kk
  rw [hpc]
  exact lv_lconst hx1 hb hd rfl kk
theorem pm_s_iadd (C : pm_C p R s m args meth c T M b x ta D xs h0) (he : (mm_cd M)[j]? = some en) (hx : pm_x xs en j lv st h = some (.inl (j', lv', st', h'))) (k : pm_G p l e R s m args below meth c Q M b x ta D h0 j' lv' st' h') (hi : pi_i en = .iadd) : pm_G p l e R s m args below meth c Q M b x ta D h0 j lv st h := by
  obtain ⟨hx1, hb, hml, hown, hts, hK, hsz, hfr, hlo, hnm, hxr, hcM, hT⟩ := C
  have hck := pck_at hcM he (pm_x_live hx)
  have hd := pck_d1 hck (i := .iadd) hi rfl rfl
  have hnx := pck_nx hck (i := .iadd) hi rfl rfl rfl
  have hpc := pm_pc_at he
  unfold pm_x at hx
  rw [hi] at hx
  simp only [pm_ii, pm_nx] at hx
  split at hx
  · cases hx
    intro H locs ls hP hS hl
    have kk := k H locs ls hP hS hl
    rw [hnx] at kk
    rw [hpc]
    exact lv_iadd hx1 hb hd kk
  · cases hx
theorem pm_s_isub (C : pm_C p R s m args meth c T M b x ta D xs h0) (he : (mm_cd M)[j]? = some en) (hx : pm_x xs en j lv st h = some (.inl (j', lv', st', h'))) (k : pm_G p l e R s m args below meth c Q M b x ta D h0 j' lv' st' h') (hi : pi_i en = .isub) : pm_G p l e R s m args below meth c Q M b x ta D h0 j lv st h := by
  obtain ⟨hx1, hb, hml, hown, hts, hK, hsz, hfr, hlo, hnm, hxr, hcM, hT⟩ := C
  have hck := pck_at hcM he (pm_x_live hx)
  have hd := pck_d1 hck (i := .isub) hi rfl rfl
  have hnx := pck_nx hck (i := .isub) hi rfl rfl rfl
  have hpc := pm_pc_at he
  unfold pm_x at hx
  rw [hi] at hx
  simp only [pm_ii, pm_nx] at hx
  split at hx
  · cases hx
    intro H locs ls hP hS hl
    have kk := k H locs ls hP hS hl
    rw [hnx] at kk
    rw [hpc]
    exact lv_isub hx1 hb hd kk
  · cases hx
theorem pm_s_imul (C : pm_C p R s m args meth c T M b x ta D xs h0) (he : (mm_cd M)[j]? = some en) (hx : pm_x xs en j lv st h = some (.inl (j', lv', st', h'))) (k : pm_G p l e R s m args below meth c Q M b x ta D h0 j' lv' st' h') (hi : pi_i en = .imul) : pm_G p l e R s m args below meth c Q M b x ta D h0 j lv st h := by
  obtain ⟨hx1, hb, hml, hown, hts, hK, hsz, hfr, hlo, hnm, hxr, hcM, hT⟩ := C
  have hck := pck_at hcM he (pm_x_live hx)
  have hd := pck_d1 hck (i := .imul) hi rfl rfl
  have hnx := pck_nx hck (i := .imul) hi rfl rfl rfl
  have hpc := pm_pc_at he
  unfold pm_x at hx
  rw [hi] at hx
  simp only [pm_ii, pm_nx] at hx
  split at hx
  · cases hx
    intro H locs ls hP hS hl
    have kk := k H locs ls hP hS hl
    rw [hnx] at kk
    rw [hpc]
    exact lv_imul hx1 hb hd kk
  · cases hx
theorem pm_s_ishl (C : pm_C p R s m args meth c T M b x ta D xs h0) (he : (mm_cd M)[j]? = some en) (hx : pm_x xs en j lv st h = some (.inl (j', lv', st', h'))) (k : pm_G p l e R s m args below meth c Q M b x ta D h0 j' lv' st' h') (hi : pi_i en = .ishl) : pm_G p l e R s m args below meth c Q M b x ta D h0 j lv st h := by
  obtain ⟨hx1, hb, hml, hown, hts, hK, hsz, hfr, hlo, hnm, hxr, hcM, hT⟩ := C
  have hck := pck_at hcM he (pm_x_live hx)
  have hd := pck_d1 hck (i := .ishl) hi rfl rfl
  have hnx := pck_nx hck (i := .ishl) hi rfl rfl rfl
  have hpc := pm_pc_at he
  unfold pm_x at hx
  rw [hi] at hx
  simp only [pm_ii, pm_nx] at hx
  split at hx
  · cases hx
    intro H locs ls hP hS hl
    have kk := k H locs ls hP hS hl
    rw [hnx] at kk
    rw [hpc]
    exact lv_ishl hx1 hb hd kk
  · cases hx
theorem pm_s_ishr (C : pm_C p R s m args meth c T M b x ta D xs h0) (he : (mm_cd M)[j]? = some en) (hx : pm_x xs en j lv st h = some (.inl (j', lv', st', h'))) (k : pm_G p l e R s m args below meth c Q M b x ta D h0 j' lv' st' h') (hi : pi_i en = .ishr) : pm_G p l e R s m args below meth c Q M b x ta D h0 j lv st h := by
  obtain ⟨hx1, hb, hml, hown, hts, hK, hsz, hfr, hlo, hnm, hxr, hcM, hT⟩ := C
  have hck := pck_at hcM he (pm_x_live hx)
  have hd := pck_d1 hck (i := .ishr) hi rfl rfl
  have hnx := pck_nx hck (i := .ishr) hi rfl rfl rfl
  have hpc := pm_pc_at he
  unfold pm_x at hx
  rw [hi] at hx
  simp only [pm_ii, pm_nx] at hx
  split at hx
  · cases hx
    intro H locs ls hP hS hl
    have kk := k H locs ls hP hS hl
    rw [hnx] at kk
    rw [hpc]
    exact lv_ishr hx1 hb hd kk
  · cases hx
theorem pm_s_iand (C : pm_C p R s m args meth c T M b x ta D xs h0) (he : (mm_cd M)[j]? = some en) (hx : pm_x xs en j lv st h = some (.inl (j', lv', st', h'))) (k : pm_G p l e R s m args below meth c Q M b x ta D h0 j' lv' st' h') (hi : pi_i en = .iand) : pm_G p l e R s m args below meth c Q M b x ta D h0 j lv st h := by
  obtain ⟨hx1, hb, hml, hown, hts, hK, hsz, hfr, hlo, hnm, hxr, hcM, hT⟩ := C
  have hck := pck_at hcM he (pm_x_live hx)
  have hd := pck_d1 hck (i := .iand) hi rfl rfl
  have hnx := pck_nx hck (i := .iand) hi rfl rfl rfl
  have hpc := pm_pc_at he
  unfold pm_x at hx
  rw [hi] at hx
  simp only [pm_ii, pm_nx] at hx
  split at hx
  · cases hx
    intro H locs ls hP hS hl
    have kk := k H locs ls hP hS hl
    rw [hnx] at kk
    rw [hpc]
    exact lv_iand hx1 hb hd kk
  · cases hx
theorem pm_s_ior (C : pm_C p R s m args meth c T M b x ta D xs h0) (he : (mm_cd M)[j]? = some en) (hx : pm_x xs en j lv st h = some (.inl (j', lv', st', h'))) (k : pm_G p l e R s m args below meth c Q M b x ta D h0 j' lv' st' h') (hi : pi_i en = .ior) : pm_G p l e R s m args below meth c Q M b x ta D h0 j lv st h := by
  obtain ⟨hx1, hb, hml, hown, hts, hK, hsz, hfr, hlo, hnm, hxr, hcM, hT⟩ := C
  have hck := pck_at hcM he (pm_x_live hx)
  have hd := pck_d1 hck (i := .ior) hi rfl rfl
  have hnx := pck_nx hck (i := .ior) hi rfl rfl rfl
  have hpc := pm_pc_at he
  unfold pm_x at hx
  rw [hi] at hx
  simp only [pm_ii, pm_nx] at hx
  split at hx
  · cases hx
    intro H locs ls hP hS hl
    have kk := k H locs ls hP hS hl
    rw [hnx] at kk
    rw [hpc]
    exact lv_ior hx1 hb hd kk
  · cases hx
theorem pm_s_ixor (C : pm_C p R s m args meth c T M b x ta D xs h0) (he : (mm_cd M)[j]? = some en) (hx : pm_x xs en j lv st h = some (.inl (j', lv', st', h'))) (k : pm_G p l e R s m args below meth c Q M b x ta D h0 j' lv' st' h') (hi : pi_i en = .ixor) : pm_G p l e R s m args below meth c Q M b x ta D h0 j lv st h := by
  obtain ⟨hx1, hb, hml, hown, hts, hK, hsz, hfr, hlo, hnm, hxr, hcM, hT⟩ := C
  have hck := pck_at hcM he (pm_x_live hx)
  have hd := pck_d1 hck (i := .ixor) hi rfl rfl
  have hnx := pck_nx hck (i := .ixor) hi rfl rfl rfl
  have hpc := pm_pc_at he
  unfold pm_x at hx
  rw [hi] at hx
  simp only [pm_ii, pm_nx] at hx
  split at hx
  · cases hx
    intro H locs ls hP hS hl
    have kk := k H locs ls hP hS hl
    rw [hnx] at kk
    rw [hpc]
    exact lv_ixor hx1 hb hd kk
  · cases hx
theorem pm_s_iushr (C : pm_C p R s m args meth c T M b x ta D xs h0) (he : (mm_cd M)[j]? = some en) (hx : pm_x xs en j lv st h = some (.inl (j', lv', st', h'))) (k : pm_G p l e R s m args below meth c Q M b x ta D h0 j' lv' st' h') (hi : pi_i en = .iushr) : pm_G p l e R s m args below meth c Q M b x ta D h0 j lv st h := by
  obtain ⟨hx1, hb, hml, hown, hts, hK, hsz, hfr, hlo, hnm, hxr, hcM, hT⟩ := C
  have hck := pck_at hcM he (pm_x_live hx)
  have hd := pck_d1 hck (i := .iushr) hi rfl rfl
  have hnx := pck_nx hck (i := .iushr) hi rfl rfl rfl
  have hpc := pm_pc_at he
  unfold pm_x at hx
  rw [hi] at hx
  simp only [pm_ii, pm_nx] at hx
  split at hx
  · cases hx
    intro H locs ls hP hS hl
    have kk := k H locs ls hP hS hl
    rw [hnx] at kk
    rw [hpc]
    exact lv_iushr hx1 hb hd rfl kk
  · cases hx
theorem pm_s_ladd (C : pm_C p R s m args meth c T M b x ta D xs h0) (he : (mm_cd M)[j]? = some en) (hx : pm_x xs en j lv st h = some (.inl (j', lv', st', h'))) (k : pm_G p l e R s m args below meth c Q M b x ta D h0 j' lv' st' h') (hi : pi_i en = .ladd) : pm_G p l e R s m args below meth c Q M b x ta D h0 j lv st h := by
  obtain ⟨hx1, hb, hml, hown, hts, hK, hsz, hfr, hlo, hnm, hxr, hcM, hT⟩ := C
  have hck := pck_at hcM he (pm_x_live hx)
  have hd := pck_d1 hck (i := .ladd) hi rfl rfl
  have hnx := pck_nx hck (i := .ladd) hi rfl rfl rfl
  have hpc := pm_pc_at he
  unfold pm_x at hx
  rw [hi] at hx
  simp only [pm_ll, pm_nx] at hx
  split at hx
  · cases hx
    intro H locs ls hP hS hl
    have kk := k H locs ls hP hS hl
    rw [hnx] at kk
    rw [hpc]
    exact lv_ladd hx1 hb hd kk
  · cases hx
theorem pm_s_lsub (C : pm_C p R s m args meth c T M b x ta D xs h0) (he : (mm_cd M)[j]? = some en) (hx : pm_x xs en j lv st h = some (.inl (j', lv', st', h'))) (k : pm_G p l e R s m args below meth c Q M b x ta D h0 j' lv' st' h') (hi : pi_i en = .lsub) : pm_G p l e R s m args below meth c Q M b x ta D h0 j lv st h := by
  obtain ⟨hx1, hb, hml, hown, hts, hK, hsz, hfr, hlo, hnm, hxr, hcM, hT⟩ := C
  have hck := pck_at hcM he (pm_x_live hx)
  have hd := pck_d1 hck (i := .lsub) hi rfl rfl
  have hnx := pck_nx hck (i := .lsub) hi rfl rfl rfl
  have hpc := pm_pc_at he
  unfold pm_x at hx
  rw [hi] at hx
  simp only [pm_ll, pm_nx] at hx
  split at hx
  · cases hx
    intro H locs ls hP hS hl
    have kk := k H locs ls hP hS hl
    rw [hnx] at kk
    rw [hpc]
    exact lv_lsub hx1 hb hd kk
  · cases hx
theorem pm_s_lmul (C : pm_C p R s m args meth c T M b x ta D xs h0) (he : (mm_cd M)[j]? = some en) (hx : pm_x xs en j lv st h = some (.inl (j', lv', st', h'))) (k : pm_G p l e R s m args below meth c Q M b x ta D h0 j' lv' st' h') (hi : pi_i en = .lmul) : pm_G p l e R s m args below meth c Q M b x ta D h0 j lv st h := by
  obtain ⟨hx1, hb, hml, hown, hts, hK, hsz, hfr, hlo, hnm, hxr, hcM, hT⟩ := C
  have hck := pck_at hcM he (pm_x_live hx)
  have hd := pck_d1 hck (i := .lmul) hi rfl rfl
  have hnx := pck_nx hck (i := .lmul) hi rfl rfl rfl
  have hpc := pm_pc_at he
  unfold pm_x at hx
  rw [hi] at hx
  simp only [pm_ll, pm_nx] at hx
  split at hx
  · cases hx
    intro H locs ls hP hS hl
    have kk := k H locs ls hP hS hl
    rw [hnx] at kk
    rw [hpc]
    exact lv_lmul hx1 hb hd kk
  · cases hx
theorem pm_s_land (C : pm_C p R s m args meth c T M b x ta D xs h0) (he : (mm_cd M)[j]? = some en) (hx : pm_x xs en j lv st h = some (.inl (j', lv', st', h'))) (k : pm_G p l e R s m args below meth c Q M b x ta D h0 j' lv' st' h') (hi : pi_i en = .land) : pm_G p l e R s m args below meth c Q M b x ta D h0 j lv st h := by
  obtain ⟨hx1, hb, hml, hown, hts, hK, hsz, hfr, hlo, hnm, hxr, hcM, hT⟩ := C
  have hck := pck_at hcM he (pm_x_live hx)
  have hd := pck_d1 hck (i := .land) hi rfl rfl
  have hnx := pck_nx hck (i := .land) hi rfl rfl rfl
  have hpc := pm_pc_at he
  unfold pm_x at hx
  rw [hi] at hx
  simp only [pm_ll, pm_nx] at hx
  split at hx
  · cases hx
    intro H locs ls hP hS hl
    have kk := k H locs ls hP hS hl
    rw [hnx] at kk
    rw [hpc]
    exact lv_land hx1 hb hd kk
  · cases hx
theorem pm_s_lor (C : pm_C p R s m args meth c T M b x ta D xs h0) (he : (mm_cd M)[j]? = some en) (hx : pm_x xs en j lv st h = some (.inl (j', lv', st', h'))) (k : pm_G p l e R s m args below meth c Q M b x ta D h0 j' lv' st' h') (hi : pi_i en = .lor) : pm_G p l e R s m args below meth c Q M b x ta D h0 j lv st h := by
  obtain ⟨hx1, hb, hml, hown, hts, hK, hsz, hfr, hlo, hnm, hxr, hcM, hT⟩ := C
  have hck := pck_at hcM he (pm_x_live hx)
  have hd := pck_d1 hck (i := .lor) hi rfl rfl
  have hnx := pck_nx hck (i := .lor) hi rfl rfl rfl
  have hpc := pm_pc_at he
  unfold pm_x at hx
  rw [hi] at hx
  simp only [pm_ll, pm_nx] at hx
  split at hx
  · cases hx
    intro H locs ls hP hS hl
    have kk := k H locs ls hP hS hl
    rw [hnx] at kk
    rw [hpc]
    exact lv_lor hx1 hb hd kk
  · cases hx
theorem pm_s_lxor (C : pm_C p R s m args meth c T M b x ta D xs h0) (he : (mm_cd M)[j]? = some en) (hx : pm_x xs en j lv st h = some (.inl (j', lv', st', h'))) (k : pm_G p l e R s m args below meth c Q M b x ta D h0 j' lv' st' h') (hi : pi_i en = .lxor) : pm_G p l e R s m args below meth c Q M b x ta D h0 j lv st h := by
  obtain ⟨hx1, hb, hml, hown, hts, hK, hsz, hfr, hlo, hnm, hxr, hcM, hT⟩ := C
  have hck := pck_at hcM he (pm_x_live hx)
  have hd := pck_d1 hck (i := .lxor) hi rfl rfl
  have hnx := pck_nx hck (i := .lxor) hi rfl rfl rfl
  have hpc := pm_pc_at he
  unfold pm_x at hx
  rw [hi] at hx
  simp only [pm_ll, pm_nx] at hx
  split at hx
  · cases hx
    intro H locs ls hP hS hl
    have kk := k H locs ls hP hS hl
    rw [hnx] at kk
    rw [hpc]
    exact lv_lxor hx1 hb hd kk
  · cases hx
theorem pm_s_lcmp (C : pm_C p R s m args meth c T M b x ta D xs h0) (he : (mm_cd M)[j]? = some en) (hx : pm_x xs en j lv st h = some (.inl (j', lv', st', h'))) (k : pm_G p l e R s m args below meth c Q M b x ta D h0 j' lv' st' h') (hi : pi_i en = .lcmp) : pm_G p l e R s m args below meth c Q M b x ta D h0 j lv st h := by
  obtain ⟨hx1, hb, hml, hown, hts, hK, hsz, hfr, hlo, hnm, hxr, hcM, hT⟩ := C
  have hck := pck_at hcM he (pm_x_live hx)
  have hd := pck_d1 hck (i := .lcmp) hi rfl rfl
  have hnx := pck_nx hck (i := .lcmp) hi rfl rfl rfl
  have hpc := pm_pc_at he
  unfold pm_x at hx
  rw [hi] at hx
  simp only [pm_ll, pm_nx] at hx
  split at hx
  · cases hx
    intro H locs ls hP hS hl
    have kk := k H locs ls hP hS hl
    rw [hnx] at kk
    rw [hpc]
    exact W.lcmp hx1 hb hd kk
  · cases hx
theorem pm_s_lshl (C : pm_C p R s m args meth c T M b x ta D xs h0) (he : (mm_cd M)[j]? = some en) (hx : pm_x xs en j lv st h = some (.inl (j', lv', st', h'))) (k : pm_G p l e R s m args below meth c Q M b x ta D h0 j' lv' st' h') (hi : pi_i en = .lshl) : pm_G p l e R s m args below meth c Q M b x ta D h0 j lv st h := by
  obtain ⟨hx1, hb, hml, hown, hts, hK, hsz, hfr, hlo, hnm, hxr, hcM, hT⟩ := C
  have hck := pck_at hcM he (pm_x_live hx)
  have hd := pck_d1 hck (i := .lshl) hi rfl rfl
  have hnx := pck_nx hck (i := .lshl) hi rfl rfl rfl
  have hpc := pm_pc_at he
  unfold pm_x at hx
  rw [hi] at hx
  simp only [pm_li, pm_nx] at hx
  split at hx
  · cases hx
    intro H locs ls hP hS hl
    have kk := k H locs ls hP hS hl
    rw [hnx] at kk
    rw [hpc]
    exact lv_lshl hx1 hb hd rfl kk
  · cases hx
theorem pm_s_lshr (C : pm_C p R s m args meth c T M b x ta D xs h0) (he : (mm_cd M)[j]? = some en) (hx : pm_x xs en j lv st h = some (.inl (j', lv', st', h'))) (k : pm_G p l e R s m args below meth c Q M b x ta D h0 j' lv' st' h') (hi : pi_i en = .lshr) : pm_G p l e R s m args below meth c Q M b x ta D h0 j lv st h := by
  obtain ⟨hx1, hb, hml, hown, hts, hK, hsz, hfr, hlo, hnm, hxr, hcM, hT⟩ := C
  have hck := pck_at hcM he (pm_x_live hx)
  have hd := pck_d1 hck (i := .lshr) hi rfl rfl
  have hnx := pck_nx hck (i := .lshr) hi rfl rfl rfl
  have hpc := pm_pc_at he
  unfold pm_x at hx
  rw [hi] at hx
  simp only [pm_li, pm_nx] at hx
  split at hx
  · cases hx
    intro H locs ls hP hS hl
    have kk := k H locs ls hP hS hl
    rw [hnx] at kk
    rw [hpc]
    exact lv_lshr hx1 hb hd rfl kk
  · cases hx
theorem pm_s_lushr (C : pm_C p R s m args meth c T M b x ta D xs h0) (he : (mm_cd M)[j]? = some en) (hx : pm_x xs en j lv st h = some (.inl (j', lv', st', h'))) (k : pm_G p l e R s m args below meth c Q M b x ta D h0 j' lv' st' h') (hi : pi_i en = .lushr) : pm_G p l e R s m args below meth c Q M b x ta D h0 j lv st h := by
  obtain ⟨hx1, hb, hml, hown, hts, hK, hsz, hfr, hlo, hnm, hxr, hcM, hT⟩ := C
  have hck := pck_at hcM he (pm_x_live hx)
  have hd := pck_d1 hck (i := .lushr) hi rfl rfl
  have hnx := pck_nx hck (i := .lushr) hi rfl rfl rfl
  have hpc := pm_pc_at he
  unfold pm_x at hx
  rw [hi] at hx
  simp only [pm_li, pm_nx] at hx
  split at hx
  · cases hx
    intro H locs ls hP hS hl
    have kk := k H locs ls hP hS hl
    rw [hnx] at kk
    rw [hpc]
    exact lv_lushr hx1 hb hd rfl kk
  · cases hx
theorem pm_s_ineg (C : pm_C p R s m args meth c T M b x ta D xs h0) (he : (mm_cd M)[j]? = some en) (hx : pm_x xs en j lv st h = some (.inl (j', lv', st', h'))) (k : pm_G p l e R s m args below meth c Q M b x ta D h0 j' lv' st' h') (hi : pi_i en = .ineg) : pm_G p l e R s m args below meth c Q M b x ta D h0 j lv st h := by
  obtain ⟨hx1, hb, hml, hown, hts, hK, hsz, hfr, hlo, hnm, hxr, hcM, hT⟩ := C
  have hck := pck_at hcM he (pm_x_live hx)
  have hd := pck_d1 hck (i := .ineg) hi rfl rfl
  have hnx := pck_nx hck (i := .ineg) hi rfl rfl rfl
  have hpc := pm_pc_at he
  unfold pm_x at hx
  rw [hi] at hx
  simp only [pm_i1, pm_nx] at hx
  split at hx
  · cases hx
    intro H locs ls hP hS hl
    have kk := k H locs ls hP hS hl
    rw [hnx] at kk
    rw [hpc]
    exact lv_ineg hx1 hb hd kk
  · cases hx
theorem pm_s_lneg (C : pm_C p R s m args meth c T M b x ta D xs h0) (he : (mm_cd M)[j]? = some en) (hx : pm_x xs en j lv st h = some (.inl (j', lv', st', h'))) (k : pm_G p l e R s m args below meth c Q M b x ta D h0 j' lv' st' h') (hi : pi_i en = .lneg) : pm_G p l e R s m args below meth c Q M b x ta D h0 j lv st h := by
  obtain ⟨hx1, hb, hml, hown, hts, hK, hsz, hfr, hlo, hnm, hxr, hcM, hT⟩ := C
  have hck := pck_at hcM he (pm_x_live hx)
  have hd := pck_d1 hck (i := .lneg) hi rfl rfl
  have hnx := pck_nx hck (i := .lneg) hi rfl rfl rfl
  have hpc := pm_pc_at he
  unfold pm_x at hx
  rw [hi] at hx
  simp only [pm_l1, pm_nx] at hx
  split at hx
  · cases hx
    intro H locs ls hP hS hl
    have kk := k H locs ls hP hS hl
    rw [hnx] at kk
    rw [hpc]
    exact lv_lneg hx1 hb hd kk
  · cases hx
theorem pm_s_i2l (C : pm_C p R s m args meth c T M b x ta D xs h0) (he : (mm_cd M)[j]? = some en) (hx : pm_x xs en j lv st h = some (.inl (j', lv', st', h'))) (k : pm_G p l e R s m args below meth c Q M b x ta D h0 j' lv' st' h') (hi : pi_i en = .i2l) : pm_G p l e R s m args below meth c Q M b x ta D h0 j lv st h := by
  obtain ⟨hx1, hb, hml, hown, hts, hK, hsz, hfr, hlo, hnm, hxr, hcM, hT⟩ := C
  have hck := pck_at hcM he (pm_x_live hx)
  have hd := pck_d1 hck (i := .i2l) hi rfl rfl
  have hnx := pck_nx hck (i := .i2l) hi rfl rfl rfl
  have hpc := pm_pc_at he
  unfold pm_x at hx
  rw [hi] at hx
  simp only [pm_i1, pm_nx] at hx
  split at hx
  · cases hx
    intro H locs ls hP hS hl
    have kk := k H locs ls hP hS hl
    rw [hnx] at kk
    rw [hpc]
    exact lv_i2l hx1 hb hd rfl kk
  · cases hx
theorem pm_s_i2b (C : pm_C p R s m args meth c T M b x ta D xs h0) (he : (mm_cd M)[j]? = some en) (hx : pm_x xs en j lv st h = some (.inl (j', lv', st', h'))) (k : pm_G p l e R s m args below meth c Q M b x ta D h0 j' lv' st' h') (hi : pi_i en = .i2b) : pm_G p l e R s m args below meth c Q M b x ta D h0 j lv st h := by
  obtain ⟨hx1, hb, hml, hown, hts, hK, hsz, hfr, hlo, hnm, hxr, hcM, hT⟩ := C
  have hck := pck_at hcM he (pm_x_live hx)
  have hd := pck_d1 hck (i := .i2b) hi rfl rfl
  have hnx := pck_nx hck (i := .i2b) hi rfl rfl rfl
  have hpc := pm_pc_at he
  unfold pm_x at hx
  rw [hi] at hx
  simp only [pm_i1, pm_nx] at hx
  split at hx
  · cases hx
    intro H locs ls hP hS hl
    have kk := k H locs ls hP hS hl
    rw [hnx] at kk
    rw [hpc]
    exact lv_i2b hx1 hb hd rfl kk
  · cases hx
theorem pm_s_i2c (C : pm_C p R s m args meth c T M b x ta D xs h0) (he : (mm_cd M)[j]? = some en) (hx : pm_x xs en j lv st h = some (.inl (j', lv', st', h'))) (k : pm_G p l e R s m args below meth c Q M b x ta D h0 j' lv' st' h') (hi : pi_i en = .i2c) : pm_G p l e R s m args below meth c Q M b x ta D h0 j lv st h := by
  obtain ⟨hx1, hb, hml, hown, hts, hK, hsz, hfr, hlo, hnm, hxr, hcM, hT⟩ := C
  have hck := pck_at hcM he (pm_x_live hx)
  have hd := pck_d1 hck (i := .i2c) hi rfl rfl
  have hnx := pck_nx hck (i := .i2c) hi rfl rfl rfl
  have hpc := pm_pc_at he
  unfold pm_x at hx
  rw [hi] at hx
  simp only [pm_i1, pm_nx] at hx
  split at hx
  · cases hx
    intro H locs ls hP hS hl
    have kk := k H locs ls hP hS hl
    rw [hnx] at kk
    rw [hpc]
    exact lv_i2c hx1 hb hd rfl kk
  · cases hx
theorem pm_s_l2i (C : pm_C p R s m args meth c T M b x ta D xs h0) (he : (mm_cd M)[j]? = some en) (hx : pm_x xs en j lv st h = some (.inl (j', lv', st', h'))) (k : pm_G p l e R s m args below meth c Q M b x ta D h0 j' lv' st' h') (hi : pi_i en = .l2i) : pm_G p l e R s m args below meth c Q M b x ta D h0 j lv st h := by
  obtain ⟨hx1, hb, hml, hown, hts, hK, hsz, hfr, hlo, hnm, hxr, hcM, hT⟩ := C
  have hck := pck_at hcM he (pm_x_live hx)
  have hd := pck_d1 hck (i := .l2i) hi rfl rfl
  have hnx := pck_nx hck (i := .l2i) hi rfl rfl rfl
  have hpc := pm_pc_at he
  unfold pm_x at hx
  rw [hi] at hx
  simp only [pm_l1, pm_nx] at hx
  split at hx
  · cases hx
    intro H locs ls hP hS hl
    have kk := k H locs ls hP hS hl
    rw [hnx] at kk
    rw [hpc]
    exact lv_l2i hx1 hb hd rfl kk
  · cases hx
theorem pm_s_idiv (C : pm_C p R s m args meth c T M b x ta D xs h0) (he : (mm_cd M)[j]? = some en) (hx : pm_x xs en j lv st h = some (.inl (j', lv', st', h'))) (k : pm_G p l e R s m args below meth c Q M b x ta D h0 j' lv' st' h') (hi : pi_i en = .idiv) : pm_G p l e R s m args below meth c Q M b x ta D h0 j lv st h := by
  obtain ⟨hx1, hb, hml, hown, hts, hK, hsz, hfr, hlo, hnm, hxr, hcM, hT⟩ := C
  have hck := pck_at hcM he (pm_x_live hx)
  have hd := pck_d1 hck (i := .idiv) hi rfl rfl
  have hnx := pck_nx hck (i := .idiv) hi rfl rfl rfl
  have hpc := pm_pc_at he
  unfold pm_x at hx
  rw [hi] at hx
  simp only [pm_iz, pm_nx] at hx
  split at hx
  · split at hx
    · cases hx
    · rename_i hne
      cases hx
      intro H locs ls hP hS hl
      have kk := k H locs ls hP hS hl
      rw [hnx] at kk
      rw [hpc]
      exact lv_idiv hx1 hb hd hne kk
  · cases hx
theorem pm_s_irem (C : pm_C p R s m args meth c T M b x ta D xs h0) (he : (mm_cd M)[j]? = some en) (hx : pm_x xs en j lv st h = some (.inl (j', lv', st', h'))) (k : pm_G p l e R s m args below meth c Q M b x ta D h0 j' lv' st' h') (hi : pi_i en = .irem) : pm_G p l e R s m args below meth c Q M b x ta D h0 j lv st h := by
  obtain ⟨hx1, hb, hml, hown, hts, hK, hsz, hfr, hlo, hnm, hxr, hcM, hT⟩ := C
  have hck := pck_at hcM he (pm_x_live hx)
  have hd := pck_d1 hck (i := .irem) hi rfl rfl
  have hnx := pck_nx hck (i := .irem) hi rfl rfl rfl
  have hpc := pm_pc_at he
  unfold pm_x at hx
  rw [hi] at hx
  simp only [pm_iz, pm_nx] at hx
  split at hx
  · split at hx
    · cases hx
    · rename_i hne
      cases hx
      intro H locs ls hP hS hl
      have kk := k H locs ls hP hS hl
      rw [hnx] at kk
      rw [hpc]
      exact lv_irem hx1 hb hd hne kk
  · cases hx
theorem pm_s_ldiv (C : pm_C p R s m args meth c T M b x ta D xs h0) (he : (mm_cd M)[j]? = some en) (hx : pm_x xs en j lv st h = some (.inl (j', lv', st', h'))) (k : pm_G p l e R s m args below meth c Q M b x ta D h0 j' lv' st' h') (hi : pi_i en = .ldiv) : pm_G p l e R s m args below meth c Q M b x ta D h0 j lv st h := by
  obtain ⟨hx1, hb, hml, hown, hts, hK, hsz, hfr, hlo, hnm, hxr, hcM, hT⟩ := C
  have hck := pck_at hcM he (pm_x_live hx)
  have hd := pck_d1 hck (i := .ldiv) hi rfl rfl
  have hnx := pck_nx hck (i := .ldiv) hi rfl rfl rfl
  have hpc := pm_pc_at he
  unfold pm_x at hx
  rw [hi] at hx
  simp only [pm_lz, pm_nx] at hx
  split at hx
  · split at hx
    · cases hx
    · rename_i hne
      cases hx
      intro H locs ls hP hS hl
      have kk := k H locs ls hP hS hl
      rw [hnx] at kk
      rw [hpc]
      exact lv_ldiv hx1 hb hd hne kk
  · cases hx
theorem pm_s_lrem (C : pm_C p R s m args meth c T M b x ta D xs h0) (he : (mm_cd M)[j]? = some en) (hx : pm_x xs en j lv st h = some (.inl (j', lv', st', h'))) (k : pm_G p l e R s m args below meth c Q M b x ta D h0 j' lv' st' h') (hi : pi_i en = .lrem) : pm_G p l e R s m args below meth c Q M b x ta D h0 j lv st h := by
  obtain ⟨hx1, hb, hml, hown, hts, hK, hsz, hfr, hlo, hnm, hxr, hcM, hT⟩ := C
  have hck := pck_at hcM he (pm_x_live hx)
  have hd := pck_d1 hck (i := .lrem) hi rfl rfl
  have hnx := pck_nx hck (i := .lrem) hi rfl rfl rfl
  have hpc := pm_pc_at he
  unfold pm_x at hx
  rw [hi] at hx
  simp only [pm_lz, pm_nx] at hx
  split at hx
  · split at hx
    · cases hx
    · rename_i hne
      cases hx
      intro H locs ls hP hS hl
      have kk := k H locs ls hP hS hl
      rw [hnx] at kk
      rw [hpc]
      exact lv_lrem hx1 hb hd hne kk
  · cases hx
theorem pm_s_iload {i : Nat} (C : pm_C p R s m args meth c T M b x ta D xs h0) (he : (mm_cd M)[j]? = some en) (hx : pm_x xs en j lv st h = some (.inl (j', lv', st', h'))) (k : pm_G p l e R s m args below meth c Q M b x ta D h0 j' lv' st' h') (hi : pi_i en = .iload i) : pm_G p l e R s m args below meth c Q M b x ta D h0 j lv st h := by
  obtain ⟨hx1, hb, hml, hown, hts, hK, hsz, hfr, hlo, hnm, hxr, hcM, hT⟩ := C
  have hck := pck_at hcM he (pm_x_live hx)
  have hd := pck_d1 hck (i := .iload i) hi rfl rfl
  have hnx := pck_nx hck (i := .iload i) hi rfl rfl rfl
  have hpc := pm_pc_at he
  unfold pm_x at hx
  rw [hi] at hx
  simp only [pm_ild, pm_nx] at hx
  split at hx
  · rename_i hq
    cases hx
    intro H locs ls hP hS hl
    have kk := k H locs ls hP hS hl
    rw [hnx] at kk
    rw [hpc]
    exact lv_iload hx1 hb hd (pm_lv_at hl hq) kk
  · cases hx
theorem pm_s_iload_n {i : Fin 4} (C : pm_C p R s m args meth c T M b x ta D xs h0) (he : (mm_cd M)[j]? = some en) (hx : pm_x xs en j lv st h = some (.inl (j', lv', st', h'))) (k : pm_G p l e R s m args below meth c Q M b x ta D h0 j' lv' st' h') (hi : pi_i en = .iload_n i) : pm_G p l e R s m args below meth c Q M b x ta D h0 j lv st h := by
  obtain ⟨hx1, hb, hml, hown, hts, hK, hsz, hfr, hlo, hnm, hxr, hcM, hT⟩ := C
  have hck := pck_at hcM he (pm_x_live hx)
  have hd := pck_d1 hck (i := .iload_n i) hi rfl rfl
  have hnx := pck_nx hck (i := .iload_n i) hi rfl rfl rfl
  have hpc := pm_pc_at he
  unfold pm_x at hx
  rw [hi] at hx
  simp only [pm_ild, pm_nx] at hx
  split at hx
  · rename_i hq
    cases hx
    intro H locs ls hP hS hl
    have kk := k H locs ls hP hS hl
    rw [hnx] at kk
    rw [hpc]
    exact lv_iload_n hx1 hb hd rfl (pm_lv_at hl hq) kk
  · cases hx
theorem pm_s_lload {i : Nat} (C : pm_C p R s m args meth c T M b x ta D xs h0) (he : (mm_cd M)[j]? = some en) (hx : pm_x xs en j lv st h = some (.inl (j', lv', st', h'))) (k : pm_G p l e R s m args below meth c Q M b x ta D h0 j' lv' st' h') (hi : pi_i en = .lload i) : pm_G p l e R s m args below meth c Q M b x ta D h0 j lv st h := by
  obtain ⟨hx1, hb, hml, hown, hts, hK, hsz, hfr, hlo, hnm, hxr, hcM, hT⟩ := C
  have hck := pck_at hcM he (pm_x_live hx)
  have hd := pck_d1 hck (i := .lload i) hi rfl rfl
  have hnx := pck_nx hck (i := .lload i) hi rfl rfl rfl
  have hpc := pm_pc_at he
  unfold pm_x at hx
  rw [hi] at hx
  simp only [pm_lld, pm_nx] at hx
  split at hx
  · rename_i hq
    cases hx
    intro H locs ls hP hS hl
    have kk := k H locs ls hP hS hl
    rw [hnx] at kk
    rw [hpc]
    exact lv_lload hx1 hb hd (pm_lv_at hl hq) kk
  · cases hx
theorem pm_s_lload_n {i : Fin 4} (C : pm_C p R s m args meth c T M b x ta D xs h0) (he : (mm_cd M)[j]? = some en) (hx : pm_x xs en j lv st h = some (.inl (j', lv', st', h'))) (k : pm_G p l e R s m args below meth c Q M b x ta D h0 j' lv' st' h') (hi : pi_i en = .lload_n i) : pm_G p l e R s m args below meth c Q M b x ta D h0 j lv st h := by
  obtain ⟨hx1, hb, hml, hown, hts, hK, hsz, hfr, hlo, hnm, hxr, hcM, hT⟩ := C
  have hck := pck_at hcM he (pm_x_live hx)
  have hd := pck_d1 hck (i := .lload_n i) hi rfl rfl
  have hnx := pck_nx hck (i := .lload_n i) hi rfl rfl rfl
  have hpc := pm_pc_at he
  unfold pm_x at hx
  rw [hi] at hx
  simp only [pm_lld, pm_nx] at hx
  split at hx
  · rename_i hq
    cases hx
    intro H locs ls hP hS hl
    have kk := k H locs ls hP hS hl
    rw [hnx] at kk
    rw [hpc]
    exact lv_lload_n hx1 hb hd rfl (pm_lv_at hl hq) kk
  · cases hx
theorem pm_s_aload {i : Nat} (C : pm_C p R s m args meth c T M b x ta D xs h0) (he : (mm_cd M)[j]? = some en) (hx : pm_x xs en j lv st h = some (.inl (j', lv', st', h'))) (k : pm_G p l e R s m args below meth c Q M b x ta D h0 j' lv' st' h') (hi : pi_i en = .aload i) : pm_G p l e R s m args below meth c Q M b x ta D h0 j lv st h := by
  obtain ⟨hx1, hb, hml, hown, hts, hK, hsz, hfr, hlo, hnm, hxr, hcM, hT⟩ := C
  have hck := pck_at hcM he (pm_x_live hx)
  have hd := pck_d1 hck (i := .aload i) hi rfl rfl
  have hnx := pck_nx hck (i := .aload i) hi rfl rfl rfl
  have hpc := pm_pc_at he
  unfold pm_x at hx
  rw [hi] at hx
  simp only [pm_ald, pm_nx] at hx
  split at hx
  · rename_i hq
    cases hx
    intro H locs ls hP hS hl
    have kk := k H locs ls hP hS hl
    rw [hnx] at kk
    rw [hpc]
    exact lv_aload hx1 hb hd (pm_lv_at hl hq) kk
  · rename_i hq
    cases hx
    intro H locs ls hP hS hl
    have kk := k H locs ls hP hS hl
    rw [hnx] at kk
    rw [hpc]
    exact lv_aloadN hx1 hb hd (pm_lv_at hl hq) kk
  · rename_i q hq
    cases hx
    intro H locs ls hP hS hl
    have kk := k H locs ls hP hS hl
    rw [hnx] at kk
    rw [hpc]
    have h9 := pm_lv_at hl hq
    rw [List.map_cons] at kk
    rw [show pm_v b x (.retAddr q) = x q from rfl] at h9 kk
    rcases hxr q with z | ⟨a, z⟩
    · rw [z] at h9 kk
      exact lv_aloadN hx1 hb hd h9 kk
    · rw [z] at h9 kk
      exact lv_aload hx1 hb hd h9 kk
  · cases hx
theorem pm_s_aload_n {i : Fin 4} (C : pm_C p R s m args meth c T M b x ta D xs h0) (he : (mm_cd M)[j]? = some en) (hx : pm_x xs en j lv st h = some (.inl (j', lv', st', h'))) (k : pm_G p l e R s m args below meth c Q M b x ta D h0 j' lv' st' h') (hi : pi_i en = .aload_n i) : pm_G p l e R s m args below meth c Q M b x ta D h0 j lv st h := by
  obtain ⟨hx1, hb, hml, hown, hts, hK, hsz, hfr, hlo, hnm, hxr, hcM, hT⟩ := C
  have hck := pck_at hcM he (pm_x_live hx)
  have hd := pck_d1 hck (i := .aload_n i) hi rfl rfl
  have hnx := pck_nx hck (i := .aload_n i) hi rfl rfl rfl
  have hpc := pm_pc_at he
  unfold pm_x at hx
  rw [hi] at hx
  simp only [pm_ald, pm_nx] at hx
  split at hx
  · rename_i hq
    cases hx
    intro H locs ls hP hS hl
    have kk := k H locs ls hP hS hl
    rw [hnx] at kk
    rw [hpc]
    exact lv_aload_n hx1 hb hd rfl (pm_lv_at hl hq) kk
  · rename_i hq
    cases hx
    intro H locs ls hP hS hl
    have kk := k H locs ls hP hS hl
    rw [hnx] at kk
    rw [hpc]
    exact lv_aload_nN hx1 hb hd rfl (pm_lv_at hl hq) kk
  · rename_i q hq
    cases hx
    intro H locs ls hP hS hl
    have kk := k H locs ls hP hS hl
    rw [hnx] at kk
    rw [hpc]
    have h9 := pm_lv_at hl hq
    rw [List.map_cons] at kk
    rw [show pm_v b x (.retAddr q) = x q from rfl] at h9 kk
    rcases hxr q with z | ⟨a, z⟩
    · rw [z] at h9 kk
      exact lv_aload_nN hx1 hb hd rfl h9 kk
    · rw [z] at h9 kk
      exact lv_aload_n hx1 hb hd rfl h9 kk
  · cases hx
theorem pm_s_istore {i : Nat} (C : pm_C p R s m args meth c T M b x ta D xs h0) (he : (mm_cd M)[j]? = some en) (hx : pm_x xs en j lv st h = some (.inl (j', lv', st', h'))) (k : pm_G p l e R s m args below meth c Q M b x ta D h0 j' lv' st' h') (hi : pi_i en = .istore i) : pm_G p l e R s m args below meth c Q M b x ta D h0 j lv st h := by
  obtain ⟨hx1, hb, hml, hown, hts, hK, hsz, hfr, hlo, hnm, hxr, hcM, hT⟩ := C
  have hck := pck_at hcM he (pm_x_live hx)
  have hd := pck_d1 hck (i := .istore i) hi rfl rfl
  have hnx := pck_nx hck (i := .istore i) hi rfl rfl rfl
  have hpc := pm_pc_at he
  unfold pm_x at hx
  rw [hi] at hx
  have hc2 := hck
  simp only [pm_ck, hi, Bool.and_eq_true, decide_eq_true_eq] at hc2
  simp only [pm_ist, pm_nx] at hx
  split at hx
  · cases hx
    intro H locs ls hP hS hl
    rw [hpc]
    refine lv_istore hx1 hb hd hl hc2.2 rfl (fun ls2 hl2 => ?_)
    have kk := k H locs ls2 hP hS (pm_lv_st1 (pm_xc hxr) hl2)
    rw [hnx] at kk
    exact kk
  · cases hx
theorem pm_s_istore_n {i : Fin 4} (C : pm_C p R s m args meth c T M b x ta D xs h0) (he : (mm_cd M)[j]? = some en) (hx : pm_x xs en j lv st h = some (.inl (j', lv', st', h'))) (k : pm_G p l e R s m args below meth c Q M b x ta D h0 j' lv' st' h') (hi : pi_i en = .istore_n i) : pm_G p l e R s m args below meth c Q M b x ta D h0 j lv st h := by
  obtain ⟨hx1, hb, hml, hown, hts, hK, hsz, hfr, hlo, hnm, hxr, hcM, hT⟩ := C
  have hck := pck_at hcM he (pm_x_live hx)
  have hd := pck_d1 hck (i := .istore_n i) hi rfl rfl
  have hnx := pck_nx hck (i := .istore_n i) hi rfl rfl rfl
  have hpc := pm_pc_at he
  unfold pm_x at hx
  rw [hi] at hx
  have hc2 := hck
  simp only [pm_ck, hi, Bool.and_eq_true, decide_eq_true_eq] at hc2
  simp only [pm_ist, pm_nx] at hx
  split at hx
  · cases hx
    intro H locs ls hP hS hl
    rw [hpc]
    refine lv_istore_n hx1 hb hd rfl hl hc2.2 rfl (fun ls2 hl2 => ?_)
    have kk := k H locs ls2 hP hS (pm_lv_st1 (pm_xc hxr) hl2)
    rw [hnx] at kk
    exact kk
  · cases hx
theorem pm_s_lstore {i : Nat} (C : pm_C p R s m args meth c T M b x ta D xs h0) (he : (mm_cd M)[j]? = some en) (hx : pm_x xs en j lv st h = some (.inl (j', lv', st', h'))) (k : pm_G p l e R s m args below meth c Q M b x ta D h0 j' lv' st' h') (hi : pi_i en = .lstore i) : pm_G p l e R s m args below meth c Q M b x ta D h0 j lv st h := by
  obtain ⟨hx1, hb, hml, hown, hts, hK, hsz, hfr, hlo, hnm, hxr, hcM, hT⟩ := C
  have hck := pck_at hcM he (pm_x_live hx)
  have hd := pck_d1 hck (i := .lstore i) hi rfl rfl
  have hnx := pck_nx hck (i := .lstore i) hi rfl rfl rfl
  have hpc := pm_pc_at he
  unfold pm_x at hx
  rw [hi] at hx
  have hc2 := hck
  simp only [pm_ck, hi, Bool.and_eq_true, decide_eq_true_eq] at hc2
  simp only [pm_lst, pm_nx] at hx
  split at hx
  · cases hx
    intro H locs ls hP hS hl
    rw [hpc]
    refine lv_lstore hx1 hb hd hl hc2.2 rfl (fun ls2 hl2 => ?_)
    have kk := k H locs ls2 hP hS (pm_lv_st2 (pm_xc hxr) hl2)
    rw [hnx] at kk
    exact kk
  · cases hx
theorem pm_s_lstore_n {i : Fin 4} (C : pm_C p R s m args meth c T M b x ta D xs h0) (he : (mm_cd M)[j]? = some en) (hx : pm_x xs en j lv st h = some (.inl (j', lv', st', h'))) (k : pm_G p l e R s m args below meth c Q M b x ta D h0 j' lv' st' h') (hi : pi_i en = .lstore_n i) : pm_G p l e R s m args below meth c Q M b x ta D h0 j lv st h := by
  obtain ⟨hx1, hb, hml, hown, hts, hK, hsz, hfr, hlo, hnm, hxr, hcM, hT⟩ := C
  have hck := pck_at hcM he (pm_x_live hx)
  have hd := pck_d1 hck (i := .lstore_n i) hi rfl rfl
  have hnx := pck_nx hck (i := .lstore_n i) hi rfl rfl rfl
  have hpc := pm_pc_at he
  unfold pm_x at hx
  rw [hi] at hx
  have hc2 := hck
  simp only [pm_ck, hi, Bool.and_eq_true, decide_eq_true_eq] at hc2
  simp only [pm_lst, pm_nx] at hx
  split at hx
  · cases hx
    intro H locs ls hP hS hl
    rw [hpc]
    refine lv_lstore_n hx1 hb hd rfl hl hc2.2 rfl (fun ls2 hl2 => ?_)
    have kk := k H locs ls2 hP hS (pm_lv_st2 (pm_xc hxr) hl2)
    rw [hnx] at kk
    exact kk
  · cases hx
theorem pm_s_astore_n {i : Fin 4} (C : pm_C p R s m args meth c T M b x ta D xs h0) (he : (mm_cd M)[j]? = some en) (hx : pm_x xs en j lv st h = some (.inl (j', lv', st', h'))) (k : pm_G p l e R s m args below meth c Q M b x ta D h0 j' lv' st' h') (hi : pi_i en = .astore_n i) : pm_G p l e R s m args below meth c Q M b x ta D h0 j lv st h := by
  obtain ⟨hx1, hb, hml, hown, hts, hK, hsz, hfr, hlo, hnm, hxr, hcM, hT⟩ := C
  have hck := pck_at hcM he (pm_x_live hx)
  have hd := pck_d1 hck (i := .astore_n i) hi rfl rfl
  have hnx := pck_nx hck (i := .astore_n i) hi rfl rfl rfl
  have hpc := pm_pc_at he
  unfold pm_x at hx
  rw [hi] at hx
  have hc2 := hck
  simp only [pm_ck, hi, Bool.and_eq_true, decide_eq_true_eq] at hc2
  simp only [pm_ast, pm_nx] at hx
  split at hx
  · cases hx
    intro H locs ls hP hS hl
    rw [hpc]
    refine lv_astore_n hx1 hb hd rfl hl hc2.2 rfl (fun ls2 hl2 => ?_)
    have kk := k H locs ls2 hP hS (pm_lv_st1 (pm_xc hxr) hl2)
    rw [hnx] at kk
    exact kk
  · cases hx
theorem pm_s_iinc {i : Nat} {n : Int} (C : pm_C p R s m args meth c T M b x ta D xs h0) (he : (mm_cd M)[j]? = some en) (hx : pm_x xs en j lv st h = some (.inl (j', lv', st', h'))) (k : pm_G p l e R s m args below meth c Q M b x ta D h0 j' lv' st' h') (hi : pi_i en = .iinc i n) : pm_G p l e R s m args below meth c Q M b x ta D h0 j lv st h := by
  obtain ⟨hx1, hb, hml, hown, hts, hK, hsz, hfr, hlo, hnm, hxr, hcM, hT⟩ := C
  have hck := pck_at hcM he (pm_x_live hx)
  have hd := pck_d1 hck (i := .iinc i n) hi rfl rfl
  have hnx := pck_nx hck (i := .iinc i n) hi rfl rfl rfl
  have hpc := pm_pc_at he
  unfold pm_x at hx
  rw [hi] at hx
  have hc2 := hck
  simp only [pm_ck, hi, Bool.and_eq_true, decide_eq_true_eq] at hc2
  simp only [pm_inc, pm_nx] at hx
  split at hx
  · rename_i xv hq
    cases hx
    intro H locs ls hP hS hl
    rw [hpc]
    obtain ⟨k9, hk9⟩ := List.getElem?_of_mem (pm_as_mem.mpr ⟨_, hq, rfl⟩ : (i, pm_v b x (.int xv)) ∈ pm_as b x lv)
    refine lv_iinc hx1 hb hd hl hk9 rfl hc2.2 rfl (fun ls2 hl2 => ?_)
    have kk := k H locs ls2 hP hS (pm_lv_st1 (v := .int (xv + Int32.ofInt n)) (pm_xc hxr) hl2)
    rw [hnx] at kk
    exact kk
  · cases hx
theorem pm_s_dup (C : pm_C p R s m args meth c T M b x ta D xs h0) (he : (mm_cd M)[j]? = some en) (hx : pm_x xs en j lv st h = some (.inl (j', lv', st', h'))) (k : pm_G p l e R s m args below meth c Q M b x ta D h0 j' lv' st' h') (hi : pi_i en = .dup) : pm_G p l e R s m args below meth c Q M b x ta D h0 j lv st h := by
  obtain ⟨hx1, hb, hml, hown, hts, hK, hsz, hfr, hlo, hnm, hxr, hcM, hT⟩ := C
  have hck := pck_at hcM he (pm_x_live hx)
  have hd := pck_d1 hck (i := .dup) hi rfl rfl
  have hnx := pck_nx hck (i := .dup) hi rfl rfl rfl
  have hpc := pm_pc_at he
  unfold pm_x at hx
  rw [hi] at hx
  simp only [pm_dup, pm_nx] at hx
  split at hx
  · cases hx
    intro H locs ls hP hS hl
    have kk := k H locs ls hP hS hl
    rw [hnx] at kk
    rw [hpc]
    exact lv_dup hx1 hb hd rfl kk
  · cases hx
    intro H locs ls hP hS hl
    have kk := k H locs ls hP hS hl
    rw [hnx] at kk
    rw [hpc]
    exact lv_dup hx1 hb hd rfl kk
  · cases hx
theorem pm_s_dup2 (C : pm_C p R s m args meth c T M b x ta D xs h0) (he : (mm_cd M)[j]? = some en) (hx : pm_x xs en j lv st h = some (.inl (j', lv', st', h'))) (k : pm_G p l e R s m args below meth c Q M b x ta D h0 j' lv' st' h') (hi : pi_i en = .dup2) : pm_G p l e R s m args below meth c Q M b x ta D h0 j lv st h := by
  obtain ⟨hx1, hb, hml, hown, hts, hK, hsz, hfr, hlo, hnm, hxr, hcM, hT⟩ := C
  have hck := pck_at hcM he (pm_x_live hx)
  have hd := pck_d1 hck (i := .dup2) hi rfl rfl
  have hnx := pck_nx hck (i := .dup2) hi rfl rfl rfl
  have hpc := pm_pc_at he
  unfold pm_x at hx
  rw [hi] at hx
  simp only [pm_dup2, pm_nx] at hx
  split at hx
  · cases hx
    intro H locs ls hP hS hl
    have kk := k H locs ls hP hS hl
    rw [hnx] at kk
    rw [hpc]
    exact lv_dup2_11 hx1 hb hd rfl rfl kk
  · cases hx
theorem pm_s_pop (C : pm_C p R s m args meth c T M b x ta D xs h0) (he : (mm_cd M)[j]? = some en) (hx : pm_x xs en j lv st h = some (.inl (j', lv', st', h'))) (k : pm_G p l e R s m args below meth c Q M b x ta D h0 j' lv' st' h') (hi : pi_i en = .pop) : pm_G p l e R s m args below meth c Q M b x ta D h0 j lv st h := by
  obtain ⟨hx1, hb, hml, hown, hts, hK, hsz, hfr, hlo, hnm, hxr, hcM, hT⟩ := C
  have hck := pck_at hcM he (pm_x_live hx)
  have hd := pck_d1 hck (i := .pop) hi rfl rfl
  have hnx := pck_nx hck (i := .pop) hi rfl rfl rfl
  have hpc := pm_pc_at he
  unfold pm_x at hx
  rw [hi] at hx
  simp only [pm_pop, pm_nx] at hx
  split at hx
  · cases hx
    intro H locs ls hP hS hl
    have kk := k H locs ls hP hS hl
    rw [hnx] at kk
    rw [hpc]
    exact lv_pop hx1 hb hd rfl kk
  · cases hx
theorem pm_s_pop2 (C : pm_C p R s m args meth c T M b x ta D xs h0) (he : (mm_cd M)[j]? = some en) (hx : pm_x xs en j lv st h = some (.inl (j', lv', st', h'))) (k : pm_G p l e R s m args below meth c Q M b x ta D h0 j' lv' st' h') (hi : pi_i en = .pop2) : pm_G p l e R s m args below meth c Q M b x ta D h0 j lv st h := by
  obtain ⟨hx1, hb, hml, hown, hts, hK, hsz, hfr, hlo, hnm, hxr, hcM, hT⟩ := C
  have hck := pck_at hcM he (pm_x_live hx)
  have hd := pck_d1 hck (i := .pop2) hi rfl rfl
  have hnx := pck_nx hck (i := .pop2) hi rfl rfl rfl
  have hpc := pm_pc_at he
  unfold pm_x at hx
  rw [hi] at hx
  simp only [pm_pop2, pm_nx] at hx
  split at hx
  · cases hx
    intro H locs ls hP hS hl
    have kk := k H locs ls hP hS hl
    rw [hnx] at kk
    rw [hpc]
    exact lv_pop2_2 hx1 hb hd rfl kk
  · cases hx
theorem pm_s_goto {off : Int} (C : pm_C p R s m args meth c T M b x ta D xs h0) (he : (mm_cd M)[j]? = some en) (hx : pm_x xs en j lv st h = some (.inl (j', lv', st', h'))) (k : pm_G p l e R s m args below meth c Q M b x ta D h0 j' lv' st' h') (hi : pi_i en = .goto off) : pm_G p l e R s m args below meth c Q M b x ta D h0 j lv st h := by
  obtain ⟨hx1, hb, hml, hown, hts, hK, hsz, hfr, hlo, hnm, hxr, hcM, hT⟩ := C
  have hck := pck_at hcM he (pm_x_live hx)
  have hd := pck_d1 hck (i := .goto off) hi rfl rfl
  have hpc := pm_pc_at he
  have hc2 := hck
  simp only [pm_ck, hi, Bool.and_eq_true, decide_eq_true_eq] at hc2
  unfold pm_x at hx
  rw [hi] at hx
  simp only [pm_nx] at hx
  cases hx
  intro H locs ls hP hS hl
  have kk := k H locs ls hP hS hl
  rw [hpc]
  exact lv_goto hx1 hb hd hc2.2 kk
theorem pm_s_if_eq {off : Int} (C : pm_C p R s m args meth c T M b x ta D xs h0) (he : (mm_cd M)[j]? = some en) (hx : pm_x xs en j lv st h = some (.inl (j', lv', st', h'))) (k : pm_G p l e R s m args below meth c Q M b x ta D h0 j' lv' st' h') (hi : pi_i en = .ifCond .eq off) : pm_G p l e R s m args below meth c Q M b x ta D h0 j lv st h := by
  obtain ⟨hx1, hb, hml, hown, hts, hK, hsz, hfr, hlo, hnm, hxr, hcM, hT⟩ := C
  have hck := pck_at hcM he (pm_x_live hx)
  have hd := pck_d1 hck (i := .ifCond .eq off) hi rfl rfl
  have hnx := pck_nx hck (i := .ifCond .eq off) hi rfl rfl rfl
  have hpc := pm_pc_at he
  have hc2 := hck
  simp only [pm_ck, hi, Bool.and_eq_true, decide_eq_true_eq] at hc2
  unfold pm_x at hx
  rw [hi] at hx
  simp only [pm_if, pm_br, pm_nx] at hx
  split at hx
  · intro H locs ls hP hS hl
    rw [hpc]
    refine lv_if_eq hx1 hb hd hc2.2 (fun z => ?_) (fun z => ?_)
    · first | rw [if_pos z] at hx | rw [if_neg z] at hx
      cases hx
      exact k H locs ls hP hS hl
    · first | rw [if_neg z] at hx | rw [if_pos z] at hx
      cases hx
      have kk := k H locs ls hP hS hl
      rw [hnx] at kk
      exact kk
  · cases hx
theorem pm_s_ic_eq {off : Int} (C : pm_C p R s m args meth c T M b x ta D xs h0) (he : (mm_cd M)[j]? = some en) (hx : pm_x xs en j lv st h = some (.inl (j', lv', st', h'))) (k : pm_G p l e R s m args below meth c Q M b x ta D h0 j' lv' st' h') (hi : pi_i en = .if_icmp .eq off) : pm_G p l e R s m args below meth c Q M b x ta D h0 j lv st h := by
  obtain ⟨hx1, hb, hml, hown, hts, hK, hsz, hfr, hlo, hnm, hxr, hcM, hT⟩ := C
  have hck := pck_at hcM he (pm_x_live hx)
  have hd := pck_d1 hck (i := .if_icmp .eq off) hi rfl rfl
  have hnx := pck_nx hck (i := .if_icmp .eq off) hi rfl rfl rfl
  have hpc := pm_pc_at he
  have hc2 := hck
  simp only [pm_ck, hi, Bool.and_eq_true, decide_eq_true_eq] at hc2
  unfold pm_x at hx
  rw [hi] at hx
  simp only [pm_ic, pm_br, pm_nx] at hx
  split at hx
  · intro H locs ls hP hS hl
    rw [hpc]
    refine lv_icmp_eq hx1 hb hd hc2.2 (fun z => ?_) (fun z => ?_)
    · first | rw [if_pos z] at hx | rw [if_neg z] at hx
      cases hx
      exact k H locs ls hP hS hl
    · first | rw [if_neg z] at hx | rw [if_pos z] at hx
      cases hx
      have kk := k H locs ls hP hS hl
      rw [hnx] at kk
      exact kk
  · cases hx
theorem pm_s_if_ne {off : Int} (C : pm_C p R s m args meth c T M b x ta D xs h0) (he : (mm_cd M)[j]? = some en) (hx : pm_x xs en j lv st h = some (.inl (j', lv', st', h'))) (k : pm_G p l e R s m args below meth c Q M b x ta D h0 j' lv' st' h') (hi : pi_i en = .ifCond .ne off) : pm_G p l e R s m args below meth c Q M b x ta D h0 j lv st h := by
  obtain ⟨hx1, hb, hml, hown, hts, hK, hsz, hfr, hlo, hnm, hxr, hcM, hT⟩ := C
  have hck := pck_at hcM he (pm_x_live hx)
  have hd := pck_d1 hck (i := .ifCond .ne off) hi rfl rfl
  have hnx := pck_nx hck (i := .ifCond .ne off) hi rfl rfl rfl
  have hpc := pm_pc_at he
  have hc2 := hck
  simp only [pm_ck, hi, Bool.and_eq_true, decide_eq_true_eq] at hc2
  unfold pm_x at hx
  rw [hi] at hx
  simp only [pm_if, pm_br, pm_nx] at hx
  split at hx
  · intro H locs ls hP hS hl
    rw [hpc]
    refine lv_if_ne hx1 hb hd hc2.2 (fun z => ?_) (fun z => ?_)
    · first | rw [if_pos z] at hx | rw [if_neg z] at hx
      cases hx
      exact k H locs ls hP hS hl
    · first | rw [if_neg z] at hx | rw [if_pos z] at hx
      cases hx
      have kk := k H locs ls hP hS hl
      rw [hnx] at kk
      exact kk
  · cases hx
theorem pm_s_ic_ne {off : Int} (C : pm_C p R s m args meth c T M b x ta D xs h0) (he : (mm_cd M)[j]? = some en) (hx : pm_x xs en j lv st h = some (.inl (j', lv', st', h'))) (k : pm_G p l e R s m args below meth c Q M b x ta D h0 j' lv' st' h') (hi : pi_i en = .if_icmp .ne off) : pm_G p l e R s m args below meth c Q M b x ta D h0 j lv st h := by
  obtain ⟨hx1, hb, hml, hown, hts, hK, hsz, hfr, hlo, hnm, hxr, hcM, hT⟩ := C
  have hck := pck_at hcM he (pm_x_live hx)
  have hd := pck_d1 hck (i := .if_icmp .ne off) hi rfl rfl
  have hnx := pck_nx hck (i := .if_icmp .ne off) hi rfl rfl rfl
  have hpc := pm_pc_at he
  have hc2 := hck
  simp only [pm_ck, hi, Bool.and_eq_true, decide_eq_true_eq] at hc2
  unfold pm_x at hx
  rw [hi] at hx
  simp only [pm_ic, pm_br, pm_nx] at hx
  split at hx
  · intro H locs ls hP hS hl
    rw [hpc]
    refine lv_icmp_ne hx1 hb hd hc2.2 (fun z => ?_) (fun z => ?_)
    · first | rw [if_pos z] at hx | rw [if_neg z] at hx
      cases hx
      exact k H locs ls hP hS hl
    · first | rw [if_neg z] at hx | rw [if_pos z] at hx
      cases hx
      have kk := k H locs ls hP hS hl
      rw [hnx] at kk
      exact kk
  · cases hx
theorem pm_s_if_lt {off : Int} (C : pm_C p R s m args meth c T M b x ta D xs h0) (he : (mm_cd M)[j]? = some en) (hx : pm_x xs en j lv st h = some (.inl (j', lv', st', h'))) (k : pm_G p l e R s m args below meth c Q M b x ta D h0 j' lv' st' h') (hi : pi_i en = .ifCond .lt off) : pm_G p l e R s m args below meth c Q M b x ta D h0 j lv st h := by
  obtain ⟨hx1, hb, hml, hown, hts, hK, hsz, hfr, hlo, hnm, hxr, hcM, hT⟩ := C
  have hck := pck_at hcM he (pm_x_live hx)
  have hd := pck_d1 hck (i := .ifCond .lt off) hi rfl rfl
  have hnx := pck_nx hck (i := .ifCond .lt off) hi rfl rfl rfl
  have hpc := pm_pc_at he
  have hc2 := hck
  simp only [pm_ck, hi, Bool.and_eq_true, decide_eq_true_eq] at hc2
  unfold pm_x at hx
  rw [hi] at hx
  simp only [pm_if, pm_br, pm_nx] at hx
  split at hx
  · intro H locs ls hP hS hl
    rw [hpc]
    refine lv_if_lt hx1 hb hd hc2.2 (fun z => ?_) (fun z => ?_)
    · first | rw [if_pos z] at hx | rw [if_neg z] at hx
      cases hx
      exact k H locs ls hP hS hl
    · first | rw [if_neg z] at hx | rw [if_pos z] at hx
      cases hx
      have kk := k H locs ls hP hS hl
      rw [hnx] at kk
      exact kk
  · cases hx
theorem pm_s_ic_lt {off : Int} (C : pm_C p R s m args meth c T M b x ta D xs h0) (he : (mm_cd M)[j]? = some en) (hx : pm_x xs en j lv st h = some (.inl (j', lv', st', h'))) (k : pm_G p l e R s m args below meth c Q M b x ta D h0 j' lv' st' h') (hi : pi_i en = .if_icmp .lt off) : pm_G p l e R s m args below meth c Q M b x ta D h0 j lv st h := by
  obtain ⟨hx1, hb, hml, hown, hts, hK, hsz, hfr, hlo, hnm, hxr, hcM, hT⟩ := C
  have hck := pck_at hcM he (pm_x_live hx)
  have hd := pck_d1 hck (i := .if_icmp .lt off) hi rfl rfl
  have hnx := pck_nx hck (i := .if_icmp .lt off) hi rfl rfl rfl
  have hpc := pm_pc_at he
  have hc2 := hck
  simp only [pm_ck, hi, Bool.and_eq_true, decide_eq_true_eq] at hc2
  unfold pm_x at hx
  rw [hi] at hx
  simp only [pm_ic, pm_br, pm_nx] at hx
  split at hx
  · intro H locs ls hP hS hl
    rw [hpc]
    refine lv_icmp_lt hx1 hb hd hc2.2 (fun z => ?_) (fun z => ?_)
    · first | rw [if_pos z] at hx | rw [if_neg z] at hx
      cases hx
      exact k H locs ls hP hS hl
    · first | rw [if_neg z] at hx | rw [if_pos z] at hx
      cases hx
      have kk := k H locs ls hP hS hl
      rw [hnx] at kk
      exact kk
  · cases hx
theorem pm_s_if_ge {off : Int} (C : pm_C p R s m args meth c T M b x ta D xs h0) (he : (mm_cd M)[j]? = some en) (hx : pm_x xs en j lv st h = some (.inl (j', lv', st', h'))) (k : pm_G p l e R s m args below meth c Q M b x ta D h0 j' lv' st' h') (hi : pi_i en = .ifCond .ge off) : pm_G p l e R s m args below meth c Q M b x ta D h0 j lv st h := by
  obtain ⟨hx1, hb, hml, hown, hts, hK, hsz, hfr, hlo, hnm, hxr, hcM, hT⟩ := C
  have hck := pck_at hcM he (pm_x_live hx)
  have hd := pck_d1 hck (i := .ifCond .ge off) hi rfl rfl
  have hnx := pck_nx hck (i := .ifCond .ge off) hi rfl rfl rfl
  have hpc := pm_pc_at he
  have hc2 := hck
  simp only [pm_ck, hi, Bool.and_eq_true, decide_eq_true_eq] at hc2
  unfold pm_x at hx
  rw [hi] at hx
  simp only [pm_if, pm_br, pm_nx] at hx
  split at hx
  · intro H locs ls hP hS hl
    rw [hpc]
    refine lv_if_ge hx1 hb hd hc2.2 (fun z => ?_) (fun z => ?_)
    · first | rw [if_pos z] at hx | rw [if_neg z] at hx
      cases hx
      exact k H locs ls hP hS hl
    · first | rw [if_neg z] at hx | rw [if_pos z] at hx
      cases hx
      have kk := k H locs ls hP hS hl
      rw [hnx] at kk
      exact kk
  · cases hx
theorem pm_s_ic_ge {off : Int} (C : pm_C p R s m args meth c T M b x ta D xs h0) (he : (mm_cd M)[j]? = some en) (hx : pm_x xs en j lv st h = some (.inl (j', lv', st', h'))) (k : pm_G p l e R s m args below meth c Q M b x ta D h0 j' lv' st' h') (hi : pi_i en = .if_icmp .ge off) : pm_G p l e R s m args below meth c Q M b x ta D h0 j lv st h := by
  obtain ⟨hx1, hb, hml, hown, hts, hK, hsz, hfr, hlo, hnm, hxr, hcM, hT⟩ := C
  have hck := pck_at hcM he (pm_x_live hx)
  have hd := pck_d1 hck (i := .if_icmp .ge off) hi rfl rfl
  have hnx := pck_nx hck (i := .if_icmp .ge off) hi rfl rfl rfl
  have hpc := pm_pc_at he
  have hc2 := hck
  simp only [pm_ck, hi, Bool.and_eq_true, decide_eq_true_eq] at hc2
  unfold pm_x at hx
  rw [hi] at hx
  simp only [pm_ic, pm_br, pm_nx] at hx
  split at hx
  · intro H locs ls hP hS hl
    rw [hpc]
    refine lv_icmp_ge hx1 hb hd hc2.2 (fun z => ?_) (fun z => ?_)
    · first | rw [if_pos z] at hx | rw [if_neg z] at hx
      cases hx
      exact k H locs ls hP hS hl
    · first | rw [if_neg z] at hx | rw [if_pos z] at hx
      cases hx
      have kk := k H locs ls hP hS hl
      rw [hnx] at kk
      exact kk
  · cases hx
theorem pm_s_if_gt {off : Int} (C : pm_C p R s m args meth c T M b x ta D xs h0) (he : (mm_cd M)[j]? = some en) (hx : pm_x xs en j lv st h = some (.inl (j', lv', st', h'))) (k : pm_G p l e R s m args below meth c Q M b x ta D h0 j' lv' st' h') (hi : pi_i en = .ifCond .gt off) : pm_G p l e R s m args below meth c Q M b x ta D h0 j lv st h := by
  obtain ⟨hx1, hb, hml, hown, hts, hK, hsz, hfr, hlo, hnm, hxr, hcM, hT⟩ := C
  have hck := pck_at hcM he (pm_x_live hx)
  have hd := pck_d1 hck (i := .ifCond .gt off) hi rfl rfl
  have hnx := pck_nx hck (i := .ifCond .gt off) hi rfl rfl rfl
  have hpc := pm_pc_at he
  have hc2 := hck
  simp only [pm_ck, hi, Bool.and_eq_true, decide_eq_true_eq] at hc2
  unfold pm_x at hx
  rw [hi] at hx
  simp only [pm_if, pm_br, pm_nx] at hx
  split at hx
  · intro H locs ls hP hS hl
    rw [hpc]
    refine lv_if_gt hx1 hb hd hc2.2 (fun z => ?_) (fun z => ?_)
    · first | rw [if_pos z] at hx | rw [if_neg z] at hx
      cases hx
      exact k H locs ls hP hS hl
    · first | rw [if_neg z] at hx | rw [if_pos z] at hx
      cases hx
      have kk := k H locs ls hP hS hl
      rw [hnx] at kk
      exact kk
  · cases hx
theorem pm_s_ic_gt {off : Int} (C : pm_C p R s m args meth c T M b x ta D xs h0) (he : (mm_cd M)[j]? = some en) (hx : pm_x xs en j lv st h = some (.inl (j', lv', st', h'))) (k : pm_G p l e R s m args below meth c Q M b x ta D h0 j' lv' st' h') (hi : pi_i en = .if_icmp .gt off) : pm_G p l e R s m args below meth c Q M b x ta D h0 j lv st h := by
  obtain ⟨hx1, hb, hml, hown, hts, hK, hsz, hfr, hlo, hnm, hxr, hcM, hT⟩ := C
  have hck := pck_at hcM he (pm_x_live hx)
  have hd := pck_d1 hck (i := .if_icmp .gt off) hi rfl rfl
  have hnx := pck_nx hck (i := .if_icmp .gt off) hi rfl rfl rfl
  have hpc := pm_pc_at he
  have hc2 := hck
  simp only [pm_ck, hi, Bool.and_eq_true, decide_eq_true_eq] at hc2
  unfold pm_x at hx
  rw [hi] at hx
  simp only [pm_ic, pm_br, pm_nx] at hx
  split at hx
  · intro H locs ls hP hS hl
    rw [hpc]
    refine lv_icmp_gt hx1 hb hd hc2.2 (fun z => ?_) (fun z => ?_)
    · first | rw [if_pos z] at hx | rw [if_neg z] at hx
      cases hx
      exact k H locs ls hP hS hl
    · first | rw [if_neg z] at hx | rw [if_pos z] at hx
      cases hx
      have kk := k H locs ls hP hS hl
      rw [hnx] at kk
      exact kk
  · cases hx
theorem pm_s_if_le {off : Int} (C : pm_C p R s m args meth c T M b x ta D xs h0) (he : (mm_cd M)[j]? = some en) (hx : pm_x xs en j lv st h = some (.inl (j', lv', st', h'))) (k : pm_G p l e R s m args below meth c Q M b x ta D h0 j' lv' st' h') (hi : pi_i en = .ifCond .le off) : pm_G p l e R s m args below meth c Q M b x ta D h0 j lv st h := by
  obtain ⟨hx1, hb, hml, hown, hts, hK, hsz, hfr, hlo, hnm, hxr, hcM, hT⟩ := C
  have hck := pck_at hcM he (pm_x_live hx)
  have hd := pck_d1 hck (i := .ifCond .le off) hi rfl rfl
  have hnx := pck_nx hck (i := .ifCond .le off) hi rfl rfl rfl
  have hpc := pm_pc_at he
  have hc2 := hck
  simp only [pm_ck, hi, Bool.and_eq_true, decide_eq_true_eq] at hc2
  unfold pm_x at hx
  rw [hi] at hx
  simp only [pm_if, pm_br, pm_nx] at hx
  split at hx
  · intro H locs ls hP hS hl
    rw [hpc]
    refine lv_if_le hx1 hb hd hc2.2 (fun z => ?_) (fun z => ?_)
    · first | rw [if_pos z] at hx | rw [if_neg z] at hx
      cases hx
      exact k H locs ls hP hS hl
    · first | rw [if_neg z] at hx | rw [if_pos z] at hx
      cases hx
      have kk := k H locs ls hP hS hl
      rw [hnx] at kk
      exact kk
  · cases hx
theorem pm_s_ic_le {off : Int} (C : pm_C p R s m args meth c T M b x ta D xs h0) (he : (mm_cd M)[j]? = some en) (hx : pm_x xs en j lv st h = some (.inl (j', lv', st', h'))) (k : pm_G p l e R s m args below meth c Q M b x ta D h0 j' lv' st' h') (hi : pi_i en = .if_icmp .le off) : pm_G p l e R s m args below meth c Q M b x ta D h0 j lv st h := by
  obtain ⟨hx1, hb, hml, hown, hts, hK, hsz, hfr, hlo, hnm, hxr, hcM, hT⟩ := C
  have hck := pck_at hcM he (pm_x_live hx)
  have hd := pck_d1 hck (i := .if_icmp .le off) hi rfl rfl
  have hnx := pck_nx hck (i := .if_icmp .le off) hi rfl rfl rfl
  have hpc := pm_pc_at he
  have hc2 := hck
  simp only [pm_ck, hi, Bool.and_eq_true, decide_eq_true_eq] at hc2
  unfold pm_x at hx
  rw [hi] at hx
  simp only [pm_ic, pm_br, pm_nx] at hx
  split at hx
  · intro H locs ls hP hS hl
    rw [hpc]
    refine lv_icmp_le hx1 hb hd hc2.2 (fun z => ?_) (fun z => ?_)
    · first | rw [if_pos z] at hx | rw [if_neg z] at hx
      cases hx
      exact k H locs ls hP hS hl
    · first | rw [if_neg z] at hx | rw [if_pos z] at hx
      cases hx
      have kk := k H locs ls hP hS hl
      rw [hnx] at kk
      exact kk
  · cases hx
end PMS
