-- ===== end of PART A; then your names; then what follows =====
/-! THE CLAIM OUT OF ONE WALK OF THE LAW'S BODY. Your part is whole_start (and what it stands on); all else here is the same for every law, but numbers. -/
def R_law : String := "ButterflyCodeLaw"
def lw_P (b : Addr) (xs : List Int32) (args : Array Value) (s : State) : Prop := args = #[.ref b] ∧ s.IntsAt b xs ∧ xs.length ≤ 3072 ∧ (Jvm.Cond.and given_1 narrow_1).before args s = true
def lw_Q (_ : Array Value) (s : State) (o : Outcome) (t : State) : Prop := o = .returned (some (.int 1)) ∧ Framed s o t [] 600000 7302250
def lw_Z (below : List Frame) (a : Array Value) (s : State) : State → Prop := fun t => ∃ o, t.status = .running ∧ Ended t below o ∧ lw_Q a s o t
/-- the law's own end, with 1 on the stack, nothing written that was there before, its room as the claim has it -/
theorem lw_ret {p : Program} {l : Launch} {e : Env} {s : State} {m : MethodId} {below : List Frame} {meth : Method} {c : Code} {b : Nat} (hx : p.tables.exec = Jvm.exec) (hb : c.code = code) (hr : meth.sig.returnType = ret) (hlocks : meth.locks = false) {pc : Nat} {H : Heap} {ls : Array Slot} (hdg : decode code pc = .ok (.ireturn, 1)) : W p l e room_1 s m #[Value.ref b] below meth c H [] 600000 7302250 (lw_Z below #[Value.ref b] s) (F0 m pc ls [.int 1]) := by
  intro T hT X
  obtain ⟨fs, hret, hrun, hended, hW, hframe⟩ := X.leave (v := some (.int 1)) (hlocks := hlocks) (fun h => by rw [hr] at h; cases h)
  have hmeth' : T.vm.method? m = some meth := X.method'
  refine ⟨T.setFrames fs, ?_, .returned (some (.int 1)), hrun, hended, rfl, ⟨_, rfl⟩, hW, hframe⟩
  jvm_step X.here [X.here.top, hx, hb, hdg, hmeth', hr, ret, narrow_b1]
  (try refine ⟨rfl, ?_⟩); (try refine ⟨rfl, ?_⟩)
  first | (intro acts; rw [hret _ acts rfl rfl rfl]) | rw [hret _ _ rfl rfl rfl]
  exact Steps.refl _
/-- what holds at the law's entry: the machine, the code, the tables' words (any of lw_tbl by 'hts w (by decide +kernel)'), the script of L ints xs at the cell b, what the Statement gives of the start (any of its parts by flat_of_before) -/
def lw_At (p : Program) (s : State) (m : MethodId) (meth : Method) (c : Code) (b L : Nat) (xs : Nat → Int32) : Prop :=
  p.tables.exec = Jvm.exec ∧ c.code = code ∧ meth.sig.returnType = ret ∧ c.maxLocals = 4 ∧ s.vm.findClass R_law = some m.cls ∧ (∀ w ∈ lw_tbl, w.before #[Value.ref b] s = true) ∧ va_X b L xs s s.heap ∧ b < s.heap.size ∧ meth.locks = false ∧ (Jvm.Cond.and given_1 narrow_1).before #[Value.ref b] s = true

def pm_h0 : PmH := ([], fun _ _ => 0, fun _ _ => 0, fun _ _ => none)
theorem pm_hts {args : Array Value} {s : State} (hts : ∀ w ∈ lw_tbl, w.before args s = true) : ∀ w ∈ pm_ws, w.before args s = true := fun w hw => hts w (List.mem_filter.mp hw).1
theorem pm_st_ex : ∀ i, i < 6 → Cond.exactly (.string RX1 (pm_SI.getD i 0)) "java/lang/String" ∈ flatC (Jvm.Cond.and given_1 narrow_1) := by decide +kernel
theorem pm_st_co : ∀ i, i < 6 → Cond.eq (.field (.string RX1 (pm_SI.getD i 0)) "java/lang/String" "coder" "B") (.int 0) ∈ flatC (Jvm.Cond.and given_1 narrow_1) := by decide +kernel
theorem pm_st_ar : ∀ i, i < 6 → Cond.arrayOf (.field (.string RX1 (pm_SI.getD i 0)) "java/lang/String" "value" "[B") .byte ∈ flatC (Jvm.Cond.and given_1 narrow_1) := by decide +kernel
theorem pm_st_le : ∀ i, i < 6 → Cond.eq (.length (.field (.string RX1 (pm_SI.getD i 0)) "java/lang/String" "value" "[B")) (.int (Int32.ofNat (pm_JL.getD i 0))) ∈ flatC (Jvm.Cond.and given_1 narrow_1) := by decide +kernel
theorem pm_st_el : ∀ i, i < 6 → ∀ j, j < pm_JL.getD i 0 → Cond.eq (.elem (.field (.string RX1 (pm_SI.getD i 0)) "java/lang/String" "value" "[B") (.int (Int32.ofNat j))) (.int ((pm_JB.getD i []).getD j 0)) ∈ flatC (Jvm.Cond.and given_1 narrow_1) := by decide +kernel
theorem pm_st_ne : ∀ i, i < 6 → ∀ j, j < 6 → i ≠ j → (Cond.not (Cond.eq (.string RX1 (pm_SI.getD i 0)) (.string RX1 (pm_SI.getD j 0))) ∈ flatC (Jvm.Cond.and given_1 narrow_1) ∨ Cond.not (Cond.eq (.string RX1 (pm_SI.getD j 0)) (.string RX1 (pm_SI.getD i 0))) ∈ flatC (Jvm.Cond.and given_1 narrow_1)) := by decide +kernel
theorem pm_st_sr : ∀ i, i < 6 → Cond.stringRef RX1 (pm_SI.getD i 0) (pm_ST.getD i "") ∈ lw_tbl := by decide +kernel
theorem pm_st_lw : Cond.arrayOf (.static "ButterflyCode" "LOWER" "[J") .long ∈ flatC (Jvm.Cond.and given_1 narrow_1) ∧ Cond.eq (.length (.static "ButterflyCode" "LOWER" "[J")) (.int (Int32.ofNat 6)) ∈ flatC (Jvm.Cond.and given_1 narrow_1) := by decide +kernel
theorem pm_st_lj : ∀ j, j < 6 → Cond.eq (.elem (.static "ButterflyCode" "LOWER" "[J") (.int (Int32.ofNat j))) (.long (pm_LW.getD j 0)) ∈ flatC (Jvm.Cond.and given_1 narrow_1) := by decide +kernel
theorem pm_st_cs : Cond.eq (.static "java/lang/String" "COMPACT_STRINGS" "Z") (.int 1) ∈ flatC (Jvm.Cond.and given_1 narrow_1) ∧ Cond.isRef (.static "jdk/internal/util/Preconditions" "SIOOBE_FORMATTER" "Ljava/util/function/BiFunction;") ∈ flatC (Jvm.Cond.and given_1 narrow_1) := by decide +kernel
theorem pm_st_ls : Cond.laysStatic "ButterflyCode" "LOWER" "[J" ∈ lw_tbl ∧ Cond.laysStatic "java/lang/String" "COMPACT_STRINGS" "Z" ∈ lw_tbl ∧ Cond.laysStatic "jdk/internal/util/Preconditions" "SIOOBE_FORMATTER" "Ljava/util/function/BiFunction;" ∈ lw_tbl ∧ Cond.initialized "ButterflyCode" ∈ lw_tbl ∧ Cond.initialized "java/lang/String" ∈ lw_tbl ∧ Cond.initialized "jdk/internal/util/Preconditions" ∈ lw_tbl ∧ Cond.arrayOver (.object RX6) ∈ lw_tbl := by decide +kernel
/-- what the law's start gives -/
theorem pm_start {p : Program} {s : State} {m : MethodId} {meth : Method} {c : Code} {b L : Nat} {xs : Nat → Int32} (C0 : lw_At p s m meth c b L xs) : ∃ (x : Nat → Value) (ta : Nat → ClassId) (D : va_G), (∀ k, x k = .null ∨ ∃ a, x k = .ref a) ∧ x 41 = .ref b ∧ pm_K s.heap.size x ta D (some (L, xs)) s := by
  obtain ⟨hx, hb, hr, hml, hown, hts, hX, hbl, hlocks, hgv⟩ := C0
  have hs := flat_of_before _ hgv
  have hA : ∀ a : Nat, a < s.heap.size → ¬ (fun q => s.heap.size ≤ q) a := fun a h1 h2 => absurd h1 (Nat.not_lt.mpr h2)
  obtain ⟨adK, adV, hS, hev⟩ := vk_Sof (N := 6) (tm := fun i => .string RX1 (pm_SI.getD i 0)) (len := pm_JL) (byt := pm_JB) (A := fun q => s.heap.size ≤ q) (by decide) (fun i hi => hs _ (pm_st_ex i hi)) (fun i hi => hs _ (pm_st_co i hi)) (fun i hi => hs _ (pm_st_ar i hi)) (fun i hi => hs _ (pm_st_le i hi)) (fun i hi j hj => hs _ (pm_st_el i hi j hj))
    (fun i j hi hj hne => (pm_st_ne i hi j hj hne).elim (fun z => Or.inl (hs _ z)) (fun z => Or.inr (hs _ z))) hA
  obtain ⟨tL, hL1, hL2⟩ := va_Tof (N := 6) (f := fun j => .long (pm_LW.getD j 0)) (A := fun q => s.heap.size ≤ q) (by decide) (hs _ pm_st_lw.1) (va_eqt (hs _ pm_st_lw.2)) (fun j hj => va_eqtl (hs _ (pm_st_lj j hj))) hA
  obtain ⟨w1, w2, w3, w4, w5, w6, w7⟩ := pm_st_ls
  have hL3 := va_Zref (A := fun q => s.heap.size ≤ q) (hts _ w1) (hts _ w4) hL1 hA
  have hC3 := va_Zof (A := fun q => s.heap.size ≤ q) (hts _ w2) (hts _ w5) (va_eqt (hs _ pm_st_cs.1)) hA
  have hB3 := va_Zqof (A := fun q => s.heap.size ≤ q) (hts _ w3) (hts _ w6) (hs _ pm_st_cs.2) hA
  obtain ⟨vS, hvS, hB4⟩ : ∃ vS : Value, (vS = .null ∨ ∃ a, vS = .ref a) ∧ va_Z "jdk/internal/util/Preconditions" "SIOOBE_FORMATTER" "Ljava/util/function/BiFunction;" vS (fun q => s.heap.size ≤ q) s s.heap := by
    rcases hB3 with z | ⟨t, z⟩
    · exact ⟨.null, Or.inl rfl, z⟩
    · exact ⟨.ref t, Or.inr ⟨t, rfl⟩, z⟩
  have hw := pm_hts hts
  -- the classes
  have hk0 : ∀ k : Nat, ∃ r : ClassId × (Nat → Nat), ∀ q, vwCl[k]? = some q → u_Kn s q.1 q.2.1 q.2.2 r.1 r.2 := by
    intro k
    cases hq : vwCl[k]? with
    | none => exact ⟨(0, fun _ => 0), fun q h => by cases h⟩
    | some q =>
      obtain ⟨f1, f2, -⟩ := pm_cf_all hq
      obtain ⟨cC, iS, z⟩ := u_known hw f1 (hw _ f2)
      exact ⟨(cC, iS), fun q' h => by cases h; exact z⟩
  obtain ⟨dd, hdd⟩ := Classical.axiomOfChoice hk0
  -- the array classes
  obtain ⟨a0, k0, m0, i1, i2, i3⟩ := Cond.arrayClass_spec (hw _ pm_ac_int)
  obtain ⟨a1, k1, m1, i4, i5, i6⟩ := Cond.arrayClass_spec (hw _ pm_ac_boolean)
  obtain ⟨a2, k2, m2, i7, i8, i9⟩ := Cond.arrayClass_spec (hw _ pm_ac_byte)
  obtain ⟨a3, k3, m3, j1, j2, j3⟩ := Cond.arrayClass_spec (hw _ pm_ac_long)
  obtain ⟨m4, a4, k4, j4, j5, j6, j7, j8⟩ := Cond.arrayOver_spec (hts _ w7)
  refine ⟨fun k => if k < 6 then .ref (adK k) else if 16 ≤ k ∧ k < 22 then .ref (adV (k - 16)) else if k = 40 then .ref tL else if k = 41 then .ref b else if k = 60 then vS else .null,
    fun k => match k with | 0 => a0 | 1 => a1 | 2 => a2 | 3 => a3 | _ => a4, (fun k => (dd k).1, fun k => (dd k).2), fun k => ?_, by simp, ⟨⟨fun k q h => hdd k q h, fun k q h => ?_⟩, fun w hw9 => ?_, va_AO.of (hts _ w7), ⟨adK, adV, hS, fun i hi => ⟨?_, ?_, vk_R.of (hts _ (pm_st_sr i hi)) (hev i hi)⟩⟩, ⟨tL, by simp, hL2, hL3⟩, fun q hq9 => ⟨b, by simp, by cases hq9; exact hX, hbl, hbl⟩, hC3, by simpa using hB4⟩⟩
  · dsimp only
    split
    · exact Or.inr ⟨_, rfl⟩
    · split
      · exact Or.inr ⟨_, rfl⟩
      · split
        · exact Or.inr ⟨_, rfl⟩
        · split
          · exact Or.inr ⟨_, rfl⟩
          · split
            · exact hvS
            · exact Or.inl rfl
  · rcases k with _ | _ | _ | _ | _ | k
    · cases h
      exact ⟨fun n z => ⟨fun k h => (by cases h), k0, i2, m0, i3⟩, i1⟩
    · cases h
      exact ⟨fun n z => ⟨fun k h => (by cases h), k1, i5, m1, i6⟩, i4⟩
    · cases h
      exact ⟨fun n z => ⟨fun k h => (by cases h), k2, i8, m2, i9⟩, i7⟩
    · cases h
      exact ⟨fun n z => ⟨fun k h => (by cases h), k3, j2, m3, j3⟩, j1⟩
    · cases h
      exact ⟨fun n z => ⟨fun k h => (by cases h), k4, j6, m4, j7⟩, k4, m4, j6, j7, j4, j8⟩
    · simp [pm_tys] at h
  · obtain ⟨a, i, y, k, rfl⟩ := pm_nl_is hw9
    exact va_Nw.of rfl (hts _ (List.mem_filter.mp hw9).1)
  · simp [hi]
  · have h1 : ¬ 16 + i < 6 := by omega
    have h2 : 16 ≤ 16 + i ∧ 16 + i < 22 := by omega
    simp only [if_neg h1, if_pos h2]
    rw [show 16 + i - 16 = i by omega]
/-- the law, from what the pure machine does -/
theorem pm_whole {p : Program} {e : Env} {s : State} {m : MethodId} {below : List Frame} {meth : Method} {c : Code} (l : Launch) {b L : Nat} {xs : Nat → Int32} (C0 : lw_At p s m meth c b L xs) {f : Nat} {h' : PmH}
    (hrun : pm_run pmT (some (L, xs)) f cd_law 0 (pm_en 4 [.retAddr 41]) [] pm_h0 = some (some (.int 1), h')) (hcap : (ph_s h').length ≤ 600000 ∧ pm_sz h' ≤ 7302250) :
    W p l e room_1 s m #[Value.ref b] below meth c s.heap [] 0 0 (lw_Z below #[Value.ref b] s) (entryFrame m ([Value.ref b] : List Value).toArray 4) := by
  obtain ⟨x, ta, D, hxr, hx41, hK⟩ := pm_start C0
  obtain ⟨hx, hb, hr, hml, hown, hts, hX, hbl, hlocks, hgv⟩ := C0
  have C : pm_C p room_1 s m #[Value.ref b] meth c pmT pmM_law s.heap.size x ta D (some (L, xs)) pm_h0 := ⟨hx, hb, hml, hown, pm_hts hts, hK, rfl, Nat.le_of_ble_eq_true rfl, Nat.le_of_ble_eq_true rfl, fun z => absurd z (by decide +kernel), hxr, ck_law, pm_okT⟩
  have G := pm_walk (l := l) (x := x) (ta := ta) (D := D) (b := s.heap.size) pm_okT hxr f (some (L, xs)) p e room_1 s m #[Value.ref b] below meth c (lw_Z below #[Value.ref b] s) pmM_law pm_h0 0 _ [] pm_h0 _ h' hrun C (pm_le.rf _) ⟨hcap.1, hcap.2⟩ (fun j en lv st he hx9 => ?_)
  · have g := G s.heap [] _ (fun k q h => by simp [pm_w, pm_h0, ph_s] at h) va_S.rf (pm_lv_en (as := [.retAddr 41]) (n := 4) (pm_xc hxr) (by decide))
    have e1 : ([.retAddr 41] : List Value).map (pm_v s.heap.size x) = [.ref b] := by
      show [x 41] = _
      rw [hx41]
    rw [e1] at g
    rw [lg_entry_eq]
    exact g
  · have hck := pck_at ck_law he (pm_x_live hx9)
    have hpc := pm_pc_at he
    cases hi : pi_i en with
    | ireturn =>
      have hd := pck_d1 hck (i := .ireturn) hi rfl rfl
      unfold pm_x at hx9
      rw [hi] at hx9
      simp only [pm_ret] at hx9
      split at hx9
      · rename_i w
        have hw : w = 1 := by
          repeat' (first | (cases hx9; rfl) | cases hx9 | split at hx9)
        subst hw
        intro H locs ls hP hS hl
        rw [hpc]
        refine W.widen (k := 600000) (n := 7302250) (by show _ - 0 ≤ _; exact hcap.1) (by show _ - 0 ≤ _; exact hcap.2) ?_
        refine va_forget (fun q hq => hS.2.2 q hq) ?_
        exact lw_ret hx hb hr hlocks hd
      · cases hx9
    | lreturn =>
      exfalso
      unfold pm_x at hx9
      rw [hi] at hx9
      simp only [pm_lret] at hx9
      split at hx9 <;> cases hx9
    | return_ =>
      exfalso
      unfold pm_x at hx9
      rw [hi] at hx9
      simp only [pm_vret] at hx9
      split at hx9 <;> cases hx9
    | _ => exact absurd hx9 (by intro hx; (unfold pm_x at hx; rw [hi] at hx; (try simp only [pm_nx, pm_ii, pm_iz, pm_i1, pm_l1, pm_ll, pm_lz, pm_li, pm_ild, pm_lld, pm_ald, pm_ist, pm_lst, pm_ast, pm_br, pm_get, pm_put, pm_iald, pm_bald, pm_lald, pm_aald, pm_iast, pm_bast, pm_last, pm_aast, pm_len, pm_new, pm_nwa, pm_cpy, pm_call, pm_obj, pm_ret, pm_lret, pm_vret, pm_dup, pm_dup2, pm_pop, pm_pop2, pm_inc, pm_tsw, pm_lsw, pm_if, pm_ic, pm_gs] at hx); repeat' (first | cases hx | split at hx)))
