theorem pm_call_y {xs : PmX} {en : PmI} {j y kd : Nat} {as st' st : List Value} {h : PmH} (hx : pm_call kd en st h = some (.inr (.inr (y, as, st')))) : (pm_sl as).length ≤ (pi_t en).getD 0 0 ∧ y = pi_a en := by
  unfold pm_call at hx
  split at hx
  · cases hx
  · rename_i h8
    simp only [not_or] at h8
    obtain ⟨a1, a2, a3⟩ := h8
    have a4 := Nat.not_lt.mp a3
    split at hx
    · cases hx
      exact ⟨a4, rfl⟩
    · split at hx
      · rename_i hr
        rw [hr] at a4
        split at hx
        · split at hx
          · cases hx
            exact ⟨a4, rfl⟩
          · cases hx
        · cases hx
      · rename_i hr
        rw [hr] at a4
        split at hx
        · cases hx
          exact ⟨a4, rfl⟩
        · cases hx
      · cases hx
    · split at hx
      · rename_i hr
        rw [hr] at a4
        cases hx
        exact ⟨a4, rfl⟩
      · cases hx
theorem pm_ckc_ml {T : List PmM} {M M' : PmM} {en : PmI} {idx kd : Nat} (h : pm_ckc T M en idx kd = true) (hy : T[pi_a en]? = some M') : (pi_t en).getD 0 0 = mm_ml M' := by
  unfold pm_ckc at h
  rw [hy] at h
  simp only [Bool.and_eq_true, decide_eq_true_eq] at h
  exact h.1.1.1.2
section PMW
variable {p : Program} {l : Launch} {e : Env} {R : Room} {s : State} {m : MethodId} {args : Array Value} {below : List Frame} {meth : Method} {c : Code} {Q : State → Prop} {T : List PmM} {M M' : PmM} {b : Nat} {x : Nat → Value} {ta : Nat → ClassId} {D : va_G} {xs : PmX} {h0 : PmH} {j j' : Nat} {lv lv' : PmL} {st st' as : List Value} {h h' : PmH} {en : PmI} {v : Option Value} {y : Nat}
/-- which instruction calls, and what is known then -/
theorem pm_call_is (hx : pm_x xs en j lv st h = some (.inr (.inr (y, as, st')))) : (∃ i, pi_i en = .invokestatic i ∧ ¬ pi_d en = 7 ∧ pm_call 0 en st h = some (.inr (.inr (y, as, st')))) ∨ (∃ i, pi_i en = .invokevirtual i ∧ pm_call 1 en st h = some (.inr (.inr (y, as, st')))) ∨ (∃ i, pi_i en = .invokespecial i ∧ ¬ pi_d en = 6 ∧ pm_call 2 en st h = some (.inr (.inr (y, as, st')))) := by
  cases hi : pi_i en with
  | invokestatic i =>
    refine Or.inl ⟨i, rfl, ?_⟩
    unfold pm_x at hx
    rw [hi] at hx
    simp only at hx
    split at hx
    · simp only [pm_cpy, pm_nx] at hx
      repeat' (first | cases hx | split at hx)
    · rename_i z
      exact ⟨z, hx⟩
  | invokevirtual i =>
    refine Or.inr (Or.inl ⟨i, rfl, ?_⟩)
    unfold pm_x at hx
    rw [hi] at hx
    exact hx
  | invokespecial i =>
    refine Or.inr (Or.inr ⟨i, rfl, ?_⟩)
    unfold pm_x at hx
    rw [hi] at hx
    simp only at hx
    split at hx
    · simp only [pm_obj, pm_nx] at hx
      repeat' (first | cases hx | split at hx)
    · rename_i z
      exact ⟨z, hx⟩
  | _ => exact absurd hx (by intro hx; (unfold pm_x at hx; rw [hi] at hx; (try simp only [pm_nx, pm_ii, pm_iz, pm_i1, pm_l1, pm_ll, pm_lz, pm_li, pm_ild, pm_lld, pm_ald, pm_ist, pm_lst, pm_ast, pm_br, pm_get, pm_put, pm_iald, pm_bald, pm_lald, pm_aald, pm_iast, pm_bast, pm_last, pm_aast, pm_len, pm_new, pm_nwa, pm_cpy, pm_call, pm_obj, pm_ret, pm_lret, pm_vret, pm_dup, pm_dup2, pm_pop, pm_pop2, pm_inc, pm_tsw, pm_lsw, pm_if, pm_ic, pm_gs] at hx); repeat' (first | cases hx | split at hx)))
theorem pm_call_ml (hck : pm_ck T M j en = true) (hx : pm_x xs en j lv st h = some (.inr (.inr (y, as, st')))) (hy : T[y]? = some M') : (pm_sl as).length ≤ mm_ml M' := by
  simp only [pm_ck, Bool.and_eq_true] at hck
  replace hck := hck.2
  rcases pm_call_is hx with ⟨i, hi, h7, hc⟩ | ⟨i, hi, hc⟩ | ⟨i, hi, h6, hc⟩
  · obtain ⟨g1, g2⟩ := pm_call_y (xs := xs) (j := j) hc
    subst g2
    rw [hi] at hck
    simp only at hck
    rw [← pm_ckc_ml (kd := 0) (idx := i) (M := M) ?_ hy]
    · exact g1
    · exact hck
  · obtain ⟨g1, g2⟩ := pm_call_y (xs := xs) (j := j) hc
    subst g2
    rw [hi] at hck
    simp only [Bool.and_eq_true] at hck
    rw [← pm_ckc_ml (kd := 1) (idx := i) (M := M) hck.1 hy]
    exact g1
  · obtain ⟨g1, g2⟩ := pm_call_y (xs := xs) (j := j) hc
    subst g2
    rw [hi] at hck
    simp only at hck
    rw [← pm_ckc_ml (kd := 2) (idx := i) (M := M) ?_ hy]
    · exact g1
    · exact hck
/-- a method's own end -/
theorem pm_s_ret (C : pm_C p R s m args meth c T M b x ta D xs h0) (hr : meth.sig.returnType = mm_rt M) (hlocks : meth.locks = false) (he : (mm_cd M)[j]? = some en) (hx : pm_x xs en j lv st h = some (.inr (.inl v))) :
    pm_G p l e R s m args below meth c (MQ below (pm_Qc b x ta D v h) args s ((ph_s h).length - (ph_s h0).length) (pm_sz h - pm_sz h0) (fun q => b ≤ q)) M b x ta D h0 j lv st h := by
  obtain ⟨hx1, hb, hml, hown, hts, hK, hsz, hfr, hlo, hnm, hxr, hcM, hT⟩ := C
  have hck := pck_at hcM he (pm_x_live hx)
  have hpc := pm_pc_at he
  have hc2 := hck
  simp only [pm_ck, Bool.and_eq_true] at hc2
  replace hc2 := hc2.2
  cases hi : pi_i en with
  | ireturn =>
    have hd := pck_d1 hck (i := .ireturn) hi rfl rfl
    rw [hi] at hc2
    simp only at hc2
    unfold pm_x at hx
    rw [hi] at hx
    simp only [pm_ret] at hx
    split at hx
    · rename_i w
      have fin : ∀ ty, mm_rt M = some ty → narrow ty (.int w) = .int w → v = some (.int w) → pm_G p l e R s m args below meth c (MQ below (pm_Qc b x ta D v h) args s ((ph_s h).length - (ph_s h0).length) (pm_sz h - pm_sz h0) (fun q => b ≤ q)) M b x ta D h0 j lv [.int w] h := by
        intro ty h1 h2 h3
        subst h3
        intro H locs ls hP hS hl
        rw [hpc]
        exact W.zret hx1 hb (hr.trans h1) h2 (fun t ht hW => ⟨rfl, by rw [ht]; exact hP, by rw [ht]; exact hS.1, fun q q1 q2 => by rw [ht]; exact hS.2.1 q q1 q2⟩) hS.2.2 hd
      split at hx
      · rename_i h9
        cases hx
        rw [h9] at hc2
        exact fin .int (of_decide_eq_true hc2) rfl rfl
      · rename_i h9
        split at hx
        · rename_i h8
          cases hx
          rw [h9] at hc2
          exact fin .boolean (of_decide_eq_true hc2) (by rcases h8 with h8 | h8 <;> subst h8 <;> rfl) rfl
        · cases hx
      · rename_i h9
        split at hx
        · rename_i h8
          cases hx
          rw [h9] at hc2
          refine fin .byte (of_decide_eq_true hc2) ?_ rfl
          have : narrow .byte (.int w) = .int (vp_nar .byte w) := rfl
          rw [this, h8]
        · cases hx
      · rename_i g0 g1 g2
        split at hx
        · rename_i h8
          cases hx
          have hc3 : mm_rt M = some .char := by
            revert hc2
            split
            · rename_i z; exact absurd z g0
            · rename_i z; exact absurd z g1
            · rename_i z; exact absurd z g2
            · exact fun z => of_decide_eq_true z
          refine fin .char hc3 ?_ rfl
          have : narrow .char (.int w) = .int (vp_nar .char w) := rfl
          rw [this, h8]
        · cases hx
    · cases hx
  | lreturn =>
    have hd := pck_d1 hck (i := .lreturn) hi rfl rfl
    rw [hi] at hc2
    simp only [decide_eq_true_eq] at hc2
    unfold pm_x at hx
    rw [hi] at hx
    simp only [pm_lret] at hx
    split at hx
    · cases hx
      intro H locs ls hP hS hl
      rw [hpc]
      exact W.lret hx1 hb (hr.trans hc2) (fun t ht hW => ⟨rfl, by rw [ht]; exact hP, by rw [ht]; exact hS.1, fun q q1 q2 => by rw [ht]; exact hS.2.1 q q1 q2⟩) hS.2.2 hd
    · cases hx
  | return_ =>
    have hd := pck_d1 hck (i := .return_) hi rfl rfl
    rw [hi] at hc2
    simp only [decide_eq_true_eq] at hc2
    unfold pm_x at hx
    rw [hi] at hx
    simp only [pm_vret] at hx
    split at hx
    · cases hx
      intro H locs ls hP hS hl
      rw [hpc]
      exact W.vret hx1 hb (hr.trans hc2) (fun t ht hW => ⟨rfl, by rw [ht]; exact hP, by rw [ht]; exact hS.1, fun q q1 q2 => by rw [ht]; exact hS.2.1 q q1 q2⟩) hS.2.2 hd
    · cases hx
  | _ => exact absurd hx (by intro hx; (unfold pm_x at hx; rw [hi] at hx; (try simp only [pm_nx, pm_ii, pm_iz, pm_i1, pm_l1, pm_ll, pm_lz, pm_li, pm_ild, pm_lld, pm_ald, pm_ist, pm_lst, pm_ast, pm_br, pm_get, pm_put, pm_iald, pm_bald, pm_lald, pm_aald, pm_iast, pm_bast, pm_last, pm_aast, pm_len, pm_new, pm_nwa, pm_cpy, pm_call, pm_obj, pm_ret, pm_lret, pm_vret, pm_dup, pm_dup2, pm_pop, pm_pop2, pm_inc, pm_tsw, pm_lsw, pm_if, pm_ic, pm_gs] at hx); repeat' (first | cases hx | split at hx)))
theorem pm_step (C : pm_C p R s m args meth c T M b x ta D xs h0) (he : (mm_cd M)[j]? = some en) (hx : pm_x xs en j lv st h = some (.inl (j', lv', st', h'))) (k : pm_G p l e R s m args below meth c Q M b x ta D h0 j' lv' st' h') (hm : pm_le h0 h) (hcap : (ph_s h').length - (ph_s h0).length ≤ R.cells ∧ pm_sz h' - pm_sz h0 ≤ R.slots) : pm_G p l e R s m args below meth c Q M b x ta D h0 j lv st h := by
  cases hi : pi_i en with
  | iadd => exact pm_s_iadd C he hx k hi
  | isub => exact pm_s_isub C he hx k hi
  | imul => exact pm_s_imul C he hx k hi
  | idiv => exact pm_s_idiv C he hx k hi
  | irem => exact pm_s_irem C he hx k hi
  | ineg => exact pm_s_ineg C he hx k hi
  | ishl => exact pm_s_ishl C he hx k hi
  | ishr => exact pm_s_ishr C he hx k hi
  | iushr => exact pm_s_iushr C he hx k hi
  | iand => exact pm_s_iand C he hx k hi
  | ior => exact pm_s_ior C he hx k hi
  | ixor => exact pm_s_ixor C he hx k hi
  | ladd => exact pm_s_ladd C he hx k hi
  | lsub => exact pm_s_lsub C he hx k hi
  | lmul => exact pm_s_lmul C he hx k hi
  | ldiv => exact pm_s_ldiv C he hx k hi
  | lrem => exact pm_s_lrem C he hx k hi
  | lneg => exact pm_s_lneg C he hx k hi
  | land => exact pm_s_land C he hx k hi
  | lor => exact pm_s_lor C he hx k hi
  | lxor => exact pm_s_lxor C he hx k hi
  | lcmp => exact pm_s_lcmp C he hx k hi
  | lshl => exact pm_s_lshl C he hx k hi
  | lshr => exact pm_s_lshr C he hx k hi
  | lushr => exact pm_s_lushr C he hx k hi
  | i2l => exact pm_s_i2l C he hx k hi
  | l2i => exact pm_s_l2i C he hx k hi
  | i2b => exact pm_s_i2b C he hx k hi
  | i2c => exact pm_s_i2c C he hx k hi
  | dup => exact pm_s_dup C he hx k hi
  | dup2 => exact pm_s_dup2 C he hx k hi
  | pop => exact pm_s_pop C he hx k hi
  | pop2 => exact pm_s_pop2 C he hx k hi
  | iaload => exact pm_s_iaload C he hx k hi
  | baload => exact pm_s_baload C he hx k hi
  | laload => exact pm_s_laload C he hx k hi
  | aaload => exact pm_s_aaload C he hx k hi
  | iastore => exact pm_s_iastore C he hx k hi
  | bastore => exact pm_s_bastore C he hx k hi
  | lastore => exact pm_s_lastore C he hx k hi
  | aastore => exact pm_s_aastore C he hx k hi
  | arraylength => exact pm_s_arraylength C he hx k hi
  | iconst i => exact pm_s_iconst C he hx k hi
  | bipush i => exact pm_s_bipush C he hx k hi
  | sipush i => exact pm_s_sipush C he hx k hi
  | lconst i => exact pm_s_lconst C he hx k hi
  | iload i => exact pm_s_iload C he hx k hi
  | iload_n i => exact pm_s_iload_n C he hx k hi
  | lload i => exact pm_s_lload C he hx k hi
  | lload_n i => exact pm_s_lload_n C he hx k hi
  | aload i => exact pm_s_aload C he hx k hi
  | aload_n i => exact pm_s_aload_n C he hx k hi
  | istore i => exact pm_s_istore C he hx k hi
  | istore_n i => exact pm_s_istore_n C he hx k hi
  | lstore i => exact pm_s_lstore C he hx k hi
  | lstore_n i => exact pm_s_lstore_n C he hx k hi
  | astore_n i => exact pm_s_astore_n C he hx k hi
  | ldc i => exact pm_s_ldc C he hx k hi
  | ldc_w i => exact pm_s_ldc_w C he hx k hi
  | ldc2_w i => exact pm_s_ldc2_w C he hx k hi
  | getstatic i => exact pm_s_getstatic C he hx k hi
  | getfield i => exact pm_s_getfield C he hx k hi
  | putfield i => exact pm_s_putfield C he hx k hi
  | goto i => exact pm_s_goto C he hx k hi
  | iinc i n => exact pm_s_iinc C he hx k hi
  | tableswitch d lo up offs => exact pm_s_tableswitch C he hx k hi
  | lookupswitch d ps => exact pm_s_lookupswitch C he hx k hi
  | new i => exact pm_s_new C he hx k hm hcap hi
  | newarray i => exact pm_s_newarray C he hx k hm hcap hi
  | anewarray i => exact pm_s_anewarray C he hx k hm hcap hi
  | ifCond cc off => cases cc with
    | eq => exact pm_s_if_eq C he hx k hi
    | ne => exact pm_s_if_ne C he hx k hi
    | lt => exact pm_s_if_lt C he hx k hi
    | ge => exact pm_s_if_ge C he hx k hi
    | gt => exact pm_s_if_gt C he hx k hi
    | le => exact pm_s_if_le C he hx k hi
  | if_icmp cc off => cases cc with
    | eq => exact pm_s_ic_eq C he hx k hi
    | ne => exact pm_s_ic_ne C he hx k hi
    | lt => exact pm_s_ic_lt C he hx k hi
    | ge => exact pm_s_ic_ge C he hx k hi
    | gt => exact pm_s_ic_gt C he hx k hi
    | le => exact pm_s_ic_le C he hx k hi
  | invokestatic i =>
    by_cases h7 : pi_d en = 7
    · exact pm_s_copy C he hx k h7 hi
    · refine absurd hx (by
        intro hx
        unfold pm_x at hx
        rw [hi] at hx
        simp only at hx
        simp only [pm_call] at hx
        repeat' (first | cases hx | split at hx))
  | invokespecial i =>
    by_cases h6 : pi_d en = 6
    · exact pm_s_objinit C he hx k h6 hi
    · refine absurd hx (by
        intro hx
        unfold pm_x at hx
        rw [hi] at hx
        simp only at hx
        simp only [pm_call] at hx
        repeat' (first | cases hx | split at hx))
  | _ => exact absurd hx (by intro hx; (unfold pm_x at hx; rw [hi] at hx; (try simp only [pm_nx, pm_ii, pm_iz, pm_i1, pm_l1, pm_ll, pm_lz, pm_li, pm_ild, pm_lld, pm_ald, pm_ist, pm_lst, pm_ast, pm_br, pm_get, pm_put, pm_iald, pm_bald, pm_lald, pm_aald, pm_iast, pm_bast, pm_last, pm_aast, pm_len, pm_new, pm_nwa, pm_cpy, pm_call, pm_obj, pm_ret, pm_lret, pm_vret, pm_dup, pm_dup2, pm_pop, pm_pop2, pm_inc, pm_tsw, pm_lsw, pm_if, pm_ic, pm_gs] at hx); repeat' (first | cases hx | split at hx)))
theorem pm_run_le {T : List PmM} : ∀ (f : Nat) {xs : PmX} {es : List PmI} {j : Nat} {lv : PmL} {st : List Value} {h : PmH} {r : Option Value × PmH}, pm_run T xs f es j lv st h = some r → pm_le h r.2 := by
  intro f
  induction f with
  | zero => intro xs es j lv st h r hr; simp [pm_run] at hr
  | succ f ih =>
    intro xs es j lv st h r hr
    rw [pm_run] at hr
    cases he : es[j]? with
    | none => rw [he] at hr; simp at hr
    | some e =>
      rw [he] at hr
      simp only at hr
      cases hx : pm_x xs e j lv st h with
      | none => rw [hx] at hr; simp at hr
      | some z =>
        rw [hx] at hr
        rcases z with ⟨j', lv', st', h'⟩ | v | ⟨y, as, st'⟩
        · simp only at hr
          exact (pm_x_le hx).tr (ih hr)
        · simp only [Option.some.injEq] at hr
          subst hr
          exact pm_le.rf _
        · simp only at hr
          cases hc : pm_run T none f (pm_cd T y) 0 (pm_en (pm_ml T y) as) [] h with
          | none => rw [hc] at hr; simp at hr
          | some w =>
            rw [hc] at hr
            exact (ih hc).tr (ih hr)
end PMW
/-- THE WALK: what the pure machine does, the JVM does -/
theorem pm_walk {l : Launch} {T : List PmM} {b : Nat} {x : Nat → Value} {ta : Nat → ClassId} {D : va_G} (hT : pm_ok T) (hxr : ∀ k, x k = .null ∨ ∃ a, x k = .ref a) : ∀ (f : Nat) (xs : PmX) (p : Program) (e : Env) (R : Room) (s : State) (m : MethodId) (args : Array Value) (below : List Frame) (meth : Method) (c : Code) (Q : State → Prop) (M : PmM) (h0 : PmH) (j : Nat) (lv : PmL) (st : List Value) (h : PmH) (v : Option Value) (h' : PmH),
    pm_run T xs f (mm_cd M) j lv st h = some (v, h') → pm_C p R s m args meth c T M b x ta D xs h0 → pm_le h0 h → ((ph_s h').length - (ph_s h0).length ≤ R.cells ∧ pm_sz h' - pm_sz h0 ≤ R.slots) →
    (∀ (j : Nat) (en : PmI) (lv : PmL) (st : List Value), (mm_cd M)[j]? = some en → pm_x xs en j lv st h' = some (.inr (.inl v)) → pm_G p l e R s m args below meth c Q M b x ta D h0 j lv st h') → pm_G p l e R s m args below meth c Q M b x ta D h0 j lv st h := by
  intro f
  induction f with
  | zero => intro xs p e R s m args below meth c Q M h0 j lv st h v h' hr; simp [pm_run] at hr
  | succ f ih =>
    intro xs p e R s m args below meth c Q M h0 j lv st h v h' hr C hm hcap hret
    rw [pm_run] at hr
    cases he : (mm_cd M)[j]? with
    | none => rw [he] at hr; simp at hr
    | some en =>
      rw [he] at hr
      simp only at hr
      cases hx : pm_x xs en j lv st h with
      | none => rw [hx] at hr; simp at hr
      | some z =>
        rw [hx] at hr
        rcases z with ⟨j', lv', st', h2⟩ | v' | ⟨y, as, st'⟩
        · simp only at hr
          have l1 := pm_x_le hx
          have l2 : pm_le h2 h' := pm_run_le f hr
          refine pm_step C he hx (ih xs p e R s m args below meth c Q M h0 j' lv' st' h2 v h' hr C (hm.tr l1) hcap hret) hm ?_
          obtain ⟨n1, n2⟩ := l2
          omega
        · simp only [Option.some.injEq, Prod.mk.injEq] at hr
          obtain ⟨r1, r2⟩ := hr
          subst r1
          subst r2
          exact hret j en lv st he hx
        · simp only at hr
          cases hc : pm_run T none f (pm_cd T y) 0 (pm_en (pm_ml T y) as) [] h with
          | none => rw [hc] at hr; simp at hr
          | some w =>
            obtain ⟨v2, h2⟩ := w
            rw [hc] at hr
            simp only at hr
            have l1 : pm_le h h2 := pm_run_le f hc
            have l2 : pm_le h2 h' := pm_run_le f hr
            have hk := ih xs p e R s m args below meth c Q M h0 (j + 1) lv (v2.toList ++ st') h2 v h' hr C (hm.tr l1) hcap hret
            have hcap2 : (ph_s h2).length - (ph_s h0).length ≤ R.cells ∧ pm_sz h2 - pm_sz h0 ≤ R.slots := by
              obtain ⟨n1, n2⟩ := l2
              omega
            cases hy : T[y]? with
            | none =>
              exfalso
              simp only [pm_cd, hy] at hc
              cases f with
              | zero => simp [pm_run] at hc
              | succ f => simp [pm_run] at hc
            | some M' =>
              simp only [pm_cd, pm_ml, hy] at hc
              have hml := pm_call_ml (pck_at C.2.2.2.2.2.2.2.2.2.2.2.1 he (pm_x_live hx)) hx hy
              have hmet : pm_Met l M' b x ta D as h v2 h2 := by
                have hcy := hT y M' hy
                have hcy2 := hcy
                simp only [pm_ckM, Bool.and_eq_true, decide_eq_true_eq] at hcy2
                refine va_MetF (cc := mm_by M') (maxL := mm_ml M') (ret := mm_rt M') hcy2.1.1.1.1.1.1 rfl ?_
                intro p e s m args below meth c s₁ B hml2 hv
                obtain ⟨rfl, hsz, hP, hK⟩ := hv
                have hts : ∀ w ∈ pm_wsM M', w.before _ s = true := atoms_spec (ws := pm_wsM M') B.pre
                have C2 : pm_C p (headSpec (pm_wsM M') (pm_rm M' h h2)).room s m (as.map (pm_v b x)).toArray meth c T M' b x ta D none h := ⟨B.exec, B.bytes, hml2, findClass_of_methodNamed B.named, fun w hw => hts w (List.mem_cons_of_mem _ hw), hK, hsz, Nat.le_refl _, Nat.le_refl _, fun z => (name_of_methodNamed B.named B.method).1.trans z, hxr, pckM_I hcy, hT⟩
                have G := ih none p e _ s m _ below meth c _ M' h 0 _ [] h v2 h2 hc C2 (pm_le.rf h) ⟨Nat.le_refl _, Nat.le_refl _⟩ (fun j en lv st he hx => pm_s_ret C2 B.returns B.notSynchronized he hx)
                have g := G s.heap [] _ hP va_S.rf (pm_lv_en (pm_xc hxr) hml)
                rw [Nat.sub_self, Nat.sub_self, hcy2.1.2] at g
                rw [lg_entry_eq]
                exact g
              rcases pm_call_is hx with ⟨i, hi, -, -⟩ | ⟨i, hi, -⟩ | ⟨i, hi, -, -⟩
              · exact pm_s_callS C he hx hy hmet hm l1 hcap2 hk hi
              · exact pm_s_callV C he hx hy hmet hm l1 hcap2 hk hi
              · exact pm_s_callI C he hx hy hmet hm l1 hcap2 hk hi
