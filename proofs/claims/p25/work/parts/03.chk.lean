def pm_k (c s : Nat) : Nat := (pm_KD.getD c []).getD s 0
/-! WHAT IS CHECKED OF A METHOD's CODE, by program -/
def pm_pc (es : List PmI) (j : Nat) : Nat := match es[j]? with
  | some e => pi_pc e
  | none => 0
def pm_ws : List Cond := lw_tbl.filter goodWord
def pm_has (q : Nat) (w : Cond) : Bool := goodWord w && decide (lw_tbl[q]? = some w)
theorem pm_has_in {q : Nat} {w : Cond} (h : pm_has q w = true) : w ∈ pm_ws := by
  simp only [pm_has, Bool.and_eq_true, decide_eq_true_eq] at h
  exact List.mem_filter.mpr ⟨List.mem_of_getElem? h.2, h.1⟩
theorem pm_ws_good : GoodIn pm_ws pm_ws := fun w h => ⟨h, good_of_word (List.mem_filter.mp h).2⟩
def pm_nl : List Cond := lw_tbl.filter (fun w => match w with | .methodLinkNest _ _ _ _ => true | _ => false)
def pm_SI : List Nat := [109, 118, 120, 122, 124, 125]
def pm_ST : List String := ["size", "keep", "info", "check", "erase", "list"]
/-- how long an instruction is -/
def pm_ln : Instr → Nat
  | .bipush _ | .ldc _ | .iload _ | .lload _ | .aload _ | .istore _ | .lstore _ | .astore _ | .newarray _ => 2
  | .sipush _ | .ldc_w _ | .ldc2_w _ | .iinc _ _ | .goto _ | .ifCond _ _ | .if_icmp _ _ | .getstatic _ | .getfield _ | .putfield _ | .invokevirtual _ | .invokespecial _ | .invokestatic _ | .new _ | .anewarray _ => 3
  | _ => 1
def pm_sw : Instr → Bool
  | .tableswitch _ _ _ _ | .lookupswitch _ _ => true
  | _ => false
def pm_end : Instr → Bool
  | .tableswitch _ _ _ _ | .lookupswitch _ _ | .goto _ | .ireturn | .lreturn | .return_ | .athrow => true
  | _ => false
/-- a call's check: M the caller, M' the callee -/
def pm_ckc (T : List PmM) (M : PmM) (e : PmI) (idx kd : Nat) : Bool := match T[pi_a e]? with
  | none => false
  | some M' => decide (mm_kd M' = kd) && decide (pi_c e = mm_na M' + (if kd = 0 then 0 else 1)) && decide ((pi_t e).getD 0 0 = mm_ml M') && decide (mm_fr M' + 1 ≤ mm_fr M) && decide (8 + (mm_ml M' + 11) + mm_lo M' ≤ mm_lo M) &&
    (if pi_v e = 0 then pm_has (pi_q e) (.methodLink (mm_nm M).cls idx (mm_nm M')) else decide (pm_nl[pi_q e]? = some (.methodLinkNest (mm_nm M).cls idx (mm_nm M') "ButterflyCode")))

def pm_aty : Nat → Option ArrayType
  | 0 => some .int
  | 1 => some .boolean
  | 2 => some .byte
  | 3 => some .long
  | _ => none
def pm_ck (T : List PmM) (M : PmM) (j : Nat) (e : PmI) : Bool :=
  decide (decode (mm_by M) (pi_pc e) = .ok (pi_i e, pi_n e)) && (pm_sw (pi_i e) || decide (pi_n e = pm_ln (pi_i e))) && (pm_end (pi_i e) || decide (pm_pc (mm_cd M) (j + 1) = pi_pc e + pi_n e)) &&
  (match pi_i e with
  | .goto off => decide ((pi_pc e : Int) + off = (pm_pc (mm_cd M) (pi_a e) : Int))
  | .ifCond _ off => decide ((pi_pc e : Int) + off = (pm_pc (mm_cd M) (pi_a e) : Int))
  | .if_icmp _ off => decide ((pi_pc e : Int) + off = (pm_pc (mm_cd M) (pi_a e) : Int))
  | .tableswitch d _ _ offs => decide ((pi_pc e : Int) + d = (pm_pc (mm_cd M) (pi_a e) : Int)) && decide (offs.toList = (pi_t e).map (fun t => (pm_pc (mm_cd M) t : Int) - (pi_pc e : Int)))
  | .lookupswitch d ps => decide ((pi_pc e : Int) + d = (pm_pc (mm_cd M) (pi_a e) : Int)) && decide (ps.toList.map (fun q => q.2) = (pi_t e).map (fun t => (pm_pc (mm_cd M) t : Int) - (pi_pc e : Int))) && (ps.toList.zip (ps.toList.drop 1)).all (fun (a, next) => a.1 < next.1)
  | .ireturn => (match pi_d e with
    | 0 => decide (mm_rt M = some .int)
    | 1 => decide (mm_rt M = some .boolean)
    | 2 => decide (mm_rt M = some .byte)
    | _ => decide (mm_rt M = some .char))
  | .lreturn => decide (mm_rt M = some .long)
  | .return_ => decide (mm_rt M = none)
  | .istore i => decide (i < mm_ml M)
  | .istore_n i => decide ((i : Nat) < mm_ml M)
  | .astore_n i => decide ((i : Nat) < mm_ml M)
  | .lstore i => decide (i + 1 < mm_ml M)
  | .lstore_n i => decide ((i : Nat) + 1 < mm_ml M)
  | .iinc i _ => decide (i < mm_ml M)
  | .ldc i => (match pi_d e with
    | 0 => pm_has (pi_q e) (.constant (mm_nm M).cls i (Int32.ofInt (pi_v e)))
    | _ => decide ((mm_nm M).cls = RX1 ∧ pi_a e < 6 ∧ pm_SI.getD (pi_a e) 0 = i))
  | .ldc_w i => pm_has (pi_q e) (.constant (mm_nm M).cls i (Int32.ofInt (pi_v e)))
  | .ldc2_w i => pm_has (pi_q e) (.constantLong (mm_nm M).cls i (Int64.ofInt (pi_v e)))
  | .getstatic i => (match pi_d e with
    | 0 => decide (pi_v e = 1) && pm_has (pi_q e) (.fieldLink (mm_nm M).cls i "java/lang/String" "COMPACT_STRINGS" "Z")
    | 1 => decide (pi_a e = 40) && pm_has (pi_q e) (.fieldLink (mm_nm M).cls i "ButterflyCode" "LOWER" "[J")
    | _ => decide (pi_a e = 60) && pm_has (pi_q e) (.fieldLink (mm_nm M).cls i "jdk/internal/util/Preconditions" "SIOOBE_FORMATTER" "Ljava/util/function/BiFunction;"))
  | .getfield i => (if pi_a e = 99 then (if pi_c e = 0 then pm_has (pi_q e) (.fieldLink (mm_nm M).cls i "java/lang/String" "value" "[B") else pm_has (pi_q e) (.fieldLink (mm_nm M).cls i "java/lang/String" "coder" "B")) else
    match vwCl[pi_a e]? with
    | none => false
    | some (_, TT, N) => decide (pi_c e < N) && decide (pi_d e = pm_k (pi_a e) (pi_c e)) && pm_has (pi_q e) (.fieldLink (mm_nm M).cls i (TT (pi_c e)).1 (TT (pi_c e)).2.1 (TT (pi_c e)).2.2.1))
  | .putfield i => (match vwCl[pi_a e]? with
    | none => false
    | some (_, TT, N) => decide (pi_c e < N) && decide (pi_d e = pm_k (pi_a e) (pi_c e)) && pm_has (pi_q e) (.fieldLink (mm_nm M).cls i (TT (pi_c e)).1 (TT (pi_c e)).2.1 (TT (pi_c e)).2.2.1) &&
      (!(TT (pi_c e)).2.2.2 || (decide ((TT (pi_c e)).1 = (mm_nm M).cls) && decide ((mm_nm M).name = "<init>"))))
  | .new i => (match vwCl[pi_a e]? with
    | none => false
    | some (C, _, N) => decide (pi_c e = N) && pm_has (pi_q e) (.classLink (mm_nm M).cls i C))
  | .newarray t => decide (pm_aty (pi_d e) = some t)
  | .anewarray i => pm_has (pi_q e) (.classLink (mm_nm M).cls i RX6)
  | .invokestatic i => (match pi_d e with
    | 7 => decide (1 ≤ mm_fr M) && decide (26 ≤ mm_lo M) && pm_has (pi_q e) (.methodLink (mm_nm M).cls i arraycopyName)
    | _ => pm_ckc T M e i 0)
  | .invokevirtual i => pm_ckc T M e i 1 && (match T[pi_a e]? with
    | none => false
    | some M' => if pi_d e = 99 then decide ((mm_nm M').cls = "java/lang/String") else match vwCl[pi_d e]? with
      | none => false
      | some (C, _, _) => decide ((mm_nm M').cls = C))
  | .invokespecial i => (match pi_d e with
    | 6 => decide (1 ≤ mm_fr M) && decide (20 ≤ mm_lo M) && pm_has (pi_q e) (.methodLink (mm_nm M).cls i objectInit)
    | _ => pm_ckc T M e i 2)
  | _ => true)
/-- an instruction that no run comes to is laid as athrow -/
def pm_dead : Instr → Bool
  | .athrow => true
  | _ => false
theorem pm_x_live {xs : PmX} {e : PmI} {j : Nat} {lv : PmL} {st : List Value} {h : PmH} {z : PmR} (hx : pm_x xs e j lv st h = some z) : pm_dead (pi_i e) = false := by
  cases hi : pi_i e <;> first | rfl | (unfold pm_x at hx; rw [hi] at hx; cases hx)
def pm_ckI (T : List PmM) (M : PmM) : Bool := (List.range (mm_cd M).length).all (fun j => match (mm_cd M)[j]? with
    | none => true
    | some e => pm_dead (pi_i e) || pm_ck T M j e)
/-- a method's own check: its words -/
def pm_ckM (T : List PmM) (M : PmM) : Bool :=
  plainFor (mm_nm M) && pm_has (mm_pl M).1 (.code (mm_nm M) (mm_by M) (mm_ml M) (mm_rt M)) && pm_has (mm_pl M).2.1 (.initialized (mm_nm M).cls) &&
  decide ((mm_nm M).cls ≠ "java/lang/invoke/MethodHandle" ∧ (mm_nm M).cls ≠ "java/lang/invoke/VarHandle" ∧ (parseMethodDescriptor (mm_nm M).desc).map (fun d => d.parameters.length) = some (mm_na M)) &&
  (match mm_kd M with
  | 0 => pm_has (mm_pl M).2.2.1 (.static (mm_nm M))
  | 1 => pm_has (mm_pl M).2.2.1 (.instanceMethod (mm_nm M)) && pm_has (mm_pl M).2.2.2 (.selects (mm_nm M).cls (mm_nm M) (mm_nm M))
  | _ => pm_has (mm_pl M).2.2.1 (.instanceMethod (mm_nm M)) && decide ((mm_nm M).name = "<init>" ∧ mm_rt M = none)) && decide (pm_pc (mm_cd M) 0 = 0) && pm_ckI T M
def pm_ok (T : List PmM) : Prop := ∀ (y : Nat) (M : PmM), T[y]? = some M → pm_ckM T M = true
theorem pckM_I {T : List PmM} {M : PmM} (h : pm_ckM T M = true) : pm_ckI T M = true := by
  simp only [pm_ckM, Bool.and_eq_true] at h
  exact h.2
theorem pck_at {T : List PmM} {M : PmM} (h : pm_ckI T M = true) {j : Nat} {e : PmI} (he : (mm_cd M)[j]? = some e) (hl : pm_dead (pi_i e) = false) : pm_ck T M j e = true := by
  unfold pm_ckI at h
  have h1 := List.all_eq_true.mp h j (List.mem_range.mpr (List.getElem?_eq_some_iff.mp he).1)
  rw [he] at h1
  simp only [hl, Bool.false_or] at h1
  exact h1
theorem pck_dec {T : List PmM} {M : PmM} {j : Nat} {e : PmI} (h : pm_ck T M j e = true) : decode (mm_by M) (pi_pc e) = .ok (pi_i e, pi_n e) := by
  simp only [pm_ck, Bool.and_eq_true, decide_eq_true_eq] at h
  exact h.1.1.1
theorem pck_d1 {T : List PmM} {M : PmM} {j : Nat} {e : PmI} (h : pm_ck T M j e = true) {i : Instr} (hi : pi_i e = i) {n : Nat} (hs : pm_sw i = false) (hn : pm_ln i = n) : decode (mm_by M) (pi_pc e) = .ok (i, n) := by
  have hd := pck_dec h
  simp only [pm_ck, Bool.and_eq_true, decide_eq_true_eq] at h
  have h2 := h.1.1.2
  rw [hi] at h2 hd
  simp only [hs, Bool.false_or, decide_eq_true_eq] at h2
  rw [h2, hn] at hd
  exact hd
theorem pck_nx {T : List PmM} {M : PmM} {j : Nat} {e : PmI} (h : pm_ck T M j e = true) {i : Instr} (hi : pi_i e = i) {n : Nat} (hs : pm_sw i = false) (hn : pm_ln i = n) (he : pm_end i = false) : pm_pc (mm_cd M) (j + 1) = pi_pc e + n := by
  simp only [pm_ck, Bool.and_eq_true, decide_eq_true_eq] at h
  have h2 := h.1.1.2
  have h3 := h.1.2
  rw [hi] at h2 h3
  simp only [hs, he, Bool.false_or, decide_eq_true_eq] at h2 h3
  rw [h3, h2, hn]
theorem pm_pc_at {es : List PmI} {j : Nat} {e : PmI} (he : es[j]? = some e) : pm_pc es j = pi_pc e := by rw [pm_pc, he]
