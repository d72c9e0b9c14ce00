/-! ROWS OF THE PURE MACHINE, for walking a method by hand or by program -/
def pm_cp (c : Jvm.ClassFile.Cond) (x y : Int32) : Prop := match c with
  | .eq => x = y
  | .ne => ¬ x = y
  | .lt => x < y
  | .ge => y ≤ x
  | .gt => y < x
  | .le => x ≤ y
section PMG
variable {T : List PmM} {xs : PmX} {es : List PmI} {j : Nat} {lv : PmL} {st : List Value} {h : PmH} {S : List (Nat × Nat)} {fi : Nat → Nat → Int32} {fl : Nat → Nat → Int64} {fr : Nat → Nat → Option Nat} {r : Option Value × PmH}
variable {pc n idx a c d q : Nat} {v : Int} {ts : List Nat}
theorem g_n (n : Nat) {j' : Nat} {lv' : PmL} {st' : List Value} {h' : PmH} (hz : pm_ns xs es n (j, lv, st, h) = some (j', lv', st', h')) (k : Go T xs es j' lv' st' h' r) : Go T xs es j lv st h r := Go.ns (z := (j, lv, st, h)) (z' := (j', lv', st', h')) n hz k
theorem g_getR {p N q' : Nat} (he : es[j]? = some (pc, n, .getfield idx, a, c, 2, q, v, ts)) (hs : S[p]? = some (10 + a, N)) (hc : c < N) (hr : fr p c = some q') (k : Go T xs es (j + 1) lv (.ref q' :: st) (S, fi, fl, fr) r) : Go T xs es j lv (.ref p :: st) (S, fi, fl, fr) r := by
  refine Go.step he ?_ k
  simp [pm_x, pm_get, hs, hc, pm_fv, hr, pm_rv, pm_nx, ph_r, ph_s, pi_a, pi_c, pi_d, pi_i]
theorem g_getI {p N : Nat} {x : Int32} (he : es[j]? = some (pc, n, .getfield idx, a, c, d, q, v, ts)) (hd : d = 0 ∨ d = 3) (hs : S[p]? = some (10 + a, N)) (hc : c < N) (hr : fi p c = x) (k : Go T xs es (j + 1) lv (.int x :: st) (S, fi, fl, fr) r) : Go T xs es j lv (.ref p :: st) (S, fi, fl, fr) r := by
  refine Go.step he ?_ k
  rcases hd with hd | hd <;> subst hd <;> simp [pm_x, pm_get, hs, hc, pm_fv, hr, pm_nx, ph_i, ph_l, ph_s, pi_a, pi_c, pi_d, pi_i]
theorem g_getL {p N : Nat} {x : Int64} (he : es[j]? = some (pc, n, .getfield idx, a, c, 1, q, v, ts)) (hs : S[p]? = some (10 + a, N)) (hc : c < N) (hr : fl p c = x) (k : Go T xs es (j + 1) lv (.long x :: st) (S, fi, fl, fr) r) : Go T xs es j lv (.ref p :: st) (S, fi, fl, fr) r := by
  refine Go.step he ?_ k
  simp [pm_x, pm_get, hs, hc, pm_fv, hr, pm_nx, ph_i, ph_l, ph_s, pi_a, pi_c, pi_d, pi_i]
theorem g_putI {p N : Nat} {x : Int32} (he : es[j]? = some (pc, n, .putfield idx, a, c, d, q, v, ts)) (hd : d = 0 ∨ (d = 3 ∧ (x = 0 ∨ x = 1))) (hs : S[p]? = some (10 + a, N)) (hc : c < N) (k : Go T xs es (j + 1) lv st (S, pm_u2 fi p c x, fl, fr) r) : Go T xs es j lv (.int x :: .ref p :: st) (S, fi, fl, fr) r := by
  refine Go.step he ?_ k
  simp [pm_x, pm_put, hs, hc, pm_nx, hd]
theorem g_putL {p N : Nat} {x : Int64} (he : es[j]? = some (pc, n, .putfield idx, a, c, 1, q, v, ts)) (hs : S[p]? = some (10 + a, N)) (hc : c < N) (k : Go T xs es (j + 1) lv st (S, fi, pm_u2 fl p c x, fr) r) : Go T xs es j lv (.long x :: .ref p :: st) (S, fi, fl, fr) r := by
  refine Go.step he ?_ k
  simp [pm_x, pm_put, hs, hc, pm_nx]
theorem g_putR {p N x : Nat} (he : es[j]? = some (pc, n, .putfield idx, a, c, 2, q, v, ts)) (hs : S[p]? = some (10 + a, N)) (hc : c < N) (k : Go T xs es (j + 1) lv st (S, fi, fl, pm_u2 fr p c (some x)) r) : Go T xs es j lv (.ref x :: .ref p :: st) (S, fi, fl, fr) r := by
  refine Go.step he ?_ k
  simp [pm_x, pm_put, hs, hc, pm_nx]
theorem g_if {cc : Jvm.ClassFile.Cond} {off : Int} {x : Int32} (he : es[j]? = some (pc, n, .ifCond cc off, a, c, d, q, v, ts)) (kt : pm_cp cc x 0 → Go T xs es a lv st h r) (kf : ¬ pm_cp cc x 0 → Go T xs es (j + 1) lv st h r) : Go T xs es j lv (.int x :: st) h r := by
  by_cases hc : pm_cp cc x 0
  · refine Go.step he ?_ (kt hc)
    show pm_br cc x 0 (pm_nx a lv st h) (pm_nx (j + 1) lv st h) = some (.inl (a, lv, st, h))
    cases cc <;> first | exact if_pos hc | exact if_neg hc
  · refine Go.step he ?_ (kf hc)
    show pm_br cc x 0 (pm_nx a lv st h) (pm_nx (j + 1) lv st h) = some (.inl (j + 1, lv, st, h))
    cases cc <;> first | exact if_neg hc | exact if_pos (Classical.not_not.mp hc)
theorem g_ic {cc : Jvm.ClassFile.Cond} {off : Int} {x y : Int32} (he : es[j]? = some (pc, n, .if_icmp cc off, a, c, d, q, v, ts)) (kt : pm_cp cc x y → Go T xs es a lv st h r) (kf : ¬ pm_cp cc x y → Go T xs es (j + 1) lv st h r) : Go T xs es j lv (.int y :: .int x :: st) h r := by
  by_cases hc : pm_cp cc x y
  · refine Go.step he ?_ (kt hc)
    show pm_br cc x y (pm_nx a lv st h) (pm_nx (j + 1) lv st h) = some (.inl (a, lv, st, h))
    cases cc <;> first | exact if_pos hc | exact if_neg hc
  · refine Go.step he ?_ (kf hc)
    show pm_br cc x y (pm_nx a lv st h) (pm_nx (j + 1) lv st h) = some (.inl (j + 1, lv, st, h))
    cases cc <;> first | exact if_neg hc | exact if_pos (Classical.not_not.mp hc)
theorem g_ift {cc : Jvm.ClassFile.Cond} {off : Int} {x : Int32} (he : es[j]? = some (pc, n, .ifCond cc off, a, c, d, q, v, ts)) (hc : pm_cp cc x 0) (k : Go T xs es a lv st h r) : Go T xs es j lv (.int x :: st) h r := g_if he (fun _ => k) (fun z => absurd hc z)
theorem g_iff {cc : Jvm.ClassFile.Cond} {off : Int} {x : Int32} (he : es[j]? = some (pc, n, .ifCond cc off, a, c, d, q, v, ts)) (hc : ¬ pm_cp cc x 0) (k : Go T xs es (j + 1) lv st h r) : Go T xs es j lv (.int x :: st) h r := g_if he (fun z => absurd z hc) (fun _ => k)
theorem g_ict {cc : Jvm.ClassFile.Cond} {off : Int} {x y : Int32} (he : es[j]? = some (pc, n, .if_icmp cc off, a, c, d, q, v, ts)) (hc : pm_cp cc x y) (k : Go T xs es a lv st h r) : Go T xs es j lv (.int y :: .int x :: st) h r := g_ic he (fun _ => k) (fun z => absurd hc z)
theorem g_icf {cc : Jvm.ClassFile.Cond} {off : Int} {x y : Int32} (he : es[j]? = some (pc, n, .if_icmp cc off, a, c, d, q, v, ts)) (hc : ¬ pm_cp cc x y) (k : Go T xs es (j + 1) lv st h r) : Go T xs es j lv (.int y :: .int x :: st) h r := g_ic he (fun z => absurd z hc) (fun _ => k)
theorem g_ret {w : Int32} (he : es[j]? = some (pc, n, .ireturn, a, c, 0, q, v, ts)) : Go T xs es j lv [.int w] h (some (.int w), h) := Go.ret he rfl
theorem g_retz {w : Int32} (he : es[j]? = some (pc, n, .ireturn, a, c, 1, q, v, ts)) (hw : w = 0 ∨ w = 1) : Go T xs es j lv [.int w] h (some (.int w), h) := by
  refine Go.ret he ?_
  simp [pm_x, pm_ret, hw]
theorem g_lret {w : Int64} (he : es[j]? = some (pc, n, .lreturn, a, c, d, q, v, ts)) : Go T xs es j lv [.long w] h (some (.long w), h) := Go.ret he rfl
theorem g_vret (he : es[j]? = some (pc, n, .return_, a, c, d, q, v, ts)) : Go T xs es j lv [] h (none, h) := Go.ret he rfl
theorem g_call {e : PmI} {y : Nat} {as st' : List Value} {w : Value} {h' : PmH} (he : es[j]? = some e) (hx : pm_x xs e j lv st h = some (.inr (.inr (y, as, st')))) (hc : Ev T y as h (some w) h') (k : Go T xs es (j + 1) lv (w :: st') h' r) : Go T xs es j lv st h r := Go.call he hx hc k
theorem g_callv {e : PmI} {y : Nat} {as st' : List Value} {h' : PmH} (he : es[j]? = some e) (hx : pm_x xs e j lv st h = some (.inr (.inr (y, as, st')))) (hc : Ev T y as h none h') (k : Go T xs es (j + 1) lv st' h' r) : Go T xs es j lv st h r := Go.call he hx hc k
/-- a call of a virtual method on an object -/
theorem g_cv {pcx nx idx y na dx qx : Nat} {vx : Int} {ml p N : Nat} {as st' : List Value} {w : Value} {h' : PmH} (he : es[j]? = some (pcx, nx, .invokevirtual idx, y, na, dx, qx, vx, [ml])) (hs : S[p]? = some (10 + dx, N)) (ha : (st.take na).reverse = .ref p :: as) (hd : st.drop na = st') (hl : (decide (st.length < na) || decide (8 < ((st.drop na).map fun v => v.category).sum) || decide (ml < (pm_sl (st.take na).reverse).length)) = false)
    (hc : Ev T y (.ref p :: as) (S, fi, fl, fr) (some w) h') (k : Go T xs es (j + 1) lv (w :: st') h' r) : Go T xs es j lv st (S, fi, fl, fr) r := by
  refine Go.call he ?_ hc k
  simp only [Bool.or_eq_false_iff, decide_eq_false_iff_not] at hl
  simp only [pm_x, pm_call]
  rw [if_neg (by simp only [not_or]; exact ⟨hl.1.1, hl.1.2, hl.2⟩)]
  simp [ha, hs, hd]
theorem g_cvv {pcx nx idx y na dx qx : Nat} {vx : Int} {ml p N : Nat} {as st' : List Value} {h' : PmH} (he : es[j]? = some (pcx, nx, .invokevirtual idx, y, na, dx, qx, vx, [ml])) (hs : S[p]? = some (10 + dx, N)) (ha : (st.take na).reverse = .ref p :: as) (hd : st.drop na = st') (hl : (decide (st.length < na) || decide (8 < ((st.drop na).map fun v => v.category).sum) || decide (ml < (pm_sl (st.take na).reverse).length)) = false)
    (hc : Ev T y (.ref p :: as) (S, fi, fl, fr) none h') (k : Go T xs es (j + 1) lv st' h' r) : Go T xs es j lv st (S, fi, fl, fr) r := by
  refine Go.call he ?_ hc k
  simp only [Bool.or_eq_false_iff, decide_eq_false_iff_not] at hl
  simp only [pm_x, pm_call]
  rw [if_neg (by simp only [not_or]; exact ⟨hl.1.1, hl.1.2, hl.2⟩)]
  simp [ha, hs, hd]
theorem g_iald {p N k : Nat} {i x : Int32} (he : es[j]? = some (pc, n, .iaload, a, c, d, q, v, ts)) (hs : S[p]? = some (0, N)) (hi : i = nI k) (hk : k < N) (hN : N < 2 ^ 31) (hr : fi p k = x) (kk : Go T xs es (j + 1) lv (.int x :: st) (S, fi, fl, fr) r) : Go T xs es j lv (.int i :: .ref p :: st) (S, fi, fl, fr) r := by
  subst hi
  have hin := nI_in hk hN
  refine Go.step he ?_ kk
  rw [nI_clamp (by omega)] at hin
  simp only [pm_x, pm_iald, hs, nI_clamp (show k < 2 ^ 31 by omega)]
  rw [if_neg hin]
  show (some (Sum.inl (j + 1, lv, Value.int (fi p k) :: st, S, fi, fl, fr)) : Option PmR) = _
  rw [hr]
theorem g_bald {p N k t : Nat} {i x : Int32} (he : es[j]? = some (pc, n, .baload, a, c, d, q, v, ts)) (hs : S[p]? = some (t, N)) (ht : t = 1 ∨ t = 2) (hi : i = nI k) (hk : k < N) (hN : N < 2 ^ 31) (hr : fi p k = x) (kk : Go T xs es (j + 1) lv (.int x :: st) (S, fi, fl, fr) r) : Go T xs es j lv (.int i :: .ref p :: st) (S, fi, fl, fr) r := by
  subst hi
  have hin := nI_in hk hN
  refine Go.step he ?_ kk
  rw [nI_clamp (by omega)] at hin
  rcases ht with ht | ht <;> subst ht <;> simp only [pm_x, pm_bald, hs, nI_clamp (show k < 2 ^ 31 by omega)] <;> rw [if_neg hin] <;> (show (some (Sum.inl (j + 1, lv, Value.int (fi p k) :: st, S, fi, fl, fr)) : Option PmR) = _) <;> rw [hr]
theorem g_aald {p N k z : Nat} {i : Int32} (he : es[j]? = some (pc, n, .aaload, a, c, d, q, v, ts)) (hs : S[p]? = some (4, N)) (hi : i = nI k) (hk : k < N) (hN : N < 2 ^ 31) (hr : fr p k = some z) (kk : Go T xs es (j + 1) lv (.ref z :: st) (S, fi, fl, fr) r) : Go T xs es j lv (.int i :: .ref p :: st) (S, fi, fl, fr) r := by
  subst hi
  have hin := nI_in hk hN
  refine Go.step he ?_ kk
  rw [nI_clamp (by omega)] at hin
  simp only [pm_x, pm_aald, hs, nI_clamp (show k < 2 ^ 31 by omega)]
  rw [if_neg hin]
  show (some (Sum.inl (j + 1, lv, pm_rv (fr p k) :: st, S, fi, fl, fr)) : Option PmR) = _
  rw [hr]
  rfl
theorem g_iast {p N k : Nat} {i x : Int32} (he : es[j]? = some (pc, n, .iastore, a, c, d, q, v, ts)) (hs : S[p]? = some (0, N)) (hi : i = nI k) (hk : k < N) (hN : N < 2 ^ 31) (kk : Go T xs es (j + 1) lv st (S, pm_u2 fi p k x, fl, fr) r) : Go T xs es j lv (.int x :: .int i :: .ref p :: st) (S, fi, fl, fr) r := by
  subst hi
  have hin := nI_in hk hN
  refine Go.step he ?_ kk
  rw [nI_clamp (by omega)] at hin
  simp only [pm_x, pm_iast, hs, nI_clamp (show k < 2 ^ 31 by omega)]
  rw [if_neg hin]
  rfl
theorem g_zast {p N k : Nat} {i x : Int32} (he : es[j]? = some (pc, n, .bastore, a, c, d, q, v, ts)) (hs : S[p]? = some (1, N)) (hi : i = nI k) (hk : k < N) (hN : N < 2 ^ 31) (kk : Go T xs es (j + 1) lv st (S, pm_u2 fi p k (vp_nar .boolean x), fl, fr) r) : Go T xs es j lv (.int x :: .int i :: .ref p :: st) (S, fi, fl, fr) r := by
  subst hi
  have hin := nI_in hk hN
  refine Go.step he ?_ kk
  rw [nI_clamp (by omega)] at hin
  simp only [pm_x, pm_bast, hs, nI_clamp (show k < 2 ^ 31 by omega)]
  rw [if_neg hin]
  rfl
theorem g_bast {p N k : Nat} {i x : Int32} (he : es[j]? = some (pc, n, .bastore, a, c, d, q, v, ts)) (hs : S[p]? = some (2, N)) (hi : i = nI k) (hk : k < N) (hN : N < 2 ^ 31) (kk : Go T xs es (j + 1) lv st (S, pm_u2 fi p k (vp_nar .byte x), fl, fr) r) : Go T xs es j lv (.int x :: .int i :: .ref p :: st) (S, fi, fl, fr) r := by
  subst hi
  have hin := nI_in hk hN
  refine Go.step he ?_ kk
  rw [nI_clamp (by omega)] at hin
  simp only [pm_x, pm_bast, hs, nI_clamp (show k < 2 ^ 31 by omega)]
  rw [if_neg hin]
  rfl
theorem g_lald {p N k : Nat} {i : Int32} {x : Int64} (he : es[j]? = some (pc, n, .laload, a, c, d, q, v, ts)) (hs : S[p]? = some (3, N)) (hi : i = nI k) (hk : k < N) (hN : N < 2 ^ 31) (hr : fl p k = x) (kk : Go T xs es (j + 1) lv (.long x :: st) (S, fi, fl, fr) r) : Go T xs es j lv (.int i :: .ref p :: st) (S, fi, fl, fr) r := by
  subst hi
  have hin := nI_in hk hN
  refine Go.step he ?_ kk
  rw [nI_clamp (by omega)] at hin
  simp only [pm_x, pm_lald, hs, nI_clamp (show k < 2 ^ 31 by omega)]
  rw [if_neg hin]
  show (some (Sum.inl (j + 1, lv, Value.long (fl p k) :: st, S, fi, fl, fr)) : Option PmR) = _
  rw [hr]
theorem g_last {p N k : Nat} {i : Int32} {x : Int64} (he : es[j]? = some (pc, n, .lastore, a, c, d, q, v, ts)) (hs : S[p]? = some (3, N)) (hi : i = nI k) (hk : k < N) (hN : N < 2 ^ 31) (kk : Go T xs es (j + 1) lv st (S, fi, pm_u2 fl p k x, fr) r) : Go T xs es j lv (.long x :: .int i :: .ref p :: st) (S, fi, fl, fr) r := by
  subst hi
  have hin := nI_in hk hN
  refine Go.step he ?_ kk
  rw [nI_clamp (by omega)] at hin
  simp only [pm_x, pm_last, hs, nI_clamp (show k < 2 ^ 31 by omega)]
  rw [if_neg hin]
  rfl
/-- the script's ints -/
theorem g_sld {L k : Nat} {f : Nat → Int32} {i : Int32} (he : es[j]? = some (pc, n, .iaload, a, c, d, q, v, ts)) (hi : i = nI k) (hk : k < L) (hN : L < 2 ^ 31) (kk : Go T (some (L, f)) es (j + 1) lv (.int (f k) :: st) h r) : Go T (some (L, f)) es j lv (.int i :: .retAddr 41 :: st) h r := by
  subst hi
  have hin := nI_in hk hN
  refine Go.step he ?_ kk
  rw [nI_clamp (by omega)] at hin
  simp only [pm_x, pm_iald, nI_clamp (show k < 2 ^ 31 by omega)]
  rw [if_pos trivial, if_neg hin]
  rfl
end PMG
