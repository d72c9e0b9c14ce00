def pm_Pc (b : Nat) (x : Nat → Value) (ta : Nat → ClassId) (D : va_G) (as : List Value) (h : PmH) : Array Value → State → Prop := va_Pc (as.map (pm_v b x)) (fun U => U.heap.size = b + (ph_s h).length ∧ va_P D vwCl (pm_w b x ta h) U.heap ∧ pm_K b x ta D none U)
def pm_Qc (b : Nat) (x : Nat → Value) (ta : Nat → ClassId) (D : va_G) (v : Option Value) (h' : PmH) : Array Value → State → Outcome → State → Prop := fun _ st o t => o = .returned (v.map (pm_v b x)) ∧ va_P D vwCl (pm_w b x ta h') t.heap ∧ st.heap.size ≤ t.heap.size ∧ ∀ q : Nat, q < st.heap.size → ¬ b ≤ q → t.heap[q]? = st.heap[q]?
def pm_wsM (M : PmM) : List Cond := Cond.code (mm_nm M) (mm_by M) (mm_ml M) (mm_rt M) :: pm_ws
def pm_rm (M : PmM) (h h' : PmH) : Room := { frames := mm_fr M, cells := (ph_s h').length - (ph_s h).length, slots := pm_sz h' - pm_sz h, locals := mm_lo M }
def pm_Met (l : Launch) (M : PmM) (b : Nat) (x : Nat → Value) (ta : Nat → ClassId) (D : va_G) (as : List Value) (h : PmH) (v : Option Value) (h' : PmH) : Prop := Met l (mm_nm M) (pm_wsM M) (pm_rm M h h') (pm_Pc b x ta D as h) (pm_Qc b x ta D v h') ((ph_s h').length - (ph_s h).length) (pm_sz h' - pm_sz h) (fun q => b ≤ q)
theorem pm_Pc_blind (b : Nat) (x : Nat → Value) (ta : Nat → ClassId) (D : va_G) (as : List Value) (h : PmH) : FrameBlind (pm_Pc b x ta D as h) := by
  intro a U g mk q
  obtain ⟨q1, q2, q3, q4⟩ := q
  exact ⟨q1, q2, q3, pm_K.to (u := U) (U := U.calling g mk a) (H := U.heap) (locs := []) (State.WarmedH.refl U) rfl va_S.rf q4⟩
section PMC
variable {p : Program} {l : Launch} {e : Env} {R : Room} {s : State} {m : MethodId} {args : Array Value} {below : List Frame} {meth : Method} {c : Code} {Q : State → Prop} {T : List PmM} {M M' : PmM} {b : Nat} {x : Nat → Value} {ta : Nat → ClassId} {D : va_G} {xs : PmX} {h0 : PmH} {j : Nat} {lv : PmL} {st st' as : List Value} {h h' : PmH} {en : PmI} {v : Option Value} {y : Nat}
theorem pm_size {TT : State} {H : Heap} {locs : List Loc} {slots : Nat} (hsz : s.heap.size = b + (ph_s h0).length) (hm : pm_le h0 h) (hP : va_P D vwCl (pm_w b x ta h) H) (hS : va_S (fun q => b ≤ q) s.heap H locs) (hTT : TT.heap = H) (X : Stand p l e R s m args below meth c TT locs ((ph_s h).length - (ph_s h0).length) slots) : H.size = b + (ph_s h).length := by
  have h1 := X.heapSize
  rw [hTT, hsz] at h1
  have h2 := hS.1
  rw [hsz] at h2
  have h3 := hm.1
  by_cases h4 : (ph_s h0).length < (ph_s h).length
  · have h5 : (ph_s h).length - 1 < (ph_s h).length := by omega
    have h6 : (pm_w b x ta h)[(ph_s h).length - 1]? = some (b + ((ph_s h).length - 1), pm_e b x ta h ((ph_s h).length - 1) (ph_s h)[(ph_s h).length - 1]) := by
      rw [pm_w_at, List.getElem?_eq_getElem h5]
      rfl
    have h7 : b + ((ph_s h).length - 1) < H.size := (hP _ _ h6).lt
    omega
  · omega
theorem pm_back {H : Heap} {locs : List Loc} {ls : Array Slot} {st0 rest : List Value} {a : Array Value} {pc : Nat} (hm : pm_le h0 h) (hle : pm_le h h')
    (run : va_Run p l e R s m args below meth c H locs ((ph_s h).length - (ph_s h0).length) (pm_sz h - pm_sz h0) ((ph_s h').length - (ph_s h).length) (pm_sz h' - pm_sz h) (F0 m pc ls st0) rest (pm_Qc b x ta D v h' a) (fun q => b ≤ q))
    (hS : va_S (fun q => b ≤ q) s.heap H locs) (hl : pm_lv b x (mm_ml M) lv ls) (hrest : rest = st'.map (pm_v b x)) (hnx : pm_pc (mm_cd M) (j + 1) = pc + 3)
    (k : pm_G p l e R s m args below meth c Q M b x ta D h0 (j + 1) lv (v.toList ++ st') h') : W p l e R s m args below meth c H locs ((ph_s h).length - (ph_s h0).length) (pm_sz h - pm_sz h0) Q (F0 m pc ls st0) := by
  intro TT hTT X
  obtain ⟨v', st₀, t, T', L, z0, X', hL, e1, e2, ⟨ho, hP', hz, hk⟩, go⟩ := run TT hTT X
  cases ho
  rw [z0] at hz hk
  have hS' : va_S (fun q => b ≤ q) s.heap T'.heap (locs ++ L) := ⟨Nat.le_trans hS.1 (by rw [e1]; exact hz), fun q h1 h2 => by rw [e1, hk q (Nat.lt_of_lt_of_le h1 hS.1) h2]; exact hS.2.1 q h1 h2, fun q hq => by
    rcases List.mem_append.mp hq with h9 | h9
    · exact hS.2.2 q h9
    · exact hL q h9⟩
  have kk := k T'.heap (locs ++ L) ls (by rw [e1]; exact hP') hS' hl
  obtain ⟨m1, m2⟩ := hm
  obtain ⟨n1, n2⟩ := hle
  have c1 : (ph_s h').length - (ph_s h0).length = (ph_s h).length - (ph_s h0).length + ((ph_s h').length - (ph_s h).length) := by omega
  have c2 : pm_sz h' - pm_sz h0 = pm_sz h - pm_sz h0 + (pm_sz h' - pm_sz h) := by omega
  rw [c1, c2, hnx] at kk
  obtain ⟨t2, a1, b1⟩ := kk T' rfl X'
  refine ⟨t2, go t2 ?_, b1⟩
  rw [hrest]
  have e9 : (v.toList ++ st').map (pm_v b x) = (v.map (pm_v b x)).toList ++ st'.map (pm_v b x) := by cases v <;> rfl
  rw [e9] at a1
  exact a1
theorem pm_goodM (hc : pm_ckM T M = true) : GoodIn pm_ws (pm_wsM M) := by
  intro w hw
  rcases List.mem_cons.mp hw with hw | hw
  · subst hw
    simp only [pm_ckM, Bool.and_eq_true] at hc
    exact pm_ws_good _ (pm_has_in hc.1.1.1.1.1.2)
  · exact pm_ws_good _ hw
/-- what a call's check and the callee's own give -/
theorem pm_cc {kd idx : Nat} (hck : pm_ckc T M en idx kd = true) (hy : T[pi_a en]? = some M') (hcM : pm_ckM T M' = true) (hts : ∀ w ∈ pm_ws, w.before args s = true) (hfr : mm_fr M ≤ R.frames) (hlo : mm_lo M ≤ R.locals) (hnw : ∀ w ∈ pm_nl, va_Nw w s) :
    mm_kd M' = kd ∧ pi_c en = mm_na M' + (if kd = 0 then 0 else 1) ∧ (pi_t en).getD 0 0 = mm_ml M' ∧
    (CallB R s args (mm_nm M).cls idx (mm_nm M') (mm_by M') (mm_ml M') (mm_rt M') (pm_wsM M') (pm_rm M' h h') ((ph_s h').length - (ph_s h).length) (pm_sz h' - pm_sz h) (mm_na M') ∨ va_CN R s args (mm_nm M).cls idx (mm_nm M') "ButterflyCode" (mm_by M') (mm_ml M') (mm_rt M') (pm_wsM M') (pm_rm M' h h') ((ph_s h').length - (ph_s h).length) (pm_sz h' - pm_sz h) (mm_na M')) := by
  unfold pm_ckc at hck
  rw [hy] at hck
  simp only [Bool.and_eq_true, decide_eq_true_eq] at hck
  obtain ⟨⟨⟨⟨⟨q1, q2⟩, q3⟩, q4⟩, q5⟩, q6⟩ := hck
  refine ⟨q1, q2, q3, ?_⟩
  have hG := pm_goodM hcM
  simp only [pm_ckM, Bool.and_eq_true, decide_eq_true_eq] at hcM
  have w1 := hts _ (pm_has_in hcM.1.1.1.1.2)
  have w2 := hcM.1.1.1.2
  have hR : (pm_rm M' h h').frames + 1 ≤ R.frames ∧ 8 + (mm_ml M' + 11) + (pm_rm M' h h').locals ≤ R.locals := ⟨Nat.le_trans q4 hfr, Nat.le_trans q5 hlo⟩
  by_cases hv : pi_v en = 0
  · rw [if_pos hv] at q6
    exact Or.inl (callB_of (mm_na M') hts hG rfl rfl rfl w1 (hts _ (pm_has_in q6)) w2 hR)
  · rw [if_neg hv] at q6
    exact Or.inr (va_cnB (mm_na M') hts hG rfl rfl rfl (hnw _ (List.mem_of_getElem? (of_decide_eq_true q6))) w1 w2 hR)
theorem pm_s_callS {idx : Nat} (C : pm_C p R s m args meth c T M b x ta D xs h0) (he : (mm_cd M)[j]? = some en) (hx : pm_x xs en j lv st h = some (.inr (.inr (y, as, st')))) (hy : T[y]? = some M') (hmet : pm_Met l M' b x ta D as h v h') (hm : pm_le h0 h) (hle : pm_le h h') (hcap : (ph_s h').length - (ph_s h0).length ≤ R.cells ∧ pm_sz h' - pm_sz h0 ≤ R.slots)
    (k : pm_G p l e R s m args below meth c Q M b x ta D h0 (j + 1) lv (v.toList ++ st') h') (hi : pi_i en = .invokestatic idx) : pm_G p l e R s m args below meth c Q M b x ta D h0 j lv st h := by
  obtain ⟨hx1, hb, hml, hown, hts, hK, hsz, hfr, hlo, hnm, hxr, hcM, hT⟩ := C
  have hck := pck_at hcM he (pm_x_live hx)
  have hd := pck_d1 hck (i := .invokestatic idx) hi rfl rfl
  have hnx := pck_nx hck (i := .invokestatic idx) hi rfl rfl rfl
  have hpc := pm_pc_at he
  have hc2 := hck
  simp only [pm_ck, hi, Bool.and_eq_true] at hc2
  replace hc2 := hc2.2
  unfold pm_x at hx
  rw [hi] at hx
  simp only at hx
  have hd7 : ¬ pi_d en = 7 := by
    intro z
    rw [z] at hx
    simp only [pm_cpy, pm_nx] at hx
    repeat' (first | cases hx | split at hx)
  have hx2 : pm_call 0 en st h = some (.inr (.inr (y, as, st'))) := by
    revert hx
    split
    · rename_i z
      exact absurd z hd7
    · exact fun z => z
  have hc3 : pm_ckc T M en idx 0 = true := by
    revert hc2
    split
    · rename_i z
      exact absurd z hd7
    · exact fun z => z
  unfold pm_call at hx2
  split at hx2
  · cases hx2
  · rename_i h8
    simp only [not_or] at h8
    obtain ⟨a1, a2, a3⟩ := h8
    simp only at hx2
    cases hx2
    have hcy := hT _ _ hy
    obtain ⟨q1, q2, q3, q4⟩ := pm_cc (M' := M') (h := h) (h' := h') hc3 hy hcy hts hfr hlo hK.2.1
    have hst : (Cond.static (mm_nm M')).before args s = true := by
      simp only [pm_ckM, Bool.and_eq_true, decide_eq_true_eq, q1] at hcy
      exact hts _ (pm_has_in hcy.1.1.2)
    intro H locs ls hP hS hl
    rw [hpc]
    intro TT hTT X
    have hHz := pm_size hsz hm hP hS hTT X
    have hn : ((st.take (pi_c en)).reverse.map (pm_v b x)).length = mm_na M' := by
      simp at q2 ⊢
      omega
    have hstk : st.map (pm_v b x) = ((st.take (pi_c en)).reverse.map (pm_v b x)).reverse ++ (st.drop (pi_c en)).map (pm_v b x) := by
      rw [List.map_reverse, List.reverse_reverse, ← List.map_append, List.take_append_drop]
    have hW8 : 2 * (F0 m (pi_pc en) ls (st.map (pm_v b x))).monitorRoom + (((st.drop (pi_c en)).map (pm_v b x)).map fun v => v.category).sum ≤ 8 := by
      show 2 * 0 + _ ≤ 8
      rw [pm_cats (pm_xc hxr)]
      omega
    have hf : (ph_s h).length - (ph_s h0).length + ((ph_s h').length - (ph_s h).length) ≤ R.cells ∧ pm_sz h - pm_sz h0 + (pm_sz h' - pm_sz h) ≤ R.slots := by
      obtain ⟨m1, m2⟩ := hm
      obtain ⟨n1, n2⟩ := hle
      omega
    have hp : PreS s H (pm_Pc b x ta D (st.take (pi_c en)).reverse h) ((st.take (pi_c en)).reverse.map (pm_v b x)) := ⟨pm_Pc_blind _ _ _ _ _ _, fun U hU hW => ⟨rfl, by rw [hU]; exact hHz, by rw [hU]; exact hP, (pm_K.to hW hU hS hK).no⟩⟩
    rcases q4 with q4 | q4
    · exact pm_back hm hle (va_runS ⟨hx1, hb, hml, hown, hts⟩ hmet ⟨q4, hst⟩ hp rfl hn hl.1 hstk hW8 hd hf) hS hl rfl hnx k TT hTT X
    · exact pm_back hm hle (va_runSN ⟨hx1, hb, hml, hown, hts⟩ hmet ⟨q4, hst, trivial⟩ hp rfl hn hl.1 hstk hW8 hd hf) hS hl rfl hnx k TT hTT X
theorem pm_s_callV {idx : Nat} (C : pm_C p R s m args meth c T M b x ta D xs h0) (he : (mm_cd M)[j]? = some en) (hx : pm_x xs en j lv st h = some (.inr (.inr (y, as, st')))) (hy : T[y]? = some M') (hmet : pm_Met l M' b x ta D as h v h') (hm : pm_le h0 h) (hle : pm_le h h') (hcap : (ph_s h').length - (ph_s h0).length ≤ R.cells ∧ pm_sz h' - pm_sz h0 ≤ R.slots)
    (k : pm_G p l e R s m args below meth c Q M b x ta D h0 (j + 1) lv (v.toList ++ st') h') (hi : pi_i en = .invokevirtual idx) : pm_G p l e R s m args below meth c Q M b x ta D h0 j lv st h := by
  obtain ⟨hx1, hb, hml, hown, hts, hK, hsz, hfr, hlo, hnm, hxr, hcM, hT⟩ := C
  have hck := pck_at hcM he (pm_x_live hx)
  have hd := pck_d1 hck (i := .invokevirtual idx) hi rfl rfl
  have hnx := pck_nx hck (i := .invokevirtual idx) hi rfl rfl rfl
  have hpc := pm_pc_at he
  have hc2 := hck
  simp only [pm_ck, hi, Bool.and_eq_true] at hc2
  replace hc2 := hc2.2
  unfold pm_x at hx
  rw [hi] at hx
  simp only at hx
  unfold pm_call at hx
  split at hx
  · cases hx
  · rename_i h8
    simp only [not_or] at h8
    obtain ⟨a1, a2, a3⟩ := h8
    simp only at hx
    have core : ∀ (r9 : Value) (as2 : List Value) (rv : Nat), (st.take (pi_c en)).reverse = r9 :: as2 → pm_v b x r9 = .ref rv → y = pi_a en → as = r9 :: as2 → st' = st.drop (pi_c en) → (∀ (H : Heap) (locs : List Loc), va_P D vwCl (pm_w b x ta h) H → va_S (fun q => b ≤ q) s.heap H locs → ∃ cellB : Cell, H[rv]? = some cellB ∧ cellB.vm.isStatics = false ∧ s.vm.findClass (mm_nm M').cls = some cellB.cls) → pm_G p l e R s m args below meth c Q M b x ta D h0 j lv st h := by
      intro r9 as2 rv hr hrv e1 e2 e3 hcell
      subst e1
      subst e2
      subst e3
      have hcy := hT _ _ hy
      obtain ⟨q1, q2, q3, q4⟩ := pm_cc (M' := M') (h := h) (h' := h') hc2.1 hy hcy hts hfr hlo hK.2.1
      have hst : (Cond.instanceMethod (mm_nm M')).before args s = true ∧ (Cond.selects (mm_nm M').cls (mm_nm M') (mm_nm M')).before args s = true := by
        simp only [pm_ckM, Bool.and_eq_true, decide_eq_true_eq, q1] at hcy
        exact ⟨hts _ (pm_has_in hcy.1.1.2.1), hts _ (pm_has_in hcy.1.1.2.2)⟩
      intro H locs ls hP hS hl
      rw [hpc]
      intro TT hTT X
      have hHz := pm_size hsz hm hP hS hTT X
      have hlen : ((st.take (pi_c en)).reverse).length = pi_c en := by
        simp
        omega
      have hn : (as2.map (pm_v b x)).length = mm_na M' := by
        rw [hr] at hlen
        simp at q2 hlen ⊢
        omega
      have hstk : st.map (pm_v b x) = (as2.map (pm_v b x)).reverse ++ .ref rv :: (st.drop (pi_c en)).map (pm_v b x) := by
        have e5 : st.take (pi_c en) = as2.reverse ++ [r9] := by
          have := congrArg List.reverse hr
          rw [List.reverse_reverse] at this
          rw [this, List.reverse_cons]
        have e6 : st = as2.reverse ++ r9 :: st.drop (pi_c en) := by
          have h9 := (List.take_append_drop (pi_c en) st).symm
          rw [e5] at h9
          rw [List.append_assoc] at h9
          exact h9
        have e7 := congrArg (List.map (pm_v b x)) e6
        rw [List.map_append, List.map_cons, hrv, List.map_reverse] at e7
        exact e7
      have hW8 : 2 * (F0 m (pi_pc en) ls (st.map (pm_v b x))).monitorRoom + (((st.drop (pi_c en)).map (pm_v b x)).map fun v => v.category).sum ≤ 8 := by
        show 2 * 0 + _ ≤ 8
        rw [pm_cats (pm_xc hxr)]
        omega
      have hf : (ph_s h).length - (ph_s h0).length + ((ph_s h').length - (ph_s h).length) ≤ R.cells ∧ pm_sz h - pm_sz h0 + (pm_sz h' - pm_sz h) ≤ R.slots := by
        obtain ⟨m1, m2⟩ := hm
        obtain ⟨n1, n2⟩ := hle
        omega
      have hp : PreV s H (mm_nm M').cls rv (pm_Pc b x ta D (r9 :: as2) h) (as2.map (pm_v b x)) := ⟨pm_Pc_blind _ _ _ _ _ _, hcell H locs hP hS, fun U hU hW => ⟨by rw [List.map_cons, hrv], by rw [hU]; exact hHz, by rw [hU]; exact hP, (pm_K.to hW hU hS hK).no⟩⟩
      rcases q4 with q4 | q4
      · exact pm_back hm hle (va_runV ⟨hx1, hb, hml, hown, hts⟩ hmet ⟨q4, hst⟩ hp rfl hn hl.1 hstk hW8 hd hf) hS hl rfl hnx k TT hTT X
      · exact pm_back hm hle (va_runVN ⟨hx1, hb, hml, hown, hts⟩ hmet ⟨q4, hst⟩ hp rfl hn hl.1 hstk hW8 hd hf) hS hl rfl hnx k TT hTT X
    split at hx
    · rename_i q as2 hr
      split at hx
      · rename_i t n hsh
        split at hx
        · rename_i ht
          cases hx
          refine core (.ref q) as2 (b + q) hr rfl rfl rfl rfl (fun H locs hP hS => ?_)
          rw [ht] at hsh
          have hw : (pm_w b x ta h)[q]? = some (b + q, .inr (pi_d en, pm_fs b x h q (pi_d en) n)) := pm_w_to hsh (pm_e_obj _ _ _ _ _ _ _)
          obtain ⟨r9, hr9, -⟩ := hP q _ hw
          have hcl : vwCl[pi_d en]? = some r9 := hr9
          have h99 : ¬ pi_d en = 99 := by
            intro z
            rw [z] at hcl
            simp [vwCl] at hcl
          have g1 := hc2.2
          rw [hy] at g1
          simp only [if_neg h99, hcl, decide_eq_true_eq] at g1
          rw [g1]
          exact va_recv hK.1 hP hcl hw
        · cases hx
      · cases hx
    · rename_i q as2 hr
      split at hx
      · rename_i h9
        cases hx
        obtain ⟨⟨adK, adV, e1, e2⟩, -⟩ := hK.2.2.2
        obtain ⟨z1, -, -⟩ := e2 q h9.2
        refine core (.retAddr q) as2 (adK q) hr z1 rfl rfl rfl (fun H locs hP hS => ?_)
        have g1 := hc2.2
        rw [hy] at g1
        simp only [if_pos h9.1, decide_eq_true_eq] at g1
        rw [g1]
        exact vk_recv e1 h9.2 hS
      · cases hx
    · cases hx
theorem pm_s_callI {idx : Nat} (C : pm_C p R s m args meth c T M b x ta D xs h0) (he : (mm_cd M)[j]? = some en) (hx : pm_x xs en j lv st h = some (.inr (.inr (y, as, st')))) (hy : T[y]? = some M') (hmet : pm_Met l M' b x ta D as h v h') (hm : pm_le h0 h) (hle : pm_le h h') (hcap : (ph_s h').length - (ph_s h0).length ≤ R.cells ∧ pm_sz h' - pm_sz h0 ≤ R.slots)
    (k : pm_G p l e R s m args below meth c Q M b x ta D h0 (j + 1) lv (v.toList ++ st') h') (hi : pi_i en = .invokespecial idx) : pm_G p l e R s m args below meth c Q M b x ta D h0 j lv st h := by
  obtain ⟨hx1, hb, hml, hown, hts, hK, hsz, hfr, hlo, hnm, hxr, hcM, hT⟩ := C
  have hck := pck_at hcM he (pm_x_live hx)
  have hd := pck_d1 hck (i := .invokespecial idx) hi rfl rfl
  have hnx := pck_nx hck (i := .invokespecial idx) hi rfl rfl rfl
  have hpc := pm_pc_at he
  have hc2 := hck
  simp only [pm_ck, hi, Bool.and_eq_true] at hc2
  replace hc2 := hc2.2
  unfold pm_x at hx
  rw [hi] at hx
  simp only at hx
  have hd6 : ¬ pi_d en = 6 := by
    intro z
    rw [z] at hx
    simp only [pm_obj, pm_nx] at hx
    repeat' (first | cases hx | split at hx)
  have hx2 : pm_call 2 en st h = some (.inr (.inr (y, as, st'))) := by
    revert hx
    split
    · rename_i z
      exact absurd z hd6
    · exact fun z => z
  have hc3 : pm_ckc T M en idx 2 = true := by
    revert hc2
    split
    · rename_i z
      exact absurd z hd6
    · exact fun z => z
  unfold pm_call at hx2
  split at hx2
  · cases hx2
  · rename_i h8
    simp only [not_or] at h8
    obtain ⟨a1, a2, a3⟩ := h8
    simp only at hx2
    split at hx2
    · rename_i q as2 hr
      cases hx2
      have hcy := hT _ _ hy
      obtain ⟨q1, q2, q3, q4⟩ := pm_cc (M' := M') (h := h) (h' := h') hc3 hy hcy hts hfr hlo hK.2.1
      have hst : (mm_nm M').name = "<init>" ∧ (Cond.instanceMethod (mm_nm M')).before args s = true := by
        simp only [pm_ckM, Bool.and_eq_true, decide_eq_true_eq, q1] at hcy
        exact ⟨hcy.1.1.2.2.1, hts _ (pm_has_in hcy.1.1.2.1)⟩
      have hrt : mm_rt M' = none := by
        simp only [pm_ckM, Bool.and_eq_true, decide_eq_true_eq, q1] at hcy
        exact hcy.1.1.2.2.2
      rw [hrt] at q4
      intro H locs ls hP hS hl
      rw [hpc]
      intro TT hTT X
      have hHz := pm_size hsz hm hP hS hTT X
      have hlen : ((st.take (pi_c en)).reverse).length = pi_c en := by
        simp
        omega
      have hn : (as2.map (pm_v b x)).length = mm_na M' := by
        rw [hr] at hlen
        simp at q2 hlen ⊢
        omega
      have hstk : st.map (pm_v b x) = (as2.map (pm_v b x)).reverse ++ .ref (b + q) :: (st.drop (pi_c en)).map (pm_v b x) := by
        have e5 : st.take (pi_c en) = as2.reverse ++ [.ref q] := by
          have := congrArg List.reverse hr
          rw [List.reverse_reverse] at this
          rw [this, List.reverse_cons]
        have e6 : st = as2.reverse ++ .ref q :: st.drop (pi_c en) := by
          have h9 := (List.take_append_drop (pi_c en) st).symm
          rw [e5] at h9
          rw [List.append_assoc] at h9
          exact h9
        have e7 := congrArg (List.map (pm_v b x)) e6
        rw [List.map_append, List.map_cons, List.map_reverse] at e7
        exact e7
      have hW8 : 2 * (F0 m (pi_pc en) ls (st.map (pm_v b x))).monitorRoom + (((st.drop (pi_c en)).map (pm_v b x)).map fun v => v.category).sum ≤ 8 := by
        show 2 * 0 + _ ≤ 8
        rw [pm_cats (pm_xc hxr)]
        omega
      have hf : (ph_s h).length - (ph_s h0).length + ((ph_s h').length - (ph_s h).length) ≤ R.cells ∧ pm_sz h - pm_sz h0 + (pm_sz h' - pm_sz h) ≤ R.slots := by
        obtain ⟨m1, m2⟩ := hm
        obtain ⟨n1, n2⟩ := hle
        omega
      have hp : PreS s H (pm_Pc b x ta D (.ref q :: as2) h) (.ref (b + q) :: as2.map (pm_v b x)) := ⟨pm_Pc_blind _ _ _ _ _ _, fun U hU hW => ⟨rfl, by rw [hU]; exact hHz, by rw [hU]; exact hP, (pm_K.to hW hU hS hK).no⟩⟩
      rcases q4 with q4 | q4
      · exact pm_back hm hle (va_runI ⟨hx1, hb, hml, hown, hts⟩ hmet ⟨q4, hst⟩ hp rfl hn hl.1 hstk hW8 hd hf) hS hl rfl hnx k TT hTT X
      · exact pm_back hm hle (va_runIN ⟨hx1, hb, hml, hown, hts⟩ hmet ⟨q4, hst⟩ hp rfl hn hl.1 hstk hW8 hd hf) hS hl rfl hnx k TT hTT X
    · cases hx2
end PMC
