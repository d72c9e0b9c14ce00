section AU
variable {T : List PmM} {HD : HDt} {S : List (Nat × Nat)} {LS : List LVr} {W : WSt} {G : List Int} {e : PmI} {j : Nat} {lv : PmL} {st : List Value} {h : PmH} {R : List (Nat × AS)} {A : AS}
theorem gr_len : ∀ {rs : List Nat} {G : List Int}, gr LS lv h rs G → rs.length = G.length
  | [], [], _ => rfl
  | _ :: rs, _ :: G, g => by simp [gr_len g.2]
  | [], _ :: _, g => g.elim
  | _ :: _, [], g => g.elim
theorem ck_pt_at {ps : List APo} {IT : List Inst} {An : AnT} : ∀ (es : List PmI) (qs : List (List AS × List KE × List Nat)) (j0 i : Nat) (q : List AS × List KE × List Nat), ck_pt HD S W ps IT An es qs j0 = true → qs[i]? = some q → ∃ e, es[i]? = some e ∧ kbd q.2.1 = true ∧ q.1.all (ck_st HD S W ps IT An e (j0 + i) q.2.1 q.2.2) = true
  | e :: es, q :: qs, j0, 0, q', hc, hq => by
    simp only [ck_pt, Bool.and_eq_true] at hc
    cases hq
    exact ⟨e, rfl, hc.1, hc.2.1⟩
  | e :: es, q :: qs, j0, i + 1, q', hc, hq => by
    simp only [ck_pt, Bool.and_eq_true] at hc
    obtain ⟨e', h1, h2, h3⟩ := ck_pt_at es qs (j0 + 1) i q' hc.2.2 hq
    exact ⟨e', h1, h2, by rw [show j0 + (i + 1) = j0 + 1 + i from by omega]; exact h3⟩
  | [], [], _, i, _, _, hq => by simp at hq
  | [], _ :: _, _, _, _, hc, _ => by simp [ck_pt] at hc
  | _ :: _, [], _, _, _, hc, _ => by simp [ck_pt] at hc
theorem ck_nx_ok {An : AnT} {K : List KE} {q : Nat × AS} (hn : ck_nx An K q = true) : ∃ Bs K' cs B, An[q.1]? = some (Bs, K', cs) ∧ B ∈ Bs ∧ as_le q.2 B = true ∧ K'.length = K.length ∧ kl K K' (as_g q.2) = true := by
  unfold ck_nx at hn
  split at hn
  · rename_i Bs K' cs hA
    simp only [Bool.and_eq_true, beq_iff_eq] at hn
    obtain ⟨B, B1, B2⟩ := List.any_eq_true.mp hn.1
    exact ⟨Bs, K', cs, B, hA, B1, B2, hn.2.1, hn.2.2⟩
  · cases hn
theorem ck_go {ps : List APo} {IT : List Inst} {An : AnT} {es : List PmI} (hIT : ∀ I ∈ IT, iv T HD S I) (hck : ck_pt HD S W ps IT An es An 0 = true) :
    ∀ (N : Nat) (j : Nat) (lv : PmL) (st : List Value) (h : PmH) (A : AS) (Bs : List AS) (K : List KE) (cs : List Nat), rkv (K.map (fun q => ke_v q lv h)) = N → An[j]? = some (Bs, K, cs) → A ∈ Bs → gs A lv st h → HI HD S h → ∃ v h', Go T none es j lv st h (v, h') ∧ (∃ P ∈ ps, pv P.1 v ∧ go_ P.2.1 h' ∧ P.2.2 = []) ∧ HI HD S h' ∧ fram W h h' := by
  intro N
  induction N using Nat.strongRecOn with
  | ind N ih =>
    intro j lv st h A Bs K cs hN hAn hA g hI
    obtain ⟨e, he, hb, hall⟩ := ck_pt_at es An 0 j (Bs, K, cs) hck hAn
    rw [Nat.zero_add] at hall
    have h1 := List.all_eq_true.mp hall A hA
    unfold ck_st at h1
    simp only [Bool.and_eq_true] at h1
    obtain ⟨h2, h3⟩ := h1
    have hr : gr (LS0 K) lv h (List.replicate (kvars K).length 0) ((kvars K).map (fun L => lvv L lv h)) := by
      have := gr_start (A := A) (h := h) K [] h2 g.1
      rw [List.append_nil] at this
      exact this
    have g0 : gs (as_l A, as_s A, as_o A, List.replicate (kvars K).length 0) lv st h := g
    have nxt : ∀ (j' : Nat) (lv' : PmL) (st' : List Value) (h' : PmH) (A' : AS), ck_nx An K (j', A') = true → gs A' lv' st' h' → HI HD S h' → gr (LS0 K) lv' h' (as_g A') ((kvars K).map (fun L => lvv L lv h)) → ∃ v h'', Go T none es j' lv' st' h' (v, h'') ∧ (∃ P ∈ ps, pv P.1 v ∧ go_ P.2.1 h'' ∧ P.2.2 = []) ∧ HI HD S h'' ∧ fram W h' h'' := by
      intro j' lv' st' h' A' hn g' hI' hr'
      obtain ⟨Bs', K', cs', B, a1, a2, a3, a4, a5⟩ := ck_nx_ok hn
      obtain ⟨_, -, hb', -⟩ := ck_pt_at es An 0 j' (Bs', K', cs') hck a1
      have hlt := kl_ok (lv := lv) (h := h) (lv' := lv') (h' := h') K K' (as_g A') [] a5 a4 hb' (by rw [gr_len hr']; simp) (by rw [List.append_nil]; exact hr')
      rw [hN] at hlt
      exact ih _ hlt j' lv' st' h' B Bs' K' cs' rfl a1 a2 (as_le_ok a3 g') hI'
    split at h3
    · rcases Bool.or_eq_true_iff.mp h3 with h3 | h3
      · obtain ⟨v, e1, P, P1, P2, P3⟩ := ak_ret_ok (j := j) g h3
        exact ⟨v, h, Go.ret he e1, ⟨P, P1, P2, P3⟩, hI, fram.rf W h⟩
      · split at h3
        · rename_i R hR
          obtain ⟨j', lv', st', h', A', e1, e2, e3, e4, e5, e6⟩ := ak_ok (W := W) g0 hI hr hR
          obtain ⟨v, h'', f1, f2, f3, f4⟩ := nxt j' lv' st' h' A' (List.all_eq_true.mp h3 _ e2) e3 e4 e5
          exact ⟨v, h'', Go.step he e1 f1, f2, f3, fram.tr e6 f4⟩
        · cases h3
    · rename_i kd hkd
      obtain ⟨A1, A1m, g1, A1l⟩ := ck_rs_ok (e := e) g
      have g0 : gs (as_l A1, as_s A1, as_o A1, List.replicate (kvars K).length 0) lv st h := g1
      obtain ⟨c, hc, h4⟩ := List.any_eq_true.mp (List.all_eq_true.mp h3 A1 A1m)
      split at h4
      · rename_i I hIc
        split at h4
        · rename_i R hR
          have hkd2 : ck_kd e = 0 ∧ pm_x none e j lv st h = pm_call 0 e st h ∨ ck_kd e = 1 ∧ pm_x none e j lv st h = pm_call 1 e st h := by
            unfold ck_kd at hkd ⊢
            split at hkd
            · rename_i hi
              split at hkd
              · exact absurd rfl hkd
              · rename_i hd
                refine Or.inl ⟨if_neg hd, ?_⟩
                unfold pm_x
                rw [hi]
                simp only
            · rename_i hi
              refine Or.inr ⟨rfl, ?_⟩
              unfold pm_x
              rw [hi]
            · exact absurd rfl hkd
          have hiv := hIT I (List.mem_of_getElem? hIc)
          rcases hkd2 with ⟨k1, k2⟩ | ⟨k1, k2⟩
          · rw [k1] at hR
            obtain ⟨v, h', A', e1, e2, e3, e4, e5, e6, e7⟩ := ak_call_ok (W := W) (by decide) hiv k2 g0 hI hr hR
            obtain ⟨v', h'', f1, f2, f3, f4⟩ := nxt (j + 1) lv _ h' A' (List.all_eq_true.mp h4 _ e3) e4 e5 e6
            exact ⟨v', h'', Go.call he e1 e2 f1, f2, f3, fram.tr e7 f4⟩
          · rw [k1] at hR
            obtain ⟨v, h', A', e1, e2, e3, e4, e5, e6, e7⟩ := ak_call_ok (W := W) (by decide) hiv k2 g0 hI hr hR
            obtain ⟨v', h'', f1, f2, f3, f4⟩ := nxt (j + 1) lv _ h' A' (List.all_eq_true.mp h4 _ e3) e4 e5 e6
            exact ⟨v', h'', Go.call he e1 e2 f1, f2, f3, fram.tr e7 f4⟩
        · cases h4
      · cases h4
theorem gl_cons {B : AV} {o : Option Value} {X : List AV} {Y : PmL} (hB : av_k B < 9 → ∃ v, o = some v ∧ ∀ (lv : PmL) (h : PmH), gv lv h (nt B) v) (g : gl X Y) : gl (B :: X) (o :: Y) := by
  refine ⟨by simp [g.1], fun i C hC hk => ?_⟩
  cases i with
  | zero =>
    cases hC
    obtain ⟨v, rfl, hv⟩ := hB hk
    exact ⟨v, rfl, hv⟩
  | succ i => exact g.2 i C hC hk
theorem gl_rep (k : Nat) : gl (List.replicate k av_u) (List.replicate k none) := by
  refine ⟨by simp, fun i C hC hk => ?_⟩
  rw [List.getElem?_replicate] at hC
  split at hC
  · cases hC
    exact absurd hk (by decide)
  · cases hC
theorem gl_en (k : Nat) : ∀ (pre : List AV) (as : List Value), pre.all (fun B => decide (av_k B < 4)) = true → (∀ (lv : PmL) (h : PmH), gst lv h (pre.map nt) as) → gl (pre.flatMap (fun B => if av_k B = 1 then [av_l, av_u] else [nt B]) ++ List.replicate k av_u) (pm_sl as ++ List.replicate k none)
  | [], [], _, _ => gl_rep k
  | B :: pre, v :: as, hk, g => by
    simp only [List.all_cons, Bool.and_eq_true, decide_eq_true_eq] at hk
    have ih := gl_en k pre as hk.2 (fun lv h => (g lv h).2)
    have gB : ∀ (lv : PmL) (h : PmH), gv lv h (nt B) v := fun lv h => (g lv h).1
    have hc := gv_cat (B := nt B) (Nat.lt_trans hk.1 (by decide)) (gB [] ([], fun _ _ => 0, fun _ _ => 0, fun _ _ => none))
    have e1 : pm_sl (v :: as) = (if v.category = 2 then [some v, none] else [some v]) ++ pm_sl as := rfl
    rw [e1, List.flatMap_cons, List.append_assoc, List.append_assoc, hc]
    by_cases h1 : av_k B = 1
    · rw [if_pos h1]
      have : av_cat (nt B) = 2 := by
        unfold av_cat
        exact if_pos (Or.inl h1)
      rw [this, if_pos rfl]
      refine gl_cons (fun _ => ⟨v, rfl, fun lv h => ?_⟩) (gl_cons (fun z => absurd z (by decide)) ih)
      obtain ⟨x, rfl⟩ := gv_k1 (A := nt B) h1 (gB lv h)
      exact ⟨x, rfl⟩
    · rw [if_neg h1]
      have : av_cat (nt B) = 1 := by
        unfold av_cat
        refine if_neg (fun z => ?_)
        have hk9 : av_k (nt B) = av_k B := rfl
        omega
      rw [this, if_neg (by decide)]
      exact gl_cons (fun _ => ⟨v, rfl, gB⟩) ih
  | [], _ :: _, _, g => ((g [] ([], fun _ _ => 0, fun _ _ => 0, fun _ _ => none))).elim
  | _ :: _, [], _, g => ((g [] ([], fun _ _ => 0, fun _ _ => 0, fun _ _ => none))).elim
/-- a method keeps to a summary -/
def ck_m (HD : HDt) (S : List (Nat × Nat)) (IT : List Inst) (An : AnT) (ml : Nat) (es : List PmI) (I : Inst) : Bool :=
  (in_a I).all (fun B => decide (av_k B < 4)) && ((match An with
    | (Bs, _, _) :: _ => Bs.any (fun B => as_le (ai_en ml (in_a I), [], in_o I, []) B)
    | [] => false) && ck_pt HD S (in_w I) (in_p I) IT An es An 0)
theorem ck_ok {IT : List Inst} {An : AnT} {I : Inst} {ml : Nat} {es : List PmI} (hml : pm_ml T (in_y I) = ml) (hes : pm_cd T (in_y I) = es) (hIT : ∀ J ∈ IT, iv T HD S J) (hck : ck_m HD S IT An ml es I = true) : iv T HD S I := by
  intro as h hg ho hI
  simp only [ck_m, Bool.and_eq_true] at hck
  obtain ⟨c1, c2, c3⟩ := hck
  split at c2
  · rename_i Bs K cs An'
    obtain ⟨B, B1, B2⟩ := List.any_eq_true.mp c2
    have hcat := gst_cat (As := (in_a I).map nt) (lv := []) (h := h) (by
      rw [List.all_map]
      exact List.all_eq_true.mpr (fun B hB => decide_eq_true (Nat.lt_trans (of_decide_eq_true (List.all_eq_true.mp c1 B hB)) (by decide)))) (hg [] h)
    have hlen : (pm_sl as).length = ((in_a I).map av_cat).sum := by
      rw [pm_sl_cat, hcat, List.map_map]
      rfl
    have hgl : gl (ai_en ml (in_a I)) (pm_en ml as) := by
      unfold ai_en pm_en
      rw [hlen]
      exact gl_en _ _ _ c1 hg
    have hgs : gs (ai_en ml (in_a I), [], in_o I, []) (pm_en ml as) [] h := ⟨hgl, trivial, ho⟩
    obtain ⟨v, h', f1, f2, f3, f4⟩ := ck_go hIT c3 _ 0 (pm_en ml as) [] h B Bs K cs rfl rfl B1 (as_le_ok B2 hgs) hI
    obtain ⟨P, P1, P2, P3, P4⟩ := f2
    refine ⟨v, h', ?_, ⟨P, P1, P2, P3, by rw [P4]; exact fun q hq => absurd hq List.not_mem_nil⟩, f3, f4⟩
    unfold Ev
    rw [hml, hes]
    exact f1
  · cases c2
end AU
