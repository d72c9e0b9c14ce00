section AN
variable {HD : HDt} {S : List (Nat × Nat)} {LS : List LVr} {W : WSt} {G : List Int} {e : PmI} {j : Nat} {lv : PmL} {st : List Value} {h : PmH} {R : List (Nat × AS)} {A : AS}
theorem gst_hi {h' : PmH} (e1 : ph_i h' = ph_i h) : ∀ (As : List AV) (st : List Value), gst lv h As st → gst lv h' As st
  | [], [], _ => trivial
  | _ :: As, _ :: st, g => ⟨gv_keep (Or.inl rfl) (fun _ _ _ hx => hx) (fun _ _ => by rw [e1]) g.1, gst_hi e1 As st g.2⟩
  | [], _ :: _, g => g.elim
  | _ :: _, [], g => g.elim
theorem lvn_hi {h' : PmH} (e1 : ph_i h' = ph_i h) {L : LVr} {x : Int32} (g : lv_now L lv h x) : lv_now L lv h' x := by
  obtain ⟨k, a, b, up⟩ := L
  rcases k with _ | k
  · exact g
  · show ph_i h' a b = x
    rw [e1]
    exact g
theorem gr_hi {h' : PmH} (e1 : ph_i h' = ph_i h) : ∀ (rs : List Nat) (gs : List Int), gr LS lv h rs gs → gr LS lv h' rs gs
  | [], [], _ => trivial
  | _ :: rs, _ :: gs, g => ⟨by
    obtain ⟨L, x, a, b, c⟩ := g.1
    exact ⟨L, x, a, lvn_hi e1 b, c⟩, gr_hi e1 rs gs g.2⟩
  | [], _ :: _, g => g.elim
  | _ :: _, [], g => g.elim
/-- a write that leaves the ints as they are -/
theorem ak_h_ok {As : List AV} {st' : List Value} {h' : PmH} {j' : Nat} (g : gs A lv st h) (gst' : gst lv h As st') (hr : gr LS lv h (as_g A) G) (hk : ak_q A j' As = some R) (e1 : ph_i h' = ph_i h) (hI' : HI HD S h') (hfr : fram W h h') (hx : pm_x none e j lv st h = some (.inl (j', lv, st', h'))) : ak_post HD S LS W G e j lv st h R := by
  cases hk
  refine ⟨j', lv, st', h', _, hx, List.mem_singleton.mpr rfl, ⟨g.1, gst_hi e1 _ _ gst', ?_⟩, hI', gr_hi e1 _ _ hr, hfr⟩
  intro q hq
  rw [e1]
  exact g.2.2 q hq
theorem HI_wl {p s : Nat} {x : Int64} (hI : HI HD S h) : HI HD S (ph_s h, ph_i h, pm_u2 (ph_l h) p s x, ph_r h) := by
  refine ⟨hI.1, fun p' s' t n hs hn => ?_⟩
  have h1 := hI.2 p' s' t n hs hn
  unfold hd_ok at h1 ⊢
  exact h1
theorem wl_ne {α : Type} {f : Nat → Nat → α} {p s p' s' : Nat} {x : α} (hne : ¬ (p' = p ∧ s' = s)) : pm_u2 f p s x p' s' = f p' s' := by
  by_cases hp : p' = p
  · subst hp
    have : s' ≠ s := fun z => hne ⟨rfl, z⟩
    simp [pm_u2, this]
  · rw [pm_u2_ne hp]
theorem fram_wl {p s : Nat} {x : Int64} (hw : inW W p s = true) : fram W h (ph_s h, ph_i h, pm_u2 (ph_l h) p s x, ph_r h) := by
  intro p' s' hn
  refine ⟨rfl, wl_ne (fun z => ?_), rfl⟩
  rw [z.1, z.2, hw] at hn
  cases hn
theorem fram_wr {p s : Nat} {x : Option Nat} (hw : inW W p s = true) : fram W h (ph_s h, ph_i h, ph_l h, pm_u2 (ph_r h) p s x) := by
  intro p' s' hn
  refine ⟨rfl, rfl, wl_ne (fun z => ?_)⟩
  rw [z.1, z.2, hw] at hn
  cases hn
theorem HI_wr {p s q : Nat} (hI : HI HD S h) (hx : (hd_at HD S p s).1 = 2 → q ∈ (hd_at HD S p s).2.2.2) : HI HD S (ph_s h, ph_i h, ph_l h, pm_u2 (ph_r h) p s (some q)) := by
  refine ⟨hI.1, fun p' s' t n hs hn => ?_⟩
  have h1 := hI.2 p' s' t n hs hn
  by_cases hq : p' = p ∧ s' = s
  · obtain ⟨rfl, rfl⟩ := hq
    unfold hd_ok at h1 ⊢
    split
    · rename_i hz
      rw [hz] at h1
      exact h1
    · rename_i hz
      refine ⟨q, hx hz, ?_⟩
      show pm_u2 (ph_r h) p' s' (some q) p' s' = some q
      simp [pm_u2]
    · trivial
  · have e9 : pm_u2 (ph_r h) p s (some q) p' s' = ph_r h p' s' := wl_ne hq
    unfold hd_ok at h1 ⊢
    split
    · rename_i hz
      rw [hz] at h1
      exact h1
    · rename_i hz
      rw [hz] at h1
      obtain ⟨z, z1, z2⟩ := h1
      exact ⟨z, z1, by rw [← z2]; exact e9⟩
    · trivial
def ai_in (q : Nat × Int × Int × List Nat) (lo hi : Int) : Bool := q.1 != 0 || (decide (q.2.1 ≤ lo) && decide (hi ≤ q.2.2.1))
theorem ai_in_ok {q : Nat × Int × Int × List Nat} {lo hi : Int} (h1 : ai_in q lo hi = true) {x : Int} (h2 : lo ≤ x) (h3 : x ≤ hi) : q.1 = 0 → q.2.1 ≤ x ∧ x ≤ q.2.2.1 := by
  intro hz
  unfold ai_in at h1
  rw [hz] at h1
  simp at h1
  omega
def ai_ov (ps : List Nat) (c : Nat) (X : AV) : List (Nat × Nat × Int × Int) := match ps with
  | [p] => [(p, c, av_lo X, av_hi X)]
  | _ => []
def ak_put (HD : HDt) (S : List (Nat × Nat)) (W : WSt) (LS : List LVr) (e : PmI) (A : AS) (j : Nat) : Option (List (Nat × AS)) := match as_s A with
  | X :: P :: st => if av_k P = 2 ∧ (av_ps P).all (ai_obj S (pi_a e) (pi_c e)) = true ∧ (av_ps P).all (fun p => inW W p (pi_c e)) = true then (match av_k X with
    | 0 => if (pi_d e = 0 ∨ (pi_d e = 3 ∧ 0 ≤ av_lo X ∧ av_hi X ≤ 1)) ∧ (av_ps P).all (fun p => ai_in (hd_at HD S p (pi_c e)) (av_lo X) (av_hi X)) = true then ai_wr LS A ((av_ps P).map (fun p => (p, pi_c e))) (ai_ov (av_ps P) (pi_c e) X) (rl_fld (av_ps P) (pi_c e) X) st (j + 1) else none
    | 1 => if pi_d e = 1 then ak_q A (j + 1) st else none
    | 2 => if pi_d e = 2 ∧ (av_ps P).all (fun p => (hd_at HD S p (pi_c e)).1 != 2 || (av_ps X).all (fun q => (hd_at HD S p (pi_c e)).2.2.2.contains q)) = true then ak_q A (j + 1) st else none
    | _ => none) else none
  | _ => none
theorem inW_map {ps : List Nat} {p c s : Nat} (hp : p ∈ ps) (hs : s = c ∨ c = 9999) : inW (ps.map (fun p => (p, c))) p s = true := by
  refine List.any_eq_true.mpr ⟨(p, c), List.mem_map.mpr ⟨p, hp, rfl⟩, ?_⟩
  rcases hs with hs | hs <;> simp [hs]
theorem ak_put_ok (hx : ∀ st, pm_x none e j lv st h = pm_put e j lv st h) (g : gs A lv st h) (hI : HI HD S h) (hr : gr LS lv h (as_g A) G) (hk : ak_put HD S W LS e A j = some R) : ak_post HD S LS W G e j lv st h R := by
  unfold ak_put at hk
  split at hk
  · rename_i X P As hs
    split at hk
    · rename_i hq
      have g2 := g.2.1
      rw [hs] at g2
      obtain ⟨v1, st1, rfl, h1, g3⟩ := gst_c g2
      obtain ⟨v2, st2, rfl, h2, g4⟩ := gst_c g3
      obtain ⟨p, hp, rfl⟩ := gv_k2 hq.1 h2
      obtain ⟨n, n1, n2⟩ := ai_obj_ok (List.all_eq_true.mp hq.2.1 p hp)
      have hw : inW W p (pi_c e) = true := List.all_eq_true.mp hq.2.2 p hp
      split at hk
      · rename_i hX
        split at hk
        · rename_i hd
          obtain ⟨x, rfl, x1, x2, x3⟩ := gv_k0 hX h1
          have hin := ai_in_ok (List.all_eq_true.mp hd.2 p hp) x1 x2
          have hx01 : pi_d e = 0 ∨ (pi_d e = 3 ∧ (x = 0 ∨ x = 1)) := by
            rcases hd.1 with z | ⟨z, z1, z2⟩
            · exact Or.inl z
            · refine Or.inr ⟨z, ?_⟩
              have : x.toInt = 0 ∨ x.toInt = 1 := by omega
              rcases this with y | y
              · exact Or.inl (Int32.toInt_inj.mp y)
              · exact Or.inr (Int32.toInt_inj.mp y)
          refine ai_wg_ok (h' := (ph_s h, pm_u2 (ph_i h) p (pi_c e) x, ph_l h, ph_r h)) g.1 g4 g.2.2 hr hk ?_ ?_ (rl_fld_ok hp x3) (HI_wi hI hin) (fram_wi hw) ?_
          · intro p' s' hn
            refine wl_ne (fun z => ?_)
            rw [z.1, z.2, inW_map hp (Or.inl rfl)] at hn
            cases hn
          · intro q hq9
            unfold ai_ov at hq9
            split at hq9
            · rename_i p' hp'
              rw [hp'] at hp
              rw [List.mem_singleton.mp hq9, List.mem_singleton.mp hp]
              show av_lo X ≤ (pm_u2 (ph_i h) p' (pi_c e) x p' (pi_c e)).toInt ∧ (pm_u2 (ph_i h) p' (pi_c e) x p' (pi_c e)).toInt ≤ av_hi X
              rw [show pm_u2 (ph_i h) p' (pi_c e) x p' (pi_c e) = x from by simp [pm_u2]]
              exact ⟨x1, x2⟩
            · exact absurd hq9 List.not_mem_nil
          · rw [hx]
            simp only [pm_put, hI.1, n1]
            rw [if_pos ⟨trivial, n2, hx01⟩]
            rfl
        · cases hk
      · rename_i hX
        split at hk
        · rename_i hd
          obtain ⟨x, rfl⟩ := gv_k1 hX h1
          refine ak_h_ok (h' := (ph_s h, ph_i h, pm_u2 (ph_l h) p (pi_c e) x, ph_r h)) g g4 hr hk rfl (HI_wl hI) (fram_wl hw) ?_
          rw [hx]
          simp only [pm_put, hI.1, n1]
          rw [if_pos ⟨trivial, n2, hd⟩]
          rfl
        · cases hk
      · rename_i hX
        split at hk
        · rename_i hd
          obtain ⟨x, xm, rfl⟩ := gv_k2 hX h1
          refine ak_h_ok (h' := (ph_s h, ph_i h, ph_l h, pm_u2 (ph_r h) p (pi_c e) (some x))) g g4 hr hk rfl (HI_wr hI ?_) (fram_wr hw) ?_
          · intro hz
            have := List.all_eq_true.mp hd.2 p hp
            rw [hz] at this
            simp at this
            exact this x xm
          · rw [hx]
            simp only [pm_put, hI.1, n1]
            rw [if_pos ⟨trivial, n2, hd.1⟩]
            rfl
        · cases hk
      · cases hk
    · cases hk
  · cases hk
/-- arrays -/
def ai_ar (S : List (Nat × Nat)) (t : Nat) (hi : Int) (p : Nat) : Bool := match S[p]? with
  | some (t', n) => t' == t && decide (hi < (n : Int))
  | none => false
theorem ai_ar_ok {t p : Nat} {hi : Int} (hp : ai_ar S t hi p = true) : ∃ n, S[p]? = some (t, n) ∧ hi < (n : Int) := by
  unfold ai_ar at hp
  split at hp
  · rename_i t' n hs
    simp only [Bool.and_eq_true, beq_iff_eq, decide_eq_true_eq] at hp
    exact ⟨n, by rw [hs, hp.1], hp.2⟩
  · cases hp
theorem hd_arr {p t n s : Nat} (hs : S[p]? = some (t, n)) (h0 : ¬ t = 0) (ht : t < 5) : hd_at HD S p s = hd_at HD S p 0 := by
  unfold hd_at
  rw [hs]
  simp only
  rw [if_neg h0, if_pos ht, if_neg h0, if_pos ht]
def ai_un (HD : HDt) (p : Nat) : Bool := decide ((HD.getD p []).length < 2)
theorem hd_arr0 {p n s : Nat} (hs : S[p]? = some (0, n)) (hu : ai_un HD p = true) : hd_at HD S p s = hd_at HD S p 0 := by
  have hu := of_decide_eq_true hu
  unfold hd_at
  rw [hs]
  simp only
  rw [if_pos trivial, if_pos trivial]
  generalize HD.getD p [] = l at hu
  match l, hu with
  | [], _ => rfl
  | [q], _ => simp [Nat.mod_one]
  | _ :: _ :: _, hu => simp at hu; omega
theorem ix_ok {x : Int32} {n : Nat} (h1 : 0 ≤ x.toInt) (h2 : x.toInt < (n : Int)) : ¬ (x < 0 ∨ n ≤ x.toNatClampNeg) ∧ x.toNatClampNeg < n := by
  have e1 : x.toNatClampNeg = x.toInt.toNat := rfl
  have h3 : ¬ x < 0 := by
    rw [Int32.lt_iff_toInt_lt]
    show ¬ x.toInt < 0
    omega
  rw [e1]
  refine ⟨fun z => ?_, by omega⟩
  rcases z with z | z
  · exact h3 z
  · omega
def ai_qr (HD : HDt) (S : List (Nat × Nat)) (lo hi : Int) (p : Nat) : Int × Int := if ai_un HD p = true then ai_q1 HD S [] p 0 else if lo = hi then ai_q1 HD S [] p lo.toNat else (ai_mn, ai_mx)
def ak_iald (HD : HDt) (S : List (Nat × Nat)) (A : AS) (j : Nat) : Option (List (Nat × AS)) := match as_s A with
  | I :: P :: st => if av_k P = 2 ∧ av_k I = 0 ∧ 0 ≤ av_lo I ∧ (av_ps P).all (ai_ar S 0 (av_hi I)) = true then ak_p A (j + 1) (0, (ai_join ((av_ps P).map (ai_qr HD S (av_lo I) (av_hi I)))).1, (ai_join ((av_ps P).map (ai_qr HD S (av_lo I) (av_hi I)))).2, [], 0, 0, 0) st else none
  | _ => none
theorem ai_aq {ps : List Nat} {p t n s : Nat} (hI : HI HD S h) (hp : p ∈ ps) (hs : S[p]? = some (t, n)) (h0 : ¬ t = 0) (ht : t < 5) (hn : s < n) : (ai_join (ps.map (fun p => ai_q1 HD S [] p 0))).1 ≤ (ph_i h p s).toInt ∧ (ph_i h p s).toInt ≤ (ai_join (ps.map (fun p => ai_q1 HD S [] p 0))).2 := by
  have h1 := ai_q1_ok (O := []) (c := s) hI (fun q hq => absurd hq List.not_mem_nil) hs hn
  have e9 : ai_q1 HD S [] p s = ai_q1 HD S [] p 0 := by
    unfold ai_q1
    simp only [List.find?_nil]
    rw [hd_arr hs h0 ht]
  rw [e9] at h1
  exact ai_join_ok (List.mem_map.mpr ⟨p, hp, rfl⟩) h1.1 h1.2
theorem ai_aq0 {ps : List Nat} {p n s : Nat} {lo hi : Int} (hI : HI HD S h) (hp : p ∈ ps) (hs : S[p]? = some (0, n)) (hn : s < n) (s1 : lo ≤ (s : Int)) (s2 : (s : Int) ≤ hi) : (ai_join (ps.map (ai_qr HD S lo hi))).1 ≤ (ph_i h p s).toInt ∧ (ph_i h p s).toInt ≤ (ai_join (ps.map (ai_qr HD S lo hi))).2 := by
  have h1 := ai_q1_ok (O := []) (c := s) hI (fun q hq => absurd hq List.not_mem_nil) hs hn
  have h2 : (ai_qr HD S lo hi p).1 ≤ (ph_i h p s).toInt ∧ (ph_i h p s).toInt ≤ (ai_qr HD S lo hi p).2 := by
    unfold ai_qr
    split
    · rename_i hu
      have e9 : ai_q1 HD S [] p s = ai_q1 HD S [] p 0 := by
        unfold ai_q1
        simp only [List.find?_nil]
        rw [hd_arr0 hs hu]
      rw [e9] at h1
      exact h1
    · split
      · rename_i hq
        have e9 : lo.toNat = s := by omega
        rw [e9]
        exact h1
      · exact i32_in _
  exact ai_join_ok (List.mem_map.mpr ⟨p, hp, rfl⟩) h2.1 h2.2
theorem ak_iald_ok (hx : ∀ st, pm_x none e j lv st h = pm_iald none j lv st h) (g : gs A lv st h) (hI : HI HD S h) (hr : gr LS lv h (as_g A) G) (hk : ak_iald HD S A j = some R) : ak_post HD S LS W G e j lv st h R := by
  unfold ak_iald at hk
  split at hk
  · rename_i I P As hs
    split at hk
    · rename_i hq
      have g2 := g.2.1
      rw [hs] at g2
      obtain ⟨v1, st1, rfl, h1, g3⟩ := gst_c g2
      obtain ⟨v2, st2, rfl, h2, g4⟩ := gst_c g3
      obtain ⟨p, hp, rfl⟩ := gv_k2 hq.1 h2
      obtain ⟨x, rfl, x1, x2, -⟩ := gv_k0 hq.2.1 h1
      obtain ⟨n, n1, n2⟩ := ai_ar_ok (List.all_eq_true.mp hq.2.2.2 p hp)
      obtain ⟨i1, i2⟩ := ix_ok (x := x) (n := n) (by omega) (by omega)
      have e9 : (x.toNatClampNeg : Int) = x.toInt := by
        have e1 : x.toNatClampNeg = x.toInt.toNat := rfl
        rw [e1]
        omega
      obtain ⟨q1, q2⟩ := ai_aq0 (lo := av_lo I) (hi := av_hi I) hI hp n1 i2 (by rw [e9]; exact x1) (by rw [e9]; exact x2)
      refine ak_p_ok g hI hr hk (v := .int (ph_i h p x.toNatClampNeg)) ?_ ((gv_int rfl).mpr ⟨_, rfl, q1, q2, trivial⟩) g4
      rw [hx]
      simp only [pm_iald, hI.1, n1]
      rw [if_neg i1]
      rfl
    · cases hk
  · cases hk
def ai_ab (S : List (Nat × Nat)) (hi : Int) (p : Nat) : Bool := ai_ar S 1 hi p || ai_ar S 2 hi p
def ak_bald (HD : HDt) (S : List (Nat × Nat)) (A : AS) (j : Nat) : Option (List (Nat × AS)) := match as_s A with
  | I :: P :: st => if av_k P = 2 ∧ av_k I = 0 ∧ 0 ≤ av_lo I ∧ (av_ps P).all (ai_ab S (av_hi I)) = true then ak_p A (j + 1) (0, (ai_join ((av_ps P).map (fun p => ai_q1 HD S [] p 0))).1, (ai_join ((av_ps P).map (fun p => ai_q1 HD S [] p 0))).2, [], 0, 0, 0) st else none
  | _ => none
theorem ak_bald_ok (hx : ∀ st, pm_x none e j lv st h = pm_bald j lv st h) (g : gs A lv st h) (hI : HI HD S h) (hr : gr LS lv h (as_g A) G) (hk : ak_bald HD S A j = some R) : ak_post HD S LS W G e j lv st h R := by
  unfold ak_bald at hk
  split at hk
  · rename_i I P As hs
    split at hk
    · rename_i hq
      have g2 := g.2.1
      rw [hs] at g2
      obtain ⟨v1, st1, rfl, h1, g3⟩ := gst_c g2
      obtain ⟨v2, st2, rfl, h2, g4⟩ := gst_c g3
      obtain ⟨p, hp, rfl⟩ := gv_k2 hq.1 h2
      obtain ⟨x, rfl, x1, x2, -⟩ := gv_k0 hq.2.1 h1
      have hb := List.all_eq_true.mp hq.2.2.2 p hp
      unfold ai_ab at hb
      rcases Bool.or_eq_true_iff.mp hb with hb | hb
      · obtain ⟨n, n1, n2⟩ := ai_ar_ok hb
        obtain ⟨i1, i2⟩ := ix_ok (x := x) (n := n) (by omega) (by omega)
        obtain ⟨q1, q2⟩ := ai_aq hI hp n1 (by decide) (by decide) i2
        refine ak_p_ok g hI hr hk (v := .int (ph_i h p x.toNatClampNeg)) ?_ ((gv_int rfl).mpr ⟨_, rfl, q1, q2, trivial⟩) g4
        rw [hx]
        simp only [pm_bald, hI.1, n1]
        rw [if_neg i1]
        rfl
      · obtain ⟨n, n1, n2⟩ := ai_ar_ok hb
        obtain ⟨i1, i2⟩ := ix_ok (x := x) (n := n) (by omega) (by omega)
        obtain ⟨q1, q2⟩ := ai_aq hI hp n1 (by decide) (by decide) i2
        refine ak_p_ok g hI hr hk (v := .int (ph_i h p x.toNatClampNeg)) ?_ ((gv_int rfl).mpr ⟨_, rfl, q1, q2, trivial⟩) g4
        rw [hx]
        simp only [pm_bald, hI.1, n1]
        rw [if_neg i1]
        rfl
    · cases hk
  · cases hk
def ak_lald (S : List (Nat × Nat)) (A : AS) (j : Nat) : Option (List (Nat × AS)) := match as_s A with
  | I :: P :: st => if av_k I = 0 ∧ 0 ≤ av_lo I ∧ ((av_k P = 2 ∧ (av_ps P).all (ai_ar S 3 (av_hi I)) = true) ∨ (av_k P = 3 ∧ (av_ps P).all (fun k => k == 40) = true ∧ av_hi I < 6)) then ak_p A (j + 1) av_l st else none
  | _ => none
theorem ak_lald_ok (hx : ∀ st, pm_x none e j lv st h = pm_lald j lv st h) (g : gs A lv st h) (hI : HI HD S h) (hr : gr LS lv h (as_g A) G) (hk : ak_lald S A j = some R) : ak_post HD S LS W G e j lv st h R := by
  unfold ak_lald at hk
  split at hk
  · rename_i I P As hs
    split at hk
    · rename_i hq
      have g2 := g.2.1
      rw [hs] at g2
      obtain ⟨v1, st1, rfl, h1, g3⟩ := gst_c g2
      obtain ⟨v2, st2, rfl, h2, g4⟩ := gst_c g3
      obtain ⟨x, rfl, x1, x2, -⟩ := gv_k0 hq.1 h1
      rcases hq.2.2 with ⟨k2, ka⟩ | ⟨k3, ka, kb⟩
      · obtain ⟨p, hp, rfl⟩ := gv_k2 k2 h2
        obtain ⟨n, n1, n2⟩ := ai_ar_ok (List.all_eq_true.mp ka p hp)
        obtain ⟨i1, i2⟩ := ix_ok (x := x) (n := n) (by omega) (by omega)
        refine ak_p_ok g hI hr hk (v := .long (ph_l h p x.toNatClampNeg)) ?_ ⟨_, rfl⟩ g4
        rw [hx]
        simp only [pm_lald, hI.1, n1]
        rw [if_neg i1]
        rfl
      · obtain ⟨p, hp, rfl⟩ := gv_k3 k3 h2
        have := beq_iff_eq.mp (List.all_eq_true.mp ka p hp)
        subst this
        obtain ⟨i1, i2⟩ := ix_ok (x := x) (n := 6) (by omega) (by omega)
        refine ak_p_ok g hI hr hk (v := .long (pm_LW.getD x.toNatClampNeg 0)) ?_ ⟨_, rfl⟩ g4
        rw [hx]
        simp only [pm_lald]
        rw [if_pos trivial, if_neg i1]
        rfl
    · cases hk
  · cases hk
def ak_aald (HD : HDt) (S : List (Nat × Nat)) (A : AS) (j : Nat) : Option (List (Nat × AS)) := match as_s A with
  | I :: P :: st => if av_k P = 2 ∧ av_k I = 0 ∧ 0 ≤ av_lo I ∧ (av_ps P).all (ai_ar S 4 (av_hi I)) = true ∧ (av_ps P).all (fun p => (hd_at HD S p 0).1 == 2) = true then ak_p A (j + 1) (av_r ((av_ps P).flatMap (fun p => (hd_at HD S p 0).2.2.2))) st else none
  | _ => none
theorem ak_aald_ok (hx : ∀ st, pm_x none e j lv st h = pm_aald j lv st h) (g : gs A lv st h) (hI : HI HD S h) (hr : gr LS lv h (as_g A) G) (hk : ak_aald HD S A j = some R) : ak_post HD S LS W G e j lv st h R := by
  unfold ak_aald at hk
  split at hk
  · rename_i I P As hs
    split at hk
    · rename_i hq
      have g2 := g.2.1
      rw [hs] at g2
      obtain ⟨v1, st1, rfl, h1, g3⟩ := gst_c g2
      obtain ⟨v2, st2, rfl, h2, g4⟩ := gst_c g3
      obtain ⟨p, hp, rfl⟩ := gv_k2 hq.1 h2
      obtain ⟨x, rfl, x1, x2, -⟩ := gv_k0 hq.2.1 h1
      obtain ⟨n, n1, n2⟩ := ai_ar_ok (List.all_eq_true.mp hq.2.2.2.1 p hp)
      obtain ⟨i1, i2⟩ := ix_ok (x := x) (n := n) (by omega) (by omega)
      have h5 := hI.2 p x.toNatClampNeg 4 n n1 i2
      rw [hd_arr n1 (by decide) (by decide)] at h5
      unfold hd_ok at h5
      rw [beq_iff_eq.mp (List.all_eq_true.mp hq.2.2.2.2 p hp)] at h5
      obtain ⟨z, z1, z2⟩ := h5
      refine ak_p_ok g hI hr hk (v := .ref z) ?_ ⟨z, List.mem_flatMap.mpr ⟨p, hp, z1⟩, rfl⟩ g4
      rw [hx]
      simp only [pm_aald, hI.1, n1]
      rw [if_neg i1, z2]
      rfl
    · cases hk
  · cases hk
def arW (W : WSt) (p : Nat) : Bool := W.any (fun q => q.1 == p && q.2 == 9999)
theorem arW_in {p s : Nat} (hw : arW W p = true) : inW W p s = true := by
  obtain ⟨q, q1, q2⟩ := List.any_eq_true.mp hw
  refine List.any_eq_true.mpr ⟨q, q1, ?_⟩
  simp only [Bool.and_eq_true, Bool.or_eq_true, beq_iff_eq] at q2 ⊢
  exact ⟨q2.1, Or.inr q2.2⟩
def ai_sr (HD : HDt) (S : List (Nat × Nat)) (lo hi : Int) (X : AV) (p : Nat) : Bool := if ai_un HD p = true then ai_in (hd_at HD S p 0) (av_lo X) (av_hi X) else (List.range (hi - lo + 1).toNat).all (fun k => ai_in (hd_at HD S p (lo.toNat + k)) (av_lo X) (av_hi X))
theorem ai_sr_ok {p n s : Nat} {lo hi : Int} {X : AV} (hs : S[p]? = some (0, n)) (h0 : 0 ≤ lo) (s1 : lo ≤ (s : Int)) (s2 : (s : Int) ≤ hi) (hr : ai_sr HD S lo hi X p = true) : ai_in (hd_at HD S p s) (av_lo X) (av_hi X) = true := by
  unfold ai_sr at hr
  split at hr
  · rename_i hu
    rw [hd_arr0 hs hu]
    exact hr
  · have h1 := List.all_eq_true.mp hr (s - lo.toNat) (List.mem_range.mpr (by omega))
    have e1 : lo.toNat + (s - lo.toNat) = s := by omega
    rw [e1] at h1
    exact h1
def ak_iast (HD : HDt) (S : List (Nat × Nat)) (W : WSt) (LS : List LVr) (A : AS) (j : Nat) : Option (List (Nat × AS)) := match as_s A with
  | X :: I :: P :: st => if av_k P = 2 ∧ av_k I = 0 ∧ av_k X = 0 ∧ 0 ≤ av_lo I ∧ (av_ps P).all (fun p => ai_ar S 0 (av_hi I) p && (arW W p && ai_sr HD S (av_lo I) (av_hi I) X p)) = true then ai_wr LS A ((av_ps P).map (fun p => (p, 9999))) [] (rl_w ((av_ps P).map (fun p => (p, 9999)))) st (j + 1) else none
  | _ => none
theorem ak_wi1 {p s j' : Nat} {x : Int32} {ps : List Nat} {As : List AV} {st' : List Value} (g : gs A lv st h) (g4 : gst lv h As st') (hI : HI HD S h) (hr : gr LS lv h (as_g A) G) (hk : ai_wr LS A (ps.map (fun p => (p, 9999))) [] (rl_w (ps.map (fun p => (p, 9999)))) As j' = some R) (hp : p ∈ ps) (hw : arW W p = true) (hin : (hd_at HD S p s).1 = 0 → (hd_at HD S p s).2.1 ≤ x.toInt ∧ x.toInt ≤ (hd_at HD S p s).2.2.1)
    (hx : pm_x none e j lv st h = some (.inl (j', lv, st', (ph_s h, pm_u2 (ph_i h) p s x, ph_l h, ph_r h)))) : ak_post HD S LS W G e j lv st h R := by
  have hag : ∀ p' s', inW (ps.map (fun p => (p, 9999))) p' s' = false → pm_u2 (ph_i h) p s x p' s' = ph_i h p' s' := by
    intro p' s' hn
    refine wl_ne (fun z => ?_)
    rw [z.1, inW_map hp (Or.inr rfl)] at hn
    cases hn
  exact ai_wg_ok (h' := (ph_s h, pm_u2 (ph_i h) p s x, ph_l h, ph_r h)) g.1 g4 g.2.2 hr hk hag (fun q hq9 => absurd hq9 List.not_mem_nil) (rl_w_ok hag) (HI_wi hI hin) (fram_wi (arW_in hw)) hx
theorem ak_iast_ok (hx : ∀ st, pm_x none e j lv st h = pm_iast j lv st h) (g : gs A lv st h) (hI : HI HD S h) (hr : gr LS lv h (as_g A) G) (hk : ak_iast HD S W LS A j = some R) : ak_post HD S LS W G e j lv st h R := by
  unfold ak_iast at hk
  split at hk
  · rename_i X I P As hs
    split at hk
    · rename_i hq
      have g2 := g.2.1
      rw [hs] at g2
      obtain ⟨v0, st0, rfl, h0, g9⟩ := gst_c g2
      obtain ⟨v1, st1, rfl, h1, g3⟩ := gst_c g9
      obtain ⟨v2, st2, rfl, h2, g4⟩ := gst_c g3
      obtain ⟨p, hp, rfl⟩ := gv_k2 hq.1 h2
      obtain ⟨i, rfl, i1, i2, -⟩ := gv_k0 hq.2.1 h1
      obtain ⟨x, rfl, x1, x2, -⟩ := gv_k0 hq.2.2.1 h0
      have hb := List.all_eq_true.mp hq.2.2.2.2 p hp
      simp only [Bool.and_eq_true] at hb
      obtain ⟨n, n1, n2⟩ := ai_ar_ok hb.1
      obtain ⟨i3, i4⟩ := ix_ok (x := i) (n := n) (by omega) (by omega)
      have e9 : (i.toNatClampNeg : Int) = i.toInt := by
        have e1 : i.toNatClampNeg = i.toInt.toNat := rfl
        rw [e1]
        omega
      have hin := ai_in_ok (ai_sr_ok (s := i.toNatClampNeg) n1 hq.2.2.2.1 (by rw [e9]; exact i1) (by rw [e9]; exact i2) hb.2.2) x1 x2
      refine ak_wi1 g g4 hI hr hk hp hb.2.1 hin ?_
      rw [hx]
      simp only [pm_iast, hI.1, n1]
      rw [if_neg i3]
      rfl
    · cases hk
  · cases hk
def ak_bast (HD : HDt) (S : List (Nat × Nat)) (W : WSt) (LS : List LVr) (A : AS) (j : Nat) : Option (List (Nat × AS)) := match as_s A with
  | X :: I :: P :: st => if av_k P = 2 ∧ av_k I = 0 ∧ av_k X = 0 ∧ 0 ≤ av_lo I ∧ (av_ps P).all (fun p => ai_ab S (av_hi I) p && (arW W p && (hd_at HD S p 0).1 != 0)) = true then ai_wr LS A ((av_ps P).map (fun p => (p, 9999))) [] (rl_w ((av_ps P).map (fun p => (p, 9999)))) st (j + 1) else none
  | _ => none
theorem ak_bast_ok (hx : ∀ st, pm_x none e j lv st h = pm_bast j lv st h) (g : gs A lv st h) (hI : HI HD S h) (hr : gr LS lv h (as_g A) G) (hk : ak_bast HD S W LS A j = some R) : ak_post HD S LS W G e j lv st h R := by
  unfold ak_bast at hk
  split at hk
  · rename_i X I P As hs
    split at hk
    · rename_i hq
      have g2 := g.2.1
      rw [hs] at g2
      obtain ⟨v0, st0, rfl, h0, g9⟩ := gst_c g2
      obtain ⟨v1, st1, rfl, h1, g3⟩ := gst_c g9
      obtain ⟨v2, st2, rfl, h2, g4⟩ := gst_c g3
      obtain ⟨p, hp, rfl⟩ := gv_k2 hq.1 h2
      obtain ⟨i, rfl, i1, i2, -⟩ := gv_k0 hq.2.1 h1
      obtain ⟨x, rfl, x1, x2, -⟩ := gv_k0 hq.2.2.1 h0
      have hb := List.all_eq_true.mp hq.2.2.2.2 p hp
      simp only [Bool.and_eq_true] at hb
      have hb1 := hb.1
      unfold ai_ab at hb1
      rcases Bool.or_eq_true_iff.mp hb1 with hb1 | hb1
      · obtain ⟨n, n1, n2⟩ := ai_ar_ok hb1
        obtain ⟨i3, i4⟩ := ix_ok (x := i) (n := n) (by omega) (by omega)
        refine ak_wi1 (s := i.toNatClampNeg) (x := vp_nar .boolean x) g g4 hI hr hk hp hb.2.1 ?_ ?_
        · intro hz
          rw [hd_arr n1 (by decide) (by decide)] at hz
          rw [hz] at hb
          exact absurd hb.2.2 (by simp)
        · rw [hx]
          simp only [pm_bast, hI.1, n1]
          rw [if_neg i3]
          rfl
      · obtain ⟨n, n1, n2⟩ := ai_ar_ok hb1
        obtain ⟨i3, i4⟩ := ix_ok (x := i) (n := n) (by omega) (by omega)
        refine ak_wi1 (s := i.toNatClampNeg) (x := vp_nar .byte x) g g4 hI hr hk hp hb.2.1 ?_ ?_
        · intro hz
          rw [hd_arr n1 (by decide) (by decide)] at hz
          rw [hz] at hb
          exact absurd hb.2.2 (by simp)
        · rw [hx]
          simp only [pm_bast, hI.1, n1]
          rw [if_neg i3]
          rfl
    · cases hk
  · cases hk
def ak_last (S : List (Nat × Nat)) (W : WSt) (A : AS) (j : Nat) : Option (List (Nat × AS)) := match as_s A with
  | X :: I :: P :: st => if av_k P = 2 ∧ av_k I = 0 ∧ av_k X = 1 ∧ 0 ≤ av_lo I ∧ (av_ps P).all (fun p => ai_ar S 3 (av_hi I) p && arW W p) = true then ak_q A (j + 1) st else none
  | _ => none
theorem ak_last_ok (hx : ∀ st, pm_x none e j lv st h = pm_last j lv st h) (g : gs A lv st h) (hI : HI HD S h) (hr : gr LS lv h (as_g A) G) (hk : ak_last S W A j = some R) : ak_post HD S LS W G e j lv st h R := by
  unfold ak_last at hk
  split at hk
  · rename_i X I P As hs
    split at hk
    · rename_i hq
      have g2 := g.2.1
      rw [hs] at g2
      obtain ⟨v0, st0, rfl, h0, g9⟩ := gst_c g2
      obtain ⟨v1, st1, rfl, h1, g3⟩ := gst_c g9
      obtain ⟨v2, st2, rfl, h2, g4⟩ := gst_c g3
      obtain ⟨p, hp, rfl⟩ := gv_k2 hq.1 h2
      obtain ⟨i, rfl, i1, i2, -⟩ := gv_k0 hq.2.1 h1
      obtain ⟨x, rfl⟩ := gv_k1 hq.2.2.1 h0
      have hb := List.all_eq_true.mp hq.2.2.2.2 p hp
      simp only [Bool.and_eq_true] at hb
      obtain ⟨n, n1, n2⟩ := ai_ar_ok hb.1
      obtain ⟨i3, i4⟩ := ix_ok (x := i) (n := n) (by omega) (by omega)
      refine ak_h_ok (h' := (ph_s h, ph_i h, pm_u2 (ph_l h) p i.toNatClampNeg x, ph_r h)) g g4 hr hk rfl (HI_wl hI) (fram_wl (arW_in hb.2)) ?_
      rw [hx]
      simp only [pm_last, hI.1, n1]
      rw [if_neg i3]
      rfl
    · cases hk
  · cases hk
end AN
