section AM
variable {HD : HDt} {S : List (Nat × Nat)} {LS : List LVr} {W : WSt} {G : List Int} {e : PmI} {j : Nat} {lv : PmL} {st : List Value} {h : PmH} {R : List (Nat × AS)} {A : AS}
/-- what is known of an int field now -/
def ai_q1 (HD : HDt) (S : List (Nat × Nat)) (O : List (Nat × Nat × Int × Int)) (p c : Nat) : Int × Int := match O.find? (fun q => q.1 == p && q.2.1 == c) with
  | some q => (q.2.2.1, q.2.2.2)
  | none => if (hd_at HD S p c).1 = 0 then ((hd_at HD S p c).2.1, (hd_at HD S p c).2.2.1) else (ai_mn, ai_mx)
theorem ai_q1_ok {O : List (Nat × Nat × Int × Int)} {p c t n : Nat} (hI : HI HD S h) (ho : go_ O h) (hs : S[p]? = some (t, n)) (hc : c < n) : (ai_q1 HD S O p c).1 ≤ (ph_i h p c).toInt ∧ (ph_i h p c).toInt ≤ (ai_q1 HD S O p c).2 := by
  unfold ai_q1
  split
  · rename_i q hq
    have h1 := ho q (List.mem_of_find?_eq_some hq)
    have h2 := List.find?_some hq
    simp only [Bool.and_eq_true, beq_iff_eq] at h2
    rw [h2.1, h2.2] at h1
    exact h1
  · have h1 := hI.2 p c t n hs hc
    split
    · rename_i hz
      unfold hd_ok at h1
      rw [hz] at h1
      exact h1
    · exact i32_in _
def ai_join : List (Int × Int) → Int × Int
  | [] => (0, 0)
  | [q] => q
  | q :: r :: l => (min q.1 (ai_join (r :: l)).1, max q.2 (ai_join (r :: l)).2)
theorem ai_join_ok : ∀ {l : List (Int × Int)} {q : Int × Int} {x : Int}, q ∈ l → q.1 ≤ x → x ≤ q.2 → (ai_join l).1 ≤ x ∧ x ≤ (ai_join l).2
  | [], _, _, hq, _, _ => absurd hq List.not_mem_nil
  | [q], _, _, hq, h1, h2 => by
    rw [List.mem_singleton.mp hq] at h1 h2
    exact ⟨h1, h2⟩
  | q :: r :: l, q', x, hq, h1, h2 => by
    show min q.1 (ai_join (r :: l)).1 ≤ x ∧ x ≤ max q.2 (ai_join (r :: l)).2
    rcases List.mem_cons.mp hq with hq | hq
    · subst hq
      omega
    · have := ai_join_ok hq h1 h2
      omega
def ai_obj (S : List (Nat × Nat)) (a c p : Nat) : Bool := match S[p]? with
  | some (t, n) => t == 10 + a && decide (c < n)
  | none => false
theorem ai_obj_ok {a c p : Nat} (hp : ai_obj S a c p = true) : ∃ n, S[p]? = some (10 + a, n) ∧ c < n := by
  unfold ai_obj at hp
  split at hp
  · rename_i t n hs
    simp only [Bool.and_eq_true, beq_iff_eq, decide_eq_true_eq] at hp
    exact ⟨n, by rw [hs, hp.1], hp.2⟩
  · cases hp
def ai_one (ps : List Nat) (c : Nat) : Nat × Nat × Nat := match ps with
  | [p] => (2, p, c)
  | _ => (0, 0, 0)
def ak_get (HD : HDt) (S : List (Nat × Nat)) (e : PmI) (A : AS) (j : Nat) : Option (List (Nat × AS)) := match as_s A with
  | B :: st => if av_k B = 2 ∧ (av_ps B).all (ai_obj S (pi_a e) (pi_c e)) = true then (match pi_d e with
    | 1 => ak_p A (j + 1) av_l st
    | 2 => if (av_ps B).all (fun p => (hd_at HD S p (pi_c e)).1 == 2) = true then ak_p A (j + 1) (av_r ((av_ps B).flatMap (fun p => (hd_at HD S p (pi_c e)).2.2.2))) st else none
    | _ => ak_p A (j + 1) (0, (ai_join ((av_ps B).map (fun p => ai_q1 HD S (as_o A) p (pi_c e)))).1, (ai_join ((av_ps B).map (fun p => ai_q1 HD S (as_o A) p (pi_c e)))).2, [], (ai_one (av_ps B) (pi_c e)).1, (ai_one (av_ps B) (pi_c e)).2.1, (ai_one (av_ps B) (pi_c e)).2.2) st) else none
  | _ => none
theorem ak_get_ok (hx : ∀ st, pm_x none e j lv st h = pm_get e j lv st h) (g : gs A lv st h) (hI : HI HD S h) (hr : gr LS lv h (as_g A) G) (hk : ak_get HD S e A j = some R) : ak_post HD S LS W G e j lv st h R := by
  unfold ak_get at hk
  split at hk
  · rename_i B As hs
    split at hk
    · rename_i hq
      have g2 := g.2.1
      rw [hs] at g2
      obtain ⟨v1, st1, rfl, h1, g3⟩ := gst_c g2
      obtain ⟨p, hp, rfl⟩ := gv_k2 hq.1 h1
      obtain ⟨n, n1, n2⟩ := ai_obj_ok (List.all_eq_true.mp hq.2 p hp)
      have hx2 : pm_x none e j lv (.ref p :: st1) h = some (.inl (j + 1, lv, pm_fv h (pi_d e) p (pi_c e) :: st1, h)) := by
        rw [hx]
        simp only [pm_get, hI.1, n1]
        rw [if_pos ⟨trivial, n2⟩]
        rfl
      split at hk
      · rename_i hd
        rw [hd] at hx2
        exact ak_p_ok g hI hr hk hx2 ⟨_, rfl⟩ g3
      · rename_i hd
        rw [hd] at hx2
        split at hk
        · rename_i hall
          have hz := List.all_eq_true.mp hall p hp
          have h5 := hI.2 p (pi_c e) _ n n1 n2
          unfold hd_ok at h5
          rw [beq_iff_eq.mp hz] at h5
          obtain ⟨z, z1, z2⟩ := h5
          refine ak_p_ok g hI hr hk (v := .ref z) ?_ ⟨z, List.mem_flatMap.mpr ⟨p, hp, z1⟩, rfl⟩ g3
          rw [hx2]
          simp only [pm_fv, z2, pm_rv]
        · cases hk
      · rename_i d1 d2
        refine ak_p_ok g hI hr hk (v := .int (ph_i h p (pi_c e))) ?_ ?_ g3
        · rw [hx2]
          unfold pm_fv
          split
          · rename_i z; exact absurd z d1
          · rename_i z; exact absurd z d2
          · rfl
        · obtain ⟨q1, q2⟩ := ai_q1_ok (c := pi_c e) hI g.2.2 n1 n2
          obtain ⟨r1, r2⟩ := ai_join_ok (q := ai_q1 HD S (as_o A) p (pi_c e)) (l := (av_ps B).map (fun p => ai_q1 HD S (as_o A) p (pi_c e))) (List.mem_map.mpr ⟨p, hp, rfl⟩) q1 q2
          refine (gv_int rfl).mpr ⟨_, rfl, r1, r2, ?_⟩
          show ai_tag lv h (ai_one (av_ps B) (pi_c e)).1 (ai_one (av_ps B) (pi_c e)).2.1 (ai_one (av_ps B) (pi_c e)).2.2 _
          unfold ai_one
          split
          · rename_i p' hp'
            rw [hp'] at hp
            rw [List.mem_singleton.mp hp]
            rfl
          · trivial
    · cases hk
  · cases hk
/-- an int is written at p, s: the heap's data, the frame, what is known of fields, tags, loops -/
theorem HI_wi {p s : Nat} {x : Int32} (hI : HI HD S h) (hx : (hd_at HD S p s).1 = 0 → (hd_at HD S p s).2.1 ≤ x.toInt ∧ x.toInt ≤ (hd_at HD S p s).2.2.1) : HI HD S (ph_s h, pm_u2 (ph_i h) p s x, ph_l h, ph_r h) := by
  refine ⟨hI.1, fun p' s' t n hs hn => ?_⟩
  have h1 := hI.2 p' s' t n hs hn
  by_cases hp : p' = p
  · subst hp
    by_cases hs' : s' = s
    · subst hs'
      unfold hd_ok at h1 ⊢
      split
      · rename_i hz
        have := hx hz
        simp only [ph_i, pm_u2_eq, if_pos]
        exact this
      · rename_i hz
        rw [hz] at h1
        exact h1
      · trivial
    · unfold hd_ok at h1 ⊢
      simp only [ph_i, ph_r, pm_u2_eq, if_neg hs'] at h1 ⊢
      exact h1
  · unfold hd_ok at h1 ⊢
    simp only [ph_i, ph_r, pm_u2_ne hp] at h1 ⊢
    exact h1
theorem wi_ne {p s p' s' : Nat} {x : Int32} (hne : ¬ (p' = p ∧ s' = s)) : pm_u2 (ph_i h) p s x p' s' = ph_i h p' s' := by
  by_cases hp : p' = p
  · subst hp
    have : s' ≠ s := fun z => hne ⟨rfl, z⟩
    simp [pm_u2, this]
  · rw [pm_u2_ne hp]
theorem fram_wi {p s : Nat} {x : Int32} (hw : inW W p s = true) : fram W h (ph_s h, pm_u2 (ph_i h) p s x, ph_l h, ph_r h) := by
  intro p' s' hn
  refine ⟨wi_ne (fun z => ?_), rfl, rfl⟩
  rw [z.1, z.2, hw] at hn
  cases hn
def ai_wr (LS : List LVr) (A : AS) (W1 : WSt) (O0 : List (Nat × Nat × Int × Int)) (f : LVr → Nat → Option Nat) (st : List AV) (j : Nat) : Option (List (Nat × AS)) := match rl_up LS f (as_g A) with
  | some g => some [(j, (as_l A, st.map (ut_f W1), O0 ++ (as_o A).filter (fun q => !inW W1 q.1 q.2.1), g))]
  | none => none
theorem ai_wg {W1 : WSt} {O0 : List (Nat × Nat × Int × Int)} {f : LVr → Nat → Option Nat} {As : List AV} {st' : List Value} {j' : Nat} {h' : PmH} (gl' : gl (as_l A) lv) (gst' : gst lv h As st') (go' : go_ (as_o A) h) (hr : gr LS lv h (as_g A) G)
    (hk : ai_wr LS A W1 O0 f As j' = some R) (hag : ∀ p s, inW W1 p s = false → ph_i h' p s = ph_i h p s) (hO : go_ O0 h')
    (hf : ∀ (L : LVr) (r r' : Nat) (g : Int) (z : Int32), f L r = some r' → lv_now L lv h z → rel_ok L.2.2.2 r g z.toInt → ∃ z' : Int32, lv_now L lv h' z' ∧ rel_ok L.2.2.2 r' g z'.toInt) : ∃ A', (j', A') ∈ R ∧ gs A' lv st' h' ∧ gr LS lv h' (as_g A') G := by
  unfold ai_wr at hk
  split at hk
  · rename_i g' hg'
    cases hk
    refine ⟨_, List.mem_singleton.mpr rfl, ⟨gl', ?_, ?_⟩, rl_up_ok hf hg' hr⟩
    · refine gst_map (fun B v gB => ?_) _ _ gst'
      rcases ut_f_is W1 B with ⟨e1, e2⟩ | e1
      · rw [e1]
        refine gv_keep (Or.inl rfl) (fun _ _ _ hx9 => hx9) (fun _ ht => hag _ _ ?_) gB
        cases hb : inW W1 (av_a B) (av_b B) with
        | false => rfl
        | true => exact absurd ⟨ht, hb⟩ e2
      · rw [e1]
        exact gv_nt gB _ _
    · intro q hq
      rcases List.mem_append.mp hq with hq | hq
      · exact hO q hq
      · obtain ⟨q1, q2⟩ := List.mem_filter.mp hq
        have h3 := go' q q1
        have e9 : ph_i h' q.1 q.2.1 = ph_i h q.1 q.2.1 := hag _ _ (by simpa using q2)
        rw [e9]
        exact h3
  · cases hk
theorem ai_wg_ok {W1 : WSt} {O0 : List (Nat × Nat × Int × Int)} {f : LVr → Nat → Option Nat} {As : List AV} {st' : List Value} {j' : Nat} {h' : PmH} (gl' : gl (as_l A) lv) (gst' : gst lv h As st') (go' : go_ (as_o A) h) (hr : gr LS lv h (as_g A) G)
    (hk : ai_wr LS A W1 O0 f As j' = some R) (hag : ∀ p s, inW W1 p s = false → ph_i h' p s = ph_i h p s) (hO : go_ O0 h')
    (hf : ∀ (L : LVr) (r r' : Nat) (g : Int) (z : Int32), f L r = some r' → lv_now L lv h z → rel_ok L.2.2.2 r g z.toInt → ∃ z' : Int32, lv_now L lv h' z' ∧ rel_ok L.2.2.2 r' g z'.toInt)
    (hI' : HI HD S h') (hfr : fram W h h') (hx : pm_x none e j lv st h = some (.inl (j', lv, st', h'))) : ak_post HD S LS W G e j lv st h R := by
  obtain ⟨A', m1, m2, m3⟩ := ai_wg gl' gst' go' hr hk hag hO hf
  exact ⟨j', lv, st', h', A', hx, m1, m2, hI', m3, hfr⟩
/-- a loop's variable may not be among what is written -/
def rl_w (W1 : WSt) (L : LVr) (r : Nat) : Option Nat := if ¬ L.1 = 0 ∧ inW W1 L.2.1 L.2.2.1 = true then none else some r
theorem rl_w_ok {W1 : WSt} {h' : PmH} (hag : ∀ p s, inW W1 p s = false → ph_i h' p s = ph_i h p s) :
    ∀ (L : LVr) (r r' : Nat) (g : Int) (z : Int32), rl_w W1 L r = some r' → lv_now L lv h z → rel_ok L.2.2.2 r g z.toInt → ∃ z' : Int32, lv_now L lv h' z' ∧ rel_ok L.2.2.2 r' g z'.toInt := by
  intro L r r' g z hf hz hrel
  obtain ⟨k, a, b, up⟩ := L
  unfold rl_w at hf
  split at hf
  · cases hf
  · rename_i hq
    cases hf
    refine ⟨z, ?_, hrel⟩
    rcases k with _ | k
    · exact hz
    · show ph_i h' a b = z
      rw [hag]
      · exact hz
      · cases hb : inW W1 a b with
        | false => rfl
        | true => exact absurd ⟨by simp, hb⟩ hq
def rl_fld (ps : List Nat) (c : Nat) (X : AV) (L : LVr) (r : Nat) : Option Nat := if ¬ L.1 = 0 ∧ inW (ps.map (fun p => (p, c))) L.2.1 L.2.2.1 = true then (match ps with
  | [p] => if av_a X = p ∧ av_b X = c ∧ L.2.1 = p ∧ L.2.2.1 = c ∧ ((L.2.2.2 = true ∧ av_t X = 6) ∨ (L.2.2.2 = false ∧ av_t X = 5)) then some 1 else none
  | _ => none) else some r
theorem rl_fld_ok {ps : List Nat} {p c : Nat} {X : AV} {x : Int32} (hp : p ∈ ps) (hv : ai_tag lv h (av_t X) (av_a X) (av_b X) x) :
    ∀ (L : LVr) (r r' : Nat) (g : Int) (z : Int32), rl_fld ps c X L r = some r' → lv_now L lv h z → rel_ok L.2.2.2 r g z.toInt → ∃ z' : Int32, lv_now L lv (ph_s h, pm_u2 (ph_i h) p c x, ph_l h, ph_r h) z' ∧ rel_ok L.2.2.2 r' g z'.toInt := by
  intro L r r' g z hf hz hrel
  obtain ⟨k, a, b, up⟩ := L
  unfold rl_fld at hf
  split at hf
  · rename_i hq
    split at hf
    · rename_i p'
      split at hf
      · rename_i hc
        cases hf
        obtain ⟨c1, c2, c3, c4, c5⟩ := hc
        have c3 : a = p' := c3
        have c4 : b = c := c4
        rw [List.mem_singleton] at hp
        subst hp
        subst c3
        subst c4
        have hz2 : ph_i h a b = z := by
          rcases k with _ | k
          · exact absurd rfl hq.1
          · exact hz
        refine ⟨x, ?_, ?_⟩
        · rcases k with _ | k
          · exact absurd rfl hq.1
          · show pm_u2 (ph_i h) a b x a b = x
            simp [pm_u2]
        · rcases c5 with ⟨u, t⟩ | ⟨u, t⟩
          · have u : up = true := u
            subst u
            rw [t, c1, c2] at hv
            have hv : (ph_i h a b).toInt < x.toInt := hv
            rw [hz2] at hv
            show g < x.toInt
            have hrel : rel_ok true r g z.toInt := hrel
            unfold rel_ok at hrel
            split at hrel
            · omega
            · simp at hrel; omega
            · simp at hrel; omega
          · have u : up = false := u
            subst u
            rw [t, c1, c2] at hv
            have hv : x.toInt < (ph_i h a b).toInt := hv
            rw [hz2] at hv
            show x.toInt < g
            have hrel : rel_ok false r g z.toInt := hrel
            unfold rel_ok at hrel
            split at hrel
            · omega
            · simp at hrel; omega
            · simp at hrel; omega
      · cases hf
    · cases hf
  · rename_i hq
    cases hf
    refine ⟨z, ?_, hrel⟩
    rcases k with _ | k
    · exact hz
    · show pm_u2 (ph_i h) p c x a b = z
      rw [wi_ne]
      · exact hz
      · intro y
        refine hq ⟨by simp, List.any_eq_true.mpr ⟨(p, c), List.mem_map.mpr ⟨p, hp, rfl⟩, ?_⟩⟩
        simp [y.1, y.2]
end AM
