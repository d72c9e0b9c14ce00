section AT
variable {T : List PmM} {HD : HDt} {S : List (Nat × Nat)} {LS : List LVr} {W : WSt} {G : List Int} {e : PmI} {j : Nat} {lv : PmL} {st : List Value} {h : PmH} {R : List (Nat × AS)} {A : AS}
abbrev AO : Type := List (Nat × Nat × Int × Int)
/-- a method's summary: its number, what its arguments are, what is known of fields, what may come of it (answer and fields), what it may write -/
abbrev AG : Type := List (Nat × Int × Int)
abbrev APo : Type := Option AV × AO × AG
abbrev Inst : Type := Nat × List AV × AO × List APo × WSt
abbrev in_y (I : Inst) : Nat := I.1
abbrev in_a (I : Inst) : List AV := I.2.1
abbrev in_o (I : Inst) : AO := I.2.2.1
abbrev in_p (I : Inst) : List APo := I.2.2.2.1
abbrev in_w (I : Inst) : WSt := I.2.2.2.2
def pv (P : Option AV) (v : Option Value) : Prop := match P with
  | none => v = none
  | some B => ∃ w, v = some w ∧ ∀ (lv : PmL) (h : PmH), gv lv h (nt B) w
/-- what an outcome tells of the arguments -/
def gag (l : AG) (as : List Value) : Prop := ∀ q ∈ l, ∃ x : Int32, (as[q.1]? = some (.int x) ∨ as[q.1]? = some (.long x.toInt64)) ∧ q.2.1 ≤ x.toInt ∧ x.toInt ≤ q.2.2
def iv (T : List PmM) (HD : HDt) (S : List (Nat × Nat)) (I : Inst) : Prop := ∀ (as : List Value) (h : PmH), (∀ (lv : PmL) (h' : PmH), gst lv h' ((in_a I).map nt) as) → go_ (in_o I) h → HI HD S h → ∃ (v : Option Value) (h' : PmH), Ev T (in_y I) as h v h' ∧ (∃ P ∈ in_p I, pv P.1 v ∧ go_ P.2.1 h' ∧ gag P.2.2 as) ∧ HI HD S h' ∧ fram (in_w I) h h'
theorem gst_nt : ∀ {As : List AV} {st : List Value}, gst lv h As st → ∀ (lv' : PmL) (h' : PmH), gst lv' h' (As.map nt) st
  | [], [], _, _, _ => trivial
  | _ :: As, _ :: st, g, lv', h' => ⟨gv_nt g.1 lv' h', gst_nt g.2 lv' h'⟩
  | [], _ :: _, g, _, _ => g.elim
  | _ :: _, [], g, _, _ => g.elim
theorem gst_len : ∀ {As : List AV} {st : List Value}, gst lv h As st → st.length = As.length
  | [], [], _ => rfl
  | _ :: As, _ :: st, g => by simp [gst_len g.2]
  | [], _ :: _, g => g.elim
  | _ :: _, [], g => g.elim
theorem gst_take : ∀ (c : Nat) {As : List AV} {st : List Value}, gst lv h As st → gst lv h (As.take c) (st.take c)
  | 0, _, _, _ => trivial
  | c + 1, [], [], _ => trivial
  | c + 1, _ :: As, _ :: st, g => ⟨g.1, gst_take c g.2⟩
  | _ + 1, [], _ :: _, g => g.elim
  | _ + 1, _ :: _, [], g => g.elim
theorem gst_drop : ∀ (c : Nat) {As : List AV} {st : List Value}, gst lv h As st → gst lv h (As.drop c) (st.drop c)
  | 0, _, _, g => g
  | c + 1, [], [], _ => trivial
  | c + 1, _ :: As, _ :: st, g => gst_drop c g.2
  | _ + 1, [], _ :: _, g => g.elim
  | _ + 1, _ :: _, [], g => g.elim
theorem gst_app : ∀ {As Bs : List AV} {st st' : List Value}, gst lv h As st → gst lv h Bs st' → gst lv h (As ++ Bs) (st ++ st')
  | [], _, [], _, _, g' => g'
  | _ :: As, _, _ :: st, _, g, g' => ⟨g.1, gst_app g.2 g'⟩
  | [], _, _ :: _, _, g, _ => g.elim
  | _ :: _, _, [], _, g, _ => g.elim
theorem gst_rev : ∀ {As : List AV} {st : List Value}, gst lv h As st → gst lv h As.reverse st.reverse
  | [], [], _ => trivial
  | _ :: As, _ :: st, g => by
    rw [List.reverse_cons, List.reverse_cons]
    exact gst_app (gst_rev g.2) ⟨g.1, trivial⟩
  | [], _ :: _, g => g.elim
  | _ :: _, [], g => g.elim
theorem pm_sl_cat : ∀ (as : List Value), (pm_sl as).length = (as.map fun v => v.category).sum
  | [] => rfl
  | v :: as => by
    have ih := pm_sl_cat as
    have h1 : pm_sl (v :: as) = (if v.category = 2 then [some v, none] else [some v]) ++ pm_sl as := rfl
    rw [h1, List.length_append, ih]
    simp only [List.map_cons, List.sum_cons]
    have hc : v.category = 1 ∨ v.category = 2 := by cases v <;> simp [Value.category]
    rcases hc with z | z <;> rw [z] <;> simp
def ai_rc (S : List (Nat × Nat)) (d p : Nat) : Bool := match S[p]? with
  | some (t, _) => t == 10 + d
  | none => false
/-- the receiver of a call of kind kd -/
def ak_rc (S : List (Nat × Nat)) (kd : Nat) (e : PmI) (as : List AV) : Bool := match kd with
  | 0 => true
  | _ => (match as with
    | B :: _ => (av_k B == 2 && (av_ps B).all (ai_rc S (pi_d e))) || (av_k B == 3 && (pi_d e == 99 && (av_ps B).all (fun k => decide (k < 6))))
    | [] => false)
/-- an outcome's words of the arguments go to where these came from -/
def ai_ag1 (W : WSt) (A : AS) (r : Int × Int) : Option AV → Option AS
  | some B => if (av_k B = 0 ∨ av_k B = 5) ∧ (av_t B = 1 ∨ (av_t B = 2 ∧ inW W (av_a B) (av_b B) = false)) then ai_ap A B (max (av_lo B) r.1, min (av_hi B) r.2) else some A
  | none => some A
def ai_ag (as : List AV) (W : WSt) : Option AS → AG → Option AS
  | A, [] => A
  | none, _ :: _ => none
  | some A, q :: l => ai_ag as W (ai_ag1 W A q.2 as[q.1]?) l
theorem gst_at : ∀ {As : List AV} {st : List Value} {i : Nat} {B : AV}, gst lv h As st → As[i]? = some B → ∃ v, st[i]? = some v ∧ gv lv h B v
  | B :: As, v :: st, 0, C, g, hi => by
    cases hi
    exact ⟨v, rfl, g.1⟩
  | B :: As, v :: st, i + 1, C, g, hi => gst_at (i := i) g.2 hi
  | [], [], i, C, _, hi => by simp at hi
  | [], _ :: _, _, _, g, _ => g.elim
  | _ :: _, [], _, _, g, _ => g.elim
theorem i64_inj {x y : Int32} (h : x.toInt64 = y.toInt64) : x = y := by
  have h1 : x.toInt64.toInt = y.toInt64.toInt := by rw [h]
  rw [Int32.toInt_toInt64, Int32.toInt_toInt64] at h1
  exact Int32.toInt_inj.mp h1
theorem gag_x {B : AV} {v : Value} {x : Int32} (hk : av_k B = 0 ∨ av_k B = 5) (v2 : gv lv h B v) (hx : v = .int x ∨ v = .long x.toInt64) : av_lo B ≤ x.toInt ∧ x.toInt ≤ av_hi B ∧ ai_tag lv h (av_t B) (av_a B) (av_b B) x := by
  rcases hk with k | k
  · obtain ⟨y, y0, y1⟩ := gv_k0 k v2
    rcases hx with z | z
    · have : y = x := Value.int.inj (y0.symm.trans z)
      rw [this] at y1
      exact y1
    · exact absurd (y0.symm.trans z) (fun q => Value.noConfusion q)
  · obtain ⟨y, y0, y1⟩ := gv_k5 k v2
    rcases hx with z | z
    · exact absurd (y0.symm.trans z) (fun q => Value.noConfusion q)
    · have : y = x := i64_inj (Value.long.inj (y0.symm.trans z))
      rw [this] at y1
      exact y1
theorem ai_tag1 {x : Int32} {a b : Nat} : ai_tag lv h 1 a b x = (lv[a]? = some (some (.int x))) := rfl
theorem ai_tag2 {x : Int32} {a b : Nat} : ai_tag lv h 2 a b x = (ph_i h a b = x) := rfl
theorem ai_tag_w {h' : PmH} {W1 : WSt} {x : Int32} {t a b : Nat} (hq : t = 1 ∨ (t = 2 ∧ inW W1 a b = false)) (hag : ∀ p s, inW W1 p s = false → ph_i h' p s = ph_i h p s) (y3 : ai_tag lv h t a b x) : ai_tag lv h' t a b x := by
  rcases hq with t | ⟨t, w⟩
  · rw [t, ai_tag1] at y3
    rw [t, ai_tag1]
    exact y3
  · rw [t, ai_tag2] at y3
    rw [t, ai_tag2, hag _ _ w]
    exact y3
theorem ai_mm {a b c d x : Int} (h1 : a ≤ x) (h2 : b ≤ x) (h3 : x ≤ c) (h4 : x ≤ d) : max a b ≤ x ∧ x ≤ min c d := ⟨Int.max_le.mpr ⟨h1, h2⟩, Int.le_min.mpr ⟨h3, h4⟩⟩
theorem ai_ag1_ok {a b : Int} {h' : PmH} {W1 : WSt} {x : Int32} {A : AS} {B : AV} {v : Value} (v2 : gv lv h B v) (hx : v = .int x ∨ v = .long x.toInt64) (r1 : a ≤ x.toInt) (r2 : x.toInt ≤ b) (hag : ∀ p s, inW W1 p s = false → ph_i h' p s = ph_i h p s) (g : gs A lv st h') : ∃ A', ai_ag1 W1 A (a, b) (some B) = some A' ∧ gs A' lv st h' ∧ as_g A' = as_g A := by
  by_cases hq : (av_k B = 0 ∨ av_k B = 5) ∧ (av_t B = 1 ∨ (av_t B = 2 ∧ inW W1 (av_a B) (av_b B) = false))
  · obtain ⟨y1, y2, y3⟩ := gag_x hq.1 v2 hx
    obtain ⟨A', e1, e2, e3⟩ := ai_ap_ok (X := B) (q := (max (av_lo B) a, min (av_hi B) b)) g (ai_tag_w hq.2 hag y3) (ai_mm y1 r1 y2 r2)
    refine ⟨A', ?_, e2, e3⟩
    rw [ai_ag1, if_pos hq]
    exact e1
  · refine ⟨A, ?_, g, rfl⟩
    rw [ai_ag1, if_neg hq]
theorem ai_ag_ok {h' : PmH} {asA : List AV} {as : List Value} {W1 : WSt} (ga : gst lv h asA as) (hag : ∀ p s, inW W1 p s = false → ph_i h' p s = ph_i h p s) (st : List Value) : ∀ (l : AG) (A : AS), gag l as → gs A lv st h' → ∃ A', ai_ag asA W1 (some A) l = some A' ∧ gs A' lv st h' ∧ as_g A' = as_g A := by
  intro l
  induction l with
  | nil => exact fun A _ g => ⟨A, rfl, g, rfl⟩
  | cons q l ih =>
    intro A hg g
    have hl : gag l as := fun r hr => hg r (List.mem_cons_of_mem _ hr)
    have hone : ∃ A1, ai_ag1 W1 A q.2 asA[q.1]? = some A1 ∧ gs A1 lv st h' ∧ as_g A1 = as_g A := by
      cases hB : asA[q.1]? with
      | none => exact ⟨A, rfl, g, rfl⟩
      | some B =>
        obtain ⟨x, x1, x2, x3⟩ := hg q List.mem_cons_self
        obtain ⟨v, v1, v2⟩ := gst_at ga hB
        have hx : v = .int x ∨ v = .long x.toInt64 := by
          rw [v1] at x1
          rcases x1 with z | z
          · exact Or.inl (Option.some.inj z)
          · exact Or.inr (Option.some.inj z)
        exact ai_ag1_ok v2 hx x2 x3 hag g
    obtain ⟨A1, e1, g1, k1⟩ := hone
    obtain ⟨A2, e2, g2, k2⟩ := ih A1 hl g1
    refine ⟨A2, ?_, g2, k2.trans k1⟩
    have e0 : ai_ag asA W1 (some A) (q :: l) = ai_ag asA W1 (ai_ag1 W1 A q.2 asA[q.1]?) l := by rw [ai_ag]
    rw [e0, e1]
    exact e2
def ak_call (S : List (Nat × Nat)) (W : WSt) (LS : List LVr) (I : Inst) (kd : Nat) (e : PmI) (A : AS) (j : Nat) : Option (List (Nat × AS)) :=
  if pi_c e ≤ (as_s A).length ∧ pi_a e = in_y I ∧ (as_s A).all (fun B => decide (av_k B < 6)) = true ∧ (((as_s A).drop (pi_c e)).map av_cat).sum ≤ 8 ∧ (((as_s A).take (pi_c e)).reverse.map av_cat).sum ≤ (pi_t e).getD 0 0 ∧ ak_rc S kd e ((as_s A).take (pi_c e)).reverse = true ∧ al_le ((as_s A).take (pi_c e)).reverse (in_a I) = true ∧ ao_le (as_o A) (in_o I) = true ∧ subW (in_w I) W = true then
    (match rl_up LS (rl_w (in_w I)) (as_g A) with
    | some g => some ((in_p I).flatMap (fun P => (ai_ag ((as_s A).take (pi_c e)).reverse (in_w I) (some (as_l A, P.1.toList.map nt ++ ((as_s A).drop (pi_c e)).map (ut_f (in_w I)), P.2.1 ++ (as_o A).filter (fun q => !inW (in_w I) q.1 q.2.1), g)) P.2.2).toList.map (fun A' => (j + 1, A'))))
    | none => none)
  else none
theorem pm_call_ok {kd : Nat} (hkd : kd < 2) (hI : HI HD S h) (g2 : gst lv h (as_s A) st) (h1 : pi_c e ≤ (as_s A).length) (hkin : (as_s A).all (fun B => decide (av_k B < 6)) = true) (h3 : (((as_s A).drop (pi_c e)).map av_cat).sum ≤ 8) (h4 : (((as_s A).take (pi_c e)).reverse.map av_cat).sum ≤ (pi_t e).getD 0 0) (h5 : ak_rc S kd e ((as_s A).take (pi_c e)).reverse = true) : pm_call kd e st h = some (.inr (.inr (pi_a e, (st.take (pi_c e)).reverse, st.drop (pi_c e)))) := by
  have hk2 : ∀ B ∈ as_s A, av_k B < 6 := fun B hB => of_decide_eq_true (List.all_eq_true.mp hkin B hB)
  have gd := gst_drop (pi_c e) g2
  have gt := gst_rev (gst_take (pi_c e) g2)
  have c1 := gst_cat (List.all_eq_true.mpr (fun B hB => decide_eq_true (hk2 B (List.mem_of_mem_drop hB)))) gd
  have c2 := gst_cat (List.all_eq_true.mpr (fun B hB => decide_eq_true (hk2 B (List.mem_of_mem_take (List.mem_reverse.mp hB))))) gt
  have hcond : ¬ (st.length < pi_c e ∨ 8 < ((st.drop (pi_c e)).map fun v => v.category).sum ∨ (pi_t e).getD 0 0 < (pm_sl (st.take (pi_c e)).reverse).length) := by
    rw [pm_sl_cat, c1, c2, gst_len g2]
    omega
  unfold pm_call
  rw [if_neg hcond]
  have hkd2 : kd = 0 ∨ kd = 1 := by omega
  rcases hkd2 with rfl | rfl
  · rfl
  · unfold ak_rc at h5
    simp only at h5 ⊢
    split at h5
    · rename_i B Bs hB
      rw [hB] at gt
      obtain ⟨v, as, e9, gv9, -⟩ := gst_c gt
      rw [e9]
      simp only [Bool.or_eq_true, Bool.and_eq_true, beq_iff_eq] at h5
      rcases h5 with ⟨k2, k3⟩ | ⟨k2, k3, k4⟩
      · obtain ⟨p, hp, rfl⟩ := gv_k2 k2 gv9
        have := List.all_eq_true.mp k3 p hp
        unfold ai_rc at this
        simp only [hI.1]
        split at this
        · rename_i t n hs
          rw [hs]
          simp only
          rw [if_pos (beq_iff_eq.mp this)]
        · cases this
      · obtain ⟨p, hp, rfl⟩ := gv_k3 k2 gv9
        have := of_decide_eq_true (List.all_eq_true.mp k4 p hp)
        simp only
        rw [if_pos ⟨k3, this⟩]
    · cases h5
theorem ak_call_ok {I : Inst} {kd : Nat} (hkd : kd < 2) (hI9 : iv T HD S I) (hx : pm_x none e j lv st h = pm_call kd e st h) (g : gs A lv st h) (hI : HI HD S h) (hr : gr LS lv h (as_g A) G) (hk : ak_call S W LS I kd e A j = some R) :
    ∃ (v : Option Value) (h' : PmH) (A' : AS), pm_x none e j lv st h = some (.inr (.inr (pi_a e, (st.take (pi_c e)).reverse, st.drop (pi_c e)))) ∧ Ev T (pi_a e) (st.take (pi_c e)).reverse h v h' ∧ (j + 1, A') ∈ R ∧ gs A' lv (v.toList ++ st.drop (pi_c e)) h' ∧ HI HD S h' ∧ gr LS lv h' (as_g A') G ∧ fram W h h' := by
  unfold ak_call at hk
  split at hk
  · rename_i hq
    obtain ⟨q1, q2, q3, q4, q5, q6, q7, q8, q9⟩ := hq
    split at hk
    · rename_i g' hg'
      cases hk
      have gt := gst_rev (gst_take (pi_c e) g.2.1)
      have ga := gst_nt gt
      obtain ⟨v, h', e1, ⟨P, P1, P2, P3, P4⟩, e3, e4⟩ := hI9 (st.take (pi_c e)).reverse h (fun lv' h' => gst_le (al_le_nt q7) (ga lv' h')) (ao_le_ok q8 g.2.2) hI
      have hag : ∀ p s, inW (in_w I) p s = false → ph_i h' p s = ph_i h p s := fun p s hn => (e4 p s hn).1
      have hwr : ai_wr LS A (in_w I) P.2.1 (rl_w (in_w I)) ((as_s A).drop (pi_c e)) (j + 1) = some [(j + 1, (as_l A, ((as_s A).drop (pi_c e)).map (ut_f (in_w I)), P.2.1 ++ (as_o A).filter (fun q => !inW (in_w I) q.1 q.2.1), g'))] := by
        unfold ai_wr
        rw [hg']
      obtain ⟨A', m1, m2, m3⟩ := ai_wg g.1 (gst_drop (pi_c e) g.2.1) g.2.2 hr hwr hag P3 (rl_w_ok hag)
      rw [List.mem_singleton] at m1
      cases m1
      have m5 : gst lv h' (((as_s A).drop (pi_c e)).map (ut_f (in_w I))) (st.drop (pi_c e)) := m2.2.1
      have m6 : gst lv h' (P.1.toList.map nt ++ ((as_s A).drop (pi_c e)).map (ut_f (in_w I))) (v.toList ++ st.drop (pi_c e)) := by
        unfold pv at P2
        split at P2
        · rename_i hP
          subst P2
          rw [hP]
          exact m5
        · rename_i B hP
          obtain ⟨w, rfl, hw⟩ := P2
          rw [hP]
          exact ⟨hw lv h', m5⟩
      have m7 : gs (as_l A, P.1.toList.map nt ++ ((as_s A).drop (pi_c e)).map (ut_f (in_w I)), P.2.1 ++ (as_o A).filter (fun q => !inW (in_w I) q.1 q.2.1), g') lv (v.toList ++ st.drop (pi_c e)) h' := ⟨m2.1, m6, m2.2.2⟩
      obtain ⟨A9, a1, a2, a3⟩ := ai_ag_ok gt hag _ P.2.2 _ P4 m7
      refine ⟨v, h', A9, ?_, ?_, List.mem_flatMap.mpr ⟨P, P1, ?_⟩, a2, e3, by rw [a3]; exact m3, fram.up q9 e4⟩
      · rw [hx]
        exact pm_call_ok hkd hI g.2.1 q1 q3 q4 q5 q6
      · rw [q2]
        exact e1
      · rw [a1]
        exact List.mem_singleton.mpr rfl
    · cases hk
  · cases hk
def ak_ret (e : PmI) (A : AS) (ps : List APo) : Bool := match pi_i e with
  | .ireturn => (match as_s A with
    | [X] => av_k X == 0 && ((pi_d e == 0 || (pi_d e == 1 && (decide (0 ≤ av_lo X) && decide (av_hi X ≤ 1)))) && ps.any (fun P => (match P.1 with
      | some B => av_le (nt X) (nt B)
      | none => false) && (ao_le (as_o A) P.2.1 && P.2.2.isEmpty)))
    | _ => false)
  | .lreturn => (match as_s A with
    | [X] => av_k X == 1 && ps.any (fun P => (match P.1 with
      | some B => av_le (nt X) (nt B)
      | none => false) && (ao_le (as_o A) P.2.1 && P.2.2.isEmpty))
    | _ => false)
  | .return_ => (match as_s A with
    | [] => ps.any (fun P => P.1.isNone && (ao_le (as_o A) P.2.1 && P.2.2.isEmpty))
    | _ => false)
  | _ => false
theorem ak_ret_ok {ps : List APo} (g : gs A lv st h) (hk : ak_ret e A ps = true) : ∃ v, pm_x none e j lv st h = some (.inr (.inl v)) ∧ ∃ P ∈ ps, pv P.1 v ∧ go_ P.2.1 h ∧ P.2.2 = [] := by
  unfold ak_ret at hk
  split at hk
  · rename_i hi
    split at hk
    · rename_i X hs
      have g2 := g.2.1
      rw [hs] at g2
      obtain ⟨v1, st1, rfl, h1, g3⟩ := gst_c g2
      simp only [Bool.and_eq_true, Bool.or_eq_true, beq_iff_eq, decide_eq_true_eq] at hk
      obtain ⟨k1, k2, k3⟩ := hk
      obtain ⟨x, rfl, x1, x2, -⟩ := gv_k0 k1 h1
      have : st1 = [] := by
        cases st1 with
        | nil => rfl
        | cons _ _ => exact g3.elim
      subst this
      obtain ⟨P, P1, P2⟩ := List.any_eq_true.mp k3
      simp only [Bool.and_eq_true] at P2
      refine ⟨some (.int x), ?_, P, P1, ?_, ao_le_ok P2.2.1 g.2.2, List.isEmpty_iff.mp P2.2.2⟩
      · unfold pm_x
        rw [hi]
        simp only [pm_ret]
        rcases k2 with z | ⟨z, z1, z2⟩
        · rw [z]
          rfl
        · rw [z]
          simp only
          have h01 : x = 0 ∨ x = 1 := by
            have : x.toInt = 0 ∨ x.toInt = 1 := by omega
            rcases this with y | y
            · exact Or.inl (Int32.toInt_inj.mp y)
            · exact Or.inr (Int32.toInt_inj.mp y)
          rw [if_pos h01]
      · have P3 := P2.1
        unfold pv
        split at P3
        · rename_i B hB
          rw [hB]
          exact ⟨_, rfl, fun lv' h' => av_le_ok P3 (gv_nt h1 lv' h')⟩
        · cases P3
    · cases hk
  · rename_i hi
    split at hk
    · rename_i X hs
      have g2 := g.2.1
      rw [hs] at g2
      obtain ⟨v1, st1, rfl, h1, g3⟩ := gst_c g2
      simp only [Bool.and_eq_true, beq_iff_eq] at hk
      obtain ⟨k1, k3⟩ := hk
      obtain ⟨x, rfl⟩ := gv_k1 k1 h1
      have : st1 = [] := by
        cases st1 with
        | nil => rfl
        | cons _ _ => exact g3.elim
      subst this
      obtain ⟨P, P1, P2⟩ := List.any_eq_true.mp k3
      simp only [Bool.and_eq_true] at P2
      refine ⟨some (.long x), ?_, P, P1, ?_, ao_le_ok P2.2.1 g.2.2, List.isEmpty_iff.mp P2.2.2⟩
      · unfold pm_x
        rw [hi]
        rfl
      · have P3 := P2.1
        unfold pv
        split at P3
        · rename_i B hB
          rw [hB]
          exact ⟨_, rfl, fun lv' h' => av_le_ok P3 (gv_nt h1 lv' h')⟩
        · cases P3
    · cases hk
  · rename_i hi
    split at hk
    · rename_i hs
      have g2 := g.2.1
      rw [hs] at g2
      have : st = [] := by
        cases st with
        | nil => rfl
        | cons _ _ => exact g2.elim
      subst this
      obtain ⟨P, P1, P2⟩ := List.any_eq_true.mp hk
      simp only [Bool.and_eq_true] at P2
      refine ⟨none, ?_, P, P1, ?_, ao_le_ok P2.2.1 g.2.2, List.isEmpty_iff.mp P2.2.2⟩
      · unfold pm_x
        rw [hi]
        rfl
      · unfold pv
        rw [Option.isNone_iff_eq_none.mp P2.1]
    · cases hk
  · cases hk
/-- annotations: for each instruction the states that may stand there, its rank, the summaries that a call there may go by -/
abbrev AnT : Type := List (List AS × List KE × List Nat)
def ck_nx (An : AnT) (K : List KE) (q : Nat × AS) : Bool := match An[q.1]? with
  | some (Bs, K', _) => Bs.any (fun B => as_le q.2 B) && (K'.length == K.length && kl K K' (as_g q.2))
  | none => false
def ck_kd (e : PmI) : Nat := match pi_i e with
  | .invokestatic _ => if pi_d e = 7 then 2 else 0
  | .invokevirtual _ => 1
  | _ => 2
/-- a call's receiver, place by place -/
def ck_rs (e : PmI) (A : AS) : List AS := match pi_i e, (as_s A)[pi_c e - 1]? with
  | .invokevirtual _, some B => if av_k B = 2 ∧ 0 < pi_c e ∧ (av_ps B).length < 3 then (av_ps B).map (fun p => (as_l A, (as_s A).set (pi_c e - 1) (av_r [p]), as_o A, as_g A)) else [A]
  | _, _ => [A]
theorem gst_set : ∀ {As : List AV} {st : List Value} {i : Nat} {B : AV} {v : Value}, gst lv h As st → st[i]? = some v → gv lv h B v → gst lv h (As.set i B) st
  | _ :: As, _ :: st, 0, B, v, g, hi, gB => by
    cases hi
    exact ⟨gB, g.2⟩
  | _ :: As, _ :: st, i + 1, B, v, g, hi, gB => ⟨g.1, gst_set (i := i) g.2 hi gB⟩
  | [], [], _, _, _, _, hi, _ => by simp at hi
  | [], _ :: _, _, _, _, g, _, _ => g.elim
  | _ :: _, [], _, _, _, g, _, _ => g.elim
theorem ck_rs_ok (g : gs A lv st h) : ∃ A1 ∈ ck_rs e A, gs A1 lv st h ∧ as_l A1 = as_l A := by
  unfold ck_rs
  split
  · rename_i B hB
    split
    · rename_i hq
      obtain ⟨v, v1, v2⟩ := gst_at g.2.1 hB
      obtain ⟨p, hp, rfl⟩ := gv_k2 hq.1 v2
      exact ⟨_, List.mem_map.mpr ⟨p, hp, rfl⟩, ⟨g.1, gst_set g.2.1 v1 ⟨p, List.mem_singleton.mpr rfl, rfl⟩, g.2.2⟩, rfl⟩
    · exact ⟨A, List.mem_singleton.mpr rfl, g, rfl⟩
  · exact ⟨A, List.mem_singleton.mpr rfl, g, rfl⟩
def ck_st (HD : HDt) (S : List (Nat × Nat)) (W : WSt) (ps : List APo) (IT : List Inst) (An : AnT) (e : PmI) (j : Nat) (K : List KE) (cs : List Nat) (A : AS) : Bool :=
  (kvars K).all (kv_in A) && (match ck_kd e with
    | 2 => ak_ret e A ps || (match ak HD S W (LS0 K) e (as_l A, as_s A, as_o A, List.replicate (kvars K).length 0) j with
      | some R => R.all (ck_nx An K)
      | none => false)
    | kd => (ck_rs e A).all (fun A1 => cs.any (fun c => match IT[c]? with
      | some I => (match ak_call S W (LS0 K) I kd e (as_l A1, as_s A1, as_o A1, List.replicate (kvars K).length 0) j with
        | some R => R.all (ck_nx An K)
        | none => false)
      | none => false)))
def ck_pt (HD : HDt) (S : List (Nat × Nat)) (W : WSt) (ps : List APo) (IT : List Inst) (An : AnT) : List PmI → List (List AS × List KE × List Nat) → Nat → Bool
  | e :: es, q :: qs, j => kbd q.2.1 && (q.1.all (ck_st HD S W ps IT An e j q.2.1 q.2.2) && ck_pt HD S W ps IT An es qs (j + 1))
  | [], [], _ => true
  | _, _, _ => false
def ai_en (n : Nat) (as : List AV) : List AV := as.flatMap (fun B => if av_k B = 1 then [av_l, av_u] else [nt B]) ++ List.replicate (n - (as.map av_cat).sum) av_u
end AT
