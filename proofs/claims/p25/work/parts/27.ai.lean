section AL
variable {HD : HDt} {S : List (Nat × Nat)} {LS : List LVr} {W : WSt} {G : List Int} {e : PmI} {j : Nat} {lv : PmL} {st : List Value} {h : PmH} {R : List (Nat × AS)} {A : AS}
/-- a local that is no int is written: no loop's variable may be there -/
def rl_no (i n : Nat) (L : LVr) (r : Nat) : Option Nat := if L.1 = 0 ∧ i ≤ L.2.1 ∧ L.2.1 < i + n then none else some r
theorem rl_no_ok {i n : Nat} {lv' : PmL} (h2 : ∀ (a : Nat) (y : Int32), ¬ (i ≤ a ∧ a < i + n) → lv[a]? = some (some (.int y)) → lv'[a]? = some (some (.int y))) :
    ∀ (L : LVr) (r r' : Nat) (g : Int) (z : Int32), rl_no i n L r = some r' → lv_now L lv h z → rel_ok L.2.2.2 r g z.toInt → ∃ z' : Int32, lv_now L lv' h z' ∧ rel_ok L.2.2.2 r' g z'.toInt := by
  intro L r r' g z hf hz hrel
  obtain ⟨k, a, b, up⟩ := L
  unfold rl_no at hf
  split at hf
  · cases hf
  · rename_i hk
    cases hf
    refine ⟨z, ?_, hrel⟩
    rcases k with _ | k
    · exact h2 a z (fun q => hk ⟨rfl, q.1, q.2⟩) hz
    · exact hz
def ak_lst (LS : List LVr) (i : Nat) (A : AS) (j : Nat) : Option (List (Nat × AS)) := match as_s A with
  | B :: st => if av_k B = 1 ∧ i + 1 < (as_l A).length then (match rl_up LS (rl_no i 2) (as_g A) with
    | some g => some [(j + 1, (ai_st2 (as_l A) i, (st.map (ut_l i)).map (ut_l (i + 1)), as_o A, g))]
    | none => none) else none
  | _ => none
theorem ak_lst_ok {i : Nat} (hx : ∀ st, pm_x none e j lv st h = pm_lst i j lv st h) (g : gs A lv st h) (hI : HI HD S h) (hr : gr LS lv h (as_g A) G) (hk : ak_lst LS i A j = some R) : ak_post HD S LS W G e j lv st h R := by
  unfold ak_lst at hk
  split at hk
  · rename_i B As hs
    split at hk
    · rename_i hq
      split at hk
      · rename_i g' hg'
        cases hk
        have g2 := g.2.1
        rw [hs] at g2
        obtain ⟨v1, st1, rfl, h1, g3⟩ := gst_c g2
        obtain ⟨x, rfl⟩ := gv_k1 hq.1 h1
        have hne : ∀ (a : Nat) (y : Int32), ¬ (i ≤ a ∧ a < i + 2) → lv[a]? = some (some (.int y)) → (pm_st2 lv i (.long x))[a]? = some (some (.int y)) := fun a y ha hy => st2_ne (by omega) (by omega) hy
        refine ⟨j + 1, pm_st2 lv i (.long x), st1, h, _, by rw [hx]; rfl, List.mem_singleton.mpr rfl, ⟨gl_st2 g.1 hq.2, ?_, g.2.2⟩, hI, rl_up_ok (rl_no_ok hne) hg' hr, fram.rf W h⟩
        rw [List.map_map]
        refine gst_map (fun B v gB => ?_) _ _ g3
        show gv _ _ (ut_l (i + 1) (ut_l i B)) v
        rcases ut_l_is i B with ⟨e1, e2⟩ | e1
        · rw [e1]
          rcases ut_l_is (i + 1) B with ⟨e3, e4⟩ | e3
          · rw [e3]
            refine gv_keep (Or.inl rfl) (fun _ ht x9 hx9 => hne _ x9 (fun z => ?_) hx9) (fun _ _ => rfl) gB
            by_cases hz : av_a B = i
            · exact e2 ⟨ht, hz⟩
            · exact e4 ⟨ht, by omega⟩
          · rw [e3]
            exact gv_nt gB _ _
        · rw [e1]
          have : ut_l (i + 1) (nt B) = nt B := by
            rcases ut_l_is (i + 1) (nt B) with ⟨e3, -⟩ | e3 <;> rw [e3]
            rfl
          rw [this]
          exact gv_nt gB _ _
      · cases hk
    · cases hk
  · cases hk
def ak_ast (LS : List LVr) (i : Nat) (A : AS) (j : Nat) : Option (List (Nat × AS)) := match as_s A with
  | B :: st => if av_k B = 2 ∧ i < (as_l A).length then (match rl_up LS (rl_no i 1) (as_g A) with
    | some g => some [(j + 1, (ai_st1 (as_l A) i B, st.map (ut_l i), as_o A, g))]
    | none => none) else none
  | _ => none
theorem ak_ast_ok {i : Nat} (hx : ∀ st, pm_x none e j lv st h = pm_ast i j lv st h) (g : gs A lv st h) (hI : HI HD S h) (hr : gr LS lv h (as_g A) G) (hk : ak_ast LS i A j = some R) : ak_post HD S LS W G e j lv st h R := by
  unfold ak_ast at hk
  split at hk
  · rename_i B As hs
    split at hk
    · rename_i hq
      split at hk
      · rename_i g' hg'
        cases hk
        have g2 := g.2.1
        rw [hs] at g2
        obtain ⟨v1, st1, rfl, h1, g3⟩ := gst_c g2
        obtain ⟨x, -, rfl⟩ := gv_k2 hq.1 h1
        have hne : ∀ (a : Nat) (y : Int32), a ≠ i → lv[a]? = some (some (.int y)) → (pm_st1 lv i (.ref x))[a]? = some (some (.int y)) := fun a y ha hy => st1_ne ha hy
        exact ⟨j + 1, pm_st1 lv i (.ref x), st1, h, _, by rw [hx]; rfl, List.mem_singleton.mpr rfl, ⟨gl_st1 g.1 hq.2 (fun _ _ => gv_nt h1 _ _), gst_map (ut_l_gv hne) _ _ g3, g.2.2⟩, hI, rl_up_ok (rl_no_ok (fun a y ha hy => hne a y (fun z => ha ⟨by omega, by omega⟩) hy)) hg' hr, fram.rf W h⟩
      · cases hk
    · cases hk
  · cases hk
def ak_dup (A : AS) (j : Nat) : Option (List (Nat × AS)) := match as_s A with
  | B :: st => if av_k B = 0 ∨ av_k B = 2 then ak_q A (j + 1) (B :: B :: st) else none
  | _ => none
theorem ak_dup_ok (hx : ∀ st, pm_x none e j lv st h = pm_dup j lv st h) (g : gs A lv st h) (hI : HI HD S h) (hr : gr LS lv h (as_g A) G) (hk : ak_dup A j = some R) : ak_post HD S LS W G e j lv st h R := by
  unfold ak_dup at hk
  split at hk
  · rename_i B As hs
    split at hk
    · rename_i hq
      have g2 := g.2.1
      rw [hs] at g2
      obtain ⟨v1, st1, rfl, h1, g3⟩ := gst_c g2
      rcases hq with hq | hq
      · obtain ⟨x, rfl, -⟩ := gv_k0 hq h1
        exact ak_q_ok (st' := .int x :: .int x :: st1) g hI hr hk (by rw [hx]; rfl) ⟨h1, h1, g3⟩
      · obtain ⟨x, -, rfl⟩ := gv_k2 hq h1
        exact ak_q_ok (st' := .ref x :: .ref x :: st1) g hI hr hk (by rw [hx]; rfl) ⟨h1, h1, g3⟩
    · cases hk
  · cases hk
def ak_dup2 (A : AS) (j : Nat) : Option (List (Nat × AS)) := match as_s A with
  | X :: Y :: st => if av_k X = 0 ∧ av_k Y = 2 then ak_q A (j + 1) (X :: Y :: X :: Y :: st) else none
  | _ => none
theorem ak_dup2_ok (hx : ∀ st, pm_x none e j lv st h = pm_dup2 j lv st h) (g : gs A lv st h) (hI : HI HD S h) (hr : gr LS lv h (as_g A) G) (hk : ak_dup2 A j = some R) : ak_post HD S LS W G e j lv st h R := by
  unfold ak_dup2 at hk
  split at hk
  · rename_i X Y As hs
    split at hk
    · rename_i hq
      have g2 := g.2.1
      rw [hs] at g2
      obtain ⟨v1, st1, rfl, h1, g3⟩ := gst_c g2
      obtain ⟨v2, st2, rfl, h2, g4⟩ := gst_c g3
      obtain ⟨x, rfl, -⟩ := gv_k0 hq.1 h1
      obtain ⟨y, -, rfl⟩ := gv_k2 hq.2 h2
      exact ak_q_ok (st' := .int x :: .ref y :: .int x :: .ref y :: st2) g hI hr hk (by rw [hx]; rfl) ⟨h1, h2, h1, h2, g4⟩
    · cases hk
  · cases hk
def ak_pop (A : AS) (j : Nat) : Option (List (Nat × AS)) := match as_s A with
  | B :: st => if av_k B = 0 then ak_q A (j + 1) st else none
  | _ => none
theorem ak_pop_ok (hx : ∀ st, pm_x none e j lv st h = pm_pop j lv st h) (g : gs A lv st h) (hI : HI HD S h) (hr : gr LS lv h (as_g A) G) (hk : ak_pop A j = some R) : ak_post HD S LS W G e j lv st h R := by
  unfold ak_pop at hk
  split at hk
  · rename_i B As hs
    split at hk
    · rename_i hq
      have g2 := g.2.1
      rw [hs] at g2
      obtain ⟨v1, st1, rfl, h1, g3⟩ := gst_c g2
      obtain ⟨x, rfl, -⟩ := gv_k0 hq h1
      exact ak_q_ok g hI hr hk (by rw [hx]; rfl) g3
    · cases hk
  · cases hk
/-- what a comparison tells of its two sides -/
def ai_rf (c : Jvm.ClassFile.Cond) (X Y : AV) : (Int × Int) × (Int × Int) := match c with
  | .eq => ((max (av_lo X) (av_lo Y), min (av_hi X) (av_hi Y)), (max (av_lo X) (av_lo Y), min (av_hi X) (av_hi Y)))
  | .ne => ((if av_lo Y = av_hi Y ∧ av_lo X = av_lo Y then av_lo X + 1 else av_lo X, if av_lo Y = av_hi Y ∧ av_hi X = av_lo Y then av_hi X - 1 else av_hi X), (av_lo Y, av_hi Y))
  | .lt => ((av_lo X, min (av_hi X) (av_hi Y - 1)), (max (av_lo Y) (av_lo X + 1), av_hi Y))
  | .ge => ((max (av_lo X) (av_lo Y), av_hi X), (av_lo Y, min (av_hi Y) (av_hi X)))
  | .gt => ((max (av_lo X) (av_lo Y + 1), av_hi X), (av_lo Y, min (av_hi Y) (av_hi X - 1)))
  | .le => ((av_lo X, min (av_hi X) (av_hi Y)), (max (av_lo Y) (av_lo X), av_hi Y))
def ai_ng : Jvm.ClassFile.Cond → Jvm.ClassFile.Cond
  | .eq => .ne
  | .ne => .eq
  | .lt => .ge
  | .ge => .lt
  | .gt => .le
  | .le => .gt
theorem ai_ng_ok {c : Jvm.ClassFile.Cond} {x y : Int32} (hc : ¬ pm_cp c x y) : pm_cp (ai_ng c) x y := by
  cases c
  · exact hc
  · exact Classical.not_not.mp hc
  · exact Int32.not_lt.mp hc
  · exact Int32.not_le.mp hc
  · exact Int32.not_lt.mp hc
  · exact Int32.not_le.mp hc
theorem ai_rf_ok {c : Jvm.ClassFile.Cond} {X Y : AV} {x y : Int32} (hX : av_lo X ≤ x.toInt ∧ x.toInt ≤ av_hi X) (hY : av_lo Y ≤ y.toInt ∧ y.toInt ≤ av_hi Y) (hc : pm_cp c x y) :
    ((ai_rf c X Y).1.1 ≤ x.toInt ∧ x.toInt ≤ (ai_rf c X Y).1.2) ∧ ((ai_rf c X Y).2.1 ≤ y.toInt ∧ y.toInt ≤ (ai_rf c X Y).2.2) := by
  cases c
  · have hc : x = y := hc
    subst hc
    simp only [ai_rf]
    omega
  · have hc : ¬ x = y := hc
    have hc : x.toInt ≠ y.toInt := fun z => hc (Int32.toInt_inj.mp z)
    simp only [ai_rf]
    refine ⟨⟨?_, ?_⟩, hY⟩
    · split <;> omega
    · split <;> omega
  · have hc : x < y := hc
    rw [Int32.lt_iff_toInt_lt] at hc
    simp only [ai_rf]
    omega
  · have hc : y ≤ x := hc
    rw [Int32.le_iff_toInt_le] at hc
    simp only [ai_rf]
    omega
  · have hc : y < x := hc
    rw [Int32.lt_iff_toInt_lt] at hc
    simp only [ai_rf]
    omega
  · have hc : x ≤ y := hc
    rw [Int32.le_iff_toInt_le] at hc
    simp only [ai_rf]
    omega
/-- a better interval goes to where the value came from -/
def ai_ap (A : AS) (X : AV) (q : Int × Int) : Option AS := if q.2 < q.1 then none else if av_t X = 1 ∧ av_a X < (as_l A).length then some ((as_l A).set (av_a X) (0, q.1, q.2, [], 0, 0, 0), as_s A, as_o A, as_g A) else if av_t X = 2 then some (as_l A, as_s A, (av_a X, av_b X, q.1, q.2) :: as_o A, as_g A) else some A
theorem ai_ap_ok {X : AV} {q : Int × Int} {x : Int32} (g : gs A lv st h) (ht : ai_tag lv h (av_t X) (av_a X) (av_b X) x) (hq : q.1 ≤ x.toInt ∧ x.toInt ≤ q.2) : ∃ A', ai_ap A X q = some A' ∧ gs A' lv st h ∧ as_g A' = as_g A := by
  unfold ai_ap
  rw [if_neg (by omega)]
  split
  · rename_i h1
    refine ⟨_, rfl, ⟨⟨by rw [g.1.1]; simp [as_l], fun a B hB hk => ?_⟩, g.2.1, g.2.2⟩, rfl⟩
    by_cases ha : av_a X = a
    · rw [← ha] at hB ⊢
      rw [List.getElem?_set_self h1.2] at hB
      cases hB
      rw [h1.1] at ht
      exact ⟨.int x, ht, fun _ _ => ⟨x, rfl, hq.1, hq.2, trivial⟩⟩
    · rw [List.getElem?_set_ne ha] at hB
      exact g.1.2 a B hB hk
  · split
    · rename_i h1
      refine ⟨_, rfl, ⟨g.1, g.2.1, fun z hz => ?_⟩, rfl⟩
      rcases List.mem_cons.mp hz with hz | hz
      · subst hz
        rw [h1] at ht
        have ht : ph_i h (av_a X) (av_b X) = x := ht
        show q.1 ≤ (ph_i h (av_a X) (av_b X)).toInt ∧ _
        rw [ht]
        exact hq
      · exact g.2.2 z hz
    · exact ⟨A, rfl, g, rfl⟩
def ai_br (A : AS) (c : Jvm.ClassFile.Cond) (X Y : AV) (st : List AV) (t : Nat) : List (Nat × AS) := match ai_ap (as_l A, st, as_o A, as_g A) X (ai_rf c X Y).1 with
  | none => []
  | some A1 => match ai_ap A1 Y (ai_rf c X Y).2 with
    | none => []
    | some A2 => [(t, A2)]
theorem ai_br_ok {c : Jvm.ClassFile.Cond} {X Y : AV} {As : List AV} {st' : List Value} {t : Nat} {x y : Int32} (g : gs (as_l A, As, as_o A, as_g A) lv st' h) (hX : av_lo X ≤ x.toInt ∧ x.toInt ≤ av_hi X ∧ ai_tag lv h (av_t X) (av_a X) (av_b X) x) (hY : av_lo Y ≤ y.toInt ∧ y.toInt ≤ av_hi Y ∧ ai_tag lv h (av_t Y) (av_a Y) (av_b Y) y) (hc : pm_cp c x y) :
    ∃ A', (t, A') ∈ ai_br A c X Y As t ∧ gs A' lv st' h ∧ as_g A' = as_g A := by
  obtain ⟨r1, r2⟩ := ai_rf_ok (X := X) (Y := Y) ⟨hX.1, hX.2.1⟩ ⟨hY.1, hY.2.1⟩ hc
  obtain ⟨A1, e1, g1, k1⟩ := ai_ap_ok g hX.2.2 r1
  obtain ⟨A2, e2, g2, k2⟩ := ai_ap_ok g1 hY.2.2 r2
  refine ⟨A2, ?_, g2, k2.trans k1⟩
  unfold ai_br
  rw [e1]
  simp only
  rw [e2]
  exact List.mem_singleton.mpr rfl
def ak_ic (c : Jvm.ClassFile.Cond) (a : Nat) (A : AS) (j : Nat) : Option (List (Nat × AS)) := match as_s A with
  | Y :: X :: st => if av_k X = 0 ∧ av_k Y = 0 then some (ai_br A c X Y st a ++ ai_br A (ai_ng c) X Y st (j + 1)) else none
  | _ => none
theorem ak_ic_ok {c : Jvm.ClassFile.Cond} {a : Nat} (hx : ∀ st, pm_x none e j lv st h = pm_ic c a j lv st h) (g : gs A lv st h) (hI : HI HD S h) (hr : gr LS lv h (as_g A) G) (hk : ak_ic c a A j = some R) : ak_post HD S LS W G e j lv st h R := by
  unfold ak_ic at hk
  split at hk
  · rename_i Y X As hs
    split at hk
    · rename_i hq
      cases hk
      have g2 := g.2.1
      rw [hs] at g2
      obtain ⟨v1, st1, rfl, h1, g3⟩ := gst_c g2
      obtain ⟨v2, st2, rfl, h2, g4⟩ := gst_c g3
      obtain ⟨y, rfl, y1⟩ := gv_k0 hq.2 h1
      obtain ⟨x, rfl, x1⟩ := gv_k0 hq.1 h2
      have g9 : gs (as_l A, As, as_o A, as_g A) lv st2 h := ⟨g.1, g4, g.2.2⟩
      by_cases hc : pm_cp c x y
      · obtain ⟨A', m1, m2, m3⟩ := ai_br_ok (t := a) g9 x1 y1 hc
        refine ⟨a, lv, st2, h, A', ?_, List.mem_append_left _ m1, m2, hI, by rw [m3]; exact hr, fram.rf W h⟩
        rw [hx]
        show pm_br c x y (pm_nx a lv st2 h) (pm_nx (j + 1) lv st2 h) = _
        cases c <;> first | exact if_pos hc | exact if_neg hc
      · obtain ⟨A', m1, m2, m3⟩ := ai_br_ok (t := j + 1) g9 x1 y1 (ai_ng_ok hc)
        refine ⟨j + 1, lv, st2, h, A', ?_, List.mem_append_right _ m1, m2, hI, by rw [m3]; exact hr, fram.rf W h⟩
        rw [hx]
        show pm_br c x y (pm_nx a lv st2 h) (pm_nx (j + 1) lv st2 h) = _
        cases c <;> first | exact if_neg hc | exact if_pos (Classical.not_not.mp hc)
    · cases hk
  · cases hk
def ak_if (c : Jvm.ClassFile.Cond) (a : Nat) (A : AS) (j : Nat) : Option (List (Nat × AS)) := match as_s A with
  | X :: st => if av_k X = 0 then some (ai_br A c X (av_i 0 0) st a ++ ai_br A (ai_ng c) X (av_i 0 0) st (j + 1)) else none
  | _ => none
theorem ak_if_ok {c : Jvm.ClassFile.Cond} {a : Nat} (hx : ∀ st, pm_x none e j lv st h = pm_if c a j lv st h) (g : gs A lv st h) (hI : HI HD S h) (hr : gr LS lv h (as_g A) G) (hk : ak_if c a A j = some R) : ak_post HD S LS W G e j lv st h R := by
  unfold ak_if at hk
  split at hk
  · rename_i X As hs
    split at hk
    · rename_i hq
      cases hk
      have g2 := g.2.1
      rw [hs] at g2
      obtain ⟨v2, st2, rfl, h2, g4⟩ := gst_c g2
      obtain ⟨x, rfl, x1⟩ := gv_k0 hq h2
      have y1 : av_lo (av_i 0 0) ≤ (0 : Int32).toInt ∧ (0 : Int32).toInt ≤ av_hi (av_i 0 0) ∧ ai_tag lv h (av_t (av_i 0 0)) (av_a (av_i 0 0)) (av_b (av_i 0 0)) 0 := ⟨by decide, by decide, trivial⟩
      have g9 : gs (as_l A, As, as_o A, as_g A) lv st2 h := ⟨g.1, g4, g.2.2⟩
      by_cases hc : pm_cp c x 0
      · obtain ⟨A', m1, m2, m3⟩ := ai_br_ok (t := a) g9 x1 y1 hc
        refine ⟨a, lv, st2, h, A', ?_, List.mem_append_left _ m1, m2, hI, by rw [m3]; exact hr, fram.rf W h⟩
        rw [hx]
        show pm_br c x 0 (pm_nx a lv st2 h) (pm_nx (j + 1) lv st2 h) = _
        cases c <;> first | exact if_pos hc | exact if_neg hc
      · obtain ⟨A', m1, m2, m3⟩ := ai_br_ok (t := j + 1) g9 x1 y1 (ai_ng_ok hc)
        refine ⟨j + 1, lv, st2, h, A', ?_, List.mem_append_right _ m1, m2, hI, by rw [m3]; exact hr, fram.rf W h⟩
        rw [hx]
        show pm_br c x 0 (pm_nx a lv st2 h) (pm_nx (j + 1) lv st2 h) = _
        cases c <;> first | exact if_neg hc | exact if_pos (Classical.not_not.mp hc)
    · cases hk
  · cases hk
end AL
