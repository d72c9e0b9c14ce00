def ak_post (HD : HDt) (S : List (Nat × Nat)) (LS : List LVr) (W : WSt) (G : List Int) (e : PmI) (j : Nat) (lv : PmL) (st : List Value) (h : PmH) (R : List (Nat × AS)) : Prop :=
  ∃ (j' : Nat) (lv' : PmL) (st' : List Value) (h' : PmH) (A' : AS), pm_x none e j lv st h = some (.inl (j', lv', st', h')) ∧ (j', A') ∈ R ∧ gs A' lv' st' h' ∧ HI HD S h' ∧ gr LS lv' h' (as_g A') G ∧ fram W h h'
def ak_p (A : AS) (j : Nat) (B : AV) (st : List AV) : Option (List (Nat × AS)) := some [(j, (as_l A, B :: st, as_o A, as_g A))]
def ak_q (A : AS) (j : Nat) (st : List AV) : Option (List (Nat × AS)) := some [(j, (as_l A, st, as_o A, as_g A))]
section AK
variable {HD : HDt} {S : List (Nat × Nat)} {LS : List LVr} {W : WSt} {G : List Int} {e : PmI} {j : Nat} {lv : PmL} {st : List Value} {h : PmH} {R : List (Nat × AS)} {A : AS}
theorem ak_p_ok {B : AV} {v : Value} {As : List AV} {st' : List Value} {j' : Nat} (g : gs A lv st h) (hI : HI HD S h) (hr : gr LS lv h (as_g A) G) (hk : ak_p A j' B As = some R) (hx : pm_x none e j lv st h = some (.inl (j', lv, v :: st', h))) (hB : gv lv h B v) (hst : gst lv h As st') : ak_post HD S LS W G e j lv st h R := by
  cases hk
  exact ⟨j', lv, v :: st', h, _, hx, List.mem_singleton.mpr rfl, ⟨g.1, ⟨hB, hst⟩, g.2.2⟩, hI, hr, fram.rf W h⟩
theorem ak_q_ok {As : List AV} {st' : List Value} {j' : Nat} (g : gs A lv st h) (hI : HI HD S h) (hr : gr LS lv h (as_g A) G) (hk : ak_q A j' As = some R) (hx : pm_x none e j lv st h = some (.inl (j', lv, st', h))) (hst : gst lv h As st') : ak_post HD S LS W G e j lv st h R := by
  cases hk
  exact ⟨j', lv, st', h, _, hx, List.mem_singleton.mpr rfl, ⟨g.1, hst, g.2.2⟩, hI, hr, fram.rf W h⟩
theorem gst_c {B : AV} {As : List AV} (g : gst lv h (B :: As) st) : ∃ v st', st = v :: st' ∧ gv lv h B v ∧ gst lv h As st' := by
  cases st with
  | nil => exact g.elim
  | cons v st' => exact ⟨v, st', rfl, g.1, g.2⟩
def ak_ii (f : AV → AV → AV) (A : AS) (j : Nat) : Option (List (Nat × AS)) := match as_s A with
  | Y :: X :: st => if av_k X = 0 ∧ av_k Y = 0 then ak_p A (j + 1) (f X Y) st else none
  | _ => none
theorem ak_ii_ok {f : AV → AV → AV} {F : Int32 → Int32 → Int32} (hf : ∀ (X Y : AV) (x y : Int32), (av_lo X ≤ x.toInt ∧ x.toInt ≤ av_hi X ∧ ai_tag lv h (av_t X) (av_a X) (av_b X) x) → (av_lo Y ≤ y.toInt ∧ y.toInt ≤ av_hi Y) → gv lv h (f X Y) (.int (F x y))) (hx : ∀ st, pm_x none e j lv st h = pm_ii F j lv st h)
    (g : gs A lv st h) (hI : HI HD S h) (hr : gr LS lv h (as_g A) G) (hk : ak_ii f A j = some R) : ak_post HD S LS W G e j lv st h R := by
  unfold ak_ii at hk
  split at hk
  · rename_i Y X As hs
    split at hk
    · rename_i hq
      have g2 := g.2.1
      rw [hs] at g2
      obtain ⟨v1, st1, rfl, h1, g3⟩ := gst_c g2
      obtain ⟨v2, st2, rfl, h2, g4⟩ := gst_c g3
      obtain ⟨y, rfl, y1, y2, -⟩ := gv_k0 hq.2 h1
      obtain ⟨x, rfl, x1, x2, x3⟩ := gv_k0 hq.1 h2
      exact ak_p_ok g hI hr hk (by rw [hx]; rfl) (hf X Y x y ⟨x1, x2, x3⟩ ⟨y1, y2⟩) g4
    · cases hk
  · cases hk
def ak_iz (f : AV → AV → AV) (A : AS) (j : Nat) : Option (List (Nat × AS)) := match as_s A with
  | Y :: X :: st => if av_k X = 0 ∧ av_k Y = 0 ∧ 0 < av_lo Y then ak_p A (j + 1) (f X Y) st else none
  | _ => none
theorem ak_iz_ok {f : AV → AV → AV} {F : Int32 → Int32 → Int32} (hf : ∀ (X Y : AV) (x y : Int32), (av_lo X ≤ x.toInt ∧ x.toInt ≤ av_hi X ∧ ai_tag lv h (av_t X) (av_a X) (av_b X) x) → (av_lo Y ≤ y.toInt ∧ y.toInt ≤ av_hi Y) → gv lv h (f X Y) (.int (F x y))) (hx : ∀ st, pm_x none e j lv st h = pm_iz F j lv st h)
    (g : gs A lv st h) (hI : HI HD S h) (hr : gr LS lv h (as_g A) G) (hk : ak_iz f A j = some R) : ak_post HD S LS W G e j lv st h R := by
  unfold ak_iz at hk
  split at hk
  · rename_i Y X As hs
    split at hk
    · rename_i hq
      have g2 := g.2.1
      rw [hs] at g2
      obtain ⟨v1, st1, rfl, h1, g3⟩ := gst_c g2
      obtain ⟨v2, st2, rfl, h2, g4⟩ := gst_c g3
      obtain ⟨y, rfl, y1, y2, -⟩ := gv_k0 hq.2.1 h1
      obtain ⟨x, rfl, x1, x2, x3⟩ := gv_k0 hq.1 h2
      have hy : ¬ y = 0 := by
        intro z
        rw [z] at y1
        have : (0 : Int32).toInt = 0 := rfl
        omega
      exact ak_p_ok g hI hr hk (by rw [hx]; simp only [pm_iz]; rw [if_neg hy]; rfl) (hf X Y x y ⟨x1, x2, x3⟩ ⟨y1, y2⟩) g4
    · cases hk
  · cases hk
def ak_i1 (f : AV → AV) (A : AS) (j : Nat) : Option (List (Nat × AS)) := match as_s A with
  | X :: st => if av_k X = 0 then ak_p A (j + 1) (f X) st else none
  | _ => none
theorem ak_i1_ok {f : AV → AV} {F : Int32 → Value} (hf : ∀ (X : AV) (x : Int32), (av_lo X ≤ x.toInt ∧ x.toInt ≤ av_hi X) → gv lv h (f X) (F x)) (hx : ∀ st, pm_x none e j lv st h = pm_i1 F j lv st h)
    (g : gs A lv st h) (hI : HI HD S h) (hr : gr LS lv h (as_g A) G) (hk : ak_i1 f A j = some R) : ak_post HD S LS W G e j lv st h R := by
  unfold ak_i1 at hk
  split at hk
  · rename_i X As hs
    split at hk
    · rename_i hq
      have g2 := g.2.1
      rw [hs] at g2
      obtain ⟨v1, st1, rfl, h1, g3⟩ := gst_c g2
      obtain ⟨x, rfl, x1, x2, -⟩ := gv_k0 hq h1
      exact ak_p_ok g hI hr hk (by rw [hx]; rfl) (hf X x ⟨x1, x2⟩) g3
    · cases hk
  · cases hk
def ak_l1 (B : AV) (A : AS) (j : Nat) : Option (List (Nat × AS)) := match as_s A with
  | X :: st => if av_k X = 1 then ak_p A (j + 1) B st else none
  | _ => none
theorem ak_l1_ok {B : AV} {F : Int64 → Value} (hf : ∀ x : Int64, gv lv h B (F x)) (hx : ∀ st, pm_x none e j lv st h = pm_l1 F j lv st h)
    (g : gs A lv st h) (hI : HI HD S h) (hr : gr LS lv h (as_g A) G) (hk : ak_l1 B A j = some R) : ak_post HD S LS W G e j lv st h R := by
  unfold ak_l1 at hk
  split at hk
  · rename_i X As hs
    split at hk
    · rename_i hq
      have g2 := g.2.1
      rw [hs] at g2
      obtain ⟨v1, st1, rfl, h1, g3⟩ := gst_c g2
      obtain ⟨x, rfl⟩ := gv_k1 hq h1
      exact ak_p_ok g hI hr hk (by rw [hx]; rfl) (hf x) g3
    · cases hk
  · cases hk
def ak_ll (B : AV) (A : AS) (j : Nat) : Option (List (Nat × AS)) := match as_s A with
  | Y :: X :: st => if av_k X = 1 ∧ av_k Y = 1 then ak_p A (j + 1) B st else none
  | _ => none
theorem ak_ll_ok {B : AV} {F : Int64 → Int64 → Value} (hf : ∀ x y : Int64, gv lv h B (F x y)) (hx : ∀ st, pm_x none e j lv st h = pm_ll F j lv st h)
    (g : gs A lv st h) (hI : HI HD S h) (hr : gr LS lv h (as_g A) G) (hk : ak_ll B A j = some R) : ak_post HD S LS W G e j lv st h R := by
  unfold ak_ll at hk
  split at hk
  · rename_i Y X As hs
    split at hk
    · rename_i hq
      have g2 := g.2.1
      rw [hs] at g2
      obtain ⟨v1, st1, rfl, h1, g3⟩ := gst_c g2
      obtain ⟨v2, st2, rfl, h2, g4⟩ := gst_c g3
      obtain ⟨y, rfl⟩ := gv_k1 hq.2 h1
      obtain ⟨x, rfl⟩ := gv_k1 hq.1 h2
      exact ak_p_ok g hI hr hk (by rw [hx]; rfl) (hf x y) g4
    · cases hk
  · cases hk
def ak_li (A : AS) (j : Nat) : Option (List (Nat × AS)) := match as_s A with
  | Y :: X :: st => if av_k X = 1 ∧ av_k Y = 0 then ak_p A (j + 1) av_l st else none
  | _ => none
theorem ak_li_ok {F : Int64 → Int32 → Int64} (hx : ∀ st, pm_x none e j lv st h = pm_li F j lv st h)
    (g : gs A lv st h) (hI : HI HD S h) (hr : gr LS lv h (as_g A) G) (hk : ak_li A j = some R) : ak_post HD S LS W G e j lv st h R := by
  unfold ak_li at hk
  split at hk
  · rename_i Y X As hs
    split at hk
    · rename_i hq
      have g2 := g.2.1
      rw [hs] at g2
      obtain ⟨v1, st1, rfl, h1, g3⟩ := gst_c g2
      obtain ⟨v2, st2, rfl, h2, g4⟩ := gst_c g3
      obtain ⟨y, rfl, -⟩ := gv_k0 hq.2 h1
      obtain ⟨x, rfl⟩ := gv_k1 hq.1 h2
      exact ak_p_ok g hI hr hk (by rw [hx]; rfl) ⟨_, rfl⟩ g4
    · cases hk
  · cases hk
/-- loads -/
def ak_ild (i : Nat) (A : AS) (j : Nat) : Option (List (Nat × AS)) := match (as_l A)[i]? with
  | some B => if av_k B = 0 then ak_p A (j + 1) (0, av_lo B, av_hi B, [], 1, i, 0) (as_s A) else none
  | none => none
theorem ak_ild_ok {i : Nat} (hx : ∀ st, pm_x none e j lv st h = pm_ild i j lv st h) (g : gs A lv st h) (hI : HI HD S h) (hr : gr LS lv h (as_g A) G) (hk : ak_ild i A j = some R) : ak_post HD S LS W G e j lv st h R := by
  unfold ak_ild at hk
  split at hk
  · rename_i B hB
    split at hk
    · rename_i hq
      obtain ⟨v, hv, hg⟩ := g.1.2 i B hB (by omega)
      obtain ⟨x, rfl, x1, x2, -⟩ := gv_k0 (A := nt B) hq (hg lv h)
      exact ak_p_ok g hI hr hk (by rw [hx]; simp only [pm_ild, hv]; rfl) ((gv_int rfl).mpr ⟨x, rfl, x1, x2, hv⟩) g.2.1
    · cases hk
  · cases hk
def ak_lld (i : Nat) (A : AS) (j : Nat) : Option (List (Nat × AS)) := match (as_l A)[i]? with
  | some B => if av_k B = 1 then ak_p A (j + 1) av_l (as_s A) else none
  | none => none
theorem ak_lld_ok {i : Nat} (hx : ∀ st, pm_x none e j lv st h = pm_lld i j lv st h) (g : gs A lv st h) (hI : HI HD S h) (hr : gr LS lv h (as_g A) G) (hk : ak_lld i A j = some R) : ak_post HD S LS W G e j lv st h R := by
  unfold ak_lld at hk
  split at hk
  · rename_i B hB
    split at hk
    · rename_i hq
      obtain ⟨v, hv, hg⟩ := g.1.2 i B hB (by omega)
      obtain ⟨x, rfl⟩ := gv_k1 (A := nt B) hq (hg lv h)
      exact ak_p_ok g hI hr hk (by rw [hx]; simp only [pm_lld, hv]; rfl) ⟨x, rfl⟩ g.2.1
    · cases hk
  · cases hk
def ak_ald (i : Nat) (A : AS) (j : Nat) : Option (List (Nat × AS)) := match (as_l A)[i]? with
  | some B => if av_k B = 2 ∨ av_k B = 3 then ak_p A (j + 1) (nt B) (as_s A) else none
  | none => none
theorem ak_ald_ok {i : Nat} (hx : ∀ st, pm_x none e j lv st h = pm_ald i j lv st h) (g : gs A lv st h) (hI : HI HD S h) (hr : gr LS lv h (as_g A) G) (hk : ak_ald i A j = some R) : ak_post HD S LS W G e j lv st h R := by
  unfold ak_ald at hk
  split at hk
  · rename_i B hB
    split at hk
    · rename_i hq
      obtain ⟨v, hv, hg⟩ := g.1.2 i B hB (by omega)
      have hg2 := hg lv h
      rcases hq with hq | hq
      · obtain ⟨x, x1, rfl⟩ := gv_k2 (A := nt B) hq hg2
        exact ak_p_ok g hI hr hk (by rw [hx]; simp only [pm_ald, hv]; rfl) hg2 g.2.1
      · obtain ⟨x, x1, rfl⟩ := gv_k3 (A := nt B) hq hg2
        exact ak_p_ok g hI hr hk (by rw [hx]; simp only [pm_ald, hv]; rfl) hg2 g.2.1
    · cases hk
  · cases hk
/-- stores of a local -/
def rl_loc (i : Nat) (B : AV) (L : LVr) (r : Nat) : Option Nat := if L.1 = 0 ∧ L.2.1 = i then (if av_a B = i ∧ ((L.2.2.2 = true ∧ av_t B = 4) ∨ (L.2.2.2 = false ∧ av_t B = 3)) then some 1 else if av_a B = i ∧ av_t B = 1 then some r else none) else some r
theorem rl_loc_ok {i : Nat} {B : AV} {x : Int32} {lv' : PmL} (hv : ai_tag lv h (av_t B) (av_a B) (av_b B) x) (h1 : lv'[i]? = some (some (.int x))) (h2 : ∀ (a : Nat) (y : Int32), a ≠ i → lv[a]? = some (some (.int y)) → lv'[a]? = some (some (.int y))) :
    ∀ (L : LVr) (r r' : Nat) (g : Int) (z : Int32), rl_loc i B L r = some r' → lv_now L lv h z → rel_ok L.2.2.2 r g z.toInt → ∃ z' : Int32, lv_now L lv' h z' ∧ rel_ok L.2.2.2 r' g z'.toInt := by
  intro L r r' g z hf hz hrel
  obtain ⟨k, a, b, up⟩ := L
  unfold rl_loc at hf
  by_cases hk : k = 0 ∧ a = i
  · rw [if_pos hk] at hf
    obtain ⟨rfl, rfl⟩ := hk
    have hz : lv[a]? = some (some (.int z)) := hz
    split at hf
    · rename_i hq
      cases hf
      refine ⟨x, h1, ?_⟩
      obtain ⟨q1, q2⟩ := hq
      rcases q2 with ⟨u, t⟩ | ⟨u, t⟩
      · have u : up = true := u
        subst u
        rw [t, q1] at hv
        obtain ⟨y, y1, y2⟩ := hv
        rw [hz] at y1
        cases y1
        show g < x.toInt
        have hrel : rel_ok true r g z.toInt := hrel
        unfold rel_ok at hrel
        split at hrel
        · omega
        · simp at hrel; omega
        · simp at hrel; omega
      · have u : up = false := u
        subst u
        rw [t, q1] at hv
        obtain ⟨y, y1, y2⟩ := hv
        rw [hz] at y1
        cases y1
        show x.toInt < g
        have hrel : rel_ok false r g z.toInt := hrel
        unfold rel_ok at hrel
        split at hrel
        · omega
        · simp at hrel; omega
        · simp at hrel; omega
    · split at hf
      · rename_i hq
        cases hf
        refine ⟨x, h1, ?_⟩
        rw [hq.2, hq.1] at hv
        have hv : lv[a]? = some (some (.int x)) := hv
        rw [hz] at hv
        cases hv
        exact hrel
      · cases hf
  · rw [if_neg hk] at hf
    cases hf
    refine ⟨z, ?_, hrel⟩
    rcases k with _ | k
    · exact h2 a z (fun q => hk ⟨rfl, q⟩) hz
    · exact hz
def ak_ist (LS : List LVr) (i : Nat) (A : AS) (j : Nat) : Option (List (Nat × AS)) := match as_s A with
  | B :: st => if av_k B = 0 ∧ i < (as_l A).length then (match rl_up LS (rl_loc i B) (as_g A) with
    | some g => some [(j + 1, (ai_st1 (as_l A) i B, st.map (ut_l i), as_o A, g))]
    | none => none) else none
  | _ => none
theorem ut_l_gv {lv' : PmL} {i : Nat} (h2 : ∀ (a : Nat) (y : Int32), a ≠ i → lv[a]? = some (some (.int y)) → lv'[a]? = some (some (.int y))) (B : AV) (v : Value) (g : gv lv h B v) : gv lv' h (ut_l i B) v := by
  rcases ut_l_is i B with ⟨e1, e2⟩ | e1
  · rw [e1]
    exact gv_keep (Or.inl rfl) (fun _ ht x hx => h2 _ x (fun z => e2 ⟨ht, z⟩) hx) (fun _ _ => rfl) g
  · rw [e1]
    exact gv_nt g _ _
theorem ak_ist_ok {i : Nat} (hx : ∀ st, pm_x none e j lv st h = pm_ist i j lv st h) (g : gs A lv st h) (hI : HI HD S h) (hr : gr LS lv h (as_g A) G) (hk : ak_ist LS i A j = some R) : ak_post HD S LS W G e j lv st h R := by
  unfold ak_ist at hk
  split at hk
  · rename_i B As hs
    split at hk
    · rename_i hq
      split at hk
      · rename_i g' hg'
        cases hk
        have g2 := g.2.1
        rw [hs] at g2
        obtain ⟨v1, st1, rfl, h1, g3⟩ := gst_c g2
        obtain ⟨x, rfl, x1, x2, x3⟩ := gv_k0 hq.1 h1
        have hne : ∀ (a : Nat) (y : Int32), a ≠ i → lv[a]? = some (some (.int y)) → (pm_st1 lv i (.int x))[a]? = some (some (.int y)) := fun a y ha hy => st1_ne ha hy
        have hat : (pm_st1 lv i (.int x))[i]? = some (some (.int x)) := by
          unfold pm_st1
          rw [List.getElem?_set_self (by rw [clr_len, g.1.1]; exact hq.2)]
        refine ⟨j + 1, pm_st1 lv i (.int x), st1, h, _, by rw [hx]; rfl, List.mem_singleton.mpr rfl, ⟨gl_st1 g.1 hq.2 (fun _ _ => gv_nt h1 _ _), gst_map (ut_l_gv hne) _ _ g3, g.2.2⟩, hI, rl_up_ok (rl_loc_ok x3 hat hne) hg' hr, fram.rf W h⟩
      · cases hk
    · cases hk
  · cases hk
def ak_inc (LS : List LVr) (i : Nat) (n : Int) (A : AS) (j : Nat) : Option (List (Nat × AS)) := match (as_l A)[i]? with
  | some B => if av_k B = 0 then
      (let C := if 0 ≤ n then ai_add (0, av_lo B, av_hi B, [], 1, i, 0) (av_i n n) else ai_sub (0, av_lo B, av_hi B, [], 1, i, 0) (av_i (-n) (-n))
      match rl_up LS (rl_loc i C) (as_g A) with
      | some g => some [(j + 1, (ai_st1 (as_l A) i C, (as_s A).map (ut_l i), as_o A, g))]
      | none => none) else none
  | none => none
theorem ai_add_k (X Y : AV) : av_k (ai_add X Y) = 0 := by
  unfold ai_add av_c
  split <;> rfl
theorem ai_sub_k (X Y : AV) : av_k (ai_sub X Y) = 0 := by
  unfold ai_sub av_c
  split <;> rfl
theorem ak_inc_ok {i : Nat} {n : Int} (hn : -1000 ≤ n ∧ n ≤ 1000) (hx : ∀ st, pm_x none e j lv st h = pm_inc i n j lv st h) (g : gs A lv st h) (hI : HI HD S h) (hr : gr LS lv h (as_g A) G) (hk : ak_inc LS i n A j = some R) : ak_post HD S LS W G e j lv st h R := by
  unfold ak_inc at hk
  split at hk
  · rename_i B hB
    split at hk
    · rename_i hq
      obtain ⟨v, hv, hg⟩ := g.1.2 i B hB (by omega)
      obtain ⟨x, rfl, x1, x2, -⟩ := gv_k0 (A := nt B) hq (hg lv h)
      have hi : i < (as_l A).length := (List.getElem?_eq_some_iff.mp hB).1
      have en : (Int32.ofInt n).toInt = n := by
        rw [Int32.toInt_ofInt]
        exact i32_bm (by unfold ai_mn; omega) (by unfold ai_mx; omega)
      have hC : ∃ C : AV, (if 0 ≤ n then ai_add (0, av_lo B, av_hi B, [], 1, i, 0) (av_i n n) else ai_sub (0, av_lo B, av_hi B, [], 1, i, 0) (av_i (-n) (-n))) = C ∧ av_k C = 0 ∧ gv lv h C (.int (x + Int32.ofInt n)) := by
        refine ⟨_, rfl, ?_, ?_⟩
        · split
          · exact ai_add_k _ _
          · exact ai_sub_k _ _
        · split
          · refine ai_add_ok (X := (0, av_lo B, av_hi B, [], 1, i, 0)) ⟨x1, x2, hv⟩ ⟨?_, ?_⟩
            · show n ≤ _; omega
            · show _ ≤ n; omega
          · have e9 : x + Int32.ofInt n = x - Int32.ofInt (-n) := by
              rw [Int32.sub_eq_add_neg]
              congr 1
              rw [Int32.ofInt_neg, Int32.neg_neg]
            rw [e9]
            have en2 : (Int32.ofInt (-n)).toInt = -n := by
              rw [Int32.toInt_ofInt]
              exact i32_bm (by unfold ai_mn; omega) (by unfold ai_mx; omega)
            refine ai_sub_ok (X := (0, av_lo B, av_hi B, [], 1, i, 0)) ⟨x1, x2, hv⟩ ⟨?_, ?_⟩
            · show -n ≤ _; omega
            · show _ ≤ -n; omega
      obtain ⟨C, hC1, hC2, hC3⟩ := hC
      simp only [hC1] at hk
      split at hk
      · rename_i g' hg'
        cases hk
        obtain ⟨x9, e9, -, -, x3⟩ := gv_k0 hC2 hC3
        cases e9
        have hne : ∀ (a : Nat) (y : Int32), a ≠ i → lv[a]? = some (some (.int y)) → (pm_st1 lv i (.int (x + Int32.ofInt n)))[a]? = some (some (.int y)) := fun a y ha hy => st1_ne ha hy
        have hat : (pm_st1 lv i (.int (x + Int32.ofInt n)))[i]? = some (some (.int (x + Int32.ofInt n))) := by
          unfold pm_st1
          rw [List.getElem?_set_self (by rw [clr_len, g.1.1]; exact hi)]
        exact ⟨j + 1, pm_st1 lv i (.int (x + Int32.ofInt n)), st, h, _, by rw [hx]; simp only [pm_inc, hv]; rfl, List.mem_singleton.mpr rfl, ⟨gl_st1 g.1 hi (fun _ _ => gv_nt hC3 _ _), gst_map (ut_l_gv hne) _ _ g.2.1, g.2.2⟩, hI, rl_up_ok (rl_loc_ok x3 hat hne) hg' hr, fram.rf W h⟩
      · cases hk
    · cases hk
  · cases hk
end AK
