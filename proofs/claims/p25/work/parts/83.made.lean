def pm_nh (h : PmH) (t n : Nat) : PmH := (ph_s h ++ [(t, n)], pm_uf (ph_i h) (ph_s h).length (fun _ => 0), pm_uf (ph_l h) (ph_s h).length (fun _ => 0), pm_uf (ph_r h) (ph_s h).length (fun _ => none))
theorem g_new {T : List PmM} {xs : PmX} {es : List PmI} {j : Nat} {lv : PmL} {st : List Value} {h : PmH} {r : Option Value × PmH} {pc n idx a c d q : Nat} {v : Int} {ts : List Nat} {k : Nat} (he : es[j]? = some (pc, n, .new idx, a, c, d, q, v, ts)) (hl : (ph_s h).length = k) (kk : Go T xs es (j + 1) lv (.ref k :: st) (pm_nh h (10 + a) c) r) : Go T xs es j lv st h r := by
  refine Go.step he ?_ kk
  simp only [pm_x, pm_new, pm_nx, hl, pm_nh]
def hX0 : PmH := pm_nh pm_h0 19 14
def rX : Option (Option Value × PmH) := pm_run pmT none 2000 cd_0 0 (pm_en 2 [.ref 0]) [] hX0
def hX1 : PmH := match rX with
  | some (_, h) => h
  | none => pm_h0
set_option maxRecDepth 100000 in
theorem rX_ok : rX.map (fun r => r.1) = some none := by decide +kernel
theorem rX_eq : rX = some (none, hX1) := by
  have h1 := rX_ok
  unfold hX1
  cases h : rX with
  | none => rw [h] at h1; cases h1
  | some r =>
    obtain ⟨v, h2⟩ := r
    rw [h] at h1
    simp only [Option.map_some, Option.some.injEq] at h1
    subst h1
    rfl
set_option maxRecDepth 100000 in
theorem shX : ph_s hX1 = shT.take 70 := by decide +kernel
theorem evX : Ev pmT 0 [.ref 0] hX0 none hX1 := Ev.of (es := cd_0) (ml := 2) rfl rfl rfl ⟨2000, rX_eq⟩
def hY0 : PmH := pm_nh hX1 20 54
def rY : Option (Option Value × PmH) := pm_run pmT none 2000 cd_145 0 (pm_en 1 [.ref 70]) [] hY0
def hY1 : PmH := match rY with
  | some (_, h) => h
  | none => pm_h0
set_option maxRecDepth 100000 in
theorem rY_ok : rY.map (fun r => r.1) = some none := by decide +kernel
theorem rY_eq : rY = some (none, hY1) := by
  have h1 := rY_ok
  unfold hY1
  cases h : rY with
  | none => rw [h] at h1; cases h1
  | some r =>
    obtain ⟨v, h2⟩ := r
    rw [h] at h1
    simp only [Option.map_some, Option.some.injEq] at h1
    subst h1
    rfl
set_option maxRecDepth 100000 in
theorem shY : ph_s hY1 = shT := by decide +kernel
theorem evY : Ev pmT 145 [.ref 70] hY0 none hY1 := Ev.of (es := cd_145) (ml := 1) rfl rfl rfl ⟨2000, rY_eq⟩
/-- cells that no object has are 0 -/
def oob (S : List (Nat × Nat)) (p s : Nat) : Prop := ∀ t n, S[p]? = some (t, n) → n ≤ s
def Zh (h : PmH) : Prop := ∀ p s, oob (ph_s h) p s → ph_i h p s = 0
theorem zh_u2 {S : List (Nat × Nat)} {fi : Nat → Nat → Int32} {fl fl' : Nat → Nat → Int64} {fr fr' : Nat → Nat → Option Nat} {p k t n : Nat} {x : Int32} (hz : Zh (S, fi, fl, fr)) (hs : S[p]? = some (t, n)) (hk : k < n) : Zh (S, pm_u2 fi p k x, fl', fr') := by
  intro q s ho
  show pm_u2 fi p k x q s = 0
  by_cases h : q = p ∧ s = k
  · have := ho t n (by rw [h.1]; exact hs)
    omega
  · rw [wl_ne h]
    exact hz q s ho
theorem zh_new {S : List (Nat × Nat)} {fi : Nat → Nat → Int32} {fl fl' : Nat → Nat → Int64} {fr fr' : Nat → Nat → Option Nat} {t n : Nat} (hz : Zh (S, fi, fl, fr)) : Zh (S ++ [(t, n)], pm_uf fi S.length (fun _ => 0), fl', fr') := by
  intro q s ho
  show pm_uf fi S.length (fun _ => 0) q s = 0
  unfold pm_uf
  by_cases h : q = S.length
  · rw [if_pos h]
  · rw [if_neg h]
    refine hz q s (fun t' n' hs => ho t' n' ?_)
    have hs : S[q]? = some (t', n') := hs
    show (S ++ [(t, n)])[q]? = _
    rw [List.getElem?_append_left (by
      have := (List.getElem?_eq_some_iff.mp hs).1
      exact this)]
    exact hs
theorem zh_cpy {S : List (Nat × Nat)} {fi : Nat → Nat → Int32} {fl : Nat → Nat → Int64} {fr : Nat → Nat → Option Nat} {p q n0 n1 sp dp n : Nat} (hz : Zh (S, fi, fl, fr)) (hs : S[q]? = some (0, n1)) (hk : ¬ n1 < dp + n) : Zh (S, pm_uf fi q (va_cpy (fi p) (fi q) sp dp n), fl, fr) := by
  intro r s ho
  show pm_uf fi q (va_cpy (fi p) (fi q) sp dp n) r s = 0
  unfold pm_uf
  by_cases h : r = q
  · rw [if_pos h]
    have := ho 0 n1 (by rw [h]; exact hs)
    rw [pk_cpy_out (by omega)]
    have := hz r s ho
    rw [h] at this
    exact this
  · rw [if_neg h]
    exact hz r s ho
theorem zh_x {xs : PmX} {e : PmI} {j : Nat} {lv : PmL} {st : List Value} {h : PmH} {j' : Nat} {lv' : PmL} {st' : List Value} {h' : PmH} (hx : pm_x xs e j lv st h = some (.inl (j', lv', st', h'))) (hz : Zh h) : Zh h' := by
  obtain ⟨S, fi, fl, fr⟩ := h
  cases hi : pi_i e with
  | putfield _ =>
    unfold pm_x at hx
    rw [hi] at hx
    simp only [pm_put] at hx
    split at hx
    · split at hx
      · rename_i hs
        split at hx
        · rename_i hc
          cases hx
          exact zh_u2 hz hs hc.2.1
        · cases hx
      · cases hx
    · split at hx
      · split at hx
        · cases hx
          exact hz
        · cases hx
      · cases hx
    · split at hx
      · split at hx
        · cases hx
          exact hz
        · cases hx
      · cases hx
    · cases hx
  | iastore =>
    unfold pm_x at hx
    rw [hi] at hx
    simp only [pm_iast] at hx
    split at hx
    · split at hx
      · rename_i hs
        split at hx
        · cases hx
        · rename_i hc
          cases hx
          exact zh_u2 hz hs (by omega)
      · cases hx
    · cases hx
  | bastore =>
    unfold pm_x at hx
    rw [hi] at hx
    simp only [pm_bast] at hx
    split at hx
    · split at hx
      · rename_i hs
        split at hx
        · cases hx
        · rename_i hc
          cases hx
          exact zh_u2 hz hs (by omega)
      · rename_i hs
        split at hx
        · cases hx
        · rename_i hc
          cases hx
          exact zh_u2 hz hs (by omega)
      · cases hx
    · cases hx
  | lastore =>
    unfold pm_x at hx
    rw [hi] at hx
    simp only [pm_last] at hx
    split at hx
    · split at hx
      · split at hx
        · cases hx
        · cases hx
          exact hz
      · cases hx
    · cases hx
  | aastore =>
    unfold pm_x at hx
    rw [hi] at hx
    simp only [pm_aast] at hx
    split at hx
    · split at hx
      · split at hx
        · cases hx
        · cases hx
          exact hz
      · cases hx
    · cases hx
  | new _ =>
    unfold pm_x at hx
    rw [hi] at hx
    simp only [pm_new, pm_nx] at hx
    cases hx
    exact zh_new hz
  | newarray _ =>
    unfold pm_x at hx
    rw [hi] at hx
    simp only [pm_nwa] at hx
    split at hx
    · split at hx
      · cases hx
      · cases hx
        exact zh_new hz
    · cases hx
  | anewarray _ =>
    unfold pm_x at hx
    rw [hi] at hx
    simp only [pm_nwa] at hx
    split at hx
    · split at hx
      · cases hx
      · cases hx
        exact zh_new hz
    · cases hx
  | invokestatic _ =>
    unfold pm_x at hx
    rw [hi] at hx
    simp only [pm_cpy] at hx
    split at hx
    · split at hx
      · split at hx
        · rename_i hs1 hs2
          split at hx
          · cases hx
          · rename_i hc
            cases hx
            exact zh_cpy (n0 := 0) hz hs2 (by omega)
        · cases hx
      · cases hx
    · simp only [pm_call] at hx
      split at hx <;> cases hx
  | _ =>
    unfold pm_x at hx
    rw [hi] at hx
    (try simp only [pm_nx, pm_ii, pm_iz, pm_i1, pm_l1, pm_ll, pm_lz, pm_li, pm_ild, pm_lld, pm_ald, pm_ist, pm_lst, pm_ast, pm_br, pm_get, pm_iald, pm_bald, pm_lald, pm_aald, pm_len, pm_call, pm_obj, pm_ret, pm_lret, pm_vret, pm_dup, pm_dup2, pm_pop, pm_pop2, pm_inc, pm_tsw, pm_lsw, pm_if, pm_ic, pm_gs] at hx)
    repeat' (first | (cases hx; exact hz) | cases hx | split at hx)
theorem zh_run {T : List PmM} : ∀ (f : Nat) {xs : PmX} {es : List PmI} {j : Nat} {lv : PmL} {st : List Value} {h : PmH} {v : Option Value} {h' : PmH}, pm_run T xs f es j lv st h = some (v, h') → Zh h → Zh h' := by
  intro f
  induction f with
  | zero => intro xs es j lv st h v h' hr; simp [pm_run] at hr
  | succ f ih =>
    intro xs es j lv st h v h' hr hz
    rw [pm_run] at hr
    cases he : es[j]? with
    | none => rw [he] at hr; simp at hr
    | some e =>
      rw [he] at hr
      simp only at hr
      cases hx : pm_x xs e j lv st h with
      | none => rw [hx] at hr; simp at hr
      | some z =>
        rw [hx] at hr
        rcases z with ⟨j1, lv1, st1, h1⟩ | w | ⟨y, as, st1⟩
        · simp only at hr
          exact ih hr (zh_x hx hz)
        · simp only at hr
          cases hr
          exact hz
        · simp only at hr
          cases hc : pm_run T none f (pm_cd T y) 0 (pm_en (pm_ml T y) as) [] h with
          | none => rw [hc] at hr; simp at hr
          | some w =>
            obtain ⟨w1, w2⟩ := w
            rw [hc] at hr
            exact ih hr (ih hc hz)
theorem zh_nh {h : PmH} {t n : Nat} (hz : Zh h) : Zh (pm_nh h t n) := by
  obtain ⟨S, fi, fl, fr⟩ := h
  exact zh_new hz
theorem zh_Y : Zh hY1 := by
  have h0 : Zh pm_h0 := fun _ _ _ => rfl
  have hX : Zh hX0 := by
    unfold hX0
    exact zh_nh h0
  have hX1' : Zh hX1 := zh_run 2000 rX_eq hX
  have hY : Zh hY0 := by
    unfold hY0
    exact zh_nh hX1'
  exact zh_run 2000 rY_eq hY
/-- what the cells of the made objects keep to -/
def hdck (p s : Nat) : Bool := match (hd_at hdT shT p s).1 with
  | 0 => decide ((hd_at hdT shT p s).2.1 ≤ (ph_i hY1 p s).toInt) && decide ((ph_i hY1 p s).toInt ≤ (hd_at hdT shT p s).2.2.1)
  | 2 => (hd_at hdT shT p s).2.2.2.any (fun z => ph_r hY1 p s == some z)
  | _ => true
def hdpl (p : Nat) : Bool := (hdT.getD p []).isEmpty || (match shT[p]? with
  | some (_, n) => (List.range n).all (hdck p)
  | none => true)
set_option maxRecDepth 100000 in
theorem hdpl_ok : (List.range 94).all hdpl = true := by decide +kernel
theorem HI_Y : HI hdT shT hY1 := by
  refine ⟨shY, fun p s t n hs hn => ?_⟩
  have hp : p < 94 := by
    have := (List.getElem?_eq_some_iff.mp hs).1
    exact this
  have hk := List.all_eq_true.mp hdpl_ok p (List.mem_range.mpr hp)
  unfold hdpl at hk
  rw [Bool.or_eq_true] at hk
  rcases hk with z | z
  · have hd : (hd_at hdT shT p s).1 = 9 := by
      unfold hd_at
      rw [hs, List.isEmpty_iff.mp z]
      simp only
      split
      · rfl
      · split <;> rfl
    unfold hd_ok
    rw [hd]
    trivial
  · rw [hs] at z
    have z := List.all_eq_true.mp z s (List.mem_range.mpr hn)
    unfold hdck at z
    unfold hd_ok
    split at z
    · rename_i h0
      rw [h0]
      simp only [Bool.and_eq_true, decide_eq_true_eq] at z
      exact z
    · rename_i h2
      rw [h2]
      obtain ⟨q, q1, q2⟩ := List.any_eq_true.mp z
      exact ⟨q, q1, beq_iff_eq.mp q2⟩
    · rename_i h1 h2
      split
      · rename_i h3
        exact absurd h3 h1
      · rename_i h3
        exact absurd h3 h2
      · trivial
def zero_v : VS := (fun _ => 0, 0, fun _ => 0)
def a_zero : AB := (0, fun _ => 0, 0, zero_v, 0, fun _ => zero_v, fun _ => none)
set_option maxRecDepth 100000 in
theorem y_ref : (∀ j, j < 12 → ph_r hY1 3 j = some (42 + 2 * j)) ∧ (∀ j, j < 2 → ph_r hY1 4 j = some (66 + 2 * j)) := by decide +kernel
set_option maxRecDepth 100000 in
theorem y_10 : (∀ s, s < 64 → ph_i hY1 10 s = 0) ∧ (∀ s, s < 64 → ph_i hY1 2 s = 0) ∧ ∀ s, s < 64 → ph_i hY1 74 s = 0 := by decide +kernel
set_option maxRecDepth 100000 in
theorem y_7 : (∀ s, s < 200 → ph_i hY1 7 s = 0) ∧ ∀ s, s < 200 → ph_i hY1 71 s = 0 := by decide +kernel
set_option maxRecDepth 100000 in
theorem y_c : (ph_i hY1 6 1 = 0 ∧ ph_i hY1 0 13 = 0 ∧ ph_i hY1 0 3 = 0 ∧ ph_i hY1 0 2 = 0 ∧ ph_l hY1 1 7 = 0 ∧ ph_l hY1 70 21 = 0 ∧ ph_i hY1 70 1 = 0 ∧ ph_i hY1 70 23 = 0 ∧ ph_i hY1 70 53 = 0) ∧ (∀ i, i < 7 → ph_i hY1 1 i = 0) ∧ (∀ i, i < 7 → ph_i hY1 70 (14 + i) = 0) ∧ (∀ i, i < 2 → ph_i hY1 5 i = 0) ∧ (∀ i, i < 2 → ph_i hY1 93 i = 0) ∧ ∀ i, i < 30 → ph_i hY1 72 i = wdM.getD i 0 := by decide +kernel
theorem REL_Y (L : Bool) : REL L hY1 a_zero := by
  obtain ⟨⟨c1, c2, c3, c4, c5, c6, c7, c8, c9⟩, c10, c11, c12, c13, c14⟩ := y_c
  have t7 : ∀ s, ph_i hY1 7 s = 0 := fun s => by
    by_cases hs : s < 200
    · exact y_7.1 s hs
    · exact zh_Y 7 s (fun t n h => by
        rw [shY] at h
        have h : some (2, 200) = some (t, n) := h
        cases h
        omega)
  have t71 : ∀ s, ph_i hY1 71 s = 0 := fun s => by
    by_cases hs : s < 200
    · exact y_7.2 s hs
    · exact zh_Y 71 s (fun t n h => by
        rw [shY] at h
        have h : some (2, 200) = some (t, n) := h
        cases h
        omega)
  have hiY := HI_Y
  have yr := y_ref
  have y10 := y_10
  generalize hY1 = h at *
  refine ⟨hiY, ⟨⟨yr.1, yr.2, y10.1⟩, c1, t7, fun _ => c2, ⟨c10, fun _ => ⟨c5, y10.2.1⟩⟩, c3, ⟨0, by decide, c4, fun i hi => absurd hi (Nat.not_lt_zero i)⟩, fun k hk => c12 k hk⟩, ⟨c14, c7, t71, fun _ => c8, ⟨fun j hj => c11 j hj, fun _ => ⟨c6, y10.2.2⟩⟩, c9, fun i hi => absurd hi (Nat.not_lt_zero i), fun k hk => c13 k hk⟩, ⟨by decide, by decide, fun s => by show -128 ≤ (0 : Int32).toInt ∧ (0 : Int32).toInt ≤ 127; decide, by show 0 ≤ (0 : Int32).toInt; decide⟩⟩
theorem REL_Y2 : REL2 hY1 a_zero := ⟨REL_Y true, ⟨Or.inl rfl, fun s _ => (show -127 ≤ (0 : Int32).toInt ∧ (0 : Int32).toInt ≤ 127 by decide), Or.inl rfl⟩, fun i hi => absurd (show i < 0 from hi) (Nat.not_lt_zero i), fun k v hk e => nomatch (show (none : Option VS) = some v from e)⟩
