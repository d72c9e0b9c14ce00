/-! FROM THE PURE MACHINE TO THE JVM: how a pure heap lies in a real one -/
def pm_v (b : Nat) (x : Nat → Value) : Value → Value
  | .ref k => .ref (b + k)
  | .retAddr k => x k
  | v => v
def pm_ro (b : Nat) (r : Option Nat) : Option Nat := r.map (fun k => b + k)
theorem pm_v_rv (b : Nat) (x : Nat → Value) (r : Option Nat) : pm_v b x (pm_rv r) = va_rf (pm_ro b r) := by cases r <;> rfl
def pm_fs (b : Nat) (x : Nat → Value) (h : PmH) (p c n : Nat) : List Value := (List.range n).map fun s => pm_v b x (pm_fv h (pm_k c s) p s)
def pm_e (b : Nat) (x : Nat → Value) (ta : Nat → ClassId) (h : PmH) (p : Nat) (q : Nat × Nat) : va_E := match q.1 with
  | 0 => .inl (ta 0, q.2, .inl (ph_i h p))
  | 1 => .inl (ta 1, q.2, .inl (ph_i h p))
  | 2 => .inl (ta 2, q.2, .inl (ph_i h p))
  | 3 => .inl (ta 3, q.2, .inr (.inl (ph_l h p)))
  | 4 => .inl (ta 4, q.2, .inr (.inr (.inr (.inr (fun j => pm_ro b (ph_r h p j))))))
  | k + 5 => .inr (k - 5, pm_fs b x h p (k - 5) q.2)
def pm_w (b : Nat) (x : Nat → Value) (ta : Nat → ClassId) (h : PmH) : va_W := (ph_s h).mapIdx fun p q => (b + p, pm_e b x ta h p q)
theorem pm_w_at (b : Nat) (x : Nat → Value) (ta : Nat → ClassId) (h : PmH) (p : Nat) : (pm_w b x ta h)[p]? = ((ph_s h)[p]?).map (fun q => (b + p, pm_e b x ta h p q)) := by
  simp [pm_w]
theorem pm_w_to {b : Nat} {x : Nat → Value} {ta : Nat → ClassId} {h : PmH} {p : Nat} {q : Nat × Nat} {e : va_E} (hq : (ph_s h)[p]? = some q) (he : pm_e b x ta h p q = e) : (pm_w b x ta h)[p]? = some (b + p, e) := by
  rw [pm_w_at, hq]
  simp [he]
theorem pm_e_obj (b : Nat) (x : Nat → Value) (ta : Nat → ClassId) (h : PmH) (p c n : Nat) : pm_e b x ta h p (10 + c, n) = .inr (c, pm_fs b x h p c n) := by
  rw [show (10 + c : Nat) = (c + 5) + 5 by omega]
  simp [pm_e]
theorem pm_D (b : Nat) (x : Nat → Value) (ta : Nat → ClassId) (h : PmH) : va_D (fun q => b ≤ q) (pm_w b x ta h) := by
  refine ⟨fun i j p q hi hj hpq => ?_, fun k q hk => ?_⟩
  · rw [pm_w_at] at hi hj
    cases h1 : (ph_s h)[i]? with
    | none => rw [h1] at hi; cases hi
    | some u =>
      cases h2 : (ph_s h)[j]? with
      | none => rw [h2] at hj; cases hj
      | some w =>
        rw [h1] at hi
        rw [h2] at hj
        cases hi
        cases hj
        simp at hpq
        exact hpq
  · rw [pm_w_at] at hk
    cases h1 : (ph_s h)[k]? with
    | none => rw [h1] at hk; cases hk
    | some u =>
      rw [h1] at hk
      cases hk
      show b ≤ b + k
      omega
/-- a change at one place: the world as a list changes there alone -/
theorem pm_w_set {b : Nat} {x : Nat → Value} {ta : Nat → ClassId} {h h' : PmH} {p : Nat} {q : Nat × Nat} {e : va_E} (hs : ph_s h' = ph_s h) (hq : (ph_s h)[p]? = some q) (he : pm_e b x ta h' p q = e)
    (ho : ∀ p' q', p' ≠ p → pm_e b x ta h' p' q' = pm_e b x ta h p' q') : (pm_w b x ta h).set p (b + p, e) = pm_w b x ta h' := by
  apply List.ext_getElem?
  intro k
  rw [pm_w_at, hs]
  by_cases hk : p = k
  · subst hk
    rw [List.getElem?_set_self' , pm_w_at, hq]
    simp [he]
  · rw [List.getElem?_set_ne hk, pm_w_at]
    cases h1 : (ph_s h)[k]? with
    | none => rfl
    | some u => simp [ho k u (fun z => hk z.symm)]
theorem pm_w_push {b : Nat} {x : Nat → Value} {ta : Nat → ClassId} {h h' : PmH} {q : Nat × Nat} {e : va_E} (hs : ph_s h' = ph_s h ++ [q]) (he : pm_e b x ta h' (ph_s h).length q = e)
    (ho : ∀ p' q', p' < (ph_s h).length → pm_e b x ta h' p' q' = pm_e b x ta h p' q') : pm_w b x ta h ++ [(b + (ph_s h).length, e)] = pm_w b x ta h' := by
  apply List.ext_getElem?
  intro k
  have hl : (pm_w b x ta h).length = (ph_s h).length := by simp [pm_w]
  rw [pm_w_at, hs]
  rcases Nat.lt_trichotomy k (ph_s h).length with hk | hk | hk
  · rw [List.getElem?_append_left (by omega), List.getElem?_append_left hk, pm_w_at]
    cases h1 : (ph_s h)[k]? with
    | none => rfl
    | some u => simp [ho k u hk]
  · subst hk
    rw [List.getElem?_append_right (by omega), List.getElem?_append_right (Nat.le_refl _), hl]
    simp [he]
  · rw [List.getElem?_append_right (by omega), List.getElem?_append_right (by omega), hl]
    rw [List.getElem?_eq_none (by simp; omega), List.getElem?_eq_none (by simp; omega)]
    rfl
theorem pm_e_i {b : Nat} {x : Nat → Value} {ta : Nat → ClassId} {h : PmH} {f : Nat → Nat → Int32} {p' : Nat} (q' : Nat × Nat) (hf : f p' = ph_i h p') : pm_e b x ta (ph_s h, f, ph_l h, ph_r h) p' q' = pm_e b x ta h p' q' := by
  obtain ⟨t, n⟩ := q'
  simp only [ph_i, ph_l, ph_r] at hf
  rcases t with _ | _ | _ | _ | _ | t <;> simp [pm_e, pm_fs, pm_fv, ph_i, ph_l, ph_r, hf]
theorem pm_e_l {b : Nat} {x : Nat → Value} {ta : Nat → ClassId} {h : PmH} {f : Nat → Nat → Int64} {p' : Nat} (q' : Nat × Nat) (hf : f p' = ph_l h p') : pm_e b x ta (ph_s h, ph_i h, f, ph_r h) p' q' = pm_e b x ta h p' q' := by
  obtain ⟨t, n⟩ := q'
  simp only [ph_i, ph_l, ph_r] at hf
  rcases t with _ | _ | _ | _ | _ | t <;> simp [pm_e, pm_fs, pm_fv, ph_i, ph_l, ph_r, hf]
theorem pm_e_r {b : Nat} {x : Nat → Value} {ta : Nat → ClassId} {h : PmH} {f : Nat → Nat → Option Nat} {p' : Nat} (q' : Nat × Nat) (hf : f p' = ph_r h p') : pm_e b x ta (ph_s h, ph_i h, ph_l h, f) p' q' = pm_e b x ta h p' q' := by
  obtain ⟨t, n⟩ := q'
  simp only [ph_i, ph_l, ph_r] at hf
  rcases t with _ | _ | _ | _ | _ | t <;> simp [pm_e, pm_fs, pm_fv, ph_i, ph_l, ph_r, hf]
theorem pm_u2_ne {α : Type} {f : Nat → Nat → α} {p s p' : Nat} {v : α} (hp : p' ≠ p) : pm_u2 f p s v p' = f p' := by simp [pm_u2, hp]
theorem pm_uf_ne {α : Type} {f : Nat → Nat → α} {p p' : Nat} {g : Nat → α} (hp : p' ≠ p) : pm_uf f p g p' = f p' := by simp [pm_uf, hp]
theorem pm_u2_eq {α : Type} {f : Nat → Nat → α} {p s : Nat} {v : α} : pm_u2 f p s v p = (fun s' => if s' = s then v else f p s') := by simp [pm_u2]
theorem pm_uf_eq {α : Type} {f : Nat → Nat → α} {p : Nat} {g : Nat → α} : pm_uf f p g p = g := by simp [pm_uf]
theorem pm_fs_at {b : Nat} {x : Nat → Value} {h : PmH} {p c n s : Nat} (hs : s < n) : (pm_fs b x h p c n)[s]? = some (pm_v b x (pm_fv h (pm_k c s) p s)) := by
  simp [pm_fs, hs]
theorem pm_fs_len {b : Nat} {x : Nat → Value} {h : PmH} {p c n : Nat} : (pm_fs b x h p c n).length = n := by simp [pm_fs]
/-- a field is written: the list of fields changes there alone -/
theorem pm_fs_set {b : Nat} {x : Nat → Value} {h h' : PmH} {p c n s : Nat} {v : Value} (hs : s < n) (he : pm_v b x (pm_fv h' (pm_k c s) p s) = v) (ho : ∀ s', s' ≠ s → pm_fv h' (pm_k c s') p s' = pm_fv h (pm_k c s') p s') : (pm_fs b x h p c n).set s v = pm_fs b x h' p c n := by
  apply List.ext_getElem?
  intro k
  by_cases hk : s = k
  · subst hk
    rw [List.getElem?_set_self (by rw [pm_fs_len]; exact hs), pm_fs_at hs, he]
  · rw [List.getElem?_set_ne hk]
    by_cases hn : k < n
    · rw [pm_fs_at hn, pm_fs_at hn, ho k (fun z => hk z.symm)]
    · rw [List.getElem?_eq_none (by rw [pm_fs_len]; omega), List.getElem?_eq_none (by rw [pm_fs_len]; omega)]
/-- locals -/
def pm_as (b : Nat) (x : Nat → Value) (lv : PmL) : List (Nat × Value) := (lv.mapIdx (fun i o => (i, o))).filterMap (fun q => q.2.map (fun v => (q.1, pm_v b x v)))
theorem pm_as_mem {b : Nat} {x : Nat → Value} {lv : PmL} {i : Nat} {w : Value} : (i, w) ∈ pm_as b x lv ↔ ∃ v, lv[i]? = some (some v) ∧ w = pm_v b x v := by
  simp only [pm_as, List.mem_filterMap, List.mem_mapIdx]
  constructor
  · rintro ⟨⟨k, o⟩, ⟨k', hk', hq⟩, hw⟩
    cases hq
    cases ho : lv[k] with
    | none => simp [ho] at hw
    | some v =>
      simp [ho] at hw
      obtain ⟨rfl, rfl⟩ := hw
      exact ⟨v, by rw [List.getElem?_eq_getElem hk', ho], rfl⟩
  · rintro ⟨v, hv, rfl⟩
    have hl := (List.getElem?_eq_some_iff.mp hv).1
    have he := (List.getElem?_eq_some_iff.mp hv).2
    exact ⟨(i, some v), ⟨i, hl, by rw [he]⟩, rfl⟩
def pm_lv (b : Nat) (x : Nat → Value) (nL : Nat) (lv : PmL) (ls : Array Slot) : Prop := lv_has ls nL (pm_as b x lv)
theorem pm_lv_at {b : Nat} {x : Nat → Value} {nL : Nat} {lv : PmL} {ls : Array Slot} (h : pm_lv b x nL lv ls) {i : Nat} {v : Value} (hv : lv[i]? = some (some v)) : ls[i]? = some (.val (pm_v b x v)) :=
  h.2.2 (i, pm_v b x v) (pm_as_mem.mpr ⟨v, hv, rfl⟩)
theorem pm_clr_at {lv : PmL} {i k : Nat} {w : Value} (h : (pm_clr lv i)[k]? = some (some w)) : lv[k]? = some (some w) ∧ (k + 1 = i → ¬ w.category = 2) := by
  cases i with
  | zero => exact ⟨h, fun z => by omega⟩
  | succ n =>
    replace h : (if pm_c2 lv[n]? then lv.set n none else lv)[k]? = some (some w) := h
    by_cases hc : pm_c2 lv[n]? = true
    · rw [if_pos hc] at h
      by_cases hk : n = k
      · subst hk
        rw [List.getElem?_set_self'] at h
        cases hq : lv[n]? with
        | none => rw [hq] at h; simp at h
        | some o => rw [hq] at h; simp at h
      · rw [List.getElem?_set_ne hk] at h
        exact ⟨h, fun z => by omega⟩
    · rw [if_neg hc] at h
      refine ⟨h, fun z z2 => hc ?_⟩
      have hk : k = n := by omega
      subst hk
      rw [h]
      cases w <;> simp [Value.category] at z2 <;> rfl
theorem pm_v_cat {b : Nat} {x : Nat → Value} (hx : ∀ k, (x k).category = 1) (v : Value) : (pm_v b x v).category = v.category := by
  cases v <;> first | rfl | exact hx _
theorem pm_lv_st1 {b : Nat} {x : Nat → Value} (hx : ∀ k, (x k).category = 1) {nL : Nat} {lv : PmL} {ls : Array Slot} {i : Nat} {v : Value}
    (h : lv_has ls nL ((i, pm_v b x v) :: (pm_as b x lv).filter (fun q => !(q.1 == i) && !(q.1 + 1 == i && q.2.category == 2)))) : pm_lv b x nL (pm_st1 lv i v) ls := by
  refine ⟨h.1, h.2.1, fun q hq => h.2.2 q ?_⟩
  obtain ⟨k, w⟩ := q
  obtain ⟨u, hu, rfl⟩ := pm_as_mem.mp hq
  unfold pm_st1 at hu
  by_cases hk : i = k
  · subst hk
    rw [List.getElem?_set_self'] at hu
    cases ho : (pm_clr lv i)[i]? with
    | none => rw [ho] at hu; simp at hu
    | some o => rw [ho] at hu; simp at hu; rw [hu]; exact List.mem_cons_self
  · rw [List.getElem?_set_ne hk] at hu
    obtain ⟨h1, h2⟩ := pm_clr_at hu
    refine List.mem_cons_of_mem _ (List.mem_filter.mpr ⟨pm_as_mem.mpr ⟨u, h1, rfl⟩, ?_⟩)
    simp only [Bool.and_eq_true, Bool.not_eq_true', beq_eq_false_iff_ne, Bool.and_eq_false_imp, beq_iff_eq, pm_v_cat hx]
    exact ⟨fun z => hk z.symm, h2⟩
theorem pm_lv_st2 {b : Nat} {x : Nat → Value} (hx : ∀ k, (x k).category = 1) {nL : Nat} {lv : PmL} {ls : Array Slot} {i : Nat} {v : Value}
    (h : lv_has ls nL ((i, pm_v b x v) :: (pm_as b x lv).filter (fun q => !(q.1 == i) && (!(q.1 == i + 1) && !(q.1 + 1 == i && q.2.category == 2))))) : pm_lv b x nL (pm_st2 lv i v) ls := by
  refine ⟨h.1, h.2.1, fun q hq => h.2.2 q ?_⟩
  obtain ⟨k, w⟩ := q
  obtain ⟨u, hu, rfl⟩ := pm_as_mem.mp hq
  unfold pm_st2 at hu
  by_cases hk2 : i + 1 = k
  · subst hk2
    rw [List.getElem?_set_self'] at hu
    cases ho : ((pm_clr lv i).set i (some v))[i + 1]? with
    | none => rw [ho] at hu; simp at hu
    | some o => rw [ho] at hu; simp at hu
  rw [List.getElem?_set_ne hk2] at hu
  by_cases hk : i = k
  · subst hk
    rw [List.getElem?_set_self'] at hu
    cases ho : (pm_clr lv i)[i]? with
    | none => rw [ho] at hu; simp at hu
    | some o => rw [ho] at hu; simp at hu; rw [hu]; exact List.mem_cons_self
  · rw [List.getElem?_set_ne hk] at hu
    obtain ⟨h1, h2⟩ := pm_clr_at hu
    refine List.mem_cons_of_mem _ (List.mem_filter.mpr ⟨pm_as_mem.mpr ⟨u, h1, rfl⟩, ?_⟩)
    simp only [Bool.and_eq_true, Bool.not_eq_true', beq_eq_false_iff_ne, Bool.and_eq_false_imp, beq_iff_eq, pm_v_cat hx]
    exact ⟨fun z => hk z.symm, fun z => hk2 z.symm, h2⟩
/-- a method's entry -/
theorem pm_sl_args {b : Nat} {x : Nat → Value} (hx : ∀ k, (x k).category = 1) : ∀ (as : List Value) (i k : Nat) (v : Value), (pm_sl as)[k]? = some (some v) → (i + k, pm_v b x v) ∈ lv_args i (as.map (pm_v b x)) := by
  intro as
  induction as with
  | nil => intro i k v h; simp [pm_sl] at h
  | cons a as ih =>
    intro i k v h
    have e : pm_sl (a :: as) = (if a.category = 2 then [some a, none] else [some a]) ++ pm_sl as := by simp [pm_sl]
    rw [e] at h
    rw [List.map_cons, lv_args, pm_v_cat hx]
    by_cases hc : a.category = 2
    · rw [if_pos hc] at h
      rw [if_pos hc]
      rcases k with _ | _ | k
      · simp at h; subst h; exact List.mem_cons_self
      · simp at h
      · refine List.mem_cons_of_mem _ ?_
        have h2 := ih (i + 2) k v (by simpa using h)
        rw [show i + (k + 1 + 1) = i + 2 + k by omega]
        exact h2
    · rw [if_neg hc] at h
      rw [if_neg hc]
      rcases k with _ | k
      · simp at h; subst h; exact List.mem_cons_self
      · refine List.mem_cons_of_mem _ ?_
        have h2 := ih (i + 1) k v (by simpa using h)
        rw [show i + (k + 1) = i + 1 + k by omega]
        exact h2
theorem pm_sl_len {b : Nat} {x : Nat → Value} (hx : ∀ k, (x k).category = 1) : ∀ as : List Value, (lg_sl (as.map (pm_v b x))).length = (pm_sl as).length := by
  intro as
  induction as with
  | nil => rfl
  | cons a as ih =>
    simp only [lg_sl, pm_sl, List.map_cons, List.flatMap_cons, List.length_append, pm_v_cat hx] at ih ⊢
    rw [ih]
    by_cases hc : a.category = 2 <;> simp [hc]
theorem pm_lv_en {b : Nat} {x : Nat → Value} (hx : ∀ k, (x k).category = 1) {as : List Value} {n : Nat} (hn : (pm_sl as).length ≤ n) :
    pm_lv b x n (pm_en n as) ((lg_sl (as.map (pm_v b x)) ++ List.replicate (n - (lg_sl (as.map (pm_v b x))).length) Slot.unset).toArray) := by
  have h := lv_entry (as.map (pm_v b x)) (n := n) (by rw [pm_sl_len hx]; exact hn)
  refine ⟨h.1, h.2.1, fun q hq => h.2.2 q ?_⟩
  obtain ⟨k, w⟩ := q
  obtain ⟨u, hu, rfl⟩ := pm_as_mem.mp hq
  unfold pm_en at hu
  by_cases hk : k < (pm_sl as).length
  · rw [List.getElem?_append_left hk] at hu
    have := pm_sl_args (b := b) hx as 0 k u hu
    rwa [Nat.zero_add] at this
  · rw [List.getElem?_append_right (by omega), List.getElem?_replicate] at hu
    split at hu <;> simp at hu
/-- how many slots a heap takes -/
def pm_sz (h : PmH) : Nat := ((ph_s h).map (fun q => q.2)).sum
