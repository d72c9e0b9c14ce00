theorem pm_det {T : List PmM} {xs : PmX} {es : List PmI} {j : Nat} {lv : PmL} {st : List Value} {h : PmH} {r1 r2 : Option Value × PmH} (a : Go T xs es j lv st h r1) (b : Go T xs es j lv st h r2) : r1 = r2 := by
  obtain ⟨f, hf⟩ := a
  obtain ⟨g, hg⟩ := b
  have h1 := pm_more g hf
  have h2 := pm_more f hg
  rw [Nat.add_comm g f] at h2
  rw [h1] at h2
  exact Option.some.inj h2
theorem Ev.det {T : List PmM} {y : Nat} {as : List Value} {h h1 h2 : PmH} {v1 v2 : Option Value} (a : Ev T y as h v1 h1) (b : Ev T y as h v2 h2) : v1 = v2 ∧ h1 = h2 := by
  have := pm_det a b
  exact ⟨congrArg Prod.fst this, congrArg Prod.snd this⟩
theorem hi_r {h : PmH} {p c q t n : Nat} (hI : HI hdT shT h) (hd : hd_at hdT shT p c = (2, 0, 0, [q])) (hs : shT[p]? = some (t, n)) (hc : c < n) : ph_r h p c = some q := by
  have h1 := hI.2 p c t n hs hc
  rw [hd] at h1
  obtain ⟨z, z1, z2⟩ := h1
  rw [List.mem_singleton.mp z1] at z2
  exact z2
theorem hi_i {h : PmH} {p c t n : Nat} {lo hi : Int} (hI : HI hdT shT h) (hd : hd_at hdT shT p c = (0, lo, hi, [])) (hs : shT[p]? = some (t, n)) (hc : c < n) : lo ≤ (ph_i h p c).toInt ∧ (ph_i h p c).toInt ≤ hi := by
  have h1 := hI.2 p c t n hs hc
  rw [hd] at h1
  exact h1
/-- an int between 0 and n -/
theorem i32_to {x : Int32} {n : Nat} (h1 : 0 ≤ x.toInt) (h2 : x.toInt ≤ (n : Int)) : ∃ k : Nat, x = nI k ∧ k ≤ n := by
  obtain ⟨k, e1, e2, e3⟩ := i32_nI h1
  exact ⟨k, e1, by omega⟩
theorem hi_free {h : PmH} {p s n : Nat} {x : Int32} (hI : HI hdT shT h) (hs : shT[p]? = some (0, n)) (hu : ai_un hdT p = true) (h9 : (hd_at hdT shT p 0).1 = 9) : HI hdT shT (ph_s h, pm_u2 (ph_i h) p s x, ph_l h, ph_r h) := by
  refine HI_wi hI (fun z => ?_)
  rw [hd_arr0 hs hu, h9] at z
  cases z
def hasf (v : Int64) (i : Int32) : Int32 := if ¬ lg_cmp ((v >>> (i.toInt64 &&& 63)) &&& 1) 1 = 0 then 0 else 1
theorem has_ev {v : Int64} {i : Int32} {h : PmH} : Ev pmT 161 [.long v, .int i] h (some (.int (hasf v i))) h := by
  refine Ev.of (es := cd_161) (ml := 3) (lv := [some (.long v), none, some (.int i)]) rfl rfl rfl ?_
  unfold hasf
  refine g_n 7 (j' := 7) (lv' := [some (.long v), none, some (.int i)]) (st' := [.int (lg_cmp ((v >>> ((i : Int32).toInt64 &&& 63)) &&& 1) 1)]) (h' := h) rfl ?_
  refine g_if rfl (fun hc => ?_) (fun hc => ?_)
  · replace hc : ¬ (lg_cmp ((v >>> ((i : Int32).toInt64 &&& 63)) &&& 1) 1) = (0 : Int32) := hc
    rw [if_pos hc]
    refine g_n 1 (j' := 11) (lv' := [some (.long v), none, some (.int i)]) (st' := [.int 0]) (h' := h) rfl ?_
    exact g_retz rfl (by decide)
  · replace hc : ¬ (¬ (lg_cmp ((v >>> ((i : Int32).toInt64 &&& 63)) &&& 1) 1) = (0 : Int32)) := hc
    rw [if_neg hc]
    refine g_n 2 (j' := 11) (lv' := [some (.long v), none, some (.int i)]) (st' := [.int 1]) (h' := h) rfl ?_
    exact g_retz rfl (by decide)
theorem hasf_01 (v : Int64) (i : Int32) : hasf v i = 0 ∨ hasf v i = 1 := by
  unfold hasf
  split
  · exact Or.inl rfl
  · exact Or.inr rfl
/-- what leastOf finds: none, where all are taken; else one that isn't -/
def lo_inv (fi : Nat → Nat → Int32) (k : Nat) (b : Int32) : Prop := (b = -1 ∧ ∀ q, q < k → fi 80 q < 0) ∨ (∃ kb, kb < k ∧ b = nI kb ∧ ¬ fi 80 kb < 0)
theorem lo_go {fi : Nat → Nat → Int32} {fl : Nat → Nat → Int64} {fr : Nat → Nat → Option Nat} (r_70_29 : fr 70 29 = some 79) (r_70_30 : fr 70 30 = some 80) {M : Nat} (hM : M ≤ 16) : ∀ (n k : Nat) (b : Int32), k + n = M → lo_inv fi k b → ∃ b', Go pmT none cd_197 4 [some (.ref 70), some (.int (nI M)), some (.int b), some (.int (nI k))] [] (shT, fi, fl, fr) (some (.int b'), (shT, fi, fl, fr)) ∧ lo_inv fi M b' := by
  intro n
  induction n with
  | zero =>
    intro k b hk hb
    have : k = M := by omega
    subst this
    refine ⟨b, ?_, hb⟩
    refine g_n 2 (j' := 6) (lv' := [some (.ref 70), some (.int (nI k)), some (.int b), some (.int (nI k))]) (st' := [.int (nI k), .int (nI k)]) (h' := (shT, fi, fl, fr)) rfl ?_
    refine g_ict rfl (show (nI k) ≤ (nI k) from nI_le (Nat.le_refl _) (by omega)) ?_
    refine g_n 1 (j' := 28) (lv' := [some (.ref 70), some (.int (nI k)), some (.int b), some (.int (nI k))]) (st' := [.int b]) (h' := (shT, fi, fl, fr)) rfl ?_
    exact g_ret rfl
  | succ n ih =>
    intro k b hk hb
    have hlt : k < M := by omega
    by_cases c1 : fi 80 k < 0
    · obtain ⟨b', g, hb'⟩ := ih (k + 1) b (by omega) (by
        rcases hb with ⟨e, z⟩ | ⟨kb, z1, z2, z3⟩
        · refine Or.inl ⟨e, fun q hq => ?_⟩
          by_cases hz : q = k
          · rw [hz]; exact c1
          · exact z q (by omega)
        · exact Or.inr ⟨kb, by omega, z2, z3⟩)
      refine ⟨b', ?_, hb'⟩
      refine g_n 2 (j' := 6) (lv' := [some (.ref 70), some (.int (nI M)), some (.int b), some (.int (nI k))]) (st' := [.int (nI M), .int (nI k)]) (h' := (shT, fi, fl, fr)) rfl ?_
      refine g_icf rfl (show ¬ ((nI M) ≤ (nI k)) from nI_ge hlt (by omega)) ?_
      refine g_n 1 (j' := 8) (lv' := [some (.ref 70), some (.int (nI M)), some (.int b), some (.int (nI k))]) (st' := [.ref 70]) (h' := (shT, fi, fl, fr)) rfl ?_
      refine g_getR (q' := 80) rfl rfl (by decide) r_70_30 ?_
      refine g_n 1 (j' := 10) (lv' := [some (.ref 70), some (.int (nI M)), some (.int b), some (.int (nI k))]) (st' := [.int (nI k), .ref 80]) (h' := (shT, fi, fl, fr)) rfl ?_
      refine g_iald (k := k) (x := fi 80 k) rfl rfl (rfl) (by omega) (by decide) (rfl) ?_
      refine g_ift rfl (show (fi 80 k) < (0 : Int32) from c1) ?_
      refine g_n 2 (j' := 4) (lv' := [some (.ref 70), some (.int (nI M)), some (.int b), some (.int ((nI k) + 1))]) (st' := []) (h' := (shT, fi, fl, fr)) rfl ?_
      rw [nI_1]
      exact g
    · by_cases c2 : b < 0
      · obtain ⟨b', g, hb'⟩ := ih (k + 1) (nI k) (by omega) (Or.inr ⟨k, by omega, rfl, c1⟩)
        refine ⟨b', ?_, hb'⟩
        refine g_n 2 (j' := 6) (lv' := [some (.ref 70), some (.int (nI M)), some (.int b), some (.int (nI k))]) (st' := [.int (nI M), .int (nI k)]) (h' := (shT, fi, fl, fr)) rfl ?_
        refine g_icf rfl (show ¬ ((nI M) ≤ (nI k)) from nI_ge hlt (by omega)) ?_
        refine g_n 1 (j' := 8) (lv' := [some (.ref 70), some (.int (nI M)), some (.int b), some (.int (nI k))]) (st' := [.ref 70]) (h' := (shT, fi, fl, fr)) rfl ?_
        refine g_getR (q' := 80) rfl rfl (by decide) r_70_30 ?_
        refine g_n 1 (j' := 10) (lv' := [some (.ref 70), some (.int (nI M)), some (.int b), some (.int (nI k))]) (st' := [.int (nI k), .ref 80]) (h' := (shT, fi, fl, fr)) rfl ?_
        refine g_iald (k := k) (x := fi 80 k) rfl rfl (rfl) (by omega) (by decide) (rfl) ?_
        refine g_iff rfl (show ¬ ((fi 80 k) < (0 : Int32)) from c1) ?_
        refine g_n 1 (j' := 13) (lv' := [some (.ref 70), some (.int (nI M)), some (.int b), some (.int (nI k))]) (st' := [.int b]) (h' := (shT, fi, fl, fr)) rfl ?_
        refine g_ift rfl (show b < (0 : Int32) from c2) ?_
        refine g_n 4 (j' := 4) (lv' := [some (.ref 70), some (.int (nI M)), some (.int (nI k)), some (.int ((nI k) + 1))]) (st' := []) (h' := (shT, fi, fl, fr)) rfl ?_
        rw [nI_1]
        exact g
      · have hb2 : ∃ kb, kb < k ∧ b = nI kb ∧ ¬ fi 80 kb < 0 := by
          rcases hb with ⟨e, z⟩ | z
          · exfalso
            rw [e] at c2
            exact c2 (by decide)
          · exact z
        obtain ⟨kb, z1, z2, z3⟩ := hb2
        subst z2
        by_cases c3 : fi 79 kb ≤ fi 79 k
        · obtain ⟨b', g, hb'⟩ := ih (k + 1) (nI kb) (by omega) (Or.inr ⟨kb, by omega, rfl, z3⟩)
          refine ⟨b', ?_, hb'⟩
          refine g_n 2 (j' := 6) (lv' := [some (.ref 70), some (.int (nI M)), some (.int (nI kb)), some (.int (nI k))]) (st' := [.int (nI M), .int (nI k)]) (h' := (shT, fi, fl, fr)) rfl ?_
          refine g_icf rfl (show ¬ ((nI M) ≤ (nI k)) from nI_ge hlt (by omega)) ?_
          refine g_n 1 (j' := 8) (lv' := [some (.ref 70), some (.int (nI M)), some (.int (nI kb)), some (.int (nI k))]) (st' := [.ref 70]) (h' := (shT, fi, fl, fr)) rfl ?_
          refine g_getR (q' := 80) rfl rfl (by decide) r_70_30 ?_
          refine g_n 1 (j' := 10) (lv' := [some (.ref 70), some (.int (nI M)), some (.int (nI kb)), some (.int (nI k))]) (st' := [.int (nI k), .ref 80]) (h' := (shT, fi, fl, fr)) rfl ?_
          refine g_iald (k := k) (x := fi 80 k) rfl rfl (rfl) (by omega) (by decide) (rfl) ?_
          refine g_iff rfl (show ¬ ((fi 80 k) < (0 : Int32)) from c1) ?_
          refine g_n 1 (j' := 13) (lv' := [some (.ref 70), some (.int (nI M)), some (.int (nI kb)), some (.int (nI k))]) (st' := [.int (nI kb)]) (h' := (shT, fi, fl, fr)) rfl ?_
          refine g_iff rfl (show ¬ ((nI kb) < (0 : Int32)) from c2) ?_
          refine g_n 1 (j' := 15) (lv' := [some (.ref 70), some (.int (nI M)), some (.int (nI kb)), some (.int (nI k))]) (st' := [.ref 70]) (h' := (shT, fi, fl, fr)) rfl ?_
          refine g_getR (q' := 79) rfl rfl (by decide) r_70_29 ?_
          refine g_n 1 (j' := 17) (lv' := [some (.ref 70), some (.int (nI M)), some (.int (nI kb)), some (.int (nI k))]) (st' := [.int (nI k), .ref 79]) (h' := (shT, fi, fl, fr)) rfl ?_
          refine g_iald (k := k) (x := fi 79 k) rfl rfl (rfl) (by omega) (by decide) (rfl) ?_
          refine g_n 1 (j' := 19) (lv' := [some (.ref 70), some (.int (nI M)), some (.int (nI kb)), some (.int (nI k))]) (st' := [.ref 70, .int (fi 79 k)]) (h' := (shT, fi, fl, fr)) rfl ?_
          refine g_getR (q' := 79) rfl rfl (by decide) r_70_29 ?_
          refine g_n 1 (j' := 21) (lv' := [some (.ref 70), some (.int (nI M)), some (.int (nI kb)), some (.int (nI k))]) (st' := [.int (nI kb), .ref 79, .int (fi 79 k)]) (h' := (shT, fi, fl, fr)) rfl ?_
          refine g_iald (k := kb) (x := fi 79 kb) rfl rfl (rfl) (by omega) (by decide) (rfl) ?_
          refine g_ict rfl (show (fi 79 kb) ≤ (fi 79 k) from c3) ?_
          refine g_n 2 (j' := 4) (lv' := [some (.ref 70), some (.int (nI M)), some (.int (nI kb)), some (.int ((nI k) + 1))]) (st' := []) (h' := (shT, fi, fl, fr)) rfl ?_
          rw [nI_1]
          exact g
        · obtain ⟨b', g, hb'⟩ := ih (k + 1) (nI k) (by omega) (Or.inr ⟨k, by omega, rfl, c1⟩)
          refine ⟨b', ?_, hb'⟩
          refine g_n 2 (j' := 6) (lv' := [some (.ref 70), some (.int (nI M)), some (.int (nI kb)), some (.int (nI k))]) (st' := [.int (nI M), .int (nI k)]) (h' := (shT, fi, fl, fr)) rfl ?_
          refine g_icf rfl (show ¬ ((nI M) ≤ (nI k)) from nI_ge hlt (by omega)) ?_
          refine g_n 1 (j' := 8) (lv' := [some (.ref 70), some (.int (nI M)), some (.int (nI kb)), some (.int (nI k))]) (st' := [.ref 70]) (h' := (shT, fi, fl, fr)) rfl ?_
          refine g_getR (q' := 80) rfl rfl (by decide) r_70_30 ?_
          refine g_n 1 (j' := 10) (lv' := [some (.ref 70), some (.int (nI M)), some (.int (nI kb)), some (.int (nI k))]) (st' := [.int (nI k), .ref 80]) (h' := (shT, fi, fl, fr)) rfl ?_
          refine g_iald (k := k) (x := fi 80 k) rfl rfl (rfl) (by omega) (by decide) (rfl) ?_
          refine g_iff rfl (show ¬ ((fi 80 k) < (0 : Int32)) from c1) ?_
          refine g_n 1 (j' := 13) (lv' := [some (.ref 70), some (.int (nI M)), some (.int (nI kb)), some (.int (nI k))]) (st' := [.int (nI kb)]) (h' := (shT, fi, fl, fr)) rfl ?_
          refine g_iff rfl (show ¬ ((nI kb) < (0 : Int32)) from c2) ?_
          refine g_n 1 (j' := 15) (lv' := [some (.ref 70), some (.int (nI M)), some (.int (nI kb)), some (.int (nI k))]) (st' := [.ref 70]) (h' := (shT, fi, fl, fr)) rfl ?_
          refine g_getR (q' := 79) rfl rfl (by decide) r_70_29 ?_
          refine g_n 1 (j' := 17) (lv' := [some (.ref 70), some (.int (nI M)), some (.int (nI kb)), some (.int (nI k))]) (st' := [.int (nI k), .ref 79]) (h' := (shT, fi, fl, fr)) rfl ?_
          refine g_iald (k := k) (x := fi 79 k) rfl rfl (rfl) (by omega) (by decide) (rfl) ?_
          refine g_n 1 (j' := 19) (lv' := [some (.ref 70), some (.int (nI M)), some (.int (nI kb)), some (.int (nI k))]) (st' := [.ref 70, .int (fi 79 k)]) (h' := (shT, fi, fl, fr)) rfl ?_
          refine g_getR (q' := 79) rfl rfl (by decide) r_70_29 ?_
          refine g_n 1 (j' := 21) (lv' := [some (.ref 70), some (.int (nI M)), some (.int (nI kb)), some (.int (nI k))]) (st' := [.int (nI kb), .ref 79, .int (fi 79 k)]) (h' := (shT, fi, fl, fr)) rfl ?_
          refine g_iald (k := kb) (x := fi 79 kb) rfl rfl (rfl) (by omega) (by decide) (rfl) ?_
          refine g_icf rfl (show ¬ ((fi 79 kb) ≤ (fi 79 k)) from c3) ?_
          refine g_n 4 (j' := 4) (lv' := [some (.ref 70), some (.int (nI M)), some (.int (nI k)), some (.int ((nI k) + 1))]) (st' := []) (h' := (shT, fi, fl, fr)) rfl ?_
          rw [nI_1]
          exact g
theorem lo_ev {fi : Nat → Nat → Int32} {fl : Nat → Nat → Int64} {fr : Nat → Nat → Option Nat} (r_70_29 : fr 70 29 = some 79) (r_70_30 : fr 70 30 = some 80) {M : Nat} (hM : M ≤ 16) (hq : ∃ q, q < M ∧ ¬ fi 80 q < 0) : ∃ kb, kb < M ∧ ¬ fi 80 kb < 0 ∧ Ev pmT 197 [.ref 70, .int (nI M)] (shT, fi, fl, fr) (some (.int (nI kb))) (shT, fi, fl, fr) := by
  obtain ⟨b', g, hb⟩ := lo_go (fl := fl) r_70_29 r_70_30 hM M 0 (-1) (by omega) (Or.inl ⟨rfl, fun q hq => absurd hq (by omega)⟩)
  rcases hb with ⟨e, z⟩ | ⟨kb, z1, z2, z3⟩
  · obtain ⟨q, q1, q2⟩ := hq
    exact absurd (z q q1) q2
  · subst z2
    refine ⟨kb, z1, z3, Ev.of (es := cd_197) (ml := 4) (lv := [some (.ref 70), some (.int (nI M)), none, none]) rfl rfl rfl ?_⟩
    refine g_n 4 (j' := 4) (lv' := [some (.ref 70), some (.int (nI M)), some (.int (-1)), some (.int 0)]) (st' := []) (h' := (shT, fi, fl, fr)) rfl ?_
    exact g
