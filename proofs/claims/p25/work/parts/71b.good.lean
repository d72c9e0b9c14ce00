theorem and_1 (x : Int32) : x &&& 1 = 0 ∨ x &&& 1 = 1 := by
  rw [pk_and x 1 (by decide +kernel)]
  have : x.toBitVec.toNat % 2 ^ 1 = 0 ∨ x.toBitVec.toNat % 2 ^ 1 = 1 := by omega
  rcases this with z | z <;> rw [z]
  · exact Or.inl rfl
  · exact Or.inr rfl
theorem bitAt_bl {v i : Nat} (hv : v < 64) (hi : i < 64) : bl (bitAt v) i = decide (i = v) := by
  unfold bitAt
  rw [bl_shl v hv 1 hi]
  by_cases h : v ≤ i
  · rw [bl_1 _ (by omega), decide_eq_true h, Bool.true_and]
    by_cases h2 : i = v
    · rw [decide_eq_true h2, decide_eq_true (by omega)]
    · rw [decide_eq_false h2, decide_eq_false (by omega)]
  · rw [decide_eq_false h, decide_eq_false (by omega)]
    rfl
theorem m1_add (x : Int32) : x - 1 = x + (-1) := Int32.sub_eq_add_neg x 1
/-- z of a channel, level by level from the highest -/
def zst (ch : Int32) (l : Nat) (z : Int64) : Int64 := if (ch >>> (nI l &&& 31)) &&& 1 = 0 then 2 * z - z * z / 1000000000 else z * z / 1000000000
def zfr (ch : Int32) : Nat → Int64 → Int64
  | 0, z => z
  | l + 1, z => zfr ch l (zst ch l z)
def zS (er : Int32) (m : Nat) (ch : Int32) : Int64 := zfr ch m (er.toInt64 * 1000000)
theorem bd_go_1 {ch : Int32} {fi : Nat → Nat → Int32} {fl : Nat → Nat → Int64} {fr : Nat → Nat → Option Nat} : ∀ (n : Nat) (z : Int64) (l5 : Option Value), n ≤ 6 → Go pmT none cd_45 11 [some (.ref 1), some (.int ch), some (.long z), none, some (.int (nI n + (-1))), l5, none] [] (shT, fi, fl, fr) (some (.long (zfr ch n z)), (shT, fi, fl, fr)) := by
  intro n
  induction n with
  | zero =>
    intro z l5 hn
    refine go_of ?_
    refine gp_n 1 (j' := 12) (lv' := [some (.ref 1), some (.int ch), some (.long z), none, some (.int (nI 0 + (-1))), l5, none]) (st' := [.int (nI 0 + (-1))]) (h' := (shT, fi, fl, fr)) rfl ?_
    refine gp_of (fun _ k9 => g_ift rfl (show (nI 0 + (-1)) < (0 : Int32) from by decide) k9) ?_
    refine gp_n 1 (j' := 36) (lv' := [some (.ref 1), some (.int ch), some (.long z), none, some (.int (nI 0 + (-1))), l5, none]) (st' := [.long z]) (h' := (shT, fi, fl, fr)) rfl ?_
    refine gp_done (g_lret rfl) ?_
    rfl
  | succ l ih =>
    intro z l5 hn
    have g := ih (zst ch l z) (some (.long (z * z / 1000000000))) (by omega)
    rw [pk_m1]
    refine go_of ?_
    by_cases hc : (ch >>> (nI l &&& 31)) &&& 1 = 0
    · have e : zst ch l z = 2 * z - z * z / 1000000000 := if_pos hc
      rw [zfr]
      rw [e] at g ⊢
      refine gp_n 1 (j' := 12) (lv' := [some (.ref 1), some (.int ch), some (.long z), none, some (.int (nI l)), l5, none]) (st' := [.int (nI l)]) (h' := (shT, fi, fl, fr)) rfl ?_
      refine gp_of (fun _ k9 => g_iff rfl (show ¬ ((nI l) < (0 : Int32)) from nI_pos (by omega)) k9) ?_
      refine gp_n 11 (j' := 24) (lv' := [some (.ref 1), some (.int ch), some (.long z), none, some (.int (nI l)), some (.long ((z * z) / 1000000000)), none]) (st' := [.int ((ch >>> ((nI l) &&& 31)) &&& 1)]) (h' := (shT, fi, fl, fr)) rfl ?_
      refine gp_of (fun _ k9 => g_iff rfl (show ¬ (¬ ((ch >>> ((nI l) &&& 31)) &&& 1) = (0 : Int32)) from fun q => q hc) k9) ?_
      refine gp_n 9 (j' := 11) (lv' := [some (.ref 1), some (.int ch), some (.long (((2 : Int64) * z) - ((z * z) / 1000000000))), none, some (.int ((nI l) + (-1))), some (.long ((z * z) / 1000000000)), none]) (st' := []) (h' := (shT, fi, fl, fr)) rfl ?_
      exact gp_done g rfl
    · have e : zst ch l z = z * z / 1000000000 := if_neg hc
      rw [zfr]
      rw [e] at g ⊢
      refine gp_n 1 (j' := 12) (lv' := [some (.ref 1), some (.int ch), some (.long z), none, some (.int (nI l)), l5, none]) (st' := [.int (nI l)]) (h' := (shT, fi, fl, fr)) rfl ?_
      refine gp_of (fun _ k9 => g_iff rfl (show ¬ ((nI l) < (0 : Int32)) from nI_pos (by omega)) k9) ?_
      refine gp_n 11 (j' := 24) (lv' := [some (.ref 1), some (.int ch), some (.long z), none, some (.int (nI l)), some (.long ((z * z) / 1000000000)), none]) (st' := [.int ((ch >>> ((nI l) &&& 31)) &&& 1)]) (h' := (shT, fi, fl, fr)) rfl ?_
      refine gp_of (fun _ k9 => g_ift rfl (show ¬ ((ch >>> ((nI l) &&& 31)) &&& 1) = (0 : Int32) from hc) k9) ?_
      refine gp_n 4 (j' := 11) (lv' := [some (.ref 1), some (.int ch), some (.long ((z * z) / 1000000000)), none, some (.int ((nI l) + (-1))), some (.long ((z * z) / 1000000000)), none]) (st' := []) (h' := (shT, fi, fl, fr)) rfl ?_
      exact gp_done g rfl
theorem bd_ev_1 {h : PmH} (hI : HI hdT shT h) {er ch : Int32} {m : Nat} (c5 : ph_i h 1 5 = er) (c0 : ph_i h 1 0 = nI m) (hm : m ≤ 6) : Ev pmT 45 [.ref 1, .int ch] h (some (.long (zS er m ch))) h := by
  refine Ev.of (es := cd_45) (ml := 7) (lv := [some (.ref 1), some (.int ch), none, none, none, none, none]) rfl rfl rfl ?_
  obtain ⟨S, fi, fl, fr⟩ := h
  have hS : S = shT := hI.1
  subst hS
  have c5 : fi 1 5 = er := c5
  have c0 : fi 1 0 = nI m := c0
  have g := bd_go_1 (ch := ch) (fi := fi) (fl := fl) (fr := fr) m (er.toInt64 * 1000000) none hm
  refine go_of ?_
  refine gp_n 1 (j' := 1) (lv' := [some (.ref 1), some (.int ch), none, none, none, none, none]) (st' := [.ref 1]) (h' := (shT, fi, fl, fr)) rfl ?_
  refine gp_of (fun _ k9 => g_getI (x := er) rfl (Or.inl rfl) rfl (by decide) (c5) k9) ?_
  refine gp_n 5 (j' := 7) (lv' := [some (.ref 1), some (.int ch), some (.long (er.toInt64 * 1000000)), none, none, none, none]) (st' := [.ref 1]) (h' := (shT, fi, fl, fr)) rfl ?_
  refine gp_of (fun _ k9 => g_getI (x := nI m) rfl (Or.inl rfl) rfl (by decide) (c0) k9) ?_
  refine gp_n 2 (j' := 10) (lv' := [some (.ref 1), some (.int ch), some (.long (er.toInt64 * 1000000)), none, none, none, none]) (st' := [.int ((nI m) - 1)]) (h' := (shT, fi, fl, fr)) rfl ?_
  rw [m1_add]
  refine gp_n 1 (j' := 11) (lv' := [some (.ref 1), some (.int ch), some (.long (er.toInt64 * 1000000)), none, some (.int (nI m + (-1))), none, none]) (st' := []) (h' := (shT, fi, fl, fr)) rfl ?_
  exact gp_done g rfl
theorem bd_go_9 {ch : Int32} {fi : Nat → Nat → Int32} {fl : Nat → Nat → Int64} {fr : Nat → Nat → Option Nat} : ∀ (n : Nat) (z : Int64) (l5 : Option Value), n ≤ 6 → Go pmT none cd_45 11 [some (.ref 9), some (.int ch), some (.long z), none, some (.int (nI n + (-1))), l5, none] [] (shT, fi, fl, fr) (some (.long (zfr ch n z)), (shT, fi, fl, fr)) := by
  intro n
  induction n with
  | zero =>
    intro z l5 hn
    refine go_of ?_
    refine gp_n 1 (j' := 12) (lv' := [some (.ref 9), some (.int ch), some (.long z), none, some (.int (nI 0 + (-1))), l5, none]) (st' := [.int (nI 0 + (-1))]) (h' := (shT, fi, fl, fr)) rfl ?_
    refine gp_of (fun _ k9 => g_ift rfl (show (nI 0 + (-1)) < (0 : Int32) from by decide) k9) ?_
    refine gp_n 1 (j' := 36) (lv' := [some (.ref 9), some (.int ch), some (.long z), none, some (.int (nI 0 + (-1))), l5, none]) (st' := [.long z]) (h' := (shT, fi, fl, fr)) rfl ?_
    refine gp_done (g_lret rfl) ?_
    rfl
  | succ l ih =>
    intro z l5 hn
    have g := ih (zst ch l z) (some (.long (z * z / 1000000000))) (by omega)
    rw [pk_m1]
    refine go_of ?_
    by_cases hc : (ch >>> (nI l &&& 31)) &&& 1 = 0
    · have e : zst ch l z = 2 * z - z * z / 1000000000 := if_pos hc
      rw [zfr]
      rw [e] at g ⊢
      refine gp_n 1 (j' := 12) (lv' := [some (.ref 9), some (.int ch), some (.long z), none, some (.int (nI l)), l5, none]) (st' := [.int (nI l)]) (h' := (shT, fi, fl, fr)) rfl ?_
      refine gp_of (fun _ k9 => g_iff rfl (show ¬ ((nI l) < (0 : Int32)) from nI_pos (by omega)) k9) ?_
      refine gp_n 11 (j' := 24) (lv' := [some (.ref 9), some (.int ch), some (.long z), none, some (.int (nI l)), some (.long ((z * z) / 1000000000)), none]) (st' := [.int ((ch >>> ((nI l) &&& 31)) &&& 1)]) (h' := (shT, fi, fl, fr)) rfl ?_
      refine gp_of (fun _ k9 => g_iff rfl (show ¬ (¬ ((ch >>> ((nI l) &&& 31)) &&& 1) = (0 : Int32)) from fun q => q hc) k9) ?_
      refine gp_n 9 (j' := 11) (lv' := [some (.ref 9), some (.int ch), some (.long (((2 : Int64) * z) - ((z * z) / 1000000000))), none, some (.int ((nI l) + (-1))), some (.long ((z * z) / 1000000000)), none]) (st' := []) (h' := (shT, fi, fl, fr)) rfl ?_
      exact gp_done g rfl
    · have e : zst ch l z = z * z / 1000000000 := if_neg hc
      rw [zfr]
      rw [e] at g ⊢
      refine gp_n 1 (j' := 12) (lv' := [some (.ref 9), some (.int ch), some (.long z), none, some (.int (nI l)), l5, none]) (st' := [.int (nI l)]) (h' := (shT, fi, fl, fr)) rfl ?_
      refine gp_of (fun _ k9 => g_iff rfl (show ¬ ((nI l) < (0 : Int32)) from nI_pos (by omega)) k9) ?_
      refine gp_n 11 (j' := 24) (lv' := [some (.ref 9), some (.int ch), some (.long z), none, some (.int (nI l)), some (.long ((z * z) / 1000000000)), none]) (st' := [.int ((ch >>> ((nI l) &&& 31)) &&& 1)]) (h' := (shT, fi, fl, fr)) rfl ?_
      refine gp_of (fun _ k9 => g_ift rfl (show ¬ ((ch >>> ((nI l) &&& 31)) &&& 1) = (0 : Int32) from hc) k9) ?_
      refine gp_n 4 (j' := 11) (lv' := [some (.ref 9), some (.int ch), some (.long ((z * z) / 1000000000)), none, some (.int ((nI l) + (-1))), some (.long ((z * z) / 1000000000)), none]) (st' := []) (h' := (shT, fi, fl, fr)) rfl ?_
      exact gp_done g rfl
theorem bd_ev_9 {h : PmH} (hI : HI hdT shT h) {er ch : Int32} {m : Nat} (c5 : ph_i h 9 5 = er) (c0 : ph_i h 9 0 = nI m) (hm : m ≤ 6) : Ev pmT 45 [.ref 9, .int ch] h (some (.long (zS er m ch))) h := by
  refine Ev.of (es := cd_45) (ml := 7) (lv := [some (.ref 9), some (.int ch), none, none, none, none, none]) rfl rfl rfl ?_
  obtain ⟨S, fi, fl, fr⟩ := h
  have hS : S = shT := hI.1
  subst hS
  have c5 : fi 9 5 = er := c5
  have c0 : fi 9 0 = nI m := c0
  have g := bd_go_9 (ch := ch) (fi := fi) (fl := fl) (fr := fr) m (er.toInt64 * 1000000) none hm
  refine go_of ?_
  refine gp_n 1 (j' := 1) (lv' := [some (.ref 9), some (.int ch), none, none, none, none, none]) (st' := [.ref 9]) (h' := (shT, fi, fl, fr)) rfl ?_
  refine gp_of (fun _ k9 => g_getI (x := er) rfl (Or.inl rfl) rfl (by decide) (c5) k9) ?_
  refine gp_n 5 (j' := 7) (lv' := [some (.ref 9), some (.int ch), some (.long (er.toInt64 * 1000000)), none, none, none, none]) (st' := [.ref 9]) (h' := (shT, fi, fl, fr)) rfl ?_
  refine gp_of (fun _ k9 => g_getI (x := nI m) rfl (Or.inl rfl) rfl (by decide) (c0) k9) ?_
  refine gp_n 2 (j' := 10) (lv' := [some (.ref 9), some (.int ch), some (.long (er.toInt64 * 1000000)), none, none, none, none]) (st' := [.int ((nI m) - 1)]) (h' := (shT, fi, fl, fr)) rfl ?_
  rw [m1_add]
  refine gp_n 1 (j' := 11) (lv' := [some (.ref 9), some (.int ch), some (.long (er.toInt64 * 1000000)), none, some (.int (nI m + (-1))), none, none]) (st' := []) (h' := (shT, fi, fl, fr)) rfl ?_
  exact gp_done g rfl
theorem zo_go {ch : Int32} {fi : Nat → Nat → Int32} {fl : Nat → Nat → Int64} {fr : Nat → Nat → Option Nat} : ∀ (n : Nat) (z : Int64) (l5 : Option Value), n ≤ 6 → Go pmT none cd_166 11 [some (.ref 70), some (.int ch), some (.long z), none, some (.int (nI n + (-1))), l5, none] [] (shT, fi, fl, fr) (some (.long (zfr ch n z)), (shT, fi, fl, fr)) := by
  intro n
  induction n with
  | zero =>
    intro z l5 hn
    refine go_of ?_
    refine gp_n 1 (j' := 12) (lv' := [some (.ref 70), some (.int ch), some (.long z), none, some (.int (nI 0 + (-1))), l5, none]) (st' := [.int (nI 0 + (-1))]) (h' := (shT, fi, fl, fr)) rfl ?_
    refine gp_of (fun _ k9 => g_ift rfl (show (nI 0 + (-1)) < (0 : Int32) from by decide) k9) ?_
    refine gp_n 1 (j' := 37) (lv' := [some (.ref 70), some (.int ch), some (.long z), none, some (.int (nI 0 + (-1))), l5, none]) (st' := [.long z]) (h' := (shT, fi, fl, fr)) rfl ?_
    refine gp_done (g_lret rfl) ?_
    rfl
  | succ l ih =>
    intro z l5 hn
    have g := ih (zst ch l z) (some (.long (z * z / 1000000000))) (by omega)
    rw [pk_m1]
    refine go_of ?_
    by_cases hc : (ch >>> (nI l &&& 31)) &&& 1 = 0
    · have e : zst ch l z = 2 * z - z * z / 1000000000 := if_pos hc
      rw [zfr]
      rw [e] at g ⊢
      refine gp_n 1 (j' := 12) (lv' := [some (.ref 70), some (.int ch), some (.long z), none, some (.int (nI l)), l5, none]) (st' := [.int (nI l)]) (h' := (shT, fi, fl, fr)) rfl ?_
      refine gp_of (fun _ k9 => g_iff rfl (show ¬ ((nI l) < (0 : Int32)) from nI_pos (by omega)) k9) ?_
      refine gp_n 12 (j' := 25) (lv' := [some (.ref 70), some (.int ch), some (.long z), none, some (.int (nI l)), some (.long ((z * z) / 1000000000)), none]) (st' := [.int 1, .int ((ch >>> ((nI l) &&& 31)) &&& 1)]) (h' := (shT, fi, fl, fr)) rfl ?_
      refine gp_of (fun _ k9 => g_ict rfl (show ¬ ((ch >>> ((nI l) &&& 31)) &&& 1) = (1 : Int32) from (by rw [hc]; decide)) k9) ?_
      refine gp_n 8 (j' := 11) (lv' := [some (.ref 70), some (.int ch), some (.long (((2 : Int64) * z) - ((z * z) / 1000000000))), none, some (.int ((nI l) + (-1))), some (.long ((z * z) / 1000000000)), none]) (st' := []) (h' := (shT, fi, fl, fr)) rfl ?_
      exact gp_done g rfl
    · have e : zst ch l z = z * z / 1000000000 := if_neg hc
      have hc1 := (and_1 (ch >>> (nI l &&& 31))).resolve_left hc
      rw [zfr]
      rw [e] at g ⊢
      refine gp_n 1 (j' := 12) (lv' := [some (.ref 70), some (.int ch), some (.long z), none, some (.int (nI l)), l5, none]) (st' := [.int (nI l)]) (h' := (shT, fi, fl, fr)) rfl ?_
      refine gp_of (fun _ k9 => g_iff rfl (show ¬ ((nI l) < (0 : Int32)) from nI_pos (by omega)) k9) ?_
      refine gp_n 12 (j' := 25) (lv' := [some (.ref 70), some (.int ch), some (.long z), none, some (.int (nI l)), some (.long ((z * z) / 1000000000)), none]) (st' := [.int 1, .int ((ch >>> ((nI l) &&& 31)) &&& 1)]) (h' := (shT, fi, fl, fr)) rfl ?_
      refine gp_of (fun _ k9 => g_icf rfl (show ¬ (¬ ((ch >>> ((nI l) &&& 31)) &&& 1) = (1 : Int32)) from fun q => q hc1) k9) ?_
      refine gp_n 5 (j' := 11) (lv' := [some (.ref 70), some (.int ch), some (.long ((z * z) / 1000000000)), none, some (.int ((nI l) + (-1))), some (.long ((z * z) / 1000000000)), none]) (st' := []) (h' := (shT, fi, fl, fr)) rfl ?_
      exact gp_done g rfl
theorem zo_ev {h : PmH} (hI : HI hdT shT h) {er ch : Int32} {m : Nat} (c5 : ph_i h 70 19 = er) (c0 : ph_i h 70 15 = nI m) (hm : m ≤ 6) : Ev pmT 166 [.ref 70, .int ch] h (some (.long (zS er m ch))) h := by
  refine Ev.of (es := cd_166) (ml := 7) (lv := [some (.ref 70), some (.int ch), none, none, none, none, none]) rfl rfl rfl ?_
  obtain ⟨S, fi, fl, fr⟩ := h
  have hS : S = shT := hI.1
  subst hS
  have c5 : fi 70 19 = er := c5
  have c0 : fi 70 15 = nI m := c0
  have g := zo_go (ch := ch) (fi := fi) (fl := fl) (fr := fr) m (er.toInt64 * 1000000) none hm
  refine go_of ?_
  refine gp_n 1 (j' := 1) (lv' := [some (.ref 70), some (.int ch), none, none, none, none, none]) (st' := [.ref 70]) (h' := (shT, fi, fl, fr)) rfl ?_
  refine gp_of (fun _ k9 => g_getI (x := er) rfl (Or.inl rfl) rfl (by decide) (c5) k9) ?_
  refine gp_n 5 (j' := 7) (lv' := [some (.ref 70), some (.int ch), some (.long (er.toInt64 * 1000000)), none, none, none, none]) (st' := [.ref 70]) (h' := (shT, fi, fl, fr)) rfl ?_
  refine gp_of (fun _ k9 => g_getI (x := nI m) rfl (Or.inl rfl) rfl (by decide) (c0) k9) ?_
  refine gp_n 2 (j' := 10) (lv' := [some (.ref 70), some (.int ch), some (.long (er.toInt64 * 1000000)), none, none, none, none]) (st' := [.int ((nI m) - 1)]) (h' := (shT, fi, fl, fr)) rfl ?_
  rw [m1_add]
  refine gp_n 1 (j' := 11) (lv' := [some (.ref 70), some (.int ch), some (.long (er.toInt64 * 1000000)), none, some (.int (nI m + (-1))), none, none]) (st' := []) (h' := (shT, fi, fl, fr)) rfl ?_
  exact gp_done g rfl
def goodS (a : AB) (m : Nat) (x : Int32) : Int64 := if 0 ≤ x ∧ x < (a_v a).1 1 then zS ((a_v a).1 5) m x else -1
theorem god_C {L : Bool} {h : PmH} {a : AB} {m : Nat} {x : Int32} (hI : HI hdT shT h) (hR : QC L h a) (hm : m ≤ 6) (em : (a_v a).1 0 = nI m) : Ev pmT 51 [.ref 0, .int x] h (some (.long (goodS a m x))) h := by
  have f := hR.2.2.2.2.1
  have c1 := f.1 1 (by decide)
  have bd := bd_ev_1 (ch := x) hI (f.1 5 (by decide)) ((f.1 0 (by decide)).trans em) hm
  have k0 : ph_r h 0 0 = some 1 := hi_r hI rfl rfl (by decide)
  have t1 := hch1 (x := x) hI c1
  have t0 := hch0 (x := x) hI c1
  refine Ev.of (es := cd_51) (ml := 2) (lv := [some (.ref 0), some (.int x)]) rfl rfl rfl ?_
  obtain ⟨S, fi, fl, fr⟩ := h
  have hS : S = shT := hI.1
  subst hS
  have k0 : fr 0 0 = some 1 := k0
  refine go_of ?_
  unfold goodS
  by_cases hc : 0 ≤ x ∧ x < (a_v a).1 1
  · rw [if_pos hc]
    refine gp_n 1 (j' := 1) (lv' := [some (.ref 0), some (.int x)]) (st' := [.ref 0]) (h' := (shT, fi, fl, fr)) rfl ?_
    refine gp_of (fun _ k9 => g_getR (q' := 1) rfl rfl (by decide) k0 k9) ?_
    refine gp_n 1 (j' := 3) (lv' := [some (.ref 0), some (.int x)]) (st' := [.int x, .ref 1]) (h' := (shT, fi, fl, fr)) rfl ?_
    refine gp_of (fun _ k9 => g_call (y := 52) (as := [.ref 1, .int x]) (st' := []) rfl rfl (t1 hc) k9) ?_
    refine gp_of (fun _ k9 => g_iff rfl (show ¬ ((1 : Int32) = (0 : Int32)) from by decide) k9) ?_
    refine gp_n 1 (j' := 6) (lv' := [some (.ref 0), some (.int x)]) (st' := [.ref 0]) (h' := (shT, fi, fl, fr)) rfl ?_
    refine gp_of (fun _ k9 => g_getR (q' := 1) rfl rfl (by decide) k0 k9) ?_
    refine gp_n 1 (j' := 8) (lv' := [some (.ref 0), some (.int x)]) (st' := [.int x, .ref 1]) (h' := (shT, fi, fl, fr)) rfl ?_
    refine gp_of (fun _ k9 => g_call (y := 45) (as := [.ref 1, .int x]) (st' := []) rfl rfl (bd) k9) ?_
    refine gp_n 1 (j' := 11) (lv' := [some (.ref 0), some (.int x)]) (st' := [.long (zS ((a_v a).1 5) m x)]) (h' := (shT, fi, fl, fr)) rfl ?_
    refine gp_done (g_lret rfl) ?_
    rfl
  · rw [if_neg hc]
    refine gp_n 1 (j' := 1) (lv' := [some (.ref 0), some (.int x)]) (st' := [.ref 0]) (h' := (shT, fi, fl, fr)) rfl ?_
    refine gp_of (fun _ k9 => g_getR (q' := 1) rfl rfl (by decide) k0 k9) ?_
    refine gp_n 1 (j' := 3) (lv' := [some (.ref 0), some (.int x)]) (st' := [.int x, .ref 1]) (h' := (shT, fi, fl, fr)) rfl ?_
    refine gp_of (fun _ k9 => g_call (y := 52) (as := [.ref 1, .int x]) (st' := []) rfl rfl (t0 hc) k9) ?_
    refine gp_of (fun _ k9 => g_ift rfl (show (0 : Int32) = (0 : Int32) from by decide) k9) ?_
    refine gp_n 1 (j' := 11) (lv' := [some (.ref 0), some (.int x)]) (st' := [.long (-1)]) (h' := (shT, fi, fl, fr)) rfl ?_
    refine gp_done (g_lret rfl) ?_
    rfl
theorem god_M {L : Bool} {h : PmH} {a : AB} {m : Nat} {x : Int32} (hI : HI hdT shT h) (hR : QM L h a) (hm : m ≤ 6) (em : (a_v a).1 0 = nI m) : Ev pmT 167 [.ref 70, .int x] h (some (.long (goodS a m x))) h := by
  have f := hR.2.2.2.2.1
  have c1 : ph_i h 70 14 = (a_v a).1 1 := f.1 0 (by decide)
  have bd := zo_ev (ch := x) hI (f.1 5 (by decide)) ((f.1 1 (by decide)).trans em) hm
  have t1 := ich1 (x := x) hI c1
  have t0 := ich0 (x := x) hI c1
  refine Ev.of (es := cd_167) (ml := 2) (lv := [some (.ref 70), some (.int x)]) rfl rfl rfl ?_
  obtain ⟨S, fi, fl, fr⟩ := h
  have hS : S = shT := hI.1
  subst hS
  refine go_of ?_
  unfold goodS
  by_cases hc : 0 ≤ x ∧ x < (a_v a).1 1
  · rw [if_pos hc]
    refine gp_n 2 (j' := 2) (lv' := [some (.ref 70), some (.int x)]) (st' := [.int x, .ref 70]) (h' := (shT, fi, fl, fr)) rfl ?_
    refine gp_of (fun _ k9 => g_call (y := 168) (as := [.ref 70, .int x]) (st' := []) rfl rfl (t1 hc) k9) ?_
    refine gp_of (fun _ k9 => g_iff rfl (show ¬ ((1 : Int32) = (0 : Int32)) from by decide) k9) ?_
    refine gp_n 2 (j' := 6) (lv' := [some (.ref 70), some (.int x)]) (st' := [.int x, .ref 70]) (h' := (shT, fi, fl, fr)) rfl ?_
    refine gp_of (fun _ k9 => g_call (y := 166) (as := [.ref 70, .int x]) (st' := []) rfl rfl (bd) k9) ?_
    refine gp_n 1 (j' := 9) (lv' := [some (.ref 70), some (.int x)]) (st' := [.long (zS ((a_v a).1 5) m x)]) (h' := (shT, fi, fl, fr)) rfl ?_
    refine gp_done (g_lret rfl) ?_
    rfl
  · rw [if_neg hc]
    refine gp_n 2 (j' := 2) (lv' := [some (.ref 70), some (.int x)]) (st' := [.int x, .ref 70]) (h' := (shT, fi, fl, fr)) rfl ?_
    refine gp_of (fun _ k9 => g_call (y := 168) (as := [.ref 70, .int x]) (st' := []) rfl rfl (t0 hc) k9) ?_
    refine gp_of (fun _ k9 => g_ift rfl (show (0 : Int32) = (0 : Int32) from by decide) k9) ?_
    refine gp_n 1 (j' := 9) (lv' := [some (.ref 70), some (.int x)]) (st' := [.long (-1)]) (h' := (shT, fi, fl, fr)) rfl ?_
    refine gp_done (g_lret rfl) ?_
    rfl
theorem bl_us (n : Nat) (hn : n < 64) (x : Int64) (i : Nat) : bl (us6 x (nI n)) i = bl x (n + i) := by
  have e : nn (us6 x (nI n)) = nn x / 2 ^ n := us6_n x (nI n) n (by
    have : ∀ n, n < 64 → ((nI n : Int32).toInt64.toUInt64 &&& Int64.toUInt64 63).toNat % 64 = n := by decide +kernel
    exact this n hn)
  have h1 : bl (us6 x (nI n)) i = (nn (us6 x (nI n))).testBit i := rfl
  have h2 : bl x (n + i) = (nn x).testBit (n + i) := rfl
  rw [h1, h2, e, Nat.testBit_div_two_pow, Nat.add_comm]
theorem and_b1 (y : Int64) : y &&& 1 = if bl y 0 = true then 1 else 0 := by
  refine bl_ext (fun i hi => ?_)
  rw [bl_and, bl_1 i hi]
  by_cases h0 : i = 0
  · subst h0
    cases bl y 0
    · rfl
    · rfl
  · rw [decide_eq_false h0, Bool.and_false]
    split
    · rw [bl_1 i hi, decide_eq_false h0]
    · rw [bl_0 i hi]
theorem ub_bit (x : Int64) {n : Nat} (hn : n < 64) : (us6 x (nI n) &&& 1).toInt32 = b01 (bl x n) := by
  rw [and_b1, bl_us n hn x 0, Nat.add_zero]
  cases bl x n
  · rfl
  · rfl
/-- the check, bit by bit -/
def ckst (c : Nat) (po : Int32) (b : Bool) (r : Int32) : Int32 := if (r >>> ((nI c - 1) &&& 31)) &&& 1 = b01 b then (2 * r) &&& ((1 : Int32) <<< (nI c &&& 31) - 1) else ((2 * r) &&& ((1 : Int32) <<< (nI c &&& 31) - 1)) ^^^ (po &&& ((1 : Int32) <<< (nI c &&& 31) - 1))
def ckN (c : Nat) (po : Int32) (w : Int64) : Nat → Nat → Int32 → Int32
  | 0, _, r => r
  | n + 1, i, r => ckN c po w n (i + 1) (ckst c po (bl w i) r)
def ckS (k c : Nat) (po : Int32) (w : Int64) : Int32 := if c = 0 then 0 else ckN c po w k 0 0
theorem ck_go_1 {k c : Nat} {po : Int32} {w : Int64} {fi : Nat → Nat → Int32} {fl : Nat → Nat → Int64} {fr : Nat → Nat → Option Nat} (hk : k ≤ 64) (c3 : fi 1 3 = nI c) (c2 : fi 1 2 = nI k) (c4 : fi 1 4 = po) : ∀ (n i : Nat) (r : Int32) (l6 l7 : Option Value), i + n = k → Go pmT none cd_60 16 [some (.ref 1), some (.long w), none, some (.int ((1 : Int32) <<< (nI c &&& 31) - 1)), some (.int r), some (.int (nI i)), l6, l7] [] (shT, fi, fl, fr) (some (.int (ckN c po w n i r)), (shT, fi, fl, fr)) := by
  intro n
  induction n with
  | zero =>
    intro i r l6 l7 hi
    have hi : i = k := by omega
    subst hi
    refine go_of ?_
    refine gp_n 2 (j' := 18) (lv' := [some (.ref 1), some (.long w), none, some (.int ((1 : Int32) <<< (nI c &&& 31) - 1)), some (.int r), some (.int (nI i)), l6, l7]) (st' := [.ref 1, .int (nI i)]) (h' := (shT, fi, fl, fr)) rfl ?_
    refine gp_of (fun _ k9 => g_getI (x := nI i) rfl (Or.inl rfl) rfl (by decide) (c2) k9) ?_
    refine gp_of (fun _ k9 => g_ict rfl (show (nI i) ≤ (nI i) from Int32.le_refl _) k9) ?_
    refine gp_n 1 (j' := 55) (lv' := [some (.ref 1), some (.long w), none, some (.int ((1 : Int32) <<< (nI c &&& 31) - 1)), some (.int r), some (.int (nI i)), l6, l7]) (st' := [.int r]) (h' := (shT, fi, fl, fr)) rfl ?_
    refine gp_done (g_ret rfl) ?_
    rfl
  | succ n ih =>
    intro i r l6 l7 hi
    have ub := ub_bit w (n := i) (by omega)
    have ub : (((w.toUInt64 >>> ((nI i : Int32).toInt64.toUInt64 &&& Int64.toUInt64 63)).toInt64) &&& 1).toInt32 = b01 (bl w i) := ub
    have g := ih (i + 1) (ckst c po (bl w i) r) (some (.int ((r >>> ((nI c - 1) &&& 31)) &&& 1))) (some (.int (b01 (bl w i)))) (by omega)
    rw [ckN]
    refine go_of ?_
    by_cases hc : (r >>> ((nI c - 1) &&& 31)) &&& 1 = b01 (bl w i)
    · have e : ckst c po (bl w i) r = (2 * r) &&& ((1 : Int32) <<< (nI c &&& 31) - 1) := if_pos hc
      rw [e] at g ⊢
      refine gp_n 2 (j' := 18) (lv' := [some (.ref 1), some (.long w), none, some (.int ((1 : Int32) <<< (nI c &&& 31) - 1)), some (.int r), some (.int (nI i)), l6, l7]) (st' := [.ref 1, .int (nI i)]) (h' := (shT, fi, fl, fr)) rfl ?_
      refine gp_of (fun _ k9 => g_getI (x := nI k) rfl (Or.inl rfl) rfl (by decide) (c2) k9) ?_
      refine gp_of (fun _ k9 => g_icf rfl (show ¬ ((nI k) ≤ (nI i)) from nI_ge (by omega) (by omega)) k9) ?_
      refine gp_n 2 (j' := 22) (lv' := [some (.ref 1), some (.long w), none, some (.int ((1 : Int32) <<< (nI c &&& 31) - 1)), some (.int r), some (.int (nI i)), l6, l7]) (st' := [.ref 1, .int r]) (h' := (shT, fi, fl, fr)) rfl ?_
      refine gp_of (fun _ k9 => g_getI (x := nI c) rfl (Or.inl rfl) rfl (by decide) (c3) k9) ?_
      refine gp_n 12 (j' := 35) (lv' := [some (.ref 1), some (.long w), none, some (.int ((1 : Int32) <<< (nI c &&& 31) - 1)), some (.int r), some (.int (nI i)), some (.int ((r >>> (((nI c) - 1) &&& 31)) &&& 1)), l7]) (st' := [.int ((((w.toUInt64 >>> ((nI i : Int32).toInt64.toUInt64 &&& Int64.toUInt64 63)).toInt64) &&& 1).toInt32)]) (h' := (shT, fi, fl, fr)) rfl ?_
      rw [ub]
      refine gp_n 9 (j' := 44) (lv' := [some (.ref 1), some (.long w), none, some (.int ((1 : Int32) <<< (nI c &&& 31) - 1)), some (.int (((2 : Int32) * r) &&& ((1 : Int32) <<< (nI c &&& 31) - 1))), some (.int (nI i)), some (.int ((r >>> (((nI c) - 1) &&& 31)) &&& 1)), some (.int (b01 (bl w i)))]) (st' := [.int (b01 (bl w i)), .int ((r >>> (((nI c) - 1) &&& 31)) &&& 1)]) (h' := (shT, fi, fl, fr)) rfl ?_
      refine gp_of (fun _ k9 => g_ict rfl (show ((r >>> (((nI c) - 1) &&& 31)) &&& 1) = (b01 (bl w i)) from hc) k9) ?_
      refine gp_n 2 (j' := 16) (lv' := [some (.ref 1), some (.long w), none, some (.int ((1 : Int32) <<< (nI c &&& 31) - 1)), some (.int (((2 : Int32) * r) &&& ((1 : Int32) <<< (nI c &&& 31) - 1))), some (.int ((nI i) + 1)), some (.int ((r >>> (((nI c) - 1) &&& 31)) &&& 1)), some (.int (b01 (bl w i)))]) (st' := []) (h' := (shT, fi, fl, fr)) rfl ?_
      rw [nI_1]
      exact gp_done g rfl
    · have e : ckst c po (bl w i) r = ((2 * r) &&& ((1 : Int32) <<< (nI c &&& 31) - 1)) ^^^ (po &&& ((1 : Int32) <<< (nI c &&& 31) - 1)) := if_neg hc
      rw [e] at g ⊢
      refine gp_n 2 (j' := 18) (lv' := [some (.ref 1), some (.long w), none, some (.int ((1 : Int32) <<< (nI c &&& 31) - 1)), some (.int r), some (.int (nI i)), l6, l7]) (st' := [.ref 1, .int (nI i)]) (h' := (shT, fi, fl, fr)) rfl ?_
      refine gp_of (fun _ k9 => g_getI (x := nI k) rfl (Or.inl rfl) rfl (by decide) (c2) k9) ?_
      refine gp_of (fun _ k9 => g_icf rfl (show ¬ ((nI k) ≤ (nI i)) from nI_ge (by omega) (by omega)) k9) ?_
      refine gp_n 2 (j' := 22) (lv' := [some (.ref 1), some (.long w), none, some (.int ((1 : Int32) <<< (nI c &&& 31) - 1)), some (.int r), some (.int (nI i)), l6, l7]) (st' := [.ref 1, .int r]) (h' := (shT, fi, fl, fr)) rfl ?_
      refine gp_of (fun _ k9 => g_getI (x := nI c) rfl (Or.inl rfl) rfl (by decide) (c3) k9) ?_
      refine gp_n 12 (j' := 35) (lv' := [some (.ref 1), some (.long w), none, some (.int ((1 : Int32) <<< (nI c &&& 31) - 1)), some (.int r), some (.int (nI i)), some (.int ((r >>> (((nI c) - 1) &&& 31)) &&& 1)), l7]) (st' := [.int ((((w.toUInt64 >>> ((nI i : Int32).toInt64.toUInt64 &&& Int64.toUInt64 63)).toInt64) &&& 1).toInt32)]) (h' := (shT, fi, fl, fr)) rfl ?_
      rw [ub]
      refine gp_n 9 (j' := 44) (lv' := [some (.ref 1), some (.long w), none, some (.int ((1 : Int32) <<< (nI c &&& 31) - 1)), some (.int (((2 : Int32) * r) &&& ((1 : Int32) <<< (nI c &&& 31) - 1))), some (.int (nI i)), some (.int ((r >>> (((nI c) - 1) &&& 31)) &&& 1)), some (.int (b01 (bl w i)))]) (st' := [.int (b01 (bl w i)), .int ((r >>> (((nI c) - 1) &&& 31)) &&& 1)]) (h' := (shT, fi, fl, fr)) rfl ?_
      refine gp_of (fun _ k9 => g_icf rfl (show ¬ (((r >>> (((nI c) - 1) &&& 31)) &&& 1) = (b01 (bl w i))) from hc) k9) ?_
      refine gp_n 2 (j' := 47) (lv' := [some (.ref 1), some (.long w), none, some (.int ((1 : Int32) <<< (nI c &&& 31) - 1)), some (.int (((2 : Int32) * r) &&& ((1 : Int32) <<< (nI c &&& 31) - 1))), some (.int (nI i)), some (.int ((r >>> (((nI c) - 1) &&& 31)) &&& 1)), some (.int (b01 (bl w i)))]) (st' := [.ref 1, .int (((2 : Int32) * r) &&& ((1 : Int32) <<< (nI c &&& 31) - 1))]) (h' := (shT, fi, fl, fr)) rfl ?_
      refine gp_of (fun _ k9 => g_getI (x := po) rfl (Or.inl rfl) rfl (by decide) (c4) k9) ?_
      refine gp_n 6 (j' := 16) (lv' := [some (.ref 1), some (.long w), none, some (.int ((1 : Int32) <<< (nI c &&& 31) - 1)), some (.int ((((2 : Int32) * r) &&& ((1 : Int32) <<< (nI c &&& 31) - 1)) ^^^ (po &&& ((1 : Int32) <<< (nI c &&& 31) - 1)))), some (.int ((nI i) + 1)), some (.int ((r >>> (((nI c) - 1) &&& 31)) &&& 1)), some (.int (b01 (bl w i)))]) (st' := []) (h' := (shT, fi, fl, fr)) rfl ?_
      rw [nI_1]
      exact gp_done g rfl
theorem ck_ev_1 {h : PmH} (hI : HI hdT shT h) {k c : Nat} {po : Int32} {w : Int64} (hk : k ≤ 64) (hc8 : c ≤ 8) (c3 : ph_i h 1 3 = nI c) (c2 : ph_i h 1 2 = nI k) (c4 : ph_i h 1 4 = po) : Ev pmT 60 [.ref 1, .long w] h (some (.int (ckS k c po w))) h := by
  refine Ev.of (es := cd_60) (ml := 8) (lv := [some (.ref 1), some (.long w), none, none, none, none, none, none]) rfl rfl rfl ?_
  obtain ⟨S, fi, fl, fr⟩ := h
  have hS : S = shT := hI.1
  subst hS
  have c3 : fi 1 3 = nI c := c3
  have c2 : fi 1 2 = nI k := c2
  have c4 : fi 1 4 = po := c4
  have g := ck_go_1 (w := w) (fi := fi) (fl := fl) (fr := fr) hk c3 c2 c4 k 0 0 none none (by omega)
  refine go_of ?_
  unfold ckS
  by_cases h0 : c = 0
  · rw [if_pos h0]
    subst h0
    refine gp_n 1 (j' := 1) (lv' := [some (.ref 1), some (.long w), none, none, none, none, none, none]) (st' := [.ref 1]) (h' := (shT, fi, fl, fr)) rfl ?_
    refine gp_of (fun _ k9 => g_getI (x := nI 0) rfl (Or.inl rfl) rfl (by decide) (c3) k9) ?_
    refine gp_of (fun _ k9 => g_iff rfl (show ¬ (¬ (nI 0) = (0 : Int32)) from fun q => q rfl) k9) ?_
    refine gp_n 1 (j' := 4) (lv' := [some (.ref 1), some (.long w), none, none, none, none, none, none]) (st' := [.int 0]) (h' := (shT, fi, fl, fr)) rfl ?_
    refine gp_done (g_ret rfl) ?_
    rfl
  · rw [if_neg h0]
    refine gp_n 1 (j' := 1) (lv' := [some (.ref 1), some (.long w), none, none, none, none, none, none]) (st' := [.ref 1]) (h' := (shT, fi, fl, fr)) rfl ?_
    refine gp_of (fun _ k9 => g_getI (x := nI c) rfl (Or.inl rfl) rfl (by decide) (c3) k9) ?_
    refine gp_of (fun _ k9 => g_ift rfl (show ¬ (nI c) = (0 : Int32) from nI_ne0 (by omega) (by omega)) k9) ?_
    refine gp_n 2 (j' := 7) (lv' := [some (.ref 1), some (.long w), none, none, none, none, none, none]) (st' := [.ref 1, .int 1]) (h' := (shT, fi, fl, fr)) rfl ?_
    refine gp_of (fun _ k9 => g_getI (x := nI c) rfl (Or.inl rfl) rfl (by decide) (c3) k9) ?_
    refine gp_n 8 (j' := 16) (lv' := [some (.ref 1), some (.long w), none, some (.int (((1 : Int32) <<< ((nI c) &&& 31)) - 1)), some (.int 0), some (.int (nI 0)), none, none]) (st' := []) (h' := (shT, fi, fl, fr)) rfl ?_
    exact gp_done g rfl
theorem co_go {k c : Nat} {po : Int32} {w : Int64} {fi : Nat → Nat → Int32} {fl : Nat → Nat → Int64} {fr : Nat → Nat → Option Nat} (hk : k ≤ 64) (hc8 : c ≤ 8) (h0 : 0 < c) (c3 : fi 70 17 = nI c) (c2 : fi 70 16 = nI k) (c4 : fi 70 18 = po) : ∀ (n i : Nat) (r : Int32) (l5 l6 : Option Value), i + n = k → Go pmT none cd_174 4 [some (.ref 70), some (.long w), none, some (.int r), some (.int (nI i)), l5, l6] [] (shT, fi, fl, fr) (some (.int (ckN c po w n i r)), (shT, fi, fl, fr)) := by
  intro n
  induction n with
  | zero =>
    intro i r l5 l6 hi
    have hi : i = k := by omega
    subst hi
    refine go_of ?_
    refine gp_n 2 (j' := 6) (lv' := [some (.ref 70), some (.long w), none, some (.int r), some (.int (nI i)), l5, l6]) (st' := [.ref 70, .int (nI i)]) (h' := (shT, fi, fl, fr)) rfl ?_
    refine gp_of (fun _ k9 => g_getI (x := nI i) rfl (Or.inl rfl) rfl (by decide) (c2) k9) ?_
    refine gp_of (fun _ k9 => g_ict rfl (show (nI i) ≤ (nI i) from Int32.le_refl _) k9) ?_
    refine gp_n 1 (j' := 61) (lv' := [some (.ref 70), some (.long w), none, some (.int r), some (.int (nI i)), l5, l6]) (st' := [.int r]) (h' := (shT, fi, fl, fr)) rfl ?_
    refine gp_done (g_ret rfl) ?_
    rfl
  | succ n ih =>
    intro i r l5 l6 hi
    have hs := has_ev (v := w) (i := nI i) (h := (shT, fi, fl, fr))
    rw [hasf_bit (by omega)] at hs
    have cp : ¬ nI c ≤ 0 := nI_nle h0 (by omega)
    rw [ckN]
    refine go_of ?_
    cases hb : bl w i
    · rw [hb] at hs
      have hs : Ev pmT 161 [.long w, .int (nI i)] (shT, fi, fl, fr) (some (.int 0)) (shT, fi, fl, fr) := hs
      by_cases hc : (r >>> ((nI c - 1) &&& 31)) &&& 1 = 0
      · have e : ckst c po false r = (2 * r) &&& ((1 : Int32) <<< (nI c &&& 31) - 1) := if_pos hc
        have g := ih (i + 1) (ckst c po false r) (some (.int 0)) (some (.int 0)) (by omega)
        rw [e] at g ⊢
        refine gp_n 2 (j' := 6) (lv' := [some (.ref 70), some (.long w), none, some (.int r), some (.int (nI i)), l5, l6]) (st' := [.ref 70, .int (nI i)]) (h' := (shT, fi, fl, fr)) rfl ?_
        refine gp_of (fun _ k9 => g_getI (x := nI k) rfl (Or.inl rfl) rfl (by decide) (c2) k9) ?_
        refine gp_of (fun _ k9 => g_icf rfl (show ¬ ((nI k) ≤ (nI i)) from nI_ge (by omega) (by omega)) k9) ?_
        refine gp_n 2 (j' := 10) (lv' := [some (.ref 70), some (.long w), none, some (.int r), some (.int (nI i)), l5, l6]) (st' := [.int (nI i), .long w]) (h' := (shT, fi, fl, fr)) rfl ?_
        refine gp_of (fun _ k9 => g_call (y := 161) (as := [.long w, .int (nI i)]) (st' := []) rfl rfl (hs) k9) ?_
        refine gp_of (fun _ k9 => g_ift rfl (show (0 : Int32) = (0 : Int32) from by decide) k9) ?_
        refine gp_n 3 (j' := 17) (lv' := [some (.ref 70), some (.long w), none, some (.int r), some (.int (nI i)), some (.int 0), l6]) (st' := [.ref 70]) (h' := (shT, fi, fl, fr)) rfl ?_
        refine gp_of (fun _ k9 => g_getI (x := nI c) rfl (Or.inl rfl) rfl (by decide) (c3) k9) ?_
        refine gp_of (fun _ k9 => g_iff rfl (show ¬ ((nI c) ≤ (0 : Int32)) from cp) k9) ?_
        refine gp_n 2 (j' := 21) (lv' := [some (.ref 70), some (.long w), none, some (.int r), some (.int (nI i)), some (.int 0), l6]) (st' := [.ref 70, .int r]) (h' := (shT, fi, fl, fr)) rfl ?_
        refine gp_of (fun _ k9 => g_getI (x := nI c) rfl (Or.inl rfl) rfl (by decide) (c3) k9) ?_
        refine gp_n 6 (j' := 28) (lv' := [some (.ref 70), some (.long w), none, some (.int r), some (.int (nI i)), some (.int 0), l6]) (st' := [.int 0, .int ((r >>> (((nI c) - 1) &&& 31)) &&& 1)]) (h' := (shT, fi, fl, fr)) rfl ?_
        refine gp_of (fun _ k9 => g_ict rfl (show ((r >>> (((nI c) - 1) &&& 31)) &&& 1) = (0 : Int32) from hc) k9) ?_
        refine gp_n 7 (j' := 38) (lv' := [some (.ref 70), some (.long w), none, some (.int r), some (.int (nI i)), some (.int 0), some (.int 0)]) (st' := [.ref 70, .int 1, .int ((2 : Int32) * r)]) (h' := (shT, fi, fl, fr)) rfl ?_
        refine gp_of (fun _ k9 => g_getI (x := nI c) rfl (Or.inl rfl) rfl (by decide) (c3) k9) ?_
        refine gp_n 6 (j' := 45) (lv' := [some (.ref 70), some (.long w), none, some (.int (((2 : Int32) * r) &&& (((1 : Int32) <<< ((nI c) &&& 31)) - 1))), some (.int (nI i)), some (.int 0), some (.int 0)]) (st' := [.int 0]) (h' := (shT, fi, fl, fr)) rfl ?_
        refine gp_of (fun _ k9 => g_ift rfl (show (0 : Int32) = (0 : Int32) from by decide) k9) ?_
        refine gp_n 2 (j' := 4) (lv' := [some (.ref 70), some (.long w), none, some (.int (((2 : Int32) * r) &&& (((1 : Int32) <<< ((nI c) &&& 31)) - 1))), some (.int ((nI i) + 1)), some (.int 0), some (.int 0)]) (st' := []) (h' := (shT, fi, fl, fr)) rfl ?_
        rw [nI_1]
        exact gp_done g rfl
      · have e : ckst c po false r = ((2 * r) &&& ((1 : Int32) <<< (nI c &&& 31) - 1)) ^^^ (po &&& ((1 : Int32) <<< (nI c &&& 31) - 1)) := if_neg hc
        have g := ih (i + 1) (ckst c po false r) (some (.int 0)) (some (.int 1)) (by omega)
        rw [e] at g ⊢
        refine gp_n 2 (j' := 6) (lv' := [some (.ref 70), some (.long w), none, some (.int r), some (.int (nI i)), l5, l6]) (st' := [.ref 70, .int (nI i)]) (h' := (shT, fi, fl, fr)) rfl ?_
        refine gp_of (fun _ k9 => g_getI (x := nI k) rfl (Or.inl rfl) rfl (by decide) (c2) k9) ?_
        refine gp_of (fun _ k9 => g_icf rfl (show ¬ ((nI k) ≤ (nI i)) from nI_ge (by omega) (by omega)) k9) ?_
        refine gp_n 2 (j' := 10) (lv' := [some (.ref 70), some (.long w), none, some (.int r), some (.int (nI i)), l5, l6]) (st' := [.int (nI i), .long w]) (h' := (shT, fi, fl, fr)) rfl ?_
        refine gp_of (fun _ k9 => g_call (y := 161) (as := [.long w, .int (nI i)]) (st' := []) rfl rfl (hs) k9) ?_
        refine gp_of (fun _ k9 => g_ift rfl (show (0 : Int32) = (0 : Int32) from by decide) k9) ?_
        refine gp_n 3 (j' := 17) (lv' := [some (.ref 70), some (.long w), none, some (.int r), some (.int (nI i)), some (.int 0), l6]) (st' := [.ref 70]) (h' := (shT, fi, fl, fr)) rfl ?_
        refine gp_of (fun _ k9 => g_getI (x := nI c) rfl (Or.inl rfl) rfl (by decide) (c3) k9) ?_
        refine gp_of (fun _ k9 => g_iff rfl (show ¬ ((nI c) ≤ (0 : Int32)) from cp) k9) ?_
        refine gp_n 2 (j' := 21) (lv' := [some (.ref 70), some (.long w), none, some (.int r), some (.int (nI i)), some (.int 0), l6]) (st' := [.ref 70, .int r]) (h' := (shT, fi, fl, fr)) rfl ?_
        refine gp_of (fun _ k9 => g_getI (x := nI c) rfl (Or.inl rfl) rfl (by decide) (c3) k9) ?_
        refine gp_n 6 (j' := 28) (lv' := [some (.ref 70), some (.long w), none, some (.int r), some (.int (nI i)), some (.int 0), l6]) (st' := [.int 0, .int ((r >>> (((nI c) - 1) &&& 31)) &&& 1)]) (h' := (shT, fi, fl, fr)) rfl ?_
        refine gp_of (fun _ k9 => g_icf rfl (show ¬ (((r >>> (((nI c) - 1) &&& 31)) &&& 1) = (0 : Int32)) from hc) k9) ?_
        refine gp_n 8 (j' := 38) (lv' := [some (.ref 70), some (.long w), none, some (.int r), some (.int (nI i)), some (.int 0), some (.int 1)]) (st' := [.ref 70, .int 1, .int ((2 : Int32) * r)]) (h' := (shT, fi, fl, fr)) rfl ?_
        refine gp_of (fun _ k9 => g_getI (x := nI c) rfl (Or.inl rfl) rfl (by decide) (c3) k9) ?_
        refine gp_n 6 (j' := 45) (lv' := [some (.ref 70), some (.long w), none, some (.int (((2 : Int32) * r) &&& (((1 : Int32) <<< ((nI c) &&& 31)) - 1))), some (.int (nI i)), some (.int 0), some (.int 1)]) (st' := [.int 1]) (h' := (shT, fi, fl, fr)) rfl ?_
        refine gp_of (fun _ k9 => g_iff rfl (show ¬ ((1 : Int32) = (0 : Int32)) from by decide) k9) ?_
        refine gp_n 2 (j' := 48) (lv' := [some (.ref 70), some (.long w), none, some (.int (((2 : Int32) * r) &&& (((1 : Int32) <<< ((nI c) &&& 31)) - 1))), some (.int (nI i)), some (.int 0), some (.int 1)]) (st' := [.ref 70, .int (((2 : Int32) * r) &&& (((1 : Int32) <<< ((nI c) &&& 31)) - 1))]) (h' := (shT, fi, fl, fr)) rfl ?_
        refine gp_of (fun _ k9 => g_getI (x := po) rfl (Or.inl rfl) rfl (by decide) (c4) k9) ?_
        refine gp_n 2 (j' := 51) (lv' := [some (.ref 70), some (.long w), none, some (.int (((2 : Int32) * r) &&& (((1 : Int32) <<< ((nI c) &&& 31)) - 1))), some (.int (nI i)), some (.int 0), some (.int 1)]) (st' := [.ref 70, .int 1, .int po, .int (((2 : Int32) * r) &&& (((1 : Int32) <<< ((nI c) &&& 31)) - 1))]) (h' := (shT, fi, fl, fr)) rfl ?_
        refine gp_of (fun _ k9 => g_getI (x := nI c) rfl (Or.inl rfl) rfl (by decide) (c3) k9) ?_
        refine gp_n 8 (j' := 4) (lv' := [some (.ref 70), some (.long w), none, some (.int ((((2 : Int32) * r) &&& (((1 : Int32) <<< ((nI c) &&& 31)) - 1)) ^^^ (po &&& (((1 : Int32) <<< ((nI c) &&& 31)) - 1)))), some (.int ((nI i) + 1)), some (.int 0), some (.int 1)]) (st' := []) (h' := (shT, fi, fl, fr)) rfl ?_
        rw [nI_1]
        exact gp_done g rfl
    · rw [hb] at hs
      have hs : Ev pmT 161 [.long w, .int (nI i)] (shT, fi, fl, fr) (some (.int 1)) (shT, fi, fl, fr) := hs
      by_cases hc : (r >>> ((nI c - 1) &&& 31)) &&& 1 = 1
      · have e : ckst c po true r = (2 * r) &&& ((1 : Int32) <<< (nI c &&& 31) - 1) := if_pos hc
        have g := ih (i + 1) (ckst c po true r) (some (.int 1)) (some (.int 0)) (by omega)
        rw [e] at g ⊢
        refine gp_n 2 (j' := 6) (lv' := [some (.ref 70), some (.long w), none, some (.int r), some (.int (nI i)), l5, l6]) (st' := [.ref 70, .int (nI i)]) (h' := (shT, fi, fl, fr)) rfl ?_
        refine gp_of (fun _ k9 => g_getI (x := nI k) rfl (Or.inl rfl) rfl (by decide) (c2) k9) ?_
        refine gp_of (fun _ k9 => g_icf rfl (show ¬ ((nI k) ≤ (nI i)) from nI_ge (by omega) (by omega)) k9) ?_
        refine gp_n 2 (j' := 10) (lv' := [some (.ref 70), some (.long w), none, some (.int r), some (.int (nI i)), l5, l6]) (st' := [.int (nI i), .long w]) (h' := (shT, fi, fl, fr)) rfl ?_
        refine gp_of (fun _ k9 => g_call (y := 161) (as := [.long w, .int (nI i)]) (st' := []) rfl rfl (hs) k9) ?_
        refine gp_of (fun _ k9 => g_iff rfl (show ¬ ((1 : Int32) = (0 : Int32)) from by decide) k9) ?_
        refine gp_n 4 (j' := 17) (lv' := [some (.ref 70), some (.long w), none, some (.int r), some (.int (nI i)), some (.int 1), l6]) (st' := [.ref 70]) (h' := (shT, fi, fl, fr)) rfl ?_
        refine gp_of (fun _ k9 => g_getI (x := nI c) rfl (Or.inl rfl) rfl (by decide) (c3) k9) ?_
        refine gp_of (fun _ k9 => g_iff rfl (show ¬ ((nI c) ≤ (0 : Int32)) from cp) k9) ?_
        refine gp_n 2 (j' := 21) (lv' := [some (.ref 70), some (.long w), none, some (.int r), some (.int (nI i)), some (.int 1), l6]) (st' := [.ref 70, .int r]) (h' := (shT, fi, fl, fr)) rfl ?_
        refine gp_of (fun _ k9 => g_getI (x := nI c) rfl (Or.inl rfl) rfl (by decide) (c3) k9) ?_
        refine gp_n 6 (j' := 28) (lv' := [some (.ref 70), some (.long w), none, some (.int r), some (.int (nI i)), some (.int 1), l6]) (st' := [.int 1, .int ((r >>> (((nI c) - 1) &&& 31)) &&& 1)]) (h' := (shT, fi, fl, fr)) rfl ?_
        refine gp_of (fun _ k9 => g_ict rfl (show ((r >>> (((nI c) - 1) &&& 31)) &&& 1) = (1 : Int32) from hc) k9) ?_
        refine gp_n 7 (j' := 38) (lv' := [some (.ref 70), some (.long w), none, some (.int r), some (.int (nI i)), some (.int 1), some (.int 0)]) (st' := [.ref 70, .int 1, .int ((2 : Int32) * r)]) (h' := (shT, fi, fl, fr)) rfl ?_
        refine gp_of (fun _ k9 => g_getI (x := nI c) rfl (Or.inl rfl) rfl (by decide) (c3) k9) ?_
        refine gp_n 6 (j' := 45) (lv' := [some (.ref 70), some (.long w), none, some (.int (((2 : Int32) * r) &&& (((1 : Int32) <<< ((nI c) &&& 31)) - 1))), some (.int (nI i)), some (.int 1), some (.int 0)]) (st' := [.int 0]) (h' := (shT, fi, fl, fr)) rfl ?_
        refine gp_of (fun _ k9 => g_ift rfl (show (0 : Int32) = (0 : Int32) from by decide) k9) ?_
        refine gp_n 2 (j' := 4) (lv' := [some (.ref 70), some (.long w), none, some (.int (((2 : Int32) * r) &&& (((1 : Int32) <<< ((nI c) &&& 31)) - 1))), some (.int ((nI i) + 1)), some (.int 1), some (.int 0)]) (st' := []) (h' := (shT, fi, fl, fr)) rfl ?_
        rw [nI_1]
        exact gp_done g rfl
      · have e : ckst c po true r = ((2 * r) &&& ((1 : Int32) <<< (nI c &&& 31) - 1)) ^^^ (po &&& ((1 : Int32) <<< (nI c &&& 31) - 1)) := if_neg hc
        have g := ih (i + 1) (ckst c po true r) (some (.int 1)) (some (.int 1)) (by omega)
        rw [e] at g ⊢
        refine gp_n 2 (j' := 6) (lv' := [some (.ref 70), some (.long w), none, some (.int r), some (.int (nI i)), l5, l6]) (st' := [.ref 70, .int (nI i)]) (h' := (shT, fi, fl, fr)) rfl ?_
        refine gp_of (fun _ k9 => g_getI (x := nI k) rfl (Or.inl rfl) rfl (by decide) (c2) k9) ?_
        refine gp_of (fun _ k9 => g_icf rfl (show ¬ ((nI k) ≤ (nI i)) from nI_ge (by omega) (by omega)) k9) ?_
        refine gp_n 2 (j' := 10) (lv' := [some (.ref 70), some (.long w), none, some (.int r), some (.int (nI i)), l5, l6]) (st' := [.int (nI i), .long w]) (h' := (shT, fi, fl, fr)) rfl ?_
        refine gp_of (fun _ k9 => g_call (y := 161) (as := [.long w, .int (nI i)]) (st' := []) rfl rfl (hs) k9) ?_
        refine gp_of (fun _ k9 => g_iff rfl (show ¬ ((1 : Int32) = (0 : Int32)) from by decide) k9) ?_
        refine gp_n 4 (j' := 17) (lv' := [some (.ref 70), some (.long w), none, some (.int r), some (.int (nI i)), some (.int 1), l6]) (st' := [.ref 70]) (h' := (shT, fi, fl, fr)) rfl ?_
        refine gp_of (fun _ k9 => g_getI (x := nI c) rfl (Or.inl rfl) rfl (by decide) (c3) k9) ?_
        refine gp_of (fun _ k9 => g_iff rfl (show ¬ ((nI c) ≤ (0 : Int32)) from cp) k9) ?_
        refine gp_n 2 (j' := 21) (lv' := [some (.ref 70), some (.long w), none, some (.int r), some (.int (nI i)), some (.int 1), l6]) (st' := [.ref 70, .int r]) (h' := (shT, fi, fl, fr)) rfl ?_
        refine gp_of (fun _ k9 => g_getI (x := nI c) rfl (Or.inl rfl) rfl (by decide) (c3) k9) ?_
        refine gp_n 6 (j' := 28) (lv' := [some (.ref 70), some (.long w), none, some (.int r), some (.int (nI i)), some (.int 1), l6]) (st' := [.int 1, .int ((r >>> (((nI c) - 1) &&& 31)) &&& 1)]) (h' := (shT, fi, fl, fr)) rfl ?_
        refine gp_of (fun _ k9 => g_icf rfl (show ¬ (((r >>> (((nI c) - 1) &&& 31)) &&& 1) = (1 : Int32)) from hc) k9) ?_
        refine gp_n 8 (j' := 38) (lv' := [some (.ref 70), some (.long w), none, some (.int r), some (.int (nI i)), some (.int 1), some (.int 1)]) (st' := [.ref 70, .int 1, .int ((2 : Int32) * r)]) (h' := (shT, fi, fl, fr)) rfl ?_
        refine gp_of (fun _ k9 => g_getI (x := nI c) rfl (Or.inl rfl) rfl (by decide) (c3) k9) ?_
        refine gp_n 6 (j' := 45) (lv' := [some (.ref 70), some (.long w), none, some (.int (((2 : Int32) * r) &&& (((1 : Int32) <<< ((nI c) &&& 31)) - 1))), some (.int (nI i)), some (.int 1), some (.int 1)]) (st' := [.int 1]) (h' := (shT, fi, fl, fr)) rfl ?_
        refine gp_of (fun _ k9 => g_iff rfl (show ¬ ((1 : Int32) = (0 : Int32)) from by decide) k9) ?_
        refine gp_n 2 (j' := 48) (lv' := [some (.ref 70), some (.long w), none, some (.int (((2 : Int32) * r) &&& (((1 : Int32) <<< ((nI c) &&& 31)) - 1))), some (.int (nI i)), some (.int 1), some (.int 1)]) (st' := [.ref 70, .int (((2 : Int32) * r) &&& (((1 : Int32) <<< ((nI c) &&& 31)) - 1))]) (h' := (shT, fi, fl, fr)) rfl ?_
        refine gp_of (fun _ k9 => g_getI (x := po) rfl (Or.inl rfl) rfl (by decide) (c4) k9) ?_
        refine gp_n 2 (j' := 51) (lv' := [some (.ref 70), some (.long w), none, some (.int (((2 : Int32) * r) &&& (((1 : Int32) <<< ((nI c) &&& 31)) - 1))), some (.int (nI i)), some (.int 1), some (.int 1)]) (st' := [.ref 70, .int 1, .int po, .int (((2 : Int32) * r) &&& (((1 : Int32) <<< ((nI c) &&& 31)) - 1))]) (h' := (shT, fi, fl, fr)) rfl ?_
        refine gp_of (fun _ k9 => g_getI (x := nI c) rfl (Or.inl rfl) rfl (by decide) (c3) k9) ?_
        refine gp_n 8 (j' := 4) (lv' := [some (.ref 70), some (.long w), none, some (.int ((((2 : Int32) * r) &&& (((1 : Int32) <<< ((nI c) &&& 31)) - 1)) ^^^ (po &&& (((1 : Int32) <<< ((nI c) &&& 31)) - 1)))), some (.int ((nI i) + 1)), some (.int 1), some (.int 1)]) (st' := []) (h' := (shT, fi, fl, fr)) rfl ?_
        rw [nI_1]
        exact gp_done g rfl
theorem and_0 (x : Int32) : x &&& ((1 : Int32) <<< (nI 0 &&& 31) - 1) = 0 := by
  rw [show (1 : Int32) <<< (nI 0 &&& 31) - 1 = 0 by decide +kernel]
  exact Int32.and_zero
theorem co_g0 {k : Nat} {w : Int64} {fi : Nat → Nat → Int32} {fl : Nat → Nat → Int64} {fr : Nat → Nat → Option Nat} (hk : k ≤ 64) (c3 : fi 70 17 = nI 0) (c2 : fi 70 16 = nI k) : ∀ (n i : Nat) (l5 l6 : Option Value), i + n = k → Go pmT none cd_174 4 [some (.ref 70), some (.long w), none, some (.int 0), some (.int (nI i)), l5, l6] [] (shT, fi, fl, fr) (some (.int 0), (shT, fi, fl, fr)) := by
  intro n
  induction n with
  | zero =>
    intro i l5 l6 hi
    have hi : i = k := by omega
    subst hi
    refine go_of ?_
    refine gp_n 2 (j' := 6) (lv' := [some (.ref 70), some (.long w), none, some (.int 0), some (.int (nI i)), l5, l6]) (st' := [.ref 70, .int (nI i)]) (h' := (shT, fi, fl, fr)) rfl ?_
    refine gp_of (fun _ k9 => g_getI (x := nI i) rfl (Or.inl rfl) rfl (by decide) (c2) k9) ?_
    refine gp_of (fun _ k9 => g_ict rfl (show (nI i) ≤ (nI i) from Int32.le_refl _) k9) ?_
    refine gp_n 1 (j' := 61) (lv' := [some (.ref 70), some (.long w), none, some (.int 0), some (.int (nI i)), l5, l6]) (st' := [.int 0]) (h' := (shT, fi, fl, fr)) rfl ?_
    refine gp_done (g_ret rfl) ?_
    rfl
  | succ n ih =>
    intro i l5 l6 hi
    have hs := has_ev (v := w) (i := nI i) (h := (shT, fi, fl, fr))
    rw [hasf_bit (by omega)] at hs
    have a0 := and_0 0
    refine go_of ?_
    cases hb : bl w i
    · rw [hb] at hs
      have hs : Ev pmT 161 [.long w, .int (nI i)] (shT, fi, fl, fr) (some (.int 0)) (shT, fi, fl, fr) := hs
      have g := ih (i + 1) (some (.int 0)) (some (.int 0)) (by omega)
      refine gp_n 2 (j' := 6) (lv' := [some (.ref 70), some (.long w), none, some (.int 0), some (.int (nI i)), l5, l6]) (st' := [.ref 70, .int (nI i)]) (h' := (shT, fi, fl, fr)) rfl ?_
      refine gp_of (fun _ k9 => g_getI (x := nI k) rfl (Or.inl rfl) rfl (by decide) (c2) k9) ?_
      refine gp_of (fun _ k9 => g_icf rfl (show ¬ ((nI k) ≤ (nI i)) from nI_ge (by omega) (by omega)) k9) ?_
      refine gp_n 2 (j' := 10) (lv' := [some (.ref 70), some (.long w), none, some (.int 0), some (.int (nI i)), l5, l6]) (st' := [.int (nI i), .long w]) (h' := (shT, fi, fl, fr)) rfl ?_
      refine gp_of (fun _ k9 => g_call (y := 161) (as := [.long w, .int (nI i)]) (st' := []) rfl rfl (hs) k9) ?_
      refine gp_of (fun _ k9 => g_ift rfl (show (0 : Int32) = (0 : Int32) from by decide) k9) ?_
      refine gp_n 3 (j' := 17) (lv' := [some (.ref 70), some (.long w), none, some (.int 0), some (.int (nI i)), some (.int 0), l6]) (st' := [.ref 70]) (h' := (shT, fi, fl, fr)) rfl ?_
      refine gp_of (fun _ k9 => g_getI (x := nI 0) rfl (Or.inl rfl) rfl (by decide) (c3) k9) ?_
      refine gp_of (fun _ k9 => g_ift rfl (show (nI 0) ≤ (0 : Int32) from by decide) k9) ?_
      refine gp_n 7 (j' := 38) (lv' := [some (.ref 70), some (.long w), none, some (.int 0), some (.int (nI i)), some (.int 0), some (.int 0)]) (st' := [.ref 70, .int 1, .int 0]) (h' := (shT, fi, fl, fr)) rfl ?_
      refine gp_of (fun _ k9 => g_getI (x := nI 0) rfl (Or.inl rfl) rfl (by decide) (c3) k9) ?_
      refine gp_n 4 (j' := 43) (lv' := [some (.ref 70), some (.long w), none, some (.int 0), some (.int (nI i)), some (.int 0), some (.int 0)]) (st' := [.int ((0 : Int32) &&& (((1 : Int32) <<< ((nI 0) &&& 31)) - 1))]) (h' := (shT, fi, fl, fr)) rfl ?_
      rw [a0]
      refine gp_n 2 (j' := 45) (lv' := [some (.ref 70), some (.long w), none, some (.int 0), some (.int (nI i)), some (.int 0), some (.int 0)]) (st' := [.int 0]) (h' := (shT, fi, fl, fr)) rfl ?_
      refine gp_of (fun _ k9 => g_ift rfl (show (0 : Int32) = (0 : Int32) from by decide) k9) ?_
      refine gp_n 2 (j' := 4) (lv' := [some (.ref 70), some (.long w), none, some (.int 0), some (.int ((nI i) + 1)), some (.int 0), some (.int 0)]) (st' := []) (h' := (shT, fi, fl, fr)) rfl ?_
      rw [nI_1]
      exact gp_done g rfl
    · rw [hb] at hs
      have hs : Ev pmT 161 [.long w, .int (nI i)] (shT, fi, fl, fr) (some (.int 1)) (shT, fi, fl, fr) := hs
      have g := ih (i + 1) (some (.int 1)) (some (.int 0)) (by omega)
      refine gp_n 2 (j' := 6) (lv' := [some (.ref 70), some (.long w), none, some (.int 0), some (.int (nI i)), l5, l6]) (st' := [.ref 70, .int (nI i)]) (h' := (shT, fi, fl, fr)) rfl ?_
      refine gp_of (fun _ k9 => g_getI (x := nI k) rfl (Or.inl rfl) rfl (by decide) (c2) k9) ?_
      refine gp_of (fun _ k9 => g_icf rfl (show ¬ ((nI k) ≤ (nI i)) from nI_ge (by omega) (by omega)) k9) ?_
      refine gp_n 2 (j' := 10) (lv' := [some (.ref 70), some (.long w), none, some (.int 0), some (.int (nI i)), l5, l6]) (st' := [.int (nI i), .long w]) (h' := (shT, fi, fl, fr)) rfl ?_
      refine gp_of (fun _ k9 => g_call (y := 161) (as := [.long w, .int (nI i)]) (st' := []) rfl rfl (hs) k9) ?_
      refine gp_of (fun _ k9 => g_iff rfl (show ¬ ((1 : Int32) = (0 : Int32)) from by decide) k9) ?_
      refine gp_n 4 (j' := 17) (lv' := [some (.ref 70), some (.long w), none, some (.int 0), some (.int (nI i)), some (.int 1), l6]) (st' := [.ref 70]) (h' := (shT, fi, fl, fr)) rfl ?_
      refine gp_of (fun _ k9 => g_getI (x := nI 0) rfl (Or.inl rfl) rfl (by decide) (c3) k9) ?_
      refine gp_of (fun _ k9 => g_ift rfl (show (nI 0) ≤ (0 : Int32) from by decide) k9) ?_
      refine gp_n 7 (j' := 38) (lv' := [some (.ref 70), some (.long w), none, some (.int 0), some (.int (nI i)), some (.int 1), some (.int 0)]) (st' := [.ref 70, .int 1, .int 0]) (h' := (shT, fi, fl, fr)) rfl ?_
      refine gp_of (fun _ k9 => g_getI (x := nI 0) rfl (Or.inl rfl) rfl (by decide) (c3) k9) ?_
      refine gp_n 4 (j' := 43) (lv' := [some (.ref 70), some (.long w), none, some (.int 0), some (.int (nI i)), some (.int 1), some (.int 0)]) (st' := [.int ((0 : Int32) &&& (((1 : Int32) <<< ((nI 0) &&& 31)) - 1))]) (h' := (shT, fi, fl, fr)) rfl ?_
      rw [a0]
      refine gp_n 2 (j' := 45) (lv' := [some (.ref 70), some (.long w), none, some (.int 0), some (.int (nI i)), some (.int 1), some (.int 0)]) (st' := [.int 0]) (h' := (shT, fi, fl, fr)) rfl ?_
      refine gp_of (fun _ k9 => g_ift rfl (show (0 : Int32) = (0 : Int32) from by decide) k9) ?_
      refine gp_n 2 (j' := 4) (lv' := [some (.ref 70), some (.long w), none, some (.int 0), some (.int ((nI i) + 1)), some (.int 1), some (.int 0)]) (st' := []) (h' := (shT, fi, fl, fr)) rfl ?_
      rw [nI_1]
      exact gp_done g rfl
theorem co_ev {h : PmH} (hI : HI hdT shT h) {k c : Nat} {po : Int32} {w : Int64} (hk : k ≤ 64) (hc8 : c ≤ 8) (c3 : ph_i h 70 17 = nI c) (c2 : ph_i h 70 16 = nI k) (c4 : ph_i h 70 18 = po) : Ev pmT 174 [.ref 70, .long w] h (some (.int (ckS k c po w))) h := by
  refine Ev.of (es := cd_174) (ml := 7) (lv := [some (.ref 70), some (.long w), none, none, none, none, none]) rfl rfl rfl ?_
  obtain ⟨S, fi, fl, fr⟩ := h
  have hS : S = shT := hI.1
  subst hS
  have c3 : fi 70 17 = nI c := c3
  have c2 : fi 70 16 = nI k := c2
  have c4 : fi 70 18 = po := c4
  refine go_of ?_
  unfold ckS
  by_cases h0 : c = 0
  · rw [if_pos h0]
    subst h0
    have g := co_g0 (w := w) (fi := fi) (fl := fl) (fr := fr) hk c3 c2 k 0 none none (by omega)
    refine gp_n 4 (j' := 4) (lv' := [some (.ref 70), some (.long w), none, some (.int 0), some (.int (nI 0)), none, none]) (st' := []) (h' := (shT, fi, fl, fr)) rfl ?_
    exact gp_done g rfl
  · rw [if_neg h0]
    have g := co_go (w := w) (fi := fi) (fl := fl) (fr := fr) hk hc8 (by omega) c3 c2 c4 k 0 0 none none (by omega)
    refine gp_n 4 (j' := 4) (lv' := [some (.ref 70), some (.long w), none, some (.int 0), some (.int (nI 0)), none, none]) (st' := []) (h' := (shT, fi, fl, fr)) rfl ?_
    exact gp_done g rfl
theorem chk_C {L : Bool} {h : PmH} {a : AB} {w : Int64} {k c : Nat} (hI : HI hdT shT h) (hR : QC L h a) (hk : k ≤ 64) (hc8 : c ≤ 8) (e2 : (a_v a).1 2 = nI k) (e3 : (a_v a).1 3 = nI c) : ∃ x, Ev pmT 63 [.ref 0, .long w] h (some (.int x)) h ∧ ((0 < (a_v a).1 1 ∧ fitP k w → x = ckS k c ((a_v a).1 4) w) ∧ (¬ (0 < (a_v a).1 1 ∧ fitP k w) → x = -1)) := by
  have f := hR.2.2.2.2.1
  have c1 := f.1 1 (by decide)
  have c2 := (f.1 2 (by decide)).trans e2
  have c3 := (f.1 3 (by decide)).trans e3
  have ck := ck_ev_1 (w := w) hI hk hc8 c3 c2 (f.1 4 (by decide))
  have k0 : ph_r h 0 0 = some 1 := hi_r hI rfl rfl (by decide)
  have t1 := fit1 (w := w) hI c1 c2 hk
  have t0 := fit0 (w := w) hI c1 c2 hk
  by_cases hp : 0 < (a_v a).1 1 ∧ fitP k w
  · refine ⟨ckS k c ((a_v a).1 4) w, ?_, fun _ => rfl, fun z => absurd hp z⟩
    refine Ev.of (es := cd_63) (ml := 3) (lv := [some (.ref 0), some (.long w), none]) rfl rfl rfl ?_
    obtain ⟨S, fi, fl, fr⟩ := h
    have hS : S = shT := hI.1
    subst hS
    have k0 : fr 0 0 = some 1 := k0
    refine go_of ?_
    refine gp_n 1 (j' := 1) (lv' := [some (.ref 0), some (.long w), none]) (st' := [.ref 0]) (h' := (shT, fi, fl, fr)) rfl ?_
    refine gp_of (fun _ k9 => g_getR (q' := 1) rfl rfl (by decide) k0 k9) ?_
    refine gp_n 1 (j' := 3) (lv' := [some (.ref 0), some (.long w), none]) (st' := [.long w, .ref 1]) (h' := (shT, fi, fl, fr)) rfl ?_
    refine gp_of (fun _ k9 => g_call (y := 56) (as := [.ref 1, .long w]) (st' := []) rfl rfl (t1 hp.1 hp.2) k9) ?_
    refine gp_of (fun _ k9 => g_iff rfl (show ¬ ((1 : Int32) = (0 : Int32)) from by decide) k9) ?_
    refine gp_n 1 (j' := 6) (lv' := [some (.ref 0), some (.long w), none]) (st' := [.ref 0]) (h' := (shT, fi, fl, fr)) rfl ?_
    refine gp_of (fun _ k9 => g_getR (q' := 1) rfl rfl (by decide) k0 k9) ?_
    refine gp_n 1 (j' := 8) (lv' := [some (.ref 0), some (.long w), none]) (st' := [.long w, .ref 1]) (h' := (shT, fi, fl, fr)) rfl ?_
    refine gp_of (fun _ k9 => g_call (y := 60) (as := [.ref 1, .long w]) (st' := []) rfl rfl (ck) k9) ?_
    refine gp_n 1 (j' := 11) (lv' := [some (.ref 0), some (.long w), none]) (st' := [.int (ckS k c ((a_v a).1 4) w)]) (h' := (shT, fi, fl, fr)) rfl ?_
    refine gp_done (g_ret rfl) ?_
    rfl
  · refine ⟨-1, ?_, fun z => absurd z hp, fun _ => rfl⟩
    refine Ev.of (es := cd_63) (ml := 3) (lv := [some (.ref 0), some (.long w), none]) rfl rfl rfl ?_
    obtain ⟨S, fi, fl, fr⟩ := h
    have hS : S = shT := hI.1
    subst hS
    have k0 : fr 0 0 = some 1 := k0
    refine go_of ?_
    refine gp_n 1 (j' := 1) (lv' := [some (.ref 0), some (.long w), none]) (st' := [.ref 0]) (h' := (shT, fi, fl, fr)) rfl ?_
    refine gp_of (fun _ k9 => g_getR (q' := 1) rfl rfl (by decide) k0 k9) ?_
    refine gp_n 1 (j' := 3) (lv' := [some (.ref 0), some (.long w), none]) (st' := [.long w, .ref 1]) (h' := (shT, fi, fl, fr)) rfl ?_
    refine gp_of (fun _ k9 => g_call (y := 56) (as := [.ref 1, .long w]) (st' := []) rfl rfl (t0 hp) k9) ?_
    refine gp_of (fun _ k9 => g_ift rfl (show (0 : Int32) = (0 : Int32) from by decide) k9) ?_
    refine gp_n 1 (j' := 11) (lv' := [some (.ref 0), some (.long w), none]) (st' := [.int (-1)]) (h' := (shT, fi, fl, fr)) rfl ?_
    refine gp_done (g_ret rfl) ?_
    rfl
theorem chk_M {L : Bool} {h : PmH} {a : AB} {w : Int64} {k c : Nat} (hI : HI hdT shT h) (hR : QM L h a) (hk : k ≤ 64) (hc8 : c ≤ 8) (e2 : (a_v a).1 2 = nI k) (e3 : (a_v a).1 3 = nI c) : ∃ x, Ev pmT 176 [.ref 70, .long w] h (some (.int x)) h ∧ ((0 < (a_v a).1 1 ∧ fitP k w → x = ckS k c ((a_v a).1 4) w) ∧ (¬ (0 < (a_v a).1 1 ∧ fitP k w) → x = -1)) := by
  have f := hR.2.2.2.2.1
  have c1 : ph_i h 70 14 = (a_v a).1 1 := f.1 0 (by decide)
  have c2 : ph_i h 70 16 = nI k := (f.1 2 (by decide)).trans e2
  have c3 : ph_i h 70 17 = nI c := (f.1 3 (by decide)).trans e3
  have ck := co_ev (w := w) hI hk hc8 c3 c2 (f.1 4 (by decide))
  have t1 := fitM1 (w := w) hI c1 c2 hk
  have t0 := fitM0 (w := w) hI c1 c2 hk
  by_cases hp : 0 < (a_v a).1 1 ∧ fitP k w
  · refine ⟨ckS k c ((a_v a).1 4) w, ?_, fun _ => rfl, fun z => absurd hp z⟩
    refine Ev.of (es := cd_176) (ml := 3) (lv := [some (.ref 70), some (.long w), none]) rfl rfl rfl ?_
    have ck : Ev pmT 174 [.ref 70, .long w] h (some (.int (ckS k c ((a_v a).1 4) w))) h := ck
    obtain ⟨S, fi, fl, fr⟩ := h
    have hS : S = shT := hI.1
    subst hS
    refine go_of ?_
    refine gp_n 2 (j' := 2) (lv' := [some (.ref 70), some (.long w), none]) (st' := [.long w, .ref 70]) (h' := (shT, fi, fl, fr)) rfl ?_
    refine gp_of (fun _ k9 => g_call (y := 171) (as := [.ref 70, .long w]) (st' := []) rfl rfl (t1 hp.1 hp.2) k9) ?_
    refine gp_of (fun _ k9 => g_iff rfl (show ¬ ((1 : Int32) = (0 : Int32)) from by decide) k9) ?_
    refine gp_n 2 (j' := 6) (lv' := [some (.ref 70), some (.long w), none]) (st' := [.long w, .ref 70]) (h' := (shT, fi, fl, fr)) rfl ?_
    refine gp_of (fun _ k9 => g_call (y := 174) (as := [.ref 70, .long w]) (st' := []) rfl rfl (ck) k9) ?_
    refine gp_n 1 (j' := 9) (lv' := [some (.ref 70), some (.long w), none]) (st' := [.int (ckS k c ((a_v a).1 4) w)]) (h' := (shT, fi, fl, fr)) rfl ?_
    refine gp_done (g_ret rfl) ?_
    rfl
  · refine ⟨-1, ?_, fun z => absurd z hp, fun _ => rfl⟩
    refine Ev.of (es := cd_176) (ml := 3) (lv := [some (.ref 70), some (.long w), none]) rfl rfl rfl ?_
    obtain ⟨S, fi, fl, fr⟩ := h
    have hS : S = shT := hI.1
    subst hS
    refine go_of ?_
    refine gp_n 2 (j' := 2) (lv' := [some (.ref 70), some (.long w), none]) (st' := [.long w, .ref 70]) (h' := (shT, fi, fl, fr)) rfl ?_
    refine gp_of (fun _ k9 => g_call (y := 171) (as := [.ref 70, .long w]) (st' := []) rfl rfl (t0 hp) k9) ?_
    refine gp_of (fun _ k9 => g_ift rfl (show (0 : Int32) = (0 : Int32) from by decide) k9) ?_
    refine gp_n 1 (j' := 9) (lv' := [some (.ref 70), some (.long w), none]) (st' := [.int (-1)]) (h' := (shT, fi, fl, fr)) rfl ?_
    refine gp_done (g_ret rfl) ?_
    rfl
