/-! bits of a long -/
def bl (x : Int64) (i : Nat) : Bool := x.toBitVec.getLsbD i
theorem bl_s : ∀ n, n < 64 → (((nI n).toInt64 &&& 63).toBitVec.smod 64).toNat = n := by decide +kernel
theorem bl_or (x y : Int64) (i : Nat) : bl (x ||| y) i = (bl x i || bl y i) := by unfold bl; rw [Int64.toBitVec_or, BitVec.getLsbD_or]
theorem bl_and (x y : Int64) (i : Nat) : bl (x &&& y) i = (bl x i && bl y i) := by unfold bl; rw [Int64.toBitVec_and, BitVec.getLsbD_and]
theorem bl_xor (x y : Int64) (i : Nat) : bl (x ^^^ y) i = (bl x i ^^ bl y i) := by unfold bl; rw [Int64.toBitVec_xor, BitVec.getLsbD_xor]
theorem bl_1 : ∀ i, i < 64 → bl 1 i = decide (i = 0) := by decide +kernel
theorem bl_sshr (n : Nat) (hn : n < 64) (x : Int64) {i : Nat} (hi : i < 64) : bl (x >>> ((nI n).toInt64 &&& 63)) i = if n + i < 64 then bl x (n + i) else bl x 63 := by
  unfold bl
  rw [Int64.toBitVec_shiftRight]
  show (x.toBitVec.sshiftRight (((nI n).toInt64 &&& 63).toBitVec.smod 64).toNat).getLsbD i = _
  rw [bl_s n hn, BitVec.getLsbD_sshiftRight, BitVec.msb_eq_getLsbD_last]
  simp [hi]
theorem bl_shl (n : Nat) (hn : n < 64) (x : Int64) {i : Nat} (hi : i < 64) : bl (x <<< ((nI n).toInt64 &&& 63)) i = (decide (n ≤ i) && bl x (i - n)) := by
  unfold bl
  rw [Int64.toBitVec_shiftLeft]
  show (x.toBitVec <<< (((nI n).toInt64 &&& 63).toBitVec.smod 64).toNat).getLsbD i = _
  rw [bl_s n hn, BitVec.getLsbD_shiftLeft]
  rcases Nat.lt_or_ge i n with h | h
  · simp [h, Nat.not_le.mpr h]
  · simp [hi, h, Nat.not_lt.mpr h]
theorem bl_ext {x y : Int64} (h : ∀ i, i < 64 → bl x i = bl y i) : x = y := by
  rw [← Int64.toBitVec_inj]
  exact BitVec.eq_of_getLsbD_eq (fun i hi => h i hi)
theorem hasf_bit {v : Int64} {t : Nat} (ht : t < 64) : hasf v (nI t) = if bl v t = true then 1 else 0 := by
  have e0 : bl ((v >>> ((nI t).toInt64 &&& 63)) &&& 1) 0 = bl v t := by
    rw [bl_and, bl_sshr t ht v (by omega), bl_1 0 (by omega), if_pos (by omega)]
    simp
  unfold hasf
  by_cases hb : bl v t = true
  · rw [if_pos hb, if_neg]
    rw [lg_cmp_eq]
    refine fun hn => hn (bl_ext (fun i hi => ?_))
    rw [bl_1 i hi, bl_and, bl_1 i hi]
    by_cases hz : i = 0
    · subst hz
      rw [bl_and, bl_1 0 (by omega)] at e0
      simp at e0
      simp [e0, hb]
    · simp [hz]
  · rw [if_neg hb, if_pos]
    rw [lg_cmp_eq]
    intro he
    rw [he, bl_1 0 (by omega)] at e0
    exact hb (by rw [← e0]; rfl)
/-! beginnings: those that live are told apart within both their lengths -/
def sk_L (h : PmH) (a k : Nat) : Prop := ph_i h 88 a = nI k
def sk_D (h : PmH) (a b : Nat) : Prop := ∀ ka kb, ka ≤ 64 → kb ≤ 64 → sk_L h a ka → sk_L h b kb → ∃ t, t < ka ∧ t < kb ∧ bl (ph_l h 87 a) t ≠ bl (ph_l h 87 b) t
def sk_W : WSt := [(70, 45), (70, 46), (70, 47), (70, 48), (75, 9999), (87, 9999), (88, 9999), (89, 9999)]
def sk_I (h0 : PmH) (m : Nat) (h : PmH) : Prop := HI hdT shT h ∧ fram sk_W h0 h ∧ ph_i h 70 45 = nI m ∧ (∀ a, a < m → ph_i h 88 a < 0 ∨ ∃ k, k ≤ 64 ∧ sk_L h a k ∧ ∀ t, k ≤ t → t < 64 → bl (ph_l h 87 a) t = false) ∧ ∀ a b, a < m → b < m → a ≠ b → sk_D h a b
theorem nI_inj {a b : Nat} (ha : a ≤ 64) (hb : b ≤ 64) (h : nI a = nI b) : a = b := (nI_eq (by omega) (by omega)).mp h
theorem hd70 {h : PmH} {c : Nat} {x : Int32} (hI : HI hdT shT h) (hd : (hd_at hdT shT 70 c).1 = 9) : HI hdT shT (ph_s h, pm_u2 (ph_i h) 70 c x, ph_l h, ph_r h) := HI_wi hI (fun z => by rw [hd] at z; cases z)
theorem ia_ev {h0 h : PmH} {m a b : Nat} (hI : sk_I h0 m h) (hm : m ≤ 3100) (ha : a < m) (hb : b < m) (hab : a ≠ b) (la : ¬ ph_i h 88 a < 0) (lb : ¬ ph_i h 88 b < 0) : ∃ x : Int32, (x = 0 ∨ x = 1) ∧ Ev pmT 221 [.ref 70, .int (nI a), .int (nI b)] h (some (.int x)) h := by
  obtain ⟨i1, i2, i3, i4, i5⟩ := hI
  obtain ⟨ka, ka1, ka2, -⟩ := (i4 a ha).resolve_left la
  obtain ⟨kb, kb1, kb2, -⟩ := (i4 b hb).resolve_left lb
  obtain ⟨t, t1, t2, t3⟩ := i5 a b ha hb hab ka kb ka1 kb1 ka2 kb2
  obtain ⟨S, fi, fl, fr⟩ := h
  have hS : S = shT := i1.1
  subst hS
  have r_70_42 : fr 70 42 = some 87 := hi_r i1 rfl rfl (by decide)
  have r_70_43 : fr 70 43 = some 88 := hi_r i1 rfl rfl (by decide)
  have r_70_44 : fr 70 44 = some 89 := hi_r i1 rfl rfl (by decide)
  have ta : bl (fl 87 a ^^^ fl 87 b) t = true := by
    rw [bl_xor]
    have t3 : bl (fl 87 a) t ≠ bl (fl 87 b) t := t3
    cases h1 : bl (fl 87 a) t <;> cases h2 : bl (fl 87 b) t
    · rw [h1, h2] at t3; exact absurd rfl t3
    · rfl
    · rfl
    · rw [h1, h2] at t3; exact absurd rfl t3
  by_cases c1 : fi 89 a = fi 89 b
  · by_cases c2 : fi 88 a = fi 88 b
    · have ex : ∃ i', i' < 64 ∧ bl (fl 87 a ^^^ fl 87 b) i' = true ∧ ∀ j, j < i' → ¬ bl (fl 87 a ^^^ fl 87 b) j = true := by
        have : ∀ n, bl (fl 87 a ^^^ fl 87 b) n = true → n < 64 → ∃ i', i' < 64 ∧ bl (fl 87 a ^^^ fl 87 b) i' = true ∧ ∀ j, j < i' → ¬ bl (fl 87 a ^^^ fl 87 b) j = true := by
          intro n
          induction n using Nat.strongRecOn with
          | ind n ih =>
            intro hn h64
            by_cases hj : ∃ j, j < n ∧ bl (fl 87 a ^^^ fl 87 b) j = true
            · obtain ⟨j, j1, j2⟩ := hj
              exact ih j j1 j2 (by omega)
            · exact ⟨n, h64, hn, fun j hj1 hj2 => hj ⟨j, hj1, hj2⟩⟩
        exact this t ta (by omega)
      obtain ⟨q, q1, q2, q3⟩ := ex
      have loop : ∀ (x : Int32), (∀ i', i' < 64 → bl (fl 87 a ^^^ fl 87 b) i' = true → (∀ j, j < i' → ¬ bl (fl 87 a ^^^ fl 87 b) j = true) → Go pmT none cd_221 62 [some (.ref 70), some (.int (nI a)), some (.int (nI b)), some (.long (fl 87 a ^^^ fl 87 b)), none, some (.int (nI i'))] [] (shT, fi, fl, fr) (some (.int x), (shT, fi, fl, fr))) → Go pmT none cd_221 56 [some (.ref 70), some (.int (nI a)), some (.int (nI b)), some (.long (fl 87 a ^^^ fl 87 b)), none, some (.int (nI 0))] [] (shT, fi, fl, fr) (some (.int x), (shT, fi, fl, fr)) := by
        intro x k
        have : ∀ n i, i + n = q → Go pmT none cd_221 56 [some (.ref 70), some (.int (nI a)), some (.int (nI b)), some (.long (fl 87 a ^^^ fl 87 b)), none, some (.int (nI i))] [] (shT, fi, fl, fr) (some (.int x), (shT, fi, fl, fr)) := by
          intro n
          induction n with
          | zero =>
            intro i hi
            have hi : i = q := by omega
            subst hi
            have z : hasf (fl 87 a ^^^ fl 87 b) (nI i) = 1 := by rw [hasf_bit (by omega), if_pos q2]
            refine g_n 2 (j' := 58) (lv' := [some (.ref 70), some (.int (nI a)), some (.int (nI b)), some (.long (fl 87 a ^^^ fl 87 b)), none, some (.int (nI i))]) (st' := [.int (nI i), .long (fl 87 a ^^^ fl 87 b)]) (h' := (shT, fi, fl, fr)) rfl ?_
            refine g_call (y := 161) (as := [.long (fl 87 a ^^^ fl 87 b), .int (nI i)]) (st' := []) rfl rfl (z ▸ has_ev) ?_
            refine g_ift rfl (show ¬ (1 : Int32) = (0 : Int32) from by decide) ?_
            exact k i (by omega) q2 q3
          | succ n ih =>
            intro i hi
            have z : hasf (fl 87 a ^^^ fl 87 b) (nI i) = 0 := by rw [hasf_bit (by omega), if_neg (q3 i (by omega))]
            refine g_n 2 (j' := 58) (lv' := [some (.ref 70), some (.int (nI a)), some (.int (nI b)), some (.long (fl 87 a ^^^ fl 87 b)), none, some (.int (nI i))]) (st' := [.int (nI i), .long (fl 87 a ^^^ fl 87 b)]) (h' := (shT, fi, fl, fr)) rfl ?_
            refine g_call (y := 161) (as := [.long (fl 87 a ^^^ fl 87 b), .int (nI i)]) (st' := []) rfl rfl (z ▸ has_ev) ?_
            refine g_iff rfl (show ¬ (¬ (0 : Int32) = (0 : Int32)) from fun hn => hn rfl) ?_
            refine g_n 2 (j' := 56) (lv' := [some (.ref 70), some (.int (nI a)), some (.int (nI b)), some (.long (fl 87 a ^^^ fl 87 b)), none, some (.int ((nI i) + 1))]) (st' := []) (h' := (shT, fi, fl, fr)) rfl ?_
            rw [nI_1]
            exact ih (i + 1) (by omega)
        exact this q 0 (by omega)
      rcases hasf_01 (fl 87 a) (nI q) with z | z
      · refine ⟨1, Or.inr rfl, Ev.of (es := cd_221) (ml := 6) (lv := [some (.ref 70), some (.int (nI a)), some (.int (nI b)), none, none, none]) rfl rfl rfl ?_⟩
        have l62 := loop 1 (fun i' hi' hb' hf' => by
          have hq : i' = q := by
            rcases Nat.lt_trichotomy i' q with h | h | h
            · exact absurd hb' (q3 i' h)
            · exact h
            · exact absurd q2 (hf' q h)
          subst hq
          refine g_n 1 (j' := 63) (lv' := [some (.ref 70), some (.int (nI a)), some (.int (nI b)), some (.long (fl 87 a ^^^ fl 87 b)), none, some (.int (nI i'))]) (st' := [.ref 70]) (h' := (shT, fi, fl, fr)) rfl ?_
          refine g_getR (q' := 87) rfl rfl (by decide) r_70_42 ?_
          refine g_n 1 (j' := 65) (lv' := [some (.ref 70), some (.int (nI a)), some (.int (nI b)), some (.long (fl 87 a ^^^ fl 87 b)), none, some (.int (nI i'))]) (st' := [.int (nI a), .ref 87]) (h' := (shT, fi, fl, fr)) rfl ?_
          refine g_lald (k := a) (x := fl 87 a) rfl rfl (rfl) (by omega) (by decide) (rfl) ?_
          refine g_n 1 (j' := 67) (lv' := [some (.ref 70), some (.int (nI a)), some (.int (nI b)), some (.long (fl 87 a ^^^ fl 87 b)), none, some (.int (nI i'))]) (st' := [.int (nI i'), .long (fl 87 a)]) (h' := (shT, fi, fl, fr)) rfl ?_
          refine g_call (y := 161) (as := [.long (fl 87 a), .int (nI i')]) (st' := []) rfl rfl (z ▸ has_ev) ?_
          refine g_iff rfl (show ¬ (¬ (0 : Int32) = (0 : Int32)) from fun hn => hn rfl) ?_
          refine g_n 2 (j' := 72) (lv' := [some (.ref 70), some (.int (nI a)), some (.int (nI b)), some (.long (fl 87 a ^^^ fl 87 b)), none, some (.int (nI i'))]) (st' := [.int 1]) (h' := (shT, fi, fl, fr)) rfl ?_
          exact g_retz rfl (by decide))
        refine g_n 1 (j' := 1) (lv' := [some (.ref 70), some (.int (nI a)), some (.int (nI b)), none, none, none]) (st' := [.ref 70]) (h' := (shT, fi, fl, fr)) rfl ?_
        refine g_getR (q' := 89) rfl rfl (by decide) r_70_44 ?_
        refine g_n 1 (j' := 3) (lv' := [some (.ref 70), some (.int (nI a)), some (.int (nI b)), none, none, none]) (st' := [.int (nI a), .ref 89]) (h' := (shT, fi, fl, fr)) rfl ?_
        refine g_iald (k := a) (x := fi 89 a) rfl rfl (rfl) (by omega) (by decide) (rfl) ?_
        refine g_n 1 (j' := 5) (lv' := [some (.ref 70), some (.int (nI a)), some (.int (nI b)), none, none, none]) (st' := [.ref 70, .int (fi 89 a)]) (h' := (shT, fi, fl, fr)) rfl ?_
        refine g_getR (q' := 89) rfl rfl (by decide) r_70_44 ?_
        refine g_n 1 (j' := 7) (lv' := [some (.ref 70), some (.int (nI a)), some (.int (nI b)), none, none, none]) (st' := [.int (nI b), .ref 89, .int (fi 89 a)]) (h' := (shT, fi, fl, fr)) rfl ?_
        refine g_iald (k := b) (x := fi 89 b) rfl rfl (rfl) (by omega) (by decide) (rfl) ?_
        refine g_ict rfl (show (fi 89 a) = (fi 89 b) from c1) ?_
        refine g_n 1 (j' := 23) (lv' := [some (.ref 70), some (.int (nI a)), some (.int (nI b)), none, none, none]) (st' := [.ref 70]) (h' := (shT, fi, fl, fr)) rfl ?_
        refine g_getR (q' := 88) rfl rfl (by decide) r_70_43 ?_
        refine g_n 1 (j' := 25) (lv' := [some (.ref 70), some (.int (nI a)), some (.int (nI b)), none, none, none]) (st' := [.int (nI a), .ref 88]) (h' := (shT, fi, fl, fr)) rfl ?_
        refine g_iald (k := a) (x := fi 88 a) rfl rfl (rfl) (by omega) (by decide) (rfl) ?_
        refine g_n 1 (j' := 27) (lv' := [some (.ref 70), some (.int (nI a)), some (.int (nI b)), none, none, none]) (st' := [.ref 70, .int (fi 88 a)]) (h' := (shT, fi, fl, fr)) rfl ?_
        refine g_getR (q' := 88) rfl rfl (by decide) r_70_43 ?_
        refine g_n 1 (j' := 29) (lv' := [some (.ref 70), some (.int (nI a)), some (.int (nI b)), none, none, none]) (st' := [.int (nI b), .ref 88, .int (fi 88 a)]) (h' := (shT, fi, fl, fr)) rfl ?_
        refine g_iald (k := b) (x := fi 88 b) rfl rfl (rfl) (by omega) (by decide) (rfl) ?_
        refine g_ict rfl (show (fi 88 a) = (fi 88 b) from c2) ?_
        refine g_n 1 (j' := 45) (lv' := [some (.ref 70), some (.int (nI a)), some (.int (nI b)), none, none, none]) (st' := [.ref 70]) (h' := (shT, fi, fl, fr)) rfl ?_
        refine g_getR (q' := 87) rfl rfl (by decide) r_70_42 ?_
        refine g_n 1 (j' := 47) (lv' := [some (.ref 70), some (.int (nI a)), some (.int (nI b)), none, none, none]) (st' := [.int (nI a), .ref 87]) (h' := (shT, fi, fl, fr)) rfl ?_
        refine g_lald (k := a) (x := fl 87 a) rfl rfl (rfl) (by omega) (by decide) (rfl) ?_
        refine g_n 1 (j' := 49) (lv' := [some (.ref 70), some (.int (nI a)), some (.int (nI b)), none, none, none]) (st' := [.ref 70, .long (fl 87 a)]) (h' := (shT, fi, fl, fr)) rfl ?_
        refine g_getR (q' := 87) rfl rfl (by decide) r_70_42 ?_
        refine g_n 1 (j' := 51) (lv' := [some (.ref 70), some (.int (nI a)), some (.int (nI b)), none, none, none]) (st' := [.int (nI b), .ref 87, .long (fl 87 a)]) (h' := (shT, fi, fl, fr)) rfl ?_
        refine g_lald (k := b) (x := fl 87 b) rfl rfl (rfl) (by omega) (by decide) (rfl) ?_
        refine g_n 4 (j' := 56) (lv' := [some (.ref 70), some (.int (nI a)), some (.int (nI b)), some (.long ((fl 87 a) ^^^ (fl 87 b))), none, some (.int (nI 0))]) (st' := []) (h' := (shT, fi, fl, fr)) rfl ?_
        exact l62
      · refine ⟨0, Or.inl rfl, Ev.of (es := cd_221) (ml := 6) (lv := [some (.ref 70), some (.int (nI a)), some (.int (nI b)), none, none, none]) rfl rfl rfl ?_⟩
        have l62 := loop 0 (fun i' hi' hb' hf' => by
          have hq : i' = q := by
            rcases Nat.lt_trichotomy i' q with h | h | h
            · exact absurd hb' (q3 i' h)
            · exact h
            · exact absurd q2 (hf' q h)
          subst hq
          refine g_n 1 (j' := 63) (lv' := [some (.ref 70), some (.int (nI a)), some (.int (nI b)), some (.long (fl 87 a ^^^ fl 87 b)), none, some (.int (nI i'))]) (st' := [.ref 70]) (h' := (shT, fi, fl, fr)) rfl ?_
          refine g_getR (q' := 87) rfl rfl (by decide) r_70_42 ?_
          refine g_n 1 (j' := 65) (lv' := [some (.ref 70), some (.int (nI a)), some (.int (nI b)), some (.long (fl 87 a ^^^ fl 87 b)), none, some (.int (nI i'))]) (st' := [.int (nI a), .ref 87]) (h' := (shT, fi, fl, fr)) rfl ?_
          refine g_lald (k := a) (x := fl 87 a) rfl rfl (rfl) (by omega) (by decide) (rfl) ?_
          refine g_n 1 (j' := 67) (lv' := [some (.ref 70), some (.int (nI a)), some (.int (nI b)), some (.long (fl 87 a ^^^ fl 87 b)), none, some (.int (nI i'))]) (st' := [.int (nI i'), .long (fl 87 a)]) (h' := (shT, fi, fl, fr)) rfl ?_
          refine g_call (y := 161) (as := [.long (fl 87 a), .int (nI i')]) (st' := []) rfl rfl (z ▸ has_ev) ?_
          refine g_ift rfl (show ¬ (1 : Int32) = (0 : Int32) from by decide) ?_
          refine g_n 1 (j' := 72) (lv' := [some (.ref 70), some (.int (nI a)), some (.int (nI b)), some (.long (fl 87 a ^^^ fl 87 b)), none, some (.int (nI i'))]) (st' := [.int 0]) (h' := (shT, fi, fl, fr)) rfl ?_
          exact g_retz rfl (by decide))
        refine g_n 1 (j' := 1) (lv' := [some (.ref 70), some (.int (nI a)), some (.int (nI b)), none, none, none]) (st' := [.ref 70]) (h' := (shT, fi, fl, fr)) rfl ?_
        refine g_getR (q' := 89) rfl rfl (by decide) r_70_44 ?_
        refine g_n 1 (j' := 3) (lv' := [some (.ref 70), some (.int (nI a)), some (.int (nI b)), none, none, none]) (st' := [.int (nI a), .ref 89]) (h' := (shT, fi, fl, fr)) rfl ?_
        refine g_iald (k := a) (x := fi 89 a) rfl rfl (rfl) (by omega) (by decide) (rfl) ?_
        refine g_n 1 (j' := 5) (lv' := [some (.ref 70), some (.int (nI a)), some (.int (nI b)), none, none, none]) (st' := [.ref 70, .int (fi 89 a)]) (h' := (shT, fi, fl, fr)) rfl ?_
        refine g_getR (q' := 89) rfl rfl (by decide) r_70_44 ?_
        refine g_n 1 (j' := 7) (lv' := [some (.ref 70), some (.int (nI a)), some (.int (nI b)), none, none, none]) (st' := [.int (nI b), .ref 89, .int (fi 89 a)]) (h' := (shT, fi, fl, fr)) rfl ?_
        refine g_iald (k := b) (x := fi 89 b) rfl rfl (rfl) (by omega) (by decide) (rfl) ?_
        refine g_ict rfl (show (fi 89 a) = (fi 89 b) from c1) ?_
        refine g_n 1 (j' := 23) (lv' := [some (.ref 70), some (.int (nI a)), some (.int (nI b)), none, none, none]) (st' := [.ref 70]) (h' := (shT, fi, fl, fr)) rfl ?_
        refine g_getR (q' := 88) rfl rfl (by decide) r_70_43 ?_
        refine g_n 1 (j' := 25) (lv' := [some (.ref 70), some (.int (nI a)), some (.int (nI b)), none, none, none]) (st' := [.int (nI a), .ref 88]) (h' := (shT, fi, fl, fr)) rfl ?_
        refine g_iald (k := a) (x := fi 88 a) rfl rfl (rfl) (by omega) (by decide) (rfl) ?_
        refine g_n 1 (j' := 27) (lv' := [some (.ref 70), some (.int (nI a)), some (.int (nI b)), none, none, none]) (st' := [.ref 70, .int (fi 88 a)]) (h' := (shT, fi, fl, fr)) rfl ?_
        refine g_getR (q' := 88) rfl rfl (by decide) r_70_43 ?_
        refine g_n 1 (j' := 29) (lv' := [some (.ref 70), some (.int (nI a)), some (.int (nI b)), none, none, none]) (st' := [.int (nI b), .ref 88, .int (fi 88 a)]) (h' := (shT, fi, fl, fr)) rfl ?_
        refine g_iald (k := b) (x := fi 88 b) rfl rfl (rfl) (by omega) (by decide) (rfl) ?_
        refine g_ict rfl (show (fi 88 a) = (fi 88 b) from c2) ?_
        refine g_n 1 (j' := 45) (lv' := [some (.ref 70), some (.int (nI a)), some (.int (nI b)), none, none, none]) (st' := [.ref 70]) (h' := (shT, fi, fl, fr)) rfl ?_
        refine g_getR (q' := 87) rfl rfl (by decide) r_70_42 ?_
        refine g_n 1 (j' := 47) (lv' := [some (.ref 70), some (.int (nI a)), some (.int (nI b)), none, none, none]) (st' := [.int (nI a), .ref 87]) (h' := (shT, fi, fl, fr)) rfl ?_
        refine g_lald (k := a) (x := fl 87 a) rfl rfl (rfl) (by omega) (by decide) (rfl) ?_
        refine g_n 1 (j' := 49) (lv' := [some (.ref 70), some (.int (nI a)), some (.int (nI b)), none, none, none]) (st' := [.ref 70, .long (fl 87 a)]) (h' := (shT, fi, fl, fr)) rfl ?_
        refine g_getR (q' := 87) rfl rfl (by decide) r_70_42 ?_
        refine g_n 1 (j' := 51) (lv' := [some (.ref 70), some (.int (nI a)), some (.int (nI b)), none, none, none]) (st' := [.int (nI b), .ref 87, .long (fl 87 a)]) (h' := (shT, fi, fl, fr)) rfl ?_
        refine g_lald (k := b) (x := fl 87 b) rfl rfl (rfl) (by omega) (by decide) (rfl) ?_
        refine g_n 4 (j' := 56) (lv' := [some (.ref 70), some (.int (nI a)), some (.int (nI b)), some (.long ((fl 87 a) ^^^ (fl 87 b))), none, some (.int (nI 0))]) (st' := []) (h' := (shT, fi, fl, fr)) rfl ?_
        exact l62
    · by_cases c3 : fi 88 a ≤ fi 88 b
      · refine ⟨0, Or.inl rfl, Ev.of (es := cd_221) (ml := 6) (lv := [some (.ref 70), some (.int (nI a)), some (.int (nI b)), none, none, none]) rfl rfl rfl ?_⟩
        refine g_n 1 (j' := 1) (lv' := [some (.ref 70), some (.int (nI a)), some (.int (nI b)), none, none, none]) (st' := [.ref 70]) (h' := (shT, fi, fl, fr)) rfl ?_
        refine g_getR (q' := 89) rfl rfl (by decide) r_70_44 ?_
        refine g_n 1 (j' := 3) (lv' := [some (.ref 70), some (.int (nI a)), some (.int (nI b)), none, none, none]) (st' := [.int (nI a), .ref 89]) (h' := (shT, fi, fl, fr)) rfl ?_
        refine g_iald (k := a) (x := fi 89 a) rfl rfl (rfl) (by omega) (by decide) (rfl) ?_
        refine g_n 1 (j' := 5) (lv' := [some (.ref 70), some (.int (nI a)), some (.int (nI b)), none, none, none]) (st' := [.ref 70, .int (fi 89 a)]) (h' := (shT, fi, fl, fr)) rfl ?_
        refine g_getR (q' := 89) rfl rfl (by decide) r_70_44 ?_
        refine g_n 1 (j' := 7) (lv' := [some (.ref 70), some (.int (nI a)), some (.int (nI b)), none, none, none]) (st' := [.int (nI b), .ref 89, .int (fi 89 a)]) (h' := (shT, fi, fl, fr)) rfl ?_
        refine g_iald (k := b) (x := fi 89 b) rfl rfl (rfl) (by omega) (by decide) (rfl) ?_
        refine g_ict rfl (show (fi 89 a) = (fi 89 b) from c1) ?_
        refine g_n 1 (j' := 23) (lv' := [some (.ref 70), some (.int (nI a)), some (.int (nI b)), none, none, none]) (st' := [.ref 70]) (h' := (shT, fi, fl, fr)) rfl ?_
        refine g_getR (q' := 88) rfl rfl (by decide) r_70_43 ?_
        refine g_n 1 (j' := 25) (lv' := [some (.ref 70), some (.int (nI a)), some (.int (nI b)), none, none, none]) (st' := [.int (nI a), .ref 88]) (h' := (shT, fi, fl, fr)) rfl ?_
        refine g_iald (k := a) (x := fi 88 a) rfl rfl (rfl) (by omega) (by decide) (rfl) ?_
        refine g_n 1 (j' := 27) (lv' := [some (.ref 70), some (.int (nI a)), some (.int (nI b)), none, none, none]) (st' := [.ref 70, .int (fi 88 a)]) (h' := (shT, fi, fl, fr)) rfl ?_
        refine g_getR (q' := 88) rfl rfl (by decide) r_70_43 ?_
        refine g_n 1 (j' := 29) (lv' := [some (.ref 70), some (.int (nI a)), some (.int (nI b)), none, none, none]) (st' := [.int (nI b), .ref 88, .int (fi 88 a)]) (h' := (shT, fi, fl, fr)) rfl ?_
        refine g_iald (k := b) (x := fi 88 b) rfl rfl (rfl) (by omega) (by decide) (rfl) ?_
        refine g_icf rfl (show ¬ ((fi 88 a) = (fi 88 b)) from c2) ?_
        refine g_n 1 (j' := 32) (lv' := [some (.ref 70), some (.int (nI a)), some (.int (nI b)), none, none, none]) (st' := [.ref 70]) (h' := (shT, fi, fl, fr)) rfl ?_
        refine g_getR (q' := 88) rfl rfl (by decide) r_70_43 ?_
        refine g_n 1 (j' := 34) (lv' := [some (.ref 70), some (.int (nI a)), some (.int (nI b)), none, none, none]) (st' := [.int (nI a), .ref 88]) (h' := (shT, fi, fl, fr)) rfl ?_
        refine g_iald (k := a) (x := fi 88 a) rfl rfl (rfl) (by omega) (by decide) (rfl) ?_
        refine g_n 1 (j' := 36) (lv' := [some (.ref 70), some (.int (nI a)), some (.int (nI b)), none, none, none]) (st' := [.ref 70, .int (fi 88 a)]) (h' := (shT, fi, fl, fr)) rfl ?_
        refine g_getR (q' := 88) rfl rfl (by decide) r_70_43 ?_
        refine g_n 1 (j' := 38) (lv' := [some (.ref 70), some (.int (nI a)), some (.int (nI b)), none, none, none]) (st' := [.int (nI b), .ref 88, .int (fi 88 a)]) (h' := (shT, fi, fl, fr)) rfl ?_
        refine g_iald (k := b) (x := fi 88 b) rfl rfl (rfl) (by omega) (by decide) (rfl) ?_
        refine g_ict rfl (show (fi 88 a) ≤ (fi 88 b) from c3) ?_
        refine g_n 1 (j' := 43) (lv' := [some (.ref 70), some (.int (nI a)), some (.int (nI b)), none, none, none]) (st' := [.int 0]) (h' := (shT, fi, fl, fr)) rfl ?_
        exact g_retz rfl (by decide)
      · refine ⟨1, Or.inr rfl, Ev.of (es := cd_221) (ml := 6) (lv := [some (.ref 70), some (.int (nI a)), some (.int (nI b)), none, none, none]) rfl rfl rfl ?_⟩
        refine g_n 1 (j' := 1) (lv' := [some (.ref 70), some (.int (nI a)), some (.int (nI b)), none, none, none]) (st' := [.ref 70]) (h' := (shT, fi, fl, fr)) rfl ?_
        refine g_getR (q' := 89) rfl rfl (by decide) r_70_44 ?_
        refine g_n 1 (j' := 3) (lv' := [some (.ref 70), some (.int (nI a)), some (.int (nI b)), none, none, none]) (st' := [.int (nI a), .ref 89]) (h' := (shT, fi, fl, fr)) rfl ?_
        refine g_iald (k := a) (x := fi 89 a) rfl rfl (rfl) (by omega) (by decide) (rfl) ?_
        refine g_n 1 (j' := 5) (lv' := [some (.ref 70), some (.int (nI a)), some (.int (nI b)), none, none, none]) (st' := [.ref 70, .int (fi 89 a)]) (h' := (shT, fi, fl, fr)) rfl ?_
        refine g_getR (q' := 89) rfl rfl (by decide) r_70_44 ?_
        refine g_n 1 (j' := 7) (lv' := [some (.ref 70), some (.int (nI a)), some (.int (nI b)), none, none, none]) (st' := [.int (nI b), .ref 89, .int (fi 89 a)]) (h' := (shT, fi, fl, fr)) rfl ?_
        refine g_iald (k := b) (x := fi 89 b) rfl rfl (rfl) (by omega) (by decide) (rfl) ?_
        refine g_ict rfl (show (fi 89 a) = (fi 89 b) from c1) ?_
        refine g_n 1 (j' := 23) (lv' := [some (.ref 70), some (.int (nI a)), some (.int (nI b)), none, none, none]) (st' := [.ref 70]) (h' := (shT, fi, fl, fr)) rfl ?_
        refine g_getR (q' := 88) rfl rfl (by decide) r_70_43 ?_
        refine g_n 1 (j' := 25) (lv' := [some (.ref 70), some (.int (nI a)), some (.int (nI b)), none, none, none]) (st' := [.int (nI a), .ref 88]) (h' := (shT, fi, fl, fr)) rfl ?_
        refine g_iald (k := a) (x := fi 88 a) rfl rfl (rfl) (by omega) (by decide) (rfl) ?_
        refine g_n 1 (j' := 27) (lv' := [some (.ref 70), some (.int (nI a)), some (.int (nI b)), none, none, none]) (st' := [.ref 70, .int (fi 88 a)]) (h' := (shT, fi, fl, fr)) rfl ?_
        refine g_getR (q' := 88) rfl rfl (by decide) r_70_43 ?_
        refine g_n 1 (j' := 29) (lv' := [some (.ref 70), some (.int (nI a)), some (.int (nI b)), none, none, none]) (st' := [.int (nI b), .ref 88, .int (fi 88 a)]) (h' := (shT, fi, fl, fr)) rfl ?_
        refine g_iald (k := b) (x := fi 88 b) rfl rfl (rfl) (by omega) (by decide) (rfl) ?_
        refine g_icf rfl (show ¬ ((fi 88 a) = (fi 88 b)) from c2) ?_
        refine g_n 1 (j' := 32) (lv' := [some (.ref 70), some (.int (nI a)), some (.int (nI b)), none, none, none]) (st' := [.ref 70]) (h' := (shT, fi, fl, fr)) rfl ?_
        refine g_getR (q' := 88) rfl rfl (by decide) r_70_43 ?_
        refine g_n 1 (j' := 34) (lv' := [some (.ref 70), some (.int (nI a)), some (.int (nI b)), none, none, none]) (st' := [.int (nI a), .ref 88]) (h' := (shT, fi, fl, fr)) rfl ?_
        refine g_iald (k := a) (x := fi 88 a) rfl rfl (rfl) (by omega) (by decide) (rfl) ?_
        refine g_n 1 (j' := 36) (lv' := [some (.ref 70), some (.int (nI a)), some (.int (nI b)), none, none, none]) (st' := [.ref 70, .int (fi 88 a)]) (h' := (shT, fi, fl, fr)) rfl ?_
        refine g_getR (q' := 88) rfl rfl (by decide) r_70_43 ?_
        refine g_n 1 (j' := 38) (lv' := [some (.ref 70), some (.int (nI a)), some (.int (nI b)), none, none, none]) (st' := [.int (nI b), .ref 88, .int (fi 88 a)]) (h' := (shT, fi, fl, fr)) rfl ?_
        refine g_iald (k := b) (x := fi 88 b) rfl rfl (rfl) (by omega) (by decide) (rfl) ?_
        refine g_icf rfl (show ¬ ((fi 88 a) ≤ (fi 88 b)) from c3) ?_
        refine g_n 2 (j' := 43) (lv' := [some (.ref 70), some (.int (nI a)), some (.int (nI b)), none, none, none]) (st' := [.int 1]) (h' := (shT, fi, fl, fr)) rfl ?_
        exact g_retz rfl (by decide)
  · by_cases c3 : fi 89 b ≤ fi 89 a
    · refine ⟨0, Or.inl rfl, Ev.of (es := cd_221) (ml := 6) (lv := [some (.ref 70), some (.int (nI a)), some (.int (nI b)), none, none, none]) rfl rfl rfl ?_⟩
      refine g_n 1 (j' := 1) (lv' := [some (.ref 70), some (.int (nI a)), some (.int (nI b)), none, none, none]) (st' := [.ref 70]) (h' := (shT, fi, fl, fr)) rfl ?_
      refine g_getR (q' := 89) rfl rfl (by decide) r_70_44 ?_
      refine g_n 1 (j' := 3) (lv' := [some (.ref 70), some (.int (nI a)), some (.int (nI b)), none, none, none]) (st' := [.int (nI a), .ref 89]) (h' := (shT, fi, fl, fr)) rfl ?_
      refine g_iald (k := a) (x := fi 89 a) rfl rfl (rfl) (by omega) (by decide) (rfl) ?_
      refine g_n 1 (j' := 5) (lv' := [some (.ref 70), some (.int (nI a)), some (.int (nI b)), none, none, none]) (st' := [.ref 70, .int (fi 89 a)]) (h' := (shT, fi, fl, fr)) rfl ?_
      refine g_getR (q' := 89) rfl rfl (by decide) r_70_44 ?_
      refine g_n 1 (j' := 7) (lv' := [some (.ref 70), some (.int (nI a)), some (.int (nI b)), none, none, none]) (st' := [.int (nI b), .ref 89, .int (fi 89 a)]) (h' := (shT, fi, fl, fr)) rfl ?_
      refine g_iald (k := b) (x := fi 89 b) rfl rfl (rfl) (by omega) (by decide) (rfl) ?_
      refine g_icf rfl (show ¬ ((fi 89 a) = (fi 89 b)) from c1) ?_
      refine g_n 1 (j' := 10) (lv' := [some (.ref 70), some (.int (nI a)), some (.int (nI b)), none, none, none]) (st' := [.ref 70]) (h' := (shT, fi, fl, fr)) rfl ?_
      refine g_getR (q' := 89) rfl rfl (by decide) r_70_44 ?_
      refine g_n 1 (j' := 12) (lv' := [some (.ref 70), some (.int (nI a)), some (.int (nI b)), none, none, none]) (st' := [.int (nI a), .ref 89]) (h' := (shT, fi, fl, fr)) rfl ?_
      refine g_iald (k := a) (x := fi 89 a) rfl rfl (rfl) (by omega) (by decide) (rfl) ?_
      refine g_n 1 (j' := 14) (lv' := [some (.ref 70), some (.int (nI a)), some (.int (nI b)), none, none, none]) (st' := [.ref 70, .int (fi 89 a)]) (h' := (shT, fi, fl, fr)) rfl ?_
      refine g_getR (q' := 89) rfl rfl (by decide) r_70_44 ?_
      refine g_n 1 (j' := 16) (lv' := [some (.ref 70), some (.int (nI a)), some (.int (nI b)), none, none, none]) (st' := [.int (nI b), .ref 89, .int (fi 89 a)]) (h' := (shT, fi, fl, fr)) rfl ?_
      refine g_iald (k := b) (x := fi 89 b) rfl rfl (rfl) (by omega) (by decide) (rfl) ?_
      refine g_ict rfl (show (fi 89 b) ≤ (fi 89 a) from c3) ?_
      refine g_n 1 (j' := 21) (lv' := [some (.ref 70), some (.int (nI a)), some (.int (nI b)), none, none, none]) (st' := [.int 0]) (h' := (shT, fi, fl, fr)) rfl ?_
      exact g_retz rfl (by decide)
    · refine ⟨1, Or.inr rfl, Ev.of (es := cd_221) (ml := 6) (lv := [some (.ref 70), some (.int (nI a)), some (.int (nI b)), none, none, none]) rfl rfl rfl ?_⟩
      refine g_n 1 (j' := 1) (lv' := [some (.ref 70), some (.int (nI a)), some (.int (nI b)), none, none, none]) (st' := [.ref 70]) (h' := (shT, fi, fl, fr)) rfl ?_
      refine g_getR (q' := 89) rfl rfl (by decide) r_70_44 ?_
      refine g_n 1 (j' := 3) (lv' := [some (.ref 70), some (.int (nI a)), some (.int (nI b)), none, none, none]) (st' := [.int (nI a), .ref 89]) (h' := (shT, fi, fl, fr)) rfl ?_
      refine g_iald (k := a) (x := fi 89 a) rfl rfl (rfl) (by omega) (by decide) (rfl) ?_
      refine g_n 1 (j' := 5) (lv' := [some (.ref 70), some (.int (nI a)), some (.int (nI b)), none, none, none]) (st' := [.ref 70, .int (fi 89 a)]) (h' := (shT, fi, fl, fr)) rfl ?_
      refine g_getR (q' := 89) rfl rfl (by decide) r_70_44 ?_
      refine g_n 1 (j' := 7) (lv' := [some (.ref 70), some (.int (nI a)), some (.int (nI b)), none, none, none]) (st' := [.int (nI b), .ref 89, .int (fi 89 a)]) (h' := (shT, fi, fl, fr)) rfl ?_
      refine g_iald (k := b) (x := fi 89 b) rfl rfl (rfl) (by omega) (by decide) (rfl) ?_
      refine g_icf rfl (show ¬ ((fi 89 a) = (fi 89 b)) from c1) ?_
      refine g_n 1 (j' := 10) (lv' := [some (.ref 70), some (.int (nI a)), some (.int (nI b)), none, none, none]) (st' := [.ref 70]) (h' := (shT, fi, fl, fr)) rfl ?_
      refine g_getR (q' := 89) rfl rfl (by decide) r_70_44 ?_
      refine g_n 1 (j' := 12) (lv' := [some (.ref 70), some (.int (nI a)), some (.int (nI b)), none, none, none]) (st' := [.int (nI a), .ref 89]) (h' := (shT, fi, fl, fr)) rfl ?_
      refine g_iald (k := a) (x := fi 89 a) rfl rfl (rfl) (by omega) (by decide) (rfl) ?_
      refine g_n 1 (j' := 14) (lv' := [some (.ref 70), some (.int (nI a)), some (.int (nI b)), none, none, none]) (st' := [.ref 70, .int (fi 89 a)]) (h' := (shT, fi, fl, fr)) rfl ?_
      refine g_getR (q' := 89) rfl rfl (by decide) r_70_44 ?_
      refine g_n 1 (j' := 16) (lv' := [some (.ref 70), some (.int (nI a)), some (.int (nI b)), none, none, none]) (st' := [.int (nI b), .ref 89, .int (fi 89 a)]) (h' := (shT, fi, fl, fr)) rfl ?_
      refine g_iald (k := b) (x := fi 89 b) rfl rfl (rfl) (by omega) (by decide) (rfl) ?_
      refine g_icf rfl (show ¬ ((fi 89 b) ≤ (fi 89 a)) from c3) ?_
      refine g_n 2 (j' := 21) (lv' := [some (.ref 70), some (.int (nI a)), some (.int (nI b)), none, none, none]) (st' := [.int 1]) (h' := (shT, fi, fl, fr)) rfl ?_
      exact g_retz rfl (by decide)
