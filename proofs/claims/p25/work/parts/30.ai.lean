section AO
variable {HD : HDt} {S : List (Nat × Nat)} {LS : List LVr} {W : WSt} {G : List Int} {e : PmI} {j : Nat} {lv : PmL} {st : List Value} {h : PmH} {R : List (Nat × AS)} {A : AS}
def av_cat (B : AV) : Nat := if av_k B = 1 ∨ av_k B = 4 ∨ av_k B = 5 then 2 else 1
theorem gv_cat {B : AV} {v : Value} (hk : av_k B < 6) (g : gv lv h B v) : v.category = av_cat B := by
  unfold av_cat
  have : av_k B = 0 ∨ av_k B = 1 ∨ av_k B = 2 ∨ av_k B = 3 ∨ av_k B = 4 ∨ av_k B = 5 := by omega
  rcases this with z | z | z | z | z | z
  · obtain ⟨x, rfl, -⟩ := gv_k0 z g
    rw [z]; rfl
  · obtain ⟨x, rfl⟩ := gv_k1 z g
    rw [z]; rfl
  · obtain ⟨x, -, rfl⟩ := gv_k2 z g
    rw [z]; rfl
  · obtain ⟨x, -, rfl⟩ := gv_k3 z g
    rw [z]; rfl
  · obtain ⟨x, rfl, -⟩ := gv_k4 z g
    rw [z]; rfl
  · obtain ⟨x, rfl, -⟩ := gv_k5 z g
    rw [z]; rfl
theorem gst_cat : ∀ {As : List AV} {st : List Value}, As.all (fun B => decide (av_k B < 6)) = true → gst lv h As st → st.map (fun v => v.category) = As.map av_cat
  | [], [], _, _ => rfl
  | B :: As, v :: st, hk, g => by
    simp only [List.all_cons, Bool.and_eq_true, decide_eq_true_eq] at hk
    simp only [List.map_cons]
    rw [gv_cat hk.1 g.1, gst_cat hk.2 g.2]
  | [], _ :: _, _, g => g.elim
  | _ :: _, [], _, g => g.elim
def ak_cpy (HD : HDt) (S : List (Nat × Nat)) (W : WSt) (LS : List LVr) (A : AS) (j : Nat) : Option (List (Nat × AS)) := match as_s A with
  | N :: D :: Q :: X :: P :: st => if av_k N = 0 ∧ av_k D = 0 ∧ av_k Q = 2 ∧ av_k X = 0 ∧ av_k P = 2 ∧ 0 ≤ av_lo N ∧ 0 ≤ av_lo D ∧ 0 ≤ av_lo X ∧ (av_ps P).all (ai_ar S 0 (av_hi X + av_hi N - 1)) = true ∧ (av_ps Q).all (fun q => ai_ar S 0 (av_hi D + av_hi N - 1) q && (arW W q && ((hd_at HD S q 0).1 != 0 && ai_un HD q))) = true ∧ st.all (fun B => decide (av_k B < 6)) = true ∧ (st.map av_cat).sum ≤ 8 then ai_wr LS A ((av_ps Q).map (fun p => (p, 9999))) [] (rl_w ((av_ps Q).map (fun p => (p, 9999)))) st (j + 1) else none
  | _ => none
theorem clamp_i {x : Int32} (h1 : 0 ≤ x.toInt) : (x.toNatClampNeg : Int) = x.toInt := by
  have e1 : x.toNatClampNeg = x.toInt.toNat := rfl
  rw [e1]
  omega
theorem ak_cpy_ok (hx : ∀ st, pm_x none e j lv st h = pm_cpy j lv st h) (g : gs A lv st h) (hI : HI HD S h) (hr : gr LS lv h (as_g A) G) (hk : ak_cpy HD S W LS A j = some R) : ak_post HD S LS W G e j lv st h R := by
  unfold ak_cpy at hk
  split at hk
  · rename_i N D Q X P As hs
    split at hk
    · rename_i hq
      obtain ⟨kN, kD, kQ, kX, kP, lN, lD, lX, aP, aQ, kA, sA⟩ := hq
      have g2 := g.2.1
      rw [hs] at g2
      obtain ⟨v1, st1, rfl, h1, g3⟩ := gst_c g2
      obtain ⟨v2, st2, rfl, h2, g4⟩ := gst_c g3
      obtain ⟨v3, st3, rfl, h3, g5⟩ := gst_c g4
      obtain ⟨v4, st4, rfl, h4, g6⟩ := gst_c g5
      obtain ⟨v5, st5, rfl, h5, g7⟩ := gst_c g6
      obtain ⟨n, rfl, n1, n2, -⟩ := gv_k0 kN h1
      obtain ⟨d, rfl, d1, d2, -⟩ := gv_k0 kD h2
      obtain ⟨q, hq, rfl⟩ := gv_k2 kQ h3
      obtain ⟨x, rfl, x1, x2, -⟩ := gv_k0 kX h4
      obtain ⟨p, hp, rfl⟩ := gv_k2 kP h5
      obtain ⟨m0, e0, b0⟩ := ai_ar_ok (List.all_eq_true.mp aP p hp)
      have hb := List.all_eq_true.mp aQ q hq
      simp only [Bool.and_eq_true] at hb
      obtain ⟨m1, e1, b1⟩ := ai_ar_ok hb.1
      have hag : ∀ p' s', inW ((av_ps Q).map (fun p => (p, 9999))) p' s' = false → pm_uf (ph_i h) q (va_cpy (ph_i h p) (ph_i h q) x.toNatClampNeg d.toNatClampNeg n.toNatClampNeg) p' s' = ph_i h p' s' := by
        intro p' s' hn
        unfold pm_uf
        split
        · rename_i z
          rw [z, inW_map hq (Or.inr rfl)] at hn
          cases hn
        · rfl
      refine ai_wg_ok (h' := (ph_s h, pm_uf (ph_i h) q (va_cpy (ph_i h p) (ph_i h q) x.toNatClampNeg d.toNatClampNeg n.toNatClampNeg), ph_l h, ph_r h)) g.1 g7 g.2.2 hr hk hag (fun q hq9 => absurd hq9 List.not_mem_nil) (rl_w_ok hag) ?_ ?_ ?_
      · refine ⟨hI.1, fun p' s' t n' hs' hn' => ?_⟩
        have h9 := hI.2 p' s' t n' hs' hn'
        by_cases hz : p' = q
        · subst hz
          rw [e1] at hs'
          cases hs'
          rw [hd_arr0 e1 hb.2.2.2] at h9 ⊢
          unfold hd_ok at h9 ⊢
          split
          · rename_i z
            rw [z] at hb
            exact absurd hb.2.2.1 (by simp)
          · rename_i z
            rw [z] at h9
            exact h9
          · trivial
        · unfold hd_ok at h9 ⊢
          have e9 : pm_uf (ph_i h) q (va_cpy (ph_i h p) (ph_i h q) x.toNatClampNeg d.toNatClampNeg n.toNatClampNeg) p' s' = ph_i h p' s' := by
            unfold pm_uf
            rw [if_neg hz]
          split
          · rename_i z
            rw [z] at h9
            show _ ≤ (pm_uf (ph_i h) q (va_cpy (ph_i h p) (ph_i h q) x.toNatClampNeg d.toNatClampNeg n.toNatClampNeg) p' s').toInt ∧ (pm_uf (ph_i h) q (va_cpy (ph_i h p) (ph_i h q) x.toNatClampNeg d.toNatClampNeg n.toNatClampNeg) p' s').toInt ≤ _
            rw [e9]
            exact h9
          · rename_i z
            rw [z] at h9
            exact h9
          · trivial
      · intro p' s' hn
        refine ⟨?_, rfl, rfl⟩
        show pm_uf (ph_i h) q (va_cpy (ph_i h p) (ph_i h q) x.toNatClampNeg d.toNatClampNeg n.toNatClampNeg) p' s' = ph_i h p' s'
        unfold pm_uf
        split
        · rename_i z
          rw [z, arW_in hb.2.1] at hn
          cases hn
        · rfl
      · rw [hx]
        simp only [pm_cpy, hI.1, e0, e1]
        rw [if_neg]
        · rfl
        · have cn := clamp_i (x := n) (by omega)
          have cd := clamp_i (x := d) (by omega)
          have cx := clamp_i (x := x) (by omega)
          have nn : ∀ z : Int32, 0 ≤ z.toInt → ¬ z < 0 := fun z hz y => by
            rw [Int32.lt_iff_toInt_lt] at y
            have : (0 : Int32).toInt = 0 := rfl
            omega
          rw [gst_cat kA g7]
          intro z
          rcases z with z | z | z | z | z | z
          · exact nn x (by omega) z
          · exact nn d (by omega) z
          · exact nn n (by omega) z
          · omega
          · omega
          · omega
    · cases hk
  · cases hk
def ak_tsw (lo hi : Int) (e : PmI) (A : AS) : Option (List (Nat × AS)) := match as_s A with
  | X :: st => if av_k X = 0 ∧ hi - lo < (pi_t e).length then some ((pi_a e, (as_l A, st, as_o A, as_g A)) :: (pi_t e).map (fun t => (t, (as_l A, st, as_o A, as_g A)))) else none
  | _ => none
theorem ak_tsw_ok {lo hi : Int} (hx : ∀ st, pm_x none e j lv st h = pm_tsw lo hi e lv st h) (g : gs A lv st h) (hI : HI HD S h) (hr : gr LS lv h (as_g A) G) (hk : ak_tsw lo hi e A = some R) : ak_post HD S LS W G e j lv st h R := by
  unfold ak_tsw at hk
  split at hk
  · rename_i X As hs
    split at hk
    · rename_i hq
      cases hk
      have g2 := g.2.1
      rw [hs] at g2
      obtain ⟨v1, st1, rfl, h1, g3⟩ := gst_c g2
      obtain ⟨x, rfl, -⟩ := gv_k0 hq.1 h1
      by_cases hc : x.toInt < lo ∨ hi < x.toInt
      · refine ⟨pi_a e, lv, st1, h, _, ?_, List.mem_cons_self, ⟨g.1, g3, g.2.2⟩, hI, hr, fram.rf W h⟩
        rw [hx]
        simp only [pm_tsw]
        rw [if_pos hc]
        rfl
      · have hl : (x.toInt - lo).toNat < (pi_t e).length := by omega
        refine ⟨(pi_t e)[(x.toInt - lo).toNat], lv, st1, h, _, ?_, List.mem_cons_of_mem _ (List.mem_map.mpr ⟨_, List.getElem_mem hl, rfl⟩), ⟨g.1, g3, g.2.2⟩, hI, hr, fram.rf W h⟩
        rw [hx]
        simp only [pm_tsw]
        rw [if_neg hc, List.getElem?_eq_getElem hl]
        rfl
    · cases hk
  · cases hk
def ak_lsw (e : PmI) (A : AS) : Option (List (Nat × AS)) := match as_s A with
  | X :: st => if av_k X = 0 then some ((pi_a e, (as_l A, st, as_o A, as_g A)) :: (pi_t e).map (fun t => (t, (as_l A, st, as_o A, as_g A)))) else none
  | _ => none
theorem ak_lsw_ok {ps : List (Int × Int)} (hx : ∀ st, pm_x none e j lv st h = pm_lsw ps e lv st h) (g : gs A lv st h) (hI : HI HD S h) (hr : gr LS lv h (as_g A) G) (hk : ak_lsw e A = some R) : ak_post HD S LS W G e j lv st h R := by
  unfold ak_lsw at hk
  split at hk
  · rename_i X As hs
    split at hk
    · rename_i hq
      cases hk
      have g2 := g.2.1
      rw [hs] at g2
      obtain ⟨v1, st1, rfl, h1, g3⟩ := gst_c g2
      obtain ⟨x, rfl, -⟩ := gv_k0 hq h1
      cases hf : (ps.zip (pi_t e)).find? (fun q => q.1.1 == x.toInt) with
      | none =>
        refine ⟨pi_a e, lv, st1, h, _, ?_, List.mem_cons_self, ⟨g.1, g3, g.2.2⟩, hI, hr, fram.rf W h⟩
        rw [hx]
        simp only [pm_lsw]
        rw [hf]
        rfl
      | some q =>
        have hm : q.2 ∈ pi_t e := (List.of_mem_zip (List.mem_of_find?_eq_some hf)).2
        refine ⟨q.2, lv, st1, h, _, ?_, List.mem_cons_of_mem _ (List.mem_map.mpr ⟨_, hm, rfl⟩), ⟨g.1, g3, g.2.2⟩, hI, hr, fram.rf W h⟩
        rw [hx]
        simp only [pm_lsw]
        rw [hf]
        rfl
    · cases hk
  · cases hk
def av_n (x : Int32) : AV := (0, x.toInt, x.toInt, [], 0, 0, 0)
theorem av_n_ok {x : Int32} : gv lv h (av_n x) (.int x) := (gv_int rfl).mpr ⟨x, rfl, Int.le_refl _, Int.le_refl _, trivial⟩
def ai_two (X Y : AV) : AV := if 0 ≤ av_lo X ∧ 0 ≤ av_lo Y then (0, 0, min (av_hi X) (av_hi Y), [], 0, 0, 0) else ai_and X Y
theorem ai_two_ok {X Y : AV} {x y : Int32} (hX : av_lo X ≤ x.toInt ∧ x.toInt ≤ av_hi X) (hY : av_lo Y ≤ y.toInt ∧ y.toInt ≤ av_hi Y) : gv lv h (ai_two X Y) (.int (x &&& y)) := by
  unfold ai_two
  split
  · obtain ⟨g1, g2⟩ := i32_and_r (x := x) (y := y) (by omega)
    obtain ⟨g3, g4⟩ := i32_and_l (x := x) (y := y) (by omega)
    refine (gv_int rfl).mpr ⟨_, rfl, g1, ?_, trivial⟩
    show _ ≤ min (av_hi X) (av_hi Y)
    omega
  · exact ai_and_ok hX hY
theorem av_l_ok {x : Int64} : gv lv h av_l (.long x) := ⟨x, rfl⟩
def av_a0 : AV := (0, ai_mn, ai_mx, [], 0, 0, 0)
def av_l9 (z : Int) : AV := if ai_mn ≤ z ∧ z ≤ ai_mx then (5, z, z, [], 0, 0, 0) else if Int64.ofInt z = 0 then av_l else (4, 0, 0, [], 0, 0, 0)
theorem av_l9_ok {z : Int} : gv lv h (av_l9 z) (.long (Int64.ofInt z)) := by
  unfold av_l9
  split
  · rename_i hz
    have q1 : ai_mn = -2147483648 := rfl
    have q2 : ai_mx = 2147483647 := rfl
    have e1 : (Int32.ofInt z).toInt = z := by
      rw [Int32.toInt_ofInt]
      exact i32_bm hz.1 hz.2
    refine ⟨Int32.ofInt z, ?_, ?_, ?_, trivial⟩
    · rw [Int32.toInt64_ofInt (by show (-2147483648 : Int) ≤ z; omega) (by show z ≤ (2147483647 : Int); omega)]
    · show z ≤ _
      omega
    · show _ ≤ z
      omega
  · split
    · exact ⟨_, rfl⟩
    · rename_i hz
      exact ⟨_, rfl, hz⟩
def ak_i2l (A : AS) (j : Nat) : Option (List (Nat × AS)) := match as_s A with
  | X :: st => if av_k X = 0 then ak_p A (j + 1) (5, av_lo X, av_hi X, [], av_t X, av_a X, av_b X) st else none
  | _ => none
theorem ak_i2l_ok (hx : ∀ st, pm_x none e j lv st h = pm_i1 (fun x => .long x.toInt64) j lv st h)
    (g : gs A lv st h) (hI : HI HD S h) (hr : gr LS lv h (as_g A) G) (hk : ak_i2l A j = some R) : ak_post HD S LS W G e j lv st h R := by
  unfold ak_i2l at hk
  split at hk
  · rename_i X As hs
    split at hk
    · rename_i hq
      have g2 := g.2.1
      rw [hs] at g2
      obtain ⟨v1, st1, rfl, h1, g3⟩ := gst_c g2
      obtain ⟨x, rfl, x1, x2, x3⟩ := gv_k0 hq h1
      exact ak_p_ok g hI hr hk (by rw [hx]; rfl) ⟨x, rfl, x1, x2, x3⟩ g3
    · cases hk
  · cases hk
def ak_lz (A : AS) (j : Nat) : Option (List (Nat × AS)) := match as_s A with
  | Y :: X :: st => if av_k X = 1 ∧ (av_k Y = 4 ∨ (av_k Y = 5 ∧ 0 < av_lo Y)) then ak_p A (j + 1) av_l st else none
  | _ => none
theorem ak_lz_ok {F : Int64 → Int64 → Int64} (hx : ∀ st, pm_x none e j lv st h = pm_lz (fun x y => .long (F x y)) j lv st h)
    (g : gs A lv st h) (hI : HI HD S h) (hr : gr LS lv h (as_g A) G) (hk : ak_lz A j = some R) : ak_post HD S LS W G e j lv st h R := by
  unfold ak_lz at hk
  split at hk
  · rename_i Y X As hs
    split at hk
    · rename_i hq
      have g2 := g.2.1
      rw [hs] at g2
      obtain ⟨v1, st1, rfl, h1, g3⟩ := gst_c g2
      obtain ⟨v2, st2, rfl, h2, g4⟩ := gst_c g3
      have hy9 : ∃ y : Int64, v1 = .long y ∧ ¬ y = 0 := by
        rcases hq.2 with z | ⟨z, z2⟩
        · exact gv_k4 z h1
        · obtain ⟨y, e, y1, y2, -⟩ := gv_k5 z h1
          refine ⟨_, e, fun z9 => ?_⟩
          have : y = 0 := by
            have h9 := congrArg Int64.toInt32 z9
            rw [Int32.toInt32_toInt64] at h9
            exact h9
          rw [this] at y1
          have : (0 : Int32).toInt = 0 := rfl
          omega
      obtain ⟨y, rfl, hy⟩ := hy9
      obtain ⟨x, rfl⟩ := gv_k1 hq.1 h2
      exact ak_p_ok g hI hr hk (by rw [hx]; simp only [pm_lz]; rw [if_neg hy]; rfl) ⟨_, rfl⟩ g4
    · cases hk
  · cases hk
end AO
section AQ
variable {HD : HDt} {S : List (Nat × Nat)} {LS : List LVr} {W : WSt} {G : List Int} {e : PmI} {j : Nat} {lv : PmL} {st : List Value} {h : PmH} {R : List (Nat × AS)} {A : AS}
/-- what an instruction (no call, no return) makes of an abstract state -/
def ak (HD : HDt) (S : List (Nat × Nat)) (W : WSt) (LS : List LVr) (e : PmI) (A : AS) (j : Nat) : Option (List (Nat × AS)) := match pi_i e with
  | .iconst n => ak_p A (j + 1) (av_n (Int32.ofInt n)) (as_s A)
  | .bipush n => ak_p A (j + 1) (av_n (Int8.ofInt n).toInt32) (as_s A)
  | .sipush n => ak_p A (j + 1) (av_n (Int16.ofInt n).toInt32) (as_s A)
  | .lconst n => if n.val < 10 then ak_p A (j + 1) (av_l9 (n : Int)) (as_s A) else none
  | .ldc2_w n => ak_p A (j + 1) (av_l9 (pi_v e)) (as_s A)
  | .ldc_w n => ak_p A (j + 1) (av_n (Int32.ofInt (pi_v e))) (as_s A)
  | .ldc n => if pi_d e = 0 then ak_p A (j + 1) (av_n (Int32.ofInt (pi_v e))) (as_s A) else none
  | .getstatic n => if pi_d e = 0 then ak_p A (j + 1) (av_n (Int32.ofInt (pi_v e))) (as_s A) else ak_p A (j + 1) (av_x [pi_a e]) (as_s A)
  | .iload i => ak_ild i A j
  | .iload_n i => ak_ild i A j
  | .lload i => ak_lld i A j
  | .lload_n i => ak_lld i A j
  | .aload i => ak_ald i A j
  | .aload_n i => ak_ald i A j
  | .istore i => ak_ist LS i A j
  | .istore_n i => ak_ist LS i A j
  | .lstore i => ak_lst LS i A j
  | .lstore_n i => ak_lst LS i A j
  | .astore_n i => ak_ast LS i A j
  | .iinc i n => if -1000 ≤ n ∧ n ≤ 1000 then ak_inc LS i n A j else none
  | .iadd => ak_ii ai_add A j
  | .isub => ak_ii ai_sub A j
  | .imul => ak_ii ai_mul A j
  | .ishl => ak_ii ai_shl A j
  | .ishr => ak_ii ai_shr A j
  | .iand => ak_ii ai_two A j
  | .ior => ak_ii (fun _ _ => av_a0) A j
  | .ixor => ak_ii (fun _ _ => av_a0) A j
  | .iushr => ak_ii (fun _ _ => av_a0) A j
  | .idiv => ak_iz ai_div A j
  | .irem => ak_iz ai_rem A j
  | .ineg => ak_i1 ai_neg A j
  | .i2b => ak_i1 (fun _ => av_a0) A j
  | .i2c => ak_i1 (fun _ => av_a0) A j
  | .i2l => ak_i2l A j
  | .l2i => ak_l1 av_a0 A j
  | .lneg => ak_l1 av_l A j
  | .ladd => ak_ll av_l A j
  | .lsub => ak_ll av_l A j
  | .lmul => ak_ll av_l A j
  | .land => ak_ll av_l A j
  | .lor => ak_ll av_l A j
  | .lxor => ak_ll av_l A j
  | .lcmp => ak_ll av_a0 A j
  | .ldiv => ak_lz A j
  | .lrem => ak_lz A j
  | .lshl => ak_li A j
  | .lshr => ak_li A j
  | .lushr => ak_li A j
  | .dup => ak_dup A j
  | .dup2 => ak_dup2 A j
  | .pop => ak_pop A j
  | .goto n => ak_q A (pi_a e) (as_s A)
  | .ifCond c n => ak_if c (pi_a e) A j
  | .if_icmp c n => ak_ic c (pi_a e) A j
  | .tableswitch d lo hi ts => ak_tsw lo hi e A
  | .lookupswitch d ps => ak_lsw e A
  | .getfield n => ak_get HD S e A j
  | .putfield n => ak_put HD S W LS e A j
  | .iaload => ak_iald HD S A j
  | .baload => ak_bald HD S A j
  | .laload => ak_lald S A j
  | .aaload => ak_aald HD S A j
  | .iastore => ak_iast HD S W LS A j
  | .bastore => ak_bast HD S W LS A j
  | .lastore => ak_last S W A j
  | .invokestatic n => if pi_d e = 7 then ak_cpy HD S W LS A j else none
  | _ => none
theorem ak_ok (g : gs A lv st h) (hI : HI HD S h) (hr : gr LS lv h (as_g A) G) (hk : ak HD S W LS e A j = some R) : ak_post HD S LS W G e j lv st h R := by
  unfold ak at hk
  split at hk
  · rename_i n hi
    exact ak_p_ok g hI hr hk (by unfold pm_x; rw [hi]; rfl) av_n_ok g.2.1
  · rename_i n hi
    exact ak_p_ok g hI hr hk (by unfold pm_x; rw [hi]; rfl) av_n_ok g.2.1
  · rename_i n hi
    exact ak_p_ok g hI hr hk (by unfold pm_x; rw [hi]; rfl) av_n_ok g.2.1
  · rename_i n hi
    split at hk
    · rename_i hn
      exact ak_p_ok g hI hr hk (v := .long (Int64.ofInt (n : Int))) (by unfold pm_x; rw [hi]; rw [Int64.ofInt_eq_ofNat]; rfl) av_l9_ok g.2.1
    · cases hk
  · rename_i n hi
    exact ak_p_ok g hI hr hk (by unfold pm_x; rw [hi]; rfl) av_l9_ok g.2.1
  · rename_i n hi
    exact ak_p_ok g hI hr hk (by unfold pm_x; rw [hi]; rfl) av_n_ok g.2.1
  · rename_i n hi
    split at hk
    · rename_i hd
      exact ak_p_ok g hI hr hk (by unfold pm_x; rw [hi]; simp only; rw [hd]; rfl) av_n_ok g.2.1
    · cases hk
  · rename_i n hi
    split at hk
    · rename_i hd
      exact ak_p_ok g hI hr hk (by unfold pm_x; rw [hi]; simp only [pm_gs]; rw [hd]; rfl) av_n_ok g.2.1
    · rename_i hd
      refine ak_p_ok g hI hr hk (v := .retAddr (pi_a e)) ?_ ⟨pi_a e, List.mem_singleton.mpr rfl, rfl⟩ g.2.1
      unfold pm_x
      rw [hi]
      simp only [pm_gs]
      rfl
  · rename_i i hi
    exact ak_ild_ok (fun st => by unfold pm_x; rw [hi]) g hI hr hk
  · rename_i i hi
    exact ak_ild_ok (fun st => by unfold pm_x; rw [hi]) g hI hr hk
  · rename_i i hi
    exact ak_lld_ok (fun st => by unfold pm_x; rw [hi]) g hI hr hk
  · rename_i i hi
    exact ak_lld_ok (fun st => by unfold pm_x; rw [hi]) g hI hr hk
  · rename_i i hi
    exact ak_ald_ok (fun st => by unfold pm_x; rw [hi]) g hI hr hk
  · rename_i i hi
    exact ak_ald_ok (fun st => by unfold pm_x; rw [hi]) g hI hr hk
  · rename_i i hi
    exact ak_ist_ok (fun st => by unfold pm_x; rw [hi]) g hI hr hk
  · rename_i i hi
    exact ak_ist_ok (fun st => by unfold pm_x; rw [hi]) g hI hr hk
  · rename_i i hi
    exact ak_lst_ok (fun st => by unfold pm_x; rw [hi]) g hI hr hk
  · rename_i i hi
    exact ak_lst_ok (fun st => by unfold pm_x; rw [hi]) g hI hr hk
  · rename_i i hi
    exact ak_ast_ok (fun st => by unfold pm_x; rw [hi]) g hI hr hk
  · rename_i i n hi
    split at hk
    · rename_i hn
      exact ak_inc_ok hn (fun st => by unfold pm_x; rw [hi]) g hI hr hk
    · cases hk
  · rename_i hi
    exact ak_ii_ok (fun X Y x y a b => ai_add_ok a b) (fun st => by unfold pm_x; rw [hi]) g hI hr hk
  · rename_i hi
    exact ak_ii_ok (fun X Y x y a b => ai_sub_ok a b) (fun st => by unfold pm_x; rw [hi]) g hI hr hk
  · rename_i hi
    exact ak_ii_ok (fun X Y x y a b => ai_mul_ok a b) (fun st => by unfold pm_x; rw [hi]) g hI hr hk
  · rename_i hi
    exact ak_ii_ok (fun X Y x y a b => ai_shl_ok ⟨a.1, a.2.1⟩ b) (fun st => by unfold pm_x; rw [hi]) g hI hr hk
  · rename_i hi
    exact ak_ii_ok (fun X Y x y a b => ai_shr_ok ⟨a.1, a.2.1⟩ b) (fun st => by unfold pm_x; rw [hi]) g hI hr hk
  · rename_i hi
    exact ak_ii_ok (fun X Y x y a b => ai_two_ok ⟨a.1, a.2.1⟩ b) (fun st => by unfold pm_x; rw [hi]) g hI hr hk
  · rename_i hi
    exact ak_ii_ok (fun _ _ _ _ _ _ => ai_any _) (fun st => by unfold pm_x; rw [hi]) g hI hr hk
  · rename_i hi
    exact ak_ii_ok (fun _ _ _ _ _ _ => ai_any _) (fun st => by unfold pm_x; rw [hi]) g hI hr hk
  · rename_i hi
    exact ak_ii_ok (fun _ _ _ _ _ _ => ai_any _) (fun st => by unfold pm_x; rw [hi]) g hI hr hk
  · rename_i hi
    exact ak_iz_ok (fun X Y x y a b => ai_div_ok a b) (fun st => by unfold pm_x; rw [hi]) g hI hr hk
  · rename_i hi
    exact ak_iz_ok (fun X Y x y a b => ai_rem_ok ⟨a.1, a.2.1⟩ b) (fun st => by unfold pm_x; rw [hi]) g hI hr hk
  · rename_i hi
    exact ak_i1_ok (fun X x a => ai_neg_ok a) (fun st => by unfold pm_x; rw [hi]) g hI hr hk
  · rename_i hi
    exact ak_i1_ok (fun _ _ _ => ai_any _) (fun st => by unfold pm_x; rw [hi]) g hI hr hk
  · rename_i hi
    exact ak_i1_ok (fun _ _ _ => ai_any _) (fun st => by unfold pm_x; rw [hi]) g hI hr hk
  · rename_i hi
    exact ak_i2l_ok (fun st => by unfold pm_x; rw [hi]) g hI hr hk
  · rename_i hi
    exact ak_l1_ok (fun _ => ai_any _) (fun st => by unfold pm_x; rw [hi]) g hI hr hk
  · rename_i hi
    exact ak_l1_ok (fun _ => av_l_ok) (fun st => by unfold pm_x; rw [hi]) g hI hr hk
  · rename_i hi
    exact ak_ll_ok (fun _ _ => av_l_ok) (fun st => by unfold pm_x; rw [hi]) g hI hr hk
  · rename_i hi
    exact ak_ll_ok (fun _ _ => av_l_ok) (fun st => by unfold pm_x; rw [hi]) g hI hr hk
  · rename_i hi
    exact ak_ll_ok (fun _ _ => av_l_ok) (fun st => by unfold pm_x; rw [hi]) g hI hr hk
  · rename_i hi
    exact ak_ll_ok (fun _ _ => av_l_ok) (fun st => by unfold pm_x; rw [hi]) g hI hr hk
  · rename_i hi
    exact ak_ll_ok (fun _ _ => av_l_ok) (fun st => by unfold pm_x; rw [hi]) g hI hr hk
  · rename_i hi
    exact ak_ll_ok (fun _ _ => av_l_ok) (fun st => by unfold pm_x; rw [hi]) g hI hr hk
  · rename_i hi
    exact ak_ll_ok (fun _ _ => ai_any _) (fun st => by unfold pm_x; rw [hi]) g hI hr hk
  · rename_i hi
    exact ak_lz_ok (fun st => by unfold pm_x; rw [hi]) g hI hr hk
  · rename_i hi
    exact ak_lz_ok (fun st => by unfold pm_x; rw [hi]) g hI hr hk
  · rename_i hi
    exact ak_li_ok (fun st => by unfold pm_x; rw [hi]) g hI hr hk
  · rename_i hi
    exact ak_li_ok (fun st => by unfold pm_x; rw [hi]) g hI hr hk
  · rename_i hi
    exact ak_li_ok (fun st => by unfold pm_x; rw [hi]) g hI hr hk
  · rename_i hi
    exact ak_dup_ok (fun st => by unfold pm_x; rw [hi]) g hI hr hk
  · rename_i hi
    exact ak_dup2_ok (fun st => by unfold pm_x; rw [hi]) g hI hr hk
  · rename_i hi
    exact ak_pop_ok (fun st => by unfold pm_x; rw [hi]) g hI hr hk
  · rename_i n hi
    exact ak_q_ok g hI hr hk (by unfold pm_x; rw [hi]; rfl) g.2.1
  · rename_i c n hi
    exact ak_if_ok (fun st => by unfold pm_x; rw [hi]) g hI hr hk
  · rename_i c n hi
    exact ak_ic_ok (fun st => by unfold pm_x; rw [hi]) g hI hr hk
  · rename_i d lo hi9 ts hi
    exact ak_tsw_ok (fun st => by unfold pm_x; rw [hi]) g hI hr hk
  · rename_i d ps hi
    exact ak_lsw_ok (fun st => by unfold pm_x; rw [hi]) g hI hr hk
  · rename_i n hi
    exact ak_get_ok (fun st => by unfold pm_x; rw [hi]) g hI hr hk
  · rename_i n hi
    exact ak_put_ok (fun st => by unfold pm_x; rw [hi]) g hI hr hk
  · rename_i hi
    exact ak_iald_ok (fun st => by unfold pm_x; rw [hi]) g hI hr hk
  · rename_i hi
    exact ak_bald_ok (fun st => by unfold pm_x; rw [hi]) g hI hr hk
  · rename_i hi
    exact ak_lald_ok (fun st => by unfold pm_x; rw [hi]) g hI hr hk
  · rename_i hi
    exact ak_aald_ok (fun st => by unfold pm_x; rw [hi]) g hI hr hk
  · rename_i hi
    exact ak_iast_ok (fun st => by unfold pm_x; rw [hi]) g hI hr hk
  · rename_i hi
    exact ak_bast_ok (fun st => by unfold pm_x; rw [hi]) g hI hr hk
  · rename_i hi
    exact ak_last_ok (fun st => by unfold pm_x; rw [hi]) g hI hr hk
  · rename_i n hi
    split at hk
    · rename_i hd
      exact ak_cpy_ok (fun st => by unfold pm_x; rw [hi]; simp only; rw [hd]; rfl) g hI hr hk
    · cases hk
  · cases hk
end AQ
