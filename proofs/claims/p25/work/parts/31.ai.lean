section AR
variable {HD : HDt} {S : List (Nat × Nat)} {LS : List LVr} {W : WSt} {G : List Int} {e : PmI} {j : Nat} {lv : PmL} {st : List Value} {h : PmH} {R : List (Nat × AS)} {A : AS}
/-- one abstract value says no less than another -/
def av_le (A B : AV) : Bool := match av_k B with
  | 0 => av_k A == 0 && (decide (av_lo B ≤ av_lo A) && (decide (av_hi A ≤ av_hi B) && (av_t B == 0 || (av_t A == av_t B && (av_a A == av_a B && av_b A == av_b B)))))
  | 1 => av_k A == 1 || (av_k A == 4 || av_k A == 5)
  | 2 => av_k A == 2 && (av_ps A).all (fun p => (av_ps B).contains p)
  | 3 => av_k A == 3 && (av_ps A).all (fun p => (av_ps B).contains p)
  | 4 => av_k A == 4
  | 5 => av_k A == 5 && (decide (av_lo B ≤ av_lo A) && (decide (av_hi A ≤ av_hi B) && (av_t B == 0 || (av_t A == av_t B && (av_a A == av_a B && av_b A == av_b B)))))
  | _ => decide (9 ≤ av_k B)
theorem av_le_k {A B : AV} (hl : av_le A B = true) (hk : av_k B < 9) : av_k A < 9 := by
  unfold av_le at hl
  split at hl
  · simp only [Bool.and_eq_true, beq_iff_eq] at hl
    rw [hl.1]; decide
  · simp only [Bool.or_eq_true, beq_iff_eq] at hl
    rcases hl with z | z | z <;> rw [z] <;> decide
  · simp only [Bool.and_eq_true, beq_iff_eq] at hl
    rw [hl.1]; decide
  · simp only [Bool.and_eq_true, beq_iff_eq] at hl
    rw [hl.1]; decide
  · rw [beq_iff_eq.mp hl]; decide
  · simp only [Bool.and_eq_true, beq_iff_eq] at hl
    rw [hl.1]; decide
  · have := of_decide_eq_true hl
    omega
theorem av_le_ok {A B : AV} {v : Value} (hl : av_le A B = true) (g : gv lv h A v) : gv lv h B v := by
  by_cases hk : av_k B < 9
  · unfold av_le at hl
    split at hl
    · rename_i z
      simp only [Bool.and_eq_true, beq_iff_eq, Bool.or_eq_true, decide_eq_true_eq] at hl
      obtain ⟨x, rfl, x1, x2, x3⟩ := gv_k0 hl.1 g
      refine (gv_int z).mpr ⟨x, rfl, by omega, by omega, ?_⟩
      rcases hl.2.2.2 with y | ⟨y1, y2, y3⟩
      · rw [y]; trivial
      · rw [← y1, ← y2, ← y3]; exact x3
    · rename_i z
      have hx : ∃ x : Int64, v = .long x := by
        simp only [Bool.or_eq_true, beq_iff_eq] at hl
        rcases hl with y | y | y
        · exact gv_k1 y g
        · obtain ⟨x, e, -⟩ := gv_k4 y g
          exact ⟨x, e⟩
        · obtain ⟨x, e, -⟩ := gv_k5 y g
          exact ⟨_, e⟩
      obtain ⟨x, rfl⟩ := hx
      unfold gv
      rw [z]
      exact ⟨x, rfl⟩
    · rename_i z
      simp only [Bool.and_eq_true, beq_iff_eq] at hl
      obtain ⟨p, hp, rfl⟩ := gv_k2 hl.1 g
      unfold gv
      rw [z]
      exact ⟨p, List.contains_iff_mem.mp (List.all_eq_true.mp hl.2 p hp), rfl⟩
    · rename_i z
      simp only [Bool.and_eq_true, beq_iff_eq] at hl
      obtain ⟨p, hp, rfl⟩ := gv_k3 hl.1 g
      unfold gv
      rw [z]
      exact ⟨p, List.contains_iff_mem.mp (List.all_eq_true.mp hl.2 p hp), rfl⟩
    · rename_i z
      obtain ⟨x, e, e2⟩ := gv_k4 (beq_iff_eq.mp hl) g
      unfold gv
      rw [z]
      exact ⟨x, e, e2⟩
    · rename_i z
      simp only [Bool.and_eq_true, beq_iff_eq, Bool.or_eq_true, decide_eq_true_eq] at hl
      obtain ⟨x, e, x1, x2, x3⟩ := gv_k5 hl.1 g
      unfold gv
      rw [z]
      refine ⟨x, e, by omega, by omega, ?_⟩
      rcases hl.2.2.2 with y | ⟨y1, y2, y3⟩
      · rw [y]; trivial
      · rw [← y1, ← y2, ← y3]; exact x3
    · have := of_decide_eq_true hl
      omega
  · unfold gv
    split
    · omega
    · omega
    · omega
    · omega
    · omega
    · omega
    · trivial
theorem av_le_nt {A B : AV} (hl : av_le A B = true) : av_le (nt A) (nt B) = true := by
  unfold av_le at hl ⊢
  split at hl
  · rename_i z
    have z : av_k (nt B) = 0 := z
    rw [z]
    simp only [Bool.and_eq_true, beq_iff_eq, Bool.or_eq_true, decide_eq_true_eq] at hl ⊢
    exact ⟨hl.1, hl.2.1, hl.2.2.1, Or.inl rfl⟩
  · rename_i z
    have z : av_k (nt B) = 1 := z
    rw [z]
    exact hl
  · rename_i z
    have z : av_k (nt B) = 2 := z
    rw [z]
    exact hl
  · rename_i z
    have z : av_k (nt B) = 3 := z
    rw [z]
    exact hl
  · rename_i z
    have z : av_k (nt B) = 4 := z
    rw [z]
    exact hl
  · rename_i z
    have z : av_k (nt B) = 5 := z
    rw [z]
    simp only [Bool.and_eq_true, beq_iff_eq, Bool.or_eq_true, decide_eq_true_eq] at hl ⊢
    exact ⟨hl.1, hl.2.1, hl.2.2.1, Or.inl rfl⟩
  · have hl : decide (9 ≤ av_k (nt B)) = true := hl
    have h9 := of_decide_eq_true hl
    split
    · omega
    · omega
    · omega
    · omega
    · omega
    · omega
    · exact hl
def al_le : List AV → List AV → Bool
  | [], [] => true
  | A :: As, B :: Bs => av_le A B && al_le As Bs
  | _, _ => false
theorem al_le_len : ∀ {As Bs : List AV}, al_le As Bs = true → As.length = Bs.length
  | [], [], _ => rfl
  | _ :: As, _ :: Bs, hl => by
    simp only [al_le, Bool.and_eq_true] at hl
    simp [al_le_len hl.2]
  | [], _ :: _, hl => by cases hl
  | _ :: _, [], hl => by cases hl
theorem al_le_at : ∀ {As Bs : List AV} {i : Nat} {B : AV}, al_le As Bs = true → Bs[i]? = some B → ∃ A, As[i]? = some A ∧ av_le A B = true
  | A :: As, B :: Bs, 0, C, hl, hi => by
    simp only [al_le, Bool.and_eq_true] at hl
    cases hi
    exact ⟨A, rfl, hl.1⟩
  | A :: As, B :: Bs, i + 1, C, hl, hi => by
    simp only [al_le, Bool.and_eq_true] at hl
    exact al_le_at (i := i) hl.2 hi
  | [], [], i, C, _, hi => by simp at hi
  | [], _ :: _, _, _, hl, _ => by cases hl
  | _ :: _, [], _, _, hl, _ => by cases hl
theorem gst_le : ∀ {As Bs : List AV} {st : List Value}, al_le As Bs = true → gst lv h As st → gst lv h Bs st
  | [], [], [], _, _ => trivial
  | A :: As, B :: Bs, v :: st, hl, g => by
    simp only [al_le, Bool.and_eq_true] at hl
    exact ⟨av_le_ok hl.1 g.1, gst_le hl.2 g.2⟩
  | [], _ :: _, _, hl, _ => by cases hl
  | _ :: _, [], _, hl, _ => by cases hl
  | [], [], _ :: _, _, g => g.elim
  | _ :: _, _ :: _, [], _, g => g.elim
theorem al_le_nt : ∀ {As Bs : List AV}, al_le As Bs = true → al_le (As.map nt) (Bs.map nt) = true
  | [], [], _ => rfl
  | A :: As, B :: Bs, hl => by
    simp only [al_le, Bool.and_eq_true] at hl
    simp only [List.map_cons, al_le, Bool.and_eq_true]
    exact ⟨av_le_nt hl.1, al_le_nt hl.2⟩
  | [], _ :: _, hl => by cases hl
  | _ :: _, [], hl => by cases hl
def ao_le (O O' : List (Nat × Nat × Int × Int)) : Bool := O'.all (fun q => O.any (fun r => r.1 == q.1 && (r.2.1 == q.2.1 && (decide (q.2.2.1 ≤ r.2.2.1) && decide (r.2.2.2 ≤ q.2.2.2)))))
theorem ao_le_ok {O O' : List (Nat × Nat × Int × Int)} (hl : ao_le O O' = true) (g : go_ O h) : go_ O' h := by
  intro q hq
  obtain ⟨r, hr, hr2⟩ := List.any_eq_true.mp (List.all_eq_true.mp hl q hq)
  simp only [Bool.and_eq_true, beq_iff_eq, decide_eq_true_eq] at hr2
  have := g r hr
  rw [hr2.1, hr2.2.1] at this
  omega
def as_le (A B : AS) : Bool := al_le (as_l A) (as_l B) && (al_le (as_s A) (as_s B) && ao_le (as_o A) (as_o B))
theorem as_le_ok {B : AS} (hl : as_le A B = true) (g : gs A lv st h) : gs B lv st h := by
  simp only [as_le, Bool.and_eq_true] at hl
  refine ⟨⟨by rw [g.1.1, al_le_len hl.1], fun i C hC hk => ?_⟩, gst_le hl.2.1 g.2.1, ao_le_ok hl.2.2 g.2.2⟩
  obtain ⟨D, hD, hle⟩ := al_le_at hl.1 hC
  obtain ⟨v, v1, v2⟩ := g.1.2 i D hD (av_le_k hle hk)
  exact ⟨v, v1, fun lv' h' => av_le_ok (av_le_nt hle) (v2 lv' h')⟩
/-! ranks -/
abbrev KE : Type := Option LVr × Nat
def lvv (L : LVr) (lv : PmL) (h : PmH) : Int := match L.1 with
  | 0 => (match lv[L.2.1]? with
    | some (some (.int x)) => x.toInt
    | _ => 0)
  | _ => (ph_i h L.2.1 L.2.2.1).toInt
theorem lvv_now {L : LVr} {x : Int32} (g : lv_now L lv h x) : lvv L lv h = x.toInt := by
  obtain ⟨k, a, b, up⟩ := L
  rcases k with _ | k
  · have g : lv[a]? = some (some (.int x)) := g
    simp only [lvv, g]
  · have g : ph_i h a b = x := g
    show (ph_i h a b).toInt = _
    rw [g]
theorem lvv_in (L : LVr) (lv : PmL) (h : PmH) : ai_mn ≤ lvv L lv h ∧ lvv L lv h ≤ ai_mx := by
  unfold lvv
  split
  · split
    · exact i32_in _
    · exact ⟨by decide, by decide⟩
  · exact i32_in _
def ke_v (K : KE) (lv : PmL) (h : PmH) : Nat := match K.1 with
  | none => K.2
  | some L => if L.2.2.2 = true then (2147483647 - lvv L lv h).toNat else (lvv L lv h + 2147483648).toNat
def KB : Nat := 8589934592
theorem ke_lt {K : KE} (hc : K.2 < KB) : ke_v K lv h < KB := by
  unfold ke_v
  split
  · exact hc
  · rename_i L _
    have h1 := lvv_in L lv h
    have q1 : ai_mn = -2147483648 := rfl
    have q2 : ai_mx = 2147483647 := rfl
    unfold KB
    split <;> omega
def rkv : List Nat → Nat
  | [] => 0
  | a :: l => a * KB ^ l.length + rkv l
theorem rkv_lt : ∀ {l : List Nat}, (∀ a ∈ l, a < KB) → rkv l < KB ^ l.length
  | [], _ => by simp [rkv]
  | a :: l, hl => by
    have h1 := rkv_lt (l := l) (fun b hb => hl b (List.mem_cons_of_mem _ hb))
    have h2 : a + 1 ≤ KB := hl a List.mem_cons_self
    show a * KB ^ l.length + rkv l < KB ^ (l.length + 1)
    have h3 : (a + 1) * KB ^ l.length ≤ KB * KB ^ l.length := Nat.mul_le_mul_right _ h2
    rw [Nat.pow_succ, Nat.mul_comm (KB ^ l.length) KB]
    rw [Nat.add_mul] at h3
    omega
theorem rkv_hd {a a' : Nat} {l l' : List Nat} (hlen : l'.length = l.length) (hl : ∀ b ∈ l', b < KB) (ha : a' < a) : rkv (a' :: l') < rkv (a :: l) := by
  have h1 := rkv_lt hl
  show a' * KB ^ l'.length + rkv l' < a * KB ^ l.length + rkv l
  rw [hlen] at h1 ⊢
  have h3 : (a' + 1) * KB ^ l.length ≤ a * KB ^ l.length := Nat.mul_le_mul_right _ ha
  rw [Nat.add_mul] at h3
  omega
def kvars : List KE → List LVr
  | [] => []
  | (none, _) :: K => kvars K
  | (some L, _) :: K => L :: kvars K
def LS0 (K : List KE) : List LVr := (kvars K).reverse
def kl : List KE → List KE → List Nat → Bool
  | (none, c) :: K, (none, c') :: K', rs => decide (c' < c) || (c' == c && kl K K' rs)
  | (some L, _) :: K, (some L', _) :: K', r :: rs => decide (L = L') && (r == 1 || (r == 0 && kl K K' rs))
  | _, _, _ => false
def kbd (K : List KE) : Bool := K.all (fun q => decide (q.2 < KB))
theorem kbd_lt {K : List KE} (hb : kbd K = true) : ∀ a ∈ K.map (fun q => ke_v q lv h), a < KB := by
  intro a ha
  obtain ⟨q, hq, rfl⟩ := List.mem_map.mp ha
  exact ke_lt (of_decide_eq_true (List.all_eq_true.mp hb q hq))
theorem kl_ok {lv' : PmL} {h' : PmH} : ∀ (K K' : List KE) (rs : List Nat) (X : List LVr), kl K K' rs = true → K'.length = K.length → kbd K' = true → rs.length = (kvars K).length → gr (LS0 K ++ X) lv' h' rs ((kvars K).map (fun L => lvv L lv h)) → rkv (K'.map (fun q => ke_v q lv' h')) < rkv (K.map (fun q => ke_v q lv h))
  | (none, c) :: K, (none, c') :: K', rs, X, hk, hlen, hb, hrs, hg => by
    simp only [kl, Bool.or_eq_true, Bool.and_eq_true, decide_eq_true_eq, beq_iff_eq] at hk
    have hlen : K'.length = K.length := by simpa using hlen
    have hb2 : kbd K' = true := by
      simp only [kbd, List.all_cons, Bool.and_eq_true] at hb
      exact hb.2
    simp only [List.map_cons]
    rcases hk with hk | hk
    · exact rkv_hd (by simp [hlen]) (kbd_lt hb2) hk
    · have ih := kl_ok (lv' := lv') (h' := h') K K' rs X hk.2 hlen hb2 hrs hg
      show c' * KB ^ _ + rkv _ < c * KB ^ _ + rkv _
      rw [hk.1, show (K'.map (fun q => ke_v q lv' h')).length = (K.map (fun q => ke_v q lv h)).length from by simp [hlen]]
      omega
  | (some L, d) :: K, (some L', d') :: K', r :: rs, X, hk, hlen, hb, hrs, hg => by
    simp only [kl, Bool.or_eq_true, Bool.and_eq_true, decide_eq_true_eq, beq_iff_eq] at hk
    obtain ⟨rfl, hk⟩ := hk
    have hlen : K'.length = K.length := by simpa using hlen
    have hb2 : kbd K' = true := by
      simp only [kbd, List.all_cons, Bool.and_eq_true] at hb
      exact hb.2
    have hrs2 : rs.length = (kvars K).length := by simpa [kvars] using hrs
    have hg9 : gr (LS0 K ++ ([L] ++ X)) lv' h' (r :: rs) (lvv L lv h :: (kvars K).map (fun L => lvv L lv h)) := by
      have e1 : LS0 ((some L, d) :: K) ++ X = LS0 K ++ ([L] ++ X) := by simp [LS0, kvars]
      rw [← e1]
      exact hg
    obtain ⟨⟨L2, x, x1, x2, x3⟩, hg2⟩ := hg9
    have e2 : (LS0 K ++ ([L] ++ X))[rs.length]? = some L := by
      rw [List.getElem?_append_right (by simp [LS0, hrs2])]
      simp [LS0, hrs2]
    rw [e2] at x1
    cases x1
    simp only [List.map_cons]
    rw [← lvv_now x2] at x3
    have b1 := lvv_in L lv h
    have b2 := lvv_in L lv' h'
    have q1 : ai_mn = -2147483648 := rfl
    have q2 : ai_mx = 2147483647 := rfl
    rcases hk with hk | hk
    · refine rkv_hd (by simp [hlen]) (kbd_lt hb2) ?_
      subst hk
      unfold ke_v
      simp only
      unfold rel_ok at x3
      simp only at x3
      split <;> rename_i hup
      · rw [if_pos hup] at x3
        omega
      · rw [if_neg hup] at x3
        omega
    · have ih := kl_ok (lv' := lv') (h' := h') K K' rs ([L] ++ X) hk.2 hlen hb2 hrs2 hg2
      have e3 : lvv L lv' h' = lvv L lv h := by
        rw [hk.1] at x3
        exact x3
      have e4 : ke_v (some L, d') lv' h' = ke_v (some L, d) lv h := by
        unfold ke_v
        simp only
        rw [e3]
      rw [e4]
      show _ * KB ^ _ + rkv _ < _ * KB ^ _ + rkv _
      rw [show (K'.map (fun q => ke_v q lv' h')).length = (K.map (fun q => ke_v q lv h)).length from by simp [hlen]]
      omega
  | [], _, _, _, hk, _, _, _, _ => by simp [kl] at hk
  | _ :: _, [], _, _, hk, _, _, _, _ => by simp [kl] at hk
  | (none, _) :: _, (some _, _) :: _, _, _, hk, _, _, _, _ => by simp [kl] at hk
  | (some _, _) :: _, (none, _) :: _, _, _, hk, _, _, _, _ => by simp [kl] at hk
  | (some _, _) :: _, (some _, _) :: _, [], _, hk, _, _, _, _ => by simp [kl] at hk
def kv_in (A : AS) (L : LVr) : Bool := L.1 != 0 || (match (as_l A)[L.2.1]? with
  | some B => av_k B == 0
  | none => false)
theorem kv_now {L : LVr} (hL : kv_in A L = true) (g : gl (as_l A) lv) : ∃ x : Int32, lv_now L lv h x := by
  obtain ⟨k, a, b, up⟩ := L
  rcases k with _ | k
  · unfold kv_in at hL
    simp at hL
    split at hL
    · rename_i B hB
      have hk : av_k B = 0 := by simpa using hL
      obtain ⟨v, v1, v2⟩ := g.2 a B hB (by omega)
      obtain ⟨x, rfl, -⟩ := gv_k0 (A := nt B) hk (v2 lv h)
      exact ⟨x, v1⟩
    · simp at hL
  · exact ⟨ph_i h a b, rfl⟩
theorem gr_start : ∀ (K : List KE) (X : List LVr), (kvars K).all (kv_in A) = true → gl (as_l A) lv → gr (LS0 K ++ X) lv h (List.replicate (kvars K).length 0) ((kvars K).map (fun L => lvv L lv h))
  | [], _, _, _ => trivial
  | (none, _) :: K, X, hK, g => gr_start K X hK g
  | (some L, d) :: K, X, hK, g => by
    simp only [kvars, List.all_cons, Bool.and_eq_true] at hK
    have e1 : LS0 ((some L, d) :: K) ++ X = LS0 K ++ ([L] ++ X) := by simp [LS0, kvars]
    rw [e1]
    obtain ⟨x, hx⟩ := kv_now (h := h) hK.1 g
    refine ⟨⟨L, x, ?_, hx, ?_⟩, gr_start K ([L] ++ X) hK.2 g⟩
    · rw [List.getElem?_append_right (by simp [LS0])]
      simp [LS0]
    · exact (lvv_now hx).symm
end AR
