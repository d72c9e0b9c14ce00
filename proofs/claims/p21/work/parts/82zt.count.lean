/-! WORK: counting -/
def sumN (f : Nat → Nat) : Nat → Nat
  | 0 => 0
  | n + 1 => sumN f n + f n
theorem sumN_cg {f g : Nat → Nat} : ∀ n, (∀ i, i < n → f i = g i) → sumN f n = sumN g n
  | 0, _ => rfl
  | n + 1, h => by rw [sumN, sumN, sumN_cg n (fun i hi => h i (by omega)), h n (by omega)]
theorem sumN_z {f : Nat → Nat} {a : Nat} : ∀ n, (∀ i, a ≤ i → i < a + n → f i = 0) → sumN f (a + n) = sumN f a
  | 0, _ => rfl
  | n + 1, h => by
    show sumN f (a + n) + f (a + n) = _
    rw [sumN_z n (fun i h1 h2 => h i h1 (by omega)), h (a + n) (by omega) (by omega), Nat.add_zero]
/-- one of these alone counts -/
theorem sumN_1 {f : Nat → Nat} {a b n : Nat} (hb : a ≤ b ∧ b < a + n) (h : ∀ i, a ≤ i → i < a + n → ¬ i = b → f i = 0) : sumN f (a + n) = sumN f a + f b := by
  obtain ⟨k, rfl⟩ : ∃ k, b = a + k := ⟨b - a, by omega⟩
  have e1 := sumN_z (f := f) (a := a) k (fun i h1 h2 => h i h1 (by omega) (by omega))
  have e2 := sumN_z (f := f) (a := a + k + 1) (n - k - 1) (fun i h1 h2 => h i (by omega) (by omega) (by omega))
  rw [show a + k + 1 + (n - k - 1) = a + n by omega] at e2
  rw [e2, sumN, e1]
theorem sumN_ad {f g : Nat → Nat} : ∀ n, sumN (fun i => f i + g i) n = sumN f n + sumN g n
  | 0 => rfl
  | n + 1 => by
    rw [sumN, sumN, sumN, sumN_ad n]
    omega
theorem sumN_sw {g : Nat → Nat → Nat} {m : Nat} : ∀ n, sumN (fun q => sumN (fun c => g q c) n) m = sumN (fun c => sumN (fun q => g q c) m) n
  | 0 => by
    rw [sumN]
    have : ∀ k, sumN (fun _ => 0) k = 0 := fun k => by
      induction k with
      | zero => rfl
      | succ k ih => rw [sumN, ih]
    exact this m
  | n + 1 => by
    show sumN (fun q => sumN (fun c => g q c) n + g q n) m = _
    rw [sumN_ad, sumN_sw n, sumN]
theorem sumN_le {f : Nat → Nat} {B : Nat} : ∀ n, (∀ i, i < n → f i ≤ B) → sumN f n ≤ B * n
  | 0, _ => Nat.zero_le _
  | n + 1, h => by
    have := sumN_le n (fun i hi => h i (by omega))
    have := h n (by omega)
    rw [sumN, Nat.mul_succ]
    omega
/-- whether it is gone to a node's level -/
def goN (ct : Nat → Nat → Bool) (m c : Nat) : Nat → Bool
  | 0 => true
  | d + 1 => goN ct m c d && !ct (m - d) (c / 2 ^ (m - d) * 2 ^ (m - d))
def gon (ct : Nat → Nat → Bool) (m q c : Nat) : Bool := goN ct m c (m - q)
theorem gon_m {ct : Nat → Nat → Bool} {m c : Nat} : gon ct m m c = true := by
  unfold gon
  rw [Nat.sub_self]
  rfl
theorem gon_s {ct : Nat → Nat → Bool} {m q c : Nat} (h : q < m) : gon ct m q c = (gon ct m (q + 1) c && !ct (q + 1) (c / 2 ^ (q + 1) * 2 ^ (q + 1))) := by
  unfold gon
  rw [show m - q = m - (q + 1) + 1 by omega, goN, show m - (m - (q + 1)) = q + 1 by omega]
theorem gon_up {ct : Nat → Nat → Bool} {m c : Nat} : ∀ (n q : Nat), q + n ≤ m → gon ct m q c = true → gon ct m (q + n) c = true
  | 0, _, _, h => h
  | n + 1, q, hq, h => by
    rw [gon_s (by omega)] at h
    have h1 : gon ct m (q + 1) c = true := by
      cases z : gon ct m (q + 1) c
      · rw [z] at h
        cases h
      · rfl
    rw [show q + (n + 1) = q + 1 + n by omega]
    exact gon_up n (q + 1) (by omega) h1
theorem gon_no {ct : Nat → Nat → Bool} {m c q l : Nat} (h1 : q < l) (h2 : l ≤ m) (h : ct l (c / 2 ^ l * 2 ^ l) = true) : gon ct m q c = false := by
  cases z : gon ct m q c
  · rfl
  · have := gon_up (l - 1 - q) q (by omega) z
    rw [show q + (l - 1 - q) = l - 1 by omega, gon_s (by omega), show l - 1 + 1 = l by omega, h, Bool.not_true, Bool.and_false] at this
    cases this
theorem gon_cg {ct : Nat → Nat → Bool} {m c c' : Nat} : ∀ (n q : Nat), q + n = m → (∀ l, q < l → l ≤ m → c / 2 ^ l = c' / 2 ^ l) → gon ct m q c = gon ct m q c'
  | 0, q, hq, _ => by
    have : q = m := by omega
    subst this
    rw [gon_m, gon_m]
  | n + 1, q, hq, h => by
    rw [gon_s (c := c) (q := q) (by omega), gon_s (c := c') (q := q) (by omega), gon_cg n (q + 1) (by omega) (fun l h1 h2 => h l (by omega) h2), h (q + 1) (by omega) (by omega)]
/-- down from a level: left work, decided, where it ended -/
def cdn (ct : Nat → Nat → Bool) (P c : Nat) : Nat → Nat × Nat × Nat
  | 0 => if ct 0 c = true then (0, 0, 0) else (0, 1, 0)
  | q + 1 => if ct (q + 1) c = true then (0, 0, q + 1) else (P * 2 ^ q + (cdn ct P c q).1, (cdn ct P c q).2.1, (cdn ct P c q).2.2)
def gL (ct : Nat → Nat → Bool) (P : Nat → Nat) (m q c : Nat) : Nat := if c % 2 ^ (q + 1) = 0 ∧ gon ct m (q + 1) c = true ∧ ct (q + 1) c = false then P c * 2 ^ q else 0
def gR (ct : Nat → Nat → Bool) (P : Nat → Nat) (m q c : Nat) : Nat := if c % 2 ^ (q + 1) = 2 ^ q ∧ gon ct m q c = true then P c * 2 ^ q else 0
def gD (ct : Nat → Nat → Bool) (m c : Nat) : Nat := if gon ct m 0 c = true ∧ ct 0 c = false then 1 else 0
theorem dvq {c q : Nat} (h : c % 2 ^ q = 0) : c / 2 ^ q * 2 ^ q = c := by
  have := Nat.div_add_mod c (2 ^ q)
  rw [Nat.mul_comm]
  omega
theorem md_le {c q l : Nat} (h : c % 2 ^ l = 0) (hq : q ≤ l) : c % 2 ^ q = 0 := by
  obtain ⟨b, hb⟩ := Nat.dvd_of_mod_eq_zero h
  exact Nat.mod_eq_zero_of_dvd (Nat.dvd_trans (Nat.pow_dvd_pow 2 hq) ⟨b, hb⟩)
theorem cdn_p {ct : Nat → Nat → Bool} {P : Nat → Nat} {m c : Nat} : ∀ j, j ≤ m → c % 2 ^ j = 0 → gon ct m j c = true → sumN (fun q => gL ct P m q c) j = (cdn ct (P c) c j).1 ∧ gD ct m c = (cdn ct (P c) c j).2.1 ∧ (cdn ct (P c) c j).2.2 ≤ j ∧ gon ct m (cdn ct (P c) c j).2.2 c = true ∧ (0 < (cdn ct (P c) c j).2.2 → ct (cdn ct (P c) c j).2.2 c = true)
  | 0, _, _, hg => by
    cases z : ct 0 c
    · have e : cdn ct (P c) c 0 = (0, 1, 0) := by
        rw [cdn, z]
        rfl
      have g : gD ct m c = 1 := by
        unfold gD
        rw [z]
        exact if_pos ⟨hg, rfl⟩
      rw [e, g]
      exact ⟨rfl, rfl, Nat.le_refl _, hg, fun y => absurd y (by decide)⟩
    · have e : cdn ct (P c) c 0 = (0, 0, 0) := by
        rw [cdn, z]
        rfl
      have g : gD ct m c = 0 := by
        unfold gD
        rw [z]
        exact if_neg (fun y => by cases y.2)
      rw [e, g]
      exact ⟨rfl, rfl, Nat.le_refl _, hg, fun y => absurd y (by decide)⟩
  | j + 1, hj, hc, hg => by
    rw [cdn]
    have dc := dvq hc
    cases z : ct (j + 1) c
    · rw [if_neg (by decide)]
      have hg2 : gon ct m j c = true := by rw [gon_s (by omega), hg, dc, z]; rfl
      obtain ⟨i1, i2, i3, i4, i5⟩ := cdn_p (P := P) j (by omega) (md_le hc (by omega)) hg2
      refine ⟨?_, i2, by show (cdn ct (P c) c j).2.2 ≤ j + 1; omega, i4, i5⟩
      rw [sumN, i1]
      unfold gL
      rw [if_pos ⟨hc, hg, z⟩]
      exact Nat.add_comm _ _
    · rw [if_pos rfl]
      have no : ∀ q, q < j + 1 → gon ct m q c = false := fun q hq => gon_no (l := j + 1) hq (by omega) (by rw [dc]; exact z)
      refine ⟨?_, ?_, Nat.le_refl _, hg, fun _ => z⟩
      · have := sumN_z (f := fun q => gL ct P m q c) (a := 0) (j + 1) (fun q _ hq => by
          show gL ct P m q c = 0
          unfold gL
          by_cases e : q = j
          · subst e
            rw [if_neg (fun y => by rw [z] at y; cases y.2.2)]
          · rw [if_neg (fun y => by rw [no (q + 1) (by omega)] at y; cases y.2.1)])
        rw [Nat.zero_add] at this
        exact this
      · unfold gD
        rw [if_neg (fun y => by rw [no 0 (by omega)] at y; cases y.1)]
/-- the highest level of a node that begins there -/
def topL (m c : Nat) : Nat := if c = 0 then m else tzN c
theorem tp_a : ∀ m, m < 7 → ∀ c, c < 2 ^ m → 1 ≤ c → tzN c < m := by decide +kernel
theorem tp_b : ∀ c, c < 64 → 1 ≤ c → c % 2 ^ tzN c = 0 ∧ c % 2 ^ (tzN c + 1) = 2 ^ tzN c := by decide +kernel
theorem tp_c : ∀ c, c < 64 → ∀ q, q < 7 → 1 ≤ c → tzN c < q → ¬ c % 2 ^ q = 0 := by decide +kernel
theorem tp_d : ∀ c, c < 64 → ∀ q, q < 7 → 1 ≤ c → ¬ q = tzN c → ¬ c % 2 ^ (q + 1) = 2 ^ q := by decide +kernel
theorem tp_0 {m : Nat} (hm : m < 7) (c : Nat) (hc : c < 2 ^ m) (h1 : 1 ≤ c) : tzN c < m ∧ c % 2 ^ tzN c = 0 ∧ c % 2 ^ (tzN c + 1) = 2 ^ tzN c ∧ ∀ q, q < 7 → (tzN c < q → ¬ c % 2 ^ q = 0) ∧ (¬ q = tzN c → ¬ c % 2 ^ (q + 1) = 2 ^ q) := by
  have p6 := pw_6 m (by omega)
  exact ⟨tp_a m hm c hc h1, (tp_b c (by omega) h1).1, (tp_b c (by omega) h1).2, fun q hq => ⟨tp_c c (by omega) q hq h1, tp_d c (by omega) q hq h1⟩⟩
theorem tp_e : ∀ l, l < 7 → ∀ c, c < 64 → ∀ q, q < 7 → (c = 0 ∨ ¬ c % 2 ^ l = 0 ∨ q ≤ tzN c) ∨ (c - 2 ^ l) / 2 ^ q = c / 2 ^ q := by decide +kernel
theorem tp_1 (l : Nat) (hl : l < 7) (c : Nat) (hc : c < 64) (q : Nat) (hq : q < 7) (h1 : 1 ≤ c) (h2 : c % 2 ^ l = 0) (h3 : tzN c < q) : (c - 2 ^ l) / 2 ^ q = c / 2 ^ q := by
  rcases tp_e l hl c hc q hq with z | z
  · rcases z with z | z | z
    · omega
    · exact absurd h2 z
    · omega
  · exact z
/-- what one channel brings, if it is gone to -/
theorem tp_H {ct : Nat → Nat → Bool} {P : Nat → Nat} {m c : Nat} (hm : m ≤ 6) (hc : c < 2 ^ m) (hg : gon ct m (topL m c) c = true) : sumN (fun q => gL ct P m q c) m = (cdn ct (P c) c (topL m c)).1 ∧ sumN (fun q => gR ct P m q c) m = (if c = 0 then 0 else P c * 2 ^ tzN c) ∧ gD ct m c = (cdn ct (P c) c (topL m c)).2.1 ∧ (cdn ct (P c) c (topL m c)).2.2 ≤ topL m c ∧ topL m c ≤ m ∧ c % 2 ^ topL m c = 0 ∧ gon ct m (cdn ct (P c) c (topL m c)).2.2 c = true ∧ (0 < (cdn ct (P c) c (topL m c)).2.2 → ct (cdn ct (P c) c (topL m c)).2.2 c = true) := by
  by_cases e : c = 0
  · subst e
    have et : topL m 0 = m := if_pos rfl
    rw [et] at hg ⊢
    obtain ⟨i1, i2, i3, i4, i5⟩ := cdn_p (P := P) m (Nat.le_refl _) (Nat.zero_mod _) hg
    refine ⟨i1, ?_, i2, i3, Nat.le_refl _, Nat.zero_mod _, i4, i5⟩
    rw [if_pos rfl]
    have := sumN_z (f := fun q => gR ct P m q 0) (a := 0) m (fun q _ hq => by
      show gR ct P m q 0 = 0
      unfold gR
      rw [Nat.zero_mod, if_neg (fun y => by have := Nat.two_pow_pos q; omega)])
    rw [Nat.zero_add] at this
    exact this
  · have et : topL m c = tzN c := if_neg e
    rw [et] at hg ⊢
    obtain ⟨t1, t2, t3, t4⟩ := tp_0 (m := m) (by omega) c hc (by omega)
    obtain ⟨i1, i2, i3, i4, i5⟩ := cdn_p (P := P) (tzN c) (by omega) t2 hg
    refine ⟨?_, ?_, i2, i3, by omega, t2, i4, i5⟩
    · have := sumN_z (f := fun q => gL ct P m q c) (a := tzN c) (m - tzN c) (fun q h1 h2 => by
        show gL ct P m q c = 0
        unfold gL
        rw [if_neg (fun y => (t4 (q + 1) (by omega)).1 (by omega) y.1)])
      rw [show tzN c + (m - tzN c) = m by omega] at this
      rw [this, i1]
    · rw [if_neg e]
      have := sumN_1 (f := fun q => gR ct P m q c) (a := 0) (b := tzN c) (n := m) ⟨Nat.zero_le _, by omega⟩ (fun q _ h2 h3 => by
        show gR ct P m q c = 0
        unfold gR
        rw [if_neg (fun y => (t4 q (by omega)).2 h3 y.1)])
      rw [Nat.zero_add] at this
      rw [this]
      show 0 + gR ct P m (tzN c) c = _
      unfold gR
      rw [if_pos ⟨t3, hg⟩, Nat.zero_add]
/-- within what was cut short nothing counts; and behind it one goes on -/
theorem tp_N {ct : Nat → Nat → Bool} {P : Nat → Nat} {m c l : Nat} (hm : m ≤ 6) (hl : l ≤ m) (hc : c % 2 ^ l = 0) (hg : gon ct m l c = true) (hk : 0 < l → ct l c = true) : (∀ i, c < i → i < c + 2 ^ l → sumN (fun q => gL ct P m q i) m = 0 ∧ sumN (fun q => gR ct P m q i) m = 0 ∧ gD ct m i = 0) ∧ (c + 2 ^ l < 2 ^ m → gon ct m (topL m (c + 2 ^ l)) (c + 2 ^ l) = true) := by
  have p6 := pw_6 m (by omega)
  have pl := Nat.two_pow_pos l
  refine ⟨fun i h1 h2 => ?_, fun h => ?_⟩
  · have l0 : 0 < l := by
      cases l with
      | zero => rw [Nat.pow_zero] at h2; omega
      | succ l => exact Nat.succ_pos l
    have k := hk l0
    obtain ⟨b, hb⟩ := Nat.dvd_of_mod_eq_zero hc
    have di : i / 2 ^ l * 2 ^ l = c := by
      obtain ⟨r, rfl⟩ : ∃ r, i = c + r := ⟨i - c, by omega⟩
      rw [hb, Nat.mul_add_div pl, Nat.div_eq_of_lt (by omega), Nat.add_zero, Nat.mul_comm]
    have no : ∀ q, q < l → gon ct m q i = false := fun q hq => gon_no hq hl (by rw [di]; exact k)
    have nd : ∀ q, l ≤ q → ¬ i % 2 ^ q = 0 := fun q hq z => by
      have := dvq (md_le z hq)
      omega
    refine ⟨?_, ?_, ?_⟩
    · have := sumN_z (f := fun q => gL ct P m q i) (a := 0) m (fun q _ hq => by
        show gL ct P m q i = 0
        unfold gL
        refine if_neg (fun y => ?_)
        by_cases e : q + 1 < l
        · rw [no (q + 1) e] at y
          cases y.2.1
        · exact nd (q + 1) (by omega) y.1)
      rw [Nat.zero_add] at this
      exact this
    · have := sumN_z (f := fun q => gR ct P m q i) (a := 0) m (fun q _ hq => by
        show gR ct P m q i = 0
        unfold gR
        refine if_neg (fun y => ?_)
        by_cases e : q < l
        · rw [no q e] at y
          cases y.2
        · refine nd q (by omega) ?_
          have := Nat.div_add_mod i (2 ^ (q + 1))
          rw [y.1, Nat.pow_succ, Nat.mul_assoc] at this
          rw [← this, Nat.mul_add_mod, Nat.mod_self])
      rw [Nat.zero_add] at this
      exact this
    · unfold gD
      rw [if_neg (fun y => by rw [no 0 l0] at y; cases y.1)]
  · have et : topL m (c + 2 ^ l) = tzN (c + 2 ^ l) := if_neg (by omega)
    rw [et]
    obtain ⟨t1, t2, t3, t4⟩ := tp_0 (m := m) (by omega) (c + 2 ^ l) h (by omega)
    have c2 : (c + 2 ^ l) % 2 ^ l = 0 := by rw [Nat.add_mod_right]; exact hc
    have tl : l ≤ tzN (c + 2 ^ l) := Nat.le_of_not_lt (fun z => (t4 l (by omega)).1 z c2)
    rw [gon_cg (c' := c) (m - tzN (c + 2 ^ l)) _ (by omega) (fun q h1 h2 => by
      have := tp_1 l (by omega) (c + 2 ^ l) (by omega) q (by omega) (by omega) c2 h1
      rw [← this]
      congr 1
      omega)]
    have := gon_up (tzN (c + 2 ^ l) - l) l (by omega) hg
    rw [show l + (tzN (c + 2 ^ l) - l) = tzN (c + 2 ^ l) by omega] at this
    exact this
