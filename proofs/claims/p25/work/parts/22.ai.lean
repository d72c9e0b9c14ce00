/-! A CHECKER OF SAFETY BY INTERVALS: abstract values. (kind, lo, hi, places, tag, a, b): kind 0 an int between lo and hi, 1 a long, 2 a reference to one of the places, 3 a thing from before, else anything; tag 1: it is local a; 2: it is the field b of a; 3, 4: less, greater than local a; 5, 6: less, greater than the field -/
abbrev AV : Type := Nat × Int × Int × List Nat × Nat × Nat × Nat
abbrev av_k (A : AV) : Nat := A.1
abbrev av_lo (A : AV) : Int := A.2.1
abbrev av_hi (A : AV) : Int := A.2.2.1
abbrev av_ps (A : AV) : List Nat := A.2.2.2.1
abbrev av_t (A : AV) : Nat := A.2.2.2.2.1
abbrev av_a (A : AV) : Nat := A.2.2.2.2.2.1
abbrev av_b (A : AV) : Nat := A.2.2.2.2.2.2
def av_i (lo hi : Int) : AV := (0, lo, hi, [], 0, 0, 0)
def av_it (lo hi : Int) (t a b : Nat) : AV := (0, lo, hi, [], t, a, b)
def av_l : AV := (1, 0, 0, [], 0, 0, 0)
def av_r (ps : List Nat) : AV := (2, 0, 0, ps, 0, 0, 0)
def av_x (ps : List Nat) : AV := (3, 0, 0, ps, 0, 0, 0)
def av_u : AV := (9, 0, 0, [], 0, 0, 0)
def ai_tag (lv : PmL) (h : PmH) (t a b : Nat) (x : Int32) : Prop := match t with
  | 0 => True
  | 1 => lv[a]? = some (some (.int x))
  | 2 => ph_i h a b = x
  | 3 => ∃ y : Int32, lv[a]? = some (some (.int y)) ∧ x.toInt < y.toInt
  | 4 => ∃ y : Int32, lv[a]? = some (some (.int y)) ∧ y.toInt < x.toInt
  | 5 => x.toInt < (ph_i h a b).toInt
  | _ => (ph_i h a b).toInt < x.toInt
/-- what an abstract value says of a value -/
def gv (lv : PmL) (h : PmH) (A : AV) (v : Value) : Prop := match av_k A with
  | 0 => ∃ x : Int32, v = .int x ∧ av_lo A ≤ x.toInt ∧ x.toInt ≤ av_hi A ∧ ai_tag lv h (av_t A) (av_a A) (av_b A) x
  | 1 => ∃ x : Int64, v = .long x
  | 2 => ∃ p ∈ av_ps A, v = .ref p
  | 3 => ∃ k ∈ av_ps A, v = .retAddr k
  | 4 => ∃ x : Int64, v = .long x ∧ ¬ x = 0
  | 5 => ∃ x : Int32, v = .long x.toInt64 ∧ av_lo A ≤ x.toInt ∧ x.toInt ≤ av_hi A ∧ ai_tag lv h (av_t A) (av_a A) (av_b A) x
  | _ => True
/-- heap data: for each place, for each slot (an array has one row for all; one of ints some rows that come again and again): kind 0 an int between, 2 a reference to one of the places, else anything -/
abbrev HDt : Type := List (List (Nat × Int × Int × List Nat))
def hd_at (HD : HDt) (S : List (Nat × Nat)) (p s : Nat) : Nat × Int × Int × List Nat := match S[p]? with
  | some (t, _) => if t = 0 then (HD.getD p []).getD (s % (HD.getD p []).length) (9, 0, 0, []) else if t < 5 then (HD.getD p []).getD 0 (9, 0, 0, []) else (HD.getD p []).getD s (9, 0, 0, [])
  | none => (9, 0, 0, [])
def hd_ok (q : Nat × Int × Int × List Nat) (h : PmH) (p s : Nat) : Prop := match q.1 with
  | 0 => q.2.1 ≤ (ph_i h p s).toInt ∧ (ph_i h p s).toInt ≤ q.2.2.1
  | 2 => ∃ z ∈ q.2.2.2, ph_r h p s = some z
  | _ => True
/-- the heap keeps to the data -/
def HI (HD : HDt) (S : List (Nat × Nat)) (h : PmH) : Prop := ph_s h = S ∧ ∀ (p s t n : Nat), S[p]? = some (t, n) → s < n → hd_ok (hd_at HD S p s) h p s
abbrev WSt : Type := List (Nat × Nat)
def inW (W : WSt) (p s : Nat) : Bool := W.any (fun q => q.1 == p && (q.2 == s || q.2 == 9999))
/-- nothing has changed but what W names -/
def fram (W : WSt) (h h' : PmH) : Prop := ∀ p s, inW W p s = false → ph_i h' p s = ph_i h p s ∧ ph_l h' p s = ph_l h p s ∧ ph_r h' p s = ph_r h p s
theorem fram.rf (W : WSt) (h : PmH) : fram W h h := fun _ _ _ => ⟨rfl, rfl, rfl⟩
theorem fram.tr {W : WSt} {h1 h2 h3 : PmH} (a : fram W h1 h2) (b : fram W h2 h3) : fram W h1 h3 := fun p s z => ⟨(b p s z).1.trans (a p s z).1, (b p s z).2.1.trans (a p s z).2.1, (b p s z).2.2.trans (a p s z).2.2⟩
def subW (W W' : WSt) : Bool := W.all (fun q => W'.any (fun r => r.1 == q.1 && (r.2 == q.2 || r.2 == 9999)))
theorem subW_in {W W' : WSt} (hs : subW W W' = true) {p s : Nat} (h : inW W' p s = false) : inW W p s = false := by
  cases hw : inW W p s with
  | false => rfl
  | true =>
    exfalso
    obtain ⟨q, hq, hq2⟩ := List.any_eq_true.mp hw
    obtain ⟨r, hr, hr2⟩ := List.any_eq_true.mp (List.all_eq_true.mp hs q hq)
    have : inW W' p s = true := List.any_eq_true.mpr ⟨r, hr, by
      simp only [Bool.and_eq_true, Bool.or_eq_true, beq_iff_eq] at hq2 hr2 ⊢
      refine ⟨hr2.1.trans hq2.1, ?_⟩
      rcases hr2.2 with z | z
      · rcases hq2.2 with y | y
        · exact Or.inl (z.trans y)
        · exact Or.inr (z.trans y)
      · exact Or.inr z⟩
    rw [this] at h
    cases h
theorem fram.up {W W' : WSt} {h h' : PmH} (hs : subW W W' = true) (a : fram W h h') : fram W' h h' := fun p s z => a p s (subW_in hs z)
/-! abstract states: locals, stack, what is known better of fields now, how the enclosing loops' variables stand to what they were at the head (0 equal, 1 gone on, 2 either) -/
abbrev AS : Type := List AV × List AV × List (Nat × Nat × Int × Int) × List Nat
abbrev as_l (A : AS) : List AV := A.1
abbrev as_s (A : AS) : List AV := A.2.1
abbrev as_o (A : AS) : List (Nat × Nat × Int × Int) := A.2.2.1
abbrev as_g (A : AS) : List Nat := A.2.2.2
/-- a loop's variable: a local, or a field; it goes up, or down -/
abbrev LVr : Type := Nat × Nat × Nat × Bool
def lv_now (L : LVr) (lv : PmL) (h : PmH) (x : Int32) : Prop := match L.1 with
  | 0 => lv[L.2.1]? = some (some (.int x))
  | _ => ph_i h L.2.1 L.2.2.1 = x
def rel_ok (up : Bool) (r : Nat) (g x : Int) : Prop := match r with
  | 0 => x = g
  | 1 => if up then g < x else x < g
  | _ => if up then g ≤ x else x ≤ g
def nt (B : AV) : AV := (av_k B, av_lo B, av_hi B, av_ps B, 0, 0, 0)
/-- locals, their tags apart -/
def gl (A : List AV) (lv : PmL) : Prop := lv.length = A.length ∧ ∀ (i : Nat) (B : AV), A[i]? = some B → av_k B < 9 → ∃ v, lv[i]? = some (some v) ∧ ∀ (lv' : PmL) (h' : PmH), gv lv' h' (nt B) v
def gst (lv : PmL) (h : PmH) : List AV → List Value → Prop
  | [], [] => True
  | B :: A, v :: st => gv lv h B v ∧ gst lv h A st
  | _, _ => False
def go_ (O : List (Nat × Nat × Int × Int)) (h : PmH) : Prop := ∀ q ∈ O, q.2.2.1 ≤ (ph_i h q.1 q.2.1).toInt ∧ (ph_i h q.1 q.2.1).toInt ≤ q.2.2.2
def gr (LS : List LVr) (lv : PmL) (h : PmH) : List Nat → List Int → Prop
  | [], [] => True
  | r :: rs, g :: gs => (∃ L x, LS[rs.length]? = some L ∧ lv_now L lv h x ∧ rel_ok L.2.2.2 r g x.toInt) ∧ gr LS lv h rs gs
  | _, _ => False
def gs (A : AS) (lv : PmL) (st : List Value) (h : PmH) : Prop := gl (as_l A) lv ∧ gst lv h (as_s A) st ∧ go_ (as_o A) h
def ai_mn : Int := -2147483648
def ai_mx : Int := 2147483647
/-- an interval, or all ints where it passes the ints -/
def av_c (lo hi : Int) (t a b : Nat) : AV := if ai_mn ≤ lo ∧ hi ≤ ai_mx then (0, lo, hi, [], t, a, b) else (0, ai_mn, ai_mx, [], 0, 0, 0)
/-- a tag goes when its local is written -/
def ut_l (i : Nat) (B : AV) : AV := if (av_t B = 1 ∨ av_t B = 3 ∨ av_t B = 4) ∧ av_a B = i then (av_k B, av_lo B, av_hi B, av_ps B, 0, 0, 0) else B
/-- tags of fields that are among the written ones go -/
def ut_f (W : WSt) (B : AV) : AV := if (av_t B = 2 ∨ 5 ≤ av_t B) ∧ inW W (av_a B) (av_b B) = true then (av_k B, av_lo B, av_hi B, av_ps B, 0, 0, 0) else B
def ai_put (A : AS) (B : AV) (st : List AV) (j : Nat) : Option (List (Nat × AS)) := some [(j, (as_l A, B :: st, as_o A, as_g A))]
def ai_addt (X Y : AV) : Nat × Nat × Nat := if 0 < av_lo Y ∧ av_t X = 1 then (4, av_a X, 0) else if 0 < av_lo Y ∧ av_t X = 2 then (6, av_a X, av_b X) else (0, 0, 0)
def ai_add (X Y : AV) : AV := av_c (av_lo X + av_lo Y) (av_hi X + av_hi Y) (ai_addt X Y).1 (ai_addt X Y).2.1 (ai_addt X Y).2.2
def ai_subt (X Y : AV) : Nat × Nat × Nat := if 0 < av_lo Y ∧ (av_t X = 1 ∨ av_t X = 3) then (3, av_a X, 0) else if 0 < av_lo Y ∧ (av_t X = 2 ∨ av_t X = 5) then (5, av_a X, av_b X) else (0, 0, 0)
def ai_sub (X Y : AV) : AV := av_c (av_lo X - av_hi Y) (av_hi X - av_lo Y) (ai_subt X Y).1 (ai_subt X Y).2.1 (ai_subt X Y).2.2
theorem i32_in (x : Int32) : ai_mn ≤ x.toInt ∧ x.toInt ≤ ai_mx := by
  have h1 := Int32.minValue_le_toInt x
  have h2 := Int32.toInt_le x
  rw [show Int32.minValue.toInt = -2147483648 from by decide] at h1
  rw [show Int32.maxValue.toInt = 2147483647 from by decide] at h2
  unfold ai_mn ai_mx
  constructor <;> omega
theorem i32_bm {a : Int} (h1 : ai_mn ≤ a) (h2 : a ≤ ai_mx) : a.bmod (2 ^ 32) = a := by
  unfold ai_mn at h1
  unfold ai_mx at h2
  rw [Int.bmod_def]
  split <;> omega
theorem i32_add {x y : Int32} (h1 : ai_mn ≤ x.toInt + y.toInt) (h2 : x.toInt + y.toInt ≤ ai_mx) : (x + y).toInt = x.toInt + y.toInt := by
  rw [Int32.toInt_add]
  exact i32_bm h1 h2
theorem i32_sub {x y : Int32} (h1 : ai_mn ≤ x.toInt - y.toInt) (h2 : x.toInt - y.toInt ≤ ai_mx) : (x - y).toInt = x.toInt - y.toInt := by
  rw [Int32.toInt_sub]
  exact i32_bm h1 h2
theorem i32_mul {x y : Int32} (h1 : ai_mn ≤ x.toInt * y.toInt) (h2 : x.toInt * y.toInt ≤ ai_mx) : (x * y).toInt = x.toInt * y.toInt := by
  rw [Int32.toInt_mul]
  exact i32_bm h1 h2
theorem gv_int {lv : PmL} {h : PmH} {A : AV} {v : Value} (hk : av_k A = 0) : gv lv h A v ↔ ∃ x : Int32, v = .int x ∧ av_lo A ≤ x.toInt ∧ x.toInt ≤ av_hi A ∧ ai_tag lv h (av_t A) (av_a A) (av_b A) x := by
  unfold gv
  rw [hk]
  exact Iff.rfl
theorem gv_c {lv : PmL} {h : PmH} {lo hi : Int} {t a b : Nat} {x : Int32} (h1 : (ai_mn ≤ lo ∧ hi ≤ ai_mx) → lo ≤ x.toInt ∧ x.toInt ≤ hi ∧ ai_tag lv h t a b x) : gv lv h (av_c lo hi t a b) (.int x) := by
  unfold av_c
  split
  · rename_i hq
    obtain ⟨g1, g2, g3⟩ := h1 hq
    exact (gv_int rfl).mpr ⟨x, rfl, g1, g2, g3⟩
  · exact (gv_int rfl).mpr ⟨x, rfl, (i32_in x).1, (i32_in x).2, trivial⟩
theorem ai_add_ok {lv : PmL} {h : PmH} {X Y : AV} {x y : Int32} (hX : av_lo X ≤ x.toInt ∧ x.toInt ≤ av_hi X ∧ ai_tag lv h (av_t X) (av_a X) (av_b X) x) (hY : av_lo Y ≤ y.toInt ∧ y.toInt ≤ av_hi Y) : gv lv h (ai_add X Y) (.int (x + y)) := by
  refine gv_c (fun hq => ?_)
  obtain ⟨a1, a2, a3⟩ := hX
  obtain ⟨b1, b2⟩ := hY
  have e : (x + y).toInt = x.toInt + y.toInt := i32_add (by omega) (by omega)
  refine ⟨by omega, by omega, ?_⟩
  unfold ai_addt
  split
  · rename_i h9
    rw [h9.2] at a3
    exact ⟨x, a3, by omega⟩
  · split
    · rename_i h9
      rw [h9.2] at a3
      have a3 : ph_i h (av_a X) (av_b X) = x := a3
      show (ph_i h (av_a X) (av_b X)).toInt < (x + y).toInt
      rw [a3]
      omega
    · trivial
theorem ai_sub_ok {lv : PmL} {h : PmH} {X Y : AV} {x y : Int32} (hX : av_lo X ≤ x.toInt ∧ x.toInt ≤ av_hi X ∧ ai_tag lv h (av_t X) (av_a X) (av_b X) x) (hY : av_lo Y ≤ y.toInt ∧ y.toInt ≤ av_hi Y) : gv lv h (ai_sub X Y) (.int (x - y)) := by
  refine gv_c (fun hq => ?_)
  obtain ⟨a1, a2, a3⟩ := hX
  obtain ⟨b1, b2⟩ := hY
  have e : (x - y).toInt = x.toInt - y.toInt := i32_sub (by omega) (by omega)
  refine ⟨by omega, by omega, ?_⟩
  unfold ai_subt
  split
  · rename_i h9
    rcases h9.2 with h8 | h8
    · rw [h8] at a3
      exact ⟨x, a3, by omega⟩
    · rw [h8] at a3
      obtain ⟨z, z1, z2⟩ := a3
      exact ⟨z, z1, by omega⟩
  · split
    · rename_i h9
      rcases h9.2 with h8 | h8
      · rw [h8] at a3
        have a3 : ph_i h (av_a X) (av_b X) = x := a3
        show (x - y).toInt < (ph_i h (av_a X) (av_b X)).toInt
        rw [a3]
        omega
      · rw [h8] at a3
        have a3 : x.toInt < (ph_i h (av_a X) (av_b X)).toInt := a3
        show (x - y).toInt < (ph_i h (av_a X) (av_b X)).toInt
        omega
    · trivial
/-- a product: corners -/
def ai_mulb (X Y : AV) : Int × Int :=
  let p := [av_lo X * av_lo Y, av_lo X * av_hi Y, av_hi X * av_lo Y, av_hi X * av_hi Y]
  (p.foldl min (av_lo X * av_lo Y), p.foldl max (av_lo X * av_lo Y))
def ai_mult (X Y : AV) : Nat × Nat × Nat := if 1 < av_lo Y ∧ 0 < av_lo X ∧ av_t X = 1 then (4, av_a X, 0) else (0, 0, 0)
def ai_mul (X Y : AV) : AV := av_c (ai_mulb X Y).1 (ai_mulb X Y).2 (ai_mult X Y).1 (ai_mult X Y).2.1 (ai_mult X Y).2.2
theorem mul_corner {a b x c d y : Int} (h1 : a ≤ x) (h2 : x ≤ b) (h3 : c ≤ y) (h4 : y ≤ d) : (a * c ≤ x * y ∨ a * d ≤ x * y ∨ b * c ≤ x * y ∨ b * d ≤ x * y) ∧ (x * y ≤ a * c ∨ x * y ≤ a * d ∨ x * y ≤ b * c ∨ x * y ≤ b * d) := by
  rcases Int.le_total 0 y with hy | hy
  · have m1 : a * y ≤ x * y := Int.mul_le_mul_of_nonneg_right h1 hy
    have m2 : x * y ≤ b * y := Int.mul_le_mul_of_nonneg_right h2 hy
    constructor
    · rcases Int.le_total 0 a with ha | ha
      · exact Or.inl (Int.le_trans (Int.mul_le_mul_of_nonneg_left h3 ha) m1)
      · exact Or.inr (Or.inl (Int.le_trans (Int.mul_le_mul_of_nonpos_left ha h4) m1))
    · rcases Int.le_total 0 b with hb | hb
      · exact Or.inr (Or.inr (Or.inr (Int.le_trans m2 (Int.mul_le_mul_of_nonneg_left h4 hb))))
      · exact Or.inr (Or.inr (Or.inl (Int.le_trans m2 (Int.mul_le_mul_of_nonpos_left hb h3))))
  · have m1 : b * y ≤ x * y := Int.mul_le_mul_of_nonpos_right h2 hy
    have m2 : x * y ≤ a * y := Int.mul_le_mul_of_nonpos_right h1 hy
    constructor
    · rcases Int.le_total 0 b with hb | hb
      · exact Or.inr (Or.inr (Or.inl (Int.le_trans (Int.mul_le_mul_of_nonneg_left h3 hb) m1)))
      · exact Or.inr (Or.inr (Or.inr (Int.le_trans (Int.mul_le_mul_of_nonpos_left hb h4) m1)))
    · rcases Int.le_total 0 a with ha | ha
      · exact Or.inr (Or.inl (Int.le_trans m2 (Int.mul_le_mul_of_nonneg_left h4 ha)))
      · exact Or.inl (Int.le_trans m2 (Int.mul_le_mul_of_nonpos_left ha h3))
theorem ai_mul_ok {lv : PmL} {h : PmH} {X Y : AV} {x y : Int32} (hX : av_lo X ≤ x.toInt ∧ x.toInt ≤ av_hi X ∧ ai_tag lv h (av_t X) (av_a X) (av_b X) x) (hY : av_lo Y ≤ y.toInt ∧ y.toInt ≤ av_hi Y) : gv lv h (ai_mul X Y) (.int (x * y)) := by
  refine gv_c (fun hq => ?_)
  obtain ⟨a1, a2, a3⟩ := hX
  obtain ⟨b1, b2⟩ := hY
  obtain ⟨c1, c2⟩ := mul_corner a1 a2 b1 b2
  simp only [ai_mulb, List.foldl] at hq ⊢
  generalize av_lo X * av_lo Y = k1 at *
  generalize av_lo X * av_hi Y = k2 at *
  generalize av_hi X * av_lo Y = k3 at *
  generalize av_hi X * av_hi Y = k4 at *
  generalize hz : x.toInt * y.toInt = z at *
  have e : (x * y).toInt = z := by
    rw [← hz]
    exact i32_mul (by omega) (by omega)
  refine ⟨by omega, by omega, ?_⟩
  unfold ai_mult
  split
  · rename_i h9
    rw [h9.2.2] at a3
    refine ⟨x, a3, ?_⟩
    rw [e, ← hz]
    have h5 : x.toInt * 1 < x.toInt * y.toInt := Int.mul_lt_mul_of_pos_left (by omega) (by omega)
    omega
  · trivial
