/-! THE PURE MACHINE: code is a list of instructions with their operands resolved; a heap is a list of shapes (an array's type and length, or 10 + a class and its number of fields) and three functions (ints, longs, references by place and slot). A reference is a place; retAddr k stands for a thing that was there before (a text, a constant array, the script). -/
abbrev PmI : Type := Nat × Nat × Instr × Nat × Nat × Nat × Nat × Int × List Nat
abbrev PmL : Type := List (Option Value)
abbrev PmH : Type := List (Nat × Nat) × (Nat → Nat → Int32) × (Nat → Nat → Int64) × (Nat → Nat → Option Nat)
abbrev PmM : Type := MethodName × ByteArray × Nat × Option FieldType × Nat × Nat × Nat × Nat × (Nat × Nat × Nat × Nat) × List PmI
abbrev PmS : Type := Nat × PmL × List Value × PmH
abbrev PmR : Type := PmS ⊕ (Option Value ⊕ (Nat × List Value × List Value))
abbrev PmX : Type := Option (Nat × (Nat → Int32))
abbrev pi_pc (e : PmI) : Nat := e.1
abbrev pi_n (e : PmI) : Nat := e.2.1
abbrev pi_i (e : PmI) : Instr := e.2.2.1
abbrev pi_a (e : PmI) : Nat := e.2.2.2.1
abbrev pi_c (e : PmI) : Nat := e.2.2.2.2.1
abbrev pi_d (e : PmI) : Nat := e.2.2.2.2.2.1
abbrev pi_q (e : PmI) : Nat := e.2.2.2.2.2.2.1
abbrev pi_v (e : PmI) : Int := e.2.2.2.2.2.2.2.1
abbrev pi_t (e : PmI) : List Nat := e.2.2.2.2.2.2.2.2
abbrev mm_nm (M : PmM) : MethodName := M.1
abbrev mm_by (M : PmM) : ByteArray := M.2.1
abbrev mm_ml (M : PmM) : Nat := M.2.2.1
abbrev mm_rt (M : PmM) : Option FieldType := M.2.2.2.1
abbrev mm_fr (M : PmM) : Nat := M.2.2.2.2.1
abbrev mm_lo (M : PmM) : Nat := M.2.2.2.2.2.1
abbrev mm_kd (M : PmM) : Nat := M.2.2.2.2.2.2.1
abbrev mm_na (M : PmM) : Nat := M.2.2.2.2.2.2.2.1
abbrev mm_pl (M : PmM) : Nat × Nat × Nat × Nat := M.2.2.2.2.2.2.2.2.1
abbrev mm_cd (M : PmM) : List PmI := M.2.2.2.2.2.2.2.2.2
abbrev ph_s (h : PmH) : List (Nat × Nat) := h.1
abbrev ph_i (h : PmH) : Nat → Nat → Int32 := h.2.1
abbrev ph_l (h : PmH) : Nat → Nat → Int64 := h.2.2.1
abbrev ph_r (h : PmH) : Nat → Nat → Option Nat := h.2.2.2
def pm_u2 {α : Type} (f : Nat → Nat → α) (p s : Nat) (v : α) : Nat → Nat → α := fun p' => if p' = p then (fun s' => if s' = s then v else f p s') else f p'
def pm_uf {α : Type} (f : Nat → Nat → α) (p : Nat) (g : Nat → α) : Nat → Nat → α := fun p' => if p' = p then g else f p'
def pm_rv : Option Nat → Value
  | none => .null
  | some q => .ref q
/-- a field's value by its kind: 1 a long, 2 a reference, else an int -/
def pm_fv (h : PmH) (k p s : Nat) : Value := match k with
  | 1 => .long (ph_l h p s)
  | 2 => pm_rv (ph_r h p s)
  | _ => .int (ph_i h p s)
def pm_c2 : Option (Option Value) → Bool
  | some (some (.long _)) => true
  | some (some (.double _)) => true
  | _ => false
def pm_clr (lv : PmL) : Nat → PmL
  | 0 => lv
  | k + 1 => if pm_c2 lv[k]? then lv.set k none else lv
def pm_st1 (lv : PmL) (i : Nat) (v : Value) : PmL := (pm_clr lv i).set i (some v)
def pm_st2 (lv : PmL) (i : Nat) (v : Value) : PmL := ((pm_clr lv i).set i (some v)).set (i + 1) none
def pm_nx (j : Nat) (lv : PmL) (st : List Value) (h : PmH) : Option PmR := some (.inl (j, lv, st, h))
def pm_ii (f : Int32 → Int32 → Int32) (j : Nat) (lv : PmL) (st : List Value) (h : PmH) : Option PmR := match st with
  | .int y :: .int x :: r => pm_nx (j + 1) lv (.int (f x y) :: r) h
  | _ => none
def pm_iz (f : Int32 → Int32 → Int32) (j : Nat) (lv : PmL) (st : List Value) (h : PmH) : Option PmR := match st with
  | .int y :: .int x :: r => if y = 0 then none else pm_nx (j + 1) lv (.int (f x y) :: r) h
  | _ => none
def pm_i1 (f : Int32 → Value) (j : Nat) (lv : PmL) (st : List Value) (h : PmH) : Option PmR := match st with
  | .int x :: r => pm_nx (j + 1) lv (f x :: r) h
  | _ => none
def pm_l1 (f : Int64 → Value) (j : Nat) (lv : PmL) (st : List Value) (h : PmH) : Option PmR := match st with
  | .long x :: r => pm_nx (j + 1) lv (f x :: r) h
  | _ => none
def pm_ll (f : Int64 → Int64 → Value) (j : Nat) (lv : PmL) (st : List Value) (h : PmH) : Option PmR := match st with
  | .long y :: .long x :: r => pm_nx (j + 1) lv (f x y :: r) h
  | _ => none
def pm_lz (f : Int64 → Int64 → Value) (j : Nat) (lv : PmL) (st : List Value) (h : PmH) : Option PmR := match st with
  | .long y :: .long x :: r => if y = 0 then none else pm_nx (j + 1) lv (f x y :: r) h
  | _ => none
def pm_li (f : Int64 → Int32 → Int64) (j : Nat) (lv : PmL) (st : List Value) (h : PmH) : Option PmR := match st with
  | .int y :: .long x :: r => pm_nx (j + 1) lv (.long (f x y) :: r) h
  | _ => none
def pm_ild (i j : Nat) (lv : PmL) (st : List Value) (h : PmH) : Option PmR := match lv[i]? with
  | some (some (.int x)) => pm_nx (j + 1) lv (.int x :: st) h
  | _ => none
def pm_lld (i j : Nat) (lv : PmL) (st : List Value) (h : PmH) : Option PmR := match lv[i]? with
  | some (some (.long x)) => pm_nx (j + 1) lv (.long x :: st) h
  | _ => none
def pm_ald (i j : Nat) (lv : PmL) (st : List Value) (h : PmH) : Option PmR := match lv[i]? with
  | some (some (.ref p)) => pm_nx (j + 1) lv (.ref p :: st) h
  | some (some .null) => pm_nx (j + 1) lv (.null :: st) h
  | some (some (.retAddr k)) => pm_nx (j + 1) lv (.retAddr k :: st) h
  | _ => none
def pm_ist (i j : Nat) (lv : PmL) (st : List Value) (h : PmH) : Option PmR := match st with
  | .int x :: r => pm_nx (j + 1) (pm_st1 lv i (.int x)) r h
  | _ => none
def pm_lst (i j : Nat) (lv : PmL) (st : List Value) (h : PmH) : Option PmR := match st with
  | .long x :: r => pm_nx (j + 1) (pm_st2 lv i (.long x)) r h
  | _ => none
def pm_ast (i j : Nat) (lv : PmL) (st : List Value) (h : PmH) : Option PmR := match st with
  | .ref p :: r => pm_nx (j + 1) (pm_st1 lv i (.ref p)) r h
  | _ => none
def pm_br (c : Jvm.ClassFile.Cond) (x y : Int32) (t f : Option PmR) : Option PmR := match c with
  | .eq => if x = y then t else f
  | .ne => if x = y then f else t
  | .lt => if x < y then t else f
  | .ge => if y ≤ x then t else f
  | .gt => if y < x then t else f
  | .le => if x ≤ y then t else f
/-- how long the things are that were there before: 16 on the texts' bytes, 40 the masks, 41 the script -/
def pm_xl (xs : PmX) (k : Nat) : Option Nat := if k = 41 then xs.map (fun q => q.1) else if 16 ≤ k ∧ k < 22 then some (pm_JL.getD (k - 16) 0) else none
def pm_get (e : PmI) (j : Nat) (lv : PmL) (st : List Value) (h : PmH) : Option PmR := match st with
  | .ref p :: r => match (ph_s h)[p]? with
    | some (t, n) => if t = 10 + pi_a e ∧ pi_c e < n then pm_nx (j + 1) lv (pm_fv h (pi_d e) p (pi_c e) :: r) h else none
    | none => none
  | .retAddr k :: r => if pi_a e = 99 ∧ k < 6 then (if pi_c e = 0 then pm_nx (j + 1) lv (.retAddr (16 + k) :: r) h else pm_nx (j + 1) lv (.int 0 :: r) h) else none
  | _ => none
def pm_put (e : PmI) (j : Nat) (lv : PmL) (st : List Value) (h : PmH) : Option PmR := match st with
  | .int x :: .ref p :: r => match (ph_s h)[p]? with
    | some (t, n) => if t = 10 + pi_a e ∧ pi_c e < n ∧ (pi_d e = 0 ∨ (pi_d e = 3 ∧ (x = 0 ∨ x = 1))) then pm_nx (j + 1) lv r (ph_s h, pm_u2 (ph_i h) p (pi_c e) x, ph_l h, ph_r h) else none
    | none => none
  | .long x :: .ref p :: r => match (ph_s h)[p]? with
    | some (t, n) => if t = 10 + pi_a e ∧ pi_c e < n ∧ pi_d e = 1 then pm_nx (j + 1) lv r (ph_s h, ph_i h, pm_u2 (ph_l h) p (pi_c e) x, ph_r h) else none
    | none => none
  | .ref q :: .ref p :: r => match (ph_s h)[p]? with
    | some (t, n) => if t = 10 + pi_a e ∧ pi_c e < n ∧ pi_d e = 2 then pm_nx (j + 1) lv r (ph_s h, ph_i h, ph_l h, pm_u2 (ph_r h) p (pi_c e) (some q)) else none
    | none => none
  | _ => none
def pm_iald (xs : PmX) (j : Nat) (lv : PmL) (st : List Value) (h : PmH) : Option PmR := match st with
  | .int i :: .ref p :: r => match (ph_s h)[p]? with
    | some (0, n) => if i < 0 ∨ n ≤ i.toNatClampNeg then none else pm_nx (j + 1) lv (.int (ph_i h p i.toNatClampNeg) :: r) h
    | _ => none
  | .int i :: .retAddr k :: r => if k = 41 then (match xs with
    | some (n, f) => if i < 0 ∨ n ≤ i.toNatClampNeg then none else pm_nx (j + 1) lv (.int (f i.toNatClampNeg) :: r) h
    | none => none) else none
  | _ => none
def pm_bald (j : Nat) (lv : PmL) (st : List Value) (h : PmH) : Option PmR := match st with
  | .int i :: .ref p :: r => match (ph_s h)[p]? with
    | some (1, n) => if i < 0 ∨ n ≤ i.toNatClampNeg then none else pm_nx (j + 1) lv (.int (ph_i h p i.toNatClampNeg) :: r) h
    | some (2, n) => if i < 0 ∨ n ≤ i.toNatClampNeg then none else pm_nx (j + 1) lv (.int (ph_i h p i.toNatClampNeg) :: r) h
    | _ => none
  | .int i :: .retAddr k :: r => if 16 ≤ k ∧ k < 22 then (if i < 0 ∨ pm_JL.getD (k - 16) 0 ≤ i.toNatClampNeg then none else pm_nx (j + 1) lv (.int ((pm_JB.getD (k - 16) []).getD i.toNatClampNeg 0) :: r) h) else none
  | _ => none
def pm_lald (j : Nat) (lv : PmL) (st : List Value) (h : PmH) : Option PmR := match st with
  | .int i :: .ref p :: r => match (ph_s h)[p]? with
    | some (3, n) => if i < 0 ∨ n ≤ i.toNatClampNeg then none else pm_nx (j + 1) lv (.long (ph_l h p i.toNatClampNeg) :: r) h
    | _ => none
  | .int i :: .retAddr k :: r => if k = 40 then (if i < 0 ∨ 6 ≤ i.toNatClampNeg then none else pm_nx (j + 1) lv (.long (pm_LW.getD i.toNatClampNeg 0) :: r) h) else none
  | _ => none
def pm_aald (j : Nat) (lv : PmL) (st : List Value) (h : PmH) : Option PmR := match st with
  | .int i :: .ref p :: r => match (ph_s h)[p]? with
    | some (4, n) => if i < 0 ∨ n ≤ i.toNatClampNeg then none else pm_nx (j + 1) lv (pm_rv (ph_r h p i.toNatClampNeg) :: r) h
    | _ => none
  | _ => none
def pm_iast (j : Nat) (lv : PmL) (st : List Value) (h : PmH) : Option PmR := match st with
  | .int x :: .int i :: .ref p :: r => match (ph_s h)[p]? with
    | some (0, n) => if i < 0 ∨ n ≤ i.toNatClampNeg then none else pm_nx (j + 1) lv r (ph_s h, pm_u2 (ph_i h) p i.toNatClampNeg x, ph_l h, ph_r h)
    | _ => none
  | _ => none
def pm_bast (j : Nat) (lv : PmL) (st : List Value) (h : PmH) : Option PmR := match st with
  | .int x :: .int i :: .ref p :: r => match (ph_s h)[p]? with
    | some (1, n) => if i < 0 ∨ n ≤ i.toNatClampNeg then none else pm_nx (j + 1) lv r (ph_s h, pm_u2 (ph_i h) p i.toNatClampNeg (vp_nar .boolean x), ph_l h, ph_r h)
    | some (2, n) => if i < 0 ∨ n ≤ i.toNatClampNeg then none else pm_nx (j + 1) lv r (ph_s h, pm_u2 (ph_i h) p i.toNatClampNeg (vp_nar .byte x), ph_l h, ph_r h)
    | _ => none
  | _ => none
def pm_last (j : Nat) (lv : PmL) (st : List Value) (h : PmH) : Option PmR := match st with
  | .long x :: .int i :: .ref p :: r => match (ph_s h)[p]? with
    | some (3, n) => if i < 0 ∨ n ≤ i.toNatClampNeg then none else pm_nx (j + 1) lv r (ph_s h, ph_i h, pm_u2 (ph_l h) p i.toNatClampNeg x, ph_r h)
    | _ => none
  | _ => none
def pm_aast (j : Nat) (lv : PmL) (st : List Value) (h : PmH) : Option PmR := match st with
  | .ref q :: .int i :: .ref p :: r => match (ph_s h)[p]?, (ph_s h)[q]? with
    | some (4, n), some (16, _) => if i < 0 ∨ n ≤ i.toNatClampNeg then none else pm_nx (j + 1) lv r (ph_s h, ph_i h, ph_l h, pm_u2 (ph_r h) p i.toNatClampNeg (some q))
    | _, _ => none
  | _ => none
def pm_len (xs : PmX) (j : Nat) (lv : PmL) (st : List Value) (h : PmH) : Option PmR := match st with
  | .ref p :: r => match (ph_s h)[p]? with
    | some (t, n) => if t < 5 then pm_nx (j + 1) lv (.int (Int32.ofNat n) :: r) h else none
    | none => none
  | .retAddr k :: r => match pm_xl xs k with
    | some n => pm_nx (j + 1) lv (.int (Int32.ofNat n) :: r) h
    | none => none
  | _ => none
def pm_new (e : PmI) (j : Nat) (lv : PmL) (st : List Value) (h : PmH) : Option PmR :=
  pm_nx (j + 1) lv (.ref (ph_s h).length :: st) (ph_s h ++ [(10 + pi_a e, pi_c e)], pm_uf (ph_i h) (ph_s h).length (fun _ => 0), pm_uf (ph_l h) (ph_s h).length (fun _ => 0), pm_uf (ph_r h) (ph_s h).length (fun _ => none))
/-- an array of type d (0 ints, 1 booleans, 2 bytes, 3 longs, 4 states) -/
def pm_nwa (d j : Nat) (lv : PmL) (st : List Value) (h : PmH) : Option PmR := match st with
  | .int n :: r => if n < 0 ∨ 10000 < n.toNatClampNeg then none else pm_nx (j + 1) lv (.ref (ph_s h).length :: r) (ph_s h ++ [(d, n.toNatClampNeg)], pm_uf (ph_i h) (ph_s h).length (fun _ => 0), pm_uf (ph_l h) (ph_s h).length (fun _ => 0), pm_uf (ph_r h) (ph_s h).length (fun _ => none))
  | _ => none
def pm_cpy (j : Nat) (lv : PmL) (st : List Value) (h : PmH) : Option PmR := match st with
  | .int n :: .int dp :: .ref q :: .int sp :: .ref p :: r => match (ph_s h)[p]?, (ph_s h)[q]? with
    | some (0, n0), some (0, n1) => if sp < 0 ∨ dp < 0 ∨ n < 0 ∨ n0 < sp.toNatClampNeg + n.toNatClampNeg ∨ n1 < dp.toNatClampNeg + n.toNatClampNeg ∨ 8 < (r.map fun v => v.category).sum then none else pm_nx (j + 1) lv r (ph_s h, pm_uf (ph_i h) q (va_cpy (ph_i h p) (ph_i h q) sp.toNatClampNeg dp.toNatClampNeg n.toNatClampNeg), ph_l h, ph_r h)
    | _, _ => none
  | _ => none
def pm_sl (as : List Value) : PmL := as.flatMap fun v => if v.category = 2 then [some v, none] else [some v]
/-- a call: the receiver of a virtual one (kind 1) is an object of class pi_d, or a text where pi_d is 99 -/
def pm_call (kd : Nat) (e : PmI) (st : List Value) (h : PmH) : Option PmR :=
  if st.length < pi_c e ∨ 8 < ((st.drop (pi_c e)).map fun v => v.category).sum ∨ (pi_t e).getD 0 0 < (pm_sl (st.take (pi_c e)).reverse).length then none else
  match kd with
  | 0 => some (.inr (.inr (pi_a e, (st.take (pi_c e)).reverse, st.drop (pi_c e))))
  | 1 => match (st.take (pi_c e)).reverse with
    | .ref p :: as => match (ph_s h)[p]? with
      | some (t, _) => if t = 10 + pi_d e then some (.inr (.inr (pi_a e, .ref p :: as, st.drop (pi_c e)))) else none
      | none => none
    | .retAddr k :: as => if pi_d e = 99 ∧ k < 6 then some (.inr (.inr (pi_a e, .retAddr k :: as, st.drop (pi_c e)))) else none
    | _ => none
  | _ => match (st.take (pi_c e)).reverse with
    | .ref p :: as => some (.inr (.inr (pi_a e, .ref p :: as, st.drop (pi_c e))))
    | _ => none
def pm_obj (j : Nat) (lv : PmL) (st : List Value) (h : PmH) : Option PmR := match st with
  | .ref _ :: r => if 8 < (r.map fun v => v.category).sum then none else pm_nx (j + 1) lv r h
  | _ => none
def pm_ret (d : Nat) (st : List Value) : Option PmR := match st with
  | [.int v] => match d with
    | 0 => some (.inr (.inl (some (.int v))))
    | 1 => if v = 0 ∨ v = 1 then some (.inr (.inl (some (.int v)))) else none
    | 2 => if vp_nar .byte v = v then some (.inr (.inl (some (.int v)))) else none
    | _ => if vp_nar .char v = v then some (.inr (.inl (some (.int v)))) else none
  | _ => none
def pm_lret (st : List Value) : Option PmR := match st with
  | [.long v] => some (.inr (.inl (some (.long v))))
  | _ => none
def pm_vret (st : List Value) : Option PmR := match st with
  | [] => some (.inr (.inl none))
  | _ => none
def pm_dup (j : Nat) (lv : PmL) (st : List Value) (h : PmH) : Option PmR := match st with
  | .int x :: r => pm_nx (j + 1) lv (.int x :: .int x :: r) h
  | .ref x :: r => pm_nx (j + 1) lv (.ref x :: .ref x :: r) h
  | _ => none
def pm_dup2 (j : Nat) (lv : PmL) (st : List Value) (h : PmH) : Option PmR := match st with
  | .int x :: .ref y :: r => pm_nx (j + 1) lv (.int x :: .ref y :: .int x :: .ref y :: r) h
  | _ => none
def pm_pop (j : Nat) (lv : PmL) (st : List Value) (h : PmH) : Option PmR := match st with
  | .int _ :: r => pm_nx (j + 1) lv r h
  | _ => none
def pm_pop2 (j : Nat) (lv : PmL) (st : List Value) (h : PmH) : Option PmR := match st with
  | .long _ :: r => pm_nx (j + 1) lv r h
  | _ => none
def pm_inc (i : Nat) (n : Int) (j : Nat) (lv : PmL) (st : List Value) (h : PmH) : Option PmR := match lv[i]? with
  | some (some (.int x)) => pm_nx (j + 1) (pm_st1 lv i (.int (x + Int32.ofInt n))) st h
  | _ => none
def pm_tsw (lo hi : Int) (e : PmI) (lv : PmL) (st : List Value) (h : PmH) : Option PmR := match st with
  | .int x :: r => if x.toInt < lo ∨ hi < x.toInt then pm_nx (pi_a e) lv r h else match (pi_t e)[(x.toInt - lo).toNat]? with
    | some t => pm_nx t lv r h
    | none => none
  | _ => none
def pm_lsw (ps : List (Int × Int)) (e : PmI) (lv : PmL) (st : List Value) (h : PmH) : Option PmR := match st with
  | .int x :: r => match (ps.zip (pi_t e)).find? (fun q => q.1.1 == x.toInt) with
    | some q => pm_nx q.2 lv r h
    | none => pm_nx (pi_a e) lv r h
  | _ => none
def pm_if (c : Jvm.ClassFile.Cond) (a j : Nat) (lv : PmL) (st : List Value) (h : PmH) : Option PmR := match st with
  | .int x :: r => pm_br c x 0 (pm_nx a lv r h) (pm_nx (j + 1) lv r h)
  | _ => none
def pm_ic (c : Jvm.ClassFile.Cond) (a j : Nat) (lv : PmL) (st : List Value) (h : PmH) : Option PmR := match st with
  | .int y :: .int x :: r => pm_br c x y (pm_nx a lv r h) (pm_nx (j + 1) lv r h)
  | _ => none
def pm_gs (e : PmI) (j : Nat) (lv : PmL) (st : List Value) (h : PmH) : Option PmR := match pi_d e with
  | 0 => pm_nx (j + 1) lv (.int (Int32.ofInt (pi_v e)) :: st) h
  | _ => pm_nx (j + 1) lv (.retAddr (pi_a e) :: st) h
/-- one instruction -/
def pm_x (xs : PmX) (e : PmI) (j : Nat) (lv : PmL) (st : List Value) (h : PmH) : Option PmR := match pi_i e with
  | .iconst n => pm_nx (j + 1) lv (.int (Int32.ofInt n) :: st) h
  | .bipush n => pm_nx (j + 1) lv (.int (Int8.ofInt n).toInt32 :: st) h
  | .sipush n => pm_nx (j + 1) lv (.int (Int16.ofInt n).toInt32 :: st) h
  | .lconst n => pm_nx (j + 1) lv (.long (Int64.ofNat n) :: st) h
  | .ldc _ => (match pi_d e with
    | 0 => pm_nx (j + 1) lv (.int (Int32.ofInt (pi_v e)) :: st) h
    | _ => pm_nx (j + 1) lv (.retAddr (pi_a e) :: st) h)
  | .ldc_w _ => pm_nx (j + 1) lv (.int (Int32.ofInt (pi_v e)) :: st) h
  | .ldc2_w _ => pm_nx (j + 1) lv (.long (Int64.ofInt (pi_v e)) :: st) h
  | .iload i => pm_ild i j lv st h
  | .iload_n i => pm_ild i j lv st h
  | .lload i => pm_lld i j lv st h
  | .lload_n i => pm_lld i j lv st h
  | .aload i => pm_ald i j lv st h
  | .aload_n i => pm_ald i j lv st h
  | .istore i => pm_ist i j lv st h
  | .istore_n i => pm_ist i j lv st h
  | .lstore i => pm_lst i j lv st h
  | .lstore_n i => pm_lst i j lv st h
  | .astore_n i => pm_ast i j lv st h
  | .iinc i n => pm_inc i n j lv st h
  | .iadd => pm_ii (fun x y => x + y) j lv st h
  | .isub => pm_ii (fun x y => x - y) j lv st h
  | .imul => pm_ii (fun x y => x * y) j lv st h
  | .idiv => pm_iz (fun x y => x / y) j lv st h
  | .irem => pm_iz (fun x y => x - x / y * y) j lv st h
  | .ineg => pm_i1 (fun x => .int (-x)) j lv st h
  | .ishl => pm_ii (fun x y => x <<< (y &&& 31)) j lv st h
  | .ishr => pm_ii (fun x y => x >>> (y &&& 31)) j lv st h
  | .iushr => pm_ii (fun x y => (x.toUInt32 >>> (y.toUInt32 &&& Int32.toUInt32 31)).toInt32) j lv st h
  | .iand => pm_ii (fun x y => x &&& y) j lv st h
  | .ior => pm_ii (fun x y => x ||| y) j lv st h
  | .ixor => pm_ii (fun x y => x ^^^ y) j lv st h
  | .ladd => pm_ll (fun x y => .long (x + y)) j lv st h
  | .lsub => pm_ll (fun x y => .long (x - y)) j lv st h
  | .lmul => pm_ll (fun x y => .long (x * y)) j lv st h
  | .ldiv => pm_lz (fun x y => .long (x / y)) j lv st h
  | .lrem => pm_lz (fun x y => .long (x - x / y * y)) j lv st h
  | .lneg => pm_l1 (fun x => .long (-x)) j lv st h
  | .land => pm_ll (fun x y => .long (x &&& y)) j lv st h
  | .lor => pm_ll (fun x y => .long (x ||| y)) j lv st h
  | .lxor => pm_ll (fun x y => .long (x ^^^ y)) j lv st h
  | .lcmp => pm_ll (fun x y => .int (lg_cmp x y)) j lv st h
  | .lshl => pm_li (fun x y => x <<< (y.toInt64 &&& 63)) j lv st h
  | .lshr => pm_li (fun x y => x >>> (y.toInt64 &&& 63)) j lv st h
  | .lushr => pm_li (fun x y => (x.toUInt64 >>> (y.toInt64.toUInt64 &&& Int64.toUInt64 63)).toInt64) j lv st h
  | .i2l => pm_i1 (fun x => .long x.toInt64) j lv st h
  | .l2i => pm_l1 (fun x => .int x.toInt32) j lv st h
  | .i2b => pm_i1 (fun x => .int x.toInt8.toInt32) j lv st h
  | .i2c => pm_i1 (fun x => .int (x.toUInt32 % 65536).toInt32) j lv st h
  | .dup => pm_dup j lv st h
  | .dup2 => pm_dup2 j lv st h
  | .pop => pm_pop j lv st h
  | .pop2 => pm_pop2 j lv st h
  | .goto _ => pm_nx (pi_a e) lv st h
  | .ifCond c _ => pm_if c (pi_a e) j lv st h
  | .if_icmp c _ => pm_ic c (pi_a e) j lv st h
  | .tableswitch _ lo hi _ => pm_tsw lo hi e lv st h
  | .lookupswitch _ ps => pm_lsw ps.toList e lv st h
  | .getstatic _ => pm_gs e j lv st h
  | .getfield _ => pm_get e j lv st h
  | .putfield _ => pm_put e j lv st h
  | .iaload => pm_iald xs j lv st h
  | .baload => pm_bald j lv st h
  | .laload => pm_lald j lv st h
  | .aaload => pm_aald j lv st h
  | .iastore => pm_iast j lv st h
  | .bastore => pm_bast j lv st h
  | .lastore => pm_last j lv st h
  | .aastore => pm_aast j lv st h
  | .arraylength => pm_len xs j lv st h
  | .new _ => pm_new e j lv st h
  | .newarray _ => pm_nwa (pi_d e) j lv st h
  | .anewarray _ => pm_nwa 4 j lv st h
  | .invokestatic _ => (match pi_d e with
    | 7 => pm_cpy j lv st h
    | _ => pm_call 0 e st h)
  | .invokevirtual _ => pm_call 1 e st h
  | .invokespecial _ => (match pi_d e with
    | 6 => pm_obj j lv st h
    | _ => pm_call 2 e st h)
  | .ireturn => pm_ret (pi_d e) st
  | .lreturn => pm_lret st
  | .return_ => pm_vret st
  | _ => none
def pm_cd (T : List PmM) (y : Nat) : List PmI := match T[y]? with
  | some M => mm_cd M
  | none => []
def pm_ml (T : List PmM) (y : Nat) : Nat := match T[y]? with
  | some M => mm_ml M
  | none => 0
def pm_en (n : Nat) (as : List Value) : PmL := pm_sl as ++ List.replicate (n - (pm_sl as).length) none
def pm_run (T : List PmM) : PmX → Nat → List PmI → Nat → PmL → List Value → PmH → Option (Option Value × PmH)
  | _, 0, _, _, _, _, _ => none
  | xs, f + 1, es, j, lv, st, h => match es[j]? with
    | none => none
    | some e => match pm_x xs e j lv st h with
      | none => none
      | some (.inl (j', lv', st', h')) => pm_run T xs f es j' lv' st' h'
      | some (.inr (.inl v)) => some (v, h)
      | some (.inr (.inr (y, as, st'))) => match pm_run T none f (pm_cd T y) 0 (pm_en (pm_ml T y) as) [] h with
        | none => none
        | some (v, h') => pm_run T xs f es (j + 1) lv (v.toList ++ st') h'
/-- it runs to an end -/
def Go (T : List PmM) (xs : PmX) (es : List PmI) (j : Nat) (lv : PmL) (st : List Value) (h : PmH) (r : Option Value × PmH) : Prop := ∃ f, pm_run T xs f es j lv st h = some r
/-- a method's call comes back -/
def Ev (T : List PmM) (y : Nat) (as : List Value) (h : PmH) (v : Option Value) (h' : PmH) : Prop := Go T none (pm_cd T y) 0 (pm_en (pm_ml T y) as) [] h (v, h')
theorem pm_mono {T : List PmM} : ∀ (f : Nat) {xs : PmX} {es : List PmI} {j : Nat} {lv : PmL} {st : List Value} {h : PmH} {r : Option Value × PmH}, pm_run T xs f es j lv st h = some r → pm_run T xs (f + 1) es j lv st h = some r := by
  intro f
  induction f with
  | zero => intro xs es j lv st h r hr; simp [pm_run] at hr
  | succ f ih =>
    intro xs es j lv st h r hr
    rw [pm_run] at hr
    rw [pm_run]
    cases he : es[j]? with
    | none => rw [he] at hr; simp at hr
    | some e =>
      rw [he] at hr
      simp only at hr ⊢
      cases hx : pm_x xs e j lv st h with
      | none => rw [hx] at hr; simp at hr
      | some z =>
        rw [hx] at hr
        rcases z with ⟨j', lv', st', h'⟩ | v | ⟨y, as, st'⟩
        · simp only at hr ⊢
          exact ih hr
        · simp only at hr ⊢
          exact hr
        · simp only at hr ⊢
          cases hc : pm_run T none f (pm_cd T y) 0 (pm_en (pm_ml T y) as) [] h with
          | none => rw [hc] at hr; simp at hr
          | some w =>
            rw [hc] at hr
            rw [ih hc]
            exact ih hr
theorem pm_more {T : List PmM} {xs : PmX} {f : Nat} (g : Nat) {es : List PmI} {j : Nat} {lv : PmL} {st : List Value} {h : PmH} {r : Option Value × PmH} (hr : pm_run T xs f es j lv st h = some r) : pm_run T xs (f + g) es j lv st h = some r := by
  induction g with
  | zero => exact hr
  | succ g ih => exact pm_mono (f + g) ih
section PMGO
variable {T : List PmM} {xs : PmX} {es : List PmI} {j : Nat} {lv : PmL} {st : List Value} {h : PmH} {r : Option Value × PmH}
theorem Go.step {e : PmI} {j' : Nat} {lv' : PmL} {st' : List Value} {h' : PmH} (he : es[j]? = some e) (hx : pm_x xs e j lv st h = some (.inl (j', lv', st', h'))) (k : Go T xs es j' lv' st' h' r) : Go T xs es j lv st h r := by
  obtain ⟨f, hf⟩ := k
  exact ⟨f + 1, by rw [pm_run, he]; simp only; rw [hx]; exact hf⟩
theorem Go.ret {e : PmI} {v : Option Value} (he : es[j]? = some e) (hx : pm_x xs e j lv st h = some (.inr (.inl v))) : Go T xs es j lv st h (v, h) :=
  ⟨1, by rw [pm_run, he]; simp only; rw [hx]⟩
theorem Go.call {e : PmI} {y : Nat} {as st' : List Value} {v : Option Value} {h' : PmH} (he : es[j]? = some e) (hx : pm_x xs e j lv st h = some (.inr (.inr (y, as, st')))) (hc : Ev T y as h v h') (k : Go T xs es (j + 1) lv (v.toList ++ st') h' r) : Go T xs es j lv st h r := by
  obtain ⟨f, hf⟩ := hc
  obtain ⟨g, hg⟩ := k
  refine ⟨f + g + 1, ?_⟩
  rw [pm_run, he]
  simp only
  rw [hx]
  simp only
  rw [pm_more g hf]
  simp only
  rw [Nat.add_comm f g]
  exact pm_more f hg
end PMGO
/-- several local instructions at once -/
def pm_ns (xs : PmX) (es : List PmI) : Nat → PmS → Option PmS
  | 0, z => some z
  | n + 1, (j, lv, st, h) => match es[j]? with
    | none => none
    | some e => match pm_x xs e j lv st h with
      | some (.inl z) => pm_ns xs es n z
      | _ => none
theorem Go.ns {T : List PmM} {xs : PmX} {es : List PmI} {r : Option Value × PmH} : ∀ (n : Nat) {z z' : PmS}, pm_ns xs es n z = some z' → Go T xs es z'.1 z'.2.1 z'.2.2.1 z'.2.2.2 r → Go T xs es z.1 z.2.1 z.2.2.1 z.2.2.2 r := by
  intro n
  induction n with
  | zero =>
    intro z z' hz k
    rw [pm_ns] at hz
    cases hz
    exact k
  | succ n ih =>
    intro z z' hz k
    obtain ⟨j, lv, st, h⟩ := z
    rw [pm_ns] at hz
    cases he : es[j]? with
    | none => rw [he] at hz; simp at hz
    | some e =>
      rw [he] at hz
      simp only at hz
      cases hx : pm_x xs e j lv st h with
      | none => rw [hx] at hz; simp at hz
      | some w =>
        rw [hx] at hz
        rcases w with ⟨j', lv', st', h'⟩ | v | ⟨y, as, st'⟩
        · simp only at hz
          exact Go.step he hx (ih hz k)
        · simp at hz
        · simp at hz
