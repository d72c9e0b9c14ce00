def us6 (x : Int64) (y : Int32) : Int64 := (x.toUInt64 >>> (y.toInt64.toUInt64 &&& Int64.toUInt64 63)).toInt64
def bc1 (x : Int64) : Int64 := x - (us6 x 1 &&& 6148914691236517205)
def bc2 (x : Int64) : Int64 := (x &&& 3689348814741910323) + (us6 x 2 &&& 3689348814741910323)
def bc3 (x : Int64) : Int64 := (x + us6 x 4) &&& 1085102592571150095
def bc4 (x : Int64) : Int64 := x + us6 x 8
def bc5 (x : Int64) : Int64 := x + us6 x 16
def bc6 (x : Int64) : Int64 := x + us6 x 32
def bcE (x : Int64) : Int32 := (bc6 (bc5 (bc4 (bc3 (bc2 (bc1 x)))))).toInt32 &&& 127
theorem bc_ev {x : Int64} {h : PmH} : Ev pmT 43 [.long x] h (some (.int (bcE x))) h := by
  refine Ev.of (es := cd_43) (ml := 2) (lv := [some (.long x), none]) rfl rfl rfl ?_
  refine g_n 8 (j' := 8) (lv' := [some (.long (bc1 x)), none]) (st' := []) (h' := h) rfl ?_
  unfold bcE
  generalize bc1 x = x
  refine g_n 10 (j' := 18) (lv' := [some (.long (bc2 x)), none]) (st' := []) (h' := h) rfl ?_
  generalize bc2 x = x
  refine g_n 8 (j' := 26) (lv' := [some (.long (bc3 x)), none]) (st' := []) (h' := h) rfl ?_
  generalize bc3 x = x
  refine g_n 6 (j' := 32) (lv' := [some (.long (bc4 x)), none]) (st' := []) (h' := h) rfl ?_
  generalize bc4 x = x
  refine g_n 6 (j' := 38) (lv' := [some (.long (bc5 x)), none]) (st' := []) (h' := h) rfl ?_
  generalize bc5 x = x
  refine g_n 6 (j' := 44) (lv' := [some (.long (bc6 x)), none]) (st' := []) (h' := h) rfl ?_
  generalize bc6 x = x
  refine g_n 4 (j' := 48) (lv' := [some (.long x), none]) (st' := [.int (x.toInt32 &&& 127)]) (h' := h) rfl ?_
  exact g_ret rfl
def cntb (K : Int64) : Nat → Nat
  | 0 => 0
  | m + 1 => cntb K m + (if bl K m = true then 1 else 0)
def popc (K : Int64) : Nat := cntb K 64
theorem cntb_le (K : Int64) : ∀ m, cntb K m ≤ m
  | 0 => Nat.le_refl 0
  | m + 1 => by
    have := cntb_le K m
    rw [cntb]
    split <;> omega
theorem popc_le (K : Int64) : popc K ≤ 64 := cntb_le K 64
theorem bc_ok (K : Int64) : bcE K = nI (popc K) := sorry
