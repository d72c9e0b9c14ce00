def pm_nh (h : PmH) (t n : Nat) : PmH := (ph_s h ++ [(t, n)], pm_uf (ph_i h) (ph_s h).length (fun _ => 0), pm_uf (ph_l h) (ph_s h).length (fun _ => 0), pm_uf (ph_r h) (ph_s h).length (fun _ => none))
theorem g_new {T : List PmM} {xs : PmX} {es : List PmI} {j : Nat} {lv : PmL} {st : List Value} {h : PmH} {r : Option Value × PmH} {pc n idx a c d q : Nat} {v : Int} {ts : List Nat} {k : Nat} (he : es[j]? = some (pc, n, .new idx, a, c, d, q, v, ts)) (hl : (ph_s h).length = k) (kk : Go T xs es (j + 1) lv (.ref k :: st) (pm_nh h (10 + a) c) r) : Go T xs es j lv st h r := by
  refine Go.step he ?_ kk
  simp only [pm_x, pm_new, pm_nx, hl, pm_nh]
def hX0 : PmH := pm_nh pm_h0 19 14
def rX : Option (Option Value × PmH) := pm_run pmT none 2000 cd_0 0 (pm_en 2 [.ref 0]) [] hX0
def hX1 : PmH := match rX with
  | some (_, h) => h
  | none => pm_h0
set_option maxRecDepth 100000 in
theorem rX_ok : rX.map (fun r => r.1) = some none := by decide +kernel
theorem rX_eq : rX = some (none, hX1) := by
  have h1 := rX_ok
  unfold hX1
  cases h : rX with
  | none => rw [h] at h1; cases h1
  | some r =>
    obtain ⟨v, h2⟩ := r
    rw [h] at h1
    simp only [Option.map_some, Option.some.injEq] at h1
    subst h1
    rfl
set_option maxRecDepth 100000 in
theorem shX : ph_s hX1 = SH.take 70 := by decide +kernel
theorem evX : Ev pmT 0 [.ref 0] hX0 none hX1 := Ev.of (es := cd_0) (ml := 2) rfl rfl rfl ⟨2000, rX_eq⟩
def hY0 : PmH := pm_nh hX1 20 54
def rY : Option (Option Value × PmH) := pm_run pmT none 2000 cd_145 0 (pm_en 1 [.ref 70]) [] hY0
def hY1 : PmH := match rY with
  | some (_, h) => h
  | none => pm_h0
set_option maxRecDepth 100000 in
theorem rY_ok : rY.map (fun r => r.1) = some none := by decide +kernel
theorem rY_eq : rY = some (none, hY1) := by
  have h1 := rY_ok
  unfold hY1
  cases h : rY with
  | none => rw [h] at h1; cases h1
  | some r =>
    obtain ⟨v, h2⟩ := r
    rw [h] at h1
    simp only [Option.map_some, Option.some.injEq] at h1
    subst h1
    rfl
set_option maxRecDepth 100000 in
theorem shY : ph_s hY1 = SH := by decide +kernel
theorem evY : Ev pmT 145 [.ref 70] hY0 none hY1 := Ev.of (es := cd_145) (ml := 1) rfl rfl rfl ⟨2000, rY_eq⟩
def fI : List (Nat × Nat × Int32) := [(0, 3, 0), (0, 13, 0), (1, 0, 0), (1, 1, 0), (1, 2, 0), (1, 3, 0), (1, 4, 0), (1, 5, 0), (1, 6, 0), (5, 0, 0), (5, 1, 0), (6, 1, 0), (70, 1, 0), (70, 14, 0), (70, 15, 0), (70, 16, 0), (70, 17, 0), (70, 18, 0), (70, 19, 0), (70, 20, 0), (70, 23, 0), (70, 53, 0), (72, 0, 115), (72, 5, 107), (72, 10, 105), (72, 15, 99), (72, 20, 101), (72, 25, 108), (74, 0, 0), (74, 1, 0), (74, 2, 0), (74, 3, 0), (74, 4, 0), (74, 5, 0), (74, 6, 0), (74, 7, 0), (74, 8, 0), (74, 9, 0), (74, 10, 0), (74, 11, 0), (74, 12, 0), (74, 13, 0), (74, 14, 0), (74, 15, 0), (74, 16, 0), (74, 17, 0), (74, 18, 0), (74, 19, 0), (74, 20, 0), (74, 21, 0), (74, 22, 0), (74, 23, 0), (74, 24, 0), (74, 25, 0), (74, 26, 0), (74, 27, 0), (74, 28, 0), (74, 29, 0), (74, 30, 0), (74, 31, 0), (74, 32, 0), (74, 33, 0), (74, 34, 0), (74, 35, 0), (74, 36, 0), (74, 37, 0), (74, 38, 0), (74, 39, 0), (74, 40, 0), (74, 41, 0), (74, 42, 0), (74, 43, 0), (74, 44, 0), (74, 45, 0), (74, 46, 0), (74, 47, 0), (74, 48, 0), (74, 49, 0), (74, 50, 0), (74, 51, 0), (74, 52, 0), (74, 53, 0), (74, 54, 0), (74, 55, 0), (74, 56, 0), (74, 57, 0), (74, 58, 0), (74, 59, 0), (74, 60, 0), (74, 61, 0), (74, 62, 0), (74, 63, 0), (93, 0, 0), (93, 1, 0)]
set_option maxRecDepth 100000 in
theorem fI_ok : ∀ q ∈ fI, ph_i hY1 q.1 q.2.1 = q.2.2 := by decide +kernel
def fL : List (Nat × Nat × Int64) := [(1, 7, 0), (70, 21, 0)]
set_option maxRecDepth 100000 in
theorem fL_ok : ∀ q ∈ fL, ph_l hY1 q.1 q.2.1 = q.2.2 := by decide +kernel
def fR : List (Nat × Nat × Option Nat) := [(0, 0, some 1), (0, 4, some 4), (0, 5, some 5), (0, 6, some 6), (0, 7, some 8), (1, 8, some 2), (4, 0, some 66), (4, 1, some 68), (6, 0, some 7), (8, 0, some 9), (66, 8, some 67), (68, 8, some 69), (70, 0, some 71), (70, 4, some 72), (70, 5, some 73), (70, 22, some 74), (70, 50, some 91), (70, 51, some 92), (70, 52, some 93)]
set_option maxRecDepth 100000 in
theorem fR_ok : ∀ q ∈ fR, ph_r hY1 q.1 q.2.1 = q.2.2 := by decide +kernel
