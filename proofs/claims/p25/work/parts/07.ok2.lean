def pm_ckJ (T : List PmM) (M : PmM) (a n : Nat) : Bool := (List.range n).all (fun i => match (mm_cd M)[a + i]? with
    | none => true
    | some e => pm_dead (pi_i e) || pm_ck T M (a + i) e)
theorem pm_ckI_of {T : List PmM} {M : PmM} (K : Nat) (h : ∀ k, k < K → pm_ckJ T M (50 * k) 50 = true) (hl : (mm_cd M).length ≤ 50 * K) : pm_ckI T M = true := by
  unfold pm_ckI
  refine List.all_eq_true.mpr (fun j hj => ?_)
  have hj2 : j < (mm_cd M).length := List.mem_range.mp hj
  have h1 := List.all_eq_true.mp (h (j / 50) (by omega)) (j % 50) (List.mem_range.mpr (by omega))
  rw [show 50 * (j / 50) + j % 50 = j by omega] at h1
  exact h1
set_option maxRecDepth 100000 in
theorem ck_law_0 : pm_ckJ pmT pmM_law (50 * 0) 50 = true := by decide +kernel
set_option maxRecDepth 100000 in
theorem ck_law_1 : pm_ckJ pmT pmM_law (50 * 1) 50 = true := by decide +kernel
set_option maxRecDepth 100000 in
theorem ck_law_2 : pm_ckJ pmT pmM_law (50 * 2) 50 = true := by decide +kernel
set_option maxRecDepth 100000 in
theorem ck_law_3 : pm_ckJ pmT pmM_law (50 * 3) 50 = true := by decide +kernel
set_option maxRecDepth 100000 in
theorem ck_law_4 : pm_ckJ pmT pmM_law (50 * 4) 50 = true := by decide +kernel
set_option maxRecDepth 100000 in
theorem ck_law_5 : pm_ckJ pmT pmM_law (50 * 5) 50 = true := by decide +kernel
set_option maxRecDepth 100000 in
theorem ck_law_6 : pm_ckJ pmT pmM_law (50 * 6) 50 = true := by decide +kernel
set_option maxRecDepth 100000 in
theorem ck_law_7 : pm_ckJ pmT pmM_law (50 * 7) 50 = true := by decide +kernel
set_option maxRecDepth 100000 in
theorem ck_law_8 : pm_ckJ pmT pmM_law (50 * 8) 50 = true := by decide +kernel
set_option maxRecDepth 100000 in
theorem ck_law_9 : pm_ckJ pmT pmM_law (50 * 9) 50 = true := by decide +kernel
set_option maxRecDepth 100000 in
theorem ck_law_10 : pm_ckJ pmT pmM_law (50 * 10) 50 = true := by decide +kernel
set_option maxRecDepth 100000 in
theorem ck_law_11 : pm_ckJ pmT pmM_law (50 * 11) 50 = true := by decide +kernel
set_option maxRecDepth 100000 in
theorem ck_law_12 : pm_ckJ pmT pmM_law (50 * 12) 50 = true := by decide +kernel
set_option maxRecDepth 100000 in
theorem ck_law_13 : pm_ckJ pmT pmM_law (50 * 13) 50 = true := by decide +kernel
set_option maxRecDepth 100000 in
theorem ck_law_14 : pm_ckJ pmT pmM_law (50 * 14) 50 = true := by decide +kernel
set_option maxRecDepth 100000 in
theorem ck_law_15 : pm_ckJ pmT pmM_law (50 * 15) 50 = true := by decide +kernel
theorem ck_law : pm_ckI pmT pmM_law = true := by
  refine pm_ckI_of 16 (fun k hk => ?_) (by decide +kernel)
  match k, hk with
  | 0, _ => exact ck_law_0
  | 1, _ => exact ck_law_1
  | 2, _ => exact ck_law_2
  | 3, _ => exact ck_law_3
  | 4, _ => exact ck_law_4
  | 5, _ => exact ck_law_5
  | 6, _ => exact ck_law_6
  | 7, _ => exact ck_law_7
  | 8, _ => exact ck_law_8
  | 9, _ => exact ck_law_9
  | 10, _ => exact ck_law_10
  | 11, _ => exact ck_law_11
  | 12, _ => exact ck_law_12
  | 13, _ => exact ck_law_13
  | 14, _ => exact ck_law_14
  | 15, _ => exact ck_law_15
  | k + 16, hk => omega
