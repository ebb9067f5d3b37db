/-! THE LINKS OF CALLS: written by wip/gen/gen3.py; decided by the kernel. -/
theorem mk_okl_0 : (mp_lkT.getD 0 []).all (mk_oklq 0) = true := by decide +kernel
theorem mk_okl_1 : (mp_lkT.getD 1 []).all (mk_oklq 1) = true := by decide +kernel
theorem mk_okl_2 : (mp_lkT.getD 2 []).all (mk_oklq 2) = true := by decide +kernel
theorem mk_okl_3 : (mp_lkT.getD 3 []).all (mk_oklq 3) = true := by decide +kernel
theorem mk_okl_4 : (mp_lkT.getD 4 []).all (mk_oklq 4) = true := by decide +kernel
theorem mk_okl_5 : (mp_lkT.getD 5 []).all (mk_oklq 5) = true := by decide +kernel
theorem mk_okl_6 : (mp_lkT.getD 6 []).all (mk_oklq 6) = true := by decide +kernel
theorem mk_okl_7 : (mp_lkT.getD 7 []).all (mk_oklq 7) = true := by decide +kernel
theorem mk_okl_8 : (mp_lkT.getD 8 []).all (mk_oklq 8) = true := by decide +kernel
theorem mk_okl_9 : (mp_lkT.getD 9 []).all (mk_oklq 9) = true := by decide +kernel
theorem mk_okl_10 : (mp_lkT.getD 10 []).all (mk_oklq 10) = true := by decide +kernel
theorem mk_okl_11_0 : (((mp_lkT.getD 11 []).drop 0).take 40).all (mk_oklq 11) = true := by decide +kernel
theorem mk_okl_11_40 : (((mp_lkT.getD 11 []).drop 40).take 40).all (mk_oklq 11) = true := by decide +kernel
theorem mk_okl_11 : (mp_lkT.getD 11 []).all (mk_oklq 11) = true := by
  have e : (mp_lkT.getD 11 []) = ((mp_lkT.getD 11 []).drop 0).take 40 ++ (((mp_lkT.getD 11 []).drop 40).take 40) := by decide +kernel
  rw [e]
  simp only [List.all_append, Bool.and_eq_true]
  exact ⟨mk_okl_11_0, mk_okl_11_40⟩
theorem mk_okl_12_0 : (((mp_lkT.getD 12 []).drop 0).take 40).all (mk_oklq 12) = true := by decide +kernel
theorem mk_okl_12_40 : (((mp_lkT.getD 12 []).drop 40).take 40).all (mk_oklq 12) = true := by decide +kernel
theorem mk_okl_12 : (mp_lkT.getD 12 []).all (mk_oklq 12) = true := by
  have e : (mp_lkT.getD 12 []) = ((mp_lkT.getD 12 []).drop 0).take 40 ++ (((mp_lkT.getD 12 []).drop 40).take 40) := by decide +kernel
  rw [e]
  simp only [List.all_append, Bool.and_eq_true]
  exact ⟨mk_okl_12_0, mk_okl_12_40⟩
theorem mk_okl_13 : (mp_lkT.getD 13 []).all (mk_oklq 13) = true := by decide +kernel
theorem mk_okl_14 : (mp_lkT.getD 14 []).all (mk_oklq 14) = true := by decide +kernel
theorem mk_okl_15 : (mp_lkT.getD 15 []).all (mk_oklq 15) = true := by decide +kernel
theorem mk_okl_16 : (mp_lkT.getD 16 []).all (mk_oklq 16) = true := by decide +kernel
theorem mk_okl_17_0 : (((mp_lkT.getD 17 []).drop 0).take 40).all (mk_oklq 17) = true := by decide +kernel
theorem mk_okl_17_40 : (((mp_lkT.getD 17 []).drop 40).take 40).all (mk_oklq 17) = true := by decide +kernel
theorem mk_okl_17 : (mp_lkT.getD 17 []).all (mk_oklq 17) = true := by
  have e : (mp_lkT.getD 17 []) = ((mp_lkT.getD 17 []).drop 0).take 40 ++ (((mp_lkT.getD 17 []).drop 40).take 40) := by decide +kernel
  rw [e]
  simp only [List.all_append, Bool.and_eq_true]
  exact ⟨mk_okl_17_0, mk_okl_17_40⟩
theorem mk_okl_18 : (mp_lkT.getD 18 []).all (mk_oklq 18) = true := by decide +kernel
theorem mk_okl_all : ∀ oc, oc < 19 → (mp_lkT.getD oc []).all (mk_oklq oc) = true := by
  intro oc h
  match oc, h with
  | 0, _ => exact mk_okl_0
  | 1, _ => exact mk_okl_1
  | 2, _ => exact mk_okl_2
  | 3, _ => exact mk_okl_3
  | 4, _ => exact mk_okl_4
  | 5, _ => exact mk_okl_5
  | 6, _ => exact mk_okl_6
  | 7, _ => exact mk_okl_7
  | 8, _ => exact mk_okl_8
  | 9, _ => exact mk_okl_9
  | 10, _ => exact mk_okl_10
  | 11, _ => exact mk_okl_11
  | 12, _ => exact mk_okl_12
  | 13, _ => exact mk_okl_13
  | 14, _ => exact mk_okl_14
  | 15, _ => exact mk_okl_15
  | 16, _ => exact mk_okl_16
  | 17, _ => exact mk_okl_17
  | 18, _ => exact mk_okl_18
  | n + 19, h => exact absurd h (by omega)
