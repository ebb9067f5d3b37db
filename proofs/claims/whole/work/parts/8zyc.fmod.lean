/-! ROWS: the class's remainder -/
theorem zl_neg_iff (z : Int64) : z.toInt < 0 ↔ z.toBitVec.msb = true := by
  rw [BitVec.msb_eq_toInt, decide_eq_true_eq]
  rfl
theorem zl_xor (X Y : Int) (h1 : -9223372036854775808 ≤ X) (h2 : X < 9223372036854775808) (h3 : 0 ≤ Y) (h4 : Y < 9223372036854775808) : (zli X ^^^ zli Y < zli 0) = (X < 0) := by
  have hx := zl_neg_iff (zli X)
  have hy := zl_neg_iff (zli Y)
  rw [zli_toInt X h1 h2] at hx
  rw [zli_toInt Y (by omega) h4] at hy
  have hy2 : (zli Y).toBitVec.msb = false := by
    rw [Bool.eq_false_iff]
    intro e
    have := hy.mpr e
    omega
  apply propext
  rw [Int64.lt_iff_toInt_lt, zli_toInt 0 (by omega) (by omega), zl_neg_iff, Int64.toBitVec_xor, BitVec.msb_xor, hy2, Bool.xor_false, hx]
theorem zli_div (a b : Int) (h1 : -9223372036854775808 ≤ a) (h2 : a < 9223372036854775808) (h3 : -9223372036854775808 ≤ b) (h4 : b < 9223372036854775808) : zli a / zli b = zli (a.tdiv b) := (Int64.ofInt_tdiv (by show -9223372036854775808 ≤ a; omega) (by show a ≤ 9223372036854775807; omega) (by show -9223372036854775808 ≤ b; omega) (by show b ≤ 9223372036854775807; omega)).symm
theorem tm_b (X : Int) : -2147483647 < X - X.tdiv 2147483647 * 2147483647 ∧ X - X.tdiv 2147483647 * 2147483647 < 2147483647 ∧ (0 ≤ X → 0 ≤ X - X.tdiv 2147483647 * 2147483647) ∧ (X < 0 → X - X.tdiv 2147483647 * 2147483647 ≤ 0) := by
  by_cases q : 0 ≤ X
  · rw [Int.tdiv_eq_ediv_of_nonneg q]
    omega
  · have e : X.tdiv 2147483647 = -((-X) / 2147483647) := by
      rw [← Int.tdiv_eq_ediv_of_nonneg (show 0 ≤ -X by omega), Int.neg_tdiv, Int.neg_neg]
    rw [e]
    omega
theorem C_fmod (d : Nat) (X : Int) (h1 : -9223372036854775808 < X) (h2 : X < 9223372036854775808) (h : mq_H) : ∃ r : Nat, r < 2147483647 ∧ (2147483647 : Int) ∣ X - (r : Int) ∧ mz d 287 0 [some (.long (zli X)), none, some (.long (zli 2147483647)), none, none, none] [] h = some (some (some (.long (zln r))), h) := by
  obtain ⟨b1, b2, b3, b4⟩ := tm_b X
  have hd := zli_div X 2147483647 (by omega) h2 (by omega) (by omega)
  have hx := zl_xor X 2147483647 (by omega) h2 (by omega) (by omega)
  generalize ht : X.tdiv 2147483647 = t at *
  obtain ⟨R, hR⟩ : ∃ R, R = X - t * 2147483647 := ⟨_, rfl⟩
  rw [← hR] at b1 b2 b3 b4
  have hr : zli X - zli t * zli 2147483647 = zli R := by rw [zli_mul, zli_sub, hR]
  have hz : ¬ zli 2147483647 = zli 0 := by
    rw [zli_eq _ _ (by omega) (by omega) (by omega) (by omega)]
    omega
  by_cases q : X < 0 ∧ ¬ R = 0
  · refine ⟨(R + 2147483647).toNat, by omega, ⟨t - 1, by omega⟩, ?_⟩
    rw [zli_nat, show (((R + 2147483647).toNat : Nat) : Int) = R + 2147483647 by omega]
    have q1 : zli X ^^^ zli 2147483647 < zli 0 := by rw [hx]; exact q.1
    have q2 : ¬ zli R = zli 0 := by rw [zli_eq _ _ (by omega) (by omega) (by omega) (by omega)]; exact q.2
    have q3 : ¬ zli 0 ≤ zli X ^^^ zli 2147483647 := by
      rw [Int64.le_iff_toInt_le]
      rw [Int64.lt_iff_toInt_lt] at q1
      omega
    simp (disch := first | omega | exact zb_1 | exact zb_0 | exact zb_n1 | exact zb_n0) only [x287_0, x287_1, x287_2, x287_3, x287_5, x287_6, x287_7, x287_8, x287_9, x287_10, x287_13, x287_15, x287_16, x287_17, x287_20, x287_22, x287_23, x287_24, x287_25, x287_27, mq_dl_int, mq_dl_ref, mq_dl_null, mq_dl_none, mc_some, Option.toList_some, Option.toList_none, List.cons_append, List.nil_append, zb_1, zb_0, ↓reduceIte, if_true, if_false, not_true_eq_false, not_false_eq_true, Bool.false_eq_true, z_10, z_01, eq_self, Bool.and_self, true_or, or_true, false_or, or_false, true_and, and_true, false_and, and_false, and_self, or_self, Nat.reduceLT, Nat.reduceEqDiff, Nat.reduceLeDiff, Nat.reduceAdd, Nat.reduceMul, Nat.reduceSub, zn_lit, zn_add, zn_mul, zn_sub, zn_addneg, zn_lt, zn_le, zn_eq, zn_clamp, zn_in, zn_long, lc_eq, lc_gt, lc_lt, lc_le, lc_ge, hd, hr, hz, zli_add, q1, q2, q3, show (0 : Int64) = zli 0 from zli_lit 0]
  · refine ⟨R.toNat, by omega, ⟨t, by omega⟩, ?_⟩
    rw [zli_nat, show ((R.toNat : Nat) : Int) = R by omega]
    by_cases q0 : X < 0
    · have e0 : R = 0 := by omega
      subst e0
      have q1 : zli X ^^^ zli 2147483647 < zli 0 := by rw [hx]; exact q0
      have q3 : ¬ zli 0 ≤ zli X ^^^ zli 2147483647 := by
        rw [Int64.le_iff_toInt_le]
        rw [Int64.lt_iff_toInt_lt] at q1
        omega
      simp (disch := first | omega | exact zb_1 | exact zb_0 | exact zb_n1 | exact zb_n0) only [x287_0, x287_1, x287_2, x287_3, x287_5, x287_6, x287_7, x287_8, x287_9, x287_10, x287_13, x287_15, x287_16, x287_17, x287_20, x287_22, x287_23, x287_24, x287_25, x287_27, mq_dl_int, mq_dl_ref, mq_dl_null, mq_dl_none, mc_some, Option.toList_some, Option.toList_none, List.cons_append, List.nil_append, zb_1, zb_0, ↓reduceIte, if_true, if_false, not_true_eq_false, not_false_eq_true, Bool.false_eq_true, z_10, z_01, eq_self, Bool.and_self, true_or, or_true, false_or, or_false, true_and, and_true, false_and, and_false, and_self, or_self, Nat.reduceLT, Nat.reduceEqDiff, Nat.reduceLeDiff, Nat.reduceAdd, Nat.reduceMul, Nat.reduceSub, zn_lit, zn_add, zn_mul, zn_sub, zn_addneg, zn_lt, zn_le, zn_eq, zn_clamp, zn_in, zn_long, lc_eq, lc_gt, lc_lt, lc_le, lc_ge, hd, hr, hz, zli_add, q1, q3, show (0 : Int64) = zli 0 from zli_lit 0]
    · have q1 : ¬ zli X ^^^ zli 2147483647 < zli 0 := by rw [hx]; exact q0
      have q3 : zli 0 ≤ zli X ^^^ zli 2147483647 := by
        rw [Int64.le_iff_toInt_le]
        rw [Int64.lt_iff_toInt_lt] at q1
        omega
      simp (disch := first | omega | exact zb_1 | exact zb_0 | exact zb_n1 | exact zb_n0) only [x287_0, x287_1, x287_2, x287_3, x287_5, x287_6, x287_7, x287_8, x287_9, x287_10, x287_13, x287_15, x287_16, x287_17, x287_20, x287_22, x287_23, x287_24, x287_25, x287_27, mq_dl_int, mq_dl_ref, mq_dl_null, mq_dl_none, mc_some, Option.toList_some, Option.toList_none, List.cons_append, List.nil_append, zb_1, zb_0, ↓reduceIte, if_true, if_false, not_true_eq_false, not_false_eq_true, Bool.false_eq_true, z_10, z_01, eq_self, Bool.and_self, true_or, or_true, false_or, or_false, true_and, and_true, false_and, and_false, and_self, or_self, Nat.reduceLT, Nat.reduceEqDiff, Nat.reduceLeDiff, Nat.reduceAdd, Nat.reduceMul, Nat.reduceSub, zn_lit, zn_add, zn_mul, zn_sub, zn_addneg, zn_lt, zn_le, zn_eq, zn_clamp, zn_in, zn_long, lc_eq, lc_gt, lc_lt, lc_le, lc_ge, hd, hr, hz, zli_add, q1, q3, show (0 : Int64) = zli 0 from zli_lit 0]
