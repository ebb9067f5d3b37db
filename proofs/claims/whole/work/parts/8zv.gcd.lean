/-! ROWS: common divisors of both sides -/
theorem gd_st {a b k : Nat} (hb : 0 < b) (h : b ≤ a) (hk : a * b < 2 ^ (k + 1)) : a % b ≤ b ∧ b * (a % b) < 2 ^ k := by
  have h1 := Nat.mod_lt a hb
  have h2 := Nat.div_add_mod a b
  have h3 : 1 ≤ a / b := Nat.div_pos h hb
  have h4 : b * 1 ≤ b * (a / b) := Nat.mul_le_mul_left b h3
  have h5 : 2 * (a % b) < a := by omega
  have h6 : b * (2 * (a % b)) < b * a := Nat.mul_lt_mul_of_pos_left h5 hb
  have h7 : b * (2 * (a % b)) = 2 * (b * (a % b)) := by rw [Nat.mul_left_comm]
  have h8 : b * a = a * b := Nat.mul_comm _ _
  have h9 : 2 ^ (k + 1) = 2 * 2 ^ k := by rw [Nat.pow_succ, Nat.mul_comm]
  refine ⟨by omega, by omega⟩
theorem gd_0 {a b : Nat} (h : b ≤ a) (hk : a * b < 2 ^ 0) : b = 0 := by
  rcases Nat.eq_zero_or_pos b with q | q
  · exact q
  · have h1 : 1 * 1 ≤ a * b := Nat.mul_le_mul (by omega) q
    simp at hk
    omega
theorem gd_g (a b : Nat) : Nat.gcd b (a % b) = Nat.gcd a b := by
  rw [Nat.gcd_comm a b, Nat.gcd_rec b a, Nat.gcd_comm]
theorem zli_abs (X : Int) : zln X.natAbs = if X < 0 then -zli X else zli X := by
  rw [zli_nat]
  by_cases q : X < 0
  · rw [if_pos q, zli_neg]
    congr 1
    omega
  · rw [if_neg q]
    congr 1
    omega
theorem M_absL (d : Nat) (X : Int) (h1 : -9223372036854775808 < X) (h2 : X < 9223372036854775808) (h : mq_H) : mz d 289 0 [some (.long (zli X)), none] [] h = some (some (some (.long (zln X.natAbs))), h) := by
  rw [zli_abs]
  by_cases q : X < 0
  · rw [if_pos q]
    simp (disch := first | omega | exact zb_1 | exact zb_0 | exact zb_n1 | exact zb_n0) only [x289_0, x289_1, x289_2, x289_3, x289_6, x289_7, x289_8, x289_12, x289_11, mq_dl_int, mq_dl_ref, mq_dl_null, mq_dl_none, mc_some, Option.toList_some, Option.toList_none, List.cons_append, List.nil_append, zb_1, zb_0, ↓reduceIte, if_true, if_false, not_true_eq_false, not_false_eq_true, Bool.false_eq_true, z_10, z_01, eq_self, Bool.and_self, true_or, or_true, false_or, or_false, true_and, and_true, false_and, and_false, and_self, or_self, Nat.reduceLT, Nat.reduceEqDiff, Nat.reduceLeDiff, Nat.reduceAdd, Nat.reduceMul, Nat.reduceSub, zn_lit, zn_add, zn_mul, zn_sub, zn_addneg, zn_lt, zn_le, zn_eq, zn_clamp, zn_in, zn_long, lc_eq, lc_gt, lc_lt, lc_le, lc_ge, zli_lit, zli_lt, zli_le, show ¬ 0 ≤ X by omega]
  · rw [if_neg q]
    simp (disch := first | omega | exact zb_1 | exact zb_0 | exact zb_n1 | exact zb_n0) only [x289_0, x289_1, x289_2, x289_3, x289_6, x289_7, x289_8, x289_12, x289_11, mq_dl_int, mq_dl_ref, mq_dl_null, mq_dl_none, mc_some, Option.toList_some, Option.toList_none, List.cons_append, List.nil_append, zb_1, zb_0, ↓reduceIte, if_true, if_false, not_true_eq_false, not_false_eq_true, Bool.false_eq_true, z_10, z_01, eq_self, Bool.and_self, true_or, or_true, false_or, or_false, true_and, and_true, false_and, and_false, and_self, or_self, Nat.reduceLT, Nat.reduceEqDiff, Nat.reduceLeDiff, Nat.reduceAdd, Nat.reduceMul, Nat.reduceSub, zn_lit, zn_add, zn_mul, zn_sub, zn_addneg, zn_lt, zn_le, zn_eq, zn_clamp, zn_in, zn_long, lc_eq, lc_gt, lc_lt, lc_le, lc_ge, zli_lit, zli_lt, zli_le, show 0 ≤ X by omega]
theorem C_gl (d : Nat) (x y : Int64) (h : mq_H) : ∀ (k a b i : Nat) (o9 o10 : Option Value), b ≤ a → a < 9223372036854775808 → a * b < 2 ^ k → i + k < 200 → mz d 85 15 [some (.long x), none, some (.long y), none, some (.long (zln a)), none, some (.long (zln b)), none, some (.int (zn i)), o9, o10] [] h = some (some (some (.long (zln (Nat.gcd a b)))), h)
  | 0, a, b, i, o9, o10, hb, ha, hk, hi => by
    have e := gd_0 hb hk
    subst e
    rw [Nat.gcd_zero_right]
    simp (disch := first | omega | exact zb_1 | exact zb_0 | exact zb_n1 | exact zb_n0) only [x85_15, x85_17, x85_20, x85_23, x85_25, x85_26, x85_27, x85_51, x85_53, mq_dl_int, mq_dl_ref, mq_dl_null, mq_dl_none, mc_some, Option.toList_some, Option.toList_none, List.cons_append, List.nil_append, zb_1, zb_0, ↓reduceIte, if_true, if_false, not_true_eq_false, not_false_eq_true, Bool.false_eq_true, z_10, z_01, eq_self, Bool.and_self, true_or, or_true, false_or, or_false, true_and, and_true, false_and, and_false, and_self, or_self, Nat.reduceLT, Nat.reduceEqDiff, Nat.reduceLeDiff, Nat.reduceAdd, Nat.reduceMul, Nat.reduceSub, zn_lit, zn_add, zn_mul, zn_sub, zn_addneg, zn_lt, zn_le, zn_eq, zn_clamp, zn_in, zn_long, zln_lit, zln_add, zln_mul, zln_lt, zln_le, zln_eq, zln_int, lc_eq, lc_gt, lc_lt, lc_le, lc_ge, show ¬ 200 ≤ i by omega]
  | k + 1, a, b, i, o9, o10, hb, ha, hk, hi => by
    by_cases q : b = 0
    · subst q
      rw [Nat.gcd_zero_right]
      simp (disch := first | omega | exact zb_1 | exact zb_0 | exact zb_n1 | exact zb_n0) only [x85_15, x85_17, x85_20, x85_23, x85_25, x85_26, x85_27, x85_51, x85_53, mq_dl_int, mq_dl_ref, mq_dl_null, mq_dl_none, mc_some, Option.toList_some, Option.toList_none, List.cons_append, List.nil_append, zb_1, zb_0, ↓reduceIte, if_true, if_false, not_true_eq_false, not_false_eq_true, Bool.false_eq_true, z_10, z_01, eq_self, Bool.and_self, true_or, or_true, false_or, or_false, true_and, and_true, false_and, and_false, and_self, or_self, Nat.reduceLT, Nat.reduceEqDiff, Nat.reduceLeDiff, Nat.reduceAdd, Nat.reduceMul, Nat.reduceSub, zn_lit, zn_add, zn_mul, zn_sub, zn_addneg, zn_lt, zn_le, zn_eq, zn_clamp, zn_in, zn_long, zln_lit, zln_add, zln_mul, zln_lt, zln_le, zln_eq, zln_int, lc_eq, lc_gt, lc_lt, lc_le, lc_ge, show ¬ 200 ≤ i by omega]
    · obtain ⟨h1, h2⟩ := gd_st (by omega) hb hk
      have h3 := Nat.div_le_self a b
      have h4 := Nat.div_mul_le_self a b
      rw [← gd_g, ← C_gl d x y h k b (a % b) (i + 1) (some (.long (zln (a % b)))) none h1 (by omega) h2 (by omega), x85_15]
      simp (disch := first | omega | exact zb_1 | exact zb_0 | exact zb_n1 | exact zb_n0) only [x85_17, x85_20, x85_23, x85_25, x85_26, x85_27, x85_30, x85_32, x85_34, x85_35, x85_37, x85_39, x85_41, x85_43, x85_45, x85_48, mq_dl_int, mq_dl_ref, mq_dl_null, mq_dl_none, mc_some, Option.toList_some, Option.toList_none, List.cons_append, List.nil_append, zb_1, zb_0, ↓reduceIte, if_true, if_false, not_true_eq_false, not_false_eq_true, Bool.false_eq_true, z_10, z_01, eq_self, Bool.and_self, true_or, or_true, false_or, or_false, true_and, and_true, false_and, and_false, and_self, or_self, Nat.reduceLT, Nat.reduceEqDiff, Nat.reduceLeDiff, Nat.reduceAdd, Nat.reduceMul, Nat.reduceSub, zn_lit, zn_add, zn_mul, zn_sub, zn_addneg, zn_lt, zn_le, zn_eq, zn_clamp, zn_in, zn_long, zln_lit, zln_add, zln_mul, zln_lt, zln_le, zln_eq, zln_int, lc_eq, lc_gt, lc_lt, lc_le, lc_ge, zln_div, zln_rem, q, show ¬ 200 ≤ i by omega]
theorem C_gcd (d : Nat) (X Y : Int) (h1 : -9223372036854775808 < X) (h2 : X < 9223372036854775808) (h3 : -9223372036854775808 < Y) (h4 : Y < 9223372036854775808) (h : mq_H) : mz (d + 1) 85 0 [some (.long (zli X)), none, some (.long (zli Y)), none, none, none, none, none, none, none, none] [] h = some (some (some (.long (zln (Nat.gcd X.natAbs Y.natAbs)))), h) := by
  have e1 := M_absL d X h1 h2 h
  have e2 := M_absL d Y h3 h4 h
  have hX : X.natAbs < 9223372036854775808 := by omega
  have hY : Y.natAbs < 9223372036854775808 := by omega
  have es : mz (d + 1) 85 0 [some (.long (zli X)), none, some (.long (zli Y)), none, none, none, none, none, none, none, none] [] h = mz (d + 1) 85 15 [some (.long (zli X)), none, some (.long (zli Y)), none, some (.long (zln X.natAbs)), none, some (.long (zln Y.natAbs)), none, some (.int (zn 0)), none, none] [] h := by
    simp (disch := first | omega | exact zb_1 | exact zb_0 | exact zb_n1 | exact zb_n0) only [x85_0, x85_1, x85_4, x85_6, x85_7, x85_10, x85_12, x85_13, mq_dl_int, mq_dl_ref, mq_dl_null, mq_dl_none, mc_some, Option.toList_some, Option.toList_none, List.cons_append, List.nil_append, zb_1, zb_0, ↓reduceIte, if_true, if_false, not_true_eq_false, not_false_eq_true, Bool.false_eq_true, z_10, z_01, eq_self, Bool.and_self, true_or, or_true, false_or, or_false, true_and, and_true, false_and, and_false, and_self, or_self, Nat.reduceLT, Nat.reduceEqDiff, Nat.reduceLeDiff, Nat.reduceAdd, Nat.reduceMul, Nat.reduceSub, zn_lit, zn_add, zn_mul, zn_sub, zn_addneg, zn_lt, zn_le, zn_eq, zn_clamp, zn_in, zn_long, e1, e2]
  rw [es]
  generalize X.natAbs = a at hX ⊢
  generalize Y.natAbs = b at hY ⊢
  have hp : a * b < 2 ^ 126 := by
    have : a * b ≤ 9223372036854775807 * 9223372036854775807 := Nat.mul_le_mul (by omega) (by omega)
    omega
  by_cases q : b ≤ a
  · exact C_gl (d + 1) _ _ h 126 a b 0 none none q hX hp (by omega)
  · have hm : a % b = a := Nat.mod_eq_of_lt (by omega)
    have h5 := Nat.div_le_self a b
    have h6 := Nat.div_mul_le_self a b
    rw [← gd_g a b, hm, ← C_gl (d + 1) (zli X) (zli Y) h 126 b a 1 (some (.long (zln a))) none (by omega) hY (by rw [Nat.mul_comm]; exact hp) (by omega)]
    have hr := zln_rem a b
    rw [hm] at hr
    rw [x85_15]
    simp (disch := first | omega | exact zb_1 | exact zb_0 | exact zb_n1 | exact zb_n0) only [x85_17, x85_20, x85_23, x85_25, x85_26, x85_27, x85_30, x85_32, x85_34, x85_35, x85_37, x85_39, x85_41, x85_43, x85_45, x85_48, mq_dl_int, mq_dl_ref, mq_dl_null, mq_dl_none, mc_some, Option.toList_some, Option.toList_none, List.cons_append, List.nil_append, zb_1, zb_0, ↓reduceIte, if_true, if_false, not_true_eq_false, not_false_eq_true, Bool.false_eq_true, z_10, z_01, eq_self, Bool.and_self, true_or, or_true, false_or, or_false, true_and, and_true, false_and, and_false, and_self, or_self, Nat.reduceLT, Nat.reduceEqDiff, Nat.reduceLeDiff, Nat.reduceAdd, Nat.reduceMul, Nat.reduceSub, zn_lit, zn_add, zn_mul, zn_sub, zn_addneg, zn_lt, zn_le, zn_eq, zn_clamp, zn_in, zn_long, zln_lit, zln_add, zln_mul, zln_lt, zln_le, zln_eq, zln_int, lc_eq, lc_gt, lc_lt, lc_le, lc_ge, zln_div, hr, show ¬ b = 0 by omega]
theorem C_low (d : Nat) (x : Int64) (b : Nat) (hb : b < 9223372036854775808) (h0 : ¬ b = 0) (h : mq_H) : mz d 84 0 [some (.long x), none, some (.long (zln b)), none] [] h = some (some (some (.long (x / zln b))), h) := by
  simp (disch := first | omega | exact zb_1 | exact zb_0 | exact zb_n1 | exact zb_n0) only [x84_0, x84_1, x84_2, x84_3, x84_6, x84_7, x84_8, x84_9, x84_13, x84_12, mq_dl_int, mq_dl_ref, mq_dl_null, mq_dl_none, mc_some, Option.toList_some, Option.toList_none, List.cons_append, List.nil_append, zb_1, zb_0, ↓reduceIte, if_true, if_false, not_true_eq_false, not_false_eq_true, Bool.false_eq_true, z_10, z_01, eq_self, Bool.and_self, true_or, or_true, false_or, or_false, true_and, and_true, false_and, and_false, and_self, or_self, Nat.reduceLT, Nat.reduceEqDiff, Nat.reduceLeDiff, Nat.reduceAdd, Nat.reduceMul, Nat.reduceSub, zn_lit, zn_add, zn_mul, zn_sub, zn_addneg, zn_lt, zn_le, zn_eq, zn_clamp, zn_in, zn_long, zln_lit, zln_add, zln_mul, zln_lt, zln_le, zln_eq, zln_int, lc_eq, lc_gt, lc_lt, lc_le, lc_ge, h0, show ¬ b ≤ 0 by omega]
theorem R_gl (d : Nat) (x y : Int64) (h : mq_H) : ∀ (k a b : Nat) (o8 o9 : Option Value), b ≤ a → a < 9223372036854775808 → a * b < 2 ^ k → mz d 241 17 [some (.long x), none, some (.long y), none, some (.long (zln a)), none, some (.long (zln b)), none, o8, o9] [] h = some (some (some (.long (zln (Nat.gcd a b)))), h)
  | 0, a, b, o8, o9, hb, ha, hk => by
    have e := gd_0 hb hk
    subst e
    rw [Nat.gcd_zero_right]
    simp (disch := first | omega | exact zb_1 | exact zb_0 | exact zb_n1 | exact zb_n0) only [x241_17, x241_19, x241_20, x241_21, x241_42, x241_44, mq_dl_int, mq_dl_ref, mq_dl_null, mq_dl_none, mc_some, Option.toList_some, Option.toList_none, List.cons_append, List.nil_append, zb_1, zb_0, ↓reduceIte, if_true, if_false, not_true_eq_false, not_false_eq_true, Bool.false_eq_true, z_10, z_01, eq_self, Bool.and_self, true_or, or_true, false_or, or_false, true_and, and_true, false_and, and_false, and_self, or_self, Nat.reduceLT, Nat.reduceEqDiff, Nat.reduceLeDiff, Nat.reduceAdd, Nat.reduceMul, Nat.reduceSub, zn_lit, zn_add, zn_mul, zn_sub, zn_addneg, zn_lt, zn_le, zn_eq, zn_clamp, zn_in, zn_long, zln_lit, zln_add, zln_mul, zln_lt, zln_le, zln_eq, zln_int, lc_eq, lc_gt, lc_lt, lc_le, lc_ge]
  | k + 1, a, b, o8, o9, hb, ha, hk => by
    by_cases q : b = 0
    · subst q
      rw [Nat.gcd_zero_right]
      simp (disch := first | omega | exact zb_1 | exact zb_0 | exact zb_n1 | exact zb_n0) only [x241_17, x241_19, x241_20, x241_21, x241_42, x241_44, mq_dl_int, mq_dl_ref, mq_dl_null, mq_dl_none, mc_some, Option.toList_some, Option.toList_none, List.cons_append, List.nil_append, zb_1, zb_0, ↓reduceIte, if_true, if_false, not_true_eq_false, not_false_eq_true, Bool.false_eq_true, z_10, z_01, eq_self, Bool.and_self, true_or, or_true, false_or, or_false, true_and, and_true, false_and, and_false, and_self, or_self, Nat.reduceLT, Nat.reduceEqDiff, Nat.reduceLeDiff, Nat.reduceAdd, Nat.reduceMul, Nat.reduceSub, zn_lit, zn_add, zn_mul, zn_sub, zn_addneg, zn_lt, zn_le, zn_eq, zn_clamp, zn_in, zn_long, zln_lit, zln_add, zln_mul, zln_lt, zln_le, zln_eq, zln_int, lc_eq, lc_gt, lc_lt, lc_le, lc_ge]
    · obtain ⟨h1, h2⟩ := gd_st (by omega) hb hk
      have h3 := Nat.div_le_self a b
      have h4 := Nat.div_mul_le_self a b
      rw [← gd_g, ← R_gl d x y h k b (a % b) (some (.long (zln (a % b)))) none h1 (by omega) h2, x241_17]
      simp (disch := first | omega | exact zb_1 | exact zb_0 | exact zb_n1 | exact zb_n0) only [x241_19, x241_20, x241_21, x241_24, x241_26, x241_28, x241_29, x241_31, x241_33, x241_35, x241_37, x241_39, mq_dl_int, mq_dl_ref, mq_dl_null, mq_dl_none, mc_some, Option.toList_some, Option.toList_none, List.cons_append, List.nil_append, zb_1, zb_0, ↓reduceIte, if_true, if_false, not_true_eq_false, not_false_eq_true, Bool.false_eq_true, z_10, z_01, eq_self, Bool.and_self, true_or, or_true, false_or, or_false, true_and, and_true, false_and, and_false, and_self, or_self, Nat.reduceLT, Nat.reduceEqDiff, Nat.reduceLeDiff, Nat.reduceAdd, Nat.reduceMul, Nat.reduceSub, zn_lit, zn_add, zn_mul, zn_sub, zn_addneg, zn_lt, zn_le, zn_eq, zn_clamp, zn_in, zn_long, zln_lit, zln_add, zln_mul, zln_lt, zln_le, zln_eq, zln_int, lc_eq, lc_gt, lc_lt, lc_le, lc_ge, zln_div, zln_rem, q]
