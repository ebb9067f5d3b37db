/-! A TABLE BEING MADE: the class -/
def tc (c : Nat → mq_E) (a m : Nat) (g r : Nat → Int32) : Nat → mq_E := mq_up (mq_up (mq_up c a (tbo m a (-1) 0 0 0 .null .null)) (a + 1) (.inl (0, 216, .inl g))) (a + 2) (.inl (0, 6, .inl r))
section TC
variable {n s : Nat} {c : Nat → mq_E} {I : Nat → Int32} {J : Nat → Int64} {A : Nat → Nat → Int32} {B : Nat → Nat → Int64} {R : Nat → Value} {Q : Nat → Nat → Option Nat}
variable {a m : Nat} {g r : Nat → Int32}
theorem tc_a : tc c a m g r a = tbo m a (-1) 0 0 0 .null .null := by
  unfold tc
  rw [up_ne _ _ _ _ (by omega), up_ne _ _ _ _ (by omega), up_eq]
theorem tc_a1 : tc c a m g r (a + 1) = .inl (0, 216, .inl g) := by
  unfold tc
  rw [up_ne _ _ _ _ (by omega), up_eq]
theorem tc_a2 : tc c a m g r (a + 2) = .inl (0, 6, .inl r) := by
  unfold tc
  rw [up_eq]
theorem tc_ne (b : Nat) (h : b < a ∨ a + 2 < b) : tc c a m g r b = c b := by
  unfold tc
  rw [up_ne _ _ _ _ (by omega), up_ne _ _ _ _ (by omega), up_ne _ _ _ _ (by omega)]
theorem tc_0 (ha : 46 ≤ a) : mo0 (hp n s (tc c a m g r) I J A B R Q) a 6 = true := by
  unfold mo0
  rw [hp_c _ _ _ _ _ _ _ _ _ a (hs_big _ ha), tc_a]
  rfl
theorem tc_mo (ha : 46 ≤ a) (k : Nat) (hk : k < 9) : mo (hp n s (tc c a m g r) I J A B R Q) a 6 k = true := by
  unfold mo
  rw [hp_c _ _ _ _ _ _ _ _ _ a (hs_big _ ha), tc_a]
  simp [tbo, hk]
theorem tc_f0 (ha : 46 ≤ a) : mf (hp n s (tc c a m g r) I J A B R Q) a 0 = .int (zn m) := by
  unfold mf mfs
  rw [hp_c _ _ _ _ _ _ _ _ _ a (hs_big _ ha), tc_a]
  rfl
theorem tc_f1 (ha : 46 ≤ a) : mf (hp n s (tc c a m g r) I J A B R Q) a 1 = .ref (a + 1) := by
  unfold mf mfs
  rw [hp_c _ _ _ _ _ _ _ _ _ a (hs_big _ ha), tc_a]
  rfl
theorem tc_f2 (ha : 46 ≤ a) : mf (hp n s (tc c a m g r) I J A B R Q) a 2 = .ref (a + 2) := by
  unfold mf mfs
  rw [hp_c _ _ _ _ _ _ _ _ _ a (hs_big _ ha), tc_a]
  rfl
theorem tc_i1 (ha : 46 ≤ a) (q : Nat) (x : Int32) : mai (hp n s (tc c a m g r) I J A B R Q) (a + 1) 0 q x = mq_in x 216 := by
  unfold mai
  rw [hp_c _ _ _ _ _ _ _ _ _ (a + 1) (hs_big _ (by omega)), tc_a1]
  simp
theorem tc_i2 (ha : 46 ≤ a) (q : Nat) (x : Int32) : mai (hp n s (tc c a m g r) I J A B R Q) (a + 2) 0 q x = mq_in x 6 := by
  unfold mai
  rw [hp_c _ _ _ _ _ _ _ _ _ (a + 2) (hs_big _ (by omega)), tc_a2]
  simp
theorem tc_g1 (ha : 46 ≤ a) : mag (hp n s (tc c a m g r) I J A B R Q) (a + 1) = g := by
  unfold mag
  rw [hp_c _ _ _ _ _ _ _ _ _ (a + 1) (hs_big _ (by omega)), tc_a1]
theorem tc_g2 (ha : 46 ≤ a) : mag (hp n s (tc c a m g r) I J A B R Q) (a + 2) = r := by
  unfold mag
  rw [hp_c _ _ _ _ _ _ _ _ _ (a + 2) (hs_big _ (by omega)), tc_a2]
theorem tc_n1 (ha : 46 ≤ a) : man (hp n s (tc c a m g r) I J A B R Q) (a + 1) = 216 := by
  unfold man
  rw [hp_c _ _ _ _ _ _ _ _ _ (a + 1) (hs_big _ (by omega)), tc_a1]
theorem tc_n2 (ha : 46 ≤ a) : man (hp n s (tc c a m g r) I J A B R Q) (a + 2) = 6 := by
  unfold man
  rw [hp_c _ _ _ _ _ _ _ _ _ (a + 2) (hs_big _ (by omega)), tc_a2]
theorem tc_w1 (ha : 46 ≤ a) (g' : Nat → Int32) : mq_wr (hp n s (tc c a m g r) I J A B R Q) (a + 1) (.inl (0, 216, .inl g')) = hp n s (tc c a m g' r) I J A B R Q := by
  rw [hp_wc _ _ _ _ _ _ _ _ _ (a + 1) _ (hs_big _ (by omega))]
  unfold tc
  rw [up_comm _ (a + 2) (a + 1) _ _ (by omega), up_up]
theorem tc_w2 (ha : 46 ≤ a) (r' : Nat → Int32) : mq_wr (hp n s (tc c a m g r) I J A B R Q) (a + 2) (.inl (0, 6, .inl r')) = hp n s (tc c a m g r') I J A B R Q := by
  rw [hp_wc _ _ _ _ _ _ _ _ _ (a + 2) _ (hs_big _ (by omega))]
  unfold tc
  rw [up_up]
theorem B_has (ha : 46 ≤ a) (hm : m ≤ 6) (d i : Nat) (hi : i < 2147483648) : mz d 98 0 [some (.ref a), some (.int (zn i))] [] (hp n s (tc c a m g r) I J A B R Q) = some (some (some (.int (if i < m then 1 else 0))), hp n s (tc c a m g r) I J A B R Q) := by
  by_cases q : i < m
  · simp (disch := first | omega | exact zb_1 | exact zb_0 | exact zb_n1 | exact zb_n0) only [x98_0, x98_1, x98_4, x98_5, x98_5N, x98_6, x98_9, x98_12, x98_13, x98_17, x98_16, mq_dl_int, mq_dl_ref, mq_dl_null, mq_dl_none, mc_some, Option.toList_some, Option.toList_none, List.cons_append, List.nil_append, zb_1, zb_0, ↓reduceIte, if_true, if_false, not_true_eq_false, not_false_eq_true, Bool.false_eq_true, z_10, z_01, eq_self, Bool.and_self, true_or, or_true, false_or, or_false, true_and, and_true, false_and, and_false, and_self, or_self, Nat.reduceLT, Nat.reduceEqDiff, Nat.reduceLeDiff, Nat.reduceAdd, Nat.reduceMul, Nat.reduceSub, zn_lit, zn_add, zn_mul, zn_sub, zn_addneg, zn_lt, zn_le, zn_eq, zn_clamp, zn_in, zn_long, tc_mo ha, tc_f0 ha, Nat.not_lt_zero, q, show ¬ m ≤ i by omega]
  · simp (disch := first | omega | exact zb_1 | exact zb_0 | exact zb_n1 | exact zb_n0) only [x98_0, x98_1, x98_4, x98_5, x98_5N, x98_6, x98_9, x98_12, x98_13, x98_17, x98_16, mq_dl_int, mq_dl_ref, mq_dl_null, mq_dl_none, mc_some, Option.toList_some, Option.toList_none, List.cons_append, List.nil_append, zb_1, zb_0, ↓reduceIte, if_true, if_false, not_true_eq_false, not_false_eq_true, Bool.false_eq_true, z_10, z_01, eq_self, Bool.and_self, true_or, or_true, false_or, or_false, true_and, and_true, false_and, and_false, and_self, or_self, Nat.reduceLT, Nat.reduceEqDiff, Nat.reduceLeDiff, Nat.reduceAdd, Nat.reduceMul, Nat.reduceSub, zn_lit, zn_add, zn_mul, zn_sub, zn_addneg, zn_lt, zn_le, zn_eq, zn_clamp, zn_in, zn_long, tc_mo ha, tc_f0 ha, Nat.not_lt_zero, q, show m ≤ i by omega]
theorem B_put (ha : 46 ≤ a) (hm : m ≤ 6) (d i j k : Nat) (hi : i < 6) (hj : j < 6) (hk : k < 6) (x : Int32) : mz (d + 1) 100 0 [some (.ref a), some (.int (zn i)), some (.int (zn j)), some (.int (zn k)), some (.int x)] [] (hp n s (tc c a m g r) I J A B R Q) = some (some none, hp n s (tc c a m (if i < m ∧ j < m ∧ k < m then zu g ((i * 6 + j) * 6 + k) x else g) r) I J A B R Q) := by
  by_cases q1 : i < m
  · by_cases q2 : j < m
    · by_cases q3 : k < m
      · simp (disch := first | omega | exact zb_1 | exact zb_0 | exact zb_n1 | exact zb_n0) only [x100_0, x100_0N, x100_1, x100_2, x100_5, x100_8, x100_8N, x100_9, x100_10, x100_13, x100_16, x100_16N, x100_17, x100_18, x100_21, x100_24, x100_24N, x100_25, x100_28, x100_29, x100_31, x100_32, x100_33, x100_34, x100_36, x100_37, x100_38, x100_39, x100_41, x100_42, mq_dl_int, mq_dl_ref, mq_dl_null, mq_dl_none, mc_some, Option.toList_some, Option.toList_none, List.cons_append, List.nil_append, zb_1, zb_0, ↓reduceIte, if_true, if_false, not_true_eq_false, not_false_eq_true, Bool.false_eq_true, z_10, z_01, eq_self, Bool.and_self, true_or, or_true, false_or, or_false, true_and, and_true, false_and, and_false, and_self, or_self, Nat.reduceLT, Nat.reduceEqDiff, Nat.reduceLeDiff, Nat.reduceAdd, Nat.reduceMul, Nat.reduceSub, zn_lit, zn_add, zn_mul, zn_sub, zn_addneg, zn_lt, zn_le, zn_eq, zn_clamp, zn_in, zn_long, tc_0 ha, tc_mo ha, tc_f1 ha, tc_i1 ha, tc_g1 ha, tc_n1 ha, tc_w1 ha, B_has ha hm, q1, q2, q3, upd_zu, show (i * 6 + j) * 6 + k < 216 by omega, decide_true]
      · simp (disch := first | omega | exact zb_1 | exact zb_0 | exact zb_n1 | exact zb_n0) only [x100_0, x100_0N, x100_1, x100_2, x100_5, x100_8, x100_8N, x100_9, x100_10, x100_13, x100_16, x100_16N, x100_17, x100_18, x100_21, x100_24, x100_24N, x100_25, x100_28, x100_29, x100_31, x100_32, x100_33, x100_34, x100_36, x100_37, x100_38, x100_39, x100_41, x100_42, mq_dl_int, mq_dl_ref, mq_dl_null, mq_dl_none, mc_some, Option.toList_some, Option.toList_none, List.cons_append, List.nil_append, zb_1, zb_0, ↓reduceIte, if_true, if_false, not_true_eq_false, not_false_eq_true, Bool.false_eq_true, z_10, z_01, eq_self, Bool.and_self, true_or, or_true, false_or, or_false, true_and, and_true, false_and, and_false, and_self, or_self, Nat.reduceLT, Nat.reduceEqDiff, Nat.reduceLeDiff, Nat.reduceAdd, Nat.reduceMul, Nat.reduceSub, zn_lit, zn_add, zn_mul, zn_sub, zn_addneg, zn_lt, zn_le, zn_eq, zn_clamp, zn_in, zn_long, tc_0 ha, B_has ha hm, q1, q2, q3]
    · simp (disch := first | omega | exact zb_1 | exact zb_0 | exact zb_n1 | exact zb_n0) only [x100_0, x100_0N, x100_1, x100_2, x100_5, x100_8, x100_8N, x100_9, x100_10, x100_13, x100_16, x100_16N, x100_17, x100_18, x100_21, x100_24, x100_24N, x100_25, x100_28, x100_29, x100_31, x100_32, x100_33, x100_34, x100_36, x100_37, x100_38, x100_39, x100_41, x100_42, mq_dl_int, mq_dl_ref, mq_dl_null, mq_dl_none, mc_some, Option.toList_some, Option.toList_none, List.cons_append, List.nil_append, zb_1, zb_0, ↓reduceIte, if_true, if_false, not_true_eq_false, not_false_eq_true, Bool.false_eq_true, z_10, z_01, eq_self, Bool.and_self, true_or, or_true, false_or, or_false, true_and, and_true, false_and, and_false, and_self, or_self, Nat.reduceLT, Nat.reduceEqDiff, Nat.reduceLeDiff, Nat.reduceAdd, Nat.reduceMul, Nat.reduceSub, zn_lit, zn_add, zn_mul, zn_sub, zn_addneg, zn_lt, zn_le, zn_eq, zn_clamp, zn_in, zn_long, tc_0 ha, B_has ha hm, q1, q2]
  · simp (disch := first | omega | exact zb_1 | exact zb_0 | exact zb_n1 | exact zb_n0) only [x100_0, x100_0N, x100_1, x100_2, x100_5, x100_8, x100_8N, x100_9, x100_10, x100_13, x100_16, x100_16N, x100_17, x100_18, x100_21, x100_24, x100_24N, x100_25, x100_28, x100_29, x100_31, x100_32, x100_33, x100_34, x100_36, x100_37, x100_38, x100_39, x100_41, x100_42, mq_dl_int, mq_dl_ref, mq_dl_null, mq_dl_none, mc_some, Option.toList_some, Option.toList_none, List.cons_append, List.nil_append, zb_1, zb_0, ↓reduceIte, if_true, if_false, not_true_eq_false, not_false_eq_true, Bool.false_eq_true, z_10, z_01, eq_self, Bool.and_self, true_or, or_true, false_or, or_false, true_and, and_true, false_and, and_false, and_self, or_self, Nat.reduceLT, Nat.reduceEqDiff, Nat.reduceLeDiff, Nat.reduceAdd, Nat.reduceMul, Nat.reduceSub, zn_lit, zn_add, zn_mul, zn_sub, zn_addneg, zn_lt, zn_le, zn_eq, zn_clamp, zn_in, zn_long, tc_0 ha, B_has ha hm, q1]
theorem B_both (ha : 46 ≤ a) (hm : m ≤ 6) (d i j k : Nat) (hi : i < m) (hj : j < m) (hk : k < m) (x : Int32) : mz (d + 2) 101 0 [some (.ref a), some (.int (zn i)), some (.int (zn j)), some (.int (zn k)), some (.int x)] [] (hp n s (tc c a m g r) I J A B R Q) = some (some none, hp n s (tc c a m (zu (zu g ((i * 6 + j) * 6 + k) x) ((j * 6 + i) * 6 + k) x) r) I J A B R Q) := by
  simp (disch := first | omega | exact zb_1 | exact zb_0 | exact zb_n1 | exact zb_n0) only [x101_0, x101_0N, x101_1, x101_2, x101_3, x101_4, x101_6, x101_9, x101_9N, x101_10, x101_11, x101_12, x101_13, x101_15, x101_18, mq_dl_int, mq_dl_ref, mq_dl_null, mq_dl_none, mc_some, Option.toList_some, Option.toList_none, List.cons_append, List.nil_append, zb_1, zb_0, ↓reduceIte, if_true, if_false, not_true_eq_false, not_false_eq_true, Bool.false_eq_true, z_10, z_01, eq_self, Bool.and_self, true_or, or_true, false_or, or_false, true_and, and_true, false_and, and_false, and_self, or_self, Nat.reduceLT, Nat.reduceEqDiff, Nat.reduceLeDiff, Nat.reduceAdd, Nat.reduceMul, Nat.reduceSub, zn_lit, zn_add, zn_mul, zn_sub, zn_addneg, zn_lt, zn_le, zn_eq, zn_clamp, zn_in, zn_long, tc_0 ha, B_put ha hm, hi, hj, hk]
theorem B_rev (ha : 46 ≤ a) (hm : m ≤ 6) (d i j : Nat) (hi : i < m) (hj : j < m) : mz (d + 1) 103 0 [some (.ref a), some (.int (zn i)), some (.int (zn j))] [] (hp n s (tc c a m g r) I J A B R Q) = some (some none, hp n s (tc c a m g (zu r i (zn j))) I J A B R Q) := by
  simp (disch := first | omega | exact zb_1 | exact zb_0 | exact zb_n1 | exact zb_n0) only [x103_0, x103_0N, x103_1, x103_2, x103_5, x103_8, x103_8N, x103_9, x103_10, x103_13, x103_16, x103_16N, x103_17, x103_20, x103_21, x103_22, x103_23, mq_dl_int, mq_dl_ref, mq_dl_null, mq_dl_none, mc_some, Option.toList_some, Option.toList_none, List.cons_append, List.nil_append, zb_1, zb_0, ↓reduceIte, if_true, if_false, not_true_eq_false, not_false_eq_true, Bool.false_eq_true, z_10, z_01, eq_self, Bool.and_self, true_or, or_true, false_or, or_false, true_and, and_true, false_and, and_false, and_self, or_self, Nat.reduceLT, Nat.reduceEqDiff, Nat.reduceLeDiff, Nat.reduceAdd, Nat.reduceMul, Nat.reduceSub, zn_lit, zn_add, zn_mul, zn_sub, zn_addneg, zn_lt, zn_le, zn_eq, zn_clamp, zn_in, zn_long, tc_0 ha, tc_mo ha, tc_f2 ha, tc_i2 ha, tc_g2 ha, tc_n2 ha, tc_w2 ha, B_has ha hm, hi, hj, upd_zu, show i < 6 by omega, decide_true]
theorem B_share (ha : 46 ≤ a) (d i j k : Nat) (hi : i < 6) (hj : j < 6) (hk : k < 6) : mz d 99 0 [some (.ref a), some (.int (zn i)), some (.int (zn j)), some (.int (zn k)), none] [] (hp n s (tc c a m g r) I J A B R Q) = some (some (some (.int (g ((i * 6 + j) * 6 + k)))), hp n s (tc c a m g r) I J A B R Q) := by
  simp (disch := first | omega | exact zb_1 | exact zb_0 | exact zb_n1 | exact zb_n0) only [x99_0, x99_1, x99_3, x99_4, x99_5, x99_6, x99_8, x99_9, x99_10, x99_11, x99_13, x99_15, x99_18, x99_20, x99_23, x99_26, x99_26N, x99_27, x99_30, x99_32, x99_33, x99_37, x99_36, mq_dl_int, mq_dl_ref, mq_dl_null, mq_dl_none, mc_some, Option.toList_some, Option.toList_none, List.cons_append, List.nil_append, zb_1, zb_0, ↓reduceIte, if_true, if_false, not_true_eq_false, not_false_eq_true, Bool.false_eq_true, z_10, z_01, eq_self, Bool.and_self, true_or, or_true, false_or, or_false, true_and, and_true, false_and, and_false, and_self, or_self, Nat.reduceLT, Nat.reduceEqDiff, Nat.reduceLeDiff, Nat.reduceAdd, Nat.reduceMul, Nat.reduceSub, zn_lit, zn_add, zn_mul, zn_sub, zn_addneg, zn_lt, zn_le, zn_eq, zn_clamp, zn_in, zn_long, tc_mo ha, tc_f1 ha, tc_i1 ha, tc_g1 ha, Nat.not_lt_zero, show ¬ 216 ≤ (i * 6 + j) * 6 + k by omega, show (i * 6 + j) * 6 + k < 216 by omega, decide_true]
theorem B_il (ha : 46 ≤ a) (hm : m ≤ 6) (d : Nat) (o : Int32) : ∀ (t k : Nat) (r : Nat → Int32), k + t = m → mz d 95 67 [some (.ref a), some (.int o), some (.int (zn k))] [] (hp n s (tc c a m g r) I J A B R Q) = some (some none, hp n s (tc c a m g (zfl zn r k t)) I J A B R Q) := by
  intro t
  induction t with
  | zero =>
    intro k r hk
    have e : k = m := by omega
    subst e
    simp (disch := first | omega | exact zb_1 | exact zb_0 | exact zb_n1 | exact zb_n0) only [x95_0, x95_0N, x95_1, x95_4, x95_4N, x95_5, x95_8, x95_10, x95_13, x95_13N, x95_14, x95_16, x95_18, x95_21, x95_21N, x95_22, x95_23, x95_26, x95_26N, x95_27, x95_28, x95_31, x95_31N, x95_32, x95_33, x95_36, x95_36N, x95_37, x95_38, x95_41, x95_41N, x95_42, x95_43, x95_46, x95_46N, x95_47, x95_48, x95_51, x95_51N, x95_52, x95_53, x95_54, x95_56, x95_59, x95_62, x95_65, x95_66, x95_67, x95_68, x95_68N, x95_69, x95_72, x95_75, x95_75N, x95_76, x95_79, x95_80, x95_81, x95_82, x95_85, x95_88, mq_dl_int, mq_dl_ref, mq_dl_null, mq_dl_none, mc_some, Option.toList_some, Option.toList_none, List.cons_append, List.nil_append, zb_1, zb_0, ↓reduceIte, if_true, if_false, not_true_eq_false, not_false_eq_true, Bool.false_eq_true, z_10, z_01, eq_self, Bool.and_self, true_or, or_true, false_or, or_false, true_and, and_true, false_and, and_false, and_self, or_self, Nat.reduceLT, Nat.reduceEqDiff, Nat.reduceLeDiff, Nat.reduceAdd, Nat.reduceMul, Nat.reduceSub, zn_lit, zn_add, zn_mul, zn_sub, zn_addneg, zn_lt, zn_le, zn_eq, zn_clamp, zn_in, zn_long, tc_mo ha, tc_f0 ha, Nat.le_refl, zfl_0]
  | succ t ih =>
    intro k r hk
    rw [← zfl_s, ← ih (k + 1) _ (by omega), x95_67]
    simp (disch := first | omega | exact zb_1 | exact zb_0 | exact zb_n1 | exact zb_n0) only [x95_68, x95_69, x95_72, x95_75, x95_76, x95_79, x95_80, x95_81, x95_82, x95_85, mq_dl_int, mq_dl_ref, mq_dl_null, mq_dl_none, mc_some, Option.toList_some, Option.toList_none, List.cons_append, List.nil_append, zb_1, zb_0, ↓reduceIte, if_true, if_false, not_true_eq_false, not_false_eq_true, Bool.false_eq_true, z_10, z_01, eq_self, Bool.and_self, true_or, or_true, false_or, or_false, true_and, and_true, false_and, and_false, and_self, or_self, Nat.reduceLT, Nat.reduceEqDiff, Nat.reduceLeDiff, Nat.reduceAdd, Nat.reduceMul, Nat.reduceSub, zn_lit, zn_add, zn_mul, zn_sub, zn_addneg, zn_lt, zn_le, zn_eq, zn_clamp, zn_in, zn_long, tc_mo ha, tc_f0 ha, tc_f2 ha, tc_i2 ha, tc_g2 ha, tc_n2 ha, tc_w2 ha, upd_zu, show ¬ m ≤ k by omega, show k < 6 by omega, decide_true]
end TC
/-! CELLS that were made while the program ran -/
def eo (e : mq_E) (ci k : Nat) : Bool := match e with
  | .inr (cj, fs) => decide (cj = ci) && decide (k < fs.length)
  | _ => false
def eo0 (e : mq_E) (ci : Nat) : Bool := match e with
  | .inr (cj, _) => decide (cj = ci)
  | _ => false
def efs (e : mq_E) : List Value := match e with
  | .inr (_, fs) => fs
  | _ => []
def eai (e : mq_E) (kd kd2 : Nat) (i : Int32) : Bool := match e with
  | .inl (k, n, .inl _) => (decide (k = kd) || decide (k = kd2)) && mq_in i n
  | _ => false
def eag (e : mq_E) : Nat → Int32 := match e with
  | .inl (_, _, .inl g) => g
  | _ => fun _ => 0
def ean (e : mq_E) : Nat := match e with
  | .inl (_, n, _) => n
  | _ => 0
def eal (e : mq_E) (i : Int32) : Bool := match e with
  | .inl (k, n, .inr (.inl _)) => decide (k = 3) && mq_in i n
  | _ => false
def elg (e : mq_E) : Nat → Int64 := match e with
  | .inl (_, _, .inr (.inl g)) => g
  | _ => fun _ => 0
section DY
variable {n s : Nat} {c : Nat → mq_E} {I : Nat → Int32} {J : Nat → Int64} {A : Nat → Nat → Int32} {B : Nat → Nat → Int64} {R : Nat → Value} {Q : Nat → Nat → Option Nat}
variable (a : Nat)
theorem hpoB (ci k : Nat) (ha : 46 ≤ a) : mo (hp n s c I J A B R Q) a ci k = eo (c a) ci k := by
  unfold mo; rw [hp_c _ _ _ _ _ _ _ _ _ a (hs_big _ ha)]; rfl
theorem hpo0B (ci : Nat) (ha : 46 ≤ a) : mo0 (hp n s c I J A B R Q) a ci = eo0 (c a) ci := by
  unfold mo0; rw [hp_c _ _ _ _ _ _ _ _ _ a (hs_big _ ha)]; rfl
theorem hpfsB (ha : 46 ≤ a) : mfs (hp n s c I J A B R Q) a = efs (c a) := by
  unfold mfs; rw [hp_c _ _ _ _ _ _ _ _ _ a (hs_big _ ha)]; rfl
theorem hpfB (k : Nat) (ha : 46 ≤ a) : mf (hp n s c I J A B R Q) a k = (efs (c a)).getD k .null := by
  unfold mf; rw [hpfsB a ha]
theorem haiB (kd kd2 : Nat) (i : Int32) (ha : 46 ≤ a) : mai (hp n s c I J A B R Q) a kd kd2 i = eai (c a) kd kd2 i := by
  unfold mai; rw [hp_c _ _ _ _ _ _ _ _ _ a (hs_big _ ha)]; rfl
theorem hagB (ha : 46 ≤ a) : mag (hp n s c I J A B R Q) a = eag (c a) := by
  unfold mag; rw [hp_c _ _ _ _ _ _ _ _ _ a (hs_big _ ha)]; rfl
theorem hanB (ha : 46 ≤ a) : man (hp n s c I J A B R Q) a = ean (c a) := by
  unfold man; rw [hp_c _ _ _ _ _ _ _ _ _ a (hs_big _ ha)]; rfl
theorem halB (i : Int32) (ha : 46 ≤ a) : mal (hp n s c I J A B R Q) a i = eal (c a) i := by
  unfold mal; rw [hp_c _ _ _ _ _ _ _ _ _ a (hs_big _ ha)]; rfl
theorem hlgB (ha : 46 ≤ a) : mlg (hp n s c I J A B R Q) a = elg (c a) := by
  unfold mlg; rw [hp_c _ _ _ _ _ _ _ _ _ a (hs_big _ ha)]; rfl
theorem hp_mkB (w : Nat) (e : mq_E) (ha : 46 ≤ n) : mq_mk (hp n s c I J A B R Q) w e = hp (n + 1) (s + w) (mq_up c n e) I J A B R Q := hp_mk n s c I J A B R Q w e (hs_big _ ha)
theorem hp_wcB (e : mq_E) (ha : 46 ≤ a) : mq_wr (hp n s c I J A B R Q) a e = hp n s (mq_up c a e) I J A B R Q := hp_wc n s c I J A B R Q a e (hs_big _ ha)
end DY
theorem eo_i (cj : Nat) (fs : List Value) (ci k : Nat) : eo (.inr (cj, fs)) ci k = (decide (cj = ci) && decide (k < fs.length)) := rfl
theorem eo0_i (cj : Nat) (fs : List Value) (ci : Nat) : eo0 (.inr (cj, fs)) ci = decide (cj = ci) := rfl
theorem efs_i (cj : Nat) (fs : List Value) : efs (.inr (cj, fs)) = fs := rfl
theorem eai_i (k n : Nat) (g : Nat → Int32) (kd kd2 : Nat) (i : Int32) : eai (.inl (k, n, .inl g)) kd kd2 i = ((decide (k = kd) || decide (k = kd2)) && mq_in i n) := rfl
theorem eag_i (k n : Nat) (g : Nat → Int32) : eag (.inl (k, n, .inl g)) = g := rfl
theorem ean_i (k n : Nat) (g : Nat → Int32) : ean (.inl (k, n, .inl g)) = n := rfl
theorem ean_l (k n : Nat) (g : Nat → Int64) : ean (.inl (k, n, .inr (.inl g))) = n := rfl
theorem eal_i (k n : Nat) (g : Nat → Int64) (i : Int32) : eal (.inl (k, n, .inr (.inl g))) i = (decide (k = 3) && mq_in i n) := rfl
theorem elg_i (k n : Nat) (g : Nat → Int64) : elg (.inl (k, n, .inr (.inl g))) = g := rfl
theorem up_m1 (f : Nat → mq_E) (g : Nat) (x z : mq_E) (b1 : Nat) (y1 : mq_E) (h1 : g ≠ b1) : mq_up (mq_up (mq_up f g x) b1 y1) g z = mq_up (mq_up f g z) b1 y1 := by rw [up_comm _ b1 g _ _ (Ne.symm h1), up_up]
theorem up_m2 (f : Nat → mq_E) (g : Nat) (x z : mq_E) (b1 b2 : Nat) (y1 y2 : mq_E) (h1 : g ≠ b1) (h2 : g ≠ b2) : mq_up (mq_up (mq_up (mq_up f g x) b1 y1) b2 y2) g z = mq_up (mq_up (mq_up f g z) b1 y1) b2 y2 := by rw [up_comm _ b2 g _ _ (Ne.symm h2), up_m1 _ _ _ _ _ _ h1]
theorem up_m3 (f : Nat → mq_E) (g : Nat) (x z : mq_E) (b1 b2 b3 : Nat) (y1 y2 y3 : mq_E) (h1 : g ≠ b1) (h2 : g ≠ b2) (h3 : g ≠ b3) : mq_up (mq_up (mq_up (mq_up (mq_up f g x) b1 y1) b2 y2) b3 y3) g z = mq_up (mq_up (mq_up (mq_up f g z) b1 y1) b2 y2) b3 y3 := by rw [up_comm _ b3 g _ _ (Ne.symm h3), up_m2 _ _ _ _ _ _ _ _ h1 h2]
theorem up_m4 (f : Nat → mq_E) (g : Nat) (x z : mq_E) (b1 b2 b3 b4 : Nat) (y1 y2 y3 y4 : mq_E) (h1 : g ≠ b1) (h2 : g ≠ b2) (h3 : g ≠ b3) (h4 : g ≠ b4) : mq_up (mq_up (mq_up (mq_up (mq_up (mq_up f g x) b1 y1) b2 y2) b3 y3) b4 y4) g z = mq_up (mq_up (mq_up (mq_up (mq_up f g z) b1 y1) b2 y2) b3 y3) b4 y4 := by rw [up_comm _ b4 g _ _ (Ne.symm h4), up_m3 _ _ _ _ _ _ _ _ _ _ h1 h2 h3]
theorem up_m5 (f : Nat → mq_E) (g : Nat) (x z : mq_E) (b1 b2 b3 b4 b5 : Nat) (y1 y2 y3 y4 y5 : mq_E) (h1 : g ≠ b1) (h2 : g ≠ b2) (h3 : g ≠ b3) (h4 : g ≠ b4) (h5 : g ≠ b5) : mq_up (mq_up (mq_up (mq_up (mq_up (mq_up (mq_up f g x) b1 y1) b2 y2) b3 y3) b4 y4) b5 y5) g z = mq_up (mq_up (mq_up (mq_up (mq_up (mq_up f g z) b1 y1) b2 y2) b3 y3) b4 y4) b5 y5 := by rw [up_comm _ b5 g _ _ (Ne.symm h5), up_m4 _ _ _ _ _ _ _ _ _ _ _ _ h1 h2 h3 h4]
theorem up_m6 (f : Nat → mq_E) (g : Nat) (x z : mq_E) (b1 b2 b3 b4 b5 b6 : Nat) (y1 y2 y3 y4 y5 y6 : mq_E) (h1 : g ≠ b1) (h2 : g ≠ b2) (h3 : g ≠ b3) (h4 : g ≠ b4) (h5 : g ≠ b5) (h6 : g ≠ b6) : mq_up (mq_up (mq_up (mq_up (mq_up (mq_up (mq_up (mq_up f g x) b1 y1) b2 y2) b3 y3) b4 y4) b5 y5) b6 y6) g z = mq_up (mq_up (mq_up (mq_up (mq_up (mq_up (mq_up f g z) b1 y1) b2 y2) b3 y3) b4 y4) b5 y5) b6 y6 := by rw [up_comm _ b6 g _ _ (Ne.symm h6), up_m5 _ _ _ _ _ _ _ _ _ _ _ _ _ _ h1 h2 h3 h4 h5]
theorem up_m7 (f : Nat → mq_E) (g : Nat) (x z : mq_E) (b1 b2 b3 b4 b5 b6 b7 : Nat) (y1 y2 y3 y4 y5 y6 y7 : mq_E) (h1 : g ≠ b1) (h2 : g ≠ b2) (h3 : g ≠ b3) (h4 : g ≠ b4) (h5 : g ≠ b5) (h6 : g ≠ b6) (h7 : g ≠ b7) : mq_up (mq_up (mq_up (mq_up (mq_up (mq_up (mq_up (mq_up (mq_up f g x) b1 y1) b2 y2) b3 y3) b4 y4) b5 y5) b6 y6) b7 y7) g z = mq_up (mq_up (mq_up (mq_up (mq_up (mq_up (mq_up (mq_up f g z) b1 y1) b2 y2) b3 y3) b4 y4) b5 y5) b6 y6) b7 y7 := by rw [up_comm _ b7 g _ _ (Ne.symm h7), up_m6 _ _ _ _ _ _ _ _ _ _ _ _ _ _ _ _ h1 h2 h3 h4 h5 h6]
theorem up_m8 (f : Nat → mq_E) (g : Nat) (x z : mq_E) (b1 b2 b3 b4 b5 b6 b7 b8 : Nat) (y1 y2 y3 y4 y5 y6 y7 y8 : mq_E) (h1 : g ≠ b1) (h2 : g ≠ b2) (h3 : g ≠ b3) (h4 : g ≠ b4) (h5 : g ≠ b5) (h6 : g ≠ b6) (h7 : g ≠ b7) (h8 : g ≠ b8) : mq_up (mq_up (mq_up (mq_up (mq_up (mq_up (mq_up (mq_up (mq_up (mq_up f g x) b1 y1) b2 y2) b3 y3) b4 y4) b5 y5) b6 y6) b7 y7) b8 y8) g z = mq_up (mq_up (mq_up (mq_up (mq_up (mq_up (mq_up (mq_up (mq_up f g z) b1 y1) b2 y2) b3 y3) b4 y4) b5 y5) b6 y6) b7 y7) b8 y8 := by rw [up_comm _ b8 g _ _ (Ne.symm h8), up_m7 _ _ _ _ _ _ _ _ _ _ _ _ _ _ _ _ _ _ h1 h2 h3 h4 h5 h6 h7]
theorem up_m9 (f : Nat → mq_E) (g : Nat) (x z : mq_E) (b1 b2 b3 b4 b5 b6 b7 b8 b9 : Nat) (y1 y2 y3 y4 y5 y6 y7 y8 y9 : mq_E) (h1 : g ≠ b1) (h2 : g ≠ b2) (h3 : g ≠ b3) (h4 : g ≠ b4) (h5 : g ≠ b5) (h6 : g ≠ b6) (h7 : g ≠ b7) (h8 : g ≠ b8) (h9 : g ≠ b9) : mq_up (mq_up (mq_up (mq_up (mq_up (mq_up (mq_up (mq_up (mq_up (mq_up (mq_up f g x) b1 y1) b2 y2) b3 y3) b4 y4) b5 y5) b6 y6) b7 y7) b8 y8) b9 y9) g z = mq_up (mq_up (mq_up (mq_up (mq_up (mq_up (mq_up (mq_up (mq_up (mq_up f g z) b1 y1) b2 y2) b3 y3) b4 y4) b5 y5) b6 y6) b7 y7) b8 y8) b9 y9 := by rw [up_comm _ b9 g _ _ (Ne.symm h9), up_m8 _ _ _ _ _ _ _ _ _ _ _ _ _ _ _ _ _ _ _ _ h1 h2 h3 h4 h5 h6 h7 h8]
