/-! LAW and SMALLNESS: the class -/
section SM
variable {n s : Nat} {c : Nat → mq_E} {I : Nat → Int32} {J : Nat → Int64} {A : Nat → Nat → Int32} {B : Nat → Nat → Int64} {R : Nat → Value} {Q : Nat → Nat → Option Nat}
variable {a : Nat} {T : ZT} {b bi bj bk : Int32} {rs gs : Value}
theorem C_law (hT : TB c a T) (hW : WT T) (hR : R 804 = .ref a) (hc : c a = tbo T.1 a b bi bj bk rs gs) (hv : b = -1 ∨ jd T b bi bj bk) (d : Nat) (x : Int32) : ∃ b' bi' bj' bk', jd T b' bi' bj' bk' ∧ mz (d + 5) 150 0 [some (.ref 0), some (.int x), none] [] (hp n s c I J A B R Q) = some (some (some (.int (laT T x))), hp n s (mq_up c a (tbo T.1 a b' bi' bj' bk' rs gs)) I J A B R Q) := by
  obtain ⟨b', bi', bj', bk', hj, e⟩ := T_brk (n := n) (s := s) (c := c) (I := I) (J := J) (A := A) (B := B) (R := R) (Q := Q) hT hW hc hv d
  refine ⟨b', bi', bj', bk', hj, ?_⟩
  have h1 : blT T ≤ 4 := blT_le
  have h2 : (blT T = 0) = (gdT T = true) := blT_0
  have hT1 := TB_up hT b' bi' bj' bk' rs gs
  have hc1 := up_eq c a (tbo T.1 a b' bi' bj' bk' rs gs)
  unfold laT
  by_cases x0 : x = zn 0
  · subst x0
    simp (disch := first | omega | exact zb_1 | exact zb_0 | exact zb_n1 | exact zb_n0) only [x150_0, x150_0N, x150_1, x150_4, x150_7, x150_7N, x150_8, x150_9, x150_12, x150_12N, x150_13, x150_16, x150_17, x150_17N, x150_18, x150_21, x150_24, x150_25, x150_33, x150_28, x150_28N, x150_29, x150_30, x34_0, x34_0N, x34_1, x34_4, x34_4N, mq_dl_int, mq_dl_ref, mq_dl_null, mq_dl_none, mc_some, Option.toList_some, Option.toList_none, List.cons_append, List.nil_append, zb_1, zb_0, ↓reduceIte, if_true, if_false, not_true_eq_false, not_false_eq_true, Bool.false_eq_true, z_10, z_01, eq_self, Bool.and_self, true_or, or_true, false_or, or_false, true_and, and_true, false_and, and_false, and_self, or_self, Nat.reduceLT, Nat.reduceEqDiff, Nat.reduceLeDiff, Nat.reduceAdd, Nat.reduceMul, Nat.reduceSub, zn_lit, zn_add, zn_mul, zn_sub, zn_addneg, zn_lt, zn_le, zn_eq, zn_clamp, zn_in, zn_long, hp_1, hp_21, upd_zu, updL_zu, updQ_zu, zu_eq, zu_ne, ho_0, ho_0_0, hf_0_0, ho_0_1, hf_0_1, ho_0_2, hf_0_2, ho_0_3, hf_0_3, ho_0_4, hf_0_4, ho_0_5, hf_0_5, ho_0_6, hf_0_6, ho_0_7, hf_0_7, hk_0_7, hw_0_7, ho_1, ho_1_0, hf_1_0, ho_1_1, hf_1_1, hk_1_1, hw_1_1, ho_1_2, hf_1_2, hk_1_2, hw_1_2, ho_1_3, hf_1_3, hk_1_3, hw_1_3, ho_1_4, hf_1_4, hk_1_4, hw_1_4, ho_1_5, hf_1_5, hk_1_5, hw_1_5, hn_2, hi_2, hg_2, hu_2, ho_3, ho_3_0, hf_3_0, ho_3_1, hf_3_1, ho_3_2, hf_3_2, hk_3_2, hw_3_2, ho_3_3, hf_3_3, hk_3_3, hw_3_3, hn_4, hi_4, hj_4, hg_4, hu_4, ho_5, ho_5_0, hf_5_0, ho_5_1, hf_5_1, ho_5_2, hf_5_2, ho_5_3, hf_5_3, hk_5_3, hw_5_3, ho_6, ho_6_0, hf_6_0, ho_6_1, hf_6_1, ho_6_2, hf_6_2, ho_6_3, hf_6_3, hk_6_3, hw_6_3, hn_7, hi_7, hj_7, hg_7, hu_7, hn_8, hi_8, hj_8, hg_8, hu_8, hn_9, hi_9, hj_9, hg_9, hu_9, ho_10, ho_10_0, hf_10_0, ho_10_1, hf_10_1, ho_10_2, hf_10_2, ho_10_3, hf_10_3, hk_10_3, hw_10_3, ho_10_4, hf_10_4, hk_10_4, hkN_10_4, hw_10_4, hn_11, hi_11, hj_11, hg_11, hu_11, hn_12, hi_12, hj_12, hg_12, hu_12, hn_13, hi_13, hj_13, hg_13, hu_13, hn_14, hi_14, hg_14, hu_14, hn_15, hi_15, hg_15, hu_15, ho_16, ho_16_0, hf_16_0, ho_16_1, hf_16_1, ho_16_2, hf_16_2, hk_16_2, hw_16_2, ho_16_3, hf_16_3, hk_16_3, hw_16_3, ho_16_4, hf_16_4, hk_16_4, hkN_16_4, hw_16_4, hn_17, hi_17, hg_17, hu_17, hn_18, hi_18, hg_18, hu_18, hn_22, hi_22, hg_22, hu_22, hR, tb_0 hT, e]
  · unfold gdT at h2
    cases hb : brk T with
    | none =>
      rw [hb] at h2
      simp (disch := first | omega | exact zb_1 | exact zb_0 | exact zb_n1 | exact zb_n0) only [x150_0, x150_0N, x150_1, x150_4, x150_7, x150_7N, x150_8, x150_9, x150_12, x150_12N, x150_13, x150_16, x150_17, x150_17N, x150_18, x150_21, x150_24, x150_25, x150_33, x150_28, x150_28N, x150_29, x150_30, x34_0, x34_0N, x34_1, x34_4, x34_4N, mq_dl_int, mq_dl_ref, mq_dl_null, mq_dl_none, mc_some, Option.toList_some, Option.toList_none, List.cons_append, List.nil_append, zb_1, zb_0, ↓reduceIte, if_true, if_false, not_true_eq_false, not_false_eq_true, Bool.false_eq_true, z_10, z_01, eq_self, Bool.and_self, true_or, or_true, false_or, or_false, true_and, and_true, false_and, and_false, and_self, or_self, Nat.reduceLT, Nat.reduceEqDiff, Nat.reduceLeDiff, Nat.reduceAdd, Nat.reduceMul, Nat.reduceSub, zn_lit, zn_add, zn_mul, zn_sub, zn_addneg, zn_lt, zn_le, zn_eq, zn_clamp, zn_in, zn_long, hp_1, hp_21, upd_zu, updL_zu, updQ_zu, zu_eq, zu_ne, ho_0, ho_0_0, hf_0_0, ho_0_1, hf_0_1, ho_0_2, hf_0_2, ho_0_3, hf_0_3, ho_0_4, hf_0_4, ho_0_5, hf_0_5, ho_0_6, hf_0_6, ho_0_7, hf_0_7, hk_0_7, hw_0_7, ho_1, ho_1_0, hf_1_0, ho_1_1, hf_1_1, hk_1_1, hw_1_1, ho_1_2, hf_1_2, hk_1_2, hw_1_2, ho_1_3, hf_1_3, hk_1_3, hw_1_3, ho_1_4, hf_1_4, hk_1_4, hw_1_4, ho_1_5, hf_1_5, hk_1_5, hw_1_5, hn_2, hi_2, hg_2, hu_2, ho_3, ho_3_0, hf_3_0, ho_3_1, hf_3_1, ho_3_2, hf_3_2, hk_3_2, hw_3_2, ho_3_3, hf_3_3, hk_3_3, hw_3_3, hn_4, hi_4, hj_4, hg_4, hu_4, ho_5, ho_5_0, hf_5_0, ho_5_1, hf_5_1, ho_5_2, hf_5_2, ho_5_3, hf_5_3, hk_5_3, hw_5_3, ho_6, ho_6_0, hf_6_0, ho_6_1, hf_6_1, ho_6_2, hf_6_2, ho_6_3, hf_6_3, hk_6_3, hw_6_3, hn_7, hi_7, hj_7, hg_7, hu_7, hn_8, hi_8, hj_8, hg_8, hu_8, hn_9, hi_9, hj_9, hg_9, hu_9, ho_10, ho_10_0, hf_10_0, ho_10_1, hf_10_1, ho_10_2, hf_10_2, ho_10_3, hf_10_3, hk_10_3, hw_10_3, ho_10_4, hf_10_4, hk_10_4, hkN_10_4, hw_10_4, hn_11, hi_11, hj_11, hg_11, hu_11, hn_12, hi_12, hj_12, hg_12, hu_12, hn_13, hi_13, hj_13, hg_13, hu_13, hn_14, hi_14, hg_14, hu_14, hn_15, hi_15, hg_15, hu_15, ho_16, ho_16_0, hf_16_0, ho_16_1, hf_16_1, ho_16_2, hf_16_2, hk_16_2, hw_16_2, ho_16_3, hf_16_3, hk_16_3, hw_16_3, ho_16_4, hf_16_4, hk_16_4, hkN_16_4, hw_16_4, hn_17, hi_17, hg_17, hu_17, hn_18, hi_18, hg_18, hu_18, hn_22, hi_22, hg_22, hu_22, hR, tb_0 hT, e, x0, h2, Option.isNone_none]
    | some y =>
      rw [hb] at h2
      unfold jd at hj
      rw [hb] at hj
      simp only at hj
      simp (disch := first | omega | exact zb_1 | exact zb_0 | exact zb_n1 | exact zb_n0) only [x150_0, x150_0N, x150_1, x150_4, x150_7, x150_7N, x150_8, x150_9, x150_12, x150_12N, x150_13, x150_16, x150_17, x150_17N, x150_18, x150_21, x150_24, x150_25, x150_33, x150_28, x150_28N, x150_29, x150_30, x34_0, x34_0N, x34_1, x34_4, x34_4N, mq_dl_int, mq_dl_ref, mq_dl_null, mq_dl_none, mc_some, Option.toList_some, Option.toList_none, List.cons_append, List.nil_append, zb_1, zb_0, ↓reduceIte, if_true, if_false, not_true_eq_false, not_false_eq_true, Bool.false_eq_true, z_10, z_01, eq_self, Bool.and_self, true_or, or_true, false_or, or_false, true_and, and_true, false_and, and_false, and_self, or_self, Nat.reduceLT, Nat.reduceEqDiff, Nat.reduceLeDiff, Nat.reduceAdd, Nat.reduceMul, Nat.reduceSub, zn_lit, zn_add, zn_mul, zn_sub, zn_addneg, zn_lt, zn_le, zn_eq, zn_clamp, zn_in, zn_long, hp_1, hp_21, upd_zu, updL_zu, updQ_zu, zu_eq, zu_ne, ho_0, ho_0_0, hf_0_0, ho_0_1, hf_0_1, ho_0_2, hf_0_2, ho_0_3, hf_0_3, ho_0_4, hf_0_4, ho_0_5, hf_0_5, ho_0_6, hf_0_6, ho_0_7, hf_0_7, hk_0_7, hw_0_7, ho_1, ho_1_0, hf_1_0, ho_1_1, hf_1_1, hk_1_1, hw_1_1, ho_1_2, hf_1_2, hk_1_2, hw_1_2, ho_1_3, hf_1_3, hk_1_3, hw_1_3, ho_1_4, hf_1_4, hk_1_4, hw_1_4, ho_1_5, hf_1_5, hk_1_5, hw_1_5, hn_2, hi_2, hg_2, hu_2, ho_3, ho_3_0, hf_3_0, ho_3_1, hf_3_1, ho_3_2, hf_3_2, hk_3_2, hw_3_2, ho_3_3, hf_3_3, hk_3_3, hw_3_3, hn_4, hi_4, hj_4, hg_4, hu_4, ho_5, ho_5_0, hf_5_0, ho_5_1, hf_5_1, ho_5_2, hf_5_2, ho_5_3, hf_5_3, hk_5_3, hw_5_3, ho_6, ho_6_0, hf_6_0, ho_6_1, hf_6_1, ho_6_2, hf_6_2, ho_6_3, hf_6_3, hk_6_3, hw_6_3, hn_7, hi_7, hj_7, hg_7, hu_7, hn_8, hi_8, hj_8, hg_8, hu_8, hn_9, hi_9, hj_9, hg_9, hu_9, ho_10, ho_10_0, hf_10_0, ho_10_1, hf_10_1, ho_10_2, hf_10_2, ho_10_3, hf_10_3, hk_10_3, hw_10_3, ho_10_4, hf_10_4, hk_10_4, hkN_10_4, hw_10_4, hn_11, hi_11, hj_11, hg_11, hu_11, hn_12, hi_12, hj_12, hg_12, hu_12, hn_13, hi_13, hj_13, hg_13, hu_13, hn_14, hi_14, hg_14, hu_14, hn_15, hi_15, hg_15, hu_15, ho_16, ho_16_0, hf_16_0, ho_16_1, hf_16_1, ho_16_2, hf_16_2, hk_16_2, hw_16_2, ho_16_3, hf_16_3, hk_16_3, hw_16_3, ho_16_4, hf_16_4, hk_16_4, hkN_16_4, hw_16_4, hn_17, hi_17, hg_17, hu_17, hn_18, hi_18, hg_18, hu_18, hn_22, hi_22, hg_22, hu_22, hR, tb_0 hT, e, x0, h2, Option.isNone_some, tb_0 hT1]
      by_cases q : x.toInt < 1 ∨ 3 < x.toInt
      · have a0 : ∀ k : Nat, 1 ≤ k → k ≤ 3 → ¬ x = zn k := by
          intro k h3 h4 h5
          subst h5
          rw [zn_toInt k (by omega)] at q
          omega
        have a2 := a0 1 (by omega) (by omega)
        have a3 := a0 2 (by omega) (by omega)
        have a4 := a0 3 (by omega) (by omega)
        simp (disch := first | exact q | omega) only [x107_0, x107_1_out, x107_43, x107_44, x150_33, mq_dl_int, mq_dl_ref, mq_dl_null, mq_dl_none, mc_some, Option.toList_some, Option.toList_none, List.cons_append, List.nil_append, zb_1, zb_0, ↓reduceIte, if_true, if_false, not_true_eq_false, not_false_eq_true, Bool.false_eq_true, z_10, z_01, eq_self, Bool.and_self, true_or, or_true, false_or, or_false, true_and, and_true, false_and, and_false, and_self, or_self, Nat.reduceLT, Nat.reduceEqDiff, Nat.reduceLeDiff, Nat.reduceAdd, Nat.reduceMul, Nat.reduceSub, zn_lit, zn_add, zn_mul, zn_sub, zn_addneg, zn_lt, zn_le, zn_eq, zn_clamp, zn_in, zn_long, a2, a3, a4]
      · obtain ⟨k, rfl, h3, h4⟩ := zn_sw x 1 3 (by omega) q
        have hk : k = 1 ∨ k = 2 ∨ k = 3 := by omega
        rcases hk with rfl | rfl | rfl
        · have p : mz (d + 4) 107 0 [some (.ref a), some (.int (zn 1))] [] (hp n s (mq_up c a (tbo T.1 a b' bi' bj' bk' rs gs)) I J A B R Q) = some (some (some (.int bi')), hp n s (mq_up c a (tbo T.1 a b' bi' bj' bk' rs gs)) I J A B R Q) := by
            rw [show zn 1 = 1 from rfl]
            simp (disch := first | omega | exact zb_1 | exact zb_0 | exact zb_n1 | exact zb_n0) only [x107_0, x107_1_out, x107_1_1, x107_1_2, x107_1_3, x107_43, x107_44, x107_38, x107_38N, x107_39, x107_42, x107_33, x107_33N, x107_34, x107_37, x107_28, x107_28N, x107_29, x107_32, mq_dl_int, mq_dl_ref, mq_dl_null, mq_dl_none, mc_some, Option.toList_some, Option.toList_none, List.cons_append, List.nil_append, zb_1, zb_0, ↓reduceIte, if_true, if_false, not_true_eq_false, not_false_eq_true, Bool.false_eq_true, z_10, z_01, eq_self, Bool.and_self, true_or, or_true, false_or, or_false, true_and, and_true, false_and, and_false, and_self, or_self, tb_mo hT1, tb_f4 hT1 hc1]
          simp (disch := first | omega | exact zb_1 | exact zb_0 | exact zb_n1 | exact zb_n0) only [p, x150_33, mq_dl_int, mq_dl_ref, mq_dl_null, mq_dl_none, mc_some, Option.toList_some, Option.toList_none, List.cons_append, List.nil_append, zb_1, zb_0, ↓reduceIte, if_true, if_false, not_true_eq_false, not_false_eq_true, Bool.false_eq_true, z_10, z_01, eq_self, Bool.and_self, true_or, or_true, false_or, or_false, true_and, and_true, false_and, and_false, and_self, or_self, Nat.reduceLT, Nat.reduceEqDiff, Nat.reduceLeDiff, Nat.reduceAdd, Nat.reduceMul, Nat.reduceSub, zn_lit, zn_add, zn_mul, zn_sub, zn_addneg, zn_lt, zn_le, zn_eq, zn_clamp, zn_in, zn_long]
          rw [hj.2.1]
        · have p : mz (d + 4) 107 0 [some (.ref a), some (.int (zn 2))] [] (hp n s (mq_up c a (tbo T.1 a b' bi' bj' bk' rs gs)) I J A B R Q) = some (some (some (.int bj')), hp n s (mq_up c a (tbo T.1 a b' bi' bj' bk' rs gs)) I J A B R Q) := by
            rw [show zn 2 = 2 from rfl]
            simp (disch := first | omega | exact zb_1 | exact zb_0 | exact zb_n1 | exact zb_n0) only [x107_0, x107_1_out, x107_1_1, x107_1_2, x107_1_3, x107_43, x107_44, x107_38, x107_38N, x107_39, x107_42, x107_33, x107_33N, x107_34, x107_37, x107_28, x107_28N, x107_29, x107_32, mq_dl_int, mq_dl_ref, mq_dl_null, mq_dl_none, mc_some, Option.toList_some, Option.toList_none, List.cons_append, List.nil_append, zb_1, zb_0, ↓reduceIte, if_true, if_false, not_true_eq_false, not_false_eq_true, Bool.false_eq_true, z_10, z_01, eq_self, Bool.and_self, true_or, or_true, false_or, or_false, true_and, and_true, false_and, and_false, and_self, or_self, tb_mo hT1, tb_f5 hT1 hc1]
          simp (disch := first | omega | exact zb_1 | exact zb_0 | exact zb_n1 | exact zb_n0) only [p, x150_33, mq_dl_int, mq_dl_ref, mq_dl_null, mq_dl_none, mc_some, Option.toList_some, Option.toList_none, List.cons_append, List.nil_append, zb_1, zb_0, ↓reduceIte, if_true, if_false, not_true_eq_false, not_false_eq_true, Bool.false_eq_true, z_10, z_01, eq_self, Bool.and_self, true_or, or_true, false_or, or_false, true_and, and_true, false_and, and_false, and_self, or_self, Nat.reduceLT, Nat.reduceEqDiff, Nat.reduceLeDiff, Nat.reduceAdd, Nat.reduceMul, Nat.reduceSub, zn_lit, zn_add, zn_mul, zn_sub, zn_addneg, zn_lt, zn_le, zn_eq, zn_clamp, zn_in, zn_long]
          rw [hj.2.2.1]
        · have p : mz (d + 4) 107 0 [some (.ref a), some (.int (zn 3))] [] (hp n s (mq_up c a (tbo T.1 a b' bi' bj' bk' rs gs)) I J A B R Q) = some (some (some (.int bk')), hp n s (mq_up c a (tbo T.1 a b' bi' bj' bk' rs gs)) I J A B R Q) := by
            rw [show zn 3 = 3 from rfl]
            simp (disch := first | omega | exact zb_1 | exact zb_0 | exact zb_n1 | exact zb_n0) only [x107_0, x107_1_out, x107_1_1, x107_1_2, x107_1_3, x107_43, x107_44, x107_38, x107_38N, x107_39, x107_42, x107_33, x107_33N, x107_34, x107_37, x107_28, x107_28N, x107_29, x107_32, mq_dl_int, mq_dl_ref, mq_dl_null, mq_dl_none, mc_some, Option.toList_some, Option.toList_none, List.cons_append, List.nil_append, zb_1, zb_0, ↓reduceIte, if_true, if_false, not_true_eq_false, not_false_eq_true, Bool.false_eq_true, z_10, z_01, eq_self, Bool.and_self, true_or, or_true, false_or, or_false, true_and, and_true, false_and, and_false, and_self, or_self, tb_mo hT1, tb_f6 hT1 hc1]
          simp (disch := first | omega | exact zb_1 | exact zb_0 | exact zb_n1 | exact zb_n0) only [p, x150_33, mq_dl_int, mq_dl_ref, mq_dl_null, mq_dl_none, mc_some, Option.toList_some, Option.toList_none, List.cons_append, List.nil_append, zb_1, zb_0, ↓reduceIte, if_true, if_false, not_true_eq_false, not_false_eq_true, Bool.false_eq_true, z_10, z_01, eq_self, Bool.and_self, true_or, or_true, false_or, or_false, true_and, and_true, false_and, and_false, and_self, or_self, Nat.reduceLT, Nat.reduceEqDiff, Nat.reduceLeDiff, Nat.reduceAdd, Nat.reduceMul, Nat.reduceSub, zn_lit, zn_add, zn_mul, zn_sub, zn_addneg, zn_lt, zn_le, zn_eq, zn_clamp, zn_in, zn_long]
          rw [hj.2.2.2]
theorem T_small (hT : TB c a T) (hW : WT T) (hc : c a = tbo T.1 a b bi bj bk rs gs) (hv : b = -1 ∨ jd T b bi bj bk) (d : Nat) : ∃ b' bi' bj' bk', jd T b' bi' bj' bk' ∧ mz (d + 5) 108 0 [some (.ref a)] [] (hp n s c I J A B R Q) = some (some (some (.int (zo (smT T)))), hp n s (mq_up c a (tbo T.1 a b' bi' bj' bk' rs gs)) I J A B R Q) := by
  obtain ⟨b', bi', bj', bk', hj, e⟩ := T_brk (n := n) (s := s) (c := c) (I := I) (J := J) (A := A) (B := B) (R := R) (Q := Q) hT hW hc hv d
  refine ⟨b', bi', bj', bk', hj, ?_⟩
  have h1 : blT T ≤ 4 := blT_le
  have h2 : (blT T = 0) = (gdT T = true) := blT_0
  have h3 := orT_le hW
  have hT1 := TB_up hT b' bi' bj' bk' rs gs
  unfold smT
  cases q2 : gdT T with
  | true =>
    rw [q2] at h2
    by_cases q : orT T ≤ 60
    · simp (disch := first | omega | exact zb_1 | exact zb_0 | exact zb_n1 | exact zb_n0) only [x108_0, x108_0N, x108_1, x108_4, x108_7, x108_7N, x108_8, x108_11, x108_13, x108_16, x108_17, x108_21, x108_20, mq_dl_int, mq_dl_ref, mq_dl_null, mq_dl_none, mc_some, Option.toList_some, Option.toList_none, List.cons_append, List.nil_append, zb_1, zb_0, ↓reduceIte, if_true, if_false, not_true_eq_false, not_false_eq_true, Bool.false_eq_true, z_10, z_01, eq_self, Bool.and_self, true_or, or_true, false_or, or_false, true_and, and_true, false_and, and_false, and_self, or_self, Nat.reduceLT, Nat.reduceEqDiff, Nat.reduceLeDiff, Nat.reduceAdd, Nat.reduceMul, Nat.reduceSub, zn_lit, zn_add, zn_mul, zn_sub, zn_addneg, zn_lt, zn_le, zn_eq, zn_clamp, zn_in, zn_long, tb_0 hT, e, h2, tb_0 hT1, T_all hT1 hW, q, show ¬ 60 < orT T by omega, decide_true, zo_t]
    · simp (disch := first | omega | exact zb_1 | exact zb_0 | exact zb_n1 | exact zb_n0) only [x108_0, x108_0N, x108_1, x108_4, x108_7, x108_7N, x108_8, x108_11, x108_13, x108_16, x108_17, x108_21, x108_20, mq_dl_int, mq_dl_ref, mq_dl_null, mq_dl_none, mc_some, Option.toList_some, Option.toList_none, List.cons_append, List.nil_append, zb_1, zb_0, ↓reduceIte, if_true, if_false, not_true_eq_false, not_false_eq_true, Bool.false_eq_true, z_10, z_01, eq_self, Bool.and_self, true_or, or_true, false_or, or_false, true_and, and_true, false_and, and_false, and_self, or_self, Nat.reduceLT, Nat.reduceEqDiff, Nat.reduceLeDiff, Nat.reduceAdd, Nat.reduceMul, Nat.reduceSub, zn_lit, zn_add, zn_mul, zn_sub, zn_addneg, zn_lt, zn_le, zn_eq, zn_clamp, zn_in, zn_long, tb_0 hT, e, h2, tb_0 hT1, T_all hT1 hW, q, show 60 < orT T by omega, decide_false, Bool.false_and, zo_f]
  | false =>
    rw [q2] at h2
    simp (disch := first | omega | exact zb_1 | exact zb_0 | exact zb_n1 | exact zb_n0) only [x108_0, x108_0N, x108_1, x108_4, x108_7, x108_7N, x108_8, x108_11, x108_13, x108_16, x108_17, x108_21, x108_20, mq_dl_int, mq_dl_ref, mq_dl_null, mq_dl_none, mc_some, Option.toList_some, Option.toList_none, List.cons_append, List.nil_append, zb_1, zb_0, ↓reduceIte, if_true, if_false, not_true_eq_false, not_false_eq_true, Bool.false_eq_true, z_10, z_01, eq_self, Bool.and_self, true_or, or_true, false_or, or_false, true_and, and_true, false_and, and_false, and_self, or_self, Nat.reduceLT, Nat.reduceEqDiff, Nat.reduceLeDiff, Nat.reduceAdd, Nat.reduceMul, Nat.reduceSub, zn_lit, zn_add, zn_mul, zn_sub, zn_addneg, zn_lt, zn_le, zn_eq, zn_clamp, zn_in, zn_long, tb_0 hT, e, h2, Bool.and_false, zo_f]
end SM
/-! SUMS of naturals -/
theorem zns_0 : ∀ (r k : Nat), zns (fun _ => 0) k r = 0
  | 0, _ => rfl
  | r + 1, k => by simp only [zns, zns_0 r (k + 1)]
theorem zns_z {f : Nat → Nat} (r k : Nat) (h : ∀ i, k ≤ i → i < k + r → f i = 0) : zns f k r = 0 := by
  rw [zns_congr r k h]; exact zns_0 r k
theorem zns_app (f : Nat → Nat) (t : Nat) : ∀ (r k : Nat), zns f k (r + t) = zns f k r + zns f (k + r) t
  | 0, k => by simp [zns]
  | r + 1, k => by
    rw [show r + 1 + t = (r + t) + 1 by omega]
    simp only [zns]
    rw [zns_app f t r (k + 1), show k + 1 + r = k + (r + 1) by omega]
    omega
theorem zns_plus (f g : Nat → Nat) : ∀ (r k : Nat), zns (fun i => f i + g i) k r = zns f k r + zns g k r
  | 0, _ => rfl
  | r + 1, k => by
    simp only [zns]
    rw [zns_plus f g r (k + 1)]
    omega
theorem zns_times (f : Nat → Nat) (m : Nat) : ∀ (r k : Nat), zns (fun i => m * f i) k r = m * zns f k r
  | 0, _ => rfl
  | r + 1, k => by
    simp only [zns]
    rw [zns_times f m r (k + 1), Nat.mul_add]
theorem zns_timesR (f : Nat → Nat) (m : Nat) (r k : Nat) : zns (fun i => f i * m) k r = zns f k r * m := by
  rw [Nat.mul_comm, ← zns_times f m r k]
  exact zns_congr r k fun i _ _ => Nat.mul_comm _ _
theorem zns_swap (f : Nat → Nat → Nat) (q t : Nat) : ∀ (r k : Nat), zns (fun i => zns (fun j => f i j) q t) k r = zns (fun j => zns (fun i => f i j) k r) q t
  | 0, k => by
    simp only [zns]
    exact (zns_0 t q).symm
  | r + 1, k => by
    simp only [zns]
    rw [zns_swap f q t r (k + 1), ← zns_plus]
theorem zns_ge {f : Nat → Nat} : ∀ (r k i : Nat), k ≤ i → i < k + r → f i ≤ zns f k r
  | 0, k, i, h1, h2 => by omega
  | r + 1, k, i, h1, h2 => by
    simp only [zns]
    by_cases q : i = k
    · subst q; omega
    · have := zns_ge (f := f) r (k + 1) i (by omega) (by omega)
      omega
theorem zns_last (f : Nat → Nat) (r k : Nat) : zns f k (r + 1) = zns f k r + f (k + r) := by
  rw [zns_app f 1 r k]; simp [zns]
