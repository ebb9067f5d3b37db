/-! FORMULAS: sums, tests, expressions, parts of the class -/
section CF
variable {n s : Nat} {c : Nat → mq_E} {I : Nat → Int32} {J : Nat → Int64} {A : Nat → Nat → Int32} {B : Nat → Nat → Int64} {R : Nat → Value} {Q : Nat → Nat → Option Nat}
variable {L : Nat} {tp : Nat → Nat}
theorem E_sml (h : TKp L tp I A) (hS : STR c) (d dp : Nat) (P : EST → EST) (hP : ∀ e, EB e → EB (P e)) (hr : ∀ e, EB e → mz (d + 7) 92 0 [some (.ref 5), some (.int (zn dp)), none] [] (hE L tp n s c I J A B R Q e) = some (some none, hE L tp n s c I J A B R Q (P e))) : ∀ (f w : Nat) (e : EST) (o3 : Option Value), w + f = 1000 → EB e → mz (d + 8) 91 7 [some (.ref 5), some (.int (zn dp)), some (.int (zn w)), o3] [] (hE L tp n s c I J A B R Q e) = some (some none, hE L tp n s c I J A B R Q (loF P (oS L tp) f e)) := by
  intro f
  induction f with
  | zero =>
    intro w e o3 hw he
    have e9 : w = 1000 := by omega
    subst e9
    simp (disch := first | omega | exact zb_1 | exact zb_0 | exact zb_n1 | exact zb_n0) only [x91_7, x91_8, x91_11, x91_93, mq_dl_int, mq_dl_ref, mq_dl_null, mq_dl_none, mc_some, Option.toList_some, Option.toList_none, List.cons_append, List.nil_append, zb_1, zb_0, ↓reduceIte, if_true, if_false, not_true_eq_false, not_false_eq_true, Bool.false_eq_true, z_10, z_01, eq_self, Bool.and_self, true_or, or_true, false_or, or_false, true_and, and_true, false_and, and_false, and_self, or_self, Nat.reduceLT, Nat.reduceEqDiff, Nat.reduceLeDiff, Nat.reduceAdd, Nat.reduceMul, Nat.reduceSub, zn_lit, zn_add, zn_mul, zn_sub, zn_addneg, zn_lt, zn_le, zn_eq, zn_clamp, zn_in, zn_long, loF, Nat.le_refl]
  | succ f ih =>
    intro w e o3 hw he
    obtain ⟨g1, g2, g3, g4⟩ := hE_50 (n := n) (s := s) (c := c) (I := I) (J := J) (A := A) (B := B) (R := R) (Q := Q) (L := L) (tp := tp) e
    obtain ⟨g5, g6, g7⟩ := hE_01 (n := n) (s := s) (c := c) (I := I) (J := J) (A := A) (B := B) (R := R) (Q := Q) (L := L) (tp := tp) e
    have k1 := E_fine (n := n) (s := s) (c := c) (I := I) (J := J) (A := A) (B := B) (R := R) (Q := Q) (L := L) (tp := tp) (d + 7) e he
    have k2 := E_sign (n := n) (s := s) (c := c) (J := J) (B := B) (R := R) (Q := Q) h (d + 7) 43 (by omega) e
    have k2' := E_sign (n := n) (s := s) (c := c) (J := J) (B := B) (R := R) (Q := Q) h (d + 7) 45 (by omega) e
    have m1 : ¬ zn 11 = -zn 1 := by decide
    have m2 : ¬ zn 12 = -zn 1 := by decide
    unfold loF
    rw [x91_7]
    by_cases q : e.1.2 = 0
    · rw [if_pos q]
      have hb1 := EB_stx he (adv_b he.1)
      have hb2 := hP _ hb1
      have k3 := E_adv (n := n) (s := s) (J := J) (B := B) (R := R) (Q := Q) h hS (d + 3) e he
      have k4 := hr _ hb1
      obtain ⟨i1, i2, i3, i4⟩ := hE_50 (n := n) (s := s) (c := c) (I := I) (J := J) (A := A) (B := B) (R := R) (Q := Q) (L := L) (tp := tp) (P (stx (adv e.1) e))
      obtain ⟨i5, i6, i7⟩ := hE_01 (n := n) (s := s) (c := c) (I := I) (J := J) (A := A) (B := B) (R := R) (Q := Q) (L := L) (tp := tp) (P (stx (adv e.1) e))
      obtain ⟨j5, j6, j7⟩ := hE_01 (n := n) (s := s) (c := c) (I := I) (J := J) (A := A) (B := B) (R := R) (Q := Q) (L := L) (tp := tp) (stx (adv e.1) e)
      by_cases q2 : sgq L tp e.1.1 43 = true
      · have eo : oS L tp e.1.1 = some 11 := by unfold oS; rw [if_pos q2]
        rw [eo]
        dsimp only
        have hb3 := EB_emi hb2 (zn 11) (zn 0)
        rw [← ih (w + 1) _ (some (.int (zn 11))) (by omega) hb3]
        have k5 := E_add (n := n) (s := s) (c := c) (I := I) (J := J) (A := A) (B := B) (R := R) (Q := Q) (L := L) (tp := tp) (d + 7) (zn 11) (zn 0) _ hb2
        simp (disch := first | omega | exact zb_1 | exact zb_0 | exact zb_n1 | exact zb_n0) only [x91_8, x91_11, x91_14, x91_15, x91_18, x91_21, x91_24, x91_25, x91_28, x91_30, x91_33, x91_36, x91_38, x91_59, x91_60, x91_61, x91_62, x91_66, x91_67, x91_70, x91_73, x91_74, x91_75, x91_78, x91_79, x91_82, x91_83, x91_84, x91_87, x91_90, mq_dl_int, mq_dl_ref, mq_dl_null, mq_dl_none, mc_some, Option.toList_some, Option.toList_none, List.cons_append, List.nil_append, zb_1, zb_0, ↓reduceIte, if_true, if_false, not_true_eq_false, not_false_eq_true, Bool.false_eq_true, z_10, z_01, eq_self, Bool.and_self, true_or, or_true, false_or, or_false, true_and, and_true, false_and, and_false, and_self, or_self, Nat.reduceLT, Nat.reduceEqDiff, Nat.reduceLeDiff, Nat.reduceAdd, Nat.reduceMul, Nat.reduceSub, zn_lit, zn_add, zn_mul, zn_sub, zn_addneg, zn_lt, zn_le, zn_eq, zn_clamp, zn_in, zn_long, g1, g2, g5, i3, i4, i7, j6, k1, k2, k3, k4, k5, m1, q, q2, decide_true, zo_t, show ¬ 1000 ≤ w by omega]
      · by_cases q3 : sgq L tp e.1.1 45 = true
        · have eo : oS L tp e.1.1 = some 12 := by unfold oS; rw [if_neg q2, if_pos q3]
          rw [eo]
          dsimp only
          have hb3 := EB_emi hb2 (zn 12) (zn 0)
          rw [← ih (w + 1) _ (some (.int (zn 12))) (by omega) hb3]
          have k5 := E_add (n := n) (s := s) (c := c) (I := I) (J := J) (A := A) (B := B) (R := R) (Q := Q) (L := L) (tp := tp) (d + 7) (zn 12) (zn 0) _ hb2
          simp (disch := first | omega | exact zb_1 | exact zb_0 | exact zb_n1 | exact zb_n0) only [x91_8, x91_11, x91_14, x91_15, x91_18, x91_21, x91_24, x91_25, x91_28, x91_30, x91_33, x91_41, x91_42, x91_45, x91_47, x91_50, x91_53, x91_55, x91_59, x91_60, x91_61, x91_62, x91_66, x91_67, x91_70, x91_73, x91_74, x91_75, x91_78, x91_79, x91_82, x91_83, x91_84, x91_87, x91_90, mq_dl_int, mq_dl_ref, mq_dl_null, mq_dl_none, mc_some, Option.toList_some, Option.toList_none, List.cons_append, List.nil_append, zb_1, zb_0, ↓reduceIte, if_true, if_false, not_true_eq_false, not_false_eq_true, Bool.false_eq_true, z_10, z_01, eq_self, Bool.and_self, true_or, or_true, false_or, or_false, true_and, and_true, false_and, and_false, and_self, or_self, Nat.reduceLT, Nat.reduceEqDiff, Nat.reduceLeDiff, Nat.reduceAdd, Nat.reduceMul, Nat.reduceSub, zn_lit, zn_add, zn_mul, zn_sub, zn_addneg, zn_lt, zn_le, zn_eq, zn_clamp, zn_in, zn_long, g1, g2, g5, i3, i4, i7, j6, k1, k2, k2', k3, k4, k5, m2, q, Bool.eq_false_iff.mpr q2, q3, decide_true, zo_t, zo_f, show ¬ 1000 ≤ w by omega]
        · have eo : oS L tp e.1.1 = none := by unfold oS; rw [if_neg q2, if_neg q3]
          rw [eo]
          simp (disch := first | omega | exact zb_1 | exact zb_0 | exact zb_n1 | exact zb_n0) only [x91_8, x91_11, x91_14, x91_15, x91_18, x91_21, x91_24, x91_25, x91_28, x91_30, x91_33, x91_41, x91_42, x91_45, x91_47, x91_50, x91_58, x91_59, x91_60, x91_61, x91_62, x91_65, mq_dl_int, mq_dl_ref, mq_dl_null, mq_dl_none, mc_some, Option.toList_some, Option.toList_none, List.cons_append, List.nil_append, zb_1, zb_0, ↓reduceIte, if_true, if_false, not_true_eq_false, not_false_eq_true, Bool.false_eq_true, z_10, z_01, eq_self, Bool.and_self, true_or, or_true, false_or, or_false, true_and, and_true, false_and, and_false, and_self, or_self, Nat.reduceLT, Nat.reduceEqDiff, Nat.reduceLeDiff, Nat.reduceAdd, Nat.reduceMul, Nat.reduceSub, zn_lit, zn_add, zn_mul, zn_sub, zn_addneg, zn_lt, zn_le, zn_eq, zn_clamp, zn_in, zn_long, g1, g2, g5, k1, k2, k2', q, Bool.eq_false_iff.mpr q2, Bool.eq_false_iff.mpr q3, decide_true, zo_t, zo_f, show ¬ 1000 ≤ w by omega]
    · rw [if_neg q]
      simp (disch := first | omega | exact zb_1 | exact zb_0 | exact zb_n1 | exact zb_n0) only [x91_8, x91_11, x91_14, x91_15, x91_18, x91_21, x91_93, mq_dl_int, mq_dl_ref, mq_dl_null, mq_dl_none, mc_some, Option.toList_some, Option.toList_none, List.cons_append, List.nil_append, zb_1, zb_0, ↓reduceIte, if_true, if_false, not_true_eq_false, not_false_eq_true, Bool.false_eq_true, z_10, z_01, eq_self, Bool.and_self, true_or, or_true, false_or, or_false, true_and, and_true, false_and, and_false, and_self, or_self, Nat.reduceLT, Nat.reduceEqDiff, Nat.reduceLeDiff, Nat.reduceAdd, Nat.reduceMul, Nat.reduceSub, zn_lit, zn_add, zn_mul, zn_sub, zn_addneg, zn_lt, zn_le, zn_eq, zn_clamp, zn_in, zn_long, g1, g2, g5, k1, q, decide_false, zo_f, show ¬ 1000 ≤ w by omega]
theorem E_sm (h : TKp L tp I A) (hS : STR c) (d dp : Nat) (P : EST → EST) (hP : ∀ e, EB e → EB (P e)) (hr : ∀ e, EB e → mz (d + 7) 92 0 [some (.ref 5), some (.int (zn dp)), none] [] (hE L tp n s c I J A B R Q e) = some (some none, hE L tp n s c I J A B R Q (P e))) (e : EST) (he : EB e) : mz (d + 8) 91 0 [some (.ref 5), some (.int (zn dp)), none, none] [] (hE L tp n s c I J A B R Q e) = some (some none, hE L tp n s c I J A B R Q (loF P (oS L tp) 1000 (P e))) := by
  obtain ⟨g5, g6, g7⟩ := hE_01 (n := n) (s := s) (c := c) (I := I) (J := J) (A := A) (B := B) (R := R) (Q := Q) (L := L) (tp := tp) e
  have k1 := E_sml h hS d dp P hP hr 1000 0 _ none rfl (hP e he)
  have k2 := hr e he
  simp (disch := first | omega | exact zb_1 | exact zb_0 | exact zb_n1 | exact zb_n0) only [x91_0, x91_1, x91_2, x91_5, x91_6, mq_dl_int, mq_dl_ref, mq_dl_null, mq_dl_none, mc_some, Option.toList_some, Option.toList_none, List.cons_append, List.nil_append, zb_1, zb_0, ↓reduceIte, if_true, if_false, not_true_eq_false, not_false_eq_true, Bool.false_eq_true, z_10, z_01, eq_self, Bool.and_self, true_or, or_true, false_or, or_false, true_and, and_true, false_and, and_false, and_self, or_self, Nat.reduceLT, Nat.reduceEqDiff, Nat.reduceLeDiff, Nat.reduceAdd, Nat.reduceMul, Nat.reduceSub, zn_lit, zn_add, zn_mul, zn_sub, zn_addneg, zn_lt, zn_le, zn_eq, zn_clamp, zn_in, zn_long, g6, k2, k1]
theorem E_ts2 (h : TKp L tp I A) (hS : STR c) (d dp : Nat) (P : EST → EST) (hP : ∀ e, EB e → EB (P e)) (hr : ∀ e, EB e → mz (d + 8) 91 0 [some (.ref 5), some (.int (zn dp)), none, none] [] (hE L tp n s c I J A B R Q e) = some (some none, hE L tp n s c I J A B R Q (P e))) (e0 : EST) (he0 : EB e0) : mz (d + 9) 90 0 [some (.ref 5), some (.int (zn dp)), none] [] (hE L tp n s c I J A B R Q e0) = some (some none, hE L tp n s c I J A B R Q (loF P (oT L tp) 1 (P e0))) := by
  have k0 := hr e0 he0
  obtain ⟨l5, l6, l7⟩ := hE_01 (n := n) (s := s) (c := c) (I := I) (J := J) (A := A) (B := B) (R := R) (Q := Q) (L := L) (tp := tp) e0
  have he := hP e0 he0
  generalize P e0 = e at k0 he ⊢
  obtain ⟨g1, g2, g3, g4⟩ := hE_50 (n := n) (s := s) (c := c) (I := I) (J := J) (A := A) (B := B) (R := R) (Q := Q) (L := L) (tp := tp) e
  obtain ⟨g5, g6, g7⟩ := hE_01 (n := n) (s := s) (c := c) (I := I) (J := J) (A := A) (B := B) (R := R) (Q := Q) (L := L) (tp := tp) e
  have k1 := E_fine (n := n) (s := s) (c := c) (I := I) (J := J) (A := A) (B := B) (R := R) (Q := Q) (L := L) (tp := tp) (d + 8) e he
  have k2 := E_sign (n := n) (s := s) (c := c) (J := J) (B := B) (R := R) (Q := Q) h (d + 8) 60 (by omega) e
  have k2' := E_sign (n := n) (s := s) (c := c) (J := J) (B := B) (R := R) (Q := Q) h (d + 8) 61 (by omega) e
  have m1 : ¬ zn 9 = -zn 1 := by decide
  have m2 : ¬ zn 10 = -zn 1 := by decide
  unfold loF
  by_cases q : e.1.2 = 0
  · rw [if_pos q]
    have hb1 := EB_stx he (adv_b he.1)
    have hb2 := hP _ hb1
    have k3 := E_adv (n := n) (s := s) (J := J) (B := B) (R := R) (Q := Q) h hS (d + 4) e he
    have k4 := hr _ hb1
    obtain ⟨i1, i2, i3, i4⟩ := hE_50 (n := n) (s := s) (c := c) (I := I) (J := J) (A := A) (B := B) (R := R) (Q := Q) (L := L) (tp := tp) (P (stx (adv e.1) e))
    obtain ⟨i5, i6, i7⟩ := hE_01 (n := n) (s := s) (c := c) (I := I) (J := J) (A := A) (B := B) (R := R) (Q := Q) (L := L) (tp := tp) (P (stx (adv e.1) e))
    obtain ⟨j5, j6, j7⟩ := hE_01 (n := n) (s := s) (c := c) (I := I) (J := J) (A := A) (B := B) (R := R) (Q := Q) (L := L) (tp := tp) (stx (adv e.1) e)
    by_cases q2 : sgq L tp e.1.1 60 = true
    · have eo : oT L tp e.1.1 = some 9 := by unfold oT; rw [if_pos q2]
      rw [eo]
      dsimp only
      unfold loF
      have k5 := E_add (n := n) (s := s) (c := c) (I := I) (J := J) (A := A) (B := B) (R := R) (Q := Q) (L := L) (tp := tp) (d + 8) (zn 9) (zn 0) _ hb2
      simp (disch := first | omega | exact zb_1 | exact zb_0 | exact zb_n1 | exact zb_n0) only [x90_0, x90_1, x90_2, x90_5, x90_6, x90_9, x90_11, x90_14, x90_17, x90_19, x90_40, x90_41, x90_42, x90_43, x90_46, x90_47, x90_50, x90_53, x90_57, x90_58, x90_61, x90_64, x90_65, x90_66, x90_69, x90_70, x90_73, x90_74, x90_75, x90_78, mq_dl_int, mq_dl_ref, mq_dl_null, mq_dl_none, mc_some, Option.toList_some, Option.toList_none, List.cons_append, List.nil_append, zb_1, zb_0, ↓reduceIte, if_true, if_false, not_true_eq_false, not_false_eq_true, Bool.false_eq_true, z_10, z_01, eq_self, Bool.and_self, true_or, or_true, false_or, or_false, true_and, and_true, false_and, and_false, and_self, or_self, Nat.reduceLT, Nat.reduceEqDiff, Nat.reduceLeDiff, Nat.reduceAdd, Nat.reduceMul, Nat.reduceSub, zn_lit, zn_add, zn_mul, zn_sub, zn_addneg, zn_lt, zn_le, zn_eq, zn_clamp, zn_in, zn_long, l6, k0, g1, g2, g5, i3, i4, i7, j6, k1, k2, k3, k4, k5, m1, q, q2, decide_true, zo_t]
    · by_cases q3 : sgq L tp e.1.1 61 = true
      · have eo : oT L tp e.1.1 = some 10 := by unfold oT; rw [if_neg q2, if_pos q3]
        rw [eo]
        dsimp only
        unfold loF
        have k5 := E_add (n := n) (s := s) (c := c) (I := I) (J := J) (A := A) (B := B) (R := R) (Q := Q) (L := L) (tp := tp) (d + 8) (zn 10) (zn 0) _ hb2
        simp (disch := first | omega | exact zb_1 | exact zb_0 | exact zb_n1 | exact zb_n0) only [x90_0, x90_1, x90_2, x90_5, x90_6, x90_9, x90_11, x90_14, x90_22, x90_23, x90_26, x90_28, x90_31, x90_34, x90_36, x90_40, x90_41, x90_42, x90_43, x90_46, x90_47, x90_50, x90_53, x90_57, x90_58, x90_61, x90_64, x90_65, x90_66, x90_69, x90_70, x90_73, x90_74, x90_75, x90_78, mq_dl_int, mq_dl_ref, mq_dl_null, mq_dl_none, mc_some, Option.toList_some, Option.toList_none, List.cons_append, List.nil_append, zb_1, zb_0, ↓reduceIte, if_true, if_false, not_true_eq_false, not_false_eq_true, Bool.false_eq_true, z_10, z_01, eq_self, Bool.and_self, true_or, or_true, false_or, or_false, true_and, and_true, false_and, and_false, and_self, or_self, Nat.reduceLT, Nat.reduceEqDiff, Nat.reduceLeDiff, Nat.reduceAdd, Nat.reduceMul, Nat.reduceSub, zn_lit, zn_add, zn_mul, zn_sub, zn_addneg, zn_lt, zn_le, zn_eq, zn_clamp, zn_in, zn_long, l6, k0, g1, g2, g5, i3, i4, i7, j6, k1, k2, k2', k3, k4, k5, m2, q, Bool.eq_false_iff.mpr q2, q3, decide_true, zo_t, zo_f]
      · have eo : oT L tp e.1.1 = none := by unfold oT; rw [if_neg q2, if_neg q3]
        rw [eo]
        simp (disch := first | omega | exact zb_1 | exact zb_0 | exact zb_n1 | exact zb_n0) only [x90_0, x90_1, x90_2, x90_5, x90_6, x90_9, x90_11, x90_14, x90_22, x90_23, x90_26, x90_28, x90_31, x90_39, x90_40, x90_41, x90_42, x90_43, x90_56, mq_dl_int, mq_dl_ref, mq_dl_null, mq_dl_none, mc_some, Option.toList_some, Option.toList_none, List.cons_append, List.nil_append, zb_1, zb_0, ↓reduceIte, if_true, if_false, not_true_eq_false, not_false_eq_true, Bool.false_eq_true, z_10, z_01, eq_self, Bool.and_self, true_or, or_true, false_or, or_false, true_and, and_true, false_and, and_false, and_self, or_self, Nat.reduceLT, Nat.reduceEqDiff, Nat.reduceLeDiff, Nat.reduceAdd, Nat.reduceMul, Nat.reduceSub, zn_lit, zn_add, zn_mul, zn_sub, zn_addneg, zn_lt, zn_le, zn_eq, zn_clamp, zn_in, zn_long, l6, k0, g1, g2, g5, k2, k2', Bool.eq_false_iff.mpr q2, Bool.eq_false_iff.mpr q3, zo_f]
  · rw [if_neg q]
    by_cases q2 : sgq L tp e.1.1 60 = true
    · simp (disch := first | omega | exact zb_1 | exact zb_0 | exact zb_n1 | exact zb_n0) only [x90_0, x90_1, x90_2, x90_5, x90_6, x90_9, x90_11, x90_14, x90_17, x90_19, x90_40, x90_41, x90_42, x90_43, x90_46, x90_47, x90_50, x90_53, x90_56, mq_dl_int, mq_dl_ref, mq_dl_null, mq_dl_none, mc_some, Option.toList_some, Option.toList_none, List.cons_append, List.nil_append, zb_1, zb_0, ↓reduceIte, if_true, if_false, not_true_eq_false, not_false_eq_true, Bool.false_eq_true, z_10, z_01, eq_self, Bool.and_self, true_or, or_true, false_or, or_false, true_and, and_true, false_and, and_false, and_self, or_self, Nat.reduceLT, Nat.reduceEqDiff, Nat.reduceLeDiff, Nat.reduceAdd, Nat.reduceMul, Nat.reduceSub, zn_lit, zn_add, zn_mul, zn_sub, zn_addneg, zn_lt, zn_le, zn_eq, zn_clamp, zn_in, zn_long, l6, k0, g1, g2, g5, k1, k2, m1, q, q2, decide_false, zo_t, zo_f]
    · by_cases q3 : sgq L tp e.1.1 61 = true
      · simp (disch := first | omega | exact zb_1 | exact zb_0 | exact zb_n1 | exact zb_n0) only [x90_0, x90_1, x90_2, x90_5, x90_6, x90_9, x90_11, x90_14, x90_22, x90_23, x90_26, x90_28, x90_31, x90_34, x90_36, x90_40, x90_41, x90_42, x90_43, x90_46, x90_47, x90_50, x90_53, x90_56, mq_dl_int, mq_dl_ref, mq_dl_null, mq_dl_none, mc_some, Option.toList_some, Option.toList_none, List.cons_append, List.nil_append, zb_1, zb_0, ↓reduceIte, if_true, if_false, not_true_eq_false, not_false_eq_true, Bool.false_eq_true, z_10, z_01, eq_self, Bool.and_self, true_or, or_true, false_or, or_false, true_and, and_true, false_and, and_false, and_self, or_self, Nat.reduceLT, Nat.reduceEqDiff, Nat.reduceLeDiff, Nat.reduceAdd, Nat.reduceMul, Nat.reduceSub, zn_lit, zn_add, zn_mul, zn_sub, zn_addneg, zn_lt, zn_le, zn_eq, zn_clamp, zn_in, zn_long, l6, k0, g1, g2, g5, k1, k2, k2', m2, q, Bool.eq_false_iff.mpr q2, q3, decide_false, zo_t, zo_f]
      · simp (disch := first | omega | exact zb_1 | exact zb_0 | exact zb_n1 | exact zb_n0) only [x90_0, x90_1, x90_2, x90_5, x90_6, x90_9, x90_11, x90_14, x90_22, x90_23, x90_26, x90_28, x90_31, x90_39, x90_40, x90_41, x90_42, x90_43, x90_56, mq_dl_int, mq_dl_ref, mq_dl_null, mq_dl_none, mc_some, Option.toList_some, Option.toList_none, List.cons_append, List.nil_append, zb_1, zb_0, ↓reduceIte, if_true, if_false, not_true_eq_false, not_false_eq_true, Bool.false_eq_true, z_10, z_01, eq_self, Bool.and_self, true_or, or_true, false_or, or_false, true_and, and_true, false_and, and_false, and_self, or_self, Nat.reduceLT, Nat.reduceEqDiff, Nat.reduceLeDiff, Nat.reduceAdd, Nat.reduceMul, Nat.reduceSub, zn_lit, zn_add, zn_mul, zn_sub, zn_addneg, zn_lt, zn_le, zn_eq, zn_clamp, zn_in, zn_long, l6, k0, g1, g2, g5, k2, k2', Bool.eq_false_iff.mpr q2, Bool.eq_false_iff.mpr q3, zo_f]
theorem E_exl (h : TKp L tp I A) (hS : STR c) (d dp : Nat) (P : EST → EST) (hP : ∀ e, EB e → EB (P e)) (hr : ∀ e, EB e → mz (d + 9) 90 0 [some (.ref 5), some (.int (zn dp)), none] [] (hE L tp n s c I J A B R Q e) = some (some none, hE L tp n s c I J A B R Q (P e))) : ∀ (f w : Nat) (e : EST) (o3 : Option Value), w + f = 1000 → EB e → mz (d + 10) 89 7 [some (.ref 5), some (.int (zn dp)), some (.int (zn w)), o3] [] (hE L tp n s c I J A B R Q e) = some (some none, hE L tp n s c I J A B R Q (loF P (oE L tp) f e)) := by
  intro f
  induction f with
  | zero =>
    intro w e o3 hw he
    have e9 : w = 1000 := by omega
    subst e9
    simp (disch := first | omega | exact zb_1 | exact zb_0 | exact zb_n1 | exact zb_n0) only [x89_7, x89_8, x89_11, x89_93, mq_dl_int, mq_dl_ref, mq_dl_null, mq_dl_none, mc_some, Option.toList_some, Option.toList_none, List.cons_append, List.nil_append, zb_1, zb_0, ↓reduceIte, if_true, if_false, not_true_eq_false, not_false_eq_true, Bool.false_eq_true, z_10, z_01, eq_self, Bool.and_self, true_or, or_true, false_or, or_false, true_and, and_true, false_and, and_false, and_self, or_self, Nat.reduceLT, Nat.reduceEqDiff, Nat.reduceLeDiff, Nat.reduceAdd, Nat.reduceMul, Nat.reduceSub, zn_lit, zn_add, zn_mul, zn_sub, zn_addneg, zn_lt, zn_le, zn_eq, zn_clamp, zn_in, zn_long, loF, Nat.le_refl]
  | succ f ih =>
    intro w e o3 hw he
    obtain ⟨g1, g2, g3, g4⟩ := hE_50 (n := n) (s := s) (c := c) (I := I) (J := J) (A := A) (B := B) (R := R) (Q := Q) (L := L) (tp := tp) e
    obtain ⟨g5, g6, g7⟩ := hE_01 (n := n) (s := s) (c := c) (I := I) (J := J) (A := A) (B := B) (R := R) (Q := Q) (L := L) (tp := tp) e
    have k1 := E_fine (n := n) (s := s) (c := c) (I := I) (J := J) (A := A) (B := B) (R := R) (Q := Q) (L := L) (tp := tp) (d + 9) e he
    have k2 := E_word (n := n) (s := s) (J := J) (B := B) (R := R) (Q := Q) h hS (d + 5) 14 1000000015 (by omega) rfl e
    have k2' := E_word (n := n) (s := s) (J := J) (B := B) (R := R) (Q := Q) h hS (d + 5) 15 1000000016 (by omega) rfl e
    have m1 : ¬ zn 7 = -zn 1 := by decide
    have m2 : ¬ zn 8 = -zn 1 := by decide
    unfold loF
    rw [x89_7]
    by_cases q : e.1.2 = 0
    · rw [if_pos q]
      have hb1 := EB_stx he (adv_b he.1)
      have hb2 := hP _ hb1
      have k3 := E_adv (n := n) (s := s) (J := J) (B := B) (R := R) (Q := Q) h hS (d + 5) e he
      have k4 := hr _ hb1
      obtain ⟨i1, i2, i3, i4⟩ := hE_50 (n := n) (s := s) (c := c) (I := I) (J := J) (A := A) (B := B) (R := R) (Q := Q) (L := L) (tp := tp) (P (stx (adv e.1) e))
      obtain ⟨i5, i6, i7⟩ := hE_01 (n := n) (s := s) (c := c) (I := I) (J := J) (A := A) (B := B) (R := R) (Q := Q) (L := L) (tp := tp) (P (stx (adv e.1) e))
      obtain ⟨j5, j6, j7⟩ := hE_01 (n := n) (s := s) (c := c) (I := I) (J := J) (A := A) (B := B) (R := R) (Q := Q) (L := L) (tp := tp) (stx (adv e.1) e)
      by_cases q2 : wdq L tp e.1.1 14 = true
      · have eo : oE L tp e.1.1 = some 7 := by unfold oE; rw [if_pos q2]
        rw [eo]
        dsimp only
        have hb3 := EB_emi hb2 (zn 7) (zn 0)
        rw [← ih (w + 1) _ (some (.int (zn 7))) (by omega) hb3]
        have k5 := E_add (n := n) (s := s) (c := c) (I := I) (J := J) (A := A) (B := B) (R := R) (Q := Q) (L := L) (tp := tp) (d + 9) (zn 7) (zn 0) _ hb2
        simp (disch := first | omega | exact zb_1 | exact zb_0 | exact zb_n1 | exact zb_n0) only [x89_8, x89_11, x89_14, x89_15, x89_18, x89_21, x89_24, x89_25, x89_28, x89_30, x89_33, x89_36, x89_38, x89_59, x89_60, x89_61, x89_62, x89_66, x89_67, x89_70, x89_73, x89_74, x89_75, x89_78, x89_79, x89_82, x89_83, x89_84, x89_87, x89_90, mq_dl_int, mq_dl_ref, mq_dl_null, mq_dl_none, mc_some, Option.toList_some, Option.toList_none, List.cons_append, List.nil_append, zb_1, zb_0, ↓reduceIte, if_true, if_false, not_true_eq_false, not_false_eq_true, Bool.false_eq_true, z_10, z_01, eq_self, Bool.and_self, true_or, or_true, false_or, or_false, true_and, and_true, false_and, and_false, and_self, or_self, Nat.reduceLT, Nat.reduceEqDiff, Nat.reduceLeDiff, Nat.reduceAdd, Nat.reduceMul, Nat.reduceSub, zn_lit, zn_add, zn_mul, zn_sub, zn_addneg, zn_lt, zn_le, zn_eq, zn_clamp, zn_in, zn_long, g1, g2, g5, i3, i4, i7, j6, k1, k2, k3, k4, k5, m1, q, q2, decide_true, zo_t, show ¬ 1000 ≤ w by omega]
      · by_cases q3 : wdq L tp e.1.1 15 = true
        · have eo : oE L tp e.1.1 = some 8 := by unfold oE; rw [if_neg q2, if_pos q3]
          rw [eo]
          dsimp only
          have hb3 := EB_emi hb2 (zn 8) (zn 0)
          rw [← ih (w + 1) _ (some (.int (zn 8))) (by omega) hb3]
          have k5 := E_add (n := n) (s := s) (c := c) (I := I) (J := J) (A := A) (B := B) (R := R) (Q := Q) (L := L) (tp := tp) (d + 9) (zn 8) (zn 0) _ hb2
          simp (disch := first | omega | exact zb_1 | exact zb_0 | exact zb_n1 | exact zb_n0) only [x89_8, x89_11, x89_14, x89_15, x89_18, x89_21, x89_24, x89_25, x89_28, x89_30, x89_33, x89_41, x89_42, x89_45, x89_47, x89_50, x89_53, x89_55, x89_59, x89_60, x89_61, x89_62, x89_66, x89_67, x89_70, x89_73, x89_74, x89_75, x89_78, x89_79, x89_82, x89_83, x89_84, x89_87, x89_90, mq_dl_int, mq_dl_ref, mq_dl_null, mq_dl_none, mc_some, Option.toList_some, Option.toList_none, List.cons_append, List.nil_append, zb_1, zb_0, ↓reduceIte, if_true, if_false, not_true_eq_false, not_false_eq_true, Bool.false_eq_true, z_10, z_01, eq_self, Bool.and_self, true_or, or_true, false_or, or_false, true_and, and_true, false_and, and_false, and_self, or_self, Nat.reduceLT, Nat.reduceEqDiff, Nat.reduceLeDiff, Nat.reduceAdd, Nat.reduceMul, Nat.reduceSub, zn_lit, zn_add, zn_mul, zn_sub, zn_addneg, zn_lt, zn_le, zn_eq, zn_clamp, zn_in, zn_long, g1, g2, g5, i3, i4, i7, j6, k1, k2, k2', k3, k4, k5, m2, q, Bool.eq_false_iff.mpr q2, q3, decide_true, zo_t, zo_f, show ¬ 1000 ≤ w by omega]
        · have eo : oE L tp e.1.1 = none := by unfold oE; rw [if_neg q2, if_neg q3]
          rw [eo]
          simp (disch := first | omega | exact zb_1 | exact zb_0 | exact zb_n1 | exact zb_n0) only [x89_8, x89_11, x89_14, x89_15, x89_18, x89_21, x89_24, x89_25, x89_28, x89_30, x89_33, x89_41, x89_42, x89_45, x89_47, x89_50, x89_58, x89_59, x89_60, x89_61, x89_62, x89_65, mq_dl_int, mq_dl_ref, mq_dl_null, mq_dl_none, mc_some, Option.toList_some, Option.toList_none, List.cons_append, List.nil_append, zb_1, zb_0, ↓reduceIte, if_true, if_false, not_true_eq_false, not_false_eq_true, Bool.false_eq_true, z_10, z_01, eq_self, Bool.and_self, true_or, or_true, false_or, or_false, true_and, and_true, false_and, and_false, and_self, or_self, Nat.reduceLT, Nat.reduceEqDiff, Nat.reduceLeDiff, Nat.reduceAdd, Nat.reduceMul, Nat.reduceSub, zn_lit, zn_add, zn_mul, zn_sub, zn_addneg, zn_lt, zn_le, zn_eq, zn_clamp, zn_in, zn_long, g1, g2, g5, k1, k2, k2', q, Bool.eq_false_iff.mpr q2, Bool.eq_false_iff.mpr q3, decide_true, zo_t, zo_f, show ¬ 1000 ≤ w by omega]
    · rw [if_neg q]
      simp (disch := first | omega | exact zb_1 | exact zb_0 | exact zb_n1 | exact zb_n0) only [x89_8, x89_11, x89_14, x89_15, x89_18, x89_21, x89_93, mq_dl_int, mq_dl_ref, mq_dl_null, mq_dl_none, mc_some, Option.toList_some, Option.toList_none, List.cons_append, List.nil_append, zb_1, zb_0, ↓reduceIte, if_true, if_false, not_true_eq_false, not_false_eq_true, Bool.false_eq_true, z_10, z_01, eq_self, Bool.and_self, true_or, or_true, false_or, or_false, true_and, and_true, false_and, and_false, and_self, or_self, Nat.reduceLT, Nat.reduceEqDiff, Nat.reduceLeDiff, Nat.reduceAdd, Nat.reduceMul, Nat.reduceSub, zn_lit, zn_add, zn_mul, zn_sub, zn_addneg, zn_lt, zn_le, zn_eq, zn_clamp, zn_in, zn_long, g1, g2, g5, k1, q, decide_false, zo_f, show ¬ 1000 ≤ w by omega]
theorem E_ex (h : TKp L tp I A) (hS : STR c) (d dp : Nat) (P : EST → EST) (hP : ∀ e, EB e → EB (P e)) (hr : ∀ e, EB e → mz (d + 9) 90 0 [some (.ref 5), some (.int (zn dp)), none] [] (hE L tp n s c I J A B R Q e) = some (some none, hE L tp n s c I J A B R Q (P e))) (e : EST) (he : EB e) : mz (d + 10) 89 0 [some (.ref 5), some (.int (zn dp)), none, none] [] (hE L tp n s c I J A B R Q e) = some (some none, hE L tp n s c I J A B R Q (loF P (oE L tp) 1000 (P e))) := by
  obtain ⟨g5, g6, g7⟩ := hE_01 (n := n) (s := s) (c := c) (I := I) (J := J) (A := A) (B := B) (R := R) (Q := Q) (L := L) (tp := tp) e
  have k1 := E_exl h hS d dp P hP hr 1000 0 _ none rfl (hP e he)
  have k2 := hr e he
  simp (disch := first | omega | exact zb_1 | exact zb_0 | exact zb_n1 | exact zb_n0) only [x89_0, x89_1, x89_2, x89_5, x89_6, mq_dl_int, mq_dl_ref, mq_dl_null, mq_dl_none, mc_some, Option.toList_some, Option.toList_none, List.cons_append, List.nil_append, zb_1, zb_0, ↓reduceIte, if_true, if_false, not_true_eq_false, not_false_eq_true, Bool.false_eq_true, z_10, z_01, eq_self, Bool.and_self, true_or, or_true, false_or, or_false, true_and, and_true, false_and, and_false, and_self, or_self, Nat.reduceLT, Nat.reduceEqDiff, Nat.reduceLeDiff, Nat.reduceAdd, Nat.reduceMul, Nat.reduceSub, zn_lit, zn_add, zn_mul, zn_sub, zn_addneg, zn_lt, zn_le, zn_eq, zn_clamp, zn_in, zn_long, g6, k2, k1]
/-- an expression, out of its parts -/
theorem E_exG (h : TKp L tp I A) (hS : STR c) (d dp : Nat) (P : EST → EST) (hP : ∀ e, EB e → EB (P e)) (hr : ∀ e, EB e → mz (d + 6) 93 0 [some (.ref 5), some (.int (zn dp)), none, none, none] [] (hE L tp n s c I J A B R Q e) = some (some none, hE L tp n s c I J A B R Q (P e))) (e : EST) (he : EB e) : mz (d + 10) 89 0 [some (.ref 5), some (.int (zn dp)), none, none] [] (hE L tp n s c I J A B R Q e) = some (some none, hE L tp n s c I J A B R Q (exG L tp P e)) := by
  have h1 := E_pr h hS d dp P hP hr
  have h2 := E_sm h hS d dp (prG L tp P) (EB_prG hP) h1
  have h3 := E_ts2 h hS d dp (smG L tp P) (EB_smG hP) h2
  exact E_ex h hS d dp (tsG L tp P) (EB_tsG hP) h3 e he
end CF
