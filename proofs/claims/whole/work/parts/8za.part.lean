/-! FORMULAS: parts of the class -/
section CP
variable {n s : Nat} {c : Nat → mq_E} {I : Nat → Int32} {J : Nat → Int64} {A : Nat → Nat → Int32} {B : Nat → Nat → Int64} {R : Nat → Value} {Q : Nat → Nat → Option Nat}
variable {L : Nat} {tp : Nat → Nat}
theorem fcq_lt (L : Nat) (tp : Nat → Nat) (k : Nat) : fcq L tp k < 6 := by
  unfold fcq
  repeat' split
  all_goals omega
theorem fcq_v (L : Nat) (tp : Nat → Nat) (k : Nat) : (if fcq L tp k = 0 then -zn 1 else zn (fcq L tp k)) = -zn 1 ↔ fcq L tp k = 0 := by
  by_cases q : fcq L tp k = 0
  · rw [if_pos q]; exact ⟨fun _ => q, fun _ => rfl⟩
  · rw [if_neg q]
    have := fcq_lt L tp k
    exact ⟨fun e => absurd e (zn_m1 _ (by omega)), fun e => absurd e q⟩
/-- up to where it is known whether a part can stand -/
theorem E_pt1 (h : TKp L tp I A) (hS : STR c) (d dp : Nat) (hdp : dp ≤ 5) (e : EST) (he : EB e) : mz (d + 6) 93 0 [some (.ref 5), some (.int (zn dp)), none, none, none] [] (hE L tp n s c I J A B R Q e) = mz (d + 6) 93 74 [some (.ref 5), some (.int (zn dp)), some (.int (if fcq L tp e.1.1 = 0 then -zn 1 else zn (fcq L tp e.1.1))), some (.int (zo (wdq L tp e.1.1 13))), some (.int (zo (sgq L tp e.1.1 40)))] [] (hE L tp n s c I J A B R Q (stx (if csq L tp e.1.1 = true then (if 5 ≤ dp then flt L tp 5 e.1 else e.1) else flt L tp 1 e.1) e)) := by
  have hL := h.1
  obtain ⟨g1, g2, g3, g4⟩ := hE_50 (n := n) (s := s) (c := c) (I := I) (J := J) (A := A) (B := B) (R := R) (Q := Q) (L := L) (tp := tp) e
  obtain ⟨g5, g6, g7⟩ := hE_01 (n := n) (s := s) (c := c) (I := I) (J := J) (A := A) (B := B) (R := R) (Q := Q) (L := L) (tp := tp) e
  have k1 := E_fact (n := n) (s := s) (J := J) (B := B) (R := R) (Q := Q) h hS d e
  have k2 := E_word (n := n) (s := s) (J := J) (B := B) (R := R) (Q := Q) h hS (d + 1) 13 1000000014 (by omega) rfl e
  have k3 := E_sign (n := n) (s := s) (c := c) (J := J) (B := B) (R := R) (Q := Q) h (d + 5) 40 (by omega) e
  have k4 := E_num (n := n) (s := s) (c := c) (I := I) (J := J) (A := A) (B := B) (R := R) (Q := Q) (L := L) (tp := tp) (d + 5) e
  have k5 := E_fail (n := n) (s := s) (c := c) (I := I) (J := J) (A := A) (B := B) (R := R) (Q := Q) (tp := tp) hL (d + 5) 1 e he
  have k6 := E_fail (n := n) (s := s) (c := c) (I := I) (J := J) (A := A) (B := B) (R := R) (Q := Q) (tp := tp) hL (d + 5) 5 e he
  have hv := fcq_v L tp e.1.1
  have e0 : stx e.1 e = e := rfl
  generalize hV : (if fcq L tp e.1.1 = 0 then -zn 1 else zn (fcq L tp e.1.1)) = V at k1 hv ⊢
  have to61 : csq L tp e.1.1 = true → mz (d + 6) 93 61 [some (.ref 5), some (.int (zn dp)), some (.int V), some (.int (zo (wdq L tp e.1.1 13))), some (.int (zo (sgq L tp e.1.1 40)))] [] (hE L tp n s c I J A B R Q e) = mz (d + 6) 93 74 [some (.ref 5), some (.int (zn dp)), some (.int V), some (.int (zo (wdq L tp e.1.1 13))), some (.int (zo (sgq L tp e.1.1 40)))] [] (hE L tp n s c I J A B R Q (stx (if csq L tp e.1.1 = true then (if 5 ≤ dp then flt L tp 5 e.1 else e.1) else flt L tp 1 e.1) e)) := by
    intro hc
    rw [if_pos hc]
    by_cases q : 5 ≤ dp
    · rw [if_pos q]
      simp (disch := first | omega | exact zb_1 | exact zb_0 | exact zb_n1 | exact zb_n0) only [x93_61, x93_62, x93_63, x93_66, x93_67, x93_70, x93_71, mq_dl_int, mq_dl_ref, mq_dl_null, mq_dl_none, mc_some, Option.toList_some, Option.toList_none, List.cons_append, List.nil_append, zb_1, zb_0, ↓reduceIte, if_true, if_false, not_true_eq_false, not_false_eq_true, Bool.false_eq_true, z_10, z_01, eq_self, Bool.and_self, true_or, or_true, false_or, or_false, true_and, and_true, false_and, and_false, and_self, or_self, Nat.reduceLT, Nat.reduceEqDiff, Nat.reduceLeDiff, Nat.reduceAdd, Nat.reduceMul, Nat.reduceSub, zn_lit, zn_add, zn_mul, zn_sub, zn_addneg, zn_lt, zn_le, zn_eq, zn_clamp, zn_in, zn_long, g1, g2, g5, k6, show ¬ dp < 5 by omega]
    · rw [if_neg q, e0]
      simp (disch := first | omega | exact zb_1 | exact zb_0 | exact zb_n1 | exact zb_n0) only [x93_61, x93_62, x93_63, mq_dl_int, mq_dl_ref, mq_dl_null, mq_dl_none, mc_some, Option.toList_some, Option.toList_none, List.cons_append, List.nil_append, zb_1, zb_0, ↓reduceIte, if_true, if_false, not_true_eq_false, not_false_eq_true, Bool.false_eq_true, z_10, z_01, eq_self, Bool.and_self, true_or, or_true, false_or, or_false, true_and, and_true, false_and, and_false, and_self, or_self, Nat.reduceLT, Nat.reduceEqDiff, Nat.reduceLeDiff, Nat.reduceAdd, Nat.reduceMul, Nat.reduceSub, zn_lit, zn_add, zn_mul, zn_sub, zn_addneg, zn_lt, zn_le, zn_eq, zn_clamp, zn_in, zn_long, show dp < 5 by omega]
  by_cases q1 : fcq L tp e.1.1 = 0
  · have v1 := hv.mpr q1
    by_cases q2 : wdq L tp e.1.1 13 = true
    · have hc : csq L tp e.1.1 = true := by unfold csq; simp [q2]
      rw [← to61 hc]
      simp (disch := first | omega | exact zb_1 | exact zb_0 | exact zb_n1 | exact zb_n0) only [x93_0, x93_1, x93_4, x93_5, x93_6, x93_9, x93_11, x93_14, x93_15, x93_16, x93_19, x93_21, x93_24, x93_26, x93_27, x93_28, x93_31, x93_32, mq_dl_int, mq_dl_ref, mq_dl_null, mq_dl_none, mc_some, Option.toList_some, Option.toList_none, List.cons_append, List.nil_append, zb_1, zb_0, ↓reduceIte, if_true, if_false, not_true_eq_false, not_false_eq_true, Bool.false_eq_true, z_10, z_01, eq_self, Bool.and_self, true_or, or_true, false_or, or_false, true_and, and_true, false_and, and_false, and_self, or_self, Nat.reduceLT, Nat.reduceEqDiff, Nat.reduceLeDiff, Nat.reduceAdd, Nat.reduceMul, Nat.reduceSub, zn_lit, zn_add, zn_mul, zn_sub, zn_addneg, zn_lt, zn_le, zn_eq, zn_clamp, zn_in, zn_long, g1, g2, g5, g6, k1, k2, k3, v1, q2, zo_t]
    · by_cases q3 : sgq L tp e.1.1 40 = true
      · have hc : csq L tp e.1.1 = true := by unfold csq; simp [q3]
        rw [← to61 hc]
        simp (disch := first | omega | exact zb_1 | exact zb_0 | exact zb_n1 | exact zb_n0) only [x93_0, x93_1, x93_4, x93_5, x93_6, x93_9, x93_11, x93_14, x93_15, x93_16, x93_19, x93_21, x93_24, x93_26, x93_27, x93_28, x93_31, x93_32, x93_35, x93_37, mq_dl_int, mq_dl_ref, mq_dl_null, mq_dl_none, mc_some, Option.toList_some, Option.toList_none, List.cons_append, List.nil_append, zb_1, zb_0, ↓reduceIte, if_true, if_false, not_true_eq_false, not_false_eq_true, Bool.false_eq_true, z_10, z_01, eq_self, Bool.and_self, true_or, or_true, false_or, or_false, true_and, and_true, false_and, and_false, and_self, or_self, Nat.reduceLT, Nat.reduceEqDiff, Nat.reduceLeDiff, Nat.reduceAdd, Nat.reduceMul, Nat.reduceSub, zn_lit, zn_add, zn_mul, zn_sub, zn_addneg, zn_lt, zn_le, zn_eq, zn_clamp, zn_in, zn_long, g1, g2, g5, g6, k1, k2, k3, v1, Bool.eq_false_iff.mpr q2, q3, zo_t, zo_f]
      · by_cases q4 : tkS L tp (ps L tp e.1.1) = 2
        · have hc : csq L tp e.1.1 = true := by unfold csq; simp [q4]
          rw [← to61 hc]
          simp (disch := first | omega | exact zb_1 | exact zb_0 | exact zb_n1 | exact zb_n0) only [x93_0, x93_1, x93_4, x93_5, x93_6, x93_9, x93_11, x93_14, x93_15, x93_16, x93_19, x93_21, x93_24, x93_26, x93_27, x93_28, x93_31, x93_32, x93_35, x93_37, x93_40, x93_41, x93_44, x93_47, mq_dl_int, mq_dl_ref, mq_dl_null, mq_dl_none, mc_some, Option.toList_some, Option.toList_none, List.cons_append, List.nil_append, zb_1, zb_0, ↓reduceIte, if_true, if_false, not_true_eq_false, not_false_eq_true, Bool.false_eq_true, z_10, z_01, eq_self, Bool.and_self, true_or, or_true, false_or, or_false, true_and, and_true, false_and, and_false, and_self, or_self, Nat.reduceLT, Nat.reduceEqDiff, Nat.reduceLeDiff, Nat.reduceAdd, Nat.reduceMul, Nat.reduceSub, zn_lit, zn_add, zn_mul, zn_sub, zn_addneg, zn_lt, zn_le, zn_eq, zn_clamp, zn_in, zn_long, g1, g2, g5, g6, k1, k2, k3, k4, v1, Bool.eq_false_iff.mpr q2, Bool.eq_false_iff.mpr q3, q4, decide_true, zo_t, zo_f]
        · have hc : ¬ csq L tp e.1.1 = true := by unfold csq; simp [q1, q2, q3, q4]
          rw [if_neg hc]
          simp (disch := first | omega | exact zb_1 | exact zb_0 | exact zb_n1 | exact zb_n0) only [x93_0, x93_1, x93_4, x93_5, x93_6, x93_9, x93_11, x93_14, x93_15, x93_16, x93_19, x93_21, x93_24, x93_26, x93_27, x93_28, x93_31, x93_32, x93_35, x93_37, x93_40, x93_41, x93_44, x93_47, x93_50, x93_51, x93_54, x93_55, x93_58, mq_dl_int, mq_dl_ref, mq_dl_null, mq_dl_none, mc_some, Option.toList_some, Option.toList_none, List.cons_append, List.nil_append, zb_1, zb_0, ↓reduceIte, if_true, if_false, not_true_eq_false, not_false_eq_true, Bool.false_eq_true, z_10, z_01, eq_self, Bool.and_self, true_or, or_true, false_or, or_false, true_and, and_true, false_and, and_false, and_self, or_self, Nat.reduceLT, Nat.reduceEqDiff, Nat.reduceLeDiff, Nat.reduceAdd, Nat.reduceMul, Nat.reduceSub, zn_lit, zn_add, zn_mul, zn_sub, zn_addneg, zn_lt, zn_le, zn_eq, zn_clamp, zn_in, zn_long, g1, g2, g5, g6, k1, k2, k3, k4, k5, v1, Bool.eq_false_iff.mpr q2, Bool.eq_false_iff.mpr q3, q4, decide_false, zo_f]
  · have v1 : ¬ V = -zn 1 := fun e => q1 (hv.mp e)
    have hc : csq L tp e.1.1 = true := by unfold csq; simp [q1]
    rw [← to61 hc]
    cases hw : wdq L tp e.1.1 13 with
    | true =>
      rw [hw] at k2
      cases hs : sgq L tp e.1.1 40 with
      | true => rw [hs] at k3; simp (disch := first | omega | exact zb_1 | exact zb_0 | exact zb_n1 | exact zb_n0) only [x93_0, x93_1, x93_4, x93_5, x93_6, x93_9, x93_11, x93_14, x93_15, x93_16, x93_19, x93_21, x93_24, x93_26, x93_27, x93_28, mq_dl_int, mq_dl_ref, mq_dl_null, mq_dl_none, mc_some, Option.toList_some, Option.toList_none, List.cons_append, List.nil_append, zb_1, zb_0, ↓reduceIte, if_true, if_false, not_true_eq_false, not_false_eq_true, Bool.false_eq_true, z_10, z_01, eq_self, Bool.and_self, true_or, or_true, false_or, or_false, true_and, and_true, false_and, and_false, and_self, or_self, Nat.reduceLT, Nat.reduceEqDiff, Nat.reduceLeDiff, Nat.reduceAdd, Nat.reduceMul, Nat.reduceSub, zn_lit, zn_add, zn_mul, zn_sub, zn_addneg, zn_lt, zn_le, zn_eq, zn_clamp, zn_in, zn_long, g1, g2, g5, g6, k1, k2, k3, v1, zo_t]
      | false => rw [hs] at k3; simp (disch := first | omega | exact zb_1 | exact zb_0 | exact zb_n1 | exact zb_n0) only [x93_0, x93_1, x93_4, x93_5, x93_6, x93_9, x93_11, x93_14, x93_15, x93_16, x93_19, x93_21, x93_24, x93_26, x93_27, x93_28, mq_dl_int, mq_dl_ref, mq_dl_null, mq_dl_none, mc_some, Option.toList_some, Option.toList_none, List.cons_append, List.nil_append, zb_1, zb_0, ↓reduceIte, if_true, if_false, not_true_eq_false, not_false_eq_true, Bool.false_eq_true, z_10, z_01, eq_self, Bool.and_self, true_or, or_true, false_or, or_false, true_and, and_true, false_and, and_false, and_self, or_self, Nat.reduceLT, Nat.reduceEqDiff, Nat.reduceLeDiff, Nat.reduceAdd, Nat.reduceMul, Nat.reduceSub, zn_lit, zn_add, zn_mul, zn_sub, zn_addneg, zn_lt, zn_le, zn_eq, zn_clamp, zn_in, zn_long, g1, g2, g5, g6, k1, k2, k3, v1, zo_t, zo_f]
    | false =>
      rw [hw] at k2
      cases hs : sgq L tp e.1.1 40 with
      | true => rw [hs] at k3; simp (disch := first | omega | exact zb_1 | exact zb_0 | exact zb_n1 | exact zb_n0) only [x93_0, x93_1, x93_4, x93_5, x93_6, x93_9, x93_11, x93_14, x93_15, x93_16, x93_19, x93_21, x93_24, x93_26, x93_27, x93_28, mq_dl_int, mq_dl_ref, mq_dl_null, mq_dl_none, mc_some, Option.toList_some, Option.toList_none, List.cons_append, List.nil_append, zb_1, zb_0, ↓reduceIte, if_true, if_false, not_true_eq_false, not_false_eq_true, Bool.false_eq_true, z_10, z_01, eq_self, Bool.and_self, true_or, or_true, false_or, or_false, true_and, and_true, false_and, and_false, and_self, or_self, Nat.reduceLT, Nat.reduceEqDiff, Nat.reduceLeDiff, Nat.reduceAdd, Nat.reduceMul, Nat.reduceSub, zn_lit, zn_add, zn_mul, zn_sub, zn_addneg, zn_lt, zn_le, zn_eq, zn_clamp, zn_in, zn_long, g1, g2, g5, g6, k1, k2, k3, v1, zo_t, zo_f]
      | false => rw [hs] at k3; simp (disch := first | omega | exact zb_1 | exact zb_0 | exact zb_n1 | exact zb_n0) only [x93_0, x93_1, x93_4, x93_5, x93_6, x93_9, x93_11, x93_14, x93_15, x93_16, x93_19, x93_21, x93_24, x93_26, x93_27, x93_28, mq_dl_int, mq_dl_ref, mq_dl_null, mq_dl_none, mc_some, Option.toList_some, Option.toList_none, List.cons_append, List.nil_append, zb_1, zb_0, ↓reduceIte, if_true, if_false, not_true_eq_false, not_false_eq_true, Bool.false_eq_true, z_10, z_01, eq_self, Bool.and_self, true_or, or_true, false_or, or_false, true_and, and_true, false_and, and_false, and_self, or_self, Nat.reduceLT, Nat.reduceEqDiff, Nat.reduceLeDiff, Nat.reduceAdd, Nat.reduceMul, Nat.reduceSub, zn_lit, zn_add, zn_mul, zn_sub, zn_addneg, zn_lt, zn_le, zn_eq, zn_clamp, zn_in, zn_long, g1, g2, g5, g6, k1, k2, k3, v1, zo_f]
theorem E_ptN (d : Nat) (e : EST) (he : EB e) (hF : ¬ e.1.2 = 0) (o1 o2 o3 o4 : Option Value) : mz (d + 1) 93 74 [some (.ref 5), o1, o2, o3, o4] [] (hE L tp n s c I J A B R Q e) = some (some none, hE L tp n s c I J A B R Q e) := by
  obtain ⟨g1, g2, g3, g4⟩ := hE_50 (n := n) (s := s) (c := c) (I := I) (J := J) (A := A) (B := B) (R := R) (Q := Q) (L := L) (tp := tp) e
  obtain ⟨g5, g6, g7⟩ := hE_01 (n := n) (s := s) (c := c) (I := I) (J := J) (A := A) (B := B) (R := R) (Q := Q) (L := L) (tp := tp) e
  have k1 := E_fine (n := n) (s := s) (c := c) (I := I) (J := J) (A := A) (B := B) (R := R) (Q := Q) (L := L) (tp := tp) d e he
  simp (disch := first | omega | exact zb_1 | exact zb_0 | exact zb_n1 | exact zb_n0) only [x93_74, x93_75, x93_78, x93_81, x93_84, mq_dl_int, mq_dl_ref, mq_dl_null, mq_dl_none, mc_some, Option.toList_some, Option.toList_none, List.cons_append, List.nil_append, zb_1, zb_0, ↓reduceIte, if_true, if_false, not_true_eq_false, not_false_eq_true, Bool.false_eq_true, z_10, z_01, eq_self, Bool.and_self, true_or, or_true, false_or, or_false, true_and, and_true, false_and, and_false, and_self, or_self, Nat.reduceLT, Nat.reduceEqDiff, Nat.reduceLeDiff, Nat.reduceAdd, Nat.reduceMul, Nat.reduceSub, zn_lit, zn_add, zn_mul, zn_sub, zn_addneg, zn_lt, zn_le, zn_eq, zn_clamp, zn_in, zn_long, g1, g2, g5, k1, hF, decide_false, zo_f]
theorem E_pt (h : TKp L tp I A) (hS : STR c) : ∀ (k : Nat), k ≤ 5 → ∀ (d : Nat) (e : EST), EB e → mz (d + 5 * k + 6) 93 0 [some (.ref 5), some (.int (zn (5 - k))), none, none, none] [] (hE L tp n s c I J A B R Q e) = some (some none, hE L tp n s c I J A B R Q (ptF L tp k e)) := by
  have hL := h.1
  intro k
  induction k with
  | zero =>
    intro _ d e he
    have h1 := E_pt1 (n := n) (s := s) (J := J) (B := B) (R := R) (Q := Q) h hS d 5 (by omega) e he
    have hn : ¬ (stx (if csq L tp e.1.1 = true then (if 5 ≤ 5 then flt L tp 5 e.1 else e.1) else flt L tp 1 e.1) e).1.2 = 0 := by
      show ¬ (if csq L tp e.1.1 = true then (if 5 ≤ 5 then flt L tp 5 e.1 else e.1) else flt L tp 1 e.1).2 = 0
      split
      · rw [if_pos (by omega)]; exact flt_n (by omega)
      · exact flt_n (by omega)
    have hb : EB (stx (if csq L tp e.1.1 = true then (if 5 ≤ 5 then flt L tp 5 e.1 else e.1) else flt L tp 1 e.1) e) := by
      apply EB_stx he
      split
      · rw [if_pos (by omega)]; exact flt_b hL he.1 5 (by omega)
      · exact flt_b hL he.1 1 (by omega)
    have h2 := h1.trans (E_ptN (d + 5) _ hb hn _ _ _ _)
    rw [if_pos (Nat.le_refl 5)] at h2
    exact h2
  | succ k ih =>
    intro hk d e he
    have ihk := ih (by omega) d
    have h1 := E_pt1 (n := n) (s := s) (J := J) (B := B) (R := R) (Q := Q) h hS (d + 5 * k + 5) (5 - (k + 1)) (by omega) e he
    have ed : d + 5 * (k + 1) + 6 = d + 5 * k + 5 + 6 := by omega
    rw [ed, h1, if_neg (show ¬ 5 ≤ 5 - (k + 1) by omega)]
    have e0 : stx e.1 e = e := rfl
    unfold ptF
    by_cases hc : csq L tp e.1.1 = true
    · rw [if_pos hc, if_pos hc, e0]
      by_cases q : e.1.2 = 0
      · rw [if_pos q]
        obtain ⟨g1, g2, g3, g4⟩ := hE_50 (n := n) (s := s) (c := c) (I := I) (J := J) (A := A) (B := B) (R := R) (Q := Q) (L := L) (tp := tp) e
        obtain ⟨g5, g6, g7⟩ := hE_01 (n := n) (s := s) (c := c) (I := I) (J := J) (A := A) (B := B) (R := R) (Q := Q) (L := L) (tp := tp) e
        have k1 := E_fine (n := n) (s := s) (c := c) (I := I) (J := J) (A := A) (B := B) (R := R) (Q := Q) (L := L) (tp := tp) (d + 5 * k + 10) e he
        have hb1 := EB_stx he (adv_b he.1)
        have k2 := E_adv (n := n) (s := s) (J := J) (B := B) (R := R) (Q := Q) h hS (d + 5 * k + 6) e he
        obtain ⟨j5, j6, j7⟩ := hE_01 (n := n) (s := s) (c := c) (I := I) (J := J) (A := A) (B := B) (R := R) (Q := Q) (L := L) (tp := tp) (stx (adv e.1) e)
        have hv := fcq_v L tp e.1.1
        by_cases q2 : wdq L tp e.1.1 13 = true
        · rw [if_pos q2, q2]
          have hb2 := EB_ptF (L := L) (tp := tp) hL k _ hb1
          have k3 := ih (by omega) (d + 4) _ hb1
          have k3' : mz (d + 5 * k + 10) 93 0 [some (.ref 5), some (.int (zn (5 - (k + 1) + 1))), none, none, none] [] (hE L tp n s c I J A B R Q (stx (adv e.1) e)) = some (some none, hE L tp n s c I J A B R Q (ptF L tp k (stx (adv e.1) e))) := by
            rw [show 5 - (k + 1) + 1 = 5 - k by omega]
            rw [show d + 5 * k + 10 = d + 4 + 5 * k + 6 by omega]
            exact k3
          have k4 := E_add (n := n) (s := s) (c := c) (I := I) (J := J) (A := A) (B := B) (R := R) (Q := Q) (L := L) (tp := tp) (d + 5 * k + 10) (zn 6) (zn 0) _ hb2
          obtain ⟨i1, i2, i3, i4⟩ := hE_50 (n := n) (s := s) (c := c) (I := I) (J := J) (A := A) (B := B) (R := R) (Q := Q) (L := L) (tp := tp) (ptF L tp k (stx (adv e.1) e))
          obtain ⟨i5, i6, i7⟩ := hE_01 (n := n) (s := s) (c := c) (I := I) (J := J) (A := A) (B := B) (R := R) (Q := Q) (L := L) (tp := tp) (ptF L tp k (stx (adv e.1) e))
          generalize hV : (if fcq L tp e.1.1 = 0 then -zn 1 else zn (fcq L tp e.1.1)) = V
          generalize hW : sgq L tp e.1.1 40 = W
          simp (disch := first | omega | exact zb_1 | exact zb_0 | exact zb_n1 | exact zb_n0) only [x93_74, x93_75, x93_78, x93_81, x93_85, x93_86, x93_89, x93_90, x93_93, x93_96, x93_97, x93_98, x93_99, x93_100, x93_103, x93_104, x93_107, x93_109, x93_110, x93_113, x93_191, mq_dl_int, mq_dl_ref, mq_dl_null, mq_dl_none, mc_some, Option.toList_some, Option.toList_none, List.cons_append, List.nil_append, zb_1, zb_0, ↓reduceIte, if_true, if_false, not_true_eq_false, not_false_eq_true, Bool.false_eq_true, z_10, z_01, eq_self, Bool.and_self, true_or, or_true, false_or, or_false, true_and, and_true, false_and, and_false, and_self, or_self, Nat.reduceLT, Nat.reduceEqDiff, Nat.reduceLeDiff, Nat.reduceAdd, Nat.reduceMul, Nat.reduceSub, zn_lit, zn_add, zn_mul, zn_sub, zn_addneg, zn_lt, zn_le, zn_eq, zn_clamp, zn_in, zn_long, g1, g2, g5, i3, i4, i7, j6, k1, k2, k3', k4, q, decide_true, zo_t]
        · rw [if_neg q2, Bool.eq_false_iff.mpr q2]
          by_cases q3 : sgq L tp e.1.1 40 = true
          · rw [if_pos q3, q3]
            have hb2 := EB_exG (L := L) (tp := tp) (EB_ptF (tp := tp) hL k) _ hb1
            have k3 := E_exG (n := n) (s := s) (c := c) (J := J) (B := B) (R := R) (Q := Q) h hS (d + 5 * k) (5 - k) (ptF L tp k) (EB_ptF (tp := tp) hL k) ihk _ hb1
            have k3' : mz (d + 5 * k + 10) 89 0 [some (.ref 5), some (.int (zn (5 - (k + 1) + 1))), none, none] [] (hE L tp n s c I J A B R Q (stx (adv e.1) e)) = some (some none, hE L tp n s c I J A B R Q (exG L tp (ptF L tp k) (stx (adv e.1) e))) := by
              rw [show 5 - (k + 1) + 1 = 5 - k by omega]
              exact k3
            have k4 := E_ts (n := n) (s := s) (J := J) (B := B) (R := R) (Q := Q) h hS (d + 5 * k + 5) 41 (by omega) _ hb2
            obtain ⟨i1, i2, i3, i4⟩ := hE_50 (n := n) (s := s) (c := c) (I := I) (J := J) (A := A) (B := B) (R := R) (Q := Q) (L := L) (tp := tp) (exG L tp (ptF L tp k) (stx (adv e.1) e))
            obtain ⟨i5, i6, i7⟩ := hE_01 (n := n) (s := s) (c := c) (I := I) (J := J) (A := A) (B := B) (R := R) (Q := Q) (L := L) (tp := tp) (exG L tp (ptF L tp k) (stx (adv e.1) e))
            generalize hV : (if fcq L tp e.1.1 = 0 then -zn 1 else zn (fcq L tp e.1.1)) = V
            simp (disch := first | omega | exact zb_1 | exact zb_0 | exact zb_n1 | exact zb_n0) only [x93_74, x93_75, x93_78, x93_81, x93_85, x93_86, x93_116, x93_118, x93_121, x93_122, x93_125, x93_128, x93_129, x93_130, x93_131, x93_132, x93_135, x93_136, x93_139, x93_141, x93_144, x93_191, mq_dl_int, mq_dl_ref, mq_dl_null, mq_dl_none, mc_some, Option.toList_some, Option.toList_none, List.cons_append, List.nil_append, zb_1, zb_0, ↓reduceIte, if_true, if_false, not_true_eq_false, not_false_eq_true, Bool.false_eq_true, z_10, z_01, eq_self, Bool.and_self, true_or, or_true, false_or, or_false, true_and, and_true, false_and, and_false, and_self, or_self, Nat.reduceLT, Nat.reduceEqDiff, Nat.reduceLeDiff, Nat.reduceAdd, Nat.reduceMul, Nat.reduceSub, zn_lit, zn_add, zn_mul, zn_sub, zn_addneg, zn_lt, zn_le, zn_eq, zn_clamp, zn_in, zn_long, g1, g2, g5, i1, i2, i5, j6, k1, k2, k3', k4, q, decide_true, zo_t, zo_f]
          · rw [if_neg q3, Bool.eq_false_iff.mpr q3]
            by_cases q4 : fcq L tp e.1.1 = 0
            · have q5 : tkS L tp (ps L tp e.1.1) = 2 := by
                unfold csq at hc
                simpa [q2, q3, q4] using hc
              rw [if_pos q4, if_pos q4, q4]
              have hnb := nbq_lt q5
              have hb2 := EB_emi he (zn 0) (zn (nbq L tp e.1.1))
              have k3 := C_see (n := n) (s := s) (c := c) (J := J) (B := B) (R := R) (Q := Q) (TKE h e) (d + 5 * k + 9) 0 9999 (by omega) (by omega) e.1 he.1
              rw [seev_2 q5, see_iff q q5 (by omega) (by omega)] at k3
              have k3' : mz (d + 5 * k + 10) 140 0 [some (.ref 1), some (.int (zn 0)), some (.int (zn 9999)), none] [] (hE L tp n s c I J A B R Q e) = some (some (some (.int (zn (nbq L tp e.1.1)))), hE L tp n s c I J A B R Q e) := k3
              have k4 := E_add (n := n) (s := s) (c := c) (I := I) (J := J) (A := A) (B := B) (R := R) (Q := Q) (L := L) (tp := tp) (d + 5 * k + 10) (zn 0) (zn (nbq L tp e.1.1)) e he
              have k5 := E_adv (n := n) (s := s) (J := J) (B := B) (R := R) (Q := Q) h hS (d + 5 * k + 6) _ hb2
              have ex : (emi (zn 0) (zn (nbq L tp e.1.1)) e).1 = e.1 := by unfold emi; split <;> rfl
              rw [ex] at k5
              obtain ⟨i1, i2, i3, i4⟩ := hE_50 (n := n) (s := s) (c := c) (I := I) (J := J) (A := A) (B := B) (R := R) (Q := Q) (L := L) (tp := tp) (emi (zn 0) (zn (nbq L tp e.1.1)) e)
              obtain ⟨i5, i6, i7⟩ := hE_01 (n := n) (s := s) (c := c) (I := I) (J := J) (A := A) (B := B) (R := R) (Q := Q) (L := L) (tp := tp) (emi (zn 0) (zn (nbq L tp e.1.1)) e)
              simp (disch := first | omega | exact zb_1 | exact zb_0 | exact zb_n1 | exact zb_n0) only [x93_74, x93_75, x93_78, x93_81, x93_85, x93_86, x93_116, x93_118, x93_147, x93_148, x93_151, x93_152, x93_153, x93_156, x93_157, x93_161, x93_162, x93_163, x93_166, x93_167, x93_170, x93_171, x93_174, x93_177, x93_181, x93_184, x93_185, x93_188, x93_191, mq_dl_int, mq_dl_ref, mq_dl_null, mq_dl_none, mc_some, Option.toList_some, Option.toList_none, List.cons_append, List.nil_append, zb_1, zb_0, ↓reduceIte, if_true, if_false, not_true_eq_false, not_false_eq_true, Bool.false_eq_true, z_10, z_01, eq_self, Bool.and_self, true_or, or_true, false_or, or_false, true_and, and_true, false_and, and_false, and_self, or_self, Nat.reduceLT, Nat.reduceEqDiff, Nat.reduceLeDiff, Nat.reduceAdd, Nat.reduceMul, Nat.reduceSub, zn_lit, zn_add, zn_mul, zn_sub, zn_addneg, zn_lt, zn_le, zn_eq, zn_clamp, zn_in, zn_long, g1, g2, g3, g4, g5, g7, i1, i2, i5, k1, k3', k4, k5, q, decide_true, zo_t, zo_f]
            · rw [if_neg q4, if_neg q4]
              have hf := fcq_lt L tp e.1.1
              have v1 := zn_m1 (fcq L tp e.1.1) (by omega)
              have hb2 := EB_emi he (zn (fcq L tp e.1.1)) (zn 0)
              have k4 := E_add (n := n) (s := s) (c := c) (I := I) (J := J) (A := A) (B := B) (R := R) (Q := Q) (L := L) (tp := tp) (d + 5 * k + 10) (zn (fcq L tp e.1.1)) (zn 0) e he
              have k5 := E_adv (n := n) (s := s) (J := J) (B := B) (R := R) (Q := Q) h hS (d + 5 * k + 6) _ hb2
              have ex : (emi (zn (fcq L tp e.1.1)) (zn 0) e).1 = e.1 := by unfold emi; split <;> rfl
              rw [ex] at k5
              obtain ⟨i1, i2, i3, i4⟩ := hE_50 (n := n) (s := s) (c := c) (I := I) (J := J) (A := A) (B := B) (R := R) (Q := Q) (L := L) (tp := tp) (emi (zn (fcq L tp e.1.1)) (zn 0) e)
              obtain ⟨i5, i6, i7⟩ := hE_01 (n := n) (s := s) (c := c) (I := I) (J := J) (A := A) (B := B) (R := R) (Q := Q) (L := L) (tp := tp) (emi (zn (fcq L tp e.1.1)) (zn 0) e)
              simp (disch := first | omega | exact zb_1 | exact zb_0 | exact zb_n1 | exact zb_n0) only [x93_74, x93_75, x93_78, x93_81, x93_85, x93_86, x93_116, x93_118, x93_147, x93_148, x93_151, x93_152, x93_153, x93_160, x93_161, x93_162, x93_163, x93_180, x93_181, x93_184, x93_185, x93_188, x93_191, mq_dl_int, mq_dl_ref, mq_dl_null, mq_dl_none, mc_some, Option.toList_some, Option.toList_none, List.cons_append, List.nil_append, zb_1, zb_0, ↓reduceIte, if_true, if_false, not_true_eq_false, not_false_eq_true, Bool.false_eq_true, z_10, z_01, eq_self, Bool.and_self, true_or, or_true, false_or, or_false, true_and, and_true, false_and, and_false, and_self, or_self, Nat.reduceLT, Nat.reduceEqDiff, Nat.reduceLeDiff, Nat.reduceAdd, Nat.reduceMul, Nat.reduceSub, zn_lit, zn_add, zn_mul, zn_sub, zn_addneg, zn_lt, zn_le, zn_eq, zn_clamp, zn_in, zn_long, g1, g2, g3, g4, g5, g7, i1, i2, i5, k1, k4, k5, v1, q, decide_true, zo_t, zo_f]
      · rw [if_neg q]
        exact E_ptN (d + 5 * k + 10) e he q _ _ _ _
    · rw [if_neg hc, if_neg hc]
      have hn := flt_n (L := L) (tp := tp) (x := e.1) (e := 1) (by omega)
      exact E_ptN (d + 5 * k + 10) _ (EB_stx he (flt_b hL he.1 1 (by omega))) hn _ _ _ _
end CP
