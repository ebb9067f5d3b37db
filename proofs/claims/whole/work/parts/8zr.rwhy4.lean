/-! COLOURS: the reference, even both ways, and why not -/
def sy (f : Nat → Int32) (i j c : Nat) : Bool := decide (f (224 + (7 + 36 * i + 6 * j + c)) = f (224 + (7 + 36 * j + 6 * i + c)))
section RH
variable {n s : Nat} {c : Nat → mq_E} {I : Nat → Int32} {J : Nat → Int64} {A : Nat → Nat → Int32} {B : Nat → Nat → Int64} {R : Nat → Value} {Q : Nat → Nat → Option Nat}
variable {V : Nat → Nat → Int32} {k : Nat → Nat → Nat} {p m : Nat}
theorem R_syc (d i j : Nat) (hm : m ≤ 6) (hi : i < m) (hj : j < m) (o6 o7 : Option Value) : ∀ (e u : Nat) (b : Bool), u + e = m → mz (d + 1) 216 180 [some (.ref 23), some (.int (zn m)), some (.int (zo b)), some (.int (zn i)), some (.int (zn j)), some (.int (zn u)), o6, o7] [] (hp n s c I J A B R Q) = mz (d + 1) 216 239 [some (.ref 23), some (.int (zn m)), some (.int (zo (b && zall (sy (A 29) i j) u e))), some (.int (zn i)), some (.int (zn j)), some (.int (zn m)), o6, o7] [] (hp n s c I J A B R Q)
  | 0, u, b, hu => by
    have e : u = m := by omega
    subst e
    simp (disch := first | omega | exact zb_1 | exact zb_0 | exact zb_n1 | exact zb_n0) only [x216_180, x216_182, x216_183, mq_dl_int, mq_dl_ref, mq_dl_null, mq_dl_none, mc_some, Option.toList_some, Option.toList_none, List.cons_append, List.nil_append, zb_1, zb_0, ↓reduceIte, if_true, if_false, not_true_eq_false, not_false_eq_true, Bool.false_eq_true, z_10, z_01, eq_self, Bool.and_self, true_or, or_true, false_or, or_false, true_and, and_true, false_and, and_false, and_self, or_self, Nat.reduceLT, Nat.reduceEqDiff, Nat.reduceLeDiff, Nat.reduceAdd, Nat.reduceMul, Nat.reduceSub, zn_lit, zn_add, zn_mul, zn_sub, zn_addneg, zn_lt, zn_le, zn_eq, zn_clamp, zn_in, zn_long, Nat.le_refl, zall, Bool.and_true]
  | e + 1, u, b, hu => by
    have hz : zall (sy (A 29) i j) u (e + 1) = (sy (A 29) i j u && zall (sy (A 29) i j) (u + 1) e) := rfl
    rw [hz, ← Bool.and_assoc, ← R_syc d i j hm hi hj o6 o7 e (u + 1) _ (by omega), x216_180]
    cases b with
    | false =>
      rw [Bool.false_and, zo_f]
      simp (disch := first | omega | exact zb_1 | exact zb_0 | exact zb_n1 | exact zb_n0) only [x216_182, x216_183, x216_186, x216_187, x216_231, x216_232, x216_233, x216_236, mq_dl_int, mq_dl_ref, mq_dl_null, mq_dl_none, mc_some, Option.toList_some, Option.toList_none, List.cons_append, List.nil_append, zb_1, zb_0, ↓reduceIte, if_true, if_false, not_true_eq_false, not_false_eq_true, Bool.false_eq_true, z_10, z_01, eq_self, Bool.and_self, true_or, or_true, false_or, or_false, true_and, and_true, false_and, and_false, and_self, or_self, Nat.reduceLT, Nat.reduceEqDiff, Nat.reduceLeDiff, Nat.reduceAdd, Nat.reduceMul, Nat.reduceSub, zn_lit, zn_add, zn_mul, zn_sub, zn_addneg, zn_lt, zn_le, zn_eq, zn_clamp, zn_in, zn_long, show ¬ m ≤ u by omega]
    | true =>
      rw [Bool.true_and, zo_t]
      by_cases q : A 29 (224 + (7 + 36 * i + 6 * j + u)) = A 29 (224 + (7 + 36 * j + 6 * i + u))
      · rw [show sy (A 29) i j u = true from decide_eq_true q, zo_t]
        simp (disch := first | omega | exact zb_1 | exact zb_0 | exact zb_n1 | exact zb_n0) only [x216_182, x216_183, x216_186, x216_187, x216_190, x216_191, x216_194, x216_197, x216_198, x216_200, x216_202, x216_205, x216_206, x216_207, x216_208, x216_211, x216_214, x216_216, x216_217, x216_219, x216_222, x216_223, x216_224, x216_227, x216_228, x216_232, x216_233, x216_236, x195_0, x195_2, x195_4, x195_5, x195_6, x195_7, x195_9, x195_10, x195_11, x195_12, x195_13, x195_14, mq_dl_int, mq_dl_ref, mq_dl_null, mq_dl_none, mc_some, Option.toList_some, Option.toList_none, List.cons_append, List.nil_append, zb_1, zb_0, ↓reduceIte, if_true, if_false, not_true_eq_false, not_false_eq_true, Bool.false_eq_true, z_10, z_01, eq_self, Bool.and_self, true_or, or_true, false_or, or_false, true_and, and_true, false_and, and_false, and_self, or_self, Nat.reduceLT, Nat.reduceEqDiff, Nat.reduceLeDiff, Nat.reduceAdd, Nat.reduceMul, Nat.reduceSub, zn_lit, zn_add, zn_mul, zn_sub, zn_addneg, zn_lt, zn_le, zn_eq, zn_clamp, zn_in, zn_long, hp_1, hp_21, upd_zu, updL_zu, updQ_zu, zu_eq, zu_ne, ho_23, ho_23_0, hf_23_0, hk_23_0, hw_23_0, ho_23_1, hf_23_1, ho_23_2, hf_23_2, hk_23_2, hw_23_2, ho_23_3, hf_23_3, hk_23_3, hw_23_3, ho_23_4, hf_23_4, ho_23_5, hf_23_5, ho_23_6, hf_23_6, ho_23_7, hf_23_7, hk_23_7, hw_23_7, ho_23_8, hf_23_8, hk_23_8, hw_23_8, ho_23_9, hf_23_9, ho_23_10, hf_23_10, ho_23_11, hf_23_11, hk_23_11, hw_23_11, ho_23_12, hf_23_12, hk_23_12, hw_23_12, ho_23_13, hf_23_13, ho_23_14, hf_23_14, ho_23_15, hf_23_15, ho_23_16, hf_23_16, hk_23_16, hw_23_16, ho_23_17, hf_23_17, ho_23_18, hf_23_18, ho_23_19, hf_23_19, hk_23_19, hw_23_19, ho_23_20, hf_23_20, ho_23_21, hf_23_21, hk_23_21, hw_23_21, ho_23_22, hf_23_22, hk_23_22, hw_23_22, ho_23_23, hf_23_23, hk_23_23, hw_23_23, ho_23_24, hf_23_24, hk_23_24, hw_23_24, ho_23_25, hf_23_25, ho_23_26, hf_23_26, ho_23_27, hf_23_27, hk_23_27, hw_23_27, ho_23_28, hf_23_28, ho_23_29, hf_23_29, ho_23_30, hf_23_30, hk_23_30, hw_23_30, ho_23_31, hf_23_31, hk_23_31, hw_23_31, ho_23_32, hf_23_32, ho_23_33, hf_23_33, ho_23_34, hf_23_34, hk_23_34, hw_23_34, ho_23_35, hf_23_35, hk_23_35, hw_23_35, ho_23_36, hf_23_36, hk_23_36, hw_23_36, ho_23_37, hf_23_37, ho_23_38, hf_23_38, ho_23_39, hf_23_39, hn_24, hi_24, hj_24, hg_24, hu_24, hn_25, hi_25, hj_25, hg_25, hu_25, hn_26, hi_26, hj_26, hg_26, hu_26, hn_27, hi_27, hg_27, hu_27, hn_28, hi_28, hg_28, hu_28, hn_29, hi_29, hj_29, hg_29, hu_29, hn_30, hi_30, hj_30, hg_30, hu_30, hn_31, hi_31, hj_31, hg_31, hu_31, hn_32, hi_32, hj_32, hg_32, hu_32, hn_33, hi_33, hj_33, hg_33, hu_33, hn_34, hi_34, hj_34, hg_34, hu_34, hn_35, hi_35, hj_35, hg_35, hu_35, hn_36, hi_36, hj_36, hg_36, hu_36, hn_37, hi_37, hg_37, hu_37, hn_38, hi_38, hj_38, hg_38, hu_38, hn_39, hi_39, hj_39, hg_39, hu_39, hn_40, hi_40, hj_40, hg_40, hu_40, hn_41, hi_41, hj_41, hg_41, hu_41, hn_42, hi_42, hg_42, hu_42, hn_43, hi_43, hg_43, hu_43, hn_44, hi_44, hj_44, hg_44, hu_44, hn_45, hi_45, hg_45, hu_45, q, show ¬ m ≤ u by omega, show 224 + (7 + 36 * i + 6 * j + u) < 4256 by omega, show 224 + (7 + 36 * j + 6 * i + u) < 4256 by omega, decide_true]
      · rw [show sy (A 29) i j u = false from decide_eq_false q, zo_f]
        simp (disch := first | omega | exact zb_1 | exact zb_0 | exact zb_n1 | exact zb_n0) only [x216_182, x216_183, x216_186, x216_187, x216_190, x216_191, x216_194, x216_197, x216_198, x216_200, x216_202, x216_205, x216_206, x216_207, x216_208, x216_211, x216_214, x216_216, x216_217, x216_219, x216_222, x216_223, x216_224, x216_231, x216_232, x216_233, x216_236, x195_0, x195_2, x195_4, x195_5, x195_6, x195_7, x195_9, x195_10, x195_11, x195_12, x195_13, x195_14, mq_dl_int, mq_dl_ref, mq_dl_null, mq_dl_none, mc_some, Option.toList_some, Option.toList_none, List.cons_append, List.nil_append, zb_1, zb_0, ↓reduceIte, if_true, if_false, not_true_eq_false, not_false_eq_true, Bool.false_eq_true, z_10, z_01, eq_self, Bool.and_self, true_or, or_true, false_or, or_false, true_and, and_true, false_and, and_false, and_self, or_self, Nat.reduceLT, Nat.reduceEqDiff, Nat.reduceLeDiff, Nat.reduceAdd, Nat.reduceMul, Nat.reduceSub, zn_lit, zn_add, zn_mul, zn_sub, zn_addneg, zn_lt, zn_le, zn_eq, zn_clamp, zn_in, zn_long, hp_1, hp_21, upd_zu, updL_zu, updQ_zu, zu_eq, zu_ne, ho_23, ho_23_0, hf_23_0, hk_23_0, hw_23_0, ho_23_1, hf_23_1, ho_23_2, hf_23_2, hk_23_2, hw_23_2, ho_23_3, hf_23_3, hk_23_3, hw_23_3, ho_23_4, hf_23_4, ho_23_5, hf_23_5, ho_23_6, hf_23_6, ho_23_7, hf_23_7, hk_23_7, hw_23_7, ho_23_8, hf_23_8, hk_23_8, hw_23_8, ho_23_9, hf_23_9, ho_23_10, hf_23_10, ho_23_11, hf_23_11, hk_23_11, hw_23_11, ho_23_12, hf_23_12, hk_23_12, hw_23_12, ho_23_13, hf_23_13, ho_23_14, hf_23_14, ho_23_15, hf_23_15, ho_23_16, hf_23_16, hk_23_16, hw_23_16, ho_23_17, hf_23_17, ho_23_18, hf_23_18, ho_23_19, hf_23_19, hk_23_19, hw_23_19, ho_23_20, hf_23_20, ho_23_21, hf_23_21, hk_23_21, hw_23_21, ho_23_22, hf_23_22, hk_23_22, hw_23_22, ho_23_23, hf_23_23, hk_23_23, hw_23_23, ho_23_24, hf_23_24, hk_23_24, hw_23_24, ho_23_25, hf_23_25, ho_23_26, hf_23_26, ho_23_27, hf_23_27, hk_23_27, hw_23_27, ho_23_28, hf_23_28, ho_23_29, hf_23_29, ho_23_30, hf_23_30, hk_23_30, hw_23_30, ho_23_31, hf_23_31, hk_23_31, hw_23_31, ho_23_32, hf_23_32, ho_23_33, hf_23_33, ho_23_34, hf_23_34, hk_23_34, hw_23_34, ho_23_35, hf_23_35, hk_23_35, hw_23_35, ho_23_36, hf_23_36, hk_23_36, hw_23_36, ho_23_37, hf_23_37, ho_23_38, hf_23_38, ho_23_39, hf_23_39, hn_24, hi_24, hj_24, hg_24, hu_24, hn_25, hi_25, hj_25, hg_25, hu_25, hn_26, hi_26, hj_26, hg_26, hu_26, hn_27, hi_27, hg_27, hu_27, hn_28, hi_28, hg_28, hu_28, hn_29, hi_29, hj_29, hg_29, hu_29, hn_30, hi_30, hj_30, hg_30, hu_30, hn_31, hi_31, hj_31, hg_31, hu_31, hn_32, hi_32, hj_32, hg_32, hu_32, hn_33, hi_33, hj_33, hg_33, hu_33, hn_34, hi_34, hj_34, hg_34, hu_34, hn_35, hi_35, hj_35, hg_35, hu_35, hn_36, hi_36, hj_36, hg_36, hu_36, hn_37, hi_37, hg_37, hu_37, hn_38, hi_38, hj_38, hg_38, hu_38, hn_39, hi_39, hj_39, hg_39, hu_39, hn_40, hi_40, hj_40, hg_40, hu_40, hn_41, hi_41, hj_41, hg_41, hu_41, hn_42, hi_42, hg_42, hu_42, hn_43, hi_43, hg_43, hu_43, hn_44, hi_44, hj_44, hg_44, hu_44, hn_45, hi_45, hg_45, hu_45, q, show ¬ m ≤ u by omega, show 224 + (7 + 36 * i + 6 * j + u) < 4256 by omega, show 224 + (7 + 36 * j + 6 * i + u) < 4256 by omega, decide_true]
theorem R_syj (d i : Nat) (hm : m ≤ 6) (hi : i < m) (o6 o7 : Option Value) : ∀ (e j : Nat) (b : Bool) (o5 : Option Value), j + e = m → ∃ o5', mz (d + 1) 216 171 [some (.ref 23), some (.int (zn m)), some (.int (zo b)), some (.int (zn i)), some (.int (zn j)), o5, o6, o7] [] (hp n s c I J A B R Q) = mz (d + 1) 216 245 [some (.ref 23), some (.int (zn m)), some (.int (zo (b && zall (fun j => zall (sy (A 29) i j) 0 m) j e))), some (.int (zn i)), some (.int (zn m)), o5', o6, o7] [] (hp n s c I J A B R Q)
  | 0, j, b, o5, hj => by
    have e : j = m := by omega
    subst e
    refine ⟨o5, ?_⟩
    simp (disch := first | omega | exact zb_1 | exact zb_0 | exact zb_n1 | exact zb_n0) only [x216_171, x216_173, x216_174, mq_dl_int, mq_dl_ref, mq_dl_null, mq_dl_none, mc_some, Option.toList_some, Option.toList_none, List.cons_append, List.nil_append, zb_1, zb_0, ↓reduceIte, if_true, if_false, not_true_eq_false, not_false_eq_true, Bool.false_eq_true, z_10, z_01, eq_self, Bool.and_self, true_or, or_true, false_or, or_false, true_and, and_true, false_and, and_false, and_self, or_self, Nat.reduceLT, Nat.reduceEqDiff, Nat.reduceLeDiff, Nat.reduceAdd, Nat.reduceMul, Nat.reduceSub, zn_lit, zn_add, zn_mul, zn_sub, zn_addneg, zn_lt, zn_le, zn_eq, zn_clamp, zn_in, zn_long, Nat.le_refl, zall, Bool.and_true]
  | e + 1, j, b, o5, hj => by
    have hz : zall (fun j => zall (sy (A 29) i j) 0 m) j (e + 1) = (zall (sy (A 29) i j) 0 m && zall (fun j => zall (sy (A 29) i j) 0 m) (j + 1) e) := rfl
    have e1 := R_syc (n := n) (s := s) (c := c) (I := I) (J := J) (A := A) (B := B) (R := R) (Q := Q) d i j hm hi (by omega) o6 o7 m 0 b (by omega)
    obtain ⟨o5', e2⟩ := R_syj d i hm hi o6 o7 e (j + 1) (b && zall (sy (A 29) i j) 0 m) (some (.int (zn m))) (by omega)
    refine ⟨o5', ?_⟩
    rw [hz, ← Bool.and_assoc, ← e2, x216_171]
    simp (disch := first | omega | exact zb_1 | exact zb_0 | exact zb_n1 | exact zb_n0) only [x216_173, x216_174, x216_177, x216_178, x216_239, x216_242, mq_dl_int, mq_dl_ref, mq_dl_null, mq_dl_none, mc_some, Option.toList_some, Option.toList_none, List.cons_append, List.nil_append, zb_1, zb_0, ↓reduceIte, if_true, if_false, not_true_eq_false, not_false_eq_true, Bool.false_eq_true, z_10, z_01, eq_self, Bool.and_self, true_or, or_true, false_or, or_false, true_and, and_true, false_and, and_false, and_self, or_self, Nat.reduceLT, Nat.reduceEqDiff, Nat.reduceLeDiff, Nat.reduceAdd, Nat.reduceMul, Nat.reduceSub, zn_lit, zn_add, zn_mul, zn_sub, zn_addneg, zn_lt, zn_le, zn_eq, zn_clamp, zn_in, zn_long, e1, show ¬ m ≤ j by omega]
theorem R_syi (d : Nat) (hm : m ≤ 6) (o6 o7 : Option Value) : ∀ (e i : Nat) (b : Bool) (o4 o5 : Option Value), i + e = m → mz (d + 1) 216 163 [some (.ref 23), some (.int (zn m)), some (.int (zo b)), some (.int (zn i)), o4, o5, o6, o7] [] (hp n s c I J A B R Q) = some (some (some (.int (zn (if (b && zall (fun i => zall (fun j => zall (sy (A 29) i j) 0 m) 0 m) i e) = true then 0 else 5)))), (hp n s c I J A B R Q))
  | 0, i, b, o4, o5, hi => by
    have e : i = m := by omega
    subst e
    cases b with
    | true => simp (disch := first | omega | exact zb_1 | exact zb_0 | exact zb_n1 | exact zb_n0) only [x216_163, x216_164, x216_165, x216_251, x216_252, x216_255, x216_256, x216_260, mq_dl_int, mq_dl_ref, mq_dl_null, mq_dl_none, mc_some, Option.toList_some, Option.toList_none, List.cons_append, List.nil_append, zb_1, zb_0, ↓reduceIte, if_true, if_false, not_true_eq_false, not_false_eq_true, Bool.false_eq_true, z_10, z_01, eq_self, Bool.and_self, true_or, or_true, false_or, or_false, true_and, and_true, false_and, and_false, and_self, or_self, Nat.reduceLT, Nat.reduceEqDiff, Nat.reduceLeDiff, Nat.reduceAdd, Nat.reduceMul, Nat.reduceSub, zn_lit, zn_add, zn_mul, zn_sub, zn_addneg, zn_lt, zn_le, zn_eq, zn_clamp, zn_in, zn_long, Nat.le_refl, zall, Bool.and_true, zo_t]
    | false => simp (disch := first | omega | exact zb_1 | exact zb_0 | exact zb_n1 | exact zb_n0) only [x216_163, x216_164, x216_165, x216_251, x216_252, x216_259, x216_260, mq_dl_int, mq_dl_ref, mq_dl_null, mq_dl_none, mc_some, Option.toList_some, Option.toList_none, List.cons_append, List.nil_append, zb_1, zb_0, ↓reduceIte, if_true, if_false, not_true_eq_false, not_false_eq_true, Bool.false_eq_true, z_10, z_01, eq_self, Bool.and_self, true_or, or_true, false_or, or_false, true_and, and_true, false_and, and_false, and_self, or_self, Nat.reduceLT, Nat.reduceEqDiff, Nat.reduceLeDiff, Nat.reduceAdd, Nat.reduceMul, Nat.reduceSub, zn_lit, zn_add, zn_mul, zn_sub, zn_addneg, zn_lt, zn_le, zn_eq, zn_clamp, zn_in, zn_long, Nat.le_refl, zall, Bool.and_true, zo_f, Bool.false_eq_true]
  | e + 1, i, b, o4, o5, hi => by
    have hz : zall (fun i => zall (fun j => zall (sy (A 29) i j) 0 m) 0 m) i (e + 1) = (zall (fun j => zall (sy (A 29) i j) 0 m) 0 m && zall (fun i => zall (fun j => zall (sy (A 29) i j) 0 m) 0 m) (i + 1) e) := rfl
    obtain ⟨o5', e1⟩ := R_syj (n := n) (s := s) (c := c) (I := I) (J := J) (A := A) (B := B) (R := R) (Q := Q) d i hm (by omega) o6 o7 m 0 b o5 (by omega)
    rw [hz, ← Bool.and_assoc, ← R_syi d hm o6 o7 e (i + 1) (b && zall (fun j => zall (sy (A 29) i j) 0 m) 0 m) (some (.int (zn m))) o5' (by omega), x216_163]
    simp (disch := first | omega | exact zb_1 | exact zb_0 | exact zb_n1 | exact zb_n0) only [x216_164, x216_165, x216_168, x216_169, x216_245, x216_248, mq_dl_int, mq_dl_ref, mq_dl_null, mq_dl_none, mc_some, Option.toList_some, Option.toList_none, List.cons_append, List.nil_append, zb_1, zb_0, ↓reduceIte, if_true, if_false, not_true_eq_false, not_false_eq_true, Bool.false_eq_true, z_10, z_01, eq_self, Bool.and_self, true_or, or_true, false_or, or_false, true_and, and_true, false_and, and_false, and_self, or_self, Nat.reduceLT, Nat.reduceEqDiff, Nat.reduceLeDiff, Nat.reduceAdd, Nat.reduceMul, Nat.reduceSub, zn_lit, zn_add, zn_mul, zn_sub, zn_addneg, zn_lt, zn_le, zn_eq, zn_clamp, zn_in, zn_long, e1, show ¬ m ≤ i by omega]
theorem R_sha (hV : ∀ x y, x < p → y < p → A 35 (12 * x + y) = zn (k x y)) (hkm : ∀ x y, x < p → y < p → k x y < m) (hm : m ≤ 6) (hpp : p ≤ 12) (hI : I 1169 = zn p) (d : Nat) : (∃ f', UF (A 29) f' ∧ DN p k m m 0 f' ∧ mz (d + 2) 216 0 [some (.ref 23), some (.int (zn m)), none, none, none, none, none, none] [] (hp n s c I J A B R Q) = some (some (some (.int (zn (if zall (fun i => zall (fun j => zall (sy f' i j) 0 m) 0 m) 0 m = true then 0 else 5)))), hp n s c I J (zu A 29 f') B R Q)) ∨ (¬ w4 p k ∧ ∃ f', UF (A 29) f' ∧ mz (d + 2) 216 0 [some (.ref 23), some (.int (zn m)), none, none, none, none, none, none] [] (hp n s c I J A B R Q) = some (some (some (.int (zn 4))), hp n s c I J (zu A 29 f') B R Q)) := by
  have h0 : mz (d + 2) 216 0 [some (.ref 23), some (.int (zn m)), none, none, none, none, none, none] [] (hp n s c I J A B R Q) = mz (d + 2) 216 2 [some (.ref 23), some (.int (zn m)), some (.int (zn 0)), none, none, none, none, none] [] (hp n s c I J (zu A 29 (A 29)) B R Q) := by
    rw [zu_self]
    simp (disch := first | omega | exact zb_1 | exact zb_0 | exact zb_n1 | exact zb_n0) only [x216_0, x216_1, mq_dl_int, mq_dl_ref, mq_dl_null, mq_dl_none, mc_some, Option.toList_some, Option.toList_none, List.cons_append, List.nil_append, zb_1, zb_0, ↓reduceIte, if_true, if_false, not_true_eq_false, not_false_eq_true, Bool.false_eq_true, z_10, z_01, eq_self, Bool.and_self, true_or, or_true, false_or, or_false, true_and, and_true, false_and, and_false, and_self, or_self, Nat.reduceLT, Nat.reduceEqDiff, Nat.reduceLeDiff, Nat.reduceAdd, Nat.reduceMul, Nat.reduceSub, zn_lit, zn_add, zn_mul, zn_sub, zn_addneg, zn_lt, zn_le, zn_eq, zn_clamp, zn_in, zn_long]
  rcases R_shm (n := n) (s := s) (c := c) (J := J) (B := B) (R := R) (Q := Q) hV hkm hm hpp hI d m 0 (A 29) none none none none none (by omega) (fun u v hu hv huv => by omega) with ⟨f', q3, q4, q5, q6, q7, g0, g1, g2⟩ | ⟨g0, f', g1, g2⟩
  · left
    refine ⟨f', g0, g1, h0.trans (g2.trans ?_)⟩
    have e1 := R_syi (n := n) (s := s) (c := c) (I := I) (J := J) (A := zu A 29 f') (B := B) (R := R) (Q := Q) (d + 1) hm q6 q7 m 0 true q4 q5 (by omega)
    rw [zu_eq, Bool.true_and, zo_t] at e1
    rw [← e1]
    simp (disch := first | omega | exact zb_1 | exact zb_0 | exact zb_n1 | exact zb_n0) only [x216_159, x216_160, x216_161, x216_162, mq_dl_int, mq_dl_ref, mq_dl_null, mq_dl_none, mc_some, Option.toList_some, Option.toList_none, List.cons_append, List.nil_append, zb_1, zb_0, ↓reduceIte, if_true, if_false, not_true_eq_false, not_false_eq_true, Bool.false_eq_true, z_10, z_01, eq_self, Bool.and_self, true_or, or_true, false_or, or_false, true_and, and_true, false_and, and_false, and_self, or_self, Nat.reduceLT, Nat.reduceEqDiff, Nat.reduceLeDiff, Nat.reduceAdd, Nat.reduceMul, Nat.reduceSub, zn_lit, zn_add, zn_mul, zn_sub, zn_addneg, zn_lt, zn_le, zn_eq, zn_clamp, zn_in, zn_long]
  · exact Or.inr ⟨g0, f', g1, h0.trans g2⟩
end RH
theorem DN_w4 {p m : Nat} {k : Nat → Nat → Nat} {f : Nat → Int32} (hpp : p ≤ 12) (hkm : ∀ x y, x < p → y < p → k x y < m) (h : DN p k m m 0 f) : w4 p k := by
  intro x y x' y' h1 h2 h3 h4 e i j hi hj
  by_cases q : i < m ∧ j < m
  · have a1 := h i j q.1 q.2 (Or.inl q.1) x y h1 h2
    have a2 := h i j q.1 q.2 (Or.inl q.1) x' y' h3 h4
    rw [← e, a1] at a2
    have b1 := cnt_le p k x y i j p
    have b2 := cnt_le p k x' y' i j p
    rw [zn_eq _ _ (by omega) (by omega)] at a2
    exact a2
  · rw [cnt_z hkm h1 h2 (by omega), cnt_z hkm h3 h4 (by omega)]
theorem DN_W5 {p m : Nat} {k : Nat → Nat → Nat} {f : Nat → Int32} (hpp : p ≤ 12) (hm : m < 6) (hf : full p k m) (h : DN p k (m + 1) (m + 1) 0 f) : zall (fun i => zall (fun j => zall (sy f i j) 0 (m + 1)) 0 (m + 1)) 0 (m + 1) = true ↔ W5 p k := by
  have hkm : ∀ x y, x < p → y < p → k x y < m + 1 := fun x y hx hy => by have := hf.1 x y hx hy; omega
  have hE : ∀ x y, x < p → y < p → ∀ i j, i < m + 1 → j < m + 1 → (sy f i j (k x y) = true ↔ cnt p k x y i j p = cnt p k x y j i p) := by
    intro x y hx hy i j hi hj
    unfold sy
    have h1 := cnt_le p k x y i j p
    have h2 := cnt_le p k x y j i p
    rw [decide_eq_true_eq, h i j hi hj (Or.inl hi) x y hx hy, h j i hj hi (Or.inl hj) x y hx hy, zn_eq _ _ (by omega) (by omega)]
  constructor
  · intro h x y hx hy i j hi hj
    by_cases q : i < m + 1 ∧ j < m + 1
    · have h1 := (zall_iff _ (m + 1) 0).mp h i (by omega) (by omega)
      have h2 := (zall_iff _ (m + 1) 0).mp h1 j (by omega) (by omega)
      have h3 := (zall_iff _ (m + 1) 0).mp h2 (k x y) (by omega) (by have := hkm x y hx hy; omega)
      exact (hE x y hx hy i j q.1 q.2).mp h3
    · rw [cnt_z hkm hx hy (by omega), cnt_z hkm hx hy (by omega)]
  · intro h
    rw [zall_iff]
    intro i _ hi
    rw [zall_iff]
    intro j _ hj
    rw [zall_iff]
    intro c _ hc1
    obtain ⟨x, y, hx, hy, rfl⟩ := hf.2 c (by omega)
    exact (hE x y hx hy i j (by omega) (by omega)).mpr (h x y hx hy i j (by omega) (by omega))
theorem DN_RT {p m : Nat} {k : Nat → Nat → Nat} {f : Nat → Int32} {T : ZT} (hf : full p k m) (h : DN p k (m + 1) (m + 1) 0 f) (h224 : f 224 = zn (m + 1)) (ht : TR p k (m + 1) p 0 f) (hS : SCT p k (m + 1) T) : RT T (fun q => f (224 + q)) := by
  obtain ⟨a1, a2, a3, a4, a5⟩ := hS
  refine ⟨by rw [a1]; exact h224, fun i hi => ?_, fun i j c hi hj hc => ?_⟩
  · obtain ⟨x, y, hx, hy, rfl⟩ := hf.2 i (by omega)
    rw [a4 x y hx hy]
    show f (224 + (1 + k x y)) = _
    rw [← Nat.add_assoc]
    exact ht.1 x y (bef_e.mpr ⟨hx, hy⟩)
  · obtain ⟨x, y, hx, hy, rfl⟩ := hf.2 c (by omega)
    rw [a2 x y hx hy]
    exact h i j (by omega) (by omega) (Or.inl (by omega)) x y hx hy
theorem UF_f1 {f g h : Nat → Int32} (a : f1 f g) (b : UF g h) : f1 f h := fun q hq => by rw [b q (by omega)]; exact a q hq
theorem UF_TR {p m : Nat} {k : Nat → Nat → Nat} {f g : Nat → Int32} (hkm : ∀ x y, x < p → y < p → k x y < m) (hm : m ≤ 6) (h : TR p k m p 0 f) (hu : UF f g) : TR p k m p 0 g := by
  refine ⟨fun x y hb => ?_, fun c hc hn => ?_⟩
  · have h1 := bef_e.mp hb
    have := hkm x y h1.1 h1.2
    rw [hu _ (by omega)]
    exact h.1 x y hb
  · rw [hu _ (by omega)]
    exact h.2 c hc hn
section RI
variable {n s : Nat} {c : Nat → mq_E} {I : Nat → Int32} {J : Nat → Int64} {A : Nat → Nat → Int32} {B : Nat → Nat → Int64} {R : Nat → Value} {Q : Nat → Nat → Option Nat}
variable {V : Nat → Nat → Int32} {k : Nat → Nat → Nat} {p : Nat}
theorem R_fwhy (hV : ∀ x y, x < p → y < p → A 35 (12 * x + y) = V x y) (hk : ∀ x y, k x y = (V x y).toNatClampNeg) (h1p : 1 ≤ p) (hpp : p ≤ 12) (hI : I 1169 = zn p) (d : Nat) : ∃ w f', WHY p V k w ∧ f1 (A 29) f' ∧ (w = 0 → ∀ m T, full p k m → SCT p k (m + 1) T → RT T (fun q => f' (224 + q))) ∧ mz (d + 3) 213 0 [some (.ref 23), none, none, none, none, none, none, none] [] (hp n s c I J A B R Q) = some (some (some (.int (zn w))), hp n s c I J (zu A 29 f') B R Q) := by
  obtain ⟨mo, al, t, o5, o6, o7, h1, e1⟩ := R_fo (n := n) (s := s) (c := c) (J := J) (B := B) (R := R) (Q := Q) hV hk hpp hI (d + 2) p 0 0 true 0 none none none (by omega) ⟨by omega, by omega, ⟨fun _ x y hb => by have := hb.2; omega, fun _ => rfl⟩, fun _ => ⟨⟨by omega, fun c hc => by
    rw [Nat.zero_testBit]
    constructor
    · intro e; cases e
    · rintro ⟨x, y, ⟨h1, h2⟩, h3⟩; omega⟩, fun x y hb => by have := hb.2; omega, Or.inl rfl⟩⟩
  have hW1 := FI_W1 h1p h1
  have hmo := h1.1
  have ht := h1.2.1
  have hsh : 1 <<< (mo + 1) = 2 ^ (mo + 1) := Nat.one_shiftLeft _
  have hp2 : 1 ≤ 2 ^ (mo + 1) ∧ 2 ^ (mo + 1) ≤ 64 := by
    have : ∀ m : Fin 6, 1 ≤ 2 ^ (m.1 + 1) ∧ 2 ^ (m.1 + 1) ≤ 64 := by decide
    exact this ⟨mo, hmo⟩
  have es : mz (d + 3) 213 0 [some (.ref 23), none, none, none, none, none, none, none] [] (hp n s c I J A B R Q) = mz (d + 3) 213 110 [some (.ref 23), some (.int (zn mo)), some (.int (zo al)), some (.int (zn t)), some (.int (zn p)), o5, o6, o7] [] (hp n s c I J A B R Q) := by
    rw [← e1, zo_t]
    simp (disch := first | omega | exact zb_1 | exact zb_0 | exact zb_n1 | exact zb_n0) only [x213_0, x213_1, x213_2, x213_3, x213_4, x213_5, x213_6, x213_7, mq_dl_int, mq_dl_ref, mq_dl_null, mq_dl_none, mc_some, Option.toList_some, Option.toList_none, List.cons_append, List.nil_append, zb_1, zb_0, ↓reduceIte, if_true, if_false, not_true_eq_false, not_false_eq_true, Bool.false_eq_true, z_10, z_01, eq_self, Bool.and_self, true_or, or_true, false_or, or_false, true_and, and_true, false_and, and_false, and_self, or_self, Nat.reduceLT, Nat.reduceEqDiff, Nat.reduceLeDiff, Nat.reduceAdd, Nat.reduceMul, Nat.reduceSub, zn_lit, zn_add, zn_mul, zn_sub, zn_addneg, zn_lt, zn_le, zn_eq, zn_clamp, zn_in, zn_long]
  by_cases q1 : W1 p V k
  · obtain ⟨ha, hte⟩ := hW1.mp q1
    obtain ⟨hin, m, hm, hf⟩ := q1
    have hmm : mo = m := by
      obtain ⟨g1, g2, g3⟩ := h1.2.2.2 ha
      obtain ⟨x, y, hx, hy, hm⟩ := hf.2 m (Nat.le_refl _)
      have b1 := g2 x y (bef_e.mpr ⟨hx, hy⟩)
      rcases g3 with g3 | ⟨x', y', g3, g4⟩
      · omega
      · have b2 := bef_e.mp g3
        have b3 := hf.1 x' y' b2.1 b2.2
        omega
    subst hmm
    have hV' : ∀ x y, x < p → y < p → A 35 (12 * x + y) = zn (k x y) := fun x y hx hy => by rw [hV x y hx hy, (hin x y hx hy).1]
    have hk6 : ∀ x y, x < p → y < p → k x y < 6 := fun x y hx hy => (hin x y hx hy).2
    have hkm : ∀ x y, x < p → y < p → k x y < mo + 1 := fun x y hx hy => by have := hf.1 x y hx hy; omega
    have w1 : W1 p V k := ⟨hin, mo, hm, hf⟩
    have es2 : mz (d + 3) 213 0 [some (.ref 23), none, none, none, none, none, none, none] [] (hp n s c I J A B R Q) = mz (d + 3) 213 130 [some (.ref 23), some (.int (zn mo)), some (.int (zn 1)), some (.int (zn t)), some (.int (zn 0)), o5, o6, o7] [] (hp n s c I J A B R Q) := by
      rw [es, ha, zo_t]
      simp (disch := first | omega | exact zb_1 | exact zb_0 | exact zb_n1 | exact zb_n0) only [x213_110, x213_111, x213_114, x213_115, x213_116, x213_117, x213_118, x213_119, x213_120, x213_121, x213_122, x213_127, x213_128, mq_dl_int, mq_dl_ref, mq_dl_null, mq_dl_none, mc_some, Option.toList_some, Option.toList_none, List.cons_append, List.nil_append, zb_1, zb_0, ↓reduceIte, if_true, if_false, not_true_eq_false, not_false_eq_true, Bool.false_eq_true, z_10, z_01, eq_self, Bool.and_self, true_or, or_true, false_or, or_false, true_and, and_true, false_and, and_false, and_self, or_self, Nat.reduceLT, Nat.reduceEqDiff, Nat.reduceLeDiff, Nat.reduceAdd, Nat.reduceMul, Nat.reduceSub, zn_lit, zn_add, zn_mul, zn_sub, zn_addneg, zn_lt, zn_le, zn_eq, zn_clamp, zn_in, zn_long, zn_shl, hsh, hte]
    obtain ⟨o5', e2⟩ := R_zso (n := n) (s := s) (c := c) (J := J) (B := B) (R := R) (Q := Q) hV' hk6 hpp hI (d + 2) mo t o6 o7 p 0 o5 (by omega)
    have hw2 : zall (fun x => zall (fun y => decide ((k x y = 0) ↔ (x = y))) 0 p) 0 p = true ↔ W2 p k := by
      rw [zall_iff]
      constructor
      · intro h x y hx hy
        have h1 := (zall_iff _ p 0).mp (h x (by omega) (by omega)) y (by omega) (by omega)
        exact of_decide_eq_true h1
      · intro h x _ hx
        rw [zall_iff]
        intro y _ hy
        exact decide_eq_true (h x y (by omega) (by omega))
    by_cases q2 : W2 p k
    · rw [if_pos (hw2.mpr q2)] at e2
      obtain ⟨ok, fr, r1, r2, r3⟩ := R_rv (n := n) (s := s) (c := c) (J := J) (B := B) (R := R) (Q := Q) hV' hkm (by omega) hpp hI d
      cases ok with
      | false =>
        rw [zo_f] at r3
        refine ⟨3, fr, Or.inr (Or.inr (Or.inl ⟨rfl, w1, q2, r2.2.2 rfl⟩)), r1, fun h => by omega, es2.trans (e2.trans ?_)⟩
        simp (disch := first | omega | exact zb_1 | exact zb_0 | exact zb_n1 | exact zb_n0) only [x213_196, x213_197, x213_198, x213_199, x213_200, x213_203, x213_216, x213_217, mq_dl_int, mq_dl_ref, mq_dl_null, mq_dl_none, mc_some, Option.toList_some, Option.toList_none, List.cons_append, List.nil_append, zb_1, zb_0, ↓reduceIte, if_true, if_false, not_true_eq_false, not_false_eq_true, Bool.false_eq_true, z_10, z_01, eq_self, Bool.and_self, true_or, or_true, false_or, or_false, true_and, and_true, false_and, and_false, and_self, or_self, Nat.reduceLT, Nat.reduceEqDiff, Nat.reduceLeDiff, Nat.reduceAdd, Nat.reduceMul, Nat.reduceSub, zn_lit, zn_add, zn_mul, zn_sub, zn_addneg, zn_lt, zn_le, zn_eq, zn_clamp, zn_in, zn_long, hp_1, hp_21, upd_zu, updL_zu, updQ_zu, zu_eq, zu_ne, ho_23, ho_23_0, hf_23_0, hk_23_0, hw_23_0, ho_23_1, hf_23_1, ho_23_2, hf_23_2, hk_23_2, hw_23_2, ho_23_3, hf_23_3, hk_23_3, hw_23_3, ho_23_4, hf_23_4, ho_23_5, hf_23_5, ho_23_6, hf_23_6, ho_23_7, hf_23_7, hk_23_7, hw_23_7, ho_23_8, hf_23_8, hk_23_8, hw_23_8, ho_23_9, hf_23_9, ho_23_10, hf_23_10, ho_23_11, hf_23_11, hk_23_11, hw_23_11, ho_23_12, hf_23_12, hk_23_12, hw_23_12, ho_23_13, hf_23_13, ho_23_14, hf_23_14, ho_23_15, hf_23_15, ho_23_16, hf_23_16, hk_23_16, hw_23_16, ho_23_17, hf_23_17, ho_23_18, hf_23_18, ho_23_19, hf_23_19, hk_23_19, hw_23_19, ho_23_20, hf_23_20, ho_23_21, hf_23_21, hk_23_21, hw_23_21, ho_23_22, hf_23_22, hk_23_22, hw_23_22, ho_23_23, hf_23_23, hk_23_23, hw_23_23, ho_23_24, hf_23_24, hk_23_24, hw_23_24, ho_23_25, hf_23_25, ho_23_26, hf_23_26, ho_23_27, hf_23_27, hk_23_27, hw_23_27, ho_23_28, hf_23_28, ho_23_29, hf_23_29, ho_23_30, hf_23_30, hk_23_30, hw_23_30, ho_23_31, hf_23_31, hk_23_31, hw_23_31, ho_23_32, hf_23_32, ho_23_33, hf_23_33, ho_23_34, hf_23_34, hk_23_34, hw_23_34, ho_23_35, hf_23_35, hk_23_35, hw_23_35, ho_23_36, hf_23_36, hk_23_36, hw_23_36, ho_23_37, hf_23_37, ho_23_38, hf_23_38, ho_23_39, hf_23_39, hn_24, hi_24, hj_24, hg_24, hu_24, hn_25, hi_25, hj_25, hg_25, hu_25, hn_26, hi_26, hj_26, hg_26, hu_26, hn_27, hi_27, hg_27, hu_27, hn_28, hi_28, hg_28, hu_28, hn_29, hi_29, hj_29, hg_29, hu_29, hn_30, hi_30, hj_30, hg_30, hu_30, hn_31, hi_31, hj_31, hg_31, hu_31, hn_32, hi_32, hj_32, hg_32, hu_32, hn_33, hi_33, hj_33, hg_33, hu_33, hn_34, hi_34, hj_34, hg_34, hu_34, hn_35, hi_35, hj_35, hg_35, hu_35, hn_36, hi_36, hj_36, hg_36, hu_36, hn_37, hi_37, hg_37, hu_37, hn_38, hi_38, hj_38, hg_38, hu_38, hn_39, hi_39, hj_39, hg_39, hu_39, hn_40, hi_40, hj_40, hg_40, hu_40, hn_41, hi_41, hj_41, hg_41, hu_41, hn_42, hi_42, hg_42, hu_42, hn_43, hi_43, hg_43, hu_43, hn_44, hi_44, hj_44, hg_44, hu_44, hn_45, hi_45, hg_45, hu_45, r3]
      | true =>
        rw [zo_t] at r3
        have hT := r2.2.1 rfl
        have q3 : w3 p k := by
          intro x y x' y' h1 h2 h3 h4 e
          have a1 := hT.1 x y (bef_e.mpr ⟨h1, h2⟩)
          have a2 := hT.1 x' y' (bef_e.mpr ⟨h3, h4⟩)
          rw [← e, a1] at a2
          have b1 := hk6 y x h2 h1
          have b2 := hk6 y' x' h4 h3
          rw [zn_eq _ _ (by omega) (by omega)] at a2
          exact a2
        have hVf : ∀ x y, x < p → y < p → (zu A 29 fr) 35 (12 * x + y) = zn (k x y) := fun x y h1 h2 => by rw [zu_ne _ _ _ _ (by omega)]; exact hV' x y h1 h2
        rcases R_sha (n := n) (s := s) (c := c) (J := J) (B := B) (R := R) (Q := Q) hVf hkm (by omega) hpp hI d with ⟨f', g1, g2, g3⟩ | ⟨q4, f', g1, g3⟩
        · rw [zu_eq] at g1
          rw [zu_zu] at g3
          have q4 := DN_w4 hpp hkm g2
          have h5 := DN_W5 hpp hm hf g2
          by_cases q5 : W5 p k
          · rw [if_pos (h5.mpr q5)] at g3
            refine ⟨0, f', Or.inr (Or.inr (Or.inr (Or.inr (Or.inr ⟨rfl, w1, q2, q3, q4, q5⟩)))), UF_f1 r1 g1, fun _ m' T hf' hS => ?_, es2.trans (e2.trans ?_)⟩
            · have := full_u hf hf'
              subst this
              exact DN_RT hf g2 (by rw [g1 224 (by omega)]; exact r2.1) (UF_TR hkm (by omega) hT g1) hS
            · simp (disch := first | omega | exact zb_1 | exact zb_0 | exact zb_n1 | exact zb_n0) only [x213_196, x213_197, x213_198, x213_199, x213_200, x213_203, x213_206, x213_207, x213_208, x213_209, x213_210, x213_213, x213_217, mq_dl_int, mq_dl_ref, mq_dl_null, mq_dl_none, mc_some, Option.toList_some, Option.toList_none, List.cons_append, List.nil_append, zb_1, zb_0, ↓reduceIte, if_true, if_false, not_true_eq_false, not_false_eq_true, Bool.false_eq_true, z_10, z_01, eq_self, Bool.and_self, true_or, or_true, false_or, or_false, true_and, and_true, false_and, and_false, and_self, or_self, Nat.reduceLT, Nat.reduceEqDiff, Nat.reduceLeDiff, Nat.reduceAdd, Nat.reduceMul, Nat.reduceSub, zn_lit, zn_add, zn_mul, zn_sub, zn_addneg, zn_lt, zn_le, zn_eq, zn_clamp, zn_in, zn_long, hp_1, hp_21, upd_zu, updL_zu, updQ_zu, zu_eq, zu_ne, ho_23, ho_23_0, hf_23_0, hk_23_0, hw_23_0, ho_23_1, hf_23_1, ho_23_2, hf_23_2, hk_23_2, hw_23_2, ho_23_3, hf_23_3, hk_23_3, hw_23_3, ho_23_4, hf_23_4, ho_23_5, hf_23_5, ho_23_6, hf_23_6, ho_23_7, hf_23_7, hk_23_7, hw_23_7, ho_23_8, hf_23_8, hk_23_8, hw_23_8, ho_23_9, hf_23_9, ho_23_10, hf_23_10, ho_23_11, hf_23_11, hk_23_11, hw_23_11, ho_23_12, hf_23_12, hk_23_12, hw_23_12, ho_23_13, hf_23_13, ho_23_14, hf_23_14, ho_23_15, hf_23_15, ho_23_16, hf_23_16, hk_23_16, hw_23_16, ho_23_17, hf_23_17, ho_23_18, hf_23_18, ho_23_19, hf_23_19, hk_23_19, hw_23_19, ho_23_20, hf_23_20, ho_23_21, hf_23_21, hk_23_21, hw_23_21, ho_23_22, hf_23_22, hk_23_22, hw_23_22, ho_23_23, hf_23_23, hk_23_23, hw_23_23, ho_23_24, hf_23_24, hk_23_24, hw_23_24, ho_23_25, hf_23_25, ho_23_26, hf_23_26, ho_23_27, hf_23_27, hk_23_27, hw_23_27, ho_23_28, hf_23_28, ho_23_29, hf_23_29, ho_23_30, hf_23_30, hk_23_30, hw_23_30, ho_23_31, hf_23_31, hk_23_31, hw_23_31, ho_23_32, hf_23_32, ho_23_33, hf_23_33, ho_23_34, hf_23_34, hk_23_34, hw_23_34, ho_23_35, hf_23_35, hk_23_35, hw_23_35, ho_23_36, hf_23_36, hk_23_36, hw_23_36, ho_23_37, hf_23_37, ho_23_38, hf_23_38, ho_23_39, hf_23_39, hn_24, hi_24, hj_24, hg_24, hu_24, hn_25, hi_25, hj_25, hg_25, hu_25, hn_26, hi_26, hj_26, hg_26, hu_26, hn_27, hi_27, hg_27, hu_27, hn_28, hi_28, hg_28, hu_28, hn_29, hi_29, hj_29, hg_29, hu_29, hn_30, hi_30, hj_30, hg_30, hu_30, hn_31, hi_31, hj_31, hg_31, hu_31, hn_32, hi_32, hj_32, hg_32, hu_32, hn_33, hi_33, hj_33, hg_33, hu_33, hn_34, hi_34, hj_34, hg_34, hu_34, hn_35, hi_35, hj_35, hg_35, hu_35, hn_36, hi_36, hj_36, hg_36, hu_36, hn_37, hi_37, hg_37, hu_37, hn_38, hi_38, hj_38, hg_38, hu_38, hn_39, hi_39, hj_39, hg_39, hu_39, hn_40, hi_40, hj_40, hg_40, hu_40, hn_41, hi_41, hj_41, hg_41, hu_41, hn_42, hi_42, hg_42, hu_42, hn_43, hi_43, hg_43, hu_43, hn_44, hi_44, hj_44, hg_44, hu_44, hn_45, hi_45, hg_45, hu_45, r3, g3]
          · rw [if_neg (fun h => q5 (h5.mp h))] at g3
            refine ⟨5, f', Or.inr (Or.inr (Or.inr (Or.inr (Or.inl ⟨rfl, w1, q2, q3, q4, q5⟩)))), UF_f1 r1 g1, fun h => by omega, es2.trans (e2.trans ?_)⟩
            simp (disch := first | omega | exact zb_1 | exact zb_0 | exact zb_n1 | exact zb_n0) only [x213_196, x213_197, x213_198, x213_199, x213_200, x213_203, x213_206, x213_207, x213_208, x213_209, x213_210, x213_213, x213_217, mq_dl_int, mq_dl_ref, mq_dl_null, mq_dl_none, mc_some, Option.toList_some, Option.toList_none, List.cons_append, List.nil_append, zb_1, zb_0, ↓reduceIte, if_true, if_false, not_true_eq_false, not_false_eq_true, Bool.false_eq_true, z_10, z_01, eq_self, Bool.and_self, true_or, or_true, false_or, or_false, true_and, and_true, false_and, and_false, and_self, or_self, Nat.reduceLT, Nat.reduceEqDiff, Nat.reduceLeDiff, Nat.reduceAdd, Nat.reduceMul, Nat.reduceSub, zn_lit, zn_add, zn_mul, zn_sub, zn_addneg, zn_lt, zn_le, zn_eq, zn_clamp, zn_in, zn_long, hp_1, hp_21, upd_zu, updL_zu, updQ_zu, zu_eq, zu_ne, ho_23, ho_23_0, hf_23_0, hk_23_0, hw_23_0, ho_23_1, hf_23_1, ho_23_2, hf_23_2, hk_23_2, hw_23_2, ho_23_3, hf_23_3, hk_23_3, hw_23_3, ho_23_4, hf_23_4, ho_23_5, hf_23_5, ho_23_6, hf_23_6, ho_23_7, hf_23_7, hk_23_7, hw_23_7, ho_23_8, hf_23_8, hk_23_8, hw_23_8, ho_23_9, hf_23_9, ho_23_10, hf_23_10, ho_23_11, hf_23_11, hk_23_11, hw_23_11, ho_23_12, hf_23_12, hk_23_12, hw_23_12, ho_23_13, hf_23_13, ho_23_14, hf_23_14, ho_23_15, hf_23_15, ho_23_16, hf_23_16, hk_23_16, hw_23_16, ho_23_17, hf_23_17, ho_23_18, hf_23_18, ho_23_19, hf_23_19, hk_23_19, hw_23_19, ho_23_20, hf_23_20, ho_23_21, hf_23_21, hk_23_21, hw_23_21, ho_23_22, hf_23_22, hk_23_22, hw_23_22, ho_23_23, hf_23_23, hk_23_23, hw_23_23, ho_23_24, hf_23_24, hk_23_24, hw_23_24, ho_23_25, hf_23_25, ho_23_26, hf_23_26, ho_23_27, hf_23_27, hk_23_27, hw_23_27, ho_23_28, hf_23_28, ho_23_29, hf_23_29, ho_23_30, hf_23_30, hk_23_30, hw_23_30, ho_23_31, hf_23_31, hk_23_31, hw_23_31, ho_23_32, hf_23_32, ho_23_33, hf_23_33, ho_23_34, hf_23_34, hk_23_34, hw_23_34, ho_23_35, hf_23_35, hk_23_35, hw_23_35, ho_23_36, hf_23_36, hk_23_36, hw_23_36, ho_23_37, hf_23_37, ho_23_38, hf_23_38, ho_23_39, hf_23_39, hn_24, hi_24, hj_24, hg_24, hu_24, hn_25, hi_25, hj_25, hg_25, hu_25, hn_26, hi_26, hj_26, hg_26, hu_26, hn_27, hi_27, hg_27, hu_27, hn_28, hi_28, hg_28, hu_28, hn_29, hi_29, hj_29, hg_29, hu_29, hn_30, hi_30, hj_30, hg_30, hu_30, hn_31, hi_31, hj_31, hg_31, hu_31, hn_32, hi_32, hj_32, hg_32, hu_32, hn_33, hi_33, hj_33, hg_33, hu_33, hn_34, hi_34, hj_34, hg_34, hu_34, hn_35, hi_35, hj_35, hg_35, hu_35, hn_36, hi_36, hj_36, hg_36, hu_36, hn_37, hi_37, hg_37, hu_37, hn_38, hi_38, hj_38, hg_38, hu_38, hn_39, hi_39, hj_39, hg_39, hu_39, hn_40, hi_40, hj_40, hg_40, hu_40, hn_41, hi_41, hj_41, hg_41, hu_41, hn_42, hi_42, hg_42, hu_42, hn_43, hi_43, hg_43, hu_43, hn_44, hi_44, hj_44, hg_44, hu_44, hn_45, hi_45, hg_45, hu_45, r3, g3]
        · rw [zu_eq] at g1
          rw [zu_zu] at g3
          refine ⟨4, f', Or.inr (Or.inr (Or.inr (Or.inl ⟨rfl, w1, q2, q3, q4⟩))), UF_f1 r1 g1, fun h => by omega, es2.trans (e2.trans ?_)⟩
          simp (disch := first | omega | exact zb_1 | exact zb_0 | exact zb_n1 | exact zb_n0) only [x213_196, x213_197, x213_198, x213_199, x213_200, x213_203, x213_206, x213_207, x213_208, x213_209, x213_210, x213_213, x213_217, mq_dl_int, mq_dl_ref, mq_dl_null, mq_dl_none, mc_some, Option.toList_some, Option.toList_none, List.cons_append, List.nil_append, zb_1, zb_0, ↓reduceIte, if_true, if_false, not_true_eq_false, not_false_eq_true, Bool.false_eq_true, z_10, z_01, eq_self, Bool.and_self, true_or, or_true, false_or, or_false, true_and, and_true, false_and, and_false, and_self, or_self, Nat.reduceLT, Nat.reduceEqDiff, Nat.reduceLeDiff, Nat.reduceAdd, Nat.reduceMul, Nat.reduceSub, zn_lit, zn_add, zn_mul, zn_sub, zn_addneg, zn_lt, zn_le, zn_eq, zn_clamp, zn_in, zn_long, hp_1, hp_21, upd_zu, updL_zu, updQ_zu, zu_eq, zu_ne, ho_23, ho_23_0, hf_23_0, hk_23_0, hw_23_0, ho_23_1, hf_23_1, ho_23_2, hf_23_2, hk_23_2, hw_23_2, ho_23_3, hf_23_3, hk_23_3, hw_23_3, ho_23_4, hf_23_4, ho_23_5, hf_23_5, ho_23_6, hf_23_6, ho_23_7, hf_23_7, hk_23_7, hw_23_7, ho_23_8, hf_23_8, hk_23_8, hw_23_8, ho_23_9, hf_23_9, ho_23_10, hf_23_10, ho_23_11, hf_23_11, hk_23_11, hw_23_11, ho_23_12, hf_23_12, hk_23_12, hw_23_12, ho_23_13, hf_23_13, ho_23_14, hf_23_14, ho_23_15, hf_23_15, ho_23_16, hf_23_16, hk_23_16, hw_23_16, ho_23_17, hf_23_17, ho_23_18, hf_23_18, ho_23_19, hf_23_19, hk_23_19, hw_23_19, ho_23_20, hf_23_20, ho_23_21, hf_23_21, hk_23_21, hw_23_21, ho_23_22, hf_23_22, hk_23_22, hw_23_22, ho_23_23, hf_23_23, hk_23_23, hw_23_23, ho_23_24, hf_23_24, hk_23_24, hw_23_24, ho_23_25, hf_23_25, ho_23_26, hf_23_26, ho_23_27, hf_23_27, hk_23_27, hw_23_27, ho_23_28, hf_23_28, ho_23_29, hf_23_29, ho_23_30, hf_23_30, hk_23_30, hw_23_30, ho_23_31, hf_23_31, hk_23_31, hw_23_31, ho_23_32, hf_23_32, ho_23_33, hf_23_33, ho_23_34, hf_23_34, hk_23_34, hw_23_34, ho_23_35, hf_23_35, hk_23_35, hw_23_35, ho_23_36, hf_23_36, hk_23_36, hw_23_36, ho_23_37, hf_23_37, ho_23_38, hf_23_38, ho_23_39, hf_23_39, hn_24, hi_24, hj_24, hg_24, hu_24, hn_25, hi_25, hj_25, hg_25, hu_25, hn_26, hi_26, hj_26, hg_26, hu_26, hn_27, hi_27, hg_27, hu_27, hn_28, hi_28, hg_28, hu_28, hn_29, hi_29, hj_29, hg_29, hu_29, hn_30, hi_30, hj_30, hg_30, hu_30, hn_31, hi_31, hj_31, hg_31, hu_31, hn_32, hi_32, hj_32, hg_32, hu_32, hn_33, hi_33, hj_33, hg_33, hu_33, hn_34, hi_34, hj_34, hg_34, hu_34, hn_35, hi_35, hj_35, hg_35, hu_35, hn_36, hi_36, hj_36, hg_36, hu_36, hn_37, hi_37, hg_37, hu_37, hn_38, hi_38, hj_38, hg_38, hu_38, hn_39, hi_39, hj_39, hg_39, hu_39, hn_40, hi_40, hj_40, hg_40, hu_40, hn_41, hi_41, hj_41, hg_41, hu_41, hn_42, hi_42, hg_42, hu_42, hn_43, hi_43, hg_43, hu_43, hn_44, hi_44, hj_44, hg_44, hu_44, hn_45, hi_45, hg_45, hu_45, r3, g3]
    · rw [if_neg (fun h => q2 (hw2.mp h))] at e2
      refine ⟨2, A 29, Or.inr (Or.inl ⟨rfl, w1, q2⟩), f1_refl _, fun h => by omega, es2.trans (e2.trans ?_)⟩
      rw [zu_self]
  · refine ⟨1, A 29, Or.inl ⟨rfl, q1⟩, f1_refl _, fun h => by omega, es.trans ?_⟩
    rw [zu_self]
    cases al with
    | false =>
      rw [zo_f]
      simp (disch := first | omega | exact zb_1 | exact zb_0 | exact zb_n1 | exact zb_n0) only [x213_110, x213_111, x213_125, x213_126, mq_dl_int, mq_dl_ref, mq_dl_null, mq_dl_none, mc_some, Option.toList_some, Option.toList_none, List.cons_append, List.nil_append, zb_1, zb_0, ↓reduceIte, if_true, if_false, not_true_eq_false, not_false_eq_true, Bool.false_eq_true, z_10, z_01, eq_self, Bool.and_self, true_or, or_true, false_or, or_false, true_and, and_true, false_and, and_false, and_self, or_self, Nat.reduceLT, Nat.reduceEqDiff, Nat.reduceLeDiff, Nat.reduceAdd, Nat.reduceMul, Nat.reduceSub, zn_lit, zn_add, zn_mul, zn_sub, zn_addneg, zn_lt, zn_le, zn_eq, zn_clamp, zn_in, zn_long]
    | true =>
      have q9 : ¬ t = 2 ^ (mo + 1) - 1 := fun e => q1 (hW1.mpr ⟨rfl, e⟩)
      rw [zo_t]
      simp (disch := first | omega | exact zb_1 | exact zb_0 | exact zb_n1 | exact zb_n0) only [x213_110, x213_111, x213_114, x213_115, x213_116, x213_117, x213_118, x213_119, x213_120, x213_121, x213_122, x213_125, x213_126, mq_dl_int, mq_dl_ref, mq_dl_null, mq_dl_none, mc_some, Option.toList_some, Option.toList_none, List.cons_append, List.nil_append, zb_1, zb_0, ↓reduceIte, if_true, if_false, not_true_eq_false, not_false_eq_true, Bool.false_eq_true, z_10, z_01, eq_self, Bool.and_self, true_or, or_true, false_or, or_false, true_and, and_true, false_and, and_false, and_self, or_self, Nat.reduceLT, Nat.reduceEqDiff, Nat.reduceLeDiff, Nat.reduceAdd, Nat.reduceMul, Nat.reduceSub, zn_lit, zn_add, zn_mul, zn_sub, zn_addneg, zn_lt, zn_le, zn_eq, zn_clamp, zn_in, zn_long, zn_shl, hsh, q9]
end RI
