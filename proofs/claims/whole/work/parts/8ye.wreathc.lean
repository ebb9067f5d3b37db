/-! WREATH: the class -/
def wrF (T U : ZT) (x y z : Nat) : Nat := if x < T.1 ∧ y < T.1 then (if z < T.1 then T.2.1 x y z else 0) else if x < T.1 then (if y = z then szT T x else 0) else if y < T.1 then (if x = z then szT T y else 0) else U.2.1 (x - T.1 + 1) (y - T.1 + 1) (if z < T.1 then 0 else z - T.1 + 1) * orT T
def wrR (T U : ZT) (x : Nat) : Nat := if x < T.1 then T.2.2 x else U.2.2 (x - T.1 + 1) + T.1 - 1
def wok (T U : ZT) (x y z : Nat) : Bool := decide (wrF T U x y z ≤ 999999)
def wokY (T U : ZT) (m x y : Nat) : Bool := zall (fun z => wok T U x y z) 0 m
def wokX (T U : ZT) (m x : Nat) : Bool := zall (fun y => wokY T U m x y) 0 m
def wokT (T U : ZT) (m : Nat) : Bool := zall (fun x => wokX T U m x) 0 m
def wrT (T U : ZT) (m : Nat) : ZT := (m, pS m (wrF T U) m 0 0, rP m (wrR T U) m)
theorem wrF_le {T U : ZT} (hT : WT T) (hU : WT U) (x y z : Nat) : wrF T U x y z ≤ 999999 * 6000000 := by
  have h1 := hT.2.2.1 x y z
  have h2 := szT_le hT x
  have h3 := szT_le hT y
  have h4 : U.2.1 (x - T.1 + 1) (y - T.1 + 1) (if z < T.1 then 0 else z - T.1 + 1) * orT T ≤ 999999 * 6000000 := Nat.mul_le_mul (hU.2.2.1 _ _ _) (orT_le hT)
  have h5 : (999999 : Nat) ≤ 999999 * 6000000 := by decide
  unfold wrF
  split
  · split
    · exact Nat.le_trans h1 h5
    · omega
  · split
    · split
      · exact Nat.le_trans h2 h5
      · omega
    · split
      · split
        · exact Nat.le_trans h3 h5
        · omega
      · exact h4
section WC
variable {n s : Nat} {c : Nat → mq_E} {I : Nat → Int32} {J : Nat → Int64} {A : Nat → Nat → Int32} {B : Nat → Nat → Int64} {R : Nat → Value} {Q : Nat → Nat → Option Nat}
variable {a o t m : Nat} {T U : ZT} {r : Nat → Int32} {ρ : Nat → Nat}
theorem M_ws (hT : TB c a T) (hU : TB c o U) (hW : WT T) (hV : WT U) (hm : T.1 + U.1 - 1 ≤ 6) (d x y z : Nat) (hx : x < T.1 + U.1 - 1) (hy : y < T.1 + U.1 - 1) (hz : z < T.1 + U.1 - 1) : mz (d + 2) 52 0 [some (.ref a), some (.ref o), some (.int (zn x)), some (.int (zn y)), some (.int (zn z)), none, none] [] (hp n s c I J A B R Q) = some (some (some (.long (zln (wrF T U x y z)))), (hp n s c I J A B R Q)) := by
  have h0 := hW.1
  have h1 := hW.2.1
  have h2 := hV.1
  have h3 := hV.2.1
  have hor := orT_le hW
  unfold wrF
  by_cases q1 : x < T.1
  · by_cases q2 : y < T.1
    · by_cases q3 : z < T.1
      · simp (disch := first | omega | exact zb_1 | exact zb_0 | exact zb_n1 | exact zb_n0) only [x52_0, x52_1, x52_4, x52_6, x52_7, x52_9, x52_12, x52_13, x52_15, x52_18, x52_20, x52_22, x52_25, x52_26, x52_27, x52_28, x52_30, x52_33, x52_34, x52_38, mq_dl_int, mq_dl_ref, mq_dl_null, mq_dl_none, mc_some, Option.toList_some, Option.toList_none, List.cons_append, List.nil_append, zb_1, zb_0, ↓reduceIte, if_true, if_false, not_true_eq_false, not_false_eq_true, Bool.false_eq_true, z_10, z_01, eq_self, Bool.and_self, true_or, or_true, false_or, or_false, true_and, and_true, false_and, and_false, and_self, or_self, Nat.reduceLT, Nat.reduceEqDiff, Nat.reduceLeDiff, Nat.reduceAdd, Nat.reduceMul, Nat.reduceSub, zn_lit, zn_add, zn_mul, zn_sub, zn_addneg, zn_lt, zn_le, zn_eq, zn_clamp, zn_in, zn_long, zln_lit, zln_add, zln_mul, zln_lt, zln_le, zln_eq, zln_int, tb_0 hT, T_things hT, T_share hT, zl_sh hW, q1, q2, q3, show ¬ T.1 ≤ x by omega, show ¬ T.1 ≤ y by omega, show ¬ T.1 ≤ z by omega]
      · simp (disch := first | omega | exact zb_1 | exact zb_0 | exact zb_n1 | exact zb_n0) only [x52_0, x52_1, x52_4, x52_6, x52_7, x52_9, x52_12, x52_13, x52_15, x52_18, x52_20, x52_22, x52_37, x52_38, mq_dl_int, mq_dl_ref, mq_dl_null, mq_dl_none, mc_some, Option.toList_some, Option.toList_none, List.cons_append, List.nil_append, zb_1, zb_0, ↓reduceIte, if_true, if_false, not_true_eq_false, not_false_eq_true, Bool.false_eq_true, z_10, z_01, eq_self, Bool.and_self, true_or, or_true, false_or, or_false, true_and, and_true, false_and, and_false, and_self, or_self, Nat.reduceLT, Nat.reduceEqDiff, Nat.reduceLeDiff, Nat.reduceAdd, Nat.reduceMul, Nat.reduceSub, zn_lit, zn_add, zn_mul, zn_sub, zn_addneg, zn_lt, zn_le, zn_eq, zn_clamp, zn_in, zn_long, zln_lit, zln_add, zln_mul, zln_lt, zln_le, zln_eq, zln_int, tb_0 hT, T_things hT, q1, q2, q3, show ¬ T.1 ≤ x by omega, show ¬ T.1 ≤ y by omega, show T.1 ≤ z by omega]
    · by_cases q3 : y = z
      · simp (disch := first | omega | exact zb_1 | exact zb_0 | exact zb_n1 | exact zb_n0) only [x52_0, x52_1, x52_4, x52_6, x52_7, x52_9, x52_12, x52_13, x52_15, x52_39, x52_40, x52_42, x52_45, x52_46, x52_48, x52_51, x52_52, x52_53, x52_56, x52_57, x52_61, mq_dl_int, mq_dl_ref, mq_dl_null, mq_dl_none, mc_some, Option.toList_some, Option.toList_none, List.cons_append, List.nil_append, zb_1, zb_0, ↓reduceIte, if_true, if_false, not_true_eq_false, not_false_eq_true, Bool.false_eq_true, z_10, z_01, eq_self, Bool.and_self, true_or, or_true, false_or, or_false, true_and, and_true, false_and, and_false, and_self, or_self, Nat.reduceLT, Nat.reduceEqDiff, Nat.reduceLeDiff, Nat.reduceAdd, Nat.reduceMul, Nat.reduceSub, zn_lit, zn_add, zn_mul, zn_sub, zn_addneg, zn_lt, zn_le, zn_eq, zn_clamp, zn_in, zn_long, zln_lit, zln_add, zln_mul, zln_lt, zln_le, zln_eq, zln_int, tb_0 hT, T_things hT, T_size hT hW, zl_sz hW, q1, q2, q3, show ¬ T.1 ≤ x by omega, show T.1 ≤ y by omega, show T.1 ≤ z by omega, show ¬ z < T.1 by omega]
      · simp (disch := first | omega | exact zb_1 | exact zb_0 | exact zb_n1 | exact zb_n0) only [x52_0, x52_1, x52_4, x52_6, x52_7, x52_9, x52_12, x52_13, x52_15, x52_39, x52_40, x52_42, x52_45, x52_46, x52_48, x52_60, x52_61, mq_dl_int, mq_dl_ref, mq_dl_null, mq_dl_none, mc_some, Option.toList_some, Option.toList_none, List.cons_append, List.nil_append, zb_1, zb_0, ↓reduceIte, if_true, if_false, not_true_eq_false, not_false_eq_true, Bool.false_eq_true, z_10, z_01, eq_self, Bool.and_self, true_or, or_true, false_or, or_false, true_and, and_true, false_and, and_false, and_self, or_self, Nat.reduceLT, Nat.reduceEqDiff, Nat.reduceLeDiff, Nat.reduceAdd, Nat.reduceMul, Nat.reduceSub, zn_lit, zn_add, zn_mul, zn_sub, zn_addneg, zn_lt, zn_le, zn_eq, zn_clamp, zn_in, zn_long, zln_lit, zln_add, zln_mul, zln_lt, zln_le, zln_eq, zln_int, tb_0 hT, T_things hT, q1, q2, q3, show ¬ T.1 ≤ x by omega, show T.1 ≤ y by omega]
  · by_cases q2 : y < T.1
    · by_cases q3 : x = z
      · simp (disch := first | omega | exact zb_1 | exact zb_0 | exact zb_n1 | exact zb_n0) only [x52_0, x52_1, x52_4, x52_6, x52_7, x52_9, x52_39, x52_40, x52_42, x52_62, x52_63, x52_65, x52_68, x52_69, x52_71, x52_74, x52_75, x52_76, x52_79, x52_80, x52_84, mq_dl_int, mq_dl_ref, mq_dl_null, mq_dl_none, mc_some, Option.toList_some, Option.toList_none, List.cons_append, List.nil_append, zb_1, zb_0, ↓reduceIte, if_true, if_false, not_true_eq_false, not_false_eq_true, Bool.false_eq_true, z_10, z_01, eq_self, Bool.and_self, true_or, or_true, false_or, or_false, true_and, and_true, false_and, and_false, and_self, or_self, Nat.reduceLT, Nat.reduceEqDiff, Nat.reduceLeDiff, Nat.reduceAdd, Nat.reduceMul, Nat.reduceSub, zn_lit, zn_add, zn_mul, zn_sub, zn_addneg, zn_lt, zn_le, zn_eq, zn_clamp, zn_in, zn_long, zln_lit, zln_add, zln_mul, zln_lt, zln_le, zln_eq, zln_int, tb_0 hT, T_things hT, T_size hT hW, zl_sz hW, q1, q2, q3, show T.1 ≤ x by omega, show T.1 ≤ z by omega, show ¬ T.1 ≤ y by omega, show ¬ z < T.1 by omega]
      · simp (disch := first | omega | exact zb_1 | exact zb_0 | exact zb_n1 | exact zb_n0) only [x52_0, x52_1, x52_4, x52_6, x52_7, x52_9, x52_39, x52_40, x52_42, x52_62, x52_63, x52_65, x52_68, x52_69, x52_71, x52_83, x52_84, mq_dl_int, mq_dl_ref, mq_dl_null, mq_dl_none, mc_some, Option.toList_some, Option.toList_none, List.cons_append, List.nil_append, zb_1, zb_0, ↓reduceIte, if_true, if_false, not_true_eq_false, not_false_eq_true, Bool.false_eq_true, z_10, z_01, eq_self, Bool.and_self, true_or, or_true, false_or, or_false, true_and, and_true, false_and, and_false, and_self, or_self, Nat.reduceLT, Nat.reduceEqDiff, Nat.reduceLeDiff, Nat.reduceAdd, Nat.reduceMul, Nat.reduceSub, zn_lit, zn_add, zn_mul, zn_sub, zn_addneg, zn_lt, zn_le, zn_eq, zn_clamp, zn_in, zn_long, zln_lit, zln_add, zln_mul, zln_lt, zln_le, zln_eq, zln_int, tb_0 hT, T_things hT, q1, q2, q3, show T.1 ≤ x by omega, show ¬ T.1 ≤ y by omega]
    · by_cases q3 : z < T.1
      · simp (disch := first | omega | exact zb_1 | exact zb_0 | exact zb_n1 | exact zb_n0) only [x52_0, x52_1, x52_4, x52_6, x52_7, x52_9, x52_39, x52_40, x52_42, x52_62, x52_63, x52_65, x52_85, x52_87, x52_89, x52_92, x52_93, x52_103, x52_105, x52_106, x52_107, x52_109, x52_110, x52_111, x52_112, x52_113, x52_115, x52_116, x52_117, x52_118, x52_120, x52_123, x52_124, x52_125, x52_128, x52_129, x52_130, mq_dl_int, mq_dl_ref, mq_dl_null, mq_dl_none, mc_some, Option.toList_some, Option.toList_none, List.cons_append, List.nil_append, zb_1, zb_0, ↓reduceIte, if_true, if_false, not_true_eq_false, not_false_eq_true, Bool.false_eq_true, z_10, z_01, eq_self, Bool.and_self, true_or, or_true, false_or, or_false, true_and, and_true, false_and, and_false, and_self, or_self, Nat.reduceLT, Nat.reduceEqDiff, Nat.reduceLeDiff, Nat.reduceAdd, Nat.reduceMul, Nat.reduceSub, zn_lit, zn_add, zn_mul, zn_sub, zn_addneg, zn_lt, zn_le, zn_eq, zn_clamp, zn_in, zn_long, zln_lit, zln_add, zln_mul, zln_lt, zln_le, zln_eq, zln_int, tb_0 hT, tb_0 hU, T_things hT, T_share hU, T_all hT hW, zl_sh hV, q1, q2, q3, show T.1 ≤ x by omega, show T.1 ≤ y by omega, show ¬ T.1 ≤ z by omega]
      · simp (disch := first | omega | exact zb_1 | exact zb_0 | exact zb_n1 | exact zb_n0) only [x52_0, x52_1, x52_4, x52_6, x52_7, x52_9, x52_39, x52_40, x52_42, x52_62, x52_63, x52_65, x52_85, x52_87, x52_89, x52_96, x52_98, x52_100, x52_101, x52_102, x52_103, x52_105, x52_106, x52_107, x52_109, x52_110, x52_111, x52_112, x52_113, x52_115, x52_116, x52_117, x52_118, x52_120, x52_123, x52_124, x52_125, x52_128, x52_129, x52_130, mq_dl_int, mq_dl_ref, mq_dl_null, mq_dl_none, mc_some, Option.toList_some, Option.toList_none, List.cons_append, List.nil_append, zb_1, zb_0, ↓reduceIte, if_true, if_false, not_true_eq_false, not_false_eq_true, Bool.false_eq_true, z_10, z_01, eq_self, Bool.and_self, true_or, or_true, false_or, or_false, true_and, and_true, false_and, and_false, and_self, or_self, Nat.reduceLT, Nat.reduceEqDiff, Nat.reduceLeDiff, Nat.reduceAdd, Nat.reduceMul, Nat.reduceSub, zn_lit, zn_add, zn_mul, zn_sub, zn_addneg, zn_lt, zn_le, zn_eq, zn_clamp, zn_in, zn_long, zln_lit, zln_add, zln_mul, zln_lt, zln_le, zln_eq, zln_int, tb_0 hT, tb_0 hU, T_things hT, T_share hU, T_all hT hW, zl_sh hV, q1, q2, q3, show T.1 ≤ x by omega, show T.1 ≤ y by omega, show T.1 ≤ z by omega]
theorem M_wz (hT : TB c a T) (hU : TB c o U) (hW : WT T) (hV : WT U) (hm : m = T.1 + U.1 - 1) (hm6 : m ≤ 6) (hat : a + 2 < t) (hot : o + 2 < t) (ht : 46 ≤ t) (d x y : Nat) (hx : x < m) (hy : y < m) : ∀ (q z : Nat) (g : Nat → Int32) (o8 o9 : Option Value), z + q = m → zt_rep (0, pS m (wrF T U) x y z, ρ) g r → ∃ g' o8' o9', ((zall (fun z => wok T U x y z) z q = true ∧ zt_rep (0, pS m (wrF T U) x y m, ρ) g' r ∧ mz (d + 3) 51 103 [some (.ref a), some (.ref o), some (.int (zn T.1)), some (.int (zn m)), some (.ref t), some (.int (zn x)), some (.int (zn y)), some (.int (zn z)), o8, o9] [] (hp n s (tc c t m g r) I J A B R Q) = mz (d + 3) 51 153 [some (.ref a), some (.ref o), some (.int (zn T.1)), some (.int (zn m)), some (.ref t), some (.int (zn x)), some (.int (zn y)), some (.int (zn m)), o8', o9'] [] (hp n s (tc c t m g' r) I J A B R Q)) ∨ (zall (fun z => wok T U x y z) z q = false ∧ mz (d + 3) 51 103 [some (.ref a), some (.ref o), some (.int (zn T.1)), some (.int (zn m)), some (.ref t), some (.int (zn x)), some (.int (zn y)), some (.int (zn z)), o8, o9] [] (hp n s (tc c t m g r) I J A B R Q) = some (some (some .null), hp n s (tc c t m g' r) I J A B R Q))) := by
  have h1 := hW.2.1
  intro q
  induction q with
  | zero =>
    intro z g o8 o9 hz hg
    have e : z = m := by omega
    subst e
    refine ⟨g, o8, o9, Or.inl ⟨rfl, hg, ?_⟩⟩
    simp (disch := first | omega | exact zb_1 | exact zb_0 | exact zb_n1 | exact zb_n0) only [x51_103, x51_105, x51_106, mq_dl_int, mq_dl_ref, mq_dl_null, mq_dl_none, mc_some, Option.toList_some, Option.toList_none, List.cons_append, List.nil_append, zb_1, zb_0, ↓reduceIte, if_true, if_false, not_true_eq_false, not_false_eq_true, Bool.false_eq_true, z_10, z_01, eq_self, Bool.and_self, true_or, or_true, false_or, or_false, true_and, and_true, false_and, and_false, and_self, or_self, Nat.reduceLT, Nat.reduceEqDiff, Nat.reduceLeDiff, Nat.reduceAdd, Nat.reduceMul, Nat.reduceSub, zn_lit, zn_add, zn_mul, zn_sub, zn_addneg, zn_lt, zn_le, zn_eq, zn_clamp, zn_in, zn_long, Nat.le_refl]
  | succ q ih =>
    intro z g o8 o9 hz hg
    have e1 := M_ws (n := n) (s := s) (I := I) (J := J) (A := A) (B := B) (R := R) (Q := Q) (TB_tcO (t := t) (m := m) (g := g) (r := r) hT hat) (TB_tcO (t := t) (m := m) (g := g) (r := r) hU hot) hW hV (by omega) d x y z (by omega) (by omega) (by omega)
    have h2 := wrF_le hW hV x y z
    rw [show zall (fun z => wok T U x y z) z (q + 1) = (wok T U x y z && zall (fun z => wok T U x y z) (z + 1) q) from rfl]
    by_cases q2 : wrF T U x y z ≤ 999999
    · have hok : wok T U x y z = true := decide_eq_true q2
      obtain ⟨g', p8, p9, ih'⟩ := ih (z + 1) (zu g ((x * 6 + y) * 6 + z) (zn (wrF T U x y z))) (some (.long (zln (wrF T U x y z)))) none (by omega) (pS_s hg hm6 hx hy (by omega))
      refine ⟨g', p8, p9, ?_⟩
      rw [hok, Bool.true_and]
      have es : mz (d + 3) 51 103 [some (.ref a), some (.ref o), some (.int (zn T.1)), some (.int (zn m)), some (.ref t), some (.int (zn x)), some (.int (zn y)), some (.int (zn z)), o8, o9] [] (hp n s (tc c t m g r) I J A B R Q) = mz (d + 3) 51 103 [some (.ref a), some (.ref o), some (.int (zn T.1)), some (.int (zn m)), some (.ref t), some (.int (zn x)), some (.int (zn y)), some (.int (zn (z + 1))), some (.long (zln (wrF T U x y z))), none] [] (hp n s (tc c t m (zu g ((x * 6 + y) * 6 + z) (zn (wrF T U x y z))) r) I J A B R Q) := by
        rw [x51_103]
        simp (disch := first | omega | exact zb_1 | exact zb_0 | exact zb_n1 | exact zb_n0) only [x51_105, x51_106, x51_109, x51_110, x51_111, x51_113, x51_115, x51_117, x51_120, x51_122, x51_124, x51_127, x51_128, x51_133, x51_135, x51_137, x51_139, x51_141, x51_143, x51_144, x51_147, x51_150, mq_dl_int, mq_dl_ref, mq_dl_null, mq_dl_none, mc_some, Option.toList_some, Option.toList_none, List.cons_append, List.nil_append, zb_1, zb_0, ↓reduceIte, if_true, if_false, not_true_eq_false, not_false_eq_true, Bool.false_eq_true, z_10, z_01, eq_self, Bool.and_self, true_or, or_true, false_or, or_false, true_and, and_true, false_and, and_false, and_self, or_self, Nat.reduceLT, Nat.reduceEqDiff, Nat.reduceLeDiff, Nat.reduceAdd, Nat.reduceMul, Nat.reduceSub, zn_lit, zn_add, zn_mul, zn_sub, zn_addneg, zn_lt, zn_le, zn_eq, zn_clamp, zn_in, zn_long, zln_lit, zln_add, zln_mul, zln_lt, zln_le, zln_eq, zln_int, lc_eq, lc_gt, lc_lt, lc_le, lc_ge, e1, show ¬ m ≤ z by omega, q2, tc_0 ht, B_put ht hm6, hx, hy, show z < m by omega]
      rw [es]
      exact ih'
    · have hok : wok T U x y z = false := decide_eq_false q2
      refine ⟨g, o8, o9, Or.inr ⟨by rw [hok, Bool.false_and], ?_⟩⟩
      rw [x51_103]
      simp (disch := first | omega | exact zb_1 | exact zb_0 | exact zb_n1 | exact zb_n0) only [x51_105, x51_106, x51_109, x51_110, x51_111, x51_113, x51_115, x51_117, x51_120, x51_122, x51_124, x51_127, x51_128, x51_131, x51_132, x51_132N, mq_dl_int, mq_dl_ref, mq_dl_null, mq_dl_none, mc_some, Option.toList_some, Option.toList_none, List.cons_append, List.nil_append, zb_1, zb_0, ↓reduceIte, if_true, if_false, not_true_eq_false, not_false_eq_true, Bool.false_eq_true, z_10, z_01, eq_self, Bool.and_self, true_or, or_true, false_or, or_false, true_and, and_true, false_and, and_false, and_self, or_self, Nat.reduceLT, Nat.reduceEqDiff, Nat.reduceLeDiff, Nat.reduceAdd, Nat.reduceMul, Nat.reduceSub, zn_lit, zn_add, zn_mul, zn_sub, zn_addneg, zn_lt, zn_le, zn_eq, zn_clamp, zn_in, zn_long, zln_lit, zln_add, zln_mul, zln_lt, zln_le, zln_eq, zln_int, lc_eq, lc_gt, lc_lt, lc_le, lc_ge, e1, show ¬ m ≤ z by omega, q2]
theorem M_wy (hT : TB c a T) (hU : TB c o U) (hW : WT T) (hV : WT U) (hm : m = T.1 + U.1 - 1) (hm6 : m ≤ 6) (hat : a + 2 < t) (hot : o + 2 < t) (ht : 46 ≤ t) (d x : Nat) (hx : x < m) : ∀ (q y : Nat) (g : Nat → Int32) (o7 o8 o9 : Option Value), y + q = m → zt_rep (0, pS m (wrF T U) x y 0, ρ) g r → ∃ g' o7' o8' o9', ((zall (fun y => wokY T U m x y) y q = true ∧ zt_rep (0, pS m (wrF T U) x m 0, ρ) g' r ∧ mz (d + 3) 51 94 [some (.ref a), some (.ref o), some (.int (zn T.1)), some (.int (zn m)), some (.ref t), some (.int (zn x)), some (.int (zn y)), o7, o8, o9] [] (hp n s (tc c t m g r) I J A B R Q) = mz (d + 3) 51 159 [some (.ref a), some (.ref o), some (.int (zn T.1)), some (.int (zn m)), some (.ref t), some (.int (zn x)), some (.int (zn m)), o7', o8', o9'] [] (hp n s (tc c t m g' r) I J A B R Q)) ∨ (zall (fun y => wokY T U m x y) y q = false ∧ mz (d + 3) 51 94 [some (.ref a), some (.ref o), some (.int (zn T.1)), some (.int (zn m)), some (.ref t), some (.int (zn x)), some (.int (zn y)), o7, o8, o9] [] (hp n s (tc c t m g r) I J A B R Q) = some (some (some .null), hp n s (tc c t m g' r) I J A B R Q))) := by
  have h1 := hW.2.1
  intro q
  induction q with
  | zero =>
    intro y g o7 o8 o9 hy hg
    have e : y = m := by omega
    subst e
    refine ⟨g, o7, o8, o9, Or.inl ⟨rfl, hg, ?_⟩⟩
    simp (disch := first | omega | exact zb_1 | exact zb_0 | exact zb_n1 | exact zb_n0) only [x51_94, x51_96, x51_97, mq_dl_int, mq_dl_ref, mq_dl_null, mq_dl_none, mc_some, Option.toList_some, Option.toList_none, List.cons_append, List.nil_append, zb_1, zb_0, ↓reduceIte, if_true, if_false, not_true_eq_false, not_false_eq_true, Bool.false_eq_true, z_10, z_01, eq_self, Bool.and_self, true_or, or_true, false_or, or_false, true_and, and_true, false_and, and_false, and_self, or_self, Nat.reduceLT, Nat.reduceEqDiff, Nat.reduceLeDiff, Nat.reduceAdd, Nat.reduceMul, Nat.reduceSub, zn_lit, zn_add, zn_mul, zn_sub, zn_addneg, zn_lt, zn_le, zn_eq, zn_clamp, zn_in, zn_long, Nat.le_refl]
  | succ q ih =>
    intro y g o7 o8 o9 hy hg
    obtain ⟨g1, p8, p9, hz⟩ := M_wz (n := n) (s := s) (c := c) (I := I) (J := J) (A := A) (B := B) (R := R) (Q := Q) (r := r) (ρ := ρ) hT hU hW hV hm hm6 hat hot ht d x y hx (by omega) m 0 g o8 o9 (by omega) hg
    have es : mz (d + 3) 51 94 [some (.ref a), some (.ref o), some (.int (zn T.1)), some (.int (zn m)), some (.ref t), some (.int (zn x)), some (.int (zn y)), o7, o8, o9] [] (hp n s (tc c t m g r) I J A B R Q) = mz (d + 3) 51 103 [some (.ref a), some (.ref o), some (.int (zn T.1)), some (.int (zn m)), some (.ref t), some (.int (zn x)), some (.int (zn y)), some (.int (zn 0)), o8, o9] [] (hp n s (tc c t m g r) I J A B R Q) := by
      simp (disch := first | omega | exact zb_1 | exact zb_0 | exact zb_n1 | exact zb_n0) only [x51_94, x51_96, x51_97, x51_100, x51_101, mq_dl_int, mq_dl_ref, mq_dl_null, mq_dl_none, mc_some, Option.toList_some, Option.toList_none, List.cons_append, List.nil_append, zb_1, zb_0, ↓reduceIte, if_true, if_false, not_true_eq_false, not_false_eq_true, Bool.false_eq_true, z_10, z_01, eq_self, Bool.and_self, true_or, or_true, false_or, or_false, true_and, and_true, false_and, and_false, and_self, or_self, Nat.reduceLT, Nat.reduceEqDiff, Nat.reduceLeDiff, Nat.reduceAdd, Nat.reduceMul, Nat.reduceSub, zn_lit, zn_add, zn_mul, zn_sub, zn_addneg, zn_lt, zn_le, zn_eq, zn_clamp, zn_in, zn_long, show ¬ m ≤ y by omega]
    rw [show zall (fun y => wokY T U m x y) y (q + 1) = (wokY T U m x y && zall (fun y => wokY T U m x y) (y + 1) q) from rfl, es]
    rcases hz with ⟨z1, z2, z3⟩ | ⟨z1, z3⟩
    · have z1' : wokY T U m x y = true := z1
      rw [pS_y] at z2
      obtain ⟨g', o7', o8', o9', hi⟩ := ih (y + 1) g1 (some (.int (zn m))) p8 p9 (by omega) z2
      refine ⟨g', o7', o8', o9', ?_⟩
      rw [z1', Bool.true_and, z3]
      simp (disch := first | omega | exact zb_1 | exact zb_0 | exact zb_n1 | exact zb_n0) only [x51_153, x51_156, mq_dl_int, mq_dl_ref, mq_dl_null, mq_dl_none, mc_some, Option.toList_some, Option.toList_none, List.cons_append, List.nil_append, zb_1, zb_0, ↓reduceIte, if_true, if_false, not_true_eq_false, not_false_eq_true, Bool.false_eq_true, z_10, z_01, eq_self, Bool.and_self, true_or, or_true, false_or, or_false, true_and, and_true, false_and, and_false, and_self, or_self, Nat.reduceLT, Nat.reduceEqDiff, Nat.reduceLeDiff, Nat.reduceAdd, Nat.reduceMul, Nat.reduceSub, zn_lit, zn_add, zn_mul, zn_sub, zn_addneg, zn_lt, zn_le, zn_eq, zn_clamp, zn_in, zn_long]
      exact hi
    · have z1' : wokY T U m x y = false := z1
      exact ⟨g1, none, none, none, Or.inr ⟨by rw [z1', Bool.false_and], z3⟩⟩
theorem M_wx (hT : TB c a T) (hU : TB c o U) (hW : WT T) (hV : WT U) (hm : m = T.1 + U.1 - 1) (hm6 : m ≤ 6) (hat : a + 2 < t) (hot : o + 2 < t) (ht : 46 ≤ t) (d : Nat) : ∀ (q x : Nat) (g r : Nat → Int32) (o6 o7 o8 o9 : Option Value), x + q = m → zt_rep (0, pS m (wrF T U) x 0 0, rP m (wrR T U) x) g r → ∃ g' r', ((zall (fun x => wokX T U m x) x q = true ∧ zt_rep (0, pS m (wrF T U) m 0 0, rP m (wrR T U) m) g' r' ∧ mz (d + 3) 51 49 [some (.ref a), some (.ref o), some (.int (zn T.1)), some (.int (zn m)), some (.ref t), some (.int (zn x)), o6, o7, o8, o9] [] (hp n s (tc c t m g r) I J A B R Q) = some (some (some (.ref t)), hp n s (tc c t m g' r') I J A B R Q)) ∨ (zall (fun x => wokX T U m x) x q = false ∧ mz (d + 3) 51 49 [some (.ref a), some (.ref o), some (.int (zn T.1)), some (.int (zn m)), some (.ref t), some (.int (zn x)), o6, o7, o8, o9] [] (hp n s (tc c t m g r) I J A B R Q) = some (some (some .null), hp n s (tc c t m g' r') I J A B R Q))) := by
  have h0 := hW.1
  have h1 := hW.2.1
  have h2 := hV.1
  intro q
  induction q with
  | zero =>
    intro x g r o6 o7 o8 o9 hx hg
    have e : x = m := by omega
    subst e
    refine ⟨g, r, Or.inl ⟨rfl, hg, ?_⟩⟩
    simp (disch := first | omega | exact zb_1 | exact zb_0 | exact zb_n1 | exact zb_n0) only [x51_49, x51_51, x51_52, x51_165, x51_167, mq_dl_int, mq_dl_ref, mq_dl_null, mq_dl_none, mc_some, Option.toList_some, Option.toList_none, List.cons_append, List.nil_append, zb_1, zb_0, ↓reduceIte, if_true, if_false, not_true_eq_false, not_false_eq_true, Bool.false_eq_true, z_10, z_01, eq_self, Bool.and_self, true_or, or_true, false_or, or_false, true_and, and_true, false_and, and_false, and_self, or_self, Nat.reduceLT, Nat.reduceEqDiff, Nat.reduceLeDiff, Nat.reduceAdd, Nat.reduceMul, Nat.reduceSub, zn_lit, zn_add, zn_mul, zn_sub, zn_addneg, zn_lt, zn_le, zn_eq, zn_clamp, zn_in, zn_long, Nat.le_refl]
  | succ q ih =>
    intro x g r o6 o7 o8 o9 hx hg
    obtain ⟨g1, p7, p8, p9, hz⟩ := M_wy (n := n) (s := s) (c := c) (I := I) (J := J) (A := A) (B := B) (R := R) (Q := Q) (r := zu r x (zn (wrR T U x))) (ρ := rP m (wrR T U) (x + 1)) hT hU hW hV hm hm6 hat hot ht d x (by omega) m 0 g o7 o8 o9 (by omega) (rP_s hg hm6 (by omega))
    have hT' := TB_tcO (t := t) (m := m) (g := g) (r := r) hT hat
    have hU' := TB_tcO (t := t) (m := m) (g := g) (r := r) hU hot
    have es : mz (d + 3) 51 49 [some (.ref a), some (.ref o), some (.int (zn T.1)), some (.int (zn m)), some (.ref t), some (.int (zn x)), o6, o7, o8, o9] [] (hp n s (tc c t m g r) I J A B R Q) = mz (d + 3) 51 94 [some (.ref a), some (.ref o), some (.int (zn T.1)), some (.int (zn m)), some (.ref t), some (.int (zn x)), some (.int (zn 0)), o7, o8, o9] [] (hp n s (tc c t m g (zu r x (zn (wrR T U x)))) I J A B R Q) := by
      unfold wrR
      by_cases q1 : x < T.1
      · have h3 := hW.2.2.2.1 x q1
        simp (disch := first | omega | exact zb_1 | exact zb_0 | exact zb_n1 | exact zb_n0) only [x51_49, x51_51, x51_52, x51_55, x51_57, x51_59, x51_61, x51_62, x51_65, x51_66, x51_68, x51_71, x51_88, x51_91, x51_92, mq_dl_int, mq_dl_ref, mq_dl_null, mq_dl_none, mc_some, Option.toList_some, Option.toList_none, List.cons_append, List.nil_append, zb_1, zb_0, ↓reduceIte, if_true, if_false, not_true_eq_false, not_false_eq_true, Bool.false_eq_true, z_10, z_01, eq_self, Bool.and_self, true_or, or_true, false_or, or_false, true_and, and_true, false_and, and_false, and_self, or_self, Nat.reduceLT, Nat.reduceEqDiff, Nat.reduceLeDiff, Nat.reduceAdd, Nat.reduceMul, Nat.reduceSub, zn_lit, zn_add, zn_mul, zn_sub, zn_addneg, zn_lt, zn_le, zn_eq, zn_clamp, zn_in, zn_long, tb_0 hT', T_rev hT' hW, tc_0 ht, show ¬ m ≤ x by omega, show ¬ T.1 ≤ x by omega, q1, B_rev ht hm6]
      · have h3 := hV.2.2.2.1 (x - T.1 + 1) (by omega)
        simp (disch := first | omega | exact zb_1 | exact zb_0 | exact zb_n1 | exact zb_n0) only [x51_49, x51_51, x51_52, x51_55, x51_57, x51_59, x51_61, x51_62, x51_74, x51_75, x51_77, x51_78, x51_79, x51_80, x51_81, x51_84, x51_85, x51_86, x51_87, x51_88, x51_91, x51_92, mq_dl_int, mq_dl_ref, mq_dl_null, mq_dl_none, mc_some, Option.toList_some, Option.toList_none, List.cons_append, List.nil_append, zb_1, zb_0, ↓reduceIte, if_true, if_false, not_true_eq_false, not_false_eq_true, Bool.false_eq_true, z_10, z_01, eq_self, Bool.and_self, true_or, or_true, false_or, or_false, true_and, and_true, false_and, and_false, and_self, or_self, Nat.reduceLT, Nat.reduceEqDiff, Nat.reduceLeDiff, Nat.reduceAdd, Nat.reduceMul, Nat.reduceSub, zn_lit, zn_add, zn_mul, zn_sub, zn_addneg, zn_lt, zn_le, zn_eq, zn_clamp, zn_in, zn_long, tb_0 hU', T_rev hU' hV, tc_0 ht, show ¬ m ≤ x by omega, show T.1 ≤ x by omega, q1, B_rev ht hm6]
    rw [show zall (fun x => wokX T U m x) x (q + 1) = (wokX T U m x && zall (fun x => wokX T U m x) (x + 1) q) from rfl, es]
    rcases hz with ⟨z1, z2, z3⟩ | ⟨z1, z3⟩
    · have z1' : wokX T U m x = true := z1
      rw [pS_x] at z2
      obtain ⟨g', r', hi⟩ := ih (x + 1) g1 _ (some (.int (zn m))) p7 p8 p9 (by omega) z2
      refine ⟨g', r', ?_⟩
      rw [z1', Bool.true_and, z3]
      simp (disch := first | omega | exact zb_1 | exact zb_0 | exact zb_n1 | exact zb_n0) only [x51_159, x51_162, mq_dl_int, mq_dl_ref, mq_dl_null, mq_dl_none, mc_some, Option.toList_some, Option.toList_none, List.cons_append, List.nil_append, zb_1, zb_0, ↓reduceIte, if_true, if_false, not_true_eq_false, not_false_eq_true, Bool.false_eq_true, z_10, z_01, eq_self, Bool.and_self, true_or, or_true, false_or, or_false, true_and, and_true, false_and, and_false, and_self, or_self, Nat.reduceLT, Nat.reduceEqDiff, Nat.reduceLeDiff, Nat.reduceAdd, Nat.reduceMul, Nat.reduceSub, zn_lit, zn_add, zn_mul, zn_sub, zn_addneg, zn_lt, zn_le, zn_eq, zn_clamp, zn_in, zn_long]
      exact hi
    · have z1' : wokX T U m x = false := z1
      exact ⟨g1, _, Or.inr ⟨by rw [z1', Bool.false_and], z3⟩⟩
end WC
