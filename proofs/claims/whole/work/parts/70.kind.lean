/-! KINDS, both sides -/
theorem kd_fitsPoints (d : Nat) (h : mq_H) (v : Int32) : mz d 41 0 [some (.int v)] [] h = some (some (some (.int (if ¬ v < 4 ∧ ¬ 100 < v then 1 else 0))), h) := by
  simp only [x41_0, x41_1, x41_2, x41_5, x41_6, x41_8, x41_11, x41_12, x41_16, x41_15, zb_1, zb_0]
  by_cases h1 : v < 4 <;> by_cases h2 : 100 < v <;> simp [h1, h2]
theorem kd_isBounded (d : Nat) (h : mq_H) (k r t : Int32) : mz d 48 0 [some (.int k), some (.int r), some (.int t)] [] h = some (some (some (.int (if (r + 1) * (k + r + 2 * r * t) ≤ (k + r) * (t + 1) * (t + 1) then 1 else 0))), h) := by
  simp only [x48_0, x48_1, x48_2, x48_3, x48_4, x48_5, x48_6, x48_7, x48_8, x48_9, x48_10, x48_11, x48_12, x48_13, x48_14, x48_15, x48_16, x48_17, x48_18, x48_19, x48_20, x48_21, x48_22, x48_23, x48_24, x48_27, x48_28, x48_32, x48_31, zb_1, zb_0]
  by_cases h1 : (r + 1) * (k + r + 2 * r * t) ≤ (k + r) * (t + 1) * (t + 1)
  · simp [h1]
  · simp [h1]
theorem kd_holds (d : Nat) (h : mq_H) (k r t : Int32) : mz d 272 0 [some (.int k), some (.int r), some (.int t)] [] h = some (some (some (.int (if (r + 1) * (k + r + 2 * r * t) ≤ (k + r) * (t + 1) * (t + 1) then 1 else 0))), h) := by
  simp only [x272_0, x272_1, x272_2, x272_3, x272_4, x272_5, x272_6, x272_7, x272_8, x272_9, x272_10, x272_11, x272_12, x272_13, x272_14, x272_15, x272_16, x272_17, x272_18, x272_19, x272_20, x272_21, x272_22, x272_23, x272_24, x272_27, x272_28, x272_32, x272_31, zb_1, zb_0]
  by_cases h1 : (r + 1) * (k + r + 2 * r * t) ≤ (k + r) * (t + 1) * (t + 1)
  · simp [h1]
  · simp [h1]
def kd_lst (D : Nat) : Nat → Nat → Nat
  | s, 0 => s
  | s, r + 1 => if s * s < D then kd_lst D (s + 1) r else s
/-- the least number whose square is no less -/
def kd_rt (D : Nat) : Nat := kd_lst D 0 128
theorem kd_lst_ok (D : Nat) : ∀ (r s : Nat), D ≤ (s + r) * (s + r) → (∀ t, t < s → t * t < D) → (∀ t, t < kd_lst D s r → t * t < D) ∧ D ≤ kd_lst D s r * kd_lst D s r ∧ kd_lst D s r ≤ s + r
  | 0, s, h1, h2 => ⟨h2, h1, Nat.le_refl _⟩
  | r + 1, s, h1, h2 => by
    simp only [kd_lst]
    by_cases q : s * s < D
    · rw [if_pos q]
      have := kd_lst_ok D r (s + 1) (by rw [show s + 1 + r = s + (r + 1) by omega]; exact h1) (fun t ht => by
        by_cases e : t = s
        · rw [e]; exact q
        · exact h2 t (by omega))
      exact ⟨this.1, this.2.1, by omega⟩
    · rw [if_neg q]
      exact ⟨h2, by omega, by omega⟩
theorem kd_rt_ok (D : Nat) (h : D ≤ 16384) : (∀ t, t < kd_rt D → t * t < D) ∧ D ≤ kd_rt D * kd_rt D ∧ kd_rt D ≤ 128 := by
  have := kd_lst_ok D 128 0 (by omega) (fun t ht => by omega)
  exact ⟨this.1, this.2.1, by have := this.2.2; unfold kd_rt; omega⟩
theorem kd_rootR (d D : Nat) (h : mq_H) (hD : D ≤ 16384) : ∀ (r s : Nat), s + r = kd_rt D → mz d 271 2 [some (.int (zn D)), some (.int (zn s))] [] h = some (some (some (.int (zn (kd_rt D)))), h) := by
  have hk := kd_rt_ok D hD
  intro r
  induction r with
  | zero =>
    intro s hs
    have e : s = kd_rt D := by omega
    have hq : s * s ≤ 16384 := Nat.mul_le_mul (show s ≤ 128 by omega) (show s ≤ 128 by omega)
    have hs2 := hk.2.1
    rw [← e] at hs2 ⊢
    simp (disch := first | omega | exact zb_1 | exact zb_0 | exact zb_n1 | exact zb_n0) only [x271_0, x271_1, x271_2, x271_3, x271_4, x271_5, x271_6, x271_9, x271_12, x271_15, x271_16, mq_dl_int, mq_dl_ref, mq_dl_null, mq_dl_none, mc_some, Option.toList_some, Option.toList_none, List.cons_append, List.nil_append, zb_1, zb_0, ↓reduceIte, if_true, if_false, not_true_eq_false, not_false_eq_true, Bool.false_eq_true, z_10, z_01, eq_self, Bool.and_self, true_or, or_true, false_or, or_false, true_and, and_true, false_and, and_false, and_self, or_self, Nat.reduceLT, Nat.reduceEqDiff, Nat.reduceLeDiff, Nat.reduceAdd, Nat.reduceMul, Nat.reduceSub, zn_lit, zn_add, zn_mul, zn_sub, zn_addneg, zn_lt, zn_le, zn_eq, zn_clamp, zn_in, zn_long, hs2]
  | succ r ih =>
    intro s hs
    have hq : s * s ≤ 16384 := Nat.mul_le_mul (show s ≤ 128 by omega) (show s ≤ 128 by omega)
    have hs2 := hk.1 s (by omega)
    rw [x271_2]
    simp (disch := first | omega | exact zb_1 | exact zb_0 | exact zb_n1 | exact zb_n0) only [x271_0, x271_1, x271_3, x271_4, x271_5, x271_6, x271_9, x271_12, x271_15, x271_16, mq_dl_int, mq_dl_ref, mq_dl_null, mq_dl_none, mc_some, Option.toList_some, Option.toList_none, List.cons_append, List.nil_append, zb_1, zb_0, ↓reduceIte, if_true, if_false, not_true_eq_false, not_false_eq_true, Bool.false_eq_true, z_10, z_01, eq_self, Bool.and_self, true_or, or_true, false_or, or_false, true_and, and_true, false_and, and_false, and_self, or_self, Nat.reduceLT, Nat.reduceEqDiff, Nat.reduceLeDiff, Nat.reduceAdd, Nat.reduceMul, Nat.reduceSub, zn_lit, zn_add, zn_mul, zn_sub, zn_addneg, zn_lt, zn_le, zn_eq, zn_clamp, zn_in, zn_long, Nat.not_le.mpr hs2, ih (s + 1) (by omega)]
theorem kd_rootC (d D : Nat) (h : mq_H) (hD : D ≤ 16384) : ∀ (r s : Nat), s + r = kd_rt D → mz d 47 2 [some (.int (zn D)), some (.int (zn s))] [] h = some (some (some (.int (if kd_rt D * kd_rt D = D then zn (kd_rt D) else -1))), h) := by
  have hk := kd_rt_ok D hD
  intro r
  induction r with
  | zero =>
    intro s hs
    have e : s = kd_rt D := by omega
    have hq : s * s ≤ 16384 := Nat.mul_le_mul (show s ≤ 128 by omega) (show s ≤ 128 by omega)
    have hs2 := hk.2.1
    rw [← e] at hs2 ⊢
    rw [x47_2]
    simp (disch := first | omega | exact zb_1 | exact zb_0 | exact zb_n1 | exact zb_n0) only [x47_0, x47_1, x47_3, x47_6, x47_9, x47_10, x47_11, x47_12, x47_13, x47_16, x47_17, x47_18, x47_19, x47_20, x47_23, x47_24, x47_25, x47_28, x47_31, x47_32, mq_dl_int, mq_dl_ref, mq_dl_null, mq_dl_none, mc_some, Option.toList_some, Option.toList_none, List.cons_append, List.nil_append, zb_1, zb_0, ↓reduceIte, if_true, if_false, not_true_eq_false, not_false_eq_true, Bool.false_eq_true, z_10, z_01, eq_self, Bool.and_self, true_or, or_true, false_or, or_false, true_and, and_true, false_and, and_false, and_self, or_self, Nat.reduceLT, Nat.reduceEqDiff, Nat.reduceLeDiff, Nat.reduceAdd, Nat.reduceMul, Nat.reduceSub, zn_lit, zn_add, zn_mul, zn_sub, zn_addneg, zn_lt, zn_le, zn_eq, zn_clamp, zn_in, zn_long]
    rw [if_neg (by omega)]
    by_cases q : s * s = D
    · rw [if_neg (by omega), if_neg (by omega), if_pos q]
    · rw [if_pos (by omega), if_neg q]
  | succ r ih =>
    intro s hs
    have hq : s * s ≤ 16384 := Nat.mul_le_mul (show s ≤ 128 by omega) (show s ≤ 128 by omega)
    have hs2 := hk.1 s (by omega)
    rw [x47_2]
    simp (disch := first | omega | exact zb_1 | exact zb_0 | exact zb_n1 | exact zb_n0) only [x47_0, x47_1, x47_3, x47_6, x47_9, x47_10, x47_11, x47_12, x47_13, x47_16, x47_17, x47_18, x47_19, x47_20, x47_23, x47_24, x47_25, x47_28, x47_31, x47_32, mq_dl_int, mq_dl_ref, mq_dl_null, mq_dl_none, mc_some, Option.toList_some, Option.toList_none, List.cons_append, List.nil_append, zb_1, zb_0, ↓reduceIte, if_true, if_false, not_true_eq_false, not_false_eq_true, Bool.false_eq_true, z_10, z_01, eq_self, Bool.and_self, true_or, or_true, false_or, or_false, true_and, and_true, false_and, and_false, and_self, or_self, Nat.reduceLT, Nat.reduceEqDiff, Nat.reduceLeDiff, Nat.reduceAdd, Nat.reduceMul, Nat.reduceSub, zn_lit, zn_add, zn_mul, zn_sub, zn_addneg, zn_lt, zn_le, zn_eq, zn_clamp, zn_in, zn_long]
    rw [if_neg (by omega), if_neg (by omega), if_pos (by omega), ih (s + 1) (by omega)]
    rfl
def kd_b (k r t : Int32) : Prop := (r + 1) * (k + r + 2 * r * t) ≤ (k + r) * (t + 1) * (t + 1)
theorem kd_m1 (n : Nat) (h : n < 2147483648) : ¬ zn n = -1 := by
  intro e
  have := congrArg Int32.toInt e
  rw [zn_toInt n h] at this
  have h2 : (-1 : Int32).toInt = -1 := by decide
  omega
def kdr (v k l m s : Int32) (sq : Prop) [Decidable sq] : Int32 :=
  if k * (k - l - 1) = (v - k - 1) * m then
    if sq then
      if s = 0 then 4 else
      if 2 * k + (v - 1) * (l - m) - (2 * k + (v - 1) * (l - m)) / s * s = 0 ∧ ((2 * k + (v - 1) * (l - m)) / s + v - 1) - ((2 * k + (v - 1) * (l - m)) / s + v - 1) / 2 * 2 = 0 then
        (if (((l - m + s) / 2 + 1) * (k + (l - m + s) / 2 + 2 * ((l - m + s) / 2) * ((l - m - s) / 2)) ≤ (k + (l - m + s) / 2) * ((l - m - s) / 2 + 1) * ((l - m - s) / 2 + 1)) ∧ (((l - m - s) / 2 + 1) * (k + (l - m - s) / 2 + 2 * ((l - m - s) / 2) * ((l - m + s) / 2)) ≤ (k + (l - m - s) / 2) * ((l - m + s) / 2 + 1) * ((l - m + s) / 2 + 1)) then 0 else 5)
      else 3
    else if 2 * k + (v - 1) * (l - m) = 0 then 0 else 2
  else 1
theorem kd_reasonC (d D : Nat) (h : mq_H) (v k l m : Int32) (hD : D ≤ 16384) (e : (l - m) * (l - m) + 4 * (k - m) = zn D) : mz (d + 1) 43 0 [some (.int v), some (.int k), some (.int l), some (.int m), none, none, none, none, none] [] h = some (some (some (.int (kdr v k l m (zn (kd_rt D)) (kd_rt D * kd_rt D = D)))), h) := by
  have hr : mz d 47 0 [some (.int (zn D)), none] [] h = some (some (some (.int (if kd_rt D * kd_rt D = D then zn (kd_rt D) else -1))), h) := by
    rw [← kd_rootC d D h hD (kd_rt D) 0 (by omega)]
    simp only [x47_0, x47_1, mq_dl_int, mq_dl_ref, mq_dl_null, mq_dl_none, mc_some, Option.toList_some, Option.toList_none, List.cons_append, List.nil_append, zb_1, zb_0, ↓reduceIte, if_true, if_false, not_true_eq_false, not_false_eq_true, Bool.false_eq_true, z_10, z_01, eq_self, Bool.and_self, true_or, or_true, false_or, or_false, true_and, and_true, false_and, and_false, and_self, or_self]
    rfl
  have hk := (kd_rt_ok D hD).2.2
  have hm := kd_m1 (kd_rt D) (by omega)
  unfold kdr
  by_cases q : kd_rt D * kd_rt D = D
  · simp only [x43_0, x43_1, x43_2, x43_3, x43_4, x43_5, x43_6, x43_7, x43_8, x43_9, x43_10, x43_11, x43_12, x43_13, x43_14, x43_17, x43_18, x43_19, x43_20, x43_21, x43_22, x43_24, x43_25, x43_26, x43_27, x43_28, x43_29, x43_30, x43_32, x43_33, x43_34, x43_36, x43_38, x43_40, x43_41, x43_42, x43_43, x43_44, x43_45, x43_46, x43_47, x43_50, x43_52, x43_54, x43_55, x43_58, x43_60, x43_63, x43_64, x43_68, x43_67, x43_69, x43_71, x43_74, x43_75, x43_76, x43_78, x43_80, x43_81, x43_84, x43_86, x43_88, x43_89, x43_90, x43_91, x43_92, x43_93, x43_94, x43_95, x43_100, x43_102, x43_104, x43_105, x43_106, x43_107, x43_109, x43_111, x43_113, x43_114, x43_115, x43_116, x43_118, x43_119, x43_121, x43_123, x43_126, x43_129, x43_130, x43_132, x43_134, x43_137, x43_140, x43_141, x43_145, x43_144, x43_98, x43_99, mq_dl_int, mq_dl_ref, mq_dl_null, mq_dl_none, mc_some, Option.toList_some, Option.toList_none, List.cons_append, List.nil_append, zb_1, zb_0, ↓reduceIte, if_true, if_false, not_true_eq_false, not_false_eq_true, Bool.false_eq_true, z_10, z_01, eq_self, Bool.and_self, true_or, or_true, false_or, or_false, true_and, and_true, false_and, and_false, and_self, or_self, kd_isBounded, e, hr, q, hm]
    by_cases c1 : k * (k - l - 1) = (v - k - 1) * m
    · by_cases c2 : zn (kd_rt D) = 0
      · simp [c1, c2]
      · simp only [c1, c2, if_true, if_false, not_false_eq_true, show ¬ (2 : Int32) = 0 by decide]
        repeat' split
        all_goals (first | rfl | simp_all)
    · simp [c1]
  · simp only [x43_0, x43_1, x43_2, x43_3, x43_4, x43_5, x43_6, x43_7, x43_8, x43_9, x43_10, x43_11, x43_12, x43_13, x43_14, x43_17, x43_18, x43_19, x43_20, x43_21, x43_22, x43_24, x43_25, x43_26, x43_27, x43_28, x43_29, x43_30, x43_32, x43_33, x43_34, x43_36, x43_38, x43_40, x43_41, x43_42, x43_43, x43_44, x43_45, x43_46, x43_47, x43_50, x43_52, x43_54, x43_55, x43_58, x43_60, x43_63, x43_64, x43_68, x43_67, x43_69, x43_71, x43_74, x43_75, x43_76, x43_78, x43_80, x43_81, x43_84, x43_86, x43_88, x43_89, x43_90, x43_91, x43_92, x43_93, x43_94, x43_95, x43_100, x43_102, x43_104, x43_105, x43_106, x43_107, x43_109, x43_111, x43_113, x43_114, x43_115, x43_116, x43_118, x43_119, x43_121, x43_123, x43_126, x43_129, x43_130, x43_132, x43_134, x43_137, x43_140, x43_141, x43_145, x43_144, x43_98, x43_99, mq_dl_int, mq_dl_ref, mq_dl_null, mq_dl_none, mc_some, Option.toList_some, Option.toList_none, List.cons_append, List.nil_append, zb_1, zb_0, ↓reduceIte, if_true, if_false, not_true_eq_false, not_false_eq_true, Bool.false_eq_true, z_10, z_01, eq_self, Bool.and_self, true_or, or_true, false_or, or_false, true_and, and_true, false_and, and_false, and_self, or_self, kd_isBounded, e, hr, q, hm]
    by_cases c1 : k * (k - l - 1) = (v - k - 1) * m
    · by_cases c2 : 2 * k + (v - 1) * (l - m) = 0
      · simp [c1, c2]
      · simp [c1, c2]
    · simp [c1]
theorem kd_reasonR (d D : Nat) (h : mq_H) (v k l m : Int32) (hD : D ≤ 16384) (e : (l - m) * (l - m) + 4 * (k - m) = zn D) : mz (d + 1) 273 0 [some (.int v), some (.int k), some (.int l), some (.int m), none, none, none, none, none] [] h = some (some (some (.int (kdr v k l m (zn (kd_rt D)) (kd_rt D * kd_rt D = D)))), h) := by
  have hk := (kd_rt_ok D hD).2.2
  have hq : kd_rt D * kd_rt D ≤ 16384 := Nat.mul_le_mul (show kd_rt D ≤ 128 by omega) (show kd_rt D ≤ 128 by omega)
  have hr : mz d 271 0 [some (.int (zn D)), none] [] h = some (some (some (.int (zn (kd_rt D)))), h) := by
    rw [← kd_rootR d D h hD (kd_rt D) 0 (by omega)]
    simp only [x271_0, x271_1, mq_dl_int, mq_dl_ref, mq_dl_null, mq_dl_none, mc_some, Option.toList_some, Option.toList_none, List.cons_append, List.nil_append, zb_1, zb_0, ↓reduceIte, if_true, if_false, not_true_eq_false, not_false_eq_true, Bool.false_eq_true, z_10, z_01, eq_self, Bool.and_self, true_or, or_true, false_or, or_false, true_and, and_true, false_and, and_false, and_self, or_self]
    rfl
  unfold kdr
  by_cases c1 : k * (k - l - 1) = (v - k - 1) * m
  · by_cases q : kd_rt D * kd_rt D = D
    · by_cases s0 : kd_rt D = 0
      · have s1 : zn (kd_rt D) ≤ 0 := by
          rw [show (0 : Int32) = zn 0 from rfl, zn_le _ _ (by omega) (by omega)]; omega
        have s2 : zn (kd_rt D) = 0 := by rw [s0]; rfl
        have q2 : zn (kd_rt D) * zn (kd_rt D) = zn D := by rw [zn_mul, q]
        simp only [x273_0, x273_1, x273_2, x273_3, x273_4, x273_5, x273_6, x273_7, x273_8, x273_9, x273_10, x273_11, x273_12, x273_13, x273_14, x273_17, x273_18, x273_19, x273_20, x273_21, x273_22, x273_23, x273_24, x273_25, x273_26, x273_27, x273_28, x273_29, x273_30, x273_31, x273_32, x273_34, x273_36, x273_39, x273_41, x273_42, x273_43, x273_44, x273_45, x273_46, x273_47, x273_48, x273_49, x273_50, x273_51, x273_52, x273_54, x273_56, x273_58, x273_59, x273_61, x273_64, x273_66, x273_69, x273_70, x273_74, x273_73, x273_75, x273_77, x273_80, x273_82, x273_84, x273_85, x273_88, x273_90, x273_92, x273_93, x273_94, x273_95, x273_96, x273_97, x273_98, x273_99, x273_102, x273_103, x273_104, x273_106, x273_109, x273_110, x273_111, x273_112, x273_113, x273_114, x273_116, x273_117, x273_118, x273_119, x273_121, x273_122, x273_123, x273_124, x273_126, x273_127, x273_128, x273_129, x273_131, x273_132, x273_134, x273_136, x273_139, x273_142, x273_143, x273_145, x273_147, x273_150, x273_153, x273_154, x273_158, x273_157, mq_dl_int, mq_dl_ref, mq_dl_null, mq_dl_none, mc_some, Option.toList_some, Option.toList_none, List.cons_append, List.nil_append, zb_1, zb_0, ↓reduceIte, if_true, if_false, not_true_eq_false, not_false_eq_true, Bool.false_eq_true, z_10, z_01, eq_self, Bool.and_self, true_or, or_true, false_or, or_false, true_and, and_true, false_and, and_false, and_self, or_self, c1, e, hr, q2, q, s1, s2]
        simp only [← s2, q2, mq_dl_int, mq_dl_ref, mq_dl_null, mq_dl_none, mc_some, Option.toList_some, Option.toList_none, List.cons_append, List.nil_append, zb_1, zb_0, ↓reduceIte, if_true, if_false, not_true_eq_false, not_false_eq_true, Bool.false_eq_true, z_10, z_01, eq_self, Bool.and_self, true_or, or_true, false_or, or_false, true_and, and_true, false_and, and_false, and_self, or_self, x273_0, x273_1, x273_2, x273_3, x273_4, x273_5, x273_6, x273_7, x273_8, x273_9, x273_10, x273_11, x273_12, x273_13, x273_14, x273_17, x273_18, x273_19, x273_20, x273_21, x273_22, x273_23, x273_24, x273_25, x273_26, x273_27, x273_28, x273_29, x273_30, x273_31, x273_32, x273_34, x273_36, x273_39, x273_41, x273_42, x273_43, x273_44, x273_45, x273_46, x273_47, x273_48, x273_49, x273_50, x273_51, x273_52, x273_54, x273_56, x273_58, x273_59, x273_61, x273_64, x273_66, x273_69, x273_70, x273_74, x273_73, x273_75, x273_77, x273_80, x273_82, x273_84, x273_85, x273_88, x273_90, x273_92, x273_93, x273_94, x273_95, x273_96, x273_97, x273_98, x273_99, x273_102, x273_103, x273_104, x273_106, x273_109, x273_110, x273_111, x273_112, x273_113, x273_114, x273_116, x273_117, x273_118, x273_119, x273_121, x273_122, x273_123, x273_124, x273_126, x273_127, x273_128, x273_129, x273_131, x273_132, x273_134, x273_136, x273_139, x273_142, x273_143, x273_145, x273_147, x273_150, x273_153, x273_154, x273_158, x273_157]
        simp only [s2, mq_dl_int, mq_dl_ref, mq_dl_null, mq_dl_none, mc_some, Option.toList_some, Option.toList_none, List.cons_append, List.nil_append, zb_1, zb_0, ↓reduceIte, if_true, if_false, not_true_eq_false, not_false_eq_true, Bool.false_eq_true, z_10, z_01, eq_self, Bool.and_self, true_or, or_true, false_or, or_false, true_and, and_true, false_and, and_false, and_self, or_self]
        rfl
      · have s1 : ¬ zn (kd_rt D) ≤ 0 := by
          rw [show (0 : Int32) = zn 0 from rfl, zn_le _ _ (by omega) (by omega)]; omega
        have s2 : ¬ zn (kd_rt D) = 0 := by
          rw [show (0 : Int32) = zn 0 from rfl, zn_eq _ _ (by omega) (by omega)]; omega
        have t2 : ¬ (2 : Int32) = 0 := by decide
        by_cases c2 : 2 * k + (v - 1) * (l - m) - (2 * k + (v - 1) * (l - m)) / zn (kd_rt D) * zn (kd_rt D) = 0
        · by_cases c3 : ((2 * k + (v - 1) * (l - m)) / zn (kd_rt D) + v - 1) - ((2 * k + (v - 1) * (l - m)) / zn (kd_rt D) + v - 1) / 2 * 2 = 0
          · simp (disch := first | omega | exact zb_1 | exact zb_0 | exact zb_n1 | exact zb_n0) only [x273_0, x273_1, x273_2, x273_3, x273_4, x273_5, x273_6, x273_7, x273_8, x273_9, x273_10, x273_11, x273_12, x273_13, x273_14, x273_17, x273_18, x273_19, x273_20, x273_21, x273_22, x273_23, x273_24, x273_25, x273_26, x273_27, x273_28, x273_29, x273_30, x273_31, x273_32, x273_34, x273_36, x273_39, x273_41, x273_42, x273_43, x273_44, x273_45, x273_46, x273_47, x273_48, x273_49, x273_50, x273_51, x273_52, x273_54, x273_56, x273_58, x273_59, x273_61, x273_64, x273_66, x273_69, x273_70, x273_74, x273_73, x273_75, x273_77, x273_80, x273_82, x273_84, x273_85, x273_88, x273_90, x273_92, x273_93, x273_94, x273_95, x273_96, x273_97, x273_98, x273_99, x273_102, x273_103, x273_104, x273_106, x273_109, x273_110, x273_111, x273_112, x273_113, x273_114, x273_116, x273_117, x273_118, x273_119, x273_121, x273_122, x273_123, x273_124, x273_126, x273_127, x273_128, x273_129, x273_131, x273_132, x273_134, x273_136, x273_139, x273_142, x273_143, x273_145, x273_147, x273_150, x273_153, x273_154, x273_158, x273_157, mq_dl_int, mq_dl_ref, mq_dl_null, mq_dl_none, mc_some, Option.toList_some, Option.toList_none, List.cons_append, List.nil_append, zb_1, zb_0, ↓reduceIte, if_true, if_false, not_true_eq_false, not_false_eq_true, Bool.false_eq_true, z_10, z_01, eq_self, Bool.and_self, true_or, or_true, false_or, or_false, true_and, and_true, false_and, and_false, and_self, or_self, kd_holds, c1, e, hr, zn_mul, zn_eq, q, s1, s2, t2, c2, c3, and_self]
            repeat' split
            all_goals (first | rfl | simp_all)
          · simp (disch := first | omega | exact zb_1 | exact zb_0 | exact zb_n1 | exact zb_n0) only [x273_0, x273_1, x273_2, x273_3, x273_4, x273_5, x273_6, x273_7, x273_8, x273_9, x273_10, x273_11, x273_12, x273_13, x273_14, x273_17, x273_18, x273_19, x273_20, x273_21, x273_22, x273_23, x273_24, x273_25, x273_26, x273_27, x273_28, x273_29, x273_30, x273_31, x273_32, x273_34, x273_36, x273_39, x273_41, x273_42, x273_43, x273_44, x273_45, x273_46, x273_47, x273_48, x273_49, x273_50, x273_51, x273_52, x273_54, x273_56, x273_58, x273_59, x273_61, x273_64, x273_66, x273_69, x273_70, x273_74, x273_73, x273_75, x273_77, x273_80, x273_82, x273_84, x273_85, x273_88, x273_90, x273_92, x273_93, x273_94, x273_95, x273_96, x273_97, x273_98, x273_99, x273_102, x273_103, x273_104, x273_106, x273_109, x273_110, x273_111, x273_112, x273_113, x273_114, x273_116, x273_117, x273_118, x273_119, x273_121, x273_122, x273_123, x273_124, x273_126, x273_127, x273_128, x273_129, x273_131, x273_132, x273_134, x273_136, x273_139, x273_142, x273_143, x273_145, x273_147, x273_150, x273_153, x273_154, x273_158, x273_157, mq_dl_int, mq_dl_ref, mq_dl_null, mq_dl_none, mc_some, Option.toList_some, Option.toList_none, List.cons_append, List.nil_append, zb_1, zb_0, ↓reduceIte, if_true, if_false, not_true_eq_false, not_false_eq_true, Bool.false_eq_true, z_10, z_01, eq_self, Bool.and_self, true_or, or_true, false_or, or_false, true_and, and_true, false_and, and_false, and_self, or_self, kd_holds, c1, e, hr, zn_mul, zn_eq, q, s1, s2, t2, c2, c3, and_false]
        · simp (disch := first | omega | exact zb_1 | exact zb_0 | exact zb_n1 | exact zb_n0) only [x273_0, x273_1, x273_2, x273_3, x273_4, x273_5, x273_6, x273_7, x273_8, x273_9, x273_10, x273_11, x273_12, x273_13, x273_14, x273_17, x273_18, x273_19, x273_20, x273_21, x273_22, x273_23, x273_24, x273_25, x273_26, x273_27, x273_28, x273_29, x273_30, x273_31, x273_32, x273_34, x273_36, x273_39, x273_41, x273_42, x273_43, x273_44, x273_45, x273_46, x273_47, x273_48, x273_49, x273_50, x273_51, x273_52, x273_54, x273_56, x273_58, x273_59, x273_61, x273_64, x273_66, x273_69, x273_70, x273_74, x273_73, x273_75, x273_77, x273_80, x273_82, x273_84, x273_85, x273_88, x273_90, x273_92, x273_93, x273_94, x273_95, x273_96, x273_97, x273_98, x273_99, x273_102, x273_103, x273_104, x273_106, x273_109, x273_110, x273_111, x273_112, x273_113, x273_114, x273_116, x273_117, x273_118, x273_119, x273_121, x273_122, x273_123, x273_124, x273_126, x273_127, x273_128, x273_129, x273_131, x273_132, x273_134, x273_136, x273_139, x273_142, x273_143, x273_145, x273_147, x273_150, x273_153, x273_154, x273_158, x273_157, mq_dl_int, mq_dl_ref, mq_dl_null, mq_dl_none, mc_some, Option.toList_some, Option.toList_none, List.cons_append, List.nil_append, zb_1, zb_0, ↓reduceIte, if_true, if_false, not_true_eq_false, not_false_eq_true, Bool.false_eq_true, z_10, z_01, eq_self, Bool.and_self, true_or, or_true, false_or, or_false, true_and, and_true, false_and, and_false, and_self, or_self, kd_holds, c1, e, hr, zn_mul, zn_eq, q, s1, s2, t2, c2, false_and]
    · by_cases c2 : 2 * k + (v - 1) * (l - m) = 0
      · simp (disch := first | omega | exact zb_1 | exact zb_0 | exact zb_n1 | exact zb_n0) only [x273_0, x273_1, x273_2, x273_3, x273_4, x273_5, x273_6, x273_7, x273_8, x273_9, x273_10, x273_11, x273_12, x273_13, x273_14, x273_17, x273_18, x273_19, x273_20, x273_21, x273_22, x273_23, x273_24, x273_25, x273_26, x273_27, x273_28, x273_29, x273_30, x273_31, x273_32, x273_34, x273_36, x273_39, x273_41, x273_42, x273_43, x273_44, x273_45, x273_46, x273_47, x273_48, x273_49, x273_50, x273_51, x273_52, x273_54, x273_56, x273_58, x273_59, x273_61, x273_64, x273_66, x273_69, x273_70, x273_74, x273_73, x273_75, x273_77, x273_80, x273_82, x273_84, x273_85, x273_88, x273_90, x273_92, x273_93, x273_94, x273_95, x273_96, x273_97, x273_98, x273_99, x273_102, x273_103, x273_104, x273_106, x273_109, x273_110, x273_111, x273_112, x273_113, x273_114, x273_116, x273_117, x273_118, x273_119, x273_121, x273_122, x273_123, x273_124, x273_126, x273_127, x273_128, x273_129, x273_131, x273_132, x273_134, x273_136, x273_139, x273_142, x273_143, x273_145, x273_147, x273_150, x273_153, x273_154, x273_158, x273_157, mq_dl_int, mq_dl_ref, mq_dl_null, mq_dl_none, mc_some, Option.toList_some, Option.toList_none, List.cons_append, List.nil_append, zb_1, zb_0, ↓reduceIte, if_true, if_false, not_true_eq_false, not_false_eq_true, Bool.false_eq_true, z_10, z_01, eq_self, Bool.and_self, true_or, or_true, false_or, or_false, true_and, and_true, false_and, and_false, and_self, or_self, kd_holds, c1, e, hr, zn_mul, zn_eq, q, c2]
      · simp (disch := first | omega | exact zb_1 | exact zb_0 | exact zb_n1 | exact zb_n0) only [x273_0, x273_1, x273_2, x273_3, x273_4, x273_5, x273_6, x273_7, x273_8, x273_9, x273_10, x273_11, x273_12, x273_13, x273_14, x273_17, x273_18, x273_19, x273_20, x273_21, x273_22, x273_23, x273_24, x273_25, x273_26, x273_27, x273_28, x273_29, x273_30, x273_31, x273_32, x273_34, x273_36, x273_39, x273_41, x273_42, x273_43, x273_44, x273_45, x273_46, x273_47, x273_48, x273_49, x273_50, x273_51, x273_52, x273_54, x273_56, x273_58, x273_59, x273_61, x273_64, x273_66, x273_69, x273_70, x273_74, x273_73, x273_75, x273_77, x273_80, x273_82, x273_84, x273_85, x273_88, x273_90, x273_92, x273_93, x273_94, x273_95, x273_96, x273_97, x273_98, x273_99, x273_102, x273_103, x273_104, x273_106, x273_109, x273_110, x273_111, x273_112, x273_113, x273_114, x273_116, x273_117, x273_118, x273_119, x273_121, x273_122, x273_123, x273_124, x273_126, x273_127, x273_128, x273_129, x273_131, x273_132, x273_134, x273_136, x273_139, x273_142, x273_143, x273_145, x273_147, x273_150, x273_153, x273_154, x273_158, x273_157, mq_dl_int, mq_dl_ref, mq_dl_null, mq_dl_none, mc_some, Option.toList_some, Option.toList_none, List.cons_append, List.nil_append, zb_1, zb_0, ↓reduceIte, if_true, if_false, not_true_eq_false, not_false_eq_true, Bool.false_eq_true, z_10, z_01, eq_self, Bool.and_self, true_or, or_true, false_or, or_false, true_and, and_true, false_and, and_false, and_self, or_self, kd_holds, c1, e, hr, zn_mul, zn_eq, q, c2]
  · simp only [x273_0, x273_1, x273_2, x273_3, x273_4, x273_5, x273_6, x273_7, x273_8, x273_9, x273_10, x273_11, x273_12, x273_13, x273_14, x273_17, x273_18, x273_19, x273_20, x273_21, x273_22, x273_23, x273_24, x273_25, x273_26, x273_27, x273_28, x273_29, x273_30, x273_31, x273_32, x273_34, x273_36, x273_39, x273_41, x273_42, x273_43, x273_44, x273_45, x273_46, x273_47, x273_48, x273_49, x273_50, x273_51, x273_52, x273_54, x273_56, x273_58, x273_59, x273_61, x273_64, x273_66, x273_69, x273_70, x273_74, x273_73, x273_75, x273_77, x273_80, x273_82, x273_84, x273_85, x273_88, x273_90, x273_92, x273_93, x273_94, x273_95, x273_96, x273_97, x273_98, x273_99, x273_102, x273_103, x273_104, x273_106, x273_109, x273_110, x273_111, x273_112, x273_113, x273_114, x273_116, x273_117, x273_118, x273_119, x273_121, x273_122, x273_123, x273_124, x273_126, x273_127, x273_128, x273_129, x273_131, x273_132, x273_134, x273_136, x273_139, x273_142, x273_143, x273_145, x273_147, x273_150, x273_153, x273_154, x273_158, x273_157, mq_dl_int, mq_dl_ref, mq_dl_null, mq_dl_none, mc_some, Option.toList_some, Option.toList_none, List.cons_append, List.nil_append, zb_1, zb_0, ↓reduceIte, if_true, if_false, not_true_eq_false, not_false_eq_true, Bool.false_eq_true, z_10, z_01, eq_self, Bool.and_self, true_or, or_true, false_or, or_false, true_and, and_true, false_and, and_false, and_self, or_self, c1]
