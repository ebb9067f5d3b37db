/-! ROWS: the reference's sift -/
def S6 (F : Nat → Int64) (x y k : Nat) (f : Nat → Int64) : Prop := ∀ r c, r < 6 → c < 6 → f (6 * r + c) = if c < k then F (6 * swp x y r + c) else F (6 * r + c)
theorem S6_s {F f : Nat → Int64} {x y k : Nat} (hx : x < 6) (hy : y < 6) (hxy : x ≠ y) (hk : k < 6) (h : S6 F x y k f) : S6 F x y (k + 1) (zu (zu f (6 * x + k) (F (6 * y + k))) (6 * y + k) (F (6 * x + k))) := by
  intro r c hr hc
  by_cases q : c = k
  · subst q
    rw [if_pos (by omega)]
    unfold swp
    by_cases q1 : r = y
    · subst q1
      rw [zu_eq, if_neg (Ne.symm hxy), if_pos rfl]
    · rw [zu_ne _ _ _ _ (by omega)]
      by_cases q2 : r = x
      · subst q2
        rw [zu_eq, if_pos rfl]
      · rw [zu_ne _ _ _ _ (by omega), h r c hr hc, if_neg (by omega), if_neg q2, if_neg q1]
  · rw [zu_ne _ _ _ _ (by omega), zu_ne _ _ _ _ (by omega), h r c hr hc]
    by_cases q1 : c < k
    · rw [if_pos q1, if_pos (by omega)]
    · rw [if_neg q1, if_neg (by omega)]
def ELZ (F : Nat → Int64) (w : Int64) (m k y z : Nat) (f : Nat → Int64) : Prop := ∀ r c, r < 6 → c < 6 → f (6 * r + c) = if r = y ∧ k < c ∧ c < z then (F (6 * y + c) * F (6 * k + k) - F (6 * y + k) * F (6 * k + c)) / w else F (6 * r + c)
def elv (F : Nat → Int64) (w : Int64) (m k r c : Nat) : Int64 := if k < r ∧ k < c ∧ c < m then (F (6 * r + c) * F (6 * k + k) - F (6 * r + k) * F (6 * k + c)) / w else if k < r ∧ c = k then 0 else F (6 * r + c)
def ELY (F : Nat → Int64) (w : Int64) (m k y : Nat) (f : Nat → Int64) : Prop := ∀ r c, r < 6 → c < 6 → f (6 * r + c) = if r < y then elv F w m k r c else F (6 * r + c)
theorem ELZ_s {F f : Nat → Int64} {w : Int64} {m k y z : Nat} (hy : y < 6) (hz : z < 6) (hk : k < z) (h : ELZ F w m k y z f) : ELZ F w m k y (z + 1) (zu f (6 * y + z) ((F (6 * y + z) * F (6 * k + k) - F (6 * y + k) * F (6 * k + z)) / w)) := by
  intro r c hr hc
  by_cases q : r = y ∧ c = z
  · obtain ⟨rfl, rfl⟩ := q
    rw [zu_eq, if_pos ⟨rfl, hk, by omega⟩]
  · rw [zu_ne _ _ _ _ (by omega), h r c hr hc]
    by_cases q1 : r = y ∧ k < c ∧ c < z
    · rw [if_pos q1, if_pos (by omega)]
    · rw [if_neg q1, if_neg (by omega)]
theorem ELY_s {F f f1 : Nat → Int64} {w : Int64} {m k y : Nat} (hm : m ≤ 6) (hy : y < m) (hk : k < y) (h : ELY F w m k y f) (h1 : ELZ f w m k y m f1) : ELY F w m k (y + 1) (zu f1 (6 * y + k) 0) := by
  intro r c hr hc
  have ey : ∀ c, c < 6 → f (6 * y + c) = F (6 * y + c) := fun c hc => by rw [h y c (by omega) hc, if_neg (by omega)]
  have ek : ∀ c, c < 6 → f (6 * k + c) = F (6 * k + c) := fun c hc => by
    rw [h k c (by omega) hc, if_pos hk]
    unfold elv
    rw [if_neg (by omega), if_neg (by omega)]
  by_cases q : r = y ∧ c = k
  · obtain ⟨rfl, rfl⟩ := q
    rw [zu_eq, if_pos (by omega)]
    unfold elv
    rw [if_neg (by omega), if_pos ⟨hk, rfl⟩]
  · rw [zu_ne _ _ _ _ (by omega), h1 r c hr hc]
    by_cases q1 : r = y
    · subst q1
      rw [if_pos (show r < r + 1 by omega)]
      unfold elv
      by_cases q2 : k < c ∧ c < m
      · rw [if_pos ⟨rfl, q2⟩, if_pos ⟨hk, q2⟩, ey c hc, ey k (by omega), ek k (by omega), ek c hc]
      · rw [if_neg (by omega), if_neg (by omega), if_neg (by omega), ey c hc]
    · rw [if_neg (by omega), h r c hr hc]
      by_cases q2 : r < y
      · rw [if_pos q2, if_pos (by omega)]
      · rw [if_neg q2, if_neg (by omega)]
section RIS
variable {n s : Nat} {c : Nat → mq_E} {I : Nat → Int32} {J : Nat → Int64} {A : Nat → Nat → Int32} {B : Nat → Nat → Int64} {R : Nat → Value} {Q : Nat → Nat → Option Nat}
variable {T : ZT}
theorem R_chl (d x y : Nat) (hx : x < 6) (hy : y < 6) (hxy : x ≠ y) (F : Nat → Int64) : ∀ (e k : Nat) (B : Nat → Nat → Int64) (o4 : Option Value), k + e = 6 → S6 F x y k (B 37) → ∃ f', S6 F x y 6 f' ∧ mz d 235 2 [some (.ref 23), some (.int (zn x)), some (.int (zn y)), some (.int (zn k)), o4, none] [] (hp n s c I J A B R Q) = some (some none, hp n s c I J A (zu B 37 f') R Q)
  | 0, k, B, o4, hk, hs => by
    have e : k = 6 := by omega
    subst e
    refine ⟨B 37, hs, ?_⟩
    have eb : zu B 37 (B 37) = B := by
      funext q
      by_cases z : q = 37
      · subst z; rw [zu_eq]
      · rw [zu_ne _ _ _ _ z]
    rw [eb]
    simp (disch := first | omega | exact zb_1 | exact zb_0 | exact zb_n1 | exact zb_n0) only [x235_2, x235_3, x235_5, x235_67, mq_dl_int, mq_dl_ref, mq_dl_null, mq_dl_none, mc_some, Option.toList_some, Option.toList_none, List.cons_append, List.nil_append, zb_1, zb_0, ↓reduceIte, if_true, if_false, not_true_eq_false, not_false_eq_true, Bool.false_eq_true, z_10, z_01, eq_self, Bool.and_self, true_or, or_true, false_or, or_false, true_and, and_true, false_and, and_false, and_self, or_self, Nat.reduceLT, Nat.reduceEqDiff, Nat.reduceLeDiff, Nat.reduceAdd, Nat.reduceMul, Nat.reduceSub, zn_lit, zn_add, zn_mul, zn_sub, zn_addneg, zn_lt, zn_le, zn_eq, zn_clamp, zn_in, zn_long, Nat.le_refl]
  | e + 1, k, B, o4, hk, hs => by
    have e1 := hs x k hx (by omega)
    have e2 := hs y k hy (by omega)
    rw [if_neg (by omega)] at e1 e2
    obtain ⟨f', g1, g2⟩ := R_chl d x y hx hy hxy F e (k + 1) (zu B 37 (zu (zu (B 37) (6 * x + k) (F (6 * y + k))) (6 * y + k) (F (6 * x + k)))) (some (.long (F (6 * x + k)))) (by omega) (by rw [zu_eq]; exact S6_s hx hy hxy (by omega) hs)
    refine ⟨f', g1, ?_⟩
    rw [zu_zu] at g2
    rw [← g2, x235_2]
    simp (disch := first | omega | exact zb_1 | exact zb_0 | exact zb_n1 | exact zb_n0) only [x235_3, x235_5, x235_8, x235_9, x235_10, x235_13, x235_14, x235_17, x235_19, x235_20, x235_21, x235_22, x235_23, x235_24, x235_26, x235_27, x235_30, x235_32, x235_33, x235_34, x235_35, x235_36, x235_37, x235_40, x235_42, x235_43, x235_44, x235_45, x235_46, x235_47, x235_48, x235_49, x235_52, x235_54, x235_55, x235_56, x235_57, x235_58, x235_60, x235_61, x235_64, mq_dl_int, mq_dl_ref, mq_dl_null, mq_dl_none, mc_some, Option.toList_some, Option.toList_none, List.cons_append, List.nil_append, zb_1, zb_0, ↓reduceIte, if_true, if_false, not_true_eq_false, not_false_eq_true, Bool.false_eq_true, z_10, z_01, eq_self, Bool.and_self, true_or, or_true, false_or, or_false, true_and, and_true, false_and, and_false, and_self, or_self, Nat.reduceLT, Nat.reduceEqDiff, Nat.reduceLeDiff, Nat.reduceAdd, Nat.reduceMul, Nat.reduceSub, zn_lit, zn_add, zn_mul, zn_sub, zn_addneg, zn_lt, zn_le, zn_eq, zn_clamp, zn_in, zn_long, hp_1, hp_21, upd_zu, updL_zu, updQ_zu, zu_eq, zu_ne, ho_23, ho_23_0, hf_23_0, hk_23_0, hw_23_0, ho_23_1, hf_23_1, ho_23_2, hf_23_2, hk_23_2, hw_23_2, ho_23_3, hf_23_3, hk_23_3, hw_23_3, ho_23_4, hf_23_4, ho_23_5, hf_23_5, ho_23_6, hf_23_6, ho_23_7, hf_23_7, hk_23_7, hw_23_7, ho_23_8, hf_23_8, hk_23_8, hw_23_8, ho_23_9, hf_23_9, ho_23_10, hf_23_10, ho_23_11, hf_23_11, hk_23_11, hw_23_11, ho_23_12, hf_23_12, hk_23_12, hw_23_12, ho_23_13, hf_23_13, ho_23_14, hf_23_14, ho_23_15, hf_23_15, ho_23_16, hf_23_16, hk_23_16, hw_23_16, ho_23_17, hf_23_17, ho_23_18, hf_23_18, ho_23_19, hf_23_19, hk_23_19, hw_23_19, ho_23_20, hf_23_20, ho_23_21, hf_23_21, hk_23_21, hw_23_21, ho_23_22, hf_23_22, hk_23_22, hw_23_22, ho_23_23, hf_23_23, hk_23_23, hw_23_23, ho_23_24, hf_23_24, hk_23_24, hw_23_24, ho_23_25, hf_23_25, ho_23_26, hf_23_26, ho_23_27, hf_23_27, hk_23_27, hw_23_27, ho_23_28, hf_23_28, ho_23_29, hf_23_29, ho_23_30, hf_23_30, hk_23_30, hw_23_30, ho_23_31, hf_23_31, hk_23_31, hw_23_31, ho_23_32, hf_23_32, ho_23_33, hf_23_33, ho_23_34, hf_23_34, hk_23_34, hw_23_34, ho_23_35, hf_23_35, hk_23_35, hw_23_35, ho_23_36, hf_23_36, hk_23_36, hw_23_36, ho_23_37, hf_23_37, ho_23_38, hf_23_38, ho_23_39, hf_23_39, hn_24, hi_24, hj_24, hg_24, hu_24, hn_25, hi_25, hj_25, hg_25, hu_25, hn_26, hi_26, hj_26, hg_26, hu_26, hn_27, hi_27, hg_27, hu_27, hn_28, hi_28, hg_28, hu_28, hn_29, hi_29, hj_29, hg_29, hu_29, hn_30, hi_30, hj_30, hg_30, hu_30, hn_31, hi_31, hj_31, hg_31, hu_31, hn_32, hi_32, hj_32, hg_32, hu_32, hn_33, hi_33, hj_33, hg_33, hu_33, hn_34, hi_34, hj_34, hg_34, hu_34, hn_35, hi_35, hj_35, hg_35, hu_35, hn_36, hi_36, hj_36, hg_36, hu_36, hn_37, hi_37, hg_37, hu_37, hn_38, hi_38, hj_38, hg_38, hu_38, hn_39, hi_39, hj_39, hg_39, hu_39, hn_40, hi_40, hj_40, hg_40, hu_40, hn_41, hi_41, hj_41, hg_41, hu_41, hn_42, hi_42, hg_42, hu_42, hn_43, hi_43, hg_43, hu_43, hn_44, hi_44, hj_44, hg_44, hu_44, hn_45, hi_45, hg_45, hu_45, zu_zu, e1, e2, hxy, show ¬ 6 ≤ k by omega, show 6 * x + k < 36 by omega, show 6 * y + k < 36 by omega, decide_true]
theorem R_chg (d x y : Nat) (hx : x < 6) (hy : y < 6) : ∃ f', S6 (B 37) x y 6 f' ∧ mz d 235 0 [some (.ref 23), some (.int (zn x)), some (.int (zn y)), none, none, none] [] (hp n s c I J A B R Q) = some (some none, hp n s c I J A (zu B 37 f') R Q) := by
  by_cases q : x = y
  · subst q
    refine ⟨B 37, fun r c _ _ => ?_, ?_⟩
    · have e : swp x x r = r := by
        unfold swp
        by_cases z : r = x
        · rw [if_pos z, z]
        · rw [if_neg z, if_neg z]
      rw [e, ite_self]
    · have eb : zu B 37 (B 37) = B := by
        funext q
        by_cases z : q = 37
        · subst z; rw [zu_eq]
        · rw [zu_ne _ _ _ _ z]
      rw [eb]
      simp (disch := first | omega | exact zb_1 | exact zb_0 | exact zb_n1 | exact zb_n0) only [x235_0, x235_1, x235_2, x235_3, x235_5, x235_8, x235_9, x235_10, x235_67, mq_dl_int, mq_dl_ref, mq_dl_null, mq_dl_none, mc_some, Option.toList_some, Option.toList_none, List.cons_append, List.nil_append, zb_1, zb_0, ↓reduceIte, if_true, if_false, not_true_eq_false, not_false_eq_true, Bool.false_eq_true, z_10, z_01, eq_self, Bool.and_self, true_or, or_true, false_or, or_false, true_and, and_true, false_and, and_false, and_self, or_self, Nat.reduceLT, Nat.reduceEqDiff, Nat.reduceLeDiff, Nat.reduceAdd, Nat.reduceMul, Nat.reduceSub, zn_lit, zn_add, zn_mul, zn_sub, zn_addneg, zn_lt, zn_le, zn_eq, zn_clamp, zn_in, zn_long, show ¬ 6 ≤ 0 by omega]
  · obtain ⟨f', g1, g2⟩ := R_chl (n := n) (s := s) (c := c) (I := I) (J := J) (A := A) (R := R) (Q := Q) d x y hx hy q (B 37) 6 0 B none (by omega) (fun r c _ _ => by rw [if_neg (by omega)])
    refine ⟨f', g1, ?_⟩
    rw [← g2]
    simp (disch := first | omega | exact zb_1 | exact zb_0 | exact zb_n1 | exact zb_n0) only [x235_0, x235_1, mq_dl_int, mq_dl_ref, mq_dl_null, mq_dl_none, mc_some, Option.toList_some, Option.toList_none, List.cons_append, List.nil_append, zb_1, zb_0, ↓reduceIte, if_true, if_false, not_true_eq_false, not_false_eq_true, Bool.false_eq_true, z_10, z_01, eq_self, Bool.and_self, true_or, or_true, false_or, or_false, true_and, and_true, false_and, and_false, and_self, or_self, Nat.reduceLT, Nat.reduceEqDiff, Nat.reduceLeDiff, Nat.reduceAdd, Nat.reduceMul, Nat.reduceSub, zn_lit, zn_add, zn_mul, zn_sub, zn_addneg, zn_lt, zn_le, zn_eq, zn_clamp, zn_in, zn_long]
theorem R_fdl (d m k : Nat) (hm : m ≤ 6) (hk : k < m) (u1 u2 : Int32) (w : Int64) (o8 o9 : Option Value) : ∀ (e x : Nat), x + e = m → k ≤ x → ∃ y, x ≤ y ∧ y ≤ m ∧ (∀ r, x ≤ r → r < y → B 37 (6 * r + k) = zln 0) ∧ (y < m → ¬ B 37 (6 * y + k) = zln 0) ∧ mz d 234 87 [some (.ref 23), some (.int u1), some (.int u2), some (.int (zn m)), some (.long w), none, some (.int (zn k)), some (.int (zn x)), o8, o9] [] (hp n s c I J A B R Q) = mz d 234 117 [some (.ref 23), some (.int u1), some (.int u2), some (.int (zn m)), some (.long w), none, some (.int (zn k)), some (.int (zn y)), o8, o9] [] (hp n s c I J A B R Q)
  | 0, x, hx, hkx => by
    refine ⟨x, Nat.le_refl _, by omega, fun r h1 h2 => by omega, fun h => by omega, ?_⟩
    simp (disch := first | omega | exact zb_1 | exact zb_0 | exact zb_n1 | exact zb_n0) only [x234_87, x234_89, x234_90, mq_dl_int, mq_dl_ref, mq_dl_null, mq_dl_none, mc_some, Option.toList_some, Option.toList_none, List.cons_append, List.nil_append, zb_1, zb_0, ↓reduceIte, if_true, if_false, not_true_eq_false, not_false_eq_true, Bool.false_eq_true, z_10, z_01, eq_self, Bool.and_self, true_or, or_true, false_or, or_false, true_and, and_true, false_and, and_false, and_self, or_self, Nat.reduceLT, Nat.reduceEqDiff, Nat.reduceLeDiff, Nat.reduceAdd, Nat.reduceMul, Nat.reduceSub, zn_lit, zn_add, zn_mul, zn_sub, zn_addneg, zn_lt, zn_le, zn_eq, zn_clamp, zn_in, zn_long, show m ≤ x by omega]
  | e + 1, x, hx, hkx => by
    by_cases q : B 37 (6 * x + k) = zln 0
    · obtain ⟨y, g1, g2, g3, g4, g5⟩ := R_fdl d m k hm hk u1 u2 w o8 o9 e (x + 1) (by omega) (by omega)
      refine ⟨y, by omega, g2, fun r h1 h2 => ?_, g4, ?_⟩
      · by_cases z : r = x
        · rw [z]; exact q
        · exact g3 r (by omega) h2
      · rw [← g5, x234_87]
        simp (disch := first | omega | exact zb_1 | exact zb_0 | exact zb_n1 | exact zb_n0) only [x234_89, x234_90, x234_93, x234_94, x234_97, x234_99, x234_101, x234_102, x234_104, x234_105, x234_106, x234_107, x234_108, x234_111, x234_114, mq_dl_int, mq_dl_ref, mq_dl_null, mq_dl_none, mc_some, Option.toList_some, Option.toList_none, List.cons_append, List.nil_append, zb_1, zb_0, ↓reduceIte, if_true, if_false, not_true_eq_false, not_false_eq_true, Bool.false_eq_true, z_10, z_01, eq_self, Bool.and_self, true_or, or_true, false_or, or_false, true_and, and_true, false_and, and_false, and_self, or_self, Nat.reduceLT, Nat.reduceEqDiff, Nat.reduceLeDiff, Nat.reduceAdd, Nat.reduceMul, Nat.reduceSub, zn_lit, zn_add, zn_mul, zn_sub, zn_addneg, zn_lt, zn_le, zn_eq, zn_clamp, zn_in, zn_long, zln_lit, lc_eq, lc_gt, lc_lt, lc_le, lc_ge, hp_1, hp_21, upd_zu, updL_zu, updQ_zu, zu_eq, zu_ne, ho_23, ho_23_0, hf_23_0, hk_23_0, hw_23_0, ho_23_1, hf_23_1, ho_23_2, hf_23_2, hk_23_2, hw_23_2, ho_23_3, hf_23_3, hk_23_3, hw_23_3, ho_23_4, hf_23_4, ho_23_5, hf_23_5, ho_23_6, hf_23_6, ho_23_7, hf_23_7, hk_23_7, hw_23_7, ho_23_8, hf_23_8, hk_23_8, hw_23_8, ho_23_9, hf_23_9, ho_23_10, hf_23_10, ho_23_11, hf_23_11, hk_23_11, hw_23_11, ho_23_12, hf_23_12, hk_23_12, hw_23_12, ho_23_13, hf_23_13, ho_23_14, hf_23_14, ho_23_15, hf_23_15, ho_23_16, hf_23_16, hk_23_16, hw_23_16, ho_23_17, hf_23_17, ho_23_18, hf_23_18, ho_23_19, hf_23_19, hk_23_19, hw_23_19, ho_23_20, hf_23_20, ho_23_21, hf_23_21, hk_23_21, hw_23_21, ho_23_22, hf_23_22, hk_23_22, hw_23_22, ho_23_23, hf_23_23, hk_23_23, hw_23_23, ho_23_24, hf_23_24, hk_23_24, hw_23_24, ho_23_25, hf_23_25, ho_23_26, hf_23_26, ho_23_27, hf_23_27, hk_23_27, hw_23_27, ho_23_28, hf_23_28, ho_23_29, hf_23_29, ho_23_30, hf_23_30, hk_23_30, hw_23_30, ho_23_31, hf_23_31, hk_23_31, hw_23_31, ho_23_32, hf_23_32, ho_23_33, hf_23_33, ho_23_34, hf_23_34, hk_23_34, hw_23_34, ho_23_35, hf_23_35, hk_23_35, hw_23_35, ho_23_36, hf_23_36, hk_23_36, hw_23_36, ho_23_37, hf_23_37, ho_23_38, hf_23_38, ho_23_39, hf_23_39, hn_24, hi_24, hj_24, hg_24, hu_24, hn_25, hi_25, hj_25, hg_25, hu_25, hn_26, hi_26, hj_26, hg_26, hu_26, hn_27, hi_27, hg_27, hu_27, hn_28, hi_28, hg_28, hu_28, hn_29, hi_29, hj_29, hg_29, hu_29, hn_30, hi_30, hj_30, hg_30, hu_30, hn_31, hi_31, hj_31, hg_31, hu_31, hn_32, hi_32, hj_32, hg_32, hu_32, hn_33, hi_33, hj_33, hg_33, hu_33, hn_34, hi_34, hj_34, hg_34, hu_34, hn_35, hi_35, hj_35, hg_35, hu_35, hn_36, hi_36, hj_36, hg_36, hu_36, hn_37, hi_37, hg_37, hu_37, hn_38, hi_38, hj_38, hg_38, hu_38, hn_39, hi_39, hj_39, hg_39, hu_39, hn_40, hi_40, hj_40, hg_40, hu_40, hn_41, hi_41, hj_41, hg_41, hu_41, hn_42, hi_42, hg_42, hu_42, hn_43, hi_43, hg_43, hu_43, hn_44, hi_44, hj_44, hg_44, hu_44, hn_45, hi_45, hg_45, hu_45, q, show ¬ m ≤ x by omega, show 6 * x + k < 36 by omega, decide_true]
    · refine ⟨x, Nat.le_refl _, by omega, fun r h1 h2 => by omega, fun _ => q, ?_⟩
      rw [x234_87]
      simp (disch := first | omega | exact zb_1 | exact zb_0 | exact zb_n1 | exact zb_n0) only [x234_89, x234_90, x234_93, x234_94, x234_97, x234_99, x234_101, x234_102, x234_104, x234_105, x234_106, x234_107, x234_108, mq_dl_int, mq_dl_ref, mq_dl_null, mq_dl_none, mc_some, Option.toList_some, Option.toList_none, List.cons_append, List.nil_append, zb_1, zb_0, ↓reduceIte, if_true, if_false, not_true_eq_false, not_false_eq_true, Bool.false_eq_true, z_10, z_01, eq_self, Bool.and_self, true_or, or_true, false_or, or_false, true_and, and_true, false_and, and_false, and_self, or_self, Nat.reduceLT, Nat.reduceEqDiff, Nat.reduceLeDiff, Nat.reduceAdd, Nat.reduceMul, Nat.reduceSub, zn_lit, zn_add, zn_mul, zn_sub, zn_addneg, zn_lt, zn_le, zn_eq, zn_clamp, zn_in, zn_long, zln_lit, lc_eq, lc_gt, lc_lt, lc_le, lc_ge, hp_1, hp_21, upd_zu, updL_zu, updQ_zu, zu_eq, zu_ne, ho_23, ho_23_0, hf_23_0, hk_23_0, hw_23_0, ho_23_1, hf_23_1, ho_23_2, hf_23_2, hk_23_2, hw_23_2, ho_23_3, hf_23_3, hk_23_3, hw_23_3, ho_23_4, hf_23_4, ho_23_5, hf_23_5, ho_23_6, hf_23_6, ho_23_7, hf_23_7, hk_23_7, hw_23_7, ho_23_8, hf_23_8, hk_23_8, hw_23_8, ho_23_9, hf_23_9, ho_23_10, hf_23_10, ho_23_11, hf_23_11, hk_23_11, hw_23_11, ho_23_12, hf_23_12, hk_23_12, hw_23_12, ho_23_13, hf_23_13, ho_23_14, hf_23_14, ho_23_15, hf_23_15, ho_23_16, hf_23_16, hk_23_16, hw_23_16, ho_23_17, hf_23_17, ho_23_18, hf_23_18, ho_23_19, hf_23_19, hk_23_19, hw_23_19, ho_23_20, hf_23_20, ho_23_21, hf_23_21, hk_23_21, hw_23_21, ho_23_22, hf_23_22, hk_23_22, hw_23_22, ho_23_23, hf_23_23, hk_23_23, hw_23_23, ho_23_24, hf_23_24, hk_23_24, hw_23_24, ho_23_25, hf_23_25, ho_23_26, hf_23_26, ho_23_27, hf_23_27, hk_23_27, hw_23_27, ho_23_28, hf_23_28, ho_23_29, hf_23_29, ho_23_30, hf_23_30, hk_23_30, hw_23_30, ho_23_31, hf_23_31, hk_23_31, hw_23_31, ho_23_32, hf_23_32, ho_23_33, hf_23_33, ho_23_34, hf_23_34, hk_23_34, hw_23_34, ho_23_35, hf_23_35, hk_23_35, hw_23_35, ho_23_36, hf_23_36, hk_23_36, hw_23_36, ho_23_37, hf_23_37, ho_23_38, hf_23_38, ho_23_39, hf_23_39, hn_24, hi_24, hj_24, hg_24, hu_24, hn_25, hi_25, hj_25, hg_25, hu_25, hn_26, hi_26, hj_26, hg_26, hu_26, hn_27, hi_27, hg_27, hu_27, hn_28, hi_28, hg_28, hu_28, hn_29, hi_29, hj_29, hg_29, hu_29, hn_30, hi_30, hj_30, hg_30, hu_30, hn_31, hi_31, hj_31, hg_31, hu_31, hn_32, hi_32, hj_32, hg_32, hu_32, hn_33, hi_33, hj_33, hg_33, hu_33, hn_34, hi_34, hj_34, hg_34, hu_34, hn_35, hi_35, hj_35, hg_35, hu_35, hn_36, hi_36, hj_36, hg_36, hu_36, hn_37, hi_37, hg_37, hu_37, hn_38, hi_38, hj_38, hg_38, hu_38, hn_39, hi_39, hj_39, hg_39, hu_39, hn_40, hi_40, hj_40, hg_40, hu_40, hn_41, hi_41, hj_41, hg_41, hu_41, hn_42, hi_42, hg_42, hu_42, hn_43, hi_43, hg_43, hu_43, hn_44, hi_44, hj_44, hg_44, hu_44, hn_45, hi_45, hg_45, hu_45, q, show ¬ m ≤ x by omega, show 6 * x + k < 36 by omega, decide_true]
theorem R_elz (d m k y : Nat) (hm : m ≤ 6) (hk : k < y) (hy : y < m) (u1 u2 : Int32) (w : Int64) (hw : ¬ w = zln 0) (o7 : Option Value) (F : Nat → Int64) : ∀ (e z : Nat) (B : Nat → Nat → Int64), z + e = m → k < z → ELZ F w m k y z (B 37) → ∃ f', ELZ F w m k y m f' ∧ mz d 234 151 [some (.ref 23), some (.int u1), some (.int u2), some (.int (zn m)), some (.long w), none, some (.int (zn k)), o7, some (.int (zn y)), some (.int (zn z))] [] (hp n s c I J A B R Q) = mz d 234 234 [some (.ref 23), some (.int u1), some (.int u2), some (.int (zn m)), some (.long w), none, some (.int (zn k)), o7, some (.int (zn y)), some (.int (zn m))] [] (hp n s c I J A (zu B 37 f') R Q)
  | 0, z, B, hz, hkz, hs => by
    have e : z = m := by omega
    subst e
    refine ⟨B 37, hs, ?_⟩
    have eb : zu B 37 (B 37) = B := by
      funext q
      by_cases z : q = 37
      · subst z; rw [zu_eq]
      · rw [zu_ne _ _ _ _ z]
    rw [eb]
    simp (disch := first | omega | exact zb_1 | exact zb_0 | exact zb_n1 | exact zb_n0) only [x234_151, x234_153, x234_154, mq_dl_int, mq_dl_ref, mq_dl_null, mq_dl_none, mc_some, Option.toList_some, Option.toList_none, List.cons_append, List.nil_append, zb_1, zb_0, ↓reduceIte, if_true, if_false, not_true_eq_false, not_false_eq_true, Bool.false_eq_true, z_10, z_01, eq_self, Bool.and_self, true_or, or_true, false_or, or_false, true_and, and_true, false_and, and_false, and_self, or_self, Nat.reduceLT, Nat.reduceEqDiff, Nat.reduceLeDiff, Nat.reduceAdd, Nat.reduceMul, Nat.reduceSub, zn_lit, zn_add, zn_mul, zn_sub, zn_addneg, zn_lt, zn_le, zn_eq, zn_clamp, zn_in, zn_long, Nat.le_refl]
  | e + 1, z, B, hz, hkz, hs => by
    have e1 := hs y z (by omega) (by omega)
    have e2 := hs y k (by omega) (by omega)
    have e3 := hs k k (by omega) (by omega)
    have e4 := hs k z (by omega) (by omega)
    rw [if_neg (by omega)] at e1 e2 e3 e4
    obtain ⟨f', g1, g2⟩ := R_elz d m k y hm hk hy u1 u2 w hw o7 F e (z + 1) (zu B 37 (zu (B 37) (6 * y + z) ((F (6 * y + z) * F (6 * k + k) - F (6 * y + k) * F (6 * k + z)) / w))) (by omega) (by omega) (by rw [zu_eq]; exact ELZ_s (by omega) (by omega) hkz hs)
    refine ⟨f', g1, ?_⟩
    rw [zu_zu] at g2
    rw [← g2, x234_151]
    simp (disch := first | omega | exact zb_1 | exact zb_0 | exact zb_n1 | exact zb_n0) only [x234_153, x234_154, x234_157, x234_158, x234_161, x234_163, x234_165, x234_166, x234_168, x234_169, x234_170, x234_173, x234_175, x234_177, x234_178, x234_180, x234_181, x234_182, x234_183, x234_186, x234_188, x234_190, x234_191, x234_193, x234_194, x234_195, x234_196, x234_197, x234_200, x234_202, x234_204, x234_205, x234_207, x234_208, x234_209, x234_210, x234_213, x234_215, x234_217, x234_218, x234_220, x234_221, x234_222, x234_223, x234_224, x234_226, x234_227, x234_228, x234_231, mq_dl_int, mq_dl_ref, mq_dl_null, mq_dl_none, mc_some, Option.toList_some, Option.toList_none, List.cons_append, List.nil_append, zb_1, zb_0, ↓reduceIte, if_true, if_false, not_true_eq_false, not_false_eq_true, Bool.false_eq_true, z_10, z_01, eq_self, Bool.and_self, true_or, or_true, false_or, or_false, true_and, and_true, false_and, and_false, and_self, or_self, Nat.reduceLT, Nat.reduceEqDiff, Nat.reduceLeDiff, Nat.reduceAdd, Nat.reduceMul, Nat.reduceSub, zn_lit, zn_add, zn_mul, zn_sub, zn_addneg, zn_lt, zn_le, zn_eq, zn_clamp, zn_in, zn_long, zln_lit, hp_1, hp_21, upd_zu, updL_zu, updQ_zu, zu_eq, zu_ne, ho_23, ho_23_0, hf_23_0, hk_23_0, hw_23_0, ho_23_1, hf_23_1, ho_23_2, hf_23_2, hk_23_2, hw_23_2, ho_23_3, hf_23_3, hk_23_3, hw_23_3, ho_23_4, hf_23_4, ho_23_5, hf_23_5, ho_23_6, hf_23_6, ho_23_7, hf_23_7, hk_23_7, hw_23_7, ho_23_8, hf_23_8, hk_23_8, hw_23_8, ho_23_9, hf_23_9, ho_23_10, hf_23_10, ho_23_11, hf_23_11, hk_23_11, hw_23_11, ho_23_12, hf_23_12, hk_23_12, hw_23_12, ho_23_13, hf_23_13, ho_23_14, hf_23_14, ho_23_15, hf_23_15, ho_23_16, hf_23_16, hk_23_16, hw_23_16, ho_23_17, hf_23_17, ho_23_18, hf_23_18, ho_23_19, hf_23_19, hk_23_19, hw_23_19, ho_23_20, hf_23_20, ho_23_21, hf_23_21, hk_23_21, hw_23_21, ho_23_22, hf_23_22, hk_23_22, hw_23_22, ho_23_23, hf_23_23, hk_23_23, hw_23_23, ho_23_24, hf_23_24, hk_23_24, hw_23_24, ho_23_25, hf_23_25, ho_23_26, hf_23_26, ho_23_27, hf_23_27, hk_23_27, hw_23_27, ho_23_28, hf_23_28, ho_23_29, hf_23_29, ho_23_30, hf_23_30, hk_23_30, hw_23_30, ho_23_31, hf_23_31, hk_23_31, hw_23_31, ho_23_32, hf_23_32, ho_23_33, hf_23_33, ho_23_34, hf_23_34, hk_23_34, hw_23_34, ho_23_35, hf_23_35, hk_23_35, hw_23_35, ho_23_36, hf_23_36, hk_23_36, hw_23_36, ho_23_37, hf_23_37, ho_23_38, hf_23_38, ho_23_39, hf_23_39, hn_24, hi_24, hj_24, hg_24, hu_24, hn_25, hi_25, hj_25, hg_25, hu_25, hn_26, hi_26, hj_26, hg_26, hu_26, hn_27, hi_27, hg_27, hu_27, hn_28, hi_28, hg_28, hu_28, hn_29, hi_29, hj_29, hg_29, hu_29, hn_30, hi_30, hj_30, hg_30, hu_30, hn_31, hi_31, hj_31, hg_31, hu_31, hn_32, hi_32, hj_32, hg_32, hu_32, hn_33, hi_33, hj_33, hg_33, hu_33, hn_34, hi_34, hj_34, hg_34, hu_34, hn_35, hi_35, hj_35, hg_35, hu_35, hn_36, hi_36, hj_36, hg_36, hu_36, hn_37, hi_37, hg_37, hu_37, hn_38, hi_38, hj_38, hg_38, hu_38, hn_39, hi_39, hj_39, hg_39, hu_39, hn_40, hi_40, hj_40, hg_40, hu_40, hn_41, hi_41, hj_41, hg_41, hu_41, hn_42, hi_42, hg_42, hu_42, hn_43, hi_43, hg_43, hu_43, hn_44, hi_44, hj_44, hg_44, hu_44, hn_45, hi_45, hg_45, hu_45, e1, e2, e3, e4, hw, show ¬ m ≤ z by omega, show 6 * y + z < 36 by omega, show 6 * y + k < 36 by omega, show 6 * k + k < 36 by omega, show 6 * k + z < 36 by omega, decide_true]
theorem R_ely (d m k : Nat) (hm : m ≤ 6) (u1 u2 : Int32) (w : Int64) (hw : ¬ w = zln 0) (v7 : Int32) (F : Nat → Int64) : ∀ (e y : Nat) (B : Nat → Nat → Int64) (o9 : Option Value), y + e = m → k < y → ELY F w m k y (B 37) → ∃ f' o9', ELY F w m k m f' ∧ mz d 234 139 [some (.ref 23), some (.int u1), some (.int u2), some (.int (zn m)), some (.long w), none, some (.int (zn k)), some (.int v7), some (.int (zn y)), o9] [] (hp n s c I J A B R Q) = mz d 234 254 [some (.ref 23), some (.int u1), some (.int u2), some (.int (zn m)), some (.long w), none, some (.int (zn k)), some (.int v7), some (.int (zn m)), o9'] [] (hp n s c I J A (zu B 37 f') R Q)
  | 0, y, B, o9, hy, hk, hs => by
    have e : y = m := by omega
    subst e
    refine ⟨B 37, o9, hs, ?_⟩
    have eb : zu B 37 (B 37) = B := by
      funext q
      by_cases z : q = 37
      · subst z; rw [zu_eq]
      · rw [zu_ne _ _ _ _ z]
    rw [eb]
    simp (disch := first | omega | exact zb_1 | exact zb_0 | exact zb_n1 | exact zb_n0) only [x234_139, x234_141, x234_142, mq_dl_int, mq_dl_ref, mq_dl_null, mq_dl_none, mc_some, Option.toList_some, Option.toList_none, List.cons_append, List.nil_append, zb_1, zb_0, ↓reduceIte, if_true, if_false, not_true_eq_false, not_false_eq_true, Bool.false_eq_true, z_10, z_01, eq_self, Bool.and_self, true_or, or_true, false_or, or_false, true_and, and_true, false_and, and_false, and_self, or_self, Nat.reduceLT, Nat.reduceEqDiff, Nat.reduceLeDiff, Nat.reduceAdd, Nat.reduceMul, Nat.reduceSub, zn_lit, zn_add, zn_mul, zn_sub, zn_addneg, zn_lt, zn_le, zn_eq, zn_clamp, zn_in, zn_long, Nat.le_refl]
  | e + 1, y, B, o9, hy, hk, hs => by
    obtain ⟨f1, g1, g2⟩ := R_elz (n := n) (s := s) (c := c) (I := I) (J := J) (A := A) (R := R) (Q := Q) d m k y hm hk (by omega) u1 u2 w hw (some (.int v7)) (B 37) (m - (k + 1)) (k + 1) B (by omega) (by omega) (fun r c _ _ => by rw [if_neg (by omega)])
    obtain ⟨f', o9', k1, k2⟩ := R_ely d m k hm u1 u2 w hw v7 F e (y + 1) (zu B 37 (zu f1 (6 * y + k) 0)) (some (.int (zn m))) (by omega) (by omega) (by rw [zu_eq]; exact ELY_s hm (by omega) hk hs g1)
    refine ⟨f', o9', k1, ?_⟩
    rw [zu_zu] at k2
    rw [← k2, x234_139]
    simp (disch := first | omega | exact zb_1 | exact zb_0 | exact zb_n1 | exact zb_n0) only [x234_141, x234_142, x234_145, x234_147, x234_148, x234_149, mq_dl_int, mq_dl_ref, mq_dl_null, mq_dl_none, mc_some, Option.toList_some, Option.toList_none, List.cons_append, List.nil_append, zb_1, zb_0, ↓reduceIte, if_true, if_false, not_true_eq_false, not_false_eq_true, Bool.false_eq_true, z_10, z_01, eq_self, Bool.and_self, true_or, or_true, false_or, or_false, true_and, and_true, false_and, and_false, and_self, or_self, Nat.reduceLT, Nat.reduceEqDiff, Nat.reduceLeDiff, Nat.reduceAdd, Nat.reduceMul, Nat.reduceSub, zn_lit, zn_add, zn_mul, zn_sub, zn_addneg, zn_lt, zn_le, zn_eq, zn_clamp, zn_in, zn_long, show ¬ m ≤ y by omega]
    rw [g2]
    simp (disch := first | omega | exact zb_1 | exact zb_0 | exact zb_n1 | exact zb_n0) only [x234_234, x234_235, x234_238, x234_240, x234_242, x234_243, x234_245, x234_246, x234_247, x234_248, x234_251, mq_dl_int, mq_dl_ref, mq_dl_null, mq_dl_none, mc_some, Option.toList_some, Option.toList_none, List.cons_append, List.nil_append, zb_1, zb_0, ↓reduceIte, if_true, if_false, not_true_eq_false, not_false_eq_true, Bool.false_eq_true, z_10, z_01, eq_self, Bool.and_self, true_or, or_true, false_or, or_false, true_and, and_true, false_and, and_false, and_self, or_self, Nat.reduceLT, Nat.reduceEqDiff, Nat.reduceLeDiff, Nat.reduceAdd, Nat.reduceMul, Nat.reduceSub, zn_lit, zn_add, zn_mul, zn_sub, zn_addneg, zn_lt, zn_le, zn_eq, zn_clamp, zn_in, zn_long, hp_1, hp_21, upd_zu, updL_zu, updQ_zu, zu_eq, zu_ne, ho_23, ho_23_0, hf_23_0, hk_23_0, hw_23_0, ho_23_1, hf_23_1, ho_23_2, hf_23_2, hk_23_2, hw_23_2, ho_23_3, hf_23_3, hk_23_3, hw_23_3, ho_23_4, hf_23_4, ho_23_5, hf_23_5, ho_23_6, hf_23_6, ho_23_7, hf_23_7, hk_23_7, hw_23_7, ho_23_8, hf_23_8, hk_23_8, hw_23_8, ho_23_9, hf_23_9, ho_23_10, hf_23_10, ho_23_11, hf_23_11, hk_23_11, hw_23_11, ho_23_12, hf_23_12, hk_23_12, hw_23_12, ho_23_13, hf_23_13, ho_23_14, hf_23_14, ho_23_15, hf_23_15, ho_23_16, hf_23_16, hk_23_16, hw_23_16, ho_23_17, hf_23_17, ho_23_18, hf_23_18, ho_23_19, hf_23_19, hk_23_19, hw_23_19, ho_23_20, hf_23_20, ho_23_21, hf_23_21, hk_23_21, hw_23_21, ho_23_22, hf_23_22, hk_23_22, hw_23_22, ho_23_23, hf_23_23, hk_23_23, hw_23_23, ho_23_24, hf_23_24, hk_23_24, hw_23_24, ho_23_25, hf_23_25, ho_23_26, hf_23_26, ho_23_27, hf_23_27, hk_23_27, hw_23_27, ho_23_28, hf_23_28, ho_23_29, hf_23_29, ho_23_30, hf_23_30, hk_23_30, hw_23_30, ho_23_31, hf_23_31, hk_23_31, hw_23_31, ho_23_32, hf_23_32, ho_23_33, hf_23_33, ho_23_34, hf_23_34, hk_23_34, hw_23_34, ho_23_35, hf_23_35, hk_23_35, hw_23_35, ho_23_36, hf_23_36, hk_23_36, hw_23_36, ho_23_37, hf_23_37, ho_23_38, hf_23_38, ho_23_39, hf_23_39, hn_24, hi_24, hj_24, hg_24, hu_24, hn_25, hi_25, hj_25, hg_25, hu_25, hn_26, hi_26, hj_26, hg_26, hu_26, hn_27, hi_27, hg_27, hu_27, hn_28, hi_28, hg_28, hu_28, hn_29, hi_29, hj_29, hg_29, hu_29, hn_30, hi_30, hj_30, hg_30, hu_30, hn_31, hi_31, hj_31, hg_31, hu_31, hn_32, hi_32, hj_32, hg_32, hu_32, hn_33, hi_33, hj_33, hg_33, hu_33, hn_34, hi_34, hj_34, hg_34, hu_34, hn_35, hi_35, hj_35, hg_35, hu_35, hn_36, hi_36, hj_36, hg_36, hu_36, hn_37, hi_37, hg_37, hu_37, hn_38, hi_38, hj_38, hg_38, hu_38, hn_39, hi_39, hj_39, hg_39, hu_39, hn_40, hi_40, hj_40, hg_40, hu_40, hn_41, hi_41, hj_41, hg_41, hu_41, hn_42, hi_42, hg_42, hu_42, hn_43, hi_43, hg_43, hu_43, hn_44, hi_44, hj_44, hg_44, hu_44, hn_45, hi_45, hg_45, hu_45, zu_zu, show 6 * y + k < 36 by omega, decide_true]
/-- the square holds the numbers of step k -/
def BSF (m k : Nat) (O : Nat → Nat → Int) (f : Nat → Int64) : Prop := ∀ r c, k ≤ r → r < m → k ≤ c → c < m → f (6 * r + c) = zli (MK O k r c)
theorem R_nst (d m : Nat) (hm : m ≤ 6) (h1m : 1 ≤ m) (u1 u2 : Int32) : ∀ (e k : Nat) (B : Nat → Nat → Int64) (w : Int64) (o7 o8 o9 : Option Value), k + e = m → ¬ w = zln 0 → ∃ b f', (∀ O x, BSt m k O x → BSF m k O (B 37) → w = zli (LDK O k) → b = true) ∧ mz (d + 1) 234 77 [some (.ref 23), some (.int u1), some (.int u2), some (.int (zn m)), some (.long w), none, some (.int (zn k)), o7, o8, o9] [] (hp n s c I J A B R Q) = some (some (some (.int (zo b))), hp n s c I J A (zu B 37 f') R Q)
  | 0, k, B, w, o7, o8, o9, hk, hw => by
    have e : k = m := by omega
    subst e
    refine ⟨false, B 37, fun O x h _ _ => (BSt_z (Nat.le_refl _) h (fun c h1 h2 => by omega) (by omega)).elim, ?_⟩
    have eb : zu B 37 (B 37) = B := by
      funext q
      by_cases z : q = 37
      · subst z; rw [zu_eq]
      · rw [zu_ne _ _ _ _ z]
    rw [eb]
    simp (disch := first | omega | exact zb_1 | exact zb_0 | exact zb_n1 | exact zb_n0) only [x234_77, x234_79, x234_80, x234_275, x234_276, mq_dl_int, mq_dl_ref, mq_dl_null, mq_dl_none, mc_some, Option.toList_some, Option.toList_none, List.cons_append, List.nil_append, zb_1, zb_0, ↓reduceIte, if_true, if_false, not_true_eq_false, not_false_eq_true, Bool.false_eq_true, z_10, z_01, eq_self, Bool.and_self, true_or, or_true, false_or, or_false, true_and, and_true, false_and, and_false, and_self, or_self, Nat.reduceLT, Nat.reduceEqDiff, Nat.reduceLeDiff, Nat.reduceAdd, Nat.reduceMul, Nat.reduceSub, zn_lit, zn_add, zn_mul, zn_sub, zn_addneg, zn_lt, zn_le, zn_eq, zn_clamp, zn_in, zn_long, Nat.le_refl, zo_f]
  | e + 1, k, B, w, o7, o8, o9, hk, hw => by
    have hkm : k < m := by omega
    obtain ⟨u, a1, a2, a3, a4, a5⟩ := R_fdl (n := n) (s := s) (c := c) (I := I) (J := J) (A := A) (B := B) (R := R) (Q := Q) (d + 1) m k hm hkm u1 u2 w o8 o9 (m - k) k (by omega) (Nat.le_refl _)
    have e0 : mz (d + 1) 234 77 [some (.ref 23), some (.int u1), some (.int u2), some (.int (zn m)), some (.long w), none, some (.int (zn k)), o7, o8, o9] [] (hp n s c I J A B R Q) = mz (d + 1) 234 117 [some (.ref 23), some (.int u1), some (.int u2), some (.int (zn m)), some (.long w), none, some (.int (zn k)), some (.int (zn u)), o8, o9] [] (hp n s c I J A B R Q) := by
      rw [← a5]
      simp (disch := first | omega | exact zb_1 | exact zb_0 | exact zb_n1 | exact zb_n0) only [x234_77, x234_79, x234_80, x234_83, x234_85, mq_dl_int, mq_dl_ref, mq_dl_null, mq_dl_none, mc_some, Option.toList_some, Option.toList_none, List.cons_append, List.nil_append, zb_1, zb_0, ↓reduceIte, if_true, if_false, not_true_eq_false, not_false_eq_true, Bool.false_eq_true, z_10, z_01, eq_self, Bool.and_self, true_or, or_true, false_or, or_false, true_and, and_true, false_and, and_false, and_self, or_self, Nat.reduceLT, Nat.reduceEqDiff, Nat.reduceLeDiff, Nat.reduceAdd, Nat.reduceMul, Nat.reduceSub, zn_lit, zn_add, zn_mul, zn_sub, zn_addneg, zn_lt, zn_le, zn_eq, zn_clamp, zn_in, zn_long, show ¬ m ≤ k by omega]
    by_cases q : u = m
    · subst q
      refine ⟨true, B 37, fun _ _ _ _ _ => rfl, ?_⟩
      have eb : zu B 37 (B 37) = B := by
        funext q
        by_cases z : q = 37
        · subst z; rw [zu_eq]
        · rw [zu_ne _ _ _ _ z]
      rw [eb, e0]
      simp (disch := first | omega | exact zb_1 | exact zb_0 | exact zb_n1 | exact zb_n0) only [x234_117, x234_119, x234_120, x234_123, x234_124, mq_dl_int, mq_dl_ref, mq_dl_null, mq_dl_none, mc_some, Option.toList_some, Option.toList_none, List.cons_append, List.nil_append, zb_1, zb_0, ↓reduceIte, if_true, if_false, not_true_eq_false, not_false_eq_true, Bool.false_eq_true, z_10, z_01, eq_self, Bool.and_self, true_or, or_true, false_or, or_false, true_and, and_true, false_and, and_false, and_self, or_self, Nat.reduceLT, Nat.reduceEqDiff, Nat.reduceLeDiff, Nat.reduceAdd, Nat.reduceMul, Nat.reduceSub, zn_lit, zn_add, zn_mul, zn_sub, zn_addneg, zn_lt, zn_le, zn_eq, zn_clamp, zn_in, zn_long, zo_t]
    · have hum : u < m := by omega
      have hne := a4 hum
      obtain ⟨f1, b1, b2⟩ := R_chg (n := n) (s := s) (c := c) (I := I) (J := J) (A := A) (B := B) (R := R) (Q := Q) d u k (by omega) (by omega)
      have hsw : ∀ r c, r < 6 → c < 6 → f1 (6 * r + c) = B 37 (6 * swp u k r + c) := fun r c hr hc => by
        have := b1 r c hr hc
        rw [if_pos hc] at this
        exact this
      have hpv : f1 (6 * k + k) = B 37 (6 * u + k) := by
        rw [hsw k k (by omega) (by omega)]
        unfold swp
        by_cases z : k = u
        · rw [if_pos z, z]
        · rw [if_neg z, if_pos rfl]
      obtain ⟨f2, p9, c1, c2⟩ := R_ely (n := n) (s := s) (c := c) (I := I) (J := J) (A := A) (R := R) (Q := Q) (d + 1) m k hm u1 u2 w hw (zn u) f1 (m - (k + 1)) (k + 1) (zu B 37 f1) o9 (by omega) (by omega) (by
        rw [zu_eq]
        intro r c hr hc
        by_cases z : r < k + 1
        · rw [if_pos z]
          unfold elv
          rw [if_neg (by omega), if_neg (by omega)]
        · rw [if_neg z])
      rw [zu_zu] at c2
      have hpv2 : f2 (6 * k + k) = B 37 (6 * u + k) := by
        rw [c1 k k (by omega) (by omega), if_pos (by omega)]
        unfold elv
        rw [if_neg (by omega), if_neg (by omega)]
        exact hpv
      obtain ⟨b, f', g1, g2⟩ := R_nst d m hm h1m u1 u2 e (k + 1) (zu B 37 f2) (B 37 (6 * u + k)) (some (.int (zn u))) (some (.int (zn m))) p9 (by omega) hne
      refine ⟨b, f', fun O x hB hF hw2 => ?_, ?_⟩
      · have hB1 := BSt_sw a1 hum hB
        have hbu := BSt_b hB a1 hum (Nat.le_refl _) hkm
        have hF1 : BSF m k (fun r => O (swp u k r)) f1 := by
          intro r c h1 h2 h3 h4
          rw [hsw r c (by omega) (by omega), MK_sw k r c (fun y hy => by
            unfold swp
            rw [if_neg (by omega), if_neg (by omega)])]
          refine hF _ c ?_ ?_ h3 h4
          · unfold swp
            split
            · omega
            · split <;> omega
          · unfold swp
            split
            · omega
            · split <;> omega
        have hsk : swp u k k = u := by
          unfold swp
          by_cases z : k = u
          · rw [if_pos z, z]
          · rw [if_neg z, if_pos rfl]
        have hlo : ∀ y, y < k → swp u k y = y := fun y hy => by
          unfold swp
          rw [if_neg (by omega), if_neg (by omega)]
        have hpk : MK (fun r => O (swp u k r)) k k k = MK O k u k := by rw [MK_sw k k k hlo, hsk]
        have hpz : MK (fun r => O (swp u k r)) k k k ≠ 0 := by
          rw [hpk]
          intro h
          have := hF u k a1 hum (Nat.le_refl _) hkm
          rw [h] at this
          exact hne this
        have hld : LDK (fun r => O (swp u k r)) k = LDK O k := by
          cases k with
          | zero => rfl
          | succ y =>
            show MK (fun r => O (swp u (y + 1) r)) y y y = MK O y y y
            rw [MK_sw y y y (fun z hz => hlo z (by omega)), hlo y (by omega)]
        refine g1 _ x (BSt_s hm hkm hB1 hpz) ?_ ?_
        · rw [zu_eq]
          intro r c h1 h2 h3 h4
          rw [c1 r c (by omega) (by omega), if_pos (by omega)]
          unfold elv
          rw [if_pos ⟨by omega, by omega, h4⟩]
          rw [hF1 r c (by omega) h2 (by omega) h4, hF1 k k (Nat.le_refl _) hkm (Nat.le_refl _) hkm, hF1 r k (by omega) h2 (Nat.le_refl _) hkm, hF1 k c (Nat.le_refl _) hkm (by omega) h4, zli_mul, zli_mul, zli_sub, BSt_x hm hB1 hpz (by omega) h2 (by omega) h4, hw2, ← hld]
          obtain ⟨n1, n2⟩ := BSt_n hm hB1 hpz (show k < r by omega) h2 (show k < c by omega) h4
          have n3 := BSt_ld hB1
          rw [zli_div _ _ (by omega) (by omega) (by omega) (by omega), Int.mul_tdiv_cancel_left _ n3]
        · show B 37 (6 * u + k) = zli (MK (fun r => O (swp u k r)) k k k)
          rw [hpk]
          exact hF u k a1 hum (Nat.le_refl _) hkm
      · rw [zu_zu] at g2
        rw [← g2, e0]
        simp (disch := first | omega | exact zb_1 | exact zb_0 | exact zb_n1 | exact zb_n0) only [x234_117, x234_119, x234_120, x234_125, x234_126, x234_128, x234_130, x234_133, x234_135, x234_136, x234_137, mq_dl_int, mq_dl_ref, mq_dl_null, mq_dl_none, mc_some, Option.toList_some, Option.toList_none, List.cons_append, List.nil_append, zb_1, zb_0, ↓reduceIte, if_true, if_false, not_true_eq_false, not_false_eq_true, Bool.false_eq_true, z_10, z_01, eq_self, Bool.and_self, true_or, or_true, false_or, or_false, true_and, and_true, false_and, and_false, and_self, or_self, Nat.reduceLT, Nat.reduceEqDiff, Nat.reduceLeDiff, Nat.reduceAdd, Nat.reduceMul, Nat.reduceSub, zn_lit, zn_add, zn_mul, zn_sub, zn_addneg, zn_lt, zn_le, zn_eq, zn_clamp, zn_in, zn_long, ho_23, b2, q]
        rw [c2]
        simp (disch := first | omega | exact zb_1 | exact zb_0 | exact zb_n1 | exact zb_n0) only [x234_254, x234_255, x234_258, x234_260, x234_262, x234_263, x234_265, x234_266, x234_267, x234_269, x234_272, mq_dl_int, mq_dl_ref, mq_dl_null, mq_dl_none, mc_some, Option.toList_some, Option.toList_none, List.cons_append, List.nil_append, zb_1, zb_0, ↓reduceIte, if_true, if_false, not_true_eq_false, not_false_eq_true, Bool.false_eq_true, z_10, z_01, eq_self, Bool.and_self, true_or, or_true, false_or, or_false, true_and, and_true, false_and, and_false, and_self, or_self, Nat.reduceLT, Nat.reduceEqDiff, Nat.reduceLeDiff, Nat.reduceAdd, Nat.reduceMul, Nat.reduceSub, zn_lit, zn_add, zn_mul, zn_sub, zn_addneg, zn_lt, zn_le, zn_eq, zn_clamp, zn_in, zn_long, hp_1, hp_21, upd_zu, updL_zu, updQ_zu, zu_eq, zu_ne, ho_23, ho_23_0, hf_23_0, hk_23_0, hw_23_0, ho_23_1, hf_23_1, ho_23_2, hf_23_2, hk_23_2, hw_23_2, ho_23_3, hf_23_3, hk_23_3, hw_23_3, ho_23_4, hf_23_4, ho_23_5, hf_23_5, ho_23_6, hf_23_6, ho_23_7, hf_23_7, hk_23_7, hw_23_7, ho_23_8, hf_23_8, hk_23_8, hw_23_8, ho_23_9, hf_23_9, ho_23_10, hf_23_10, ho_23_11, hf_23_11, hk_23_11, hw_23_11, ho_23_12, hf_23_12, hk_23_12, hw_23_12, ho_23_13, hf_23_13, ho_23_14, hf_23_14, ho_23_15, hf_23_15, ho_23_16, hf_23_16, hk_23_16, hw_23_16, ho_23_17, hf_23_17, ho_23_18, hf_23_18, ho_23_19, hf_23_19, hk_23_19, hw_23_19, ho_23_20, hf_23_20, ho_23_21, hf_23_21, hk_23_21, hw_23_21, ho_23_22, hf_23_22, hk_23_22, hw_23_22, ho_23_23, hf_23_23, hk_23_23, hw_23_23, ho_23_24, hf_23_24, hk_23_24, hw_23_24, ho_23_25, hf_23_25, ho_23_26, hf_23_26, ho_23_27, hf_23_27, hk_23_27, hw_23_27, ho_23_28, hf_23_28, ho_23_29, hf_23_29, ho_23_30, hf_23_30, hk_23_30, hw_23_30, ho_23_31, hf_23_31, hk_23_31, hw_23_31, ho_23_32, hf_23_32, ho_23_33, hf_23_33, ho_23_34, hf_23_34, hk_23_34, hw_23_34, ho_23_35, hf_23_35, hk_23_35, hw_23_35, ho_23_36, hf_23_36, hk_23_36, hw_23_36, ho_23_37, hf_23_37, ho_23_38, hf_23_38, ho_23_39, hf_23_39, hn_24, hi_24, hj_24, hg_24, hu_24, hn_25, hi_25, hj_25, hg_25, hu_25, hn_26, hi_26, hj_26, hg_26, hu_26, hn_27, hi_27, hg_27, hu_27, hn_28, hi_28, hg_28, hu_28, hn_29, hi_29, hj_29, hg_29, hu_29, hn_30, hi_30, hj_30, hg_30, hu_30, hn_31, hi_31, hj_31, hg_31, hu_31, hn_32, hi_32, hj_32, hg_32, hu_32, hn_33, hi_33, hj_33, hg_33, hu_33, hn_34, hi_34, hj_34, hg_34, hu_34, hn_35, hi_35, hj_35, hg_35, hu_35, hn_36, hi_36, hj_36, hg_36, hu_36, hn_37, hi_37, hg_37, hu_37, hn_38, hi_38, hj_38, hg_38, hu_38, hn_39, hi_39, hj_39, hg_39, hu_39, hn_40, hi_40, hj_40, hg_40, hu_40, hn_41, hi_41, hj_41, hg_41, hu_41, hn_42, hi_42, hg_42, hu_42, hn_43, hi_43, hg_43, hu_43, hn_44, hi_44, hj_44, hg_44, hu_44, hn_45, hi_45, hg_45, hu_45, hpv2, show 6 * k + k < 36 by omega, decide_true]
theorem R_ofk (hS : RT T (A 29)) (hW : WT T) (d t : Nat) (ht : t < T.1) (V : Int) (hV : V.natAbs ≤ 1000) (o6 o7 o8 o9 : Option Value) (y : Nat) (hy : y < T.1) : ∀ (e k : Nat) (B : Nat → Nat → Int64), k + e = T.1 → (∀ r c, r < T.1 → c < T.1 → (r < y ∨ r = y ∧ c < k) → B 37 (6 * r + c) = zli (OM T t V r c)) → ∃ f', (∀ r c, r < T.1 → c < T.1 → r < y + 1 → f' (6 * r + c) = zli (OM T t V r c)) ∧ mz (d + 2) 234 17 [some (.ref 23), some (.int (zn t)), some (.int (zi V)), some (.int (zn T.1)), some (.int (zn y)), some (.int (zn k)), o6, o7, o8, o9] [] (hp n s c I J A B R Q) = mz (d + 2) 234 65 [some (.ref 23), some (.int (zn t)), some (.int (zi V)), some (.int (zn T.1)), some (.int (zn y)), some (.int (zn T.1)), o6, o7, o8, o9] [] (hp n s c I J A (zu B 37 f') R Q)
  | 0, k, B, hk, hB => by
    have h6 := hW.2.1
    have e : k = T.1 := by omega
    subst e
    refine ⟨B 37, fun r c hr hc h => hB r c hr hc (by omega), ?_⟩
    have eb : zu B 37 (B 37) = B := by
      funext q
      by_cases z : q = 37
      · subst z; rw [zu_eq]
      · rw [zu_ne _ _ _ _ z]
    rw [eb]
    simp (disch := first | omega | exact zb_1 | exact zb_0 | exact zb_n1 | exact zb_n0) only [x234_17, x234_19, x234_20, mq_dl_int, mq_dl_ref, mq_dl_null, mq_dl_none, mc_some, Option.toList_some, Option.toList_none, List.cons_append, List.nil_append, zb_1, zb_0, ↓reduceIte, if_true, if_false, not_true_eq_false, not_false_eq_true, Bool.false_eq_true, z_10, z_01, eq_self, Bool.and_self, true_or, or_true, false_or, or_false, true_and, and_true, false_and, and_false, and_self, or_self, Nat.reduceLT, Nat.reduceEqDiff, Nat.reduceLeDiff, Nat.reduceAdd, Nat.reduceMul, Nat.reduceSub, zn_lit, zn_add, zn_mul, zn_sub, zn_addneg, zn_lt, zn_le, zn_eq, zn_clamp, zn_in, zn_long, Nat.le_refl]
  | e + 1, k, B, hk, hB => by
    have h6 := hW.2.1
    have hkm : k < T.1 := by omega
    have hsb := hW.2.2.1 t y k
    have hO : OM T t V y k = (T.2.1 t y k : Int) - (if y = k then V else 0) := by unfold OM; rw [if_pos hy]
    obtain ⟨f', g1, g2⟩ := R_ofk hS hW d t ht V hV o6 o7 o8 o9 y hy e (k + 1) (zu B 37 (zu (B 37) (6 * y + k) (zli (OM T t V y k)))) (by omega) (fun r c hr hc h => by
      rw [zu_eq]
      by_cases z : r = y ∧ c = k
      · obtain ⟨rfl, rfl⟩ := z; rw [zu_eq]
      · rw [zu_ne _ _ _ _ (by omega)]; exact hB r c hr hc (by omega))
    refine ⟨f', g1, ?_⟩
    rw [zu_zu] at g2
    rw [← g2, x234_17]
    by_cases q : y = k
    · have hs : (zn (T.2.1 t y k) - zi V).toInt64 = zli (OM T t V y k) := by
        rw [hO, if_pos q, zi_nat, zi_sub, zi_long _ (by omega) (by omega)]
      subst q
      simp (disch := first | omega | exact zb_1 | exact zb_0 | exact zb_n1 | exact zb_n0) only [x234_19, x234_20, x234_23, x234_24, x234_27, x234_29, x234_31, x234_32, x234_34, x234_35, x234_36, x234_37, x234_39, x234_41, x234_44, x234_46, x234_48, x234_51, x234_52, x234_56, x234_57, x234_58, x234_59, x234_62, mq_dl_int, mq_dl_ref, mq_dl_null, mq_dl_none, mc_some, Option.toList_some, Option.toList_none, List.cons_append, List.nil_append, zb_1, zb_0, ↓reduceIte, if_true, if_false, not_true_eq_false, not_false_eq_true, Bool.false_eq_true, z_10, z_01, eq_self, Bool.and_self, true_or, or_true, false_or, or_false, true_and, and_true, false_and, and_false, and_self, or_self, Nat.reduceLT, Nat.reduceEqDiff, Nat.reduceLeDiff, Nat.reduceAdd, Nat.reduceMul, Nat.reduceSub, zn_lit, zn_add, zn_mul, zn_sub, zn_addneg, zn_lt, zn_le, zn_eq, zn_clamp, zn_in, zn_long, hp_1, hp_21, upd_zu, updL_zu, updQ_zu, zu_eq, zu_ne, ho_23, ho_23_0, hf_23_0, hk_23_0, hw_23_0, ho_23_1, hf_23_1, ho_23_2, hf_23_2, hk_23_2, hw_23_2, ho_23_3, hf_23_3, hk_23_3, hw_23_3, ho_23_4, hf_23_4, ho_23_5, hf_23_5, ho_23_6, hf_23_6, ho_23_7, hf_23_7, hk_23_7, hw_23_7, ho_23_8, hf_23_8, hk_23_8, hw_23_8, ho_23_9, hf_23_9, ho_23_10, hf_23_10, ho_23_11, hf_23_11, hk_23_11, hw_23_11, ho_23_12, hf_23_12, hk_23_12, hw_23_12, ho_23_13, hf_23_13, ho_23_14, hf_23_14, ho_23_15, hf_23_15, ho_23_16, hf_23_16, hk_23_16, hw_23_16, ho_23_17, hf_23_17, ho_23_18, hf_23_18, ho_23_19, hf_23_19, hk_23_19, hw_23_19, ho_23_20, hf_23_20, ho_23_21, hf_23_21, hk_23_21, hw_23_21, ho_23_22, hf_23_22, hk_23_22, hw_23_22, ho_23_23, hf_23_23, hk_23_23, hw_23_23, ho_23_24, hf_23_24, hk_23_24, hw_23_24, ho_23_25, hf_23_25, ho_23_26, hf_23_26, ho_23_27, hf_23_27, hk_23_27, hw_23_27, ho_23_28, hf_23_28, ho_23_29, hf_23_29, ho_23_30, hf_23_30, hk_23_30, hw_23_30, ho_23_31, hf_23_31, hk_23_31, hw_23_31, ho_23_32, hf_23_32, ho_23_33, hf_23_33, ho_23_34, hf_23_34, hk_23_34, hw_23_34, ho_23_35, hf_23_35, hk_23_35, hw_23_35, ho_23_36, hf_23_36, hk_23_36, hw_23_36, ho_23_37, hf_23_37, ho_23_38, hf_23_38, ho_23_39, hf_23_39, hn_24, hi_24, hj_24, hg_24, hu_24, hn_25, hi_25, hj_25, hg_25, hu_25, hn_26, hi_26, hj_26, hg_26, hu_26, hn_27, hi_27, hg_27, hu_27, hn_28, hi_28, hg_28, hu_28, hn_29, hi_29, hj_29, hg_29, hu_29, hn_30, hi_30, hj_30, hg_30, hu_30, hn_31, hi_31, hj_31, hg_31, hu_31, hn_32, hi_32, hj_32, hg_32, hu_32, hn_33, hi_33, hj_33, hg_33, hu_33, hn_34, hi_34, hj_34, hg_34, hu_34, hn_35, hi_35, hj_35, hg_35, hu_35, hn_36, hi_36, hj_36, hg_36, hu_36, hn_37, hi_37, hg_37, hu_37, hn_38, hi_38, hj_38, hg_38, hu_38, hn_39, hi_39, hj_39, hg_39, hu_39, hn_40, hi_40, hj_40, hg_40, hu_40, hn_41, hi_41, hj_41, hg_41, hu_41, hn_42, hi_42, hg_42, hu_42, hn_43, hi_43, hg_43, hu_43, hn_44, hi_44, hj_44, hg_44, hu_44, hn_45, hi_45, hg_45, hu_45, S_share hS hW, hs, show ¬ T.1 ≤ y by omega, show 6 * y + y < 36 by omega, decide_true]
    · have hs : zln (T.2.1 t y k) = zli (OM T t V y k) := by
        rw [hO, if_neg q, zli_nat, Int.sub_zero]
      simp (disch := first | omega | exact zb_1 | exact zb_0 | exact zb_n1 | exact zb_n0) only [x234_19, x234_20, x234_23, x234_24, x234_27, x234_29, x234_31, x234_32, x234_34, x234_35, x234_36, x234_37, x234_39, x234_41, x234_44, x234_46, x234_48, x234_55, x234_56, x234_57, x234_58, x234_59, x234_62, mq_dl_int, mq_dl_ref, mq_dl_null, mq_dl_none, mc_some, Option.toList_some, Option.toList_none, List.cons_append, List.nil_append, zb_1, zb_0, ↓reduceIte, if_true, if_false, not_true_eq_false, not_false_eq_true, Bool.false_eq_true, z_10, z_01, eq_self, Bool.and_self, true_or, or_true, false_or, or_false, true_and, and_true, false_and, and_false, and_self, or_self, Nat.reduceLT, Nat.reduceEqDiff, Nat.reduceLeDiff, Nat.reduceAdd, Nat.reduceMul, Nat.reduceSub, zn_lit, zn_add, zn_mul, zn_sub, zn_addneg, zn_lt, zn_le, zn_eq, zn_clamp, zn_in, zn_long, hp_1, hp_21, upd_zu, updL_zu, updQ_zu, zu_eq, zu_ne, ho_23, ho_23_0, hf_23_0, hk_23_0, hw_23_0, ho_23_1, hf_23_1, ho_23_2, hf_23_2, hk_23_2, hw_23_2, ho_23_3, hf_23_3, hk_23_3, hw_23_3, ho_23_4, hf_23_4, ho_23_5, hf_23_5, ho_23_6, hf_23_6, ho_23_7, hf_23_7, hk_23_7, hw_23_7, ho_23_8, hf_23_8, hk_23_8, hw_23_8, ho_23_9, hf_23_9, ho_23_10, hf_23_10, ho_23_11, hf_23_11, hk_23_11, hw_23_11, ho_23_12, hf_23_12, hk_23_12, hw_23_12, ho_23_13, hf_23_13, ho_23_14, hf_23_14, ho_23_15, hf_23_15, ho_23_16, hf_23_16, hk_23_16, hw_23_16, ho_23_17, hf_23_17, ho_23_18, hf_23_18, ho_23_19, hf_23_19, hk_23_19, hw_23_19, ho_23_20, hf_23_20, ho_23_21, hf_23_21, hk_23_21, hw_23_21, ho_23_22, hf_23_22, hk_23_22, hw_23_22, ho_23_23, hf_23_23, hk_23_23, hw_23_23, ho_23_24, hf_23_24, hk_23_24, hw_23_24, ho_23_25, hf_23_25, ho_23_26, hf_23_26, ho_23_27, hf_23_27, hk_23_27, hw_23_27, ho_23_28, hf_23_28, ho_23_29, hf_23_29, ho_23_30, hf_23_30, hk_23_30, hw_23_30, ho_23_31, hf_23_31, hk_23_31, hw_23_31, ho_23_32, hf_23_32, ho_23_33, hf_23_33, ho_23_34, hf_23_34, hk_23_34, hw_23_34, ho_23_35, hf_23_35, hk_23_35, hw_23_35, ho_23_36, hf_23_36, hk_23_36, hw_23_36, ho_23_37, hf_23_37, ho_23_38, hf_23_38, ho_23_39, hf_23_39, hn_24, hi_24, hj_24, hg_24, hu_24, hn_25, hi_25, hj_25, hg_25, hu_25, hn_26, hi_26, hj_26, hg_26, hu_26, hn_27, hi_27, hg_27, hu_27, hn_28, hi_28, hg_28, hu_28, hn_29, hi_29, hj_29, hg_29, hu_29, hn_30, hi_30, hj_30, hg_30, hu_30, hn_31, hi_31, hj_31, hg_31, hu_31, hn_32, hi_32, hj_32, hg_32, hu_32, hn_33, hi_33, hj_33, hg_33, hu_33, hn_34, hi_34, hj_34, hg_34, hu_34, hn_35, hi_35, hj_35, hg_35, hu_35, hn_36, hi_36, hj_36, hg_36, hu_36, hn_37, hi_37, hg_37, hu_37, hn_38, hi_38, hj_38, hg_38, hu_38, hn_39, hi_39, hj_39, hg_39, hu_39, hn_40, hi_40, hj_40, hg_40, hu_40, hn_41, hi_41, hj_41, hg_41, hu_41, hn_42, hi_42, hg_42, hu_42, hn_43, hi_43, hg_43, hu_43, hn_44, hi_44, hj_44, hg_44, hu_44, hn_45, hi_45, hg_45, hu_45, S_share hS hW, Nat.sub_zero, hs, q, show ¬ T.1 ≤ k by omega, show 6 * y + k < 36 by omega, decide_true]
theorem R_ofy (hS : RT T (A 29)) (hW : WT T) (d t : Nat) (ht : t < T.1) (V : Int) (hV : V.natAbs ≤ 1000) (o6 o7 o8 o9 : Option Value) : ∀ (e y : Nat) (B : Nat → Nat → Int64) (o5 : Option Value), y + e = T.1 → (∀ r c, r < T.1 → c < T.1 → r < y → B 37 (6 * r + c) = zli (OM T t V r c)) → ∃ f' o5', (∀ r c, r < T.1 → c < T.1 → f' (6 * r + c) = zli (OM T t V r c)) ∧ mz (d + 2) 234 8 [some (.ref 23), some (.int (zn t)), some (.int (zi V)), some (.int (zn T.1)), some (.int (zn y)), o5, o6, o7, o8, o9] [] (hp n s c I J A B R Q) = mz (d + 2) 234 71 [some (.ref 23), some (.int (zn t)), some (.int (zi V)), some (.int (zn T.1)), some (.int (zn T.1)), o5', o6, o7, o8, o9] [] (hp n s c I J A (zu B 37 f') R Q)
  | 0, y, B, o5, hy, hB => by
    have h6 := hW.2.1
    have e : y = T.1 := by omega
    subst e
    refine ⟨B 37, o5, fun r c hr hc => hB r c hr hc hr, ?_⟩
    have eb : zu B 37 (B 37) = B := by
      funext q
      by_cases z : q = 37
      · subst z; rw [zu_eq]
      · rw [zu_ne _ _ _ _ z]
    rw [eb]
    simp (disch := first | omega | exact zb_1 | exact zb_0 | exact zb_n1 | exact zb_n0) only [x234_8, x234_10, x234_11, mq_dl_int, mq_dl_ref, mq_dl_null, mq_dl_none, mc_some, Option.toList_some, Option.toList_none, List.cons_append, List.nil_append, zb_1, zb_0, ↓reduceIte, if_true, if_false, not_true_eq_false, not_false_eq_true, Bool.false_eq_true, z_10, z_01, eq_self, Bool.and_self, true_or, or_true, false_or, or_false, true_and, and_true, false_and, and_false, and_self, or_self, Nat.reduceLT, Nat.reduceEqDiff, Nat.reduceLeDiff, Nat.reduceAdd, Nat.reduceMul, Nat.reduceSub, zn_lit, zn_add, zn_mul, zn_sub, zn_addneg, zn_lt, zn_le, zn_eq, zn_clamp, zn_in, zn_long, Nat.le_refl]
  | e + 1, y, B, o5, hy, hB => by
    have h6 := hW.2.1
    obtain ⟨f1, g1, g2⟩ := R_ofk (n := n) (s := s) (c := c) (I := I) (J := J) (A := A) (R := R) (Q := Q) hS hW d t ht V hV o6 o7 o8 o9 y (by omega) T.1 0 B (by omega) (fun r c hr hc h => hB r c hr hc (by omega))
    obtain ⟨f', o5', k1, k2⟩ := R_ofy hS hW d t ht V hV o6 o7 o8 o9 e (y + 1) (zu B 37 f1) (some (.int (zn T.1))) (by omega) (by rw [zu_eq]; exact g1)
    refine ⟨f', o5', k1, ?_⟩
    rw [zu_zu] at k2
    rw [← k2, x234_8]
    simp (disch := first | omega | exact zb_1 | exact zb_0 | exact zb_n1 | exact zb_n0) only [x234_10, x234_11, x234_14, x234_15, mq_dl_int, mq_dl_ref, mq_dl_null, mq_dl_none, mc_some, Option.toList_some, Option.toList_none, List.cons_append, List.nil_append, zb_1, zb_0, ↓reduceIte, if_true, if_false, not_true_eq_false, not_false_eq_true, Bool.false_eq_true, z_10, z_01, eq_self, Bool.and_self, true_or, or_true, false_or, or_false, true_and, and_true, false_and, and_false, and_self, or_self, Nat.reduceLT, Nat.reduceEqDiff, Nat.reduceLeDiff, Nat.reduceAdd, Nat.reduceMul, Nat.reduceSub, zn_lit, zn_add, zn_mul, zn_sub, zn_addneg, zn_lt, zn_le, zn_eq, zn_clamp, zn_in, zn_long, show ¬ T.1 ≤ y by omega]
    rw [g2]
    simp (disch := first | omega | exact zb_1 | exact zb_0 | exact zb_n1 | exact zb_n0) only [x234_65, x234_68, mq_dl_int, mq_dl_ref, mq_dl_null, mq_dl_none, mc_some, Option.toList_some, Option.toList_none, List.cons_append, List.nil_append, zb_1, zb_0, ↓reduceIte, if_true, if_false, not_true_eq_false, not_false_eq_true, Bool.false_eq_true, z_10, z_01, eq_self, Bool.and_self, true_or, or_true, false_or, or_false, true_and, and_true, false_and, and_false, and_self, or_self, Nat.reduceLT, Nat.reduceEqDiff, Nat.reduceLeDiff, Nat.reduceAdd, Nat.reduceMul, Nat.reduceSub, zn_lit, zn_add, zn_mul, zn_sub, zn_addneg, zn_lt, zn_le, zn_eq, zn_clamp, zn_in, zn_long]
theorem R_isn (hS : RT T (A 29)) (hW : WT T) (hG : gdT T = true) (ho : orT T ≤ 60) (d t : Nat) (ht : t < T.1) (V : Int) (hV : V.natAbs ≤ 60) : ∃ b f', (∀ x, RH T x → x t = V → b = true) ∧ mz (d + 2) 234 0 [some (.ref 23), some (.int (zn t)), some (.int (zi V)), none, none, none, none, none, none, none] [] (hp n s c I J A B R Q) = some (some (some (.int (zo b))), hp n s c I J A (zu B 37 f') R Q) := by
  have h6 := hW.2.1
  obtain ⟨f1, o5, g1, g2⟩ := R_ofy (n := n) (s := s) (c := c) (I := I) (J := J) (A := A) (R := R) (Q := Q) hS hW d t ht V (by omega) none none none none T.1 0 B none (by omega) (fun r c _ _ h => by omega)
  obtain ⟨b, f', k1, k2⟩ := R_nst (n := n) (s := s) (c := c) (I := I) (J := J) (A := A) (R := R) (Q := Q) (d + 1) T.1 h6 hW.1 (zn t) (zi V) T.1 0 (zu B 37 f1) (zln 1) none none none (by omega) (by rw [zln_eq _ _ (by omega) (by omega)]; omega)
  refine ⟨b, f', fun x hx hv => k1 (OM T t V) x (OM_bs hW hG ho ht hV hx hv) (by
    rw [zu_eq]
    intro r c _ hr _ hc
    exact g1 r c hr hc) (zli_nat 1), ?_⟩
  rw [zu_zu] at k2
  rw [← k2]
  have e0 : mz (d + 2) 234 0 [some (.ref 23), some (.int (zn t)), some (.int (zi V)), none, none, none, none, none, none, none] [] (hp n s c I J A B R Q) = mz (d + 2) 234 8 [some (.ref 23), some (.int (zn t)), some (.int (zi V)), some (.int (zn T.1)), some (.int (zn 0)), none, none, none, none, none] [] (hp n s c I J A B R Q) := by
    simp (disch := first | omega | exact zb_1 | exact zb_0 | exact zb_n1 | exact zb_n0) only [x234_0, x234_1, x234_4, x234_5, x234_6, mq_dl_int, mq_dl_ref, mq_dl_null, mq_dl_none, mc_some, Option.toList_some, Option.toList_none, List.cons_append, List.nil_append, zb_1, zb_0, ↓reduceIte, if_true, if_false, not_true_eq_false, not_false_eq_true, Bool.false_eq_true, z_10, z_01, eq_self, Bool.and_self, true_or, or_true, false_or, or_false, true_and, and_true, false_and, and_false, and_self, or_self, Nat.reduceLT, Nat.reduceEqDiff, Nat.reduceLeDiff, Nat.reduceAdd, Nat.reduceMul, Nat.reduceSub, zn_lit, zn_add, zn_mul, zn_sub, zn_addneg, zn_lt, zn_le, zn_eq, zn_clamp, zn_in, zn_long, ho_23, S_things hS]
  rw [e0, g2]
  simp (disch := first | omega | exact zb_1 | exact zb_0 | exact zb_n1 | exact zb_n0) only [x234_71, x234_72, x234_74, x234_75, mq_dl_int, mq_dl_ref, mq_dl_null, mq_dl_none, mc_some, Option.toList_some, Option.toList_none, List.cons_append, List.nil_append, zb_1, zb_0, ↓reduceIte, if_true, if_false, not_true_eq_false, not_false_eq_true, Bool.false_eq_true, z_10, z_01, eq_self, Bool.and_self, true_or, or_true, false_or, or_false, true_and, and_true, false_and, and_false, and_self, or_self, Nat.reduceLT, Nat.reduceEqDiff, Nat.reduceLeDiff, Nat.reduceAdd, Nat.reduceMul, Nat.reduceSub, zn_lit, zn_add, zn_mul, zn_sub, zn_addneg, zn_lt, zn_le, zn_eq, zn_clamp, zn_in, zn_long, zln_lit]
end RIS
