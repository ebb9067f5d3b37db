/-! A TABLE TOLD: what is read -/
def put2 (g : Nat → Int32) (i j k v : Nat) : Nat → Int32 := zu (zu g ((i * 6 + j) * 6 + k) (zn v)) ((j * 6 + i) * 6 + k) (zn v)
section SP
variable (L : Nat) (tp : Nat → Nat) (m : Nat)
def sh3 (x : Nat × Nat) : Nat × Nat := twd L tp 4 (adv (see L tp 1 999 x))
def sh5 (i j : Nat) (g : Nat → Int32) (x : Nat × Nat) : Nat × Nat := if (see L tp 0 (m - 1) (sh3 L tp x)).2 = 0 ∧ ¬ g ((i * 6 + j) * 6 + nbq L tp (sh3 L tp x).1) = zn 0 then flt L tp 3 (see L tp 0 (m - 1) (sh3 L tp x)) else see L tp 0 (m - 1) (sh3 L tp x)
def shG (i j : Nat) (g : Nat → Int32) (x : Nat × Nat) : Nat → Int32 := if (sh5 L tp m i j g x).2 = 0 then put2 g i j (nbq L tp (sh3 L tp x).1) (nbq L tp x.1) else g
def shF (i j : Nat) : Nat → (Nat × Nat) → (Nat → Int32) → (Nat × Nat) × (Nat → Int32)
  | 0, x, g => (x, g)
  | f + 1, x, g => if x.2 = 0 ∧ tkS L tp (ps L tp x.1) = 2 then shF i j f (adv (sh5 L tp m i j g x)) (shG L tp m i j g x) else (x, g)
end SP
section SQ
variable {L : Nat} {tp : Nat → Nat} {x : Nat × Nat}
theorem flt_n {e : Nat} (he : 1 ≤ e) : ¬ (flt L tp e x).2 = 0 := by
  unfold flt
  split
  · show ¬ e + 16 * ps L tp x.1 = 0
    omega
  · assumption
theorem see_fine {lo hi : Nat} (h : (see L tp lo hi x).2 = 0) : x.2 = 0 ∧ tkS L tp (ps L tp x.1) = 2 ∧ lo ≤ nbq L tp x.1 ∧ nbq L tp x.1 ≤ hi ∧ see L tp lo hi x = x := by
  unfold see at h ⊢
  by_cases q : tkS L tp (ps L tp x.1) = 2
  · rw [if_pos q] at h ⊢
    by_cases q2 : nbq L tp x.1 < lo ∨ hi < nbq L tp x.1
    · rw [if_pos q2] at h
      exact absurd h (flt_n (by omega))
    · rw [if_neg q2] at h ⊢
      exact ⟨h, q, by omega, by omega, rfl⟩
  · rw [if_neg q] at h
    exact absurd h (flt_n (by omega))
theorem adv_fine (h : (adv x).2 = 0) : x.2 = 0 ∧ adv x = (x.1 + 1, 0) := by
  unfold adv at h ⊢
  by_cases q : x.2 = 0
  · rw [if_pos q]; exact ⟨q, rfl⟩
  · rw [if_neg q] at h; exact absurd h q
theorem adv_0 (h : x.2 = 0) : adv x = (x.1 + 1, 0) := if_pos h
theorem adv_F (h : ¬ x.2 = 0) : adv x = x := if_neg h
theorem flt_F {e : Nat} (h : ¬ x.2 = 0) : flt L tp e x = x := if_neg h
theorem see_F {lo hi : Nat} (h : ¬ x.2 = 0) : see L tp lo hi x = x := by
  unfold see
  rw [flt_F h, flt_F h, ite_self, ite_self]
theorem twd_F {i : Nat} (h : ¬ x.2 = 0) : twd L tp i x = x := by
  unfold twd
  rw [flt_F h, ite_self, adv_F h]
theorem tsg_F {i : Nat} (h : ¬ x.2 = 0) : tsg L tp i x = x := by
  unfold tsg
  rw [flt_F h, ite_self, adv_F h]
theorem twd_fine {i : Nat} (h : (twd L tp i x).2 = 0) : x.2 = 0 ∧ wdq L tp x.1 i = true ∧ twd L tp i x = (x.1 + 1, 0) := by
  unfold twd at h ⊢
  by_cases q : wdq L tp x.1 i = true
  · rw [if_pos q] at h ⊢
    exact ⟨(adv_fine h).1, q, (adv_fine h).2⟩
  · rw [if_neg q] at h
    exact absurd (adv_fine h).1 (flt_n (by omega))
theorem tsg_fine {i : Nat} (h : (tsg L tp i x).2 = 0) : x.2 = 0 ∧ sgq L tp x.1 i = true ∧ tsg L tp i x = (x.1 + 1, 0) := by
  unfold tsg at h ⊢
  by_cases q : sgq L tp x.1 i = true
  · rw [if_pos q] at h ⊢
    exact ⟨(adv_fine h).1, q, (adv_fine h).2⟩
  · rw [if_neg q] at h
    exact absurd (adv_fine h).1 (flt_n (by omega))
theorem wdq_1 {k i : Nat} (h : wdq L tp k i = true) : tkS L tp (ps L tp k) = 1 := by
  unfold wdq at h
  simp only [Bool.and_eq_true, decide_eq_true_eq] at h
  exact h.1
theorem sgq_3 {k i : Nat} (h : sgq L tp k i = true) : tkS L tp (ps L tp k) = 3 := by
  unfold sgq at h
  simp only [Bool.and_eq_true, decide_eq_true_eq] at h
  exact h.1
theorem seev_2 (h : tkS L tp (ps L tp x.1) = 2) : seev L tp x = zn (nbq L tp x.1) := if_pos h
theorem sh3_b (hL : L ≤ 1000) (hx : x.2 < 20000) : (sh3 L tp x).2 < 20000 := twd_b hL (adv_b (see_b hL hx 1 999)) 4
theorem sh5_b (hL : L ≤ 1000) (hx : x.2 < 20000) (m i j : Nat) (g : Nat → Int32) : (sh5 L tp m i j g x).2 < 20000 := by
  have h := see_b (tp := tp) hL (sh3_b (tp := tp) hL hx) 0 (m - 1)
  unfold sh5
  split
  · exact flt_b hL h 3 (by omega)
  · exact h
/-- when a share is fine -/
theorem sh5_fine {m i j : Nat} {g : Nat → Int32} (h : (sh5 L tp m i j g x).2 = 0) : x.2 = 0 ∧ tkS L tp (ps L tp x.1) = 2 ∧ 1 ≤ nbq L tp x.1 ∧ nbq L tp x.1 ≤ 999 ∧ sh3 L tp x = (x.1 + 1 + 1, 0) ∧ tkS L tp (ps L tp (x.1 + 1)) = 1 ∧ tkS L tp (ps L tp (x.1 + 1 + 1)) = 2 ∧ nbq L tp (x.1 + 1 + 1) ≤ m - 1 ∧ sh5 L tp m i j g x = (x.1 + 1 + 1, 0) ∧ g ((i * 6 + j) * 6 + nbq L tp (x.1 + 1 + 1)) = zn 0 := by
  unfold sh5 at h
  by_cases q : (see L tp 0 (m - 1) (sh3 L tp x)).2 = 0 ∧ ¬ g ((i * 6 + j) * 6 + nbq L tp (sh3 L tp x).1) = zn 0
  · rw [if_pos q] at h
    exact absurd h (flt_n (by omega))
  · have e5 : sh5 L tp m i j g x = see L tp 0 (m - 1) (sh3 L tp x) := by unfold sh5; rw [if_neg q]
    rw [if_neg q] at h
    obtain ⟨a1, a2, a3, a4, a5⟩ := see_fine h
    have hg : g ((i * 6 + j) * 6 + nbq L tp (sh3 L tp x).1) = zn 0 := by
      apply Classical.byContradiction
      intro c
      exact q ⟨h, c⟩
    have e3 : sh3 L tp x = twd L tp 4 (adv (see L tp 1 999 x)) := rfl
    rw [e3] at a1
    obtain ⟨b1, b2, b3⟩ := twd_fine a1
    obtain ⟨c1, c2⟩ := adv_fine b1
    obtain ⟨d1, d2, d3, d4, d5⟩ := see_fine c1
    have e6 : sh3 L tp x = (x.1 + 1 + 1, 0) := by rw [e3, b3, c2, d5]
    rw [c2, d5] at b2
    rw [e6] at a2 a4 hg a5
    exact ⟨d1, d2, d3, d4, e6, wdq_1 b2, a2, a4, by rw [e5, e6, a5], hg⟩
end SQ
section RN
variable {n s : Nat} {c : Nat → mq_E} {I : Nat → Int32} {J : Nat → Int64} {A : Nat → Nat → Int32} {B : Nat → Nat → Int64} {R : Nat → Value} {Q : Nat → Nat → Option Nat}
variable {L : Nat} {tp : Nat → Nat} {N : Nat}
theorem R_take (hL : L ≤ 1000) (hR : RTK L tp N (A 25) (A 26) (B 27)) (d lo hi : Nat) (hlo : lo < 10000) (hhi : hi < 10000) (x : Nat × Nat) (hx : x.2 < 20000) (hN : x.2 = 0 → x.1 ≤ N) : mz (d + 1) 193 0 [some (.ref 23), some (.int (zn lo)), some (.int (zn hi))] [] (hp n s c (rI I x) J A B R Q) = some (some (some (.int (if (see L tp lo hi x).2 = 0 then zn (nbq L tp x.1) else zn 0))), hp n s c (rI I (adv (see L tp lo hi x))) J A B R Q) := by
  by_cases q : x.2 = 0
  · obtain ⟨a1, a2, a3, a4⟩ := RTK_at hR (hN q)
    have h5 := tkS_lt L tp (ps L tp x.1)
    have h6 := rso_lt _ h5
    have hF1 : ∀ e, 1 ≤ e → ¬ (flt L tp e x).2 ≤ 0 := fun e he e0 => flt_n (L := L) (tp := tp) (x := x) he (Nat.le_zero.mp e0)
    have hF2 : ∀ e, e ≤ 6 → (flt L tp e x).2 < 20000 := fun e he => flt_b hL hx e he
    have f1 := hF2 1 (by omega)
    have f4 := hF2 4 (by omega)
    by_cases q2 : tkS L tp (ps L tp x.1) = 2
    · have hb := nbq_lt q2
      have a5 := a3 (by omega) (by omega)
      rw [tvl_num q2] at a5
      unfold see
      rw [if_pos q2]
      by_cases q3 : nbq L tp x.1 < lo
      · rw [if_pos (Or.inl q3), if_neg (flt_n (by omega)), adv_F (flt_n (by omega))]
        simp (disch := first | omega | exact zb_1 | exact zb_0 | exact zb_n1 | exact zb_n0) only [x193_0, x193_0N, x193_1, x193_4, x193_7, x193_7N, x193_8, x193_11, x193_11N, x193_12, x193_15, x193_16, x193_17, x193_20, x193_20N, x193_21, x193_22, x193_25, x193_70, x193_70N, x193_71, x193_74, x193_77, x193_78, x193_79, x193_79N, x193_80, x193_81, x193_84, x193_85, x193_86, x193_89, x193_89N, x193_90, x193_93, x193_93N, x193_94, x193_97, x193_98, x193_99, x193_100, x193_101, x193_28, x193_28N, x193_29, x193_32, x193_35, x193_35N, x193_36, x193_39, x193_39N, x193_40, x193_43, x193_44, x193_45, x193_46, x193_47, x193_50, x193_50N, x193_51, x193_54, x193_54N, x193_55, x193_58, x193_59, x193_60, x193_61, x193_62, x193_65, x193_65N, x193_66, x193_67, mq_dl_int, mq_dl_ref, mq_dl_null, mq_dl_none, mc_some, Option.toList_some, Option.toList_none, List.cons_append, List.nil_append, zb_1, zb_0, ↓reduceIte, if_true, if_false, not_true_eq_false, not_false_eq_true, Bool.false_eq_true, z_10, z_01, eq_self, Bool.and_self, true_or, or_true, false_or, or_false, true_and, and_true, false_and, and_false, and_self, or_self, Nat.reduceLT, Nat.reduceEqDiff, Nat.reduceLeDiff, Nat.reduceAdd, Nat.reduceMul, Nat.reduceSub, zn_lit, zn_add, zn_mul, zn_sub, zn_addneg, zn_lt, zn_le, zn_eq, zn_clamp, zn_in, zn_long, zln_lit, zln_add, zln_mul, zln_lt, zln_le, zln_eq, zln_int, lc_eq, lc_gt, lc_lt, lc_le, lc_ge, hp_1, hp_21, upd_zu, updL_zu, updQ_zu, zu_eq, zu_ne, ho_23, ho_23_0, hf_23_0, hk_23_0, hw_23_0, ho_23_1, hf_23_1, ho_23_2, hf_23_2, hk_23_2, hw_23_2, ho_23_3, hf_23_3, hk_23_3, hw_23_3, ho_23_4, hf_23_4, ho_23_5, hf_23_5, ho_23_6, hf_23_6, ho_23_7, hf_23_7, hk_23_7, hw_23_7, ho_23_8, hf_23_8, hk_23_8, hw_23_8, ho_23_9, hf_23_9, ho_23_10, hf_23_10, ho_23_11, hf_23_11, hk_23_11, hw_23_11, ho_23_12, hf_23_12, hk_23_12, hw_23_12, ho_23_13, hf_23_13, ho_23_14, hf_23_14, ho_23_15, hf_23_15, ho_23_16, hf_23_16, hk_23_16, hw_23_16, ho_23_17, hf_23_17, ho_23_18, hf_23_18, ho_23_19, hf_23_19, hk_23_19, hw_23_19, ho_23_20, hf_23_20, ho_23_21, hf_23_21, hk_23_21, hw_23_21, ho_23_22, hf_23_22, hk_23_22, hw_23_22, ho_23_23, hf_23_23, hk_23_23, hw_23_23, ho_23_24, hf_23_24, hk_23_24, hw_23_24, ho_23_25, hf_23_25, ho_23_26, hf_23_26, ho_23_27, hf_23_27, hk_23_27, hw_23_27, ho_23_28, hf_23_28, ho_23_29, hf_23_29, ho_23_30, hf_23_30, hk_23_30, hw_23_30, ho_23_31, hf_23_31, hk_23_31, hw_23_31, ho_23_32, hf_23_32, ho_23_33, hf_23_33, ho_23_34, hf_23_34, hk_23_34, hw_23_34, ho_23_35, hf_23_35, hk_23_35, hw_23_35, ho_23_36, hf_23_36, hk_23_36, hw_23_36, ho_23_37, hf_23_37, ho_23_38, hf_23_38, ho_23_39, hf_23_39, hn_24, hi_24, hj_24, hg_24, hu_24, hn_25, hi_25, hj_25, hg_25, hu_25, hn_26, hi_26, hj_26, hg_26, hu_26, hn_27, hi_27, hg_27, hu_27, hn_28, hi_28, hg_28, hu_28, hn_29, hi_29, hj_29, hg_29, hu_29, hn_30, hi_30, hj_30, hg_30, hu_30, hn_31, hi_31, hj_31, hg_31, hu_31, hn_32, hi_32, hj_32, hg_32, hu_32, hn_33, hi_33, hj_33, hg_33, hu_33, hn_34, hi_34, hj_34, hg_34, hu_34, hn_35, hi_35, hj_35, hg_35, hu_35, hn_36, hi_36, hj_36, hg_36, hu_36, hn_37, hi_37, hg_37, hu_37, hn_38, hi_38, hj_38, hg_38, hu_38, hn_39, hi_39, hj_39, hg_39, hu_39, hn_40, hi_40, hj_40, hg_40, hu_40, hn_41, hi_41, hj_41, hg_41, hu_41, hn_42, hi_42, hg_42, hu_42, hn_43, hi_43, hg_43, hu_43, hn_44, hi_44, hj_44, hg_44, hu_44, hn_45, hi_45, hg_45, hu_45, rI_57, rI_58, a1, a4, a5, q, q2, q3, rso, R_wrong hR d 4 x hx hN, hF1 4 (by omega), decide_true]
      · by_cases q4 : hi < nbq L tp x.1
        · rw [if_pos (Or.inr q4), if_neg (flt_n (by omega)), adv_F (flt_n (by omega))]
          simp (disch := first | omega | exact zb_1 | exact zb_0 | exact zb_n1 | exact zb_n0) only [x193_0, x193_0N, x193_1, x193_4, x193_7, x193_7N, x193_8, x193_11, x193_11N, x193_12, x193_15, x193_16, x193_17, x193_20, x193_20N, x193_21, x193_22, x193_25, x193_70, x193_70N, x193_71, x193_74, x193_77, x193_78, x193_79, x193_79N, x193_80, x193_81, x193_84, x193_85, x193_86, x193_89, x193_89N, x193_90, x193_93, x193_93N, x193_94, x193_97, x193_98, x193_99, x193_100, x193_101, x193_28, x193_28N, x193_29, x193_32, x193_35, x193_35N, x193_36, x193_39, x193_39N, x193_40, x193_43, x193_44, x193_45, x193_46, x193_47, x193_50, x193_50N, x193_51, x193_54, x193_54N, x193_55, x193_58, x193_59, x193_60, x193_61, x193_62, x193_65, x193_65N, x193_66, x193_67, mq_dl_int, mq_dl_ref, mq_dl_null, mq_dl_none, mc_some, Option.toList_some, Option.toList_none, List.cons_append, List.nil_append, zb_1, zb_0, ↓reduceIte, if_true, if_false, not_true_eq_false, not_false_eq_true, Bool.false_eq_true, z_10, z_01, eq_self, Bool.and_self, true_or, or_true, false_or, or_false, true_and, and_true, false_and, and_false, and_self, or_self, Nat.reduceLT, Nat.reduceEqDiff, Nat.reduceLeDiff, Nat.reduceAdd, Nat.reduceMul, Nat.reduceSub, zn_lit, zn_add, zn_mul, zn_sub, zn_addneg, zn_lt, zn_le, zn_eq, zn_clamp, zn_in, zn_long, zln_lit, zln_add, zln_mul, zln_lt, zln_le, zln_eq, zln_int, lc_eq, lc_gt, lc_lt, lc_le, lc_ge, hp_1, hp_21, upd_zu, updL_zu, updQ_zu, zu_eq, zu_ne, ho_23, ho_23_0, hf_23_0, hk_23_0, hw_23_0, ho_23_1, hf_23_1, ho_23_2, hf_23_2, hk_23_2, hw_23_2, ho_23_3, hf_23_3, hk_23_3, hw_23_3, ho_23_4, hf_23_4, ho_23_5, hf_23_5, ho_23_6, hf_23_6, ho_23_7, hf_23_7, hk_23_7, hw_23_7, ho_23_8, hf_23_8, hk_23_8, hw_23_8, ho_23_9, hf_23_9, ho_23_10, hf_23_10, ho_23_11, hf_23_11, hk_23_11, hw_23_11, ho_23_12, hf_23_12, hk_23_12, hw_23_12, ho_23_13, hf_23_13, ho_23_14, hf_23_14, ho_23_15, hf_23_15, ho_23_16, hf_23_16, hk_23_16, hw_23_16, ho_23_17, hf_23_17, ho_23_18, hf_23_18, ho_23_19, hf_23_19, hk_23_19, hw_23_19, ho_23_20, hf_23_20, ho_23_21, hf_23_21, hk_23_21, hw_23_21, ho_23_22, hf_23_22, hk_23_22, hw_23_22, ho_23_23, hf_23_23, hk_23_23, hw_23_23, ho_23_24, hf_23_24, hk_23_24, hw_23_24, ho_23_25, hf_23_25, ho_23_26, hf_23_26, ho_23_27, hf_23_27, hk_23_27, hw_23_27, ho_23_28, hf_23_28, ho_23_29, hf_23_29, ho_23_30, hf_23_30, hk_23_30, hw_23_30, ho_23_31, hf_23_31, hk_23_31, hw_23_31, ho_23_32, hf_23_32, ho_23_33, hf_23_33, ho_23_34, hf_23_34, hk_23_34, hw_23_34, ho_23_35, hf_23_35, hk_23_35, hw_23_35, ho_23_36, hf_23_36, hk_23_36, hw_23_36, ho_23_37, hf_23_37, ho_23_38, hf_23_38, ho_23_39, hf_23_39, hn_24, hi_24, hj_24, hg_24, hu_24, hn_25, hi_25, hj_25, hg_25, hu_25, hn_26, hi_26, hj_26, hg_26, hu_26, hn_27, hi_27, hg_27, hu_27, hn_28, hi_28, hg_28, hu_28, hn_29, hi_29, hj_29, hg_29, hu_29, hn_30, hi_30, hj_30, hg_30, hu_30, hn_31, hi_31, hj_31, hg_31, hu_31, hn_32, hi_32, hj_32, hg_32, hu_32, hn_33, hi_33, hj_33, hg_33, hu_33, hn_34, hi_34, hj_34, hg_34, hu_34, hn_35, hi_35, hj_35, hg_35, hu_35, hn_36, hi_36, hj_36, hg_36, hu_36, hn_37, hi_37, hg_37, hu_37, hn_38, hi_38, hj_38, hg_38, hu_38, hn_39, hi_39, hj_39, hg_39, hu_39, hn_40, hi_40, hj_40, hg_40, hu_40, hn_41, hi_41, hj_41, hg_41, hu_41, hn_42, hi_42, hg_42, hu_42, hn_43, hi_43, hg_43, hu_43, hn_44, hi_44, hj_44, hg_44, hu_44, hn_45, hi_45, hg_45, hu_45, rI_57, rI_58, a1, a4, a5, q, q2, q3, show ¬ nbq L tp x.1 ≤ hi by omega, rso, R_wrong hR d 4 x hx hN, hF1 4 (by omega), decide_true]
        · rw [if_neg (show ¬ (nbq L tp x.1 < lo ∨ hi < nbq L tp x.1) by omega), if_pos q, adv_0 q]
          have e0 : rI I (x.1 + 1, x.2) = rI I (x.1 + 1, 0) := by rw [q]
          simp (disch := first | omega | exact zb_1 | exact zb_0 | exact zb_n1 | exact zb_n0) only [x193_0, x193_0N, x193_1, x193_4, x193_7, x193_7N, x193_8, x193_11, x193_11N, x193_12, x193_15, x193_16, x193_17, x193_20, x193_20N, x193_21, x193_22, x193_25, x193_70, x193_70N, x193_71, x193_74, x193_77, x193_78, x193_79, x193_79N, x193_80, x193_81, x193_84, x193_85, x193_86, x193_89, x193_89N, x193_90, x193_93, x193_93N, x193_94, x193_97, x193_98, x193_99, x193_100, x193_101, x193_28, x193_28N, x193_29, x193_32, x193_35, x193_35N, x193_36, x193_39, x193_39N, x193_40, x193_43, x193_44, x193_45, x193_46, x193_47, x193_50, x193_50N, x193_51, x193_54, x193_54N, x193_55, x193_58, x193_59, x193_60, x193_61, x193_62, x193_65, x193_65N, x193_66, x193_67, mq_dl_int, mq_dl_ref, mq_dl_null, mq_dl_none, mc_some, Option.toList_some, Option.toList_none, List.cons_append, List.nil_append, zb_1, zb_0, ↓reduceIte, if_true, if_false, not_true_eq_false, not_false_eq_true, Bool.false_eq_true, z_10, z_01, eq_self, Bool.and_self, true_or, or_true, false_or, or_false, true_and, and_true, false_and, and_false, and_self, or_self, Nat.reduceLT, Nat.reduceEqDiff, Nat.reduceLeDiff, Nat.reduceAdd, Nat.reduceMul, Nat.reduceSub, zn_lit, zn_add, zn_mul, zn_sub, zn_addneg, zn_lt, zn_le, zn_eq, zn_clamp, zn_in, zn_long, zln_lit, zln_add, zln_mul, zln_lt, zln_le, zln_eq, zln_int, lc_eq, lc_gt, lc_lt, lc_le, lc_ge, hp_1, hp_21, upd_zu, updL_zu, updQ_zu, zu_eq, zu_ne, ho_23, ho_23_0, hf_23_0, hk_23_0, hw_23_0, ho_23_1, hf_23_1, ho_23_2, hf_23_2, hk_23_2, hw_23_2, ho_23_3, hf_23_3, hk_23_3, hw_23_3, ho_23_4, hf_23_4, ho_23_5, hf_23_5, ho_23_6, hf_23_6, ho_23_7, hf_23_7, hk_23_7, hw_23_7, ho_23_8, hf_23_8, hk_23_8, hw_23_8, ho_23_9, hf_23_9, ho_23_10, hf_23_10, ho_23_11, hf_23_11, hk_23_11, hw_23_11, ho_23_12, hf_23_12, hk_23_12, hw_23_12, ho_23_13, hf_23_13, ho_23_14, hf_23_14, ho_23_15, hf_23_15, ho_23_16, hf_23_16, hk_23_16, hw_23_16, ho_23_17, hf_23_17, ho_23_18, hf_23_18, ho_23_19, hf_23_19, hk_23_19, hw_23_19, ho_23_20, hf_23_20, ho_23_21, hf_23_21, hk_23_21, hw_23_21, ho_23_22, hf_23_22, hk_23_22, hw_23_22, ho_23_23, hf_23_23, hk_23_23, hw_23_23, ho_23_24, hf_23_24, hk_23_24, hw_23_24, ho_23_25, hf_23_25, ho_23_26, hf_23_26, ho_23_27, hf_23_27, hk_23_27, hw_23_27, ho_23_28, hf_23_28, ho_23_29, hf_23_29, ho_23_30, hf_23_30, hk_23_30, hw_23_30, ho_23_31, hf_23_31, hk_23_31, hw_23_31, ho_23_32, hf_23_32, ho_23_33, hf_23_33, ho_23_34, hf_23_34, hk_23_34, hw_23_34, ho_23_35, hf_23_35, hk_23_35, hw_23_35, ho_23_36, hf_23_36, hk_23_36, hw_23_36, ho_23_37, hf_23_37, ho_23_38, hf_23_38, ho_23_39, hf_23_39, hn_24, hi_24, hj_24, hg_24, hu_24, hn_25, hi_25, hj_25, hg_25, hu_25, hn_26, hi_26, hj_26, hg_26, hu_26, hn_27, hi_27, hg_27, hu_27, hn_28, hi_28, hg_28, hu_28, hn_29, hi_29, hj_29, hg_29, hu_29, hn_30, hi_30, hj_30, hg_30, hu_30, hn_31, hi_31, hj_31, hg_31, hu_31, hn_32, hi_32, hj_32, hg_32, hu_32, hn_33, hi_33, hj_33, hg_33, hu_33, hn_34, hi_34, hj_34, hg_34, hu_34, hn_35, hi_35, hj_35, hg_35, hu_35, hn_36, hi_36, hj_36, hg_36, hu_36, hn_37, hi_37, hg_37, hu_37, hn_38, hi_38, hj_38, hg_38, hu_38, hn_39, hi_39, hj_39, hg_39, hu_39, hn_40, hi_40, hj_40, hg_40, hu_40, hn_41, hi_41, hj_41, hg_41, hu_41, hn_42, hi_42, hg_42, hu_42, hn_43, hi_43, hg_43, hu_43, hn_44, hi_44, hj_44, hg_44, hu_44, hn_45, hi_45, hg_45, hu_45, rI_57, rI_58, rI_w7, a1, a4, a5, q, q2, q3, show nbq L tp x.1 ≤ hi by omega, rso, Nat.add_sub_cancel, decide_true, Nat.le_refl, Nat.not_lt_zero]
    · unfold see
      rw [if_neg q2, if_neg (flt_n (by omega)), adv_F (flt_n (by omega))]
      simp (disch := first | omega | exact zb_1 | exact zb_0 | exact zb_n1 | exact zb_n0) only [x193_0, x193_0N, x193_1, x193_4, x193_7, x193_7N, x193_8, x193_11, x193_11N, x193_12, x193_15, x193_16, x193_17, x193_20, x193_20N, x193_21, x193_22, x193_25, x193_70, x193_70N, x193_71, x193_74, x193_77, x193_78, x193_79, x193_79N, x193_80, x193_81, x193_84, x193_85, x193_86, x193_89, x193_89N, x193_90, x193_93, x193_93N, x193_94, x193_97, x193_98, x193_99, x193_100, x193_101, x193_28, x193_28N, x193_29, x193_32, x193_35, x193_35N, x193_36, x193_39, x193_39N, x193_40, x193_43, x193_44, x193_45, x193_46, x193_47, x193_50, x193_50N, x193_51, x193_54, x193_54N, x193_55, x193_58, x193_59, x193_60, x193_61, x193_62, x193_65, x193_65N, x193_66, x193_67, mq_dl_int, mq_dl_ref, mq_dl_null, mq_dl_none, mc_some, Option.toList_some, Option.toList_none, List.cons_append, List.nil_append, zb_1, zb_0, ↓reduceIte, if_true, if_false, not_true_eq_false, not_false_eq_true, Bool.false_eq_true, z_10, z_01, eq_self, Bool.and_self, true_or, or_true, false_or, or_false, true_and, and_true, false_and, and_false, and_self, or_self, Nat.reduceLT, Nat.reduceEqDiff, Nat.reduceLeDiff, Nat.reduceAdd, Nat.reduceMul, Nat.reduceSub, zn_lit, zn_add, zn_mul, zn_sub, zn_addneg, zn_lt, zn_le, zn_eq, zn_clamp, zn_in, zn_long, hp_1, hp_21, upd_zu, updL_zu, updQ_zu, zu_eq, zu_ne, ho_23, ho_23_0, hf_23_0, hk_23_0, hw_23_0, ho_23_1, hf_23_1, ho_23_2, hf_23_2, hk_23_2, hw_23_2, ho_23_3, hf_23_3, hk_23_3, hw_23_3, ho_23_4, hf_23_4, ho_23_5, hf_23_5, ho_23_6, hf_23_6, ho_23_7, hf_23_7, hk_23_7, hw_23_7, ho_23_8, hf_23_8, hk_23_8, hw_23_8, ho_23_9, hf_23_9, ho_23_10, hf_23_10, ho_23_11, hf_23_11, hk_23_11, hw_23_11, ho_23_12, hf_23_12, hk_23_12, hw_23_12, ho_23_13, hf_23_13, ho_23_14, hf_23_14, ho_23_15, hf_23_15, ho_23_16, hf_23_16, hk_23_16, hw_23_16, ho_23_17, hf_23_17, ho_23_18, hf_23_18, ho_23_19, hf_23_19, hk_23_19, hw_23_19, ho_23_20, hf_23_20, ho_23_21, hf_23_21, hk_23_21, hw_23_21, ho_23_22, hf_23_22, hk_23_22, hw_23_22, ho_23_23, hf_23_23, hk_23_23, hw_23_23, ho_23_24, hf_23_24, hk_23_24, hw_23_24, ho_23_25, hf_23_25, ho_23_26, hf_23_26, ho_23_27, hf_23_27, hk_23_27, hw_23_27, ho_23_28, hf_23_28, ho_23_29, hf_23_29, ho_23_30, hf_23_30, hk_23_30, hw_23_30, ho_23_31, hf_23_31, hk_23_31, hw_23_31, ho_23_32, hf_23_32, ho_23_33, hf_23_33, ho_23_34, hf_23_34, hk_23_34, hw_23_34, ho_23_35, hf_23_35, hk_23_35, hw_23_35, ho_23_36, hf_23_36, hk_23_36, hw_23_36, ho_23_37, hf_23_37, ho_23_38, hf_23_38, ho_23_39, hf_23_39, hn_24, hi_24, hj_24, hg_24, hu_24, hn_25, hi_25, hj_25, hg_25, hu_25, hn_26, hi_26, hj_26, hg_26, hu_26, hn_27, hi_27, hg_27, hu_27, hn_28, hi_28, hg_28, hu_28, hn_29, hi_29, hj_29, hg_29, hu_29, hn_30, hi_30, hj_30, hg_30, hu_30, hn_31, hi_31, hj_31, hg_31, hu_31, hn_32, hi_32, hj_32, hg_32, hu_32, hn_33, hi_33, hj_33, hg_33, hu_33, hn_34, hi_34, hj_34, hg_34, hu_34, hn_35, hi_35, hj_35, hg_35, hu_35, hn_36, hi_36, hj_36, hg_36, hu_36, hn_37, hi_37, hg_37, hu_37, hn_38, hi_38, hj_38, hg_38, hu_38, hn_39, hi_39, hj_39, hg_39, hu_39, hn_40, hi_40, hj_40, hg_40, hu_40, hn_41, hi_41, hj_41, hg_41, hu_41, hn_42, hi_42, hg_42, hu_42, hn_43, hi_43, hg_43, hu_43, hn_44, hi_44, hj_44, hg_44, hu_44, hn_45, hi_45, hg_45, hu_45, rI_57, rI_58, a1, a4, q, rso_1, q2, R_wrong hR d 1 x hx hN, hF1 1 (by omega), decide_true]
  · rw [see_F q, if_neg q, adv_F q]
    simp (disch := first | omega | exact zb_1 | exact zb_0 | exact zb_n1 | exact zb_n0) only [x193_0, x193_0N, x193_1, x193_4, x193_7, x193_7N, x193_8, x193_11, x193_11N, x193_12, x193_15, x193_16, x193_17, x193_20, x193_20N, x193_21, x193_22, x193_25, x193_70, x193_70N, x193_71, x193_74, x193_77, x193_78, x193_79, x193_79N, x193_80, x193_81, x193_84, x193_85, x193_86, x193_89, x193_89N, x193_90, x193_93, x193_93N, x193_94, x193_97, x193_98, x193_99, x193_100, x193_101, x193_28, x193_28N, x193_29, x193_32, x193_35, x193_35N, x193_36, x193_39, x193_39N, x193_40, x193_43, x193_44, x193_45, x193_46, x193_47, x193_50, x193_50N, x193_51, x193_54, x193_54N, x193_55, x193_58, x193_59, x193_60, x193_61, x193_62, x193_65, x193_65N, x193_66, x193_67, mq_dl_int, mq_dl_ref, mq_dl_null, mq_dl_none, mc_some, Option.toList_some, Option.toList_none, List.cons_append, List.nil_append, zb_1, zb_0, ↓reduceIte, if_true, if_false, not_true_eq_false, not_false_eq_true, Bool.false_eq_true, z_10, z_01, eq_self, Bool.and_self, true_or, or_true, false_or, or_false, true_and, and_true, false_and, and_false, and_self, or_self, Nat.reduceLT, Nat.reduceEqDiff, Nat.reduceLeDiff, Nat.reduceAdd, Nat.reduceMul, Nat.reduceSub, zn_lit, zn_add, zn_mul, zn_sub, zn_addneg, zn_lt, zn_le, zn_eq, zn_clamp, zn_in, zn_long, hp_1, hp_21, upd_zu, updL_zu, updQ_zu, zu_eq, zu_ne, ho_23, ho_23_0, hf_23_0, hk_23_0, hw_23_0, ho_23_1, hf_23_1, ho_23_2, hf_23_2, hk_23_2, hw_23_2, ho_23_3, hf_23_3, hk_23_3, hw_23_3, ho_23_4, hf_23_4, ho_23_5, hf_23_5, ho_23_6, hf_23_6, ho_23_7, hf_23_7, hk_23_7, hw_23_7, ho_23_8, hf_23_8, hk_23_8, hw_23_8, ho_23_9, hf_23_9, ho_23_10, hf_23_10, ho_23_11, hf_23_11, hk_23_11, hw_23_11, ho_23_12, hf_23_12, hk_23_12, hw_23_12, ho_23_13, hf_23_13, ho_23_14, hf_23_14, ho_23_15, hf_23_15, ho_23_16, hf_23_16, hk_23_16, hw_23_16, ho_23_17, hf_23_17, ho_23_18, hf_23_18, ho_23_19, hf_23_19, hk_23_19, hw_23_19, ho_23_20, hf_23_20, ho_23_21, hf_23_21, hk_23_21, hw_23_21, ho_23_22, hf_23_22, hk_23_22, hw_23_22, ho_23_23, hf_23_23, hk_23_23, hw_23_23, ho_23_24, hf_23_24, hk_23_24, hw_23_24, ho_23_25, hf_23_25, ho_23_26, hf_23_26, ho_23_27, hf_23_27, hk_23_27, hw_23_27, ho_23_28, hf_23_28, ho_23_29, hf_23_29, ho_23_30, hf_23_30, hk_23_30, hw_23_30, ho_23_31, hf_23_31, hk_23_31, hw_23_31, ho_23_32, hf_23_32, ho_23_33, hf_23_33, ho_23_34, hf_23_34, hk_23_34, hw_23_34, ho_23_35, hf_23_35, hk_23_35, hw_23_35, ho_23_36, hf_23_36, hk_23_36, hw_23_36, ho_23_37, hf_23_37, ho_23_38, hf_23_38, ho_23_39, hf_23_39, hn_24, hi_24, hj_24, hg_24, hu_24, hn_25, hi_25, hj_25, hg_25, hu_25, hn_26, hi_26, hj_26, hg_26, hu_26, hn_27, hi_27, hg_27, hu_27, hn_28, hi_28, hg_28, hu_28, hn_29, hi_29, hj_29, hg_29, hu_29, hn_30, hi_30, hj_30, hg_30, hu_30, hn_31, hi_31, hj_31, hg_31, hu_31, hn_32, hi_32, hj_32, hg_32, hu_32, hn_33, hi_33, hj_33, hg_33, hu_33, hn_34, hi_34, hj_34, hg_34, hu_34, hn_35, hi_35, hj_35, hg_35, hu_35, hn_36, hi_36, hj_36, hg_36, hu_36, hn_37, hi_37, hg_37, hu_37, hn_38, hi_38, hj_38, hg_38, hu_38, hn_39, hi_39, hj_39, hg_39, hu_39, hn_40, hi_40, hj_40, hg_40, hu_40, hn_41, hi_41, hj_41, hg_41, hu_41, hn_42, hi_42, hg_42, hu_42, hn_43, hi_43, hg_43, hu_43, hn_44, hi_44, hj_44, hg_44, hu_44, hn_45, hi_45, hg_45, hu_45, rI_58, q, show ¬ x.2 ≤ 0 by omega]
end RN
/-! shares: the class -/
theorem put2_at (g : Nat → Int32) {i j k v k' : Nat} (hi : i < 6) (hj : j < 6) (hk : k < 6) (hk' : k' < 6) : put2 g i j k v ((i * 6 + j) * 6 + k') = if k' = k then zn v else g ((i * 6 + j) * 6 + k') := by
  unfold put2
  by_cases e : k' = k
  · subst e
    rw [if_pos rfl]
    by_cases e2 : (i * 6 + j) * 6 + k' = (j * 6 + i) * 6 + k'
    · rw [e2, zu_eq]
    · rw [zu_ne _ _ _ _ e2, zu_eq]
  · rw [if_neg e]
    rw [zu_ne _ _ _ _ (by omega), zu_ne _ _ _ _ (by omega)]
def TLD (m i j b : Nat) (g : Nat → Int32) : Prop := b < 64 ∧ ∀ k, k < m → b.testBit k = decide (¬ g ((i * 6 + j) * 6 + k) = zn 0)
theorem zn_ne0 {v : Nat} (h1 : 1 ≤ v) (h2 : v < 2147483648) : ¬ zn v = zn 0 := by
  rw [zn_eq _ _ h2 (by omega)]
  omega
theorem TLD_put {m i j b : Nat} {g : Nat → Int32} (h : TLD m i j b g) {k v : Nat} (hm : m ≤ 6) (hi : i < m) (hj : j < m) (hk : k < m) (hv : 1 ≤ v) (hv2 : v ≤ 999) : TLD m i j (b ||| 1 <<< k) (put2 g i j k v) := by
  refine ⟨?_, fun k' hk' => ?_⟩
  · have h1 : 1 <<< k < 64 := by
      have : ∀ k, k < 6 → 1 <<< k < 64 := by decide
      exact this k (by omega)
    have := Nat.or_lt_two_pow (n := 6) h.1 h1
    omega
  · rw [put2_at g (by omega) (by omega) (by omega) (by omega), Nat.testBit_or, h.2 k' hk', Nat.one_shiftLeft, Nat.testBit_two_pow]
    by_cases e : k' = k
    · subst e
      rw [if_pos rfl]
      have := zn_ne0 hv (by omega)
      simp [this]
    · rw [if_neg e]
      simp [Ne.symm e]
theorem STR_tc {c : Nat → mq_E} (h : STR c) {a m : Nat} (ha : a + 2 < 1000000000) (g r : Nat → Int32) : STR (tc c a m g r) := by
  intro i hi
  rw [tc_ne _ (by omega), tc_ne _ (by omega)]
  exact h i hi
section CS
variable {n s : Nat} {c : Nat → mq_E} {I : Nat → Int32} {J : Nat → Int64} {A : Nat → Nat → Int32} {B : Nat → Nat → Int64} {R : Nat → Value} {Q : Nat → Nat → Option Nat}
variable {L : Nat} {tp : Nat → Nat} {a m : Nat} {r : Nat → Int32}
theorem C_shl (h : TKp L tp I A) (hS : STR c) (ha : 46 ≤ a) (ha2 : a + 2 < 1000000000) (hm : m ≤ 6) (hl : I 153 = zn (m - 1)) (d i j : Nat) (hi : i < m) (hj : j < m) : ∀ (f w : Nat) (x : Nat × Nat) (b : Nat) (g : Nat → Int32) (o6 o7 : Option Value), w + f = 1000 → x.2 < 20000 → (x.2 = 0 → TLD m i j b g) → mz (d + 6) 121 6 [some (.ref 3), some (.ref a), some (.int (zn i)), some (.int (zn j)), some (.int (zn b)), some (.int (zn w)), o6, o7] [] (hp n s (tc c a m g r) (tI L tp I x) J A B R Q) = some (some none, hp n s (tc c a m (shF L tp m i j f x g).2 r) (tI L tp I (shF L tp m i j f x g).1) J A B R Q) := by
  have hL := h.1
  intro f
  induction f with
  | zero =>
    intro w x b g o6 o7 hw hx hb
    have e : w = 1000 := by omega
    subst e
    simp (disch := first | omega | exact zb_1 | exact zb_0 | exact zb_n1 | exact zb_n0) only [x121_6, x121_8, x121_11, x121_148, mq_dl_int, mq_dl_ref, mq_dl_null, mq_dl_none, mc_some, Option.toList_some, Option.toList_none, List.cons_append, List.nil_append, zb_1, zb_0, ↓reduceIte, if_true, if_false, not_true_eq_false, not_false_eq_true, Bool.false_eq_true, z_10, z_01, eq_self, Bool.and_self, true_or, or_true, false_or, or_false, true_and, and_true, false_and, and_false, and_self, or_self, Nat.reduceLT, Nat.reduceEqDiff, Nat.reduceLeDiff, Nat.reduceAdd, Nat.reduceMul, Nat.reduceSub, zn_lit, zn_add, zn_mul, zn_sub, zn_addneg, zn_lt, zn_le, zn_eq, zn_clamp, zn_in, zn_long, shF, Nat.le_refl]
  | succ f ih =>
    intro w x b g o6 o7 hw hx hb
    have hSt := STR_tc hS (m := m) ha2 g r
    rw [x121_6]
    unfold shF
    by_cases q : x.2 = 0
    · have hb := hb q
      by_cases q2 : tkS L tp (ps L tp x.1) = 2
      · rw [if_pos ⟨q, q2⟩]
        have b1 := see_b (tp := tp) hL hx 1 999
        have b2 := adv_b b1
        have b3 := sh3_b (tp := tp) hL hx
        have b4 := see_b (tp := tp) hL b3 0 (m - 1)
        have hnb := nbq_lt q2
        have e1 := C_see (n := n) (s := s) (c := tc c a m g r) (J := J) (B := B) (R := R) (Q := Q) h (d + 4) 1 999 (by omega) (by omega) x hx
        have e2 := C_adv (n := n) (s := s) (J := J) (B := B) (R := R) (Q := Q) h hSt (d + 1) _ b1
        have e3 := C_tw (n := n) (s := s) (J := J) (B := B) (R := R) (Q := Q) h hSt d 4 1000000005 (by omega) rfl _ b2
        have e4 := C_see (n := n) (s := s) (c := tc c a m g r) (J := J) (B := B) (R := R) (Q := Q) h (d + 4) 0 (m - 1) (by omega) (by omega) _ b3
        unfold sh3 at e4
        rw [seev_2 q2] at e1
        have e0 : mz (d + 6) 121 8 [some (.ref 3), some (.ref a), some (.int (zn i)), some (.int (zn j)), some (.int (zn b)), some (.int (zn w)), o6, o7] [.int (zn w)] (hp n s (tc c a m g r) (tI L tp I x) J A B R Q) = mz (d + 6) 121 77 [some (.ref 3), some (.ref a), some (.int (zn i)), some (.int (zn j)), some (.int (zn b)), some (.int (zn w)), some (.int (zn (nbq L tp x.1))), some (.int (seev L tp (sh3 L tp x)))] [] (hp n s (tc c a m g r) (tI L tp I (see L tp 0 (m - 1) (sh3 L tp x))) J A B R Q) := by
          unfold sh3
          simp (disch := first | omega | exact zb_1 | exact zb_0 | exact zb_n1 | exact zb_n0) only [x121_8, x121_11, x121_14, x121_15, x121_18, x121_21, x121_24, x121_25, x121_28, x121_31, x121_34, x121_35, x121_38, x121_39, x121_42, x121_45, x121_47, x121_48, x121_51, x121_54, x121_55, x121_58, x121_60, x121_63, x121_64, x121_67, x121_68, x121_69, x121_72, x121_75, mq_dl_int, mq_dl_ref, mq_dl_null, mq_dl_none, mc_some, Option.toList_some, Option.toList_none, List.cons_append, List.nil_append, zb_1, zb_0, ↓reduceIte, if_true, if_false, not_true_eq_false, not_false_eq_true, Bool.false_eq_true, z_10, z_01, eq_self, Bool.and_self, true_or, or_true, false_or, or_false, true_and, and_true, false_and, and_false, and_self, or_self, Nat.reduceLT, Nat.reduceEqDiff, Nat.reduceLeDiff, Nat.reduceAdd, Nat.reduceMul, Nat.reduceSub, zn_lit, zn_add, zn_mul, zn_sub, zn_addneg, zn_lt, zn_le, zn_eq, zn_clamp, zn_in, zn_long, hp_1, hp_21, upd_zu, updL_zu, updQ_zu, zu_eq, zu_ne, ho_0, ho_0_0, hf_0_0, ho_0_1, hf_0_1, ho_0_2, hf_0_2, ho_0_3, hf_0_3, ho_0_4, hf_0_4, ho_0_5, hf_0_5, ho_0_6, hf_0_6, ho_0_7, hf_0_7, hk_0_7, hw_0_7, ho_1, ho_1_0, hf_1_0, ho_1_1, hf_1_1, hk_1_1, hw_1_1, ho_1_2, hf_1_2, hk_1_2, hw_1_2, ho_1_3, hf_1_3, hk_1_3, hw_1_3, ho_1_4, hf_1_4, hk_1_4, hw_1_4, ho_1_5, hf_1_5, hk_1_5, hw_1_5, hn_2, hi_2, hg_2, hu_2, ho_3, ho_3_0, hf_3_0, ho_3_1, hf_3_1, ho_3_2, hf_3_2, hk_3_2, hw_3_2, ho_3_3, hf_3_3, hk_3_3, hw_3_3, hn_4, hi_4, hj_4, hg_4, hu_4, ho_5, ho_5_0, hf_5_0, ho_5_1, hf_5_1, ho_5_2, hf_5_2, ho_5_3, hf_5_3, hk_5_3, hw_5_3, ho_6, ho_6_0, hf_6_0, ho_6_1, hf_6_1, ho_6_2, hf_6_2, ho_6_3, hf_6_3, hk_6_3, hw_6_3, hn_7, hi_7, hj_7, hg_7, hu_7, hn_8, hi_8, hj_8, hg_8, hu_8, hn_9, hi_9, hj_9, hg_9, hu_9, ho_10, ho_10_0, hf_10_0, ho_10_1, hf_10_1, ho_10_2, hf_10_2, ho_10_3, hf_10_3, hk_10_3, hw_10_3, ho_10_4, hf_10_4, hk_10_4, hkN_10_4, hw_10_4, hn_11, hi_11, hj_11, hg_11, hu_11, hn_12, hi_12, hj_12, hg_12, hu_12, hn_13, hi_13, hj_13, hg_13, hu_13, hn_14, hi_14, hg_14, hu_14, hn_15, hi_15, hg_15, hu_15, ho_16, ho_16_0, hf_16_0, ho_16_1, hf_16_1, ho_16_2, hf_16_2, hk_16_2, hw_16_2, ho_16_3, hf_16_3, hk_16_3, hw_16_3, ho_16_4, hf_16_4, hk_16_4, hkN_16_4, hw_16_4, hn_17, hi_17, hg_17, hu_17, hn_18, hi_18, hg_18, hu_18, hn_22, hi_22, hg_22, hu_22, C_fine, C_num, e1, e2, e3, e4, tI_ne, hl, q, q2, decide_true, zo_t, show ¬ 1000 ≤ w by omega]
        rw [e0]
        by_cases q3 : (see L tp 0 (m - 1) (sh3 L tp x)).2 = 0
        · obtain ⟨a1, a2, a3, a4, a5⟩ := see_fine q3
          have hk := nbq_lt a2
          rw [seev_2 a2]
          have hkm : nbq L tp (sh3 L tp x).1 < m := by omega
          have hbt := hb.2 _ hkm
          have hb64 := hb.1
          by_cases q4 : g ((i * 6 + j) * 6 + nbq L tp (sh3 L tp x).1) = zn 0
          · have e5 : sh5 L tp m i j g x = see L tp 0 (m - 1) (sh3 L tp x) := by unfold sh5; rw [if_neg (fun e => e.2 q4)]
            have e6 : shG L tp m i j g x = put2 g i j (nbq L tp (sh3 L tp x).1) (nbq L tp x.1) := by unfold shG; rw [e5, if_pos q3]
            have f5 : (sh5 L tp m i j g x).2 = 0 := by rw [e5]; exact q3
            obtain ⟨-, -, c3, c4, -⟩ := sh5_fine f5
            rw [e5, e6, ← ih (w + 1) _ (b ||| 1 <<< nbq L tp (sh3 L tp x).1) _ (some (.int (zn (nbq L tp x.1)))) (some (.int (zn (nbq L tp (sh3 L tp x).1)))) (by omega) (adv_b b4) (fun _ => TLD_put hb hm hi hj hkm c3 c4)]
            rw [q4] at hbt
            have hbf : b.testBit (nbq L tp (sh3 L tp x).1) = false := by rw [hbt]; simp
            have eb := B_both (n := n) (s := s) (c := c) (g := g) (r := r) (I := tI L tp I (see L tp 0 (m - 1) (sh3 L tp x))) (J := J) (A := A) (B := B) (R := R) (Q := Q) ha hm (d + 3) i j _ hi hj hkm (zn (nbq L tp x.1))
            have ea := C_adv (n := n) (s := s) (J := J) (B := B) (R := R) (Q := Q) h (STR_tc hS (m := m) ha2 (put2 g i j (nbq L tp (sh3 L tp x).1) (nbq L tp x.1)) r) (d + 1) _ b4
            unfold put2 at ea ⊢
            simp (disch := first | omega | exact zb_1 | exact zb_0 | exact zb_n1 | exact zb_n0) only [x121_77, x121_78, x121_81, x121_84, x121_87, x121_89, x121_91, x121_92, x121_93, x121_94, x121_95, x121_106, x121_107, x121_110, x121_113, x121_116, x121_118, x121_119, x121_121, x121_122, x121_123, x121_125, x121_126, x121_127, x121_128, x121_130, x121_132, x121_135, x121_136, x121_139, x121_142, x121_145, mq_dl_int, mq_dl_ref, mq_dl_null, mq_dl_none, mc_some, Option.toList_some, Option.toList_none, List.cons_append, List.nil_append, zb_1, zb_0, ↓reduceIte, if_true, if_false, not_true_eq_false, not_false_eq_true, Bool.false_eq_true, z_10, z_01, eq_self, Bool.and_self, true_or, or_true, false_or, or_false, true_and, and_true, false_and, and_false, and_self, or_self, Nat.reduceLT, Nat.reduceEqDiff, Nat.reduceLeDiff, Nat.reduceAdd, Nat.reduceMul, Nat.reduceSub, zn_lit, zn_add, zn_mul, zn_sub, zn_addneg, zn_lt, zn_le, zn_eq, zn_clamp, zn_in, zn_long, hp_1, hp_21, upd_zu, updL_zu, updQ_zu, zu_eq, zu_ne, ho_0, ho_0_0, hf_0_0, ho_0_1, hf_0_1, ho_0_2, hf_0_2, ho_0_3, hf_0_3, ho_0_4, hf_0_4, ho_0_5, hf_0_5, ho_0_6, hf_0_6, ho_0_7, hf_0_7, hk_0_7, hw_0_7, ho_1, ho_1_0, hf_1_0, ho_1_1, hf_1_1, hk_1_1, hw_1_1, ho_1_2, hf_1_2, hk_1_2, hw_1_2, ho_1_3, hf_1_3, hk_1_3, hw_1_3, ho_1_4, hf_1_4, hk_1_4, hw_1_4, ho_1_5, hf_1_5, hk_1_5, hw_1_5, hn_2, hi_2, hg_2, hu_2, ho_3, ho_3_0, hf_3_0, ho_3_1, hf_3_1, ho_3_2, hf_3_2, hk_3_2, hw_3_2, ho_3_3, hf_3_3, hk_3_3, hw_3_3, hn_4, hi_4, hj_4, hg_4, hu_4, ho_5, ho_5_0, hf_5_0, ho_5_1, hf_5_1, ho_5_2, hf_5_2, ho_5_3, hf_5_3, hk_5_3, hw_5_3, ho_6, ho_6_0, hf_6_0, ho_6_1, hf_6_1, ho_6_2, hf_6_2, ho_6_3, hf_6_3, hk_6_3, hw_6_3, hn_7, hi_7, hj_7, hg_7, hu_7, hn_8, hi_8, hj_8, hg_8, hu_8, hn_9, hi_9, hj_9, hg_9, hu_9, ho_10, ho_10_0, hf_10_0, ho_10_1, hf_10_1, ho_10_2, hf_10_2, ho_10_3, hf_10_3, hk_10_3, hw_10_3, ho_10_4, hf_10_4, hk_10_4, hkN_10_4, hw_10_4, hn_11, hi_11, hj_11, hg_11, hu_11, hn_12, hi_12, hj_12, hg_12, hu_12, hn_13, hi_13, hj_13, hg_13, hu_13, hn_14, hi_14, hg_14, hu_14, hn_15, hi_15, hg_15, hu_15, ho_16, ho_16_0, hf_16_0, ho_16_1, hf_16_1, ho_16_2, hf_16_2, hk_16_2, hw_16_2, ho_16_3, hf_16_3, hk_16_3, hw_16_3, ho_16_4, hf_16_4, hk_16_4, hkN_16_4, hw_16_4, hn_17, hi_17, hg_17, hu_17, hn_18, hi_18, hg_18, hu_18, hn_22, hi_22, hg_22, hu_22, C_fine, tc_0 ha, q3, decide_true, zo_t, zn_shr, zn_shl, zn_bt, zn_or, hbf, zo_e1, eb, ea]
          · have e5 : sh5 L tp m i j g x = flt L tp 3 (see L tp 0 (m - 1) (sh3 L tp x)) := by unfold sh5; rw [if_pos ⟨q3, q4⟩]
            have f3 := flt_n (L := L) (tp := tp) (x := see L tp 0 (m - 1) (sh3 L tp x)) (e := 3) (by omega)
            have e6 : shG L tp m i j g x = g := by unfold shG; rw [e5, if_neg f3]
            have b5 := flt_b (tp := tp) hL b4 3 (by omega)
            rw [e5, e6, ← ih (w + 1) _ b _ (some (.int (zn (nbq L tp x.1)))) (some (.int (zn (nbq L tp (sh3 L tp x).1)))) (by omega) (adv_b b5) (fun _ => hb)]
            have hbf : b.testBit (nbq L tp (sh3 L tp x).1) = true := by rw [hbt]; simp [q4]
            have ea := C_adv (n := n) (s := s) (J := J) (B := B) (R := R) (Q := Q) h hSt (d + 1) _ b5
            have ef := C_fail (n := n) (s := s) (c := tc c a m g r) (I := I) (J := J) (A := A) (B := B) (R := R) (Q := Q) (tp := tp) hL (d + 5) 3 _ b4
            simp (disch := first | omega | exact zb_1 | exact zb_0 | exact zb_n1 | exact zb_n0) only [x121_77, x121_78, x121_81, x121_84, x121_87, x121_89, x121_91, x121_92, x121_93, x121_94, x121_95, x121_98, x121_99, x121_102, x121_103, x121_106, x121_107, x121_110, x121_113, x121_135, x121_136, x121_139, x121_142, x121_145, mq_dl_int, mq_dl_ref, mq_dl_null, mq_dl_none, mc_some, Option.toList_some, Option.toList_none, List.cons_append, List.nil_append, zb_1, zb_0, ↓reduceIte, if_true, if_false, not_true_eq_false, not_false_eq_true, Bool.false_eq_true, z_10, z_01, eq_self, Bool.and_self, true_or, or_true, false_or, or_false, true_and, and_true, false_and, and_false, and_self, or_self, Nat.reduceLT, Nat.reduceEqDiff, Nat.reduceLeDiff, Nat.reduceAdd, Nat.reduceMul, Nat.reduceSub, zn_lit, zn_add, zn_mul, zn_sub, zn_addneg, zn_lt, zn_le, zn_eq, zn_clamp, zn_in, zn_long, hp_1, hp_21, upd_zu, updL_zu, updQ_zu, zu_eq, zu_ne, ho_0, ho_0_0, hf_0_0, ho_0_1, hf_0_1, ho_0_2, hf_0_2, ho_0_3, hf_0_3, ho_0_4, hf_0_4, ho_0_5, hf_0_5, ho_0_6, hf_0_6, ho_0_7, hf_0_7, hk_0_7, hw_0_7, ho_1, ho_1_0, hf_1_0, ho_1_1, hf_1_1, hk_1_1, hw_1_1, ho_1_2, hf_1_2, hk_1_2, hw_1_2, ho_1_3, hf_1_3, hk_1_3, hw_1_3, ho_1_4, hf_1_4, hk_1_4, hw_1_4, ho_1_5, hf_1_5, hk_1_5, hw_1_5, hn_2, hi_2, hg_2, hu_2, ho_3, ho_3_0, hf_3_0, ho_3_1, hf_3_1, ho_3_2, hf_3_2, hk_3_2, hw_3_2, ho_3_3, hf_3_3, hk_3_3, hw_3_3, hn_4, hi_4, hj_4, hg_4, hu_4, ho_5, ho_5_0, hf_5_0, ho_5_1, hf_5_1, ho_5_2, hf_5_2, ho_5_3, hf_5_3, hk_5_3, hw_5_3, ho_6, ho_6_0, hf_6_0, ho_6_1, hf_6_1, ho_6_2, hf_6_2, ho_6_3, hf_6_3, hk_6_3, hw_6_3, hn_7, hi_7, hj_7, hg_7, hu_7, hn_8, hi_8, hj_8, hg_8, hu_8, hn_9, hi_9, hj_9, hg_9, hu_9, ho_10, ho_10_0, hf_10_0, ho_10_1, hf_10_1, ho_10_2, hf_10_2, ho_10_3, hf_10_3, hk_10_3, hw_10_3, ho_10_4, hf_10_4, hk_10_4, hkN_10_4, hw_10_4, hn_11, hi_11, hj_11, hg_11, hu_11, hn_12, hi_12, hj_12, hg_12, hu_12, hn_13, hi_13, hj_13, hg_13, hu_13, hn_14, hi_14, hg_14, hu_14, hn_15, hi_15, hg_15, hu_15, ho_16, ho_16_0, hf_16_0, ho_16_1, hf_16_1, ho_16_2, hf_16_2, hk_16_2, hw_16_2, ho_16_3, hf_16_3, hk_16_3, hw_16_3, ho_16_4, hf_16_4, hk_16_4, hkN_16_4, hw_16_4, hn_17, hi_17, hg_17, hu_17, hn_18, hi_18, hg_18, hu_18, hn_22, hi_22, hg_22, hu_22, C_fine, q3, f3, decide_true, decide_false, zo_t, zo_f, zn_shr, zn_bt, hbf, zo_e1, ef, ea]
        · have e5 : sh5 L tp m i j g x = see L tp 0 (m - 1) (sh3 L tp x) := by unfold sh5; rw [if_neg (fun e => q3 e.1)]
          have e6 : shG L tp m i j g x = g := by unfold shG; rw [e5, if_neg q3]
          rw [e5, e6, ← ih (w + 1) _ b _ (some (.int (zn (nbq L tp x.1)))) (some (.int (seev L tp (sh3 L tp x)))) (by omega) (adv_b b4) (fun _ => hb)]
          have ea := C_adv (n := n) (s := s) (J := J) (B := B) (R := R) (Q := Q) h hSt (d + 1) _ b4
          simp (disch := first | omega | exact zb_1 | exact zb_0 | exact zb_n1 | exact zb_n0) only [x121_77, x121_78, x121_81, x121_84, x121_106, x121_107, x121_110, x121_113, x121_135, x121_136, x121_139, x121_142, x121_145, mq_dl_int, mq_dl_ref, mq_dl_null, mq_dl_none, mc_some, Option.toList_some, Option.toList_none, List.cons_append, List.nil_append, zb_1, zb_0, ↓reduceIte, if_true, if_false, not_true_eq_false, not_false_eq_true, Bool.false_eq_true, z_10, z_01, eq_self, Bool.and_self, true_or, or_true, false_or, or_false, true_and, and_true, false_and, and_false, and_self, or_self, Nat.reduceLT, Nat.reduceEqDiff, Nat.reduceLeDiff, Nat.reduceAdd, Nat.reduceMul, Nat.reduceSub, zn_lit, zn_add, zn_mul, zn_sub, zn_addneg, zn_lt, zn_le, zn_eq, zn_clamp, zn_in, zn_long, hp_1, hp_21, upd_zu, updL_zu, updQ_zu, zu_eq, zu_ne, ho_0, ho_0_0, hf_0_0, ho_0_1, hf_0_1, ho_0_2, hf_0_2, ho_0_3, hf_0_3, ho_0_4, hf_0_4, ho_0_5, hf_0_5, ho_0_6, hf_0_6, ho_0_7, hf_0_7, hk_0_7, hw_0_7, ho_1, ho_1_0, hf_1_0, ho_1_1, hf_1_1, hk_1_1, hw_1_1, ho_1_2, hf_1_2, hk_1_2, hw_1_2, ho_1_3, hf_1_3, hk_1_3, hw_1_3, ho_1_4, hf_1_4, hk_1_4, hw_1_4, ho_1_5, hf_1_5, hk_1_5, hw_1_5, hn_2, hi_2, hg_2, hu_2, ho_3, ho_3_0, hf_3_0, ho_3_1, hf_3_1, ho_3_2, hf_3_2, hk_3_2, hw_3_2, ho_3_3, hf_3_3, hk_3_3, hw_3_3, hn_4, hi_4, hj_4, hg_4, hu_4, ho_5, ho_5_0, hf_5_0, ho_5_1, hf_5_1, ho_5_2, hf_5_2, ho_5_3, hf_5_3, hk_5_3, hw_5_3, ho_6, ho_6_0, hf_6_0, ho_6_1, hf_6_1, ho_6_2, hf_6_2, ho_6_3, hf_6_3, hk_6_3, hw_6_3, hn_7, hi_7, hj_7, hg_7, hu_7, hn_8, hi_8, hj_8, hg_8, hu_8, hn_9, hi_9, hj_9, hg_9, hu_9, ho_10, ho_10_0, hf_10_0, ho_10_1, hf_10_1, ho_10_2, hf_10_2, ho_10_3, hf_10_3, hk_10_3, hw_10_3, ho_10_4, hf_10_4, hk_10_4, hkN_10_4, hw_10_4, hn_11, hi_11, hj_11, hg_11, hu_11, hn_12, hi_12, hj_12, hg_12, hu_12, hn_13, hi_13, hj_13, hg_13, hu_13, hn_14, hi_14, hg_14, hu_14, hn_15, hi_15, hg_15, hu_15, ho_16, ho_16_0, hf_16_0, ho_16_1, hf_16_1, ho_16_2, hf_16_2, hk_16_2, hw_16_2, ho_16_3, hf_16_3, hk_16_3, hw_16_3, ho_16_4, hf_16_4, hk_16_4, hkN_16_4, hw_16_4, hn_17, hi_17, hg_17, hu_17, hn_18, hi_18, hg_18, hu_18, hn_22, hi_22, hg_22, hu_22, C_fine, q3, decide_false, zo_f, ea]
      · rw [if_neg (fun e => q2 e.2)]
        simp (disch := first | omega | exact zb_1 | exact zb_0 | exact zb_n1 | exact zb_n0) only [x121_8, x121_11, x121_14, x121_15, x121_18, x121_21, x121_24, x121_25, x121_28, x121_31, x121_148, mq_dl_int, mq_dl_ref, mq_dl_null, mq_dl_none, mc_some, Option.toList_some, Option.toList_none, List.cons_append, List.nil_append, zb_1, zb_0, ↓reduceIte, if_true, if_false, not_true_eq_false, not_false_eq_true, Bool.false_eq_true, z_10, z_01, eq_self, Bool.and_self, true_or, or_true, false_or, or_false, true_and, and_true, false_and, and_false, and_self, or_self, Nat.reduceLT, Nat.reduceEqDiff, Nat.reduceLeDiff, Nat.reduceAdd, Nat.reduceMul, Nat.reduceSub, zn_lit, zn_add, zn_mul, zn_sub, zn_addneg, zn_lt, zn_le, zn_eq, zn_clamp, zn_in, zn_long, hp_1, hp_21, upd_zu, updL_zu, updQ_zu, zu_eq, zu_ne, ho_0, ho_0_0, hf_0_0, ho_0_1, hf_0_1, ho_0_2, hf_0_2, ho_0_3, hf_0_3, ho_0_4, hf_0_4, ho_0_5, hf_0_5, ho_0_6, hf_0_6, ho_0_7, hf_0_7, hk_0_7, hw_0_7, ho_1, ho_1_0, hf_1_0, ho_1_1, hf_1_1, hk_1_1, hw_1_1, ho_1_2, hf_1_2, hk_1_2, hw_1_2, ho_1_3, hf_1_3, hk_1_3, hw_1_3, ho_1_4, hf_1_4, hk_1_4, hw_1_4, ho_1_5, hf_1_5, hk_1_5, hw_1_5, hn_2, hi_2, hg_2, hu_2, ho_3, ho_3_0, hf_3_0, ho_3_1, hf_3_1, ho_3_2, hf_3_2, hk_3_2, hw_3_2, ho_3_3, hf_3_3, hk_3_3, hw_3_3, hn_4, hi_4, hj_4, hg_4, hu_4, ho_5, ho_5_0, hf_5_0, ho_5_1, hf_5_1, ho_5_2, hf_5_2, ho_5_3, hf_5_3, hk_5_3, hw_5_3, ho_6, ho_6_0, hf_6_0, ho_6_1, hf_6_1, ho_6_2, hf_6_2, ho_6_3, hf_6_3, hk_6_3, hw_6_3, hn_7, hi_7, hj_7, hg_7, hu_7, hn_8, hi_8, hj_8, hg_8, hu_8, hn_9, hi_9, hj_9, hg_9, hu_9, ho_10, ho_10_0, hf_10_0, ho_10_1, hf_10_1, ho_10_2, hf_10_2, ho_10_3, hf_10_3, hk_10_3, hw_10_3, ho_10_4, hf_10_4, hk_10_4, hkN_10_4, hw_10_4, hn_11, hi_11, hj_11, hg_11, hu_11, hn_12, hi_12, hj_12, hg_12, hu_12, hn_13, hi_13, hj_13, hg_13, hu_13, hn_14, hi_14, hg_14, hu_14, hn_15, hi_15, hg_15, hu_15, ho_16, ho_16_0, hf_16_0, ho_16_1, hf_16_1, ho_16_2, hf_16_2, hk_16_2, hw_16_2, ho_16_3, hf_16_3, hk_16_3, hw_16_3, ho_16_4, hf_16_4, hk_16_4, hkN_16_4, hw_16_4, hn_17, hi_17, hg_17, hu_17, hn_18, hi_18, hg_18, hu_18, hn_22, hi_22, hg_22, hu_22, C_fine, C_num, q, q2, decide_true, decide_false, zo_t, zo_f, show ¬ 1000 ≤ w by omega]
    · rw [if_neg (fun e => q e.1)]
      simp (disch := first | omega | exact zb_1 | exact zb_0 | exact zb_n1 | exact zb_n0) only [x121_8, x121_11, x121_14, x121_15, x121_18, x121_21, x121_148, mq_dl_int, mq_dl_ref, mq_dl_null, mq_dl_none, mc_some, Option.toList_some, Option.toList_none, List.cons_append, List.nil_append, zb_1, zb_0, ↓reduceIte, if_true, if_false, not_true_eq_false, not_false_eq_true, Bool.false_eq_true, z_10, z_01, eq_self, Bool.and_self, true_or, or_true, false_or, or_false, true_and, and_true, false_and, and_false, and_self, or_self, Nat.reduceLT, Nat.reduceEqDiff, Nat.reduceLeDiff, Nat.reduceAdd, Nat.reduceMul, Nat.reduceSub, zn_lit, zn_add, zn_mul, zn_sub, zn_addneg, zn_lt, zn_le, zn_eq, zn_clamp, zn_in, zn_long, hp_1, hp_21, upd_zu, updL_zu, updQ_zu, zu_eq, zu_ne, ho_0, ho_0_0, hf_0_0, ho_0_1, hf_0_1, ho_0_2, hf_0_2, ho_0_3, hf_0_3, ho_0_4, hf_0_4, ho_0_5, hf_0_5, ho_0_6, hf_0_6, ho_0_7, hf_0_7, hk_0_7, hw_0_7, ho_1, ho_1_0, hf_1_0, ho_1_1, hf_1_1, hk_1_1, hw_1_1, ho_1_2, hf_1_2, hk_1_2, hw_1_2, ho_1_3, hf_1_3, hk_1_3, hw_1_3, ho_1_4, hf_1_4, hk_1_4, hw_1_4, ho_1_5, hf_1_5, hk_1_5, hw_1_5, hn_2, hi_2, hg_2, hu_2, ho_3, ho_3_0, hf_3_0, ho_3_1, hf_3_1, ho_3_2, hf_3_2, hk_3_2, hw_3_2, ho_3_3, hf_3_3, hk_3_3, hw_3_3, hn_4, hi_4, hj_4, hg_4, hu_4, ho_5, ho_5_0, hf_5_0, ho_5_1, hf_5_1, ho_5_2, hf_5_2, ho_5_3, hf_5_3, hk_5_3, hw_5_3, ho_6, ho_6_0, hf_6_0, ho_6_1, hf_6_1, ho_6_2, hf_6_2, ho_6_3, hf_6_3, hk_6_3, hw_6_3, hn_7, hi_7, hj_7, hg_7, hu_7, hn_8, hi_8, hj_8, hg_8, hu_8, hn_9, hi_9, hj_9, hg_9, hu_9, ho_10, ho_10_0, hf_10_0, ho_10_1, hf_10_1, ho_10_2, hf_10_2, ho_10_3, hf_10_3, hk_10_3, hw_10_3, ho_10_4, hf_10_4, hk_10_4, hkN_10_4, hw_10_4, hn_11, hi_11, hj_11, hg_11, hu_11, hn_12, hi_12, hj_12, hg_12, hu_12, hn_13, hi_13, hj_13, hg_13, hu_13, hn_14, hi_14, hg_14, hu_14, hn_15, hi_15, hg_15, hu_15, ho_16, ho_16_0, hf_16_0, ho_16_1, hf_16_1, ho_16_2, hf_16_2, hk_16_2, hw_16_2, ho_16_3, hf_16_3, hk_16_3, hw_16_3, ho_16_4, hf_16_4, hk_16_4, hkN_16_4, hw_16_4, hn_17, hi_17, hg_17, hu_17, hn_18, hi_18, hg_18, hu_18, hn_22, hi_22, hg_22, hu_22, C_fine, q, decide_false, zo_f, show ¬ 1000 ≤ w by omega]
end CS
