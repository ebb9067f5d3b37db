/-! TABLE: the reference -/
section IN
variable {L : Nat} {tp : Nat → Nat} {m : Nat}
theorem shF_inc (i j : Nat) : ∀ (f : Nat) (x : Nat × Nat) (g : Nat → Int32), (shF L tp m i j f x g).1.2 = 0 → x.2 = 0 ∧ x.1 ≤ (shF L tp m i j f x g).1.1
  | 0, x, g, h => ⟨h, Nat.le_refl _⟩
  | f + 1, x, g, h => by
    unfold shF at h ⊢
    by_cases q : x.2 = 0 ∧ tkS L tp (ps L tp x.1) = 2
    · rw [if_pos q] at h ⊢
      obtain ⟨h1, h2⟩ := shF_inc i j f _ _ h
      obtain ⟨k1, k2⟩ := adv_fine h1
      obtain ⟨w1, w2, w3, w4, w5, w6, w7, w8, w9, w10⟩ := sh5_fine k1
      rw [k2, w9] at h2
      refine ⟨q.1, ?_⟩
      have h3 : x.1 + 1 + 1 + 1 ≤ _ := h2
      rw [k2, w9] 
      omega
    · rw [if_neg q] at h ⊢
      exact ⟨h, Nat.le_refl _⟩
theorem lnF_inc (S : LST) (h : (lnF L tp m S).1.2 = 0) : S.1.2 = 0 ∧ S.1.1 + 1 ≤ (lnF L tp m S).1.1 := by
  unfold lnF at h ⊢
  by_cases q : wdq L tp S.1.1 2 = true
  · rw [if_pos q] at h ⊢
    unfold tmF at h ⊢
    by_cases q4 : (t4 L tp m S.1).2 = 0
    · rw [if_pos q4] at h ⊢
      dsimp only at h ⊢
      obtain ⟨h1, h2, h3⟩ := tsg_fine h
      obtain ⟨k1, k2⟩ := shF_inc _ _ _ _ _ h1
      obtain ⟨f1, f2, f3, f4, -⟩ := t4_fine q4
      obtain ⟨j1, j2, j3⟩ := twd_fine k1
      obtain ⟨l1, l2⟩ := adv_fine j1
      have et5 : t5 L tp m S.1 S.2.1 = t4 L tp m S.1 := by
        unfold t5 at l1 ⊢
        by_cases h9 : S.2.1 (tmI L tp S.1 * 6 + tmJ L tp m S.1) = zn 0
        · rw [if_pos h9]
        · rw [if_neg h9] at l1; exact absurd l1 (flt_n (by omega))
      have e7 : (t7 L tp m S.1 S.2.1).1 = S.1.1 + 1 + 1 + 1 + 1 := by
        unfold t7
        rw [j3, l2, et5, f4]
      rw [h3]
      refine ⟨f1, ?_⟩
      show S.1.1 + 1 ≤ _ + 1
      omega
    · rw [if_neg q4] at h
      exact absurd h q4
  · rw [if_neg q] at h ⊢
    by_cases q' : wdq L tp S.1.1 5 = true
    · rw [if_pos q'] at h ⊢
      unfold rvF at h ⊢
      dsimp only at h ⊢
      obtain ⟨h1, h2, h3⟩ := tsg_fine h
      obtain ⟨l1, l2⟩ := adv_fine h1
      obtain ⟨g1, g2, g3, g4, -⟩ := r5_fine l1
      obtain ⟨c1, -⟩ := r2_fine g1
      rw [h3, l2, g4]
      refine ⟨c1, ?_⟩
      show S.1.1 + 1 ≤ S.1.1 + 1 + 1 + 1 + 1
      omega
    · rw [if_neg q'] at h
      exact absurd h (flt_n (by omega))
end IN
section RT
variable {n s : Nat} {c : Nat → mq_E} {I : Nat → Int32} {J : Nat → Int64} {A : Nat → Nat → Int32} {B : Nat → Nat → Int64} {R : Nat → Value} {Q : Nat → Nat → Option Nat}
variable {L : Nat} {tp : Nat → Nat} {N m : Nat}
theorem R_tlines (hL : L ≤ 1000) (ht2 : ∀ i, tp i < 128) (hWd : WRD B) (h1m : 1 ≤ m) (hm : m ≤ 6) (d : Nat) (o1 : Option Value) : ∀ (f : Nat) (S : LST) (y : Nat × Nat) (A : Nat → Nat → Int32), RTK L tp N (A 25) (A 26) (B 27) → y.2 = S.1.2 → y.2 < 20000 → (y.2 = 0 → y = S.1 ∧ S.1.1 ≤ N ∧ 1000 ≤ S.1.1 + f ∧ LIV m S ∧ MR m S (A 29) (A 30)) → ∃ (y' : Nat × Nat) (A' : Nat → Nat → Int32), y'.2 = (liF L tp m f S).1.2 ∧ y'.2 < 20000 ∧ (y'.2 = 0 → MR m (liF L tp m f S) (A' 29) (A' 30)) ∧ f1 (A 29) (A' 29) ∧ (∀ q, q ≠ 29 → q ≠ 30 → A' q = A q) ∧ mz (d + 5) 198 70 [some (.ref 23), o1] [] (hp n s c (rI I y) J A B R Q) = mz (d + 5) 198 102 [some (.ref 23), o1] [] (hp n s c (rI I y') J A' B R Q) := by
  have hexit : ∀ (y : Nat × Nat) (A : Nat → Nat → Int32), RTK L tp N (A 25) (A 26) (B 27) → y.2 < 20000 → (y.2 = 0 → y.1 ≤ N ∧ tkS L tp (ps L tp y.1) = 4) → mz (d + 5) 198 70 [some (.ref 23), o1] [] (hp n s c (rI I y) J A B R Q) = mz (d + 5) 198 102 [some (.ref 23), o1] [] (hp n s c (rI I y) J A B R Q) := by
    intro y A hR hy h
    by_cases q : y.2 = 0
    · obtain ⟨h1, h2⟩ := h q
      obtain ⟨a1, a2, a3, a4⟩ := RTK_at hR h1
      rw [x198_70]
      simp (disch := first | omega | exact zb_1 | exact zb_0 | exact zb_n1 | exact zb_n0) only [x198_71, x198_74, x198_77, x198_78, x198_81, x198_82, x198_85, x198_86, mq_dl_int, mq_dl_ref, mq_dl_null, mq_dl_none, mc_some, Option.toList_some, Option.toList_none, List.cons_append, List.nil_append, zb_1, zb_0, ↓reduceIte, if_true, if_false, not_true_eq_false, not_false_eq_true, Bool.false_eq_true, z_10, z_01, eq_self, Bool.and_self, true_or, or_true, false_or, or_false, true_and, and_true, false_and, and_false, and_self, or_self, Nat.reduceLT, Nat.reduceEqDiff, Nat.reduceLeDiff, Nat.reduceAdd, Nat.reduceMul, Nat.reduceSub, zn_lit, zn_add, zn_mul, zn_sub, zn_addneg, zn_lt, zn_le, zn_eq, zn_clamp, zn_in, zn_long, hp_1, hp_21, upd_zu, updL_zu, updQ_zu, zu_eq, zu_ne, ho_23, ho_23_0, hf_23_0, hk_23_0, hw_23_0, ho_23_1, hf_23_1, ho_23_2, hf_23_2, hk_23_2, hw_23_2, ho_23_3, hf_23_3, hk_23_3, hw_23_3, ho_23_4, hf_23_4, ho_23_5, hf_23_5, ho_23_6, hf_23_6, ho_23_7, hf_23_7, hk_23_7, hw_23_7, ho_23_8, hf_23_8, hk_23_8, hw_23_8, ho_23_9, hf_23_9, ho_23_10, hf_23_10, ho_23_11, hf_23_11, hk_23_11, hw_23_11, ho_23_12, hf_23_12, hk_23_12, hw_23_12, ho_23_13, hf_23_13, ho_23_14, hf_23_14, ho_23_15, hf_23_15, ho_23_16, hf_23_16, hk_23_16, hw_23_16, ho_23_17, hf_23_17, ho_23_18, hf_23_18, ho_23_19, hf_23_19, hk_23_19, hw_23_19, ho_23_20, hf_23_20, ho_23_21, hf_23_21, hk_23_21, hw_23_21, ho_23_22, hf_23_22, hk_23_22, hw_23_22, ho_23_23, hf_23_23, hk_23_23, hw_23_23, ho_23_24, hf_23_24, hk_23_24, hw_23_24, ho_23_25, hf_23_25, ho_23_26, hf_23_26, ho_23_27, hf_23_27, hk_23_27, hw_23_27, ho_23_28, hf_23_28, ho_23_29, hf_23_29, ho_23_30, hf_23_30, hk_23_30, hw_23_30, ho_23_31, hf_23_31, hk_23_31, hw_23_31, ho_23_32, hf_23_32, ho_23_33, hf_23_33, ho_23_34, hf_23_34, hk_23_34, hw_23_34, ho_23_35, hf_23_35, hk_23_35, hw_23_35, ho_23_36, hf_23_36, hk_23_36, hw_23_36, ho_23_37, hf_23_37, ho_23_38, hf_23_38, ho_23_39, hf_23_39, hn_24, hi_24, hj_24, hg_24, hu_24, hn_25, hi_25, hj_25, hg_25, hu_25, hn_26, hi_26, hj_26, hg_26, hu_26, hn_27, hi_27, hg_27, hu_27, hn_28, hi_28, hg_28, hu_28, hn_29, hi_29, hj_29, hg_29, hu_29, hn_30, hi_30, hj_30, hg_30, hu_30, hn_31, hi_31, hj_31, hg_31, hu_31, hn_32, hi_32, hj_32, hg_32, hu_32, hn_33, hi_33, hj_33, hg_33, hu_33, hn_34, hi_34, hj_34, hg_34, hu_34, hn_35, hi_35, hj_35, hg_35, hu_35, hn_36, hi_36, hj_36, hg_36, hu_36, hn_37, hi_37, hg_37, hu_37, hn_38, hi_38, hj_38, hg_38, hu_38, hn_39, hi_39, hj_39, hg_39, hu_39, hn_40, hi_40, hj_40, hg_40, hu_40, hn_41, hi_41, hj_41, hg_41, hu_41, hn_42, hi_42, hg_42, hu_42, hn_43, hi_43, hg_43, hu_43, hn_44, hi_44, hj_44, hg_44, hu_44, hn_45, hi_45, hg_45, hu_45, rI_57, rI_58, a1, a4, q, h2, rso, decide_true]
    · rw [x198_70]
      simp (disch := first | omega | exact zb_1 | exact zb_0 | exact zb_n1 | exact zb_n0) only [x198_71, x198_74, mq_dl_int, mq_dl_ref, mq_dl_null, mq_dl_none, mc_some, Option.toList_some, Option.toList_none, List.cons_append, List.nil_append, zb_1, zb_0, ↓reduceIte, if_true, if_false, not_true_eq_false, not_false_eq_true, Bool.false_eq_true, z_10, z_01, eq_self, Bool.and_self, true_or, or_true, false_or, or_false, true_and, and_true, false_and, and_false, and_self, or_self, Nat.reduceLT, Nat.reduceEqDiff, Nat.reduceLeDiff, Nat.reduceAdd, Nat.reduceMul, Nat.reduceSub, zn_lit, zn_add, zn_mul, zn_sub, zn_addneg, zn_lt, zn_le, zn_eq, zn_clamp, zn_in, zn_long, hp_1, hp_21, upd_zu, updL_zu, updQ_zu, zu_eq, zu_ne, ho_23, ho_23_0, hf_23_0, hk_23_0, hw_23_0, ho_23_1, hf_23_1, ho_23_2, hf_23_2, hk_23_2, hw_23_2, ho_23_3, hf_23_3, hk_23_3, hw_23_3, ho_23_4, hf_23_4, ho_23_5, hf_23_5, ho_23_6, hf_23_6, ho_23_7, hf_23_7, hk_23_7, hw_23_7, ho_23_8, hf_23_8, hk_23_8, hw_23_8, ho_23_9, hf_23_9, ho_23_10, hf_23_10, ho_23_11, hf_23_11, hk_23_11, hw_23_11, ho_23_12, hf_23_12, hk_23_12, hw_23_12, ho_23_13, hf_23_13, ho_23_14, hf_23_14, ho_23_15, hf_23_15, ho_23_16, hf_23_16, hk_23_16, hw_23_16, ho_23_17, hf_23_17, ho_23_18, hf_23_18, ho_23_19, hf_23_19, hk_23_19, hw_23_19, ho_23_20, hf_23_20, ho_23_21, hf_23_21, hk_23_21, hw_23_21, ho_23_22, hf_23_22, hk_23_22, hw_23_22, ho_23_23, hf_23_23, hk_23_23, hw_23_23, ho_23_24, hf_23_24, hk_23_24, hw_23_24, ho_23_25, hf_23_25, ho_23_26, hf_23_26, ho_23_27, hf_23_27, hk_23_27, hw_23_27, ho_23_28, hf_23_28, ho_23_29, hf_23_29, ho_23_30, hf_23_30, hk_23_30, hw_23_30, ho_23_31, hf_23_31, hk_23_31, hw_23_31, ho_23_32, hf_23_32, ho_23_33, hf_23_33, ho_23_34, hf_23_34, hk_23_34, hw_23_34, ho_23_35, hf_23_35, hk_23_35, hw_23_35, ho_23_36, hf_23_36, hk_23_36, hw_23_36, ho_23_37, hf_23_37, ho_23_38, hf_23_38, ho_23_39, hf_23_39, hn_24, hi_24, hj_24, hg_24, hu_24, hn_25, hi_25, hj_25, hg_25, hu_25, hn_26, hi_26, hj_26, hg_26, hu_26, hn_27, hi_27, hg_27, hu_27, hn_28, hi_28, hg_28, hu_28, hn_29, hi_29, hj_29, hg_29, hu_29, hn_30, hi_30, hj_30, hg_30, hu_30, hn_31, hi_31, hj_31, hg_31, hu_31, hn_32, hi_32, hj_32, hg_32, hu_32, hn_33, hi_33, hj_33, hg_33, hu_33, hn_34, hi_34, hj_34, hg_34, hu_34, hn_35, hi_35, hj_35, hg_35, hu_35, hn_36, hi_36, hj_36, hg_36, hu_36, hn_37, hi_37, hg_37, hu_37, hn_38, hi_38, hj_38, hg_38, hu_38, hn_39, hi_39, hj_39, hg_39, hu_39, hn_40, hi_40, hj_40, hg_40, hu_40, hn_41, hi_41, hj_41, hg_41, hu_41, hn_42, hi_42, hg_42, hu_42, hn_43, hi_43, hg_43, hu_43, hn_44, hi_44, hj_44, hg_44, hu_44, hn_45, hi_45, hg_45, hu_45, rI_58, q]
  intro f
  induction f with
  | zero =>
    intro S y A hR e0 hy h
    refine ⟨y, A, e0, hy, fun e => (h e).2.2.2.2, f1_refl _, fun _ _ _ => rfl, hexit y A hR hy ?_⟩
    intro q
    obtain ⟨h1, h2, h3, -⟩ := h q
    have h4 := hR.2.1
    have h5 : y.1 = N := by rw [h1]; omega
    refine ⟨by omega, ?_⟩
    rw [h5, hR.2.2.2.2]
    unfold tkS
    rw [if_pos (Nat.le_refl _)]
  | succ f ih =>
    intro S y A hR e0 hy h
    unfold liF
    by_cases q : S.1.2 = 0 ∧ ¬ tkS L tp (ps L tp S.1.1) = 4
    · rw [if_pos q]
      have qy : y.2 = 0 := by rw [e0]; exact q.1
      obtain ⟨h1, h2, h3, h4, h5⟩ := h qy
      subst h1
      obtain ⟨z, A1, z1, z2, z3, z4, z5, z6, z7⟩ := R_ln (n := n) (s := s) (c := c) (I := I) (J := J) (R := R) (Q := Q) hL hR hWd h1m hm d S q.1 h2 h4 h5
      have hR1 : RTK L tp N (A1 25) (A1 26) (B 27) := by rw [z6 25 (by omega) (by omega), z6 26 (by omega) (by omega)]; exact hR
      have k1 := R_ts (n := n) (s := s) (c := c) (I := I) (J := J) (R := R) (Q := Q) hR1 ht2 (d + 3) 59 (by omega) z z1 z2
      obtain ⟨y', A', g1, g2, g3, g4, g5, g6⟩ := ih (lnF L tp m S) (tsg L tp 59 z) A1 hR1 z3 (tsg_b hL z1 59) (fun e => by
        obtain ⟨e1, e2⟩ := z4 e
        have e3 : (lnF L tp m S).1.2 = 0 := by rw [← z3]; exact e
        obtain ⟨e4, e5⟩ := lnF_inc S e3
        refine ⟨e1, ?_, by omega, LIV_ln hm h4, e2⟩
        rw [← e1]
        obtain ⟨e6, e7, e8⟩ := tsg_fine e
        rw [e8]
        exact RTK_lt hR (z2 e6) (by rw [sgq_3 e7]; omega))
      refine ⟨y', A', g1, g2, g3, f1_trans z5 g4, fun q' h6 h7 => by rw [g5 q' h6 h7, z6 q' h6 h7], ?_⟩
      rw [← g6]
      obtain ⟨a1, a2, a3, a4⟩ := RTK_at hR h2
      have h8 := tkS_lt L tp (ps L tp S.1.1)
      have h9 : ¬ rso (tkS L tp (ps L tp S.1.1)) = 0 := by
        unfold rso
        split
        · omega
        · split <;> omega
      have h10 := rso_lt _ h8
      rw [x198_70]
      simp (disch := first | omega | exact zb_1 | exact zb_0 | exact zb_n1 | exact zb_n0) only [x198_71, x198_74, x198_77, x198_78, x198_81, x198_82, x198_85, x198_86, x198_89, x198_90, x198_93, x198_94, x198_96, x198_99, mq_dl_int, mq_dl_ref, mq_dl_null, mq_dl_none, mc_some, Option.toList_some, Option.toList_none, List.cons_append, List.nil_append, zb_1, zb_0, ↓reduceIte, if_true, if_false, not_true_eq_false, not_false_eq_true, Bool.false_eq_true, z_10, z_01, eq_self, Bool.and_self, true_or, or_true, false_or, or_false, true_and, and_true, false_and, and_false, and_self, or_self, Nat.reduceLT, Nat.reduceEqDiff, Nat.reduceLeDiff, Nat.reduceAdd, Nat.reduceMul, Nat.reduceSub, zn_lit, zn_add, zn_mul, zn_sub, zn_addneg, zn_lt, zn_le, zn_eq, zn_clamp, zn_in, zn_long, hp_1, hp_21, upd_zu, updL_zu, updQ_zu, zu_eq, zu_ne, ho_23, ho_23_0, hf_23_0, hk_23_0, hw_23_0, ho_23_1, hf_23_1, ho_23_2, hf_23_2, hk_23_2, hw_23_2, ho_23_3, hf_23_3, hk_23_3, hw_23_3, ho_23_4, hf_23_4, ho_23_5, hf_23_5, ho_23_6, hf_23_6, ho_23_7, hf_23_7, hk_23_7, hw_23_7, ho_23_8, hf_23_8, hk_23_8, hw_23_8, ho_23_9, hf_23_9, ho_23_10, hf_23_10, ho_23_11, hf_23_11, hk_23_11, hw_23_11, ho_23_12, hf_23_12, hk_23_12, hw_23_12, ho_23_13, hf_23_13, ho_23_14, hf_23_14, ho_23_15, hf_23_15, ho_23_16, hf_23_16, hk_23_16, hw_23_16, ho_23_17, hf_23_17, ho_23_18, hf_23_18, ho_23_19, hf_23_19, hk_23_19, hw_23_19, ho_23_20, hf_23_20, ho_23_21, hf_23_21, hk_23_21, hw_23_21, ho_23_22, hf_23_22, hk_23_22, hw_23_22, ho_23_23, hf_23_23, hk_23_23, hw_23_23, ho_23_24, hf_23_24, hk_23_24, hw_23_24, ho_23_25, hf_23_25, ho_23_26, hf_23_26, ho_23_27, hf_23_27, hk_23_27, hw_23_27, ho_23_28, hf_23_28, ho_23_29, hf_23_29, ho_23_30, hf_23_30, hk_23_30, hw_23_30, ho_23_31, hf_23_31, hk_23_31, hw_23_31, ho_23_32, hf_23_32, ho_23_33, hf_23_33, ho_23_34, hf_23_34, hk_23_34, hw_23_34, ho_23_35, hf_23_35, hk_23_35, hw_23_35, ho_23_36, hf_23_36, hk_23_36, hw_23_36, ho_23_37, hf_23_37, ho_23_38, hf_23_38, ho_23_39, hf_23_39, hn_24, hi_24, hj_24, hg_24, hu_24, hn_25, hi_25, hj_25, hg_25, hu_25, hn_26, hi_26, hj_26, hg_26, hu_26, hn_27, hi_27, hg_27, hu_27, hn_28, hi_28, hg_28, hu_28, hn_29, hi_29, hj_29, hg_29, hu_29, hn_30, hi_30, hj_30, hg_30, hu_30, hn_31, hi_31, hj_31, hg_31, hu_31, hn_32, hi_32, hj_32, hg_32, hu_32, hn_33, hi_33, hj_33, hg_33, hu_33, hn_34, hi_34, hj_34, hg_34, hu_34, hn_35, hi_35, hj_35, hg_35, hu_35, hn_36, hi_36, hj_36, hg_36, hu_36, hn_37, hi_37, hg_37, hu_37, hn_38, hi_38, hj_38, hg_38, hu_38, hn_39, hi_39, hj_39, hg_39, hu_39, hn_40, hi_40, hj_40, hg_40, hu_40, hn_41, hi_41, hj_41, hg_41, hu_41, hn_42, hi_42, hg_42, hu_42, hn_43, hi_43, hg_43, hu_43, hn_44, hi_44, hj_44, hg_44, hu_44, hn_45, hi_45, hg_45, hu_45, rI_57, rI_58, a1, a4, q.1, h9, z7, k1, decide_true]
    · rw [if_neg q]
      refine ⟨y, A, e0, hy, fun e => (h e).2.2.2.2, f1_refl _, fun _ _ _ => rfl, hexit y A hR hy ?_⟩
      intro e
      obtain ⟨h1, h2, -⟩ := h e
      subst h1
      refine ⟨h2, ?_⟩
      apply Classical.byContradiction
      intro e2
      exact q ⟨e, e2⟩
theorem R_fgl (d : Nat) : ∀ (t k : Nat) (tl : Nat → Int32), k + t = 36 → mz d 198 51 [some (.ref 23), some (.int (zn k))] [] (hp n s c I J (zu A 30 tl) B R Q) = mz d 198 70 [some (.ref 23), some (.int (zn 36))] [] (hp n s c I J (zu A 30 (zfl (fun _ => zn 0) tl k t)) B R Q) := by
  intro t
  induction t with
  | zero =>
    intro k tl hk
    have e : k = 36 := by omega
    subst e
    simp (disch := first | omega | exact zb_1 | exact zb_0 | exact zb_n1 | exact zb_n0) only [x198_51, x198_52, x198_54, mq_dl_int, mq_dl_ref, mq_dl_null, mq_dl_none, mc_some, Option.toList_some, Option.toList_none, List.cons_append, List.nil_append, zb_1, zb_0, ↓reduceIte, if_true, if_false, not_true_eq_false, not_false_eq_true, Bool.false_eq_true, z_10, z_01, eq_self, Bool.and_self, true_or, or_true, false_or, or_false, true_and, and_true, false_and, and_false, and_self, or_self, Nat.reduceLT, Nat.reduceEqDiff, Nat.reduceLeDiff, Nat.reduceAdd, Nat.reduceMul, Nat.reduceSub, zn_lit, zn_add, zn_mul, zn_sub, zn_addneg, zn_lt, zn_le, zn_eq, zn_clamp, zn_in, zn_long, zfl_0, Nat.le_refl]
  | succ t ih =>
    intro k tl hk
    rw [← zfl_s, ← ih (k + 1) _ (by omega), x198_51]
    simp (disch := first | omega | exact zb_1 | exact zb_0 | exact zb_n1 | exact zb_n0) only [x198_52, x198_54, x198_57, x198_58, x198_61, x198_62, x198_63, x198_64, x198_67, mq_dl_int, mq_dl_ref, mq_dl_null, mq_dl_none, mc_some, Option.toList_some, Option.toList_none, List.cons_append, List.nil_append, zb_1, zb_0, ↓reduceIte, if_true, if_false, not_true_eq_false, not_false_eq_true, Bool.false_eq_true, z_10, z_01, eq_self, Bool.and_self, true_or, or_true, false_or, or_false, true_and, and_true, false_and, and_false, and_self, or_self, Nat.reduceLT, Nat.reduceEqDiff, Nat.reduceLeDiff, Nat.reduceAdd, Nat.reduceMul, Nat.reduceSub, zn_lit, zn_add, zn_mul, zn_sub, zn_addneg, zn_lt, zn_le, zn_eq, zn_clamp, zn_in, zn_long, hp_1, hp_21, upd_zu, updL_zu, updQ_zu, zu_eq, zu_ne, ho_23, ho_23_0, hf_23_0, hk_23_0, hw_23_0, ho_23_1, hf_23_1, ho_23_2, hf_23_2, hk_23_2, hw_23_2, ho_23_3, hf_23_3, hk_23_3, hw_23_3, ho_23_4, hf_23_4, ho_23_5, hf_23_5, ho_23_6, hf_23_6, ho_23_7, hf_23_7, hk_23_7, hw_23_7, ho_23_8, hf_23_8, hk_23_8, hw_23_8, ho_23_9, hf_23_9, ho_23_10, hf_23_10, ho_23_11, hf_23_11, hk_23_11, hw_23_11, ho_23_12, hf_23_12, hk_23_12, hw_23_12, ho_23_13, hf_23_13, ho_23_14, hf_23_14, ho_23_15, hf_23_15, ho_23_16, hf_23_16, hk_23_16, hw_23_16, ho_23_17, hf_23_17, ho_23_18, hf_23_18, ho_23_19, hf_23_19, hk_23_19, hw_23_19, ho_23_20, hf_23_20, ho_23_21, hf_23_21, hk_23_21, hw_23_21, ho_23_22, hf_23_22, hk_23_22, hw_23_22, ho_23_23, hf_23_23, hk_23_23, hw_23_23, ho_23_24, hf_23_24, hk_23_24, hw_23_24, ho_23_25, hf_23_25, ho_23_26, hf_23_26, ho_23_27, hf_23_27, hk_23_27, hw_23_27, ho_23_28, hf_23_28, ho_23_29, hf_23_29, ho_23_30, hf_23_30, hk_23_30, hw_23_30, ho_23_31, hf_23_31, hk_23_31, hw_23_31, ho_23_32, hf_23_32, ho_23_33, hf_23_33, ho_23_34, hf_23_34, hk_23_34, hw_23_34, ho_23_35, hf_23_35, hk_23_35, hw_23_35, ho_23_36, hf_23_36, hk_23_36, hw_23_36, ho_23_37, hf_23_37, ho_23_38, hf_23_38, ho_23_39, hf_23_39, hn_24, hi_24, hj_24, hg_24, hu_24, hn_25, hi_25, hj_25, hg_25, hu_25, hn_26, hi_26, hj_26, hg_26, hu_26, hn_27, hi_27, hg_27, hu_27, hn_28, hi_28, hg_28, hu_28, hn_29, hi_29, hj_29, hg_29, hu_29, hn_30, hi_30, hj_30, hg_30, hu_30, hn_31, hi_31, hj_31, hg_31, hu_31, hn_32, hi_32, hj_32, hg_32, hu_32, hn_33, hi_33, hj_33, hg_33, hu_33, hn_34, hi_34, hj_34, hg_34, hu_34, hn_35, hi_35, hj_35, hg_35, hu_35, hn_36, hi_36, hj_36, hg_36, hu_36, hn_37, hi_37, hg_37, hu_37, hn_38, hi_38, hj_38, hg_38, hu_38, hn_39, hi_39, hj_39, hg_39, hu_39, hn_40, hi_40, hj_40, hg_40, hu_40, hn_41, hi_41, hj_41, hg_41, hu_41, hn_42, hi_42, hg_42, hu_42, hn_43, hi_43, hg_43, hu_43, hn_44, hi_44, hj_44, hg_44, hu_44, hn_45, hi_45, hg_45, hu_45, zu_zu, zb_nn0, show ¬ 36 ≤ k by omega, show k < 36 by omega, decide_true]
theorem MR_0 {m : Nat} {x : Nat × Nat} {tl F t : Nat → Int32} (hm : m ≤ 6) (hB : BG m m F) (htl : ∀ p, p < 36 → tl p = zn 0) (ht : ∀ p, p < 36 → t p = zn 0) : MR m (LS0 L tp m x tl) F t := by
  obtain ⟨b1, b2, b3⟩ := hB
  refine ⟨b1, fun i hi => ?_, fun p hp => ?_, fun p hp => by rw [ht p hp]; exact (htl p hp).symm⟩
  · show _ = zfl zn (fun _ => 0) 0 m i
    unfold zfl
    rw [if_pos (by omega)]
    exact b2 i hi
  · show _ = unF m 0 (fun _ => 0) p
    have e : p = (p / 36 * 6 + p / 6 % 6) * 6 + p % 6 := by omega
    have h1 := unF_at m 0 (fun _ => 0) (p / 36) (p / 6 % 6) (p % 6) (by omega) (by omega) (by omega) (by omega)
    rw [← e] at h1
    have h2 := b3 (p / 36) (p / 6 % 6) (p % 6) (by omega) (by omega) (by omega)
    rw [show 224 + (7 + 36 * (p / 36) + 6 * (p / 6 % 6) + p % 6) = 231 + p by omega] at h2
    rw [h1, h2]
    by_cases q : p % 6 < m ∧ ((p / 36 = 0 ∧ p / 6 % 6 = p % 6) ∨ (p / 6 % 6 = 0 ∧ p / 36 = p % 6))
    · rw [if_pos q, if_pos (by omega)]
    · rw [if_neg q, if_neg (by omega)]
      rfl
theorem MR_RT {m : Nat} {S : LST} {F t : Nat → Int32} (hm : m ≤ 6) (hV : LIV m S) (h : MR m S F t) : RT (rdT m S.2.2.1 S.2.2.2) (fun p => F (224 + p)) := by
  obtain ⟨r1, r2⟩ := rd_rep hV
  obtain ⟨h1, h2, h3, -⟩ := h
  refine ⟨h1, fun i hi => ?_, fun i j k hi hj hk => ?_⟩
  · have hi' : i < m := hi
    show F (224 + (1 + i)) = _
    rw [← Nat.add_assoc, h2 i hi', r2 i (by omega)]
  · have hi' : i < m := hi
    have hj' : j < m := hj
    have hk' : k < m := hk
    show F (224 + (7 + 36 * i + 6 * j + k)) = _
    rw [show 224 + (7 + 36 * i + 6 * j + k) = 231 + ((i * 6 + j) * 6 + k) by omega, h3 _ (by omega), r1 i j k (by omega) (by omega) (by omega)]
theorem R_table (hL : L ≤ 1000) (hI : I 1152 = zn L) (ht : ∀ i, i < L → A 24 i = zn (tp i)) (ht2 : ∀ i, tp i < 128) (hWd : WRD B) (w : Nat) (hw : w ≤ 12) (hI2 : I 1162 = zn w) (tl : Nat → Int32) (htl : ∀ p, p < 36 → tl p = zn 0) (d : Nat) : ∃ I' A' B', (∀ k, k ≠ 1150 → k ≠ 1152 → k ≠ 1153 → k ≠ 1157 → k ≠ 1158 → k ≠ 1161 → k ≠ 1162 → I' k = I k) ∧ I' 1152 = zn 0 ∧ (∀ q, q ≠ 25 → q ≠ 26 → q ≠ 29 → q ≠ 30 → A' q = A q) ∧ (∀ q, q ≠ 27 → B' q = B q) ∧ ((¬ tbF L tp tl = 0 ∧ I' 1161 = I 1161 ∧ I' 1162 = I 1162 ∧ f1 (A 29) (A' 29) ∧ mz (d + 5) 198 0 [some (.ref 23), none] [] (hp n s c I J A B R Q) = some (some (some (.int (zn (tbF L tp tl)))), hp n s c I' J A' B' R Q)) ∨ (tbF L tp tl = 0 ∧ (tb4 L tp).2 = 0 ∧ ∃ f', f1 (A 29) f' ∧ RT (tbT L tp tl) (fun p => f' (224 + p)) ∧ A' 29 = ds w f' ∧ I' 1161 = zn (dw w + 1) ∧ I' 1162 = zn (dw w) ∧ mz (d + 5) 198 0 [some (.ref 23), none] [] (hp n s c I J A B R Q) = some (some (some (.int (zn 0))), hp n s c I' J A' B' R Q))) := by
  obtain ⟨A1, B1, N, c1, c2, c3, c4⟩ := R_cut (n := n) (s := s) (c := c) (I := zu I 1150 (zn 0)) (J := J) (B := B) (R := R) (Q := Q) hL (by rw [zu_ne _ _ _ _ (by omega)]; exact hI) ht ht2 (d + 2)
  have hWd1 : WRD B1 := fun w' hw' => by rw [c4 28 (by omega)]; exact hWd w' hw'
  have eI : zu (zu (zu (zu (zu I 1150 (zn 0)) 1153 (zn L)) 1152 (zn 0)) 1157 (zn 0)) 1158 (zn 0) = rI (zu (zu (zu I 1150 (zn 0)) 1153 (zn L)) 1152 (zn 0)) (0, 0) := rfl
  rw [eI] at c1
  generalize hI0 : zu (zu (zu I 1150 (zn 0)) 1153 (zn L)) 1152 (zn 0) = I0 at c1
  have hIf : ∀ k, k ≠ 1150 → k ≠ 1152 → k ≠ 1153 → I0 k = I k := fun k k1 k2 k3 => by rw [← hI0, zu_ne _ _ _ _ k2, zu_ne _ _ _ _ k3, zu_ne _ _ _ _ k1]
  have hI0b : I0 1152 = zn 0 := by rw [← hI0, zu_eq]
  have x0 : ((0, 0) : Nat × Nat).2 < 20000 := by show 0 < 20000; omega
  have n0 : ((0, 0) : Nat × Nat).2 = 0 → ((0, 0) : Nat × Nat).1 ≤ N := fun _ => Nat.zero_le _
  have w0 := R_isW (n := n) (s := s) (c := c) (I := I0) (J := J) (R := R) (Q := Q) c2 hWd1 (d + 4) 0 (by omega) (0, 0) x0 n0
  have ew : wmp 0 = 1 := rfl
  rw [ew] at w0
  have g1 := R_wrong (n := n) (s := s) (c := c) (I := I0) (J := J) (R := R) (Q := Q) c2 (d + 4) 1 (0, 0) x0 n0
  have hu : ∃ u : Nat × Nat, u.2 = (tb0 L tp).2 ∧ u.2 < 20000 ∧ (u.2 = 0 → u = tb0 L tp ∧ u.1 ≤ N) ∧ mz (d + 5) 198 0 [some (.ref 23), none] [] (hp n s c I J A B R Q) = mz (d + 5) 198 32 [some (.ref 23), none] [] (hp n s c (rI I0 u) J A1 B1 R Q) := by
    by_cases q : wdq L tp 0 1 = true
    · have e0 : tb0 L tp = (1, 0) := by
        show adv (if wdq L tp 0 1 = true then (0, 0) else flt L tp 1 (0, 0)) = (1, 0)
        rw [if_pos q, adv_0 rfl]
      refine ⟨(1, 0), by rw [e0], by show 0 < 20000; omega, fun _ => ⟨e0.symm, ?_⟩, ?_⟩
      · exact RTK_lt (k := 0) c2 (Nat.zero_le _) (by rw [wdq_1 q]; omega)
      · have hq : (decide (((0, 0) : Nat × Nat).2 = 0) && wdq L tp ((0, 0) : Nat × Nat).1 1) = true := by simp [q]
        rw [hq] at w0
        have e1 : rI I0 (((0, 0) : Nat × Nat).1 + 1, ((0, 0) : Nat × Nat).2) = rI I0 (1, 0) := rfl
        simp (disch := first | omega | exact zb_1 | exact zb_0 | exact zb_n1 | exact zb_n0) only [x198_0, x198_1, x198_2, x198_5, x198_6, x198_9, x198_10, x198_11, x198_14, x198_22, x198_23, x198_24, x198_27, x198_28, x198_29, mq_dl_int, mq_dl_ref, mq_dl_null, mq_dl_none, mc_some, Option.toList_some, Option.toList_none, List.cons_append, List.nil_append, zb_1, zb_0, ↓reduceIte, if_true, if_false, not_true_eq_false, not_false_eq_true, Bool.false_eq_true, z_10, z_01, eq_self, Bool.and_self, true_or, or_true, false_or, or_false, true_and, and_true, false_and, and_false, and_self, or_self, Nat.reduceLT, Nat.reduceEqDiff, Nat.reduceLeDiff, Nat.reduceAdd, Nat.reduceMul, Nat.reduceSub, zn_lit, zn_add, zn_mul, zn_sub, zn_addneg, zn_lt, zn_le, zn_eq, zn_clamp, zn_in, zn_long, hp_1, hp_21, upd_zu, updL_zu, updQ_zu, zu_eq, zu_ne, ho_23, ho_23_0, hf_23_0, hk_23_0, hw_23_0, ho_23_1, hf_23_1, ho_23_2, hf_23_2, hk_23_2, hw_23_2, ho_23_3, hf_23_3, hk_23_3, hw_23_3, ho_23_4, hf_23_4, ho_23_5, hf_23_5, ho_23_6, hf_23_6, ho_23_7, hf_23_7, hk_23_7, hw_23_7, ho_23_8, hf_23_8, hk_23_8, hw_23_8, ho_23_9, hf_23_9, ho_23_10, hf_23_10, ho_23_11, hf_23_11, hk_23_11, hw_23_11, ho_23_12, hf_23_12, hk_23_12, hw_23_12, ho_23_13, hf_23_13, ho_23_14, hf_23_14, ho_23_15, hf_23_15, ho_23_16, hf_23_16, hk_23_16, hw_23_16, ho_23_17, hf_23_17, ho_23_18, hf_23_18, ho_23_19, hf_23_19, hk_23_19, hw_23_19, ho_23_20, hf_23_20, ho_23_21, hf_23_21, hk_23_21, hw_23_21, ho_23_22, hf_23_22, hk_23_22, hw_23_22, ho_23_23, hf_23_23, hk_23_23, hw_23_23, ho_23_24, hf_23_24, hk_23_24, hw_23_24, ho_23_25, hf_23_25, ho_23_26, hf_23_26, ho_23_27, hf_23_27, hk_23_27, hw_23_27, ho_23_28, hf_23_28, ho_23_29, hf_23_29, ho_23_30, hf_23_30, hk_23_30, hw_23_30, ho_23_31, hf_23_31, hk_23_31, hw_23_31, ho_23_32, hf_23_32, ho_23_33, hf_23_33, ho_23_34, hf_23_34, hk_23_34, hw_23_34, ho_23_35, hf_23_35, hk_23_35, hw_23_35, ho_23_36, hf_23_36, hk_23_36, hw_23_36, ho_23_37, hf_23_37, ho_23_38, hf_23_38, ho_23_39, hf_23_39, hn_24, hi_24, hj_24, hg_24, hu_24, hn_25, hi_25, hj_25, hg_25, hu_25, hn_26, hi_26, hj_26, hg_26, hu_26, hn_27, hi_27, hg_27, hu_27, hn_28, hi_28, hg_28, hu_28, hn_29, hi_29, hj_29, hg_29, hu_29, hn_30, hi_30, hj_30, hg_30, hu_30, hn_31, hi_31, hj_31, hg_31, hu_31, hn_32, hi_32, hj_32, hg_32, hu_32, hn_33, hi_33, hj_33, hg_33, hu_33, hn_34, hi_34, hj_34, hg_34, hu_34, hn_35, hi_35, hj_35, hg_35, hu_35, hn_36, hi_36, hj_36, hg_36, hu_36, hn_37, hi_37, hg_37, hu_37, hn_38, hi_38, hj_38, hg_38, hu_38, hn_39, hi_39, hj_39, hg_39, hu_39, hn_40, hi_40, hj_40, hg_40, hu_40, hn_41, hi_41, hj_41, hg_41, hu_41, hn_42, hi_42, hg_42, hu_42, hn_43, hi_43, hg_43, hu_43, hn_44, hi_44, hj_44, hg_44, hu_44, hn_45, hi_45, hg_45, hu_45, c1, w0, zo_t, rI_57, rI_w7]
    · have hfn := flt_n (L := L) (tp := tp) (x := (0, 0)) (e := 1) (by omega)
      have e0 : tb0 L tp = flt L tp 1 (0, 0) := by
        show adv (if wdq L tp 0 1 = true then (0, 0) else flt L tp 1 (0, 0)) = _
        rw [if_neg q, adv_F hfn]
      refine ⟨((flt L tp 1 (0, 0)).1 + 1, (flt L tp 1 (0, 0)).2), by rw [e0], flt_b hL x0 1 (by omega), fun e => absurd e hfn, ?_⟩
      have hq : (decide (((0, 0) : Nat × Nat).2 = 0) && wdq L tp ((0, 0) : Nat × Nat).1 1) = false := by simp [Bool.eq_false_iff.mpr q]
      rw [hq] at w0
      generalize flt L tp 1 (0, 0) = y at g1 ⊢
      simp (disch := first | omega | exact zb_1 | exact zb_0 | exact zb_n1 | exact zb_n0) only [x198_0, x198_1, x198_2, x198_5, x198_6, x198_9, x198_10, x198_11, x198_14, x198_17, x198_18, x198_19, x198_22, x198_23, x198_24, x198_27, x198_28, x198_29, mq_dl_int, mq_dl_ref, mq_dl_null, mq_dl_none, mc_some, Option.toList_some, Option.toList_none, List.cons_append, List.nil_append, zb_1, zb_0, ↓reduceIte, if_true, if_false, not_true_eq_false, not_false_eq_true, Bool.false_eq_true, z_10, z_01, eq_self, Bool.and_self, true_or, or_true, false_or, or_false, true_and, and_true, false_and, and_false, and_self, or_self, Nat.reduceLT, Nat.reduceEqDiff, Nat.reduceLeDiff, Nat.reduceAdd, Nat.reduceMul, Nat.reduceSub, zn_lit, zn_add, zn_mul, zn_sub, zn_addneg, zn_lt, zn_le, zn_eq, zn_clamp, zn_in, zn_long, hp_1, hp_21, upd_zu, updL_zu, updQ_zu, zu_eq, zu_ne, ho_23, ho_23_0, hf_23_0, hk_23_0, hw_23_0, ho_23_1, hf_23_1, ho_23_2, hf_23_2, hk_23_2, hw_23_2, ho_23_3, hf_23_3, hk_23_3, hw_23_3, ho_23_4, hf_23_4, ho_23_5, hf_23_5, ho_23_6, hf_23_6, ho_23_7, hf_23_7, hk_23_7, hw_23_7, ho_23_8, hf_23_8, hk_23_8, hw_23_8, ho_23_9, hf_23_9, ho_23_10, hf_23_10, ho_23_11, hf_23_11, hk_23_11, hw_23_11, ho_23_12, hf_23_12, hk_23_12, hw_23_12, ho_23_13, hf_23_13, ho_23_14, hf_23_14, ho_23_15, hf_23_15, ho_23_16, hf_23_16, hk_23_16, hw_23_16, ho_23_17, hf_23_17, ho_23_18, hf_23_18, ho_23_19, hf_23_19, hk_23_19, hw_23_19, ho_23_20, hf_23_20, ho_23_21, hf_23_21, hk_23_21, hw_23_21, ho_23_22, hf_23_22, hk_23_22, hw_23_22, ho_23_23, hf_23_23, hk_23_23, hw_23_23, ho_23_24, hf_23_24, hk_23_24, hw_23_24, ho_23_25, hf_23_25, ho_23_26, hf_23_26, ho_23_27, hf_23_27, hk_23_27, hw_23_27, ho_23_28, hf_23_28, ho_23_29, hf_23_29, ho_23_30, hf_23_30, hk_23_30, hw_23_30, ho_23_31, hf_23_31, hk_23_31, hw_23_31, ho_23_32, hf_23_32, ho_23_33, hf_23_33, ho_23_34, hf_23_34, hk_23_34, hw_23_34, ho_23_35, hf_23_35, hk_23_35, hw_23_35, ho_23_36, hf_23_36, hk_23_36, hw_23_36, ho_23_37, hf_23_37, ho_23_38, hf_23_38, ho_23_39, hf_23_39, hn_24, hi_24, hj_24, hg_24, hu_24, hn_25, hi_25, hj_25, hg_25, hu_25, hn_26, hi_26, hj_26, hg_26, hu_26, hn_27, hi_27, hg_27, hu_27, hn_28, hi_28, hg_28, hu_28, hn_29, hi_29, hj_29, hg_29, hu_29, hn_30, hi_30, hj_30, hg_30, hu_30, hn_31, hi_31, hj_31, hg_31, hu_31, hn_32, hi_32, hj_32, hg_32, hu_32, hn_33, hi_33, hj_33, hg_33, hu_33, hn_34, hi_34, hj_34, hg_34, hu_34, hn_35, hi_35, hj_35, hg_35, hu_35, hn_36, hi_36, hj_36, hg_36, hu_36, hn_37, hi_37, hg_37, hu_37, hn_38, hi_38, hj_38, hg_38, hu_38, hn_39, hi_39, hj_39, hg_39, hu_39, hn_40, hi_40, hj_40, hg_40, hu_40, hn_41, hi_41, hj_41, hg_41, hu_41, hn_42, hi_42, hg_42, hu_42, hn_43, hi_43, hg_43, hu_43, hn_44, hi_44, hj_44, hg_44, hu_44, hn_45, hi_45, hg_45, hu_45, c1, w0, g1, zo_f, rI_57, rI_w7]
  obtain ⟨u, u1, u2, u3, u4⟩ := hu
  have tk := R_take (n := n) (s := s) (c := c) (I := I0) (J := J) (R := R) (Q := Q) hL c2 (d + 3) 1 6 (by omega) (by omega) u u2 (fun e => (u3 e).2)
  have hy : ∃ y : Nat × Nat, y.2 = (tb4 L tp).2 ∧ y.2 < 20000 ∧ (y.2 = 0 → y = tb4 L tp ∧ y.1 ≤ N ∧ (see L tp 1 6 u).2 = 0) ∧ tsg L tp 59 (adv (see L tp 1 6 u)) = y ∧ ((adv (see L tp 1 6 u)).2 = 0 → (adv (see L tp 1 6 u)).1 ≤ N) := by
    refine ⟨tsg L tp 59 (adv (see L tp 1 6 u)), ?_, tsg_b hL (adv_b (see_b hL u2 1 6)) 59, ?_, rfl, ?_⟩
    · by_cases q : u.2 = 0
      · rw [(u3 q).1]; rfl
      · have q2 : ¬ (tb0 L tp).2 = 0 := by rw [← u1]; exact q
        rw [see_F q, adv_F q, tsg_F q]
        show _ = (tsg L tp 59 (adv (see L tp 1 6 (tb0 L tp)))).2
        rw [see_F q2, adv_F q2, tsg_F q2, u1]
    · intro h
      obtain ⟨h1, h2, h3⟩ := tsg_fine h
      obtain ⟨k1, k2⟩ := adv_fine h1
      obtain ⟨l1, l2, l3, l4, l5⟩ := see_fine k1
      obtain ⟨m1, m2⟩ := u3 l1
      refine ⟨by rw [m1]; rfl, ?_, k1⟩
      rw [h3]
      have k3 : (adv (see L tp 1 6 u)).1 ≤ N := by rw [k2, l5]; exact RTK_lt c2 m2 (by rw [l2]; omega)
      exact RTK_lt c2 k3 (by rw [sgq_3 h2]; omega)
    · intro h
      obtain ⟨k1, k2⟩ := adv_fine h
      obtain ⟨l1, l2, l3, l4, l5⟩ := see_fine k1
      rw [k2, l5]
      exact RTK_lt c2 (u3 l1).2 (by rw [l2]; omega)
  obtain ⟨y, y1, y2, y3, y4, y5⟩ := hy
  have hmv : ∃ mv : Nat, mv ≤ 6 ∧ (if (see L tp 1 6 u).2 = 0 then zn (nbq L tp u.1) else zn 0) = zn mv ∧ (y.2 = 0 → mv = tbm L tp) := by
    by_cases q : (see L tp 1 6 u).2 = 0
    · obtain ⟨l1, l2, l3, l4, l5⟩ := see_fine q
      refine ⟨nbq L tp u.1, l4, by rw [if_pos q], fun _ => ?_⟩
      unfold tbm
      rw [← (u3 l1).1]
    · exact ⟨0, by omega, by rw [if_neg q], fun e => absurd (y3 e).2.2 q⟩
  obtain ⟨mv, mv1, mv2, mv3⟩ := hmv
  rw [mv2] at tk
  obtain ⟨F, b1, b2, b3⟩ := R_beg (n := n) (s := s) (c := c) (I := rI I0 (adv (see L tp 1 6 u))) (J := J) (A := A1) (B := B1) (R := R) (Q := Q) (d + 3) mv mv1
  have hR2 : RTK L tp N ((zu A1 29 F) 25) ((zu A1 29 F) 26) (B1 27) := by rw [zu_ne _ _ _ _ (by omega), zu_ne _ _ _ _ (by omega)]; exact c2
  have ts := R_ts (n := n) (s := s) (c := c) (I := I0) (J := J) (R := R) (Q := Q) hR2 ht2 (d + 3) 59 (by omega) _ (adv_b (see_b (tp := tp) hL u2 1 6)) y5
  rw [y4] at ts
  have fg := R_fgl (n := n) (s := s) (c := c) (I := rI I0 y) (J := J) (A := zu A1 29 F) (B := B1) (R := R) (Q := Q) (d + 5) 36 0 ((zu A1 29 F) 30) rfl
  rw [zu_self] at fg
  have hpre : mz (d + 5) 198 32 [some (.ref 23), none] [] (hp n s c (rI I0 u) J A1 B1 R Q) = mz (d + 5) 198 70 [some (.ref 23), some (.int (zn 36))] [] (hp n s c (rI I0 y) J (zu (zu A1 29 F) 30 (zfl (fun _ => zn 0) ((zu A1 29 F) 30) 0 36)) B1 R Q) := by
    rw [← fg]
    simp (disch := first | omega | exact zb_1 | exact zb_0 | exact zb_n1 | exact zb_n0) only [x198_32, x198_33, x198_34, x198_35, x198_37, x198_40, x198_43, x198_44, x198_46, x198_49, x198_50, mq_dl_int, mq_dl_ref, mq_dl_null, mq_dl_none, mc_some, Option.toList_some, Option.toList_none, List.cons_append, List.nil_append, zb_1, zb_0, ↓reduceIte, if_true, if_false, not_true_eq_false, not_false_eq_true, Bool.false_eq_true, z_10, z_01, eq_self, Bool.and_self, true_or, or_true, false_or, or_false, true_and, and_true, false_and, and_false, and_self, or_self, Nat.reduceLT, Nat.reduceEqDiff, Nat.reduceLeDiff, Nat.reduceAdd, Nat.reduceMul, Nat.reduceSub, zn_lit, zn_add, zn_mul, zn_sub, zn_addneg, zn_lt, zn_le, zn_eq, zn_clamp, zn_in, zn_long, hp_1, hp_21, upd_zu, updL_zu, updQ_zu, zu_eq, zu_ne, ho_23, ho_23_0, hf_23_0, hk_23_0, hw_23_0, ho_23_1, hf_23_1, ho_23_2, hf_23_2, hk_23_2, hw_23_2, ho_23_3, hf_23_3, hk_23_3, hw_23_3, ho_23_4, hf_23_4, ho_23_5, hf_23_5, ho_23_6, hf_23_6, ho_23_7, hf_23_7, hk_23_7, hw_23_7, ho_23_8, hf_23_8, hk_23_8, hw_23_8, ho_23_9, hf_23_9, ho_23_10, hf_23_10, ho_23_11, hf_23_11, hk_23_11, hw_23_11, ho_23_12, hf_23_12, hk_23_12, hw_23_12, ho_23_13, hf_23_13, ho_23_14, hf_23_14, ho_23_15, hf_23_15, ho_23_16, hf_23_16, hk_23_16, hw_23_16, ho_23_17, hf_23_17, ho_23_18, hf_23_18, ho_23_19, hf_23_19, hk_23_19, hw_23_19, ho_23_20, hf_23_20, ho_23_21, hf_23_21, hk_23_21, hw_23_21, ho_23_22, hf_23_22, hk_23_22, hw_23_22, ho_23_23, hf_23_23, hk_23_23, hw_23_23, ho_23_24, hf_23_24, hk_23_24, hw_23_24, ho_23_25, hf_23_25, ho_23_26, hf_23_26, ho_23_27, hf_23_27, hk_23_27, hw_23_27, ho_23_28, hf_23_28, ho_23_29, hf_23_29, ho_23_30, hf_23_30, hk_23_30, hw_23_30, ho_23_31, hf_23_31, hk_23_31, hw_23_31, ho_23_32, hf_23_32, ho_23_33, hf_23_33, ho_23_34, hf_23_34, hk_23_34, hw_23_34, ho_23_35, hf_23_35, hk_23_35, hw_23_35, ho_23_36, hf_23_36, hk_23_36, hw_23_36, ho_23_37, hf_23_37, ho_23_38, hf_23_38, ho_23_39, hf_23_39, hn_24, hi_24, hj_24, hg_24, hu_24, hn_25, hi_25, hj_25, hg_25, hu_25, hn_26, hi_26, hj_26, hg_26, hu_26, hn_27, hi_27, hg_27, hu_27, hn_28, hi_28, hg_28, hu_28, hn_29, hi_29, hj_29, hg_29, hu_29, hn_30, hi_30, hj_30, hg_30, hu_30, hn_31, hi_31, hj_31, hg_31, hu_31, hn_32, hi_32, hj_32, hg_32, hu_32, hn_33, hi_33, hj_33, hg_33, hu_33, hn_34, hi_34, hj_34, hg_34, hu_34, hn_35, hi_35, hj_35, hg_35, hu_35, hn_36, hi_36, hj_36, hg_36, hu_36, hn_37, hi_37, hg_37, hu_37, hn_38, hi_38, hj_38, hg_38, hu_38, hn_39, hi_39, hj_39, hg_39, hu_39, hn_40, hi_40, hj_40, hg_40, hu_40, hn_41, hi_41, hj_41, hg_41, hu_41, hn_42, hi_42, hg_42, hu_42, hn_43, hi_43, hg_43, hu_43, hn_44, hi_44, hj_44, hg_44, hu_44, hn_45, hi_45, hg_45, hu_45, tk, b3, ts]
  rw [u4, hpre]
  have hA2 : f1 (A 29) F := by rw [← c3 29 (by omega) (by omega)]; exact b1
  have hR3 : RTK L tp N ((zu (zu A1 29 F) 30 (zfl (fun _ => zn 0) ((zu A1 29 F) 30) 0 36)) 25) ((zu (zu A1 29 F) 30 (zfl (fun _ => zn 0) ((zu A1 29 F) 30) 0 36)) 26) (B1 27) := by
    rw [zu_ne _ _ _ _ (by omega), zu_ne _ _ _ _ (by omega), zu_ne _ _ _ _ (by omega), zu_ne _ _ _ _ (by omega)]; exact c2
  have hAf : ∀ q, q ≠ 25 → q ≠ 26 → q ≠ 29 → q ≠ 30 → (zu (zu A1 29 F) 30 (zfl (fun _ => zn 0) ((zu A1 29 F) 30) 0 36)) q = A q := fun q q1 q2 q3 q4 => by rw [zu_ne _ _ _ _ q4, zu_ne _ _ _ _ q3, c3 q q1 q2]
  have e29 : (zu (zu A1 29 F) 30 (zfl (fun _ => zn 0) ((zu A1 29 F) 30) 0 36)) 29 = F := by rw [zu_ne _ _ _ _ (by omega), zu_eq]
  have e30 : (zu (zu A1 29 F) 30 (zfl (fun _ => zn 0) ((zu A1 29 F) 30) 0 36)) 30 = zfl (fun _ => zn 0) ((zu A1 29 F) 30) 0 36 := zu_eq _ _ _
  have hfine : ∀ (y' : Nat × Nat) (A' : Nat → Nat → Int32), y'.2 < 20000 → ¬ y'.2 = 0 → mz (d + 5) 198 102 [some (.ref 23), some (.int (zn 36))] [] (hp n s c (rI I0 y') J A' B1 R Q) = some (some (some (.int (zn y'.2))), hp n s c (rI I0 y') J A' B1 R Q) := by
    intro y' A' h1 h2
    simp (disch := first | omega | exact zb_1 | exact zb_0 | exact zb_n1 | exact zb_n0) only [x198_102, x198_103, x198_106, x198_109, x198_110, x198_113, mq_dl_int, mq_dl_ref, mq_dl_null, mq_dl_none, mc_some, Option.toList_some, Option.toList_none, List.cons_append, List.nil_append, zb_1, zb_0, ↓reduceIte, if_true, if_false, not_true_eq_false, not_false_eq_true, Bool.false_eq_true, z_10, z_01, eq_self, Bool.and_self, true_or, or_true, false_or, or_false, true_and, and_true, false_and, and_false, and_self, or_self, Nat.reduceLT, Nat.reduceEqDiff, Nat.reduceLeDiff, Nat.reduceAdd, Nat.reduceMul, Nat.reduceSub, zn_lit, zn_add, zn_mul, zn_sub, zn_addneg, zn_lt, zn_le, zn_eq, zn_clamp, zn_in, zn_long, hp_1, hp_21, upd_zu, updL_zu, updQ_zu, zu_eq, zu_ne, ho_23, ho_23_0, hf_23_0, hk_23_0, hw_23_0, ho_23_1, hf_23_1, ho_23_2, hf_23_2, hk_23_2, hw_23_2, ho_23_3, hf_23_3, hk_23_3, hw_23_3, ho_23_4, hf_23_4, ho_23_5, hf_23_5, ho_23_6, hf_23_6, ho_23_7, hf_23_7, hk_23_7, hw_23_7, ho_23_8, hf_23_8, hk_23_8, hw_23_8, ho_23_9, hf_23_9, ho_23_10, hf_23_10, ho_23_11, hf_23_11, hk_23_11, hw_23_11, ho_23_12, hf_23_12, hk_23_12, hw_23_12, ho_23_13, hf_23_13, ho_23_14, hf_23_14, ho_23_15, hf_23_15, ho_23_16, hf_23_16, hk_23_16, hw_23_16, ho_23_17, hf_23_17, ho_23_18, hf_23_18, ho_23_19, hf_23_19, hk_23_19, hw_23_19, ho_23_20, hf_23_20, ho_23_21, hf_23_21, hk_23_21, hw_23_21, ho_23_22, hf_23_22, hk_23_22, hw_23_22, ho_23_23, hf_23_23, hk_23_23, hw_23_23, ho_23_24, hf_23_24, hk_23_24, hw_23_24, ho_23_25, hf_23_25, ho_23_26, hf_23_26, ho_23_27, hf_23_27, hk_23_27, hw_23_27, ho_23_28, hf_23_28, ho_23_29, hf_23_29, ho_23_30, hf_23_30, hk_23_30, hw_23_30, ho_23_31, hf_23_31, hk_23_31, hw_23_31, ho_23_32, hf_23_32, ho_23_33, hf_23_33, ho_23_34, hf_23_34, hk_23_34, hw_23_34, ho_23_35, hf_23_35, hk_23_35, hw_23_35, ho_23_36, hf_23_36, hk_23_36, hw_23_36, ho_23_37, hf_23_37, ho_23_38, hf_23_38, ho_23_39, hf_23_39, hn_24, hi_24, hj_24, hg_24, hu_24, hn_25, hi_25, hj_25, hg_25, hu_25, hn_26, hi_26, hj_26, hg_26, hu_26, hn_27, hi_27, hg_27, hu_27, hn_28, hi_28, hg_28, hu_28, hn_29, hi_29, hj_29, hg_29, hu_29, hn_30, hi_30, hj_30, hg_30, hu_30, hn_31, hi_31, hj_31, hg_31, hu_31, hn_32, hi_32, hj_32, hg_32, hu_32, hn_33, hi_33, hj_33, hg_33, hu_33, hn_34, hi_34, hj_34, hg_34, hu_34, hn_35, hi_35, hj_35, hg_35, hu_35, hn_36, hi_36, hj_36, hg_36, hu_36, hn_37, hi_37, hg_37, hu_37, hn_38, hi_38, hj_38, hg_38, hu_38, hn_39, hi_39, hj_39, hg_39, hu_39, hn_40, hi_40, hj_40, hg_40, hu_40, hn_41, hi_41, hj_41, hg_41, hu_41, hn_42, hi_42, hg_42, hu_42, hn_43, hi_43, hg_43, hu_43, hn_44, hi_44, hj_44, hg_44, hu_44, hn_45, hi_45, hg_45, hu_45, rI_58, show ¬ y'.2 ≤ 0 by omega]
  have hIfr : ∀ (y' : Nat × Nat) k, k ≠ 1150 → k ≠ 1152 → k ≠ 1153 → k ≠ 1157 → k ≠ 1158 → rI I0 y' k = I k := fun y' k k1 k2 k3 k4 k5 => by rw [rI_ne _ (by omega)]; exact hIf k k1 k2 k3
  generalize zu (zu A1 29 F) 30 (zfl (fun _ => zn 0) ((zu A1 29 F) 30) 0 36) = A2 at hR3 hAf e29 e30 ⊢
  by_cases q : (tb4 L tp).2 = 0
  · have qy : y.2 = 0 := by rw [y1]; exact q
    obtain ⟨y6, y7, y8⟩ := y3 qy
    have em := mv3 qy
    subst em
    obtain ⟨f1', f2', f3', f4', f5', f6'⟩ := tb4_fine q
    obtain ⟨y', A', k1, k2, k3, k4, k5, k6⟩ := R_tlines (n := n) (s := s) (c := c) (I := I0) (J := J) (R := R) (Q := Q) (N := N) hL ht2 hWd1 f3' f4' d (some (.int (zn 36))) 1000 (LS0 L tp (tbm L tp) (tb4 L tp) tl) y A2 hR3 y1 y2 (fun _ => ⟨y6, by rw [← y6]; exact y7, by omega, LIV_0 f3' f4', by
      rw [e29, e30]
      exact MR_0 f4' b2 htl (fun p hp => by unfold zfl; rw [if_pos (by omega)])⟩)
    rw [k6]
    have eF : tbF L tp tl = y'.2 := by unfold tbF; rw [if_pos q]; exact k1.symm
    rw [e29] at k4
    have hA' : ∀ q, q ≠ 25 → q ≠ 26 → q ≠ 29 → q ≠ 30 → A' q = A q := fun q q1 q2 q3 q4 => by rw [k5 q q3 q4]; exact hAf q q1 q2 q3 q4
    by_cases qf : y'.2 = 0
    · have hM := k3 qf
      have dn := R_does (n := n) (s := s) (c := c) (I := rI I0 y') (J := J) (A := A') (B := B1) (R := R) (Q := Q) (d + 3) w hw (by rw [hIfr y' 1162 (by omega) (by omega) (by omega) (by omega) (by omega)]; exact hI2)
      refine ⟨zu (zu (rI I0 y') 1161 (zn (dw w + 1))) 1162 (zn (dw w)), zu A' 29 (ds w (A' 29)), B1, fun k h1 h2 h3 h4 h5 h6 h7 => by rw [zu_ne _ _ _ _ h7, zu_ne _ _ _ _ h6]; exact hIfr y' k h1 h2 h3 h4 h5, by rw [zu_ne _ _ _ _ (by omega), zu_ne _ _ _ _ (by omega), rI_ne _ (by omega)]; exact hI0b, fun q' h1 h2 h3 h4 => by rw [zu_ne _ _ _ _ h3]; exact hA' q' h1 h2 h3 h4, c4, Or.inr ⟨by rw [eF]; exact qf, q, A' 29, f1_trans hA2 k4, MR_RT f4' (tbS_LIV q) hM, zu_eq _ _ _, by rw [zu_ne _ _ _ _ (by omega), zu_eq], zu_eq _ _ _, ?_⟩⟩
      simp (disch := first | omega | exact zb_1 | exact zb_0 | exact zb_n1 | exact zb_n0) only [x198_102, x198_103, x198_106, x198_114, x198_115, x198_118, x198_119, mq_dl_int, mq_dl_ref, mq_dl_null, mq_dl_none, mc_some, Option.toList_some, Option.toList_none, List.cons_append, List.nil_append, zb_1, zb_0, ↓reduceIte, if_true, if_false, not_true_eq_false, not_false_eq_true, Bool.false_eq_true, z_10, z_01, eq_self, Bool.and_self, true_or, or_true, false_or, or_false, true_and, and_true, false_and, and_false, and_self, or_self, Nat.reduceLT, Nat.reduceEqDiff, Nat.reduceLeDiff, Nat.reduceAdd, Nat.reduceMul, Nat.reduceSub, zn_lit, zn_add, zn_mul, zn_sub, zn_addneg, zn_lt, zn_le, zn_eq, zn_clamp, zn_in, zn_long, hp_1, hp_21, upd_zu, updL_zu, updQ_zu, zu_eq, zu_ne, ho_23, ho_23_0, hf_23_0, hk_23_0, hw_23_0, ho_23_1, hf_23_1, ho_23_2, hf_23_2, hk_23_2, hw_23_2, ho_23_3, hf_23_3, hk_23_3, hw_23_3, ho_23_4, hf_23_4, ho_23_5, hf_23_5, ho_23_6, hf_23_6, ho_23_7, hf_23_7, hk_23_7, hw_23_7, ho_23_8, hf_23_8, hk_23_8, hw_23_8, ho_23_9, hf_23_9, ho_23_10, hf_23_10, ho_23_11, hf_23_11, hk_23_11, hw_23_11, ho_23_12, hf_23_12, hk_23_12, hw_23_12, ho_23_13, hf_23_13, ho_23_14, hf_23_14, ho_23_15, hf_23_15, ho_23_16, hf_23_16, hk_23_16, hw_23_16, ho_23_17, hf_23_17, ho_23_18, hf_23_18, ho_23_19, hf_23_19, hk_23_19, hw_23_19, ho_23_20, hf_23_20, ho_23_21, hf_23_21, hk_23_21, hw_23_21, ho_23_22, hf_23_22, hk_23_22, hw_23_22, ho_23_23, hf_23_23, hk_23_23, hw_23_23, ho_23_24, hf_23_24, hk_23_24, hw_23_24, ho_23_25, hf_23_25, ho_23_26, hf_23_26, ho_23_27, hf_23_27, hk_23_27, hw_23_27, ho_23_28, hf_23_28, ho_23_29, hf_23_29, ho_23_30, hf_23_30, hk_23_30, hw_23_30, ho_23_31, hf_23_31, hk_23_31, hw_23_31, ho_23_32, hf_23_32, ho_23_33, hf_23_33, ho_23_34, hf_23_34, hk_23_34, hw_23_34, ho_23_35, hf_23_35, hk_23_35, hw_23_35, ho_23_36, hf_23_36, hk_23_36, hw_23_36, ho_23_37, hf_23_37, ho_23_38, hf_23_38, ho_23_39, hf_23_39, hn_24, hi_24, hj_24, hg_24, hu_24, hn_25, hi_25, hj_25, hg_25, hu_25, hn_26, hi_26, hj_26, hg_26, hu_26, hn_27, hi_27, hg_27, hu_27, hn_28, hi_28, hg_28, hu_28, hn_29, hi_29, hj_29, hg_29, hu_29, hn_30, hi_30, hj_30, hg_30, hu_30, hn_31, hi_31, hj_31, hg_31, hu_31, hn_32, hi_32, hj_32, hg_32, hu_32, hn_33, hi_33, hj_33, hg_33, hu_33, hn_34, hi_34, hj_34, hg_34, hu_34, hn_35, hi_35, hj_35, hg_35, hu_35, hn_36, hi_36, hj_36, hg_36, hu_36, hn_37, hi_37, hg_37, hu_37, hn_38, hi_38, hj_38, hg_38, hu_38, hn_39, hi_39, hj_39, hg_39, hu_39, hn_40, hi_40, hj_40, hg_40, hu_40, hn_41, hi_41, hj_41, hg_41, hu_41, hn_42, hi_42, hg_42, hu_42, hn_43, hi_43, hg_43, hu_43, hn_44, hi_44, hj_44, hg_44, hu_44, hn_45, hi_45, hg_45, hu_45, rI_58, qf, Nat.le_refl, dn]
    · refine ⟨rI I0 y', A', B1, fun k h1 h2 h3 h4 h5 _ _ => hIfr y' k h1 h2 h3 h4 h5, by rw [rI_ne _ (by omega)]; exact hI0b, hA', c4, Or.inl ⟨by rw [eF]; exact qf, hIfr y' 1161 (by omega) (by omega) (by omega) (by omega) (by omega), hIfr y' 1162 (by omega) (by omega) (by omega) (by omega) (by omega), f1_trans hA2 k4, ?_⟩⟩
      rw [eF]
      exact hfine y' A' k2 qf
  · have qy : ¬ y.2 = 0 := by rw [y1]; exact q
    have eF : tbF L tp tl = y.2 := by unfold tbF; rw [if_neg q]; exact y1.symm
    refine ⟨rI I0 y, A2, B1, fun k h1 h2 h3 h4 h5 _ _ => hIfr y k h1 h2 h3 h4 h5, by rw [rI_ne _ (by omega)]; exact hI0b, hAf, c4, Or.inl ⟨by rw [eF]; exact qy, hIfr y 1161 (by omega) (by omega) (by omega) (by omega) (by omega), hIfr y 1162 (by omega) (by omega) (by omega) (by omega) (by omega), by rw [e29]; exact hA2, ?_⟩⟩
    rw [eF, ← hfine y A2 y2 qy, x198_70]
    simp (disch := first | omega | exact zb_1 | exact zb_0 | exact zb_n1 | exact zb_n0) only [x198_71, x198_74, mq_dl_int, mq_dl_ref, mq_dl_null, mq_dl_none, mc_some, Option.toList_some, Option.toList_none, List.cons_append, List.nil_append, zb_1, zb_0, ↓reduceIte, if_true, if_false, not_true_eq_false, not_false_eq_true, Bool.false_eq_true, z_10, z_01, eq_self, Bool.and_self, true_or, or_true, false_or, or_false, true_and, and_true, false_and, and_false, and_self, or_self, Nat.reduceLT, Nat.reduceEqDiff, Nat.reduceLeDiff, Nat.reduceAdd, Nat.reduceMul, Nat.reduceSub, zn_lit, zn_add, zn_mul, zn_sub, zn_addneg, zn_lt, zn_le, zn_eq, zn_clamp, zn_in, zn_long, hp_1, hp_21, upd_zu, updL_zu, updQ_zu, zu_eq, zu_ne, ho_23, ho_23_0, hf_23_0, hk_23_0, hw_23_0, ho_23_1, hf_23_1, ho_23_2, hf_23_2, hk_23_2, hw_23_2, ho_23_3, hf_23_3, hk_23_3, hw_23_3, ho_23_4, hf_23_4, ho_23_5, hf_23_5, ho_23_6, hf_23_6, ho_23_7, hf_23_7, hk_23_7, hw_23_7, ho_23_8, hf_23_8, hk_23_8, hw_23_8, ho_23_9, hf_23_9, ho_23_10, hf_23_10, ho_23_11, hf_23_11, hk_23_11, hw_23_11, ho_23_12, hf_23_12, hk_23_12, hw_23_12, ho_23_13, hf_23_13, ho_23_14, hf_23_14, ho_23_15, hf_23_15, ho_23_16, hf_23_16, hk_23_16, hw_23_16, ho_23_17, hf_23_17, ho_23_18, hf_23_18, ho_23_19, hf_23_19, hk_23_19, hw_23_19, ho_23_20, hf_23_20, ho_23_21, hf_23_21, hk_23_21, hw_23_21, ho_23_22, hf_23_22, hk_23_22, hw_23_22, ho_23_23, hf_23_23, hk_23_23, hw_23_23, ho_23_24, hf_23_24, hk_23_24, hw_23_24, ho_23_25, hf_23_25, ho_23_26, hf_23_26, ho_23_27, hf_23_27, hk_23_27, hw_23_27, ho_23_28, hf_23_28, ho_23_29, hf_23_29, ho_23_30, hf_23_30, hk_23_30, hw_23_30, ho_23_31, hf_23_31, hk_23_31, hw_23_31, ho_23_32, hf_23_32, ho_23_33, hf_23_33, ho_23_34, hf_23_34, hk_23_34, hw_23_34, ho_23_35, hf_23_35, hk_23_35, hw_23_35, ho_23_36, hf_23_36, hk_23_36, hw_23_36, ho_23_37, hf_23_37, ho_23_38, hf_23_38, ho_23_39, hf_23_39, hn_24, hi_24, hj_24, hg_24, hu_24, hn_25, hi_25, hj_25, hg_25, hu_25, hn_26, hi_26, hj_26, hg_26, hu_26, hn_27, hi_27, hg_27, hu_27, hn_28, hi_28, hg_28, hu_28, hn_29, hi_29, hj_29, hg_29, hu_29, hn_30, hi_30, hj_30, hg_30, hu_30, hn_31, hi_31, hj_31, hg_31, hu_31, hn_32, hi_32, hj_32, hg_32, hu_32, hn_33, hi_33, hj_33, hg_33, hu_33, hn_34, hi_34, hj_34, hg_34, hu_34, hn_35, hi_35, hj_35, hg_35, hu_35, hn_36, hi_36, hj_36, hg_36, hu_36, hn_37, hi_37, hg_37, hu_37, hn_38, hi_38, hj_38, hg_38, hu_38, hn_39, hi_39, hj_39, hg_39, hu_39, hn_40, hi_40, hj_40, hg_40, hu_40, hn_41, hi_41, hj_41, hg_41, hu_41, hn_42, hi_42, hg_42, hu_42, hn_43, hi_43, hg_43, hu_43, hn_44, hi_44, hj_44, hg_44, hu_44, hn_45, hi_45, hg_45, hu_45, rI_58, qy]
end RT
