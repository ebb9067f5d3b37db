/-! TABLE: a line of the reference -/
section RM
variable {n s : Nat} {c : Nat → mq_E} {I : Nat → Int32} {J : Nat → Int64} {A : Nat → Nat → Int32} {B : Nat → Nat → Int64} {R : Nat → Value} {Q : Nat → Nat → Option Nat}
variable {L : Nat} {tp : Nat → Nat} {N m : Nat}
theorem zn_m1 (k : Nat) (hk : k < 2147483648) : ¬ zn k = -zn 1 := by
  intro e
  have h := zn_n0 k hk
  rw [e] at h
  exact h (by decide)
theorem R_ln (hL : L ≤ 1000) (hR : RTK L tp N (A 25) (A 26) (B 27)) (hWd : WRD B) (h1m : 1 ≤ m) (hm : m ≤ 6) (d : Nat) (S : LST) (hx : S.1.2 = 0) (hN : S.1.1 ≤ N) (hV : LIV m S) (hM : MR m S (A 29) (A 30)) : ∃ (z : Nat × Nat) (A' : Nat → Nat → Int32), z.2 < 20000 ∧ (z.2 = 0 → z.1 ≤ N) ∧ (tsg L tp 59 z).2 = (lnF L tp m S).1.2 ∧ ((tsg L tp 59 z).2 = 0 → tsg L tp 59 z = (lnF L tp m S).1 ∧ MR m (lnF L tp m S) (A' 29) (A' 30)) ∧ f1 (A 29) (A' 29) ∧ (∀ q, q ≠ 29 → q ≠ 30 → A' q = A q) ∧ mz (d + 4) 199 0 [some (.ref 23), none, none, none, none] [] (hp n s c (rI I S.1) J A B R Q) = some (some none, hp n s c (rI I z) J A' B R Q) := by
  have hx2 : S.1.2 < 20000 := by omega
  have hN2 : S.1.2 = 0 → S.1.1 ≤ N := fun _ => hN
  obtain ⟨m1, m2, m3, m4⟩ := hM
  have w1 := R_isW (n := n) (s := s) (c := c) (I := I) (J := J) (R := R) (Q := Q) hR hWd (d + 3) 1 (by omega) S.1 hx2 hN2
  have w4 := R_isW (n := n) (s := s) (c := c) (I := I) (J := J) (R := R) (Q := Q) hR hWd (d + 3) 4 (by omega) S.1 hx2 hN2
  have ew1 : wmp 1 = 2 := rfl
  have ew4 : wmp 4 = 5 := rfl
  rw [ew1] at w1
  rw [ew4] at w4
  have hav : adv S.1 = (S.1.1 + 1, S.1.2) := by rw [adv_0 hx, hx]
  have hb1 : (adv S.1).2 < 20000 := adv_b hx2
  have hw0 : mz (d + 4) 199 24 [some (.ref 23), some (.int (zo (wdq L tp S.1.1 2))), none, none, none] [] (hp n s c (rI I S.1) J A B R Q) = mz (d + 4) 199 45 [some (.ref 23), some (.int (zo (wdq L tp S.1.1 2))), some (.int (zn (m - 1))), none, none] [] (hp n s c (rI I (adv S.1)) J A B R Q) := by
    rw [hav]
    simp (disch := first | omega | exact zb_1 | exact zb_0 | exact zb_n1 | exact zb_n0) only [x199_24, x199_25, x199_26, x199_29, x199_30, x199_31, x199_34, x199_35, x199_38, x199_41, x199_42, x199_43, x199_44, mq_dl_int, mq_dl_ref, mq_dl_null, mq_dl_none, mc_some, Option.toList_some, Option.toList_none, List.cons_append, List.nil_append, zb_1, zb_0, ↓reduceIte, if_true, if_false, not_true_eq_false, not_false_eq_true, Bool.false_eq_true, z_10, z_01, eq_self, Bool.and_self, true_or, or_true, false_or, or_false, true_and, and_true, false_and, and_false, and_self, or_self, Nat.reduceLT, Nat.reduceEqDiff, Nat.reduceLeDiff, Nat.reduceAdd, Nat.reduceMul, Nat.reduceSub, zn_lit, zn_add, zn_mul, zn_sub, zn_addneg, zn_lt, zn_le, zn_eq, zn_clamp, zn_in, zn_long, hp_1, hp_21, upd_zu, updL_zu, updQ_zu, zu_eq, zu_ne, ho_23, ho_23_0, hf_23_0, hk_23_0, hw_23_0, ho_23_1, hf_23_1, ho_23_2, hf_23_2, hk_23_2, hw_23_2, ho_23_3, hf_23_3, hk_23_3, hw_23_3, ho_23_4, hf_23_4, ho_23_5, hf_23_5, ho_23_6, hf_23_6, ho_23_7, hf_23_7, hk_23_7, hw_23_7, ho_23_8, hf_23_8, hk_23_8, hw_23_8, ho_23_9, hf_23_9, ho_23_10, hf_23_10, ho_23_11, hf_23_11, hk_23_11, hw_23_11, ho_23_12, hf_23_12, hk_23_12, hw_23_12, ho_23_13, hf_23_13, ho_23_14, hf_23_14, ho_23_15, hf_23_15, ho_23_16, hf_23_16, hk_23_16, hw_23_16, ho_23_17, hf_23_17, ho_23_18, hf_23_18, ho_23_19, hf_23_19, hk_23_19, hw_23_19, ho_23_20, hf_23_20, ho_23_21, hf_23_21, hk_23_21, hw_23_21, ho_23_22, hf_23_22, hk_23_22, hw_23_22, ho_23_23, hf_23_23, hk_23_23, hw_23_23, ho_23_24, hf_23_24, hk_23_24, hw_23_24, ho_23_25, hf_23_25, ho_23_26, hf_23_26, ho_23_27, hf_23_27, hk_23_27, hw_23_27, ho_23_28, hf_23_28, ho_23_29, hf_23_29, ho_23_30, hf_23_30, hk_23_30, hw_23_30, ho_23_31, hf_23_31, hk_23_31, hw_23_31, ho_23_32, hf_23_32, ho_23_33, hf_23_33, ho_23_34, hf_23_34, hk_23_34, hw_23_34, ho_23_35, hf_23_35, hk_23_35, hw_23_35, ho_23_36, hf_23_36, hk_23_36, hw_23_36, ho_23_37, hf_23_37, ho_23_38, hf_23_38, ho_23_39, hf_23_39, hn_24, hi_24, hj_24, hg_24, hu_24, hn_25, hi_25, hj_25, hg_25, hu_25, hn_26, hi_26, hj_26, hg_26, hu_26, hn_27, hi_27, hg_27, hu_27, hn_28, hi_28, hg_28, hu_28, hn_29, hi_29, hj_29, hg_29, hu_29, hn_30, hi_30, hj_30, hg_30, hu_30, hn_31, hi_31, hj_31, hg_31, hu_31, hn_32, hi_32, hj_32, hg_32, hu_32, hn_33, hi_33, hj_33, hg_33, hu_33, hn_34, hi_34, hj_34, hg_34, hu_34, hn_35, hi_35, hj_35, hg_35, hu_35, hn_36, hi_36, hj_36, hg_36, hu_36, hn_37, hi_37, hg_37, hu_37, hn_38, hi_38, hj_38, hg_38, hu_38, hn_39, hi_39, hj_39, hg_39, hu_39, hn_40, hi_40, hj_40, hg_40, hu_40, hn_41, hi_41, hj_41, hg_41, hu_41, hn_42, hi_42, hg_42, hu_42, hn_43, hi_43, hg_43, hu_43, hn_44, hi_44, hj_44, hg_44, hu_44, hn_45, hi_45, hg_45, hu_45, rI_57, rI_w7, m1, decide_true]
  unfold lnF
  by_cases q : wdq L tp S.1.1 2 = true
  · -- times
    rw [if_pos q]
    have hN1 : (adv S.1).2 = 0 → (adv S.1).1 ≤ N := fun _ => by rw [hav]; exact RTK_lt hR hN (by rw [wdq_1 q]; omega)
    obtain ⟨z1, z1a, z1b, z1c⟩ := R_tth (n := n) (s := s) (c := c) (I := I) (J := J) (R := R) (Q := Q) hL hR hm (d + 1) true (adv S.1) hb1 hN1 (-zn 1) (Or.inl (by decide)) False (fun _ => ⟨fun _ => ⟨False.elim, fun e => absurd e.1 (by decide)⟩, fun e => by cases e⟩)
    have z1d := z1b (fun e => e.2)
    subst z1d
    have hb3 : (t3 L tp m S.1).2 < 20000 := adv_b (see_b hL hb1 1 (m - 1))
    have hN3 : (t3 L tp m S.1).2 = 0 → (t3 L tp m S.1).1 ≤ N := by
      intro h
      obtain ⟨k1, k2⟩ := adv_fine h
      obtain ⟨c1, c2, c3, c4, c5⟩ := see_fine k1
      have e : t3 L tp m S.1 = ((adv S.1).1 + 1, 0) := by unfold t3; rw [k2, c5]
      rw [e]
      exact RTK_lt hR (hN1 c1) (by rw [c2]; omega)
    have hy : (if (see L tp 1 (m - 1) (adv S.1)).2 = 0 then zn (nbq L tp (adv S.1).1) else zn 0) ≤ zn 0 ∨ ∃ i, (if (see L tp 1 (m - 1) (adv S.1)).2 = 0 then zn (nbq L tp (adv S.1).1) else zn 0) = zn i ∧ i < 6 := by
      by_cases h : (see L tp 1 (m - 1) (adv S.1)).2 = 0
      · rw [if_pos h]
        obtain ⟨c1, c2, c3, c4, c5⟩ := see_fine h
        exact Or.inr ⟨_, rfl, by omega⟩
      · rw [if_neg h]; exact Or.inl (by decide)
    obtain ⟨z2, z2a, z2b, z2c⟩ := R_tth (n := n) (s := s) (c := c) (I := I) (J := J) (R := R) (Q := Q) hL hR hm (d + 1) true (t3 L tp m S.1) hb3 hN3 (if (see L tp 1 (m - 1) (adv S.1)).2 = 0 then zn (nbq L tp (adv S.1).1) else zn 0) hy (¬ S.2.1 (tmI L tp S.1 * 6 + tmJ L tp m S.1) = zn 0) (fun h4 => ⟨fun _ => by
      obtain ⟨f1, f2, f3, f4, f5, f6, i1, i2, j1, j2⟩ := t4_fine (x := S.1) h4
      have hs : (see L tp 1 (m - 1) (adv S.1)).2 = 0 := by
        have h9 : (t3 L tp m S.1).2 = 0 := by rw [f3]
        exact (adv_fine h9).1
      rw [if_pos hs]
      have ei : nbq L tp (adv S.1).1 = tmI L tp S.1 := rfl
      have ej : nbq L tp (t3 L tp m S.1).1 = tmJ L tp m S.1 := rfl
      rw [ei, ej]
      constructor
      · intro h
        refine ⟨zn_ltp 0 _ (by omega) (by omega) (by omega), tmI L tp S.1, rfl, by omega, ?_⟩
        rw [m4 _ (by omega), Nat.mul_comm]
        exact h
      · rintro ⟨-, i', e1, e2, e3⟩
        rw [zn_eq _ _ (by omega) (by omega)] at e1
        subst e1
        rw [m4 _ (by omega), Nat.mul_comm] at e3
        exact e3, fun e => by cases e⟩)
    have z1e : mz (d + 3) 200 0 [some (.ref 23), some (.int (zn (m - 1))), some (.int (-zn 1)), some (.int (zn 1)), none, none, none] [] (hp n s c (rI I (adv S.1)) J A B R Q) = some (some (some (.int (if (see L tp 1 (m - 1) (adv S.1)).2 = 0 then zn (nbq L tp (adv S.1).1) else zn 0))), hp n s c (rI I (t3 L tp m S.1)) J A B R Q) := z1c
    have z2e : mz (d + 3) 200 0 [some (.ref 23), some (.int (zn (m - 1))), some (.int (if (see L tp 1 (m - 1) (adv S.1)).2 = 0 then zn (nbq L tp (adv S.1).1) else zn 0)), some (.int (zn 1)), none, none, none] [] (hp n s c (rI I (t3 L tp m S.1)) J A B R Q) = some (some (some (.int (if z2.2 = 0 then zn (nbq L tp (t3 L tp m S.1).1) else zn 0))), hp n s c (rI I (adv z2)) J A B R Q) := z2c
    have e0 : mz (d + 4) 199 0 [some (.ref 23), none, none, none, none] [] (hp n s c (rI I S.1) J A B R Q) = mz (d + 4) 199 62 [some (.ref 23), some (.int (zn 1)), some (.int (zn (m - 1))), some (.int (if (see L tp 1 (m - 1) (adv S.1)).2 = 0 then zn (nbq L tp (adv S.1).1) else zn 0)), some (.int (if z2.2 = 0 then zn (nbq L tp (t3 L tp m S.1).1) else zn 0))] [] (hp n s c (rI I (adv z2)) J A B R Q) := by
      have e1 : mz (d + 4) 199 0 [some (.ref 23), none, none, none, none] [] (hp n s c (rI I S.1) J A B R Q) = mz (d + 4) 199 24 [some (.ref 23), some (.int (zo (wdq L tp S.1.1 2))), none, none, none] [] (hp n s c (rI I S.1) J A B R Q) := by
        simp (disch := first | omega | exact zb_1 | exact zb_0 | exact zb_n1 | exact zb_n0) only [x199_0, x199_1, x199_2, x199_5, x199_6, x199_7, mq_dl_int, mq_dl_ref, mq_dl_null, mq_dl_none, mc_some, Option.toList_some, Option.toList_none, List.cons_append, List.nil_append, zb_1, zb_0, ↓reduceIte, if_true, if_false, not_true_eq_false, not_false_eq_true, Bool.false_eq_true, z_10, z_01, eq_self, Bool.and_self, true_or, or_true, false_or, or_false, true_and, and_true, false_and, and_false, and_self, or_self, Nat.reduceLT, Nat.reduceEqDiff, Nat.reduceLeDiff, Nat.reduceAdd, Nat.reduceMul, Nat.reduceSub, zn_lit, zn_add, zn_mul, zn_sub, zn_addneg, zn_lt, zn_le, zn_eq, zn_clamp, zn_in, zn_long, hp_1, hp_21, upd_zu, updL_zu, updQ_zu, zu_eq, zu_ne, ho_23, ho_23_0, hf_23_0, hk_23_0, hw_23_0, ho_23_1, hf_23_1, ho_23_2, hf_23_2, hk_23_2, hw_23_2, ho_23_3, hf_23_3, hk_23_3, hw_23_3, ho_23_4, hf_23_4, ho_23_5, hf_23_5, ho_23_6, hf_23_6, ho_23_7, hf_23_7, hk_23_7, hw_23_7, ho_23_8, hf_23_8, hk_23_8, hw_23_8, ho_23_9, hf_23_9, ho_23_10, hf_23_10, ho_23_11, hf_23_11, hk_23_11, hw_23_11, ho_23_12, hf_23_12, hk_23_12, hw_23_12, ho_23_13, hf_23_13, ho_23_14, hf_23_14, ho_23_15, hf_23_15, ho_23_16, hf_23_16, hk_23_16, hw_23_16, ho_23_17, hf_23_17, ho_23_18, hf_23_18, ho_23_19, hf_23_19, hk_23_19, hw_23_19, ho_23_20, hf_23_20, ho_23_21, hf_23_21, hk_23_21, hw_23_21, ho_23_22, hf_23_22, hk_23_22, hw_23_22, ho_23_23, hf_23_23, hk_23_23, hw_23_23, ho_23_24, hf_23_24, hk_23_24, hw_23_24, ho_23_25, hf_23_25, ho_23_26, hf_23_26, ho_23_27, hf_23_27, hk_23_27, hw_23_27, ho_23_28, hf_23_28, ho_23_29, hf_23_29, ho_23_30, hf_23_30, hk_23_30, hw_23_30, ho_23_31, hf_23_31, hk_23_31, hw_23_31, ho_23_32, hf_23_32, ho_23_33, hf_23_33, ho_23_34, hf_23_34, hk_23_34, hw_23_34, ho_23_35, hf_23_35, hk_23_35, hw_23_35, ho_23_36, hf_23_36, hk_23_36, hw_23_36, ho_23_37, hf_23_37, ho_23_38, hf_23_38, ho_23_39, hf_23_39, hn_24, hi_24, hj_24, hg_24, hu_24, hn_25, hi_25, hj_25, hg_25, hu_25, hn_26, hi_26, hj_26, hg_26, hu_26, hn_27, hi_27, hg_27, hu_27, hn_28, hi_28, hg_28, hu_28, hn_29, hi_29, hj_29, hg_29, hu_29, hn_30, hi_30, hj_30, hg_30, hu_30, hn_31, hi_31, hj_31, hg_31, hu_31, hn_32, hi_32, hj_32, hg_32, hu_32, hn_33, hi_33, hj_33, hg_33, hu_33, hn_34, hi_34, hj_34, hg_34, hu_34, hn_35, hi_35, hj_35, hg_35, hu_35, hn_36, hi_36, hj_36, hg_36, hu_36, hn_37, hi_37, hg_37, hu_37, hn_38, hi_38, hj_38, hg_38, hu_38, hn_39, hi_39, hj_39, hg_39, hu_39, hn_40, hi_40, hj_40, hg_40, hu_40, hn_41, hi_41, hj_41, hg_41, hu_41, hn_42, hi_42, hg_42, hu_42, hn_43, hi_43, hg_43, hu_43, hn_44, hi_44, hj_44, hg_44, hu_44, hn_45, hi_45, hg_45, hu_45, w1, hx, q, decide_true, Bool.and_self, zo_t]
      rw [e1, hw0, q, zo_t]
      generalize hV1 : (if (see L tp 1 (m - 1) (adv S.1)).2 = 0 then zn (nbq L tp (adv S.1).1) else zn 0) = V1 at z1e z2e ⊢
      generalize hV2 : (if z2.2 = 0 then zn (nbq L tp (t3 L tp m S.1).1) else zn 0) = V2 at z2e ⊢
      simp (disch := first | omega | exact zb_1 | exact zb_0 | exact zb_n1 | exact zb_n0) only [x199_45, x199_46, x199_47, x199_48, x199_49, x199_52, x199_53, x199_54, x199_55, x199_56, x199_57, x199_60, mq_dl_int, mq_dl_ref, mq_dl_null, mq_dl_none, mc_some, Option.toList_some, Option.toList_none, List.cons_append, List.nil_append, zb_1, zb_0, ↓reduceIte, if_true, if_false, not_true_eq_false, not_false_eq_true, Bool.false_eq_true, z_10, z_01, eq_self, Bool.and_self, true_or, or_true, false_or, or_false, true_and, and_true, false_and, and_false, and_self, or_self, Nat.reduceLT, Nat.reduceEqDiff, Nat.reduceLeDiff, Nat.reduceAdd, Nat.reduceMul, Nat.reduceSub, zn_lit, zn_add, zn_mul, zn_sub, zn_addneg, zn_lt, zn_le, zn_eq, zn_clamp, zn_in, zn_long, hp_1, hp_21, upd_zu, updL_zu, updQ_zu, zu_eq, zu_ne, ho_23, ho_23_0, hf_23_0, hk_23_0, hw_23_0, ho_23_1, hf_23_1, ho_23_2, hf_23_2, hk_23_2, hw_23_2, ho_23_3, hf_23_3, hk_23_3, hw_23_3, ho_23_4, hf_23_4, ho_23_5, hf_23_5, ho_23_6, hf_23_6, ho_23_7, hf_23_7, hk_23_7, hw_23_7, ho_23_8, hf_23_8, hk_23_8, hw_23_8, ho_23_9, hf_23_9, ho_23_10, hf_23_10, ho_23_11, hf_23_11, hk_23_11, hw_23_11, ho_23_12, hf_23_12, hk_23_12, hw_23_12, ho_23_13, hf_23_13, ho_23_14, hf_23_14, ho_23_15, hf_23_15, ho_23_16, hf_23_16, hk_23_16, hw_23_16, ho_23_17, hf_23_17, ho_23_18, hf_23_18, ho_23_19, hf_23_19, hk_23_19, hw_23_19, ho_23_20, hf_23_20, ho_23_21, hf_23_21, hk_23_21, hw_23_21, ho_23_22, hf_23_22, hk_23_22, hw_23_22, ho_23_23, hf_23_23, hk_23_23, hw_23_23, ho_23_24, hf_23_24, hk_23_24, hw_23_24, ho_23_25, hf_23_25, ho_23_26, hf_23_26, ho_23_27, hf_23_27, hk_23_27, hw_23_27, ho_23_28, hf_23_28, ho_23_29, hf_23_29, ho_23_30, hf_23_30, hk_23_30, hw_23_30, ho_23_31, hf_23_31, hk_23_31, hw_23_31, ho_23_32, hf_23_32, ho_23_33, hf_23_33, ho_23_34, hf_23_34, hk_23_34, hw_23_34, ho_23_35, hf_23_35, hk_23_35, hw_23_35, ho_23_36, hf_23_36, hk_23_36, hw_23_36, ho_23_37, hf_23_37, ho_23_38, hf_23_38, ho_23_39, hf_23_39, hn_24, hi_24, hj_24, hg_24, hu_24, hn_25, hi_25, hj_25, hg_25, hu_25, hn_26, hi_26, hj_26, hg_26, hu_26, hn_27, hi_27, hg_27, hu_27, hn_28, hi_28, hg_28, hu_28, hn_29, hi_29, hj_29, hg_29, hu_29, hn_30, hi_30, hj_30, hg_30, hu_30, hn_31, hi_31, hj_31, hg_31, hu_31, hn_32, hi_32, hj_32, hg_32, hu_32, hn_33, hi_33, hj_33, hg_33, hu_33, hn_34, hi_34, hj_34, hg_34, hu_34, hn_35, hi_35, hj_35, hg_35, hu_35, hn_36, hi_36, hj_36, hg_36, hu_36, hn_37, hi_37, hg_37, hu_37, hn_38, hi_38, hj_38, hg_38, hu_38, hn_39, hi_39, hj_39, hg_39, hu_39, hn_40, hi_40, hj_40, hg_40, hu_40, hn_41, hi_41, hj_41, hg_41, hu_41, hn_42, hi_42, hg_42, hu_42, hn_43, hi_43, hg_43, hu_43, hn_44, hi_44, hj_44, hg_44, hu_44, hn_45, hi_45, hg_45, hu_45, z1e, z2e]
    rw [e0]
    unfold tmF
    by_cases q4 : (t4 L tp m S.1).2 = 0
    · rw [if_pos q4]
      obtain ⟨f1', f2, f3', f4, f5, f6, i1, i2, j1, j2⟩ := t4_fine q4
      have hs : (see L tp 1 (m - 1) (adv S.1)).2 = 0 := by
        have h9 : (t3 L tp m S.1).2 = 0 := by rw [f3']
        exact (adv_fine h9).1
      have ez2 : z2 = t5 L tp m S.1 S.2.1 := by
        unfold t5
        by_cases h9 : S.2.1 (tmI L tp S.1 * 6 + tmJ L tp m S.1) = zn 0
        · rw [if_pos h9]; exact z2b (fun e => e.2 h9)
        · rw [if_neg h9]; exact z2a q4 h9
      have b5 := t5_b (m := m) (tp := tp) hL hx2 S.2.1
      rw [ez2, if_pos hs]
      by_cases q5 : (t5 L tp m S.1 S.2.1).2 = 0
      · rw [if_pos q5]
        have et5 : t5 L tp m S.1 S.2.1 = t4 L tp m S.1 := by
          unfold t5 at q5 ⊢
          by_cases h9 : S.2.1 (tmI L tp S.1 * 6 + tmJ L tp m S.1) = zn 0
          · rw [if_pos h9]
          · rw [if_neg h9] at q5; exact absurd q5 (flt_n (by omega))
        have hN5 : (adv (t5 L tp m S.1 S.2.1)).2 = 0 → (adv (t5 L tp m S.1 S.2.1)).1 ≤ N := fun _ => by
          rw [et5, f4, adv_0 rfl]
          show S.1.1 + 1 + 1 + 1 ≤ N
          have h9 : S.1.1 + 1 ≤ N := RTK_lt hR hN (by rw [wdq_1 q]; omega)
          exact RTK_lt (k := S.1.1 + 1 + 1) hR (RTK_lt (k := S.1.1 + 1) hR h9 (by rw [f5]; omega)) (by rw [f6]; omega)
        have hA1 : RTK L tp N ((zu A 30 (zu (zu (A 30) (6 * tmI L tp S.1 + tmJ L tp m S.1) (zn 1)) (6 * tmJ L tp m S.1 + tmI L tp S.1) (zn 1))) 25) ((zu A 30 (zu (zu (A 30) (6 * tmI L tp S.1 + tmJ L tp m S.1) (zn 1)) (6 * tmJ L tp m S.1 + tmI L tp S.1) (zn 1))) 26) (B 27) := by
          rw [zu_ne _ _ _ _ (by omega), zu_ne _ _ _ _ (by omega)]; exact hR
        have g1 := R_tw (n := n) (s := s) (c := c) (I := I) (J := J) (R := R) (Q := Q) hA1 hWd (d + 1) 2 (by omega) _ (adv_b b5) hN5
        have ew2 : wmp 2 = 3 := rfl
        rw [ew2] at g1
        have b7 := t7_b (m := m) (tp := tp) hL hx2 S.2.1
        have hN7 : (t7 L tp m S.1 S.2.1).2 = 0 → (t7 L tp m S.1 S.2.1).1 ≤ N := by
          intro h
          obtain ⟨k1, k2, k3⟩ := twd_fine h
          have k4 : (adv (t5 L tp m S.1 S.2.1)).1 + 1 ≤ N := RTK_lt hR (hN5 k1) (by rw [wdq_1 k2]; omega)
          unfold t7
          rw [k3]
          exact k4
        obtain ⟨F', s1, s2, s3, s4⟩ := R_shares (n := n) (s := s) (c := c) (I := I) (J := J) (R := R) (Q := Q) hL hA1 hWd (d) (tmI L tp S.1) (tmJ L tp m S.1) hm (by omega) (by omega) i1 j1 1000 (t7 L tp m S.1 S.2.1) S.2.2.1 (A 29) none none b7 hN7 (fun _ => by omega) hV.1 m3 m1
        have eA : zu (zu A 30 (zu (zu (A 30) (6 * tmI L tp S.1 + tmJ L tp m S.1) (zn 1)) (6 * tmJ L tp m S.1 + tmI L tp S.1) (zn 1))) 29 (A 29) = zu A 30 (zu (zu (A 30) (6 * tmI L tp S.1 + tmJ L tp m S.1) (zn 1)) (6 * tmJ L tp m S.1 + tmI L tp S.1) (zn 1)) := by
          have h9 := zu_self (zu A 30 (zu (zu (A 30) (6 * tmI L tp S.1 + tmJ L tp m S.1) (zn 1)) (6 * tmJ L tp m S.1 + tmI L tp S.1) (zn 1))) 29
          rw [zu_ne A 30 29 _ (by omega)] at h9
          exact h9
        rw [eA] at s4
        have b8 := shF_b (tp := tp) (m := m) hL (tmI L tp S.1) (tmJ L tp m S.1) 1000 (t7 L tp m S.1 S.2.1) S.2.2.1 b7
        refine ⟨(shF L tp m (tmI L tp S.1) (tmJ L tp m S.1) 1000 (t7 L tp m S.1 S.2.1) S.2.2.1).1, zu (zu A 30 (zu (zu (A 30) (6 * tmI L tp S.1 + tmJ L tp m S.1) (zn 1)) (6 * tmJ L tp m S.1 + tmI L tp S.1) (zn 1))) 29 F', b8, s3, rfl, fun _ => ⟨rfl, ?_⟩, ?_, ?_, ?_⟩
        · rw [zu_eq, zu_ne _ _ _ _ (by omega), zu_eq]
          refine ⟨by rw [s1 224 (by omega)]; exact m1, fun i hi => by rw [s1 _ (by omega)]; exact m2 i hi, s2, fun p hp => ?_⟩
          show zu (zu (A 30) (6 * tmI L tp S.1 + tmJ L tp m S.1) (zn 1)) (6 * tmJ L tp m S.1 + tmI L tp S.1) (zn 1) p = zu (zu S.2.1 (tmI L tp S.1 * 6 + tmJ L tp m S.1) (zn 1)) (tmJ L tp m S.1 * 6 + tmI L tp S.1) (zn 1) p
          rw [Nat.mul_comm 6, Nat.mul_comm 6, zu_app, zu_app, zu_app, zu_app, m4 p hp]
        · rw [zu_eq]
          exact f3_f1 s1
        · intro q' h1 h2
          rw [zu_ne _ _ _ _ h1, zu_ne _ _ _ _ h2]
        · have hF0 : (adv (t5 L tp m S.1 S.2.1)).2 = 0 := by rw [adv_0 q5]
          have ei : nbq L tp (adv S.1).1 = tmI L tp S.1 := rfl
          have ej : nbq L tp (t3 L tp m S.1).1 = tmJ L tp m S.1 := rfl
          rw [ei, ej]
          unfold t7 at s4 ⊢
          simp (disch := first | omega | exact zb_1 | exact zb_0 | exact zb_n1 | exact zb_n0) only [x199_62, x199_63, x199_66, x199_70, x199_71, x199_74, x199_75, x199_78, x199_80, x199_81, x199_82, x199_84, x199_85, x199_86, x199_87, x199_88, x199_91, x199_93, x199_95, x199_96, x199_97, x199_98, x199_99, x199_100, x199_101, x199_102, x199_105, x199_106, x199_107, x199_109, x199_112, x199_139, mq_dl_int, mq_dl_ref, mq_dl_null, mq_dl_none, mc_some, Option.toList_some, Option.toList_none, List.cons_append, List.nil_append, zb_1, zb_0, ↓reduceIte, if_true, if_false, not_true_eq_false, not_false_eq_true, Bool.false_eq_true, z_10, z_01, eq_self, Bool.and_self, true_or, or_true, false_or, or_false, true_and, and_true, false_and, and_false, and_self, or_self, Nat.reduceLT, Nat.reduceEqDiff, Nat.reduceLeDiff, Nat.reduceAdd, Nat.reduceMul, Nat.reduceSub, zn_lit, zn_add, zn_mul, zn_sub, zn_addneg, zn_lt, zn_le, zn_eq, zn_clamp, zn_in, zn_long, hp_1, hp_21, upd_zu, updL_zu, updQ_zu, zu_eq, zu_ne, ho_23, ho_23_0, hf_23_0, hk_23_0, hw_23_0, ho_23_1, hf_23_1, ho_23_2, hf_23_2, hk_23_2, hw_23_2, ho_23_3, hf_23_3, hk_23_3, hw_23_3, ho_23_4, hf_23_4, ho_23_5, hf_23_5, ho_23_6, hf_23_6, ho_23_7, hf_23_7, hk_23_7, hw_23_7, ho_23_8, hf_23_8, hk_23_8, hw_23_8, ho_23_9, hf_23_9, ho_23_10, hf_23_10, ho_23_11, hf_23_11, hk_23_11, hw_23_11, ho_23_12, hf_23_12, hk_23_12, hw_23_12, ho_23_13, hf_23_13, ho_23_14, hf_23_14, ho_23_15, hf_23_15, ho_23_16, hf_23_16, hk_23_16, hw_23_16, ho_23_17, hf_23_17, ho_23_18, hf_23_18, ho_23_19, hf_23_19, hk_23_19, hw_23_19, ho_23_20, hf_23_20, ho_23_21, hf_23_21, hk_23_21, hw_23_21, ho_23_22, hf_23_22, hk_23_22, hw_23_22, ho_23_23, hf_23_23, hk_23_23, hw_23_23, ho_23_24, hf_23_24, hk_23_24, hw_23_24, ho_23_25, hf_23_25, ho_23_26, hf_23_26, ho_23_27, hf_23_27, hk_23_27, hw_23_27, ho_23_28, hf_23_28, ho_23_29, hf_23_29, ho_23_30, hf_23_30, hk_23_30, hw_23_30, ho_23_31, hf_23_31, hk_23_31, hw_23_31, ho_23_32, hf_23_32, ho_23_33, hf_23_33, ho_23_34, hf_23_34, hk_23_34, hw_23_34, ho_23_35, hf_23_35, hk_23_35, hw_23_35, ho_23_36, hf_23_36, hk_23_36, hw_23_36, ho_23_37, hf_23_37, ho_23_38, hf_23_38, ho_23_39, hf_23_39, hn_24, hi_24, hj_24, hg_24, hu_24, hn_25, hi_25, hj_25, hg_25, hu_25, hn_26, hi_26, hj_26, hg_26, hu_26, hn_27, hi_27, hg_27, hu_27, hn_28, hi_28, hg_28, hu_28, hn_29, hi_29, hj_29, hg_29, hu_29, hn_30, hi_30, hj_30, hg_30, hu_30, hn_31, hi_31, hj_31, hg_31, hu_31, hn_32, hi_32, hj_32, hg_32, hu_32, hn_33, hi_33, hj_33, hg_33, hu_33, hn_34, hi_34, hj_34, hg_34, hu_34, hn_35, hi_35, hj_35, hg_35, hu_35, hn_36, hi_36, hj_36, hg_36, hu_36, hn_37, hi_37, hg_37, hu_37, hn_38, hi_38, hj_38, hg_38, hu_38, hn_39, hi_39, hj_39, hg_39, hu_39, hn_40, hi_40, hj_40, hg_40, hu_40, hn_41, hi_41, hj_41, hg_41, hu_41, hn_42, hi_42, hg_42, hu_42, hn_43, hi_43, hg_43, hu_43, hn_44, hi_44, hj_44, hg_44, hu_44, hn_45, hi_45, hg_45, hu_45, zu_zu, zb_nn1, rI_58, hF0, g1, s4, Nat.le_refl, show 6 * tmI L tp S.1 + tmJ L tp m S.1 < 36 by omega, show 6 * tmJ L tp m S.1 + tmI L tp S.1 < 36 by omega, decide_true]
      · rw [if_neg q5]
        have hF0 : ¬ (adv (t5 L tp m S.1 S.2.1)).2 = 0 := fun e => q5 (adv_fine e).1
        have et7 : t7 L tp m S.1 S.2.1 = t5 L tp m S.1 S.2.1 := by unfold t7; rw [adv_F q5, twd_F q5]
        have esh : shF L tp m (tmI L tp S.1) (tmJ L tp m S.1) 1000 (t7 L tp m S.1 S.2.1) S.2.2.1 = (t5 L tp m S.1 S.2.1, S.2.2.1) := by
          unfold shF
          rw [et7, if_neg (fun e => q5 e.1)]
        have hbx := adv_b b5
        refine ⟨adv (t5 L tp m S.1 S.2.1), A, hbx, fun e => absurd e hF0, ?_, fun e => ?_, f1_refl _, fun _ _ _ => rfl, ?_⟩
        · rw [esh, adv_F q5]
        · rw [tsg_F hF0] at e; exact absurd e hF0
        · simp (disch := first | omega | exact zb_1 | exact zb_0 | exact zb_n1 | exact zb_n0) only [x199_62, x199_63, x199_66, x199_69, mq_dl_int, mq_dl_ref, mq_dl_null, mq_dl_none, mc_some, Option.toList_some, Option.toList_none, List.cons_append, List.nil_append, zb_1, zb_0, ↓reduceIte, if_true, if_false, not_true_eq_false, not_false_eq_true, Bool.false_eq_true, z_10, z_01, eq_self, Bool.and_self, true_or, or_true, false_or, or_false, true_and, and_true, false_and, and_false, and_self, or_self, Nat.reduceLT, Nat.reduceEqDiff, Nat.reduceLeDiff, Nat.reduceAdd, Nat.reduceMul, Nat.reduceSub, zn_lit, zn_add, zn_mul, zn_sub, zn_addneg, zn_lt, zn_le, zn_eq, zn_clamp, zn_in, zn_long, hp_1, hp_21, upd_zu, updL_zu, updQ_zu, zu_eq, zu_ne, ho_23, ho_23_0, hf_23_0, hk_23_0, hw_23_0, ho_23_1, hf_23_1, ho_23_2, hf_23_2, hk_23_2, hw_23_2, ho_23_3, hf_23_3, hk_23_3, hw_23_3, ho_23_4, hf_23_4, ho_23_5, hf_23_5, ho_23_6, hf_23_6, ho_23_7, hf_23_7, hk_23_7, hw_23_7, ho_23_8, hf_23_8, hk_23_8, hw_23_8, ho_23_9, hf_23_9, ho_23_10, hf_23_10, ho_23_11, hf_23_11, hk_23_11, hw_23_11, ho_23_12, hf_23_12, hk_23_12, hw_23_12, ho_23_13, hf_23_13, ho_23_14, hf_23_14, ho_23_15, hf_23_15, ho_23_16, hf_23_16, hk_23_16, hw_23_16, ho_23_17, hf_23_17, ho_23_18, hf_23_18, ho_23_19, hf_23_19, hk_23_19, hw_23_19, ho_23_20, hf_23_20, ho_23_21, hf_23_21, hk_23_21, hw_23_21, ho_23_22, hf_23_22, hk_23_22, hw_23_22, ho_23_23, hf_23_23, hk_23_23, hw_23_23, ho_23_24, hf_23_24, hk_23_24, hw_23_24, ho_23_25, hf_23_25, ho_23_26, hf_23_26, ho_23_27, hf_23_27, hk_23_27, hw_23_27, ho_23_28, hf_23_28, ho_23_29, hf_23_29, ho_23_30, hf_23_30, hk_23_30, hw_23_30, ho_23_31, hf_23_31, hk_23_31, hw_23_31, ho_23_32, hf_23_32, ho_23_33, hf_23_33, ho_23_34, hf_23_34, hk_23_34, hw_23_34, ho_23_35, hf_23_35, hk_23_35, hw_23_35, ho_23_36, hf_23_36, hk_23_36, hw_23_36, ho_23_37, hf_23_37, ho_23_38, hf_23_38, ho_23_39, hf_23_39, hn_24, hi_24, hj_24, hg_24, hu_24, hn_25, hi_25, hj_25, hg_25, hu_25, hn_26, hi_26, hj_26, hg_26, hu_26, hn_27, hi_27, hg_27, hu_27, hn_28, hi_28, hg_28, hu_28, hn_29, hi_29, hj_29, hg_29, hu_29, hn_30, hi_30, hj_30, hg_30, hu_30, hn_31, hi_31, hj_31, hg_31, hu_31, hn_32, hi_32, hj_32, hg_32, hu_32, hn_33, hi_33, hj_33, hg_33, hu_33, hn_34, hi_34, hj_34, hg_34, hu_34, hn_35, hi_35, hj_35, hg_35, hu_35, hn_36, hi_36, hj_36, hg_36, hu_36, hn_37, hi_37, hg_37, hu_37, hn_38, hi_38, hj_38, hg_38, hu_38, hn_39, hi_39, hj_39, hg_39, hu_39, hn_40, hi_40, hj_40, hg_40, hu_40, hn_41, hi_41, hj_41, hg_41, hu_41, hn_42, hi_42, hg_42, hu_42, hn_43, hi_43, hg_43, hu_43, hn_44, hi_44, hj_44, hg_44, hu_44, hn_45, hi_45, hg_45, hu_45, rI_58, show ¬ (adv (t5 L tp m S.1 S.2.1)).2 ≤ 0 by omega]
    · rw [if_neg q4]
      have ez2 : z2 = t4 L tp m S.1 := z2b (fun e => q4 e.1)
      have b4 := t4_b (m := m) (tp := tp) hL hx2
      rw [ez2, if_neg q4]
      have ea := adv_F q4
      refine ⟨t4 L tp m S.1, A, b4, fun e => absurd e q4, by rw [tsg_F q4], fun e => ?_, f1_refl _, fun _ _ _ => rfl, ?_⟩
      · rw [tsg_F q4] at e; exact absurd e q4
      · rw [ea]
        generalize hV1 : (if (see L tp 1 (m - 1) (adv S.1)).2 = 0 then zn (nbq L tp (adv S.1).1) else zn 0) = V1
        simp (disch := first | omega | exact zb_1 | exact zb_0 | exact zb_n1 | exact zb_n0) only [x199_62, x199_63, x199_66, x199_69, mq_dl_int, mq_dl_ref, mq_dl_null, mq_dl_none, mc_some, Option.toList_some, Option.toList_none, List.cons_append, List.nil_append, zb_1, zb_0, ↓reduceIte, if_true, if_false, not_true_eq_false, not_false_eq_true, Bool.false_eq_true, z_10, z_01, eq_self, Bool.and_self, true_or, or_true, false_or, or_false, true_and, and_true, false_and, and_false, and_self, or_self, Nat.reduceLT, Nat.reduceEqDiff, Nat.reduceLeDiff, Nat.reduceAdd, Nat.reduceMul, Nat.reduceSub, zn_lit, zn_add, zn_mul, zn_sub, zn_addneg, zn_lt, zn_le, zn_eq, zn_clamp, zn_in, zn_long, hp_1, hp_21, upd_zu, updL_zu, updQ_zu, zu_eq, zu_ne, ho_23, ho_23_0, hf_23_0, hk_23_0, hw_23_0, ho_23_1, hf_23_1, ho_23_2, hf_23_2, hk_23_2, hw_23_2, ho_23_3, hf_23_3, hk_23_3, hw_23_3, ho_23_4, hf_23_4, ho_23_5, hf_23_5, ho_23_6, hf_23_6, ho_23_7, hf_23_7, hk_23_7, hw_23_7, ho_23_8, hf_23_8, hk_23_8, hw_23_8, ho_23_9, hf_23_9, ho_23_10, hf_23_10, ho_23_11, hf_23_11, hk_23_11, hw_23_11, ho_23_12, hf_23_12, hk_23_12, hw_23_12, ho_23_13, hf_23_13, ho_23_14, hf_23_14, ho_23_15, hf_23_15, ho_23_16, hf_23_16, hk_23_16, hw_23_16, ho_23_17, hf_23_17, ho_23_18, hf_23_18, ho_23_19, hf_23_19, hk_23_19, hw_23_19, ho_23_20, hf_23_20, ho_23_21, hf_23_21, hk_23_21, hw_23_21, ho_23_22, hf_23_22, hk_23_22, hw_23_22, ho_23_23, hf_23_23, hk_23_23, hw_23_23, ho_23_24, hf_23_24, hk_23_24, hw_23_24, ho_23_25, hf_23_25, ho_23_26, hf_23_26, ho_23_27, hf_23_27, hk_23_27, hw_23_27, ho_23_28, hf_23_28, ho_23_29, hf_23_29, ho_23_30, hf_23_30, hk_23_30, hw_23_30, ho_23_31, hf_23_31, hk_23_31, hw_23_31, ho_23_32, hf_23_32, ho_23_33, hf_23_33, ho_23_34, hf_23_34, hk_23_34, hw_23_34, ho_23_35, hf_23_35, hk_23_35, hw_23_35, ho_23_36, hf_23_36, hk_23_36, hw_23_36, ho_23_37, hf_23_37, ho_23_38, hf_23_38, ho_23_39, hf_23_39, hn_24, hi_24, hj_24, hg_24, hu_24, hn_25, hi_25, hj_25, hg_25, hu_25, hn_26, hi_26, hj_26, hg_26, hu_26, hn_27, hi_27, hg_27, hu_27, hn_28, hi_28, hg_28, hu_28, hn_29, hi_29, hj_29, hg_29, hu_29, hn_30, hi_30, hj_30, hg_30, hu_30, hn_31, hi_31, hj_31, hg_31, hu_31, hn_32, hi_32, hj_32, hg_32, hu_32, hn_33, hi_33, hj_33, hg_33, hu_33, hn_34, hi_34, hj_34, hg_34, hu_34, hn_35, hi_35, hj_35, hg_35, hu_35, hn_36, hi_36, hj_36, hg_36, hu_36, hn_37, hi_37, hg_37, hu_37, hn_38, hi_38, hj_38, hg_38, hu_38, hn_39, hi_39, hj_39, hg_39, hu_39, hn_40, hi_40, hj_40, hg_40, hu_40, hn_41, hi_41, hj_41, hg_41, hu_41, hn_42, hi_42, hg_42, hu_42, hn_43, hi_43, hg_43, hu_43, hn_44, hi_44, hj_44, hg_44, hu_44, hn_45, hi_45, hg_45, hu_45, rI_58, show ¬ (t4 L tp m S.1).2 ≤ 0 by omega]
  · rw [if_neg q]
    by_cases q' : wdq L tp S.1.1 5 = true
    · -- reverse
      rw [if_pos q']
      have hN1 : (adv S.1).2 = 0 → (adv S.1).1 ≤ N := fun _ => by rw [hav]; exact RTK_lt hR hN (by rw [wdq_1 q']; omega)
      obtain ⟨z1, z1a, z1b, z1c⟩ := R_tth (n := n) (s := s) (c := c) (I := I) (J := J) (R := R) (Q := Q) hL hR hm (d + 1) false (adv S.1) hb1 hN1 (-zn 1) (Or.inl (by decide)) (¬ S.2.2.2 (tmI L tp S.1) = zn (tmI L tp S.1)) (fun h4 => ⟨(fun e => nomatch e), fun _ => by
        obtain ⟨c1, c2, c3, c4, c5⟩ := see_fine h4
        have hnb := nbq_lt c2
        have ei : nbq L tp (adv S.1).1 = tmI L tp S.1 := rfl
        rw [ei] at c4 hnb ⊢
        rw [m2 _ (by omega)]
        exact ⟨Or.inl, fun e => e.elim id (fun e => absurd e (zn_m1 _ (by omega)))⟩⟩)
      have z1d : z1 = r2 L tp m S.1 S.2.2.2 := by
        unfold r2
        by_cases h9 : (see L tp 1 (m - 1) (adv S.1)).2 = 0 ∧ ¬ S.2.2.2 (tmI L tp S.1) = zn (tmI L tp S.1)
        · rw [if_pos h9]; exact z1a h9.1 h9.2
        · rw [if_neg h9]; exact z1b h9
      subst z1d
      have b2 := r2_b (r := S.2.2.2) (m := m) (tp := tp) hL hx2
      have hb3 := adv_b b2
      have hN3 : (adv (r2 L tp m S.1 S.2.2.2)).2 = 0 → (adv (r2 L tp m S.1 S.2.2.2)).1 ≤ N := by
        intro h
        obtain ⟨k1, k2⟩ := adv_fine h
        obtain ⟨c1, c2, c3, c4, c5, c6, c7, c8⟩ := r2_fine k1
        rw [k2, c3]
        have h9 : S.1.1 + 1 ≤ N := RTK_lt hR hN (by rw [wdq_1 q']; omega)
        show S.1.1 + 1 + 1 ≤ N
        exact RTK_lt (k := S.1.1 + 1) hR h9 (by rw [c5]; omega)
      have hy : (if (r2 L tp m S.1 S.2.2.2).2 = 0 then zn (nbq L tp (adv S.1).1) else zn 0) ≤ zn 0 ∨ ∃ i, (if (r2 L tp m S.1 S.2.2.2).2 = 0 then zn (nbq L tp (adv S.1).1) else zn 0) = zn i ∧ i < 6 := by
        by_cases h : (r2 L tp m S.1 S.2.2.2).2 = 0
        · rw [if_pos h]
          obtain ⟨c1, c2, c3, c4, c5, c6, c7, c8⟩ := r2_fine h
          exact Or.inr ⟨tmI L tp S.1, rfl, by omega⟩
        · rw [if_neg h]; exact Or.inl (by decide)
      obtain ⟨z2, z2a, z2b, z2c⟩ := R_tth (n := n) (s := s) (c := c) (I := I) (J := J) (R := R) (Q := Q) hL hR hm (d + 1) false (adv (r2 L tp m S.1 S.2.2.2)) hb3 hN3 (if (r2 L tp m S.1 S.2.2.2).2 = 0 then zn (nbq L tp (adv S.1).1) else zn 0) hy (rvJ L tp m S.1 S.2.2.2 = tmI L tp S.1 ∨ ¬ S.2.2.2 (rvJ L tp m S.1 S.2.2.2) = zn (rvJ L tp m S.1 S.2.2.2)) (fun h4 => ⟨(fun e => nomatch e), fun _ => by
        obtain ⟨c1, c2, c3, c4, c5⟩ := see_fine h4
        obtain ⟨k1, k2⟩ := adv_fine c1
        obtain ⟨d1, d2, d3, d4, d5, d6, d7, d8⟩ := r2_fine k1
        have hnb := nbq_lt c2
        have ei : nbq L tp (adv S.1).1 = tmI L tp S.1 := rfl
        have ej : nbq L tp (adv (r2 L tp m S.1 S.2.2.2)).1 = rvJ L tp m S.1 S.2.2.2 := rfl
        rw [ej] at c4 hnb ⊢
        rw [if_pos k1, ei, m2 _ (by omega), zn_eq _ _ (by omega) (by omega)]
        exact ⟨fun e => e.symm, fun e => e.symm⟩⟩)
      have z2d : z2 = r5 L tp m S.1 S.2.2.2 := by
        unfold r5
        by_cases h9 : (r4 L tp m S.1 S.2.2.2).2 = 0 ∧ (rvJ L tp m S.1 S.2.2.2 = tmI L tp S.1 ∨ ¬ S.2.2.2 (rvJ L tp m S.1 S.2.2.2) = zn (rvJ L tp m S.1 S.2.2.2))
        · rw [if_pos h9]; exact z2a h9.1 h9.2
        · rw [if_neg h9]; exact z2b h9
      subst z2d
      have z1e : mz (d + 3) 200 0 [some (.ref 23), some (.int (zn (m - 1))), some (.int (-zn 1)), some (.int (zn 0)), none, none, none] [] (hp n s c (rI I (adv S.1)) J A B R Q) = some (some (some (.int (if (r2 L tp m S.1 S.2.2.2).2 = 0 then zn (nbq L tp (adv S.1).1) else zn 0))), hp n s c (rI I (adv (r2 L tp m S.1 S.2.2.2))) J A B R Q) := z1c
      have z2e : mz (d + 3) 200 0 [some (.ref 23), some (.int (zn (m - 1))), some (.int (if (r2 L tp m S.1 S.2.2.2).2 = 0 then zn (nbq L tp (adv S.1).1) else zn 0)), some (.int (zn 0)), none, none, none] [] (hp n s c (rI I (adv (r2 L tp m S.1 S.2.2.2))) J A B R Q) = some (some (some (.int (if (r5 L tp m S.1 S.2.2.2).2 = 0 then zn (nbq L tp (adv (r2 L tp m S.1 S.2.2.2)).1) else zn 0))), hp n s c (rI I (adv (r5 L tp m S.1 S.2.2.2))) J A B R Q) := z2c
      have b5 := r5_b (r := S.2.2.2) (m := m) (tp := tp) hL hx2
      have e0 : mz (d + 4) 199 0 [some (.ref 23), none, none, none, none] [] (hp n s c (rI I S.1) J A B R Q) = mz (d + 4) 199 62 [some (.ref 23), some (.int (zn 0)), some (.int (zn (m - 1))), some (.int (if (r2 L tp m S.1 S.2.2.2).2 = 0 then zn (nbq L tp (adv S.1).1) else zn 0)), some (.int (if (r5 L tp m S.1 S.2.2.2).2 = 0 then zn (nbq L tp (adv (r2 L tp m S.1 S.2.2.2)).1) else zn 0))] [] (hp n s c (rI I (adv (r5 L tp m S.1 S.2.2.2))) J A B R Q) := by
        have e1 : mz (d + 4) 199 0 [some (.ref 23), none, none, none, none] [] (hp n s c (rI I S.1) J A B R Q) = mz (d + 4) 199 24 [some (.ref 23), some (.int (zo (wdq L tp S.1.1 2))), none, none, none] [] (hp n s c (rI I S.1) J A B R Q) := by
          simp (disch := first | omega | exact zb_1 | exact zb_0 | exact zb_n1 | exact zb_n0) only [x199_0, x199_1, x199_2, x199_5, x199_6, x199_7, x199_10, x199_11, x199_12, x199_15, mq_dl_int, mq_dl_ref, mq_dl_null, mq_dl_none, mc_some, Option.toList_some, Option.toList_none, List.cons_append, List.nil_append, zb_1, zb_0, ↓reduceIte, if_true, if_false, not_true_eq_false, not_false_eq_true, Bool.false_eq_true, z_10, z_01, eq_self, Bool.and_self, true_or, or_true, false_or, or_false, true_and, and_true, false_and, and_false, and_self, or_self, Nat.reduceLT, Nat.reduceEqDiff, Nat.reduceLeDiff, Nat.reduceAdd, Nat.reduceMul, Nat.reduceSub, zn_lit, zn_add, zn_mul, zn_sub, zn_addneg, zn_lt, zn_le, zn_eq, zn_clamp, zn_in, zn_long, hp_1, hp_21, upd_zu, updL_zu, updQ_zu, zu_eq, zu_ne, ho_23, ho_23_0, hf_23_0, hk_23_0, hw_23_0, ho_23_1, hf_23_1, ho_23_2, hf_23_2, hk_23_2, hw_23_2, ho_23_3, hf_23_3, hk_23_3, hw_23_3, ho_23_4, hf_23_4, ho_23_5, hf_23_5, ho_23_6, hf_23_6, ho_23_7, hf_23_7, hk_23_7, hw_23_7, ho_23_8, hf_23_8, hk_23_8, hw_23_8, ho_23_9, hf_23_9, ho_23_10, hf_23_10, ho_23_11, hf_23_11, hk_23_11, hw_23_11, ho_23_12, hf_23_12, hk_23_12, hw_23_12, ho_23_13, hf_23_13, ho_23_14, hf_23_14, ho_23_15, hf_23_15, ho_23_16, hf_23_16, hk_23_16, hw_23_16, ho_23_17, hf_23_17, ho_23_18, hf_23_18, ho_23_19, hf_23_19, hk_23_19, hw_23_19, ho_23_20, hf_23_20, ho_23_21, hf_23_21, hk_23_21, hw_23_21, ho_23_22, hf_23_22, hk_23_22, hw_23_22, ho_23_23, hf_23_23, hk_23_23, hw_23_23, ho_23_24, hf_23_24, hk_23_24, hw_23_24, ho_23_25, hf_23_25, ho_23_26, hf_23_26, ho_23_27, hf_23_27, hk_23_27, hw_23_27, ho_23_28, hf_23_28, ho_23_29, hf_23_29, ho_23_30, hf_23_30, hk_23_30, hw_23_30, ho_23_31, hf_23_31, hk_23_31, hw_23_31, ho_23_32, hf_23_32, ho_23_33, hf_23_33, ho_23_34, hf_23_34, hk_23_34, hw_23_34, ho_23_35, hf_23_35, hk_23_35, hw_23_35, ho_23_36, hf_23_36, hk_23_36, hw_23_36, ho_23_37, hf_23_37, ho_23_38, hf_23_38, ho_23_39, hf_23_39, hn_24, hi_24, hj_24, hg_24, hu_24, hn_25, hi_25, hj_25, hg_25, hu_25, hn_26, hi_26, hj_26, hg_26, hu_26, hn_27, hi_27, hg_27, hu_27, hn_28, hi_28, hg_28, hu_28, hn_29, hi_29, hj_29, hg_29, hu_29, hn_30, hi_30, hj_30, hg_30, hu_30, hn_31, hi_31, hj_31, hg_31, hu_31, hn_32, hi_32, hj_32, hg_32, hu_32, hn_33, hi_33, hj_33, hg_33, hu_33, hn_34, hi_34, hj_34, hg_34, hu_34, hn_35, hi_35, hj_35, hg_35, hu_35, hn_36, hi_36, hj_36, hg_36, hu_36, hn_37, hi_37, hg_37, hu_37, hn_38, hi_38, hj_38, hg_38, hu_38, hn_39, hi_39, hj_39, hg_39, hu_39, hn_40, hi_40, hj_40, hg_40, hu_40, hn_41, hi_41, hj_41, hg_41, hu_41, hn_42, hi_42, hg_42, hu_42, hn_43, hi_43, hg_43, hu_43, hn_44, hi_44, hj_44, hg_44, hu_44, hn_45, hi_45, hg_45, hu_45, w1, w4, hx, Bool.eq_false_iff.mpr q, q', decide_true, Bool.and_self, Bool.and_false, zo_t, zo_f]
        rw [e1, hw0, Bool.eq_false_iff.mpr q, zo_f]
        generalize hV1 : (if (r2 L tp m S.1 S.2.2.2).2 = 0 then zn (nbq L tp (adv S.1).1) else zn 0) = V1 at z1e z2e ⊢
        generalize hV2 : (if (r5 L tp m S.1 S.2.2.2).2 = 0 then zn (nbq L tp (adv (r2 L tp m S.1 S.2.2.2)).1) else zn 0) = V2 at z2e ⊢
        simp (disch := first | omega | exact zb_1 | exact zb_0 | exact zb_n1 | exact zb_n0) only [x199_45, x199_46, x199_47, x199_48, x199_49, x199_52, x199_53, x199_54, x199_55, x199_56, x199_57, x199_60, mq_dl_int, mq_dl_ref, mq_dl_null, mq_dl_none, mc_some, Option.toList_some, Option.toList_none, List.cons_append, List.nil_append, zb_1, zb_0, ↓reduceIte, if_true, if_false, not_true_eq_false, not_false_eq_true, Bool.false_eq_true, z_10, z_01, eq_self, Bool.and_self, true_or, or_true, false_or, or_false, true_and, and_true, false_and, and_false, and_self, or_self, Nat.reduceLT, Nat.reduceEqDiff, Nat.reduceLeDiff, Nat.reduceAdd, Nat.reduceMul, Nat.reduceSub, zn_lit, zn_add, zn_mul, zn_sub, zn_addneg, zn_lt, zn_le, zn_eq, zn_clamp, zn_in, zn_long, hp_1, hp_21, upd_zu, updL_zu, updQ_zu, zu_eq, zu_ne, ho_23, ho_23_0, hf_23_0, hk_23_0, hw_23_0, ho_23_1, hf_23_1, ho_23_2, hf_23_2, hk_23_2, hw_23_2, ho_23_3, hf_23_3, hk_23_3, hw_23_3, ho_23_4, hf_23_4, ho_23_5, hf_23_5, ho_23_6, hf_23_6, ho_23_7, hf_23_7, hk_23_7, hw_23_7, ho_23_8, hf_23_8, hk_23_8, hw_23_8, ho_23_9, hf_23_9, ho_23_10, hf_23_10, ho_23_11, hf_23_11, hk_23_11, hw_23_11, ho_23_12, hf_23_12, hk_23_12, hw_23_12, ho_23_13, hf_23_13, ho_23_14, hf_23_14, ho_23_15, hf_23_15, ho_23_16, hf_23_16, hk_23_16, hw_23_16, ho_23_17, hf_23_17, ho_23_18, hf_23_18, ho_23_19, hf_23_19, hk_23_19, hw_23_19, ho_23_20, hf_23_20, ho_23_21, hf_23_21, hk_23_21, hw_23_21, ho_23_22, hf_23_22, hk_23_22, hw_23_22, ho_23_23, hf_23_23, hk_23_23, hw_23_23, ho_23_24, hf_23_24, hk_23_24, hw_23_24, ho_23_25, hf_23_25, ho_23_26, hf_23_26, ho_23_27, hf_23_27, hk_23_27, hw_23_27, ho_23_28, hf_23_28, ho_23_29, hf_23_29, ho_23_30, hf_23_30, hk_23_30, hw_23_30, ho_23_31, hf_23_31, hk_23_31, hw_23_31, ho_23_32, hf_23_32, ho_23_33, hf_23_33, ho_23_34, hf_23_34, hk_23_34, hw_23_34, ho_23_35, hf_23_35, hk_23_35, hw_23_35, ho_23_36, hf_23_36, hk_23_36, hw_23_36, ho_23_37, hf_23_37, ho_23_38, hf_23_38, ho_23_39, hf_23_39, hn_24, hi_24, hj_24, hg_24, hu_24, hn_25, hi_25, hj_25, hg_25, hu_25, hn_26, hi_26, hj_26, hg_26, hu_26, hn_27, hi_27, hg_27, hu_27, hn_28, hi_28, hg_28, hu_28, hn_29, hi_29, hj_29, hg_29, hu_29, hn_30, hi_30, hj_30, hg_30, hu_30, hn_31, hi_31, hj_31, hg_31, hu_31, hn_32, hi_32, hj_32, hg_32, hu_32, hn_33, hi_33, hj_33, hg_33, hu_33, hn_34, hi_34, hj_34, hg_34, hu_34, hn_35, hi_35, hj_35, hg_35, hu_35, hn_36, hi_36, hj_36, hg_36, hu_36, hn_37, hi_37, hg_37, hu_37, hn_38, hi_38, hj_38, hg_38, hu_38, hn_39, hi_39, hj_39, hg_39, hu_39, hn_40, hi_40, hj_40, hg_40, hu_40, hn_41, hi_41, hj_41, hg_41, hu_41, hn_42, hi_42, hg_42, hu_42, hn_43, hi_43, hg_43, hu_43, hn_44, hi_44, hj_44, hg_44, hu_44, hn_45, hi_45, hg_45, hu_45, z1e, z2e]
      rw [e0]
      by_cases q5 : (r5 L tp m S.1 S.2.2.2).2 = 0
      · obtain ⟨g1, g2, g3, g4, g5, g6, g7, g8⟩ := r5_fine q5
        obtain ⟨c1, c2, c3, c4, c5, c6, c7, c8⟩ := r2_fine g1
        have ei : nbq L tp (adv S.1).1 = tmI L tp S.1 := rfl
        have ej : nbq L tp (adv (r2 L tp m S.1 S.2.2.2)).1 = rvJ L tp m S.1 S.2.2.2 := rfl
        rw [if_pos g1, if_pos q5, ei, ej]
        have hF0 : (adv (r5 L tp m S.1 S.2.2.2)).2 = 0 := by rw [adv_0 q5]
        refine ⟨adv (r5 L tp m S.1 S.2.2.2), zu A 29 (zu (zu (A 29) (225 + tmI L tp S.1) (zn (rvJ L tp m S.1 S.2.2.2))) (225 + rvJ L tp m S.1 S.2.2.2) (zn (tmI L tp S.1))), adv_b b5, fun _ => ?_, rfl, fun _ => ⟨rfl, ?_⟩, ?_, fun q'' h1 _ => zu_ne _ _ _ _ h1, ?_⟩
        · rw [adv_0 q5, g4]
          have h9 : S.1.1 + 1 ≤ N := RTK_lt hR hN (by rw [wdq_1 q']; omega)
          show S.1.1 + 1 + 1 + 1 ≤ N
          exact RTK_lt (k := S.1.1 + 1 + 1) hR (RTK_lt (k := S.1.1 + 1) hR h9 (by rw [c5]; omega)) (by rw [g2]; omega)
        · rw [zu_eq, zu_ne _ _ _ _ (by omega)]
          unfold rvF
          refine ⟨by rw [zu_ne _ _ _ _ (by omega), zu_ne _ _ _ _ (by omega)]; exact m1, fun i hi => ?_, fun p hp => ?_, m4⟩
          · show _ = (if (r5 L tp m S.1 S.2.2.2).2 = 0 then (_ : Nat → Int32) else _) i
            rw [if_pos q5]
            by_cases k1 : i = rvJ L tp m S.1 S.2.2.2
            · rw [k1, zu_eq, zu_eq]
            · rw [zu_ne _ _ _ _ k1, zu_ne _ _ _ _ (by omega)]
              by_cases k2 : i = tmI L tp S.1
              · rw [k2, zu_eq, zu_eq]
              · rw [zu_ne _ _ _ _ k2, zu_ne _ _ _ _ (by omega)]
                exact m2 i hi
          · rw [zu_ne _ _ _ _ (by omega), zu_ne _ _ _ _ (by omega)]
            exact m3 p hp
        · rw [zu_eq]
          exact f1_trans (f1_zu (by omega) (by omega)) (f1_zu (by omega) (by omega))
        · simp (disch := first | omega | exact zb_1 | exact zb_0 | exact zb_n1 | exact zb_n0) only [x199_62, x199_63, x199_66, x199_70, x199_71, x199_115, x199_116, x199_119, x199_122, x199_123, x199_124, x199_126, x199_127, x199_128, x199_131, x199_134, x199_136, x199_137, x199_138, x199_139, mq_dl_int, mq_dl_ref, mq_dl_null, mq_dl_none, mc_some, Option.toList_some, Option.toList_none, List.cons_append, List.nil_append, zb_1, zb_0, ↓reduceIte, if_true, if_false, not_true_eq_false, not_false_eq_true, Bool.false_eq_true, z_10, z_01, eq_self, Bool.and_self, true_or, or_true, false_or, or_false, true_and, and_true, false_and, and_false, and_self, or_self, Nat.reduceLT, Nat.reduceEqDiff, Nat.reduceLeDiff, Nat.reduceAdd, Nat.reduceMul, Nat.reduceSub, zn_lit, zn_add, zn_mul, zn_sub, zn_addneg, zn_lt, zn_le, zn_eq, zn_clamp, zn_in, zn_long, hp_1, hp_21, upd_zu, updL_zu, updQ_zu, zu_eq, zu_ne, ho_23, ho_23_0, hf_23_0, hk_23_0, hw_23_0, ho_23_1, hf_23_1, ho_23_2, hf_23_2, hk_23_2, hw_23_2, ho_23_3, hf_23_3, hk_23_3, hw_23_3, ho_23_4, hf_23_4, ho_23_5, hf_23_5, ho_23_6, hf_23_6, ho_23_7, hf_23_7, hk_23_7, hw_23_7, ho_23_8, hf_23_8, hk_23_8, hw_23_8, ho_23_9, hf_23_9, ho_23_10, hf_23_10, ho_23_11, hf_23_11, hk_23_11, hw_23_11, ho_23_12, hf_23_12, hk_23_12, hw_23_12, ho_23_13, hf_23_13, ho_23_14, hf_23_14, ho_23_15, hf_23_15, ho_23_16, hf_23_16, hk_23_16, hw_23_16, ho_23_17, hf_23_17, ho_23_18, hf_23_18, ho_23_19, hf_23_19, hk_23_19, hw_23_19, ho_23_20, hf_23_20, ho_23_21, hf_23_21, hk_23_21, hw_23_21, ho_23_22, hf_23_22, hk_23_22, hw_23_22, ho_23_23, hf_23_23, hk_23_23, hw_23_23, ho_23_24, hf_23_24, hk_23_24, hw_23_24, ho_23_25, hf_23_25, ho_23_26, hf_23_26, ho_23_27, hf_23_27, hk_23_27, hw_23_27, ho_23_28, hf_23_28, ho_23_29, hf_23_29, ho_23_30, hf_23_30, hk_23_30, hw_23_30, ho_23_31, hf_23_31, hk_23_31, hw_23_31, ho_23_32, hf_23_32, ho_23_33, hf_23_33, ho_23_34, hf_23_34, hk_23_34, hw_23_34, ho_23_35, hf_23_35, hk_23_35, hw_23_35, ho_23_36, hf_23_36, hk_23_36, hw_23_36, ho_23_37, hf_23_37, ho_23_38, hf_23_38, ho_23_39, hf_23_39, hn_24, hi_24, hj_24, hg_24, hu_24, hn_25, hi_25, hj_25, hg_25, hu_25, hn_26, hi_26, hj_26, hg_26, hu_26, hn_27, hi_27, hg_27, hu_27, hn_28, hi_28, hg_28, hu_28, hn_29, hi_29, hj_29, hg_29, hu_29, hn_30, hi_30, hj_30, hg_30, hu_30, hn_31, hi_31, hj_31, hg_31, hu_31, hn_32, hi_32, hj_32, hg_32, hu_32, hn_33, hi_33, hj_33, hg_33, hu_33, hn_34, hi_34, hj_34, hg_34, hu_34, hn_35, hi_35, hj_35, hg_35, hu_35, hn_36, hi_36, hj_36, hg_36, hu_36, hn_37, hi_37, hg_37, hu_37, hn_38, hi_38, hj_38, hg_38, hu_38, hn_39, hi_39, hj_39, hg_39, hu_39, hn_40, hi_40, hj_40, hg_40, hu_40, hn_41, hi_41, hj_41, hg_41, hu_41, hn_42, hi_42, hg_42, hu_42, hn_43, hi_43, hg_43, hu_43, hn_44, hi_44, hj_44, hg_44, hu_44, hn_45, hi_45, hg_45, hu_45, zu_zu, rI_58, hF0, Nat.le_refl, show 225 + tmI L tp S.1 < 4256 by omega, show 225 + rvJ L tp m S.1 S.2.2.2 < 4256 by omega, decide_true]
      · have hF0 : ¬ (adv (r5 L tp m S.1 S.2.2.2)).2 = 0 := fun e => q5 (adv_fine e).1
        have hbx := adv_b b5
        refine ⟨adv (r5 L tp m S.1 S.2.2.2), A, hbx, fun e => absurd e hF0, rfl, fun e => ?_, f1_refl _, fun _ _ _ => rfl, ?_⟩
        · rw [tsg_F hF0] at e; exact absurd e hF0
        · generalize hV1 : (if (r2 L tp m S.1 S.2.2.2).2 = 0 then zn (nbq L tp (adv S.1).1) else zn 0) = V1
          generalize hV2 : (if (r5 L tp m S.1 S.2.2.2).2 = 0 then zn (nbq L tp (adv (r2 L tp m S.1 S.2.2.2)).1) else zn 0) = V2
          simp (disch := first | omega | exact zb_1 | exact zb_0 | exact zb_n1 | exact zb_n0) only [x199_62, x199_63, x199_66, x199_69, mq_dl_int, mq_dl_ref, mq_dl_null, mq_dl_none, mc_some, Option.toList_some, Option.toList_none, List.cons_append, List.nil_append, zb_1, zb_0, ↓reduceIte, if_true, if_false, not_true_eq_false, not_false_eq_true, Bool.false_eq_true, z_10, z_01, eq_self, Bool.and_self, true_or, or_true, false_or, or_false, true_and, and_true, false_and, and_false, and_self, or_self, Nat.reduceLT, Nat.reduceEqDiff, Nat.reduceLeDiff, Nat.reduceAdd, Nat.reduceMul, Nat.reduceSub, zn_lit, zn_add, zn_mul, zn_sub, zn_addneg, zn_lt, zn_le, zn_eq, zn_clamp, zn_in, zn_long, hp_1, hp_21, upd_zu, updL_zu, updQ_zu, zu_eq, zu_ne, ho_23, ho_23_0, hf_23_0, hk_23_0, hw_23_0, ho_23_1, hf_23_1, ho_23_2, hf_23_2, hk_23_2, hw_23_2, ho_23_3, hf_23_3, hk_23_3, hw_23_3, ho_23_4, hf_23_4, ho_23_5, hf_23_5, ho_23_6, hf_23_6, ho_23_7, hf_23_7, hk_23_7, hw_23_7, ho_23_8, hf_23_8, hk_23_8, hw_23_8, ho_23_9, hf_23_9, ho_23_10, hf_23_10, ho_23_11, hf_23_11, hk_23_11, hw_23_11, ho_23_12, hf_23_12, hk_23_12, hw_23_12, ho_23_13, hf_23_13, ho_23_14, hf_23_14, ho_23_15, hf_23_15, ho_23_16, hf_23_16, hk_23_16, hw_23_16, ho_23_17, hf_23_17, ho_23_18, hf_23_18, ho_23_19, hf_23_19, hk_23_19, hw_23_19, ho_23_20, hf_23_20, ho_23_21, hf_23_21, hk_23_21, hw_23_21, ho_23_22, hf_23_22, hk_23_22, hw_23_22, ho_23_23, hf_23_23, hk_23_23, hw_23_23, ho_23_24, hf_23_24, hk_23_24, hw_23_24, ho_23_25, hf_23_25, ho_23_26, hf_23_26, ho_23_27, hf_23_27, hk_23_27, hw_23_27, ho_23_28, hf_23_28, ho_23_29, hf_23_29, ho_23_30, hf_23_30, hk_23_30, hw_23_30, ho_23_31, hf_23_31, hk_23_31, hw_23_31, ho_23_32, hf_23_32, ho_23_33, hf_23_33, ho_23_34, hf_23_34, hk_23_34, hw_23_34, ho_23_35, hf_23_35, hk_23_35, hw_23_35, ho_23_36, hf_23_36, hk_23_36, hw_23_36, ho_23_37, hf_23_37, ho_23_38, hf_23_38, ho_23_39, hf_23_39, hn_24, hi_24, hj_24, hg_24, hu_24, hn_25, hi_25, hj_25, hg_25, hu_25, hn_26, hi_26, hj_26, hg_26, hu_26, hn_27, hi_27, hg_27, hu_27, hn_28, hi_28, hg_28, hu_28, hn_29, hi_29, hj_29, hg_29, hu_29, hn_30, hi_30, hj_30, hg_30, hu_30, hn_31, hi_31, hj_31, hg_31, hu_31, hn_32, hi_32, hj_32, hg_32, hu_32, hn_33, hi_33, hj_33, hg_33, hu_33, hn_34, hi_34, hj_34, hg_34, hu_34, hn_35, hi_35, hj_35, hg_35, hu_35, hn_36, hi_36, hj_36, hg_36, hu_36, hn_37, hi_37, hg_37, hu_37, hn_38, hi_38, hj_38, hg_38, hu_38, hn_39, hi_39, hj_39, hg_39, hu_39, hn_40, hi_40, hj_40, hg_40, hu_40, hn_41, hi_41, hj_41, hg_41, hu_41, hn_42, hi_42, hg_42, hu_42, hn_43, hi_43, hg_43, hu_43, hn_44, hi_44, hj_44, hg_44, hu_44, hn_45, hi_45, hg_45, hu_45, rI_58, show ¬ (adv (r5 L tp m S.1 S.2.2.2)).2 ≤ 0 by omega]
    · rw [if_neg q']
      have g1 := R_wrong (n := n) (s := s) (c := c) (I := I) (J := J) (R := R) (Q := Q) hR (d + 3) 1 S.1 hx2 hN2
      have hfn := flt_n (L := L) (tp := tp) (x := S.1) (e := 1) (by omega)
      refine ⟨flt L tp 1 S.1, A, flt_b hL hx2 1 (by omega), fun e => absurd e hfn, by rw [tsg_F hfn], fun e => ?_, f1_refl _, fun _ _ _ => rfl, ?_⟩
      · rw [tsg_F hfn] at e; exact absurd e hfn
      · simp (disch := first | omega | exact zb_1 | exact zb_0 | exact zb_n1 | exact zb_n0) only [x199_0, x199_1, x199_2, x199_5, x199_6, x199_7, x199_10, x199_11, x199_12, x199_15, x199_18, x199_19, x199_20, x199_23, mq_dl_int, mq_dl_ref, mq_dl_null, mq_dl_none, mc_some, Option.toList_some, Option.toList_none, List.cons_append, List.nil_append, zb_1, zb_0, ↓reduceIte, if_true, if_false, not_true_eq_false, not_false_eq_true, Bool.false_eq_true, z_10, z_01, eq_self, Bool.and_self, true_or, or_true, false_or, or_false, true_and, and_true, false_and, and_false, and_self, or_self, Nat.reduceLT, Nat.reduceEqDiff, Nat.reduceLeDiff, Nat.reduceAdd, Nat.reduceMul, Nat.reduceSub, zn_lit, zn_add, zn_mul, zn_sub, zn_addneg, zn_lt, zn_le, zn_eq, zn_clamp, zn_in, zn_long, hp_1, hp_21, upd_zu, updL_zu, updQ_zu, zu_eq, zu_ne, ho_23, ho_23_0, hf_23_0, hk_23_0, hw_23_0, ho_23_1, hf_23_1, ho_23_2, hf_23_2, hk_23_2, hw_23_2, ho_23_3, hf_23_3, hk_23_3, hw_23_3, ho_23_4, hf_23_4, ho_23_5, hf_23_5, ho_23_6, hf_23_6, ho_23_7, hf_23_7, hk_23_7, hw_23_7, ho_23_8, hf_23_8, hk_23_8, hw_23_8, ho_23_9, hf_23_9, ho_23_10, hf_23_10, ho_23_11, hf_23_11, hk_23_11, hw_23_11, ho_23_12, hf_23_12, hk_23_12, hw_23_12, ho_23_13, hf_23_13, ho_23_14, hf_23_14, ho_23_15, hf_23_15, ho_23_16, hf_23_16, hk_23_16, hw_23_16, ho_23_17, hf_23_17, ho_23_18, hf_23_18, ho_23_19, hf_23_19, hk_23_19, hw_23_19, ho_23_20, hf_23_20, ho_23_21, hf_23_21, hk_23_21, hw_23_21, ho_23_22, hf_23_22, hk_23_22, hw_23_22, ho_23_23, hf_23_23, hk_23_23, hw_23_23, ho_23_24, hf_23_24, hk_23_24, hw_23_24, ho_23_25, hf_23_25, ho_23_26, hf_23_26, ho_23_27, hf_23_27, hk_23_27, hw_23_27, ho_23_28, hf_23_28, ho_23_29, hf_23_29, ho_23_30, hf_23_30, hk_23_30, hw_23_30, ho_23_31, hf_23_31, hk_23_31, hw_23_31, ho_23_32, hf_23_32, ho_23_33, hf_23_33, ho_23_34, hf_23_34, hk_23_34, hw_23_34, ho_23_35, hf_23_35, hk_23_35, hw_23_35, ho_23_36, hf_23_36, hk_23_36, hw_23_36, ho_23_37, hf_23_37, ho_23_38, hf_23_38, ho_23_39, hf_23_39, hn_24, hi_24, hj_24, hg_24, hu_24, hn_25, hi_25, hj_25, hg_25, hu_25, hn_26, hi_26, hj_26, hg_26, hu_26, hn_27, hi_27, hg_27, hu_27, hn_28, hi_28, hg_28, hu_28, hn_29, hi_29, hj_29, hg_29, hu_29, hn_30, hi_30, hj_30, hg_30, hu_30, hn_31, hi_31, hj_31, hg_31, hu_31, hn_32, hi_32, hj_32, hg_32, hu_32, hn_33, hi_33, hj_33, hg_33, hu_33, hn_34, hi_34, hj_34, hg_34, hu_34, hn_35, hi_35, hj_35, hg_35, hu_35, hn_36, hi_36, hj_36, hg_36, hu_36, hn_37, hi_37, hg_37, hu_37, hn_38, hi_38, hj_38, hg_38, hu_38, hn_39, hi_39, hj_39, hg_39, hu_39, hn_40, hi_40, hj_40, hg_40, hu_40, hn_41, hi_41, hj_41, hg_41, hu_41, hn_42, hi_42, hg_42, hu_42, hn_43, hi_43, hg_43, hu_43, hn_44, hi_44, hj_44, hg_44, hu_44, hn_45, hi_45, hg_45, hu_45, w1, w4, g1, hx, Bool.eq_false_iff.mpr q, Bool.eq_false_iff.mpr q', decide_true, Bool.and_false, zo_f]
end RM
