/-! SCHEME: the reference -/
theorem tkS_4 {L : Nat} {tp : Nat → Nat} {k : Nat} (h : tkS L tp (ps L tp k) = 4) : ps L tp k = L := by
  have h1 := ps_le L tp k
  apply Classical.byContradiction
  intro q
  unfold tkS at h
  rw [if_neg (by omega)] at h
  split at h
  · split at h <;> omega
  · split at h
    · split at h <;> omega
    · split at h <;> omega
theorem OPR_LC {e : EST} {l : List (Nat × Nat)} {A : Nat → Nat → Int32} (hO : OPR e (A 31) (A 32)) (hl : CL e l) : ∀ j (h : j < l.length), A 31 j = zn (rop l[j].1) ∧ A 32 j = zn (rar l[j].1 l[j].2) ∧ l[j].1 ≤ 13 ∧ l[j].2 < 10000 := by
  intro j hj
  obtain ⟨o, a, h1, h2, h3, h4, h5, h6⟩ := hO j (by rw [← hl.1]; exact hj)
  obtain ⟨k1, k2, k3, k4⟩ := hl.2 j hj
  rw [k1, zn_eq _ _ (by omega) (by omega)] at h3
  rw [k2, zn_eq _ _ (by omega) (by omega)] at h4
  rw [h3, h4]
  exact ⟨h5, h6, h1, h2⟩
section RK
variable {n s : Nat} {c : Nat → mq_E} {I : Nat → Int32} {J : Nat → Int64} {A : Nat → Nat → Int32} {B : Nat → Nat → Int64} {R : Nat → Value} {Q : Nat → Nat → Option Nat}
variable {L : Nat} {tp : Nat → Nat} {N : Nat}
theorem R_ten (hR : RTK L tp N (A 25) (A 26) (B 27)) (d : Nat) (o1 o2 : Option Value) (y : Nat × Nat) (hy : y.2 < 20000) (hN : y.2 = 0 → y.1 ≤ N) : mz (d + 1) 210 60 [some (.ref 23), o1, o2] [] (hp n s c (rI I y) J A B R Q) = mz (d + 1) 210 84 [some (.ref 23), o1, o2] [] (hp n s c (rI I (ten L tp y)) J A B R Q) := by
  have hw := R_wrong (n := n) (s := s) (c := c) (I := I) (J := J) (R := R) (Q := Q) hR d 1 y hy hN
  unfold ten
  by_cases q : y.2 = 0
  · obtain ⟨a1, a2, a3, a4⟩ := RTK_at hR (hN q)
    by_cases q2 : tkS L tp (ps L tp y.1) = 4
    · rw [if_pos q2]
      simp (disch := first | omega | exact zb_1 | exact zb_0 | exact zb_n1 | exact zb_n0) only [x210_60, x210_61, x210_64, x210_67, x210_68, x210_71, x210_72, x210_75, x210_76, mq_dl_int, mq_dl_ref, mq_dl_null, mq_dl_none, mc_some, Option.toList_some, Option.toList_none, List.cons_append, List.nil_append, zb_1, zb_0, ↓reduceIte, if_true, if_false, not_true_eq_false, not_false_eq_true, Bool.false_eq_true, z_10, z_01, eq_self, Bool.and_self, true_or, or_true, false_or, or_false, true_and, and_true, false_and, and_false, and_self, or_self, Nat.reduceLT, Nat.reduceEqDiff, Nat.reduceLeDiff, Nat.reduceAdd, Nat.reduceMul, Nat.reduceSub, zn_lit, zn_add, zn_mul, zn_sub, zn_addneg, zn_lt, zn_le, zn_eq, zn_clamp, zn_in, zn_long, hp_1, hp_21, upd_zu, updL_zu, updQ_zu, zu_eq, zu_ne, ho_23, ho_23_0, hf_23_0, hk_23_0, hw_23_0, ho_23_1, hf_23_1, ho_23_2, hf_23_2, hk_23_2, hw_23_2, ho_23_3, hf_23_3, hk_23_3, hw_23_3, ho_23_4, hf_23_4, ho_23_5, hf_23_5, ho_23_6, hf_23_6, ho_23_7, hf_23_7, hk_23_7, hw_23_7, ho_23_8, hf_23_8, hk_23_8, hw_23_8, ho_23_9, hf_23_9, ho_23_10, hf_23_10, ho_23_11, hf_23_11, hk_23_11, hw_23_11, ho_23_12, hf_23_12, hk_23_12, hw_23_12, ho_23_13, hf_23_13, ho_23_14, hf_23_14, ho_23_15, hf_23_15, ho_23_16, hf_23_16, hk_23_16, hw_23_16, ho_23_17, hf_23_17, ho_23_18, hf_23_18, ho_23_19, hf_23_19, hk_23_19, hw_23_19, ho_23_20, hf_23_20, ho_23_21, hf_23_21, hk_23_21, hw_23_21, ho_23_22, hf_23_22, hk_23_22, hw_23_22, ho_23_23, hf_23_23, hk_23_23, hw_23_23, ho_23_24, hf_23_24, hk_23_24, hw_23_24, ho_23_25, hf_23_25, ho_23_26, hf_23_26, ho_23_27, hf_23_27, hk_23_27, hw_23_27, ho_23_28, hf_23_28, ho_23_29, hf_23_29, ho_23_30, hf_23_30, hk_23_30, hw_23_30, ho_23_31, hf_23_31, hk_23_31, hw_23_31, ho_23_32, hf_23_32, ho_23_33, hf_23_33, ho_23_34, hf_23_34, hk_23_34, hw_23_34, ho_23_35, hf_23_35, hk_23_35, hw_23_35, ho_23_36, hf_23_36, hk_23_36, hw_23_36, ho_23_37, hf_23_37, ho_23_38, hf_23_38, ho_23_39, hf_23_39, hn_24, hi_24, hj_24, hg_24, hu_24, hn_25, hi_25, hj_25, hg_25, hu_25, hn_26, hi_26, hj_26, hg_26, hu_26, hn_27, hi_27, hg_27, hu_27, hn_28, hi_28, hg_28, hu_28, hn_29, hi_29, hj_29, hg_29, hu_29, hn_30, hi_30, hj_30, hg_30, hu_30, hn_31, hi_31, hj_31, hg_31, hu_31, hn_32, hi_32, hj_32, hg_32, hu_32, hn_33, hi_33, hj_33, hg_33, hu_33, hn_34, hi_34, hj_34, hg_34, hu_34, hn_35, hi_35, hj_35, hg_35, hu_35, hn_36, hi_36, hj_36, hg_36, hu_36, hn_37, hi_37, hg_37, hu_37, hn_38, hi_38, hj_38, hg_38, hu_38, hn_39, hi_39, hj_39, hg_39, hu_39, hn_40, hi_40, hj_40, hg_40, hu_40, hn_41, hi_41, hj_41, hg_41, hu_41, hn_42, hi_42, hg_42, hu_42, hn_43, hi_43, hg_43, hu_43, hn_44, hi_44, hj_44, hg_44, hu_44, hn_45, hi_45, hg_45, hu_45, rI_57, rI_58, a1, a4, q, q2, rso, decide_true]
    · rw [if_neg q2]
      have h8 := tkS_lt L tp (ps L tp y.1)
      have h9 : ¬ rso (tkS L tp (ps L tp y.1)) = 0 := by
        unfold rso
        split
        · omega
        · omega
      have h10 := rso_lt _ h8
      simp (disch := first | omega | exact zb_1 | exact zb_0 | exact zb_n1 | exact zb_n0) only [x210_60, x210_61, x210_64, x210_67, x210_68, x210_71, x210_72, x210_75, x210_76, x210_79, x210_80, x210_81, mq_dl_int, mq_dl_ref, mq_dl_null, mq_dl_none, mc_some, Option.toList_some, Option.toList_none, List.cons_append, List.nil_append, zb_1, zb_0, ↓reduceIte, if_true, if_false, not_true_eq_false, not_false_eq_true, Bool.false_eq_true, z_10, z_01, eq_self, Bool.and_self, true_or, or_true, false_or, or_false, true_and, and_true, false_and, and_false, and_self, or_self, Nat.reduceLT, Nat.reduceEqDiff, Nat.reduceLeDiff, Nat.reduceAdd, Nat.reduceMul, Nat.reduceSub, zn_lit, zn_add, zn_mul, zn_sub, zn_addneg, zn_lt, zn_le, zn_eq, zn_clamp, zn_in, zn_long, hp_1, hp_21, upd_zu, updL_zu, updQ_zu, zu_eq, zu_ne, ho_23, ho_23_0, hf_23_0, hk_23_0, hw_23_0, ho_23_1, hf_23_1, ho_23_2, hf_23_2, hk_23_2, hw_23_2, ho_23_3, hf_23_3, hk_23_3, hw_23_3, ho_23_4, hf_23_4, ho_23_5, hf_23_5, ho_23_6, hf_23_6, ho_23_7, hf_23_7, hk_23_7, hw_23_7, ho_23_8, hf_23_8, hk_23_8, hw_23_8, ho_23_9, hf_23_9, ho_23_10, hf_23_10, ho_23_11, hf_23_11, hk_23_11, hw_23_11, ho_23_12, hf_23_12, hk_23_12, hw_23_12, ho_23_13, hf_23_13, ho_23_14, hf_23_14, ho_23_15, hf_23_15, ho_23_16, hf_23_16, hk_23_16, hw_23_16, ho_23_17, hf_23_17, ho_23_18, hf_23_18, ho_23_19, hf_23_19, hk_23_19, hw_23_19, ho_23_20, hf_23_20, ho_23_21, hf_23_21, hk_23_21, hw_23_21, ho_23_22, hf_23_22, hk_23_22, hw_23_22, ho_23_23, hf_23_23, hk_23_23, hw_23_23, ho_23_24, hf_23_24, hk_23_24, hw_23_24, ho_23_25, hf_23_25, ho_23_26, hf_23_26, ho_23_27, hf_23_27, hk_23_27, hw_23_27, ho_23_28, hf_23_28, ho_23_29, hf_23_29, ho_23_30, hf_23_30, hk_23_30, hw_23_30, ho_23_31, hf_23_31, hk_23_31, hw_23_31, ho_23_32, hf_23_32, ho_23_33, hf_23_33, ho_23_34, hf_23_34, hk_23_34, hw_23_34, ho_23_35, hf_23_35, hk_23_35, hw_23_35, ho_23_36, hf_23_36, hk_23_36, hw_23_36, ho_23_37, hf_23_37, ho_23_38, hf_23_38, ho_23_39, hf_23_39, hn_24, hi_24, hj_24, hg_24, hu_24, hn_25, hi_25, hj_25, hg_25, hu_25, hn_26, hi_26, hj_26, hg_26, hu_26, hn_27, hi_27, hg_27, hu_27, hn_28, hi_28, hg_28, hu_28, hn_29, hi_29, hj_29, hg_29, hu_29, hn_30, hi_30, hj_30, hg_30, hu_30, hn_31, hi_31, hj_31, hg_31, hu_31, hn_32, hi_32, hj_32, hg_32, hu_32, hn_33, hi_33, hj_33, hg_33, hu_33, hn_34, hi_34, hj_34, hg_34, hu_34, hn_35, hi_35, hj_35, hg_35, hu_35, hn_36, hi_36, hj_36, hg_36, hu_36, hn_37, hi_37, hg_37, hu_37, hn_38, hi_38, hj_38, hg_38, hu_38, hn_39, hi_39, hj_39, hg_39, hu_39, hn_40, hi_40, hj_40, hg_40, hu_40, hn_41, hi_41, hj_41, hg_41, hu_41, hn_42, hi_42, hg_42, hu_42, hn_43, hi_43, hg_43, hu_43, hn_44, hi_44, hj_44, hg_44, hu_44, hn_45, hi_45, hg_45, hu_45, rI_57, rI_58, a1, a4, q, h9, hw, decide_true]
  · have e : flt L tp 1 y = y := by unfold flt; rw [if_neg q]
    rw [e, ite_self]
    simp (disch := first | omega | exact zb_1 | exact zb_0 | exact zb_n1 | exact zb_n0) only [x210_60, x210_61, x210_64, mq_dl_int, mq_dl_ref, mq_dl_null, mq_dl_none, mc_some, Option.toList_some, Option.toList_none, List.cons_append, List.nil_append, zb_1, zb_0, ↓reduceIte, if_true, if_false, not_true_eq_false, not_false_eq_true, Bool.false_eq_true, z_10, z_01, eq_self, Bool.and_self, true_or, or_true, false_or, or_false, true_and, and_true, false_and, and_false, and_self, or_self, Nat.reduceLT, Nat.reduceEqDiff, Nat.reduceLeDiff, Nat.reduceAdd, Nat.reduceMul, Nat.reduceSub, zn_lit, zn_add, zn_mul, zn_sub, zn_addneg, zn_lt, zn_le, zn_eq, zn_clamp, zn_in, zn_long, hp_1, hp_21, upd_zu, updL_zu, updQ_zu, zu_eq, zu_ne, ho_23, ho_23_0, hf_23_0, hk_23_0, hw_23_0, ho_23_1, hf_23_1, ho_23_2, hf_23_2, hk_23_2, hw_23_2, ho_23_3, hf_23_3, hk_23_3, hw_23_3, ho_23_4, hf_23_4, ho_23_5, hf_23_5, ho_23_6, hf_23_6, ho_23_7, hf_23_7, hk_23_7, hw_23_7, ho_23_8, hf_23_8, hk_23_8, hw_23_8, ho_23_9, hf_23_9, ho_23_10, hf_23_10, ho_23_11, hf_23_11, hk_23_11, hw_23_11, ho_23_12, hf_23_12, hk_23_12, hw_23_12, ho_23_13, hf_23_13, ho_23_14, hf_23_14, ho_23_15, hf_23_15, ho_23_16, hf_23_16, hk_23_16, hw_23_16, ho_23_17, hf_23_17, ho_23_18, hf_23_18, ho_23_19, hf_23_19, hk_23_19, hw_23_19, ho_23_20, hf_23_20, ho_23_21, hf_23_21, hk_23_21, hw_23_21, ho_23_22, hf_23_22, hk_23_22, hw_23_22, ho_23_23, hf_23_23, hk_23_23, hw_23_23, ho_23_24, hf_23_24, hk_23_24, hw_23_24, ho_23_25, hf_23_25, ho_23_26, hf_23_26, ho_23_27, hf_23_27, hk_23_27, hw_23_27, ho_23_28, hf_23_28, ho_23_29, hf_23_29, ho_23_30, hf_23_30, hk_23_30, hw_23_30, ho_23_31, hf_23_31, hk_23_31, hw_23_31, ho_23_32, hf_23_32, ho_23_33, hf_23_33, ho_23_34, hf_23_34, hk_23_34, hw_23_34, ho_23_35, hf_23_35, hk_23_35, hw_23_35, ho_23_36, hf_23_36, hk_23_36, hw_23_36, ho_23_37, hf_23_37, ho_23_38, hf_23_38, ho_23_39, hf_23_39, hn_24, hi_24, hj_24, hg_24, hu_24, hn_25, hi_25, hj_25, hg_25, hu_25, hn_26, hi_26, hj_26, hg_26, hu_26, hn_27, hi_27, hg_27, hu_27, hn_28, hi_28, hg_28, hu_28, hn_29, hi_29, hj_29, hg_29, hu_29, hn_30, hi_30, hj_30, hg_30, hu_30, hn_31, hi_31, hj_31, hg_31, hu_31, hn_32, hi_32, hj_32, hg_32, hu_32, hn_33, hi_33, hj_33, hg_33, hu_33, hn_34, hi_34, hj_34, hg_34, hu_34, hn_35, hi_35, hj_35, hg_35, hu_35, hn_36, hi_36, hj_36, hg_36, hu_36, hn_37, hi_37, hg_37, hu_37, hn_38, hi_38, hj_38, hg_38, hu_38, hn_39, hi_39, hj_39, hg_39, hu_39, hn_40, hi_40, hj_40, hg_40, hu_40, hn_41, hi_41, hj_41, hg_41, hu_41, hn_42, hi_42, hg_42, hu_42, hn_43, hi_43, hg_43, hu_43, hn_44, hi_44, hj_44, hg_44, hu_44, hn_45, hi_45, hg_45, hu_45, rI_58, q]
theorem R_sread (hL : L ≤ 1000) (hI : I 1152 = zn L) (ht : ∀ i, i < L → A 24 i = zn (tp i)) (ht2 : ∀ i, tp i < 128) (hWd : WRD B) (st nm : Nat → Int32) (d : Nat) : ∃ I2 A' B' N, (∀ k, k ≠ 1150 → k ≠ 1152 → k ≠ 1153 → k ≠ 1157 → k ≠ 1158 → k ≠ 1166 → k ≠ 1169 → I2 k = I k) ∧ I2 1152 = zn 0 ∧ RTK L tp N (A' 25) (A' 26) (B' 27) ∧ (∀ q, q ≠ 25 → q ≠ 26 → q ≠ 31 → q ≠ 32 → A' q = A q) ∧ (∀ q, q ≠ 27 → B' q = B q) ∧ ((scX L tp st nm).2 = 0 → (scX L tp st nm).1 ≤ N ∧ I2 1169 = zn (scp L tp) ∧ ∀ l, CL (scE L tp st nm) l → LC l A') ∧ mz (d + 32) 210 0 [some (.ref 23), none, none] [] (hp n s c I J A B R Q) = mz (d + 32) 210 84 [some (.ref 23), none, none] [] (hp n s c (rI I2 (scX L tp st nm)) J A' B' R Q) := by
  obtain ⟨A1, B1, N, c1, c2, c3, c4⟩ := R_cut (n := n) (s := s) (c := c) (I := zu I 1150 (zn 0)) (J := J) (B := B) (R := R) (Q := Q) hL (by rw [zu_ne _ _ _ _ (by omega)]; exact hI) ht ht2 (d + 29)
  have hWd1 : WRD B1 := fun w' hw' => by rw [c4 28 (by omega)]; exact hWd w' hw'
  have eI : zu (zu (zu (zu (zu I 1150 (zn 0)) 1153 (zn L)) 1152 (zn 0)) 1157 (zn 0)) 1158 (zn 0) = rI (zu (zu (zu I 1150 (zn 0)) 1153 (zn L)) 1152 (zn 0)) (0, 0) := rfl
  rw [eI] at c1
  generalize hI0 : zu (zu (zu I 1150 (zn 0)) 1153 (zn L)) 1152 (zn 0) = I0 at c1
  have hIf : ∀ k, k ≠ 1150 → k ≠ 1152 → k ≠ 1153 → I0 k = I k := fun k k1 k2 k3 => by rw [← hI0, zu_ne _ _ _ _ k2, zu_ne _ _ _ _ k3, zu_ne _ _ _ _ k1]
  have hI0b : I0 1152 = zn 0 := by rw [← hI0, zu_eq]
  have b1 := sc1_b (tp := tp) hL
  have b2 := see_b (tp := tp) hL b1 1 12
  have b3 := sc3_b (tp := tp) hL
  have n1 : (sc1 L tp).2 = 0 → (sc1 L tp).1 ≤ N := by
    intro h
    obtain ⟨m1, m2, m3⟩ := twd_fine h
    have m4 : sc1 L tp = (1, 0) := m3
    rw [m4]
    exact RTK_lt (k := 0) c2 (Nat.zero_le _) (by rw [wdq_1 m2]; omega)
  have n2 : (adv (see L tp 1 12 (sc1 L tp))).2 = 0 → (adv (see L tp 1 12 (sc1 L tp))).1 ≤ N := by
    intro h
    obtain ⟨k1, k2⟩ := adv_fine h
    obtain ⟨l1, l2, l3, l4, l5⟩ := see_fine k1
    rw [k2, l5]
    exact RTK_lt c2 (n1 l1) (by rw [l2]; omega)
  have n3 : (sc3 L tp).2 = 0 → (sc3 L tp).1 ≤ N := by
    intro h
    have := sc_N c2 h
    obtain ⟨a1, a2, -⟩ := sc3_fine h
    rw [a2]
    exact this
  have e1 := R_tw (n := n) (s := s) (c := c) (I := zu I0 1166 (zn 0)) (J := J) (R := R) (Q := Q) c2 hWd1 (d + 29) 5 (by omega) (0, 0) (by show 0 < 20000; omega) (fun _ => Nat.zero_le _)
  rw [show twd L tp (wmp 5) (0, 0) = sc1 L tp from rfl] at e1
  have e2 := R_take (n := n) (s := s) (c := c) (I := zu I0 1166 (zn 0)) (J := J) (R := R) (Q := Q) hL c2 (d + 30) 1 12 (by omega) (by omega) (sc1 L tp) b1 n1
  obtain ⟨pv, hpv⟩ : ∃ pv, pv = (if (see L tp 1 12 (sc1 L tp)).2 = 0 then zn (nbq L tp (sc1 L tp).1) else zn 0) := ⟨_, rfl⟩
  rw [← hpv] at e2
  have e3 := R_tw (n := n) (s := s) (c := c) (I := zu (zu I0 1166 (zn 0)) 1169 pv) (J := J) (R := R) (Q := Q) c2 hWd1 (d + 29) 6 (by omega) _ (adv_b b2) n2
  rw [show twd L tp (wmp 6) (adv (see L tp 1 12 (sc1 L tp))) = sc3 L tp from rfl] at e3
  have es : mz (d + 32) 210 0 [some (.ref 23), none, none] [] (hp n s c I J A B R Q) = mz (d + 32) 210 36 [some (.ref 23), none, none] [] (hp n s c (rI (zu (zu I0 1166 (zn 0)) 1169 pv) (sc3 L tp)) J A1 B1 R Q) := by
    simp (disch := first | omega | exact zb_1 | exact zb_0 | exact zb_n1 | exact zb_n0) only [x210_0, x210_1, x210_2, x210_5, x210_6, x210_9, x210_10, x210_11, x210_14, x210_15, x210_16, x210_19, x210_20, x210_21, x210_22, x210_24, x210_27, x210_30, x210_31, x210_33, mq_dl_int, mq_dl_ref, mq_dl_null, mq_dl_none, mc_some, Option.toList_some, Option.toList_none, List.cons_append, List.nil_append, zb_1, zb_0, ↓reduceIte, if_true, if_false, not_true_eq_false, not_false_eq_true, Bool.false_eq_true, z_10, z_01, eq_self, Bool.and_self, true_or, or_true, false_or, or_false, true_and, and_true, false_and, and_false, and_self, or_self, Nat.reduceLT, Nat.reduceEqDiff, Nat.reduceLeDiff, Nat.reduceAdd, Nat.reduceMul, Nat.reduceSub, zn_lit, zn_add, zn_mul, zn_sub, zn_addneg, zn_lt, zn_le, zn_eq, zn_clamp, zn_in, zn_long, hp_1, hp_21, upd_zu, updL_zu, updQ_zu, zu_eq, zu_ne, ho_23, ho_23_0, hf_23_0, hk_23_0, hw_23_0, ho_23_1, hf_23_1, ho_23_2, hf_23_2, hk_23_2, hw_23_2, ho_23_3, hf_23_3, hk_23_3, hw_23_3, ho_23_4, hf_23_4, ho_23_5, hf_23_5, ho_23_6, hf_23_6, ho_23_7, hf_23_7, hk_23_7, hw_23_7, ho_23_8, hf_23_8, hk_23_8, hw_23_8, ho_23_9, hf_23_9, ho_23_10, hf_23_10, ho_23_11, hf_23_11, hk_23_11, hw_23_11, ho_23_12, hf_23_12, hk_23_12, hw_23_12, ho_23_13, hf_23_13, ho_23_14, hf_23_14, ho_23_15, hf_23_15, ho_23_16, hf_23_16, hk_23_16, hw_23_16, ho_23_17, hf_23_17, ho_23_18, hf_23_18, ho_23_19, hf_23_19, hk_23_19, hw_23_19, ho_23_20, hf_23_20, ho_23_21, hf_23_21, hk_23_21, hw_23_21, ho_23_22, hf_23_22, hk_23_22, hw_23_22, ho_23_23, hf_23_23, hk_23_23, hw_23_23, ho_23_24, hf_23_24, hk_23_24, hw_23_24, ho_23_25, hf_23_25, ho_23_26, hf_23_26, ho_23_27, hf_23_27, hk_23_27, hw_23_27, ho_23_28, hf_23_28, ho_23_29, hf_23_29, ho_23_30, hf_23_30, hk_23_30, hw_23_30, ho_23_31, hf_23_31, hk_23_31, hw_23_31, ho_23_32, hf_23_32, ho_23_33, hf_23_33, ho_23_34, hf_23_34, hk_23_34, hw_23_34, ho_23_35, hf_23_35, hk_23_35, hw_23_35, ho_23_36, hf_23_36, hk_23_36, hw_23_36, ho_23_37, hf_23_37, ho_23_38, hf_23_38, ho_23_39, hf_23_39, hn_24, hi_24, hj_24, hg_24, hu_24, hn_25, hi_25, hj_25, hg_25, hu_25, hn_26, hi_26, hj_26, hg_26, hu_26, hn_27, hi_27, hg_27, hu_27, hn_28, hi_28, hg_28, hu_28, hn_29, hi_29, hj_29, hg_29, hu_29, hn_30, hi_30, hj_30, hg_30, hu_30, hn_31, hi_31, hj_31, hg_31, hu_31, hn_32, hi_32, hj_32, hg_32, hu_32, hn_33, hi_33, hj_33, hg_33, hu_33, hn_34, hi_34, hj_34, hg_34, hu_34, hn_35, hi_35, hj_35, hg_35, hu_35, hn_36, hi_36, hj_36, hg_36, hu_36, hn_37, hi_37, hg_37, hu_37, hn_38, hi_38, hj_38, hg_38, hu_38, hn_39, hi_39, hj_39, hg_39, hu_39, hn_40, hi_40, hj_40, hg_40, hu_40, hn_41, hi_41, hj_41, hg_41, hu_41, hn_42, hi_42, hg_42, hu_42, hn_43, hi_43, hg_43, hu_43, hn_44, hi_44, hj_44, hg_44, hu_44, hn_45, hi_45, hg_45, hu_45, rI_zu, c1, e1, e2, e3]
  have hfr : ∀ v k, k ≠ 1150 → k ≠ 1152 → k ≠ 1153 → k ≠ 1157 → k ≠ 1158 → k ≠ 1166 → k ≠ 1169 → (zu (zu (zu I0 1166 (zn 0)) 1169 pv) 1166 v) k = I k := fun v k k1 k2 k3 k4 k5 k6 k7 => by rw [zu_ne _ _ _ _ k6, zu_ne _ _ _ _ k7, zu_ne _ _ _ _ k6, hIf k k1 k2 k3]
  have hfs : ∀ v, (zu (zu (zu I0 1166 (zn 0)) 1169 pv) 1166 v) 1152 = zn 0 := fun v => by rw [zu_ne _ _ _ _ (by omega), zu_ne _ _ _ _ (by omega), zu_ne _ _ _ _ (by omega), hI0b]
  have e16 : zu (zu (zu I0 1166 (zn 0)) 1169 pv) 1166 (zn 0) = zu (zu I0 1166 (zn 0)) 1169 pv := by
    have := zu_self (zu (zu I0 1166 (zn 0)) 1169 pv) 1166
    rw [show (zu (zu I0 1166 (zn 0)) 1169 pv) 1166 = zn 0 by rw [zu_ne _ _ _ _ (by omega), zu_eq]] at this
    exact this
  by_cases q : (sc3 L tp).2 = 0
  · obtain ⟨p1, p2⟩ := sc_PG hL c2 q st nm
    obtain ⟨a1, a2, a3, a4, a5, a6, a7⟩ := sc3_fine q
    have hNN := c2.2.1
    have p3 := p1.2.1
    have hpt := R_pt (n := n) (s := s) (c := c) (I := zu (zu I0 1166 (zn 0)) 1169 pv) (J := J) (R := R) (Q := Q) hL c2 ht2 hWd1 5 (by omega) d
    obtain ⟨A2, g1, g2, g3⟩ := R_exG (n := n) (s := s) (c := c) (I := zu (zu I0 1166 (zn 0)) 1169 pv) (J := J) (R := R) (Q := Q) c2 ht2 hWd1 (d + 25) 0 (ptF L tp 5) (PG_ptF hL c2 5) hpt (sc3 L tp, 0, st, nm) A1 (sc_EN c2 q st nm) (fun i hi => absurd hi (Nat.not_lt_zero _)) (fun _ _ _ => rfl)
    rw [show exG L tp (ptF L tp 5) (sc3 L tp, 0, st, nm) = scE L tp st nm from rfl] at g2 g3
    unfold hRE at g3
    dsimp only at g3
    rw [e16] at g3
    have hX : scX L tp st nm = ten L tp (tsg L tp 59 (scE L tp st nm).1) := rfl
    rw [hX]
    have hbE := (EB_scE (tp := tp) hL st nm).1
    generalize scE L tp st nm = E at *
    obtain ⟨A3, hA3⟩ : ∃ A3, A3 = zu (zu A2 31 (zu (A2 31) E.2.1 (zn 0))) 32 (zu (A2 32) E.2.1 (zn 0)) := ⟨_, rfl⟩
    have e4 : mz (d + 31) 202 0 [some (.ref 23), some (.int (zn 0)), some (.int (zn 0))] [] (hp n s c (rI (zu (zu (zu I0 1166 (zn 0)) 1169 pv) 1166 (zn E.2.1)) E.1) J A2 B1 R Q) = some (some none, hp n s c (rI (zu (zu (zu I0 1166 (zn 0)) 1169 pv) 1166 (zn (E.2.1 + 1))) E.1) J A3 B1 R Q) := by
      rw [hA3]
      simp (disch := first | omega | exact zb_1 | exact zb_0 | exact zb_n1 | exact zb_n0) only [x202_0, x202_0N, x202_1, x202_4, x202_4N, x202_5, x202_8, x202_9, x202_10, x202_10N, x202_11, x202_14, x202_14N, x202_15, x202_18, x202_19, x202_20, x202_20N, x202_21, x202_22, x202_25, x202_26, x202_27, x202_30, mq_dl_int, mq_dl_ref, mq_dl_null, mq_dl_none, mc_some, Option.toList_some, Option.toList_none, List.cons_append, List.nil_append, zb_1, zb_0, ↓reduceIte, if_true, if_false, not_true_eq_false, not_false_eq_true, Bool.false_eq_true, z_10, z_01, eq_self, Bool.and_self, true_or, or_true, false_or, or_false, true_and, and_true, false_and, and_false, and_self, or_self, Nat.reduceLT, Nat.reduceEqDiff, Nat.reduceLeDiff, Nat.reduceAdd, Nat.reduceMul, Nat.reduceSub, zn_lit, zn_add, zn_mul, zn_sub, zn_addneg, zn_lt, zn_le, zn_eq, zn_clamp, zn_in, zn_long, hp_1, hp_21, upd_zu, updL_zu, updQ_zu, zu_eq, zu_ne, ho_23, ho_23_0, hf_23_0, hk_23_0, hw_23_0, ho_23_1, hf_23_1, ho_23_2, hf_23_2, hk_23_2, hw_23_2, ho_23_3, hf_23_3, hk_23_3, hw_23_3, ho_23_4, hf_23_4, ho_23_5, hf_23_5, ho_23_6, hf_23_6, ho_23_7, hf_23_7, hk_23_7, hw_23_7, ho_23_8, hf_23_8, hk_23_8, hw_23_8, ho_23_9, hf_23_9, ho_23_10, hf_23_10, ho_23_11, hf_23_11, hk_23_11, hw_23_11, ho_23_12, hf_23_12, hk_23_12, hw_23_12, ho_23_13, hf_23_13, ho_23_14, hf_23_14, ho_23_15, hf_23_15, ho_23_16, hf_23_16, hk_23_16, hw_23_16, ho_23_17, hf_23_17, ho_23_18, hf_23_18, ho_23_19, hf_23_19, hk_23_19, hw_23_19, ho_23_20, hf_23_20, ho_23_21, hf_23_21, hk_23_21, hw_23_21, ho_23_22, hf_23_22, hk_23_22, hw_23_22, ho_23_23, hf_23_23, hk_23_23, hw_23_23, ho_23_24, hf_23_24, hk_23_24, hw_23_24, ho_23_25, hf_23_25, ho_23_26, hf_23_26, ho_23_27, hf_23_27, hk_23_27, hw_23_27, ho_23_28, hf_23_28, ho_23_29, hf_23_29, ho_23_30, hf_23_30, hk_23_30, hw_23_30, ho_23_31, hf_23_31, hk_23_31, hw_23_31, ho_23_32, hf_23_32, ho_23_33, hf_23_33, ho_23_34, hf_23_34, hk_23_34, hw_23_34, ho_23_35, hf_23_35, hk_23_35, hw_23_35, ho_23_36, hf_23_36, hk_23_36, hw_23_36, ho_23_37, hf_23_37, ho_23_38, hf_23_38, ho_23_39, hf_23_39, hn_24, hi_24, hj_24, hg_24, hu_24, hn_25, hi_25, hj_25, hg_25, hu_25, hn_26, hi_26, hj_26, hg_26, hu_26, hn_27, hi_27, hg_27, hu_27, hn_28, hi_28, hg_28, hu_28, hn_29, hi_29, hj_29, hg_29, hu_29, hn_30, hi_30, hj_30, hg_30, hu_30, hn_31, hi_31, hj_31, hg_31, hu_31, hn_32, hi_32, hj_32, hg_32, hu_32, hn_33, hi_33, hj_33, hg_33, hu_33, hn_34, hi_34, hj_34, hg_34, hu_34, hn_35, hi_35, hj_35, hg_35, hu_35, hn_36, hi_36, hj_36, hg_36, hu_36, hn_37, hi_37, hg_37, hu_37, hn_38, hi_38, hj_38, hg_38, hu_38, hn_39, hi_39, hj_39, hg_39, hu_39, hn_40, hi_40, hj_40, hg_40, hu_40, hn_41, hi_41, hj_41, hg_41, hu_41, hn_42, hi_42, hg_42, hu_42, hn_43, hi_43, hg_43, hu_43, hn_44, hi_44, hj_44, hg_44, hu_44, hn_45, hi_45, hg_45, hu_45, rI_ne, rI_zu, zu_zu, zu_eq, show E.2.1 < 1100 by omega, decide_true]
    have hA3f : ∀ q, q ≠ 31 → q ≠ 32 → A3 q = A1 q := fun q h1 h2 => by rw [hA3, zu_ne _ _ _ _ h2, zu_ne _ _ _ _ h1, g1 q h1 h2]
    have c2' : RTK L tp N (A3 25) (A3 26) (B1 27) := by rw [hA3f 25 (by omega) (by omega), hA3f 26 (by omega) (by omega)]; exact c2
    have e5 := R_ts (n := n) (s := s) (c := c) (I := zu (zu (zu I0 1166 (zn 0)) 1169 pv) 1166 (zn (E.2.1 + 1))) (J := J) (R := R) (Q := Q) c2' ht2 (d + 30) 59 (by omega) E.1 hbE (fun _ => p3)
    have nY : (tsg L tp 59 E.1).2 = 0 → (tsg L tp 59 E.1).1 ≤ N := by
      intro h
      obtain ⟨h1, h2, h3⟩ := tsg_fine h
      rw [h3]
      exact RTK_lt c2 p3 (by rw [sgq_3 h2]; omega)
    have e6 := R_ten (n := n) (s := s) (c := c) (I := zu (zu (zu I0 1166 (zn 0)) 1169 pv) 1166 (zn (E.2.1 + 1))) (J := J) (R := R) (Q := Q) c2' (d + 31) none none _ (tsg_b (tp := tp) hL hbE 59) nY
    refine ⟨zu (zu (zu I0 1166 (zn 0)) 1169 pv) 1166 (zn (E.2.1 + 1)), A3, B1, N, hfr _, hfs _, c2', fun q h1 h2 h3 h4 => by rw [hA3f q h3 h4, c3 q h1 h2], c4, fun h => ?_, es.trans ?_⟩
    · obtain ⟨f1, f2⟩ := ten_fine h
      have e7 : ten L tp (tsg L tp 59 E.1) = tsg L tp 59 E.1 := if_pos f2
      refine ⟨by rw [e7]; exact nY f1, ?_, fun l hl => ?_⟩
      · have hs2 : (see L tp 1 12 (sc1 L tp)).2 = 0 := by
          obtain ⟨m1, m2, m3⟩ := twd_fine q
          exact (adv_fine m1).1
        rw [zu_ne _ _ _ _ (by omega), zu_eq, hpv, if_pos hs2]
        rfl
      · have h31 : A3 31 = zu (A2 31) E.2.1 (zn 0) := by rw [hA3, zu_ne _ _ _ _ (by omega), zu_eq]
        have h32 : A3 32 = zu (A2 32) E.2.1 (zn 0) := by rw [hA3, zu_eq]
        have hl1 := hl.1
        refine ⟨fun j hj => ?_, ?_⟩
        · rw [h31, h32, zu_ne _ _ _ _ (by omega), zu_ne _ _ _ _ (by omega)]
          exact OPR_LC g2 hl j hj
        · rw [h31, hl1, zu_eq]
    · rw [← e6]
      simp (disch := first | omega | exact zb_1 | exact zb_0 | exact zb_n1 | exact zb_n0) only [x210_36, x210_37, x210_40, x210_43, x210_44, x210_45, x210_48, x210_49, x210_50, x210_51, x210_54, x210_55, x210_57, mq_dl_int, mq_dl_ref, mq_dl_null, mq_dl_none, mc_some, Option.toList_some, Option.toList_none, List.cons_append, List.nil_append, zb_1, zb_0, ↓reduceIte, if_true, if_false, not_true_eq_false, not_false_eq_true, Bool.false_eq_true, z_10, z_01, eq_self, Bool.and_self, true_or, or_true, false_or, or_false, true_and, and_true, false_and, and_false, and_self, or_self, Nat.reduceLT, Nat.reduceEqDiff, Nat.reduceLeDiff, Nat.reduceAdd, Nat.reduceMul, Nat.reduceSub, zn_lit, zn_add, zn_mul, zn_sub, zn_addneg, zn_lt, zn_le, zn_eq, zn_clamp, zn_in, zn_long, hp_1, hp_21, upd_zu, updL_zu, updQ_zu, zu_eq, zu_ne, ho_23, ho_23_0, hf_23_0, hk_23_0, hw_23_0, ho_23_1, hf_23_1, ho_23_2, hf_23_2, hk_23_2, hw_23_2, ho_23_3, hf_23_3, hk_23_3, hw_23_3, ho_23_4, hf_23_4, ho_23_5, hf_23_5, ho_23_6, hf_23_6, ho_23_7, hf_23_7, hk_23_7, hw_23_7, ho_23_8, hf_23_8, hk_23_8, hw_23_8, ho_23_9, hf_23_9, ho_23_10, hf_23_10, ho_23_11, hf_23_11, hk_23_11, hw_23_11, ho_23_12, hf_23_12, hk_23_12, hw_23_12, ho_23_13, hf_23_13, ho_23_14, hf_23_14, ho_23_15, hf_23_15, ho_23_16, hf_23_16, hk_23_16, hw_23_16, ho_23_17, hf_23_17, ho_23_18, hf_23_18, ho_23_19, hf_23_19, hk_23_19, hw_23_19, ho_23_20, hf_23_20, ho_23_21, hf_23_21, hk_23_21, hw_23_21, ho_23_22, hf_23_22, hk_23_22, hw_23_22, ho_23_23, hf_23_23, hk_23_23, hw_23_23, ho_23_24, hf_23_24, hk_23_24, hw_23_24, ho_23_25, hf_23_25, ho_23_26, hf_23_26, ho_23_27, hf_23_27, hk_23_27, hw_23_27, ho_23_28, hf_23_28, ho_23_29, hf_23_29, ho_23_30, hf_23_30, hk_23_30, hw_23_30, ho_23_31, hf_23_31, hk_23_31, hw_23_31, ho_23_32, hf_23_32, ho_23_33, hf_23_33, ho_23_34, hf_23_34, hk_23_34, hw_23_34, ho_23_35, hf_23_35, hk_23_35, hw_23_35, ho_23_36, hf_23_36, hk_23_36, hw_23_36, ho_23_37, hf_23_37, ho_23_38, hf_23_38, ho_23_39, hf_23_39, hn_24, hi_24, hj_24, hg_24, hu_24, hn_25, hi_25, hj_25, hg_25, hu_25, hn_26, hi_26, hj_26, hg_26, hu_26, hn_27, hi_27, hg_27, hu_27, hn_28, hi_28, hg_28, hu_28, hn_29, hi_29, hj_29, hg_29, hu_29, hn_30, hi_30, hj_30, hg_30, hu_30, hn_31, hi_31, hj_31, hg_31, hu_31, hn_32, hi_32, hj_32, hg_32, hu_32, hn_33, hi_33, hj_33, hg_33, hu_33, hn_34, hi_34, hj_34, hg_34, hu_34, hn_35, hi_35, hj_35, hg_35, hu_35, hn_36, hi_36, hj_36, hg_36, hu_36, hn_37, hi_37, hg_37, hu_37, hn_38, hi_38, hj_38, hg_38, hu_38, hn_39, hi_39, hj_39, hg_39, hu_39, hn_40, hi_40, hj_40, hg_40, hu_40, hn_41, hi_41, hj_41, hg_41, hu_41, hn_42, hi_42, hg_42, hu_42, hn_43, hi_43, hg_43, hu_43, hn_44, hi_44, hj_44, hg_44, hu_44, hn_45, hi_45, hg_45, hu_45, rI_58, q, g3, e4, e5]
  · have hE : scE L tp st nm = (sc3 L tp, 0, st, nm) := exG_F (ptF_F q) q
    have hX : scX L tp st nm = ten L tp (tsg L tp 59 (sc3 L tp)) := by
      show ten L tp (tsg L tp 59 (scE L tp st nm).1) = _
      rw [hE]
    have e5 := R_ts (n := n) (s := s) (c := c) (I := zu (zu I0 1166 (zn 0)) 1169 pv) (J := J) (R := R) (Q := Q) c2 ht2 (d + 30) 59 (by omega) (sc3 L tp) b3 n3
    have nY : (tsg L tp 59 (sc3 L tp)).2 = 0 → (tsg L tp 59 (sc3 L tp)).1 ≤ N := fun h => absurd (tsg_fine h).1 q
    have e6 := R_ten (n := n) (s := s) (c := c) (I := zu (zu I0 1166 (zn 0)) 1169 pv) (J := J) (R := R) (Q := Q) c2 (d + 31) none none _ (tsg_b (tp := tp) hL b3 59) nY
    have h16 := hfr (zn 0)
    have h17 := hfs (zn 0)
    rw [e16] at h16 h17
    refine ⟨zu (zu I0 1166 (zn 0)) 1169 pv, A1, B1, N, h16, h17, c2, fun q h1 h2 _ _ => c3 q h1 h2, c4, fun h => ?_, es.trans ?_⟩
    · exact absurd (scX_fine h).2 q
    · rw [hX, ← e6]
      simp (disch := first | omega | exact zb_1 | exact zb_0 | exact zb_n1 | exact zb_n0) only [x210_36, x210_37, x210_40, x210_54, x210_55, x210_57, mq_dl_int, mq_dl_ref, mq_dl_null, mq_dl_none, mc_some, Option.toList_some, Option.toList_none, List.cons_append, List.nil_append, zb_1, zb_0, ↓reduceIte, if_true, if_false, not_true_eq_false, not_false_eq_true, Bool.false_eq_true, z_10, z_01, eq_self, Bool.and_self, true_or, or_true, false_or, or_false, true_and, and_true, false_and, and_false, and_self, or_self, Nat.reduceLT, Nat.reduceEqDiff, Nat.reduceLeDiff, Nat.reduceAdd, Nat.reduceMul, Nat.reduceSub, zn_lit, zn_add, zn_mul, zn_sub, zn_addneg, zn_lt, zn_le, zn_eq, zn_clamp, zn_in, zn_long, hp_1, hp_21, upd_zu, updL_zu, updQ_zu, zu_eq, zu_ne, ho_23, ho_23_0, hf_23_0, hk_23_0, hw_23_0, ho_23_1, hf_23_1, ho_23_2, hf_23_2, hk_23_2, hw_23_2, ho_23_3, hf_23_3, hk_23_3, hw_23_3, ho_23_4, hf_23_4, ho_23_5, hf_23_5, ho_23_6, hf_23_6, ho_23_7, hf_23_7, hk_23_7, hw_23_7, ho_23_8, hf_23_8, hk_23_8, hw_23_8, ho_23_9, hf_23_9, ho_23_10, hf_23_10, ho_23_11, hf_23_11, hk_23_11, hw_23_11, ho_23_12, hf_23_12, hk_23_12, hw_23_12, ho_23_13, hf_23_13, ho_23_14, hf_23_14, ho_23_15, hf_23_15, ho_23_16, hf_23_16, hk_23_16, hw_23_16, ho_23_17, hf_23_17, ho_23_18, hf_23_18, ho_23_19, hf_23_19, hk_23_19, hw_23_19, ho_23_20, hf_23_20, ho_23_21, hf_23_21, hk_23_21, hw_23_21, ho_23_22, hf_23_22, hk_23_22, hw_23_22, ho_23_23, hf_23_23, hk_23_23, hw_23_23, ho_23_24, hf_23_24, hk_23_24, hw_23_24, ho_23_25, hf_23_25, ho_23_26, hf_23_26, ho_23_27, hf_23_27, hk_23_27, hw_23_27, ho_23_28, hf_23_28, ho_23_29, hf_23_29, ho_23_30, hf_23_30, hk_23_30, hw_23_30, ho_23_31, hf_23_31, hk_23_31, hw_23_31, ho_23_32, hf_23_32, ho_23_33, hf_23_33, ho_23_34, hf_23_34, hk_23_34, hw_23_34, ho_23_35, hf_23_35, hk_23_35, hw_23_35, ho_23_36, hf_23_36, hk_23_36, hw_23_36, ho_23_37, hf_23_37, ho_23_38, hf_23_38, ho_23_39, hf_23_39, hn_24, hi_24, hj_24, hg_24, hu_24, hn_25, hi_25, hj_25, hg_25, hu_25, hn_26, hi_26, hj_26, hg_26, hu_26, hn_27, hi_27, hg_27, hu_27, hn_28, hi_28, hg_28, hu_28, hn_29, hi_29, hj_29, hg_29, hu_29, hn_30, hi_30, hj_30, hg_30, hu_30, hn_31, hi_31, hj_31, hg_31, hu_31, hn_32, hi_32, hj_32, hg_32, hu_32, hn_33, hi_33, hj_33, hg_33, hu_33, hn_34, hi_34, hj_34, hg_34, hu_34, hn_35, hi_35, hj_35, hg_35, hu_35, hn_36, hi_36, hj_36, hg_36, hu_36, hn_37, hi_37, hg_37, hu_37, hn_38, hi_38, hj_38, hg_38, hu_38, hn_39, hi_39, hj_39, hg_39, hu_39, hn_40, hi_40, hj_40, hg_40, hu_40, hn_41, hi_41, hj_41, hg_41, hu_41, hn_42, hi_42, hg_42, hu_42, hn_43, hi_43, hg_43, hu_43, hn_44, hi_44, hj_44, hg_44, hu_44, hn_45, hi_45, hg_45, hu_45, rI_58, q, e5]
end RK
