/-! FORMULAS: products, sums, tests, expressions of the reference -/
section RF
variable {n s : Nat} {c : Nat → mq_E} {I : Nat → Int32} {J : Nat → Int64} {A : Nat → Nat → Int32} {B : Nat → Nat → Int64} {R : Nat → Value} {Q : Nat → Nat → Option Nat}
variable {L : Nat} {tp : Nat → Nat} {N : Nat}
theorem end_q (hR : RTK L tp N (A 25) (A 26) (B 27)) {k : Nat} (h1 : k ≤ N) (h2 : 1000 ≤ k) : tkS L tp (ps L tp k) = 4 := by
  have h3 := hR.2.1
  have e : k = N := by omega
  subst e
  rw [hR.2.2.2.2]
  unfold tkS
  rw [if_pos (Nat.le_refl _)]
theorem rI_adv (I : Nat → Int32) (x : Nat × Nat) (hx : x.2 = 0) : zu (rI I x) 1157 (zn (x.1 + 1)) = rI I (adv x) := by
  rw [rI_w7, adv_0 hx, hx]
theorem R_prl (hR : RTK L tp N (A 25) (A 26) (B 27)) (ht2 : ∀ i, tp i < 128) (d dp : Nat) (P : EST → EST) (hP : PG N P) (hr : RR N L tp n s c I J B R Q A (d + 2) 207 [some (.ref 23), some (.int (zn dp)), none, none, none] P) : ∀ (f : Nat) (e : EST) (A1 : Nat → Nat → Int32), (e.1.2 = 0 → 1000 ≤ e.1.1 + f) → EN N e → OPR e (A1 31) (A1 32) → AFR A A1 → ∃ A', AFR A1 A' ∧ OPR (loF P (oP L tp) f e) (A' 31) (A' 32) ∧ mz (d + 3) 206 5 [some (.ref 23), some (.int (zn dp))] [] (hRE n s c I J B R Q e A1) = some (some none, hRE n s c I J B R Q (loF P (oP L tp) f e) A') := by
  have hN := hR.2.1
  have hexit : ∀ (e : EST) (A1 : Nat → Nat → Int32), EN N e → AFR A A1 → ¬ (decide (e.1.2 = 0) && sgq L tp e.1.1 42) = true → mz (d + 3) 206 5 [some (.ref 23), some (.int (zn dp))] [] (hRE n s c I J B R Q e A1) = some (some none, hRE n s c I J B R Q e A1) := by
    intro e A1 hE hA hq
    have hRA := AFR_R hA hR
    have k1 := R_hs (n := n) (s := s) (c := c) (I := zu I 1166 (zn e.2.1)) (J := J) (R := R) (Q := Q) hRA ht2 (d + 1) 42 (by omega) e.1 hE.1 (fun _ => hE.2.1)
    rw [if_neg hq, Bool.eq_false_iff.mpr hq] at k1
    unfold hRE
    rw [x206_5]
    simp (disch := first | omega | exact zb_1 | exact zb_0 | exact zb_n1 | exact zb_n0) only [x206_6, x206_8, x206_11, x206_29, mq_dl_int, mq_dl_ref, mq_dl_null, mq_dl_none, mc_some, Option.toList_some, Option.toList_none, List.cons_append, List.nil_append, zb_1, zb_0, ↓reduceIte, if_true, if_false, not_true_eq_false, not_false_eq_true, Bool.false_eq_true, z_10, z_01, eq_self, Bool.and_self, true_or, or_true, false_or, or_false, true_and, and_true, false_and, and_false, and_self, or_self, Nat.reduceLT, Nat.reduceEqDiff, Nat.reduceLeDiff, Nat.reduceAdd, Nat.reduceMul, Nat.reduceSub, zn_lit, zn_add, zn_mul, zn_sub, zn_addneg, zn_lt, zn_le, zn_eq, zn_clamp, zn_in, zn_long, hp_1, hp_21, upd_zu, updL_zu, updQ_zu, zu_eq, zu_ne, ho_23, ho_23_0, hf_23_0, hk_23_0, hw_23_0, ho_23_1, hf_23_1, ho_23_2, hf_23_2, hk_23_2, hw_23_2, ho_23_3, hf_23_3, hk_23_3, hw_23_3, ho_23_4, hf_23_4, ho_23_5, hf_23_5, ho_23_6, hf_23_6, ho_23_7, hf_23_7, hk_23_7, hw_23_7, ho_23_8, hf_23_8, hk_23_8, hw_23_8, ho_23_9, hf_23_9, ho_23_10, hf_23_10, ho_23_11, hf_23_11, hk_23_11, hw_23_11, ho_23_12, hf_23_12, hk_23_12, hw_23_12, ho_23_13, hf_23_13, ho_23_14, hf_23_14, ho_23_15, hf_23_15, ho_23_16, hf_23_16, hk_23_16, hw_23_16, ho_23_17, hf_23_17, ho_23_18, hf_23_18, ho_23_19, hf_23_19, hk_23_19, hw_23_19, ho_23_20, hf_23_20, ho_23_21, hf_23_21, hk_23_21, hw_23_21, ho_23_22, hf_23_22, hk_23_22, hw_23_22, ho_23_23, hf_23_23, hk_23_23, hw_23_23, ho_23_24, hf_23_24, hk_23_24, hw_23_24, ho_23_25, hf_23_25, ho_23_26, hf_23_26, ho_23_27, hf_23_27, hk_23_27, hw_23_27, ho_23_28, hf_23_28, ho_23_29, hf_23_29, ho_23_30, hf_23_30, hk_23_30, hw_23_30, ho_23_31, hf_23_31, hk_23_31, hw_23_31, ho_23_32, hf_23_32, ho_23_33, hf_23_33, ho_23_34, hf_23_34, hk_23_34, hw_23_34, ho_23_35, hf_23_35, hk_23_35, hw_23_35, ho_23_36, hf_23_36, hk_23_36, hw_23_36, ho_23_37, hf_23_37, ho_23_38, hf_23_38, ho_23_39, hf_23_39, hn_24, hi_24, hj_24, hg_24, hu_24, hn_25, hi_25, hj_25, hg_25, hu_25, hn_26, hi_26, hj_26, hg_26, hu_26, hn_27, hi_27, hg_27, hu_27, hn_28, hi_28, hg_28, hu_28, hn_29, hi_29, hj_29, hg_29, hu_29, hn_30, hi_30, hj_30, hg_30, hu_30, hn_31, hi_31, hj_31, hg_31, hu_31, hn_32, hi_32, hj_32, hg_32, hu_32, hn_33, hi_33, hj_33, hg_33, hu_33, hn_34, hi_34, hj_34, hg_34, hu_34, hn_35, hi_35, hj_35, hg_35, hu_35, hn_36, hi_36, hj_36, hg_36, hu_36, hn_37, hi_37, hg_37, hu_37, hn_38, hi_38, hj_38, hg_38, hu_38, hn_39, hi_39, hj_39, hg_39, hu_39, hn_40, hi_40, hj_40, hg_40, hu_40, hn_41, hi_41, hj_41, hg_41, hu_41, hn_42, hi_42, hg_42, hu_42, hn_43, hi_43, hg_43, hu_43, hn_44, hi_44, hj_44, hg_44, hu_44, hn_45, hi_45, hg_45, hu_45, k1, zo_f]
  intro f
  induction f with
  | zero =>
    intro e A1 hf hE hO hA
    refine ⟨A1, fun _ _ _ => rfl, hO, hexit e A1 hE hA (fun q => ?_)⟩
    simp only [Bool.and_eq_true, decide_eq_true_eq] at q
    have h4 := end_q hR hE.2.1 (by have := hf q.1; omega)
    have := sgq_3 q.2
    omega
  | succ f ih =>
    intro e A1 hf hE hO hA
    have hRA := AFR_R hA hR
    unfold loF
    by_cases q : e.1.2 = 0
    · rw [if_pos q]
      by_cases q2 : sgq L tp e.1.1 42 = true
      · have k1 := R_hs (n := n) (s := s) (c := c) (I := zu I 1166 (zn e.2.1)) (J := J) (R := R) (Q := Q) hRA ht2 (d + 1) 42 (by omega) e.1 hE.1 (fun _ => hE.2.1)
        have hb : (decide (e.1.2 = 0) && sgq L tp e.1.1 42) = true := by simp [q, q2]
        rw [if_pos hb, hb] at k1
        have eo : oP L tp e.1.1 = some 13 := by unfold oP; rw [if_pos q2]
        rw [eo]
        dsimp only
        obtain ⟨a1, a2, a3⟩ := EN_adv hR hE q (by rw [sgq_3 q2]; omega)
        obtain ⟨A2, b1, b2, b3⟩ := hr _ A1 a1 hO hA
        obtain ⟨p1, p2, p3⟩ := hP _ a1
        have h9 := hE.2.2
        have h8 := p1.2.1
        obtain ⟨A3, c1, c2, c3⟩ := R_emit (n := n) (s := s) (c := c) (I := I) (J := J) (B := B) (R := R) (Q := Q) (d + 2) 13 0 (by omega) (by omega) (P (stx (adv e.1) e)) (by omega) b2
        obtain ⟨m1, m2, m3⟩ := EN_emi hN p1 (by omega) (zn 13) (zn 0)
        obtain ⟨A4, d1, d2, d3⟩ := ih _ A3 (fun _ => by rw [m2]; have := hf q; omega) m1 c2 (hA.trans (b1.trans c1))
        refine ⟨A4, b1.trans (c1.trans d1), d2, ?_⟩
        rw [← d3]
        have er : rop 13 = 6 ∧ rar 13 0 = 0 := by decide
        rw [er.1, er.2] at c3
        have b3' : mz (d + 2) 207 0 [some (.ref 23), some (.int (zn dp)), none, none, none] [] (hp n s c (rI (zu I 1166 (zn e.2.1)) (adv e.1)) J A1 B R Q) = some (some none, hRE n s c I J B R Q (P (stx (adv e.1) e)) A2) := b3
        have g2 : mo0 (hRE n s c I J B R Q (P (stx (adv e.1) e)) A2) 23 10 = true := rfl
        have e9 : hRE n s c I J B R Q e A1 = hp n s c (rI (zu I 1166 (zn e.2.1)) e.1) J A1 B R Q := rfl
        rw [e9, x206_5]
        simp (disch := first | omega | exact zb_1 | exact zb_0 | exact zb_n1 | exact zb_n0) only [x206_6, x206_8, x206_11, x206_14, x206_15, x206_16, x206_19, x206_20, x206_22, x206_23, x206_26, mq_dl_int, mq_dl_ref, mq_dl_null, mq_dl_none, mc_some, Option.toList_some, Option.toList_none, List.cons_append, List.nil_append, zb_1, zb_0, ↓reduceIte, if_true, if_false, not_true_eq_false, not_false_eq_true, Bool.false_eq_true, z_10, z_01, eq_self, Bool.and_self, true_or, or_true, false_or, or_false, true_and, and_true, false_and, and_false, and_self, or_self, Nat.reduceLT, Nat.reduceEqDiff, Nat.reduceLeDiff, Nat.reduceAdd, Nat.reduceMul, Nat.reduceSub, zn_lit, zn_add, zn_mul, zn_sub, zn_addneg, zn_lt, zn_le, zn_eq, zn_clamp, zn_in, zn_long, hp_1, hp_21, upd_zu, updL_zu, updQ_zu, zu_eq, zu_ne, ho_23, ho_23_0, hf_23_0, hk_23_0, hw_23_0, ho_23_1, hf_23_1, ho_23_2, hf_23_2, hk_23_2, hw_23_2, ho_23_3, hf_23_3, hk_23_3, hw_23_3, ho_23_4, hf_23_4, ho_23_5, hf_23_5, ho_23_6, hf_23_6, ho_23_7, hf_23_7, hk_23_7, hw_23_7, ho_23_8, hf_23_8, hk_23_8, hw_23_8, ho_23_9, hf_23_9, ho_23_10, hf_23_10, ho_23_11, hf_23_11, hk_23_11, hw_23_11, ho_23_12, hf_23_12, hk_23_12, hw_23_12, ho_23_13, hf_23_13, ho_23_14, hf_23_14, ho_23_15, hf_23_15, ho_23_16, hf_23_16, hk_23_16, hw_23_16, ho_23_17, hf_23_17, ho_23_18, hf_23_18, ho_23_19, hf_23_19, hk_23_19, hw_23_19, ho_23_20, hf_23_20, ho_23_21, hf_23_21, hk_23_21, hw_23_21, ho_23_22, hf_23_22, hk_23_22, hw_23_22, ho_23_23, hf_23_23, hk_23_23, hw_23_23, ho_23_24, hf_23_24, hk_23_24, hw_23_24, ho_23_25, hf_23_25, ho_23_26, hf_23_26, ho_23_27, hf_23_27, hk_23_27, hw_23_27, ho_23_28, hf_23_28, ho_23_29, hf_23_29, ho_23_30, hf_23_30, hk_23_30, hw_23_30, ho_23_31, hf_23_31, hk_23_31, hw_23_31, ho_23_32, hf_23_32, ho_23_33, hf_23_33, ho_23_34, hf_23_34, hk_23_34, hw_23_34, ho_23_35, hf_23_35, hk_23_35, hw_23_35, ho_23_36, hf_23_36, hk_23_36, hw_23_36, ho_23_37, hf_23_37, ho_23_38, hf_23_38, ho_23_39, hf_23_39, hn_24, hi_24, hj_24, hg_24, hu_24, hn_25, hi_25, hj_25, hg_25, hu_25, hn_26, hi_26, hj_26, hg_26, hu_26, hn_27, hi_27, hg_27, hu_27, hn_28, hi_28, hg_28, hu_28, hn_29, hi_29, hj_29, hg_29, hu_29, hn_30, hi_30, hj_30, hg_30, hu_30, hn_31, hi_31, hj_31, hg_31, hu_31, hn_32, hi_32, hj_32, hg_32, hu_32, hn_33, hi_33, hj_33, hg_33, hu_33, hn_34, hi_34, hj_34, hg_34, hu_34, hn_35, hi_35, hj_35, hg_35, hu_35, hn_36, hi_36, hj_36, hg_36, hu_36, hn_37, hi_37, hg_37, hu_37, hn_38, hi_38, hj_38, hg_38, hu_38, hn_39, hi_39, hj_39, hg_39, hu_39, hn_40, hi_40, hj_40, hg_40, hu_40, hn_41, hi_41, hj_41, hg_41, hu_41, hn_42, hi_42, hg_42, hu_42, hn_43, hi_43, hg_43, hu_43, hn_44, hi_44, hj_44, hg_44, hu_44, hn_45, hi_45, hg_45, hu_45, k1, b3', g2, c3, zo_t]
      · have eo : oP L tp e.1.1 = none := by unfold oP; rw [if_neg q2]
        rw [eo]
        exact ⟨A1, fun _ _ _ => rfl, hO, hexit e A1 hE hA (by simp [q2])⟩
    · rw [if_neg q]
      exact ⟨A1, fun _ _ _ => rfl, hO, hexit e A1 hE hA (by simp [q])⟩
theorem R_pr (hR : RTK L tp N (A 25) (A 26) (B 27)) (ht2 : ∀ i, tp i < 128) (d dp : Nat) (P : EST → EST) (hP : PG N P) (hr : RR N L tp n s c I J B R Q A (d + 2) 207 [some (.ref 23), some (.int (zn dp)), none, none, none] P) : RR N L tp n s c I J B R Q A (d + 3) 206 [some (.ref 23), some (.int (zn dp))] (prG L tp P) := by
  intro e A1 hE hO hA
  obtain ⟨A2, b1, b2, b3⟩ := hr e A1 hE hO hA
  obtain ⟨p1, p2, p3⟩ := hP e hE
  obtain ⟨A3, c1, c2, c3⟩ := R_prl hR ht2 d dp P hP hr 1000 (P e) A2 (fun _ => by omega) p1 b2 (hA.trans b1)
  refine ⟨A3, b1.trans c1, c2, ?_⟩
  have g1 : mo0 (hRE n s c I J B R Q e A1) 23 10 = true := rfl
  unfold prG
  simp (disch := first | omega | exact zb_1 | exact zb_0 | exact zb_n1 | exact zb_n0) only [x206_0, x206_1, x206_2, mq_dl_int, mq_dl_ref, mq_dl_null, mq_dl_none, mc_some, Option.toList_some, Option.toList_none, List.cons_append, List.nil_append, zb_1, zb_0, ↓reduceIte, if_true, if_false, not_true_eq_false, not_false_eq_true, Bool.false_eq_true, z_10, z_01, eq_self, Bool.and_self, true_or, or_true, false_or, or_false, true_and, and_true, false_and, and_false, and_self, or_self, Nat.reduceLT, Nat.reduceEqDiff, Nat.reduceLeDiff, Nat.reduceAdd, Nat.reduceMul, Nat.reduceSub, zn_lit, zn_add, zn_mul, zn_sub, zn_addneg, zn_lt, zn_le, zn_eq, zn_clamp, zn_in, zn_long, g1, b3, c3]
theorem R_sml (hR : RTK L tp N (A 25) (A 26) (B 27)) (ht2 : ∀ i, tp i < 128) (hWd : WRD B) (d dp : Nat) (P : EST → EST) (hP : PG N P) (hr : RR N L tp n s c I J B R Q A (d + 3) 206 [some (.ref 23), some (.int (zn dp))] P) : ∀ (f : Nat) (e : EST) (A1 : Nat → Nat → Int32) (o2 : Option Value), (e.1.2 = 0 → 1000 ≤ e.1.1 + f) → EN N e → OPR e (A1 31) (A1 32) → AFR A A1 → ∃ A', AFR A1 A' ∧ OPR (loF P (oS L tp) f e) (A' 31) (A' 32) ∧ mz (d + 4) 205 5 [some (.ref 23), some (.int (zn dp)), o2] [] (hRE n s c I J B R Q e A1) = some (some none, hRE n s c I J B R Q (loF P (oS L tp) f e) A') := by
  have hN := hR.2.1
  have hexit : ∀ (e : EST) (A1 : Nat → Nat → Int32) (o2 : Option Value), EN N e → AFR A A1 → (e.1.2 = 0 → ¬ sgq L tp e.1.1 43 = true ∧ ¬ sgq L tp e.1.1 45 = true) → mz (d + 4) 205 5 [some (.ref 23), some (.int (zn dp)), o2] [] (hRE n s c I J B R Q e A1) = some (some none, hRE n s c I J B R Q e A1) := by
    intro e A1 o2 hE hA hq
    have hRA := AFR_R hA hR
    have k1 := R_isS (n := n) (s := s) (c := c) (I := zu I 1166 (zn e.2.1)) (J := J) (R := R) (Q := Q) hRA ht2 (d + 3) 43 (by omega) e.1 hE.1 (fun _ => hE.2.1)
    have k2 := R_isS (n := n) (s := s) (c := c) (I := zu I 1166 (zn e.2.1)) (J := J) (R := R) (Q := Q) hRA ht2 (d + 3) 45 (by omega) e.1 hE.1 (fun _ => hE.2.1)
    skip
    unfold hRE
    rw [x205_5]
    by_cases q : e.1.2 = 0
    · obtain ⟨q1, q2⟩ := hq q
      simp (disch := first | omega | exact zb_1 | exact zb_0 | exact zb_n1 | exact zb_n0) only [x205_6, x205_8, x205_11, x205_14, x205_15, x205_17, x205_20, x205_62, mq_dl_int, mq_dl_ref, mq_dl_null, mq_dl_none, mc_some, Option.toList_some, Option.toList_none, List.cons_append, List.nil_append, zb_1, zb_0, ↓reduceIte, if_true, if_false, not_true_eq_false, not_false_eq_true, Bool.false_eq_true, z_10, z_01, eq_self, Bool.and_self, true_or, or_true, false_or, or_false, true_and, and_true, false_and, and_false, and_self, or_self, Nat.reduceLT, Nat.reduceEqDiff, Nat.reduceLeDiff, Nat.reduceAdd, Nat.reduceMul, Nat.reduceSub, zn_lit, zn_add, zn_mul, zn_sub, zn_addneg, zn_lt, zn_le, zn_eq, zn_clamp, zn_in, zn_long, hp_1, hp_21, upd_zu, updL_zu, updQ_zu, zu_eq, zu_ne, ho_23, ho_23_0, hf_23_0, hk_23_0, hw_23_0, ho_23_1, hf_23_1, ho_23_2, hf_23_2, hk_23_2, hw_23_2, ho_23_3, hf_23_3, hk_23_3, hw_23_3, ho_23_4, hf_23_4, ho_23_5, hf_23_5, ho_23_6, hf_23_6, ho_23_7, hf_23_7, hk_23_7, hw_23_7, ho_23_8, hf_23_8, hk_23_8, hw_23_8, ho_23_9, hf_23_9, ho_23_10, hf_23_10, ho_23_11, hf_23_11, hk_23_11, hw_23_11, ho_23_12, hf_23_12, hk_23_12, hw_23_12, ho_23_13, hf_23_13, ho_23_14, hf_23_14, ho_23_15, hf_23_15, ho_23_16, hf_23_16, hk_23_16, hw_23_16, ho_23_17, hf_23_17, ho_23_18, hf_23_18, ho_23_19, hf_23_19, hk_23_19, hw_23_19, ho_23_20, hf_23_20, ho_23_21, hf_23_21, hk_23_21, hw_23_21, ho_23_22, hf_23_22, hk_23_22, hw_23_22, ho_23_23, hf_23_23, hk_23_23, hw_23_23, ho_23_24, hf_23_24, hk_23_24, hw_23_24, ho_23_25, hf_23_25, ho_23_26, hf_23_26, ho_23_27, hf_23_27, hk_23_27, hw_23_27, ho_23_28, hf_23_28, ho_23_29, hf_23_29, ho_23_30, hf_23_30, hk_23_30, hw_23_30, ho_23_31, hf_23_31, hk_23_31, hw_23_31, ho_23_32, hf_23_32, ho_23_33, hf_23_33, ho_23_34, hf_23_34, hk_23_34, hw_23_34, ho_23_35, hf_23_35, hk_23_35, hw_23_35, ho_23_36, hf_23_36, hk_23_36, hw_23_36, ho_23_37, hf_23_37, ho_23_38, hf_23_38, ho_23_39, hf_23_39, hn_24, hi_24, hj_24, hg_24, hu_24, hn_25, hi_25, hj_25, hg_25, hu_25, hn_26, hi_26, hj_26, hg_26, hu_26, hn_27, hi_27, hg_27, hu_27, hn_28, hi_28, hg_28, hu_28, hn_29, hi_29, hj_29, hg_29, hu_29, hn_30, hi_30, hj_30, hg_30, hu_30, hn_31, hi_31, hj_31, hg_31, hu_31, hn_32, hi_32, hj_32, hg_32, hu_32, hn_33, hi_33, hj_33, hg_33, hu_33, hn_34, hi_34, hj_34, hg_34, hu_34, hn_35, hi_35, hj_35, hg_35, hu_35, hn_36, hi_36, hj_36, hg_36, hu_36, hn_37, hi_37, hg_37, hu_37, hn_38, hi_38, hj_38, hg_38, hu_38, hn_39, hi_39, hj_39, hg_39, hu_39, hn_40, hi_40, hj_40, hg_40, hu_40, hn_41, hi_41, hj_41, hg_41, hu_41, hn_42, hi_42, hg_42, hu_42, hn_43, hi_43, hg_43, hu_43, hn_44, hi_44, hj_44, hg_44, hu_44, hn_45, hi_45, hg_45, hu_45, k1, k2, q, Bool.eq_false_iff.mpr q1, Bool.eq_false_iff.mpr q2, decide_true, Bool.and_false, zo_f]
    · simp (disch := first | omega | exact zb_1 | exact zb_0 | exact zb_n1 | exact zb_n0) only [x205_6, x205_8, x205_11, x205_14, x205_15, x205_17, x205_20, x205_62, mq_dl_int, mq_dl_ref, mq_dl_null, mq_dl_none, mc_some, Option.toList_some, Option.toList_none, List.cons_append, List.nil_append, zb_1, zb_0, ↓reduceIte, if_true, if_false, not_true_eq_false, not_false_eq_true, Bool.false_eq_true, z_10, z_01, eq_self, Bool.and_self, true_or, or_true, false_or, or_false, true_and, and_true, false_and, and_false, and_self, or_self, Nat.reduceLT, Nat.reduceEqDiff, Nat.reduceLeDiff, Nat.reduceAdd, Nat.reduceMul, Nat.reduceSub, zn_lit, zn_add, zn_mul, zn_sub, zn_addneg, zn_lt, zn_le, zn_eq, zn_clamp, zn_in, zn_long, hp_1, hp_21, upd_zu, updL_zu, updQ_zu, zu_eq, zu_ne, ho_23, ho_23_0, hf_23_0, hk_23_0, hw_23_0, ho_23_1, hf_23_1, ho_23_2, hf_23_2, hk_23_2, hw_23_2, ho_23_3, hf_23_3, hk_23_3, hw_23_3, ho_23_4, hf_23_4, ho_23_5, hf_23_5, ho_23_6, hf_23_6, ho_23_7, hf_23_7, hk_23_7, hw_23_7, ho_23_8, hf_23_8, hk_23_8, hw_23_8, ho_23_9, hf_23_9, ho_23_10, hf_23_10, ho_23_11, hf_23_11, hk_23_11, hw_23_11, ho_23_12, hf_23_12, hk_23_12, hw_23_12, ho_23_13, hf_23_13, ho_23_14, hf_23_14, ho_23_15, hf_23_15, ho_23_16, hf_23_16, hk_23_16, hw_23_16, ho_23_17, hf_23_17, ho_23_18, hf_23_18, ho_23_19, hf_23_19, hk_23_19, hw_23_19, ho_23_20, hf_23_20, ho_23_21, hf_23_21, hk_23_21, hw_23_21, ho_23_22, hf_23_22, hk_23_22, hw_23_22, ho_23_23, hf_23_23, hk_23_23, hw_23_23, ho_23_24, hf_23_24, hk_23_24, hw_23_24, ho_23_25, hf_23_25, ho_23_26, hf_23_26, ho_23_27, hf_23_27, hk_23_27, hw_23_27, ho_23_28, hf_23_28, ho_23_29, hf_23_29, ho_23_30, hf_23_30, hk_23_30, hw_23_30, ho_23_31, hf_23_31, hk_23_31, hw_23_31, ho_23_32, hf_23_32, ho_23_33, hf_23_33, ho_23_34, hf_23_34, hk_23_34, hw_23_34, ho_23_35, hf_23_35, hk_23_35, hw_23_35, ho_23_36, hf_23_36, hk_23_36, hw_23_36, ho_23_37, hf_23_37, ho_23_38, hf_23_38, ho_23_39, hf_23_39, hn_24, hi_24, hj_24, hg_24, hu_24, hn_25, hi_25, hj_25, hg_25, hu_25, hn_26, hi_26, hj_26, hg_26, hu_26, hn_27, hi_27, hg_27, hu_27, hn_28, hi_28, hg_28, hu_28, hn_29, hi_29, hj_29, hg_29, hu_29, hn_30, hi_30, hj_30, hg_30, hu_30, hn_31, hi_31, hj_31, hg_31, hu_31, hn_32, hi_32, hj_32, hg_32, hu_32, hn_33, hi_33, hj_33, hg_33, hu_33, hn_34, hi_34, hj_34, hg_34, hu_34, hn_35, hi_35, hj_35, hg_35, hu_35, hn_36, hi_36, hj_36, hg_36, hu_36, hn_37, hi_37, hg_37, hu_37, hn_38, hi_38, hj_38, hg_38, hu_38, hn_39, hi_39, hj_39, hg_39, hu_39, hn_40, hi_40, hj_40, hg_40, hu_40, hn_41, hi_41, hj_41, hg_41, hu_41, hn_42, hi_42, hg_42, hu_42, hn_43, hi_43, hg_43, hu_43, hn_44, hi_44, hj_44, hg_44, hu_44, hn_45, hi_45, hg_45, hu_45, k1, k2, q, decide_false, Bool.false_and, zo_f]
  intro f
  induction f with
  | zero =>
    intro e A1 o2 hf hE hO hA
    refine ⟨A1, fun _ _ _ => rfl, hO, hexit e A1 o2 hE hA (fun q => ?_)⟩
    have h4 := end_q hR hE.2.1 (by have := hf q; omega)
    exact ⟨fun e1 => by have := sgq_3 e1; omega, fun e1 => by have := sgq_3 e1; omega⟩
  | succ f ih =>
    intro e A1 o2 hf hE hO hA
    have hRA := AFR_R hA hR
    unfold loF
    by_cases q : e.1.2 = 0
    · rw [if_pos q]
      have k1 := R_isS (n := n) (s := s) (c := c) (I := zu I 1166 (zn e.2.1)) (J := J) (R := R) (Q := Q) hRA ht2 (d + 3) 43 (by omega) e.1 hE.1 (fun _ => hE.2.1)
      have k2 := R_isS (n := n) (s := s) (c := c) (I := zu I 1166 (zn e.2.1)) (J := J) (R := R) (Q := Q) hRA ht2 (d + 3) 45 (by omega) e.1 hE.1 (fun _ => hE.2.1)
      skip
      by_cases q2 : sgq L tp e.1.1 43 = true
      · have eo : oS L tp e.1.1 = some 11 := by unfold oS; rw [if_pos q2]
        rw [eo]
        dsimp only
        obtain ⟨a1, a2, a3⟩ := EN_adv hR hE q (by rw [sgq_3 q2]; omega)
        obtain ⟨A2, b1, b2, b3⟩ := hr _ A1 a1 hO hA
        obtain ⟨p1, p2, p3⟩ := hP _ a1
        have h9 := hE.2.2
        have h8 := p1.2.1
        obtain ⟨A3, c1, c2, c3⟩ := R_emit (n := n) (s := s) (c := c) (I := I) (J := J) (B := B) (R := R) (Q := Q) (d + 3) 11 0 (by omega) (by omega) (P (stx (adv e.1) e)) (by omega) b2
        obtain ⟨m1, m2, m3⟩ := EN_emi hN p1 (by omega) (zn 11) (zn 0)
        obtain ⟨A4, d1, d2, d3⟩ := ih _ A3 (some (.int (zo true))) (fun _ => by rw [m2]; have := hf q; omega) m1 c2 (hA.trans (b1.trans c1))
        refine ⟨A4, b1.trans (c1.trans d1), d2, ?_⟩
        rw [← d3]
        have er : rop 11 = 4 ∧ rar 11 0 = 0 := by decide
        rw [er.1, er.2] at c3
        have eI := rI_adv (zu I 1166 (zn e.2.1)) e.1 q
        have b3' : mz (d + 3) 206 0 [some (.ref 23), some (.int (zn dp))] [] (hp n s c (rI (zu I 1166 (zn e.2.1)) (adv e.1)) J A1 B R Q) = some (some none, hRE n s c I J B R Q (P (stx (adv e.1) e)) A2) := b3
        have g2 : mo0 (hRE n s c I J B R Q (P (stx (adv e.1) e)) A2) 23 10 = true := rfl
        have e9 : hRE n s c I J B R Q e A1 = hp n s c (rI (zu I 1166 (zn e.2.1)) e.1) J A1 B R Q := rfl
        rw [e9, x205_5]
        simp (disch := first | omega | exact zb_1 | exact zb_0 | exact zb_n1 | exact zb_n0) only [x205_6, x205_8, x205_11, x205_23, x205_24, x205_26, x205_29, x205_30, x205_31, x205_32, x205_35, x205_36, x205_37, x205_40, x205_41, x205_42, x205_45, x205_46, x205_47, x205_50, x205_51, x205_55, x205_56, x205_59, mq_dl_int, mq_dl_ref, mq_dl_null, mq_dl_none, mc_some, Option.toList_some, Option.toList_none, List.cons_append, List.nil_append, zb_1, zb_0, ↓reduceIte, if_true, if_false, not_true_eq_false, not_false_eq_true, Bool.false_eq_true, z_10, z_01, eq_self, Bool.and_self, true_or, or_true, false_or, or_false, true_and, and_true, false_and, and_false, and_self, or_self, Nat.reduceLT, Nat.reduceEqDiff, Nat.reduceLeDiff, Nat.reduceAdd, Nat.reduceMul, Nat.reduceSub, zn_lit, zn_add, zn_mul, zn_sub, zn_addneg, zn_lt, zn_le, zn_eq, zn_clamp, zn_in, zn_long, hp_1, hp_21, upd_zu, updL_zu, updQ_zu, zu_eq, zu_ne, ho_23, ho_23_0, hf_23_0, hk_23_0, hw_23_0, ho_23_1, hf_23_1, ho_23_2, hf_23_2, hk_23_2, hw_23_2, ho_23_3, hf_23_3, hk_23_3, hw_23_3, ho_23_4, hf_23_4, ho_23_5, hf_23_5, ho_23_6, hf_23_6, ho_23_7, hf_23_7, hk_23_7, hw_23_7, ho_23_8, hf_23_8, hk_23_8, hw_23_8, ho_23_9, hf_23_9, ho_23_10, hf_23_10, ho_23_11, hf_23_11, hk_23_11, hw_23_11, ho_23_12, hf_23_12, hk_23_12, hw_23_12, ho_23_13, hf_23_13, ho_23_14, hf_23_14, ho_23_15, hf_23_15, ho_23_16, hf_23_16, hk_23_16, hw_23_16, ho_23_17, hf_23_17, ho_23_18, hf_23_18, ho_23_19, hf_23_19, hk_23_19, hw_23_19, ho_23_20, hf_23_20, ho_23_21, hf_23_21, hk_23_21, hw_23_21, ho_23_22, hf_23_22, hk_23_22, hw_23_22, ho_23_23, hf_23_23, hk_23_23, hw_23_23, ho_23_24, hf_23_24, hk_23_24, hw_23_24, ho_23_25, hf_23_25, ho_23_26, hf_23_26, ho_23_27, hf_23_27, hk_23_27, hw_23_27, ho_23_28, hf_23_28, ho_23_29, hf_23_29, ho_23_30, hf_23_30, hk_23_30, hw_23_30, ho_23_31, hf_23_31, hk_23_31, hw_23_31, ho_23_32, hf_23_32, ho_23_33, hf_23_33, ho_23_34, hf_23_34, hk_23_34, hw_23_34, ho_23_35, hf_23_35, hk_23_35, hw_23_35, ho_23_36, hf_23_36, hk_23_36, hw_23_36, ho_23_37, hf_23_37, ho_23_38, hf_23_38, ho_23_39, hf_23_39, hn_24, hi_24, hj_24, hg_24, hu_24, hn_25, hi_25, hj_25, hg_25, hu_25, hn_26, hi_26, hj_26, hg_26, hu_26, hn_27, hi_27, hg_27, hu_27, hn_28, hi_28, hg_28, hu_28, hn_29, hi_29, hj_29, hg_29, hu_29, hn_30, hi_30, hj_30, hg_30, hu_30, hn_31, hi_31, hj_31, hg_31, hu_31, hn_32, hi_32, hj_32, hg_32, hu_32, hn_33, hi_33, hj_33, hg_33, hu_33, hn_34, hi_34, hj_34, hg_34, hu_34, hn_35, hi_35, hj_35, hg_35, hu_35, hn_36, hi_36, hj_36, hg_36, hu_36, hn_37, hi_37, hg_37, hu_37, hn_38, hi_38, hj_38, hg_38, hu_38, hn_39, hi_39, hj_39, hg_39, hu_39, hn_40, hi_40, hj_40, hg_40, hu_40, hn_41, hi_41, hj_41, hg_41, hu_41, hn_42, hi_42, hg_42, hu_42, hn_43, hi_43, hg_43, hu_43, hn_44, hi_44, hj_44, hg_44, hu_44, hn_45, hi_45, hg_45, hu_45, k1, k2, rI_57, eI, b3', g2, c3, q, q2, decide_true, Bool.and_self, zo_t]
      · by_cases q3 : sgq L tp e.1.1 45 = true
        · have eo : oS L tp e.1.1 = some 12 := by unfold oS; rw [if_neg q2, if_pos q3]
          rw [eo]
          dsimp only
          obtain ⟨a1, a2, a3⟩ := EN_adv hR hE q (by rw [sgq_3 q3]; omega)
          obtain ⟨A2, b1, b2, b3⟩ := hr _ A1 a1 hO hA
          obtain ⟨p1, p2, p3⟩ := hP _ a1
          have h9 := hE.2.2
          have h8 := p1.2.1
          obtain ⟨A3, c1, c2, c3⟩ := R_emit (n := n) (s := s) (c := c) (I := I) (J := J) (B := B) (R := R) (Q := Q) (d + 3) 12 0 (by omega) (by omega) (P (stx (adv e.1) e)) (by omega) b2
          obtain ⟨m1, m2, m3⟩ := EN_emi hN p1 (by omega) (zn 12) (zn 0)
          obtain ⟨A4, d1, d2, d3⟩ := ih _ A3 (some (.int (zo false))) (fun _ => by rw [m2]; have := hf q; omega) m1 c2 (hA.trans (b1.trans c1))
          refine ⟨A4, b1.trans (c1.trans d1), d2, ?_⟩
          rw [← d3]
          have er : rop 12 = 5 ∧ rar 12 0 = 0 := by decide
          rw [er.1, er.2] at c3
          have eI := rI_adv (zu I 1166 (zn e.2.1)) e.1 q
          have b3' : mz (d + 3) 206 0 [some (.ref 23), some (.int (zn dp))] [] (hp n s c (rI (zu I 1166 (zn e.2.1)) (adv e.1)) J A1 B R Q) = some (some none, hRE n s c I J B R Q (P (stx (adv e.1) e)) A2) := b3
          have g2 : mo0 (hRE n s c I J B R Q (P (stx (adv e.1) e)) A2) 23 10 = true := rfl
          have e9 : hRE n s c I J B R Q e A1 = hp n s c (rI (zu I 1166 (zn e.2.1)) e.1) J A1 B R Q := rfl
          rw [e9, x205_5]
          simp (disch := first | omega | exact zb_1 | exact zb_0 | exact zb_n1 | exact zb_n0) only [x205_6, x205_8, x205_11, x205_14, x205_15, x205_17, x205_20, x205_23, x205_24, x205_26, x205_29, x205_30, x205_31, x205_32, x205_35, x205_36, x205_37, x205_40, x205_41, x205_42, x205_45, x205_46, x205_47, x205_54, x205_55, x205_56, x205_59, mq_dl_int, mq_dl_ref, mq_dl_null, mq_dl_none, mc_some, Option.toList_some, Option.toList_none, List.cons_append, List.nil_append, zb_1, zb_0, ↓reduceIte, if_true, if_false, not_true_eq_false, not_false_eq_true, Bool.false_eq_true, z_10, z_01, eq_self, Bool.and_self, true_or, or_true, false_or, or_false, true_and, and_true, false_and, and_false, and_self, or_self, Nat.reduceLT, Nat.reduceEqDiff, Nat.reduceLeDiff, Nat.reduceAdd, Nat.reduceMul, Nat.reduceSub, zn_lit, zn_add, zn_mul, zn_sub, zn_addneg, zn_lt, zn_le, zn_eq, zn_clamp, zn_in, zn_long, hp_1, hp_21, upd_zu, updL_zu, updQ_zu, zu_eq, zu_ne, ho_23, ho_23_0, hf_23_0, hk_23_0, hw_23_0, ho_23_1, hf_23_1, ho_23_2, hf_23_2, hk_23_2, hw_23_2, ho_23_3, hf_23_3, hk_23_3, hw_23_3, ho_23_4, hf_23_4, ho_23_5, hf_23_5, ho_23_6, hf_23_6, ho_23_7, hf_23_7, hk_23_7, hw_23_7, ho_23_8, hf_23_8, hk_23_8, hw_23_8, ho_23_9, hf_23_9, ho_23_10, hf_23_10, ho_23_11, hf_23_11, hk_23_11, hw_23_11, ho_23_12, hf_23_12, hk_23_12, hw_23_12, ho_23_13, hf_23_13, ho_23_14, hf_23_14, ho_23_15, hf_23_15, ho_23_16, hf_23_16, hk_23_16, hw_23_16, ho_23_17, hf_23_17, ho_23_18, hf_23_18, ho_23_19, hf_23_19, hk_23_19, hw_23_19, ho_23_20, hf_23_20, ho_23_21, hf_23_21, hk_23_21, hw_23_21, ho_23_22, hf_23_22, hk_23_22, hw_23_22, ho_23_23, hf_23_23, hk_23_23, hw_23_23, ho_23_24, hf_23_24, hk_23_24, hw_23_24, ho_23_25, hf_23_25, ho_23_26, hf_23_26, ho_23_27, hf_23_27, hk_23_27, hw_23_27, ho_23_28, hf_23_28, ho_23_29, hf_23_29, ho_23_30, hf_23_30, hk_23_30, hw_23_30, ho_23_31, hf_23_31, hk_23_31, hw_23_31, ho_23_32, hf_23_32, ho_23_33, hf_23_33, ho_23_34, hf_23_34, hk_23_34, hw_23_34, ho_23_35, hf_23_35, hk_23_35, hw_23_35, ho_23_36, hf_23_36, hk_23_36, hw_23_36, ho_23_37, hf_23_37, ho_23_38, hf_23_38, ho_23_39, hf_23_39, hn_24, hi_24, hj_24, hg_24, hu_24, hn_25, hi_25, hj_25, hg_25, hu_25, hn_26, hi_26, hj_26, hg_26, hu_26, hn_27, hi_27, hg_27, hu_27, hn_28, hi_28, hg_28, hu_28, hn_29, hi_29, hj_29, hg_29, hu_29, hn_30, hi_30, hj_30, hg_30, hu_30, hn_31, hi_31, hj_31, hg_31, hu_31, hn_32, hi_32, hj_32, hg_32, hu_32, hn_33, hi_33, hj_33, hg_33, hu_33, hn_34, hi_34, hj_34, hg_34, hu_34, hn_35, hi_35, hj_35, hg_35, hu_35, hn_36, hi_36, hj_36, hg_36, hu_36, hn_37, hi_37, hg_37, hu_37, hn_38, hi_38, hj_38, hg_38, hu_38, hn_39, hi_39, hj_39, hg_39, hu_39, hn_40, hi_40, hj_40, hg_40, hu_40, hn_41, hi_41, hj_41, hg_41, hu_41, hn_42, hi_42, hg_42, hu_42, hn_43, hi_43, hg_43, hu_43, hn_44, hi_44, hj_44, hg_44, hu_44, hn_45, hi_45, hg_45, hu_45, k1, k2, rI_57, eI, b3', g2, c3, q, Bool.eq_false_iff.mpr q2, q3, decide_true, Bool.and_self, Bool.and_false, zo_t, zo_f]
        · have eo : oS L tp e.1.1 = none := by unfold oS; rw [if_neg q2, if_neg q3]
          rw [eo]
          exact ⟨A1, fun _ _ _ => rfl, hO, hexit e A1 o2 hE hA (fun _ => ⟨q2, q3⟩)⟩
    · rw [if_neg q]
      exact ⟨A1, fun _ _ _ => rfl, hO, hexit e A1 o2 hE hA (fun e1 => absurd e1 q)⟩
theorem R_sm (hR : RTK L tp N (A 25) (A 26) (B 27)) (ht2 : ∀ i, tp i < 128) (hWd : WRD B) (d dp : Nat) (P : EST → EST) (hP : PG N P) (hr : RR N L tp n s c I J B R Q A (d + 3) 206 [some (.ref 23), some (.int (zn dp))] P) : RR N L tp n s c I J B R Q A (d + 4) 205 [some (.ref 23), some (.int (zn dp)), none] (fun e => loF P (oS L tp) 1000 (P e)) := by
  intro e A1 hE hO hA
  obtain ⟨A2, b1, b2, b3⟩ := hr e A1 hE hO hA
  obtain ⟨p1, p2, p3⟩ := hP e hE
  obtain ⟨A3, c1, c2, c3⟩ := R_sml hR ht2 hWd d dp P hP hr 1000 (P e) A2 none (fun _ => by omega) p1 b2 (hA.trans b1)
  refine ⟨A3, b1.trans c1, c2, ?_⟩
  have g1 : mo0 (hRE n s c I J B R Q e A1) 23 10 = true := rfl
  simp (disch := first | omega | exact zb_1 | exact zb_0 | exact zb_n1 | exact zb_n0) only [x205_0, x205_1, x205_2, mq_dl_int, mq_dl_ref, mq_dl_null, mq_dl_none, mc_some, Option.toList_some, Option.toList_none, List.cons_append, List.nil_append, zb_1, zb_0, ↓reduceIte, if_true, if_false, not_true_eq_false, not_false_eq_true, Bool.false_eq_true, z_10, z_01, eq_self, Bool.and_self, true_or, or_true, false_or, or_false, true_and, and_true, false_and, and_false, and_self, or_self, Nat.reduceLT, Nat.reduceEqDiff, Nat.reduceLeDiff, Nat.reduceAdd, Nat.reduceMul, Nat.reduceSub, zn_lit, zn_add, zn_mul, zn_sub, zn_addneg, zn_lt, zn_le, zn_eq, zn_clamp, zn_in, zn_long, g1, b3, c3]
theorem R_tst (hR : RTK L tp N (A 25) (A 26) (B 27)) (ht2 : ∀ i, tp i < 128) (d dp : Nat) (P : EST → EST) (hP : PG N P) (hr : RR N L tp n s c I J B R Q A (d + 4) 205 [some (.ref 23), some (.int (zn dp)), none] P) : RR N L tp n s c I J B R Q A (d + 5) 204 [some (.ref 23), some (.int (zn dp)), none] (fun e => loF P (oT L tp) 1 (P e)) := by
  intro e0 A0 hE0 hO0 hA0
  have hN := hR.2.1
  obtain ⟨A1, b1, hO, b3⟩ := hr e0 A0 hE0 hO0 hA0
  obtain ⟨hE, -, -⟩ := hP e0 hE0
  have hA := hA0.trans b1
  have g0 : mo0 (hRE n s c I J B R Q e0 A0) 23 10 = true := rfl
  dsimp only
  generalize P e0 = e at b3 hO hE ⊢
  have hRA := AFR_R hA hR
  have e9 : hRE n s c I J B R Q e A1 = hp n s c (rI (zu I 1166 (zn e.2.1)) e.1) J A1 B R Q := rfl
  rw [e9] at b3
  have k0 := R_isS (n := n) (s := s) (c := c) (I := zu I 1166 (zn e.2.1)) (J := J) (R := R) (Q := Q) hRA ht2 (d + 4) 60 (by omega) e.1 hE.1 (fun _ => hE.2.1)
  have k1 := R_hs (n := n) (s := s) (c := c) (I := zu I 1166 (zn e.2.1)) (J := J) (R := R) (Q := Q) hRA ht2 (d + 3) 60 (by omega) e.1 hE.1 (fun _ => hE.2.1)
  have k2 := R_hs (n := n) (s := s) (c := c) (I := zu I 1166 (zn e.2.1)) (J := J) (R := R) (Q := Q) hRA ht2 (d + 3) 61 (by omega) e.1 hE.1 (fun _ => hE.2.1)
  unfold loF
  by_cases q : e.1.2 = 0
  · rw [if_pos q]
    by_cases q2 : sgq L tp e.1.1 60 = true
    · have hb : (decide (e.1.2 = 0) && sgq L tp e.1.1 60) = true := by simp [q, q2]
      rw [if_pos hb, hb] at k1
      rw [hb] at k0
      have eo : oT L tp e.1.1 = some 9 := by unfold oT; rw [if_pos q2]
      rw [eo]
      dsimp only
      unfold loF
      obtain ⟨a1, a2, a3⟩ := EN_adv hR hE q (by rw [sgq_3 q2]; omega)
      obtain ⟨A2, c1, c2, c3⟩ := hr _ A1 a1 hO hA
      obtain ⟨p1, p2, p3⟩ := hP _ a1
      have h9 := hE.2.2
      have h8 := p1.2.1
      obtain ⟨A3, d1, d2, d3⟩ := R_emit (n := n) (s := s) (c := c) (I := I) (J := J) (B := B) (R := R) (Q := Q) (d + 4) 9 0 (by omega) (by omega) (P (stx (adv e.1) e)) (by omega) c2
      refine ⟨A3, b1.trans (c1.trans d1), d2, ?_⟩
      have er : rop 9 = 7 ∧ rar 9 0 = 0 := by decide
      rw [er.1, er.2] at d3
      have c3' : mz (d + 4) 205 0 [some (.ref 23), some (.int (zn dp)), none] [] (hp n s c (rI (zu I 1166 (zn e.2.1)) (adv e.1)) J A1 B R Q) = some (some none, hRE n s c I J B R Q (P (stx (adv e.1) e)) A2) := c3
      have g2 : mo0 (hRE n s c I J B R Q (P (stx (adv e.1) e)) A2) 23 10 = true := rfl
      simp (disch := first | omega | exact zb_1 | exact zb_0 | exact zb_n1 | exact zb_n0) only [x204_0, x204_1, x204_2, x204_5, x204_6, x204_8, x204_11, x204_12, x204_13, x204_15, x204_18, x204_30, x204_31, x204_32, x204_35, x204_36, x204_37, x204_40, x204_42, x204_47, x204_48, x204_51, mq_dl_int, mq_dl_ref, mq_dl_null, mq_dl_none, mc_some, Option.toList_some, Option.toList_none, List.cons_append, List.nil_append, zb_1, zb_0, ↓reduceIte, if_true, if_false, not_true_eq_false, not_false_eq_true, Bool.false_eq_true, z_10, z_01, eq_self, Bool.and_self, true_or, or_true, false_or, or_false, true_and, and_true, false_and, and_false, and_self, or_self, Nat.reduceLT, Nat.reduceEqDiff, Nat.reduceLeDiff, Nat.reduceAdd, Nat.reduceMul, Nat.reduceSub, zn_lit, zn_add, zn_mul, zn_sub, zn_addneg, zn_lt, zn_le, zn_eq, zn_clamp, zn_in, zn_long, hp_1, hp_21, upd_zu, updL_zu, updQ_zu, zu_eq, zu_ne, ho_23, ho_23_0, hf_23_0, hk_23_0, hw_23_0, ho_23_1, hf_23_1, ho_23_2, hf_23_2, hk_23_2, hw_23_2, ho_23_3, hf_23_3, hk_23_3, hw_23_3, ho_23_4, hf_23_4, ho_23_5, hf_23_5, ho_23_6, hf_23_6, ho_23_7, hf_23_7, hk_23_7, hw_23_7, ho_23_8, hf_23_8, hk_23_8, hw_23_8, ho_23_9, hf_23_9, ho_23_10, hf_23_10, ho_23_11, hf_23_11, hk_23_11, hw_23_11, ho_23_12, hf_23_12, hk_23_12, hw_23_12, ho_23_13, hf_23_13, ho_23_14, hf_23_14, ho_23_15, hf_23_15, ho_23_16, hf_23_16, hk_23_16, hw_23_16, ho_23_17, hf_23_17, ho_23_18, hf_23_18, ho_23_19, hf_23_19, hk_23_19, hw_23_19, ho_23_20, hf_23_20, ho_23_21, hf_23_21, hk_23_21, hw_23_21, ho_23_22, hf_23_22, hk_23_22, hw_23_22, ho_23_23, hf_23_23, hk_23_23, hw_23_23, ho_23_24, hf_23_24, hk_23_24, hw_23_24, ho_23_25, hf_23_25, ho_23_26, hf_23_26, ho_23_27, hf_23_27, hk_23_27, hw_23_27, ho_23_28, hf_23_28, ho_23_29, hf_23_29, ho_23_30, hf_23_30, hk_23_30, hw_23_30, ho_23_31, hf_23_31, hk_23_31, hw_23_31, ho_23_32, hf_23_32, ho_23_33, hf_23_33, ho_23_34, hf_23_34, hk_23_34, hw_23_34, ho_23_35, hf_23_35, hk_23_35, hw_23_35, ho_23_36, hf_23_36, hk_23_36, hw_23_36, ho_23_37, hf_23_37, ho_23_38, hf_23_38, ho_23_39, hf_23_39, hn_24, hi_24, hj_24, hg_24, hu_24, hn_25, hi_25, hj_25, hg_25, hu_25, hn_26, hi_26, hj_26, hg_26, hu_26, hn_27, hi_27, hg_27, hu_27, hn_28, hi_28, hg_28, hu_28, hn_29, hi_29, hj_29, hg_29, hu_29, hn_30, hi_30, hj_30, hg_30, hu_30, hn_31, hi_31, hj_31, hg_31, hu_31, hn_32, hi_32, hj_32, hg_32, hu_32, hn_33, hi_33, hj_33, hg_33, hu_33, hn_34, hi_34, hj_34, hg_34, hu_34, hn_35, hi_35, hj_35, hg_35, hu_35, hn_36, hi_36, hj_36, hg_36, hu_36, hn_37, hi_37, hg_37, hu_37, hn_38, hi_38, hj_38, hg_38, hu_38, hn_39, hi_39, hj_39, hg_39, hu_39, hn_40, hi_40, hj_40, hg_40, hu_40, hn_41, hi_41, hj_41, hg_41, hu_41, hn_42, hi_42, hg_42, hu_42, hn_43, hi_43, hg_43, hu_43, hn_44, hi_44, hj_44, hg_44, hu_44, hn_45, hi_45, hg_45, hu_45, g0, b3, k0, k1, c3', g2, d3, zo_t]
    · have hb : (decide (e.1.2 = 0) && sgq L tp e.1.1 60) = false := by simp [q2]
      rw [if_neg (by rw [hb]; simp), hb] at k1
      rw [hb] at k0
      by_cases q3 : sgq L tp e.1.1 61 = true
      · have hb2 : (decide (e.1.2 = 0) && sgq L tp e.1.1 61) = true := by simp [q, q3]
        rw [if_pos hb2, hb2] at k2
        have eo : oT L tp e.1.1 = some 10 := by unfold oT; rw [if_neg q2, if_pos q3]
        rw [eo]
        dsimp only
        unfold loF
        obtain ⟨a1, a2, a3⟩ := EN_adv hR hE q (by rw [sgq_3 q3]; omega)
        obtain ⟨A2, c1, c2, c3⟩ := hr _ A1 a1 hO hA
        obtain ⟨p1, p2, p3⟩ := hP _ a1
        have h9 := hE.2.2
        have h8 := p1.2.1
        obtain ⟨A3, d1, d2, d3⟩ := R_emit (n := n) (s := s) (c := c) (I := I) (J := J) (B := B) (R := R) (Q := Q) (d + 4) 10 0 (by omega) (by omega) (P (stx (adv e.1) e)) (by omega) c2
        refine ⟨A3, b1.trans (c1.trans d1), d2, ?_⟩
        have er : rop 10 = 8 ∧ rar 10 0 = 0 := by decide
        rw [er.1, er.2] at d3
        have c3' : mz (d + 4) 205 0 [some (.ref 23), some (.int (zn dp)), none] [] (hp n s c (rI (zu I 1166 (zn e.2.1)) (adv e.1)) J A1 B R Q) = some (some none, hRE n s c I J B R Q (P (stx (adv e.1) e)) A2) := c3
        have g2 : mo0 (hRE n s c I J B R Q (P (stx (adv e.1) e)) A2) 23 10 = true := rfl
        simp (disch := first | omega | exact zb_1 | exact zb_0 | exact zb_n1 | exact zb_n0) only [x204_0, x204_1, x204_2, x204_5, x204_6, x204_8, x204_11, x204_12, x204_13, x204_15, x204_18, x204_21, x204_22, x204_24, x204_27, x204_30, x204_31, x204_32, x204_35, x204_36, x204_37, x204_45, x204_47, x204_48, x204_51, mq_dl_int, mq_dl_ref, mq_dl_null, mq_dl_none, mc_some, Option.toList_some, Option.toList_none, List.cons_append, List.nil_append, zb_1, zb_0, ↓reduceIte, if_true, if_false, not_true_eq_false, not_false_eq_true, Bool.false_eq_true, z_10, z_01, eq_self, Bool.and_self, true_or, or_true, false_or, or_false, true_and, and_true, false_and, and_false, and_self, or_self, Nat.reduceLT, Nat.reduceEqDiff, Nat.reduceLeDiff, Nat.reduceAdd, Nat.reduceMul, Nat.reduceSub, zn_lit, zn_add, zn_mul, zn_sub, zn_addneg, zn_lt, zn_le, zn_eq, zn_clamp, zn_in, zn_long, hp_1, hp_21, upd_zu, updL_zu, updQ_zu, zu_eq, zu_ne, ho_23, ho_23_0, hf_23_0, hk_23_0, hw_23_0, ho_23_1, hf_23_1, ho_23_2, hf_23_2, hk_23_2, hw_23_2, ho_23_3, hf_23_3, hk_23_3, hw_23_3, ho_23_4, hf_23_4, ho_23_5, hf_23_5, ho_23_6, hf_23_6, ho_23_7, hf_23_7, hk_23_7, hw_23_7, ho_23_8, hf_23_8, hk_23_8, hw_23_8, ho_23_9, hf_23_9, ho_23_10, hf_23_10, ho_23_11, hf_23_11, hk_23_11, hw_23_11, ho_23_12, hf_23_12, hk_23_12, hw_23_12, ho_23_13, hf_23_13, ho_23_14, hf_23_14, ho_23_15, hf_23_15, ho_23_16, hf_23_16, hk_23_16, hw_23_16, ho_23_17, hf_23_17, ho_23_18, hf_23_18, ho_23_19, hf_23_19, hk_23_19, hw_23_19, ho_23_20, hf_23_20, ho_23_21, hf_23_21, hk_23_21, hw_23_21, ho_23_22, hf_23_22, hk_23_22, hw_23_22, ho_23_23, hf_23_23, hk_23_23, hw_23_23, ho_23_24, hf_23_24, hk_23_24, hw_23_24, ho_23_25, hf_23_25, ho_23_26, hf_23_26, ho_23_27, hf_23_27, hk_23_27, hw_23_27, ho_23_28, hf_23_28, ho_23_29, hf_23_29, ho_23_30, hf_23_30, hk_23_30, hw_23_30, ho_23_31, hf_23_31, hk_23_31, hw_23_31, ho_23_32, hf_23_32, ho_23_33, hf_23_33, ho_23_34, hf_23_34, hk_23_34, hw_23_34, ho_23_35, hf_23_35, hk_23_35, hw_23_35, ho_23_36, hf_23_36, hk_23_36, hw_23_36, ho_23_37, hf_23_37, ho_23_38, hf_23_38, ho_23_39, hf_23_39, hn_24, hi_24, hj_24, hg_24, hu_24, hn_25, hi_25, hj_25, hg_25, hu_25, hn_26, hi_26, hj_26, hg_26, hu_26, hn_27, hi_27, hg_27, hu_27, hn_28, hi_28, hg_28, hu_28, hn_29, hi_29, hj_29, hg_29, hu_29, hn_30, hi_30, hj_30, hg_30, hu_30, hn_31, hi_31, hj_31, hg_31, hu_31, hn_32, hi_32, hj_32, hg_32, hu_32, hn_33, hi_33, hj_33, hg_33, hu_33, hn_34, hi_34, hj_34, hg_34, hu_34, hn_35, hi_35, hj_35, hg_35, hu_35, hn_36, hi_36, hj_36, hg_36, hu_36, hn_37, hi_37, hg_37, hu_37, hn_38, hi_38, hj_38, hg_38, hu_38, hn_39, hi_39, hj_39, hg_39, hu_39, hn_40, hi_40, hj_40, hg_40, hu_40, hn_41, hi_41, hj_41, hg_41, hu_41, hn_42, hi_42, hg_42, hu_42, hn_43, hi_43, hg_43, hu_43, hn_44, hi_44, hj_44, hg_44, hu_44, hn_45, hi_45, hg_45, hu_45, g0, b3, k0, k1, k2, c3', g2, d3, zo_t, zo_f]
      · have hb2 : (decide (e.1.2 = 0) && sgq L tp e.1.1 61) = false := by simp [q3]
        rw [if_neg (by rw [hb2]; simp), hb2] at k2
        have eo : oT L tp e.1.1 = none := by unfold oT; rw [if_neg q2, if_neg q3]
        rw [eo]
        refine ⟨A1, b1, hO, ?_⟩
        rw [e9]
        simp (disch := first | omega | exact zb_1 | exact zb_0 | exact zb_n1 | exact zb_n0) only [x204_0, x204_1, x204_2, x204_5, x204_6, x204_8, x204_11, x204_12, x204_13, x204_15, x204_18, x204_21, x204_22, x204_24, x204_27, x204_51, mq_dl_int, mq_dl_ref, mq_dl_null, mq_dl_none, mc_some, Option.toList_some, Option.toList_none, List.cons_append, List.nil_append, zb_1, zb_0, ↓reduceIte, if_true, if_false, not_true_eq_false, not_false_eq_true, Bool.false_eq_true, z_10, z_01, eq_self, Bool.and_self, true_or, or_true, false_or, or_false, true_and, and_true, false_and, and_false, and_self, or_self, Nat.reduceLT, Nat.reduceEqDiff, Nat.reduceLeDiff, Nat.reduceAdd, Nat.reduceMul, Nat.reduceSub, zn_lit, zn_add, zn_mul, zn_sub, zn_addneg, zn_lt, zn_le, zn_eq, zn_clamp, zn_in, zn_long, hp_1, hp_21, upd_zu, updL_zu, updQ_zu, zu_eq, zu_ne, ho_23, ho_23_0, hf_23_0, hk_23_0, hw_23_0, ho_23_1, hf_23_1, ho_23_2, hf_23_2, hk_23_2, hw_23_2, ho_23_3, hf_23_3, hk_23_3, hw_23_3, ho_23_4, hf_23_4, ho_23_5, hf_23_5, ho_23_6, hf_23_6, ho_23_7, hf_23_7, hk_23_7, hw_23_7, ho_23_8, hf_23_8, hk_23_8, hw_23_8, ho_23_9, hf_23_9, ho_23_10, hf_23_10, ho_23_11, hf_23_11, hk_23_11, hw_23_11, ho_23_12, hf_23_12, hk_23_12, hw_23_12, ho_23_13, hf_23_13, ho_23_14, hf_23_14, ho_23_15, hf_23_15, ho_23_16, hf_23_16, hk_23_16, hw_23_16, ho_23_17, hf_23_17, ho_23_18, hf_23_18, ho_23_19, hf_23_19, hk_23_19, hw_23_19, ho_23_20, hf_23_20, ho_23_21, hf_23_21, hk_23_21, hw_23_21, ho_23_22, hf_23_22, hk_23_22, hw_23_22, ho_23_23, hf_23_23, hk_23_23, hw_23_23, ho_23_24, hf_23_24, hk_23_24, hw_23_24, ho_23_25, hf_23_25, ho_23_26, hf_23_26, ho_23_27, hf_23_27, hk_23_27, hw_23_27, ho_23_28, hf_23_28, ho_23_29, hf_23_29, ho_23_30, hf_23_30, hk_23_30, hw_23_30, ho_23_31, hf_23_31, hk_23_31, hw_23_31, ho_23_32, hf_23_32, ho_23_33, hf_23_33, ho_23_34, hf_23_34, hk_23_34, hw_23_34, ho_23_35, hf_23_35, hk_23_35, hw_23_35, ho_23_36, hf_23_36, hk_23_36, hw_23_36, ho_23_37, hf_23_37, ho_23_38, hf_23_38, ho_23_39, hf_23_39, hn_24, hi_24, hj_24, hg_24, hu_24, hn_25, hi_25, hj_25, hg_25, hu_25, hn_26, hi_26, hj_26, hg_26, hu_26, hn_27, hi_27, hg_27, hu_27, hn_28, hi_28, hg_28, hu_28, hn_29, hi_29, hj_29, hg_29, hu_29, hn_30, hi_30, hj_30, hg_30, hu_30, hn_31, hi_31, hj_31, hg_31, hu_31, hn_32, hi_32, hj_32, hg_32, hu_32, hn_33, hi_33, hj_33, hg_33, hu_33, hn_34, hi_34, hj_34, hg_34, hu_34, hn_35, hi_35, hj_35, hg_35, hu_35, hn_36, hi_36, hj_36, hg_36, hu_36, hn_37, hi_37, hg_37, hu_37, hn_38, hi_38, hj_38, hg_38, hu_38, hn_39, hi_39, hj_39, hg_39, hu_39, hn_40, hi_40, hj_40, hg_40, hu_40, hn_41, hi_41, hj_41, hg_41, hu_41, hn_42, hi_42, hg_42, hu_42, hn_43, hi_43, hg_43, hu_43, hn_44, hi_44, hj_44, hg_44, hu_44, hn_45, hi_45, hg_45, hu_45, g0, b3, k0, k1, k2, zo_f]
  · rw [if_neg q]
    have hb : (decide (e.1.2 = 0) && sgq L tp e.1.1 60) = false := by simp [q]
    have hb2 : (decide (e.1.2 = 0) && sgq L tp e.1.1 61) = false := by simp [q]
    rw [if_neg (by rw [hb]; simp), hb] at k1
    rw [if_neg (by rw [hb2]; simp), hb2] at k2
    rw [hb] at k0
    refine ⟨A1, b1, hO, ?_⟩
    rw [e9]
    simp (disch := first | omega | exact zb_1 | exact zb_0 | exact zb_n1 | exact zb_n0) only [x204_0, x204_1, x204_2, x204_5, x204_6, x204_8, x204_11, x204_12, x204_13, x204_15, x204_18, x204_21, x204_22, x204_24, x204_27, x204_51, mq_dl_int, mq_dl_ref, mq_dl_null, mq_dl_none, mc_some, Option.toList_some, Option.toList_none, List.cons_append, List.nil_append, zb_1, zb_0, ↓reduceIte, if_true, if_false, not_true_eq_false, not_false_eq_true, Bool.false_eq_true, z_10, z_01, eq_self, Bool.and_self, true_or, or_true, false_or, or_false, true_and, and_true, false_and, and_false, and_self, or_self, Nat.reduceLT, Nat.reduceEqDiff, Nat.reduceLeDiff, Nat.reduceAdd, Nat.reduceMul, Nat.reduceSub, zn_lit, zn_add, zn_mul, zn_sub, zn_addneg, zn_lt, zn_le, zn_eq, zn_clamp, zn_in, zn_long, hp_1, hp_21, upd_zu, updL_zu, updQ_zu, zu_eq, zu_ne, ho_23, ho_23_0, hf_23_0, hk_23_0, hw_23_0, ho_23_1, hf_23_1, ho_23_2, hf_23_2, hk_23_2, hw_23_2, ho_23_3, hf_23_3, hk_23_3, hw_23_3, ho_23_4, hf_23_4, ho_23_5, hf_23_5, ho_23_6, hf_23_6, ho_23_7, hf_23_7, hk_23_7, hw_23_7, ho_23_8, hf_23_8, hk_23_8, hw_23_8, ho_23_9, hf_23_9, ho_23_10, hf_23_10, ho_23_11, hf_23_11, hk_23_11, hw_23_11, ho_23_12, hf_23_12, hk_23_12, hw_23_12, ho_23_13, hf_23_13, ho_23_14, hf_23_14, ho_23_15, hf_23_15, ho_23_16, hf_23_16, hk_23_16, hw_23_16, ho_23_17, hf_23_17, ho_23_18, hf_23_18, ho_23_19, hf_23_19, hk_23_19, hw_23_19, ho_23_20, hf_23_20, ho_23_21, hf_23_21, hk_23_21, hw_23_21, ho_23_22, hf_23_22, hk_23_22, hw_23_22, ho_23_23, hf_23_23, hk_23_23, hw_23_23, ho_23_24, hf_23_24, hk_23_24, hw_23_24, ho_23_25, hf_23_25, ho_23_26, hf_23_26, ho_23_27, hf_23_27, hk_23_27, hw_23_27, ho_23_28, hf_23_28, ho_23_29, hf_23_29, ho_23_30, hf_23_30, hk_23_30, hw_23_30, ho_23_31, hf_23_31, hk_23_31, hw_23_31, ho_23_32, hf_23_32, ho_23_33, hf_23_33, ho_23_34, hf_23_34, hk_23_34, hw_23_34, ho_23_35, hf_23_35, hk_23_35, hw_23_35, ho_23_36, hf_23_36, hk_23_36, hw_23_36, ho_23_37, hf_23_37, ho_23_38, hf_23_38, ho_23_39, hf_23_39, hn_24, hi_24, hj_24, hg_24, hu_24, hn_25, hi_25, hj_25, hg_25, hu_25, hn_26, hi_26, hj_26, hg_26, hu_26, hn_27, hi_27, hg_27, hu_27, hn_28, hi_28, hg_28, hu_28, hn_29, hi_29, hj_29, hg_29, hu_29, hn_30, hi_30, hj_30, hg_30, hu_30, hn_31, hi_31, hj_31, hg_31, hu_31, hn_32, hi_32, hj_32, hg_32, hu_32, hn_33, hi_33, hj_33, hg_33, hu_33, hn_34, hi_34, hj_34, hg_34, hu_34, hn_35, hi_35, hj_35, hg_35, hu_35, hn_36, hi_36, hj_36, hg_36, hu_36, hn_37, hi_37, hg_37, hu_37, hn_38, hi_38, hj_38, hg_38, hu_38, hn_39, hi_39, hj_39, hg_39, hu_39, hn_40, hi_40, hj_40, hg_40, hu_40, hn_41, hi_41, hj_41, hg_41, hu_41, hn_42, hi_42, hg_42, hu_42, hn_43, hi_43, hg_43, hu_43, hn_44, hi_44, hj_44, hg_44, hu_44, hn_45, hi_45, hg_45, hu_45, g0, b3, k0, k1, k2, zo_f]
theorem R_exl (hR : RTK L tp N (A 25) (A 26) (B 27)) (ht2 : ∀ i, tp i < 128) (hWd : WRD B) (d dp : Nat) (P : EST → EST) (hP : PG N P) (hr : RR N L tp n s c I J B R Q A (d + 5) 204 [some (.ref 23), some (.int (zn dp)), none] P) : ∀ (f : Nat) (e : EST) (A1 : Nat → Nat → Int32) (o2 : Option Value), (e.1.2 = 0 → 1000 ≤ e.1.1 + f) → EN N e → OPR e (A1 31) (A1 32) → AFR A A1 → ∃ A', AFR A1 A' ∧ OPR (loF P (oE L tp) f e) (A' 31) (A' 32) ∧ mz (d + 6) 203 5 [some (.ref 23), some (.int (zn dp)), o2] [] (hRE n s c I J B R Q e A1) = some (some none, hRE n s c I J B R Q (loF P (oE L tp) f e) A') := by
  have hN := hR.2.1
  have hexit : ∀ (e : EST) (A1 : Nat → Nat → Int32) (o2 : Option Value), EN N e → AFR A A1 → (e.1.2 = 0 → ¬ wdq L tp e.1.1 14 = true ∧ ¬ wdq L tp e.1.1 15 = true) → mz (d + 6) 203 5 [some (.ref 23), some (.int (zn dp)), o2] [] (hRE n s c I J B R Q e A1) = some (some none, hRE n s c I J B R Q e A1) := by
    intro e A1 o2 hE hA hq
    have hRA := AFR_R hA hR
    have k1 := R_isW (n := n) (s := s) (c := c) (I := zu I 1166 (zn e.2.1)) (J := J) (R := R) (Q := Q) hRA hWd (d + 5) 8 (by omega) e.1 hE.1 (fun _ => hE.2.1)
    have k2 := R_isW (n := n) (s := s) (c := c) (I := zu I 1166 (zn e.2.1)) (J := J) (R := R) (Q := Q) hRA hWd (d + 5) 9 (by omega) e.1 hE.1 (fun _ => hE.2.1)
    rw [show wmp 8 = 14 from rfl] at k1; rw [show wmp 9 = 15 from rfl] at k2
    unfold hRE
    rw [x203_5]
    by_cases q : e.1.2 = 0
    · obtain ⟨q1, q2⟩ := hq q
      simp (disch := first | omega | exact zb_1 | exact zb_0 | exact zb_n1 | exact zb_n0) only [x203_6, x203_8, x203_11, x203_14, x203_15, x203_17, x203_20, x203_64, mq_dl_int, mq_dl_ref, mq_dl_null, mq_dl_none, mc_some, Option.toList_some, Option.toList_none, List.cons_append, List.nil_append, zb_1, zb_0, ↓reduceIte, if_true, if_false, not_true_eq_false, not_false_eq_true, Bool.false_eq_true, z_10, z_01, eq_self, Bool.and_self, true_or, or_true, false_or, or_false, true_and, and_true, false_and, and_false, and_self, or_self, Nat.reduceLT, Nat.reduceEqDiff, Nat.reduceLeDiff, Nat.reduceAdd, Nat.reduceMul, Nat.reduceSub, zn_lit, zn_add, zn_mul, zn_sub, zn_addneg, zn_lt, zn_le, zn_eq, zn_clamp, zn_in, zn_long, hp_1, hp_21, upd_zu, updL_zu, updQ_zu, zu_eq, zu_ne, ho_23, ho_23_0, hf_23_0, hk_23_0, hw_23_0, ho_23_1, hf_23_1, ho_23_2, hf_23_2, hk_23_2, hw_23_2, ho_23_3, hf_23_3, hk_23_3, hw_23_3, ho_23_4, hf_23_4, ho_23_5, hf_23_5, ho_23_6, hf_23_6, ho_23_7, hf_23_7, hk_23_7, hw_23_7, ho_23_8, hf_23_8, hk_23_8, hw_23_8, ho_23_9, hf_23_9, ho_23_10, hf_23_10, ho_23_11, hf_23_11, hk_23_11, hw_23_11, ho_23_12, hf_23_12, hk_23_12, hw_23_12, ho_23_13, hf_23_13, ho_23_14, hf_23_14, ho_23_15, hf_23_15, ho_23_16, hf_23_16, hk_23_16, hw_23_16, ho_23_17, hf_23_17, ho_23_18, hf_23_18, ho_23_19, hf_23_19, hk_23_19, hw_23_19, ho_23_20, hf_23_20, ho_23_21, hf_23_21, hk_23_21, hw_23_21, ho_23_22, hf_23_22, hk_23_22, hw_23_22, ho_23_23, hf_23_23, hk_23_23, hw_23_23, ho_23_24, hf_23_24, hk_23_24, hw_23_24, ho_23_25, hf_23_25, ho_23_26, hf_23_26, ho_23_27, hf_23_27, hk_23_27, hw_23_27, ho_23_28, hf_23_28, ho_23_29, hf_23_29, ho_23_30, hf_23_30, hk_23_30, hw_23_30, ho_23_31, hf_23_31, hk_23_31, hw_23_31, ho_23_32, hf_23_32, ho_23_33, hf_23_33, ho_23_34, hf_23_34, hk_23_34, hw_23_34, ho_23_35, hf_23_35, hk_23_35, hw_23_35, ho_23_36, hf_23_36, hk_23_36, hw_23_36, ho_23_37, hf_23_37, ho_23_38, hf_23_38, ho_23_39, hf_23_39, hn_24, hi_24, hj_24, hg_24, hu_24, hn_25, hi_25, hj_25, hg_25, hu_25, hn_26, hi_26, hj_26, hg_26, hu_26, hn_27, hi_27, hg_27, hu_27, hn_28, hi_28, hg_28, hu_28, hn_29, hi_29, hj_29, hg_29, hu_29, hn_30, hi_30, hj_30, hg_30, hu_30, hn_31, hi_31, hj_31, hg_31, hu_31, hn_32, hi_32, hj_32, hg_32, hu_32, hn_33, hi_33, hj_33, hg_33, hu_33, hn_34, hi_34, hj_34, hg_34, hu_34, hn_35, hi_35, hj_35, hg_35, hu_35, hn_36, hi_36, hj_36, hg_36, hu_36, hn_37, hi_37, hg_37, hu_37, hn_38, hi_38, hj_38, hg_38, hu_38, hn_39, hi_39, hj_39, hg_39, hu_39, hn_40, hi_40, hj_40, hg_40, hu_40, hn_41, hi_41, hj_41, hg_41, hu_41, hn_42, hi_42, hg_42, hu_42, hn_43, hi_43, hg_43, hu_43, hn_44, hi_44, hj_44, hg_44, hu_44, hn_45, hi_45, hg_45, hu_45, k1, k2, q, Bool.eq_false_iff.mpr q1, Bool.eq_false_iff.mpr q2, decide_true, Bool.and_false, zo_f]
    · simp (disch := first | omega | exact zb_1 | exact zb_0 | exact zb_n1 | exact zb_n0) only [x203_6, x203_8, x203_11, x203_14, x203_15, x203_17, x203_20, x203_64, mq_dl_int, mq_dl_ref, mq_dl_null, mq_dl_none, mc_some, Option.toList_some, Option.toList_none, List.cons_append, List.nil_append, zb_1, zb_0, ↓reduceIte, if_true, if_false, not_true_eq_false, not_false_eq_true, Bool.false_eq_true, z_10, z_01, eq_self, Bool.and_self, true_or, or_true, false_or, or_false, true_and, and_true, false_and, and_false, and_self, or_self, Nat.reduceLT, Nat.reduceEqDiff, Nat.reduceLeDiff, Nat.reduceAdd, Nat.reduceMul, Nat.reduceSub, zn_lit, zn_add, zn_mul, zn_sub, zn_addneg, zn_lt, zn_le, zn_eq, zn_clamp, zn_in, zn_long, hp_1, hp_21, upd_zu, updL_zu, updQ_zu, zu_eq, zu_ne, ho_23, ho_23_0, hf_23_0, hk_23_0, hw_23_0, ho_23_1, hf_23_1, ho_23_2, hf_23_2, hk_23_2, hw_23_2, ho_23_3, hf_23_3, hk_23_3, hw_23_3, ho_23_4, hf_23_4, ho_23_5, hf_23_5, ho_23_6, hf_23_6, ho_23_7, hf_23_7, hk_23_7, hw_23_7, ho_23_8, hf_23_8, hk_23_8, hw_23_8, ho_23_9, hf_23_9, ho_23_10, hf_23_10, ho_23_11, hf_23_11, hk_23_11, hw_23_11, ho_23_12, hf_23_12, hk_23_12, hw_23_12, ho_23_13, hf_23_13, ho_23_14, hf_23_14, ho_23_15, hf_23_15, ho_23_16, hf_23_16, hk_23_16, hw_23_16, ho_23_17, hf_23_17, ho_23_18, hf_23_18, ho_23_19, hf_23_19, hk_23_19, hw_23_19, ho_23_20, hf_23_20, ho_23_21, hf_23_21, hk_23_21, hw_23_21, ho_23_22, hf_23_22, hk_23_22, hw_23_22, ho_23_23, hf_23_23, hk_23_23, hw_23_23, ho_23_24, hf_23_24, hk_23_24, hw_23_24, ho_23_25, hf_23_25, ho_23_26, hf_23_26, ho_23_27, hf_23_27, hk_23_27, hw_23_27, ho_23_28, hf_23_28, ho_23_29, hf_23_29, ho_23_30, hf_23_30, hk_23_30, hw_23_30, ho_23_31, hf_23_31, hk_23_31, hw_23_31, ho_23_32, hf_23_32, ho_23_33, hf_23_33, ho_23_34, hf_23_34, hk_23_34, hw_23_34, ho_23_35, hf_23_35, hk_23_35, hw_23_35, ho_23_36, hf_23_36, hk_23_36, hw_23_36, ho_23_37, hf_23_37, ho_23_38, hf_23_38, ho_23_39, hf_23_39, hn_24, hi_24, hj_24, hg_24, hu_24, hn_25, hi_25, hj_25, hg_25, hu_25, hn_26, hi_26, hj_26, hg_26, hu_26, hn_27, hi_27, hg_27, hu_27, hn_28, hi_28, hg_28, hu_28, hn_29, hi_29, hj_29, hg_29, hu_29, hn_30, hi_30, hj_30, hg_30, hu_30, hn_31, hi_31, hj_31, hg_31, hu_31, hn_32, hi_32, hj_32, hg_32, hu_32, hn_33, hi_33, hj_33, hg_33, hu_33, hn_34, hi_34, hj_34, hg_34, hu_34, hn_35, hi_35, hj_35, hg_35, hu_35, hn_36, hi_36, hj_36, hg_36, hu_36, hn_37, hi_37, hg_37, hu_37, hn_38, hi_38, hj_38, hg_38, hu_38, hn_39, hi_39, hj_39, hg_39, hu_39, hn_40, hi_40, hj_40, hg_40, hu_40, hn_41, hi_41, hj_41, hg_41, hu_41, hn_42, hi_42, hg_42, hu_42, hn_43, hi_43, hg_43, hu_43, hn_44, hi_44, hj_44, hg_44, hu_44, hn_45, hi_45, hg_45, hu_45, k1, k2, q, decide_false, Bool.false_and, zo_f]
  intro f
  induction f with
  | zero =>
    intro e A1 o2 hf hE hO hA
    refine ⟨A1, fun _ _ _ => rfl, hO, hexit e A1 o2 hE hA (fun q => ?_)⟩
    have h4 := end_q hR hE.2.1 (by have := hf q; omega)
    exact ⟨fun e1 => by have := wdq_1 e1; omega, fun e1 => by have := wdq_1 e1; omega⟩
  | succ f ih =>
    intro e A1 o2 hf hE hO hA
    have hRA := AFR_R hA hR
    unfold loF
    by_cases q : e.1.2 = 0
    · rw [if_pos q]
      have k1 := R_isW (n := n) (s := s) (c := c) (I := zu I 1166 (zn e.2.1)) (J := J) (R := R) (Q := Q) hRA hWd (d + 5) 8 (by omega) e.1 hE.1 (fun _ => hE.2.1)
      have k2 := R_isW (n := n) (s := s) (c := c) (I := zu I 1166 (zn e.2.1)) (J := J) (R := R) (Q := Q) hRA hWd (d + 5) 9 (by omega) e.1 hE.1 (fun _ => hE.2.1)
      rw [show wmp 8 = 14 from rfl] at k1; rw [show wmp 9 = 15 from rfl] at k2
      by_cases q2 : wdq L tp e.1.1 14 = true
      · have eo : oE L tp e.1.1 = some 7 := by unfold oE; rw [if_pos q2]
        rw [eo]
        dsimp only
        obtain ⟨a1, a2, a3⟩ := EN_adv hR hE q (by rw [wdq_1 q2]; omega)
        obtain ⟨A2, b1, b2, b3⟩ := hr _ A1 a1 hO hA
        obtain ⟨p1, p2, p3⟩ := hP _ a1
        have h9 := hE.2.2
        have h8 := p1.2.1
        obtain ⟨A3, c1, c2, c3⟩ := R_emit (n := n) (s := s) (c := c) (I := I) (J := J) (B := B) (R := R) (Q := Q) (d + 5) 7 0 (by omega) (by omega) (P (stx (adv e.1) e)) (by omega) b2
        obtain ⟨m1, m2, m3⟩ := EN_emi hN p1 (by omega) (zn 7) (zn 0)
        obtain ⟨A4, d1, d2, d3⟩ := ih _ A3 (some (.int (zo true))) (fun _ => by rw [m2]; have := hf q; omega) m1 c2 (hA.trans (b1.trans c1))
        refine ⟨A4, b1.trans (c1.trans d1), d2, ?_⟩
        rw [← d3]
        have er : rop 7 = 9 ∧ rar 7 0 = 0 := by decide
        rw [er.1, er.2] at c3
        have eI := rI_adv (zu I 1166 (zn e.2.1)) e.1 q
        have b3' : mz (d + 5) 204 0 [some (.ref 23), some (.int (zn dp)), none] [] (hp n s c (rI (zu I 1166 (zn e.2.1)) (adv e.1)) J A1 B R Q) = some (some none, hRE n s c I J B R Q (P (stx (adv e.1) e)) A2) := b3
        have g2 : mo0 (hRE n s c I J B R Q (P (stx (adv e.1) e)) A2) 23 10 = true := rfl
        have e9 : hRE n s c I J B R Q e A1 = hp n s c (rI (zu I 1166 (zn e.2.1)) e.1) J A1 B R Q := rfl
        rw [e9, x203_5]
        simp (disch := first | omega | exact zb_1 | exact zb_0 | exact zb_n1 | exact zb_n0) only [x203_6, x203_8, x203_11, x203_23, x203_24, x203_26, x203_29, x203_30, x203_31, x203_32, x203_35, x203_36, x203_37, x203_40, x203_41, x203_42, x203_45, x203_46, x203_47, x203_50, x203_52, x203_57, x203_58, x203_61, mq_dl_int, mq_dl_ref, mq_dl_null, mq_dl_none, mc_some, Option.toList_some, Option.toList_none, List.cons_append, List.nil_append, zb_1, zb_0, ↓reduceIte, if_true, if_false, not_true_eq_false, not_false_eq_true, Bool.false_eq_true, z_10, z_01, eq_self, Bool.and_self, true_or, or_true, false_or, or_false, true_and, and_true, false_and, and_false, and_self, or_self, Nat.reduceLT, Nat.reduceEqDiff, Nat.reduceLeDiff, Nat.reduceAdd, Nat.reduceMul, Nat.reduceSub, zn_lit, zn_add, zn_mul, zn_sub, zn_addneg, zn_lt, zn_le, zn_eq, zn_clamp, zn_in, zn_long, hp_1, hp_21, upd_zu, updL_zu, updQ_zu, zu_eq, zu_ne, ho_23, ho_23_0, hf_23_0, hk_23_0, hw_23_0, ho_23_1, hf_23_1, ho_23_2, hf_23_2, hk_23_2, hw_23_2, ho_23_3, hf_23_3, hk_23_3, hw_23_3, ho_23_4, hf_23_4, ho_23_5, hf_23_5, ho_23_6, hf_23_6, ho_23_7, hf_23_7, hk_23_7, hw_23_7, ho_23_8, hf_23_8, hk_23_8, hw_23_8, ho_23_9, hf_23_9, ho_23_10, hf_23_10, ho_23_11, hf_23_11, hk_23_11, hw_23_11, ho_23_12, hf_23_12, hk_23_12, hw_23_12, ho_23_13, hf_23_13, ho_23_14, hf_23_14, ho_23_15, hf_23_15, ho_23_16, hf_23_16, hk_23_16, hw_23_16, ho_23_17, hf_23_17, ho_23_18, hf_23_18, ho_23_19, hf_23_19, hk_23_19, hw_23_19, ho_23_20, hf_23_20, ho_23_21, hf_23_21, hk_23_21, hw_23_21, ho_23_22, hf_23_22, hk_23_22, hw_23_22, ho_23_23, hf_23_23, hk_23_23, hw_23_23, ho_23_24, hf_23_24, hk_23_24, hw_23_24, ho_23_25, hf_23_25, ho_23_26, hf_23_26, ho_23_27, hf_23_27, hk_23_27, hw_23_27, ho_23_28, hf_23_28, ho_23_29, hf_23_29, ho_23_30, hf_23_30, hk_23_30, hw_23_30, ho_23_31, hf_23_31, hk_23_31, hw_23_31, ho_23_32, hf_23_32, ho_23_33, hf_23_33, ho_23_34, hf_23_34, hk_23_34, hw_23_34, ho_23_35, hf_23_35, hk_23_35, hw_23_35, ho_23_36, hf_23_36, hk_23_36, hw_23_36, ho_23_37, hf_23_37, ho_23_38, hf_23_38, ho_23_39, hf_23_39, hn_24, hi_24, hj_24, hg_24, hu_24, hn_25, hi_25, hj_25, hg_25, hu_25, hn_26, hi_26, hj_26, hg_26, hu_26, hn_27, hi_27, hg_27, hu_27, hn_28, hi_28, hg_28, hu_28, hn_29, hi_29, hj_29, hg_29, hu_29, hn_30, hi_30, hj_30, hg_30, hu_30, hn_31, hi_31, hj_31, hg_31, hu_31, hn_32, hi_32, hj_32, hg_32, hu_32, hn_33, hi_33, hj_33, hg_33, hu_33, hn_34, hi_34, hj_34, hg_34, hu_34, hn_35, hi_35, hj_35, hg_35, hu_35, hn_36, hi_36, hj_36, hg_36, hu_36, hn_37, hi_37, hg_37, hu_37, hn_38, hi_38, hj_38, hg_38, hu_38, hn_39, hi_39, hj_39, hg_39, hu_39, hn_40, hi_40, hj_40, hg_40, hu_40, hn_41, hi_41, hj_41, hg_41, hu_41, hn_42, hi_42, hg_42, hu_42, hn_43, hi_43, hg_43, hu_43, hn_44, hi_44, hj_44, hg_44, hu_44, hn_45, hi_45, hg_45, hu_45, k1, k2, rI_57, eI, b3', g2, c3, q, q2, decide_true, Bool.and_self, zo_t]
      · by_cases q3 : wdq L tp e.1.1 15 = true
        · have eo : oE L tp e.1.1 = some 8 := by unfold oE; rw [if_neg q2, if_pos q3]
          rw [eo]
          dsimp only
          obtain ⟨a1, a2, a3⟩ := EN_adv hR hE q (by rw [wdq_1 q3]; omega)
          obtain ⟨A2, b1, b2, b3⟩ := hr _ A1 a1 hO hA
          obtain ⟨p1, p2, p3⟩ := hP _ a1
          have h9 := hE.2.2
          have h8 := p1.2.1
          obtain ⟨A3, c1, c2, c3⟩ := R_emit (n := n) (s := s) (c := c) (I := I) (J := J) (B := B) (R := R) (Q := Q) (d + 5) 8 0 (by omega) (by omega) (P (stx (adv e.1) e)) (by omega) b2
          obtain ⟨m1, m2, m3⟩ := EN_emi hN p1 (by omega) (zn 8) (zn 0)
          obtain ⟨A4, d1, d2, d3⟩ := ih _ A3 (some (.int (zo false))) (fun _ => by rw [m2]; have := hf q; omega) m1 c2 (hA.trans (b1.trans c1))
          refine ⟨A4, b1.trans (c1.trans d1), d2, ?_⟩
          rw [← d3]
          have er : rop 8 = 10 ∧ rar 8 0 = 0 := by decide
          rw [er.1, er.2] at c3
          have eI := rI_adv (zu I 1166 (zn e.2.1)) e.1 q
          have b3' : mz (d + 5) 204 0 [some (.ref 23), some (.int (zn dp)), none] [] (hp n s c (rI (zu I 1166 (zn e.2.1)) (adv e.1)) J A1 B R Q) = some (some none, hRE n s c I J B R Q (P (stx (adv e.1) e)) A2) := b3
          have g2 : mo0 (hRE n s c I J B R Q (P (stx (adv e.1) e)) A2) 23 10 = true := rfl
          have e9 : hRE n s c I J B R Q e A1 = hp n s c (rI (zu I 1166 (zn e.2.1)) e.1) J A1 B R Q := rfl
          rw [e9, x203_5]
          simp (disch := first | omega | exact zb_1 | exact zb_0 | exact zb_n1 | exact zb_n0) only [x203_6, x203_8, x203_11, x203_14, x203_15, x203_17, x203_20, x203_23, x203_24, x203_26, x203_29, x203_30, x203_31, x203_32, x203_35, x203_36, x203_37, x203_40, x203_41, x203_42, x203_45, x203_46, x203_47, x203_55, x203_57, x203_58, x203_61, mq_dl_int, mq_dl_ref, mq_dl_null, mq_dl_none, mc_some, Option.toList_some, Option.toList_none, List.cons_append, List.nil_append, zb_1, zb_0, ↓reduceIte, if_true, if_false, not_true_eq_false, not_false_eq_true, Bool.false_eq_true, z_10, z_01, eq_self, Bool.and_self, true_or, or_true, false_or, or_false, true_and, and_true, false_and, and_false, and_self, or_self, Nat.reduceLT, Nat.reduceEqDiff, Nat.reduceLeDiff, Nat.reduceAdd, Nat.reduceMul, Nat.reduceSub, zn_lit, zn_add, zn_mul, zn_sub, zn_addneg, zn_lt, zn_le, zn_eq, zn_clamp, zn_in, zn_long, hp_1, hp_21, upd_zu, updL_zu, updQ_zu, zu_eq, zu_ne, ho_23, ho_23_0, hf_23_0, hk_23_0, hw_23_0, ho_23_1, hf_23_1, ho_23_2, hf_23_2, hk_23_2, hw_23_2, ho_23_3, hf_23_3, hk_23_3, hw_23_3, ho_23_4, hf_23_4, ho_23_5, hf_23_5, ho_23_6, hf_23_6, ho_23_7, hf_23_7, hk_23_7, hw_23_7, ho_23_8, hf_23_8, hk_23_8, hw_23_8, ho_23_9, hf_23_9, ho_23_10, hf_23_10, ho_23_11, hf_23_11, hk_23_11, hw_23_11, ho_23_12, hf_23_12, hk_23_12, hw_23_12, ho_23_13, hf_23_13, ho_23_14, hf_23_14, ho_23_15, hf_23_15, ho_23_16, hf_23_16, hk_23_16, hw_23_16, ho_23_17, hf_23_17, ho_23_18, hf_23_18, ho_23_19, hf_23_19, hk_23_19, hw_23_19, ho_23_20, hf_23_20, ho_23_21, hf_23_21, hk_23_21, hw_23_21, ho_23_22, hf_23_22, hk_23_22, hw_23_22, ho_23_23, hf_23_23, hk_23_23, hw_23_23, ho_23_24, hf_23_24, hk_23_24, hw_23_24, ho_23_25, hf_23_25, ho_23_26, hf_23_26, ho_23_27, hf_23_27, hk_23_27, hw_23_27, ho_23_28, hf_23_28, ho_23_29, hf_23_29, ho_23_30, hf_23_30, hk_23_30, hw_23_30, ho_23_31, hf_23_31, hk_23_31, hw_23_31, ho_23_32, hf_23_32, ho_23_33, hf_23_33, ho_23_34, hf_23_34, hk_23_34, hw_23_34, ho_23_35, hf_23_35, hk_23_35, hw_23_35, ho_23_36, hf_23_36, hk_23_36, hw_23_36, ho_23_37, hf_23_37, ho_23_38, hf_23_38, ho_23_39, hf_23_39, hn_24, hi_24, hj_24, hg_24, hu_24, hn_25, hi_25, hj_25, hg_25, hu_25, hn_26, hi_26, hj_26, hg_26, hu_26, hn_27, hi_27, hg_27, hu_27, hn_28, hi_28, hg_28, hu_28, hn_29, hi_29, hj_29, hg_29, hu_29, hn_30, hi_30, hj_30, hg_30, hu_30, hn_31, hi_31, hj_31, hg_31, hu_31, hn_32, hi_32, hj_32, hg_32, hu_32, hn_33, hi_33, hj_33, hg_33, hu_33, hn_34, hi_34, hj_34, hg_34, hu_34, hn_35, hi_35, hj_35, hg_35, hu_35, hn_36, hi_36, hj_36, hg_36, hu_36, hn_37, hi_37, hg_37, hu_37, hn_38, hi_38, hj_38, hg_38, hu_38, hn_39, hi_39, hj_39, hg_39, hu_39, hn_40, hi_40, hj_40, hg_40, hu_40, hn_41, hi_41, hj_41, hg_41, hu_41, hn_42, hi_42, hg_42, hu_42, hn_43, hi_43, hg_43, hu_43, hn_44, hi_44, hj_44, hg_44, hu_44, hn_45, hi_45, hg_45, hu_45, k1, k2, rI_57, eI, b3', g2, c3, q, Bool.eq_false_iff.mpr q2, q3, decide_true, Bool.and_self, Bool.and_false, zo_t, zo_f]
        · have eo : oE L tp e.1.1 = none := by unfold oE; rw [if_neg q2, if_neg q3]
          rw [eo]
          exact ⟨A1, fun _ _ _ => rfl, hO, hexit e A1 o2 hE hA (fun _ => ⟨q2, q3⟩)⟩
    · rw [if_neg q]
      exact ⟨A1, fun _ _ _ => rfl, hO, hexit e A1 o2 hE hA (fun e1 => absurd e1 q)⟩
theorem R_ex (hR : RTK L tp N (A 25) (A 26) (B 27)) (ht2 : ∀ i, tp i < 128) (hWd : WRD B) (d dp : Nat) (P : EST → EST) (hP : PG N P) (hr : RR N L tp n s c I J B R Q A (d + 5) 204 [some (.ref 23), some (.int (zn dp)), none] P) : RR N L tp n s c I J B R Q A (d + 6) 203 [some (.ref 23), some (.int (zn dp)), none] (fun e => loF P (oE L tp) 1000 (P e)) := by
  intro e A1 hE hO hA
  obtain ⟨A2, b1, b2, b3⟩ := hr e A1 hE hO hA
  obtain ⟨p1, p2, p3⟩ := hP e hE
  obtain ⟨A3, c1, c2, c3⟩ := R_exl hR ht2 hWd d dp P hP hr 1000 (P e) A2 none (fun _ => by omega) p1 b2 (hA.trans b1)
  refine ⟨A3, b1.trans c1, c2, ?_⟩
  have g1 : mo0 (hRE n s c I J B R Q e A1) 23 10 = true := rfl
  simp (disch := first | omega | exact zb_1 | exact zb_0 | exact zb_n1 | exact zb_n0) only [x203_0, x203_1, x203_2, mq_dl_int, mq_dl_ref, mq_dl_null, mq_dl_none, mc_some, Option.toList_some, Option.toList_none, List.cons_append, List.nil_append, zb_1, zb_0, ↓reduceIte, if_true, if_false, not_true_eq_false, not_false_eq_true, Bool.false_eq_true, z_10, z_01, eq_self, Bool.and_self, true_or, or_true, false_or, or_false, true_and, and_true, false_and, and_false, and_self, or_self, Nat.reduceLT, Nat.reduceEqDiff, Nat.reduceLeDiff, Nat.reduceAdd, Nat.reduceMul, Nat.reduceSub, zn_lit, zn_add, zn_mul, zn_sub, zn_addneg, zn_lt, zn_le, zn_eq, zn_clamp, zn_in, zn_long, g1, b3, c3]
theorem R_exG (hR : RTK L tp N (A 25) (A 26) (B 27)) (ht2 : ∀ i, tp i < 128) (hWd : WRD B) (d dp : Nat) (P : EST → EST) (hP : PG N P) (hr : RR N L tp n s c I J B R Q A (d + 2) 207 [some (.ref 23), some (.int (zn dp)), none, none, none] P) : RR N L tp n s c I J B R Q A (d + 6) 203 [some (.ref 23), some (.int (zn dp)), none] (exG L tp P) := by
  have h1 := R_pr hR ht2 d dp P hP hr
  have h2 : RR N L tp n s c I J B R Q A (d + 4) 205 [some (.ref 23), some (.int (zn dp)), none] (smG L tp P) := R_sm hR ht2 hWd d dp (prG L tp P) (PG_prG hR hP) h1
  have h3 : RR N L tp n s c I J B R Q A (d + 5) 204 [some (.ref 23), some (.int (zn dp)), none] (tsG L tp P) := R_tst hR ht2 d dp (smG L tp P) (PG_smG hR hP) h2
  exact R_ex hR ht2 hWd d dp (tsG L tp P) (PG_tsG hR hP) h3
end RF
