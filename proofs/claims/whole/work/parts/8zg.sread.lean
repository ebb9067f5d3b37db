/-! SCHEME: the class reads it and colours -/
section SS
variable (L : Nat) (tp : Nat → Nat)
def sc1 : Nat × Nat := twd L tp 6 (0, 0)
def sc3 : Nat × Nat := twd L tp 7 (adv (see L tp 1 12 (sc1 L tp)))
def scE (st nm : Nat → Int32) : EST := exG L tp (ptF L tp 5) (sc3 L tp, 0, st, nm)
def scX (st nm : Nat → Int32) : Nat × Nat := ten L tp (tsg L tp 59 (scE L tp st nm).1)
def scp : Nat := nbq L tp (sc1 L tp).1
end SS
section SR
variable {L : Nat} {tp : Nat → Nat}
theorem sc1_b (hL : L ≤ 1000) : (sc1 L tp).2 < 20000 := twd_b hL (by show 0 < 20000; omega) 6
theorem sc3_b (hL : L ≤ 1000) : (sc3 L tp).2 < 20000 := twd_b hL (adv_b (see_b hL (sc1_b hL) 1 12)) 7
theorem sc3_fine (h : (sc3 L tp).2 = 0) : sc1 L tp = (1, 0) ∧ sc3 L tp = (3, 0) ∧ 1 ≤ scp L tp ∧ scp L tp ≤ 12 ∧ tkS L tp (ps L tp 1) = 2 ∧ wdq L tp 0 6 = true ∧ wdq L tp 2 7 = true := by
  obtain ⟨a1, a2, a3⟩ := twd_fine h
  obtain ⟨b1, b2⟩ := adv_fine a1
  obtain ⟨c1, c2, c3, c4, c5⟩ := see_fine b1
  obtain ⟨d1, d2, d3⟩ := twd_fine c1
  have e0 : sc1 L tp = (1, 0) := d3
  rw [e0] at c2
  rw [b2, c5, e0] at a2
  exact ⟨e0, by show twd L tp 7 (adv (see L tp 1 12 (sc1 L tp))) = _; rw [a3, b2, c5, e0], c3, c4, c2, d2, a2⟩
theorem exG_F {P : EST → EST} {e : EST} (hP : P e = e) (h : ¬ e.1.2 = 0) : exG L tp P e = e := by
  have h1 : prG L tp P e = e := by unfold prG; rw [hP, loF_F h]
  have h2 : smG L tp P e = e := by unfold smG; rw [h1, loF_F h]
  have h3 : tsG L tp P e = e := by unfold tsG; rw [h2, loF_F h]
  unfold exG
  rw [h3, loF_F h]
theorem exG_S {k : Nat} {e : EST} (h : (exG L tp (ptF L tp k) e).1.2 = 0) : e.1.2 = 0 := by
  apply Classical.byContradiction
  intro q
  rw [exG_F (ptF_F q) q] at h
  exact q h
theorem ten_fine {x : Nat × Nat} (h : (ten L tp x).2 = 0) : x.2 = 0 ∧ tkS L tp (ps L tp x.1) = 4 := by
  unfold ten at h
  by_cases q : tkS L tp (ps L tp x.1) = 4
  · rw [if_pos q] at h; exact ⟨h, q⟩
  · rw [if_neg q] at h; exact absurd h (flt_n (by omega))
theorem scX_fine {st nm : Nat → Int32} (h : (scX L tp st nm).2 = 0) : (scE L tp st nm).1.2 = 0 ∧ (sc3 L tp).2 = 0 := by
  obtain ⟨h1, h2⟩ := ten_fine h
  obtain ⟨h3, h4, h5⟩ := tsg_fine h1
  exact ⟨h3, exG_S (e := (sc3 L tp, 0, st, nm)) h3⟩
theorem EB_0 (hL : L ≤ 1000) (st nm : Nat → Int32) : EB (sc3 L tp, 0, st, nm) := ⟨sc3_b hL, by show 0 ≤ 1000; omega⟩
theorem EB_scE (hL : L ≤ 1000) (st nm : Nat → Int32) : EB (scE L tp st nm) := EB_exG (EB_ptF hL 5) _ (EB_0 hL st nm)
theorem scX_b (hL : L ≤ 1000) (st nm : Nat → Int32) : (scX L tp st nm).2 < 20000 := ten_b hL (tsg_b hL (EB_scE hL st nm).1 59)
end SR
section ST
variable {n s : Nat} {c : Nat → mq_E} {I : Nat → Int32} {J : Nat → Int64} {A : Nat → Nat → Int32} {B : Nat → Nat → Int64} {R : Nat → Value} {Q : Nat → Nat → Option Nat}
variable {L : Nat} {tp : Nat → Nat}
theorem C_sread (h : TKp L tp I A) (hS : STR c) (d : Nat) : mz (d + 36) 87 0 [some (.ref 5)] [] (hp n s c I J A B R Q) = some (some (some (.int (zo (decide ((scX L tp (A 7) (A 8)).2 = 0))))), hE L tp n s c (zu I 253 (seev L tp (sc1 L tp))) J A B R Q (stx (scX L tp (A 7) (A 8)) (scE L tp (A 7) (A 8)))) := by
  have hL := h.1
  have b1 := sc1_b (tp := tp) hL
  have b2 := see_b (tp := tp) hL b1 1 12
  have b3 := adv_b b2
  have hI1 : TKp L tp (zu I 303 (zn 0)) A := ⟨h.1, by rw [zu_ne _ _ _ _ (by omega)]; exact h.2.1, h.2.2⟩
  have hI2 : TKp L tp (zu (zu I 303 (zn 0)) 253 (seev L tp (sc1 L tp))) A := ⟨h.1, by rw [zu_ne _ _ _ _ (by omega)]; exact hI1.2.1, h.2.2⟩
  have hI3 : TKp L tp (zu I 253 (seev L tp (sc1 L tp))) A := ⟨h.1, by rw [zu_ne _ _ _ _ (by omega)]; exact h.2.1, h.2.2⟩
  have e1 := C_start (n := n) (s := s) (J := J) (B := B) (R := R) (Q := Q) hI1 hS (d + 30)
  have e2 := C_tw (n := n) (s := s) (J := J) (B := B) (R := R) (Q := Q) hI1 hS (d + 30) 6 1000000007 (by omega) rfl (0, 0) (by show 0 < 20000; omega)
  have e3 := C_see (n := n) (s := s) (c := c) (J := J) (B := B) (R := R) (Q := Q) hI1 (d + 34) 1 12 (by omega) (by omega) _ b1
  have e4 := C_adv (n := n) (s := s) (J := J) (B := B) (R := R) (Q := Q) hI2 hS (d + 31) _ b2
  have e5 := C_tw (n := n) (s := s) (J := J) (B := B) (R := R) (Q := Q) hI2 hS (d + 30) 7 1000000008 (by omega) rfl _ b3
  have hpt := E_pt (n := n) (s := s) (J := J) (B := B) (R := R) (Q := Q) hI3 hS 5 (by omega) d
  have e6 := E_exG (n := n) (s := s) (c := c) (J := J) (B := B) (R := R) (Q := Q) hI3 hS (d + 25) 0 (ptF L tp 5) (EB_ptF (tp := tp) hL 5) hpt (sc3 L tp, 0, A 7, A 8) (EB_0 hL _ _)
  have eH : hE L tp n s c (zu I 253 (seev L tp (sc1 L tp))) J A B R Q (sc3 L tp, 0, A 7, A 8) = hp n s c (tI L tp (zu (zu I 303 (zn 0)) 253 (seev L tp (sc1 L tp))) (sc3 L tp)) J A B R Q := by
    unfold hE
    dsimp only
    have ea : zu (zu A 7 (A 7)) 8 (A 8) = A := by
      rw [zu_self]; exact zu_self A 8
    have ei : zu (zu I 253 (seev L tp (sc1 L tp))) 303 (zn 0) = zu (zu I 303 (zn 0)) 253 (seev L tp (sc1 L tp)) := by
      rw [← zu_comm _ 303 253 _ _ (by omega)]
    rw [ea, ei]
  have bE := EB_scE (tp := tp) hL (A 7) (A 8)
  have e7 := E_ts (n := n) (s := s) (J := J) (B := B) (R := R) (Q := Q) hI3 hS (d + 30) 59 (by omega) _ bE
  have b7 := tsg_b (tp := tp) hL bE.1 59
  have e8 : mz (d + 35) 139 0 [some (.ref 1)] [] (hE L tp n s c (zu I 253 (seev L tp (sc1 L tp))) J A B R Q (stx (tsg L tp 59 (scE L tp (A 7) (A 8)).1) (scE L tp (A 7) (A 8)))) = some (some none, hE L tp n s c (zu I 253 (seev L tp (sc1 L tp))) J A B R Q (stx (scX L tp (A 7) (A 8)) (scE L tp (A 7) (A 8)))) := C_te hL (d + 34) _ b7
  have e9 := E_fine (n := n) (s := s) (c := c) (I := zu I 253 (seev L tp (sc1 L tp))) (J := J) (A := A) (B := B) (R := R) (Q := Q) (L := L) (tp := tp) (d + 35) (stx (scX L tp (A 7) (A 8)) (scE L tp (A 7) (A 8))) (EB_stx bE (scX_b hL _ _))
  have eE : exG L tp (ptF L tp 5) (sc3 L tp, 0, A 7, A 8) = scE L tp (A 7) (A 8) := rfl
  rw [eH, eE] at e6
  obtain ⟨g1, g2, g3, g4⟩ := hE_50 (n := n) (s := s) (c := c) (I := zu I 253 (seev L tp (sc1 L tp))) (J := J) (A := A) (B := B) (R := R) (Q := Q) (L := L) (tp := tp) (scE L tp (A 7) (A 8))
  obtain ⟨g5, g6, g7⟩ := hE_01 (n := n) (s := s) (c := c) (I := zu I 253 (seev L tp (sc1 L tp))) (J := J) (A := A) (B := B) (R := R) (Q := Q) (L := L) (tp := tp) (scE L tp (A 7) (A 8))
  obtain ⟨i1, i2, i3, i4⟩ := hE_50 (n := n) (s := s) (c := c) (I := zu I 253 (seev L tp (sc1 L tp))) (J := J) (A := A) (B := B) (R := R) (Q := Q) (L := L) (tp := tp) (stx (tsg L tp 59 (scE L tp (A 7) (A 8)).1) (scE L tp (A 7) (A 8)))
  obtain ⟨i5, i6, i7⟩ := hE_01 (n := n) (s := s) (c := c) (I := zu I 253 (seev L tp (sc1 L tp))) (J := J) (A := A) (B := B) (R := R) (Q := Q) (L := L) (tp := tp) (stx (tsg L tp 59 (scE L tp (A 7) (A 8)).1) (scE L tp (A 7) (A 8)))
  obtain ⟨j1, j2, j3, j4⟩ := hE_50 (n := n) (s := s) (c := c) (I := zu I 253 (seev L tp (sc1 L tp))) (J := J) (A := A) (B := B) (R := R) (Q := Q) (L := L) (tp := tp) (stx (scX L tp (A 7) (A 8)) (scE L tp (A 7) (A 8)))
  obtain ⟨j5, j6, j7⟩ := hE_01 (n := n) (s := s) (c := c) (I := zu I 253 (seev L tp (sc1 L tp))) (J := J) (A := A) (B := B) (R := R) (Q := Q) (L := L) (tp := tp) (stx (scX L tp (A 7) (A 8)) (scE L tp (A 7) (A 8)))
  unfold sc3 at e6
  unfold sc1 at *
  generalize scE L tp (A 7) (A 8) = E at *
  generalize scX L tp (A 7) (A 8) = X at *
  cases hb : decide (X.2 = 0) with
  | true =>
    have e9' := e9
    rw [show decide ((stx X E).1.2 = 0) = true from hb, zo_t] at e9'
    simp (disch := first | omega | exact zb_1 | exact zb_0 | exact zb_n1 | exact zb_n0) only [x87_0, x87_0N, x87_1, x87_4, x87_7, x87_7N, x87_8, x87_11, x87_14, x87_14N, x87_15, x87_18, x87_20, x87_23, x87_23N, x87_24, x87_24N, x87_25, x87_28, x87_29, x87_31, x87_34, x87_37, x87_37N, x87_38, x87_41, x87_44, x87_44N, x87_45, x87_48, x87_50, x87_53, x87_53N, x87_54, x87_55, x87_58, x87_58N, x87_59, x87_62, x87_64, x87_67, x87_67N, x87_68, x87_71, x87_74, x87_74N, x87_75, x87_78, x87_81, x15_0, x15_0N, x15_1, x15_2, x15_5, mq_dl_int, mq_dl_ref, mq_dl_null, mq_dl_none, mc_some, Option.toList_some, Option.toList_none, List.cons_append, List.nil_append, zb_1, zb_0, ↓reduceIte, if_true, if_false, not_true_eq_false, not_false_eq_true, Bool.false_eq_true, z_10, z_01, eq_self, Bool.and_self, true_or, or_true, false_or, or_false, true_and, and_true, false_and, and_false, and_self, or_self, Nat.reduceLT, Nat.reduceEqDiff, Nat.reduceLeDiff, Nat.reduceAdd, Nat.reduceMul, Nat.reduceSub, zn_lit, zn_add, zn_mul, zn_sub, zn_addneg, zn_lt, zn_le, zn_eq, zn_clamp, zn_in, zn_long, hp_1, hp_21, upd_zu, updL_zu, updQ_zu, zu_eq, zu_ne, ho_0, ho_0_0, hf_0_0, ho_0_1, hf_0_1, ho_0_2, hf_0_2, ho_0_3, hf_0_3, ho_0_4, hf_0_4, ho_0_5, hf_0_5, ho_0_6, hf_0_6, ho_0_7, hf_0_7, hk_0_7, hw_0_7, ho_1, ho_1_0, hf_1_0, ho_1_1, hf_1_1, hk_1_1, hw_1_1, ho_1_2, hf_1_2, hk_1_2, hw_1_2, ho_1_3, hf_1_3, hk_1_3, hw_1_3, ho_1_4, hf_1_4, hk_1_4, hw_1_4, ho_1_5, hf_1_5, hk_1_5, hw_1_5, hn_2, hi_2, hg_2, hu_2, ho_3, ho_3_0, hf_3_0, ho_3_1, hf_3_1, ho_3_2, hf_3_2, hk_3_2, hw_3_2, ho_3_3, hf_3_3, hk_3_3, hw_3_3, hn_4, hi_4, hj_4, hg_4, hu_4, ho_5, ho_5_0, hf_5_0, ho_5_1, hf_5_1, ho_5_2, hf_5_2, ho_5_3, hf_5_3, hk_5_3, hw_5_3, ho_6, ho_6_0, hf_6_0, ho_6_1, hf_6_1, ho_6_2, hf_6_2, ho_6_3, hf_6_3, hk_6_3, hw_6_3, hn_7, hi_7, hj_7, hg_7, hu_7, hn_8, hi_8, hj_8, hg_8, hu_8, hn_9, hi_9, hj_9, hg_9, hu_9, ho_10, ho_10_0, hf_10_0, ho_10_1, hf_10_1, ho_10_2, hf_10_2, ho_10_3, hf_10_3, hk_10_3, hw_10_3, ho_10_4, hf_10_4, hk_10_4, hkN_10_4, hw_10_4, hn_11, hi_11, hj_11, hg_11, hu_11, hn_12, hi_12, hj_12, hg_12, hu_12, hn_13, hi_13, hj_13, hg_13, hu_13, hn_14, hi_14, hg_14, hu_14, hn_15, hi_15, hg_15, hu_15, ho_16, ho_16_0, hf_16_0, ho_16_1, hf_16_1, ho_16_2, hf_16_2, hk_16_2, hw_16_2, ho_16_3, hf_16_3, hk_16_3, hw_16_3, ho_16_4, hf_16_4, hk_16_4, hkN_16_4, hw_16_4, hn_17, hi_17, hg_17, hu_17, hn_18, hi_18, hg_18, hu_18, hn_22, hi_22, hg_22, hu_22, tI_zu, e1, e2, e3, e4, e5, e6, e7, e8, e9', g1, g2, g5, i1, i2, i5, j1, j2, j5, zo_t]
  | false =>
    have e9' := e9
    rw [show decide ((stx X E).1.2 = 0) = false from hb, zo_f] at e9'
    simp (disch := first | omega | exact zb_1 | exact zb_0 | exact zb_n1 | exact zb_n0) only [x87_0, x87_0N, x87_1, x87_4, x87_7, x87_7N, x87_8, x87_11, x87_14, x87_14N, x87_15, x87_18, x87_20, x87_23, x87_23N, x87_24, x87_24N, x87_25, x87_28, x87_29, x87_31, x87_34, x87_37, x87_37N, x87_38, x87_41, x87_44, x87_44N, x87_45, x87_48, x87_50, x87_53, x87_53N, x87_54, x87_55, x87_58, x87_58N, x87_59, x87_62, x87_64, x87_67, x87_67N, x87_68, x87_71, x87_74, x87_74N, x87_75, x87_78, x87_81, x15_0, x15_0N, x15_1, x15_2, x15_5, mq_dl_int, mq_dl_ref, mq_dl_null, mq_dl_none, mc_some, Option.toList_some, Option.toList_none, List.cons_append, List.nil_append, zb_1, zb_0, ↓reduceIte, if_true, if_false, not_true_eq_false, not_false_eq_true, Bool.false_eq_true, z_10, z_01, eq_self, Bool.and_self, true_or, or_true, false_or, or_false, true_and, and_true, false_and, and_false, and_self, or_self, Nat.reduceLT, Nat.reduceEqDiff, Nat.reduceLeDiff, Nat.reduceAdd, Nat.reduceMul, Nat.reduceSub, zn_lit, zn_add, zn_mul, zn_sub, zn_addneg, zn_lt, zn_le, zn_eq, zn_clamp, zn_in, zn_long, hp_1, hp_21, upd_zu, updL_zu, updQ_zu, zu_eq, zu_ne, ho_0, ho_0_0, hf_0_0, ho_0_1, hf_0_1, ho_0_2, hf_0_2, ho_0_3, hf_0_3, ho_0_4, hf_0_4, ho_0_5, hf_0_5, ho_0_6, hf_0_6, ho_0_7, hf_0_7, hk_0_7, hw_0_7, ho_1, ho_1_0, hf_1_0, ho_1_1, hf_1_1, hk_1_1, hw_1_1, ho_1_2, hf_1_2, hk_1_2, hw_1_2, ho_1_3, hf_1_3, hk_1_3, hw_1_3, ho_1_4, hf_1_4, hk_1_4, hw_1_4, ho_1_5, hf_1_5, hk_1_5, hw_1_5, hn_2, hi_2, hg_2, hu_2, ho_3, ho_3_0, hf_3_0, ho_3_1, hf_3_1, ho_3_2, hf_3_2, hk_3_2, hw_3_2, ho_3_3, hf_3_3, hk_3_3, hw_3_3, hn_4, hi_4, hj_4, hg_4, hu_4, ho_5, ho_5_0, hf_5_0, ho_5_1, hf_5_1, ho_5_2, hf_5_2, ho_5_3, hf_5_3, hk_5_3, hw_5_3, ho_6, ho_6_0, hf_6_0, ho_6_1, hf_6_1, ho_6_2, hf_6_2, ho_6_3, hf_6_3, hk_6_3, hw_6_3, hn_7, hi_7, hj_7, hg_7, hu_7, hn_8, hi_8, hj_8, hg_8, hu_8, hn_9, hi_9, hj_9, hg_9, hu_9, ho_10, ho_10_0, hf_10_0, ho_10_1, hf_10_1, ho_10_2, hf_10_2, ho_10_3, hf_10_3, hk_10_3, hw_10_3, ho_10_4, hf_10_4, hk_10_4, hkN_10_4, hw_10_4, hn_11, hi_11, hj_11, hg_11, hu_11, hn_12, hi_12, hj_12, hg_12, hu_12, hn_13, hi_13, hj_13, hg_13, hu_13, hn_14, hi_14, hg_14, hu_14, hn_15, hi_15, hg_15, hu_15, ho_16, ho_16_0, hf_16_0, ho_16_1, hf_16_1, ho_16_2, hf_16_2, hk_16_2, hw_16_2, ho_16_3, hf_16_3, hk_16_3, hw_16_3, ho_16_4, hf_16_4, hk_16_4, hkN_16_4, hw_16_4, hn_17, hi_17, hg_17, hu_17, hn_18, hi_18, hg_18, hu_18, hn_22, hi_22, hg_22, hu_22, tI_zu, e1, e2, e3, e4, e5, e6, e7, e8, e9', g1, g2, g5, i1, i2, i5, j1, j2, j5, zo_f]
end ST
