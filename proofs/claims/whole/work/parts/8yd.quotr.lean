/-! QUOTIENT: the reference -/
section QR
variable {n s : Nat} {c : Nat → mq_E} {J : Nat → Int64} {A : Nat → Nat → Int32} {B : Nat → Nat → Int64} {R : Nat → Value} {Q : Nat → Nat → Option Nat}
variable {T : ZT}
theorem R_fcj (hS : RT T (A 29)) (hW : WT T) (I : Nat → Int32) (d b i C : Nat) (hb : b < 64) (hi : i < T.1) (hC : I 1184 = zn C) : ∀ (r j : Nat) (f : Nat → Int32) (o4 o5 : Option Value), j + r = T.1 → ∃ f' o4' o5', (∀ x, x < T.1 → (f' x = zn C ∧ ∃ h, j ≤ h ∧ h < T.1 ∧ b.testBit h = true ∧ 0 < T.2.1 i h x) ∨ (f' x = f x ∧ ¬ ∃ h, j ≤ h ∧ h < T.1 ∧ b.testBit h = true ∧ 0 < T.2.1 i h x)) ∧ mz (d + 2) 257 50 [some (.ref 23), some (.int (zn b)), some (.int (zn i)), some (.int (zn j)), o4, o5] [] (hp n s c I J (zu A 41 f) B R Q) = mz (d + 2) 257 135 [some (.ref 23), some (.int (zn b)), some (.int (zn i)), some (.int (zn T.1)), o4', o5'] [] (hp n s c I J (zu A 41 f') B R Q) := by
  have h1 := hW.2.1
  have hS' : ∀ f, RT T ((zu A 41 f) 29) := fun f => by rw [zu_ne _ _ _ _ (by omega)]; exact hS
  intro r
  induction r with
  | zero =>
    intro j f o4 o5 hj
    have e : j = T.1 := by omega
    subst e
    refine ⟨f, o4, o5, fun x hx => Or.inr ⟨rfl, fun ⟨h, h2, h3, _⟩ => by omega⟩, ?_⟩
    simp (disch := first | omega | exact zb_1 | exact zb_0 | exact zb_n1 | exact zb_n0) only [x257_50, x257_51, x257_52, x257_55, mq_dl_int, mq_dl_ref, mq_dl_null, mq_dl_none, mc_some, Option.toList_some, Option.toList_none, List.cons_append, List.nil_append, zb_1, zb_0, ↓reduceIte, if_true, if_false, not_true_eq_false, not_false_eq_true, Bool.false_eq_true, z_10, z_01, eq_self, Bool.and_self, true_or, or_true, false_or, or_false, true_and, and_true, false_and, and_false, and_self, or_self, Nat.reduceLT, Nat.reduceEqDiff, Nat.reduceLeDiff, Nat.reduceAdd, Nat.reduceMul, Nat.reduceSub, zn_lit, zn_add, zn_mul, zn_sub, zn_addneg, zn_lt, zn_le, zn_eq, zn_clamp, zn_in, zn_long, ho_23, S_things (hS' f), Nat.le_refl]
  | succ r ih =>
    intro j f o4 o5 hj
    obtain ⟨fa, p5, a1, a2⟩ := R_fck (n := n) (s := s) (c := c) (I := I) (J := J) (A := A) (B := B) (R := R) (Q := Q) hS hW d b i j C hb hi (by omega) hC T.1 0 f o5 (by omega)
    obtain ⟨f', o4', o5', g1, g2⟩ := ih (j + 1) fa (some (.int (zn T.1))) p5 (by omega)
    refine ⟨f', o4', o5', fun x hx => ?_, ?_⟩
    · rcases g1 x hx with ⟨k1, h, k2, k3⟩ | ⟨k1, k2⟩
      · exact Or.inl ⟨k1, h, by omega, k3⟩
      · rw [k1, a1 x]
        by_cases q : b.testBit j = true ∧ 0 < T.2.1 i j x
        · left
          rw [if_pos ⟨by omega, hx, q⟩]
          exact ⟨rfl, j, by omega, by omega, q⟩
        · right
          rw [if_neg (fun h => q h.2.2)]
          refine ⟨rfl, ?_⟩
          rintro ⟨h, m1, m2, m3⟩
          by_cases q2 : h = j
          · subst q2; exact q m3
          · exact k2 ⟨h, by omega, m2, m3⟩
    · rw [x257_50, ← g2]
      simp (disch := first | omega | exact zb_1 | exact zb_0 | exact zb_n1 | exact zb_n0) only [x257_51, x257_52, x257_55, x257_58, x257_59, mq_dl_int, mq_dl_ref, mq_dl_null, mq_dl_none, mc_some, Option.toList_some, Option.toList_none, List.cons_append, List.nil_append, zb_1, zb_0, ↓reduceIte, if_true, if_false, not_true_eq_false, not_false_eq_true, Bool.false_eq_true, z_10, z_01, eq_self, Bool.and_self, true_or, or_true, false_or, or_false, true_and, and_true, false_and, and_false, and_self, or_self, Nat.reduceLT, Nat.reduceEqDiff, Nat.reduceLeDiff, Nat.reduceAdd, Nat.reduceMul, Nat.reduceSub, zn_lit, zn_add, zn_mul, zn_sub, zn_addneg, zn_lt, zn_le, zn_eq, zn_clamp, zn_in, zn_long, ho_23, S_things (hS' f), show ¬ T.1 ≤ j by omega]
      rw [a2]
      simp (disch := first | omega | exact zb_1 | exact zb_0 | exact zb_n1 | exact zb_n0) only [x257_129, x257_132, mq_dl_int, mq_dl_ref, mq_dl_null, mq_dl_none, mc_some, Option.toList_some, Option.toList_none, List.cons_append, List.nil_append, zb_1, zb_0, ↓reduceIte, if_true, if_false, not_true_eq_false, not_false_eq_true, Bool.false_eq_true, z_10, z_01, eq_self, Bool.and_self, true_or, or_true, false_or, or_false, true_and, and_true, false_and, and_false, and_self, or_self, Nat.reduceLT, Nat.reduceEqDiff, Nat.reduceLeDiff, Nat.reduceAdd, Nat.reduceMul, Nat.reduceSub, zn_lit, zn_add, zn_mul, zn_sub, zn_addneg, zn_lt, zn_le, zn_eq, zn_clamp, zn_in, zn_long]
theorem R_fci (hS : RT T (A 29)) (hW : WT T) (hG : gdT T = true) (d b : Nat) (hb : b < 64) (hP : PR T b) : ∀ (r i : Nat) (f : Nat → Int32) (I : Nat → Int32) (o3 o4 o5 : Option Value), i + r = T.1 → I 1184 = zn (cR T b i) → (∀ k, k < T.1 → f k = if rpT T b k < i then zn (qw T b k) else -1) → ∃ f' I', (∀ k, k < T.1 → f' k = zn (qw T b k)) ∧ I' 1184 = zn (cR T b T.1) ∧ (∀ q, q ≠ 1184 → I' q = I q) ∧ mz (d + 2) 257 30 [some (.ref 23), some (.int (zn b)), some (.int (zn i)), o3, o4, o5] [] (hp n s c I J (zu A 41 f) B R Q) = some (some none, hp n s c I' J (zu A 41 f') B R Q) := by
  have h1 := hW.2.1
  have hS' : ∀ f, RT T ((zu A 41 f) 29) := fun f => by rw [zu_ne _ _ _ _ (by omega)]; exact hS
  intro r
  induction r with
  | zero =>
    intro i f I o3 o4 o5 hi hI hf
    have e : i = T.1 := by omega
    subst e
    refine ⟨f, I, fun k hk => ?_, hI, fun _ _ => rfl, ?_⟩
    · have := (rp_spec hW hP hk).1
      rw [hf k hk, if_pos (by omega)]
    · simp (disch := first | omega | exact zb_1 | exact zb_0 | exact zb_n1 | exact zb_n0) only [x257_30, x257_31, x257_32, x257_35, x257_151, mq_dl_int, mq_dl_ref, mq_dl_null, mq_dl_none, mc_some, Option.toList_some, Option.toList_none, List.cons_append, List.nil_append, zb_1, zb_0, ↓reduceIte, if_true, if_false, not_true_eq_false, not_false_eq_true, Bool.false_eq_true, z_10, z_01, eq_self, Bool.and_self, true_or, or_true, false_or, or_false, true_and, and_true, false_and, and_false, and_self, or_self, Nat.reduceLT, Nat.reduceEqDiff, Nat.reduceLeDiff, Nat.reduceAdd, Nat.reduceMul, Nat.reduceSub, zn_lit, zn_add, zn_mul, zn_sub, zn_addneg, zn_lt, zn_le, zn_eq, zn_clamp, zn_in, zn_long, ho_23, S_things (hS' f), Nat.le_refl]
  | succ r ih =>
    intro i f I o3 o4 o5 hi hI hf
    have hi' : i < T.1 := by omega
    have hcs := cR_s T b i
    have hcl := cR_le T b i
    have hri := (rp_spec hW hP hi').1
    by_cases q : rpT T b i < i
    · have h5 : ∀ k, k < T.1 → rpT T b k ≠ i := by
        intro k hk h
        have := rp_rp hW hG hP hk
        rw [h] at this
        omega
      rw [if_neg (by omega), Nat.add_zero] at hcs
      have hfi : f i = zn (qw T b i) := by rw [hf i hi', if_pos q]
      have hq2 := cR_le T b (rpT T b i)
      have hnm := zn_nm1 (qw T b i) (by unfold qw; omega)
      obtain ⟨f', I', g1, g2, g3, g4⟩ := ih (i + 1) f I o3 o4 o5 (by omega) (by rw [hcs]; exact hI) (fun k hk => by
        rw [hf k hk]
        have := h5 k hk
        by_cases q2 : rpT T b k < i
        · rw [if_pos q2, if_pos (by omega)]
        · rw [if_neg q2, if_neg (by omega)])
      refine ⟨f', I', g1, g2, g3, ?_⟩
      rw [x257_30, ← g4]
      simp (disch := first | omega | exact zb_1 | exact zb_0 | exact zb_n1 | exact zb_n0) only [x257_31, x257_32, x257_35, x257_38, x257_39, x257_42, x257_43, x257_44, x257_45, x257_145, x257_148, mq_dl_int, mq_dl_ref, mq_dl_null, mq_dl_none, mc_some, Option.toList_some, Option.toList_none, List.cons_append, List.nil_append, zb_1, zb_0, ↓reduceIte, if_true, if_false, not_true_eq_false, not_false_eq_true, Bool.false_eq_true, z_10, z_01, eq_self, Bool.and_self, true_or, or_true, false_or, or_false, true_and, and_true, false_and, and_false, and_self, or_self, Nat.reduceLT, Nat.reduceEqDiff, Nat.reduceLeDiff, Nat.reduceAdd, Nat.reduceMul, Nat.reduceSub, zn_lit, zn_add, zn_mul, zn_sub, zn_addneg, zn_lt, zn_le, zn_eq, zn_clamp, zn_in, zn_long, hp_1, hp_21, upd_zu, updL_zu, updQ_zu, zu_eq, zu_ne, ho_23, ho_23_0, hf_23_0, hk_23_0, hw_23_0, ho_23_1, hf_23_1, ho_23_2, hf_23_2, hk_23_2, hw_23_2, ho_23_3, hf_23_3, hk_23_3, hw_23_3, ho_23_4, hf_23_4, ho_23_5, hf_23_5, ho_23_6, hf_23_6, ho_23_7, hf_23_7, hk_23_7, hw_23_7, ho_23_8, hf_23_8, hk_23_8, hw_23_8, ho_23_9, hf_23_9, ho_23_10, hf_23_10, ho_23_11, hf_23_11, hk_23_11, hw_23_11, ho_23_12, hf_23_12, hk_23_12, hw_23_12, ho_23_13, hf_23_13, ho_23_14, hf_23_14, ho_23_15, hf_23_15, ho_23_16, hf_23_16, hk_23_16, hw_23_16, ho_23_17, hf_23_17, ho_23_18, hf_23_18, ho_23_19, hf_23_19, hk_23_19, hw_23_19, ho_23_20, hf_23_20, ho_23_21, hf_23_21, hk_23_21, hw_23_21, ho_23_22, hf_23_22, hk_23_22, hw_23_22, ho_23_23, hf_23_23, hk_23_23, hw_23_23, ho_23_24, hf_23_24, hk_23_24, hw_23_24, ho_23_25, hf_23_25, ho_23_26, hf_23_26, ho_23_27, hf_23_27, hk_23_27, hw_23_27, ho_23_28, hf_23_28, ho_23_29, hf_23_29, ho_23_30, hf_23_30, hk_23_30, hw_23_30, ho_23_31, hf_23_31, hk_23_31, hw_23_31, ho_23_32, hf_23_32, ho_23_33, hf_23_33, ho_23_34, hf_23_34, hk_23_34, hw_23_34, ho_23_35, hf_23_35, hk_23_35, hw_23_35, ho_23_36, hf_23_36, hk_23_36, hw_23_36, ho_23_37, hf_23_37, ho_23_38, hf_23_38, ho_23_39, hf_23_39, hn_24, hi_24, hj_24, hg_24, hu_24, hn_25, hi_25, hj_25, hg_25, hu_25, hn_26, hi_26, hj_26, hg_26, hu_26, hn_27, hi_27, hg_27, hu_27, hn_28, hi_28, hg_28, hu_28, hn_29, hi_29, hj_29, hg_29, hu_29, hn_30, hi_30, hj_30, hg_30, hu_30, hn_31, hi_31, hj_31, hg_31, hu_31, hn_32, hi_32, hj_32, hg_32, hu_32, hn_33, hi_33, hj_33, hg_33, hu_33, hn_34, hi_34, hj_34, hg_34, hu_34, hn_35, hi_35, hj_35, hg_35, hu_35, hn_36, hi_36, hj_36, hg_36, hu_36, hn_37, hi_37, hg_37, hu_37, hn_38, hi_38, hj_38, hg_38, hu_38, hn_39, hi_39, hj_39, hg_39, hu_39, hn_40, hi_40, hj_40, hg_40, hu_40, hn_41, hi_41, hj_41, hg_41, hu_41, hn_42, hi_42, hg_42, hu_42, hn_43, hi_43, hg_43, hu_43, hn_44, hi_44, hj_44, hg_44, hu_44, hn_45, hi_45, hg_45, hu_45, S_things (hS' f), show ¬ T.1 ≤ i by omega, show i < 6 by omega, decide_true, hfi, show ¬ zn (qw T b i) = -zn 1 from hnm]
    · have h4 : rpT T b i = i := by omega
      rw [if_pos h4] at hcs
      have hfi : f i = -1 := by rw [hf i hi', if_neg q]
      obtain ⟨fa, p4, p5, a1, a2⟩ := R_fcj (n := n) (s := s) (c := c) (J := J) (A := A) (B := B) (R := R) (Q := Q) hS hW I d b i (cR T b i) hb hi' hI T.1 0 f o4 o5 (by omega)
      obtain ⟨f', I', g1, g2, g3, g4⟩ := ih (i + 1) fa (zu I 1184 (zn (cR T b i + 1))) (some (.int (zn T.1))) p4 p5 (by omega) (by rw [zu_eq, hcs]) (fun k hk => by
        rcases a1 k hk with ⟨k1, h, _, k3⟩ | ⟨k1, k2⟩
        · have k4 : rpT T b k = i := by
            rw [← (rp_eq hW hG hP hi' hk).1 ((rB_iff i k).2 ⟨h, k3⟩), h4]
          rw [k1, if_pos (by omega)]
          unfold qw
          rw [k4]
        · have k4 : rpT T b k ≠ i := by
            intro e
            apply k2
            obtain ⟨h, k5⟩ := (rB_iff i k).1 ((rp_eq hW hG hP hi' hk).2 (by rw [h4, e]))
            exact ⟨h, by omega, k5⟩
          rw [k1, hf k hk]
          by_cases q2 : rpT T b k < i
          · rw [if_pos q2, if_pos (by omega)]
          · rw [if_neg q2, if_neg (by omega)])
      refine ⟨f', I', g1, g2, fun q hq => by rw [g3 q hq, zu_ne _ _ _ _ hq], ?_⟩
      rw [x257_30, ← g4]
      simp (disch := first | omega | exact zb_1 | exact zb_0 | exact zb_n1 | exact zb_n0) only [x257_31, x257_32, x257_35, x257_38, x257_39, x257_42, x257_43, x257_44, x257_45, x257_48, x257_49, mq_dl_int, mq_dl_ref, mq_dl_null, mq_dl_none, mc_some, Option.toList_some, Option.toList_none, List.cons_append, List.nil_append, zb_1, zb_0, ↓reduceIte, if_true, if_false, not_true_eq_false, not_false_eq_true, Bool.false_eq_true, z_10, z_01, eq_self, Bool.and_self, true_or, or_true, false_or, or_false, true_and, and_true, false_and, and_false, and_self, or_self, Nat.reduceLT, Nat.reduceEqDiff, Nat.reduceLeDiff, Nat.reduceAdd, Nat.reduceMul, Nat.reduceSub, zn_lit, zn_add, zn_mul, zn_sub, zn_addneg, zn_lt, zn_le, zn_eq, zn_clamp, zn_in, zn_long, hp_1, hp_21, upd_zu, updL_zu, updQ_zu, zu_eq, zu_ne, ho_23, ho_23_0, hf_23_0, hk_23_0, hw_23_0, ho_23_1, hf_23_1, ho_23_2, hf_23_2, hk_23_2, hw_23_2, ho_23_3, hf_23_3, hk_23_3, hw_23_3, ho_23_4, hf_23_4, ho_23_5, hf_23_5, ho_23_6, hf_23_6, ho_23_7, hf_23_7, hk_23_7, hw_23_7, ho_23_8, hf_23_8, hk_23_8, hw_23_8, ho_23_9, hf_23_9, ho_23_10, hf_23_10, ho_23_11, hf_23_11, hk_23_11, hw_23_11, ho_23_12, hf_23_12, hk_23_12, hw_23_12, ho_23_13, hf_23_13, ho_23_14, hf_23_14, ho_23_15, hf_23_15, ho_23_16, hf_23_16, hk_23_16, hw_23_16, ho_23_17, hf_23_17, ho_23_18, hf_23_18, ho_23_19, hf_23_19, hk_23_19, hw_23_19, ho_23_20, hf_23_20, ho_23_21, hf_23_21, hk_23_21, hw_23_21, ho_23_22, hf_23_22, hk_23_22, hw_23_22, ho_23_23, hf_23_23, hk_23_23, hw_23_23, ho_23_24, hf_23_24, hk_23_24, hw_23_24, ho_23_25, hf_23_25, ho_23_26, hf_23_26, ho_23_27, hf_23_27, hk_23_27, hw_23_27, ho_23_28, hf_23_28, ho_23_29, hf_23_29, ho_23_30, hf_23_30, hk_23_30, hw_23_30, ho_23_31, hf_23_31, hk_23_31, hw_23_31, ho_23_32, hf_23_32, ho_23_33, hf_23_33, ho_23_34, hf_23_34, hk_23_34, hw_23_34, ho_23_35, hf_23_35, hk_23_35, hw_23_35, ho_23_36, hf_23_36, hk_23_36, hw_23_36, ho_23_37, hf_23_37, ho_23_38, hf_23_38, ho_23_39, hf_23_39, hn_24, hi_24, hj_24, hg_24, hu_24, hn_25, hi_25, hj_25, hg_25, hu_25, hn_26, hi_26, hj_26, hg_26, hu_26, hn_27, hi_27, hg_27, hu_27, hn_28, hi_28, hg_28, hu_28, hn_29, hi_29, hj_29, hg_29, hu_29, hn_30, hi_30, hj_30, hg_30, hu_30, hn_31, hi_31, hj_31, hg_31, hu_31, hn_32, hi_32, hj_32, hg_32, hu_32, hn_33, hi_33, hj_33, hg_33, hu_33, hn_34, hi_34, hj_34, hg_34, hu_34, hn_35, hi_35, hj_35, hg_35, hu_35, hn_36, hi_36, hj_36, hg_36, hu_36, hn_37, hi_37, hg_37, hu_37, hn_38, hi_38, hj_38, hg_38, hu_38, hn_39, hi_39, hj_39, hg_39, hu_39, hn_40, hi_40, hj_40, hg_40, hu_40, hn_41, hi_41, hj_41, hg_41, hu_41, hn_42, hi_42, hg_42, hu_42, hn_43, hi_43, hg_43, hu_43, hn_44, hi_44, hj_44, hg_44, hu_44, hn_45, hi_45, hg_45, hu_45, S_things (hS' f), show ¬ T.1 ≤ i by omega, show i < 6 by omega, decide_true, show f i = -zn 1 from hfi]
      rw [a2]
      simp (disch := first | omega | exact zb_1 | exact zb_0 | exact zb_n1 | exact zb_n0) only [x257_135, x257_136, x257_137, x257_140, x257_141, x257_142, x257_145, x257_148, mq_dl_int, mq_dl_ref, mq_dl_null, mq_dl_none, mc_some, Option.toList_some, Option.toList_none, List.cons_append, List.nil_append, zb_1, zb_0, ↓reduceIte, if_true, if_false, not_true_eq_false, not_false_eq_true, Bool.false_eq_true, z_10, z_01, eq_self, Bool.and_self, true_or, or_true, false_or, or_false, true_and, and_true, false_and, and_false, and_self, or_self, Nat.reduceLT, Nat.reduceEqDiff, Nat.reduceLeDiff, Nat.reduceAdd, Nat.reduceMul, Nat.reduceSub, zn_lit, zn_add, zn_mul, zn_sub, zn_addneg, zn_lt, zn_le, zn_eq, zn_clamp, zn_in, zn_long, hp_1, hp_21, upd_zu, updL_zu, updQ_zu, zu_eq, zu_ne, ho_23, ho_23_0, hf_23_0, hk_23_0, hw_23_0, ho_23_1, hf_23_1, ho_23_2, hf_23_2, hk_23_2, hw_23_2, ho_23_3, hf_23_3, hk_23_3, hw_23_3, ho_23_4, hf_23_4, ho_23_5, hf_23_5, ho_23_6, hf_23_6, ho_23_7, hf_23_7, hk_23_7, hw_23_7, ho_23_8, hf_23_8, hk_23_8, hw_23_8, ho_23_9, hf_23_9, ho_23_10, hf_23_10, ho_23_11, hf_23_11, hk_23_11, hw_23_11, ho_23_12, hf_23_12, hk_23_12, hw_23_12, ho_23_13, hf_23_13, ho_23_14, hf_23_14, ho_23_15, hf_23_15, ho_23_16, hf_23_16, hk_23_16, hw_23_16, ho_23_17, hf_23_17, ho_23_18, hf_23_18, ho_23_19, hf_23_19, hk_23_19, hw_23_19, ho_23_20, hf_23_20, ho_23_21, hf_23_21, hk_23_21, hw_23_21, ho_23_22, hf_23_22, hk_23_22, hw_23_22, ho_23_23, hf_23_23, hk_23_23, hw_23_23, ho_23_24, hf_23_24, hk_23_24, hw_23_24, ho_23_25, hf_23_25, ho_23_26, hf_23_26, ho_23_27, hf_23_27, hk_23_27, hw_23_27, ho_23_28, hf_23_28, ho_23_29, hf_23_29, ho_23_30, hf_23_30, hk_23_30, hw_23_30, ho_23_31, hf_23_31, hk_23_31, hw_23_31, ho_23_32, hf_23_32, ho_23_33, hf_23_33, ho_23_34, hf_23_34, hk_23_34, hw_23_34, ho_23_35, hf_23_35, hk_23_35, hw_23_35, ho_23_36, hf_23_36, hk_23_36, hw_23_36, ho_23_37, hf_23_37, ho_23_38, hf_23_38, ho_23_39, hf_23_39, hn_24, hi_24, hj_24, hg_24, hu_24, hn_25, hi_25, hj_25, hg_25, hu_25, hn_26, hi_26, hj_26, hg_26, hu_26, hn_27, hi_27, hg_27, hu_27, hn_28, hi_28, hg_28, hu_28, hn_29, hi_29, hj_29, hg_29, hu_29, hn_30, hi_30, hj_30, hg_30, hu_30, hn_31, hi_31, hj_31, hg_31, hu_31, hn_32, hi_32, hj_32, hg_32, hu_32, hn_33, hi_33, hj_33, hg_33, hu_33, hn_34, hi_34, hj_34, hg_34, hu_34, hn_35, hi_35, hj_35, hg_35, hu_35, hn_36, hi_36, hj_36, hg_36, hu_36, hn_37, hi_37, hg_37, hu_37, hn_38, hi_38, hj_38, hg_38, hu_38, hn_39, hi_39, hj_39, hg_39, hu_39, hn_40, hi_40, hj_40, hg_40, hu_40, hn_41, hi_41, hj_41, hg_41, hu_41, hn_42, hi_42, hg_42, hu_42, hn_43, hi_43, hg_43, hu_43, hn_44, hi_44, hj_44, hg_44, hu_44, hn_45, hi_45, hg_45, hu_45, hI]
theorem R_fc (hS : RT T (A 29)) (hW : WT T) (hG : gdT T = true) (I : Nat → Int32) (d b : Nat) (hb : b < 64) (hP : PR T b) : ∃ f' I', (∀ k, k < T.1 → f' k = zn (qw T b k)) ∧ I' 1184 = zn (cR T b T.1) ∧ (∀ q, q ≠ 1184 → I' q = I q) ∧ mz (d + 2) 257 0 [some (.ref 23), some (.int (zn b)), none, none, none, none] [] (hp n s c I J A B R Q) = some (some none, hp n s c I' J (zu A 41 f') B R Q) := by
  obtain ⟨f', I', g1, g2, g3, g4⟩ := R_fci (n := n) (s := s) (c := c) (J := J) (A := A) (B := B) (R := R) (Q := Q) hS hW hG d b hb hP T.1 0 (zfl (fun _ => -zn 1) (A 41) 0 T.1) (zu I 1184 (zn 0)) none none none (by omega) (zu_eq _ _ _) (fun k hk => by
    rw [zfl_in _ _ _ _ _ (by omega) (by omega), if_neg (by omega)]
    rfl)
  refine ⟨f', I', g1, g2, fun q hq => by rw [g3 q hq, zu_ne _ _ _ _ hq], ?_⟩
  have e := R_fc0 (n := n) (s := s) (c := c) (I := zu I 1184 (zn 0)) (J := J) (A := A) (B := B) (R := R) (Q := Q) hS hW (d + 1) (zn b) none none none T.1 0 (A 41) (by omega)
  rw [zu_self] at e
  rw [← g4]
  simp (disch := first | omega | exact zb_1 | exact zb_0 | exact zb_n1 | exact zb_n0) only [x257_0, x257_1, x257_2, x257_5, x257_6, mq_dl_int, mq_dl_ref, mq_dl_null, mq_dl_none, mc_some, Option.toList_some, Option.toList_none, List.cons_append, List.nil_append, zb_1, zb_0, ↓reduceIte, if_true, if_false, not_true_eq_false, not_false_eq_true, Bool.false_eq_true, z_10, z_01, eq_self, Bool.and_self, true_or, or_true, false_or, or_false, true_and, and_true, false_and, and_false, and_self, or_self, Nat.reduceLT, Nat.reduceEqDiff, Nat.reduceLeDiff, Nat.reduceAdd, Nat.reduceMul, Nat.reduceSub, zn_lit, zn_add, zn_mul, zn_sub, zn_addneg, zn_lt, zn_le, zn_eq, zn_clamp, zn_in, zn_long, hp_1, hp_21, upd_zu, updL_zu, updQ_zu, zu_eq, zu_ne, ho_23, ho_23_0, hf_23_0, hk_23_0, hw_23_0, ho_23_1, hf_23_1, ho_23_2, hf_23_2, hk_23_2, hw_23_2, ho_23_3, hf_23_3, hk_23_3, hw_23_3, ho_23_4, hf_23_4, ho_23_5, hf_23_5, ho_23_6, hf_23_6, ho_23_7, hf_23_7, hk_23_7, hw_23_7, ho_23_8, hf_23_8, hk_23_8, hw_23_8, ho_23_9, hf_23_9, ho_23_10, hf_23_10, ho_23_11, hf_23_11, hk_23_11, hw_23_11, ho_23_12, hf_23_12, hk_23_12, hw_23_12, ho_23_13, hf_23_13, ho_23_14, hf_23_14, ho_23_15, hf_23_15, ho_23_16, hf_23_16, hk_23_16, hw_23_16, ho_23_17, hf_23_17, ho_23_18, hf_23_18, ho_23_19, hf_23_19, hk_23_19, hw_23_19, ho_23_20, hf_23_20, ho_23_21, hf_23_21, hk_23_21, hw_23_21, ho_23_22, hf_23_22, hk_23_22, hw_23_22, ho_23_23, hf_23_23, hk_23_23, hw_23_23, ho_23_24, hf_23_24, hk_23_24, hw_23_24, ho_23_25, hf_23_25, ho_23_26, hf_23_26, ho_23_27, hf_23_27, hk_23_27, hw_23_27, ho_23_28, hf_23_28, ho_23_29, hf_23_29, ho_23_30, hf_23_30, hk_23_30, hw_23_30, ho_23_31, hf_23_31, hk_23_31, hw_23_31, ho_23_32, hf_23_32, ho_23_33, hf_23_33, ho_23_34, hf_23_34, hk_23_34, hw_23_34, ho_23_35, hf_23_35, hk_23_35, hw_23_35, ho_23_36, hf_23_36, hk_23_36, hw_23_36, ho_23_37, hf_23_37, ho_23_38, hf_23_38, ho_23_39, hf_23_39, hn_24, hi_24, hj_24, hg_24, hu_24, hn_25, hi_25, hj_25, hg_25, hu_25, hn_26, hi_26, hj_26, hg_26, hu_26, hn_27, hi_27, hg_27, hu_27, hn_28, hi_28, hg_28, hu_28, hn_29, hi_29, hj_29, hg_29, hu_29, hn_30, hi_30, hj_30, hg_30, hu_30, hn_31, hi_31, hj_31, hg_31, hu_31, hn_32, hi_32, hj_32, hg_32, hu_32, hn_33, hi_33, hj_33, hg_33, hu_33, hn_34, hi_34, hj_34, hg_34, hu_34, hn_35, hi_35, hj_35, hg_35, hu_35, hn_36, hi_36, hj_36, hg_36, hu_36, hn_37, hi_37, hg_37, hu_37, hn_38, hi_38, hj_38, hg_38, hu_38, hn_39, hi_39, hj_39, hg_39, hu_39, hn_40, hi_40, hj_40, hg_40, hu_40, hn_41, hi_41, hj_41, hg_41, hu_41, hn_42, hi_42, hg_42, hu_42, hn_43, hi_43, hg_43, hu_43, hn_44, hi_44, hj_44, hg_44, hu_44, hn_45, hi_45, hg_45, hu_45]
  rw [e]
  simp (disch := first | omega | exact zb_1 | exact zb_0 | exact zb_n1 | exact zb_n0) only [x257_28, x257_29, mq_dl_int, mq_dl_ref, mq_dl_null, mq_dl_none, mc_some, Option.toList_some, Option.toList_none, List.cons_append, List.nil_append, zb_1, zb_0, ↓reduceIte, if_true, if_false, not_true_eq_false, not_false_eq_true, Bool.false_eq_true, z_10, z_01, eq_self, Bool.and_self, true_or, or_true, false_or, or_false, true_and, and_true, false_and, and_false, and_self, or_self, Nat.reduceLT, Nat.reduceEqDiff, Nat.reduceLeDiff, Nat.reduceAdd, Nat.reduceMul, Nat.reduceSub, zn_lit, zn_add, zn_mul, zn_sub, zn_addneg, zn_lt, zn_le, zn_eq, zn_clamp, zn_in, zn_long]
theorem R_qvl (hS : RT T (A 29)) (hW : WT T) (I : Nat → Int32) (d b : Nat) (x : Int32) (hb : b < 64) : ∀ (r k y : Nat), k + r = T.1 → mz (d + 3) 261 42 [some (.ref 23), some (.int x), some (.int (zn b)), some (.long (zln y)), none, some (.int (zn k))] [] (hp n s c I J A B R Q) = mz (d + 3) 261 81 [some (.ref 23), some (.int x), some (.int (zn b)), some (.long (zln (y + zns (fun h => if b.testBit h = true then szT T h else 0) k r))), none, some (.int (zn T.1))] [] (hp n s c I J A B R Q) := by
  have h1 := hW.2.1
  intro r
  induction r with
  | zero =>
    intro k y hk
    have e : k = T.1 := by omega
    subst e
    simp (disch := first | omega | exact zb_1 | exact zb_0 | exact zb_n1 | exact zb_n0) only [x261_42, x261_44, x261_45, x261_48, mq_dl_int, mq_dl_ref, mq_dl_null, mq_dl_none, mc_some, Option.toList_some, Option.toList_none, List.cons_append, List.nil_append, zb_1, zb_0, ↓reduceIte, if_true, if_false, not_true_eq_false, not_false_eq_true, Bool.false_eq_true, z_10, z_01, eq_self, Bool.and_self, true_or, or_true, false_or, or_false, true_and, and_true, false_and, and_false, and_self, or_self, Nat.reduceLT, Nat.reduceEqDiff, Nat.reduceLeDiff, Nat.reduceAdd, Nat.reduceMul, Nat.reduceSub, zn_lit, zn_add, zn_mul, zn_sub, zn_addneg, zn_lt, zn_le, zn_eq, zn_clamp, zn_in, zn_long, ho_23, S_things hS, Nat.le_refl, zns, Nat.add_zero]
  | succ r ih =>
    intro k y hk
    rw [x261_42]
    cases hq : b.testBit k with
    | true =>
      simp (disch := first | omega | exact zb_1 | exact zb_0 | exact zb_n1 | exact zb_n0) only [x261_44, x261_45, x261_48, x261_51, x261_52, x261_53, x261_55, x261_56, x261_57, x261_58, x261_59, x261_62, x261_63, x261_65, x261_68, x261_69, x261_73, x261_74, x261_75, x261_78, mq_dl_int, mq_dl_ref, mq_dl_null, mq_dl_none, mc_some, Option.toList_some, Option.toList_none, List.cons_append, List.nil_append, zb_1, zb_0, ↓reduceIte, if_true, if_false, not_true_eq_false, not_false_eq_true, Bool.false_eq_true, z_10, z_01, eq_self, Bool.and_self, true_or, or_true, false_or, or_false, true_and, and_true, false_and, and_false, and_self, or_self, Nat.reduceLT, Nat.reduceEqDiff, Nat.reduceLeDiff, Nat.reduceAdd, Nat.reduceMul, Nat.reduceSub, zn_lit, zn_add, zn_mul, zn_sub, zn_addneg, zn_lt, zn_le, zn_eq, zn_clamp, zn_in, zn_long, zln_lit, zln_add, zln_mul, zln_lt, zln_le, zln_eq, zln_int, ho_23, S_things hS, S_size hS hW, zl_sz hW, show ¬ T.1 ≤ k by omega, zn_shr, zn_bt, hq, zo_t, zo_e1, zns]
      rw [ih (k + 1) _ (by omega), Nat.add_assoc]
    | false =>
      simp (disch := first | omega | exact zb_1 | exact zb_0 | exact zb_n1 | exact zb_n0) only [x261_44, x261_45, x261_48, x261_51, x261_52, x261_53, x261_55, x261_56, x261_57, x261_58, x261_59, x261_72, x261_73, x261_74, x261_75, x261_78, mq_dl_int, mq_dl_ref, mq_dl_null, mq_dl_none, mc_some, Option.toList_some, Option.toList_none, List.cons_append, List.nil_append, zb_1, zb_0, ↓reduceIte, if_true, if_false, not_true_eq_false, not_false_eq_true, Bool.false_eq_true, z_10, z_01, eq_self, Bool.and_self, true_or, or_true, false_or, or_false, true_and, and_true, false_and, and_false, and_self, or_self, Nat.reduceLT, Nat.reduceEqDiff, Nat.reduceLeDiff, Nat.reduceAdd, Nat.reduceMul, Nat.reduceSub, zn_lit, zn_add, zn_mul, zn_sub, zn_addneg, zn_lt, zn_le, zn_eq, zn_clamp, zn_in, zn_long, zln_lit, zln_add, zln_mul, zln_lt, zln_le, zln_eq, zln_int, ho_23, S_things hS, show ¬ T.1 ≤ k by omega, zn_shr, zn_bt, hq, zo_f, zo_e1, zns, Nat.zero_add, Nat.add_zero]
      rw [ih (k + 1) _ (by omega)]
theorem R_quot (hW : WT T) (d : Nat) (x : Int32) (I : Nat → Int32) (hS : RT T (A 29)) (w : Nat) (hw : w ≤ 12) (hI : I 1162 = zn w) : RO n s c I J A B R Q w (quX T x) (mz (d + 7) 261 0 [some (.ref 23), some (.int x), none, none, none, none] [] (hp n s c I J A B R Q)) := by
  have hg0 : ∀ k, k ≠ 1150 → (k < 1172 ∨ 1174 < k) → (gI T (zu I 1150 0)) k = I k := fun k h h' => by rw [gI_ne T _ k h', zu_ne _ _ _ _ h]
  have hm2 := hW.2.1
  have h0 := cn_le hW
  have hpw := (pw_T hW).1
  by_cases q1 : x < 0
  · have e : quX T x = none := by
      unfold quX
      rw [if_neg]
      rintro ⟨_, h, _⟩
      exact h q1
    refine ⟨zu I 1150 0, A, fun k h _ _ _ _ => zu_ne _ _ _ _ h, fun _ _ _ => rfl, Or.inl ⟨e, zu_ne _ _ _ _ (by omega), zu_ne _ _ _ _ (by omega), f1_refl _, ?_⟩⟩
    simp (disch := first | omega | exact zb_1 | exact zb_0 | exact zb_n1 | exact zb_n0) only [x261_0, x261_1, x261_2, x261_5, x261_6, x261_24, x261_25, x261_26, x261_27, x261_30, x261_31, mq_dl_int, mq_dl_ref, mq_dl_null, mq_dl_none, mc_some, Option.toList_some, Option.toList_none, List.cons_append, List.nil_append, zb_1, zb_0, ↓reduceIte, if_true, if_false, not_true_eq_false, not_false_eq_true, Bool.false_eq_true, z_10, z_01, eq_self, Bool.and_self, true_or, or_true, false_or, or_false, true_and, and_true, false_and, and_false, and_self, or_self, hp_1, hp_21, upd_zu, updL_zu, updQ_zu, zu_eq, zu_ne, ho_23, ho_23_0, hf_23_0, hk_23_0, hw_23_0, ho_23_1, hf_23_1, ho_23_2, hf_23_2, hk_23_2, hw_23_2, ho_23_3, hf_23_3, hk_23_3, hw_23_3, ho_23_4, hf_23_4, ho_23_5, hf_23_5, ho_23_6, hf_23_6, ho_23_7, hf_23_7, hk_23_7, hw_23_7, ho_23_8, hf_23_8, hk_23_8, hw_23_8, ho_23_9, hf_23_9, ho_23_10, hf_23_10, ho_23_11, hf_23_11, hk_23_11, hw_23_11, ho_23_12, hf_23_12, hk_23_12, hw_23_12, ho_23_13, hf_23_13, ho_23_14, hf_23_14, ho_23_15, hf_23_15, ho_23_16, hf_23_16, hk_23_16, hw_23_16, ho_23_17, hf_23_17, ho_23_18, hf_23_18, ho_23_19, hf_23_19, hk_23_19, hw_23_19, ho_23_20, hf_23_20, ho_23_21, hf_23_21, hk_23_21, hw_23_21, ho_23_22, hf_23_22, hk_23_22, hw_23_22, ho_23_23, hf_23_23, hk_23_23, hw_23_23, ho_23_24, hf_23_24, hk_23_24, hw_23_24, ho_23_25, hf_23_25, ho_23_26, hf_23_26, ho_23_27, hf_23_27, hk_23_27, hw_23_27, ho_23_28, hf_23_28, ho_23_29, hf_23_29, ho_23_30, hf_23_30, hk_23_30, hw_23_30, ho_23_31, hf_23_31, hk_23_31, hw_23_31, ho_23_32, hf_23_32, ho_23_33, hf_23_33, ho_23_34, hf_23_34, hk_23_34, hw_23_34, ho_23_35, hf_23_35, hk_23_35, hw_23_35, ho_23_36, hf_23_36, hk_23_36, hw_23_36, ho_23_37, hf_23_37, ho_23_38, hf_23_38, ho_23_39, hf_23_39, hn_24, hi_24, hj_24, hg_24, hu_24, hn_25, hi_25, hj_25, hg_25, hu_25, hn_26, hi_26, hj_26, hg_26, hu_26, hn_27, hi_27, hg_27, hu_27, hn_28, hi_28, hg_28, hu_28, hn_29, hi_29, hj_29, hg_29, hu_29, hn_30, hi_30, hj_30, hg_30, hu_30, hn_31, hi_31, hj_31, hg_31, hu_31, hn_32, hi_32, hj_32, hg_32, hu_32, hn_33, hi_33, hj_33, hg_33, hu_33, hn_34, hi_34, hj_34, hg_34, hu_34, hn_35, hi_35, hj_35, hg_35, hu_35, hn_36, hi_36, hj_36, hg_36, hu_36, hn_37, hi_37, hg_37, hu_37, hn_38, hi_38, hj_38, hg_38, hu_38, hn_39, hi_39, hj_39, hg_39, hu_39, hn_40, hi_40, hj_40, hg_40, hu_40, hn_41, hi_41, hj_41, hg_41, hu_41, hn_42, hi_42, hg_42, hu_42, hn_43, hi_43, hg_43, hu_43, hn_44, hi_44, hj_44, hg_44, hu_44, hn_45, hi_45, hg_45, hu_45, q1, show ¬ (0 : Int32) ≤ -1 by decide]
  · have q2 : ¬ x = -1 := by
      intro h
      rw [h] at q1
      exact q1 (by decide)
    cases hg : gdT T with
    | false =>
      have e : quX T x = none := by
        unfold quX
        rw [if_neg]
        rintro ⟨h, _⟩
        rw [hg] at h; cases h
      refine ⟨gI T (zu I 1150 0), A, fun k h h' _ _ _ => hg0 k h h', fun _ _ _ => rfl, Or.inl ⟨e, hg0 _ (by omega) (by omega), hg0 _ (by omega) (by omega), f1_refl _, ?_⟩⟩
      simp (disch := first | omega | exact zb_1 | exact zb_0 | exact zb_n1 | exact zb_n0) only [x261_0, x261_1, x261_2, x261_5, x261_6, x261_9, x261_10, x261_13, x261_24, x261_25, x261_26, x261_27, x261_30, x261_31, mq_dl_int, mq_dl_ref, mq_dl_null, mq_dl_none, mc_some, Option.toList_some, Option.toList_none, List.cons_append, List.nil_append, zb_1, zb_0, ↓reduceIte, if_true, if_false, not_true_eq_false, not_false_eq_true, Bool.false_eq_true, z_10, z_01, eq_self, Bool.and_self, true_or, or_true, false_or, or_false, true_and, and_true, false_and, and_false, and_self, or_self, hp_1, hp_21, upd_zu, updL_zu, updQ_zu, zu_eq, zu_ne, ho_23, ho_23_0, hf_23_0, hk_23_0, hw_23_0, ho_23_1, hf_23_1, ho_23_2, hf_23_2, hk_23_2, hw_23_2, ho_23_3, hf_23_3, hk_23_3, hw_23_3, ho_23_4, hf_23_4, ho_23_5, hf_23_5, ho_23_6, hf_23_6, ho_23_7, hf_23_7, hk_23_7, hw_23_7, ho_23_8, hf_23_8, hk_23_8, hw_23_8, ho_23_9, hf_23_9, ho_23_10, hf_23_10, ho_23_11, hf_23_11, hk_23_11, hw_23_11, ho_23_12, hf_23_12, hk_23_12, hw_23_12, ho_23_13, hf_23_13, ho_23_14, hf_23_14, ho_23_15, hf_23_15, ho_23_16, hf_23_16, hk_23_16, hw_23_16, ho_23_17, hf_23_17, ho_23_18, hf_23_18, ho_23_19, hf_23_19, hk_23_19, hw_23_19, ho_23_20, hf_23_20, ho_23_21, hf_23_21, hk_23_21, hw_23_21, ho_23_22, hf_23_22, hk_23_22, hw_23_22, ho_23_23, hf_23_23, hk_23_23, hw_23_23, ho_23_24, hf_23_24, hk_23_24, hw_23_24, ho_23_25, hf_23_25, ho_23_26, hf_23_26, ho_23_27, hf_23_27, hk_23_27, hw_23_27, ho_23_28, hf_23_28, ho_23_29, hf_23_29, ho_23_30, hf_23_30, hk_23_30, hw_23_30, ho_23_31, hf_23_31, hk_23_31, hw_23_31, ho_23_32, hf_23_32, ho_23_33, hf_23_33, ho_23_34, hf_23_34, hk_23_34, hw_23_34, ho_23_35, hf_23_35, hk_23_35, hw_23_35, ho_23_36, hf_23_36, hk_23_36, hw_23_36, ho_23_37, hf_23_37, ho_23_38, hf_23_38, ho_23_39, hf_23_39, hn_24, hi_24, hj_24, hg_24, hu_24, hn_25, hi_25, hj_25, hg_25, hu_25, hn_26, hi_26, hj_26, hg_26, hu_26, hn_27, hi_27, hg_27, hu_27, hn_28, hi_28, hg_28, hu_28, hn_29, hi_29, hj_29, hg_29, hu_29, hn_30, hi_30, hj_30, hg_30, hu_30, hn_31, hi_31, hj_31, hg_31, hu_31, hn_32, hi_32, hj_32, hg_32, hu_32, hn_33, hi_33, hj_33, hg_33, hu_33, hn_34, hi_34, hj_34, hg_34, hu_34, hn_35, hi_35, hj_35, hg_35, hu_35, hn_36, hi_36, hj_36, hg_36, hu_36, hn_37, hi_37, hg_37, hu_37, hn_38, hi_38, hj_38, hg_38, hu_38, hn_39, hi_39, hj_39, hg_39, hu_39, hn_40, hi_40, hj_40, hg_40, hu_40, hn_41, hi_41, hj_41, hg_41, hu_41, hn_42, hi_42, hg_42, hu_42, hn_43, hi_43, hg_43, hu_43, hn_44, hi_44, hj_44, hg_44, hu_44, hn_45, hi_45, hg_45, hu_45, q1, S_good hS hW, hg, zo_f, show zn 0 = 0 from rfl, show ¬ (0 : Int32) ≤ -1 by decide]
    | true =>
      have efp := R_fp (n := n) (s := s) (c := c) (I := gI T (zu I 1150 0)) (J := J) (A := A) (B := B) (R := R) (Q := Q) hS hW (d + 3) x
      rw [if_neg q2] at efp
      by_cases q3 : x < zn (cnT T (2 ^ T.1))
      · have hx := zn_of x q1
        obtain ⟨k, hk⟩ : ∃ k, k = x.toNatClampNeg := ⟨_, rfl⟩
        rw [← hk] at hx
        have hk2 : k < cnT T (2 ^ T.1) := by
          have := q3
          rw [hx.1, zn_lt _ _ (by omega) (by omega)] at this
          exact this
        obtain ⟨p1, p2, p3, p4⟩ := pnT_spec hk2
        have hPR := (prT_iff T _).1 p3
        have e3 : pbT T x = zn (pnT T k) := by unfold pbT; rw [if_pos ⟨q1, q3⟩, ← hk]
        rw [e3] at efp
        obtain ⟨b, hb⟩ : ∃ b, b = pnT T k := ⟨_, rfl⟩
        have eX : quX T x = if qv T b = 1 ∧ cR T b T.1 = T.1 then some T else quO T b := by
          unfold quX
          rw [if_pos ⟨hg, q1, q3⟩, ← hk, ← hb]
        rw [← hb] at efp p2 p3 hPR
        have hb6 : b < 64 := by omega
        obtain ⟨f', I', g1, g2, g3, g4⟩ := R_fc (n := n) (s := s) (c := c) (J := J) (A := A) (B := B) (R := R) (Q := Q) hS hW hg (gI T (zu I 1150 0)) (d + 4) b hb6 hPR
        have hI' : ∀ k, k ≠ 1150 → (k < 1172 ∨ 1174 < k) → (k < 1184 ∨ 1186 < k) → I' k = I k := fun k h1 h2 h3 => by rw [g3 k (by omega), hg0 k h1 h2]
        have hS2 : RT T ((zu A 41 f') 29) := by rw [zu_ne _ _ _ _ (by omega)]; exact hS
        have eqv := R_qvl (n := n) (s := s) (c := c) (J := J) (A := zu A 41 f') (B := B) (R := R) (Q := Q) hS2 hW I' (d + 4) b x hb6 T.1 0 0 (by omega)
        rw [Nat.zero_add, show zns (fun h => if b.testBit h = true then szT T h else 0) 0 T.1 = qv T b from rfl] at eqv
        have hv1 := qv_pos hW hPR
        have hv2 := qv_le (b := b) hW
        have hL := qw_LW hW hg hPR
        obtain ⟨fm, m1, m2, m3⟩ := R_makes (n := n) (s := s) (c := c) (I := I') (J := J) (A := zu A 41 f') (B := B) (R := R) (Q := Q) (w := qw T b) (m := cR T b T.1) (v := qv T b) hS2 hW (fun i hi => by rw [zu_eq]; exact g1 i hi) hL hv1 (by omega) g2 (d + 3)
        rw [zu_ne _ _ _ _ (by omega)] at m1
        have hw2 : I' 1162 = zn w := by rw [hI' _ (by omega) (by omega) (by omega)]; exact hI
        have hA' : ∀ f q, q ≠ 41 → q ≠ 29 → (zu (zu A 41 f') 29 f) q = A q := fun f q h1 h2 => by rw [zu_ne _ _ _ _ h2, zu_ne _ _ _ _ h1]
        have es : mz (d + 7) 261 0 [some (.ref 23), some (.int x), none, none, none, none] [] (hp n s c I J A B R Q) = mz (d + 7) 261 86 [some (.ref 23), some (.int x), some (.int (zn b)), some (.long (zln (qv T b))), none, some (.int (zn T.1))] [.int (zo (gokT T (qw T b) (qv T b) (cR T b T.1)))] (hp n s c I' J (zu (zu A 41 f') 29 fm) B R Q) := by
          have hnb : (0 : Int32) ≤ zn b := by rw [show (0 : Int32) = zn 0 from rfl, zn_le _ _ (by omega) (by omega)]; omega
          simp (disch := first | omega | exact zb_1 | exact zb_0 | exact zb_n1 | exact zb_n0) only [x261_0, x261_1, x261_2, x261_5, x261_6, x261_9, x261_10, x261_13, x261_16, x261_17, x261_18, x261_21, x261_25, x261_26, x261_27, x261_32, x261_33, x261_34, x261_37, x261_38, x261_39, x261_40, mq_dl_int, mq_dl_ref, mq_dl_null, mq_dl_none, mc_some, Option.toList_some, Option.toList_none, List.cons_append, List.nil_append, zb_1, zb_0, ↓reduceIte, if_true, if_false, not_true_eq_false, not_false_eq_true, Bool.false_eq_true, z_10, z_01, eq_self, Bool.and_self, true_or, or_true, false_or, or_false, true_and, and_true, false_and, and_false, and_self, or_self, zln_lit, hp_1, hp_21, upd_zu, updL_zu, updQ_zu, zu_eq, zu_ne, ho_23, ho_23_0, hf_23_0, hk_23_0, hw_23_0, ho_23_1, hf_23_1, ho_23_2, hf_23_2, hk_23_2, hw_23_2, ho_23_3, hf_23_3, hk_23_3, hw_23_3, ho_23_4, hf_23_4, ho_23_5, hf_23_5, ho_23_6, hf_23_6, ho_23_7, hf_23_7, hk_23_7, hw_23_7, ho_23_8, hf_23_8, hk_23_8, hw_23_8, ho_23_9, hf_23_9, ho_23_10, hf_23_10, ho_23_11, hf_23_11, hk_23_11, hw_23_11, ho_23_12, hf_23_12, hk_23_12, hw_23_12, ho_23_13, hf_23_13, ho_23_14, hf_23_14, ho_23_15, hf_23_15, ho_23_16, hf_23_16, hk_23_16, hw_23_16, ho_23_17, hf_23_17, ho_23_18, hf_23_18, ho_23_19, hf_23_19, hk_23_19, hw_23_19, ho_23_20, hf_23_20, ho_23_21, hf_23_21, hk_23_21, hw_23_21, ho_23_22, hf_23_22, hk_23_22, hw_23_22, ho_23_23, hf_23_23, hk_23_23, hw_23_23, ho_23_24, hf_23_24, hk_23_24, hw_23_24, ho_23_25, hf_23_25, ho_23_26, hf_23_26, ho_23_27, hf_23_27, hk_23_27, hw_23_27, ho_23_28, hf_23_28, ho_23_29, hf_23_29, ho_23_30, hf_23_30, hk_23_30, hw_23_30, ho_23_31, hf_23_31, hk_23_31, hw_23_31, ho_23_32, hf_23_32, ho_23_33, hf_23_33, ho_23_34, hf_23_34, hk_23_34, hw_23_34, ho_23_35, hf_23_35, hk_23_35, hw_23_35, ho_23_36, hf_23_36, hk_23_36, hw_23_36, ho_23_37, hf_23_37, ho_23_38, hf_23_38, ho_23_39, hf_23_39, hn_24, hi_24, hj_24, hg_24, hu_24, hn_25, hi_25, hj_25, hg_25, hu_25, hn_26, hi_26, hj_26, hg_26, hu_26, hn_27, hi_27, hg_27, hu_27, hn_28, hi_28, hg_28, hu_28, hn_29, hi_29, hj_29, hg_29, hu_29, hn_30, hi_30, hj_30, hg_30, hu_30, hn_31, hi_31, hj_31, hg_31, hu_31, hn_32, hi_32, hj_32, hg_32, hu_32, hn_33, hi_33, hj_33, hg_33, hu_33, hn_34, hi_34, hj_34, hg_34, hu_34, hn_35, hi_35, hj_35, hg_35, hu_35, hn_36, hi_36, hj_36, hg_36, hu_36, hn_37, hi_37, hg_37, hu_37, hn_38, hi_38, hj_38, hg_38, hu_38, hn_39, hi_39, hj_39, hg_39, hu_39, hn_40, hi_40, hj_40, hg_40, hu_40, hn_41, hi_41, hj_41, hg_41, hu_41, hn_42, hi_42, hg_42, hu_42, hn_43, hi_43, hg_43, hu_43, hn_44, hi_44, hj_44, hg_44, hu_44, hn_45, hi_45, hg_45, hu_45, q1, S_good hS hW, hg, zo_t, show ¬ zn 1 = 0 by decide, efp, hnb, g4]
          rw [show (0 : Int32) = zn 0 from rfl, eqv]
          simp (disch := first | omega | exact zb_1 | exact zb_0 | exact zb_n1 | exact zb_n0) only [x261_81, x261_82, x261_83, mq_dl_int, mq_dl_ref, mq_dl_null, mq_dl_none, mc_some, Option.toList_some, Option.toList_none, List.cons_append, List.nil_append, zb_1, zb_0, ↓reduceIte, if_true, if_false, not_true_eq_false, not_false_eq_true, Bool.false_eq_true, z_10, z_01, eq_self, Bool.and_self, true_or, or_true, false_or, or_false, true_and, and_true, false_and, and_false, and_self, or_self, ho_23, m3]
        cases hok : gokT T (qw T b) (qv T b) (cR T b T.1) with
        | false =>
          rw [hok] at es
          have q4 : ¬ (qv T b = 1 ∧ cR T b T.1 = T.1) := by
            rintro ⟨e1, e2⟩
            rw [e2] at hL
            have h4 := (ga_id hW hL).1
            rw [e1, e2, h4] at hok
            cases hok
          refine ⟨I', zu (zu A 41 f') 29 fm, fun k h1 h2 h3 _ _ => hI' k h1 h2 h3, hA' fm, Or.inl ⟨by rw [eX, if_neg q4]; unfold quO; rw [hok]; rfl, hI' _ (by omega) (by omega) (by omega), hI' _ (by omega) (by omega) (by omega), by rw [zu_eq]; exact m1, ?_⟩⟩
          rw [es]
          simp (disch := first | omega | exact zb_1 | exact zb_0 | exact zb_n1 | exact zb_n0) only [x261_86, x261_89, x261_90, mq_dl_int, mq_dl_ref, mq_dl_null, mq_dl_none, mc_some, Option.toList_some, Option.toList_none, List.cons_append, List.nil_append, zb_1, zb_0, ↓reduceIte, if_true, if_false, not_true_eq_false, not_false_eq_true, Bool.false_eq_true, z_10, z_01, eq_self, Bool.and_self, true_or, or_true, false_or, or_false, true_and, and_true, false_and, and_false, and_self, or_self, zo_f, show zn 0 = 0 from rfl]
        | true =>
          rw [hok] at es
          have hd := R_does (n := n) (s := s) (c := c) (I := I') (J := J) (A := zu (zu A 41 f') 29 fm) (B := B) (R := R) (Q := Q) (d + 5) w hw hw2
          rw [zu_eq, zu_zu] at hd
          obtain ⟨T', t1, t2, t3⟩ : ∃ T', quX T x = some T' ∧ RT T' (fun p => fm (224 + p)) ∧ T'.1 ≤ 6 := by
            rw [eX]
            by_cases q4 : qv T b = 1 ∧ cR T b T.1 = T.1
            · refine ⟨T, if_pos q4, ?_, hm2⟩
              rw [q4.2] at hL
              rw [q4.1, q4.2] at m2
              exact (ga_id hW hL).2 _ m2
            · refine ⟨gaT T (qw T b) (qv T b) (cR T b T.1), by rw [if_neg q4]; unfold quO; rw [if_pos hok], m2, ?_⟩
              show cR T b T.1 ≤ 6
              have := cR_le T b T.1
              omega
          have hS3 : RT T' ((zu (zu A 41 f') 29 (ds w fm)) 29) := by rw [zu_eq]; exact RT_ds t3 t2
          refine ⟨zu (zu I' 1161 (zn (dw w + 1))) 1162 (zn (dw w)), zu (zu A 41 f') 29 (ds w fm), fun k h1 h2 h3 h4 h5 => by rw [zu_ne _ _ _ _ h5, zu_ne _ _ _ _ h4, hI' k h1 h2 h3], hA' _, Or.inr ⟨T', fm, t1, m1, t2, zu_eq _ _ _, by rw [zu_ne _ _ _ _ (by omega), zu_eq], zu_eq _ _ _, ?_⟩⟩
          rw [es]
          simp (disch := first | omega | exact zb_1 | exact zb_0 | exact zb_n1 | exact zb_n0) only [x261_86, x261_91, x261_92, x261_95, x261_96, x261_99, mq_dl_int, mq_dl_ref, mq_dl_null, mq_dl_none, mc_some, Option.toList_some, Option.toList_none, List.cons_append, List.nil_append, zb_1, zb_0, ↓reduceIte, if_true, if_false, not_true_eq_false, not_false_eq_true, Bool.false_eq_true, z_10, z_01, eq_self, Bool.and_self, true_or, or_true, false_or, or_false, true_and, and_true, false_and, and_false, and_self, or_self, ho_23, zo_t, show ¬ zn 1 = 0 by decide, hd, S_things hS3]
      · have e3 : pbT T x = -1 := by unfold pbT; rw [if_neg (fun h => q3 h.2)]
        rw [e3] at efp
        have e : quX T x = none := by
          unfold quX
          rw [if_neg]
          rintro ⟨_, _, h⟩
          exact q3 h
        refine ⟨gI T (zu I 1150 0), A, fun k h h' _ _ _ => hg0 k h h', fun _ _ _ => rfl, Or.inl ⟨e, hg0 _ (by omega) (by omega), hg0 _ (by omega) (by omega), f1_refl _, ?_⟩⟩
        simp (disch := first | omega | exact zb_1 | exact zb_0 | exact zb_n1 | exact zb_n0) only [x261_0, x261_1, x261_2, x261_5, x261_6, x261_9, x261_10, x261_13, x261_16, x261_17, x261_18, x261_21, x261_25, x261_26, x261_27, x261_30, x261_31, mq_dl_int, mq_dl_ref, mq_dl_null, mq_dl_none, mc_some, Option.toList_some, Option.toList_none, List.cons_append, List.nil_append, zb_1, zb_0, ↓reduceIte, if_true, if_false, not_true_eq_false, not_false_eq_true, Bool.false_eq_true, z_10, z_01, eq_self, Bool.and_self, true_or, or_true, false_or, or_false, true_and, and_true, false_and, and_false, and_self, or_self, hp_1, hp_21, upd_zu, updL_zu, updQ_zu, zu_eq, zu_ne, ho_23, ho_23_0, hf_23_0, hk_23_0, hw_23_0, ho_23_1, hf_23_1, ho_23_2, hf_23_2, hk_23_2, hw_23_2, ho_23_3, hf_23_3, hk_23_3, hw_23_3, ho_23_4, hf_23_4, ho_23_5, hf_23_5, ho_23_6, hf_23_6, ho_23_7, hf_23_7, hk_23_7, hw_23_7, ho_23_8, hf_23_8, hk_23_8, hw_23_8, ho_23_9, hf_23_9, ho_23_10, hf_23_10, ho_23_11, hf_23_11, hk_23_11, hw_23_11, ho_23_12, hf_23_12, hk_23_12, hw_23_12, ho_23_13, hf_23_13, ho_23_14, hf_23_14, ho_23_15, hf_23_15, ho_23_16, hf_23_16, hk_23_16, hw_23_16, ho_23_17, hf_23_17, ho_23_18, hf_23_18, ho_23_19, hf_23_19, hk_23_19, hw_23_19, ho_23_20, hf_23_20, ho_23_21, hf_23_21, hk_23_21, hw_23_21, ho_23_22, hf_23_22, hk_23_22, hw_23_22, ho_23_23, hf_23_23, hk_23_23, hw_23_23, ho_23_24, hf_23_24, hk_23_24, hw_23_24, ho_23_25, hf_23_25, ho_23_26, hf_23_26, ho_23_27, hf_23_27, hk_23_27, hw_23_27, ho_23_28, hf_23_28, ho_23_29, hf_23_29, ho_23_30, hf_23_30, hk_23_30, hw_23_30, ho_23_31, hf_23_31, hk_23_31, hw_23_31, ho_23_32, hf_23_32, ho_23_33, hf_23_33, ho_23_34, hf_23_34, hk_23_34, hw_23_34, ho_23_35, hf_23_35, hk_23_35, hw_23_35, ho_23_36, hf_23_36, hk_23_36, hw_23_36, ho_23_37, hf_23_37, ho_23_38, hf_23_38, ho_23_39, hf_23_39, hn_24, hi_24, hj_24, hg_24, hu_24, hn_25, hi_25, hj_25, hg_25, hu_25, hn_26, hi_26, hj_26, hg_26, hu_26, hn_27, hi_27, hg_27, hu_27, hn_28, hi_28, hg_28, hu_28, hn_29, hi_29, hj_29, hg_29, hu_29, hn_30, hi_30, hj_30, hg_30, hu_30, hn_31, hi_31, hj_31, hg_31, hu_31, hn_32, hi_32, hj_32, hg_32, hu_32, hn_33, hi_33, hj_33, hg_33, hu_33, hn_34, hi_34, hj_34, hg_34, hu_34, hn_35, hi_35, hj_35, hg_35, hu_35, hn_36, hi_36, hj_36, hg_36, hu_36, hn_37, hi_37, hg_37, hu_37, hn_38, hi_38, hj_38, hg_38, hu_38, hn_39, hi_39, hj_39, hg_39, hu_39, hn_40, hi_40, hj_40, hg_40, hu_40, hn_41, hi_41, hj_41, hg_41, hu_41, hn_42, hi_42, hg_42, hu_42, hn_43, hi_43, hg_43, hu_43, hn_44, hi_44, hj_44, hg_44, hu_44, hn_45, hi_45, hg_45, hu_45, q1, S_good hS hW, hg, zo_t, show ¬ zn 1 = 0 by decide, efp, show ¬ (0 : Int32) ≤ -1 by decide]
end QR
