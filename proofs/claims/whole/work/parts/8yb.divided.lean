/-! QUOTIENT: the class divides -/
section DV
variable {n s : Nat} {c : Nat → mq_E} {I : Nat → Int32} {J : Nat → Int64} {A : Nat → Nat → Int32} {B : Nat → Nat → Int64} {R : Nat → Value} {Q : Nat → Nat → Option Nat}
variable {a e : Nat} {T : ZT}
theorem M_dk (hT : TB c a T) (hW : WT T) (he : 46 ≤ e) (hae : a + 2 < e) (d b π C i ρ : Nat) (hρ : ρ < 64) : ∀ (r k : Nat) (wf : Nat → Int32), k + r = T.1 → ∃ wf', (∀ j, wf' j = if k ≤ j ∧ j < T.1 ∧ ρ.testBit j = true then zn C else wf j) ∧ mz (d + 1) 49 52 [some (.ref a), some (.int (zn b)), some (.ref e), some (.int (zn π)), some (.int (zn C)), some (.int (zn i)), some (.int (zn ρ)), some (.int (zn k))] [] (hp n s (mq_up c e (.inl (0, 6, .inl wf))) I J A B R Q) = mz (d + 1) 49 84 [some (.ref a), some (.int (zn b)), some (.ref e), some (.int (zn π)), some (.int (zn C)), some (.int (zn i)), some (.int (zn ρ)), some (.int (zn T.1))] [] (hp n s (mq_up c e (.inl (0, 6, .inl wf'))) I J A B R Q) := by
  have h1 := hW.2.1
  intro r
  induction r with
  | zero =>
    intro k wf hk
    have e1 : k = T.1 := by omega
    subst e1
    have hT' : TB (mq_up c e (.inl (0, 6, .inl wf))) a T := TB_upO _ hT hae
    refine ⟨wf, fun j => by rw [if_neg (by omega)], ?_⟩
    simp (disch := first | omega | exact zb_1 | exact zb_0 | exact zb_n1 | exact zb_n0) only [x49_52, x49_54, x49_55, x49_58, mq_dl_int, mq_dl_ref, mq_dl_null, mq_dl_none, mc_some, Option.toList_some, Option.toList_none, List.cons_append, List.nil_append, zb_1, zb_0, ↓reduceIte, if_true, if_false, not_true_eq_false, not_false_eq_true, Bool.false_eq_true, z_10, z_01, eq_self, Bool.and_self, true_or, or_true, false_or, or_false, true_and, and_true, false_and, and_false, and_self, or_self, Nat.reduceLT, Nat.reduceEqDiff, Nat.reduceLeDiff, Nat.reduceAdd, Nat.reduceMul, Nat.reduceSub, zn_lit, zn_add, zn_mul, zn_sub, zn_addneg, zn_lt, zn_le, zn_eq, zn_clamp, zn_in, zn_long, tb_0 hT', T_things hT', Nat.le_refl]
  | succ r ih =>
    intro k wf hk
    have hT' : TB (mq_up c e (.inl (0, 6, .inl wf))) a T := TB_upO _ hT hae
    cases hq : ρ.testBit k with
    | true =>
      obtain ⟨wf', g1, g2⟩ := ih (k + 1) (zu wf k (zn C)) (by omega)
      refine ⟨wf', fun j => ?_, ?_⟩
      · rw [g1 j]
        by_cases q : j = k
        · subst q; rw [if_neg (by omega), zu_eq, if_pos ⟨by omega, by omega, hq⟩]
        · rw [zu_ne _ _ _ _ q]
          by_cases c2 : k ≤ j ∧ j < T.1 ∧ ρ.testBit j = true
          · rw [if_pos c2, if_pos ⟨by omega, c2.2⟩]
          · rw [if_neg c2, if_neg (fun h => c2 ⟨by omega, h.2⟩)]
      · rw [x49_52, ← g2]
        simp (disch := first | omega | exact zb_1 | exact zb_0 | exact zb_n1 | exact zb_n0) only [x49_54, x49_55, x49_58, x49_61, x49_63, x49_65, x49_66, x49_67, x49_68, x49_69, x49_72, x49_73, x49_75, x49_77, x49_78, x49_81, mq_dl_int, mq_dl_ref, mq_dl_null, mq_dl_none, mc_some, Option.toList_some, Option.toList_none, List.cons_append, List.nil_append, zb_1, zb_0, ↓reduceIte, if_true, if_false, not_true_eq_false, not_false_eq_true, Bool.false_eq_true, z_10, z_01, eq_self, Bool.and_self, true_or, or_true, false_or, or_false, true_and, and_true, false_and, and_false, and_self, or_self, Nat.reduceLT, Nat.reduceEqDiff, Nat.reduceLeDiff, Nat.reduceAdd, Nat.reduceMul, Nat.reduceSub, zn_lit, zn_add, zn_mul, zn_sub, zn_addneg, zn_lt, zn_le, zn_eq, zn_clamp, zn_in, zn_long, tb_0 hT', T_things hT', show ¬ T.1 ≤ k by omega, zn_shr, zn_bt, hq, zo_t, zo_e1, haiB, hagB, hanB, eai_i, eag_i, ean_i, up_eq, hp_wcB, up_up, decide_true, Bool.true_and, Bool.true_or, upd_zu, show k < 6 by omega]
    | false =>
      obtain ⟨wf', g1, g2⟩ := ih (k + 1) wf (by omega)
      refine ⟨wf', fun j => ?_, ?_⟩
      · rw [g1 j]
        by_cases q : j = k
        · subst q; rw [if_neg (by omega), if_neg (fun h => by rw [hq] at h; cases h.2.2)]
        · by_cases c2 : k ≤ j ∧ j < T.1 ∧ ρ.testBit j = true
          · rw [if_pos c2, if_pos ⟨by omega, c2.2⟩]
          · rw [if_neg c2, if_neg (fun h => c2 ⟨by omega, h.2⟩)]
      · rw [x49_52, ← g2]
        simp (disch := first | omega | exact zb_1 | exact zb_0 | exact zb_n1 | exact zb_n0) only [x49_54, x49_55, x49_58, x49_61, x49_63, x49_65, x49_66, x49_67, x49_68, x49_69, x49_78, x49_81, mq_dl_int, mq_dl_ref, mq_dl_null, mq_dl_none, mc_some, Option.toList_some, Option.toList_none, List.cons_append, List.nil_append, zb_1, zb_0, ↓reduceIte, if_true, if_false, not_true_eq_false, not_false_eq_true, Bool.false_eq_true, z_10, z_01, eq_self, Bool.and_self, true_or, or_true, false_or, or_false, true_and, and_true, false_and, and_false, and_self, or_self, Nat.reduceLT, Nat.reduceEqDiff, Nat.reduceLeDiff, Nat.reduceAdd, Nat.reduceMul, Nat.reduceSub, zn_lit, zn_add, zn_mul, zn_sub, zn_addneg, zn_lt, zn_le, zn_eq, zn_clamp, zn_in, zn_long, tb_0 hT', T_things hT', show ¬ T.1 ≤ k by omega, zn_shr, zn_bt, hq, zo_f, zo_e1]
theorem M_di (hT : TB c a T) (hW : WT T) (hG : gdT T = true) (he : 46 ≤ e) (hae : a + 2 < e) (d b : Nat) (hb : b < 64) (hP : PR T b) : ∀ (r i π : Nat) (wf : Nat → Int32) (o6 o7 : Option Value), i + r = T.1 → π < 64 → (∀ k, π.testBit k = true ↔ k < T.1 ∧ rpT T b k < i) → (∀ k, k < T.1 → rpT T b k < i → wf k = zn (qw T b k)) → ∃ wf' π' p6 p7, (∀ k, k < T.1 → wf' k = zn (qw T b k)) ∧ mz (d + 2) 49 13 [some (.ref a), some (.int (zn b)), some (.ref e), some (.int (zn π)), some (.int (zn (cR T b i))), some (.int (zn i)), o6, o7] [] (hp n s (mq_up c e (.inl (0, 6, .inl wf))) I J A B R Q) = mz (d + 2) 49 98 [some (.ref a), some (.int (zn b)), some (.ref e), some (.int (zn π')), some (.int (zn (cR T b T.1))), some (.int (zn T.1)), p6, p7] [] (hp n s (mq_up c e (.inl (0, 6, .inl wf'))) I J A B R Q) := by
  have h1 := hW.2.1
  intro r
  induction r with
  | zero =>
    intro i π wf o6 o7 hi hπ h2 h3
    have e1 : i = T.1 := by omega
    subst e1
    have hT' : TB (mq_up c e (.inl (0, 6, .inl wf))) a T := TB_upO _ hT hae
    refine ⟨wf, π, o6, o7, fun k hk => h3 k hk (by have := (rp_spec hW hP hk).1; omega), ?_⟩
    simp (disch := first | omega | exact zb_1 | exact zb_0 | exact zb_n1 | exact zb_n0) only [x49_13, x49_15, x49_16, x49_19, mq_dl_int, mq_dl_ref, mq_dl_null, mq_dl_none, mc_some, Option.toList_some, Option.toList_none, List.cons_append, List.nil_append, zb_1, zb_0, ↓reduceIte, if_true, if_false, not_true_eq_false, not_false_eq_true, Bool.false_eq_true, z_10, z_01, eq_self, Bool.and_self, true_or, or_true, false_or, or_false, true_and, and_true, false_and, and_false, and_self, or_self, Nat.reduceLT, Nat.reduceEqDiff, Nat.reduceLeDiff, Nat.reduceAdd, Nat.reduceMul, Nat.reduceSub, zn_lit, zn_add, zn_mul, zn_sub, zn_addneg, zn_lt, zn_le, zn_eq, zn_clamp, zn_in, zn_long, tb_0 hT', T_things hT', Nat.le_refl]
  | succ r ih =>
    intro i π wf o6 o7 hi hπ h2 h3
    have hi' : i < T.1 := by omega
    have hT' : TB (mq_up c e (.inl (0, 6, .inl wf))) a T := TB_upO _ hT hae
    have hcs := cR_s T b i
    have hcl := cR_le T b i
    cases hq : π.testBit i with
    | true =>
      have h4 := ((h2 i).1 hq).2
      have h5 : ∀ k, k < T.1 → rpT T b k ≠ i := by
        intro k hk h
        have := rp_rp hW hG hP hk
        rw [h] at this
        omega
      rw [if_neg (by omega)] at hcs
      obtain ⟨wf', π', p6, p7, g1, g2⟩ := ih (i + 1) π wf o6 o7 (by omega) hπ (fun k => by
        rw [h2 k]
        constructor
        · rintro ⟨a1, a2⟩; exact ⟨a1, by omega⟩
        · rintro ⟨a1, a2⟩; have := h5 k a1; exact ⟨a1, by omega⟩) (fun k hk hr => h3 k hk (by have := h5 k hk; omega))
      refine ⟨wf', π', p6, p7, g1, ?_⟩
      rw [x49_13, ← g2, hcs]
      simp (disch := first | omega | exact zb_1 | exact zb_0 | exact zb_n1 | exact zb_n0) only [x49_15, x49_16, x49_19, x49_22, x49_23, x49_25, x49_26, x49_27, x49_28, x49_92, x49_95, mq_dl_int, mq_dl_ref, mq_dl_null, mq_dl_none, mc_some, Option.toList_some, Option.toList_none, List.cons_append, List.nil_append, zb_1, zb_0, ↓reduceIte, if_true, if_false, not_true_eq_false, not_false_eq_true, Bool.false_eq_true, z_10, z_01, eq_self, Bool.and_self, true_or, or_true, false_or, or_false, true_and, and_true, false_and, and_false, and_self, or_self, Nat.reduceLT, Nat.reduceEqDiff, Nat.reduceLeDiff, Nat.reduceAdd, Nat.reduceMul, Nat.reduceSub, zn_lit, zn_add, zn_mul, zn_sub, zn_addneg, zn_lt, zn_le, zn_eq, zn_clamp, zn_in, zn_long, tb_0 hT', T_things hT', show ¬ T.1 ≤ i by omega, zn_shr, zn_bt, hq, zo_t, Nat.add_zero]
    | false =>
      have h4 : rpT T b i = i := by
        have a1 := (rp_spec hW hP hi').1
        by_cases q : rpT T b i < i
        · rw [(h2 i).2 ⟨hi', q⟩] at hq; cases hq
        · omega
      rw [if_pos h4] at hcs
      obtain ⟨ρ, r1, r2, r3⟩ := M_reach (n := n) (s := s) (I := I) (J := J) (A := A) (B := B) (R := R) (Q := Q) hT' hW d b i hb hi'
      have hr : ∀ j, ρ.testBit j = true ↔ j < T.1 ∧ rpT T b j = i := by
        intro j
        rw [r2 j]
        constructor
        · rintro ⟨a1, a2⟩
          exact ⟨a1, by rw [← (rp_eq hW hG hP hi' a1).1 a2, h4]⟩
        · rintro ⟨a1, a2⟩
          exact ⟨a1, (rp_eq hW hG hP hi' a1).2 (by rw [h4, a2])⟩
      have hno := zn_not ρ π r1 hπ (fun k hk => by
        have a1 := (hr k).1 hk
        cases q : π.testBit k with
        | false => rfl
        | true => have := ((h2 k).1 q).2; omega)
      have hr2 : ∀ j, (ρ ||| (1 <<< i)).testBit j = true ↔ j < T.1 ∧ rpT T b j = i := by
        intro j
        rw [tb_or1, Bool.or_eq_true, decide_eq_true_eq, hr j]
        constructor
        · rintro (h | h)
          · exact h
          · subst h; exact ⟨hi', h4⟩
        · intro h; exact Or.inl h
      obtain ⟨wf1, k1, k2⟩ := M_dk (n := n) (s := s) (c := c) (I := I) (J := J) (A := A) (B := B) (R := R) (Q := Q) hT hW he hae (d + 1) b π (cR T b i) i (ρ ||| (1 <<< i)) (or1_lt r1 (by omega)) T.1 0 wf (by omega)
      obtain ⟨wf', π', p6, p7, g1, g2⟩ := ih (i + 1) (π ||| (ρ ||| (1 <<< i))) wf1 (some (.int (zn (ρ ||| (1 <<< i))))) (some (.int (zn T.1))) (by omega) (Nat.or_lt_two_pow (n := 6) hπ (or1_lt r1 (by omega))) (fun k => by
        rw [Nat.testBit_or, Bool.or_eq_true, h2 k, hr2 k]
        constructor
        · rintro (⟨a1, a2⟩ | ⟨a1, a2⟩) <;> exact ⟨a1, by omega⟩
        · rintro ⟨a1, a2⟩
          by_cases q : rpT T b k = i
          · exact Or.inr ⟨a1, q⟩
          · exact Or.inl ⟨a1, by omega⟩) (fun k hk hrk => by
        rw [k1 k]
        by_cases q : rpT T b k = i
        · rw [if_pos ⟨by omega, hk, (hr2 k).2 ⟨hk, q⟩⟩]
          unfold qw
          rw [q]
        · rw [if_neg (fun h => q ((hr2 k).1 h.2.2).2)]
          exact h3 k hk (by omega))
      refine ⟨wf', π', p6, p7, g1, ?_⟩
      rw [x49_13, ← g2, hcs]
      simp (disch := first | omega | exact zb_1 | exact zb_0 | exact zb_n1 | exact zb_n0) only [x49_15, x49_16, x49_19, x49_22, x49_23, x49_25, x49_26, x49_27, x49_28, x49_31, x49_32, x49_34, x49_35, x49_38, x49_39, x49_40, x49_41, x49_42, x49_43, x49_45, x49_46, x49_47, x49_49, x49_50, mq_dl_int, mq_dl_ref, mq_dl_null, mq_dl_none, mc_some, Option.toList_some, Option.toList_none, List.cons_append, List.nil_append, zb_1, zb_0, ↓reduceIte, if_true, if_false, not_true_eq_false, not_false_eq_true, Bool.false_eq_true, z_10, z_01, eq_self, Bool.and_self, true_or, or_true, false_or, or_false, true_and, and_true, false_and, and_false, and_self, or_self, Nat.reduceLT, Nat.reduceEqDiff, Nat.reduceLeDiff, Nat.reduceAdd, Nat.reduceMul, Nat.reduceSub, zn_lit, zn_add, zn_mul, zn_sub, zn_addneg, zn_lt, zn_le, zn_eq, zn_clamp, zn_in, zn_long, tb_0 hT', T_things hT', show ¬ T.1 ≤ i by omega, zn_shr, zn_bt, hq, zo_f, r3, hno, zn_shl, zn_or]
      rw [k2]
      simp (disch := first | omega | exact zb_1 | exact zb_0 | exact zb_n1 | exact zb_n0) only [x49_84, x49_85, x49_87, x49_88, x49_89, x49_92, x49_95, mq_dl_int, mq_dl_ref, mq_dl_null, mq_dl_none, mc_some, Option.toList_some, Option.toList_none, List.cons_append, List.nil_append, zb_1, zb_0, ↓reduceIte, if_true, if_false, not_true_eq_false, not_false_eq_true, Bool.false_eq_true, z_10, z_01, eq_self, Bool.and_self, true_or, or_true, false_or, or_false, true_and, and_true, false_and, and_false, and_self, or_self, Nat.reduceLT, Nat.reduceEqDiff, Nat.reduceLeDiff, Nat.reduceAdd, Nat.reduceMul, Nat.reduceSub, zn_lit, zn_add, zn_mul, zn_sub, zn_addneg, zn_lt, zn_le, zn_eq, zn_clamp, zn_in, zn_long, zn_or]
def quO (T : ZT) (b : Nat) : Option ZT := if gokT T (qw T b) (qv T b) (cR T b T.1) = true then some (gaT T (qw T b) (qv T b) (cR T b T.1)) else none
theorem M_div (hT : TB c a T) (hW : WT T) (hG : gdT T = true) (hn : 46 ≤ n) (han : a + 2 < n) (d b : Nat) (hb : b < 64) (hP : PR T b) : ∃ n' s' c' v, (∀ x, x < n ∨ n' ≤ x → c' x = c x) ∧ n ≤ n' ∧ n' ≤ n + 5 ∧ s ≤ s' ∧ s' ≤ s + 243 ∧ (((qv T b = 1 ∧ cR T b T.1 = T.1) ∧ v = .ref a) ∨ (¬ (qv T b = 1 ∧ cR T b T.1 = T.1) ∧ ((quO T b = none ∧ v = .null) ∨ ∃ x T', quO T b = some T' ∧ v = .ref x ∧ n ≤ x ∧ x + 2 < n' ∧ TB c' x T' ∧ c' x = tbo T'.1 x (-1) 0 0 0 .null .null))) ∧ mz (d + 3) 49 0 [some (.ref a), some (.int (zn b)), none, none, none, none, none, none] [] (hp n s c I J A B R Q) = some (some (some v), hp n' s' c' I J A B R Q) := by
  have h1 := hW.2.1
  have hL := qw_LW hW hG hP
  have hv1 := qv_pos hW hP
  have hv2 := qv_le (b := b) hW
  have hm := cR_le T b T.1
  have hz0 : ∀ k, (0 : Nat).testBit k = true ↔ k < T.1 ∧ rpT T b k < 0 := by
    intro k
    rw [Nat.zero_testBit]
    constructor
    · intro h; cases h
    · rintro ⟨_, h⟩; omega
  obtain ⟨wf, π, p6, p7, g1, g2⟩ := M_di (n := n + 1) (s := s + 6) (I := I) (J := J) (A := A) (B := B) (R := R) (Q := Q) hT hW hG hn han (d + 1) b hb hP T.1 0 0 (fun _ => zn 0) none none (by omega) (by omega) hz0 (fun k _ h => by omega)
  have hT' : TB (mq_up c n (.inl (0, 6, .inl wf))) a T := TB_upO _ hT han
  have e4 := M_ord (n := n + 1) (s := s + 6) (I := I) (J := J) (A := A) (B := B) (R := R) (Q := Q) hT' hW (d + 1) b hb
  have es : mz (d + 3) 49 0 [some (.ref a), some (.int (zn b)), none, none, none, none, none, none] [] (hp n s c I J A B R Q) = mz (d + 3) 49 98 [some (.ref a), some (.int (zn b)), some (.ref n), some (.int (zn π)), some (.int (zn (cR T b T.1))), some (.int (zn T.1)), p6, p7] [] (hp (n + 1) (s + 6) (mq_up c n (.inl (0, 6, .inl wf))) I J A B R Q) := by
    rw [← g2]
    simp (disch := first | omega | exact zb_1 | exact zb_0 | exact zb_n1 | exact zb_n0) only [x49_0, x49_2, x49_4, x49_5, x49_6, x49_7, x49_8, x49_10, x49_11, mq_dl_int, mq_dl_ref, mq_dl_null, mq_dl_none, mc_some, Option.toList_some, Option.toList_none, List.cons_append, List.nil_append, zb_1, zb_0, ↓reduceIte, if_true, if_false, not_true_eq_false, not_false_eq_true, Bool.false_eq_true, z_10, z_01, eq_self, Bool.and_self, true_or, or_true, false_or, or_false, true_and, and_true, false_and, and_false, and_self, or_self, Nat.reduceLT, Nat.reduceEqDiff, Nat.reduceLeDiff, Nat.reduceAdd, Nat.reduceMul, Nat.reduceSub, zn_lit, zn_add, zn_mul, zn_sub, zn_addneg, zn_lt, zn_le, zn_eq, zn_clamp, zn_in, zn_long, hp_1, hp_mkB, Nat.not_lt_zero]
    rfl
  have hfr : ∀ x, x < n ∨ n + 1 ≤ x → mq_up c n (.inl (0, 6, .inl wf)) x = c x := fun x hx => up_ne _ _ _ _ (by omega)
  by_cases q : qv T b = 1 ∧ cR T b T.1 = T.1
  · refine ⟨n + 1, s + 6, mq_up c n (.inl (0, 6, .inl wf)), .ref a, hfr, by omega, by omega, by omega, by omega, Or.inl ⟨q, rfl⟩, ?_⟩
    rw [es]
    have e3 := M_same (n := n + 1) (s := s + 6) (I := I) (J := J) (A := A) (B := B) (R := R) (Q := Q) (e := n) hT' hW d
    simp (disch := first | omega | exact zb_1 | exact zb_0 | exact zb_n1 | exact zb_n0) only [x49_98, x49_99, x49_100, x49_102, x49_103, x49_104, x49_107, x49_110, mq_dl_int, mq_dl_ref, mq_dl_null, mq_dl_none, mc_some, Option.toList_some, Option.toList_none, List.cons_append, List.nil_append, zb_1, zb_0, ↓reduceIte, if_true, if_false, not_true_eq_false, not_false_eq_true, Bool.false_eq_true, z_10, z_01, eq_self, Bool.and_self, true_or, or_true, false_or, or_false, true_and, and_true, false_and, and_false, and_self, or_self, Nat.reduceLT, Nat.reduceEqDiff, Nat.reduceLeDiff, Nat.reduceAdd, Nat.reduceMul, Nat.reduceSub, zn_lit, zn_add, zn_mul, zn_sub, zn_addneg, zn_lt, zn_le, zn_eq, zn_clamp, zn_in, zn_long, e4, q.1, q.2, e3]
  · obtain ⟨c', k1, k2, k3⟩ := M_gath (n := n + 1) (s := s + 6) (c := mq_up c n (.inl (0, 6, .inl wf))) (I := I) (J := J) (A := A) (B := B) (R := R) (Q := Q) (e := n) (m := cR T b T.1) (v := qv T b) hT' hW hn (up_eq _ _ _) g1 hL (by omega) (by omega) hv1 (by omega) q d
    refine ⟨n + 1 + 4, s + 6 + 237, c', if gokT T (qw T b) (qv T b) (cR T b T.1) = true then .ref (n + 1 + 1) else .null, fun x hx => by rw [k1 x (by omega), hfr x (by omega)], by omega, by omega, by omega, by omega, Or.inr ⟨q, ?_⟩, ?_⟩
    · unfold quO
      by_cases q2 : gokT T (qw T b) (qv T b) (cR T b T.1) = true
      · right
        rw [if_pos q2, if_pos q2]
        obtain ⟨y1, y2⟩ := k2 q2
        exact ⟨n + 1 + 1, _, rfl, rfl, by omega, by omega, y1, y2⟩
      · left
        rw [if_neg q2, if_neg q2]
        exact ⟨rfl, rfl⟩
    · rw [es]
      by_cases q2 : gokT T (qw T b) (qv T b) (cR T b T.1) = true
      · rw [if_pos q2] at k3 ⊢
        simp (disch := first | omega | exact zb_1 | exact zb_0 | exact zb_n1 | exact zb_n0) only [x49_98, x49_99, x49_100, x49_102, x49_103, x49_104, x49_107, x49_110, mq_dl_int, mq_dl_ref, mq_dl_null, mq_dl_none, mc_some, Option.toList_some, Option.toList_none, List.cons_append, List.nil_append, zb_1, zb_0, ↓reduceIte, if_true, if_false, not_true_eq_false, not_false_eq_true, Bool.false_eq_true, z_10, z_01, eq_self, Bool.and_self, true_or, or_true, false_or, or_false, true_and, and_true, false_and, and_false, and_self, or_self, Nat.reduceLT, Nat.reduceEqDiff, Nat.reduceLeDiff, Nat.reduceAdd, Nat.reduceMul, Nat.reduceSub, zn_lit, zn_add, zn_mul, zn_sub, zn_addneg, zn_lt, zn_le, zn_eq, zn_clamp, zn_in, zn_long, e4, k3]
      · rw [if_neg q2] at k3 ⊢
        simp (disch := first | omega | exact zb_1 | exact zb_0 | exact zb_n1 | exact zb_n0) only [x49_98, x49_99, x49_100, x49_102, x49_103, x49_104, x49_107, x49_110N, mq_dl_int, mq_dl_ref, mq_dl_null, mq_dl_none, mc_some, Option.toList_some, Option.toList_none, List.cons_append, List.nil_append, zb_1, zb_0, ↓reduceIte, if_true, if_false, not_true_eq_false, not_false_eq_true, Bool.false_eq_true, z_10, z_01, eq_self, Bool.and_self, true_or, or_true, false_or, or_false, true_and, and_true, false_and, and_false, and_self, or_self, Nat.reduceLT, Nat.reduceEqDiff, Nat.reduceLeDiff, Nat.reduceAdd, Nat.reduceMul, Nat.reduceSub, zn_lit, zn_add, zn_mul, zn_sub, zn_addneg, zn_lt, zn_le, zn_eq, zn_clamp, zn_in, zn_long, e4, k3]
end DV
