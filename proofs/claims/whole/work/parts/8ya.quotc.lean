/-! QUOTIENT: the class -/
theorem tb_or1 (ρ k j : Nat) : (ρ ||| (1 <<< k)).testBit j = (ρ.testBit j || decide (j = k)) := by
  rw [Nat.testBit_or, Nat.testBit_shiftLeft]
  congr 1
  by_cases q : j = k
  · subst q; simp
  · by_cases q2 : j ≥ k
    · have : (1 : Nat).testBit (j - k) = false := by
        rw [show j - k = (j - k - 1) + 1 by omega, Nat.testBit_succ]
        simp
      simp [q, this]
    · simp [q, q2]
theorem or1_lt {ρ k : Nat} (h : ρ < 64) (hk : k < 6) : ρ ||| (1 <<< k) < 64 := by
  have : (1 : Nat) <<< k < 2 ^ 6 := by
    rw [Nat.one_shiftLeft]
    exact Nat.pow_lt_pow_right (by omega) hk
  exact Nat.or_lt_two_pow (n := 6) h this
theorem zn_not (ρ π : Nat) (h1 : ρ < 64) (h2 : π < 64) (h : ∀ k, ρ.testBit k = true → π.testBit k = false) : zn ρ &&& (zn π ^^^ -zn 1) = zn ρ := by
  have key : ∀ r p : Fin 64, r.1 &&& p.1 = 0 → zn r.1 &&& (zn p.1 ^^^ -zn 1) = zn r.1 := by decide +kernel
  refine key ⟨ρ, h1⟩ ⟨π, h2⟩ ?_
  apply Nat.eq_of_testBit_eq
  intro k
  rw [Nat.testBit_and, Nat.zero_testBit]
  cases q : ρ.testBit k with
  | false => rfl
  | true => rw [h k q]; rfl
section QL
variable {n s : Nat} {c : Nat → mq_E} {I : Nat → Int32} {J : Nat → Int64} {A : Nat → Nat → Int32} {B : Nat → Nat → Int64} {R : Nat → Value} {Q : Nat → Nat → Option Nat}
variable {a : Nat} {T : ZT}
theorem M_rk (hT : TB c a T) (hW : WT T) (d b i h : Nat) (hb : b < 64) (hi : i < T.1) (hh : h < T.1) : ∀ (r k ρ : Nat), k + r = T.1 → ρ < 64 → ∃ ρ', ρ' < 64 ∧ (∀ j, ρ'.testBit j = true ↔ ρ.testBit j = true ∨ (k ≤ j ∧ j < T.1 ∧ b.testBit h = true ∧ 0 < T.2.1 i h j)) ∧ mz (d + 1) 56 17 [some (.ref a), some (.int (zn i)), some (.int (zn b)), some (.int (zn ρ)), some (.int (zn h)), some (.int (zn k))] [] (hp n s c I J A B R Q) = mz (d + 1) 56 61 [some (.ref a), some (.int (zn i)), some (.int (zn b)), some (.int (zn ρ')), some (.int (zn h)), some (.int (zn T.1))] [] (hp n s c I J A B R Q) := by
  have h1 := hW.2.1
  intro r
  induction r with
  | zero =>
    intro k ρ hk hρ
    have e : k = T.1 := by omega
    subst e
    refine ⟨ρ, hρ, fun j => ⟨Or.inl, fun h => h.elim id (fun h => by omega)⟩, ?_⟩
    simp (disch := first | omega | exact zb_1 | exact zb_0 | exact zb_n1 | exact zb_n0) only [x56_17, x56_19, x56_20, x56_23, mq_dl_int, mq_dl_ref, mq_dl_null, mq_dl_none, mc_some, Option.toList_some, Option.toList_none, List.cons_append, List.nil_append, zb_1, zb_0, ↓reduceIte, if_true, if_false, not_true_eq_false, not_false_eq_true, Bool.false_eq_true, z_10, z_01, eq_self, Bool.and_self, true_or, or_true, false_or, or_false, true_and, and_true, false_and, and_false, and_self, or_self, Nat.reduceLT, Nat.reduceEqDiff, Nat.reduceLeDiff, Nat.reduceAdd, Nat.reduceMul, Nat.reduceSub, zn_lit, zn_add, zn_mul, zn_sub, zn_addneg, zn_lt, zn_le, zn_eq, zn_clamp, zn_in, zn_long, tb_0 hT, T_things hT, Nat.le_refl]
  | succ r ih =>
    intro k ρ hk hρ
    have hs := hW.2.2.1 i h k
    cases hq : b.testBit h with
    | false =>
      obtain ⟨ρ', g1, g2, g3⟩ := ih (k + 1) ρ (by omega) hρ
      refine ⟨ρ', g1, fun j => ?_, ?_⟩
      · rw [g2 j, hq]; simp
      · rw [x56_17, ← g3]
        simp (disch := first | omega | exact zb_1 | exact zb_0 | exact zb_n1 | exact zb_n0) only [x56_19, x56_20, x56_23, x56_26, x56_27, x56_29, x56_30, x56_31, x56_32, x56_33, x56_55, x56_58, mq_dl_int, mq_dl_ref, mq_dl_null, mq_dl_none, mc_some, Option.toList_some, Option.toList_none, List.cons_append, List.nil_append, zb_1, zb_0, ↓reduceIte, if_true, if_false, not_true_eq_false, not_false_eq_true, Bool.false_eq_true, z_10, z_01, eq_self, Bool.and_self, true_or, or_true, false_or, or_false, true_and, and_true, false_and, and_false, and_self, or_self, Nat.reduceLT, Nat.reduceEqDiff, Nat.reduceLeDiff, Nat.reduceAdd, Nat.reduceMul, Nat.reduceSub, zn_lit, zn_add, zn_mul, zn_sub, zn_addneg, zn_lt, zn_le, zn_eq, zn_clamp, zn_in, zn_long, tb_0 hT, T_things hT, show ¬ T.1 ≤ k by omega, zn_shr, zn_bt, hq, zo_f, zo_e1]
    | true =>
      by_cases q : T.2.1 i h k = 0
      · obtain ⟨ρ', g1, g2, g3⟩ := ih (k + 1) ρ (by omega) hρ
        refine ⟨ρ', g1, fun j => ?_, ?_⟩
        · rw [g2 j, hq]
          constructor
          · rintro (h | ⟨h2, h3⟩)
            · exact Or.inl h
            · exact Or.inr ⟨by omega, h3⟩
          · rintro (h | ⟨h2, h3, h4, h5⟩)
            · exact Or.inl h
            · refine Or.inr ⟨?_, h3, h4, h5⟩
              by_cases q2 : j = k
              · rw [q2, q] at h5; omega
              · omega
        · rw [x56_17, ← g3]
          simp (disch := first | omega | exact zb_1 | exact zb_0 | exact zb_n1 | exact zb_n0) only [x56_19, x56_20, x56_23, x56_26, x56_27, x56_29, x56_30, x56_31, x56_32, x56_33, x56_36, x56_37, x56_38, x56_40, x56_42, x56_45, x56_55, x56_58, mq_dl_int, mq_dl_ref, mq_dl_null, mq_dl_none, mc_some, Option.toList_some, Option.toList_none, List.cons_append, List.nil_append, zb_1, zb_0, ↓reduceIte, if_true, if_false, not_true_eq_false, not_false_eq_true, Bool.false_eq_true, z_10, z_01, eq_self, Bool.and_self, true_or, or_true, false_or, or_false, true_and, and_true, false_and, and_false, and_self, or_self, Nat.reduceLT, Nat.reduceEqDiff, Nat.reduceLeDiff, Nat.reduceAdd, Nat.reduceMul, Nat.reduceSub, zn_lit, zn_add, zn_mul, zn_sub, zn_addneg, zn_lt, zn_le, zn_eq, zn_clamp, zn_in, zn_long, tb_0 hT, T_things hT, T_share hT, show ¬ T.1 ≤ k by omega, zn_shr, zn_bt, hq, zo_t, zo_e1, q]
      · obtain ⟨ρ', g1, g2, g3⟩ := ih (k + 1) (ρ ||| (1 <<< k)) (by omega) (or1_lt hρ (by omega))
        refine ⟨ρ', g1, fun j => ?_, ?_⟩
        · rw [g2 j, hq, tb_or1, Bool.or_eq_true, decide_eq_true_eq]
          constructor
          · rintro ((h | h) | ⟨h2, h3⟩)
            · exact Or.inl h
            · subst h; exact Or.inr ⟨by omega, by omega, rfl, by omega⟩
            · exact Or.inr ⟨by omega, h3⟩
          · rintro (h | ⟨h2, h3, h4, h5⟩)
            · exact Or.inl (Or.inl h)
            · by_cases q2 : j = k
              · exact Or.inl (Or.inr q2)
              · exact Or.inr ⟨by omega, h3, h4, h5⟩
        · rw [x56_17, ← g3]
          simp (disch := first | omega | exact zb_1 | exact zb_0 | exact zb_n1 | exact zb_n0) only [x56_19, x56_20, x56_23, x56_26, x56_27, x56_29, x56_30, x56_31, x56_32, x56_33, x56_36, x56_37, x56_38, x56_40, x56_42, x56_45, x56_48, x56_49, x56_50, x56_52, x56_53, x56_54, x56_55, x56_58, mq_dl_int, mq_dl_ref, mq_dl_null, mq_dl_none, mc_some, Option.toList_some, Option.toList_none, List.cons_append, List.nil_append, zb_1, zb_0, ↓reduceIte, if_true, if_false, not_true_eq_false, not_false_eq_true, Bool.false_eq_true, z_10, z_01, eq_self, Bool.and_self, true_or, or_true, false_or, or_false, true_and, and_true, false_and, and_false, and_self, or_self, Nat.reduceLT, Nat.reduceEqDiff, Nat.reduceLeDiff, Nat.reduceAdd, Nat.reduceMul, Nat.reduceSub, zn_lit, zn_add, zn_mul, zn_sub, zn_addneg, zn_lt, zn_le, zn_eq, zn_clamp, zn_in, zn_long, tb_0 hT, T_things hT, T_share hT, show ¬ T.1 ≤ k by omega, zn_shr, zn_bt, zn_shl, zn_or, hq, zo_t, zo_e1, q]
theorem M_rh (hT : TB c a T) (hW : WT T) (d b i : Nat) (hb : b < 64) (hi : i < T.1) : ∀ (r h ρ : Nat) (o : Option Value), h + r = T.1 → ρ < 64 → ∃ ρ', ρ' < 64 ∧ (∀ j, ρ'.testBit j = true ↔ ρ.testBit j = true ∨ (j < T.1 ∧ ∃ x, h ≤ x ∧ x < T.1 ∧ b.testBit x = true ∧ 0 < T.2.1 i x j)) ∧ mz (d + 1) 56 5 [some (.ref a), some (.int (zn i)), some (.int (zn b)), some (.int (zn ρ)), some (.int (zn h)), o] [] (hp n s c I J A B R Q) = some (some (some (.int (zn ρ'))), (hp n s c I J A B R Q)) := by
  have h1 := hW.2.1
  intro r
  induction r with
  | zero =>
    intro h ρ o hh hρ
    have e : h = T.1 := by omega
    subst e
    refine ⟨ρ, hρ, fun j => ⟨Or.inl, fun h => h.elim id (fun ⟨_, x, h2, h3, _⟩ => by omega)⟩, ?_⟩
    simp (disch := first | omega | exact zb_1 | exact zb_0 | exact zb_n1 | exact zb_n0) only [x56_5, x56_7, x56_8, x56_11, x56_67, x56_68, mq_dl_int, mq_dl_ref, mq_dl_null, mq_dl_none, mc_some, Option.toList_some, Option.toList_none, List.cons_append, List.nil_append, zb_1, zb_0, ↓reduceIte, if_true, if_false, not_true_eq_false, not_false_eq_true, Bool.false_eq_true, z_10, z_01, eq_self, Bool.and_self, true_or, or_true, false_or, or_false, true_and, and_true, false_and, and_false, and_self, or_self, Nat.reduceLT, Nat.reduceEqDiff, Nat.reduceLeDiff, Nat.reduceAdd, Nat.reduceMul, Nat.reduceSub, zn_lit, zn_add, zn_mul, zn_sub, zn_addneg, zn_lt, zn_le, zn_eq, zn_clamp, zn_in, zn_long, tb_0 hT, T_things hT, Nat.le_refl]
  | succ r ih =>
    intro h ρ o hh hρ
    obtain ⟨ρ1, g1, g2, g3⟩ := M_rk (n := n) (s := s) (c := c) (I := I) (J := J) (A := A) (B := B) (R := R) (Q := Q) hT hW d b i h hb hi (by omega) T.1 0 ρ (by omega) hρ
    obtain ⟨ρ', k1, k2, k3⟩ := ih (h + 1) ρ1 (some (.int (zn T.1))) (by omega) g1
    refine ⟨ρ', k1, fun j => ?_, ?_⟩
    · rw [k2 j, g2 j]
      constructor
      · rintro ((h2 | ⟨_, h2, h3, h4⟩) | ⟨h2, x, h3, h4⟩)
        · exact Or.inl h2
        · exact Or.inr ⟨h2, h, by omega, by omega, h3, h4⟩
        · exact Or.inr ⟨h2, x, by omega, h4⟩
      · rintro (h2 | ⟨h2, x, h3, h4, h5⟩)
        · exact Or.inl (Or.inl h2)
        · by_cases q : x = h
          · subst q; exact Or.inl (Or.inr ⟨by omega, h2, h5⟩)
          · exact Or.inr ⟨h2, x, by omega, h4, h5⟩
    · rw [x56_5]
      simp (disch := first | omega | exact zb_1 | exact zb_0 | exact zb_n1 | exact zb_n0) only [x56_7, x56_8, x56_11, x56_14, x56_15, mq_dl_int, mq_dl_ref, mq_dl_null, mq_dl_none, mc_some, Option.toList_some, Option.toList_none, List.cons_append, List.nil_append, zb_1, zb_0, ↓reduceIte, if_true, if_false, not_true_eq_false, not_false_eq_true, Bool.false_eq_true, z_10, z_01, eq_self, Bool.and_self, true_or, or_true, false_or, or_false, true_and, and_true, false_and, and_false, and_self, or_self, Nat.reduceLT, Nat.reduceEqDiff, Nat.reduceLeDiff, Nat.reduceAdd, Nat.reduceMul, Nat.reduceSub, zn_lit, zn_add, zn_mul, zn_sub, zn_addneg, zn_lt, zn_le, zn_eq, zn_clamp, zn_in, zn_long, tb_0 hT, T_things hT, show ¬ T.1 ≤ h by omega]
      rw [g3]
      simp (disch := first | omega | exact zb_1 | exact zb_0 | exact zb_n1 | exact zb_n0) only [x56_61, x56_64, mq_dl_int, mq_dl_ref, mq_dl_null, mq_dl_none, mc_some, Option.toList_some, Option.toList_none, List.cons_append, List.nil_append, zb_1, zb_0, ↓reduceIte, if_true, if_false, not_true_eq_false, not_false_eq_true, Bool.false_eq_true, z_10, z_01, eq_self, Bool.and_self, true_or, or_true, false_or, or_false, true_and, and_true, false_and, and_false, and_self, or_self, Nat.reduceLT, Nat.reduceEqDiff, Nat.reduceLeDiff, Nat.reduceAdd, Nat.reduceMul, Nat.reduceSub, zn_lit, zn_add, zn_mul, zn_sub, zn_addneg, zn_lt, zn_le, zn_eq, zn_clamp, zn_in, zn_long]
      exact k3
theorem M_reach (hT : TB c a T) (hW : WT T) (d b i : Nat) (hb : b < 64) (hi : i < T.1) : ∃ ρ, ρ < 64 ∧ (∀ j, ρ.testBit j = true ↔ j < T.1 ∧ rB T b i j = true) ∧ mz (d + 1) 56 0 [some (.ref a), some (.int (zn i)), some (.int (zn b)), none, none, none] [] (hp n s c I J A B R Q) = some (some (some (.int (zn ρ))), (hp n s c I J A B R Q)) := by
  obtain ⟨ρ, g1, g2, g3⟩ := M_rh (n := n) (s := s) (c := c) (I := I) (J := J) (A := A) (B := B) (R := R) (Q := Q) hT hW d b i hb hi T.1 0 0 none (by omega) (by omega)
  refine ⟨ρ, g1, fun j => ?_, ?_⟩
  · rw [g2 j, rB_iff, Nat.zero_testBit]
    constructor
    · rintro (h | ⟨h2, x, h3, h4, h5, h6⟩)
      · cases h
      · exact ⟨h2, x, h4, h5, h6⟩
    · rintro ⟨h2, x, h4, h5, h6⟩
      exact Or.inr ⟨h2, x, by omega, h4, h5, h6⟩
  · simp only [x56_0, x56_1, x56_2, x56_3, mq_dl_int, mq_dl_ref, mq_dl_null, mq_dl_none, mc_some, Option.toList_some, Option.toList_none, List.cons_append, List.nil_append, zb_1, zb_0, ↓reduceIte, if_true, if_false, not_true_eq_false, not_false_eq_true, Bool.false_eq_true, z_10, z_01, eq_self, Bool.and_self, true_or, or_true, false_or, or_false, true_and, and_true, false_and, and_false, and_self, or_self, Nat.reduceLT, Nat.reduceEqDiff, Nat.reduceLeDiff, Nat.reduceAdd, Nat.reduceMul, Nat.reduceSub, zn_lit, zn_add, zn_mul, zn_sub, zn_addneg, zn_lt, zn_le, zn_eq, zn_clamp, zn_in, zn_long]
    exact g3
theorem M_orl (hT : TB c a T) (hW : WT T) (d b : Nat) (hb : b < 64) : ∀ (r k x : Nat), k + r = T.1 → mz (d + 1) 57 5 [some (.ref a), some (.int (zn b)), some (.long (zln x)), none, some (.int (zn k))] [] (hp n s c I J A B R Q) = some (some (some (.long (zln (x + zns (fun h => if b.testBit h = true then szT T h else 0) k r)))), (hp n s c I J A B R Q)) := by
  have h1 := hW.2.1
  intro r
  induction r with
  | zero =>
    intro k x hk
    have e : k = T.1 := by omega
    subst e
    simp (disch := first | omega | exact zb_1 | exact zb_0 | exact zb_n1 | exact zb_n0) only [x57_5, x57_7, x57_8, x57_11, x57_40, x57_41, mq_dl_int, mq_dl_ref, mq_dl_null, mq_dl_none, mc_some, Option.toList_some, Option.toList_none, List.cons_append, List.nil_append, zb_1, zb_0, ↓reduceIte, if_true, if_false, not_true_eq_false, not_false_eq_true, Bool.false_eq_true, z_10, z_01, eq_self, Bool.and_self, true_or, or_true, false_or, or_false, true_and, and_true, false_and, and_false, and_self, or_self, Nat.reduceLT, Nat.reduceEqDiff, Nat.reduceLeDiff, Nat.reduceAdd, Nat.reduceMul, Nat.reduceSub, zn_lit, zn_add, zn_mul, zn_sub, zn_addneg, zn_lt, zn_le, zn_eq, zn_clamp, zn_in, zn_long, tb_0 hT, T_things hT, Nat.le_refl, zns, Nat.add_zero]
  | succ r ih =>
    intro k x hk
    rw [x57_5]
    cases hq : b.testBit k with
    | true =>
      simp (disch := first | omega | exact zb_1 | exact zb_0 | exact zb_n1 | exact zb_n0) only [x57_7, x57_8, x57_11, x57_14, x57_15, x57_17, x57_18, x57_19, x57_20, x57_21, x57_24, x57_25, x57_26, x57_28, x57_31, x57_32, x57_33, x57_34, x57_37, mq_dl_int, mq_dl_ref, mq_dl_null, mq_dl_none, mc_some, Option.toList_some, Option.toList_none, List.cons_append, List.nil_append, zb_1, zb_0, ↓reduceIte, if_true, if_false, not_true_eq_false, not_false_eq_true, Bool.false_eq_true, z_10, z_01, eq_self, Bool.and_self, true_or, or_true, false_or, or_false, true_and, and_true, false_and, and_false, and_self, or_self, Nat.reduceLT, Nat.reduceEqDiff, Nat.reduceLeDiff, Nat.reduceAdd, Nat.reduceMul, Nat.reduceSub, zn_lit, zn_add, zn_mul, zn_sub, zn_addneg, zn_lt, zn_le, zn_eq, zn_clamp, zn_in, zn_long, zln_lit, zln_add, zln_mul, zln_lt, zln_le, zln_eq, zln_int, tb_0 hT, T_things hT, T_size hT hW, zl_sz hW, show ¬ T.1 ≤ k by omega, zn_shr, zn_bt, hq, zo_t, zo_e1, zns]
      rw [ih (k + 1) _ (by omega), Nat.add_assoc]
    | false =>
      simp (disch := first | omega | exact zb_1 | exact zb_0 | exact zb_n1 | exact zb_n0) only [x57_7, x57_8, x57_11, x57_14, x57_15, x57_17, x57_18, x57_19, x57_20, x57_21, x57_34, x57_37, mq_dl_int, mq_dl_ref, mq_dl_null, mq_dl_none, mc_some, Option.toList_some, Option.toList_none, List.cons_append, List.nil_append, zb_1, zb_0, ↓reduceIte, if_true, if_false, not_true_eq_false, not_false_eq_true, Bool.false_eq_true, z_10, z_01, eq_self, Bool.and_self, true_or, or_true, false_or, or_false, true_and, and_true, false_and, and_false, and_self, or_self, Nat.reduceLT, Nat.reduceEqDiff, Nat.reduceLeDiff, Nat.reduceAdd, Nat.reduceMul, Nat.reduceSub, zn_lit, zn_add, zn_mul, zn_sub, zn_addneg, zn_lt, zn_le, zn_eq, zn_clamp, zn_in, zn_long, zln_lit, zln_add, zln_mul, zln_lt, zln_le, zln_eq, zln_int, tb_0 hT, T_things hT, show ¬ T.1 ≤ k by omega, zn_shr, zn_bt, hq, zo_f, zo_e1, zns, Nat.zero_add]
      rw [ih (k + 1) _ (by omega)]
theorem M_ord (hT : TB c a T) (hW : WT T) (d b : Nat) (hb : b < 64) : mz (d + 1) 57 0 [some (.ref a), some (.int (zn b)), none, none, none] [] (hp n s c I J A B R Q) = some (some (some (.long (zln (qv T b)))), (hp n s c I J A B R Q)) := by
  simp only [x57_0, x57_1, x57_2, x57_3, mq_dl_int, mq_dl_ref, mq_dl_null, mq_dl_none, mc_some, Option.toList_some, Option.toList_none, List.cons_append, List.nil_append, zb_1, zb_0, ↓reduceIte, if_true, if_false, not_true_eq_false, not_false_eq_true, Bool.false_eq_true, z_10, z_01, eq_self, Bool.and_self, true_or, or_true, false_or, or_false, true_and, and_true, false_and, and_false, and_self, or_self, Nat.reduceLT, Nat.reduceEqDiff, Nat.reduceLeDiff, Nat.reduceAdd, Nat.reduceMul, Nat.reduceSub, zn_lit, zn_add, zn_mul, zn_sub, zn_addneg, zn_lt, zn_le, zn_eq, zn_clamp, zn_in, zn_long, zln_lit, zln_add, zln_mul, zln_lt, zln_le, zln_eq, zln_int]
  rw [M_orl hT hW d b hb T.1 0 0 (by omega), Nat.zero_add]
  rfl
end QL
