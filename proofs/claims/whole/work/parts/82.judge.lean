/-! LAWS: the class's judgement, kept -/
theorem tk_3 (x : Int32) : mq_okv (mp_ft 6 3) (.int x) = true := okv_I _ _ _ rfl
theorem tk_4 (x : Int32) : mq_okv (mp_ft 6 4) (.int x) = true := okv_I _ _ _ rfl
theorem tk_5 (x : Int32) : mq_okv (mp_ft 6 5) (.int x) = true := okv_I _ _ _ rfl
theorem tk_6 (x : Int32) : mq_okv (mp_ft 6 6) (.int x) = true := okv_I _ _ _ rfl
def tset4 (c : Nat → mq_E) (a l : Nat) (x : Nat × Nat × Nat) : Nat → mq_E := tset (tset (tset (tset c a 3 (.int (zn l))) a 4 (.int (zn x.1))) a 5 (.int (zn x.2.1))) a 6 (.int (zn x.2.2))
section JU
variable {n s : Nat} {c : Nat → mq_E} {I : Nat → Int32} {J : Nat → Int64} {A : Nat → Nat → Int32} {B : Nat → Nat → Int64} {R : Nat → Value} {Q : Nat → Nat → Option Nat}
variable {a : Nat} {T : ZT}
theorem J_k (hT : TB c a T) (hW : WT T) (d l m i j : Nat) (hl : 1 ≤ l) (hl4 : l ≤ 4) (hm : m ≤ T.1) (hi : i < T.1) (hj : j < T.1) : ∀ (r k : Nat), k + r = m → mz (d + 3) 111 44 [some (.ref a), some (.int (zn l)), some (.int (zn m)), some (.int (zn i)), some (.int (zn j)), some (.int (zn k))] [] (hp n s c I J A B R Q) = match zfst (fun k => if lwC T l i j k = true then some (i, j, k) else none) k r with
    | some x => some (some none, hp n s (tset4 c a l x) I J A B R Q)
    | none => mz (d + 3) 111 92 [some (.ref a), some (.int (zn l)), some (.int (zn m)), some (.int (zn i)), some (.int (zn j)), some (.int (zn m))] [] (hp n s c I J A B R Q) := by
  have h1 := hW.2.1
  intro r
  induction r with
  | zero =>
    intro k hk
    have e : k = m := by omega
    subst e
    simp (disch := first | omega | exact zb_1 | exact zb_0 | exact zb_n1 | exact zb_n0) only [x111_44, x111_46, x111_47, mq_dl_int, mq_dl_ref, mq_dl_null, mq_dl_none, mc_some, Option.toList_some, Option.toList_none, List.cons_append, List.nil_append, zb_1, zb_0, ↓reduceIte, if_true, if_false, not_true_eq_false, not_false_eq_true, Bool.false_eq_true, z_10, z_01, eq_self, Bool.and_self, true_or, or_true, false_or, or_false, true_and, and_true, false_and, and_false, and_self, or_self, Nat.reduceLT, Nat.reduceEqDiff, Nat.reduceLeDiff, Nat.reduceAdd, Nat.reduceMul, Nat.reduceSub, zn_lit, zn_add, zn_mul, zn_sub, zn_addneg, zn_lt, zn_le, zn_eq, zn_clamp, zn_in, zn_long, zfst, Nat.le_refl]
  | succ r ih =>
    intro k hk
    rw [x111_44]
    by_cases q : lwC T l i j k = true
    · have h3 := TB_tset hT 3 (.int (zn l)) (Or.inr ⟨by omega, _, rfl⟩)
      have h4 := TB_tset h3 4 (.int (zn i)) (Or.inr ⟨by omega, _, rfl⟩)
      have h5 := TB_tset h4 5 (.int (zn j)) (Or.inr ⟨by omega, _, rfl⟩)
      simp (disch := first | omega | exact zb_1 | exact zb_0 | exact zb_n1 | exact zb_n0) only [x111_0, x111_1, x111_2, x111_5, x111_6, x111_7, x111_17, x111_18, x111_19, x111_20, x111_22, x111_22N, x111_23, x111_26, x111_29, x111_30, x111_34, x111_34N, x111_35, x111_38, x111_41, x111_42, x111_46, x111_47, x111_50, x111_50N, x111_51, x111_52, x111_53, x111_55, x111_57, x111_60, x111_63, x111_63N, x111_64, x111_65, x111_68, x111_68N, x111_69, x111_70, x111_73, x111_73N, x111_74, x111_76, x111_79, x111_79N, x111_80, x111_82, x111_85, x111_86, x111_89, x111_95, x111_98, x111_101, x111_104, x111_10, x111_10N, x111_11, x111_14, mq_dl_int, mq_dl_ref, mq_dl_null, mq_dl_none, mc_some, Option.toList_some, Option.toList_none, List.cons_append, List.nil_append, zb_1, zb_0, ↓reduceIte, if_true, if_false, not_true_eq_false, not_false_eq_true, Bool.false_eq_true, z_10, z_01, eq_self, Bool.and_self, true_or, or_true, false_or, or_false, true_and, and_true, false_and, and_false, and_self, or_self, Nat.reduceLT, Nat.reduceEqDiff, Nat.reduceLeDiff, Nat.reduceAdd, Nat.reduceMul, Nat.reduceSub, zn_lit, zn_add, zn_mul, zn_sub, zn_addneg, zn_lt, zn_le, zn_eq, zn_clamp, zn_in, zn_long, tb_0 hT, tb_mo hT, tb_mo h3, tb_mo h4, tb_mo h5, tk_3, tk_4, tk_5, tk_6, hp_tset hT, hp_tset h3, hp_tset h4, hp_tset h5, T_isB hT hW, show ¬ m ≤ k by omega, q, zfst, zo_t, tset4]
    · simp (disch := first | omega | exact zb_1 | exact zb_0 | exact zb_n1 | exact zb_n0) only [x111_0, x111_1, x111_2, x111_5, x111_6, x111_7, x111_17, x111_18, x111_19, x111_20, x111_22, x111_22N, x111_23, x111_26, x111_29, x111_30, x111_34, x111_34N, x111_35, x111_38, x111_41, x111_42, x111_46, x111_47, x111_50, x111_50N, x111_51, x111_52, x111_53, x111_55, x111_57, x111_60, x111_63, x111_63N, x111_64, x111_65, x111_68, x111_68N, x111_69, x111_70, x111_73, x111_73N, x111_74, x111_76, x111_79, x111_79N, x111_80, x111_82, x111_85, x111_86, x111_89, x111_95, x111_98, x111_101, x111_104, x111_10, x111_10N, x111_11, x111_14, mq_dl_int, mq_dl_ref, mq_dl_null, mq_dl_none, mc_some, Option.toList_some, Option.toList_none, List.cons_append, List.nil_append, zb_1, zb_0, ↓reduceIte, if_true, if_false, not_true_eq_false, not_false_eq_true, Bool.false_eq_true, z_10, z_01, eq_self, Bool.and_self, true_or, or_true, false_or, or_false, true_and, and_true, false_and, and_false, and_self, or_self, Nat.reduceLT, Nat.reduceEqDiff, Nat.reduceLeDiff, Nat.reduceAdd, Nat.reduceMul, Nat.reduceSub, zn_lit, zn_add, zn_mul, zn_sub, zn_addneg, zn_lt, zn_le, zn_eq, zn_clamp, zn_in, zn_long, tb_0 hT, T_isB hT hW, show ¬ m ≤ k by omega, q, zfst, zo_f]
      exact ih (k + 1) (by omega)
theorem J_j (hT : TB c a T) (hW : WT T) (d l m i : Nat) (hl : 1 ≤ l) (hl4 : l ≤ 4) (hm : m ≤ T.1) (hi : i < T.1) : ∀ (r j : Nat) (o5 : Option Value), j + r = T.1 → ∃ o5', mz (d + 3) 111 32 [some (.ref a), some (.int (zn l)), some (.int (zn m)), some (.int (zn i)), some (.int (zn j)), o5] [] (hp n s c I J A B R Q) = match zfst (fun j => zfst (fun k => if lwC T l i j k = true then some (i, j, k) else none) 0 m) j r with
    | some x => some (some none, hp n s (tset4 c a l x) I J A B R Q)
    | none => mz (d + 3) 111 98 [some (.ref a), some (.int (zn l)), some (.int (zn m)), some (.int (zn i)), some (.int (zn T.1)), o5'] [] (hp n s c I J A B R Q) := by
  have h1 := hW.2.1
  intro r
  induction r with
  | zero =>
    intro j o5 hj
    have e : j = T.1 := by omega
    subst e
    refine ⟨o5, ?_⟩
    simp (disch := first | omega | exact zb_1 | exact zb_0 | exact zb_n1 | exact zb_n0) only [x111_32, x111_34, x111_35, x111_38, mq_dl_int, mq_dl_ref, mq_dl_null, mq_dl_none, mc_some, Option.toList_some, Option.toList_none, List.cons_append, List.nil_append, zb_1, zb_0, ↓reduceIte, if_true, if_false, not_true_eq_false, not_false_eq_true, Bool.false_eq_true, z_10, z_01, eq_self, Bool.and_self, true_or, or_true, false_or, or_false, true_and, and_true, false_and, and_false, and_self, or_self, Nat.reduceLT, Nat.reduceEqDiff, Nat.reduceLeDiff, Nat.reduceAdd, Nat.reduceMul, Nat.reduceSub, zn_lit, zn_add, zn_mul, zn_sub, zn_addneg, zn_lt, zn_le, zn_eq, zn_clamp, zn_in, zn_long, tb_mo hT, tb_f0 hT, zfst, Nat.le_refl]
  | succ r ih =>
    intro j o5 hj
    obtain ⟨o', ho⟩ := ih (j + 1) (some (.int (zn m))) (by omega)
    refine ⟨o', ?_⟩
    simp (disch := first | omega | exact zb_1 | exact zb_0 | exact zb_n1 | exact zb_n0) only [x111_32, x111_34, x111_35, x111_38, x111_41, x111_42, mq_dl_int, mq_dl_ref, mq_dl_null, mq_dl_none, mc_some, Option.toList_some, Option.toList_none, List.cons_append, List.nil_append, zb_1, zb_0, ↓reduceIte, if_true, if_false, not_true_eq_false, not_false_eq_true, Bool.false_eq_true, z_10, z_01, eq_self, Bool.and_self, true_or, or_true, false_or, or_false, true_and, and_true, false_and, and_false, and_self, or_self, Nat.reduceLT, Nat.reduceEqDiff, Nat.reduceLeDiff, Nat.reduceAdd, Nat.reduceMul, Nat.reduceSub, zn_lit, zn_add, zn_mul, zn_sub, zn_addneg, zn_lt, zn_le, zn_eq, zn_clamp, zn_in, zn_long, tb_mo hT, tb_f0 hT, zfst, show ¬ T.1 ≤ j by omega]
    rw [J_k hT hW d l m i j hl hl4 hm hi (by omega) m 0 (by omega)]
    cases zfst (fun k => if lwC T l i j k = true then some (i, j, k) else none) 0 m with
    | some x => rfl
    | none =>
      simp only
      rw [x111_92]
      simp only [mq_dl_int, mq_dl_ref, mq_dl_null, mq_dl_none, mc_some, Option.toList_some, Option.toList_none, List.cons_append, List.nil_append, zb_1, zb_0, ↓reduceIte, if_true, if_false, not_true_eq_false, not_false_eq_true, Bool.false_eq_true, z_10, z_01, eq_self, Bool.and_self, true_or, or_true, false_or, or_false, true_and, and_true, false_and, and_false, and_self, or_self, Nat.reduceLT, Nat.reduceEqDiff, Nat.reduceLeDiff, Nat.reduceAdd, Nat.reduceMul, Nat.reduceSub, zn_lit, zn_add, zn_mul, zn_sub, zn_addneg, zn_lt, zn_le, zn_eq, zn_clamp, zn_in, zn_long, x111_95]
      exact ho
theorem J_i (hT : TB c a T) (hW : WT T) (d l m : Nat) (hl : 1 ≤ l) (hl4 : l ≤ 4) (hm : m ≤ T.1) : ∀ (r i : Nat) (o4 o5 : Option Value), i + r = T.1 → mz (d + 3) 111 21 [some (.ref a), some (.int (zn l)), some (.int (zn m)), some (.int (zn i)), o4, o5] [] (hp n s c I J A B R Q) = match zfst (fun i => zfst (fun j => zfst (fun k => if lwC T l i j k = true then some (i, j, k) else none) 0 m) 0 T.1) i r with
    | some x => some (some none, hp n s (tset4 c a l x) I J A B R Q)
    | none => some (some none, (hp n s c I J A B R Q)) := by
  have h1 := hW.2.1
  intro r
  induction r with
  | zero =>
    intro i o4 o5 hi
    have e : i = T.1 := by omega
    subst e
    simp (disch := first | omega | exact zb_1 | exact zb_0 | exact zb_n1 | exact zb_n0) only [x111_21, x111_22, x111_23, x111_26, x111_104, mq_dl_int, mq_dl_ref, mq_dl_null, mq_dl_none, mc_some, Option.toList_some, Option.toList_none, List.cons_append, List.nil_append, zb_1, zb_0, ↓reduceIte, if_true, if_false, not_true_eq_false, not_false_eq_true, Bool.false_eq_true, z_10, z_01, eq_self, Bool.and_self, true_or, or_true, false_or, or_false, true_and, and_true, false_and, and_false, and_self, or_self, Nat.reduceLT, Nat.reduceEqDiff, Nat.reduceLeDiff, Nat.reduceAdd, Nat.reduceMul, Nat.reduceSub, zn_lit, zn_add, zn_mul, zn_sub, zn_addneg, zn_lt, zn_le, zn_eq, zn_clamp, zn_in, zn_long, tb_mo hT, tb_f0 hT, zfst, Nat.le_refl]
  | succ r ih =>
    intro i o4 o5 hi
    obtain ⟨p5, hk⟩ := J_j (n := n) (s := s) (c := c) (I := I) (J := J) (A := A) (B := B) (R := R) (Q := Q) hT hW d l m i hl hl4 hm (by omega) T.1 0 o5 (by omega)
    simp (disch := first | omega | exact zb_1 | exact zb_0 | exact zb_n1 | exact zb_n0) only [x111_21, x111_22, x111_23, x111_26, x111_29, x111_30, mq_dl_int, mq_dl_ref, mq_dl_null, mq_dl_none, mc_some, Option.toList_some, Option.toList_none, List.cons_append, List.nil_append, zb_1, zb_0, ↓reduceIte, if_true, if_false, not_true_eq_false, not_false_eq_true, Bool.false_eq_true, z_10, z_01, eq_self, Bool.and_self, true_or, or_true, false_or, or_false, true_and, and_true, false_and, and_false, and_self, or_self, Nat.reduceLT, Nat.reduceEqDiff, Nat.reduceLeDiff, Nat.reduceAdd, Nat.reduceMul, Nat.reduceSub, zn_lit, zn_add, zn_mul, zn_sub, zn_addneg, zn_lt, zn_le, zn_eq, zn_clamp, zn_in, zn_long, tb_mo hT, tb_f0 hT, zfst, show ¬ T.1 ≤ i by omega]
    rw [hk]
    cases zfst (fun j => zfst (fun k => if lwC T l i j k = true then some (i, j, k) else none) 0 m) 0 T.1 with
    | some x => rfl
    | none =>
      simp only
      rw [x111_98]
      simp only [mq_dl_int, mq_dl_ref, mq_dl_null, mq_dl_none, mc_some, Option.toList_some, Option.toList_none, List.cons_append, List.nil_append, zb_1, zb_0, ↓reduceIte, if_true, if_false, not_true_eq_false, not_false_eq_true, Bool.false_eq_true, z_10, z_01, eq_self, Bool.and_self, true_or, or_true, false_or, or_false, true_and, and_true, false_and, and_false, and_self, or_self, Nat.reduceLT, Nat.reduceEqDiff, Nat.reduceLeDiff, Nat.reduceAdd, Nat.reduceMul, Nat.reduceSub, zn_lit, zn_add, zn_mul, zn_sub, zn_addneg, zn_lt, zn_le, zn_eq, zn_clamp, zn_in, zn_long, x111_101]
      exact ih (i + 1) _ _ (by omega)
theorem J_l (hT : TB c a T) (hW : WT T) (d l : Nat) (hl : 1 ≤ l) (hl4 : l ≤ 4) : mz (d + 3) 111 0 [some (.ref a), some (.int (zn l)), none, none, none, none] [] (hp n s c I J A B R Q) = match zf3 (lwC T l) T.1 (if l = 1 ∨ l = 3 then T.1 else 1) with
    | some x => some (some none, hp n s (tset4 c a l x) I J A B R Q)
    | none => some (some none, (hp n s c I J A B R Q)) := by
  have h0 := hW.1
  have h1 := hW.2.1
  by_cases q1 : l = 1
  · subst q1
    simp (disch := first | omega | exact zb_1 | exact zb_0 | exact zb_n1 | exact zb_n0) only [x111_0, x111_1, x111_2, x111_10, x111_11, x111_14, x111_18, x111_19, x111_20, mq_dl_int, mq_dl_ref, mq_dl_null, mq_dl_none, mc_some, Option.toList_some, Option.toList_none, List.cons_append, List.nil_append, zb_1, zb_0, ↓reduceIte, if_true, if_false, not_true_eq_false, not_false_eq_true, Bool.false_eq_true, z_10, z_01, eq_self, Bool.and_self, true_or, or_true, false_or, or_false, true_and, and_true, false_and, and_false, and_self, or_self, Nat.reduceLT, Nat.reduceEqDiff, Nat.reduceLeDiff, Nat.reduceAdd, Nat.reduceMul, Nat.reduceSub, zn_lit, zn_add, zn_mul, zn_sub, zn_addneg, zn_lt, zn_le, zn_eq, zn_clamp, zn_in, zn_long, tb_mo hT, tb_f0 hT]
    exact J_i hT hW d 1 T.1 (by omega) (by omega) (by omega) T.1 0 _ _ (by omega)
  · by_cases q3 : l = 3
    · subst q3
      simp (disch := first | omega | exact zb_1 | exact zb_0 | exact zb_n1 | exact zb_n0) only [x111_0, x111_1, x111_2, x111_5, x111_6, x111_7, x111_10, x111_11, x111_14, x111_18, x111_19, x111_20, mq_dl_int, mq_dl_ref, mq_dl_null, mq_dl_none, mc_some, Option.toList_some, Option.toList_none, List.cons_append, List.nil_append, zb_1, zb_0, ↓reduceIte, if_true, if_false, not_true_eq_false, not_false_eq_true, Bool.false_eq_true, z_10, z_01, eq_self, Bool.and_self, true_or, or_true, false_or, or_false, true_and, and_true, false_and, and_false, and_self, or_self, Nat.reduceLT, Nat.reduceEqDiff, Nat.reduceLeDiff, Nat.reduceAdd, Nat.reduceMul, Nat.reduceSub, zn_lit, zn_add, zn_mul, zn_sub, zn_addneg, zn_lt, zn_le, zn_eq, zn_clamp, zn_in, zn_long, tb_mo hT, tb_f0 hT]
      exact J_i hT hW d 3 T.1 (by omega) (by omega) (by omega) T.1 0 _ _ (by omega)
    · simp (disch := first | omega | exact zb_1 | exact zb_0 | exact zb_n1 | exact zb_n0) only [x111_0, x111_1, x111_2, x111_5, x111_6, x111_7, x111_17, x111_18, x111_19, x111_20, mq_dl_int, mq_dl_ref, mq_dl_null, mq_dl_none, mc_some, Option.toList_some, Option.toList_none, List.cons_append, List.nil_append, zb_1, zb_0, ↓reduceIte, if_true, if_false, not_true_eq_false, not_false_eq_true, Bool.false_eq_true, z_10, z_01, eq_self, Bool.and_self, true_or, or_true, false_or, or_false, true_and, and_true, false_and, and_false, and_self, or_self, Nat.reduceLT, Nat.reduceEqDiff, Nat.reduceLeDiff, Nat.reduceAdd, Nat.reduceMul, Nat.reduceSub, zn_lit, zn_add, zn_mul, zn_sub, zn_addneg, zn_lt, zn_le, zn_eq, zn_clamp, zn_in, zn_long, tb_mo hT, tb_f0 hT, q1, q3]
      exact J_i hT hW d l 1 hl hl4 (by omega) T.1 0 _ _ (by omega)
end JU
/-! THE HALF OF LAW 1 IS ENOUGH -/
theorem zfst_none {α : Type} {p : Nat → Option α} : ∀ (r k : Nat), (∀ i, k ≤ i → i < k + r → p i = none) → zfst p k r = none
  | 0, _, _ => rfl
  | r + 1, k, h => by
    simp only [zfst]
    rw [h k (by omega) (by omega)]
    exact zfst_none r (k + 1) fun i h1 h2 => h i (by omega) (by omega)
theorem alike_sym {T : ZT} (hW : WT T) (i j k b : Nat) : alike T i j k b = alike T k j i b := by
  unfold alike
  have h := hW.2.2.2.2.1
  have e1 : zns (fun a => T.2.1 k j a * T.2.1 a i b) 0 T.1 = zns (fun a => T.2.1 j k a * T.2.1 i a b) 0 T.1 := zns_congr _ _ (fun a _ _ => by rw [h k j a, h a i b])
  have e2 : zns (fun a => T.2.1 j i a * T.2.1 k a b) 0 T.1 = zns (fun a => T.2.1 i j a * T.2.1 a k b) 0 T.1 := zns_congr _ _ (fun a _ _ => by rw [h j i a, h k a b])
  rw [e1, e2]
  by_cases q : zns (fun a => T.2.1 i j a * T.2.1 a k b) 0 T.1 = zns (fun a => T.2.1 j k a * T.2.1 i a b) 0 T.1
  · simp [q]
  · simp [q, Ne.symm q]
theorem law1_sym {T : ZT} (hW : WT T) (i j k : Nat) : law1 T i j k = law1 T k j i := by
  unfold law1
  exact zany_congr _ _ (fun b _ _ => by rw [alike_sym hW])
theorem law1_refl {T : ZT} (hW : WT T) (i j : Nat) : law1 T i j i = false := by
  unfold law1
  have h := hW.2.2.2.2.1
  cases q : zany (fun b => !alike T i j i b) 0 T.1 with
  | false => rfl
  | true =>
    obtain ⟨b, _, _, hb⟩ := (zany_iff _ _ _).mp q
    exfalso
    unfold alike at hb
    have e : zns (fun a => T.2.1 i j a * T.2.1 a i b) 0 T.1 = zns (fun a => T.2.1 j i a * T.2.1 i a b) 0 T.1 := zns_congr _ _ (fun a _ _ => by rw [h i j a, h a i b])
    simp [e] at hb
/-- two searches agree if the first finding of one is a finding of the other, which finds nothing more -/
theorem zf3_half {p : Nat → Nat → Nat → Bool} (n : Nat) (hs : ∀ i j k, p i j k = p k j i) (hr : ∀ i j, p i j i = false) : zf3 (fun i j k => decide (i < k) && p i j k) n n = zf3 p n n := by
  have key : ∀ (r i : Nat), i + r = n → (∀ i' j' k', i' < i → j' < n → k' < n → p i' j' k' = false) → zfst (fun i => zfst (fun j => zfst (fun k => if (decide (i < k) && p i j k) = true then some (i, j, k) else none) 0 n) 0 n) i r = zfst (fun i => zfst (fun j => zfst (fun k => if p i j k = true then some (i, j, k) else none) 0 n) 0 n) i r := by
    intro r
    induction r with
    | zero => intro i _ _; rfl
    | succ r ih =>
      intro i hi hb
      have e : zfst (fun j => zfst (fun k => if (decide (i < k) && p i j k) = true then some (i, j, k) else none) 0 n) 0 n = zfst (fun j => zfst (fun k => if p i j k = true then some (i, j, k) else none) 0 n) 0 n := by
        refine zfst_congr n 0 fun j _ hj => zfst_congr n 0 fun k _ hk => ?_
        by_cases q : i < k
        · simp [q]
        · have : p i j k = false := by
            by_cases q2 : i = k
            · subst q2; exact hr _ _
            · rw [hs]; exact hb k j i (by omega) (by omega) (by omega)
          simp [this]
      simp only [zfst]
      rw [e]
      cases h : zfst (fun j => zfst (fun k => if p i j k = true then some (i, j, k) else none) 0 n) 0 n with
      | some x => rfl
      | none =>
        simp only
        refine ih (i + 1) (by omega) fun i' j' k' h1 h2 h3 => ?_
        by_cases q : i' < i
        · exact hb i' j' k' q h2 h3
        · have e2 : i' = i := by omega
          subst e2
          cases hq : p i' j' k' with
          | false => rfl
          | true =>
            exfalso
            have key2 : ∀ (r j : Nat), j ≤ j' → j' < j + r → zfst (fun j => zfst (fun k => if p i' j k = true then some (i', j, k) else none) 0 n) j r ≠ none := by
              intro r
              induction r with
              | zero => intro j h5 h6; omega
              | succ r ih2 =>
                intro j h5 h6
                simp only [zfst]
                by_cases q5 : j = j'
                · subst q5
                  have key3 : ∀ (r k : Nat), k ≤ k' → k' < k + r → zfst (fun k => if p i' j k = true then some (i', j, k) else none) k r ≠ none := by
                    intro r
                    induction r with
                    | zero => intro k h7 h8; omega
                    | succ r ih3 =>
                      intro k h7 h8
                      simp only [zfst]
                      by_cases q6 : k = k'
                      · subst q6; simp [hq]
                      · have := ih3 (k + 1) (by omega) (by omega)
                        split
                        · simp
                        · exact this
                  have := key3 n 0 (by omega) (by omega)
                  split
                  · simp
                  · next h9 => exact absurd h9 this
                · have := ih2 (j + 1) (by omega) (by omega)
                  split
                  · simp
                  · exact this
            exact key2 n 0 (by omega) (by omega) h
  exact key n 0 (by omega) (fun i' _ _ h => by omega)
