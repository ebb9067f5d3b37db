/-! WREATH: the class in public -/
def wrX (T U : ZT) : Option ZT := if T.1 + U.1 - 1 ≤ 6 ∧ gdT T = true ∧ gdT U = true ∧ wokT T U (T.1 + U.1 - 1) = true then some (wrT T U (T.1 + U.1 - 1)) else none
/-- the table's cell is as it was, but for its judgement, that is kept -/
def JK (c c' : Nat → mq_E) (a : Nat) (T : ZT) : Prop := ∀ b bi bj bk rs gs, c a = tbo T.1 a b bi bj bk rs gs → (b = -1 ∨ jd T b bi bj bk) → ∃ b' bi' bj' bk', (b' = -1 ∨ jd T b' bi' bj' bk') ∧ c' a = tbo T.1 a b' bi' bj' bk' rs gs
theorem tbo_inj {n a : Nat} {b bi bj bk b' bi' bj' bk' : Int32} {rs gs rs' gs' : Value} (h : tbo n a b bi bj bk rs gs = tbo n a b' bi' bj' bk' rs' gs') : b = b' ∧ bi = bi' ∧ bj = bj' ∧ bk = bk' ∧ rs = rs' ∧ gs = gs' := by
  unfold tbo at h
  have h1 := Sum.inr.inj h
  have h2 := (Prod.mk.inj h1).2
  simp at h2
  exact h2
/-- what a call leaves that only judges tables a and o and makes new things -/
def CJ (kn ks n s : Nat) (c : Nat → mq_E) (a o : Nat) (T U : ZT) (n' s' : Nat) (c' : Nat → mq_E) : Prop := n ≤ n' ∧ n' ≤ n + kn ∧ s ≤ s' ∧ s' ≤ s + ks ∧ (∀ x, x < n ∨ n' ≤ x → x ≠ a → x ≠ o → c' x = c x) ∧ JK c c' a T ∧ JK c c' o U ∧ TB c' a T ∧ TB c' o U
theorem JK_up {c : Nat → mq_E} {a : Nat} {T : ZT} {b bi bj bk b' bi' bj' bk' : Int32} {rs gs : Value} (hc : c a = tbo T.1 a b bi bj bk rs gs) (hj : b' = -1 ∨ jd T b' bi' bj' bk') : JK c (mq_up c a (tbo T.1 a b' bi' bj' bk' rs gs)) a T := by
  intro x1 x2 x3 x4 x5 x6 h _
  rw [hc] at h
  obtain ⟨_, _, _, _, e5, e6⟩ := tbo_inj h
  subst e5 e6
  exact ⟨_, _, _, _, hj, up_eq _ _ _⟩
theorem JK_refl (c : Nat → mq_E) (a : Nat) (T : ZT) : JK c c a T := fun _ _ _ _ _ _ h hv => ⟨_, _, _, _, hv, h⟩
theorem JK_trans {c c1 c2 : Nat → mq_E} {a : Nat} {T : ZT} (h1 : JK c c1 a T) (h2 : JK c1 c2 a T) : JK c c2 a T := by
  intro b bi bj bk rs gs h hv
  obtain ⟨x1, x2, x3, x4, v1, e1⟩ := h1 b bi bj bk rs gs h hv
  exact h2 _ _ _ _ _ _ e1 v1
theorem JK_same {c c' : Nat → mq_E} {a : Nat} {T : ZT} (h : c' a = c a) : JK c c' a T := fun b bi bj bk rs gs e hv => ⟨b, bi, bj, bk, hv, by rw [h]; exact e⟩
section WP
variable {n s : Nat} {c : Nat → mq_E} {I : Nat → Int32} {J : Nat → Int64} {A : Nat → Nat → Int32} {B : Nat → Nat → Int64} {R : Nat → Value} {Q : Nat → Nat → Option Nat}
variable {a o : Nat} {T U : ZT} {b bi bj bk : Int32} {rs gs : Value}
theorem tb_apart (hT : TB c a T) (hU : TB c o U) (h : o ≠ a) : (o + 1 ≠ a ∧ o + 2 ≠ a) := by
  obtain ⟨_, ⟨x1, x2, x3, x4, x5, x6, h2⟩, _⟩ := hT
  obtain ⟨_, _, g, r, h3, h4, _⟩ := hU
  constructor
  · intro e; rw [e, h2] at h3; cases h3
  · intro e; rw [e, h2] at h4; cases h4
theorem TB_upA (hT : TB c a T) (hU : TB c o U) (h : o ≠ a) (E : mq_E) : TB (mq_up c a E) o U := by
  have := tb_apart hT hU h
  obtain ⟨k1, ⟨x1, x2, x3, x4, x5, x6, k2⟩, g1, r1, k3, k4, k5⟩ := hU
  exact ⟨k1, ⟨x1, x2, x3, x4, x5, x6, by rw [up_ne _ _ _ _ h]; exact k2⟩, g1, r1, by rw [up_ne _ _ _ _ this.1]; exact k3, by rw [up_ne _ _ _ _ this.2]; exact k4, k5⟩
theorem M_wreath (hT : TB c a T) (hU : TB c o U) (hW : WT T) (hV : WT U) (hao : a = o → T = U) (hc : ∃ b bi bj bk rs gs, c a = tbo T.1 a b bi bj bk rs gs ∧ (b = -1 ∨ jd T b bi bj bk)) (hd : ∃ b bi bj bk rs gs, c o = tbo U.1 o b bi bj bk rs gs ∧ (b = -1 ∨ jd U b bi bj bk)) (hn : 46 ≤ n) (han : a + 2 < n) (hon : o + 2 < n) (d : Nat) : ∃ n' s' c', CJ 3 231 n s c a o T U n' s' c' ∧ ((wrX T U = none ∧ mz (d + 5) 51 0 [some (.ref a), some (.ref o), none, none, none, none, none, none, none, none] [] (hp n s c I J A B R Q) = some (some (some .null), hp n' s' c' I J A B R Q)) ∨ ∃ T', wrX T U = some T' ∧ TB c' n T' ∧ n + 2 < n' ∧ c' n = tbo T'.1 n (-1) 0 0 0 .null .null ∧ mz (d + 5) 51 0 [some (.ref a), some (.ref o), none, none, none, none, none, none, none, none] [] (hp n s c I J A B R Q) = some (some (some (.ref n)), hp n' s' c' I J A B R Q)) := by
  have h0 := hW.1
  have h1 := hW.2.1
  have h2 := hV.1
  have h3 := hV.2.1
  have hbT : (blT T = 0) = (gdT T = true) := blT_0
  have hbU : (blT U = 0) = (gdT U = true) := blT_0
  have hlT : blT T ≤ 4 := blT_le
  have hlU : blT U ≤ 4 := blT_le
  obtain ⟨b, bi, bj, bk, rs, gs, hc1, hv1⟩ := hc
  have hsub : T.1 + U.1 - 1 < 2147483648 := by omega
  by_cases q6 : 6 < T.1 + U.1 - 1
  · refine ⟨n, s, c, ⟨Nat.le_refl _, by omega, Nat.le_refl _, by omega, fun _ _ _ _ => rfl, JK_refl _ _ _, JK_refl _ _ _, hT, hU⟩, Or.inl ⟨by unfold wrX; rw [if_neg (fun h => by omega)], ?_⟩⟩
    simp (disch := first | omega | exact zb_1 | exact zb_0 | exact zb_n1 | exact zb_n0) only [x51_0, x51_1, x51_4, x51_5, x51_6, x51_7, x51_10, x51_11, x51_12, x51_13, x51_14, x51_15, x51_17, x51_34, x51_35, x51_35N, mq_dl_int, mq_dl_ref, mq_dl_null, mq_dl_none, mc_some, Option.toList_some, Option.toList_none, List.cons_append, List.nil_append, zb_1, zb_0, ↓reduceIte, if_true, if_false, not_true_eq_false, not_false_eq_true, Bool.false_eq_true, z_10, z_01, eq_self, Bool.and_self, true_or, or_true, false_or, or_false, true_and, and_true, false_and, and_false, and_self, or_self, Nat.reduceLT, Nat.reduceEqDiff, Nat.reduceLeDiff, Nat.reduceAdd, Nat.reduceMul, Nat.reduceSub, zn_lit, zn_add, zn_mul, zn_sub, zn_addneg, zn_lt, zn_le, zn_eq, zn_clamp, zn_in, zn_long, tb_0 hT, T_things hT, tb_0 hU, T_things hU, q6]
  · obtain ⟨b1, bi1, bj1, bk1, hj1, e1⟩ := T_brk (n := n) (s := s) (c := c) (I := I) (J := J) (A := A) (B := B) (R := R) (Q := Q) hT hW hc1 hv1 d
    have hT1 := TB_up hT b1 bi1 bj1 bk1 rs gs
    have hU1 : TB (mq_up c a (tbo T.1 a b1 bi1 bj1 bk1 rs gs)) o U := by
      by_cases q : a = o
      · have := hao q; subst q; subst this; exact hT1
      · exact TB_upA hT hU (fun e => q e.symm) _
    have J1 : JK c (mq_up c a (tbo T.1 a b1 bi1 bj1 bk1 rs gs)) a T := JK_up hc1 (Or.inr hj1)
    have J1o : JK c (mq_up c a (tbo T.1 a b1 bi1 bj1 bk1 rs gs)) o U := by
      by_cases q : a = o
      · have := hao q; subst q; subst this; exact J1
      · exact JK_same (up_ne _ _ _ _ (fun e => q e.symm))
    cases hgT : gdT T with
    | false =>
      rw [hgT] at hbT
      refine ⟨n, s, _, ⟨Nat.le_refl _, by omega, Nat.le_refl _, by omega, fun x _ hx _ => up_ne _ _ _ _ hx, J1, J1o, hT1, hU1⟩, Or.inl ⟨by unfold wrX; rw [if_neg (fun h => by rw [hgT] at h; cases h.2.1)], ?_⟩⟩
      simp (disch := first | omega | exact zb_1 | exact zb_0 | exact zb_n1 | exact zb_n0) only [x51_0, x51_1, x51_4, x51_5, x51_6, x51_7, x51_10, x51_11, x51_12, x51_13, x51_14, x51_15, x51_17, x51_20, x51_21, x51_24, x51_34, x51_35, x51_35N, mq_dl_int, mq_dl_ref, mq_dl_null, mq_dl_none, mc_some, Option.toList_some, Option.toList_none, List.cons_append, List.nil_append, zb_1, zb_0, ↓reduceIte, if_true, if_false, not_true_eq_false, not_false_eq_true, Bool.false_eq_true, z_10, z_01, eq_self, Bool.and_self, true_or, or_true, false_or, or_false, true_and, and_true, false_and, and_false, and_self, or_self, Nat.reduceLT, Nat.reduceEqDiff, Nat.reduceLeDiff, Nat.reduceAdd, Nat.reduceMul, Nat.reduceSub, zn_lit, zn_add, zn_mul, zn_sub, zn_addneg, zn_lt, zn_le, zn_eq, zn_clamp, zn_in, zn_long, tb_0 hT, T_things hT, tb_0 hU, T_things hU, q6, e1, hbT]
    | true =>
      rw [hgT] at hbT
      obtain ⟨y1, y2, y3, y4, y5, y6, hd1, hdv⟩ := hd
      obtain ⟨z1, z2, z3, z4, hzv, hz⟩ := J1o _ _ _ _ _ _ hd1 hdv
      obtain ⟨b2, bi2, bj2, bk2, hj2, e2⟩ := T_brk (n := n) (s := s) (I := I) (J := J) (A := A) (B := B) (R := R) (Q := Q) hU1 hV hz hzv d
      have hU2 := TB_up hU1 b2 bi2 bj2 bk2 y5 y6
      have hT2 : TB (mq_up (mq_up c a (tbo T.1 a b1 bi1 bj1 bk1 rs gs)) o (tbo U.1 o b2 bi2 bj2 bk2 y5 y6)) a T := by
        by_cases q : a = o
        · have := hao q; subst q; subst this; exact hU2
        · exact TB_upA hU1 hT1 q _
      have J2o := JK_trans J1o (JK_up (T := U) hz (Or.inr hj2))
      have J2 : JK c (mq_up (mq_up c a (tbo T.1 a b1 bi1 bj1 bk1 rs gs)) o (tbo U.1 o b2 bi2 bj2 bk2 y5 y6)) a T := by
        by_cases q : a = o
        · have := hao q; subst q; subst this; exact J2o
        · exact JK_trans J1 (JK_same (up_ne _ _ _ _ q))
      have hfr : ∀ x, x ≠ a → x ≠ o → mq_up (mq_up c a (tbo T.1 a b1 bi1 bj1 bk1 rs gs)) o (tbo U.1 o b2 bi2 bj2 bk2 y5 y6) x = c x := fun x hx hy => by rw [up_ne _ _ _ _ hy, up_ne _ _ _ _ hx]
      obtain ⟨c2, hc2⟩ : ∃ c2, c2 = mq_up (mq_up c a (tbo T.1 a b1 bi1 bj1 bk1 rs gs)) o (tbo U.1 o b2 bi2 bj2 bk2 y5 y6) := ⟨_, rfl⟩
      rw [← hc2] at e2 hU2 hT2 J2o J2 hfr
      cases hgU : gdT U with
      | false =>
        rw [hgU] at hbU
        refine ⟨n, s, c2, ⟨Nat.le_refl _, by omega, Nat.le_refl _, by omega, fun x _ hx hy => hfr x hx hy, J2, J2o, hT2, hU2⟩, Or.inl ⟨by unfold wrX; rw [if_neg (fun h => by rw [hgU] at h; cases h.2.2.1)], ?_⟩⟩
        simp (disch := first | omega | exact zb_1 | exact zb_0 | exact zb_n1 | exact zb_n0) only [x51_0, x51_1, x51_4, x51_5, x51_6, x51_7, x51_10, x51_11, x51_12, x51_13, x51_14, x51_15, x51_17, x51_20, x51_21, x51_24, x51_27, x51_28, x51_31, x51_34, x51_35, x51_35N, mq_dl_int, mq_dl_ref, mq_dl_null, mq_dl_none, mc_some, Option.toList_some, Option.toList_none, List.cons_append, List.nil_append, zb_1, zb_0, ↓reduceIte, if_true, if_false, not_true_eq_false, not_false_eq_true, Bool.false_eq_true, z_10, z_01, eq_self, Bool.and_self, true_or, or_true, false_or, or_false, true_and, and_true, false_and, and_false, and_self, or_self, Nat.reduceLT, Nat.reduceEqDiff, Nat.reduceLeDiff, Nat.reduceAdd, Nat.reduceMul, Nat.reduceSub, zn_lit, zn_add, zn_mul, zn_sub, zn_addneg, zn_lt, zn_le, zn_eq, zn_clamp, zn_in, zn_long, tb_0 hT, T_things hT, tb_0 hU, T_things hU, tb_0 hU1, q6, e1, hbT, e2, hbU]
      | true =>
        rw [hgU] at hbU
        obtain ⟨m, hm⟩ : ∃ m, m = T.1 + U.1 - 1 := ⟨_, rfl⟩
        have e3 := T_new (s := s + 9) (c := c2) (I := I) (J := J) (A := A) (B := B) (R := R) (Q := Q) (a := n) hn (show 1 ≤ m by omega) (show m ≤ 6 by omega) (d + 3)
        obtain ⟨g', r', hx⟩ := M_wx (n := n + 3) (s := s + 9 + 222) (c := c2) (I := I) (J := J) (A := A) (B := B) (R := R) (Q := Q) (t := n) hT2 hU2 hW hV hm (by omega) han hon hn (d + 2) m 0 _ _ none none none none (by omega) (zt_new 0 m (wrF T U) (wrR T U) (by omega))
        have es : mz (d + 5) 51 0 [some (.ref a), some (.ref o), none, none, none, none, none, none, none, none] [] (hp n s c I J A B R Q) = mz (d + 5) 51 49 [some (.ref a), some (.ref o), some (.int (zn T.1)), some (.int (zn m)), some (.ref n), some (.int (zn 0)), none, none, none, none] [] (hp (n + 3) (s + 9 + 222) (tc c2 n m (fun _ => 0) (zfl zn (fun _ => 0) 0 m)) I J A B R Q) := by
          simp (disch := first | omega | exact zb_1 | exact zb_0 | exact zb_n1 | exact zb_n0) only [x51_0, x51_1, x51_4, x51_5, x51_6, x51_7, x51_10, x51_11, x51_12, x51_13, x51_14, x51_15, x51_17, x51_20, x51_21, x51_24, x51_27, x51_28, x51_31, x51_36, x51_39, x51_40, x51_41, x51_44, x51_46, x51_47, mq_dl_int, mq_dl_ref, mq_dl_null, mq_dl_none, mc_some, Option.toList_some, Option.toList_none, List.cons_append, List.nil_append, zb_1, zb_0, ↓reduceIte, if_true, if_false, not_true_eq_false, not_false_eq_true, Bool.false_eq_true, z_10, z_01, eq_self, Bool.and_self, true_or, or_true, false_or, or_false, true_and, and_true, false_and, and_false, and_self, or_self, Nat.reduceLT, Nat.reduceEqDiff, Nat.reduceLeDiff, Nat.reduceAdd, Nat.reduceMul, Nat.reduceSub, zn_lit, zn_add, zn_mul, zn_sub, zn_addneg, zn_lt, zn_le, zn_eq, zn_clamp, zn_in, zn_long, hp_1, hp_mkB, tb_0 hT, T_things hT, tb_0 hU, T_things hU, tb_0 hU1, show ¬ 6 < m by omega, e1, hbT, e2, hbU, ← hm, e3]
        have hfr3 : ∀ g r x, x < n ∨ n + 3 ≤ x → tc c2 n m g r x = c2 x := fun g r x hx => tc_ne x (by omega)
        have hCJ : CJ 3 231 n s c a o T U (n + 3) (s + 9 + 222) (tc c2 n m g' r') := ⟨by omega, by omega, by omega, by omega, fun x hx hxa hxo => by rw [hfr3 _ _ x hx, hfr x hxa hxo], JK_trans J2 (JK_same (hfr3 _ _ a (by omega))), JK_trans J2o (JK_same (hfr3 _ _ o (by omega))), TB_tcO hT2 han, TB_tcO hU2 hon⟩
        refine ⟨n + 3, s + 9 + 222, tc c2 n m g' r', hCJ, ?_⟩
        rcases hx with ⟨k1, k2, k3⟩ | ⟨k1, k3⟩
        · right
          have k1' : wokT T U m = true := k1
          refine ⟨wrT T U m, ?_, TB_tc (T := wrT T U m) hn k2, by omega, tc_a, ?_⟩
          · unfold wrX
            rw [← hm, if_pos ⟨by omega, hgT, hgU, k1'⟩]
          · rw [es]; exact k3
        · left
          have k1' : wokT T U m = false := k1
          refine ⟨?_, by rw [es]; exact k3⟩
          unfold wrX
          rw [← hm, if_neg (fun h => by rw [k1'] at h; cases h.2.2.2)]
theorem C_wreathN (d : Nat) (x : Int32) (h : x < 0 ∨ 3 < x) : mz (d + 6) 162 0 [some (.ref 0), some (.int x), none] [] (hp n s c I J A B R Q) = some (some (some (.int (-1))), (hp n s c I J A B R Q)) := by
  rcases h with h | h
  · simp (disch := first | omega | exact zb_1 | exact zb_0 | exact zb_n1 | exact zb_n0) only [x162_0, x162_1, x162_9, x162_10, mq_dl_int, mq_dl_ref, mq_dl_null, mq_dl_none, mc_some, Option.toList_some, Option.toList_none, List.cons_append, List.nil_append, zb_1, zb_0, ↓reduceIte, if_true, if_false, not_true_eq_false, not_false_eq_true, Bool.false_eq_true, z_10, z_01, eq_self, Bool.and_self, true_or, or_true, false_or, or_false, true_and, and_true, false_and, and_false, and_self, or_self, h]
  · have h2 : ¬ x < 4 := by
      rw [Int32.lt_iff_toInt_lt] at h ⊢
      have a1 : (3 : Int32).toInt = 3 := by decide
      have a2 : (4 : Int32).toInt = 4 := by decide
      omega
    have h3 : ¬ x < 0 := by
      rw [Int32.lt_iff_toInt_lt] at h ⊢
      have a1 : (3 : Int32).toInt = 3 := by decide
      have a2 : (0 : Int32).toInt = 0 := by decide
      omega
    simp (disch := first | omega | exact zb_1 | exact zb_0 | exact zb_n1 | exact zb_n0) only [x162_0, x162_1, x162_4, x162_5, x162_6, x162_9, x162_10, mq_dl_int, mq_dl_ref, mq_dl_null, mq_dl_none, mc_some, Option.toList_some, Option.toList_none, List.cons_append, List.nil_append, zb_1, zb_0, ↓reduceIte, if_true, if_false, not_true_eq_false, not_false_eq_true, Bool.false_eq_true, z_10, z_01, eq_self, Bool.and_self, true_or, or_true, false_or, or_false, true_and, and_true, false_and, and_false, and_self, or_self, h2, h3]
theorem C_wreath0 (d m : Nat) (hm : m < 4) (hQ : Q 22 m = none) : mz (d + 6) 162 0 [some (.ref 0), some (.int (zn m)), none] [] (hp n s c I J A B R Q) = some (some (some (.int (-1))), (hp n s c I J A B R Q)) := by
  simp (disch := first | omega | exact zb_1 | exact zb_0 | exact zb_n1 | exact zb_n0) only [x162_0, x162_1, x162_4, x162_5, x162_6, x162_11, x162_12, x162_15, x162_16, x162_17, x162_17N, x162_18, x162_18N, x162_19, x162_19N, x162_22, x162_23, x162_41, mq_dl_int, mq_dl_ref, mq_dl_null, mq_dl_none, mc_some, Option.toList_some, Option.toList_none, List.cons_append, List.nil_append, zb_1, zb_0, ↓reduceIte, if_true, if_false, not_true_eq_false, not_false_eq_true, Bool.false_eq_true, z_10, z_01, eq_self, Bool.and_self, true_or, or_true, false_or, or_false, true_and, and_true, false_and, and_false, and_self, or_self, Nat.reduceLT, Nat.reduceEqDiff, Nat.reduceLeDiff, Nat.reduceAdd, Nat.reduceMul, Nat.reduceSub, zn_lit, zn_add, zn_mul, zn_sub, zn_addneg, zn_lt, zn_le, zn_eq, zn_clamp, zn_in, zn_long, hp_1, hp_21, upd_zu, updL_zu, updQ_zu, zu_eq, zu_ne, ho_0, ho_0_0, hf_0_0, ho_0_1, hf_0_1, ho_0_2, hf_0_2, ho_0_3, hf_0_3, ho_0_4, hf_0_4, ho_0_5, hf_0_5, ho_0_6, hf_0_6, ho_0_7, hf_0_7, hk_0_7, hw_0_7, ho_1, ho_1_0, hf_1_0, ho_1_1, hf_1_1, hk_1_1, hw_1_1, ho_1_2, hf_1_2, hk_1_2, hw_1_2, ho_1_3, hf_1_3, hk_1_3, hw_1_3, ho_1_4, hf_1_4, hk_1_4, hw_1_4, ho_1_5, hf_1_5, hk_1_5, hw_1_5, hn_2, hi_2, hg_2, hu_2, ho_3, ho_3_0, hf_3_0, ho_3_1, hf_3_1, ho_3_2, hf_3_2, hk_3_2, hw_3_2, ho_3_3, hf_3_3, hk_3_3, hw_3_3, hn_4, hi_4, hj_4, hg_4, hu_4, ho_5, ho_5_0, hf_5_0, ho_5_1, hf_5_1, ho_5_2, hf_5_2, ho_5_3, hf_5_3, hk_5_3, hw_5_3, ho_6, ho_6_0, hf_6_0, ho_6_1, hf_6_1, ho_6_2, hf_6_2, ho_6_3, hf_6_3, hk_6_3, hw_6_3, hn_7, hi_7, hj_7, hg_7, hu_7, hn_8, hi_8, hj_8, hg_8, hu_8, hn_9, hi_9, hj_9, hg_9, hu_9, ho_10, ho_10_0, hf_10_0, ho_10_1, hf_10_1, ho_10_2, hf_10_2, ho_10_3, hf_10_3, hk_10_3, hw_10_3, ho_10_4, hf_10_4, hk_10_4, hkN_10_4, hw_10_4, hn_11, hi_11, hj_11, hg_11, hu_11, hn_12, hi_12, hj_12, hg_12, hu_12, hn_13, hi_13, hj_13, hg_13, hu_13, hn_14, hi_14, hg_14, hu_14, hn_15, hi_15, hg_15, hu_15, ho_16, ho_16_0, hf_16_0, ho_16_1, hf_16_1, ho_16_2, hf_16_2, hk_16_2, hw_16_2, ho_16_3, hf_16_3, hk_16_3, hw_16_3, ho_16_4, hf_16_4, hk_16_4, hkN_16_4, hw_16_4, hn_17, hi_17, hg_17, hu_17, hn_18, hi_18, hg_18, hu_18, hn_22, hi_22, hg_22, hu_22, Nat.not_lt_zero, hm, decide_true, hQ, va_rf_none]
theorem C_wreath (hT : TB c a T) (hU : TB c o U) (hW : WT T) (hV : WT U) (hao : a = o → T = U) (hc : ∃ b bi bj bk rs gs, c a = tbo T.1 a b bi bj bk rs gs ∧ (b = -1 ∨ jd T b bi bj bk)) (hd : ∃ b bi bj bk rs gs, c o = tbo U.1 o b bi bj bk rs gs ∧ (b = -1 ∨ jd U b bi bj bk)) (hn : 46 ≤ n) (han : a + 2 < n) (hon : o + 2 < n) (hR : R 804 = .ref a) (p : Nat) (hP : p ≤ 12) (hI : I 802 = zn p) (hq : ∀ i, i < p → ∃ e, Q 17 i = some e ∧ isT c e ∧ e < n) (d m : Nat) (hm : m < 4) (hQ : Q 22 m = some o) : ∃ n' s' c', CJ 3 231 n s c a o T U n' s' c' ∧ ((wrX T U = none ∧ mz (d + 6) 162 0 [some (.ref 0), some (.int (zn m)), none] [] (hp n s c I J A B R Q) = some (some (some (.int (-1))), hp n' s' c' I J A B R Q)) ∨ ∃ T', wrX T U = some T' ∧ TB c' n T' ∧ n + 2 < n' ∧ c' n = tbo T'.1 n (-1) 0 0 0 .null .null ∧ mz (d + 6) 162 0 [some (.ref 0), some (.int (zn m)), none] [] (hp n s c I J A B R Q) = some (some (some (.int (zn T'.1))), hp n' s' c' (dI I p) J A B (zu R 804 (.ref n)) (dQ Q p a))) := by
  obtain ⟨n', s', c', hJ, h⟩ := M_wreath (n := n) (s := s) (c := c) (I := I) (J := J) (A := A) (B := B) (R := R) (Q := Q) hT hU hW hV hao hc hd hn han hon d
  have hT' := hJ.2.2.2.2.2.2.2.1
  have hU' := hJ.2.2.2.2.2.2.2.2
  have hq' : ∀ i, i < p → ∃ e, Q 17 i = some e ∧ isT c' e := fun i hi => by
    obtain ⟨e, q1, q2, q3⟩ := hq i hi
    refine ⟨e, q1, ?_⟩
    by_cases c1 : e = a
    · subst c1; exact tb_isT hT'
    · by_cases c2 : e = o
      · subst c2; exact tb_isT hU'
      · obtain ⟨r1, l, hl⟩ := q2
        exact ⟨r1, l, by rw [hJ.2.2.2.2.1 e (Or.inl q3) c1 c2]; exact hl⟩
  refine ⟨n', s', c', hJ, ?_⟩
  rcases h with ⟨h1, h2⟩ | ⟨T', h1, h3, h4, h5, h2⟩
  · left
    refine ⟨h1, ?_⟩
    simp (disch := first | omega | exact zb_1 | exact zb_0 | exact zb_n1 | exact zb_n0) only [x162_0, x162_1, x162_4, x162_5, x162_6, x162_11, x162_12, x162_15, x162_16, x162_17, x162_18, x162_19, x162_26, x162_27, x162_28, x162_31, x162_34, x162_35, x162_38N, x162_41, x34_0, x34_0N, x34_1, x34_4, x34_4N, mq_dl_int, mq_dl_ref, mq_dl_null, mq_dl_none, mc_some, Option.toList_some, Option.toList_none, List.cons_append, List.nil_append, zb_1, zb_0, ↓reduceIte, if_true, if_false, not_true_eq_false, not_false_eq_true, Bool.false_eq_true, z_10, z_01, eq_self, Bool.and_self, true_or, or_true, false_or, or_false, true_and, and_true, false_and, and_false, and_self, or_self, Nat.reduceLT, Nat.reduceEqDiff, Nat.reduceLeDiff, Nat.reduceAdd, Nat.reduceMul, Nat.reduceSub, zn_lit, zn_add, zn_mul, zn_sub, zn_addneg, zn_lt, zn_le, zn_eq, zn_clamp, zn_in, zn_long, hp_1, hp_21, upd_zu, updL_zu, updQ_zu, zu_eq, zu_ne, ho_0, ho_0_0, hf_0_0, ho_0_1, hf_0_1, ho_0_2, hf_0_2, ho_0_3, hf_0_3, ho_0_4, hf_0_4, ho_0_5, hf_0_5, ho_0_6, hf_0_6, ho_0_7, hf_0_7, hk_0_7, hw_0_7, ho_1, ho_1_0, hf_1_0, ho_1_1, hf_1_1, hk_1_1, hw_1_1, ho_1_2, hf_1_2, hk_1_2, hw_1_2, ho_1_3, hf_1_3, hk_1_3, hw_1_3, ho_1_4, hf_1_4, hk_1_4, hw_1_4, ho_1_5, hf_1_5, hk_1_5, hw_1_5, hn_2, hi_2, hg_2, hu_2, ho_3, ho_3_0, hf_3_0, ho_3_1, hf_3_1, ho_3_2, hf_3_2, hk_3_2, hw_3_2, ho_3_3, hf_3_3, hk_3_3, hw_3_3, hn_4, hi_4, hj_4, hg_4, hu_4, ho_5, ho_5_0, hf_5_0, ho_5_1, hf_5_1, ho_5_2, hf_5_2, ho_5_3, hf_5_3, hk_5_3, hw_5_3, ho_6, ho_6_0, hf_6_0, ho_6_1, hf_6_1, ho_6_2, hf_6_2, ho_6_3, hf_6_3, hk_6_3, hw_6_3, hn_7, hi_7, hj_7, hg_7, hu_7, hn_8, hi_8, hj_8, hg_8, hu_8, hn_9, hi_9, hj_9, hg_9, hu_9, ho_10, ho_10_0, hf_10_0, ho_10_1, hf_10_1, ho_10_2, hf_10_2, ho_10_3, hf_10_3, hk_10_3, hw_10_3, ho_10_4, hf_10_4, hk_10_4, hkN_10_4, hw_10_4, hn_11, hi_11, hj_11, hg_11, hu_11, hn_12, hi_12, hj_12, hg_12, hu_12, hn_13, hi_13, hj_13, hg_13, hu_13, hn_14, hi_14, hg_14, hu_14, hn_15, hi_15, hg_15, hu_15, ho_16, ho_16_0, hf_16_0, ho_16_1, hf_16_1, ho_16_2, hf_16_2, hk_16_2, hw_16_2, ho_16_3, hf_16_3, hk_16_3, hw_16_3, ho_16_4, hf_16_4, hk_16_4, hkN_16_4, hw_16_4, hn_17, hi_17, hg_17, hu_17, hn_18, hi_18, hg_18, hu_18, hn_22, hi_22, hg_22, hu_22, hR, Nat.not_lt_zero, hm, decide_true, hQ, va_rf_some, h2, C_takeN]
  · right
    refine ⟨T', h1, h3, h4, h5, ?_⟩
    have e := C_take (n := n') (s := s') (c := c') (I := I) (J := J) (A := A) (B := B) (R := R) (Q := Q) h3 p hP hI hR (tb_isT hT') hq' (d + 3)
    simp (disch := first | omega | exact zb_1 | exact zb_0 | exact zb_n1 | exact zb_n0) only [x162_0, x162_1, x162_4, x162_5, x162_6, x162_11, x162_12, x162_15, x162_16, x162_17, x162_18, x162_19, x162_26, x162_27, x162_28, x162_31, x162_34, x162_35, x162_38, x162_41, x34_0, x34_0N, x34_1, x34_4, x34_4N, mq_dl_int, mq_dl_ref, mq_dl_null, mq_dl_none, mc_some, Option.toList_some, Option.toList_none, List.cons_append, List.nil_append, zb_1, zb_0, ↓reduceIte, if_true, if_false, not_true_eq_false, not_false_eq_true, Bool.false_eq_true, z_10, z_01, eq_self, Bool.and_self, true_or, or_true, false_or, or_false, true_and, and_true, false_and, and_false, and_self, or_self, Nat.reduceLT, Nat.reduceEqDiff, Nat.reduceLeDiff, Nat.reduceAdd, Nat.reduceMul, Nat.reduceSub, zn_lit, zn_add, zn_mul, zn_sub, zn_addneg, zn_lt, zn_le, zn_eq, zn_clamp, zn_in, zn_long, hp_1, hp_21, upd_zu, updL_zu, updQ_zu, zu_eq, zu_ne, ho_0, ho_0_0, hf_0_0, ho_0_1, hf_0_1, ho_0_2, hf_0_2, ho_0_3, hf_0_3, ho_0_4, hf_0_4, ho_0_5, hf_0_5, ho_0_6, hf_0_6, ho_0_7, hf_0_7, hk_0_7, hw_0_7, ho_1, ho_1_0, hf_1_0, ho_1_1, hf_1_1, hk_1_1, hw_1_1, ho_1_2, hf_1_2, hk_1_2, hw_1_2, ho_1_3, hf_1_3, hk_1_3, hw_1_3, ho_1_4, hf_1_4, hk_1_4, hw_1_4, ho_1_5, hf_1_5, hk_1_5, hw_1_5, hn_2, hi_2, hg_2, hu_2, ho_3, ho_3_0, hf_3_0, ho_3_1, hf_3_1, ho_3_2, hf_3_2, hk_3_2, hw_3_2, ho_3_3, hf_3_3, hk_3_3, hw_3_3, hn_4, hi_4, hj_4, hg_4, hu_4, ho_5, ho_5_0, hf_5_0, ho_5_1, hf_5_1, ho_5_2, hf_5_2, ho_5_3, hf_5_3, hk_5_3, hw_5_3, ho_6, ho_6_0, hf_6_0, ho_6_1, hf_6_1, ho_6_2, hf_6_2, ho_6_3, hf_6_3, hk_6_3, hw_6_3, hn_7, hi_7, hj_7, hg_7, hu_7, hn_8, hi_8, hj_8, hg_8, hu_8, hn_9, hi_9, hj_9, hg_9, hu_9, ho_10, ho_10_0, hf_10_0, ho_10_1, hf_10_1, ho_10_2, hf_10_2, ho_10_3, hf_10_3, hk_10_3, hw_10_3, ho_10_4, hf_10_4, hk_10_4, hkN_10_4, hw_10_4, hn_11, hi_11, hj_11, hg_11, hu_11, hn_12, hi_12, hj_12, hg_12, hu_12, hn_13, hi_13, hj_13, hg_13, hu_13, hn_14, hi_14, hg_14, hu_14, hn_15, hi_15, hg_15, hu_15, ho_16, ho_16_0, hf_16_0, ho_16_1, hf_16_1, ho_16_2, hf_16_2, hk_16_2, hw_16_2, ho_16_3, hf_16_3, hk_16_3, hw_16_3, ho_16_4, hf_16_4, hk_16_4, hkN_16_4, hw_16_4, hn_17, hi_17, hg_17, hu_17, hn_18, hi_18, hg_18, hu_18, hn_22, hi_22, hg_22, hu_22, hR, Nat.not_lt_zero, hm, decide_true, hQ, va_rf_some, h2, e]
end WP
