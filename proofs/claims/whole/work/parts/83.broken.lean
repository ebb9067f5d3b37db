/-! LAWS: what the class keeps -/
def jd (T : ZT) (b bi bj bk : Int32) : Prop := match brk T with
  | some x => b = zn x.1 ∧ bi = zn x.2.1 ∧ bj = zn x.2.2.1 ∧ bk = zn x.2.2.2
  | none => b = zn 0
theorem zf3_1 (p : Nat → Nat → Bool) (n : Nat) : zf3 (fun i j _ => p i j) n 1 = zf2 p n := by
  unfold zf3 zf2
  refine zfst_congr n 0 fun i _ _ => zfst_congr n 0 fun j _ _ => ?_
  simp only [zfst]
  by_cases q : p i j = true <;> simp [q]
section BR
variable {n s : Nat} {c : Nat → mq_E} {I : Nat → Int32} {J : Nat → Int64} {A : Nat → Nat → Int32} {B : Nat → Nat → Int64} {R : Nat → Value} {Q : Nat → Nat → Option Nat}
variable {a : Nat} {T : ZT} {b bi bj bk : Int32} {rs gs : Value}
theorem TB_up (hT : TB c a T) (b bi bj bk : Int32) (rs gs : Value) : TB (mq_up c a (tbo T.1 a b bi bj bk rs gs)) a T := by
  obtain ⟨h1, _, g, r, h3, h4, h5⟩ := hT
  exact ⟨h1, ⟨b, bi, bj, bk, rs, gs, up_eq _ _ _⟩, g, r, by rw [up_ne _ _ _ _ (by omega)]; exact h3, by rw [up_ne _ _ _ _ (by omega)]; exact h4, h5⟩
theorem tb_f3 (hT : TB c a T) (hc : c a = tbo T.1 a b bi bj bk rs gs) : mf (hp n s c I J A B R Q) a 3 = .int b := by
  unfold mf mfs
  rw [hp_c _ _ _ _ _ _ _ _ _ a (hs_tb a hT.1).1, hc]
  rfl
theorem tb_f4 (hT : TB c a T) (hc : c a = tbo T.1 a b bi bj bk rs gs) : mf (hp n s c I J A B R Q) a 4 = .int bi := by
  unfold mf mfs
  rw [hp_c _ _ _ _ _ _ _ _ _ a (hs_tb a hT.1).1, hc]
  rfl
theorem tb_f5 (hT : TB c a T) (hc : c a = tbo T.1 a b bi bj bk rs gs) : mf (hp n s c I J A B R Q) a 5 = .int bj := by
  unfold mf mfs
  rw [hp_c _ _ _ _ _ _ _ _ _ a (hs_tb a hT.1).1, hc]
  rfl
theorem tb_f6 (hT : TB c a T) (hc : c a = tbo T.1 a b bi bj bk rs gs) : mf (hp n s c I J A B R Q) a 6 = .int bk := by
  unfold mf mfs
  rw [hp_c _ _ _ _ _ _ _ _ _ a (hs_tb a hT.1).1, hc]
  rfl
theorem tb_f7 (hT : TB c a T) (hc : c a = tbo T.1 a b bi bj bk rs gs) : mf (hp n s c I J A B R Q) a 7 = rs := by
  unfold mf mfs
  rw [hp_c _ _ _ _ _ _ _ _ _ a (hs_tb a hT.1).1, hc]
  rfl
theorem tb_f8 (hT : TB c a T) (hc : c a = tbo T.1 a b bi bj bk rs gs) : mf (hp n s c I J A B R Q) a 8 = gs := by
  unfold mf mfs
  rw [hp_c _ _ _ _ _ _ _ _ _ a (hs_tb a hT.1).1, hc]
  rfl
theorem tset_3 (hc : c a = tbo T.1 a b bi bj bk rs gs) (x : Int32) : tset c a 3 (.int x) = mq_up c a (tbo T.1 a x bi bj bk rs gs) := by
  unfold tset
  rw [hc]
  rfl
theorem tset4_eq (hc : c a = tbo T.1 a b bi bj bk rs gs) (l : Nat) (x : Nat × Nat × Nat) : tset4 c a l x = mq_up c a (tbo T.1 a (zn l) (zn x.1) (zn x.2.1) (zn x.2.2) rs gs) := by
  unfold tset4 tset
  simp only [up_eq, up_up]
  rw [hc]
  rfl
theorem J_1 (hT : TB c a T) (hW : WT T) (hc : c a = tbo T.1 a b bi bj bk rs gs) (d l : Nat) (hl : 1 ≤ l) (hl4 : l ≤ 4) : mz (d + 3) 111 0 [some (.ref a), some (.int (zn l)), none, none, none, none] [] (hp n s c I J A B R Q) = some (some none, hp n s (match (if l = 1 then zf3 (law1 T) T.1 T.1 else if l = 2 then zf2 (law2 T) T.1 else if l = 3 then zf3 (law3 T) T.1 T.1 else zf2 (law4 T) T.1) with
    | some x => mq_up c a (tbo T.1 a (zn l) (zn x.1) (zn x.2.1) (zn x.2.2) rs gs)
    | none => c) I J A B R Q) := by
  rw [J_l hT hW d l hl hl4]
  have e : zf3 (lwC T l) T.1 (if l = 1 ∨ l = 3 then T.1 else 1) = (if l = 1 then zf3 (law1 T) T.1 T.1 else if l = 2 then zf2 (law2 T) T.1 else if l = 3 then zf3 (law3 T) T.1 T.1 else zf2 (law4 T) T.1) := by
    have hl5 : l = 1 ∨ l = 2 ∨ l = 3 ∨ l = 4 := by omega
    rcases hl5 with rfl | rfl | rfl | rfl
    · exact zf3_half T.1 (law1_sym hW) (law1_refl hW)
    · exact zf3_1 (law2 T) T.1
    · rfl
    · exact zf3_1 (law4 T) T.1
  rw [e]
  cases (if l = 1 then zf3 (law1 T) T.1 T.1 else if l = 2 then zf2 (law2 T) T.1 else if l = 3 then zf3 (law3 T) T.1 T.1 else zf2 (law4 T) T.1) with
  | none => rfl
  | some x => simp only; rw [tset4_eq hc]
theorem T_brk (hT : TB c a T) (hW : WT T) (hc : c a = tbo T.1 a b bi bj bk rs gs) (hv : b = -1 ∨ jd T b bi bj bk) (d : Nat) : ∃ b' bi' bj' bk', jd T b' bi' bj' bk' ∧ mz (d + 4) 106 0 [some (.ref a), none] [] (hp n s c I J A B R Q) = some (some (some (.int (zn (blT T)))), hp n s (mq_up c a (tbo T.1 a b' bi' bj' bk' rs gs)) I J A B R Q) := by
  by_cases qb : b = -1
  · subst qb
    have hT0 := TB_up hT (zn 0) bi bj bk rs gs
    have hc0 : (mq_up c a (tbo T.1 a (zn 0) bi bj bk rs gs)) a = tbo T.1 a (zn 0) bi bj bk rs gs := up_eq _ _ _
    have e1 := J_1 (n := n) (s := s) (I := I) (J := J) (A := A) (B := B) (R := R) (Q := Q) hT0 hW hc0 d 1 (by omega) (by omega)
    have e2 := J_1 (n := n) (s := s) (I := I) (J := J) (A := A) (B := B) (R := R) (Q := Q) hT0 hW hc0 d 2 (by omega) (by omega)
    have e3 := J_1 (n := n) (s := s) (I := I) (J := J) (A := A) (B := B) (R := R) (Q := Q) hT0 hW hc0 d 3 (by omega) (by omega)
    have e4 := J_1 (n := n) (s := s) (I := I) (J := J) (A := A) (B := B) (R := R) (Q := Q) hT0 hW hc0 d 4 (by omega) (by omega)
    simp only [Nat.reduceLT, Nat.reduceEqDiff, Nat.reduceLeDiff, Nat.reduceAdd, Nat.reduceMul, Nat.reduceSub, zn_lit, zn_add, zn_mul, zn_sub, zn_addneg, zn_lt, zn_le, zn_eq, zn_clamp, zn_in, zn_long, mq_dl_int, mq_dl_ref, mq_dl_null, mq_dl_none, mc_some, Option.toList_some, Option.toList_none, List.cons_append, List.nil_append, zb_1, zb_0, ↓reduceIte, if_true, if_false, not_true_eq_false, not_false_eq_true, Bool.false_eq_true, z_10, z_01, eq_self, Bool.and_self, true_or, or_true, false_or, or_false, true_and, and_true, false_and, and_false, and_self, or_self, up_up] at e1 e2 e3 e4
    have f := fun (l : Nat) (x : Nat × Nat × Nat) => TB_up hT (zn l) (zn x.1) (zn x.2.1) (zn x.2.2) rs gs
    have fc := fun (l : Nat) (x : Nat × Nat × Nat) => (up_eq c a (tbo T.1 a (zn l) (zn x.1) (zn x.2.1) (zn x.2.2) rs gs))
    have w0 : tset c a 3 (.int (zn 0)) = mq_up c a (tbo T.1 a (zn 0) bi bj bk rs gs) := tset_3 hc (zn 0)
    unfold jd blT brk
    cases q1 : zf3 (law1 T) T.1 T.1 with
    | some x =>
      refine ⟨_, _, _, _, ⟨rfl, rfl, rfl, rfl⟩, ?_⟩
      rw [q1] at e1; dsimp only at e1
      rw [x106_0]
      simp (disch := first | omega | exact zb_1 | exact zb_0 | exact zb_n1 | exact zb_n0) only [x106_0, x106_0N, x106_1, x106_4, x106_5, x106_8, x106_8N, x106_9, x106_10, x106_13, x106_14, x106_15, x106_16, x106_17, x106_20, x106_20N, x106_21, x106_24, x106_27, x106_27N, x106_28, x106_29, x106_32, x106_35, x106_38, x106_38N, x106_39, x106_42, mq_dl_int, mq_dl_ref, mq_dl_null, mq_dl_none, mc_some, Option.toList_some, Option.toList_none, List.cons_append, List.nil_append, zb_1, zb_0, ↓reduceIte, if_true, if_false, not_true_eq_false, not_false_eq_true, Bool.false_eq_true, z_10, z_01, eq_self, Bool.and_self, true_or, or_true, false_or, or_false, true_and, and_true, false_and, and_false, and_self, or_self, Nat.reduceLT, Nat.reduceEqDiff, Nat.reduceLeDiff, Nat.reduceAdd, Nat.reduceMul, Nat.reduceSub, zn_lit, zn_add, zn_mul, zn_sub, zn_addneg, zn_lt, zn_le, zn_eq, zn_clamp, zn_in, zn_long, tb_mo hT, tb_f3 hT hc, tk_3, hp_tset hT, w0, tb_0 hT0, tb_mo hT0, tb_f3 hT0 hc0, e1, tb_mo (f 1 x), tb_f3 (f 1 x) (fc 1 x)]
    | none =>
      rw [q1] at e1; dsimp only at e1
      cases q2 : zf2 (law2 T) T.1 with
      | some x =>
        refine ⟨_, _, _, _, ⟨rfl, rfl, rfl, rfl⟩, ?_⟩
        rw [q2] at e2; dsimp only at e2
        rw [x106_0]
        simp (disch := first | omega | exact zb_1 | exact zb_0 | exact zb_n1 | exact zb_n0) only [x106_0, x106_0N, x106_1, x106_4, x106_5, x106_8, x106_8N, x106_9, x106_10, x106_13, x106_14, x106_15, x106_16, x106_17, x106_20, x106_20N, x106_21, x106_24, x106_27, x106_27N, x106_28, x106_29, x106_32, x106_35, x106_38, x106_38N, x106_39, x106_42, mq_dl_int, mq_dl_ref, mq_dl_null, mq_dl_none, mc_some, Option.toList_some, Option.toList_none, List.cons_append, List.nil_append, zb_1, zb_0, ↓reduceIte, if_true, if_false, not_true_eq_false, not_false_eq_true, Bool.false_eq_true, z_10, z_01, eq_self, Bool.and_self, true_or, or_true, false_or, or_false, true_and, and_true, false_and, and_false, and_self, or_self, Nat.reduceLT, Nat.reduceEqDiff, Nat.reduceLeDiff, Nat.reduceAdd, Nat.reduceMul, Nat.reduceSub, zn_lit, zn_add, zn_mul, zn_sub, zn_addneg, zn_lt, zn_le, zn_eq, zn_clamp, zn_in, zn_long, tb_mo hT, tb_f3 hT hc, tk_3, hp_tset hT, w0, tb_0 hT0, tb_mo hT0, tb_f3 hT0 hc0, e1, e2, tb_mo (f 2 x), tb_f3 (f 2 x) (fc 2 x)]
      | none =>
        rw [q2] at e2; dsimp only at e2
        cases q3 : zf3 (law3 T) T.1 T.1 with
        | some x =>
          refine ⟨_, _, _, _, ⟨rfl, rfl, rfl, rfl⟩, ?_⟩
          rw [q3] at e3; dsimp only at e3
          rw [x106_0]
          simp (disch := first | omega | exact zb_1 | exact zb_0 | exact zb_n1 | exact zb_n0) only [x106_0, x106_0N, x106_1, x106_4, x106_5, x106_8, x106_8N, x106_9, x106_10, x106_13, x106_14, x106_15, x106_16, x106_17, x106_20, x106_20N, x106_21, x106_24, x106_27, x106_27N, x106_28, x106_29, x106_32, x106_35, x106_38, x106_38N, x106_39, x106_42, mq_dl_int, mq_dl_ref, mq_dl_null, mq_dl_none, mc_some, Option.toList_some, Option.toList_none, List.cons_append, List.nil_append, zb_1, zb_0, ↓reduceIte, if_true, if_false, not_true_eq_false, not_false_eq_true, Bool.false_eq_true, z_10, z_01, eq_self, Bool.and_self, true_or, or_true, false_or, or_false, true_and, and_true, false_and, and_false, and_self, or_self, Nat.reduceLT, Nat.reduceEqDiff, Nat.reduceLeDiff, Nat.reduceAdd, Nat.reduceMul, Nat.reduceSub, zn_lit, zn_add, zn_mul, zn_sub, zn_addneg, zn_lt, zn_le, zn_eq, zn_clamp, zn_in, zn_long, tb_mo hT, tb_f3 hT hc, tk_3, hp_tset hT, w0, tb_0 hT0, tb_mo hT0, tb_f3 hT0 hc0, e1, e2, e3, tb_mo (f 3 x), tb_f3 (f 3 x) (fc 3 x)]
        | none =>
          rw [q3] at e3; dsimp only at e3
          cases q4 : zf2 (law4 T) T.1 with
          | some x =>
            refine ⟨_, _, _, _, ⟨rfl, rfl, rfl, rfl⟩, ?_⟩
            rw [q4] at e4; dsimp only at e4
            rw [x106_0]
            simp (disch := first | omega | exact zb_1 | exact zb_0 | exact zb_n1 | exact zb_n0) only [x106_0, x106_0N, x106_1, x106_4, x106_5, x106_8, x106_8N, x106_9, x106_10, x106_13, x106_14, x106_15, x106_16, x106_17, x106_20, x106_20N, x106_21, x106_24, x106_27, x106_27N, x106_28, x106_29, x106_32, x106_35, x106_38, x106_38N, x106_39, x106_42, mq_dl_int, mq_dl_ref, mq_dl_null, mq_dl_none, mc_some, Option.toList_some, Option.toList_none, List.cons_append, List.nil_append, zb_1, zb_0, ↓reduceIte, if_true, if_false, not_true_eq_false, not_false_eq_true, Bool.false_eq_true, z_10, z_01, eq_self, Bool.and_self, true_or, or_true, false_or, or_false, true_and, and_true, false_and, and_false, and_self, or_self, Nat.reduceLT, Nat.reduceEqDiff, Nat.reduceLeDiff, Nat.reduceAdd, Nat.reduceMul, Nat.reduceSub, zn_lit, zn_add, zn_mul, zn_sub, zn_addneg, zn_lt, zn_le, zn_eq, zn_clamp, zn_in, zn_long, tb_mo hT, tb_f3 hT hc, tk_3, hp_tset hT, w0, tb_0 hT0, tb_mo hT0, tb_f3 hT0 hc0, e1, e2, e3, e4, tb_mo (f 4 x), tb_f3 (f 4 x) (fc 4 x)]
          | none =>
            refine ⟨_, bi, bj, bk, rfl, ?_⟩
            rw [q4] at e4; dsimp only at e4
            rw [x106_0]
            simp (disch := first | omega | exact zb_1 | exact zb_0 | exact zb_n1 | exact zb_n0) only [x106_0, x106_0N, x106_1, x106_4, x106_5, x106_8, x106_8N, x106_9, x106_10, x106_13, x106_14, x106_15, x106_16, x106_17, x106_20, x106_20N, x106_21, x106_24, x106_27, x106_27N, x106_28, x106_29, x106_32, x106_35, x106_38, x106_38N, x106_39, x106_42, mq_dl_int, mq_dl_ref, mq_dl_null, mq_dl_none, mc_some, Option.toList_some, Option.toList_none, List.cons_append, List.nil_append, zb_1, zb_0, ↓reduceIte, if_true, if_false, not_true_eq_false, not_false_eq_true, Bool.false_eq_true, z_10, z_01, eq_self, Bool.and_self, true_or, or_true, false_or, or_false, true_and, and_true, false_and, and_false, and_self, or_self, Nat.reduceLT, Nat.reduceEqDiff, Nat.reduceLeDiff, Nat.reduceAdd, Nat.reduceMul, Nat.reduceSub, zn_lit, zn_add, zn_mul, zn_sub, zn_addneg, zn_lt, zn_le, zn_eq, zn_clamp, zn_in, zn_long, tb_mo hT, tb_f3 hT hc, tk_3, hp_tset hT, w0, tb_0 hT0, tb_mo hT0, tb_f3 hT0 hc0, e1, e2, e3, e4]
  · have hj : jd T b bi bj bk := hv.resolve_left qb
    refine ⟨b, bi, bj, bk, hj, ?_⟩
    have e : b = zn (blT T) := by
      unfold jd at hj
      unfold blT
      cases h : brk T with
      | none => rw [h] at hj; exact hj
      | some x => rw [h] at hj; exact hj.1
    rw [up_self c a _ hc, ← e]
    simp (disch := first | omega | exact zb_1 | exact zb_0 | exact zb_n1 | exact zb_n0) only [x106_0, x106_0N, x106_1, x106_4, x106_5, x106_8, x106_8N, x106_9, x106_10, x106_13, x106_14, x106_15, x106_16, x106_17, x106_20, x106_20N, x106_21, x106_24, x106_27, x106_27N, x106_28, x106_29, x106_32, x106_35, x106_38, x106_38N, x106_39, x106_42, mq_dl_int, mq_dl_ref, mq_dl_null, mq_dl_none, mc_some, Option.toList_some, Option.toList_none, List.cons_append, List.nil_append, zb_1, zb_0, ↓reduceIte, if_true, if_false, not_true_eq_false, not_false_eq_true, Bool.false_eq_true, z_10, z_01, eq_self, Bool.and_self, true_or, or_true, false_or, or_false, true_and, and_true, false_and, and_false, and_self, or_self, tb_mo hT, tb_f3 hT hc, qb]
end BR
