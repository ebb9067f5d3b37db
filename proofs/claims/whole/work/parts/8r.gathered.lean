/-! GATHERED: the class, whole; FUSED -/
def gaT (T : ZT) (w : Nat → Nat) (v m : Nat) : ZT := (m, pS m (gaF T w v) m 0 0, rP m (gaR T w) m)
theorem TB_tc {c : Nat → mq_E} {t : Nat} {T : ZT} {g r : Nat → Int32} (ht : 46 ≤ t) (h : zt_rep T g r) : TB (tc c t T.1 g r) t T := ⟨Or.inl ht, ⟨_, _, _, _, _, _, tc_a⟩, g, r, tc_a1, tc_a2, h⟩
theorem lsT_sur {m : Nat} {w : Nat → Nat} {q : Nat} (h : ∃ j, j < m ∧ w j = q) : lsT m w q < m ∧ w (lsT m w q) = q := by
  obtain ⟨j, h1, h2⟩ := h
  have := lsT_spec (w := w) h1
  rw [h2] at this
  exact ⟨this.1, this.2.1⟩
theorem LW_ls {m k : Nat} {w : Nat → Nat} (h : LW m (w, k)) {q : Nat} (hq : q < k) : lsT m w q < m ∧ w (lsT m w q) = q := lsT_sur (h.2.2.2.1 q hq)
section GH
variable {n s : Nat} {c : Nat → mq_E} {I : Nat → Int32} {J : Nat → Int64} {A : Nat → Nat → Int32} {B : Nat → Nat → Int64} {R : Nat → Value} {Q : Nat → Nat → Option Nat}
variable {a e m v : Nat} {T : ZT} {wf : Nat → Int32} {w : Nat → Nat}
theorem M_same (hT : TB c a T) (hW : WT T) (d : Nat) : mz (d + 2) 55 0 [some (.ref a), some (.ref e), some (.int (zn T.1)), some (.long (zln 1)), none, none, none, none, none, none, none, none] [] (hp n s c I J A B R Q) = some (some (some (.ref a)), (hp n s c I J A B R Q)) := by
  have h1 := hW.2.1
  have h0 := hW.1
  simp (disch := first | omega | exact zb_1 | exact zb_0 | exact zb_n1 | exact zb_n0) only [x55_0, x55_1, x55_2, x55_3, x55_6, x55_7, x55_8, x55_11, x55_12, x55_14, x55_19, x55_20, x55_21, x55_22, x55_25, x55_26, x55_27, x55_30, x55_33, x55_34, mq_dl_int, mq_dl_ref, mq_dl_null, mq_dl_none, mc_some, Option.toList_some, Option.toList_none, List.cons_append, List.nil_append, zb_1, zb_0, ↓reduceIte, if_true, if_false, not_true_eq_false, not_false_eq_true, Bool.false_eq_true, z_10, z_01, eq_self, Bool.and_self, true_or, or_true, false_or, or_false, true_and, and_true, false_and, and_false, and_self, or_self, Nat.reduceLT, Nat.reduceEqDiff, Nat.reduceLeDiff, Nat.reduceAdd, Nat.reduceMul, Nat.reduceSub, zn_lit, zn_add, zn_mul, zn_sub, zn_addneg, zn_lt, zn_le, zn_eq, zn_clamp, zn_in, zn_long, zln_lit, zln_add, zln_mul, zln_lt, zln_le, zln_eq, zln_int, lc_eq, lc_gt, lc_lt, lc_le, lc_ge, tb_0 hT, T_things hT, show ¬ T.1 < 1 by omega, show T.1 ≤ 6 by omega, Nat.lt_irrefl]
theorem M_gath (hT : TB c a T) (hW : WT T) (he : 46 ≤ e) (hA : c e = .inl (0, 6, .inl wf)) (hw : ∀ i, i < T.1 → wf i = zn (w i)) (hLW : LW T.1 (w, m)) (han : a + 2 < n) (hen : e < n) (hv : 1 ≤ v) (hv2 : v < 9223372036854775808) (hne : ¬ (v = 1 ∧ m = T.1)) (d : Nat) : ∃ c', (∀ b, b < n ∨ n + 4 ≤ b → c' b = c b) ∧ (gokT T w v m = true → TB c' (n + 1) (gaT T w v m) ∧ c' (n + 1) = tbo m (n + 1) (-1) 0 0 0 .null .null) ∧ mz (d + 2) 55 0 [some (.ref a), some (.ref e), some (.int (zn m)), some (.long (zln v)), none, none, none, none, none, none, none, none] [] (hp n s c I J A B R Q) = some (some (some (if gokT T w v m = true then .ref (n + 1) else .null)), hp (n + 4) (s + 237) c' I J A B R Q) := by
  have h1 := hW.2.1
  have h0 := hW.1
  have hm1 : 1 ≤ m := hLW.1
  have hm2 : m ≤ T.1 := hLW.2.1
  have hwm : ∀ i, i < T.1 → w i < m := hLW.2.2.1
  have hw2 : ∀ i, i < T.1 → w i < 6 := fun i hi => by have := hwm i hi; omega
  obtain ⟨L, g1, g2⟩ := M_ls (n := n + 1) (s := s + 6) (I := I) (J := J) (A := A) (B := B) (R := R) (Q := Q) (c := mq_up c n (.inl (0, 6, .inl (fun _ => zn 0)))) he (show 46 ≤ n by omega) (by omega) T.1 h0 h1 (by rw [up_ne _ _ _ _ (by omega)]; exact hA) (fun _ => zn 0) (up_eq _ _ _) hw hw2 (d + 1)
  rw [up_up] at g2
  have hT1 : TB (mq_up c n (.inl (0, 6, .inl (fun _ => zn 0)))) a T := by
    obtain ⟨k1, ⟨x1, x2, x3, x4, x5, x6, k2⟩, g1, r1, k3, k4, k5⟩ := hT
    exact ⟨k1, ⟨x1, x2, x3, x4, x5, x6, by rw [up_ne _ _ _ _ (by omega)]; exact k2⟩, g1, r1, by rw [up_ne _ _ _ _ (by omega)]; exact k3, by rw [up_ne _ _ _ _ (by omega)]; exact k4, k5⟩
  have hT2 : TB (mq_up c n (.inl (0, 6, .inl L))) a T := by
    obtain ⟨k1, ⟨x1, x2, x3, x4, x5, x6, k2⟩, g1, r1, k3, k4, k5⟩ := hT
    exact ⟨k1, ⟨x1, x2, x3, x4, x5, x6, by rw [up_ne _ _ _ _ (by omega)]; exact k2⟩, g1, r1, by rw [up_ne _ _ _ _ (by omega)]; exact k3, by rw [up_ne _ _ _ _ (by omega)]; exact k4, k5⟩
  have hLv : ∀ z, z < m → L z = zn (lsT T.1 w z) ∧ lsT T.1 w z < T.1 := by
    intro z hz
    obtain ⟨k1, k2⟩ := LW_ls hLW hz
    have := g1 _ k1
    rw [k2] at this
    exact ⟨this, k1⟩
  have e3 := T_new (s := s + 6 + 9) (c := mq_up c n (.inl (0, 6, .inl L))) (I := I) (J := J) (A := A) (B := B) (R := R) (Q := Q) (a := n + 1) (show 46 ≤ n + 1 by omega) hm1 (show m ≤ 6 by omega) d
  obtain ⟨g', r', hz⟩ := M_gx (n := n + 1 + 3) (s := s + 6 + 9 + 222) (c := mq_up c n (.inl (0, 6, .inl L))) (I := I) (J := J) (A := A) (B := B) (R := R) (Q := Q) (t := n + 1) (l := n) hT2 hW he (by rw [up_ne _ _ _ _ (by omega)]; exact hA) hw hw2 (by omega) (up_eq _ _ _) (by omega) hLv (by omega) (by omega) (by omega) hv hv2 hwm d m 0 _ _ none none none none (by omega) (zt_new 0 m (gaF T w v) (gaR T w) (by omega))
  have hnx : ¬ (zln v = zln 1 ∧ zn m = zn T.1) := by
    rw [zln_eq _ _ (by omega) (by omega), zn_eq _ _ (by omega) (by omega)]
    exact hne
  have es : mz (d + 2) 55 0 [some (.ref a), some (.ref e), some (.int (zn m)), some (.long (zln v)), none, none, none, none, none, none, none, none] [] (hp n s c I J A B R Q) = mz (d + 2) 55 35 [some (.ref a), some (.ref e), some (.int (zn m)), some (.long (zln v)), none, none, none, none, none, none, none, none] [] (hp n s c I J A B R Q) := by
    by_cases q : v = 1
    · have q2 : ¬ m = T.1 := fun h => hne ⟨q, h⟩
      subst q
      simp (disch := first | omega | exact zb_1 | exact zb_0 | exact zb_n1 | exact zb_n0) only [x55_0, x55_1, x55_2, x55_3, x55_6, x55_7, x55_8, x55_11, x55_12, x55_14, x55_19, x55_20, x55_21, x55_22, x55_25, x55_26, x55_27, x55_30, mq_dl_int, mq_dl_ref, mq_dl_null, mq_dl_none, mc_some, Option.toList_some, Option.toList_none, List.cons_append, List.nil_append, zb_1, zb_0, ↓reduceIte, if_true, if_false, not_true_eq_false, not_false_eq_true, Bool.false_eq_true, z_10, z_01, eq_self, Bool.and_self, true_or, or_true, false_or, or_false, true_and, and_true, false_and, and_false, and_self, or_self, Nat.reduceLT, Nat.reduceEqDiff, Nat.reduceLeDiff, Nat.reduceAdd, Nat.reduceMul, Nat.reduceSub, zn_lit, zn_add, zn_mul, zn_sub, zn_addneg, zn_lt, zn_le, zn_eq, zn_clamp, zn_in, zn_long, zln_lit, zln_add, zln_mul, zln_lt, zln_le, zln_eq, zln_int, lc_eq, lc_gt, lc_lt, lc_le, lc_ge, tb_0 hT, T_things hT, show ¬ m < 1 by omega, show m ≤ 6 by omega, Nat.lt_irrefl, q2]
    · simp (disch := first | omega | exact zb_1 | exact zb_0 | exact zb_n1 | exact zb_n0) only [x55_0, x55_1, x55_2, x55_3, x55_6, x55_7, x55_8, x55_11, x55_12, x55_14, x55_19, x55_20, x55_21, x55_22, mq_dl_int, mq_dl_ref, mq_dl_null, mq_dl_none, mc_some, Option.toList_some, Option.toList_none, List.cons_append, List.nil_append, zb_1, zb_0, ↓reduceIte, if_true, if_false, not_true_eq_false, not_false_eq_true, Bool.false_eq_true, z_10, z_01, eq_self, Bool.and_self, true_or, or_true, false_or, or_false, true_and, and_true, false_and, and_false, and_self, or_self, Nat.reduceLT, Nat.reduceEqDiff, Nat.reduceLeDiff, Nat.reduceAdd, Nat.reduceMul, Nat.reduceSub, zn_lit, zn_add, zn_mul, zn_sub, zn_addneg, zn_lt, zn_le, zn_eq, zn_clamp, zn_in, zn_long, zln_lit, zln_add, zln_mul, zln_lt, zln_le, zln_eq, zln_int, lc_eq, lc_gt, lc_lt, lc_le, lc_ge, show ¬ m < 1 by omega, show ¬ v < 1 by omega, show m ≤ 6 by omega, q]
  have es2 : mz (d + 2) 55 35 [some (.ref a), some (.ref e), some (.int (zn m)), some (.long (zln v)), none, none, none, none, none, none, none, none] [] (hp n s c I J A B R Q) = mz (d + 2) 55 64 [some (.ref a), some (.ref e), some (.int (zn m)), some (.long (zln v)), none, some (.ref n), some (.ref (n + 1)), some (.int (zn 0)), none, none, none, none] [] (hp (n + 1 + 3) (s + 6 + 9 + 222) (tc (mq_up c n (.inl (0, 6, .inl L))) (n + 1) m (fun _ => 0) (zfl zn (fun _ => 0) 0 m)) I J A B R Q) := by
    simp (disch := first | omega | exact zb_1 | exact zb_0 | exact zb_n1 | exact zb_n0) only [x55_35, x55_37, x55_39, x55_41, x55_42, x55_43, x55_46, x55_48, x55_51, x55_54, x55_55, x55_56, x55_59, x55_61, x55_62, mq_dl_int, mq_dl_ref, mq_dl_null, mq_dl_none, mc_some, Option.toList_some, Option.toList_none, List.cons_append, List.nil_append, zb_1, zb_0, ↓reduceIte, if_true, if_false, not_true_eq_false, not_false_eq_true, Bool.false_eq_true, z_10, z_01, eq_self, Bool.and_self, true_or, or_true, false_or, or_false, true_and, and_true, false_and, and_false, and_self, or_self, Nat.reduceLT, Nat.reduceEqDiff, Nat.reduceLeDiff, Nat.reduceAdd, Nat.reduceMul, Nat.reduceSub, zn_lit, zn_add, zn_mul, zn_sub, zn_addneg, zn_lt, zn_le, zn_eq, zn_clamp, zn_in, zn_long, hp_1, hp_mkB, tb_0 hT1, T_things hT1, g2, e3, Nat.not_lt_zero]
  have hfr : ∀ g r b, b < n ∨ n + 4 ≤ b → tc (mq_up c n (.inl (0, 6, .inl L))) (n + 1) m g r b = c b := by
    intro g r b hb
    rw [tc_ne b (by omega), up_ne _ _ _ _ (by omega)]
  refine ⟨tc (mq_up c n (.inl (0, 6, .inl L))) (n + 1) m g' r', hfr g' r', ?_, ?_⟩
  · intro hk
    rcases hz with ⟨z1, z2, z3⟩ | ⟨z1, z3⟩
    · exact ⟨TB_tc (T := gaT T w v m) (by omega) z2, tc_a⟩
    · have : gokT T w v m = false := z1
      rw [this] at hk
      cases hk
  · rw [es, es2]
    rcases hz with ⟨z1, z2, z3⟩ | ⟨z1, z3⟩
    · have : gokT T w v m = true := z1
      rw [this, z3]
      rfl
    · have : gokT T w v m = false := z1
      rw [this, z3]
      rfl
end GH
