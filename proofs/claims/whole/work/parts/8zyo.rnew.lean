/-! ROWS: the class makes the set of rows of a table -/
def dpT (T : ZT) (p q k : Nat) : Int := (cuT T (rwT T p) : Int) * (cuT T (rwT T q) : Int) * duT T (rwT T p) (rwT T q) (rwT T k)
def ddT (T : ZT) : Nat := orT T * pdT T * pdT T
def TW (T : ZT) : Prop := ∃ w : Nat → Nat, w 0 = (RW T).length - 1 ∧ (∀ p, p < T.1 → w p < (RW T).length) ∧ (∀ p q, p < T.1 → q < T.1 → w p = w q → p = q) ∧ ∀ p q k, p < T.1 → q < T.1 → k < T.1 → dpT T (w p) (w q) (w k) = (T.2.1 p q k : Int) * (ddT T : Int)
/-- the fields of a set of rows -/
def RSF (T : ZT) (i : Nat → Int32) (j : Nat → Int64) (f : Nat → Nat → Int32) (h : Nat → Nat → Int64) : Prop := i 1 = zn T.1 ∧ RQ T (RW T) i f ∧ j 11 = zln (ddT T) ∧ (∀ k, k < T.1 → h 8 k = zln (wtT T k)) ∧ i 14 = zo (spT T) ∧ (∀ y, y < (RW T).length → h 2 y = zln (cuT T (rwT T y)) ∧ h 3 y = zln (cdT T (rwT T y))) ∧ (i 15 = -1 ∨ ∃ b, (b = true ↔ TW T) ∧ i 15 = zo b)
def RSV (c : Nat → mq_E) (g a : Nat) (T : ZT) : Prop := 46 ≤ g ∧ a + 2 < g ∧ smT T = true ∧ ∃ i j f h, ro c g a i j f h = c ∧ RSF T i j f h
theorem ro_ro (c : Nat → mq_E) (g a : Nat) (i i' : Nat → Int32) (j j' : Nat → Int64) (f f' : Nat → Nat → Int32) (h h' : Nat → Nat → Int64) : ro (ro c g a i j f h) g a i' j' f' h' = ro c g a i' j' f' h' := by
  funext b
  by_cases q : b = g
  · subst q; rw [ro_a0, ro_a0]
  · by_cases q2 : g < b ∧ b ≤ g + 9
    · unfold ro
      simp only [q, q2, if_true, if_false, and_self]
    · rw [ro_ne b (by omega), ro_ne b (by omega), ro_ne b (by omega)]
theorem ro_up (c : Nat → mq_E) (g a b : Nat) (e : mq_E) (i : Nat → Int32) (j : Nat → Int64) (f : Nat → Nat → Int32) (h : Nat → Nat → Int64) (hb : b < g) : ro (mq_up c b e) g a i j f h = mq_up (ro c g a i j f h) b e := by
  funext x
  by_cases q : x = b
  · subst q; rw [up_eq, ro_ne x (by omega), up_eq]
  · rw [up_ne _ _ _ _ q]
    unfold ro
    rw [up_ne _ _ _ _ q]
theorem RSV_up {c : Nat → mq_E} {g a : Nat} {T : ZT} (h : RSV c g a T) (b : Nat) (e : mq_E) (hb : b < g) : RSV (mq_up c b e) g a T := by
  obtain ⟨h1, h2, h3, i, j, f, h', h4, h5⟩ := h
  refine ⟨h1, h2, h3, i, j, f, h', ?_, h5⟩
  rw [ro_up _ _ _ _ _ _ _ _ _ hb, h4]
theorem df_4 : mp_df 4 = [.null, .int 0, .null, .null, .null, .null, .null, .null, .null, .long 0, .null, .long 0, .null, .int 0, .int 0, .int 0] := rfl
theorem rk_0 (x : Nat) : mq_okv (mp_ft 4 0) (.ref x) = true := okv_T _ _ _ _ rfl
theorem rk_2 (x : Nat) : mq_okv (mp_ft 4 2) (.ref x) = true := okv_A _ _ _ _ rfl
theorem rk_3 (x : Nat) : mq_okv (mp_ft 4 3) (.ref x) = true := okv_A _ _ _ _ rfl
theorem rk_4 (x : Nat) : mq_okv (mp_ft 4 4) (.ref x) = true := okv_A _ _ _ _ rfl
theorem rk_5 (x : Nat) : mq_okv (mp_ft 4 5) (.ref x) = true := okv_A _ _ _ _ rfl
theorem rk_6 (x : Nat) : mq_okv (mp_ft 4 6) (.ref x) = true := okv_A _ _ _ _ rfl
theorem rk_7 (x : Nat) : mq_okv (mp_ft 4 7) (.ref x) = true := okv_A _ _ _ _ rfl
theorem rk_8 (x : Nat) : mq_okv (mp_ft 4 8) (.ref x) = true := okv_A _ _ _ _ rfl
theorem rk_10 (x : Nat) : mq_okv (mp_ft 4 10) (.ref x) = true := okv_A _ _ _ _ rfl
theorem rk_12 (x : Nat) : mq_okv (mp_ft 4 12) (.ref x) = true := okv_A _ _ _ _ rfl
def ri0 (k : Nat) : Int32 := if k = 15 then -1 else 0
def rj0 : Nat → Int64 := fun _ => 0
def rf0 : Nat → Nat → Int32 := fun _ _ => 0
def rh0 : Nat → Nat → Int64 := fun _ _ => 0
section RN
variable {n s : Nat} {c : Nat → mq_E} {I : Nat → Int32} {J : Nat → Int64} {A : Nat → Nat → Int32} {B : Nat → Nat → Int64} {R : Nat → Value} {Q : Nat → Nat → Option Nat}
variable {g a : Nat} {T : ZT} {i : Nat → Int32} {j : Nat → Int64} {f : Nat → Nat → Int32} {h : Nat → Nat → Int64}
theorem R_new0 (ha : 46 ≤ g) (d : Nat) : mz (d + 9) 58 0 [some (.ref g), some (.ref a), none, none, none] [] (hp (g + 1) s (mq_up c g (.inr (4, mp_df 4))) I J A B R Q) = mz (d + 9) 58 97 [some (.ref g), some (.ref a), none, none, none] [] (hp (g + 10) (s + 236) (ro c g a ri0 rj0 rf0 rh0) I J A B R Q) := by
  rw [← ro_nest]
  simp (disch := first | omega | exact zb_1 | exact zb_0 | exact zb_n1 | exact zb_n0) only [x58_0, x58_1, x58_4, x58_5, x58_7, x58_9, x58_12, x58_13, x58_15, x306_0, mq_dl_int, mq_dl_ref, mq_dl_null, mq_dl_none, mc_some, Option.toList_some, Option.toList_none, List.cons_append, List.nil_append, zb_1, zb_0, ↓reduceIte, if_true, if_false, not_true_eq_false, not_false_eq_true, Bool.false_eq_true, z_10, z_01, eq_self, Bool.and_self, true_or, or_true, false_or, or_false, true_and, and_true, false_and, and_false, and_self, or_self, Nat.reduceLT, Nat.reduceEqDiff, Nat.reduceLeDiff, Nat.reduceAdd, Nat.reduceMul, Nat.reduceSub, zn_lit, zn_add, zn_mul, zn_sub, zn_addneg, zn_lt, zn_le, zn_eq, zn_clamp, zn_in, zn_long, hp_1, hp_21, hpoB, hpo0B, hpfsB, hpfB, haiB, hagB, hanB, halB, hlgB, hp_mkB, hp_wcB, eo_i, eo0_i, efs_i, eai_i, eag_i, ean_i, eal_i, elg_i, ean_l, up_eq, up_ne, up_up, up_m1, up_m2, up_m3, up_m4, up_m5, up_m6, up_m7, up_m8, up_m9, List.set_cons_zero, List.set_cons_succ, List.getD_cons_zero, List.getD_cons_succ, List.length_cons, List.length_nil, decide_true, Bool.true_and, Bool.and_true, Bool.true_or, upd_zu, updL_zu, zu_zu, zu_eq, df_4, Nat.not_lt_zero, rk_2]
  simp (disch := first | omega | exact zb_1 | exact zb_0 | exact zb_n1 | exact zb_n0) only [x58_17, x58_20, x58_21, x58_23, x58_25, x58_28, x58_29, x58_31, x58_33, mq_dl_int, mq_dl_ref, mq_dl_null, mq_dl_none, mc_some, Option.toList_some, Option.toList_none, List.cons_append, List.nil_append, zb_1, zb_0, ↓reduceIte, if_true, if_false, not_true_eq_false, not_false_eq_true, Bool.false_eq_true, z_10, z_01, eq_self, Bool.and_self, true_or, or_true, false_or, or_false, true_and, and_true, false_and, and_false, and_self, or_self, Nat.reduceLT, Nat.reduceEqDiff, Nat.reduceLeDiff, Nat.reduceAdd, Nat.reduceMul, Nat.reduceSub, zn_lit, zn_add, zn_mul, zn_sub, zn_addneg, zn_lt, zn_le, zn_eq, zn_clamp, zn_in, zn_long, hp_1, hp_21, hpoB, hpo0B, hpfsB, hpfB, haiB, hagB, hanB, halB, hlgB, hp_mkB, hp_wcB, eo_i, eo0_i, efs_i, eai_i, eag_i, ean_i, eal_i, elg_i, ean_l, up_eq, up_ne, up_up, up_m1, up_m2, up_m3, up_m4, up_m5, up_m6, up_m7, up_m8, up_m9, List.set_cons_zero, List.set_cons_succ, List.getD_cons_zero, List.getD_cons_succ, List.length_cons, List.length_nil, decide_true, Bool.true_and, Bool.and_true, Bool.true_or, upd_zu, updL_zu, zu_zu, zu_eq, Nat.not_lt_zero, rk_3, rk_4, rk_5]
  simp (disch := first | omega | exact zb_1 | exact zb_0 | exact zb_n1 | exact zb_n0) only [x58_36, x58_37, x58_40, x58_42, x58_45, x58_46, x58_48, x58_50, mq_dl_int, mq_dl_ref, mq_dl_null, mq_dl_none, mc_some, Option.toList_some, Option.toList_none, List.cons_append, List.nil_append, zb_1, zb_0, ↓reduceIte, if_true, if_false, not_true_eq_false, not_false_eq_true, Bool.false_eq_true, z_10, z_01, eq_self, Bool.and_self, true_or, or_true, false_or, or_false, true_and, and_true, false_and, and_false, and_self, or_self, Nat.reduceLT, Nat.reduceEqDiff, Nat.reduceLeDiff, Nat.reduceAdd, Nat.reduceMul, Nat.reduceSub, zn_lit, zn_add, zn_mul, zn_sub, zn_addneg, zn_lt, zn_le, zn_eq, zn_clamp, zn_in, zn_long, hp_1, hp_21, hpoB, hpo0B, hpfsB, hpfB, haiB, hagB, hanB, halB, hlgB, hp_mkB, hp_wcB, eo_i, eo0_i, efs_i, eai_i, eag_i, ean_i, eal_i, elg_i, ean_l, up_eq, up_ne, up_up, up_m1, up_m2, up_m3, up_m4, up_m5, up_m6, up_m7, up_m8, up_m9, List.set_cons_zero, List.set_cons_succ, List.getD_cons_zero, List.getD_cons_succ, List.length_cons, List.length_nil, decide_true, Bool.true_and, Bool.and_true, Bool.true_or, upd_zu, updL_zu, zu_zu, zu_eq, Nat.not_lt_zero, rk_6, rk_7]
  simp (disch := first | omega | exact zb_1 | exact zb_0 | exact zb_n1 | exact zb_n0) only [x58_53, x58_54, x58_56, x58_58, x58_61, x58_62, x58_64, x58_66, mq_dl_int, mq_dl_ref, mq_dl_null, mq_dl_none, mc_some, Option.toList_some, Option.toList_none, List.cons_append, List.nil_append, zb_1, zb_0, ↓reduceIte, if_true, if_false, not_true_eq_false, not_false_eq_true, Bool.false_eq_true, z_10, z_01, eq_self, Bool.and_self, true_or, or_true, false_or, or_false, true_and, and_true, false_and, and_false, and_self, or_self, Nat.reduceLT, Nat.reduceEqDiff, Nat.reduceLeDiff, Nat.reduceAdd, Nat.reduceMul, Nat.reduceSub, zn_lit, zn_add, zn_mul, zn_sub, zn_addneg, zn_lt, zn_le, zn_eq, zn_clamp, zn_in, zn_long, hp_1, hp_21, hpoB, hpo0B, hpfsB, hpfB, haiB, hagB, hanB, halB, hlgB, hp_mkB, hp_wcB, eo_i, eo0_i, efs_i, eai_i, eag_i, ean_i, eal_i, elg_i, ean_l, up_eq, up_ne, up_up, up_m1, up_m2, up_m3, up_m4, up_m5, up_m6, up_m7, up_m8, up_m9, List.set_cons_zero, List.set_cons_succ, List.getD_cons_zero, List.getD_cons_succ, List.length_cons, List.length_nil, decide_true, Bool.true_and, Bool.and_true, Bool.true_or, upd_zu, updL_zu, zu_zu, zu_eq, Nat.not_lt_zero, rk_8, rk_10]
  simp (disch := first | omega | exact zb_1 | exact zb_0 | exact zb_n1 | exact zb_n0) only [x58_69, x58_70, x58_72, x58_74, x58_77, x58_78, x58_79, mq_dl_int, mq_dl_ref, mq_dl_null, mq_dl_none, mc_some, Option.toList_some, Option.toList_none, List.cons_append, List.nil_append, zb_1, zb_0, ↓reduceIte, if_true, if_false, not_true_eq_false, not_false_eq_true, Bool.false_eq_true, z_10, z_01, eq_self, Bool.and_self, true_or, or_true, false_or, or_false, true_and, and_true, false_and, and_false, and_self, or_self, Nat.reduceLT, Nat.reduceEqDiff, Nat.reduceLeDiff, Nat.reduceAdd, Nat.reduceMul, Nat.reduceSub, zn_lit, zn_add, zn_mul, zn_sub, zn_addneg, zn_lt, zn_le, zn_eq, zn_clamp, zn_in, zn_long, hp_1, hp_21, hpoB, hpo0B, hpfsB, hpfB, haiB, hagB, hanB, halB, hlgB, hp_mkB, hp_wcB, eo_i, eo0_i, efs_i, eai_i, eag_i, ean_i, eal_i, elg_i, ean_l, up_eq, up_ne, up_up, up_m1, up_m2, up_m3, up_m4, up_m5, up_m6, up_m7, up_m8, up_m9, List.set_cons_zero, List.set_cons_succ, List.getD_cons_zero, List.getD_cons_succ, List.length_cons, List.length_nil, decide_true, Bool.true_and, Bool.and_true, Bool.true_or, upd_zu, updL_zu, zu_zu, zu_eq, Nat.not_lt_zero, rk_12, ro_k13]
  simp (disch := first | omega | exact zb_1 | exact zb_0 | exact zb_n1 | exact zb_n0) only [x58_82, x58_83, x58_84, x58_87, x58_88, x58_89, x58_92, x58_93, x58_94, mq_dl_int, mq_dl_ref, mq_dl_null, mq_dl_none, mc_some, Option.toList_some, Option.toList_none, List.cons_append, List.nil_append, zb_1, zb_0, ↓reduceIte, if_true, if_false, not_true_eq_false, not_false_eq_true, Bool.false_eq_true, z_10, z_01, eq_self, Bool.and_self, true_or, or_true, false_or, or_false, true_and, and_true, false_and, and_false, and_self, or_self, Nat.reduceLT, Nat.reduceEqDiff, Nat.reduceLeDiff, Nat.reduceAdd, Nat.reduceMul, Nat.reduceSub, zn_lit, zn_add, zn_mul, zn_sub, zn_addneg, zn_lt, zn_le, zn_eq, zn_clamp, zn_in, zn_long, hp_1, hp_21, hpoB, hpo0B, hpfsB, hpfB, haiB, hagB, hanB, halB, hlgB, hp_mkB, hp_wcB, eo_i, eo0_i, efs_i, eai_i, eag_i, ean_i, eal_i, elg_i, ean_l, up_eq, up_ne, up_up, up_m1, up_m2, up_m3, up_m4, up_m5, up_m6, up_m7, up_m8, up_m9, List.set_cons_zero, List.set_cons_succ, List.getD_cons_zero, List.getD_cons_succ, List.length_cons, List.length_nil, decide_true, Bool.true_and, Bool.and_true, Bool.true_or, upd_zu, updL_zu, zu_zu, zu_eq, Nat.not_lt_zero, ro_b0, ro_k15, rk_0]
  rfl
theorem C_pdl (hg : 46 ≤ g) (hT : TB c a T) (hga : a + 2 < g) (hW : WT T) (hG : gdT T = true) (ho : orT T ≤ 60) (hi : i 1 = zn T.1) (d : Nat) : ∀ (e k P : Nat), k + e = T.1 → P * zpd (szT T) k e = pdT T → mz (d + 9) 58 110 [some (.ref g), some (.ref a), some (.long (zln P)), none, some (.int (zn k))] [] (hp n s (ro c g a i j f h) I J A B R Q) = mz (d + 9) 58 139 [some (.ref g), some (.ref a), some (.long (zln (pdT T))), none, some (.int (zn T.1))] [] (hp n s (ro c g a i j f h) I J A B R Q)
  | 0, k, P, hk, hP => by
    have h6 := hW.2.1
    have e : k = T.1 := by omega
    subst e
    rw [← hP, show P * zpd (szT T) T.1 0 = P from Nat.mul_one P]
    simp (disch := first | omega | exact zb_1 | exact zb_0 | exact zb_n1 | exact zb_n0) only [x58_110, x58_112, x58_113, x58_116, mq_dl_int, mq_dl_ref, mq_dl_null, mq_dl_none, mc_some, Option.toList_some, Option.toList_none, List.cons_append, List.nil_append, zb_1, zb_0, ↓reduceIte, if_true, if_false, not_true_eq_false, not_false_eq_true, Bool.false_eq_true, z_10, z_01, eq_self, Bool.and_self, true_or, or_true, false_or, or_false, true_and, and_true, false_and, and_false, and_self, or_self, Nat.reduceLT, Nat.reduceEqDiff, Nat.reduceLeDiff, Nat.reduceAdd, Nat.reduceMul, Nat.reduceSub, zn_lit, zn_add, zn_mul, zn_sub, zn_addneg, zn_lt, zn_le, zn_eq, zn_clamp, zn_in, zn_long, hp_1, hp_21, ro_0, ro_mo, ro_f0, ro_f1, ro_s1, ro_k1, ro_f2, ro_f3, ro_f4, ro_f5, ro_f6, ro_f7, ro_f8, ro_f9, ro_s9, ro_k9, ro_f10, ro_f11, ro_s11, ro_k11, ro_f12, ro_f13, ro_s13, ro_k13, ro_f14, ro_s14, ro_f15, ro_s15, ro_k15, ro_i1, ro_g1, ro_n1, ro_w1, ro_i2, ro_g2, ro_n2, ro_w2, ro_i3, ro_g3, ro_n3, ro_w3, ro_i4, ro_g4, ro_n4, ro_w4, ro_i5, ro_g5, ro_n5, ro_w5, ro_i6, ro_g6, ro_n6, ro_w6, ro_i7, ro_g7, ro_n7, ro_w7, ro_i8, ro_g8, ro_n8, ro_w8, ro_i9, ro_g9, ro_n9, ro_w9, zu_eq, zu_ne, zu_zu, upd_zu, updL_zu, hi, Nat.le_refl]
  | e + 1, k, P, hk, hP => by
    have h6 := hW.2.1
    have hT1 : TB (ro c g a i j f h) a T := TB_ro hT (Or.inl hga)
    have hz := szT_pos hW hG (show k < T.1 by omega)
    have hz2 := szT_or (T := T) (show k < T.1 by omega)
    have hmx : max 1 (szT T k) = szT T k := by omega
    rw [← C_pdl hg hT hga hW hG ho hi d e (k + 1) (P * szT T k) (by omega) (by rw [← hP, Nat.mul_assoc]; rfl), x58_110]
    simp (disch := first | omega | exact zb_1 | exact zb_0 | exact zb_n1 | exact zb_n0) only [x58_112, x58_113, x58_116, x58_119, x58_120, x58_121, x58_122, x58_124, x58_127, x58_130, x58_131, x58_132, x58_133, x58_136, mq_dl_int, mq_dl_ref, mq_dl_null, mq_dl_none, mc_some, Option.toList_some, Option.toList_none, List.cons_append, List.nil_append, zb_1, zb_0, ↓reduceIte, if_true, if_false, not_true_eq_false, not_false_eq_true, Bool.false_eq_true, z_10, z_01, eq_self, Bool.and_self, true_or, or_true, false_or, or_false, true_and, and_true, false_and, and_false, and_self, or_self, Nat.reduceLT, Nat.reduceEqDiff, Nat.reduceLeDiff, Nat.reduceAdd, Nat.reduceMul, Nat.reduceSub, zn_lit, zn_add, zn_mul, zn_sub, zn_addneg, zn_lt, zn_le, zn_eq, zn_clamp, zn_in, zn_long, zln_mul, hp_1, hp_21, ro_0, ro_mo, ro_f0, ro_f1, ro_s1, ro_k1, ro_f2, ro_f3, ro_f4, ro_f5, ro_f6, ro_f7, ro_f8, ro_f9, ro_s9, ro_k9, ro_f10, ro_f11, ro_s11, ro_k11, ro_f12, ro_f13, ro_s13, ro_k13, ro_f14, ro_s14, ro_f15, ro_s15, ro_k15, ro_i1, ro_g1, ro_n1, ro_w1, ro_i2, ro_g2, ro_n2, ro_w2, ro_i3, ro_g3, ro_n3, ro_w3, ro_i4, ro_g4, ro_n4, ro_w4, ro_i5, ro_g5, ro_n5, ro_w5, ro_i6, ro_g6, ro_n6, ro_w6, ro_i7, ro_g7, ro_n7, ro_w7, ro_i8, ro_g8, ro_n8, ro_w8, ro_i9, ro_g9, ro_n9, ro_w9, zu_eq, zu_ne, zu_zu, upd_zu, updL_zu, hi, tb_0 hT1, T_size hT1 hW, M_max, hmx, show ¬ T.1 ≤ k by omega]
theorem C_wtl (hg : 46 ≤ g) (hT : TB c a T) (hga : a + 2 < g) (hW : WT T) (hG : gdT T = true) (ho : orT T ≤ 60) (hi : i 1 = zn T.1) (d : Nat) : ∀ (e k : Nat) (h : Nat → Nat → Int64), k + e = T.1 → (∀ y, y < k → h 8 y = zln (wtT T y)) → ∃ h', (∀ q, q ≠ 8 → h' q = h q) ∧ (∀ y, y < T.1 → h' 8 y = zln (wtT T y)) ∧ mz (d + 9) 58 160 [some (.ref g), some (.ref a), some (.long (zln (pdT T))), none, some (.int (zn k))] [] (hp n s (ro c g a i j f h) I J A B R Q) = mz (d + 9) 58 195 [some (.ref g), some (.ref a), some (.long (zln (pdT T))), none, some (.int (zn T.1))] [] (hp n s (ro c g a i j f h') I J A B R Q)
  | 0, k, h, hk, hh => by
    have h6 := hW.2.1
    have e : k = T.1 := by omega
    subst e
    refine ⟨h, fun _ _ => rfl, hh, ?_⟩
    simp (disch := first | omega | exact zb_1 | exact zb_0 | exact zb_n1 | exact zb_n0) only [x58_160, x58_162, x58_163, x58_166, mq_dl_int, mq_dl_ref, mq_dl_null, mq_dl_none, mc_some, Option.toList_some, Option.toList_none, List.cons_append, List.nil_append, zb_1, zb_0, ↓reduceIte, if_true, if_false, not_true_eq_false, not_false_eq_true, Bool.false_eq_true, z_10, z_01, eq_self, Bool.and_self, true_or, or_true, false_or, or_false, true_and, and_true, false_and, and_false, and_self, or_self, Nat.reduceLT, Nat.reduceEqDiff, Nat.reduceLeDiff, Nat.reduceAdd, Nat.reduceMul, Nat.reduceSub, zn_lit, zn_add, zn_mul, zn_sub, zn_addneg, zn_lt, zn_le, zn_eq, zn_clamp, zn_in, zn_long, hp_1, hp_21, ro_0, ro_mo, ro_f0, ro_f1, ro_s1, ro_k1, ro_f2, ro_f3, ro_f4, ro_f5, ro_f6, ro_f7, ro_f8, ro_f9, ro_s9, ro_k9, ro_f10, ro_f11, ro_s11, ro_k11, ro_f12, ro_f13, ro_s13, ro_k13, ro_f14, ro_s14, ro_f15, ro_s15, ro_k15, ro_i1, ro_g1, ro_n1, ro_w1, ro_i2, ro_g2, ro_n2, ro_w2, ro_i3, ro_g3, ro_n3, ro_w3, ro_i4, ro_g4, ro_n4, ro_w4, ro_i5, ro_g5, ro_n5, ro_w5, ro_i6, ro_g6, ro_n6, ro_w6, ro_i7, ro_g7, ro_n7, ro_w7, ro_i8, ro_g8, ro_n8, ro_w8, ro_i9, ro_g9, ro_n9, ro_w9, zu_eq, zu_ne, zu_zu, upd_zu, updL_zu, hi, Nat.le_refl]
  | e + 1, k, h, hk, hh => by
    have h6 := hW.2.1
    have hT1 : TB (ro c g a i j f h) a T := TB_ro hT (Or.inl hga)
    have hz := szT_pos hW hG (show k < T.1 by omega)
    have hz2 := szT_or (T := T) (show k < T.1 by omega)
    have hP2 := pd_le hW ho
    have hmx : max 1 (szT T k) = szT T k := by omega
    obtain ⟨h', g1, g2, g3⟩ := C_wtl hg hT hga hW hG ho hi d e (k + 1) (zu h 8 (zu (h 8) k (zln (wtT T k)))) (by omega) (fun y hy => by
      rw [zu_eq]
      by_cases z : y = k
      · subst z; rw [zu_eq]
      · rw [zu_ne _ _ _ _ z]; exact hh y (by omega))
    refine ⟨h', fun q hq => by rw [g1 q hq, zu_ne _ _ _ _ hq], g2, Eq.trans ?_ g3⟩
    have hd : zln (pdT T) / zln (szT T k) = zln (wtT T k) := zln_div _ _ (by omega) (by omega)
    rw [x58_160]
    simp (disch := first | omega | exact zb_1 | exact zb_0 | exact zb_n1 | exact zb_n0) only [x58_162, x58_163, x58_166, x58_169, x58_170, x58_173, x58_175, x58_176, x58_177, x58_178, x58_180, x58_183, x58_186, x58_187, x58_188, x58_189, x58_192, mq_dl_int, mq_dl_ref, mq_dl_null, mq_dl_none, mc_some, Option.toList_some, Option.toList_none, List.cons_append, List.nil_append, zb_1, zb_0, ↓reduceIte, if_true, if_false, not_true_eq_false, not_false_eq_true, Bool.false_eq_true, z_10, z_01, eq_self, Bool.and_self, true_or, or_true, false_or, or_false, true_and, and_true, false_and, and_false, and_self, or_self, Nat.reduceLT, Nat.reduceEqDiff, Nat.reduceLeDiff, Nat.reduceAdd, Nat.reduceMul, Nat.reduceSub, zn_lit, zn_add, zn_mul, zn_sub, zn_addneg, zn_lt, zn_le, zn_eq, zn_clamp, zn_in, zn_long, zln_lit, zln_add, zln_mul, zln_lt, zln_le, zln_eq, zln_int, hp_1, hp_21, ro_0, ro_mo, ro_f0, ro_f1, ro_s1, ro_k1, ro_f2, ro_f3, ro_f4, ro_f5, ro_f6, ro_f7, ro_f8, ro_f9, ro_s9, ro_k9, ro_f10, ro_f11, ro_s11, ro_k11, ro_f12, ro_f13, ro_s13, ro_k13, ro_f14, ro_s14, ro_f15, ro_s15, ro_k15, ro_i1, ro_g1, ro_n1, ro_w1, ro_i2, ro_g2, ro_n2, ro_w2, ro_i3, ro_g3, ro_n3, ro_w3, ro_i4, ro_g4, ro_n4, ro_w4, ro_i5, ro_g5, ro_n5, ro_w5, ro_i6, ro_g6, ro_n6, ro_w6, ro_i7, ro_g7, ro_n7, ro_w7, ro_i8, ro_g8, ro_n8, ro_w8, ro_i9, ro_g9, ro_n9, ro_w9, zu_eq, zu_ne, zu_zu, upd_zu, updL_zu, hi, tb_0 hT1, T_size hT1 hW, M_max, hmx, hd, show ¬ szT T k = 0 by omega, show ¬ T.1 ≤ k by omega, show k < 6 by omega, decide_true]
theorem R_newR (hT : TB c a T) (hW : WT T) (hG : gdT T = true) (ho : orT T ≤ 60) (hga : a + 2 < g) (hg : 46 ≤ g) (d : Nat) : ∃ i j f h, RSF T i j f h ∧ i 15 = -1 ∧ mz (d + 9) 58 0 [some (.ref g), some (.ref a), none, none, none] [] (hp (g + 1) s (mq_up c g (.inr (4, mp_df 4))) I J A B R Q) = some (some none, hp (g + 10) (s + 236) (ro c g a i j f h) I J A B R Q) := by
  have h1 := hW.1
  have h6 := hW.2.1
  have hl := RW_len hW
  have hor := orT_le hW
  have hP := pd_pos hW hG
  have hT0 : TB (ro c g a ri0 rj0 rf0 rh0) a T := TB_ro hT (Or.inl hga)
  obtain ⟨i1, hi1⟩ : ∃ i1, i1 = zu ri0 1 (zn T.1) := ⟨_, rfl⟩
  have hi : i1 1 = zn T.1 := by rw [hi1, zu_eq]
  have hi13 : i1 13 = zn 0 := by rw [hi1, zu_ne _ _ _ _ (by omega)]; rfl
  have hi15 : i1 15 = -1 := by rw [hi1, zu_ne _ _ _ _ (by omega)]; rfl
  obtain ⟨j1, hj1⟩ : ∃ j1, j1 = zu (zu rj0 9 (zln (pdT T))) 11 (zln (ddT T)) := ⟨_, rfl⟩
  have hj9 : j1 9 = zln (pdT T) := by rw [hj1, zu_ne _ _ _ _ (by omega), zu_eq]
  have hj11 : j1 11 = zln (ddT T) := by rw [hj1, zu_eq]
  have e1 := C_pdl (n := g + 10) (s := s + 236) (c := c) (I := I) (J := J) (A := A) (B := B) (R := R) (Q := Q) (j := rj0) (f := rf0) (h := rh0) hg hT hga hW hG ho hi d T.1 0 1 (by omega) (Nat.one_mul _)
  obtain ⟨h', w1, w2, w3⟩ := C_wtl (n := g + 10) (s := s + 236) (c := c) (I := I) (J := J) (A := A) (B := B) (R := R) (Q := Q) (j := j1) (f := rf0) hg hT hga hW hG ho hi d T.1 0 rh0 (by omega) (fun y hy => by omega)
  obtain ⟨f2, h2, s1, s2, s3, s4, s5⟩ := C_sift (n := g + 10) (s := s + 236) (c := c) (I := I) (J := J) (A := A) (B := B) (R := R) (Q := Q) (j := j1) hg hT hga hW ho hi (d + 5) rf0 h'
  obtain ⟨i3, f3, x1, x2, x3, x4, x5⟩ := C_ex (n := g + 10) (s := s + 236) (c := c) (I := I) (J := J) (A := A) (B := B) (R := R) (Q := Q) (j := j1) (h := h2) hg hT hga hW ho (d + 5 - (T.1 - 1)) (T.1 - 1) 1 i1 (zu f2 6 (zu (f2 6) 0 (zn 1))) xo [] (by omega) (by omega) (fun y hy => by
    have e : y = 0 := by omega
    subst e
    rw [zu_eq, zu_eq]
    exact ⟨zi_nat 1, by decide⟩) rfl hi (by rw [zu_ne _ _ _ _ (by omega)]; exact s3) (by rw [zu_ne _ _ _ _ (by omega)]; exact s4) ⟨hi13, fun t p hp => by simp at hp⟩ (by simp only [List.length_nil, Nat.zero_add]; exact Nat.le_trans hl h6) (fun hr => by
    unfold irT
    rw [hr]
    rfl)
  rw [List.nil_append, show exs T (T.1 - 1) 1 xo = RW T from rfl] at x4
  rw [show d + 5 - (T.1 - 1) + (T.1 - 1) + 3 = d + 8 by omega] at x5
  obtain ⟨i4, h4, y1, y2, y3, y4, y5⟩ := C_ca (n := g + 10) (s := s + 236) (c := c) (I := I) (J := J) (A := A) (B := B) (R := R) (Q := Q) (j := j1) (i := i3) (f := f3) (h := h2) hg hT hga hW hG ho hj9 (d + 6) (by rw [x1 1 (by omega)]; exact hi) x4 (fun k hk => by rw [s1 8 (by omega)]; exact w2 k hk)
  refine ⟨i4, j1, f3, h4, ⟨by rw [y1 1 (by omega), x1 1 (by omega)]; exact hi, ⟨by rw [y1 13 (by omega)]; exact x4.1, x4.2⟩, hj11, fun k hk => by rw [y2 8 (by omega) (by omega), s1 8 (by omega)]; exact w2 k hk, y3, y4, Or.inl (by rw [y1 15 (by omega), x1 15 (by omega)]; exact hi15)⟩, by rw [y1 15 (by omega), x1 15 (by omega)]; exact hi15, ?_⟩
  have hT1 : TB (ro c g a i1 (zu rj0 9 (zln (pdT T))) rf0 rh0) a T := TB_ro hT (Or.inl hga)
  have hdd : zln (orT T) * zln (pdT T) * zln (pdT T) = zln (ddT T) := by rw [zln_mul, zln_mul]; rfl
  rw [R_new0 hg]
  have ea : mz (d + 9) 58 97 [some (.ref g), some (.ref a), none, none, none] [] (hp (g + 10) (s + 236) (ro c g a ri0 rj0 rf0 rh0) I J A B R Q) = mz (d + 9) 58 110 [some (.ref g), some (.ref a), some (.long (zln 1)), none, some (.int (zn 0))] [] (hp (g + 10) (s + 236) (ro c g a i1 rj0 rf0 rh0) I J A B R Q) := by
    simp (disch := first | omega | exact zb_1 | exact zb_0 | exact zb_n1 | exact zb_n0) only [x58_97, x58_98, x58_99, x58_102, x58_105, x58_106, x58_107, x58_108, mq_dl_int, mq_dl_ref, mq_dl_null, mq_dl_none, mc_some, Option.toList_some, Option.toList_none, List.cons_append, List.nil_append, zb_1, zb_0, ↓reduceIte, if_true, if_false, not_true_eq_false, not_false_eq_true, Bool.false_eq_true, z_10, z_01, eq_self, Bool.and_self, true_or, or_true, false_or, or_false, true_and, and_true, false_and, and_false, and_self, or_self, Nat.reduceLT, Nat.reduceEqDiff, Nat.reduceLeDiff, Nat.reduceAdd, Nat.reduceMul, Nat.reduceSub, zn_lit, zn_add, zn_mul, zn_sub, zn_addneg, zn_lt, zn_le, zn_eq, zn_clamp, zn_in, zn_long, zln_lit, hp_1, hp_21, ro_0, ro_mo, ro_f0, ro_f1, ro_s1, ro_k1, ro_f2, ro_f3, ro_f4, ro_f5, ro_f6, ro_f7, ro_f8, ro_f9, ro_s9, ro_k9, ro_f10, ro_f11, ro_s11, ro_k11, ro_f12, ro_f13, ro_s13, ro_k13, ro_f14, ro_s14, ro_f15, ro_s15, ro_k15, ro_i1, ro_g1, ro_n1, ro_w1, ro_i2, ro_g2, ro_n2, ro_w2, ro_i3, ro_g3, ro_n3, ro_w3, ro_i4, ro_g4, ro_n4, ro_w4, ro_i5, ro_g5, ro_n5, ro_w5, ro_i6, ro_g6, ro_n6, ro_w6, ro_i7, ro_g7, ro_n7, ro_w7, ro_i8, ro_g8, ro_n8, ro_w8, ro_i9, ro_g9, ro_n9, ro_w9, zu_eq, zu_ne, zu_zu, upd_zu, updL_zu, tb_0 hT0, T_things hT0, hi1]
  have eb : mz (d + 9) 58 139 [some (.ref g), some (.ref a), some (.long (zln (pdT T))), none, some (.int (zn T.1))] [] (hp (g + 10) (s + 236) (ro c g a i1 rj0 rf0 rh0) I J A B R Q) = mz (d + 9) 58 160 [some (.ref g), some (.ref a), some (.long (zln (pdT T))), none, some (.int (zn 0))] [] (hp (g + 10) (s + 236) (ro c g a i1 j1 rf0 rh0) I J A B R Q) := by
    simp (disch := first | omega | exact zb_1 | exact zb_0 | exact zb_n1 | exact zb_n0) only [x58_139, x58_140, x58_141, x58_144, x58_145, x58_146, x58_149, x58_150, x58_151, x58_152, x58_153, x58_154, x58_157, x58_158, mq_dl_int, mq_dl_ref, mq_dl_null, mq_dl_none, mc_some, Option.toList_some, Option.toList_none, List.cons_append, List.nil_append, zb_1, zb_0, ↓reduceIte, if_true, if_false, not_true_eq_false, not_false_eq_true, Bool.false_eq_true, z_10, z_01, eq_self, Bool.and_self, true_or, or_true, false_or, or_false, true_and, and_true, false_and, and_false, and_self, or_self, Nat.reduceLT, Nat.reduceEqDiff, Nat.reduceLeDiff, Nat.reduceAdd, Nat.reduceMul, Nat.reduceSub, zn_lit, zn_add, zn_mul, zn_sub, zn_addneg, zn_lt, zn_le, zn_eq, zn_clamp, zn_in, zn_long, hp_1, hp_21, ro_0, ro_mo, ro_f0, ro_f1, ro_s1, ro_k1, ro_f2, ro_f3, ro_f4, ro_f5, ro_f6, ro_f7, ro_f8, ro_f9, ro_s9, ro_k9, ro_f10, ro_f11, ro_s11, ro_k11, ro_f12, ro_f13, ro_s13, ro_k13, ro_f14, ro_s14, ro_f15, ro_s15, ro_k15, ro_i1, ro_g1, ro_n1, ro_w1, ro_i2, ro_g2, ro_n2, ro_w2, ro_i3, ro_g3, ro_n3, ro_w3, ro_i4, ro_g4, ro_n4, ro_w4, ro_i5, ro_g5, ro_n5, ro_w5, ro_i6, ro_g6, ro_n6, ro_w6, ro_i7, ro_g7, ro_n7, ro_w7, ro_i8, ro_g8, ro_n8, ro_w8, ro_i9, ro_g9, ro_n9, ro_w9, zu_eq, zu_ne, zu_zu, upd_zu, updL_zu, tb_0 hT1, T_all hT1 hW, hdd, hj1]
  rw [ea, e1, eb, w3]
  simp (disch := first | omega | exact zb_1 | exact zb_0 | exact zb_n1 | exact zb_n0) only [x58_195, x58_196, x58_199, x58_200, x58_203, x58_204, x58_205, x58_206, x58_207, x58_208, x58_211, x58_212, x58_215, mq_dl_int, mq_dl_ref, mq_dl_null, mq_dl_none, mc_some, Option.toList_some, Option.toList_none, List.cons_append, List.nil_append, zb_1, zb_0, ↓reduceIte, if_true, if_false, not_true_eq_false, not_false_eq_true, Bool.false_eq_true, z_10, z_01, eq_self, Bool.and_self, true_or, or_true, false_or, or_false, true_and, and_true, false_and, and_false, and_self, or_self, Nat.reduceLT, Nat.reduceEqDiff, Nat.reduceLeDiff, Nat.reduceAdd, Nat.reduceMul, Nat.reduceSub, zn_lit, zn_add, zn_mul, zn_sub, zn_addneg, zn_lt, zn_le, zn_eq, zn_clamp, zn_in, zn_long, hp_1, hp_21, ro_0, ro_mo, ro_f0, ro_f1, ro_s1, ro_k1, ro_f2, ro_f3, ro_f4, ro_f5, ro_f6, ro_f7, ro_f8, ro_f9, ro_s9, ro_k9, ro_f10, ro_f11, ro_s11, ro_k11, ro_f12, ro_f13, ro_s13, ro_k13, ro_f14, ro_s14, ro_f15, ro_s15, ro_k15, ro_i1, ro_g1, ro_n1, ro_w1, ro_i2, ro_g2, ro_n2, ro_w2, ro_i3, ro_g3, ro_n3, ro_w3, ro_i4, ro_g4, ro_n4, ro_w4, ro_i5, ro_g5, ro_n5, ro_w5, ro_i6, ro_g6, ro_n6, ro_w6, ro_i7, ro_g7, ro_n7, ro_w7, ro_i8, ro_g8, ro_n8, ro_w8, ro_i9, ro_g9, ro_n9, ro_w9, zu_eq, zu_ne, zu_zu, upd_zu, updL_zu, s5, x5, y5, show 0 < 6 by omega, decide_true]
end RN
theorem tk_7r (x : Nat) : mq_okv (mp_ft 6 7) (.ref x) = true := okv_T _ _ _ _ rfl
section RM
variable {n s : Nat} {c : Nat → mq_E} {I : Nat → Int32} {J : Nat → Int64} {A : Nat → Nat → Int32} {B : Nat → Nat → Int64} {R : Nat → Value} {Q : Nat → Nat → Option Nat}
variable {a g : Nat} {T : ZT} {b bi bj bk : Int32} {rs gs : Value}
theorem tset_7 (hc : c a = tbo T.1 a b bi bj bk rs gs) (v : Value) : tset c a 7 v = mq_up c a (tbo T.1 a b bi bj bk v gs) := by
  unfold tset
  rw [hc]
  rfl
/-- what a call that may make the rows of table a leaves -/
def CR (n s : Nat) (c : Nat → mq_E) (a : Nat) (T : ZT) (gs : Value) (n' s' : Nat) (c' : Nat → mq_E) (g : Nat) : Prop := n ≤ n' ∧ n' ≤ n + 10 ∧ s ≤ s' ∧ s' ≤ s + 252 ∧ (∀ x, x < n ∨ n' ≤ x → x ≠ a → c' x = c x) ∧ (∃ b bi bj bk, (b = -1 ∨ jd T b bi bj bk) ∧ c' a = tbo T.1 a b bi bj bk (.ref g) gs) ∧ RSV c' g a T ∧ g + 9 < n' ∧ TB c' a T
theorem T_rws (hT : TB c a T) (hW : WT T) (hc : c a = tbo T.1 a b bi bj bk rs gs) (hv : b = -1 ∨ jd T b bi bj bk) (hn : 46 ≤ n) (han : a + 2 < n) (hrs : rs = .null ∨ ∃ g, rs = .ref g ∧ g + 9 < n ∧ RSV c g a T) (d : Nat) : (smT T = true → ∃ n' s' c' g, CR n s c a T gs n' s' c' g ∧ (rs = .ref g ∨ n ≤ g) ∧ mz (d + 10) 109 0 [some (.ref a)] [] (hp n s c I J A B R Q) = some (some (some (.ref g)), hp n' s' c' I J A B R Q)) ∧ (smT T = false → ∃ b' bi' bj' bk', jd T b' bi' bj' bk' ∧ rs = .null ∧ mz (d + 10) 109 0 [some (.ref a)] [] (hp n s c I J A B R Q) = some (some (some .null), hp n s (mq_up c a (tbo T.1 a b' bi' bj' bk' rs gs)) I J A B R Q)) := by
  have h2 : (blT T = 0) = (gdT T = true) := blT_0
  have hbl : blT T ≤ 4 := blT_le
  have hor := orT_le hW
  rcases hrs with hrs | ⟨g, hrs, hgn, hG⟩
  · subst hrs
    obtain ⟨b', bi', bj', bk', hj, e⟩ := T_brk (n := n) (s := s) (c := c) (I := I) (J := J) (A := A) (B := B) (R := R) (Q := Q) hT hW hc hv (d + 5)
    have hT1 := TB_up hT b' bi' bj' bk' .null gs
    have hc1 := up_eq c a (tbo T.1 a b' bi' bj' bk' .null gs)
    constructor
    · intro hsm
      obtain ⟨hg, ho⟩ := smT_gd hsm
      rw [hg] at h2
      obtain ⟨i, j, f, h, g1, g2, g4⟩ := R_newR (s := s + 16) (I := I) (J := J) (A := A) (B := B) (R := R) (Q := Q) hT1 hW hg ho han hn d
      have hT2 : TB (ro (mq_up c a (tbo T.1 a b' bi' bj' bk' .null gs)) n a i j f h) a T := TB_ro hT1 (Or.inl han)
      have hc2 : ro (mq_up c a (tbo T.1 a b' bi' bj' bk' .null gs)) n a i j f h a = tbo T.1 a b' bi' bj' bk' .null gs := by rw [ro_ne a (by omega), up_eq]
      refine ⟨n + 10, s + 16 + 236, mq_up (ro (mq_up c a (tbo T.1 a b' bi' bj' bk' .null gs)) n a i j f h) a (tbo T.1 a b' bi' bj' bk' (.ref n) gs), n, ⟨by omega, by omega, by omega, by omega, ?_, ?_, ?_, by omega, TB_up hT2 _ _ _ _ _ _⟩, Or.inr (Nat.le_refl _), ?_⟩
      · intro x hx hxa
        rw [up_ne _ _ _ _ hxa, ro_ne x (by omega), up_ne _ _ _ _ hxa]
      · exact ⟨b', bi', bj', bk', Or.inr hj, up_eq _ _ _⟩
      · refine ⟨hn, han, hsm, i, j, f, h, ?_, g1⟩
        rw [ro_up _ _ _ _ _ _ _ _ _ (by omega), ro_ro]
      · have w := hp_tset (n := n + 10) (s := s + 16 + 236) (I := I) (J := J) (A := A) (B := B) (R := R) (Q := Q) hT2 7 (.ref n)
        rw [tset_7 hc2] at w
        have hT3 := TB_up hT2 b' bi' bj' bk' (.ref n) gs
        simp (disch := first | omega | exact zb_1 | exact zb_0 | exact zb_n1 | exact zb_n0) only [x109_0, x109_1, x109_4, x109_4N, x109_7, x109_8, x109_11, x109_14, x109_15, x109_18, x109_20, x109_23, x109_24, x109_27, x109_28, x109_29, x109_32, x109_35, x109_36, x109_39, mq_dl_int, mq_dl_ref, mq_dl_null, mq_dl_none, mc_some, Option.toList_some, Option.toList_none, List.cons_append, List.nil_append, zb_1, zb_0, ↓reduceIte, if_true, if_false, not_true_eq_false, not_false_eq_true, Bool.false_eq_true, z_10, z_01, eq_self, Bool.and_self, true_or, or_true, false_or, or_false, true_and, and_true, false_and, and_false, and_self, or_self, Nat.reduceLT, Nat.reduceEqDiff, Nat.reduceLeDiff, Nat.reduceAdd, Nat.reduceMul, Nat.reduceSub, zn_lit, zn_add, zn_mul, zn_sub, zn_addneg, zn_lt, zn_le, zn_eq, zn_clamp, zn_in, zn_long, tb_0 hT, tb_mo hT, tb_f7 hT hc, e, h2, tb_0 hT1, T_all hT1 hW, hp_1, hp_mkB, g4, tb_0 hT2, tb_mo hT2, tk_7r, w, tb_0 hT3, tb_mo hT3, tb_f7 hT3 (up_eq _ _ _), show ¬ 60 < orT T by omega]
    · intro hsm
      refine ⟨b', bi', bj', bk', hj, rfl, ?_⟩
      unfold smT at hsm
      by_cases hg : gdT T = true
      · rw [hg] at h2
        have ho : ¬ orT T ≤ 60 := by
          intro ho
          rw [hg, decide_eq_true ho] at hsm
          cases hsm
        simp (disch := first | omega | exact zb_1 | exact zb_0 | exact zb_n1 | exact zb_n0) only [x109_0, x109_1, x109_4, x109_4N, x109_7, x109_8, x109_11, x109_14, x109_15, x109_18, x109_20, x109_35, x109_36, x109_39N, mq_dl_int, mq_dl_ref, mq_dl_null, mq_dl_none, mc_some, Option.toList_some, Option.toList_none, List.cons_append, List.nil_append, zb_1, zb_0, ↓reduceIte, if_true, if_false, not_true_eq_false, not_false_eq_true, Bool.false_eq_true, z_10, z_01, eq_self, Bool.and_self, true_or, or_true, false_or, or_false, true_and, and_true, false_and, and_false, and_self, or_self, Nat.reduceLT, Nat.reduceEqDiff, Nat.reduceLeDiff, Nat.reduceAdd, Nat.reduceMul, Nat.reduceSub, zn_lit, zn_add, zn_mul, zn_sub, zn_addneg, zn_lt, zn_le, zn_eq, zn_clamp, zn_in, zn_long, tb_0 hT, tb_mo hT, tb_f7 hT hc, e, h2, tb_0 hT1, tb_mo hT1, T_all hT1 hW, tb_f7 hT1 (up_eq _ _ _), show 60 < orT T by omega]
      · rw [Bool.eq_false_iff.mpr hg] at h2
        simp (disch := first | omega | exact zb_1 | exact zb_0 | exact zb_n1 | exact zb_n0) only [x109_0, x109_1, x109_4, x109_4N, x109_7, x109_8, x109_11, x109_35, x109_36, x109_39N, mq_dl_int, mq_dl_ref, mq_dl_null, mq_dl_none, mc_some, Option.toList_some, Option.toList_none, List.cons_append, List.nil_append, zb_1, zb_0, ↓reduceIte, if_true, if_false, not_true_eq_false, not_false_eq_true, Bool.false_eq_true, z_10, z_01, eq_self, Bool.and_self, true_or, or_true, false_or, or_false, true_and, and_true, false_and, and_false, and_self, or_self, Nat.reduceLT, Nat.reduceEqDiff, Nat.reduceLeDiff, Nat.reduceAdd, Nat.reduceMul, Nat.reduceSub, zn_lit, zn_add, zn_mul, zn_sub, zn_addneg, zn_lt, zn_le, zn_eq, zn_clamp, zn_in, zn_long, tb_0 hT, tb_mo hT, tb_f7 hT hc, e, h2, tb_0 hT1, tb_mo hT1, tb_f7 hT1 (up_eq _ _ _)]
  · subst hrs
    constructor
    · intro hg
      refine ⟨n, s, c, g, ⟨Nat.le_refl _, by omega, Nat.le_refl _, by omega, fun _ _ _ => rfl, ⟨b, bi, bj, bk, hv, hc⟩, hG, hgn, hT⟩, Or.inl rfl, ?_⟩
      simp (disch := first | omega | exact zb_1 | exact zb_0 | exact zb_n1 | exact zb_n0) only [x109_0, x109_1, x109_4, x109_35, x109_36, x109_39, mq_dl_int, mq_dl_ref, mq_dl_null, mq_dl_none, mc_some, Option.toList_some, Option.toList_none, List.cons_append, List.nil_append, zb_1, zb_0, ↓reduceIte, if_true, if_false, not_true_eq_false, not_false_eq_true, Bool.false_eq_true, z_10, z_01, eq_self, Bool.and_self, true_or, or_true, false_or, or_false, true_and, and_true, false_and, and_false, and_self, or_self, Nat.reduceLT, Nat.reduceEqDiff, Nat.reduceLeDiff, Nat.reduceAdd, Nat.reduceMul, Nat.reduceSub, zn_lit, zn_add, zn_mul, zn_sub, zn_addneg, zn_lt, zn_le, zn_eq, zn_clamp, zn_in, zn_long, tb_0 hT, tb_mo hT, tb_f7 hT hc]
    · intro hg
      rw [hG.2.2.1] at hg
      cases hg
end RM
