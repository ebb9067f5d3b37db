/-! PARTS: the class keeps them -/
def cnT (T : ZT) (b : Nat) : Nat := zns (fun x => if prT T x = true then 1 else 0) 0 b
theorem cnT_s (T : ZT) (b : Nat) : cnT T (b + 1) = cnT T b + if prT T b = true then 1 else 0 := by
  unfold cnT
  rw [zns_last, Nat.zero_add]
theorem prT_odd {T : ZT} {b : Nat} (h : prT T b = true) : b % 2 = 1 := by
  have h1 := ((prT_iff T b).1 h).1
  rw [Nat.testBit_zero] at h1
  simpa using h1
theorem prT_even {T : ZT} {b : Nat} (h : b % 2 = 0) : prT T b = false := by
  cases hq : prT T b with
  | false => rfl
  | true => have := prT_odd hq; omega
theorem cnT_le (T : ZT) : ∀ b, cnT T b ≤ b / 2
  | 0 => by simp [cnT, zns]
  | b + 1 => by
    rw [cnT_s]
    have h := cnT_le T b
    by_cases q : prT T b = true
    · have := prT_odd q
      rw [if_pos q]; omega
    · rw [if_neg q]; omega
theorem cnT_mono (T : ZT) : ∀ (r b : Nat), cnT T b ≤ cnT T (b + r)
  | 0, b => Nat.le_refl _
  | r + 1, b => by
    have := cnT_mono T r b
    rw [← Nat.add_assoc, cnT_s]
    omega
theorem cnT_lt {T : ZT} {x b : Nat} (h : prT T x = true) (hx : x < b) : cnT T x < cnT T b := by
  have h1 := cnT_mono T (b - (x + 1)) (x + 1)
  rw [show x + 1 + (b - (x + 1)) = b by omega, cnT_s, if_pos h] at h1
  omega
theorem cnT_find {T : ZT} {k : Nat} : ∀ b, k < cnT T b → ∃ x, x < b ∧ prT T x = true ∧ cnT T x = k
  | 0, h => by simp [cnT, zns] at h
  | b + 1, h => by
    rw [cnT_s] at h
    by_cases q : k < cnT T b
    · obtain ⟨x, h1, h2, h3⟩ := cnT_find b q
      exact ⟨x, by omega, h2, h3⟩
    · by_cases q2 : prT T b = true
      · rw [if_pos q2] at h
        exact ⟨b, by omega, q2, by omega⟩
      · rw [if_neg q2] at h; omega
def GP (T : ZT) (i : Nat → Int32) (f : Nat → Nat → Int32) (b : Nat) : Prop := i 6 = zn (cnT T b) ∧ ∀ x, x < b → prT T x = true → f 1 (cnT T x) = zn x
theorem pw_T {T : ZT} (hW : WT T) : 2 ^ T.1 ≤ 64 ∧ ∃ q, 2 ^ T.1 = 2 * q ∧ 1 ≤ q := by
  have h1 := hW.1
  have h2 := hW.2.1
  obtain ⟨t, ht⟩ : ∃ t, T.1 = t + 1 := ⟨T.1 - 1, by omega⟩
  refine ⟨Nat.le_trans (Nat.pow_le_pow_right (by omega) h2) (by decide), 2 ^ t, ?_, Nat.one_le_two_pow⟩
  rw [ht, Nat.pow_succ, Nat.mul_comm]
theorem df_2 : mp_df 2 = [.null, .int 0, .null, .null, .null, .null, .int 0, .int 0] := rfl
theorem gk_2 (x : Nat) : mq_okv (mp_ft 2 2) (.ref x) = true := okv_A _ _ _ _ rfl
theorem gk_3 (x : Nat) : mq_okv (mp_ft 2 3) (.ref x) = true := okv_A _ _ _ _ rfl
theorem gk_4 (x : Nat) : mq_okv (mp_ft 2 4) (.ref x) = true := okv_A _ _ _ _ rfl
theorem gk_5 (x : Nat) : mq_okv (mp_ft 2 5) (.ref x) = true := okv_A _ _ _ _ rfl
theorem gk_0 (x : Nat) : mq_okv (mp_ft 2 0) (.ref x) = true := okv_T _ _ _ _ rfl
def gf0 : Nat → Nat → Int32 := fun _ _ => 0
def gi0 (k : Nat) : Int32 := if k = 7 then -1 else 0
section PC
variable {n s : Nat} {c : Nat → mq_E} {I : Nat → Int32} {J : Nat → Int64} {A : Nat → Nat → Int32} {B : Nat → Nat → Int64} {R : Nat → Value} {Q : Nat → Nat → Option Nat}
variable {a g : Nat} {T : ZT}
theorem G_cnl (hT : TB c a T) (hW : WT T) (hg : a + 2 < g) (ha : 46 ≤ g) (d : Nat) : ∀ (r q : Nat) (i : Nat → Int32) (f : Nat → Nat → Int32), 2 * q + 1 + 2 * r = 2 ^ T.1 + 1 → i 1 = zn T.1 → GP T i f (2 * q + 1) → ∃ i' f', GP T i' f' (2 ^ T.1) ∧ (∀ k, k ≠ 6 → i' k = i k) ∧ (∀ k, k ≠ 1 → f' k = f k) ∧ mz (d + 3) 21 61 [some (.ref g), some (.ref a), some (.int (zn (2 * q + 1)))] [] (hp n s (gc c g a i f) I J A B R Q) = some (some none, hp n s (gc c g a i' f') I J A B R Q) := by
  have h1 := hW.2.1
  obtain ⟨hp1, t, hp2, hp3⟩ := pw_T hW
  intro r
  induction r with
  | zero =>
    intro q i f hq hi hG
    have e : 2 * q + 1 = 2 ^ T.1 + 1 := by omega
    rw [e] at hG ⊢
    refine ⟨i, f, ⟨?_, fun x hx => hG.2 x (by omega)⟩, fun _ _ => rfl, fun _ _ => rfl, ?_⟩
    · rw [hG.1, cnT_s, prT_even (by omega)]; rfl
    · simp (disch := first | omega | exact zb_1 | exact zb_0 | exact zb_n1 | exact zb_n0) only [x21_0, x21_0N, x21_1, x21_4, x21_4N, x21_5, x21_7, x21_9, x21_12, x21_12N, x21_13, x21_15, x21_17, x21_20, x21_20N, x21_21, x21_23, x21_25, x21_28, x21_28N, x21_29, x21_31, x21_33, x21_36, x21_36N, x21_37, x21_38, x21_41, x21_41N, x21_42, x21_43, x21_46, x21_46N, x21_47, x21_47N, x21_48, x21_51, x21_51N, x21_52, x21_52N, x21_53, x21_56, x21_59, x21_60, x21_61, x21_62, x21_63, x21_63N, x21_64, x21_67, x21_68, x21_71, x21_71N, x21_72, x21_75, x21_77, x21_80, x21_80N, x21_81, x21_82, x21_85, x21_88, x21_88N, x21_89, x21_92, x21_92N, x21_93, x21_96, x21_97, x21_98, x21_98N, x21_99, x21_100, x21_103, x21_104, x21_105, x21_108, x21_111, x21_114, mq_dl_int, mq_dl_ref, mq_dl_null, mq_dl_none, mc_some, Option.toList_some, Option.toList_none, List.cons_append, List.nil_append, zb_1, zb_0, ↓reduceIte, if_true, if_false, not_true_eq_false, not_false_eq_true, Bool.false_eq_true, z_10, z_01, eq_self, Bool.and_self, true_or, or_true, false_or, or_false, true_and, and_true, false_and, and_false, and_self, or_self, Nat.reduceLT, Nat.reduceEqDiff, Nat.reduceLeDiff, Nat.reduceAdd, Nat.reduceMul, Nat.reduceSub, zn_lit, zn_add, zn_mul, zn_sub, zn_addneg, zn_lt, zn_le, zn_eq, zn_clamp, zn_in, zn_long, hp_1, hp_21, gc_0, gc_mo, gc_f0, gc_f1, gc_s1, gc_k1, gc_f2, gc_f3, gc_f4, gc_f5, gc_f6, gc_s6, gc_k6, gc_f7, gc_s7, gc_k7, gc_i1, gc_g1, gc_n1, gc_w1, gc_i2, gc_g2, gc_n2, gc_w2, gc_i3, gc_g3, gc_n3, gc_w3, gc_i4, gc_g4, gc_n4, gc_w4, zu_eq, zu_ne, zu_zu, upd_zu, updL_zu, hi, zn_shl, Nat.one_shiftLeft, show 2 ^ T.1 ≤ 2 ^ T.1 + 1 by omega]
  | succ r ih =>
    intro q i f hq hi hG
    have hc := cnT_le T (2 * q + 1)
    have e2 : cnT T (2 * (q + 1) + 1) = cnT T (2 * q + 1) + if prT T (2 * q + 1) = true then 1 else 0 := by
      rw [cnT_s T (2 * (q + 1)), prT_even (b := 2 * (q + 1)) (by omega), show 2 * (q + 1) = 2 * q + 1 + 1 by omega, cnT_s]
      rfl
    have hcl := clT_iff hW (2 * q + 1) (by rw [Nat.testBit_zero]; simp)
    rw [x21_61]
    cases hb : prT T (2 * q + 1) with
    | true =>
      rw [hb] at hcl e2
      obtain ⟨i', f', g1, g2, g3, g4⟩ := ih (q + 1) (zu i 6 (zn (cnT T (2 * q + 1) + 1))) (zu f 1 (zu (f 1) (cnT T (2 * q + 1)) (zn (2 * q + 1)))) (by omega) (by rw [zu_ne _ _ _ _ (by omega)]; exact hi) (by
        refine ⟨by rw [zu_eq, e2]; rfl, fun x hx hp => ?_⟩
        rw [zu_eq]
        by_cases q2 : x = 2 * q + 1
        · subst q2; rw [zu_eq]
        · by_cases q3 : x = 2 * q + 2
          · rw [q3, prT_even (by omega)] at hp; cases hp
          · have := cnT_lt (b := 2 * q + 1) hp (by omega)
            rw [zu_ne _ _ _ _ (by omega)]
            exact hG.2 x (by omega) hp)
      refine ⟨i', f', g1, fun k hk => by rw [g2 k hk, zu_ne _ _ _ _ hk], fun k hk => by rw [g3 k hk, zu_ne _ _ _ _ hk], ?_⟩
      rw [← g4]
      simp (disch := first | omega | exact zb_1 | exact zb_0 | exact zb_n1 | exact zb_n0) only [x21_62, x21_63, x21_64, x21_67, x21_68, x21_71, x21_72, x21_75, x21_77, x21_80, x21_81, x21_82, x21_85, x21_88, x21_89, x21_92, x21_93, x21_96, x21_97, x21_98, x21_99, x21_100, x21_103, x21_104, x21_105, x21_108, x21_111, mq_dl_int, mq_dl_ref, mq_dl_null, mq_dl_none, mc_some, Option.toList_some, Option.toList_none, List.cons_append, List.nil_append, zb_1, zb_0, ↓reduceIte, if_true, if_false, not_true_eq_false, not_false_eq_true, Bool.false_eq_true, z_10, z_01, eq_self, Bool.and_self, true_or, or_true, false_or, or_false, true_and, and_true, false_and, and_false, and_self, or_self, Nat.reduceLT, Nat.reduceEqDiff, Nat.reduceLeDiff, Nat.reduceAdd, Nat.reduceMul, Nat.reduceSub, zn_lit, zn_add, zn_mul, zn_sub, zn_addneg, zn_lt, zn_le, zn_eq, zn_clamp, zn_in, zn_long, hp_1, hp_21, gc_0, gc_mo, gc_f0, gc_f1, gc_s1, gc_k1, gc_f2, gc_f3, gc_f4, gc_f5, gc_f6, gc_s6, gc_k6, gc_f7, gc_s7, gc_k7, gc_i1, gc_g1, gc_n1, gc_w1, gc_i2, gc_g2, gc_n2, gc_w2, gc_i3, gc_g3, gc_n3, gc_w3, gc_i4, gc_g4, gc_n4, gc_w4, zu_eq, zu_ne, zu_zu, upd_zu, updL_zu, hi, hG.1, zn_shl, Nat.one_shiftLeft, show ¬ 2 ^ T.1 ≤ 2 * q + 1 by omega, show ¬ 32 ≤ cnT T (2 * q + 1) by omega, show cnT T (2 * q + 1) < 32 by omega, decide_true, G_cl hT hW hg ha hi, hcl, zo_t, show 2 * q + 1 + 2 = 2 * (q + 1) + 1 by omega]
    | false =>
      rw [hb] at hcl e2
      obtain ⟨i', f', g1, g2, g3, g4⟩ := ih (q + 1) i f (by omega) hi (by
        refine ⟨by rw [e2]; exact hG.1, fun x hx hp => ?_⟩
        by_cases q2 : x = 2 * q + 1
        · rw [q2, hb] at hp; cases hp
        · by_cases q3 : x = 2 * q + 2
          · rw [q3, prT_even (by omega)] at hp; cases hp
          · exact hG.2 x (by omega) hp)
      refine ⟨i', f', g1, g2, g3, ?_⟩
      rw [← g4]
      simp (disch := first | omega | exact zb_1 | exact zb_0 | exact zb_n1 | exact zb_n0) only [x21_62, x21_63, x21_64, x21_67, x21_68, x21_71, x21_72, x21_75, x21_77, x21_80, x21_81, x21_82, x21_85, x21_108, x21_111, mq_dl_int, mq_dl_ref, mq_dl_null, mq_dl_none, mc_some, Option.toList_some, Option.toList_none, List.cons_append, List.nil_append, zb_1, zb_0, ↓reduceIte, if_true, if_false, not_true_eq_false, not_false_eq_true, Bool.false_eq_true, z_10, z_01, eq_self, Bool.and_self, true_or, or_true, false_or, or_false, true_and, and_true, false_and, and_false, and_self, or_self, Nat.reduceLT, Nat.reduceEqDiff, Nat.reduceLeDiff, Nat.reduceAdd, Nat.reduceMul, Nat.reduceSub, zn_lit, zn_add, zn_mul, zn_sub, zn_addneg, zn_lt, zn_le, zn_eq, zn_clamp, zn_in, zn_long, hp_1, hp_21, gc_0, gc_mo, gc_f0, gc_f1, gc_s1, gc_k1, gc_f2, gc_f3, gc_f4, gc_f5, gc_f6, gc_s6, gc_k6, gc_f7, gc_s7, gc_k7, gc_i1, gc_g1, gc_n1, gc_w1, gc_i2, gc_g2, gc_n2, gc_w2, gc_i3, gc_g3, gc_n3, gc_w3, gc_i4, gc_g4, gc_n4, gc_w4, zu_eq, zu_ne, zu_zu, upd_zu, updL_zu, hi, hG.1, zn_shl, Nat.one_shiftLeft, show ¬ 2 ^ T.1 ≤ 2 * q + 1 by omega, show ¬ 32 ≤ cnT T (2 * q + 1) by omega, G_cl hT hW hg ha hi, hcl, zo_f, show 2 * q + 1 + 2 = 2 * (q + 1) + 1 by omega]
theorem G_new0 (ha : 46 ≤ g) (d : Nat) : mz (d + 3) 21 0 [some (.ref g), some (.ref a), none] [] (hp (g + 1) s (mq_up c g (.inr (2, mp_df 2))) I J A B R Q) = mz (d + 3) 21 51 [some (.ref g), some (.ref a), none] [] (hp (g + 5) (s + 96) (gc c g a gi0 gf0) I J A B R Q) := by
  rw [← gc_nest]
  simp (disch := first | omega | exact zb_1 | exact zb_0 | exact zb_n1 | exact zb_n0) only [x21_0, x21_1, x21_4, x21_5, x21_7, x21_9, x21_12, x21_13, x21_15, x306_0, mq_dl_int, mq_dl_ref, mq_dl_null, mq_dl_none, mc_some, Option.toList_some, Option.toList_none, List.cons_append, List.nil_append, zb_1, zb_0, ↓reduceIte, if_true, if_false, not_true_eq_false, not_false_eq_true, Bool.false_eq_true, z_10, z_01, eq_self, Bool.and_self, true_or, or_true, false_or, or_false, true_and, and_true, false_and, and_false, and_self, or_self, Nat.reduceLT, Nat.reduceEqDiff, Nat.reduceLeDiff, Nat.reduceAdd, Nat.reduceMul, Nat.reduceSub, zn_lit, zn_add, zn_mul, zn_sub, zn_addneg, zn_lt, zn_le, zn_eq, zn_clamp, zn_in, zn_long, hp_1, hp_21, hpoB, hpo0B, hpfsB, hpfB, haiB, hagB, hanB, halB, hlgB, hp_mkB, hp_wcB, eo_i, eo0_i, efs_i, eai_i, eag_i, ean_i, eal_i, elg_i, ean_l, up_eq, up_ne, up_up, up_m1, up_m2, up_m3, up_m4, up_m5, up_m6, up_m7, up_m8, up_m9, List.set_cons_zero, List.set_cons_succ, List.getD_cons_zero, List.getD_cons_succ, List.length_cons, List.length_nil, decide_true, Bool.true_and, Bool.and_true, Bool.true_or, upd_zu, updL_zu, zu_zu, zu_eq, df_2, Nat.not_lt_zero, gk_2]
  simp (disch := first | omega | exact zb_1 | exact zb_0 | exact zb_n1 | exact zb_n0) only [x21_17, x21_20, x21_21, x21_23, x21_25, x21_28, x21_29, x21_31, mq_dl_int, mq_dl_ref, mq_dl_null, mq_dl_none, mc_some, Option.toList_some, Option.toList_none, List.cons_append, List.nil_append, zb_1, zb_0, ↓reduceIte, if_true, if_false, not_true_eq_false, not_false_eq_true, Bool.false_eq_true, z_10, z_01, eq_self, Bool.and_self, true_or, or_true, false_or, or_false, true_and, and_true, false_and, and_false, and_self, or_self, Nat.reduceLT, Nat.reduceEqDiff, Nat.reduceLeDiff, Nat.reduceAdd, Nat.reduceMul, Nat.reduceSub, zn_lit, zn_add, zn_mul, zn_sub, zn_addneg, zn_lt, zn_le, zn_eq, zn_clamp, zn_in, zn_long, hp_1, hp_21, hpoB, hpo0B, hpfsB, hpfB, haiB, hagB, hanB, halB, hlgB, hp_mkB, hp_wcB, eo_i, eo0_i, efs_i, eai_i, eag_i, ean_i, eal_i, elg_i, ean_l, up_eq, up_ne, up_up, up_m1, up_m2, up_m3, up_m4, up_m5, up_m6, up_m7, up_m8, up_m9, List.set_cons_zero, List.set_cons_succ, List.getD_cons_zero, List.getD_cons_succ, List.length_cons, List.length_nil, decide_true, Bool.true_and, Bool.and_true, Bool.true_or, upd_zu, updL_zu, zu_zu, zu_eq, Nat.not_lt_zero, gk_3, gk_4]
  simp (disch := first | omega | exact zb_1 | exact zb_0 | exact zb_n1 | exact zb_n0) only [x21_33, x21_36, x21_37, x21_38, x21_41, x21_42, x21_43, x21_46, x21_47, x21_48, mq_dl_int, mq_dl_ref, mq_dl_null, mq_dl_none, mc_some, Option.toList_some, Option.toList_none, List.cons_append, List.nil_append, zb_1, zb_0, ↓reduceIte, if_true, if_false, not_true_eq_false, not_false_eq_true, Bool.false_eq_true, z_10, z_01, eq_self, Bool.and_self, true_or, or_true, false_or, or_false, true_and, and_true, false_and, and_false, and_self, or_self, Nat.reduceLT, Nat.reduceEqDiff, Nat.reduceLeDiff, Nat.reduceAdd, Nat.reduceMul, Nat.reduceSub, zn_lit, zn_add, zn_mul, zn_sub, zn_addneg, zn_lt, zn_le, zn_eq, zn_clamp, zn_in, zn_long, hp_1, hp_21, hpoB, hpo0B, hpfsB, hpfB, haiB, hagB, hanB, halB, hlgB, hp_mkB, hp_wcB, eo_i, eo0_i, efs_i, eai_i, eag_i, ean_i, eal_i, elg_i, ean_l, up_eq, up_ne, up_up, up_m1, up_m2, up_m3, up_m4, up_m5, up_m6, up_m7, up_m8, up_m9, List.set_cons_zero, List.set_cons_succ, List.getD_cons_zero, List.getD_cons_succ, List.length_cons, List.length_nil, decide_true, Bool.true_and, Bool.and_true, Bool.true_or, upd_zu, updL_zu, zu_zu, zu_eq, gk_5, gk_0, gc_k6, gc_k7]
  rfl
theorem G_new (hT : TB c a T) (hW : WT T) (hg : a + 2 < g) (ha : 46 ≤ g) (d : Nat) : ∃ i f, i 1 = zn T.1 ∧ i 7 = -1 ∧ f 3 0 = 0 ∧ GP T i f (2 ^ T.1) ∧ mz (d + 3) 21 0 [some (.ref g), some (.ref a), none] [] (hp (g + 1) s (mq_up c g (.inr (2, mp_df 2))) I J A B R Q) = some (some none, hp (g + 5) (s + 96) (gc c g a i f) I J A B R Q) := by
  obtain ⟨hp1, t, hp2, hp3⟩ := pw_T hW
  have hT' : TB (gc c g a gi0 gf0) a T := TB_gc hT (Or.inl hg)
  obtain ⟨i', f', g1, g2, g3, g4⟩ := G_cnl (n := g + 5) (s := s + 96) (c := c) (I := I) (J := J) (A := A) (B := B) (R := R) (Q := Q) hT hW hg ha d t 0 (zu gi0 1 (zn T.1)) gf0 (by omega) (zu_eq _ _ _) (by
    refine ⟨?_, fun x hx hp => ?_⟩
    · rw [zu_ne _ _ _ _ (by omega), cnT_s, prT_even (by omega)]; rfl
    · have : x = 0 := by omega
      rw [this, prT_even (by omega)] at hp; cases hp)
  refine ⟨i', f', by rw [g2 1 (by omega), zu_eq], by rw [g2 7 (by omega), zu_ne _ _ _ _ (by omega)]; rfl, by rw [g3 3 (by omega)]; rfl, g1, ?_⟩
  rw [G_new0 ha, ← g4]
  simp (disch := first | omega | exact zb_1 | exact zb_0 | exact zb_n1 | exact zb_n0) only [x21_51, x21_52, x21_53, x21_56, x21_59, x21_60, mq_dl_int, mq_dl_ref, mq_dl_null, mq_dl_none, mc_some, Option.toList_some, Option.toList_none, List.cons_append, List.nil_append, zb_1, zb_0, ↓reduceIte, if_true, if_false, not_true_eq_false, not_false_eq_true, Bool.false_eq_true, z_10, z_01, eq_self, Bool.and_self, true_or, or_true, false_or, or_false, true_and, and_true, false_and, and_false, and_self, or_self, Nat.reduceLT, Nat.reduceEqDiff, Nat.reduceLeDiff, Nat.reduceAdd, Nat.reduceMul, Nat.reduceSub, zn_lit, zn_add, zn_mul, zn_sub, zn_addneg, zn_lt, zn_le, zn_eq, zn_clamp, zn_in, zn_long, hp_1, hp_21, gc_0, gc_mo, gc_f0, gc_f1, gc_s1, gc_k1, gc_f2, gc_f3, gc_f4, gc_f5, gc_f6, gc_s6, gc_k6, gc_f7, gc_s7, gc_k7, gc_i1, gc_g1, gc_n1, gc_w1, gc_i2, gc_g2, gc_n2, gc_w2, gc_i3, gc_g3, gc_n3, gc_w3, gc_i4, gc_g4, gc_n4, gc_w4, zu_eq, zu_ne, zu_zu, upd_zu, updL_zu, tb_0 hT', T_things hT']
end PC
