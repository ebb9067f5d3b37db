/-! ROWS: the reference's fractions -/
theorem RF_b {u N : Int} {e P : Nat} (hP : 0 < P) (h : RF u e N P) : e ≤ P ∧ u.natAbs ≤ N.natAbs := by
  obtain ⟨h1, h2, h3⟩ := h
  have hn : u.natAbs * P = e * N.natAbs := by
    have := congrArg Int.natAbs h1
    rw [Int.natAbs_mul, Int.natAbs_mul] at this
    simpa using this
  have hd : e ∣ P := by
    have : e ∣ u.natAbs * P := by rw [hn]; exact Nat.dvd_mul_right _ _
    exact Nat.Coprime.dvd_of_dvd_mul_left (show Nat.Coprime e u.natAbs by rw [Nat.coprime_comm]; exact h2) this
  have he := Nat.le_of_dvd hP hd
  refine ⟨he, ?_⟩
  have h4 : u.natAbs * P ≤ N.natAbs * P := by
    rw [hn, Nat.mul_comm]
    exact Nat.mul_le_mul_left _ he
  exact Nat.le_of_mul_le_mul_right h4 hP
theorem RF_add {u N X u' : Int} {e P Y e' : Nat} (hY : 0 < Y) (h : RF u e N P) (h' : RF u' e' (u * ((Y / Nat.gcd e Y : Nat) : Int) + X * ((e / Nat.gcd e Y : Nat) : Int)) (e / Nat.gcd e Y * Y)) : RF u' e' (N * (Y : Int) + X * (P : Int)) (P * Y) := by
  obtain ⟨h1, h2, h3⟩ := h
  obtain ⟨k1, k2, k3⟩ := h'
  refine ⟨?_, k2, k3⟩
  have hg : 0 < Nat.gcd e Y := Nat.gcd_pos_of_pos_right _ hY
  have e1 : e / Nat.gcd e Y * Nat.gcd e Y = e := Nat.div_mul_cancel (Nat.gcd_dvd_left _ _)
  have e2 : Y / Nat.gcd e Y * Nat.gcd e Y = Y := Nat.div_mul_cancel (Nat.gcd_dvd_right _ _)
  have e3 : 0 < e / Nat.gcd e Y := Nat.div_pos (Nat.le_of_dvd h3 (Nat.gcd_dvd_left _ _)) hg
  generalize e / Nat.gcd e Y = e0 at *
  generalize Y / Nat.gcd e Y = y0 at *
  generalize Nat.gcd e Y = G at *
  have f1 : (e : Int) = (e0 : Int) * (G : Int) := by rw [← Int.natCast_mul, e1]
  have f2 : (Y : Int) = (y0 : Int) * (G : Int) := by rw [← Int.natCast_mul, e2]
  rw [Int.natCast_mul] at k1
  rw [Int.natCast_mul]
  have : (u' * ((P : Int) * (Y : Int))) * (e0 : Int) = ((e' : Int) * (N * (Y : Int) + X * (P : Int))) * (e0 : Int) := by
    rw [f1] at h1
    rw [f2] at k1 ⊢
    grind
  exact Int.eq_of_mul_eq_mul_right (by omega) this
theorem ad_b {u N X : Int} {e P Y S z : Nat} (hP : 0 < P) (hY : 0 < Y) (h : RF u e N P) (hN : N.natAbs ≤ S * P) (hX : X.natAbs ≤ z * Y) : (u * ((Y / Nat.gcd e Y : Nat) : Int) + X * ((e / Nat.gcd e Y : Nat) : Int)).natAbs ≤ (S + z) * (P * Y) ∧ e / Nat.gcd e Y * Y ≤ P * Y ∧ (N * (Y : Int) + X * (P : Int)).natAbs ≤ (S + z) * (P * Y) := by
  obtain ⟨b1, b2⟩ := RF_b hP h
  have c1 : Y / Nat.gcd e Y ≤ Y := Nat.div_le_self _ _
  have c2 : e / Nat.gcd e Y ≤ e := Nat.div_le_self _ _
  have d1 : (u * ((Y / Nat.gcd e Y : Nat) : Int)).natAbs ≤ (S * P) * Y := mul_ab (Nat.le_trans b2 hN) (by rw [Int.natAbs_natCast]; exact c1)
  have d2 : (X * ((e / Nat.gcd e Y : Nat) : Int)).natAbs ≤ (z * Y) * P := mul_ab hX (by rw [Int.natAbs_natCast]; exact Nat.le_trans c2 b1)
  have d3 : (N * (Y : Int)).natAbs ≤ (S * P) * Y := mul_ab hN (by omega)
  have d4 : (X * (P : Int)).natAbs ≤ (z * Y) * P := mul_ab hX (by omega)
  have e1 : (S + z) * (P * Y) = (S * P) * Y + (z * Y) * P := by grind
  refine ⟨by omega, Nat.mul_le_mul_right _ (by omega), by omega⟩
theorem zpd_sq (f : Nat → Nat) : ∀ (r k : Nat), zpd (fun i => f i * f i) k r = zpd f k r * zpd f k r
  | 0, _ => rfl
  | r + 1, k => by
    unfold zpd
    rw [zpd_sq f r (k + 1)]
    grind
theorem R_com (d : Nat) (X : Int) (b : Nat) (h1 : -9223372036854775808 < X) (h2 : X < 9223372036854775808) (h4 : b < 9223372036854775808) (h : mq_H) : mz d 241 0 [some (.long (zli X)), none, some (.long (zln b)), none, none, none, none, none, none, none] [] h = some (some (some (.long (zln (Nat.gcd X.natAbs b)))), h) := by
  have hX : X.natAbs < 9223372036854775808 := by omega
  have es : mz d 241 0 [some (.long (zli X)), none, some (.long (zln b)), none, none, none, none, none, none, none] [] h = mz d 241 17 [some (.long (zli X)), none, some (.long (zln b)), none, some (.long (zln X.natAbs)), none, some (.long (zln b)), none, none, none] [] h := by
    rw [zli_abs X]
    by_cases q : X < 0
    · rw [if_pos q]
      simp (disch := first | omega | exact zb_1 | exact zb_0 | exact zb_n1 | exact zb_n0) only [x241_0, x241_1, x241_2, x241_3, x241_6, x241_7, x241_8, x241_12, x241_14, x241_15, mq_dl_int, mq_dl_ref, mq_dl_null, mq_dl_none, mc_some, Option.toList_some, Option.toList_none, List.cons_append, List.nil_append, zb_1, zb_0, ↓reduceIte, if_true, if_false, not_true_eq_false, not_false_eq_true, Bool.false_eq_true, z_10, z_01, eq_self, Bool.and_self, true_or, or_true, false_or, or_false, true_and, and_true, false_and, and_false, and_self, or_self, Nat.reduceLT, Nat.reduceEqDiff, Nat.reduceLeDiff, Nat.reduceAdd, Nat.reduceMul, Nat.reduceSub, zn_lit, zn_add, zn_mul, zn_sub, zn_addneg, zn_lt, zn_le, zn_eq, zn_clamp, zn_in, zn_long, lc_eq, lc_gt, lc_lt, lc_le, lc_ge, zli_lit, zli_lt, zli_le, show ¬ 0 ≤ X by omega]
    · rw [if_neg q]
      simp (disch := first | omega | exact zb_1 | exact zb_0 | exact zb_n1 | exact zb_n0) only [x241_0, x241_1, x241_2, x241_3, x241_11, x241_12, x241_14, x241_15, mq_dl_int, mq_dl_ref, mq_dl_null, mq_dl_none, mc_some, Option.toList_some, Option.toList_none, List.cons_append, List.nil_append, zb_1, zb_0, ↓reduceIte, if_true, if_false, not_true_eq_false, not_false_eq_true, Bool.false_eq_true, z_10, z_01, eq_self, Bool.and_self, true_or, or_true, false_or, or_false, true_and, and_true, false_and, and_false, and_self, or_self, Nat.reduceLT, Nat.reduceEqDiff, Nat.reduceLeDiff, Nat.reduceAdd, Nat.reduceMul, Nat.reduceSub, zn_lit, zn_add, zn_mul, zn_sub, zn_addneg, zn_lt, zn_le, zn_eq, zn_clamp, zn_in, zn_long, lc_eq, lc_gt, lc_lt, lc_le, lc_ge, zli_lit, zli_lt, zli_le, show 0 ≤ X by omega]
  rw [es]
  generalize X.natAbs = a at hX ⊢
  have hp' : a * b < 2 ^ 126 := by
    have : a * b ≤ 9223372036854775807 * 9223372036854775807 := Nat.mul_le_mul (by omega) (by omega)
    omega
  by_cases q : b ≤ a
  · exact R_gl d _ _ h 126 a b none none q hX hp'
  · have hm : a % b = a := Nat.mod_eq_of_lt (by omega)
    have h5 := Nat.div_le_self a b
    have h6 := Nat.div_mul_le_self a b
    rw [← gd_g a b, hm, ← R_gl d (zli X) (zln b) h 126 b a (some (.long (zln a))) none (by omega) h4 (by rw [Nat.mul_comm]; exact hp')]
    have hr := zln_rem a b
    rw [hm] at hr
    rw [x241_17]
    simp (disch := first | omega | exact zb_1 | exact zb_0 | exact zb_n1 | exact zb_n0) only [x241_19, x241_20, x241_21, x241_24, x241_26, x241_28, x241_29, x241_31, x241_33, x241_35, x241_37, x241_39, mq_dl_int, mq_dl_ref, mq_dl_null, mq_dl_none, mc_some, Option.toList_some, Option.toList_none, List.cons_append, List.nil_append, zb_1, zb_0, ↓reduceIte, if_true, if_false, not_true_eq_false, not_false_eq_true, Bool.false_eq_true, z_10, z_01, eq_self, Bool.and_self, true_or, or_true, false_or, or_false, true_and, and_true, false_and, and_false, and_self, or_self, Nat.reduceLT, Nat.reduceEqDiff, Nat.reduceLeDiff, Nat.reduceAdd, Nat.reduceMul, Nat.reduceSub, zn_lit, zn_add, zn_mul, zn_sub, zn_addneg, zn_lt, zn_le, zn_eq, zn_clamp, zn_in, zn_long, zln_lit, zln_add, zln_mul, zln_lt, zln_le, zln_eq, zln_int, lc_eq, lc_gt, lc_lt, lc_le, lc_ge, zln_div, hr, show ¬ b = 0 by omega]
section RFRA
variable {n s : Nat} {c : Nat → mq_E} {I : Nat → Int32} {J : Nat → Int64} {A : Nat → Nat → Int32} {B : Nat → Nat → Int64} {R : Nat → Value} {Q : Nat → Nat → Option Nat}
variable {T : ZT}
theorem R_low (d : Nat) (U : Int) (D : Nat) (hU : J 1180 = zli U) (hD : J 1181 = zln D) (h0 : 0 < D) (h1 : U.natAbs < 9223372036854775808) (h2 : D < 9223372036854775808) : ∃ u e, RF u e U D ∧ mz (d + 1) 242 0 [some (.ref 23), none, none] [] (hp n s c I J A B R Q) = some (some none, hp n s c I (zu (zu J 1180 (zli u)) 1181 (zln e)) A B R Q) := by
  obtain ⟨r1, r2⟩ := RF_red U D h0
  refine ⟨_, _, r1, ?_⟩
  have hg1 : Nat.gcd U.natAbs D ≤ D := Nat.gcd_le_right _ h0
  have ec := R_com d U D (by omega) (by omega) h2 (hp n s c I J A B R Q)
  have e1 : zli U / zln (Nat.gcd U.natAbs D) = zli (U.tdiv (Nat.gcd U.natAbs D : Nat)) := by
    rw [zli_nat, zli_div _ _ (by omega) (by omega) (by omega) (by omega)]
  have e2 : zln D / zln (Nat.gcd U.natAbs D) = zln (D / Nat.gcd U.natAbs D) := zln_div _ _ h2 (by omega)
  have hz : ¬ zln (Nat.gcd U.natAbs D) = zln 0 := by
    rw [zln_eq _ _ (by omega) (by omega)]
    omega
  simp (disch := first | omega | exact zb_1 | exact zb_0 | exact zb_n1 | exact zb_n0) only [x242_0, x242_0N, x242_1, x242_4, x242_4N, x242_5, x242_8, x242_11, x242_12, x242_12N, x242_13, x242_13N, x242_14, x242_17, x242_18, x242_19, x242_22, x242_22N, x242_23, x242_23N, x242_24, x242_27, x242_28, x242_29, x242_32, mq_dl_int, mq_dl_ref, mq_dl_null, mq_dl_none, mc_some, Option.toList_some, Option.toList_none, List.cons_append, List.nil_append, zb_1, zb_0, ↓reduceIte, if_true, if_false, not_true_eq_false, not_false_eq_true, Bool.false_eq_true, z_10, z_01, eq_self, Bool.and_self, true_or, or_true, false_or, or_false, true_and, and_true, false_and, and_false, and_self, or_self, Nat.reduceLT, Nat.reduceEqDiff, Nat.reduceLeDiff, Nat.reduceAdd, Nat.reduceMul, Nat.reduceSub, zn_lit, zn_add, zn_mul, zn_sub, zn_addneg, zn_lt, zn_le, zn_eq, zn_clamp, zn_in, zn_long, zln_lit, hp_1, hp_21, upd_zu, updL_zu, updQ_zu, zu_eq, zu_ne, ho_23, ho_23_0, hf_23_0, hk_23_0, hw_23_0, ho_23_1, hf_23_1, ho_23_2, hf_23_2, hk_23_2, hw_23_2, ho_23_3, hf_23_3, hk_23_3, hw_23_3, ho_23_4, hf_23_4, ho_23_5, hf_23_5, ho_23_6, hf_23_6, ho_23_7, hf_23_7, hk_23_7, hw_23_7, ho_23_8, hf_23_8, hk_23_8, hw_23_8, ho_23_9, hf_23_9, ho_23_10, hf_23_10, ho_23_11, hf_23_11, hk_23_11, hw_23_11, ho_23_12, hf_23_12, hk_23_12, hw_23_12, ho_23_13, hf_23_13, ho_23_14, hf_23_14, ho_23_15, hf_23_15, ho_23_16, hf_23_16, hk_23_16, hw_23_16, ho_23_17, hf_23_17, ho_23_18, hf_23_18, ho_23_19, hf_23_19, hk_23_19, hw_23_19, ho_23_20, hf_23_20, ho_23_21, hf_23_21, hk_23_21, hw_23_21, ho_23_22, hf_23_22, hk_23_22, hw_23_22, ho_23_23, hf_23_23, hk_23_23, hw_23_23, ho_23_24, hf_23_24, hk_23_24, hw_23_24, ho_23_25, hf_23_25, ho_23_26, hf_23_26, ho_23_27, hf_23_27, hk_23_27, hw_23_27, ho_23_28, hf_23_28, ho_23_29, hf_23_29, ho_23_30, hf_23_30, hk_23_30, hw_23_30, ho_23_31, hf_23_31, hk_23_31, hw_23_31, ho_23_32, hf_23_32, ho_23_33, hf_23_33, ho_23_34, hf_23_34, hk_23_34, hw_23_34, ho_23_35, hf_23_35, hk_23_35, hw_23_35, ho_23_36, hf_23_36, hk_23_36, hw_23_36, ho_23_37, hf_23_37, ho_23_38, hf_23_38, ho_23_39, hf_23_39, hn_24, hi_24, hj_24, hg_24, hu_24, hn_25, hi_25, hj_25, hg_25, hu_25, hn_26, hi_26, hj_26, hg_26, hu_26, hn_27, hi_27, hg_27, hu_27, hn_28, hi_28, hg_28, hu_28, hn_29, hi_29, hj_29, hg_29, hu_29, hn_30, hi_30, hj_30, hg_30, hu_30, hn_31, hi_31, hj_31, hg_31, hu_31, hn_32, hi_32, hj_32, hg_32, hu_32, hn_33, hi_33, hj_33, hg_33, hu_33, hn_34, hi_34, hj_34, hg_34, hu_34, hn_35, hi_35, hj_35, hg_35, hu_35, hn_36, hi_36, hj_36, hg_36, hu_36, hn_37, hi_37, hg_37, hu_37, hn_38, hi_38, hj_38, hg_38, hu_38, hn_39, hi_39, hj_39, hg_39, hu_39, hn_40, hi_40, hj_40, hg_40, hu_40, hn_41, hi_41, hj_41, hg_41, hu_41, hn_42, hi_42, hg_42, hu_42, hn_43, hi_43, hg_43, hu_43, hn_44, hi_44, hj_44, hg_44, hu_44, hn_45, hi_45, hg_45, hu_45, hU, hD, ec, e1, e2, hz]
theorem R_add (d : Nat) {u X N : Int} {e Y P S z : Nat} (hU : J 1180 = zli u) (hD : J 1181 = zln e) (hP : 0 < P) (hY : 0 < Y) (h : RF u e N P) (hN : N.natAbs ≤ S * P) (hX : X.natAbs ≤ z * Y) (hb : (S + z) * (P * Y) < 9223372036854775808) (hb1 : 1 ≤ S + z) : ∃ u' e', RF u' e' (N * (Y : Int) + X * (P : Int)) (P * Y) ∧ mz (d + 2) 243 0 [some (.ref 23), some (.long (zli X)), none, some (.long (zln Y)), none, none, none] [] (hp n s c I J A B R Q) = some (some none, hp n s c I (zu (zu J 1180 (zli u')) 1181 (zln e')) A B R Q) := by
  obtain ⟨b1, b2, b3⟩ := ad_b hP hY h hN hX
  obtain ⟨c1, c2⟩ := RF_b hP h
  have hpy : P * Y ≤ (S + z) * (P * Y) := by
    have := Nat.mul_le_mul_right (P * Y) hb1
    rw [Nat.one_mul] at this
    exact this
  have hY2 : Y ≤ P * Y := by
    have := Nat.mul_le_mul_right Y (show 1 ≤ P from hP)
    rw [Nat.one_mul] at this
    exact this
  have hP2 : P ≤ P * Y := by
    have := Nat.mul_le_mul_left P (show 1 ≤ Y from hY)
    rw [Nat.mul_one] at this
    exact this
  have hg : 0 < Nat.gcd e Y := Nat.gcd_pos_of_pos_right _ hY
  have hg1 : Nat.gcd e Y ≤ Y := Nat.gcd_le_right _ hY
  have he0 : 0 < e / Nat.gcd e Y := Nat.div_pos (Nat.le_of_dvd h.2.2 (Nat.gcd_dvd_left _ _)) hg
  have ec := R_com (d + 1) (e : Int) Y (by omega) (by omega) (by omega) (hp n s c I J A B R Q)
  rw [Int.natAbs_natCast, ← zli_nat] at ec
  obtain ⟨u', e', k1, k2⟩ := R_low (n := n) (s := s) (c := c) (I := I) (J := zu (zu J 1180 (zli (u * ((Y / Nat.gcd e Y : Nat) : Int) + X * ((e / Nat.gcd e Y : Nat) : Int)))) 1181 (zln (e / Nat.gcd e Y * Y))) (A := A) (B := B) (R := R) (Q := Q) d _ _ (by rw [zu_ne _ _ _ _ (by omega), zu_eq]) (by rw [zu_eq]) (Nat.mul_pos he0 hY) (by omega) (by omega)
  refine ⟨u', e', RF_add hY h k1, ?_⟩
  have ej : zu (zu (zu (zu J 1180 (zli (u * ((Y / Nat.gcd e Y : Nat) : Int) + X * ((e / Nat.gcd e Y : Nat) : Int)))) 1181 (zln (e / Nat.gcd e Y * Y))) 1180 (zli u')) 1181 (zln e') = zu (zu J 1180 (zli u')) 1181 (zln e') := by
    funext q
    by_cases z1 : q = 1181
    · subst z1; rw [zu_eq, zu_eq]
    · rw [zu_ne _ _ _ _ z1, zu_ne _ _ _ _ z1]
      by_cases z2 : q = 1180
      · subst z2; rw [zu_eq, zu_eq]
      · rw [zu_ne _ _ _ _ z2, zu_ne _ _ _ _ z2, zu_ne _ _ _ _ z1, zu_ne _ _ _ _ z2]
  rw [ej] at k2
  have e1 : zln Y / zln (Nat.gcd e Y) = zln (Y / Nat.gcd e Y) := zln_div _ _ (by omega) (by omega)
  have e2 : zln e / zln (Nat.gcd e Y) = zln (e / Nat.gcd e Y) := zln_div _ _ (by omega) (by omega)
  have hz : ¬ zln (Nat.gcd e Y) = zln 0 := by
    rw [zln_eq _ _ (by omega) (by omega)]
    omega
  have hst : zli u * zln (Y / Nat.gcd e Y) + zli X * zln (e / Nat.gcd e Y) = zli (u * ((Y / Nat.gcd e Y : Nat) : Int) + X * ((e / Nat.gcd e Y : Nat) : Int)) := by rw [zli_nat, zli_nat, zli_mul, zli_mul, zli_add]
  simp (disch := first | omega | exact zb_1 | exact zb_0 | exact zb_n1 | exact zb_n0) only [x243_0, x243_0N, x243_1, x243_4, x243_5, x243_8, x243_10, x243_10N, x243_11, x243_11N, x243_12, x243_15, x243_16, x243_18, x243_19, x243_20, x243_21, x243_21N, x243_22, x243_25, x243_27, x243_28, x243_29, x243_30, x243_33, x243_33N, x243_34, x243_34N, x243_35, x243_38, x243_40, x243_41, x243_42, x243_43, x243_46, x243_46N, x243_47, x243_50, mq_dl_int, mq_dl_ref, mq_dl_null, mq_dl_none, mc_some, Option.toList_some, Option.toList_none, List.cons_append, List.nil_append, zb_1, zb_0, ↓reduceIte, if_true, if_false, not_true_eq_false, not_false_eq_true, Bool.false_eq_true, z_10, z_01, eq_self, Bool.and_self, true_or, or_true, false_or, or_false, true_and, and_true, false_and, and_false, and_self, or_self, Nat.reduceLT, Nat.reduceEqDiff, Nat.reduceLeDiff, Nat.reduceAdd, Nat.reduceMul, Nat.reduceSub, zn_lit, zn_add, zn_mul, zn_sub, zn_addneg, zn_lt, zn_le, zn_eq, zn_clamp, zn_in, zn_long, zln_lit, zln_mul, hp_1, hp_21, upd_zu, updL_zu, updQ_zu, zu_eq, zu_ne, ho_23, ho_23_0, hf_23_0, hk_23_0, hw_23_0, ho_23_1, hf_23_1, ho_23_2, hf_23_2, hk_23_2, hw_23_2, ho_23_3, hf_23_3, hk_23_3, hw_23_3, ho_23_4, hf_23_4, ho_23_5, hf_23_5, ho_23_6, hf_23_6, ho_23_7, hf_23_7, hk_23_7, hw_23_7, ho_23_8, hf_23_8, hk_23_8, hw_23_8, ho_23_9, hf_23_9, ho_23_10, hf_23_10, ho_23_11, hf_23_11, hk_23_11, hw_23_11, ho_23_12, hf_23_12, hk_23_12, hw_23_12, ho_23_13, hf_23_13, ho_23_14, hf_23_14, ho_23_15, hf_23_15, ho_23_16, hf_23_16, hk_23_16, hw_23_16, ho_23_17, hf_23_17, ho_23_18, hf_23_18, ho_23_19, hf_23_19, hk_23_19, hw_23_19, ho_23_20, hf_23_20, ho_23_21, hf_23_21, hk_23_21, hw_23_21, ho_23_22, hf_23_22, hk_23_22, hw_23_22, ho_23_23, hf_23_23, hk_23_23, hw_23_23, ho_23_24, hf_23_24, hk_23_24, hw_23_24, ho_23_25, hf_23_25, ho_23_26, hf_23_26, ho_23_27, hf_23_27, hk_23_27, hw_23_27, ho_23_28, hf_23_28, ho_23_29, hf_23_29, ho_23_30, hf_23_30, hk_23_30, hw_23_30, ho_23_31, hf_23_31, hk_23_31, hw_23_31, ho_23_32, hf_23_32, ho_23_33, hf_23_33, ho_23_34, hf_23_34, hk_23_34, hw_23_34, ho_23_35, hf_23_35, hk_23_35, hw_23_35, ho_23_36, hf_23_36, hk_23_36, hw_23_36, ho_23_37, hf_23_37, ho_23_38, hf_23_38, ho_23_39, hf_23_39, hn_24, hi_24, hj_24, hg_24, hu_24, hn_25, hi_25, hj_25, hg_25, hu_25, hn_26, hi_26, hj_26, hg_26, hu_26, hn_27, hi_27, hg_27, hu_27, hn_28, hi_28, hg_28, hu_28, hn_29, hi_29, hj_29, hg_29, hu_29, hn_30, hi_30, hj_30, hg_30, hu_30, hn_31, hi_31, hj_31, hg_31, hu_31, hn_32, hi_32, hj_32, hg_32, hu_32, hn_33, hi_33, hj_33, hg_33, hu_33, hn_34, hi_34, hj_34, hg_34, hu_34, hn_35, hi_35, hj_35, hg_35, hu_35, hn_36, hi_36, hj_36, hg_36, hu_36, hn_37, hi_37, hg_37, hu_37, hn_38, hi_38, hj_38, hg_38, hu_38, hn_39, hi_39, hj_39, hg_39, hu_39, hn_40, hi_40, hj_40, hg_40, hu_40, hn_41, hi_41, hj_41, hg_41, hu_41, hn_42, hi_42, hg_42, hu_42, hn_43, hi_43, hg_43, hu_43, hn_44, hi_44, hj_44, hg_44, hu_44, hn_45, hi_45, hg_45, hu_45, hU, hD, ec, e1, e2, hz, hst, k2]
end RFRA
