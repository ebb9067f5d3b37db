/-! ROWS: the reference's row, counts, split, dual -/
section RDU
variable {n s : Nat} {c : Nat → mq_E} {I : Nat → Int32} {J : Nat → Int64} {A : Nat → Nat → Int32} {B : Nat → Nat → Int64} {R : Nat → Value} {Q : Nat → Nat → Option Nat}
variable {T : ZT}
theorem R_dnl (hS : RT T (A 29)) (hW : WT T) (hG : gdT T = true) (ho : orT T ≤ 60) {v : Int32} (hQ : RRQ T (RW T) v (A 38)) (d p q k : Nat) (hpp : p < (RW T).length) (hq : q < (RW T).length) (hk : k < (RW T).length) (w1 w2 : Int64) : ∀ (e y : Nat) (J : Nat → Int64) (u N : Int) (ee P S : Nat) (o9 : Option Value), y + e = T.1 → J 1180 = zli u → J 1181 = zln ee → 0 < P → RF u ee N P → N.natAbs ≤ S * P → S + zns (szT T) y e ≤ 60 → P * (zpd (szT T) y e * zpd (szT T) y e) = pdT T * pdT T → N * ((zpd (szT T) y e * zpd (szT T) y e : Nat) : Int) + zsum (fun i => rwT T p i * rwT T q i * rwT T k (T.2.2 i) * (wtT T i : Int) * (wtT T i : Int)) y e = duT T (rwT T p) (rwT T q) (rwT T k) → ∃ u' e' o9', RF u' e' (duT T (rwT T p) (rwT T q) (rwT T k)) (pdT T * pdT T) ∧ mz (d + 3) 247 35 [some (.ref 23), some (.int (zn p)), some (.int (zn q)), some (.int (zn k)), some (.long w1), none, some (.long w2), none, some (.int (zn y)), o9, none] [] (hp n s c I J A B R Q) = mz (d + 3) 247 113 [some (.ref 23), some (.int (zn p)), some (.int (zn q)), some (.int (zn k)), some (.long w1), none, some (.long w2), none, some (.int (zn T.1)), o9', none] [] (hp n s c I (jj J u' e') A B R Q)
  | 0, y, J, u, N, ee, P, S, o9, hy, hu, he, hP, hF, hN, hS2, hp2, hs2 => by
    have h6 := hW.2.1
    have e : y = T.1 := by omega
    subst e
    simp only [zpd, zsum, Nat.mul_one, Int.add_zero] at hp2 hs2
    rw [show N * ((1 : Nat) : Int) = N by simp] at hs2
    refine ⟨u, ee, o9, by rw [← hs2, ← hp2]; exact hF, ?_⟩
    have ej : jj J u ee = J := by
      funext q
      by_cases z1 : q = 1181
      · subst z1; rw [jj_1, he]
      · by_cases z2 : q = 1180
        · subst z2; rw [jj_0, hu]
        · rw [jj_ne _ _ _ _ z2 z1]
    rw [ej]
    simp (disch := first | omega | exact zb_1 | exact zb_0 | exact zb_n1 | exact zb_n0) only [x247_35, x247_37, x247_38, x247_41, mq_dl_int, mq_dl_ref, mq_dl_null, mq_dl_none, mc_some, Option.toList_some, Option.toList_none, List.cons_append, List.nil_append, zb_1, zb_0, ↓reduceIte, if_true, if_false, not_true_eq_false, not_false_eq_true, Bool.false_eq_true, z_10, z_01, eq_self, Bool.and_self, true_or, or_true, false_or, or_false, true_and, and_true, false_and, and_false, and_self, or_self, Nat.reduceLT, Nat.reduceEqDiff, Nat.reduceLeDiff, Nat.reduceAdd, Nat.reduceMul, Nat.reduceSub, zn_lit, zn_add, zn_mul, zn_sub, zn_addneg, zn_lt, zn_le, zn_eq, zn_clamp, zn_in, zn_long, ho_23, S_things hS, Nat.le_refl]
  | e + 1, y, J, u, N, ee, P, S, o9, hy, hu, he, hP, hF, hN, hS2, hp2, hs2 => by
    have h6 := hW.2.1
    have hl := RW_len hW
    have hym : y < T.1 := by omega
    have hyr := hW.2.2.2.1 y hym
    have hz := szT_pos hW hG hym
    have hpd := pd_le hW ho
    have hpd1 := pd_pos hW hG
    have q1 := RRQ_get hQ hpp hym
    have q2 := RRQ_get hQ hq hym
    have q3 := RRQ_get hQ hk hyr
    have c1 := (rw_mem hW hpp).2 y hym
    have c2 := (rw_mem hW hq).2 y hym
    have c3 := (rw_mem hW hk).2 _ hyr
    rw [szT_rv hW hG hym] at c3
    have hz60 := szT_or (T := T) hym
    have hl1 : (zi (rwT T p y)).toInt64 = zli (rwT T p y) := zi_long _ (by omega) (by omega)
    have hl2 : (zi (rwT T q y)).toInt64 = zli (rwT T q y) := zi_long _ (by omega) (by omega)
    have hl3 : (zi (rwT T k (T.2.2 y))).toInt64 = zli (rwT T k (T.2.2 y)) := zi_long _ (by omega) (by omega)
    have hX : (rwT T p y * rwT T q y * rwT T k (T.2.2 y)).natAbs ≤ szT T y * (szT T y * szT T y) := by
      have := mul_ab (mul_ab (x := rwT T p y) (y := rwT T q y) (X := szT T y) (Y := szT T y) (by omega) (by omega)) (show (rwT T k (T.2.2 y)).natAbs ≤ szT T y by omega)
      rw [Nat.mul_assoc] at this
      exact this
    unfold zns at hS2
    unfold zpd at hp2 hs2
    unfold zsum at hs2
    have hrest := zpd_ge1 hW hG (show (y + 1) + e ≤ T.1 by omega)
    have hzz : 0 < szT T y * szT T y := Nat.mul_pos hz hz
    have hPY : P * (szT T y * szT T y) ≤ pdT T * pdT T := by
      rw [← hp2, show P * (szT T y * zpd (szT T) (y + 1) e * (szT T y * zpd (szT T) (y + 1) e)) = P * (szT T y * szT T y) * (zpd (szT T) (y + 1) e * zpd (szT T) (y + 1) e) by grind]
      exact Nat.le_mul_of_pos_right _ (Nat.mul_pos hrest hrest)
    have hpp2 : pdT T * pdT T ≤ 1000100 * 1000100 := Nat.mul_le_mul hpd hpd
    have hwk : P * (zpd (szT T) (y + 1) e * zpd (szT T) (y + 1) e) = wtT T y * wtT T y := by
      apply Nat.eq_of_mul_eq_mul_right hzz
      have hw := wt_mul hym
      rw [show wtT T y * wtT T y * (szT T y * szT T y) = (wtT T y * szT T y) * (wtT T y * szT T y) by grind, hw, ← hp2]
      grind
    have hbnd : (S + szT T y) * (P * (szT T y * szT T y)) ≤ 60 * (1000100 * 1000100) := Nat.mul_le_mul (by omega) (by omega)
    obtain ⟨u1, e1, a1, a2⟩ := R_add (n := n) (s := s) (c := c) (I := I) (A := A) (B := B) (R := R) (Q := Q) d (X := rwT T p y * rwT T q y * rwT T k (T.2.2 y)) (Y := szT T y * szT T y) (z := szT T y) hu he hP hzz hF hN hX (by omega) (by omega)
    have a3 := (ad_b (X := rwT T p y * rwT T q y * rwT T k (T.2.2 y)) (z := szT T y) hP hzz hF hN hX).2.2
    obtain ⟨u', e', o9', k1, k2⟩ := R_dnl hS hW hG ho hQ d p q k hpp hq hk w1 w2 e (y + 1) (jj J u1 e1) u1 (N * ((szT T y * szT T y : Nat) : Int) + rwT T p y * rwT T q y * rwT T k (T.2.2 y) * (P : Int)) e1 (P * (szT T y * szT T y)) (S + szT T y) (some (.long (zln (szT T y)))) (by omega) (jj_0 _ _ _) (jj_1 _ _ _) (Nat.mul_pos hP hzz) a1 a3 (by omega) (by rw [← hp2]; grind) (by
      have hwk2 : (P : Int) * ((zpd (szT T) (y + 1) e : Int) * (zpd (szT T) (y + 1) e : Int)) = (wtT T y : Int) * (wtT T y : Int) := by
        have := congrArg (fun x : Nat => (x : Int)) hwk
        simp only [Int.natCast_mul] at this
        exact this
      rw [← hs2]
      simp only [Int.natCast_mul]
      generalize zsum (fun i => rwT T p i * rwT T q i * rwT T k (T.2.2 i) * (wtT T i : Int) * (wtT T i : Int)) (y + 1) e = Z
      generalize rwT T p y * rwT T q y * rwT T k (T.2.2 y) = XX
      grind)
    refine ⟨u', e', o9', k1, ?_⟩
    rw [jj_jj] at k2
    rw [← k2, x247_35]
    simp (disch := first | omega | exact zb_1 | exact zb_0 | exact zb_n1 | exact zb_n0) only [x247_37, x247_38, x247_41, x247_44, x247_45, x247_47, x247_50, x247_51, x247_53, x247_54, x247_55, x247_58, x247_60, x247_61, x247_62, x247_64, x247_65, x247_66, x247_67, x247_68, x247_71, x247_73, x247_74, x247_75, x247_77, x247_78, x247_79, x247_80, x247_81, x247_82, x247_85, x247_87, x247_88, x247_89, x247_90, x247_92, x247_95, x247_96, x247_97, x247_98, x247_99, x247_101, x247_103, x247_104, x247_107, x247_110, mq_dl_int, mq_dl_ref, mq_dl_null, mq_dl_none, mc_some, Option.toList_some, Option.toList_none, List.cons_append, List.nil_append, zb_1, zb_0, ↓reduceIte, if_true, if_false, not_true_eq_false, not_false_eq_true, Bool.false_eq_true, z_10, z_01, eq_self, Bool.and_self, true_or, or_true, false_or, or_false, true_and, and_true, false_and, and_false, and_self, or_self, Nat.reduceLT, Nat.reduceEqDiff, Nat.reduceLeDiff, Nat.reduceAdd, Nat.reduceMul, Nat.reduceSub, zn_lit, zn_add, zn_mul, zn_sub, zn_addneg, zn_lt, zn_le, zn_eq, zn_clamp, zn_in, zn_long, zli_mul, zln_mul, hp_1, hp_21, upd_zu, updL_zu, updQ_zu, zu_eq, zu_ne, ho_23, ho_23_0, hf_23_0, hk_23_0, hw_23_0, ho_23_1, hf_23_1, ho_23_2, hf_23_2, hk_23_2, hw_23_2, ho_23_3, hf_23_3, hk_23_3, hw_23_3, ho_23_4, hf_23_4, ho_23_5, hf_23_5, ho_23_6, hf_23_6, ho_23_7, hf_23_7, hk_23_7, hw_23_7, ho_23_8, hf_23_8, hk_23_8, hw_23_8, ho_23_9, hf_23_9, ho_23_10, hf_23_10, ho_23_11, hf_23_11, hk_23_11, hw_23_11, ho_23_12, hf_23_12, hk_23_12, hw_23_12, ho_23_13, hf_23_13, ho_23_14, hf_23_14, ho_23_15, hf_23_15, ho_23_16, hf_23_16, hk_23_16, hw_23_16, ho_23_17, hf_23_17, ho_23_18, hf_23_18, ho_23_19, hf_23_19, hk_23_19, hw_23_19, ho_23_20, hf_23_20, ho_23_21, hf_23_21, hk_23_21, hw_23_21, ho_23_22, hf_23_22, hk_23_22, hw_23_22, ho_23_23, hf_23_23, hk_23_23, hw_23_23, ho_23_24, hf_23_24, hk_23_24, hw_23_24, ho_23_25, hf_23_25, ho_23_26, hf_23_26, ho_23_27, hf_23_27, hk_23_27, hw_23_27, ho_23_28, hf_23_28, ho_23_29, hf_23_29, ho_23_30, hf_23_30, hk_23_30, hw_23_30, ho_23_31, hf_23_31, hk_23_31, hw_23_31, ho_23_32, hf_23_32, ho_23_33, hf_23_33, ho_23_34, hf_23_34, hk_23_34, hw_23_34, ho_23_35, hf_23_35, hk_23_35, hw_23_35, ho_23_36, hf_23_36, hk_23_36, hw_23_36, ho_23_37, hf_23_37, ho_23_38, hf_23_38, ho_23_39, hf_23_39, hn_24, hi_24, hj_24, hg_24, hu_24, hn_25, hi_25, hj_25, hg_25, hu_25, hn_26, hi_26, hj_26, hg_26, hu_26, hn_27, hi_27, hg_27, hu_27, hn_28, hi_28, hg_28, hu_28, hn_29, hi_29, hj_29, hg_29, hu_29, hn_30, hi_30, hj_30, hg_30, hu_30, hn_31, hi_31, hj_31, hg_31, hu_31, hn_32, hi_32, hj_32, hg_32, hu_32, hn_33, hi_33, hj_33, hg_33, hu_33, hn_34, hi_34, hj_34, hg_34, hu_34, hn_35, hi_35, hj_35, hg_35, hu_35, hn_36, hi_36, hj_36, hg_36, hu_36, hn_37, hi_37, hg_37, hu_37, hn_38, hi_38, hj_38, hg_38, hu_38, hn_39, hi_39, hj_39, hg_39, hu_39, hn_40, hi_40, hj_40, hg_40, hu_40, hn_41, hi_41, hj_41, hg_41, hu_41, hn_42, hi_42, hg_42, hu_42, hn_43, hi_43, hg_43, hu_43, hn_44, hi_44, hj_44, hg_44, hu_44, hn_45, hi_45, hg_45, hu_45, S_things hS, S_rev hS hW, S_size hS hW, q1, q2, q3, hl1, hl2, hl3, a2, jj, show ¬ T.1 ≤ y by omega, show 6 * p + y < 12000 by omega, show 6 * q + y < 12000 by omega, show 6 * k + T.2.2 y < 12000 by omega, decide_true]
theorem R_dn (hS : RT T (A 29)) (hW : WT T) (hG : gdT T = true) (ho : orT T ≤ 60) (hs : spT T = true) {v : Int32} (hQ : RRQ T (RW T) v (A 38)) (d p q k : Nat) (hpp : p < (RW T).length) (hq : q < (RW T).length) (hk : k < (RW T).length) : mz (d + 5) 247 0 [some (.ref 23), some (.int (zn p)), some (.int (zn q)), some (.int (zn k)), none, none, none, none, none, none, none] [] (hp n s c I J A B R Q) = some (some none, hp n s c I (jj J ((dpT T p q k).tdiv (dgT T p q k : Nat)) (ddT T / dgT T p q k)) A B R Q) := by
  have h6 := hW.2.1
  have hP := pd_pos hW hG
  have hP2 := pd_le hW ho
  have hpp1 : 0 < pdT T * pdT T := Nat.mul_pos hP hP
  have hpp2 : pdT T * pdT T ≤ 1000100 * 1000100 := Nat.mul_le_mul hP2 hP2
  have hd0 := dd_pos hW hG
  have hd1 := dd_le hW ho
  have b1 := dp_le hW hG ho hs hpp hq hk
  have cu1 := cd_1 hW hG ho (rw_mem hW hpp).1 ((sp_len hs).2 p hpp)
  have cu2 := cd_1 hW hG ho (rw_mem hW hq).1 ((sp_len hs).2 q hq)
  have du1 := du_le hW hG (rw_mem hW hpp).2 (rw_mem hW hq).2 (rw_mem hW hk).2
  have du2 : orT T * (pdT T * pdT T) ≤ 60 * (1000100 * 1000100) := Nat.mul_le_mul ho hpp2
  have ec1 := R_cnt (n := n) (s := s) (c := c) (I := I) (J := J) (B := B) (R := R) (Q := Q) hS hW hG ho hQ d p hpp
  have ec2 := R_cnt (n := n) (s := s) (c := c) (I := I) (J := jj J (cuT T (rwT T p)) (cdT T (rwT T p))) (B := B) (R := R) (Q := Q) hS hW hG ho hQ d q hq
  rw [jj_jj] at ec2
  obtain ⟨u, e, o9, k1, k2⟩ := R_dnl (n := n) (s := s) (c := c) (I := I) (B := B) (R := R) (Q := Q) hS hW hG ho hQ (d + 2) p q k hpp hq hk (zln (cuT T (rwT T p))) (zln (cuT T (rwT T q))) T.1 0 (jj J 0 1) 0 0 1 1 0 none (by omega) (jj_0 _ _ _) (jj_1 _ _ _) (by omega) ⟨by simp, by decide, by omega⟩ (by simp) (by rw [Nat.zero_add]; exact ho) (Nat.one_mul _) (by rw [Int.zero_mul, Int.zero_add]; rfl)
  rw [jj_jj] at k2
  obtain ⟨c1, c2⟩ := RF_b hpp1 k1
  have hU : (u * (cuT T (rwT T p) : Int) * (cuT T (rwT T q) : Int)).natAbs ≤ (60 * (1000100 * 1000100)) * 60 * 60 := mul_ab (mul_ab (Nat.le_trans c2 (Nat.le_trans du1 du2)) (by omega)) (by omega)
  have heo : e * orT T ≤ (1000100 * 1000100) * 60 := Nat.mul_le_mul (by omega) ho
  have heo0 : 0 < e * orT T := Nat.mul_pos k1.2.2 (or_pos hW)
  obtain ⟨U, E, m1, m2⟩ := R_low (n := n) (s := s) (c := c) (I := I) (J := jj J (u * (cuT T (rwT T p) : Int) * (cuT T (rwT T q) : Int)) (e * orT T)) (A := A) (B := B) (R := R) (Q := Q) (d + 3) (u * (cuT T (rwT T p) : Int) * (cuT T (rwT T q) : Int)) (e * orT T) (jj_0 _ _ _) (jj_1 _ _ _) heo0 (by omega) (by omega)
  have hR : RF U E (dpT T p q k) (ddT T) := by
    refine ⟨?_, m1.2.1, m1.2.2⟩
    have f1 := m1.1
    have f2 := k1.1
    have he := k1.2.2
    unfold dpT ddT
    rw [Int.natCast_mul] at f1 f2
    rw [Int.natCast_mul, Int.natCast_mul]
    have : (U * ((orT T : Int) * (pdT T : Int) * (pdT T : Int))) * (e : Int) = ((E : Int) * ((cuT T (rwT T p) : Int) * (cuT T (rwT T q) : Int) * duT T (rwT T p) (rwT T q) (rwT T k))) * (e : Int) := by
      generalize duT T (rwT T p) (rwT T q) (rwT T k) = D at *
      generalize (pdT T : Int) = P at *
      generalize (orT T : Int) = o at *
      generalize (cuT T (rwT T p) : Int) = x1 at *
      generalize (cuT T (rwT T q) : Int) = x2 at *
      grind
    exact Int.eq_of_mul_eq_mul_right (by omega) this
  obtain ⟨w1, w2⟩ := RF_u hd0 hR (RF_red (dpT T p q k) (ddT T) hd0).1
  rw [show zu (zu (jj J (u * (cuT T (rwT T p) : Int) * (cuT T (rwT T q) : Int)) (e * orT T)) 1180 (zli U)) 1181 (zln E) = jj (jj J (u * (cuT T (rwT T p) : Int) * (cuT T (rwT T q) : Int)) (e * orT T)) U E from rfl, jj_jj, w1, w2] at m2
  have e0 : mz (d + 5) 247 0 [some (.ref 23), some (.int (zn p)), some (.int (zn q)), some (.int (zn k)), none, none, none, none, none, none, none] [] (hp n s c I J A B R Q) = mz (d + 5) 247 35 [some (.ref 23), some (.int (zn p)), some (.int (zn q)), some (.int (zn k)), some (.long (zln (cuT T (rwT T p)))), none, some (.long (zln (cuT T (rwT T q)))), none, some (.int (zn 0)), none, none] [] (hp n s c I (jj J 0 1) A B R Q) := by
    have ej0 : zu (zu (jj J (cuT T (rwT T q)) (cdT T (rwT T q))) 1180 (zln 0)) 1181 (zln 1) = jj J 0 1 := by
      rw [show zln 0 = zli 0 from zli_nat 0]
      exact jj_jj _ _ _ _ _
    simp (disch := first | omega | exact zb_1 | exact zb_0 | exact zb_n1 | exact zb_n0) only [x247_0, x247_1, x247_2, x247_5, x247_6, x247_9, x247_11, x247_12, x247_13, x247_16, x247_17, x247_20, x247_22, x247_23, x247_24, x247_27, x247_28, x247_29, x247_32, x247_33, mq_dl_int, mq_dl_ref, mq_dl_null, mq_dl_none, mc_some, Option.toList_some, Option.toList_none, List.cons_append, List.nil_append, zb_1, zb_0, ↓reduceIte, if_true, if_false, not_true_eq_false, not_false_eq_true, Bool.false_eq_true, z_10, z_01, eq_self, Bool.and_self, true_or, or_true, false_or, or_false, true_and, and_true, false_and, and_false, and_self, or_self, Nat.reduceLT, Nat.reduceEqDiff, Nat.reduceLeDiff, Nat.reduceAdd, Nat.reduceMul, Nat.reduceSub, zn_lit, zn_add, zn_mul, zn_sub, zn_addneg, zn_lt, zn_le, zn_eq, zn_clamp, zn_in, zn_long, zln_lit, hp_1, hp_21, upd_zu, updL_zu, updQ_zu, zu_eq, zu_ne, ho_23, ho_23_0, hf_23_0, hk_23_0, hw_23_0, ho_23_1, hf_23_1, ho_23_2, hf_23_2, hk_23_2, hw_23_2, ho_23_3, hf_23_3, hk_23_3, hw_23_3, ho_23_4, hf_23_4, ho_23_5, hf_23_5, ho_23_6, hf_23_6, ho_23_7, hf_23_7, hk_23_7, hw_23_7, ho_23_8, hf_23_8, hk_23_8, hw_23_8, ho_23_9, hf_23_9, ho_23_10, hf_23_10, ho_23_11, hf_23_11, hk_23_11, hw_23_11, ho_23_12, hf_23_12, hk_23_12, hw_23_12, ho_23_13, hf_23_13, ho_23_14, hf_23_14, ho_23_15, hf_23_15, ho_23_16, hf_23_16, hk_23_16, hw_23_16, ho_23_17, hf_23_17, ho_23_18, hf_23_18, ho_23_19, hf_23_19, hk_23_19, hw_23_19, ho_23_20, hf_23_20, ho_23_21, hf_23_21, hk_23_21, hw_23_21, ho_23_22, hf_23_22, hk_23_22, hw_23_22, ho_23_23, hf_23_23, hk_23_23, hw_23_23, ho_23_24, hf_23_24, hk_23_24, hw_23_24, ho_23_25, hf_23_25, ho_23_26, hf_23_26, ho_23_27, hf_23_27, hk_23_27, hw_23_27, ho_23_28, hf_23_28, ho_23_29, hf_23_29, ho_23_30, hf_23_30, hk_23_30, hw_23_30, ho_23_31, hf_23_31, hk_23_31, hw_23_31, ho_23_32, hf_23_32, ho_23_33, hf_23_33, ho_23_34, hf_23_34, hk_23_34, hw_23_34, ho_23_35, hf_23_35, hk_23_35, hw_23_35, ho_23_36, hf_23_36, hk_23_36, hw_23_36, ho_23_37, hf_23_37, ho_23_38, hf_23_38, ho_23_39, hf_23_39, hn_24, hi_24, hj_24, hg_24, hu_24, hn_25, hi_25, hj_25, hg_25, hu_25, hn_26, hi_26, hj_26, hg_26, hu_26, hn_27, hi_27, hg_27, hu_27, hn_28, hi_28, hg_28, hu_28, hn_29, hi_29, hj_29, hg_29, hu_29, hn_30, hi_30, hj_30, hg_30, hu_30, hn_31, hi_31, hj_31, hg_31, hu_31, hn_32, hi_32, hj_32, hg_32, hu_32, hn_33, hi_33, hj_33, hg_33, hu_33, hn_34, hi_34, hj_34, hg_34, hu_34, hn_35, hi_35, hj_35, hg_35, hu_35, hn_36, hi_36, hj_36, hg_36, hu_36, hn_37, hi_37, hg_37, hu_37, hn_38, hi_38, hj_38, hg_38, hu_38, hn_39, hi_39, hj_39, hg_39, hu_39, hn_40, hi_40, hj_40, hg_40, hu_40, hn_41, hi_41, hj_41, hg_41, hu_41, hn_42, hi_42, hg_42, hu_42, hn_43, hi_43, hg_43, hu_43, hn_44, hi_44, hj_44, hg_44, hu_44, hn_45, hi_45, hg_45, hu_45, ec1, ec2, jj_0, ← zli_nat, ej0]
  have ej1 : zu (jj J u e) 1180 (zli (u * (cuT T (rwT T p) : Int) * (cuT T (rwT T q) : Int))) = jj J (u * (cuT T (rwT T p) : Int) * (cuT T (rwT T q) : Int)) e := by
    funext q
    by_cases z2 : q = 1180
    · subst z2; rw [zu_eq, jj_0]
    · rw [zu_ne _ _ _ _ z2]
      by_cases z1 : q = 1181
      · subst z1; rw [jj_1, jj_1]
      · rw [jj_ne _ _ _ _ z2 z1, jj_ne _ _ _ _ z2 z1]
  have ej2 : zu (jj J (u * (cuT T (rwT T p) : Int) * (cuT T (rwT T q) : Int)) e) 1181 (zln (e * orT T)) = jj J (u * (cuT T (rwT T p) : Int) * (cuT T (rwT T q) : Int)) (e * orT T) := by
    funext q
    by_cases z1 : q = 1181
    · subst z1; rw [zu_eq, jj_1]
    · rw [zu_ne _ _ _ _ z1]
      by_cases z2 : q = 1180
      · subst z2; rw [jj_0, jj_0]
      · rw [jj_ne _ _ _ _ z2 z1, jj_ne _ _ _ _ z2 z1]
  have hst : zli u * zln (cuT T (rwT T p)) * zln (cuT T (rwT T q)) = zli (u * (cuT T (rwT T p) : Int) * (cuT T (rwT T q) : Int)) := by rw [zli_nat, zli_nat, zli_mul, zli_mul]
  rw [e0, k2]
  simp (disch := first | omega | exact zb_1 | exact zb_0 | exact zb_n1 | exact zb_n0) only [x247_113, x247_114, x247_115, x247_118, x247_120, x247_121, x247_123, x247_124, x247_127, x247_128, x247_129, x247_132, x247_133, x247_136, x247_137, x247_140, x247_141, x247_144, mq_dl_int, mq_dl_ref, mq_dl_null, mq_dl_none, mc_some, Option.toList_some, Option.toList_none, List.cons_append, List.nil_append, zb_1, zb_0, ↓reduceIte, if_true, if_false, not_true_eq_false, not_false_eq_true, Bool.false_eq_true, z_10, z_01, eq_self, Bool.and_self, true_or, or_true, false_or, or_false, true_and, and_true, false_and, and_false, and_self, or_self, Nat.reduceLT, Nat.reduceEqDiff, Nat.reduceLeDiff, Nat.reduceAdd, Nat.reduceMul, Nat.reduceSub, zn_lit, zn_add, zn_mul, zn_sub, zn_addneg, zn_lt, zn_le, zn_eq, zn_clamp, zn_in, zn_long, zln_mul, hp_1, hp_21, upd_zu, updL_zu, updQ_zu, zu_eq, zu_ne, ho_23, ho_23_0, hf_23_0, hk_23_0, hw_23_0, ho_23_1, hf_23_1, ho_23_2, hf_23_2, hk_23_2, hw_23_2, ho_23_3, hf_23_3, hk_23_3, hw_23_3, ho_23_4, hf_23_4, ho_23_5, hf_23_5, ho_23_6, hf_23_6, ho_23_7, hf_23_7, hk_23_7, hw_23_7, ho_23_8, hf_23_8, hk_23_8, hw_23_8, ho_23_9, hf_23_9, ho_23_10, hf_23_10, ho_23_11, hf_23_11, hk_23_11, hw_23_11, ho_23_12, hf_23_12, hk_23_12, hw_23_12, ho_23_13, hf_23_13, ho_23_14, hf_23_14, ho_23_15, hf_23_15, ho_23_16, hf_23_16, hk_23_16, hw_23_16, ho_23_17, hf_23_17, ho_23_18, hf_23_18, ho_23_19, hf_23_19, hk_23_19, hw_23_19, ho_23_20, hf_23_20, ho_23_21, hf_23_21, hk_23_21, hw_23_21, ho_23_22, hf_23_22, hk_23_22, hw_23_22, ho_23_23, hf_23_23, hk_23_23, hw_23_23, ho_23_24, hf_23_24, hk_23_24, hw_23_24, ho_23_25, hf_23_25, ho_23_26, hf_23_26, ho_23_27, hf_23_27, hk_23_27, hw_23_27, ho_23_28, hf_23_28, ho_23_29, hf_23_29, ho_23_30, hf_23_30, hk_23_30, hw_23_30, ho_23_31, hf_23_31, hk_23_31, hw_23_31, ho_23_32, hf_23_32, ho_23_33, hf_23_33, ho_23_34, hf_23_34, hk_23_34, hw_23_34, ho_23_35, hf_23_35, hk_23_35, hw_23_35, ho_23_36, hf_23_36, hk_23_36, hw_23_36, ho_23_37, hf_23_37, ho_23_38, hf_23_38, ho_23_39, hf_23_39, hn_24, hi_24, hj_24, hg_24, hu_24, hn_25, hi_25, hj_25, hg_25, hu_25, hn_26, hi_26, hj_26, hg_26, hu_26, hn_27, hi_27, hg_27, hu_27, hn_28, hi_28, hg_28, hu_28, hn_29, hi_29, hj_29, hg_29, hu_29, hn_30, hi_30, hj_30, hg_30, hu_30, hn_31, hi_31, hj_31, hg_31, hu_31, hn_32, hi_32, hj_32, hg_32, hu_32, hn_33, hi_33, hj_33, hg_33, hu_33, hn_34, hi_34, hj_34, hg_34, hu_34, hn_35, hi_35, hj_35, hg_35, hu_35, hn_36, hi_36, hj_36, hg_36, hu_36, hn_37, hi_37, hg_37, hu_37, hn_38, hi_38, hj_38, hg_38, hu_38, hn_39, hi_39, hj_39, hg_39, hu_39, hn_40, hi_40, hj_40, hg_40, hu_40, hn_41, hi_41, hj_41, hg_41, hu_41, hn_42, hi_42, hg_42, hu_42, hn_43, hi_43, hg_43, hu_43, hn_44, hi_44, hj_44, hg_44, hu_44, hn_45, hi_45, hg_45, hu_45, jj_0, jj_1, S_order hS hW, hst, ej1, ej2, m2, dgT]
theorem R_spl (hS : RT T (A 29)) (hW : WT T) (hG : gdT T = true) (ho : orT T ≤ 60) (hQ : RRQ T (RW T) (I 1177) (A 38)) (d : Nat) : ∀ (e r : Nat) (J : Nat → Int64) (u : Bool), r + e = (RW T).length → ∃ J', (∀ q, q ≠ 1180 → q ≠ 1181 → J' q = J q) ∧ mz (d + 5) 246 32 [some (.ref 23), some (.int (zo u)), some (.int (zn r))] [] (hp n s c I J A B R Q) = some (some (some (.int (zo (u && zall (fun r => decide (cdT T (rwT T r) = 1)) r e)))), hp n s c I J' A B R Q)
  | 0, r, J, u, hr => by
    have h6 := hW.2.1
    have hl := RW_len hW
    have hQ1 := hQ.1
    have e : r = (RW T).length := by omega
    subst e
    refine ⟨J, fun _ _ _ => rfl, ?_⟩
    simp (disch := first | omega | exact zo_1 _) only [x246_32, x246_33, x246_34, x246_37, x246_70, x246_71, mq_dl_int, mq_dl_ref, mq_dl_null, mq_dl_none, mc_some, Option.toList_some, Option.toList_none, List.cons_append, List.nil_append, zb_1, zb_0, ↓reduceIte, if_true, if_false, not_true_eq_false, not_false_eq_true, Bool.false_eq_true, z_10, z_01, eq_self, Bool.and_self, true_or, or_true, false_or, or_false, true_and, and_true, false_and, and_false, and_self, or_self, Nat.reduceLT, Nat.reduceEqDiff, Nat.reduceLeDiff, Nat.reduceAdd, Nat.reduceMul, Nat.reduceSub, zn_lit, zn_add, zn_mul, zn_sub, zn_addneg, zn_lt, zn_le, zn_eq, zn_clamp, zn_in, zn_long, hp_1, hp_21, upd_zu, updL_zu, updQ_zu, zu_eq, zu_ne, ho_23, ho_23_0, hf_23_0, hk_23_0, hw_23_0, ho_23_1, hf_23_1, ho_23_2, hf_23_2, hk_23_2, hw_23_2, ho_23_3, hf_23_3, hk_23_3, hw_23_3, ho_23_4, hf_23_4, ho_23_5, hf_23_5, ho_23_6, hf_23_6, ho_23_7, hf_23_7, hk_23_7, hw_23_7, ho_23_8, hf_23_8, hk_23_8, hw_23_8, ho_23_9, hf_23_9, ho_23_10, hf_23_10, ho_23_11, hf_23_11, hk_23_11, hw_23_11, ho_23_12, hf_23_12, hk_23_12, hw_23_12, ho_23_13, hf_23_13, ho_23_14, hf_23_14, ho_23_15, hf_23_15, ho_23_16, hf_23_16, hk_23_16, hw_23_16, ho_23_17, hf_23_17, ho_23_18, hf_23_18, ho_23_19, hf_23_19, hk_23_19, hw_23_19, ho_23_20, hf_23_20, ho_23_21, hf_23_21, hk_23_21, hw_23_21, ho_23_22, hf_23_22, hk_23_22, hw_23_22, ho_23_23, hf_23_23, hk_23_23, hw_23_23, ho_23_24, hf_23_24, hk_23_24, hw_23_24, ho_23_25, hf_23_25, ho_23_26, hf_23_26, ho_23_27, hf_23_27, hk_23_27, hw_23_27, ho_23_28, hf_23_28, ho_23_29, hf_23_29, ho_23_30, hf_23_30, hk_23_30, hw_23_30, ho_23_31, hf_23_31, hk_23_31, hw_23_31, ho_23_32, hf_23_32, ho_23_33, hf_23_33, ho_23_34, hf_23_34, hk_23_34, hw_23_34, ho_23_35, hf_23_35, hk_23_35, hw_23_35, ho_23_36, hf_23_36, hk_23_36, hw_23_36, ho_23_37, hf_23_37, ho_23_38, hf_23_38, ho_23_39, hf_23_39, hn_24, hi_24, hj_24, hg_24, hu_24, hn_25, hi_25, hj_25, hg_25, hu_25, hn_26, hi_26, hj_26, hg_26, hu_26, hn_27, hi_27, hg_27, hu_27, hn_28, hi_28, hg_28, hu_28, hn_29, hi_29, hj_29, hg_29, hu_29, hn_30, hi_30, hj_30, hg_30, hu_30, hn_31, hi_31, hj_31, hg_31, hu_31, hn_32, hi_32, hj_32, hg_32, hu_32, hn_33, hi_33, hj_33, hg_33, hu_33, hn_34, hi_34, hj_34, hg_34, hu_34, hn_35, hi_35, hj_35, hg_35, hu_35, hn_36, hi_36, hj_36, hg_36, hu_36, hn_37, hi_37, hg_37, hu_37, hn_38, hi_38, hj_38, hg_38, hu_38, hn_39, hi_39, hj_39, hg_39, hu_39, hn_40, hi_40, hj_40, hg_40, hu_40, hn_41, hi_41, hj_41, hg_41, hu_41, hn_42, hi_42, hg_42, hu_42, hn_43, hi_43, hg_43, hu_43, hn_44, hi_44, hj_44, hg_44, hu_44, hn_45, hi_45, hg_45, hu_45, hQ1, Nat.le_refl, zall, Bool.and_true]
  | e + 1, r, J, u, hr => by
    have h6 := hW.2.1
    have hl := RW_len hW
    have hQ1 := hQ.1
    have hrl : r < (RW T).length := by omega
    cases u with
    | false =>
      refine ⟨J, fun _ _ _ => rfl, ?_⟩
      rw [Bool.false_and]
      rw [x246_32]
      simp (disch := first | omega | exact zb_1 | exact zb_0 | exact zb_n1 | exact zb_n0) only [x246_33, x246_34, x246_37, x246_40, x246_41, x246_70, x246_71, mq_dl_int, mq_dl_ref, mq_dl_null, mq_dl_none, mc_some, Option.toList_some, Option.toList_none, List.cons_append, List.nil_append, zb_1, zb_0, ↓reduceIte, if_true, if_false, not_true_eq_false, not_false_eq_true, Bool.false_eq_true, z_10, z_01, eq_self, Bool.and_self, true_or, or_true, false_or, or_false, true_and, and_true, false_and, and_false, and_self, or_self, Nat.reduceLT, Nat.reduceEqDiff, Nat.reduceLeDiff, Nat.reduceAdd, Nat.reduceMul, Nat.reduceSub, zn_lit, zn_add, zn_mul, zn_sub, zn_addneg, zn_lt, zn_le, zn_eq, zn_clamp, zn_in, zn_long, hp_1, hp_21, upd_zu, updL_zu, updQ_zu, zu_eq, zu_ne, ho_23, ho_23_0, hf_23_0, hk_23_0, hw_23_0, ho_23_1, hf_23_1, ho_23_2, hf_23_2, hk_23_2, hw_23_2, ho_23_3, hf_23_3, hk_23_3, hw_23_3, ho_23_4, hf_23_4, ho_23_5, hf_23_5, ho_23_6, hf_23_6, ho_23_7, hf_23_7, hk_23_7, hw_23_7, ho_23_8, hf_23_8, hk_23_8, hw_23_8, ho_23_9, hf_23_9, ho_23_10, hf_23_10, ho_23_11, hf_23_11, hk_23_11, hw_23_11, ho_23_12, hf_23_12, hk_23_12, hw_23_12, ho_23_13, hf_23_13, ho_23_14, hf_23_14, ho_23_15, hf_23_15, ho_23_16, hf_23_16, hk_23_16, hw_23_16, ho_23_17, hf_23_17, ho_23_18, hf_23_18, ho_23_19, hf_23_19, hk_23_19, hw_23_19, ho_23_20, hf_23_20, ho_23_21, hf_23_21, hk_23_21, hw_23_21, ho_23_22, hf_23_22, hk_23_22, hw_23_22, ho_23_23, hf_23_23, hk_23_23, hw_23_23, ho_23_24, hf_23_24, hk_23_24, hw_23_24, ho_23_25, hf_23_25, ho_23_26, hf_23_26, ho_23_27, hf_23_27, hk_23_27, hw_23_27, ho_23_28, hf_23_28, ho_23_29, hf_23_29, ho_23_30, hf_23_30, hk_23_30, hw_23_30, ho_23_31, hf_23_31, hk_23_31, hw_23_31, ho_23_32, hf_23_32, ho_23_33, hf_23_33, ho_23_34, hf_23_34, hk_23_34, hw_23_34, ho_23_35, hf_23_35, hk_23_35, hw_23_35, ho_23_36, hf_23_36, hk_23_36, hw_23_36, ho_23_37, hf_23_37, ho_23_38, hf_23_38, ho_23_39, hf_23_39, hn_24, hi_24, hj_24, hg_24, hu_24, hn_25, hi_25, hj_25, hg_25, hu_25, hn_26, hi_26, hj_26, hg_26, hu_26, hn_27, hi_27, hg_27, hu_27, hn_28, hi_28, hg_28, hu_28, hn_29, hi_29, hj_29, hg_29, hu_29, hn_30, hi_30, hj_30, hg_30, hu_30, hn_31, hi_31, hj_31, hg_31, hu_31, hn_32, hi_32, hj_32, hg_32, hu_32, hn_33, hi_33, hj_33, hg_33, hu_33, hn_34, hi_34, hj_34, hg_34, hu_34, hn_35, hi_35, hj_35, hg_35, hu_35, hn_36, hi_36, hj_36, hg_36, hu_36, hn_37, hi_37, hg_37, hu_37, hn_38, hi_38, hj_38, hg_38, hu_38, hn_39, hi_39, hj_39, hg_39, hu_39, hn_40, hi_40, hj_40, hg_40, hu_40, hn_41, hi_41, hj_41, hg_41, hu_41, hn_42, hi_42, hg_42, hu_42, hn_43, hi_43, hg_43, hu_43, hn_44, hi_44, hj_44, hg_44, hu_44, hn_45, hi_45, hg_45, hu_45, hQ1, zo_f, show ¬ (RW T).length ≤ r by omega]
    | true =>
      have ec := R_cnt (n := n) (s := s) (c := c) (I := I) (J := J) (B := B) (R := R) (Q := Q) hS hW hG ho hQ d r hrl
      obtain ⟨J', g1, g2⟩ := R_spl hS hW hG ho hQ d e (r + 1) (jj J (cuT T (rwT T r)) (cdT T (rwT T r))) (decide (cdT T (rwT T r) = 1)) (by omega)
      have hcdb : cdT T (rwT T r) ≤ 60 * 1000100 := by
        have h1 := dn_le hW hG (rw_mem hW hrl).2
        have h2 : orT T * pdT T ≤ 60 * 1000100 := Nat.mul_le_mul ho (pd_le hW ho)
        have h3 : cdT T (rwT T r) ≤ (dnT T (rwT T r)).natAbs := Nat.div_le_self _ _
        omega
      refine ⟨J', fun q h1 h2 => by rw [g1 q h1 h2, jj_ne _ _ _ _ h1 h2], ?_⟩
      rw [zall_s, Bool.true_and, ← g2, x246_32]
      by_cases z : cdT T (rwT T r) = 1
      · simp (disch := first | omega | exact zb_1 | exact zb_0 | exact zb_n1 | exact zb_n0) only [x246_33, x246_34, x246_37, x246_40, x246_41, x246_44, x246_45, x246_46, x246_49, x246_50, x246_53, x246_54, x246_55, x246_58, x246_59, x246_63, x246_64, x246_67, mq_dl_int, mq_dl_ref, mq_dl_null, mq_dl_none, mc_some, Option.toList_some, Option.toList_none, List.cons_append, List.nil_append, zb_1, zb_0, ↓reduceIte, if_true, if_false, not_true_eq_false, not_false_eq_true, Bool.false_eq_true, z_10, z_01, eq_self, Bool.and_self, true_or, or_true, false_or, or_false, true_and, and_true, false_and, and_false, and_self, or_self, Nat.reduceLT, Nat.reduceEqDiff, Nat.reduceLeDiff, Nat.reduceAdd, Nat.reduceMul, Nat.reduceSub, zn_lit, zn_add, zn_mul, zn_sub, zn_addneg, zn_lt, zn_le, zn_eq, zn_clamp, zn_in, zn_long, zln_lit, zln_add, zln_mul, zln_lt, zln_le, zln_eq, zln_int, lc_eq, lc_gt, lc_lt, lc_le, lc_ge, hp_1, hp_21, upd_zu, updL_zu, updQ_zu, zu_eq, zu_ne, ho_23, ho_23_0, hf_23_0, hk_23_0, hw_23_0, ho_23_1, hf_23_1, ho_23_2, hf_23_2, hk_23_2, hw_23_2, ho_23_3, hf_23_3, hk_23_3, hw_23_3, ho_23_4, hf_23_4, ho_23_5, hf_23_5, ho_23_6, hf_23_6, ho_23_7, hf_23_7, hk_23_7, hw_23_7, ho_23_8, hf_23_8, hk_23_8, hw_23_8, ho_23_9, hf_23_9, ho_23_10, hf_23_10, ho_23_11, hf_23_11, hk_23_11, hw_23_11, ho_23_12, hf_23_12, hk_23_12, hw_23_12, ho_23_13, hf_23_13, ho_23_14, hf_23_14, ho_23_15, hf_23_15, ho_23_16, hf_23_16, hk_23_16, hw_23_16, ho_23_17, hf_23_17, ho_23_18, hf_23_18, ho_23_19, hf_23_19, hk_23_19, hw_23_19, ho_23_20, hf_23_20, ho_23_21, hf_23_21, hk_23_21, hw_23_21, ho_23_22, hf_23_22, hk_23_22, hw_23_22, ho_23_23, hf_23_23, hk_23_23, hw_23_23, ho_23_24, hf_23_24, hk_23_24, hw_23_24, ho_23_25, hf_23_25, ho_23_26, hf_23_26, ho_23_27, hf_23_27, hk_23_27, hw_23_27, ho_23_28, hf_23_28, ho_23_29, hf_23_29, ho_23_30, hf_23_30, hk_23_30, hw_23_30, ho_23_31, hf_23_31, hk_23_31, hw_23_31, ho_23_32, hf_23_32, ho_23_33, hf_23_33, ho_23_34, hf_23_34, hk_23_34, hw_23_34, ho_23_35, hf_23_35, hk_23_35, hw_23_35, ho_23_36, hf_23_36, hk_23_36, hw_23_36, ho_23_37, hf_23_37, ho_23_38, hf_23_38, ho_23_39, hf_23_39, hn_24, hi_24, hj_24, hg_24, hu_24, hn_25, hi_25, hj_25, hg_25, hu_25, hn_26, hi_26, hj_26, hg_26, hu_26, hn_27, hi_27, hg_27, hu_27, hn_28, hi_28, hg_28, hu_28, hn_29, hi_29, hj_29, hg_29, hu_29, hn_30, hi_30, hj_30, hg_30, hu_30, hn_31, hi_31, hj_31, hg_31, hu_31, hn_32, hi_32, hj_32, hg_32, hu_32, hn_33, hi_33, hj_33, hg_33, hu_33, hn_34, hi_34, hj_34, hg_34, hu_34, hn_35, hi_35, hj_35, hg_35, hu_35, hn_36, hi_36, hj_36, hg_36, hu_36, hn_37, hi_37, hg_37, hu_37, hn_38, hi_38, hj_38, hg_38, hu_38, hn_39, hi_39, hj_39, hg_39, hu_39, hn_40, hi_40, hj_40, hg_40, hu_40, hn_41, hi_41, hj_41, hg_41, hu_41, hn_42, hi_42, hg_42, hu_42, hn_43, hi_43, hg_43, hu_43, hn_44, hi_44, hj_44, hg_44, hu_44, hn_45, hi_45, hg_45, hu_45, hQ1, ec, jj_1, z, zo_t, decide_true, show ¬ (RW T).length ≤ r by omega]
      · simp (disch := first | omega | exact zb_1 | exact zb_0 | exact zb_n1 | exact zb_n0) only [x246_33, x246_34, x246_37, x246_40, x246_41, x246_44, x246_45, x246_46, x246_49, x246_50, x246_53, x246_54, x246_55, x246_62, x246_63, x246_64, x246_67, mq_dl_int, mq_dl_ref, mq_dl_null, mq_dl_none, mc_some, Option.toList_some, Option.toList_none, List.cons_append, List.nil_append, zb_1, zb_0, ↓reduceIte, if_true, if_false, not_true_eq_false, not_false_eq_true, Bool.false_eq_true, z_10, z_01, eq_self, Bool.and_self, true_or, or_true, false_or, or_false, true_and, and_true, false_and, and_false, and_self, or_self, Nat.reduceLT, Nat.reduceEqDiff, Nat.reduceLeDiff, Nat.reduceAdd, Nat.reduceMul, Nat.reduceSub, zn_lit, zn_add, zn_mul, zn_sub, zn_addneg, zn_lt, zn_le, zn_eq, zn_clamp, zn_in, zn_long, zln_lit, zln_add, zln_mul, zln_lt, zln_le, zln_eq, zln_int, lc_eq, lc_gt, lc_lt, lc_le, lc_ge, hp_1, hp_21, upd_zu, updL_zu, updQ_zu, zu_eq, zu_ne, ho_23, ho_23_0, hf_23_0, hk_23_0, hw_23_0, ho_23_1, hf_23_1, ho_23_2, hf_23_2, hk_23_2, hw_23_2, ho_23_3, hf_23_3, hk_23_3, hw_23_3, ho_23_4, hf_23_4, ho_23_5, hf_23_5, ho_23_6, hf_23_6, ho_23_7, hf_23_7, hk_23_7, hw_23_7, ho_23_8, hf_23_8, hk_23_8, hw_23_8, ho_23_9, hf_23_9, ho_23_10, hf_23_10, ho_23_11, hf_23_11, hk_23_11, hw_23_11, ho_23_12, hf_23_12, hk_23_12, hw_23_12, ho_23_13, hf_23_13, ho_23_14, hf_23_14, ho_23_15, hf_23_15, ho_23_16, hf_23_16, hk_23_16, hw_23_16, ho_23_17, hf_23_17, ho_23_18, hf_23_18, ho_23_19, hf_23_19, hk_23_19, hw_23_19, ho_23_20, hf_23_20, ho_23_21, hf_23_21, hk_23_21, hw_23_21, ho_23_22, hf_23_22, hk_23_22, hw_23_22, ho_23_23, hf_23_23, hk_23_23, hw_23_23, ho_23_24, hf_23_24, hk_23_24, hw_23_24, ho_23_25, hf_23_25, ho_23_26, hf_23_26, ho_23_27, hf_23_27, hk_23_27, hw_23_27, ho_23_28, hf_23_28, ho_23_29, hf_23_29, ho_23_30, hf_23_30, hk_23_30, hw_23_30, ho_23_31, hf_23_31, hk_23_31, hw_23_31, ho_23_32, hf_23_32, ho_23_33, hf_23_33, ho_23_34, hf_23_34, hk_23_34, hw_23_34, ho_23_35, hf_23_35, hk_23_35, hw_23_35, ho_23_36, hf_23_36, hk_23_36, hw_23_36, ho_23_37, hf_23_37, ho_23_38, hf_23_38, ho_23_39, hf_23_39, hn_24, hi_24, hj_24, hg_24, hu_24, hn_25, hi_25, hj_25, hg_25, hu_25, hn_26, hi_26, hj_26, hg_26, hu_26, hn_27, hi_27, hg_27, hu_27, hn_28, hi_28, hg_28, hu_28, hn_29, hi_29, hj_29, hg_29, hu_29, hn_30, hi_30, hj_30, hg_30, hu_30, hn_31, hi_31, hj_31, hg_31, hu_31, hn_32, hi_32, hj_32, hg_32, hu_32, hn_33, hi_33, hj_33, hg_33, hu_33, hn_34, hi_34, hj_34, hg_34, hu_34, hn_35, hi_35, hj_35, hg_35, hu_35, hn_36, hi_36, hj_36, hg_36, hu_36, hn_37, hi_37, hg_37, hu_37, hn_38, hi_38, hj_38, hg_38, hu_38, hn_39, hi_39, hj_39, hg_39, hu_39, hn_40, hi_40, hj_40, hg_40, hu_40, hn_41, hi_41, hj_41, hg_41, hu_41, hn_42, hi_42, hg_42, hu_42, hn_43, hi_43, hg_43, hu_43, hn_44, hi_44, hj_44, hg_44, hu_44, hn_45, hi_45, hg_45, hu_45, hQ1, ec, jj_1, z, zo_t, zo_f, decide_false, show ¬ (RW T).length ≤ r by omega]
end RDU
