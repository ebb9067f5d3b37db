/-! ROWS: the reference counts -/
def jj (J : Nat → Int64) (u : Int) (e : Nat) : Nat → Int64 := zu (zu J 1180 (zli u)) 1181 (zln e)
theorem jj_0 (J : Nat → Int64) (u : Int) (e : Nat) : jj J u e 1180 = zli u := by
  unfold jj
  rw [zu_ne _ _ _ _ (by omega), zu_eq]
theorem jj_1 (J : Nat → Int64) (u : Int) (e : Nat) : jj J u e 1181 = zln e := by
  unfold jj
  rw [zu_eq]
theorem jj_ne (J : Nat → Int64) (u : Int) (e q : Nat) (h1 : q ≠ 1180) (h2 : q ≠ 1181) : jj J u e q = J q := by
  unfold jj
  rw [zu_ne _ _ _ _ h2, zu_ne _ _ _ _ h1]
theorem jj_x (J J' : Nat → Int64) (u : Int) (e : Nat) (h : ∀ q, q ≠ 1180 → q ≠ 1181 → J' q = J q) : jj J' u e = jj J u e := by
  funext q
  by_cases z1 : q = 1181
  · subst z1; rw [jj_1, jj_1]
  · by_cases z2 : q = 1180
    · subst z2; rw [jj_0, jj_0]
    · rw [jj_ne _ _ _ _ z2 z1, jj_ne _ _ _ _ z2 z1, h q z2 z1]
theorem jj_jj (J : Nat → Int64) (u u' : Int) (e e' : Nat) : jj (jj J u e) u' e' = jj J u' e' := jj_x _ _ _ _ (fun q h1 h2 => jj_ne _ _ _ _ h1 h2)
theorem zpd_ge1 {T : ZT} (hW : WT T) (hG : gdT T = true) {k e : Nat} (h : k + e ≤ T.1) : 1 ≤ zpd (szT T) k e := zpd_pos e k (fun i _ hi => szT_pos hW hG (by omega))
section RCN
variable {n s : Nat} {c : Nat → mq_E} {I : Nat → Int32} {J : Nat → Int64} {A : Nat → Nat → Int32} {B : Nat → Nat → Int64} {R : Nat → Value} {Q : Nat → Nat → Option Nat}
variable {T : ZT}
theorem R_cnl (hS : RT T (A 29)) (hW : WT T) (hG : gdT T = true) (ho : orT T ≤ 60) {v : Int32} (hQ : RRQ T (RW T) v (A 38)) (d r : Nat) (hr : r < (RW T).length) : ∀ (e k : Nat) (J : Nat → Int64) (u N : Int) (ee P S : Nat), k + e = T.1 → J 1180 = zli u → J 1181 = zln ee → 0 < P → RF u ee N P → N.natAbs ≤ S * P → S + zns (szT T) k e ≤ 60 → P * zpd (szT T) k e = pdT T → N * (zpd (szT T) k e : Int) + zsum (fun i => rwT T r i * rwT T r (T.2.2 i) * (wtT T i : Int)) k e = dnT T (rwT T r) → ∃ u' e', RF u' e' (dnT T (rwT T r)) (pdT T) ∧ mz (d + 3) 244 12 [some (.ref 23), some (.int (zn r)), some (.int (zn k)), none] [] (hp n s c I J A B R Q) = mz (d + 3) 244 65 [some (.ref 23), some (.int (zn r)), some (.int (zn T.1)), none] [] (hp n s c I (jj J u' e') A B R Q)
  | 0, k, J, u, N, ee, P, S, hk, hu, he, hP, hF, hN, hS2, hp2, hs2 => by
    have h6 := hW.2.1
    have e : k = T.1 := by omega
    subst e
    simp only [zpd, zsum, Nat.mul_one, Int.add_zero] at hp2 hs2
    rw [show N * ((1 : Nat) : Int) = N by simp] at hs2
    refine ⟨u, ee, by rw [← hs2, ← hp2]; exact hF, ?_⟩
    have ej : jj J u ee = J := by
      funext q
      by_cases z1 : q = 1181
      · subst z1; rw [jj_1, he]
      · by_cases z2 : q = 1180
        · subst z2; rw [jj_0, hu]
        · rw [jj_ne _ _ _ _ z2 z1]
    rw [ej]
    simp (disch := first | omega | exact zb_1 | exact zb_0 | exact zb_n1 | exact zb_n0) only [x244_12, x244_13, x244_14, x244_17, mq_dl_int, mq_dl_ref, mq_dl_null, mq_dl_none, mc_some, Option.toList_some, Option.toList_none, List.cons_append, List.nil_append, zb_1, zb_0, ↓reduceIte, if_true, if_false, not_true_eq_false, not_false_eq_true, Bool.false_eq_true, z_10, z_01, eq_self, Bool.and_self, true_or, or_true, false_or, or_false, true_and, and_true, false_and, and_false, and_self, or_self, Nat.reduceLT, Nat.reduceEqDiff, Nat.reduceLeDiff, Nat.reduceAdd, Nat.reduceMul, Nat.reduceSub, zn_lit, zn_add, zn_mul, zn_sub, zn_addneg, zn_lt, zn_le, zn_eq, zn_clamp, zn_in, zn_long, ho_23, S_things hS, Nat.le_refl]
  | e + 1, k, J, u, N, ee, P, S, hk, hu, he, hP, hF, hN, hS2, hp2, hs2 => by
    have h6 := hW.2.1
    have hl := RW_len hW
    have hkm : k < T.1 := by omega
    have hkr := hW.2.2.2.1 k hkm
    have hz := szT_pos hW hG hkm
    have hpd := pd_le hW ho
    have hpd1 := pd_pos hW hG
    have q1 := RRQ_get hQ hr hkm
    have q2 := RRQ_get hQ hr hkr
    have c1 := (rw_mem hW hr).2 k hkm
    have c2 := (rw_mem hW hr).2 _ hkr
    rw [szT_rv hW hG hkm] at c2
    have b1 := rw_60 hW ho hr hkm
    have b2 := rw_60 hW ho hr hkr
    have hl1 : (zi (rwT T r k)).toInt64 = zli (rwT T r k) := zi_long _ (by omega) (by omega)
    have hl2 : (zi (rwT T r (T.2.2 k))).toInt64 = zli (rwT T r (T.2.2 k)) := zi_long _ (by omega) (by omega)
    have hX : (rwT T r k * rwT T r (T.2.2 k)).natAbs ≤ szT T k * szT T k := mul_ab (by omega) (by omega)
    have hz60 := szT_or (T := T) hkm
    unfold zns at hS2
    unfold zpd at hp2 hs2
    unfold zsum at hs2
    have hrest := zpd_ge1 hW hG (show (k + 1) + e ≤ T.1 by omega)
    have hPY : P * szT T k ≤ pdT T := by
      rw [← hp2, ← Nat.mul_assoc]
      exact Nat.le_mul_of_pos_right _ hrest
    have hwk : P * zpd (szT T) (k + 1) e = wtT T k := by
      apply Nat.eq_of_mul_eq_mul_right hz
      rw [wt_mul hkm, ← hp2]
      grind
    have hbnd : (S + szT T k) * (P * szT T k) ≤ 60 * 1000100 := Nat.mul_le_mul (by omega) (by omega)
    obtain ⟨u1, e1, a1, a2⟩ := R_add (n := n) (s := s) (c := c) (I := I) (A := A) (B := B) (R := R) (Q := Q) d (X := rwT T r k * rwT T r (T.2.2 k)) (Y := szT T k) (z := szT T k) hu he hP hz hF hN hX (by omega) (by omega)
    have a3 := (ad_b (X := rwT T r k * rwT T r (T.2.2 k)) (z := szT T k) hP hz hF hN hX).2.2
    obtain ⟨u', e', k1, k2⟩ := R_cnl hS hW hG ho hQ d r hr e (k + 1) (jj J u1 e1) u1 (N * (szT T k : Int) + rwT T r k * rwT T r (T.2.2 k) * (P : Int)) e1 (P * szT T k) (S + szT T k) (by omega) (jj_0 _ _ _) (jj_1 _ _ _) (Nat.mul_pos hP hz) a1 a3 (by omega) (by rw [← hp2, Nat.mul_assoc]) (by
      rw [← hs2, ← hwk, Int.natCast_mul, Int.natCast_mul]
      generalize zsum (fun i => rwT T r i * rwT T r (T.2.2 i) * (wtT T i : Int)) (k + 1) e = Z
      grind)
    refine ⟨u', e', k1, ?_⟩
    rw [jj_jj] at k2
    rw [← k2, x244_12]
    simp (disch := first | omega | exact zb_1 | exact zb_0 | exact zb_n1 | exact zb_n0) only [x244_13, x244_14, x244_17, x244_20, x244_21, x244_22, x244_25, x244_27, x244_28, x244_29, x244_30, x244_31, x244_32, x244_33, x244_34, x244_37, x244_39, x244_40, x244_41, x244_42, x244_43, x244_46, x244_47, x244_48, x244_49, x244_50, x244_51, x244_52, x244_55, x244_56, x244_59, x244_62, mq_dl_int, mq_dl_ref, mq_dl_null, mq_dl_none, mc_some, Option.toList_some, Option.toList_none, List.cons_append, List.nil_append, zb_1, zb_0, ↓reduceIte, if_true, if_false, not_true_eq_false, not_false_eq_true, Bool.false_eq_true, z_10, z_01, eq_self, Bool.and_self, true_or, or_true, false_or, or_false, true_and, and_true, false_and, and_false, and_self, or_self, Nat.reduceLT, Nat.reduceEqDiff, Nat.reduceLeDiff, Nat.reduceAdd, Nat.reduceMul, Nat.reduceSub, zn_lit, zn_add, zn_mul, zn_sub, zn_addneg, zn_lt, zn_le, zn_eq, zn_clamp, zn_in, zn_long, zli_mul, hp_1, hp_21, upd_zu, updL_zu, updQ_zu, zu_eq, zu_ne, ho_23, ho_23_0, hf_23_0, hk_23_0, hw_23_0, ho_23_1, hf_23_1, ho_23_2, hf_23_2, hk_23_2, hw_23_2, ho_23_3, hf_23_3, hk_23_3, hw_23_3, ho_23_4, hf_23_4, ho_23_5, hf_23_5, ho_23_6, hf_23_6, ho_23_7, hf_23_7, hk_23_7, hw_23_7, ho_23_8, hf_23_8, hk_23_8, hw_23_8, ho_23_9, hf_23_9, ho_23_10, hf_23_10, ho_23_11, hf_23_11, hk_23_11, hw_23_11, ho_23_12, hf_23_12, hk_23_12, hw_23_12, ho_23_13, hf_23_13, ho_23_14, hf_23_14, ho_23_15, hf_23_15, ho_23_16, hf_23_16, hk_23_16, hw_23_16, ho_23_17, hf_23_17, ho_23_18, hf_23_18, ho_23_19, hf_23_19, hk_23_19, hw_23_19, ho_23_20, hf_23_20, ho_23_21, hf_23_21, hk_23_21, hw_23_21, ho_23_22, hf_23_22, hk_23_22, hw_23_22, ho_23_23, hf_23_23, hk_23_23, hw_23_23, ho_23_24, hf_23_24, hk_23_24, hw_23_24, ho_23_25, hf_23_25, ho_23_26, hf_23_26, ho_23_27, hf_23_27, hk_23_27, hw_23_27, ho_23_28, hf_23_28, ho_23_29, hf_23_29, ho_23_30, hf_23_30, hk_23_30, hw_23_30, ho_23_31, hf_23_31, hk_23_31, hw_23_31, ho_23_32, hf_23_32, ho_23_33, hf_23_33, ho_23_34, hf_23_34, hk_23_34, hw_23_34, ho_23_35, hf_23_35, hk_23_35, hw_23_35, ho_23_36, hf_23_36, hk_23_36, hw_23_36, ho_23_37, hf_23_37, ho_23_38, hf_23_38, ho_23_39, hf_23_39, hn_24, hi_24, hj_24, hg_24, hu_24, hn_25, hi_25, hj_25, hg_25, hu_25, hn_26, hi_26, hj_26, hg_26, hu_26, hn_27, hi_27, hg_27, hu_27, hn_28, hi_28, hg_28, hu_28, hn_29, hi_29, hj_29, hg_29, hu_29, hn_30, hi_30, hj_30, hg_30, hu_30, hn_31, hi_31, hj_31, hg_31, hu_31, hn_32, hi_32, hj_32, hg_32, hu_32, hn_33, hi_33, hj_33, hg_33, hu_33, hn_34, hi_34, hj_34, hg_34, hu_34, hn_35, hi_35, hj_35, hg_35, hu_35, hn_36, hi_36, hj_36, hg_36, hu_36, hn_37, hi_37, hg_37, hu_37, hn_38, hi_38, hj_38, hg_38, hu_38, hn_39, hi_39, hj_39, hg_39, hu_39, hn_40, hi_40, hj_40, hg_40, hu_40, hn_41, hi_41, hj_41, hg_41, hu_41, hn_42, hi_42, hg_42, hu_42, hn_43, hi_43, hg_43, hu_43, hn_44, hi_44, hj_44, hg_44, hu_44, hn_45, hi_45, hg_45, hu_45, S_things hS, S_rev hS hW, S_size hS hW, q1, q2, hl1, hl2, a2, jj, show ¬ T.1 ≤ k by omega, show 6 * r + k < 12000 by omega, show 6 * r + T.2.2 k < 12000 by omega, decide_true]
theorem R_cnt (hS : RT T (A 29)) (hW : WT T) (hG : gdT T = true) (ho : orT T ≤ 60) {v : Int32} (hQ : RRQ T (RW T) v (A 38)) (d r : Nat) (hr : r < (RW T).length) : mz (d + 4) 244 0 [some (.ref 23), some (.int (zn r)), none, none] [] (hp n s c I J A B R Q) = some (some none, hp n s c I (jj J (cuT T (rwT T r)) (cdT T (rwT T r))) A B R Q) := by
  have h6 := hW.2.1
  have hx := (rw_mem hW hr).1
  have hD1 := dn_ge hW hG hx
  have hP := pd_pos hW hG
  have hP2 := pd_le hW ho
  have hD2 := dn_le hW hG (rw_mem hW hr).2
  have hop : orT T * pdT T ≤ 60 * 1000100 := Nat.mul_le_mul ho hP2
  obtain ⟨u, e, k1, k2⟩ := R_cnl (n := n) (s := s) (c := c) (I := I) (B := B) (R := R) (Q := Q) hS hW hG ho hQ (d + 1) r hr T.1 0 (jj J 0 1) 0 0 1 1 0 (by omega) (jj_0 _ _ _) (jj_1 _ _ _) (by omega) ⟨by simp, by decide, by omega⟩ (by simp) (by rw [Nat.zero_add]; exact ho) (Nat.one_mul _) (by rw [Int.zero_mul, Int.zero_add]; rfl)
  rw [jj_jj] at k2
  obtain ⟨b1, b2⟩ := RF_b hP k1
  have hu : 0 < u := by
    have h1 := k1.1
    have h3 : 0 < u * (pdT T : Int) := by
      rw [h1]
      exact Int.mul_pos (by have := k1.2.2; omega) (by omega)
    rcases Int.lt_or_le 0 u with q | q
    · exact q
    · exfalso
      have := Int.mul_nonpos_of_nonpos_of_nonneg q (show 0 ≤ (pdT T : Int) by omega)
      omega
  have hoe : orT T * e ≤ 60 * 1000100 := Nat.mul_le_mul ho (by omega)
  obtain ⟨U, E, m1, m2⟩ := R_low (n := n) (s := s) (c := c) (I := I) (J := jj J ((orT T * e : Nat) : Int) u.natAbs) (A := A) (B := B) (R := R) (Q := Q) (d + 2) ((orT T * e : Nat) : Int) u.natAbs (jj_0 _ _ _) (jj_1 _ _ _) (by omega) (by omega) (by omega)
  have hR : RF U E ((orT T * pdT T : Nat) : Int) (dnT T (rwT T r)).natAbs := by
    refine ⟨?_, m1.2.1, m1.2.2⟩
    have f1 := m1.1
    have f2 := k1.1
    rw [show ((u.natAbs : Nat) : Int) = u by omega] at f1
    rw [show (((dnT T (rwT T r)).natAbs : Nat) : Int) = dnT T (rwT T r) by omega]
    have he := k1.2.2
    rw [Int.natCast_mul] at f1 ⊢
    have : (U * dnT T (rwT T r)) * (e : Int) = ((E : Int) * ((orT T : Int) * (pdT T : Int))) * (e : Int) := by
      generalize dnT T (rwT T r) = D at *
      generalize (pdT T : Int) = p at *
      generalize (orT T : Int) = o at *
      grind
    exact Int.eq_of_mul_eq_mul_right (by omega) this
  obtain ⟨w1, w2⟩ := RF_u (by omega) hR (CF_RF hW hG hx)
  rw [show zu (zu (jj J ((orT T * e : Nat) : Int) u.natAbs) 1180 (zli U)) 1181 (zln E) = jj (jj J ((orT T * e : Nat) : Int) u.natAbs) U E from rfl, jj_jj, w1, w2] at m2
  have e0 : mz (d + 4) 244 0 [some (.ref 23), some (.int (zn r)), none, none] [] (hp n s c I J A B R Q) = mz (d + 4) 244 12 [some (.ref 23), some (.int (zn r)), some (.int (zn 0)), none] [] (hp n s c I (jj J 0 1) A B R Q) := by
    simp (disch := first | omega | exact zb_1 | exact zb_0 | exact zb_n1 | exact zb_n0) only [x244_0, x244_1, x244_2, x244_5, x244_6, x244_7, x244_10, x244_11, mq_dl_int, mq_dl_ref, mq_dl_null, mq_dl_none, mc_some, Option.toList_some, Option.toList_none, List.cons_append, List.nil_append, zb_1, zb_0, ↓reduceIte, if_true, if_false, not_true_eq_false, not_false_eq_true, Bool.false_eq_true, z_10, z_01, eq_self, Bool.and_self, true_or, or_true, false_or, or_false, true_and, and_true, false_and, and_false, and_self, or_self, Nat.reduceLT, Nat.reduceEqDiff, Nat.reduceLeDiff, Nat.reduceAdd, Nat.reduceMul, Nat.reduceSub, zn_lit, zn_add, zn_mul, zn_sub, zn_addneg, zn_lt, zn_le, zn_eq, zn_clamp, zn_in, zn_long, hp_1, hp_21, upd_zu, updL_zu, updQ_zu, zu_eq, zu_ne, ho_23, ho_23_0, hf_23_0, hk_23_0, hw_23_0, ho_23_1, hf_23_1, ho_23_2, hf_23_2, hk_23_2, hw_23_2, ho_23_3, hf_23_3, hk_23_3, hw_23_3, ho_23_4, hf_23_4, ho_23_5, hf_23_5, ho_23_6, hf_23_6, ho_23_7, hf_23_7, hk_23_7, hw_23_7, ho_23_8, hf_23_8, hk_23_8, hw_23_8, ho_23_9, hf_23_9, ho_23_10, hf_23_10, ho_23_11, hf_23_11, hk_23_11, hw_23_11, ho_23_12, hf_23_12, hk_23_12, hw_23_12, ho_23_13, hf_23_13, ho_23_14, hf_23_14, ho_23_15, hf_23_15, ho_23_16, hf_23_16, hk_23_16, hw_23_16, ho_23_17, hf_23_17, ho_23_18, hf_23_18, ho_23_19, hf_23_19, hk_23_19, hw_23_19, ho_23_20, hf_23_20, ho_23_21, hf_23_21, hk_23_21, hw_23_21, ho_23_22, hf_23_22, hk_23_22, hw_23_22, ho_23_23, hf_23_23, hk_23_23, hw_23_23, ho_23_24, hf_23_24, hk_23_24, hw_23_24, ho_23_25, hf_23_25, ho_23_26, hf_23_26, ho_23_27, hf_23_27, hk_23_27, hw_23_27, ho_23_28, hf_23_28, ho_23_29, hf_23_29, ho_23_30, hf_23_30, hk_23_30, hw_23_30, ho_23_31, hf_23_31, hk_23_31, hw_23_31, ho_23_32, hf_23_32, ho_23_33, hf_23_33, ho_23_34, hf_23_34, hk_23_34, hw_23_34, ho_23_35, hf_23_35, hk_23_35, hw_23_35, ho_23_36, hf_23_36, hk_23_36, hw_23_36, ho_23_37, hf_23_37, ho_23_38, hf_23_38, ho_23_39, hf_23_39, hn_24, hi_24, hj_24, hg_24, hu_24, hn_25, hi_25, hj_25, hg_25, hu_25, hn_26, hi_26, hj_26, hg_26, hu_26, hn_27, hi_27, hg_27, hu_27, hn_28, hi_28, hg_28, hu_28, hn_29, hi_29, hj_29, hg_29, hu_29, hn_30, hi_30, hj_30, hg_30, hu_30, hn_31, hi_31, hj_31, hg_31, hu_31, hn_32, hi_32, hj_32, hg_32, hu_32, hn_33, hi_33, hj_33, hg_33, hu_33, hn_34, hi_34, hj_34, hg_34, hu_34, hn_35, hi_35, hj_35, hg_35, hu_35, hn_36, hi_36, hj_36, hg_36, hu_36, hn_37, hi_37, hg_37, hu_37, hn_38, hi_38, hj_38, hg_38, hu_38, hn_39, hi_39, hj_39, hg_39, hu_39, hn_40, hi_40, hj_40, hg_40, hu_40, hn_41, hi_41, hj_41, hg_41, hu_41, hn_42, hi_42, hg_42, hu_42, hn_43, hi_43, hg_43, hu_43, hn_44, hi_44, hj_44, hg_44, hu_44, hn_45, hi_45, hg_45, hu_45, jj, show zli 0 = zln 0 from (zli_nat 0).symm, zln_lit]
  have ej1 : zu (jj J u e) 1180 (zln (orT T * e)) = jj J ((orT T * e : Nat) : Int) e := by
    rw [zli_nat]
    funext q
    by_cases z2 : q = 1180
    · subst z2; rw [zu_eq, jj_0]
    · rw [zu_ne _ _ _ _ z2]
      by_cases z1 : q = 1181
      · subst z1; rw [jj_1, jj_1]
      · rw [jj_ne _ _ _ _ z2 z1, jj_ne _ _ _ _ z2 z1]
  have ej2 : zu (jj J ((orT T * e : Nat) : Int) e) 1181 (zli u) = jj J ((orT T * e : Nat) : Int) u.natAbs := by
    funext q
    by_cases z1 : q = 1181
    · subst z1; rw [zu_eq, jj_1, zli_nat]; congr 1; omega
    · rw [zu_ne _ _ _ _ z1]
      by_cases z2 : q = 1180
      · subst z2; rw [jj_0, jj_0]
      · rw [jj_ne _ _ _ _ z2 z1, jj_ne _ _ _ _ z2 z1]
  rw [e0, k2]
  simp (disch := first | omega | exact zb_1 | exact zb_0 | exact zb_n1 | exact zb_n0) only [x244_65, x244_66, x244_69, x244_70, x244_71, x244_72, x244_75, x244_76, x244_79, x244_80, x244_83, x244_84, x244_85, x244_88, x244_89, x244_92, mq_dl_int, mq_dl_ref, mq_dl_null, mq_dl_none, mc_some, Option.toList_some, Option.toList_none, List.cons_append, List.nil_append, zb_1, zb_0, ↓reduceIte, if_true, if_false, not_true_eq_false, not_false_eq_true, Bool.false_eq_true, z_10, z_01, eq_self, Bool.and_self, true_or, or_true, false_or, or_false, true_and, and_true, false_and, and_false, and_self, or_self, Nat.reduceLT, Nat.reduceEqDiff, Nat.reduceLeDiff, Nat.reduceAdd, Nat.reduceMul, Nat.reduceSub, zn_lit, zn_add, zn_mul, zn_sub, zn_addneg, zn_lt, zn_le, zn_eq, zn_clamp, zn_in, zn_long, zln_mul, hp_1, hp_21, upd_zu, updL_zu, updQ_zu, zu_eq, zu_ne, ho_23, ho_23_0, hf_23_0, hk_23_0, hw_23_0, ho_23_1, hf_23_1, ho_23_2, hf_23_2, hk_23_2, hw_23_2, ho_23_3, hf_23_3, hk_23_3, hw_23_3, ho_23_4, hf_23_4, ho_23_5, hf_23_5, ho_23_6, hf_23_6, ho_23_7, hf_23_7, hk_23_7, hw_23_7, ho_23_8, hf_23_8, hk_23_8, hw_23_8, ho_23_9, hf_23_9, ho_23_10, hf_23_10, ho_23_11, hf_23_11, hk_23_11, hw_23_11, ho_23_12, hf_23_12, hk_23_12, hw_23_12, ho_23_13, hf_23_13, ho_23_14, hf_23_14, ho_23_15, hf_23_15, ho_23_16, hf_23_16, hk_23_16, hw_23_16, ho_23_17, hf_23_17, ho_23_18, hf_23_18, ho_23_19, hf_23_19, hk_23_19, hw_23_19, ho_23_20, hf_23_20, ho_23_21, hf_23_21, hk_23_21, hw_23_21, ho_23_22, hf_23_22, hk_23_22, hw_23_22, ho_23_23, hf_23_23, hk_23_23, hw_23_23, ho_23_24, hf_23_24, hk_23_24, hw_23_24, ho_23_25, hf_23_25, ho_23_26, hf_23_26, ho_23_27, hf_23_27, hk_23_27, hw_23_27, ho_23_28, hf_23_28, ho_23_29, hf_23_29, ho_23_30, hf_23_30, hk_23_30, hw_23_30, ho_23_31, hf_23_31, hk_23_31, hw_23_31, ho_23_32, hf_23_32, ho_23_33, hf_23_33, ho_23_34, hf_23_34, hk_23_34, hw_23_34, ho_23_35, hf_23_35, hk_23_35, hw_23_35, ho_23_36, hf_23_36, hk_23_36, hw_23_36, ho_23_37, hf_23_37, ho_23_38, hf_23_38, ho_23_39, hf_23_39, hn_24, hi_24, hj_24, hg_24, hu_24, hn_25, hi_25, hj_25, hg_25, hu_25, hn_26, hi_26, hj_26, hg_26, hu_26, hn_27, hi_27, hg_27, hu_27, hn_28, hi_28, hg_28, hu_28, hn_29, hi_29, hj_29, hg_29, hu_29, hn_30, hi_30, hj_30, hg_30, hu_30, hn_31, hi_31, hj_31, hg_31, hu_31, hn_32, hi_32, hj_32, hg_32, hu_32, hn_33, hi_33, hj_33, hg_33, hu_33, hn_34, hi_34, hj_34, hg_34, hu_34, hn_35, hi_35, hj_35, hg_35, hu_35, hn_36, hi_36, hj_36, hg_36, hu_36, hn_37, hi_37, hg_37, hu_37, hn_38, hi_38, hj_38, hg_38, hu_38, hn_39, hi_39, hj_39, hg_39, hu_39, hn_40, hi_40, hj_40, hg_40, hu_40, hn_41, hi_41, hj_41, hg_41, hu_41, hn_42, hi_42, hg_42, hu_42, hn_43, hi_43, hg_43, hu_43, hn_44, hi_44, hj_44, hg_44, hu_44, hn_45, hi_45, hg_45, hu_45, jj_0, jj_1, S_order hS hW, ej1, ej2, m2]
end RCN
