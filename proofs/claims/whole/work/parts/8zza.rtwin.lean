/-! TWIN: the reference -/
def tw1 (T : ZT) (w : Nat → Nat) (p q k : Nat) : Bool := decide (dpT T (w p) (w q) (w k) = (T.2.1 p q k : Int) * (ddT T : Int))
def tw2 (T : ZT) (w : Nat → Nat) (p q : Nat) : Bool := zall (fun k => tw1 T w p q k) 0 T.1
def tw3 (T : ZT) (w : Nat → Nat) (p : Nat) : Bool := zall (fun q => tw2 T w p q) 0 T.1
def tw4 (T : ZT) (w : Nat → Nat) : Bool := zall (fun p => tw3 T w p) 0 T.1
theorem tw4_iff {T : ZT} {w : Nat → Nat} : tw4 T w = true ↔ ∀ p q k, p < T.1 → q < T.1 → k < T.1 → dpT T (w p) (w q) (w k) = (T.2.1 p q k : Int) * (ddT T : Int) := by
  unfold tw4 tw3 tw2 tw1
  rw [zall_iff]
  constructor
  · intro h p q k h1 h2 h3
    have g1 := h p (by omega) (by omega)
    rw [zall_iff] at g1
    have g2 := g1 q (by omega) (by omega)
    rw [zall_iff] at g2
    exact of_decide_eq_true (g2 k (by omega) (by omega))
  · intro h p h1 h2
    rw [zall_iff]
    intro q h3 h4
    rw [zall_iff]
    intro k h5 h6
    exact decide_eq_true (h p q k (by omega) (by omega) (by omega))
theorem dg_eq {T : ZT} (hd : 0 < ddT T) (p q k S : Nat) : (ddT T / dgT T p q k = 1 ∧ (dpT T p q k).tdiv (dgT T p q k : Nat) = (S : Int)) ↔ dpT T p q k = (S : Int) * (ddT T : Int) := by
  have h := (RF_red (dpT T p q k) (ddT T) hd).1
  constructor
  · rintro ⟨h1, h2⟩
    have h3 := h.1
    unfold dgT at h1 h2
    rw [h1, h2] at h3
    rw [h3]
    simp
  · intro h1
    have h2 : RF (S : Int) 1 (dpT T p q k) (ddT T) := ⟨by rw [h1]; simp, by simp, by omega⟩
    obtain ⟨g1, g2⟩ := RF_u hd h h2
    exact ⟨g2, g1⟩
theorem iso_iff {T : ZT} (hW : WT T) (hG : gdT T = true) {r : Nat} (hr : r < (RW T).length) : zall (fun k => decide (rwT T r k = (szT T k : Int))) 0 T.1 = true ↔ r = (RW T).length - 1 := by
  obtain ⟨h1, h2⟩ := RW_last hW hG
  rw [zall_iff]
  constructor
  · intro h
    rcases Nat.lt_or_ge r ((RW T).length - 1) with q | q
    · exfalso
      obtain ⟨j, g1, g2⟩ := RW_ne hW q (by omega)
      apply g2
      rw [h2 j g1]
      exact of_decide_eq_true (h j (by omega) (by omega))
    · omega
  · intro h k h3 h4
    rw [h]
    exact decide_eq_true (h2 k (by omega))
/-- the things from t on can be matched, those before as in w: as the reference asks it -/
def EXM (T : ZT) (t : Nat) (w : Nat → Nat) : Prop := ∃ w' : Nat → Nat, (∀ p, p < t → w' p = w p) ∧ w' 0 = (RW T).length - 1 ∧ (∀ p, p < T.1 → w' p < (RW T).length) ∧ (∀ p q, p < T.1 → q < T.1 → w' p = w' q → p = q) ∧ ∀ p q k, p < T.1 → q < T.1 → k < T.1 → dpT T (w' p) (w' q) (w' k) = (T.2.1 p q k : Int) * (ddT T : Int)
theorem EXM_0 {T : ZT} {w : Nat → Nat} : EXM T 0 w ↔ TW T := by
  constructor
  · rintro ⟨w', h1, h2⟩
    exact ⟨w', h2⟩
  · rintro ⟨w', h2⟩
    exact ⟨w', fun p hp' => by omega, h2⟩
theorem EXM_s {T : ZT} {t : Nat} {w : Nat → Nat} (ht : t < T.1) : EXM T t w ↔ ∃ r, r < (RW T).length ∧ (∀ p, p < t → w p ≠ r) ∧ (t = 0 → r = (RW T).length - 1) ∧ EXM T (t + 1) (zu w t r) := by
  constructor
  · rintro ⟨w', h1, h2, h3, h4, h5⟩
    refine ⟨w' t, h3 t ht, fun p hp' e => ?_, fun e => by rw [e]; exact h2, w', fun p hp' => ?_, h2, h3, h4, h5⟩
    · have := h4 p t (by omega) ht (by rw [h1 p hp']; exact e)
      omega
    · by_cases q : p = t
      · subst q; rw [zu_eq]
      · rw [zu_ne _ _ _ _ q, h1 p (by omega)]
  · rintro ⟨r, h1, h2, h3, w', g1, g2⟩
    exact ⟨w', fun p hp' => by rw [g1 p (by omega), zu_ne _ _ _ _ (by omega)], g2⟩
section RTW
variable {n s : Nat} {c : Nat → mq_E} {I : Nat → Int32} {J : Nat → Int64} {A : Nat → Nat → Int32} {B : Nat → Nat → Int64} {R : Nat → Value} {Q : Nat → Nat → Option Nat}
variable {T : ZT} {w : Nat → Nat}
theorem R_tk (hS : RT T (A 29)) (hW : WT T) (hG : gdT T = true) (ho : orT T ≤ 60) (hs : spT T = true) {v : Int32} (hQ : RRQ T (RW T) v (A 38)) (hw : ∀ y, y < T.1 → A 40 y = zn (w y) ∧ w y < (RW T).length) (d p q : Nat) (hpp : p < T.1) (hq : q < T.1) : ∀ (e k : Nat) (J : Nat → Int64) (u : Bool), k + e = T.1 → ∃ J' kk, (∀ q, q ≠ 1180 → q ≠ 1181 → J' q = J q) ∧ mz (d + 6) 249 25 [some (.ref 23), some (.int (zo u)), some (.int (zn p)), some (.int (zn q)), some (.int (zn k))] [] (hp n s c I J A B R Q) = mz (d + 6) 249 99 [some (.ref 23), some (.int (zo (u && zall (fun k => tw1 T w p q k) k e))), some (.int (zn p)), some (.int (zn q)), some (.int kk)] [] (hp n s c I J' A B R Q)
  | 0, k, J, u, hk => by
    have h6 := hW.2.1
    have e : k = T.1 := by omega
    subst e
    refine ⟨J, zn T.1, fun _ _ _ => rfl, ?_⟩
    simp (disch := first | omega | exact zb_1 | exact zb_0 | exact zb_n1 | exact zb_n0) only [x249_25, x249_27, x249_28, x249_31, mq_dl_int, mq_dl_ref, mq_dl_null, mq_dl_none, mc_some, Option.toList_some, Option.toList_none, List.cons_append, List.nil_append, zb_1, zb_0, ↓reduceIte, if_true, if_false, not_true_eq_false, not_false_eq_true, Bool.false_eq_true, z_10, z_01, eq_self, Bool.and_self, true_or, or_true, false_or, or_false, true_and, and_true, false_and, and_false, and_self, or_self, Nat.reduceLT, Nat.reduceEqDiff, Nat.reduceLeDiff, Nat.reduceAdd, Nat.reduceMul, Nat.reduceSub, zn_lit, zn_add, zn_mul, zn_sub, zn_addneg, zn_lt, zn_le, zn_eq, zn_clamp, zn_in, zn_long, ho_23, S_things hS, Nat.le_refl, zall, Bool.and_true]
  | e + 1, k, J, u, hk => by
    have h6 := hW.2.1
    have hkm : k < T.1 := by omega
    cases u with
    | false =>
      refine ⟨J, zn k, fun _ _ _ => rfl, ?_⟩
      rw [Bool.false_and, x249_25]
      simp (disch := first | omega | exact zb_1 | exact zb_0 | exact zb_n1 | exact zb_n0) only [x249_27, x249_28, x249_31, x249_34, x249_35, mq_dl_int, mq_dl_ref, mq_dl_null, mq_dl_none, mc_some, Option.toList_some, Option.toList_none, List.cons_append, List.nil_append, zb_1, zb_0, ↓reduceIte, if_true, if_false, not_true_eq_false, not_false_eq_true, Bool.false_eq_true, z_10, z_01, eq_self, Bool.and_self, true_or, or_true, false_or, or_false, true_and, and_true, false_and, and_false, and_self, or_self, Nat.reduceLT, Nat.reduceEqDiff, Nat.reduceLeDiff, Nat.reduceAdd, Nat.reduceMul, Nat.reduceSub, zn_lit, zn_add, zn_mul, zn_sub, zn_addneg, zn_lt, zn_le, zn_eq, zn_clamp, zn_in, zn_long, ho_23, S_things hS, zo_f, show ¬ T.1 ≤ k by omega]
    | true =>
      obtain ⟨p1, p2⟩ := hw p hpp
      obtain ⟨q1, q2⟩ := hw q hq
      obtain ⟨k1, k2⟩ := hw k hkm
      have hd0 := dd_pos hW hG
      have hd1 := dd_le hW ho
      have b1 := dp_le hW hG ho hs p2 q2 k2
      have b3 := sh_60 hW hG ho hpp hq hkm
      have hg0 : 0 < dgT T (w p) (w q) (w k) := Nat.gcd_pos_of_pos_right _ hd0
      have b4 : ((dpT T (w p) (w q) (w k)).tdiv (dgT T (w p) (w q) (w k) : Nat)).natAbs ≤ (dpT T (w p) (w q) (w k)).natAbs := by
        rw [Int.natAbs_tdiv]
        exact Nat.div_le_self _ _
      have b5 : ddT T / dgT T (w p) (w q) (w k) ≤ ddT T := Nat.div_le_self _ _
      have ed := R_dn (n := n) (s := s) (c := c) (I := I) (J := J) (B := B) (R := R) (Q := Q) hS hW hG ho hs hQ d (w p) (w q) (w k) p2 q2 k2
      have hdg := dg_eq hd0 (w p) (w q) (w k) (T.2.1 p q k)
      obtain ⟨J', kk, g1, g2⟩ := R_tk hS hW hG ho hs hQ hw d p q hpp hq e (k + 1) (jj J ((dpT T (w p) (w q) (w k)).tdiv (dgT T (w p) (w q) (w k) : Nat)) (ddT T / dgT T (w p) (w q) (w k))) (tw1 T w p q k) (by omega)
      refine ⟨J', kk, fun q h1 h2 => by rw [g1 q h1 h2, jj_ne _ _ _ _ h1 h2], ?_⟩
      rw [zall_s, Bool.true_and, ← g2, x249_25]
      have hc1 : (zln (ddT T / dgT T (w p) (w q) (w k)) = zln 1) = (ddT T / dgT T (w p) (w q) (w k) = 1) := zln_eq _ _ (by omega) (by omega)
      have hc2 : (zli ((dpT T (w p) (w q) (w k)).tdiv (dgT T (w p) (w q) (w k) : Nat)) = zln (T.2.1 p q k)) = ((dpT T (w p) (w q) (w k)).tdiv (dgT T (w p) (w q) (w k) : Nat) = (T.2.1 p q k : Int)) := by
        rw [zli_nat, zli_eq _ _ (by omega) (by omega) (by omega) (by omega)]
      by_cases z1 : ddT T / dgT T (w p) (w q) (w k) = 1
      · have hc1' := hc1.trans (eq_true z1)
        by_cases z2 : (dpT T (w p) (w q) (w k)).tdiv (dgT T (w p) (w q) (w k) : Nat) = (T.2.1 p q k : Int)
        · have hc2' := hc2.trans (eq_true z2)
          have ht : tw1 T w p q k = true := decide_eq_true (hdg.mp ⟨z1, z2⟩)
          rw [ht]
          simp (disch := first | omega | exact zb_1 | exact zb_0 | exact zb_n1 | exact zb_n0) only [x249_27, x249_28, x249_31, x249_34, x249_35, x249_38, x249_39, x249_40, x249_43, x249_44, x249_45, x249_46, x249_49, x249_50, x249_51, x249_52, x249_55, x249_57, x249_58, x249_61, x249_62, x249_65, x249_66, x249_67, x249_70, x249_71, x249_74, x249_75, x249_76, x249_77, x249_79, x249_82, x249_83, x249_84, x249_87, x249_88, x249_92, x249_93, x249_96, mq_dl_int, mq_dl_ref, mq_dl_null, mq_dl_none, mc_some, Option.toList_some, Option.toList_none, List.cons_append, List.nil_append, zb_1, zb_0, ↓reduceIte, if_true, if_false, not_true_eq_false, not_false_eq_true, Bool.false_eq_true, z_10, z_01, eq_self, Bool.and_self, true_or, or_true, false_or, or_false, true_and, and_true, false_and, and_false, and_self, or_self, Nat.reduceLT, Nat.reduceEqDiff, Nat.reduceLeDiff, Nat.reduceAdd, Nat.reduceMul, Nat.reduceSub, zn_lit, zn_add, zn_mul, zn_sub, zn_addneg, zn_lt, zn_le, zn_eq, zn_clamp, zn_in, zn_long, zln_lit, lc_eq, lc_gt, lc_lt, lc_le, lc_ge, hp_1, hp_21, upd_zu, updL_zu, updQ_zu, zu_eq, zu_ne, ho_23, ho_23_0, hf_23_0, hk_23_0, hw_23_0, ho_23_1, hf_23_1, ho_23_2, hf_23_2, hk_23_2, hw_23_2, ho_23_3, hf_23_3, hk_23_3, hw_23_3, ho_23_4, hf_23_4, ho_23_5, hf_23_5, ho_23_6, hf_23_6, ho_23_7, hf_23_7, hk_23_7, hw_23_7, ho_23_8, hf_23_8, hk_23_8, hw_23_8, ho_23_9, hf_23_9, ho_23_10, hf_23_10, ho_23_11, hf_23_11, hk_23_11, hw_23_11, ho_23_12, hf_23_12, hk_23_12, hw_23_12, ho_23_13, hf_23_13, ho_23_14, hf_23_14, ho_23_15, hf_23_15, ho_23_16, hf_23_16, hk_23_16, hw_23_16, ho_23_17, hf_23_17, ho_23_18, hf_23_18, ho_23_19, hf_23_19, hk_23_19, hw_23_19, ho_23_20, hf_23_20, ho_23_21, hf_23_21, hk_23_21, hw_23_21, ho_23_22, hf_23_22, hk_23_22, hw_23_22, ho_23_23, hf_23_23, hk_23_23, hw_23_23, ho_23_24, hf_23_24, hk_23_24, hw_23_24, ho_23_25, hf_23_25, ho_23_26, hf_23_26, ho_23_27, hf_23_27, hk_23_27, hw_23_27, ho_23_28, hf_23_28, ho_23_29, hf_23_29, ho_23_30, hf_23_30, hk_23_30, hw_23_30, ho_23_31, hf_23_31, hk_23_31, hw_23_31, ho_23_32, hf_23_32, ho_23_33, hf_23_33, ho_23_34, hf_23_34, hk_23_34, hw_23_34, ho_23_35, hf_23_35, hk_23_35, hw_23_35, ho_23_36, hf_23_36, hk_23_36, hw_23_36, ho_23_37, hf_23_37, ho_23_38, hf_23_38, ho_23_39, hf_23_39, hn_24, hi_24, hj_24, hg_24, hu_24, hn_25, hi_25, hj_25, hg_25, hu_25, hn_26, hi_26, hj_26, hg_26, hu_26, hn_27, hi_27, hg_27, hu_27, hn_28, hi_28, hg_28, hu_28, hn_29, hi_29, hj_29, hg_29, hu_29, hn_30, hi_30, hj_30, hg_30, hu_30, hn_31, hi_31, hj_31, hg_31, hu_31, hn_32, hi_32, hj_32, hg_32, hu_32, hn_33, hi_33, hj_33, hg_33, hu_33, hn_34, hi_34, hj_34, hg_34, hu_34, hn_35, hi_35, hj_35, hg_35, hu_35, hn_36, hi_36, hj_36, hg_36, hu_36, hn_37, hi_37, hg_37, hu_37, hn_38, hi_38, hj_38, hg_38, hu_38, hn_39, hi_39, hj_39, hg_39, hu_39, hn_40, hi_40, hj_40, hg_40, hu_40, hn_41, hi_41, hj_41, hg_41, hu_41, hn_42, hi_42, hg_42, hu_42, hn_43, hi_43, hg_43, hu_43, hn_44, hi_44, hj_44, hg_44, hu_44, hn_45, hi_45, hg_45, hu_45, S_things hS, S_share hS hW, p1, q1, k1, ed, jj_0, jj_1, hc1', hc2', zo_t, show ¬ T.1 ≤ k by omega, show p < 6 by omega, show q < 6 by omega, show k < 6 by omega, decide_true]
        · have hc2' := hc2.trans (eq_false z2)
          have ht : tw1 T w p q k = false := decide_eq_false (fun h => z2 (hdg.mpr h).2)
          rw [ht]
          simp (disch := first | omega | exact zb_1 | exact zb_0 | exact zb_n1 | exact zb_n0) only [x249_27, x249_28, x249_31, x249_34, x249_35, x249_38, x249_39, x249_40, x249_43, x249_44, x249_45, x249_46, x249_49, x249_50, x249_51, x249_52, x249_55, x249_57, x249_58, x249_61, x249_62, x249_65, x249_66, x249_67, x249_70, x249_71, x249_74, x249_75, x249_76, x249_77, x249_79, x249_82, x249_83, x249_84, x249_91, x249_92, x249_93, x249_96, mq_dl_int, mq_dl_ref, mq_dl_null, mq_dl_none, mc_some, Option.toList_some, Option.toList_none, List.cons_append, List.nil_append, zb_1, zb_0, ↓reduceIte, if_true, if_false, not_true_eq_false, not_false_eq_true, Bool.false_eq_true, z_10, z_01, eq_self, Bool.and_self, true_or, or_true, false_or, or_false, true_and, and_true, false_and, and_false, and_self, or_self, Nat.reduceLT, Nat.reduceEqDiff, Nat.reduceLeDiff, Nat.reduceAdd, Nat.reduceMul, Nat.reduceSub, zn_lit, zn_add, zn_mul, zn_sub, zn_addneg, zn_lt, zn_le, zn_eq, zn_clamp, zn_in, zn_long, zln_lit, lc_eq, lc_gt, lc_lt, lc_le, lc_ge, hp_1, hp_21, upd_zu, updL_zu, updQ_zu, zu_eq, zu_ne, ho_23, ho_23_0, hf_23_0, hk_23_0, hw_23_0, ho_23_1, hf_23_1, ho_23_2, hf_23_2, hk_23_2, hw_23_2, ho_23_3, hf_23_3, hk_23_3, hw_23_3, ho_23_4, hf_23_4, ho_23_5, hf_23_5, ho_23_6, hf_23_6, ho_23_7, hf_23_7, hk_23_7, hw_23_7, ho_23_8, hf_23_8, hk_23_8, hw_23_8, ho_23_9, hf_23_9, ho_23_10, hf_23_10, ho_23_11, hf_23_11, hk_23_11, hw_23_11, ho_23_12, hf_23_12, hk_23_12, hw_23_12, ho_23_13, hf_23_13, ho_23_14, hf_23_14, ho_23_15, hf_23_15, ho_23_16, hf_23_16, hk_23_16, hw_23_16, ho_23_17, hf_23_17, ho_23_18, hf_23_18, ho_23_19, hf_23_19, hk_23_19, hw_23_19, ho_23_20, hf_23_20, ho_23_21, hf_23_21, hk_23_21, hw_23_21, ho_23_22, hf_23_22, hk_23_22, hw_23_22, ho_23_23, hf_23_23, hk_23_23, hw_23_23, ho_23_24, hf_23_24, hk_23_24, hw_23_24, ho_23_25, hf_23_25, ho_23_26, hf_23_26, ho_23_27, hf_23_27, hk_23_27, hw_23_27, ho_23_28, hf_23_28, ho_23_29, hf_23_29, ho_23_30, hf_23_30, hk_23_30, hw_23_30, ho_23_31, hf_23_31, hk_23_31, hw_23_31, ho_23_32, hf_23_32, ho_23_33, hf_23_33, ho_23_34, hf_23_34, hk_23_34, hw_23_34, ho_23_35, hf_23_35, hk_23_35, hw_23_35, ho_23_36, hf_23_36, hk_23_36, hw_23_36, ho_23_37, hf_23_37, ho_23_38, hf_23_38, ho_23_39, hf_23_39, hn_24, hi_24, hj_24, hg_24, hu_24, hn_25, hi_25, hj_25, hg_25, hu_25, hn_26, hi_26, hj_26, hg_26, hu_26, hn_27, hi_27, hg_27, hu_27, hn_28, hi_28, hg_28, hu_28, hn_29, hi_29, hj_29, hg_29, hu_29, hn_30, hi_30, hj_30, hg_30, hu_30, hn_31, hi_31, hj_31, hg_31, hu_31, hn_32, hi_32, hj_32, hg_32, hu_32, hn_33, hi_33, hj_33, hg_33, hu_33, hn_34, hi_34, hj_34, hg_34, hu_34, hn_35, hi_35, hj_35, hg_35, hu_35, hn_36, hi_36, hj_36, hg_36, hu_36, hn_37, hi_37, hg_37, hu_37, hn_38, hi_38, hj_38, hg_38, hu_38, hn_39, hi_39, hj_39, hg_39, hu_39, hn_40, hi_40, hj_40, hg_40, hu_40, hn_41, hi_41, hj_41, hg_41, hu_41, hn_42, hi_42, hg_42, hu_42, hn_43, hi_43, hg_43, hu_43, hn_44, hi_44, hj_44, hg_44, hu_44, hn_45, hi_45, hg_45, hu_45, S_things hS, S_share hS hW, p1, q1, k1, ed, jj_0, jj_1, hc1', hc2', zo_t, zo_f, show ¬ T.1 ≤ k by omega, show p < 6 by omega, show q < 6 by omega, show k < 6 by omega, decide_true]
      · have hc1' := hc1.trans (eq_false z1)
        have ht : tw1 T w p q k = false := decide_eq_false (fun h => z1 (hdg.mpr h).1)
        rw [ht]
        simp (disch := first | omega | exact zb_1 | exact zb_0 | exact zb_n1 | exact zb_n0) only [x249_27, x249_28, x249_31, x249_34, x249_35, x249_38, x249_39, x249_40, x249_43, x249_44, x249_45, x249_46, x249_49, x249_50, x249_51, x249_52, x249_55, x249_57, x249_58, x249_61, x249_62, x249_65, x249_66, x249_67, x249_91, x249_92, x249_93, x249_96, mq_dl_int, mq_dl_ref, mq_dl_null, mq_dl_none, mc_some, Option.toList_some, Option.toList_none, List.cons_append, List.nil_append, zb_1, zb_0, ↓reduceIte, if_true, if_false, not_true_eq_false, not_false_eq_true, Bool.false_eq_true, z_10, z_01, eq_self, Bool.and_self, true_or, or_true, false_or, or_false, true_and, and_true, false_and, and_false, and_self, or_self, Nat.reduceLT, Nat.reduceEqDiff, Nat.reduceLeDiff, Nat.reduceAdd, Nat.reduceMul, Nat.reduceSub, zn_lit, zn_add, zn_mul, zn_sub, zn_addneg, zn_lt, zn_le, zn_eq, zn_clamp, zn_in, zn_long, zln_lit, lc_eq, lc_gt, lc_lt, lc_le, lc_ge, hp_1, hp_21, upd_zu, updL_zu, updQ_zu, zu_eq, zu_ne, ho_23, ho_23_0, hf_23_0, hk_23_0, hw_23_0, ho_23_1, hf_23_1, ho_23_2, hf_23_2, hk_23_2, hw_23_2, ho_23_3, hf_23_3, hk_23_3, hw_23_3, ho_23_4, hf_23_4, ho_23_5, hf_23_5, ho_23_6, hf_23_6, ho_23_7, hf_23_7, hk_23_7, hw_23_7, ho_23_8, hf_23_8, hk_23_8, hw_23_8, ho_23_9, hf_23_9, ho_23_10, hf_23_10, ho_23_11, hf_23_11, hk_23_11, hw_23_11, ho_23_12, hf_23_12, hk_23_12, hw_23_12, ho_23_13, hf_23_13, ho_23_14, hf_23_14, ho_23_15, hf_23_15, ho_23_16, hf_23_16, hk_23_16, hw_23_16, ho_23_17, hf_23_17, ho_23_18, hf_23_18, ho_23_19, hf_23_19, hk_23_19, hw_23_19, ho_23_20, hf_23_20, ho_23_21, hf_23_21, hk_23_21, hw_23_21, ho_23_22, hf_23_22, hk_23_22, hw_23_22, ho_23_23, hf_23_23, hk_23_23, hw_23_23, ho_23_24, hf_23_24, hk_23_24, hw_23_24, ho_23_25, hf_23_25, ho_23_26, hf_23_26, ho_23_27, hf_23_27, hk_23_27, hw_23_27, ho_23_28, hf_23_28, ho_23_29, hf_23_29, ho_23_30, hf_23_30, hk_23_30, hw_23_30, ho_23_31, hf_23_31, hk_23_31, hw_23_31, ho_23_32, hf_23_32, ho_23_33, hf_23_33, ho_23_34, hf_23_34, hk_23_34, hw_23_34, ho_23_35, hf_23_35, hk_23_35, hw_23_35, ho_23_36, hf_23_36, hk_23_36, hw_23_36, ho_23_37, hf_23_37, ho_23_38, hf_23_38, ho_23_39, hf_23_39, hn_24, hi_24, hj_24, hg_24, hu_24, hn_25, hi_25, hj_25, hg_25, hu_25, hn_26, hi_26, hj_26, hg_26, hu_26, hn_27, hi_27, hg_27, hu_27, hn_28, hi_28, hg_28, hu_28, hn_29, hi_29, hj_29, hg_29, hu_29, hn_30, hi_30, hj_30, hg_30, hu_30, hn_31, hi_31, hj_31, hg_31, hu_31, hn_32, hi_32, hj_32, hg_32, hu_32, hn_33, hi_33, hj_33, hg_33, hu_33, hn_34, hi_34, hj_34, hg_34, hu_34, hn_35, hi_35, hj_35, hg_35, hu_35, hn_36, hi_36, hj_36, hg_36, hu_36, hn_37, hi_37, hg_37, hu_37, hn_38, hi_38, hj_38, hg_38, hu_38, hn_39, hi_39, hj_39, hg_39, hu_39, hn_40, hi_40, hj_40, hg_40, hu_40, hn_41, hi_41, hj_41, hg_41, hu_41, hn_42, hi_42, hg_42, hu_42, hn_43, hi_43, hg_43, hu_43, hn_44, hi_44, hj_44, hg_44, hu_44, hn_45, hi_45, hg_45, hu_45, S_things hS, p1, q1, k1, ed, jj_0, jj_1, hc1', zo_t, zo_f, show ¬ T.1 ≤ k by omega, show p < 6 by omega, show q < 6 by omega, show k < 6 by omega, decide_true]
theorem R_tq (hS : RT T (A 29)) (hW : WT T) (hG : gdT T = true) (ho : orT T ≤ 60) (hs : spT T = true) {v : Int32} (hQ : RRQ T (RW T) v (A 38)) (hw : ∀ y, y < T.1 → A 40 y = zn (w y) ∧ w y < (RW T).length) (d p : Nat) (hpp : p < T.1) : ∀ (e q : Nat) (J : Nat → Int64) (u : Bool) (o4 : Option Value), q + e = T.1 → ∃ J' o4', (∀ q, q ≠ 1180 → q ≠ 1181 → J' q = J q) ∧ mz (d + 6) 249 14 [some (.ref 23), some (.int (zo u)), some (.int (zn p)), some (.int (zn q)), o4] [] (hp n s c I J A B R Q) = mz (d + 6) 249 105 [some (.ref 23), some (.int (zo (u && zall (fun q => tw2 T w p q) q e))), some (.int (zn p)), some (.int (zn T.1)), o4'] [] (hp n s c I J' A B R Q)
  | 0, q, J, u, o4, hq => by
    have h6 := hW.2.1
    have e : q = T.1 := by omega
    subst e
    refine ⟨J, o4, fun _ _ _ => rfl, ?_⟩
    simp (disch := first | omega | exact zb_1 | exact zb_0 | exact zb_n1 | exact zb_n0) only [x249_14, x249_15, x249_16, x249_19, mq_dl_int, mq_dl_ref, mq_dl_null, mq_dl_none, mc_some, Option.toList_some, Option.toList_none, List.cons_append, List.nil_append, zb_1, zb_0, ↓reduceIte, if_true, if_false, not_true_eq_false, not_false_eq_true, Bool.false_eq_true, z_10, z_01, eq_self, Bool.and_self, true_or, or_true, false_or, or_false, true_and, and_true, false_and, and_false, and_self, or_self, Nat.reduceLT, Nat.reduceEqDiff, Nat.reduceLeDiff, Nat.reduceAdd, Nat.reduceMul, Nat.reduceSub, zn_lit, zn_add, zn_mul, zn_sub, zn_addneg, zn_lt, zn_le, zn_eq, zn_clamp, zn_in, zn_long, ho_23, S_things hS, Nat.le_refl, zall, Bool.and_true]
  | e + 1, q, J, u, o4, hq => by
    have h6 := hW.2.1
    obtain ⟨J1, kk, g1, g2⟩ := R_tk (n := n) (s := s) (c := c) (I := I) (B := B) (R := R) (Q := Q) hS hW hG ho hs hQ hw d p q hpp (by omega) T.1 0 J u (by omega)
    obtain ⟨J', o4', k1, k2⟩ := R_tq hS hW hG ho hs hQ hw d p hpp e (q + 1) J1 (u && tw2 T w p q) (some (.int kk)) (by omega)
    refine ⟨J', o4', fun q h1 h2 => by rw [k1 q h1 h2, g1 q h1 h2], ?_⟩
    rw [zall_s, ← Bool.and_assoc, ← k2, x249_14]
    simp (disch := first | omega | exact zb_1 | exact zb_0 | exact zb_n1 | exact zb_n0) only [x249_15, x249_16, x249_19, x249_22, x249_23, mq_dl_int, mq_dl_ref, mq_dl_null, mq_dl_none, mc_some, Option.toList_some, Option.toList_none, List.cons_append, List.nil_append, zb_1, zb_0, ↓reduceIte, if_true, if_false, not_true_eq_false, not_false_eq_true, Bool.false_eq_true, z_10, z_01, eq_self, Bool.and_self, true_or, or_true, false_or, or_false, true_and, and_true, false_and, and_false, and_self, or_self, Nat.reduceLT, Nat.reduceEqDiff, Nat.reduceLeDiff, Nat.reduceAdd, Nat.reduceMul, Nat.reduceSub, zn_lit, zn_add, zn_mul, zn_sub, zn_addneg, zn_lt, zn_le, zn_eq, zn_clamp, zn_in, zn_long, ho_23, S_things hS, show ¬ T.1 ≤ q by omega]
    rw [g2]
    simp (disch := first | omega | exact zb_1 | exact zb_0 | exact zb_n1 | exact zb_n0) only [x249_99, x249_102, mq_dl_int, mq_dl_ref, mq_dl_null, mq_dl_none, mc_some, Option.toList_some, Option.toList_none, List.cons_append, List.nil_append, zb_1, zb_0, ↓reduceIte, if_true, if_false, not_true_eq_false, not_false_eq_true, Bool.false_eq_true, z_10, z_01, eq_self, Bool.and_self, true_or, or_true, false_or, or_false, true_and, and_true, false_and, and_false, and_self, or_self, Nat.reduceLT, Nat.reduceEqDiff, Nat.reduceLeDiff, Nat.reduceAdd, Nat.reduceMul, Nat.reduceSub, zn_lit, zn_add, zn_mul, zn_sub, zn_addneg, zn_lt, zn_le, zn_eq, zn_clamp, zn_in, zn_long]
    rfl
theorem R_tp (hS : RT T (A 29)) (hW : WT T) (hG : gdT T = true) (ho : orT T ≤ 60) (hs : spT T = true) {v : Int32} (hQ : RRQ T (RW T) v (A 38)) (hw : ∀ y, y < T.1 → A 40 y = zn (w y) ∧ w y < (RW T).length) (d : Nat) : ∀ (e p : Nat) (J : Nat → Int64) (u : Bool) (o3 o4 : Option Value), p + e = T.1 → ∃ J', (∀ q, q ≠ 1180 → q ≠ 1181 → J' q = J q) ∧ mz (d + 6) 249 4 [some (.ref 23), some (.int (zo u)), some (.int (zn p)), o3, o4] [] (hp n s c I J A B R Q) = some (some (some (.int (zo (u && zall (fun p => tw3 T w p) p e)))), hp n s c I J' A B R Q)
  | 0, p, J, u, o3, o4, hpp => by
    have h6 := hW.2.1
    have e : p = T.1 := by omega
    subst e
    refine ⟨J, fun _ _ _ => rfl, ?_⟩
    simp (disch := first | omega | exact zo_1 _) only [x249_4, x249_5, x249_6, x249_9, x249_111, x249_112, mq_dl_int, mq_dl_ref, mq_dl_null, mq_dl_none, mc_some, Option.toList_some, Option.toList_none, List.cons_append, List.nil_append, zb_1, zb_0, ↓reduceIte, if_true, if_false, not_true_eq_false, not_false_eq_true, Bool.false_eq_true, z_10, z_01, eq_self, Bool.and_self, true_or, or_true, false_or, or_false, true_and, and_true, false_and, and_false, and_self, or_self, Nat.reduceLT, Nat.reduceEqDiff, Nat.reduceLeDiff, Nat.reduceAdd, Nat.reduceMul, Nat.reduceSub, zn_lit, zn_add, zn_mul, zn_sub, zn_addneg, zn_lt, zn_le, zn_eq, zn_clamp, zn_in, zn_long, ho_23, S_things hS, Nat.le_refl, zall, Bool.and_true]
  | e + 1, p, J, u, o3, o4, hpp => by
    have h6 := hW.2.1
    obtain ⟨J1, p4, g1, g2⟩ := R_tq (n := n) (s := s) (c := c) (I := I) (B := B) (R := R) (Q := Q) hS hW hG ho hs hQ hw d p (by omega) T.1 0 J u o4 (by omega)
    obtain ⟨J', k1, k2⟩ := R_tp hS hW hG ho hs hQ hw d e (p + 1) J1 (u && tw3 T w p) (some (.int (zn T.1))) p4 (by omega)
    refine ⟨J', fun q h1 h2 => by rw [k1 q h1 h2, g1 q h1 h2], ?_⟩
    rw [zall_s, ← Bool.and_assoc, ← k2, x249_4]
    simp (disch := first | omega | exact zb_1 | exact zb_0 | exact zb_n1 | exact zb_n0) only [x249_5, x249_6, x249_9, x249_12, x249_13, mq_dl_int, mq_dl_ref, mq_dl_null, mq_dl_none, mc_some, Option.toList_some, Option.toList_none, List.cons_append, List.nil_append, zb_1, zb_0, ↓reduceIte, if_true, if_false, not_true_eq_false, not_false_eq_true, Bool.false_eq_true, z_10, z_01, eq_self, Bool.and_self, true_or, or_true, false_or, or_false, true_and, and_true, false_and, and_false, and_self, or_self, Nat.reduceLT, Nat.reduceEqDiff, Nat.reduceLeDiff, Nat.reduceAdd, Nat.reduceMul, Nat.reduceSub, zn_lit, zn_add, zn_mul, zn_sub, zn_addneg, zn_lt, zn_le, zn_eq, zn_clamp, zn_in, zn_long, ho_23, S_things hS, show ¬ T.1 ≤ p by omega]
    rw [g2]
    simp (disch := first | omega | exact zb_1 | exact zb_0 | exact zb_n1 | exact zb_n0) only [x249_105, x249_108, mq_dl_int, mq_dl_ref, mq_dl_null, mq_dl_none, mc_some, Option.toList_some, Option.toList_none, List.cons_append, List.nil_append, zb_1, zb_0, ↓reduceIte, if_true, if_false, not_true_eq_false, not_false_eq_true, Bool.false_eq_true, z_10, z_01, eq_self, Bool.and_self, true_or, or_true, false_or, or_false, true_and, and_true, false_and, and_false, and_self, or_self, Nat.reduceLT, Nat.reduceEqDiff, Nat.reduceLeDiff, Nat.reduceAdd, Nat.reduceMul, Nat.reduceSub, zn_lit, zn_add, zn_mul, zn_sub, zn_addneg, zn_lt, zn_le, zn_eq, zn_clamp, zn_in, zn_long]
    rfl
theorem R_atw (hS : RT T (A 29)) (hW : WT T) (hG : gdT T = true) (ho : orT T ≤ 60) (hs : spT T = true) {v : Int32} (hQ : RRQ T (RW T) v (A 38)) (hw : ∀ y, y < T.1 → A 40 y = zn (w y) ∧ w y < (RW T).length) (d : Nat) : ∃ J', (∀ q, q ≠ 1180 → q ≠ 1181 → J' q = J q) ∧ mz (d + 6) 249 0 [some (.ref 23), none, none, none, none] [] (hp n s c I J A B R Q) = some (some (some (.int (zo (tw4 T w)))), hp n s c I J' A B R Q) := by
  obtain ⟨J', g1, g2⟩ := R_tp (n := n) (s := s) (c := c) (I := I) (B := B) (R := R) (Q := Q) hS hW hG ho hs hQ hw d T.1 0 J true none none (by omega)
  refine ⟨J', g1, ?_⟩
  rw [Bool.true_and] at g2
  unfold tw4
  rw [← g2]
  simp (disch := first | omega | exact zb_1 | exact zb_0 | exact zb_n1 | exact zb_n0) only [x249_0, x249_1, x249_2, x249_3, mq_dl_int, mq_dl_ref, mq_dl_null, mq_dl_none, mc_some, Option.toList_some, Option.toList_none, List.cons_append, List.nil_append, zb_1, zb_0, ↓reduceIte, if_true, if_false, not_true_eq_false, not_false_eq_true, Bool.false_eq_true, z_10, z_01, eq_self, Bool.and_self, true_or, or_true, false_or, or_false, true_and, and_true, false_and, and_false, and_self, or_self, Nat.reduceLT, Nat.reduceEqDiff, Nat.reduceLeDiff, Nat.reduceAdd, Nat.reduceMul, Nat.reduceSub, zn_lit, zn_add, zn_mul, zn_sub, zn_addneg, zn_lt, zn_le, zn_eq, zn_clamp, zn_in, zn_long, zo_t]
theorem R_isl (hS : RT T (A 29)) (hW : WT T) (ho : orT T ≤ 60) {v : Int32} (hQ : RRQ T (RW T) v (A 38)) (d r : Nat) (hr : r < (RW T).length) : ∀ (e k : Nat) (u : Bool), k + e = T.1 → mz (d + 3) 251 4 [some (.ref 23), some (.int (zn r)), some (.int (zo u)), some (.int (zn k))] [] (hp n s c I J A B R Q) = some (some (some (.int (zo (u && zall (fun k => decide (rwT T r k = (szT T k : Int))) k e)))), (hp n s c I J A B R Q))
  | 0, k, u, hk => by
    have h6 := hW.2.1
    have e : k = T.1 := by omega
    subst e
    simp (disch := first | omega | exact zo_1 _) only [x251_4, x251_5, x251_6, x251_9, x251_47, x251_48, mq_dl_int, mq_dl_ref, mq_dl_null, mq_dl_none, mc_some, Option.toList_some, Option.toList_none, List.cons_append, List.nil_append, zb_1, zb_0, ↓reduceIte, if_true, if_false, not_true_eq_false, not_false_eq_true, Bool.false_eq_true, z_10, z_01, eq_self, Bool.and_self, true_or, or_true, false_or, or_false, true_and, and_true, false_and, and_false, and_self, or_self, Nat.reduceLT, Nat.reduceEqDiff, Nat.reduceLeDiff, Nat.reduceAdd, Nat.reduceMul, Nat.reduceSub, zn_lit, zn_add, zn_mul, zn_sub, zn_addneg, zn_lt, zn_le, zn_eq, zn_clamp, zn_in, zn_long, ho_23, S_things hS, Nat.le_refl, zall, Bool.and_true]
  | e + 1, k, u, hk => by
    have h6 := hW.2.1
    have hl := RW_len hW
    have hkm : k < T.1 := by omega
    have q1 := RRQ_get hQ hr hkm
    have b1 := rw_60 hW ho hr hkm
    have hz60 := szT_or (T := T) hkm
    have hc : (zi (rwT T r k) = zn (szT T k)) = (rwT T r k = (szT T k : Int)) := by
      rw [zi_nat, zi_eq _ _ (by omega) (by omega) (by omega) (by omega)]
    rw [zall_s, ← Bool.and_assoc, ← R_isl hS hW ho hQ d r hr e (k + 1) _ (by omega), x251_4]
    cases u with
    | false =>
      simp (disch := first | omega | exact zb_1 | exact zb_0 | exact zb_n1 | exact zb_n0) only [x251_5, x251_6, x251_9, x251_12, x251_13, x251_39, x251_40, x251_41, x251_44, mq_dl_int, mq_dl_ref, mq_dl_null, mq_dl_none, mc_some, Option.toList_some, Option.toList_none, List.cons_append, List.nil_append, zb_1, zb_0, ↓reduceIte, if_true, if_false, not_true_eq_false, not_false_eq_true, Bool.false_eq_true, z_10, z_01, eq_self, Bool.and_self, true_or, or_true, false_or, or_false, true_and, and_true, false_and, and_false, and_self, or_self, Nat.reduceLT, Nat.reduceEqDiff, Nat.reduceLeDiff, Nat.reduceAdd, Nat.reduceMul, Nat.reduceSub, zn_lit, zn_add, zn_mul, zn_sub, zn_addneg, zn_lt, zn_le, zn_eq, zn_clamp, zn_in, zn_long, ho_23, S_things hS, zo_f, Bool.false_and, show ¬ T.1 ≤ k by omega]
    | true =>
      by_cases z : rwT T r k = (szT T k : Int)
      · have hc' := hc.trans (eq_true z)
        rw [decide_eq_true z]
        simp (disch := first | omega | exact zb_1 | exact zb_0 | exact zb_n1 | exact zb_n0) only [x251_5, x251_6, x251_9, x251_12, x251_13, x251_16, x251_17, x251_20, x251_22, x251_23, x251_24, x251_25, x251_26, x251_27, x251_28, x251_29, x251_32, x251_35, x251_36, x251_40, x251_41, x251_44, mq_dl_int, mq_dl_ref, mq_dl_null, mq_dl_none, mc_some, Option.toList_some, Option.toList_none, List.cons_append, List.nil_append, zb_1, zb_0, ↓reduceIte, if_true, if_false, not_true_eq_false, not_false_eq_true, Bool.false_eq_true, z_10, z_01, eq_self, Bool.and_self, true_or, or_true, false_or, or_false, true_and, and_true, false_and, and_false, and_self, or_self, Nat.reduceLT, Nat.reduceEqDiff, Nat.reduceLeDiff, Nat.reduceAdd, Nat.reduceMul, Nat.reduceSub, zn_lit, zn_add, zn_mul, zn_sub, zn_addneg, zn_lt, zn_le, zn_eq, zn_clamp, zn_in, zn_long, hp_1, hp_21, upd_zu, updL_zu, updQ_zu, zu_eq, zu_ne, ho_23, ho_23_0, hf_23_0, hk_23_0, hw_23_0, ho_23_1, hf_23_1, ho_23_2, hf_23_2, hk_23_2, hw_23_2, ho_23_3, hf_23_3, hk_23_3, hw_23_3, ho_23_4, hf_23_4, ho_23_5, hf_23_5, ho_23_6, hf_23_6, ho_23_7, hf_23_7, hk_23_7, hw_23_7, ho_23_8, hf_23_8, hk_23_8, hw_23_8, ho_23_9, hf_23_9, ho_23_10, hf_23_10, ho_23_11, hf_23_11, hk_23_11, hw_23_11, ho_23_12, hf_23_12, hk_23_12, hw_23_12, ho_23_13, hf_23_13, ho_23_14, hf_23_14, ho_23_15, hf_23_15, ho_23_16, hf_23_16, hk_23_16, hw_23_16, ho_23_17, hf_23_17, ho_23_18, hf_23_18, ho_23_19, hf_23_19, hk_23_19, hw_23_19, ho_23_20, hf_23_20, ho_23_21, hf_23_21, hk_23_21, hw_23_21, ho_23_22, hf_23_22, hk_23_22, hw_23_22, ho_23_23, hf_23_23, hk_23_23, hw_23_23, ho_23_24, hf_23_24, hk_23_24, hw_23_24, ho_23_25, hf_23_25, ho_23_26, hf_23_26, ho_23_27, hf_23_27, hk_23_27, hw_23_27, ho_23_28, hf_23_28, ho_23_29, hf_23_29, ho_23_30, hf_23_30, hk_23_30, hw_23_30, ho_23_31, hf_23_31, hk_23_31, hw_23_31, ho_23_32, hf_23_32, ho_23_33, hf_23_33, ho_23_34, hf_23_34, hk_23_34, hw_23_34, ho_23_35, hf_23_35, hk_23_35, hw_23_35, ho_23_36, hf_23_36, hk_23_36, hw_23_36, ho_23_37, hf_23_37, ho_23_38, hf_23_38, ho_23_39, hf_23_39, hn_24, hi_24, hj_24, hg_24, hu_24, hn_25, hi_25, hj_25, hg_25, hu_25, hn_26, hi_26, hj_26, hg_26, hu_26, hn_27, hi_27, hg_27, hu_27, hn_28, hi_28, hg_28, hu_28, hn_29, hi_29, hj_29, hg_29, hu_29, hn_30, hi_30, hj_30, hg_30, hu_30, hn_31, hi_31, hj_31, hg_31, hu_31, hn_32, hi_32, hj_32, hg_32, hu_32, hn_33, hi_33, hj_33, hg_33, hu_33, hn_34, hi_34, hj_34, hg_34, hu_34, hn_35, hi_35, hj_35, hg_35, hu_35, hn_36, hi_36, hj_36, hg_36, hu_36, hn_37, hi_37, hg_37, hu_37, hn_38, hi_38, hj_38, hg_38, hu_38, hn_39, hi_39, hj_39, hg_39, hu_39, hn_40, hi_40, hj_40, hg_40, hu_40, hn_41, hi_41, hj_41, hg_41, hu_41, hn_42, hi_42, hg_42, hu_42, hn_43, hi_43, hg_43, hu_43, hn_44, hi_44, hj_44, hg_44, hu_44, hn_45, hi_45, hg_45, hu_45, S_things hS, S_size hS hW, q1, hc', zo_t, show ¬ T.1 ≤ k by omega, show 6 * r + k < 12000 by omega, decide_true]
      · have hc' := hc.trans (eq_false z)
        rw [decide_eq_false z]
        simp (disch := first | omega | exact zb_1 | exact zb_0 | exact zb_n1 | exact zb_n0) only [x251_5, x251_6, x251_9, x251_12, x251_13, x251_16, x251_17, x251_20, x251_22, x251_23, x251_24, x251_25, x251_26, x251_27, x251_28, x251_29, x251_32, x251_39, x251_40, x251_41, x251_44, mq_dl_int, mq_dl_ref, mq_dl_null, mq_dl_none, mc_some, Option.toList_some, Option.toList_none, List.cons_append, List.nil_append, zb_1, zb_0, ↓reduceIte, if_true, if_false, not_true_eq_false, not_false_eq_true, Bool.false_eq_true, z_10, z_01, eq_self, Bool.and_self, true_or, or_true, false_or, or_false, true_and, and_true, false_and, and_false, and_self, or_self, Nat.reduceLT, Nat.reduceEqDiff, Nat.reduceLeDiff, Nat.reduceAdd, Nat.reduceMul, Nat.reduceSub, zn_lit, zn_add, zn_mul, zn_sub, zn_addneg, zn_lt, zn_le, zn_eq, zn_clamp, zn_in, zn_long, hp_1, hp_21, upd_zu, updL_zu, updQ_zu, zu_eq, zu_ne, ho_23, ho_23_0, hf_23_0, hk_23_0, hw_23_0, ho_23_1, hf_23_1, ho_23_2, hf_23_2, hk_23_2, hw_23_2, ho_23_3, hf_23_3, hk_23_3, hw_23_3, ho_23_4, hf_23_4, ho_23_5, hf_23_5, ho_23_6, hf_23_6, ho_23_7, hf_23_7, hk_23_7, hw_23_7, ho_23_8, hf_23_8, hk_23_8, hw_23_8, ho_23_9, hf_23_9, ho_23_10, hf_23_10, ho_23_11, hf_23_11, hk_23_11, hw_23_11, ho_23_12, hf_23_12, hk_23_12, hw_23_12, ho_23_13, hf_23_13, ho_23_14, hf_23_14, ho_23_15, hf_23_15, ho_23_16, hf_23_16, hk_23_16, hw_23_16, ho_23_17, hf_23_17, ho_23_18, hf_23_18, ho_23_19, hf_23_19, hk_23_19, hw_23_19, ho_23_20, hf_23_20, ho_23_21, hf_23_21, hk_23_21, hw_23_21, ho_23_22, hf_23_22, hk_23_22, hw_23_22, ho_23_23, hf_23_23, hk_23_23, hw_23_23, ho_23_24, hf_23_24, hk_23_24, hw_23_24, ho_23_25, hf_23_25, ho_23_26, hf_23_26, ho_23_27, hf_23_27, hk_23_27, hw_23_27, ho_23_28, hf_23_28, ho_23_29, hf_23_29, ho_23_30, hf_23_30, hk_23_30, hw_23_30, ho_23_31, hf_23_31, hk_23_31, hw_23_31, ho_23_32, hf_23_32, ho_23_33, hf_23_33, ho_23_34, hf_23_34, hk_23_34, hw_23_34, ho_23_35, hf_23_35, hk_23_35, hw_23_35, ho_23_36, hf_23_36, hk_23_36, hw_23_36, ho_23_37, hf_23_37, ho_23_38, hf_23_38, ho_23_39, hf_23_39, hn_24, hi_24, hj_24, hg_24, hu_24, hn_25, hi_25, hj_25, hg_25, hu_25, hn_26, hi_26, hj_26, hg_26, hu_26, hn_27, hi_27, hg_27, hu_27, hn_28, hi_28, hg_28, hu_28, hn_29, hi_29, hj_29, hg_29, hu_29, hn_30, hi_30, hj_30, hg_30, hu_30, hn_31, hi_31, hj_31, hg_31, hu_31, hn_32, hi_32, hj_32, hg_32, hu_32, hn_33, hi_33, hj_33, hg_33, hu_33, hn_34, hi_34, hj_34, hg_34, hu_34, hn_35, hi_35, hj_35, hg_35, hu_35, hn_36, hi_36, hj_36, hg_36, hu_36, hn_37, hi_37, hg_37, hu_37, hn_38, hi_38, hj_38, hg_38, hu_38, hn_39, hi_39, hj_39, hg_39, hu_39, hn_40, hi_40, hj_40, hg_40, hu_40, hn_41, hi_41, hj_41, hg_41, hu_41, hn_42, hi_42, hg_42, hu_42, hn_43, hi_43, hg_43, hu_43, hn_44, hi_44, hj_44, hg_44, hu_44, hn_45, hi_45, hg_45, hu_45, S_things hS, S_size hS hW, q1, hc', zo_t, zo_f, Bool.and_false, show ¬ T.1 ≤ k by omega, show 6 * r + k < 12000 by omega, decide_true]
theorem R_iso (hS : RT T (A 29)) (hW : WT T) (hG : gdT T = true) (ho : orT T ≤ 60) {v : Int32} (hQ : RRQ T (RW T) v (A 38)) (d r : Nat) (hr : r < (RW T).length) : mz (d + 3) 251 0 [some (.ref 23), some (.int (zn r)), none, none] [] (hp n s c I J A B R Q) = some (some (some (.int (zo (decide (r = (RW T).length - 1))))), (hp n s c I J A B R Q)) := by
  have e := R_isl (n := n) (s := s) (c := c) (I := I) (J := J) (B := B) (R := R) (Q := Q) hS hW ho hQ d r hr T.1 0 true (by omega)
  rw [Bool.true_and, show zall (fun k => decide (rwT T r k = (szT T k : Int))) 0 T.1 = decide (r = (RW T).length - 1) by rw [Bool.eq_iff_iff, iso_iff hW hG hr, decide_eq_true_eq]] at e
  rw [← e]
  simp (disch := first | omega | exact zb_1 | exact zb_0 | exact zb_n1 | exact zb_n0) only [x251_0, x251_1, x251_2, x251_3, mq_dl_int, mq_dl_ref, mq_dl_null, mq_dl_none, mc_some, Option.toList_some, Option.toList_none, List.cons_append, List.nil_append, zb_1, zb_0, ↓reduceIte, if_true, if_false, not_true_eq_false, not_false_eq_true, Bool.false_eq_true, z_10, z_01, eq_self, Bool.and_self, true_or, or_true, false_or, or_false, true_and, and_true, false_and, and_false, and_self, or_self, Nat.reduceLT, Nat.reduceEqDiff, Nat.reduceLeDiff, Nat.reduceAdd, Nat.reduceMul, Nat.reduceSub, zn_lit, zn_add, zn_mul, zn_sub, zn_addneg, zn_lt, zn_le, zn_eq, zn_clamp, zn_in, zn_long, zo_t]
end RTW
