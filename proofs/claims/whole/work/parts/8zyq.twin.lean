/-! TWIN: the class -/
def ag1 (T : ZT) (w : Nat → Nat) (t p q k : Nat) : Bool := !(decide (p = t) || decide (k = t)) || decide (dpT T (w p) (w q) (w k) = (T.2.1 p q k : Int) * (ddT T : Int))
def agK (T : ZT) (w : Nat → Nat) (t p q : Nat) : Bool := zall (fun k => ag1 T w t p q k) 0 (t + 1)
def agQ (T : ZT) (w : Nat → Nat) (t p : Nat) : Bool := zall (fun q => agK T w t p q) 0 (p + 1)
def agT (T : ZT) (w : Nat → Nat) (t : Nat) : Bool := zall (fun p => agQ T w t p) 0 (t + 1)
theorem zall_s (f : Nat → Bool) (k r : Nat) : zall f k (r + 1) = (f k && zall f (k + 1) r) := rfl
theorem agT_congr {T : ZT} {w w' : Nat → Nat} {t : Nat} (h : ∀ p, p ≤ t → w p = w' p) : agT T w t = agT T w' t := by
  unfold agT
  apply zall_congr
  intro p _ hp'
  unfold agQ
  apply zall_congr
  intro q _ hq
  unfold agK
  apply zall_congr
  intro k _ hk
  unfold ag1
  rw [h p (by omega), h q (by omega), h k (by omega)]
theorem agT_iff {T : ZT} {w : Nat → Nat} {t : Nat} : agT T w t = true ↔ ∀ p q k, q ≤ p → p ≤ t → k ≤ t → (p = t ∨ k = t) → dpT T (w p) (w q) (w k) = (T.2.1 p q k : Int) * (ddT T : Int) := by
  unfold agT agQ agK ag1
  rw [zall_iff]
  constructor
  · intro h p q k h1 h2 h3 h4
    have g1 := h p (by omega) (by omega)
    rw [zall_iff] at g1
    have g2 := g1 q (by omega) (by omega)
    rw [zall_iff] at g2
    have g3 := g2 k (by omega) (by omega)
    have g4 : (decide (p = t) || decide (k = t)) = true := by
      rcases h4 with h4 | h4
      · rw [decide_eq_true h4]; rfl
      · rw [decide_eq_true h4, Bool.or_true]
    rw [g4] at g3
    exact of_decide_eq_true g3
  · intro h p h1 h2
    rw [zall_iff]
    intro q h3 h4
    rw [zall_iff]
    intro k h5 h6
    cases g : (decide (p = t) || decide (k = t)) with
    | false => rfl
    | true =>
      rw [Bool.or_eq_true] at g
      exact decide_eq_true (h p q k (by omega) (by omega) (by omega) (by
        rcases g with g | g
        · exact Or.inl (of_decide_eq_true g)
        · exact Or.inr (of_decide_eq_true g)))
/-- the things from t on can be matched, those before as in w -/
def EXW (T : ZT) (t : Nat) (w : Nat → Nat) : Prop := ∃ w' : Nat → Nat, (∀ p, p < t → w' p = w p) ∧ (∀ p, p < T.1 → w' p < (RW T).length) ∧ (∀ p q, p < T.1 → q < T.1 → w' p = w' q → p = q) ∧ ∀ t', t ≤ t' → t' < T.1 → agT T w' t' = true
theorem EXW_s {T : ZT} {t : Nat} {w : Nat → Nat} (ht : t < T.1) : EXW T t w ↔ ∃ r, r < (RW T).length ∧ (∀ p, p < t → w p ≠ r) ∧ agT T (zu w t r) t = true ∧ EXW T (t + 1) (zu w t r) := by
  constructor
  · rintro ⟨w', h1, h2, h3, h4⟩
    refine ⟨w' t, h2 t ht, fun p hp' e => ?_, ?_, w', fun p hp' => ?_, h2, h3, fun t' h5 h6 => h4 t' (by omega) h6⟩
    · have := h3 p t (by omega) ht (by rw [h1 p hp']; exact e)
      omega
    · rw [agT_congr (w' := w') (fun p hp' => ?_)]
      · exact h4 t (Nat.le_refl _) ht
      · by_cases q : p = t
        · subst q; rw [zu_eq]
        · rw [zu_ne _ _ _ _ q, h1 p (by omega)]
    · by_cases q : p = t
      · subst q; rw [zu_eq]
      · rw [zu_ne _ _ _ _ q, h1 p (by omega)]
  · rintro ⟨r, h1, h2, h3, w', g1, g2, g3, g4⟩
    refine ⟨w', fun p hp' => by rw [g1 p (by omega), zu_ne _ _ _ _ (by omega)], g2, g3, fun t' h5 h6 => ?_⟩
    by_cases q : t' = t
    · subst q
      rw [agT_congr (w' := zu w t' r) (fun p hp' => g1 p (by omega))]
      exact h3
    · exact g4 t' (by omega) h6
theorem dp_sym {T : ZT} (p q k : Nat) : dpT T p q k = dpT T q p k := by
  unfold dpT duT
  rw [Int.mul_comm (cuT T (rwT T p) : Int)]
  congr 1
  apply zsum_congr
  intro i _ _
  rw [Int.mul_comm (rwT T p i)]
theorem TW_iff {T : ZT} (hW : WT T) {w : Nat → Nat} (h0 : w 0 = (RW T).length - 1) : TW T ↔ agT T w 0 = true ∧ EXW T 1 w := by
  have hm := hW.1
  constructor
  · rintro ⟨v, h1, h2, h3, h4⟩
    refine ⟨?_, v, fun p hp' => ?_, h2, h3, fun t' h5 h6 => ?_⟩
    · rw [agT_congr (w' := v) (fun p hp' => by rw [show p = 0 by omega, h0, h1]), agT_iff]
      intro p q k g1 g2 g3 _
      exact h4 p q k (by omega) (by omega) (by omega)
    · rw [show p = 0 by omega, h0, h1]
    · rw [agT_iff]
      intro p q k g1 g2 g3 _
      exact h4 p q k (by omega) (by omega) (by omega)
  · rintro ⟨h1, v, g1, g2, g3, g4⟩
    have g5 : ∀ t', t' < T.1 → agT T v t' = true := by
      intro t' ht
      by_cases q : t' = 0
      · subst q
        rw [agT_congr (w' := w) (fun p hp' => g1 p (by omega))]
        exact h1
      · exact g4 t' (by omega) ht
    have g6 : ∀ p q k, q ≤ p → p < T.1 → k < T.1 → dpT T (v p) (v q) (v k) = (T.2.1 p q k : Int) * (ddT T : Int) := by
      intro p q k h2 h3 h4
      have h5 := g5 (max p k) (by omega)
      rw [agT_iff] at h5
      exact h5 p q k h2 (by omega) (by omega) (by omega)
    refine ⟨v, by rw [g1 0 (by omega), h0], g2, g3, fun p q k h2 h3 h4 => ?_⟩
    by_cases q2 : q ≤ p
    · exact g6 p q k q2 h2 h4
    · rw [dp_sym, g6 q p k (by omega) h3 h4, hW.2.2.2.2.1 q p k]
theorem sh_60 {T : ZT} (hW : WT T) (hG : gdT T = true) (ho : orT T ≤ 60) {p q k : Nat} (h1 : p < T.1) (h2 : q < T.1) (h3 : k < T.1) : T.2.1 p q k ≤ 60 := by
  have h4 := row_sum hW hG h1 h3
  have h5 := zns_ge (f := fun j => T.2.1 p j k) T.1 0 q (by omega) (by omega)
  have h6 := szT_or (T := T) h1
  have h5' : T.2.1 p q k ≤ zns (fun j => T.2.1 p j k) 0 T.1 := h5
  omega
section TWN
variable {n s : Nat} {c : Nat → mq_E} {I : Nat → Int32} {J : Nat → Int64} {A : Nat → Nat → Int32} {B : Nat → Nat → Int64} {R : Nat → Value} {Q : Nat → Nat → Option Nat}
variable {g a : Nat} {T : ZT} {i : Nat → Int32} {j : Nat → Int64} {f : Nat → Nat → Int32} {h : Nat → Nat → Int64} {w : Nat → Nat}
theorem C_agk (hg : 46 ≤ g) (hga : a + 2 < g) (hsm : smT T = true) (hF : RSF T i j f h) (hT : TB c a T) (hW : WT T) (hs : spT T = true) (d t p q : Nat) (ht : t < T.1) (hp' : p ≤ t) (hq : q ≤ p) (hw : ∀ y, y ≤ t → f 9 y = zn (w y) ∧ w y < (RW T).length) : ∀ (e k : Nat) (o5 : Option Value), k + e = t + 1 → ∃ o5', mz (d + 2) 70 17 [some (.ref g), some (.int (zn t)), some (.int (zn p)), some (.int (zn q)), some (.int (zn k)), o5] [] (hp n s (ro c g a i j f h) I J A B R Q) = if zall (fun k => ag1 T w t p q k) k e = true then mz (d + 2) 70 98 [some (.ref g), some (.int (zn t)), some (.int (zn p)), some (.int (zn q)), some (.int (zn (t + 1))), o5'] [] (hp n s (ro c g a i j f h) I J A B R Q) else some (some (some (.int (zo false))), hp n s (ro c g a i j f h) I J A B R Q)
  | 0, k, o5, hk => by
    have hm := hW.2.1
    have e : k = t + 1 := by omega
    subst e
    refine ⟨o5, ?_⟩
    simp (disch := first | omega | exact zb_1 | exact zb_0 | exact zb_n1 | exact zb_n0) only [x70_17, x70_19, x70_20, mq_dl_int, mq_dl_ref, mq_dl_null, mq_dl_none, mc_some, Option.toList_some, Option.toList_none, List.cons_append, List.nil_append, zb_1, zb_0, ↓reduceIte, if_true, if_false, not_true_eq_false, not_false_eq_true, Bool.false_eq_true, z_10, z_01, eq_self, Bool.and_self, true_or, or_true, false_or, or_false, true_and, and_true, false_and, and_false, and_self, or_self, Nat.reduceLT, Nat.reduceEqDiff, Nat.reduceLeDiff, Nat.reduceAdd, Nat.reduceMul, Nat.reduceSub, zn_lit, zn_add, zn_mul, zn_sub, zn_addneg, zn_lt, zn_le, zn_eq, zn_clamp, zn_in, zn_long, show t < t + 1 by omega, zall]
  | e + 1, k, o5, hk => by
    have hm := hW.2.1
    obtain ⟨hgd, ho⟩ := smT_gd hsm
    have hG : RSV (ro c g a i j f h) g a T := ⟨hg, hga, hsm, i, j, f, h, ro_ro _ _ _ _ _ _ _ _ _ _ _, hF⟩
    have hT1 : TB (ro c g a i j f h) a T := TB_ro hT (Or.inl hga)
    obtain ⟨p1, p2⟩ := hw p (by omega)
    obtain ⟨q1, q2⟩ := hw q (by omega)
    obtain ⟨k1, k2⟩ := hw k (by omega)
    have eu := C_du (n := n) (s := s) (I := I) (J := J) (A := A) (B := B) (R := R) (Q := Q) hG hT1 hW ho d (w p) (w q) (w k) p2 q2 k2
    have b1 := dp_le hW hgd ho hs p2 q2 k2
    have b2 := dd_le hW ho
    have b3 := sh_60 hW hgd ho (show p < T.1 by omega) (show q < T.1 by omega) (show k < T.1 by omega)
    have b4 : T.2.1 p q k * ddT T ≤ 60 * (60 * 1000100 * 1000100) := Nat.mul_le_mul b3 b2
    have hcm : (zli (dpT T (w p) (w q) (w k)) = zln (T.2.1 p q k * ddT T)) = (dpT T (w p) (w q) (w k) = (T.2.1 p q k : Int) * (ddT T : Int)) := by
      rw [zli_nat, zli_eq _ _ (by omega) (by omega) (by omega) (by omega), Int.natCast_mul]
    have h11 := hF.2.2.1
    cases hc : (decide (p = t) || decide (k = t)) with
    | false =>
      have c1 : ¬ p = t ∧ ¬ k = t := by
        rw [Bool.or_eq_false_iff] at hc
        exact ⟨of_decide_eq_false hc.1, of_decide_eq_false hc.2⟩
      obtain ⟨o5', ih⟩ := C_agk hg hga hsm hF hT hW hs d t p q ht hp' hq hw e (k + 1) (some (.int (zn 0))) (by omega)
      refine ⟨o5', ?_⟩
      rw [zall_s, show ag1 T w t p q k = true by unfold ag1; rw [hc]; rfl, Bool.true_and]
      rw [← ih, x70_17]
      simp (disch := first | omega | exact zb_1 | exact zb_0 | exact zb_n1 | exact zb_n0) only [x70_19, x70_20, x70_23, x70_24, x70_25, x70_28, x70_30, x70_31, x70_38, x70_39, x70_41, x70_43, x70_92, x70_95, mq_dl_int, mq_dl_ref, mq_dl_null, mq_dl_none, mc_some, Option.toList_some, Option.toList_none, List.cons_append, List.nil_append, zb_1, zb_0, ↓reduceIte, if_true, if_false, not_true_eq_false, not_false_eq_true, Bool.false_eq_true, z_10, z_01, eq_self, Bool.and_self, true_or, or_true, false_or, or_false, true_and, and_true, false_and, and_false, and_self, or_self, Nat.reduceLT, Nat.reduceEqDiff, Nat.reduceLeDiff, Nat.reduceAdd, Nat.reduceMul, Nat.reduceSub, zn_lit, zn_add, zn_mul, zn_sub, zn_addneg, zn_lt, zn_le, zn_eq, zn_clamp, zn_in, zn_long, c1.1, c1.2, show ¬ t < k by omega]
    | true =>
      have c1 : p = t ∨ k = t := by
        rw [Bool.or_eq_true] at hc
        rcases hc with h1 | h1
        · exact Or.inl (of_decide_eq_true h1)
        · exact Or.inr (of_decide_eq_true h1)
      have e34 : mz (d + 2) 70 17 [some (.ref g), some (.int (zn t)), some (.int (zn p)), some (.int (zn q)), some (.int (zn k)), o5] [] (hp n s (ro c g a i j f h) I J A B R Q) = mz (d + 2) 70 41 [some (.ref g), some (.int (zn t)), some (.int (zn p)), some (.int (zn q)), some (.int (zn k)), some (.int (zn 1))] [] (hp n s (ro c g a i j f h) I J A B R Q) := by
        rw [x70_17]
        by_cases c2 : p = t
        · simp (disch := first | omega | exact zb_1 | exact zb_0 | exact zb_n1 | exact zb_n0) only [x70_19, x70_20, x70_23, x70_24, x70_25, x70_34, x70_35, x70_39, mq_dl_int, mq_dl_ref, mq_dl_null, mq_dl_none, mc_some, Option.toList_some, Option.toList_none, List.cons_append, List.nil_append, zb_1, zb_0, ↓reduceIte, if_true, if_false, not_true_eq_false, not_false_eq_true, Bool.false_eq_true, z_10, z_01, eq_self, Bool.and_self, true_or, or_true, false_or, or_false, true_and, and_true, false_and, and_false, and_self, or_self, Nat.reduceLT, Nat.reduceEqDiff, Nat.reduceLeDiff, Nat.reduceAdd, Nat.reduceMul, Nat.reduceSub, zn_lit, zn_add, zn_mul, zn_sub, zn_addneg, zn_lt, zn_le, zn_eq, zn_clamp, zn_in, zn_long, c2, show ¬ t < k by omega]
        · have c3 : k = t := c1.resolve_left c2
          subst c3
          simp (disch := first | omega | exact zb_1 | exact zb_0 | exact zb_n1 | exact zb_n0) only [x70_19, x70_20, x70_23, x70_24, x70_25, x70_28, x70_30, x70_31, x70_34, x70_35, x70_39, mq_dl_int, mq_dl_ref, mq_dl_null, mq_dl_none, mc_some, Option.toList_some, Option.toList_none, List.cons_append, List.nil_append, zb_1, zb_0, ↓reduceIte, if_true, if_false, not_true_eq_false, not_false_eq_true, Bool.false_eq_true, z_10, z_01, eq_self, Bool.and_self, true_or, or_true, false_or, or_false, true_and, and_true, false_and, and_false, and_self, or_self, Nat.reduceLT, Nat.reduceEqDiff, Nat.reduceLeDiff, Nat.reduceAdd, Nat.reduceMul, Nat.reduceSub, zn_lit, zn_add, zn_mul, zn_sub, zn_addneg, zn_lt, zn_le, zn_eq, zn_clamp, zn_in, zn_long, c2, show ¬ k < k by omega]
      obtain ⟨o5', ih⟩ := C_agk hg hga hsm hF hT hW hs d t p q ht hp' hq hw e (k + 1) (some (.int (zn 1))) (by omega)
      refine ⟨o5', ?_⟩
      rw [e34]
      by_cases z : dpT T (w p) (w q) (w k) = (T.2.1 p q k : Int) * (ddT T : Int)
      · have hcm2 := hcm.trans (eq_true z)
        rw [zall_s, show ag1 T w t p q k = true by unfold ag1; rw [hc, decide_eq_true z]; rfl, Bool.true_and]
        rw [← ih]
        simp (disch := first | omega | exact zb_1 | exact zb_0 | exact zb_n1 | exact zb_n0) only [x70_41, x70_43, x70_46, x70_47, x70_48, x70_51, x70_52, x70_53, x70_54, x70_57, x70_58, x70_59, x70_60, x70_63, x70_65, x70_66, x70_69, x70_70, x70_73, x70_74, x70_75, x70_77, x70_80, x70_81, x70_82, x70_85, x70_86, x70_87, x70_92, x70_95, mq_dl_int, mq_dl_ref, mq_dl_null, mq_dl_none, mc_some, Option.toList_some, Option.toList_none, List.cons_append, List.nil_append, zb_1, zb_0, ↓reduceIte, if_true, if_false, not_true_eq_false, not_false_eq_true, Bool.false_eq_true, z_10, z_01, eq_self, Bool.and_self, true_or, or_true, false_or, or_false, true_and, and_true, false_and, and_false, and_self, or_self, Nat.reduceLT, Nat.reduceEqDiff, Nat.reduceLeDiff, Nat.reduceAdd, Nat.reduceMul, Nat.reduceSub, zn_lit, zn_add, zn_mul, zn_sub, zn_addneg, zn_lt, zn_le, zn_eq, zn_clamp, zn_in, zn_long, lc_eq, lc_gt, lc_lt, lc_le, lc_ge, zln_mul, hp_1, hp_21, ro_0, ro_mo, ro_f0, ro_f1, ro_s1, ro_k1, ro_f2, ro_f3, ro_f4, ro_f5, ro_f6, ro_f7, ro_f8, ro_f9, ro_s9, ro_k9, ro_f10, ro_f11, ro_s11, ro_k11, ro_f12, ro_f13, ro_s13, ro_k13, ro_f14, ro_s14, ro_f15, ro_s15, ro_k15, ro_i1, ro_g1, ro_n1, ro_w1, ro_i2, ro_g2, ro_n2, ro_w2, ro_i3, ro_g3, ro_n3, ro_w3, ro_i4, ro_g4, ro_n4, ro_w4, ro_i5, ro_g5, ro_n5, ro_w5, ro_i6, ro_g6, ro_n6, ro_w6, ro_i7, ro_g7, ro_n7, ro_w7, ro_i8, ro_g8, ro_n8, ro_w8, ro_i9, ro_g9, ro_n9, ro_w9, zu_eq, zu_ne, zu_zu, upd_zu, updL_zu, p1, q1, k1, eu, tb_0 hT1, T_share hT1, h11, hcm2, show p < 6 by omega, show q < 6 by omega, show k < 6 by omega, decide_true]
      · have hcm2 := hcm.trans (eq_false z)
        rw [zall_s, show ag1 T w t p q k = false by unfold ag1; rw [hc, decide_eq_false z]; rfl, Bool.false_and, if_neg (by decide)]
        simp (disch := first | omega | exact zb_1 | exact zb_0 | exact zb_n1 | exact zb_n0) only [x70_41, x70_43, x70_46, x70_47, x70_48, x70_51, x70_52, x70_53, x70_54, x70_57, x70_58, x70_59, x70_60, x70_63, x70_65, x70_66, x70_69, x70_70, x70_73, x70_74, x70_75, x70_77, x70_80, x70_81, x70_82, x70_85, x70_86, x70_87, x70_90, x70_91, mq_dl_int, mq_dl_ref, mq_dl_null, mq_dl_none, mc_some, Option.toList_some, Option.toList_none, List.cons_append, List.nil_append, zb_1, zb_0, ↓reduceIte, if_true, if_false, not_true_eq_false, not_false_eq_true, Bool.false_eq_true, z_10, z_01, eq_self, Bool.and_self, true_or, or_true, false_or, or_false, true_and, and_true, false_and, and_false, and_self, or_self, Nat.reduceLT, Nat.reduceEqDiff, Nat.reduceLeDiff, Nat.reduceAdd, Nat.reduceMul, Nat.reduceSub, zn_lit, zn_add, zn_mul, zn_sub, zn_addneg, zn_lt, zn_le, zn_eq, zn_clamp, zn_in, zn_long, lc_eq, lc_gt, lc_lt, lc_le, lc_ge, zln_mul, hp_1, hp_21, ro_0, ro_mo, ro_f0, ro_f1, ro_s1, ro_k1, ro_f2, ro_f3, ro_f4, ro_f5, ro_f6, ro_f7, ro_f8, ro_f9, ro_s9, ro_k9, ro_f10, ro_f11, ro_s11, ro_k11, ro_f12, ro_f13, ro_s13, ro_k13, ro_f14, ro_s14, ro_f15, ro_s15, ro_k15, ro_i1, ro_g1, ro_n1, ro_w1, ro_i2, ro_g2, ro_n2, ro_w2, ro_i3, ro_g3, ro_n3, ro_w3, ro_i4, ro_g4, ro_n4, ro_w4, ro_i5, ro_g5, ro_n5, ro_w5, ro_i6, ro_g6, ro_n6, ro_w6, ro_i7, ro_g7, ro_n7, ro_w7, ro_i8, ro_g8, ro_n8, ro_w8, ro_i9, ro_g9, ro_n9, ro_w9, zu_eq, zu_ne, zu_zu, upd_zu, updL_zu, p1, q1, k1, eu, tb_0 hT1, T_share hT1, h11, hcm2, show p < 6 by omega, show q < 6 by omega, show k < 6 by omega, decide_true, zo_f]
theorem C_agq (hg : 46 ≤ g) (hga : a + 2 < g) (hsm : smT T = true) (hF : RSF T i j f h) (hT : TB c a T) (hW : WT T) (hs : spT T = true) (d t p : Nat) (ht : t < T.1) (hp' : p ≤ t) (hw : ∀ y, y ≤ t → f 9 y = zn (w y) ∧ w y < (RW T).length) : ∀ (e q : Nat) (o4 o5 : Option Value), q + e = p + 1 → ∃ o4' o5', mz (d + 2) 70 9 [some (.ref g), some (.int (zn t)), some (.int (zn p)), some (.int (zn q)), o4, o5] [] (hp n s (ro c g a i j f h) I J A B R Q) = if zall (fun q => agK T w t p q) q e = true then mz (d + 2) 70 104 [some (.ref g), some (.int (zn t)), some (.int (zn p)), some (.int (zn (p + 1))), o4', o5'] [] (hp n s (ro c g a i j f h) I J A B R Q) else some (some (some (.int (zo false))), hp n s (ro c g a i j f h) I J A B R Q)
  | 0, q, o4, o5, hq => by
    have hm := hW.2.1
    have e : q = p + 1 := by omega
    subst e
    refine ⟨o4, o5, ?_⟩
    simp (disch := first | omega | exact zb_1 | exact zb_0 | exact zb_n1 | exact zb_n0) only [x70_9, x70_10, x70_11, mq_dl_int, mq_dl_ref, mq_dl_null, mq_dl_none, mc_some, Option.toList_some, Option.toList_none, List.cons_append, List.nil_append, zb_1, zb_0, ↓reduceIte, if_true, if_false, not_true_eq_false, not_false_eq_true, Bool.false_eq_true, z_10, z_01, eq_self, Bool.and_self, true_or, or_true, false_or, or_false, true_and, and_true, false_and, and_false, and_self, or_self, Nat.reduceLT, Nat.reduceEqDiff, Nat.reduceLeDiff, Nat.reduceAdd, Nat.reduceMul, Nat.reduceSub, zn_lit, zn_add, zn_mul, zn_sub, zn_addneg, zn_lt, zn_le, zn_eq, zn_clamp, zn_in, zn_long, show p < p + 1 by omega, zall]
  | e + 1, q, o4, o5, hq => by
    have hm := hW.2.1
    obtain ⟨p5, e1⟩ := C_agk (n := n) (s := s) (c := c) (I := I) (J := J) (A := A) (B := B) (R := R) (Q := Q) hg hga hsm hF hT hW hs d t p q ht hp' (by omega) hw (t + 1) 0 o5 (by omega)
    obtain ⟨o4', o5', ih⟩ := C_agq hg hga hsm hF hT hW hs d t p ht hp' hw e (q + 1) (some (.int (zn (t + 1)))) p5 (by omega)
    refine ⟨o4', o5', ?_⟩
    rw [x70_9]
    simp (disch := first | omega | exact zb_1 | exact zb_0 | exact zb_n1 | exact zb_n0) only [x70_10, x70_11, x70_14, x70_15, mq_dl_int, mq_dl_ref, mq_dl_null, mq_dl_none, mc_some, Option.toList_some, Option.toList_none, List.cons_append, List.nil_append, zb_1, zb_0, ↓reduceIte, if_true, if_false, not_true_eq_false, not_false_eq_true, Bool.false_eq_true, z_10, z_01, eq_self, Bool.and_self, true_or, or_true, false_or, or_false, true_and, and_true, false_and, and_false, and_self, or_self, Nat.reduceLT, Nat.reduceEqDiff, Nat.reduceLeDiff, Nat.reduceAdd, Nat.reduceMul, Nat.reduceSub, zn_lit, zn_add, zn_mul, zn_sub, zn_addneg, zn_lt, zn_le, zn_eq, zn_clamp, zn_in, zn_long, show ¬ p < q by omega]
    rw [e1]
    have er : zall (fun k => ag1 T w t p q k) 0 (t + 1) = agK T w t p q := rfl
    rw [er]
    by_cases z : agK T w t p q = true
    · rw [if_pos z, zall_s, z, Bool.true_and, ← ih]
      simp (disch := first | omega | exact zb_1 | exact zb_0 | exact zb_n1 | exact zb_n0) only [x70_98, x70_101, mq_dl_int, mq_dl_ref, mq_dl_null, mq_dl_none, mc_some, Option.toList_some, Option.toList_none, List.cons_append, List.nil_append, zb_1, zb_0, ↓reduceIte, if_true, if_false, not_true_eq_false, not_false_eq_true, Bool.false_eq_true, z_10, z_01, eq_self, Bool.and_self, true_or, or_true, false_or, or_false, true_and, and_true, false_and, and_false, and_self, or_self, Nat.reduceLT, Nat.reduceEqDiff, Nat.reduceLeDiff, Nat.reduceAdd, Nat.reduceMul, Nat.reduceSub, zn_lit, zn_add, zn_mul, zn_sub, zn_addneg, zn_lt, zn_le, zn_eq, zn_clamp, zn_in, zn_long]
    · rw [if_neg z, zall_s, Bool.eq_false_iff.mpr z, Bool.false_and, if_neg (by decide)]
theorem C_agp (hg : 46 ≤ g) (hga : a + 2 < g) (hsm : smT T = true) (hF : RSF T i j f h) (hT : TB c a T) (hW : WT T) (hs : spT T = true) (d t : Nat) (ht : t < T.1) (hw : ∀ y, y ≤ t → f 9 y = zn (w y) ∧ w y < (RW T).length) : ∀ (e p : Nat) (o3 o4 o5 : Option Value), p + e = t + 1 → mz (d + 2) 70 2 [some (.ref g), some (.int (zn t)), some (.int (zn p)), o3, o4, o5] [] (hp n s (ro c g a i j f h) I J A B R Q) = some (some (some (.int (zo (zall (fun p => agQ T w t p) p e)))), hp n s (ro c g a i j f h) I J A B R Q)
  | 0, p, o3, o4, o5, hp' => by
    have hm := hW.2.1
    have e : p = t + 1 := by omega
    subst e
    simp (disch := first | omega | exact zb_1 | exact zb_0 | exact zb_n1 | exact zb_n0) only [x70_2, x70_3, x70_4, x70_110, x70_111, mq_dl_int, mq_dl_ref, mq_dl_null, mq_dl_none, mc_some, Option.toList_some, Option.toList_none, List.cons_append, List.nil_append, zb_1, zb_0, ↓reduceIte, if_true, if_false, not_true_eq_false, not_false_eq_true, Bool.false_eq_true, z_10, z_01, eq_self, Bool.and_self, true_or, or_true, false_or, or_false, true_and, and_true, false_and, and_false, and_self, or_self, Nat.reduceLT, Nat.reduceEqDiff, Nat.reduceLeDiff, Nat.reduceAdd, Nat.reduceMul, Nat.reduceSub, zn_lit, zn_add, zn_mul, zn_sub, zn_addneg, zn_lt, zn_le, zn_eq, zn_clamp, zn_in, zn_long, show t < t + 1 by omega, zall, zo_t]
  | e + 1, p, o3, o4, o5, hp' => by
    have hm := hW.2.1
    obtain ⟨p4, p5, e1⟩ := C_agq (n := n) (s := s) (c := c) (I := I) (J := J) (A := A) (B := B) (R := R) (Q := Q) hg hga hsm hF hT hW hs d t p ht (by omega) hw (p + 1) 0 o4 o5 (by omega)
    rw [x70_2]
    simp (disch := first | omega | exact zb_1 | exact zb_0 | exact zb_n1 | exact zb_n0) only [x70_3, x70_4, x70_7, x70_8, mq_dl_int, mq_dl_ref, mq_dl_null, mq_dl_none, mc_some, Option.toList_some, Option.toList_none, List.cons_append, List.nil_append, zb_1, zb_0, ↓reduceIte, if_true, if_false, not_true_eq_false, not_false_eq_true, Bool.false_eq_true, z_10, z_01, eq_self, Bool.and_self, true_or, or_true, false_or, or_false, true_and, and_true, false_and, and_false, and_self, or_self, Nat.reduceLT, Nat.reduceEqDiff, Nat.reduceLeDiff, Nat.reduceAdd, Nat.reduceMul, Nat.reduceSub, zn_lit, zn_add, zn_mul, zn_sub, zn_addneg, zn_lt, zn_le, zn_eq, zn_clamp, zn_in, zn_long, show ¬ t < p by omega]
    rw [e1]
    have er : zall (fun q => agK T w t p q) 0 (p + 1) = agQ T w t p := rfl
    rw [er]
    by_cases z : agQ T w t p = true
    · rw [if_pos z, zall_s, z, Bool.true_and]
      simp (disch := first | omega | exact zb_1 | exact zb_0 | exact zb_n1 | exact zb_n0) only [x70_104, x70_107, mq_dl_int, mq_dl_ref, mq_dl_null, mq_dl_none, mc_some, Option.toList_some, Option.toList_none, List.cons_append, List.nil_append, zb_1, zb_0, ↓reduceIte, if_true, if_false, not_true_eq_false, not_false_eq_true, Bool.false_eq_true, z_10, z_01, eq_self, Bool.and_self, true_or, or_true, false_or, or_false, true_and, and_true, false_and, and_false, and_self, or_self, Nat.reduceLT, Nat.reduceEqDiff, Nat.reduceLeDiff, Nat.reduceAdd, Nat.reduceMul, Nat.reduceSub, zn_lit, zn_add, zn_mul, zn_sub, zn_addneg, zn_lt, zn_le, zn_eq, zn_clamp, zn_in, zn_long]
      exact C_agp hg hga hsm hF hT hW hs d t ht hw e (p + 1) _ _ _ (by omega)
    · rw [if_neg z, zall_s, Bool.eq_false_iff.mpr z, Bool.false_and]
theorem C_ag (hg : 46 ≤ g) (hga : a + 2 < g) (hsm : smT T = true) (hF : RSF T i j f h) (hT : TB c a T) (hW : WT T) (hs : spT T = true) (d t : Nat) (ht : t < T.1) (hw : ∀ y, y ≤ t → f 9 y = zn (w y) ∧ w y < (RW T).length) : mz (d + 2) 70 0 [some (.ref g), some (.int (zn t)), none, none, none, none] [] (hp n s (ro c g a i j f h) I J A B R Q) = some (some (some (.int (zo (agT T w t)))), hp n s (ro c g a i j f h) I J A B R Q) := by
  have e := C_agp (n := n) (s := s) (c := c) (I := I) (J := J) (A := A) (B := B) (R := R) (Q := Q) hg hga hsm hF hT hW hs d t ht hw (t + 1) 0 none none none (by omega)
  unfold agT
  rw [← e]
  simp (disch := first | omega | exact zb_1 | exact zb_0 | exact zb_n1 | exact zb_n0) only [x70_0, x70_1, mq_dl_int, mq_dl_ref, mq_dl_null, mq_dl_none, mc_some, Option.toList_some, Option.toList_none, List.cons_append, List.nil_append, zb_1, zb_0, ↓reduceIte, if_true, if_false, not_true_eq_false, not_false_eq_true, Bool.false_eq_true, z_10, z_01, eq_self, Bool.and_self, true_or, or_true, false_or, or_false, true_and, and_true, false_and, and_false, and_self, or_self, Nat.reduceLT, Nat.reduceEqDiff, Nat.reduceLeDiff, Nat.reduceAdd, Nat.reduceMul, Nat.reduceSub, zn_lit, zn_add, zn_mul, zn_sub, zn_addneg, zn_lt, zn_le, zn_eq, zn_clamp, zn_in, zn_long]
end TWN
