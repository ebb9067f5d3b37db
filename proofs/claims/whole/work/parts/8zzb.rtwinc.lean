/-! TWIN: the reference matches -/
section RTM
variable {n s : Nat} {c : Nat → mq_E} {I : Nat → Int32} {J : Nat → Int64} {A : Nat → Nat → Int32} {B : Nat → Nat → Int64} {R : Nat → Value} {Q : Nat → Nat → Option Nat}
variable {T : ZT}
/-- the reference's search of matches from thing t on -/
def R_MM (T : ZT) (n s : Nat) (c : Nat → mq_E) (I : Nat → Int32) (B : Nat → Nat → Int64) (R : Nat → Value) (Q : Nat → Nat → Option Nat) (d r : Nat) : Prop := ∀ (t u : Nat) (J : Nat → Int64) (A : Nat → Nat → Int32) (w : Nat → Nat), t + r = T.1 → RT T (A 29) → RRQ T (RW T) (I 1177) (A 38) → (∀ y, y < t → A 40 y = zn (w y) ∧ w y < (RW T).length) → (∀ p q, p < t → q < t → w p = w q → p = q) → (1 ≤ t → w 0 = (RW T).length - 1) → u < 64 → (∀ y, u.testBit y = true ↔ ∃ p, p < t ∧ w p = y) → ∃ b J' A', (b = true ↔ EXM T t w) ∧ (∀ q, q ≠ 1180 → q ≠ 1181 → J' q = J q) ∧ (∀ q, q ≠ 40 → A' q = A q) ∧ (∀ y, y < t → A' 40 y = A 40 y) ∧ mz (d + r + 7) 250 0 [some (.ref 23), some (.int (zn t)), some (.int (zn u)), none] [] (hp n s c I J A B R Q) = some (some (some (.int (zo b))), hp n s c I J' A' B R Q)
theorem R_mm0 (hW : WT T) (hG : gdT T = true) (ho : orT T ≤ 60) (hs : spT T = true) (d : Nat) : R_MM T n s c I B R Q d 0 := by
  have h6 := hW.2.1
  have h1 := hW.1
  intro t u J A w ht hS hQ hw hinj hw0 hu hb
  have e : t = T.1 := by omega
  subst e
  obtain ⟨J', g1, g2⟩ := R_atw (n := n) (s := s) (c := c) (I := I) (J := J) (B := B) (R := R) (Q := Q) hS hW hG ho hs hQ hw (d + 0)
  refine ⟨tw4 T w, J', A, ?_, g1, fun _ _ => rfl, fun _ _ => rfl, ?_⟩
  · rw [tw4_iff]
    constructor
    · intro h
      exact ⟨w, fun _ _ => rfl, hw0 (by omega), fun p hp' => (hw p hp').2, hinj, h⟩
    · rintro ⟨w', k1, k2, k3, k4, k5⟩ p q k hp' hq hk
      rw [← k1 p hp', ← k1 q hq, ← k1 k hk]
      exact k5 p q k hp' hq hk
  · simp (disch := first | omega | exact zo_1 _) only [x250_0, x250_1, x250_2, x250_5, x250_8, x250_9, x250_12, mq_dl_int, mq_dl_ref, mq_dl_null, mq_dl_none, mc_some, Option.toList_some, Option.toList_none, List.cons_append, List.nil_append, zb_1, zb_0, ↓reduceIte, if_true, if_false, not_true_eq_false, not_false_eq_true, Bool.false_eq_true, z_10, z_01, eq_self, Bool.and_self, true_or, or_true, false_or, or_false, true_and, and_true, false_and, and_false, and_self, or_self, Nat.reduceLT, Nat.reduceEqDiff, Nat.reduceLeDiff, Nat.reduceAdd, Nat.reduceMul, Nat.reduceSub, zn_lit, zn_add, zn_mul, zn_sub, zn_addneg, zn_lt, zn_le, zn_eq, zn_clamp, zn_in, zn_long, ho_23, S_things hS, g2]
theorem R_mml (hW : WT T) (hG : gdT T = true) (ho : orT T ≤ 60) (hs : spT T = true) (d r : Nat) (IH : R_MM T n s c I B R Q d r) (t u : Nat) (w : Nat → Nat) (ht : t + (r + 1) = T.1) (hu : u < 64) (hinj : ∀ p q, p < t → q < t → w p = w q → p = q) (hwl : ∀ y, y < t → w y < (RW T).length) (hw0 : 1 ≤ t → w 0 = (RW T).length - 1) (hb : ∀ y, u.testBit y = true ↔ ∃ p, p < t ∧ w p = y) : ∀ (e x : Nat) (J : Nat → Int64) (A : Nat → Nat → Int32), x + e = T.1 → RT T (A 29) → RRQ T (RW T) (I 1177) (A 38) → (∀ y, y < t → A 40 y = zn (w y)) → ∃ b J' A', (b = true ↔ ∃ y, x ≤ y ∧ y < (RW T).length ∧ (∀ p, p < t → w p ≠ y) ∧ (t = 0 → y = (RW T).length - 1) ∧ EXM T (t + 1) (zu w t y)) ∧ (∀ q, q ≠ 1180 → q ≠ 1181 → J' q = J q) ∧ (∀ q, q ≠ 40 → A' q = A q) ∧ (∀ y, y < t → A' 40 y = A 40 y) ∧ mz (d + r + 8) 250 15 [some (.ref 23), some (.int (zn t)), some (.int (zn u)), some (.int (zn x))] [] (hp n s c I J A B R Q) = some (some (some (.int (zo b))), hp n s c I J' A' B R Q)
  | 0, x, J, A, hx, hS, hQ, hw => by
    have h6 := hW.2.1
    have hl := (sp_len hs).1
    have e : x = T.1 := by omega
    subst e
    refine ⟨false, J, A, ⟨fun h => by (cases h), fun ⟨y, h1, h2, _⟩ => by omega⟩, fun _ _ _ => rfl, fun _ _ => rfl, fun _ _ => rfl, ?_⟩
    simp (disch := first | omega | exact zb_1 | exact zb_0 | exact zb_n1 | exact zb_n0) only [x250_15, x250_16, x250_17, x250_20, x250_73, x250_74, mq_dl_int, mq_dl_ref, mq_dl_null, mq_dl_none, mc_some, Option.toList_some, Option.toList_none, List.cons_append, List.nil_append, zb_1, zb_0, ↓reduceIte, if_true, if_false, not_true_eq_false, not_false_eq_true, Bool.false_eq_true, z_10, z_01, eq_self, Bool.and_self, true_or, or_true, false_or, or_false, true_and, and_true, false_and, and_false, and_self, or_self, Nat.reduceLT, Nat.reduceEqDiff, Nat.reduceLeDiff, Nat.reduceAdd, Nat.reduceMul, Nat.reduceSub, zn_lit, zn_add, zn_mul, zn_sub, zn_addneg, zn_lt, zn_le, zn_eq, zn_clamp, zn_in, zn_long, ho_23, S_things hS, Nat.le_refl, zo_f]
  | e + 1, x, J, A, hx, hS, hQ, hw => by
    have h6 := hW.2.1
    have hl := (sp_len hs).1
    have hskip : (∀ (J1 : Nat → Int64) (A1 : Nat → Nat → Int32), (∀ q, q ≠ 1180 → q ≠ 1181 → J1 q = J q) → (∀ q, q ≠ 40 → A1 q = A q) → (∀ y, y < t → A1 40 y = A 40 y) → ¬ ((∀ p, p < t → w p ≠ x) ∧ (t = 0 → x = (RW T).length - 1) ∧ EXM T (t + 1) (zu w t x)) → mz (d + r + 8) 250 15 [some (.ref 23), some (.int (zn t)), some (.int (zn u)), some (.int (zn x))] [] (hp n s c I J A B R Q) = mz (d + r + 8) 250 15 [some (.ref 23), some (.int (zn t)), some (.int (zn u)), some (.int (zn (x + 1)))] [] (hp n s c I J1 A1 B R Q) → ∃ b J' A', (b = true ↔ ∃ y, x ≤ y ∧ y < (RW T).length ∧ (∀ p, p < t → w p ≠ y) ∧ (t = 0 → y = (RW T).length - 1) ∧ EXM T (t + 1) (zu w t y)) ∧ (∀ q, q ≠ 1180 → q ≠ 1181 → J' q = J q) ∧ (∀ q, q ≠ 40 → A' q = A q) ∧ (∀ y, y < t → A' 40 y = A 40 y) ∧ mz (d + r + 8) 250 15 [some (.ref 23), some (.int (zn t)), some (.int (zn u)), some (.int (zn x))] [] (hp n s c I J A B R Q) = some (some (some (.int (zo b))), hp n s c I J' A' B R Q)) := by
      intro J1 A1 hj1 hf1 hf2 hno hm2
      obtain ⟨b, J', A', g1, g0, g2, g3, g4⟩ := R_mml hW hG ho hs d r IH t u w ht hu hinj hwl hw0 hb e (x + 1) J1 A1 (by omega) (by rw [hf1 29 (by omega)]; exact hS) (by rw [hf1 38 (by omega)]; exact hQ) (fun y hy => by rw [hf2 y hy]; exact hw y hy)
      refine ⟨b, J', A', g1.trans ⟨fun ⟨y, h1, h2⟩ => ⟨y, by omega, h2⟩, fun ⟨y, h1, h2, h3⟩ => ?_⟩, fun q h1 h2 => by rw [g0 q h1 h2, hj1 q h1 h2], fun q hq => by rw [g2 q hq, hf1 q hq], fun y hy => by rw [g3 y hy, hf2 y hy], hm2.trans g4⟩
      by_cases z : y = x
      · subst z; exact absurd h3 hno
      · exact ⟨y, by omega, h2, h3⟩
    cases hbit : u.testBit x with
    | true =>
      refine hskip J A (fun _ _ _ => rfl) (fun _ _ => rfl) (fun _ _ => rfl) ?_ ?_
      · obtain ⟨p, h1, h2⟩ := (hb x).mp hbit
        exact fun h => h.1 p h1 h2
      · rw [x250_15]
        simp (disch := first | omega | exact zb_1 | exact zb_0 | exact zb_n1 | exact zb_n0) only [x250_16, x250_17, x250_20, x250_23, x250_24, x250_25, x250_26, x250_27, x250_28, x250_67, x250_70, mq_dl_int, mq_dl_ref, mq_dl_null, mq_dl_none, mc_some, Option.toList_some, Option.toList_none, List.cons_append, List.nil_append, zb_1, zb_0, ↓reduceIte, if_true, if_false, not_true_eq_false, not_false_eq_true, Bool.false_eq_true, z_10, z_01, eq_self, Bool.and_self, true_or, or_true, false_or, or_false, true_and, and_true, false_and, and_false, and_self, or_self, Nat.reduceLT, Nat.reduceEqDiff, Nat.reduceLeDiff, Nat.reduceAdd, Nat.reduceMul, Nat.reduceSub, zn_lit, zn_add, zn_mul, zn_sub, zn_addneg, zn_lt, zn_le, zn_eq, zn_clamp, zn_in, zn_long, zn_shr, zn_bt, zo_e0, hbit, ho_23, S_things hS, show ¬ T.1 ≤ x by omega, zo_t]
    | false =>
      have hfree : ∀ p, p < t → w p ≠ x := by
        intro p h1 h2
        have := (hb x).mpr ⟨p, h1, h2⟩
        rw [hbit] at this
        cases this
      by_cases hz : t = 0 ∧ ¬ x = (RW T).length - 1
      · refine hskip J A (fun _ _ _ => rfl) (fun _ _ => rfl) (fun _ _ => rfl) (fun h => hz.2 (h.2.1 hz.1)) ?_
        have ei := R_iso (n := n) (s := s) (c := c) (I := I) (J := J) (B := B) (R := R) (Q := Q) hS hW hG ho hQ (d + r + 4) x (by omega)
        rw [decide_eq_false hz.2] at ei
        have ht0 := hz.1
        subst ht0
        rw [x250_15]
        simp (disch := first | omega | exact zb_1 | exact zb_0 | exact zb_n1 | exact zb_n0) only [x250_16, x250_17, x250_20, x250_23, x250_24, x250_25, x250_26, x250_27, x250_28, x250_31, x250_32, x250_35, x250_36, x250_37, x250_40, x250_67, x250_70, mq_dl_int, mq_dl_ref, mq_dl_null, mq_dl_none, mc_some, Option.toList_some, Option.toList_none, List.cons_append, List.nil_append, zb_1, zb_0, ↓reduceIte, if_true, if_false, not_true_eq_false, not_false_eq_true, Bool.false_eq_true, z_10, z_01, eq_self, Bool.and_self, true_or, or_true, false_or, or_false, true_and, and_true, false_and, and_false, and_self, or_self, Nat.reduceLT, Nat.reduceEqDiff, Nat.reduceLeDiff, Nat.reduceAdd, Nat.reduceMul, Nat.reduceSub, zn_lit, zn_add, zn_mul, zn_sub, zn_addneg, zn_lt, zn_le, zn_eq, zn_clamp, zn_in, zn_long, zn_shr, zn_bt, zo_e0, hbit, ho_23, S_things hS, ei, Nat.not_lt_zero, show ¬ T.1 ≤ x by omega, zo_f]
      · have hz0 : t = 0 → x = (RW T).length - 1 := fun h => by
          by_cases z : x = (RW T).length - 1
          · exact z
          · exact absurd ⟨h, z⟩ hz
        obtain ⟨A1, hA1⟩ : ∃ A1, A1 = zu A 40 (zu (A 40) t (zn x)) := ⟨_, rfl⟩
        have hw1 : ∀ y, y < t + 1 → A1 40 y = zn (zu w t x y) ∧ zu w t x y < (RW T).length := by
          intro y hy
          rw [hA1, zu_eq]
          by_cases z : y = t
          · subst z; rw [zu_eq, zu_eq]; exact ⟨rfl, by omega⟩
          · rw [zu_ne _ _ _ _ z, zu_ne _ _ _ _ z]; exact ⟨hw y (by omega), hwl y (by omega)⟩
        have e0 : mz (d + r + 8) 250 15 [some (.ref 23), some (.int (zn t)), some (.int (zn u)), some (.int (zn x))] [] (hp n s c I J A B R Q) = mz (d + r + 8) 250 50 [some (.ref 23), some (.int (zn t)), some (.int (zn u)), some (.int (zn x))] [] (hp n s c I J A1 B R Q) := by
          rw [x250_15, hA1]
          by_cases t0 : t = 0
          · have ei := R_iso (n := n) (s := s) (c := c) (I := I) (J := J) (B := B) (R := R) (Q := Q) hS hW hG ho hQ (d + r + 4) x (by omega)
            rw [decide_eq_true (hz0 t0)] at ei
            subst t0
            simp (disch := first | omega | exact zb_1 | exact zb_0 | exact zb_n1 | exact zb_n0) only [x250_16, x250_17, x250_20, x250_23, x250_24, x250_25, x250_26, x250_27, x250_28, x250_31, x250_32, x250_35, x250_36, x250_37, x250_40, x250_43, x250_44, x250_47, x250_48, x250_49, mq_dl_int, mq_dl_ref, mq_dl_null, mq_dl_none, mc_some, Option.toList_some, Option.toList_none, List.cons_append, List.nil_append, zb_1, zb_0, ↓reduceIte, if_true, if_false, not_true_eq_false, not_false_eq_true, Bool.false_eq_true, z_10, z_01, eq_self, Bool.and_self, true_or, or_true, false_or, or_false, true_and, and_true, false_and, and_false, and_self, or_self, Nat.reduceLT, Nat.reduceEqDiff, Nat.reduceLeDiff, Nat.reduceAdd, Nat.reduceMul, Nat.reduceSub, zn_lit, zn_add, zn_mul, zn_sub, zn_addneg, zn_lt, zn_le, zn_eq, zn_clamp, zn_in, zn_long, zn_shr, zn_bt, zo_e0, hbit, hp_1, hp_21, upd_zu, updL_zu, updQ_zu, zu_eq, zu_ne, ho_23, ho_23_0, hf_23_0, hk_23_0, hw_23_0, ho_23_1, hf_23_1, ho_23_2, hf_23_2, hk_23_2, hw_23_2, ho_23_3, hf_23_3, hk_23_3, hw_23_3, ho_23_4, hf_23_4, ho_23_5, hf_23_5, ho_23_6, hf_23_6, ho_23_7, hf_23_7, hk_23_7, hw_23_7, ho_23_8, hf_23_8, hk_23_8, hw_23_8, ho_23_9, hf_23_9, ho_23_10, hf_23_10, ho_23_11, hf_23_11, hk_23_11, hw_23_11, ho_23_12, hf_23_12, hk_23_12, hw_23_12, ho_23_13, hf_23_13, ho_23_14, hf_23_14, ho_23_15, hf_23_15, ho_23_16, hf_23_16, hk_23_16, hw_23_16, ho_23_17, hf_23_17, ho_23_18, hf_23_18, ho_23_19, hf_23_19, hk_23_19, hw_23_19, ho_23_20, hf_23_20, ho_23_21, hf_23_21, hk_23_21, hw_23_21, ho_23_22, hf_23_22, hk_23_22, hw_23_22, ho_23_23, hf_23_23, hk_23_23, hw_23_23, ho_23_24, hf_23_24, hk_23_24, hw_23_24, ho_23_25, hf_23_25, ho_23_26, hf_23_26, ho_23_27, hf_23_27, hk_23_27, hw_23_27, ho_23_28, hf_23_28, ho_23_29, hf_23_29, ho_23_30, hf_23_30, hk_23_30, hw_23_30, ho_23_31, hf_23_31, hk_23_31, hw_23_31, ho_23_32, hf_23_32, ho_23_33, hf_23_33, ho_23_34, hf_23_34, hk_23_34, hw_23_34, ho_23_35, hf_23_35, hk_23_35, hw_23_35, ho_23_36, hf_23_36, hk_23_36, hw_23_36, ho_23_37, hf_23_37, ho_23_38, hf_23_38, ho_23_39, hf_23_39, hn_24, hi_24, hj_24, hg_24, hu_24, hn_25, hi_25, hj_25, hg_25, hu_25, hn_26, hi_26, hj_26, hg_26, hu_26, hn_27, hi_27, hg_27, hu_27, hn_28, hi_28, hg_28, hu_28, hn_29, hi_29, hj_29, hg_29, hu_29, hn_30, hi_30, hj_30, hg_30, hu_30, hn_31, hi_31, hj_31, hg_31, hu_31, hn_32, hi_32, hj_32, hg_32, hu_32, hn_33, hi_33, hj_33, hg_33, hu_33, hn_34, hi_34, hj_34, hg_34, hu_34, hn_35, hi_35, hj_35, hg_35, hu_35, hn_36, hi_36, hj_36, hg_36, hu_36, hn_37, hi_37, hg_37, hu_37, hn_38, hi_38, hj_38, hg_38, hu_38, hn_39, hi_39, hj_39, hg_39, hu_39, hn_40, hi_40, hj_40, hg_40, hu_40, hn_41, hi_41, hj_41, hg_41, hu_41, hn_42, hi_42, hg_42, hu_42, hn_43, hi_43, hg_43, hu_43, hn_44, hi_44, hj_44, hg_44, hu_44, hn_45, hi_45, hg_45, hu_45, S_things hS, ei, Nat.not_lt_zero, show ¬ T.1 ≤ x by omega, show 0 < 6 by omega, decide_true, zo_t, zo_f]
          · simp (disch := first | omega | exact zb_1 | exact zb_0 | exact zb_n1 | exact zb_n0) only [x250_16, x250_17, x250_20, x250_23, x250_24, x250_25, x250_26, x250_27, x250_28, x250_31, x250_32, x250_43, x250_44, x250_47, x250_48, x250_49, mq_dl_int, mq_dl_ref, mq_dl_null, mq_dl_none, mc_some, Option.toList_some, Option.toList_none, List.cons_append, List.nil_append, zb_1, zb_0, ↓reduceIte, if_true, if_false, not_true_eq_false, not_false_eq_true, Bool.false_eq_true, z_10, z_01, eq_self, Bool.and_self, true_or, or_true, false_or, or_false, true_and, and_true, false_and, and_false, and_self, or_self, Nat.reduceLT, Nat.reduceEqDiff, Nat.reduceLeDiff, Nat.reduceAdd, Nat.reduceMul, Nat.reduceSub, zn_lit, zn_add, zn_mul, zn_sub, zn_addneg, zn_lt, zn_le, zn_eq, zn_clamp, zn_in, zn_long, zn_shr, zn_bt, zo_e0, hbit, hp_1, hp_21, upd_zu, updL_zu, updQ_zu, zu_eq, zu_ne, ho_23, ho_23_0, hf_23_0, hk_23_0, hw_23_0, ho_23_1, hf_23_1, ho_23_2, hf_23_2, hk_23_2, hw_23_2, ho_23_3, hf_23_3, hk_23_3, hw_23_3, ho_23_4, hf_23_4, ho_23_5, hf_23_5, ho_23_6, hf_23_6, ho_23_7, hf_23_7, hk_23_7, hw_23_7, ho_23_8, hf_23_8, hk_23_8, hw_23_8, ho_23_9, hf_23_9, ho_23_10, hf_23_10, ho_23_11, hf_23_11, hk_23_11, hw_23_11, ho_23_12, hf_23_12, hk_23_12, hw_23_12, ho_23_13, hf_23_13, ho_23_14, hf_23_14, ho_23_15, hf_23_15, ho_23_16, hf_23_16, hk_23_16, hw_23_16, ho_23_17, hf_23_17, ho_23_18, hf_23_18, ho_23_19, hf_23_19, hk_23_19, hw_23_19, ho_23_20, hf_23_20, ho_23_21, hf_23_21, hk_23_21, hw_23_21, ho_23_22, hf_23_22, hk_23_22, hw_23_22, ho_23_23, hf_23_23, hk_23_23, hw_23_23, ho_23_24, hf_23_24, hk_23_24, hw_23_24, ho_23_25, hf_23_25, ho_23_26, hf_23_26, ho_23_27, hf_23_27, hk_23_27, hw_23_27, ho_23_28, hf_23_28, ho_23_29, hf_23_29, ho_23_30, hf_23_30, hk_23_30, hw_23_30, ho_23_31, hf_23_31, hk_23_31, hw_23_31, ho_23_32, hf_23_32, ho_23_33, hf_23_33, ho_23_34, hf_23_34, hk_23_34, hw_23_34, ho_23_35, hf_23_35, hk_23_35, hw_23_35, ho_23_36, hf_23_36, hk_23_36, hw_23_36, ho_23_37, hf_23_37, ho_23_38, hf_23_38, ho_23_39, hf_23_39, hn_24, hi_24, hj_24, hg_24, hu_24, hn_25, hi_25, hj_25, hg_25, hu_25, hn_26, hi_26, hj_26, hg_26, hu_26, hn_27, hi_27, hg_27, hu_27, hn_28, hi_28, hg_28, hu_28, hn_29, hi_29, hj_29, hg_29, hu_29, hn_30, hi_30, hj_30, hg_30, hu_30, hn_31, hi_31, hj_31, hg_31, hu_31, hn_32, hi_32, hj_32, hg_32, hu_32, hn_33, hi_33, hj_33, hg_33, hu_33, hn_34, hi_34, hj_34, hg_34, hu_34, hn_35, hi_35, hj_35, hg_35, hu_35, hn_36, hi_36, hj_36, hg_36, hu_36, hn_37, hi_37, hg_37, hu_37, hn_38, hi_38, hj_38, hg_38, hu_38, hn_39, hi_39, hj_39, hg_39, hu_39, hn_40, hi_40, hj_40, hg_40, hu_40, hn_41, hi_41, hj_41, hg_41, hu_41, hn_42, hi_42, hg_42, hu_42, hn_43, hi_43, hg_43, hu_43, hn_44, hi_44, hj_44, hg_44, hu_44, hn_45, hi_45, hg_45, hu_45, S_things hS, show 0 < t by omega, show ¬ T.1 ≤ x by omega, show t < 6 by omega, decide_true, zo_f]
        obtain ⟨b1, J2, A2, k1, k0, k2, k3, k4⟩ := IH (t + 1) (u ||| 1 <<< x) J A1 (zu w t x) (by omega) (by rw [hA1, zu_ne _ _ _ _ (by omega)]; exact hS) (by rw [hA1, zu_ne _ _ _ _ (by omega)]; exact hQ) hw1 (fun p q h1 h2 h3 => by
          by_cases zp : p = t
          · subst zp
            by_cases zq : q = p
            · omega
            · rw [zu_eq, zu_ne _ _ _ _ zq] at h3
              exact absurd h3.symm (hfree q (by omega))
          · rw [zu_ne _ _ _ _ zp] at h3
            by_cases zq : q = t
            · subst zq
              rw [zu_eq] at h3
              exact absurd h3 (hfree p (by omega))
            · rw [zu_ne _ _ _ _ zq] at h3
              exact hinj p q (by omega) (by omega) h3) (fun _ => by
          by_cases z : t = 0
          · subst z
            rw [zu_eq]
            exact hz0 rfl
          · rw [zu_ne _ _ _ _ (by omega)]
            exact hw0 (by omega)) (by
          have : u ||| 1 <<< x < 2 ^ 6 := Nat.or_lt_two_pow hu (by
            rw [Nat.one_shiftLeft]
            exact Nat.pow_lt_pow_right (by omega) (by omega))
          exact this) (fun y => by
          rw [tb_put, Bool.or_eq_true, hb y]
          constructor
          · rintro (⟨p, h1, h2⟩ | h1)
            · exact ⟨p, by omega, by rw [zu_ne _ _ _ _ (by omega)]; exact h2⟩
            · exact ⟨t, by omega, by rw [zu_eq]; exact of_decide_eq_true h1⟩
          · rintro ⟨p, h1, h2⟩
            by_cases zp : p = t
            · subst zp
              rw [zu_eq] at h2
              exact Or.inr (decide_eq_true h2)
            · rw [zu_ne _ _ _ _ zp] at h2
              exact Or.inl ⟨p, by omega, h2⟩)
        have e1 : mz (d + r + 8) 250 15 [some (.ref 23), some (.int (zn t)), some (.int (zn u)), some (.int (zn x))] [] (hp n s c I J A B R Q) = mc (some (some (some (.int (zo b1))), hp n s c I J2 A2 B R Q)) (fun v h1 => mz (d + r + 8) 250 62 [some (.ref 23), some (.int (zn t)), some (.int (zn u)), some (.int (zn x))] (v.toList ++ []) h1) := by
          rw [e0, ← k4]
          simp (disch := first | omega | exact zb_1 | exact zb_0 | exact zb_n1 | exact zb_n0) only [x250_50, x250_51, x250_52, x250_53, x250_54, x250_55, x250_56, x250_57, x250_58, x250_59, mq_dl_int, mq_dl_ref, mq_dl_null, mq_dl_none, mc_some, Option.toList_some, Option.toList_none, List.cons_append, List.nil_append, zb_1, zb_0, ↓reduceIte, if_true, if_false, not_true_eq_false, not_false_eq_true, Bool.false_eq_true, z_10, z_01, eq_self, Bool.and_self, true_or, or_true, false_or, or_false, true_and, and_true, false_and, and_false, and_self, or_self, Nat.reduceLT, Nat.reduceEqDiff, Nat.reduceLeDiff, Nat.reduceAdd, Nat.reduceMul, Nat.reduceSub, zn_lit, zn_add, zn_mul, zn_sub, zn_addneg, zn_lt, zn_le, zn_eq, zn_clamp, zn_in, zn_long, zn_shl, zn_or, ho_23]
        have hf2 : ∀ q, q ≠ 40 → A2 q = A q := fun q hq => by rw [k2 q hq, hA1, zu_ne _ _ _ _ hq]
        have hf3 : ∀ y, y < t → A2 40 y = A 40 y := fun y hy => by rw [k3 y (by omega), hA1, zu_eq, zu_ne _ _ _ _ (by omega)]
        cases b1 with
        | true =>
          refine ⟨true, J2, A2, ⟨fun _ => ⟨x, Nat.le_refl _, by omega, hfree, hz0, k1.mp rfl⟩, fun _ => rfl⟩, k0, hf2, hf3, ?_⟩
          rw [e1]
          simp (disch := first | omega | exact zb_1 | exact zb_0 | exact zb_n1 | exact zb_n0) only [x250_62, x250_65, x250_66, mq_dl_int, mq_dl_ref, mq_dl_null, mq_dl_none, mc_some, Option.toList_some, Option.toList_none, List.cons_append, List.nil_append, zb_1, zb_0, ↓reduceIte, if_true, if_false, not_true_eq_false, not_false_eq_true, Bool.false_eq_true, z_10, z_01, eq_self, Bool.and_self, true_or, or_true, false_or, or_false, true_and, and_true, false_and, and_false, and_self, or_self, Nat.reduceLT, Nat.reduceEqDiff, Nat.reduceLeDiff, Nat.reduceAdd, Nat.reduceMul, Nat.reduceSub, zn_lit, zn_add, zn_mul, zn_sub, zn_addneg, zn_lt, zn_le, zn_eq, zn_clamp, zn_in, zn_long, zo_t]
        | false =>
          refine hskip J2 A2 k0 hf2 hf3 ?_ ?_
          · intro h
            have := k1.mpr h.2.2
            cases this
          · rw [e1]
            simp (disch := first | omega | exact zb_1 | exact zb_0 | exact zb_n1 | exact zb_n0) only [x250_62, x250_67, x250_70, mq_dl_int, mq_dl_ref, mq_dl_null, mq_dl_none, mc_some, Option.toList_some, Option.toList_none, List.cons_append, List.nil_append, zb_1, zb_0, ↓reduceIte, if_true, if_false, not_true_eq_false, not_false_eq_true, Bool.false_eq_true, z_10, z_01, eq_self, Bool.and_self, true_or, or_true, false_or, or_false, true_and, and_true, false_and, and_false, and_self, or_self, Nat.reduceLT, Nat.reduceEqDiff, Nat.reduceLeDiff, Nat.reduceAdd, Nat.reduceMul, Nat.reduceSub, zn_lit, zn_add, zn_mul, zn_sub, zn_addneg, zn_lt, zn_le, zn_eq, zn_clamp, zn_in, zn_long, zo_f]
theorem R_mm (hW : WT T) (hG : gdT T = true) (ho : orT T ≤ 60) (hs : spT T = true) (d : Nat) : ∀ r, R_MM T n s c I B R Q d r := by
  have h6 := hW.2.1
  intro r
  induction r with
  | zero => exact R_mm0 hW hG ho hs d
  | succ r IH =>
    intro t u J A w ht hS hQ hw hinj hw0 hu hb
    obtain ⟨b, J', A', g1, g0, g2, g3, g4⟩ := R_mml hW hG ho hs d r IH t u w ht hu hinj (fun y hy => (hw y hy).2) hw0 hb T.1 0 J A (by omega) hS hQ (fun y hy => (hw y hy).1)
    refine ⟨b, J', A', g1.trans ⟨fun ⟨y, h1, h2, h3, h4, h5⟩ => (EXM_s (by omega)).mpr ⟨y, h2, h3, h4, h5⟩, fun h1 => ?_⟩, g0, g2, g3, ?_⟩
    · obtain ⟨y, h2, h3, h4, h5⟩ := (EXM_s (by omega)).mp h1
      exact ⟨y, by omega, h2, h3, h4, h5⟩
    · rw [← g4, show d + (r + 1) + 7 = d + r + 8 by omega]
      simp (disch := first | omega | exact zb_1 | exact zb_0 | exact zb_n1 | exact zb_n0) only [x250_0, x250_1, x250_2, x250_5, x250_13, x250_14, mq_dl_int, mq_dl_ref, mq_dl_null, mq_dl_none, mc_some, Option.toList_some, Option.toList_none, List.cons_append, List.nil_append, zb_1, zb_0, ↓reduceIte, if_true, if_false, not_true_eq_false, not_false_eq_true, Bool.false_eq_true, z_10, z_01, eq_self, Bool.and_self, true_or, or_true, false_or, or_false, true_and, and_true, false_and, and_false, and_self, or_self, Nat.reduceLT, Nat.reduceEqDiff, Nat.reduceLeDiff, Nat.reduceAdd, Nat.reduceMul, Nat.reduceSub, zn_lit, zn_add, zn_mul, zn_sub, zn_addneg, zn_lt, zn_le, zn_eq, zn_clamp, zn_in, zn_long, ho_23, S_things hS, show ¬ t = T.1 by omega]
theorem R_twin (hS : RT T (A 29)) (hW : WT T) (d : Nat) : ∃ I' J' A' B' x, RQF I J A B I' J' A' B' ∧ twA T x ∧ mz (d + 14) 252 0 [some (.ref 23)] [] (hp n s c I J A B R Q) = some (some (some (.int x)), hp n s c I' J' A' B' R Q) := by
  have h6 := hW.2.1
  have h1 := hW.1
  obtain ⟨I1, J1, A1, B1, f1, f2, f3, f4, e⟩ := R_split (n := n) (s := s) (c := c) (I := zu I 1150 0) (J := J) (B := B) (R := R) (Q := Q) hS hW (d + 3)
  have f1' : RQF I J A B I1 J1 A1 B1 := ⟨fun q h1 h2 h3 => by rw [f1.1 q h1 h2 h3, zu_ne _ _ _ _ h1], f1.2⟩
  cases hss : (smT T && spT T) with
  | false =>
    rw [hss] at e
    refine ⟨I1, J1, A1, B1, -1, f1', ⟨fun h => (by rw [h.1, h.2] at hss; exact absurd hss (by decide)), fun _ => rfl⟩, ?_⟩
    simp (disch := first | omega | exact zb_1 | exact zb_0 | exact zb_n1 | exact zb_n0) only [x252_0, x252_0N, x252_1, x252_2, x252_5, x252_5N, x252_6, x252_9, x252_12, x252_12N, x252_13, x252_14, x252_15, x252_18, x252_21, x252_22, x252_30, x252_25, x252_26, x252_29, mq_dl_int, mq_dl_ref, mq_dl_null, mq_dl_none, mc_some, Option.toList_some, Option.toList_none, List.cons_append, List.nil_append, zb_1, zb_0, ↓reduceIte, if_true, if_false, not_true_eq_false, not_false_eq_true, Bool.false_eq_true, z_10, z_01, eq_self, Bool.and_self, true_or, or_true, false_or, or_false, true_and, and_true, false_and, and_false, and_self, or_self, hp_1, hp_21, upd_zu, updL_zu, updQ_zu, zu_eq, zu_ne, ho_23, ho_23_0, hf_23_0, hk_23_0, hw_23_0, ho_23_1, hf_23_1, ho_23_2, hf_23_2, hk_23_2, hw_23_2, ho_23_3, hf_23_3, hk_23_3, hw_23_3, ho_23_4, hf_23_4, ho_23_5, hf_23_5, ho_23_6, hf_23_6, ho_23_7, hf_23_7, hk_23_7, hw_23_7, ho_23_8, hf_23_8, hk_23_8, hw_23_8, ho_23_9, hf_23_9, ho_23_10, hf_23_10, ho_23_11, hf_23_11, hk_23_11, hw_23_11, ho_23_12, hf_23_12, hk_23_12, hw_23_12, ho_23_13, hf_23_13, ho_23_14, hf_23_14, ho_23_15, hf_23_15, ho_23_16, hf_23_16, hk_23_16, hw_23_16, ho_23_17, hf_23_17, ho_23_18, hf_23_18, ho_23_19, hf_23_19, hk_23_19, hw_23_19, ho_23_20, hf_23_20, ho_23_21, hf_23_21, hk_23_21, hw_23_21, ho_23_22, hf_23_22, hk_23_22, hw_23_22, ho_23_23, hf_23_23, hk_23_23, hw_23_23, ho_23_24, hf_23_24, hk_23_24, hw_23_24, ho_23_25, hf_23_25, ho_23_26, hf_23_26, ho_23_27, hf_23_27, hk_23_27, hw_23_27, ho_23_28, hf_23_28, ho_23_29, hf_23_29, ho_23_30, hf_23_30, hk_23_30, hw_23_30, ho_23_31, hf_23_31, hk_23_31, hw_23_31, ho_23_32, hf_23_32, ho_23_33, hf_23_33, ho_23_34, hf_23_34, hk_23_34, hw_23_34, ho_23_35, hf_23_35, hk_23_35, hw_23_35, ho_23_36, hf_23_36, hk_23_36, hw_23_36, ho_23_37, hf_23_37, ho_23_38, hf_23_38, ho_23_39, hf_23_39, hn_24, hi_24, hj_24, hg_24, hu_24, hn_25, hi_25, hj_25, hg_25, hu_25, hn_26, hi_26, hj_26, hg_26, hu_26, hn_27, hi_27, hg_27, hu_27, hn_28, hi_28, hg_28, hu_28, hn_29, hi_29, hj_29, hg_29, hu_29, hn_30, hi_30, hj_30, hg_30, hu_30, hn_31, hi_31, hj_31, hg_31, hu_31, hn_32, hi_32, hj_32, hg_32, hu_32, hn_33, hi_33, hj_33, hg_33, hu_33, hn_34, hi_34, hj_34, hg_34, hu_34, hn_35, hi_35, hj_35, hg_35, hu_35, hn_36, hi_36, hj_36, hg_36, hu_36, hn_37, hi_37, hg_37, hu_37, hn_38, hi_38, hj_38, hg_38, hu_38, hn_39, hi_39, hj_39, hg_39, hu_39, hn_40, hi_40, hj_40, hg_40, hu_40, hn_41, hi_41, hj_41, hg_41, hu_41, hn_42, hi_42, hg_42, hu_42, hn_43, hi_43, hg_43, hu_43, hn_44, hi_44, hj_44, hg_44, hu_44, hn_45, hi_45, hg_45, hu_45, e, show zo false = 0 from rfl]
  | true =>
    rw [hss] at e
    rw [Bool.and_eq_true] at hss
    obtain ⟨hg, hs⟩ := hss
    obtain ⟨hgd, ho⟩ := smT_gd hg
    have hS' : RT T (A1 29) := by rw [f1.2.2.1 29 (by omega) (by omega) (by omega) (by omega)]; exact hS
    obtain ⟨b, J2, A2, k1, k0, k2, k3, k4⟩ := R_mm (n := n) (s := s) (c := c) (I := I1) (B := B1) (R := R) (Q := Q) hW hgd ho hs (d + 6 - T.1) T.1 0 0 J1 A1 (fun _ => 0) (by omega) hS' (f4 hg) (fun y hy => by omega) (fun p q h1 _ _ => by omega) (fun h => by omega) (by omega) (fun y => by
      rw [Nat.zero_testBit]
      constructor
      · intro h; cases h
      · rintro ⟨p, h, _⟩; omega)
    rw [show d + 6 - T.1 + T.1 + 7 = d + 13 by omega] at k4
    refine ⟨I1, J2, A2, B1, zo b, ⟨f1'.1, fun q h1 h2 => by rw [k0 q h1 h2, f1'.2.1 q h1 h2], fun q h1 h2 h3 h4 => by rw [k2 q h4, f1'.2.2.1 q h1 h2 h3 h4], f1'.2.2.2⟩, ⟨fun _ => ⟨b, k1.trans EXM_0, rfl⟩, fun h => absurd ⟨hg, hs⟩ h⟩, ?_⟩
    rw [show zu I 1150 (0 : Int32) = zu I 1150 (zn 0) from rfl] at e
    cases b with
    | true => simp (disch := first | omega | exact zb_1 | exact zb_0 | exact zb_n1 | exact zb_n0) only [x252_0, x252_0N, x252_1, x252_2, x252_5, x252_5N, x252_6, x252_9, x252_12, x252_12N, x252_13, x252_14, x252_15, x252_18, x252_21, x252_22, x252_30, x252_25, x252_26, x252_29, mq_dl_int, mq_dl_ref, mq_dl_null, mq_dl_none, mc_some, Option.toList_some, Option.toList_none, List.cons_append, List.nil_append, zb_1, zb_0, ↓reduceIte, if_true, if_false, not_true_eq_false, not_false_eq_true, Bool.false_eq_true, z_10, z_01, eq_self, Bool.and_self, true_or, or_true, false_or, or_false, true_and, and_true, false_and, and_false, and_self, or_self, Nat.reduceLT, Nat.reduceEqDiff, Nat.reduceLeDiff, Nat.reduceAdd, Nat.reduceMul, Nat.reduceSub, zn_lit, zn_add, zn_mul, zn_sub, zn_addneg, zn_lt, zn_le, zn_eq, zn_clamp, zn_in, zn_long, hp_1, hp_21, upd_zu, updL_zu, updQ_zu, zu_eq, zu_ne, ho_23, ho_23_0, hf_23_0, hk_23_0, hw_23_0, ho_23_1, hf_23_1, ho_23_2, hf_23_2, hk_23_2, hw_23_2, ho_23_3, hf_23_3, hk_23_3, hw_23_3, ho_23_4, hf_23_4, ho_23_5, hf_23_5, ho_23_6, hf_23_6, ho_23_7, hf_23_7, hk_23_7, hw_23_7, ho_23_8, hf_23_8, hk_23_8, hw_23_8, ho_23_9, hf_23_9, ho_23_10, hf_23_10, ho_23_11, hf_23_11, hk_23_11, hw_23_11, ho_23_12, hf_23_12, hk_23_12, hw_23_12, ho_23_13, hf_23_13, ho_23_14, hf_23_14, ho_23_15, hf_23_15, ho_23_16, hf_23_16, hk_23_16, hw_23_16, ho_23_17, hf_23_17, ho_23_18, hf_23_18, ho_23_19, hf_23_19, hk_23_19, hw_23_19, ho_23_20, hf_23_20, ho_23_21, hf_23_21, hk_23_21, hw_23_21, ho_23_22, hf_23_22, hk_23_22, hw_23_22, ho_23_23, hf_23_23, hk_23_23, hw_23_23, ho_23_24, hf_23_24, hk_23_24, hw_23_24, ho_23_25, hf_23_25, ho_23_26, hf_23_26, ho_23_27, hf_23_27, hk_23_27, hw_23_27, ho_23_28, hf_23_28, ho_23_29, hf_23_29, ho_23_30, hf_23_30, hk_23_30, hw_23_30, ho_23_31, hf_23_31, hk_23_31, hw_23_31, ho_23_32, hf_23_32, ho_23_33, hf_23_33, ho_23_34, hf_23_34, hk_23_34, hw_23_34, ho_23_35, hf_23_35, hk_23_35, hw_23_35, ho_23_36, hf_23_36, hk_23_36, hw_23_36, ho_23_37, hf_23_37, ho_23_38, hf_23_38, ho_23_39, hf_23_39, hn_24, hi_24, hj_24, hg_24, hu_24, hn_25, hi_25, hj_25, hg_25, hu_25, hn_26, hi_26, hj_26, hg_26, hu_26, hn_27, hi_27, hg_27, hu_27, hn_28, hi_28, hg_28, hu_28, hn_29, hi_29, hj_29, hg_29, hu_29, hn_30, hi_30, hj_30, hg_30, hu_30, hn_31, hi_31, hj_31, hg_31, hu_31, hn_32, hi_32, hj_32, hg_32, hu_32, hn_33, hi_33, hj_33, hg_33, hu_33, hn_34, hi_34, hj_34, hg_34, hu_34, hn_35, hi_35, hj_35, hg_35, hu_35, hn_36, hi_36, hj_36, hg_36, hu_36, hn_37, hi_37, hg_37, hu_37, hn_38, hi_38, hj_38, hg_38, hu_38, hn_39, hi_39, hj_39, hg_39, hu_39, hn_40, hi_40, hj_40, hg_40, hu_40, hn_41, hi_41, hj_41, hg_41, hu_41, hn_42, hi_42, hg_42, hu_42, hn_43, hi_43, hg_43, hu_43, hn_44, hi_44, hj_44, hg_44, hu_44, hn_45, hi_45, hg_45, hu_45, e, k4, zo_t]
    | false => simp (disch := first | omega | exact zb_1 | exact zb_0 | exact zb_n1 | exact zb_n0) only [x252_0, x252_0N, x252_1, x252_2, x252_5, x252_5N, x252_6, x252_9, x252_12, x252_12N, x252_13, x252_14, x252_15, x252_18, x252_21, x252_22, x252_30, x252_25, x252_26, x252_29, mq_dl_int, mq_dl_ref, mq_dl_null, mq_dl_none, mc_some, Option.toList_some, Option.toList_none, List.cons_append, List.nil_append, zb_1, zb_0, ↓reduceIte, if_true, if_false, not_true_eq_false, not_false_eq_true, Bool.false_eq_true, z_10, z_01, eq_self, Bool.and_self, true_or, or_true, false_or, or_false, true_and, and_true, false_and, and_false, and_self, or_self, Nat.reduceLT, Nat.reduceEqDiff, Nat.reduceLeDiff, Nat.reduceAdd, Nat.reduceMul, Nat.reduceSub, zn_lit, zn_add, zn_mul, zn_sub, zn_addneg, zn_lt, zn_le, zn_eq, zn_clamp, zn_in, zn_long, hp_1, hp_21, upd_zu, updL_zu, updQ_zu, zu_eq, zu_ne, ho_23, ho_23_0, hf_23_0, hk_23_0, hw_23_0, ho_23_1, hf_23_1, ho_23_2, hf_23_2, hk_23_2, hw_23_2, ho_23_3, hf_23_3, hk_23_3, hw_23_3, ho_23_4, hf_23_4, ho_23_5, hf_23_5, ho_23_6, hf_23_6, ho_23_7, hf_23_7, hk_23_7, hw_23_7, ho_23_8, hf_23_8, hk_23_8, hw_23_8, ho_23_9, hf_23_9, ho_23_10, hf_23_10, ho_23_11, hf_23_11, hk_23_11, hw_23_11, ho_23_12, hf_23_12, hk_23_12, hw_23_12, ho_23_13, hf_23_13, ho_23_14, hf_23_14, ho_23_15, hf_23_15, ho_23_16, hf_23_16, hk_23_16, hw_23_16, ho_23_17, hf_23_17, ho_23_18, hf_23_18, ho_23_19, hf_23_19, hk_23_19, hw_23_19, ho_23_20, hf_23_20, ho_23_21, hf_23_21, hk_23_21, hw_23_21, ho_23_22, hf_23_22, hk_23_22, hw_23_22, ho_23_23, hf_23_23, hk_23_23, hw_23_23, ho_23_24, hf_23_24, hk_23_24, hw_23_24, ho_23_25, hf_23_25, ho_23_26, hf_23_26, ho_23_27, hf_23_27, hk_23_27, hw_23_27, ho_23_28, hf_23_28, ho_23_29, hf_23_29, ho_23_30, hf_23_30, hk_23_30, hw_23_30, ho_23_31, hf_23_31, hk_23_31, hw_23_31, ho_23_32, hf_23_32, ho_23_33, hf_23_33, ho_23_34, hf_23_34, hk_23_34, hw_23_34, ho_23_35, hf_23_35, hk_23_35, hw_23_35, ho_23_36, hf_23_36, hk_23_36, hw_23_36, ho_23_37, hf_23_37, ho_23_38, hf_23_38, ho_23_39, hf_23_39, hn_24, hi_24, hj_24, hg_24, hu_24, hn_25, hi_25, hj_25, hg_25, hu_25, hn_26, hi_26, hj_26, hg_26, hu_26, hn_27, hi_27, hg_27, hu_27, hn_28, hi_28, hg_28, hu_28, hn_29, hi_29, hj_29, hg_29, hu_29, hn_30, hi_30, hj_30, hg_30, hu_30, hn_31, hi_31, hj_31, hg_31, hu_31, hn_32, hi_32, hj_32, hg_32, hu_32, hn_33, hi_33, hj_33, hg_33, hu_33, hn_34, hi_34, hj_34, hg_34, hu_34, hn_35, hi_35, hj_35, hg_35, hu_35, hn_36, hi_36, hj_36, hg_36, hu_36, hn_37, hi_37, hg_37, hu_37, hn_38, hi_38, hj_38, hg_38, hu_38, hn_39, hi_39, hj_39, hg_39, hu_39, hn_40, hi_40, hj_40, hg_40, hu_40, hn_41, hi_41, hj_41, hg_41, hu_41, hn_42, hi_42, hg_42, hu_42, hn_43, hi_43, hg_43, hu_43, hn_44, hi_44, hj_44, hg_44, hu_44, hn_45, hi_45, hg_45, hu_45, e, k4, zo_t, zo_f]
end RTM
