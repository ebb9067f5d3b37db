/-! TABLE: the class -/
def unF : Nat → Nat → (Nat → Int32) → (Nat → Int32)
  | 0, _, g => g
  | r + 1, i, g => unF r (i + 1) (put2 g 0 i i 1)
theorem unF_at : ∀ (r i : Nat) (g : Nat → Int32) (p q l : Nat), i + r ≤ 6 → p < 6 → q < 6 → l < 6 → unF r i g ((p * 6 + q) * 6 + l) = if i ≤ l ∧ l < i + r ∧ ((p = 0 ∧ q = l) ∨ (p = l ∧ q = 0)) then zn 1 else g ((p * 6 + q) * 6 + l)
  | 0, i, g, p, q, l, hi, hp, hq, hl => by
    simp only [unF]
    rw [if_neg (by omega)]
  | r + 1, i, g, p, q, l, hi, hp, hq, hl => by
    simp only [unF]
    rw [unF_at r (i + 1) _ p q l (by omega) hp hq hl, put2_ap g (by omega) (by omega) (by omega) hp hq hl]
    by_cases e1 : i + 1 ≤ l ∧ l < i + 1 + r ∧ ((p = 0 ∧ q = l) ∨ (p = l ∧ q = 0))
    · rw [if_pos e1, if_pos (by omega)]
    · rw [if_neg e1]
      by_cases e2 : l = i ∧ ((p = 0 ∧ q = i) ∨ (p = i ∧ q = 0))
      · rw [if_pos e2, if_pos (by omega)]
      · rw [if_neg e2, if_neg (by omega)]
theorem GIV_un {m : Nat} (hm : m ≤ 6) : GIV m (unF m 0 (fun _ => 0)) := by
  refine ⟨fun i j k hi hj hk => ?_, fun i j k hi hj hk => ?_, fun i k hi hk => ?_⟩
  · rw [unF_at m 0 _ i j k (by omega) hi hj hk]
    by_cases e : 0 ≤ k ∧ k < 0 + m ∧ ((i = 0 ∧ j = k) ∨ (i = k ∧ j = 0))
    · rw [if_pos e]; exact ⟨1, by omega, rfl, fun h => by omega⟩
    · rw [if_neg e]; exact ⟨0, by omega, rfl, fun _ => rfl⟩
  · rw [unF_at m 0 _ i j k (by omega) hi hj hk, unF_at m 0 _ j i k (by omega) hj hi hk]
    by_cases e : 0 ≤ k ∧ k < 0 + m ∧ ((i = 0 ∧ j = k) ∨ (i = k ∧ j = 0))
    · rw [if_pos e, if_pos (by omega)]
    · rw [if_neg e, if_neg (by omega)]
  · rw [unF_at m 0 _ 0 i k (by omega) (by omega) (by omega) hk]
    by_cases e : i = k
    · rw [if_pos (by omega), if_pos e]
    · rw [if_neg (by omega), if_neg e]
      rfl
def LS0 (L : Nat) (tp : Nat → Nat) (m : Nat) (x : Nat × Nat) (tl : Nat → Int32) : LST := (x, tl, unF m 0 (fun _ => 0), zfl zn (fun _ => 0) 0 m)
theorem LIV_0 {L : Nat} {tp : Nat → Nat} {m : Nat} {x : Nat × Nat} {tl : Nat → Int32} (h1 : 1 ≤ m) (hm : m ≤ 6) : LIV m (LS0 L tp m x tl) := by
  refine ⟨GIV_un hm, fun i hi => ?_, ?_, fun i j hi1 hi hj1 hj _ k hk => ?_⟩
  · show ∃ v, v < 6 ∧ zfl zn (fun _ => 0) 0 m i = zn v ∧ (i < m → v < m)
    unfold zfl
    by_cases e : 0 ≤ i ∧ i < 0 + m
    · rw [if_pos e]; exact ⟨i, hi, rfl, fun h => h⟩
    · rw [if_neg e]; exact ⟨0, by omega, rfl, fun _ => by omega⟩
  · show zfl zn (fun _ => 0) 0 m 0 = zn 0
    unfold zfl
    rw [if_pos (by omega)]
  · show unF m 0 (fun _ => 0) ((i * 6 + j) * 6 + k) = zn 0
    rw [unF_at m 0 _ i j k (by omega) (by omega) (by omega) (by omega), if_neg (by omega)]
    rfl
theorem RVB_0 {m : Nat} : RVB m 0 (zfl zn (fun _ => 0) 0 m) := by
  refine ⟨by omega, fun i hi => ?_⟩
  unfold zfl
  rw [if_pos (by omega)]
  simp
section TB
variable (L : Nat) (tp : Nat → Nat)
def tb0 : Nat × Nat := twd L tp 1 (0, 0)
def tb4 : Nat × Nat := tsg L tp 59 (adv (see L tp 1 6 (tb0 L tp)))
def tbm : Nat := nbq L tp (tb0 L tp).1
def tbS (tl : Nat → Int32) : LST := liF L tp (tbm L tp) 1000 (LS0 L tp (tbm L tp) (tb4 L tp) tl)
end TB
def rdT (m : Nat) (g r : Nat → Int32) : ZT := (m, fun i j k => if i < 6 ∧ j < 6 ∧ k < 6 then (g ((i * 6 + j) * 6 + k)).toNatClampNeg else 0, fun i => if i < 6 then (r i).toNatClampNeg else 0)
theorem rd_rep {m : Nat} {S : LST} (h : LIV m S) : zt_rep (rdT m S.2.2.1 S.2.2.2) S.2.2.1 S.2.2.2 := by
  refine ⟨fun i j k hi hj hk => ?_, fun i hi => ?_⟩
  · obtain ⟨v, h1, h2, -⟩ := h.1.1 i j k hi hj hk
    show _ = zn (if i < 6 ∧ j < 6 ∧ k < 6 then _ else 0)
    rw [if_pos ⟨hi, hj, hk⟩, h2, zn_clamp _ (by omega)]
  · obtain ⟨v, h1, h2, -⟩ := h.2.1 i hi
    show _ = zn (if i < 6 then _ else 0)
    rw [if_pos hi, h2, zn_clamp _ (by omega)]
theorem rd_WT {m : Nat} {S : LST} (h1 : 1 ≤ m) (hm : m ≤ 6) (h : LIV m S) : WT (rdT m S.2.2.1 S.2.2.2) := by
  obtain ⟨⟨g1, g2, g3⟩, r1, r2, -⟩ := h
  have key : ∀ i j k, i < 6 → j < 6 → k < 6 → ∃ v, v ≤ 999 ∧ (rdT m S.2.2.1 S.2.2.2).2.1 i j k = v ∧ S.2.2.1 ((i * 6 + j) * 6 + k) = zn v ∧ (m ≤ i ∨ m ≤ j ∨ m ≤ k → v = 0) := by
    intro i j k hi hj hk
    obtain ⟨v, v1, v2, v3⟩ := g1 i j k hi hj hk
    refine ⟨v, v1, ?_, v2, v3⟩
    show (if i < 6 ∧ j < 6 ∧ k < 6 then _ else 0) = v
    rw [if_pos ⟨hi, hj, hk⟩, v2, zn_clamp _ (by omega)]
  have key0 : ∀ i j k, ¬ (i < 6 ∧ j < 6 ∧ k < 6) → (rdT m S.2.2.1 S.2.2.2).2.1 i j k = 0 := by
    intro i j k h
    show (if i < 6 ∧ j < 6 ∧ k < 6 then _ else 0) = 0
    rw [if_neg h]
  refine ⟨h1, hm, fun i j k => ?_, fun i hi => ?_, fun i j k => ?_, fun i j k h => ?_, fun i k hi => ?_, ?_⟩
  · by_cases c : i < 6 ∧ j < 6 ∧ k < 6
    · obtain ⟨v, v1, v2, -⟩ := key i j k c.1 c.2.1 c.2.2
      rw [v2]; omega
    · rw [key0 i j k c]; omega
  · have hi' : i < m := hi
    obtain ⟨v, v1, v2, v3⟩ := r1 i (by omega)
    show (if i < 6 then _ else 0) < m
    rw [if_pos (by omega), v2, zn_clamp _ (by omega)]
    exact v3 hi'
  · by_cases c : i < 6 ∧ j < 6 ∧ k < 6
    · obtain ⟨v, v1, v2, v3, -⟩ := key i j k c.1 c.2.1 c.2.2
      obtain ⟨w, w1, w2, w3, -⟩ := key j i k c.2.1 c.1 c.2.2
      rw [v2, w2]
      have e := g2 i j k c.1 c.2.1 c.2.2
      rw [v3, w3, zn_eq _ _ (by omega) (by omega)] at e
      exact e
    · rw [key0 i j k c, key0 j i k (by omega)]
  · have h' : m ≤ i ∨ m ≤ j ∨ m ≤ k := h
    by_cases c : i < 6 ∧ j < 6 ∧ k < 6
    · obtain ⟨v, v1, v2, v3, v4⟩ := key i j k c.1 c.2.1 c.2.2
      rw [v2]; exact v4 h'
    · exact key0 i j k c
  · have hi' : i < m := hi
    by_cases c : k < 6
    · obtain ⟨v, v1, v2, v3, v4⟩ := key 0 i k (by omega) (by omega) c
      rw [v2]
      have e := g3 i k hi' c
      rw [v3] at e
      by_cases q : i = k
      · rw [if_pos q, zn_eq _ _ (by omega) (by omega)] at e
        rw [if_pos q]; exact e
      · rw [if_neg q, zn_eq _ _ (by omega) (by omega)] at e
        rw [if_neg q]; exact e
    · rw [key0 0 i k (by omega), if_neg (by omega)]
  · show (if 0 < 6 then (S.2.2.2 0).toNatClampNeg else 0) = 0
    rw [if_pos (by omega), r2, zn_clamp _ (by omega)]
section CU
variable {n s : Nat} {c : Nat → mq_E} {I : Nat → Int32} {J : Nat → Int64} {A : Nat → Nat → Int32} {B : Nat → Nat → Int64} {R : Nat → Value} {Q : Nat → Nat → Option Nat}
variable {L : Nat} {tp : Nat → Nat} {a m : Nat} {g r : Nat → Int32}
theorem C_unl (ha : 46 ≤ a) (hm : m ≤ 6) (d : Nat) : ∀ (t k : Nat) (g : Nat → Int32), k + t = m → mz (d + 3) 96 11 [some (.int (zn m)), some (.ref a), some (.int (zn k))] [] (hp n s (tc c a m g r) I J A B R Q) = some (some (some (.ref a)), hp n s (tc c a m (unF t k g) r) I J A B R Q) := by
  intro t
  induction t with
  | zero =>
    intro k g hk
    have e : k = m := by omega
    subst e
    simp (disch := first | omega | exact zb_1 | exact zb_0 | exact zb_n1 | exact zb_n0) only [x96_11, x96_12, x96_13, x96_16, x96_33, x96_34, mq_dl_int, mq_dl_ref, mq_dl_null, mq_dl_none, mc_some, Option.toList_some, Option.toList_none, List.cons_append, List.nil_append, zb_1, zb_0, ↓reduceIte, if_true, if_false, not_true_eq_false, not_false_eq_true, Bool.false_eq_true, z_10, z_01, eq_self, Bool.and_self, true_or, or_true, false_or, or_false, true_and, and_true, false_and, and_false, and_self, or_self, Nat.reduceLT, Nat.reduceEqDiff, Nat.reduceLeDiff, Nat.reduceAdd, Nat.reduceMul, Nat.reduceSub, zn_lit, zn_add, zn_mul, zn_sub, zn_addneg, zn_lt, zn_le, zn_eq, zn_clamp, zn_in, zn_long, tc_mo ha, tc_f0 ha, Nat.le_refl, unF]
  | succ t ih =>
    intro k g hk
    have hb := B_both (n := n) (s := s) (c := c) (g := g) (r := r) (I := I) (J := J) (A := A) (B := B) (R := R) (Q := Q) ha hm d 0 k k (by omega) (by omega) (by omega) (zn 1)
    rw [x96_11]
    have e0 := ih (k + 1) (put2 g 0 k k 1) (by omega)
    unfold put2 at e0
    simp (disch := first | omega | exact zb_1 | exact zb_0 | exact zb_n1 | exact zb_n0) only [x96_12, x96_13, x96_16, x96_19, x96_20, x96_21, x96_22, x96_23, x96_24, x96_27, x96_30, mq_dl_int, mq_dl_ref, mq_dl_null, mq_dl_none, mc_some, Option.toList_some, Option.toList_none, List.cons_append, List.nil_append, zb_1, zb_0, ↓reduceIte, if_true, if_false, not_true_eq_false, not_false_eq_true, Bool.false_eq_true, z_10, z_01, eq_self, Bool.and_self, true_or, or_true, false_or, or_false, true_and, and_true, false_and, and_false, and_self, or_self, Nat.reduceLT, Nat.reduceEqDiff, Nat.reduceLeDiff, Nat.reduceAdd, Nat.reduceMul, Nat.reduceSub, zn_lit, zn_add, zn_mul, zn_sub, zn_addneg, zn_lt, zn_le, zn_eq, zn_clamp, zn_in, zn_long, tc_0 ha, tc_mo ha, tc_f0 ha, hb, show ¬ m ≤ k by omega]
    exact e0
theorem C_unit (hn : 46 ≤ n) (h1 : 1 ≤ m) (hm : m ≤ 6) (d : Nat) : mz (d + 3) 96 0 [some (.int (zn m)), none, none] [] (hp n s c I J A B R Q) = some (some (some (.ref n)), hp (n + 3) (s + 9 + 222) (tc c n m (unF m 0 (fun _ => 0)) (zfl zn (fun _ => 0) 0 m)) I J A B R Q) := by
  have e1 := T_new (s := s + 9) (c := c) (I := I) (J := J) (A := A) (B := B) (R := R) (Q := Q) hn h1 hm (d + 1)
  have e2 := C_unl (n := n + 3) (s := s + 9 + 222) (c := c) (r := zfl zn (fun _ => 0) 0 m) (I := I) (J := J) (A := A) (B := B) (R := R) (Q := Q) hn hm d m 0 (fun _ => 0) (by omega)
  rw [← e2]
  simp (disch := first | omega | exact zb_1 | exact zb_0 | exact zb_n1 | exact zb_n0) only [x96_0, x96_3, x96_4, x96_5, x96_8, x96_9, x96_10, mq_dl_int, mq_dl_ref, mq_dl_null, mq_dl_none, mc_some, Option.toList_some, Option.toList_none, List.cons_append, List.nil_append, zb_1, zb_0, ↓reduceIte, if_true, if_false, not_true_eq_false, not_false_eq_true, Bool.false_eq_true, z_10, z_01, eq_self, Bool.and_self, true_or, or_true, false_or, or_false, true_and, and_true, false_and, and_false, and_self, or_self, Nat.reduceLT, Nat.reduceEqDiff, Nat.reduceLeDiff, Nat.reduceAdd, Nat.reduceMul, Nat.reduceSub, zn_lit, zn_add, zn_mul, zn_sub, zn_addneg, zn_lt, zn_le, zn_eq, zn_clamp, zn_in, zn_long, hp_1, hp_mkB, e1]
theorem C_fgl (d : Nat) : ∀ (t k : Nat) (tl : Nat → Int32), k + t = 36 → mz d 117 7 [some (.ref 3), some (.int (zn k))] [] (hp n s c I J (zu A 4 tl) B R Q) = some (some none, hp n s c I J (zu A 4 (zfl (fun _ => zn 0) tl k t)) B R Q) := by
  intro t
  induction t with
  | zero =>
    intro k tl hk
    have e : k = 36 := by omega
    subst e
    simp (disch := first | omega | exact zb_1 | exact zb_0 | exact zb_n1 | exact zb_n0) only [x117_7, x117_8, x117_10, x117_26, mq_dl_int, mq_dl_ref, mq_dl_null, mq_dl_none, mc_some, Option.toList_some, Option.toList_none, List.cons_append, List.nil_append, zb_1, zb_0, ↓reduceIte, if_true, if_false, not_true_eq_false, not_false_eq_true, Bool.false_eq_true, z_10, z_01, eq_self, Bool.and_self, true_or, or_true, false_or, or_false, true_and, and_true, false_and, and_false, and_self, or_self, Nat.reduceLT, Nat.reduceEqDiff, Nat.reduceLeDiff, Nat.reduceAdd, Nat.reduceMul, Nat.reduceSub, zn_lit, zn_add, zn_mul, zn_sub, zn_addneg, zn_lt, zn_le, zn_eq, zn_clamp, zn_in, zn_long, zfl_0, Nat.le_refl]
  | succ t ih =>
    intro k tl hk
    rw [← zfl_s, ← ih (k + 1) _ (by omega), x117_7]
    simp (disch := first | omega | exact zb_1 | exact zb_0 | exact zb_n1 | exact zb_n0) only [x117_8, x117_10, x117_13, x117_14, x117_17, x117_18, x117_19, x117_20, x117_23, mq_dl_int, mq_dl_ref, mq_dl_null, mq_dl_none, mc_some, Option.toList_some, Option.toList_none, List.cons_append, List.nil_append, zb_1, zb_0, ↓reduceIte, if_true, if_false, not_true_eq_false, not_false_eq_true, Bool.false_eq_true, z_10, z_01, eq_self, Bool.and_self, true_or, or_true, false_or, or_false, true_and, and_true, false_and, and_false, and_self, or_self, Nat.reduceLT, Nat.reduceEqDiff, Nat.reduceLeDiff, Nat.reduceAdd, Nat.reduceMul, Nat.reduceSub, zn_lit, zn_add, zn_mul, zn_sub, zn_addneg, zn_lt, zn_le, zn_eq, zn_clamp, zn_in, zn_long, hp_1, hp_21, upd_zu, updL_zu, updQ_zu, zu_eq, zu_ne, ho_0, ho_0_0, hf_0_0, ho_0_1, hf_0_1, ho_0_2, hf_0_2, ho_0_3, hf_0_3, ho_0_4, hf_0_4, ho_0_5, hf_0_5, ho_0_6, hf_0_6, ho_0_7, hf_0_7, hk_0_7, hw_0_7, ho_1, ho_1_0, hf_1_0, ho_1_1, hf_1_1, hk_1_1, hw_1_1, ho_1_2, hf_1_2, hk_1_2, hw_1_2, ho_1_3, hf_1_3, hk_1_3, hw_1_3, ho_1_4, hf_1_4, hk_1_4, hw_1_4, ho_1_5, hf_1_5, hk_1_5, hw_1_5, hn_2, hi_2, hg_2, hu_2, ho_3, ho_3_0, hf_3_0, ho_3_1, hf_3_1, ho_3_2, hf_3_2, hk_3_2, hw_3_2, ho_3_3, hf_3_3, hk_3_3, hw_3_3, hn_4, hi_4, hj_4, hg_4, hu_4, ho_5, ho_5_0, hf_5_0, ho_5_1, hf_5_1, ho_5_2, hf_5_2, ho_5_3, hf_5_3, hk_5_3, hw_5_3, ho_6, ho_6_0, hf_6_0, ho_6_1, hf_6_1, ho_6_2, hf_6_2, ho_6_3, hf_6_3, hk_6_3, hw_6_3, hn_7, hi_7, hj_7, hg_7, hu_7, hn_8, hi_8, hj_8, hg_8, hu_8, hn_9, hi_9, hj_9, hg_9, hu_9, ho_10, ho_10_0, hf_10_0, ho_10_1, hf_10_1, ho_10_2, hf_10_2, ho_10_3, hf_10_3, hk_10_3, hw_10_3, ho_10_4, hf_10_4, hk_10_4, hkN_10_4, hw_10_4, hn_11, hi_11, hj_11, hg_11, hu_11, hn_12, hi_12, hj_12, hg_12, hu_12, hn_13, hi_13, hj_13, hg_13, hu_13, hn_14, hi_14, hg_14, hu_14, hn_15, hi_15, hg_15, hu_15, ho_16, ho_16_0, hf_16_0, ho_16_1, hf_16_1, ho_16_2, hf_16_2, hk_16_2, hw_16_2, ho_16_3, hf_16_3, hk_16_3, hw_16_3, ho_16_4, hf_16_4, hk_16_4, hkN_16_4, hw_16_4, hn_17, hi_17, hg_17, hu_17, hn_18, hi_18, hg_18, hu_18, hn_22, hi_22, hg_22, hu_22, zu_zu, zb_nn0, show ¬ 36 ≤ k by omega, show k < 36 by omega, decide_true]
theorem C_fgt (d : Nat) : mz d 117 0 [some (.ref 3), none] [] (hp n s c I J A B R Q) = some (some none, hp n s c (zu I 152 (zn 0)) J (zu A 4 (zfl (fun _ => zn 0) (A 4) 0 36)) B R Q) := by
  rw [← C_fgl (n := n) (s := s) (c := c) (I := zu I 152 (zn 0)) (J := J) (A := A) (B := B) (R := R) (Q := Q) d 36 0 (A 4) rfl, zu_self]
  simp (disch := first | omega | exact zb_1 | exact zb_0 | exact zb_n1 | exact zb_n0) only [x117_0, x117_1, x117_2, x117_5, x117_6, mq_dl_int, mq_dl_ref, mq_dl_null, mq_dl_none, mc_some, Option.toList_some, Option.toList_none, List.cons_append, List.nil_append, zb_1, zb_0, ↓reduceIte, if_true, if_false, not_true_eq_false, not_false_eq_true, Bool.false_eq_true, z_10, z_01, eq_self, Bool.and_self, true_or, or_true, false_or, or_false, true_and, and_true, false_and, and_false, and_self, or_self, Nat.reduceLT, Nat.reduceEqDiff, Nat.reduceLeDiff, Nat.reduceAdd, Nat.reduceMul, Nat.reduceSub, zn_lit, zn_add, zn_mul, zn_sub, zn_addneg, zn_lt, zn_le, zn_eq, zn_clamp, zn_in, zn_long, hp_1, hp_21, upd_zu, updL_zu, updQ_zu, zu_eq, zu_ne, ho_0, ho_0_0, hf_0_0, ho_0_1, hf_0_1, ho_0_2, hf_0_2, ho_0_3, hf_0_3, ho_0_4, hf_0_4, ho_0_5, hf_0_5, ho_0_6, hf_0_6, ho_0_7, hf_0_7, hk_0_7, hw_0_7, ho_1, ho_1_0, hf_1_0, ho_1_1, hf_1_1, hk_1_1, hw_1_1, ho_1_2, hf_1_2, hk_1_2, hw_1_2, ho_1_3, hf_1_3, hk_1_3, hw_1_3, ho_1_4, hf_1_4, hk_1_4, hw_1_4, ho_1_5, hf_1_5, hk_1_5, hw_1_5, hn_2, hi_2, hg_2, hu_2, ho_3, ho_3_0, hf_3_0, ho_3_1, hf_3_1, ho_3_2, hf_3_2, hk_3_2, hw_3_2, ho_3_3, hf_3_3, hk_3_3, hw_3_3, hn_4, hi_4, hj_4, hg_4, hu_4, ho_5, ho_5_0, hf_5_0, ho_5_1, hf_5_1, ho_5_2, hf_5_2, ho_5_3, hf_5_3, hk_5_3, hw_5_3, ho_6, ho_6_0, hf_6_0, ho_6_1, hf_6_1, ho_6_2, hf_6_2, ho_6_3, hf_6_3, hk_6_3, hw_6_3, hn_7, hi_7, hj_7, hg_7, hu_7, hn_8, hi_8, hj_8, hg_8, hu_8, hn_9, hi_9, hj_9, hg_9, hu_9, ho_10, ho_10_0, hf_10_0, ho_10_1, hf_10_1, ho_10_2, hf_10_2, ho_10_3, hf_10_3, hk_10_3, hw_10_3, ho_10_4, hf_10_4, hk_10_4, hkN_10_4, hw_10_4, hn_11, hi_11, hj_11, hg_11, hu_11, hn_12, hi_12, hj_12, hg_12, hu_12, hn_13, hi_13, hj_13, hg_13, hu_13, hn_14, hi_14, hg_14, hu_14, hn_15, hi_15, hg_15, hu_15, ho_16, ho_16_0, hf_16_0, ho_16_1, hf_16_1, ho_16_2, hf_16_2, hk_16_2, hw_16_2, ho_16_3, hf_16_3, hk_16_3, hw_16_3, ho_16_4, hf_16_4, hk_16_4, hkN_16_4, hw_16_4, hn_17, hi_17, hg_17, hu_17, hn_18, hi_18, hg_18, hu_18, hn_22, hi_22, hg_22, hu_22]
theorem tb0_b (hL : L ≤ 1000) : (tb0 L tp).2 < 20000 := twd_b hL (by show 0 < 20000; omega) 1
theorem tb4_b (hL : L ≤ 1000) : (tb4 L tp).2 < 20000 := tsg_b hL (adv_b (see_b hL (tb0_b hL) 1 6)) 59
theorem tb4_fine (h : (tb4 L tp).2 = 0) : tb0 L tp = (1, 0) ∧ tb4 L tp = (3, 0) ∧ 1 ≤ tbm L tp ∧ tbm L tp ≤ 6 ∧ tkS L tp (ps L tp 1) = 2 ∧ wdq L tp 0 1 = true := by
  obtain ⟨a1, a2, a3⟩ := tsg_fine h
  obtain ⟨b1, b2⟩ := adv_fine a1
  obtain ⟨c1, c2, c3, c4, c5⟩ := see_fine b1
  obtain ⟨d1, d2, d3⟩ := twd_fine c1
  have e0 : tb0 L tp = (1, 0) := d3
  rw [e0] at c2
  exact ⟨e0, by show tsg L tp 59 (adv (see L tp 1 6 (tb0 L tp))) = _; rw [a3, b2, c5, e0], c3, c4, c2, d2⟩
theorem C_read0 (h : TKp L tp I A) (hS : STR c) (d : Nat) : mz (d + 8) 116 0 [some (.ref 3), none, none, none] [] (hp n s c I J A B R Q) = mz (d + 8) 116 43 [some (.ref 3), some (.int (seev L tp (tb0 L tp))), none, none] [] (hp n s c (tI L tp I (tb4 L tp)) J A B R Q) := by
  have hL := h.1
  have b0 := tb0_b (tp := tp) hL
  have b1 := see_b (tp := tp) hL b0 1 6
  have e1 := C_start (n := n) (s := s) (J := J) (B := B) (R := R) (Q := Q) h hS (d + 2)
  have e2 := C_tw (n := n) (s := s) (J := J) (B := B) (R := R) (Q := Q) h hS (d + 2) 1 1000000002 (by omega) rfl (0, 0) (by show 0 < 20000; omega)
  have e3 := C_see (n := n) (s := s) (c := c) (J := J) (B := B) (R := R) (Q := Q) h (d + 6) 1 6 (by omega) (by omega) _ b0
  have e4 := C_adv (n := n) (s := s) (J := J) (B := B) (R := R) (Q := Q) h hS (d + 3) _ b1
  have e5 := C_ts (n := n) (s := s) (J := J) (B := B) (R := R) (Q := Q) h hS (d + 2) 59 (by omega) _ (adv_b b1)
  unfold tb0 at e3 e4 e5
  unfold tb4 tb0
  simp (disch := first | omega | exact zb_1 | exact zb_0 | exact zb_n1 | exact zb_n0) only [x116_0, x116_1, x116_4, x116_7, x116_8, x116_11, x116_13, x116_16, x116_17, x116_20, x116_21, x116_23, x116_26, x116_27, x116_28, x116_31, x116_34, x116_35, x116_38, x116_40, mq_dl_int, mq_dl_ref, mq_dl_null, mq_dl_none, mc_some, Option.toList_some, Option.toList_none, List.cons_append, List.nil_append, zb_1, zb_0, ↓reduceIte, if_true, if_false, not_true_eq_false, not_false_eq_true, Bool.false_eq_true, z_10, z_01, eq_self, Bool.and_self, true_or, or_true, false_or, or_false, true_and, and_true, false_and, and_false, and_self, or_self, Nat.reduceLT, Nat.reduceEqDiff, Nat.reduceLeDiff, Nat.reduceAdd, Nat.reduceMul, Nat.reduceSub, zn_lit, zn_add, zn_mul, zn_sub, zn_addneg, zn_lt, zn_le, zn_eq, zn_clamp, zn_in, zn_long, hp_1, hp_21, upd_zu, updL_zu, updQ_zu, zu_eq, zu_ne, ho_0, ho_0_0, hf_0_0, ho_0_1, hf_0_1, ho_0_2, hf_0_2, ho_0_3, hf_0_3, ho_0_4, hf_0_4, ho_0_5, hf_0_5, ho_0_6, hf_0_6, ho_0_7, hf_0_7, hk_0_7, hw_0_7, ho_1, ho_1_0, hf_1_0, ho_1_1, hf_1_1, hk_1_1, hw_1_1, ho_1_2, hf_1_2, hk_1_2, hw_1_2, ho_1_3, hf_1_3, hk_1_3, hw_1_3, ho_1_4, hf_1_4, hk_1_4, hw_1_4, ho_1_5, hf_1_5, hk_1_5, hw_1_5, hn_2, hi_2, hg_2, hu_2, ho_3, ho_3_0, hf_3_0, ho_3_1, hf_3_1, ho_3_2, hf_3_2, hk_3_2, hw_3_2, ho_3_3, hf_3_3, hk_3_3, hw_3_3, hn_4, hi_4, hj_4, hg_4, hu_4, ho_5, ho_5_0, hf_5_0, ho_5_1, hf_5_1, ho_5_2, hf_5_2, ho_5_3, hf_5_3, hk_5_3, hw_5_3, ho_6, ho_6_0, hf_6_0, ho_6_1, hf_6_1, ho_6_2, hf_6_2, ho_6_3, hf_6_3, hk_6_3, hw_6_3, hn_7, hi_7, hj_7, hg_7, hu_7, hn_8, hi_8, hj_8, hg_8, hu_8, hn_9, hi_9, hj_9, hg_9, hu_9, ho_10, ho_10_0, hf_10_0, ho_10_1, hf_10_1, ho_10_2, hf_10_2, ho_10_3, hf_10_3, hk_10_3, hw_10_3, ho_10_4, hf_10_4, hk_10_4, hkN_10_4, hw_10_4, hn_11, hi_11, hj_11, hg_11, hu_11, hn_12, hi_12, hj_12, hg_12, hu_12, hn_13, hi_13, hj_13, hg_13, hu_13, hn_14, hi_14, hg_14, hu_14, hn_15, hi_15, hg_15, hu_15, ho_16, ho_16_0, hf_16_0, ho_16_1, hf_16_1, ho_16_2, hf_16_2, hk_16_2, hw_16_2, ho_16_3, hf_16_3, hk_16_3, hw_16_3, ho_16_4, hf_16_4, hk_16_4, hkN_16_4, hw_16_4, hn_17, hi_17, hg_17, hu_17, hn_18, hi_18, hg_18, hu_18, hn_22, hi_22, hg_22, hu_22, e1, e2, e3, e4, e5]
theorem C_readF (h : TKp L tp I A) (hS : STR c) (d : Nat) (q : ¬ (tb4 L tp).2 = 0) : mz (d + 8) 116 0 [some (.ref 3), none, none, none] [] (hp n s c I J A B R Q) = some (some (some .null), hp n s c (tI L tp I (tb4 L tp)) J A B R Q) := by
  have b4 := tb4_b (tp := tp) h.1
  rw [C_read0 h hS]
  simp (disch := first | omega | exact zb_1 | exact zb_0 | exact zb_n1 | exact zb_n0) only [x116_43, x116_44, x116_47, x116_50, x116_53, x116_54N, mq_dl_int, mq_dl_ref, mq_dl_null, mq_dl_none, mc_some, Option.toList_some, Option.toList_none, List.cons_append, List.nil_append, zb_1, zb_0, ↓reduceIte, if_true, if_false, not_true_eq_false, not_false_eq_true, Bool.false_eq_true, z_10, z_01, eq_self, Bool.and_self, true_or, or_true, false_or, or_false, true_and, and_true, false_and, and_false, and_self, or_self, Nat.reduceLT, Nat.reduceEqDiff, Nat.reduceLeDiff, Nat.reduceAdd, Nat.reduceMul, Nat.reduceSub, zn_lit, zn_add, zn_mul, zn_sub, zn_addneg, zn_lt, zn_le, zn_eq, zn_clamp, zn_in, zn_long, hp_1, hp_21, upd_zu, updL_zu, updQ_zu, zu_eq, zu_ne, ho_0, ho_0_0, hf_0_0, ho_0_1, hf_0_1, ho_0_2, hf_0_2, ho_0_3, hf_0_3, ho_0_4, hf_0_4, ho_0_5, hf_0_5, ho_0_6, hf_0_6, ho_0_7, hf_0_7, hk_0_7, hw_0_7, ho_1, ho_1_0, hf_1_0, ho_1_1, hf_1_1, hk_1_1, hw_1_1, ho_1_2, hf_1_2, hk_1_2, hw_1_2, ho_1_3, hf_1_3, hk_1_3, hw_1_3, ho_1_4, hf_1_4, hk_1_4, hw_1_4, ho_1_5, hf_1_5, hk_1_5, hw_1_5, hn_2, hi_2, hg_2, hu_2, ho_3, ho_3_0, hf_3_0, ho_3_1, hf_3_1, ho_3_2, hf_3_2, hk_3_2, hw_3_2, ho_3_3, hf_3_3, hk_3_3, hw_3_3, hn_4, hi_4, hj_4, hg_4, hu_4, ho_5, ho_5_0, hf_5_0, ho_5_1, hf_5_1, ho_5_2, hf_5_2, ho_5_3, hf_5_3, hk_5_3, hw_5_3, ho_6, ho_6_0, hf_6_0, ho_6_1, hf_6_1, ho_6_2, hf_6_2, ho_6_3, hf_6_3, hk_6_3, hw_6_3, hn_7, hi_7, hj_7, hg_7, hu_7, hn_8, hi_8, hj_8, hg_8, hu_8, hn_9, hi_9, hj_9, hg_9, hu_9, ho_10, ho_10_0, hf_10_0, ho_10_1, hf_10_1, ho_10_2, hf_10_2, ho_10_3, hf_10_3, hk_10_3, hw_10_3, ho_10_4, hf_10_4, hk_10_4, hkN_10_4, hw_10_4, hn_11, hi_11, hj_11, hg_11, hu_11, hn_12, hi_12, hj_12, hg_12, hu_12, hn_13, hi_13, hj_13, hg_13, hu_13, hn_14, hi_14, hg_14, hu_14, hn_15, hi_15, hg_15, hu_15, ho_16, ho_16_0, hf_16_0, ho_16_1, hf_16_1, ho_16_2, hf_16_2, hk_16_2, hw_16_2, ho_16_3, hf_16_3, hk_16_3, hw_16_3, ho_16_4, hf_16_4, hk_16_4, hkN_16_4, hw_16_4, hn_17, hi_17, hg_17, hu_17, hn_18, hi_18, hg_18, hu_18, hn_22, hi_22, hg_22, hu_22, C_fine, q, decide_false, zo_f]
theorem C_rend (d : Nat) (x : Nat × Nat) (hx : x.2 < 20000) (a w z : Nat) : mz (d + 1) 116 154 [some (.ref 3), some (.int (zn z)), some (.ref a), some (.int (zn w))] [] (hp n s c (tI L tp I x) J A B R Q) = some (some (some (if x.2 = 0 then .ref a else .null)), hp n s c (tI L tp I x) J A B R Q) := by
  by_cases q2 : x.2 = 0
  · rw [if_pos q2]
    simp (disch := first | omega | exact zb_1 | exact zb_0 | exact zb_n1 | exact zb_n0) only [x116_154, x116_155, x116_158, x116_161, x116_164, x116_165, x116_169, mq_dl_int, mq_dl_ref, mq_dl_null, mq_dl_none, mc_some, Option.toList_some, Option.toList_none, List.cons_append, List.nil_append, zb_1, zb_0, ↓reduceIte, if_true, if_false, not_true_eq_false, not_false_eq_true, Bool.false_eq_true, z_10, z_01, eq_self, Bool.and_self, true_or, or_true, false_or, or_false, true_and, and_true, false_and, and_false, and_self, or_self, Nat.reduceLT, Nat.reduceEqDiff, Nat.reduceLeDiff, Nat.reduceAdd, Nat.reduceMul, Nat.reduceSub, zn_lit, zn_add, zn_mul, zn_sub, zn_addneg, zn_lt, zn_le, zn_eq, zn_clamp, zn_in, zn_long, hp_1, hp_21, upd_zu, updL_zu, updQ_zu, zu_eq, zu_ne, ho_0, ho_0_0, hf_0_0, ho_0_1, hf_0_1, ho_0_2, hf_0_2, ho_0_3, hf_0_3, ho_0_4, hf_0_4, ho_0_5, hf_0_5, ho_0_6, hf_0_6, ho_0_7, hf_0_7, hk_0_7, hw_0_7, ho_1, ho_1_0, hf_1_0, ho_1_1, hf_1_1, hk_1_1, hw_1_1, ho_1_2, hf_1_2, hk_1_2, hw_1_2, ho_1_3, hf_1_3, hk_1_3, hw_1_3, ho_1_4, hf_1_4, hk_1_4, hw_1_4, ho_1_5, hf_1_5, hk_1_5, hw_1_5, hn_2, hi_2, hg_2, hu_2, ho_3, ho_3_0, hf_3_0, ho_3_1, hf_3_1, ho_3_2, hf_3_2, hk_3_2, hw_3_2, ho_3_3, hf_3_3, hk_3_3, hw_3_3, hn_4, hi_4, hj_4, hg_4, hu_4, ho_5, ho_5_0, hf_5_0, ho_5_1, hf_5_1, ho_5_2, hf_5_2, ho_5_3, hf_5_3, hk_5_3, hw_5_3, ho_6, ho_6_0, hf_6_0, ho_6_1, hf_6_1, ho_6_2, hf_6_2, ho_6_3, hf_6_3, hk_6_3, hw_6_3, hn_7, hi_7, hj_7, hg_7, hu_7, hn_8, hi_8, hj_8, hg_8, hu_8, hn_9, hi_9, hj_9, hg_9, hu_9, ho_10, ho_10_0, hf_10_0, ho_10_1, hf_10_1, ho_10_2, hf_10_2, ho_10_3, hf_10_3, hk_10_3, hw_10_3, ho_10_4, hf_10_4, hk_10_4, hkN_10_4, hw_10_4, hn_11, hi_11, hj_11, hg_11, hu_11, hn_12, hi_12, hj_12, hg_12, hu_12, hn_13, hi_13, hj_13, hg_13, hu_13, hn_14, hi_14, hg_14, hu_14, hn_15, hi_15, hg_15, hu_15, ho_16, ho_16_0, hf_16_0, ho_16_1, hf_16_1, ho_16_2, hf_16_2, hk_16_2, hw_16_2, ho_16_3, hf_16_3, hk_16_3, hw_16_3, ho_16_4, hf_16_4, hk_16_4, hkN_16_4, hw_16_4, hn_17, hi_17, hg_17, hu_17, hn_18, hi_18, hg_18, hu_18, hn_22, hi_22, hg_22, hu_22, C_fine, q2, decide_true, zo_t]
  · rw [if_neg q2]
    simp (disch := first | omega | exact zb_1 | exact zb_0 | exact zb_n1 | exact zb_n0) only [x116_154, x116_155, x116_158, x116_161, x116_168, x116_169N, mq_dl_int, mq_dl_ref, mq_dl_null, mq_dl_none, mc_some, Option.toList_some, Option.toList_none, List.cons_append, List.nil_append, zb_1, zb_0, ↓reduceIte, if_true, if_false, not_true_eq_false, not_false_eq_true, Bool.false_eq_true, z_10, z_01, eq_self, Bool.and_self, true_or, or_true, false_or, or_false, true_and, and_true, false_and, and_false, and_self, or_self, Nat.reduceLT, Nat.reduceEqDiff, Nat.reduceLeDiff, Nat.reduceAdd, Nat.reduceMul, Nat.reduceSub, zn_lit, zn_add, zn_mul, zn_sub, zn_addneg, zn_lt, zn_le, zn_eq, zn_clamp, zn_in, zn_long, hp_1, hp_21, upd_zu, updL_zu, updQ_zu, zu_eq, zu_ne, ho_0, ho_0_0, hf_0_0, ho_0_1, hf_0_1, ho_0_2, hf_0_2, ho_0_3, hf_0_3, ho_0_4, hf_0_4, ho_0_5, hf_0_5, ho_0_6, hf_0_6, ho_0_7, hf_0_7, hk_0_7, hw_0_7, ho_1, ho_1_0, hf_1_0, ho_1_1, hf_1_1, hk_1_1, hw_1_1, ho_1_2, hf_1_2, hk_1_2, hw_1_2, ho_1_3, hf_1_3, hk_1_3, hw_1_3, ho_1_4, hf_1_4, hk_1_4, hw_1_4, ho_1_5, hf_1_5, hk_1_5, hw_1_5, hn_2, hi_2, hg_2, hu_2, ho_3, ho_3_0, hf_3_0, ho_3_1, hf_3_1, ho_3_2, hf_3_2, hk_3_2, hw_3_2, ho_3_3, hf_3_3, hk_3_3, hw_3_3, hn_4, hi_4, hj_4, hg_4, hu_4, ho_5, ho_5_0, hf_5_0, ho_5_1, hf_5_1, ho_5_2, hf_5_2, ho_5_3, hf_5_3, hk_5_3, hw_5_3, ho_6, ho_6_0, hf_6_0, ho_6_1, hf_6_1, ho_6_2, hf_6_2, ho_6_3, hf_6_3, hk_6_3, hw_6_3, hn_7, hi_7, hj_7, hg_7, hu_7, hn_8, hi_8, hj_8, hg_8, hu_8, hn_9, hi_9, hj_9, hg_9, hu_9, ho_10, ho_10_0, hf_10_0, ho_10_1, hf_10_1, ho_10_2, hf_10_2, ho_10_3, hf_10_3, hk_10_3, hw_10_3, ho_10_4, hf_10_4, hk_10_4, hkN_10_4, hw_10_4, hn_11, hi_11, hj_11, hg_11, hu_11, hn_12, hi_12, hj_12, hg_12, hu_12, hn_13, hi_13, hj_13, hg_13, hu_13, hn_14, hi_14, hg_14, hu_14, hn_15, hi_15, hg_15, hu_15, ho_16, ho_16_0, hf_16_0, ho_16_1, hf_16_1, ho_16_2, hf_16_2, hk_16_2, hw_16_2, ho_16_3, hf_16_3, hk_16_3, hw_16_3, ho_16_4, hf_16_4, hk_16_4, hkN_16_4, hw_16_4, hn_17, hi_17, hg_17, hu_17, hn_18, hi_18, hg_18, hu_18, hn_22, hi_22, hg_22, hu_22, C_fine, q2, decide_false, zo_f]
theorem C_read1 (h : TKp L tp I A) (hS : STR c) (hn : 46 ≤ n) (hn2 : n + 2 < 1000000000) (d : Nat) (q : (tb4 L tp).2 = 0) : ∃ rv', mz (d + 8) 116 0 [some (.ref 3), none, none, none] [] (hp n s c I J A B R Q) = some (some (some (if (tbS L tp (zfl (fun _ => zn 0) (A 4) 0 36)).1.2 = 0 then .ref n else .null)), hp (n + 3) (s + 9 + 222) (tc c n (tbm L tp) (tbS L tp (zfl (fun _ => zn 0) (A 4) 0 36)).2.2.1 (tbS L tp (zfl (fun _ => zn 0) (A 4) 0 36)).2.2.2) (tI L tp (zu (zu (zu I 152 (zn 0)) 153 (zn (tbm L tp - 1))) 152 (zn rv')) (tbS L tp (zfl (fun _ => zn 0) (A 4) 0 36)).1) J (zu A 4 (tbS L tp (zfl (fun _ => zn 0) (A 4) 0 36)).2.1) B R Q) := by
  have hL := h.1
  have b4 := tb4_b (tp := tp) hL
  obtain ⟨f1, f2, f3, f4, f5, f6⟩ := tb4_fine q
  have s1 : seev L tp (tb0 L tp) = zn (tbm L tp) := by unfold tbm; exact seev_2 (by rw [f1]; exact f5)
  have h2 : TKp L tp (zu (zu I 152 (zn 0)) 153 (zn (tbm L tp - 1))) A := ⟨h.1, by rw [zu_ne _ _ _ _ (by omega), zu_ne _ _ _ _ (by omega)]; exact h.2.1, h.2.2⟩
  obtain ⟨rv', w', k1⟩ := C_lines (n := n + 3) (s := s + 9 + 222) (J := J) (B := B) (R := R) (Q := Q) h2 hS hn hn2 f4 (by rw [zu_eq]) d 1000 0 0 (LS0 L tp (tbm L tp) (tb4 L tp) (zfl (fun _ => zn 0) (A 4) 0 36)) rfl b4 (LIV_0 f3 f4) (fun _ => RVB_0)
  have bS := liF_b (tp := tp) (m := tbm L tp) hL 1000 (LS0 L tp (tbm L tp) (tb4 L tp) (zfl (fun _ => zn 0) (A 4) 0 36)) b4
  refine ⟨rv', ?_⟩
  rw [C_read0 h hS, s1]
  have e1 := C_fgt (n := n) (s := s) (c := c) (I := tI L tp I (tb4 L tp)) (J := J) (A := A) (B := B) (R := R) (Q := Q) (d + 7)
  rw [tI_zu _ _ (by omega)] at e1
  have e2 := C_unit (n := n) (s := s) (c := c) (I := tI L tp (zu (zu I 152 (zn 0)) 153 (zn (tbm L tp - 1))) (tb4 L tp)) (J := J) (A := zu A 4 (zfl (fun _ => zn 0) (A 4) 0 36)) (B := B) (R := R) (Q := Q) hn f3 f4 (d + 4)
  have eI : zu (zu (zu I 152 (zn 0)) 153 (zn (tbm L tp - 1))) 152 (zn 0) = zu (zu I 152 (zn 0)) 153 (zn (tbm L tp - 1)) := by
    have : zu (zu I 152 (zn 0)) 153 (zn (tbm L tp - 1)) 152 = zn 0 := by rw [zu_ne _ _ _ _ (by omega), zu_eq]
    have h9 := zu_self (zu (zu I 152 (zn 0)) 153 (zn (tbm L tp - 1))) 152
    rw [this] at h9
    exact h9
  unfold LS0 at k1
  dsimp only at k1
  rw [eI] at k1
  have e3 : mz (d + 8) 116 43 [some (.ref 3), some (.int (zn (tbm L tp))), none, none] [] (hp n s c (tI L tp I (tb4 L tp)) J A B R Q) = mz (d + 8) 116 73 [some (.ref 3), some (.int (zn (tbm L tp))), some (.ref n), some (.int (zn 0))] [] (hp (n + 3) (s + 9 + 222) (tc c n (tbm L tp) (unF (tbm L tp) 0 (fun _ => 0)) (zfl zn (fun _ => 0) 0 (tbm L tp))) (tI L tp (zu (zu I 152 (zn 0)) 153 (zn (tbm L tp - 1))) (tb4 L tp)) J (zu A 4 (zfl (fun _ => zn 0) (A 4) 0 36)) B R Q) := by
    simp (disch := first | omega | exact zb_1 | exact zb_0 | exact zb_n1 | exact zb_n0) only [x116_43, x116_44, x116_47, x116_50, x116_55, x116_56, x116_59, x116_60, x116_61, x116_62, x116_63, x116_66, x116_67, x116_70, x116_71, x116_72, mq_dl_int, mq_dl_ref, mq_dl_null, mq_dl_none, mc_some, Option.toList_some, Option.toList_none, List.cons_append, List.nil_append, zb_1, zb_0, ↓reduceIte, if_true, if_false, not_true_eq_false, not_false_eq_true, Bool.false_eq_true, z_10, z_01, eq_self, Bool.and_self, true_or, or_true, false_or, or_false, true_and, and_true, false_and, and_false, and_self, or_self, Nat.reduceLT, Nat.reduceEqDiff, Nat.reduceLeDiff, Nat.reduceAdd, Nat.reduceMul, Nat.reduceSub, zn_lit, zn_add, zn_mul, zn_sub, zn_addneg, zn_lt, zn_le, zn_eq, zn_clamp, zn_in, zn_long, hp_1, hp_21, upd_zu, updL_zu, updQ_zu, zu_eq, zu_ne, ho_0, ho_0_0, hf_0_0, ho_0_1, hf_0_1, ho_0_2, hf_0_2, ho_0_3, hf_0_3, ho_0_4, hf_0_4, ho_0_5, hf_0_5, ho_0_6, hf_0_6, ho_0_7, hf_0_7, hk_0_7, hw_0_7, ho_1, ho_1_0, hf_1_0, ho_1_1, hf_1_1, hk_1_1, hw_1_1, ho_1_2, hf_1_2, hk_1_2, hw_1_2, ho_1_3, hf_1_3, hk_1_3, hw_1_3, ho_1_4, hf_1_4, hk_1_4, hw_1_4, ho_1_5, hf_1_5, hk_1_5, hw_1_5, hn_2, hi_2, hg_2, hu_2, ho_3, ho_3_0, hf_3_0, ho_3_1, hf_3_1, ho_3_2, hf_3_2, hk_3_2, hw_3_2, ho_3_3, hf_3_3, hk_3_3, hw_3_3, hn_4, hi_4, hj_4, hg_4, hu_4, ho_5, ho_5_0, hf_5_0, ho_5_1, hf_5_1, ho_5_2, hf_5_2, ho_5_3, hf_5_3, hk_5_3, hw_5_3, ho_6, ho_6_0, hf_6_0, ho_6_1, hf_6_1, ho_6_2, hf_6_2, ho_6_3, hf_6_3, hk_6_3, hw_6_3, hn_7, hi_7, hj_7, hg_7, hu_7, hn_8, hi_8, hj_8, hg_8, hu_8, hn_9, hi_9, hj_9, hg_9, hu_9, ho_10, ho_10_0, hf_10_0, ho_10_1, hf_10_1, ho_10_2, hf_10_2, ho_10_3, hf_10_3, hk_10_3, hw_10_3, ho_10_4, hf_10_4, hk_10_4, hkN_10_4, hw_10_4, hn_11, hi_11, hj_11, hg_11, hu_11, hn_12, hi_12, hj_12, hg_12, hu_12, hn_13, hi_13, hj_13, hg_13, hu_13, hn_14, hi_14, hg_14, hu_14, hn_15, hi_15, hg_15, hu_15, ho_16, ho_16_0, hf_16_0, ho_16_1, hf_16_1, ho_16_2, hf_16_2, hk_16_2, hw_16_2, ho_16_3, hf_16_3, hk_16_3, hw_16_3, ho_16_4, hf_16_4, hk_16_4, hkN_16_4, hw_16_4, hn_17, hi_17, hg_17, hu_17, hn_18, hi_18, hg_18, hu_18, hn_22, hi_22, hg_22, hu_22, C_fine, q, tI_zu, e1, e2, decide_true, zo_t]
  rw [e3, k1]
  exact C_rend (d + 7) _ bS n _ _
end CU
