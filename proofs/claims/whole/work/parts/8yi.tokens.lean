/-! TOKENS: the tape cut -/
def blk (x : Nat) : Bool := decide (x = 10) || decide (x = 32)
def rng (lo hi x : Nat) : Bool := decide (lo ≤ x) && decide (x ≤ hi)
def sgn (x : Nat) : Bool := decide (x = 40) || decide (x = 41) || decide (x = 60) || decide (x = 61) || decide (x = 43) || decide (x = 45) || decide (x = 42) || decide (x = 59)
/-- the first place from p on, of r at most, where q doesn't hold -/
def rnF (q : Nat → Bool) (tp : Nat → Nat) : Nat → Nat → Nat
  | 0, p => p
  | r + 1, p => if q (tp p) = true then rnF q tp r (p + 1) else p
theorem rnF_le (q : Nat → Bool) (tp : Nat → Nat) : ∀ (r p : Nat), p ≤ rnF q tp r p ∧ rnF q tp r p ≤ p + r
  | 0, p => ⟨Nat.le_refl _, Nat.le_refl _⟩
  | r + 1, p => by
    unfold rnF
    by_cases h : q (tp p) = true
    · rw [if_pos h]
      have := rnF_le q tp r (p + 1)
      omega
    · rw [if_neg h]; omega
theorem rnF_s {q : Nat → Bool} {tp : Nat → Nat} {r p : Nat} (h : q (tp p) = true) : rnF q tp (r + 1) p = rnF q tp r (p + 1) := if_pos h
theorem rnF_n {q : Nat → Bool} {tp : Nat → Nat} {r p : Nat} (h : q (tp p) = false) : rnF q tp (r + 1) p = p := by
  unfold rnF
  rw [if_neg (by rw [h]; simp)]
def tkP (L : Nat) (tp : Nat → Nat) (p : Nat) : Nat := rnF blk tp (L - p) p
def tkB (L : Nat) (tp : Nat → Nat) (q : Nat) : Nat := if L ≤ q then q else if rng 97 122 (tp q) = true then rnF (rng 97 122) tp (L - q) q else if rng 48 57 (tp q) = true then rnF (rng 48 57) tp (L - q) q else q + 1
def tkS (L : Nat) (tp : Nat → Nat) (q : Nat) : Nat := if L ≤ q then 4 else if rng 97 122 (tp q) = true then (if tkB L tp q - q ≤ 8 then 1 else 0) else if rng 48 57 (tp q) = true then (if tkB L tp q - q ≤ 4 then 2 else 0) else if sgn (tp q) = true then 3 else 0
section TK
variable {n s : Nat} {c : Nat → mq_E} {I : Nat → Int32} {J : Nat → Int64} {A : Nat → Nat → Int32} {B : Nat → Nat → Int64} {R : Nat → Value} {Q : Nat → Nat → Option Nat}
variable {L : Nat} {tp : Nat → Nat}
theorem C_runl (hL : L ≤ 1000) (hI1 : I 51 = zn L) (ht : ∀ i, i < L → A 2 i = zn (tp i)) (ht2 : ∀ i, tp i < 128) (d lo hi : Nat) (hlo : lo < 128) (hhi : hi < 128) : ∀ (r b : Nat), b + r = L → mz d 132 0 [some (.ref 1), some (.int (zn lo)), some (.int (zn hi))] [] (hp n s c (zu I 54 (zn b)) J A B R Q) = some (some none, hp n s c (zu I 54 (zn (rnF (rng lo hi) tp r b))) J A B R Q) := by
  intro r
  induction r with
  | zero =>
    intro b hb
    have e : b = L := by omega
    subst e
    simp (disch := first | omega | exact zb_1 | exact zb_0 | exact zb_n1 | exact zb_n0) only [x132_0, x132_1, x132_4, x132_5, x132_8, x132_50, mq_dl_int, mq_dl_ref, mq_dl_null, mq_dl_none, mc_some, Option.toList_some, Option.toList_none, List.cons_append, List.nil_append, zb_1, zb_0, ↓reduceIte, if_true, if_false, not_true_eq_false, not_false_eq_true, Bool.false_eq_true, z_10, z_01, eq_self, Bool.and_self, true_or, or_true, false_or, or_false, true_and, and_true, false_and, and_false, and_self, or_self, Nat.reduceLT, Nat.reduceEqDiff, Nat.reduceLeDiff, Nat.reduceAdd, Nat.reduceMul, Nat.reduceSub, zn_lit, zn_add, zn_mul, zn_sub, zn_addneg, zn_lt, zn_le, zn_eq, zn_clamp, zn_in, zn_long, hp_1, hp_21, upd_zu, updL_zu, updQ_zu, zu_eq, zu_ne, ho_0, ho_0_0, hf_0_0, ho_0_1, hf_0_1, ho_0_2, hf_0_2, ho_0_3, hf_0_3, ho_0_4, hf_0_4, ho_0_5, hf_0_5, ho_0_6, hf_0_6, ho_0_7, hf_0_7, hk_0_7, hw_0_7, ho_1, ho_1_0, hf_1_0, ho_1_1, hf_1_1, hk_1_1, hw_1_1, ho_1_2, hf_1_2, hk_1_2, hw_1_2, ho_1_3, hf_1_3, hk_1_3, hw_1_3, ho_1_4, hf_1_4, hk_1_4, hw_1_4, ho_1_5, hf_1_5, hk_1_5, hw_1_5, hn_2, hi_2, hg_2, hu_2, ho_3, ho_3_0, hf_3_0, ho_3_1, hf_3_1, ho_3_2, hf_3_2, hk_3_2, hw_3_2, ho_3_3, hf_3_3, hk_3_3, hw_3_3, hn_4, hi_4, hj_4, hg_4, hu_4, ho_5, ho_5_0, hf_5_0, ho_5_1, hf_5_1, ho_5_2, hf_5_2, ho_5_3, hf_5_3, hk_5_3, hw_5_3, ho_6, ho_6_0, hf_6_0, ho_6_1, hf_6_1, ho_6_2, hf_6_2, ho_6_3, hf_6_3, hk_6_3, hw_6_3, hn_7, hi_7, hj_7, hg_7, hu_7, hn_8, hi_8, hj_8, hg_8, hu_8, hn_9, hi_9, hj_9, hg_9, hu_9, ho_10, ho_10_0, hf_10_0, ho_10_1, hf_10_1, ho_10_2, hf_10_2, ho_10_3, hf_10_3, hk_10_3, hw_10_3, ho_10_4, hf_10_4, hk_10_4, hkN_10_4, hw_10_4, hn_11, hi_11, hj_11, hg_11, hu_11, hn_12, hi_12, hj_12, hg_12, hu_12, hn_13, hi_13, hj_13, hg_13, hu_13, hn_14, hi_14, hg_14, hu_14, hn_15, hi_15, hg_15, hu_15, ho_16, ho_16_0, hf_16_0, ho_16_1, hf_16_1, ho_16_2, hf_16_2, hk_16_2, hw_16_2, ho_16_3, hf_16_3, hk_16_3, hw_16_3, ho_16_4, hf_16_4, hk_16_4, hkN_16_4, hw_16_4, hn_17, hi_17, hg_17, hu_17, hn_18, hi_18, hg_18, hu_18, hn_22, hi_22, hg_22, hu_22, hI1, Nat.le_refl, rnF]
  | succ r ih =>
    intro b hb
    have h1 := ht2 b
    rw [x132_0]
    by_cases q1 : lo ≤ tp b
    · by_cases q2 : tp b ≤ hi
      · rw [rnF_s (show rng lo hi (tp b) = true by simp [rng, q1, q2]), ← ih (b + 1) (by omega)]
        simp (disch := first | omega | exact zb_1 | exact zb_0 | exact zb_n1 | exact zb_n0) only [x132_1, x132_4, x132_5, x132_8, x132_11, x132_12, x132_15, x132_16, x132_19, x132_20, x132_21, x132_24, x132_25, x132_28, x132_29, x132_32, x132_33, x132_34, x132_37, x132_38, x132_39, x132_42, x132_43, x132_44, x132_47, mq_dl_int, mq_dl_ref, mq_dl_null, mq_dl_none, mc_some, Option.toList_some, Option.toList_none, List.cons_append, List.nil_append, zb_1, zb_0, ↓reduceIte, if_true, if_false, not_true_eq_false, not_false_eq_true, Bool.false_eq_true, z_10, z_01, eq_self, Bool.and_self, true_or, or_true, false_or, or_false, true_and, and_true, false_and, and_false, and_self, or_self, Nat.reduceLT, Nat.reduceEqDiff, Nat.reduceLeDiff, Nat.reduceAdd, Nat.reduceMul, Nat.reduceSub, zn_lit, zn_add, zn_mul, zn_sub, zn_addneg, zn_lt, zn_le, zn_eq, zn_clamp, zn_in, zn_long, hp_1, hp_21, upd_zu, updL_zu, updQ_zu, zu_eq, zu_ne, ho_0, ho_0_0, hf_0_0, ho_0_1, hf_0_1, ho_0_2, hf_0_2, ho_0_3, hf_0_3, ho_0_4, hf_0_4, ho_0_5, hf_0_5, ho_0_6, hf_0_6, ho_0_7, hf_0_7, hk_0_7, hw_0_7, ho_1, ho_1_0, hf_1_0, ho_1_1, hf_1_1, hk_1_1, hw_1_1, ho_1_2, hf_1_2, hk_1_2, hw_1_2, ho_1_3, hf_1_3, hk_1_3, hw_1_3, ho_1_4, hf_1_4, hk_1_4, hw_1_4, ho_1_5, hf_1_5, hk_1_5, hw_1_5, hn_2, hi_2, hg_2, hu_2, ho_3, ho_3_0, hf_3_0, ho_3_1, hf_3_1, ho_3_2, hf_3_2, hk_3_2, hw_3_2, ho_3_3, hf_3_3, hk_3_3, hw_3_3, hn_4, hi_4, hj_4, hg_4, hu_4, ho_5, ho_5_0, hf_5_0, ho_5_1, hf_5_1, ho_5_2, hf_5_2, ho_5_3, hf_5_3, hk_5_3, hw_5_3, ho_6, ho_6_0, hf_6_0, ho_6_1, hf_6_1, ho_6_2, hf_6_2, ho_6_3, hf_6_3, hk_6_3, hw_6_3, hn_7, hi_7, hj_7, hg_7, hu_7, hn_8, hi_8, hj_8, hg_8, hu_8, hn_9, hi_9, hj_9, hg_9, hu_9, ho_10, ho_10_0, hf_10_0, ho_10_1, hf_10_1, ho_10_2, hf_10_2, ho_10_3, hf_10_3, hk_10_3, hw_10_3, ho_10_4, hf_10_4, hk_10_4, hkN_10_4, hw_10_4, hn_11, hi_11, hj_11, hg_11, hu_11, hn_12, hi_12, hj_12, hg_12, hu_12, hn_13, hi_13, hj_13, hg_13, hu_13, hn_14, hi_14, hg_14, hu_14, hn_15, hi_15, hg_15, hu_15, ho_16, ho_16_0, hf_16_0, ho_16_1, hf_16_1, ho_16_2, hf_16_2, hk_16_2, hw_16_2, ho_16_3, hf_16_3, hk_16_3, hw_16_3, ho_16_4, hf_16_4, hk_16_4, hkN_16_4, hw_16_4, hn_17, hi_17, hg_17, hu_17, hn_18, hi_18, hg_18, hu_18, hn_22, hi_22, hg_22, hu_22, hI1, zu_zu, ht, show ¬ L ≤ b by omega, show b < 1000 by omega, decide_true, show ¬ tp b < lo by omega, show ¬ hi < tp b by omega]
      · rw [rnF_n (show rng lo hi (tp b) = false by simp [rng, q2])]
        simp (disch := first | omega | exact zb_1 | exact zb_0 | exact zb_n1 | exact zb_n0) only [x132_1, x132_4, x132_5, x132_8, x132_11, x132_12, x132_15, x132_16, x132_19, x132_20, x132_21, x132_24, x132_25, x132_28, x132_29, x132_32, x132_33, x132_34, x132_50, mq_dl_int, mq_dl_ref, mq_dl_null, mq_dl_none, mc_some, Option.toList_some, Option.toList_none, List.cons_append, List.nil_append, zb_1, zb_0, ↓reduceIte, if_true, if_false, not_true_eq_false, not_false_eq_true, Bool.false_eq_true, z_10, z_01, eq_self, Bool.and_self, true_or, or_true, false_or, or_false, true_and, and_true, false_and, and_false, and_self, or_self, Nat.reduceLT, Nat.reduceEqDiff, Nat.reduceLeDiff, Nat.reduceAdd, Nat.reduceMul, Nat.reduceSub, zn_lit, zn_add, zn_mul, zn_sub, zn_addneg, zn_lt, zn_le, zn_eq, zn_clamp, zn_in, zn_long, hp_1, hp_21, upd_zu, updL_zu, updQ_zu, zu_eq, zu_ne, ho_0, ho_0_0, hf_0_0, ho_0_1, hf_0_1, ho_0_2, hf_0_2, ho_0_3, hf_0_3, ho_0_4, hf_0_4, ho_0_5, hf_0_5, ho_0_6, hf_0_6, ho_0_7, hf_0_7, hk_0_7, hw_0_7, ho_1, ho_1_0, hf_1_0, ho_1_1, hf_1_1, hk_1_1, hw_1_1, ho_1_2, hf_1_2, hk_1_2, hw_1_2, ho_1_3, hf_1_3, hk_1_3, hw_1_3, ho_1_4, hf_1_4, hk_1_4, hw_1_4, ho_1_5, hf_1_5, hk_1_5, hw_1_5, hn_2, hi_2, hg_2, hu_2, ho_3, ho_3_0, hf_3_0, ho_3_1, hf_3_1, ho_3_2, hf_3_2, hk_3_2, hw_3_2, ho_3_3, hf_3_3, hk_3_3, hw_3_3, hn_4, hi_4, hj_4, hg_4, hu_4, ho_5, ho_5_0, hf_5_0, ho_5_1, hf_5_1, ho_5_2, hf_5_2, ho_5_3, hf_5_3, hk_5_3, hw_5_3, ho_6, ho_6_0, hf_6_0, ho_6_1, hf_6_1, ho_6_2, hf_6_2, ho_6_3, hf_6_3, hk_6_3, hw_6_3, hn_7, hi_7, hj_7, hg_7, hu_7, hn_8, hi_8, hj_8, hg_8, hu_8, hn_9, hi_9, hj_9, hg_9, hu_9, ho_10, ho_10_0, hf_10_0, ho_10_1, hf_10_1, ho_10_2, hf_10_2, ho_10_3, hf_10_3, hk_10_3, hw_10_3, ho_10_4, hf_10_4, hk_10_4, hkN_10_4, hw_10_4, hn_11, hi_11, hj_11, hg_11, hu_11, hn_12, hi_12, hj_12, hg_12, hu_12, hn_13, hi_13, hj_13, hg_13, hu_13, hn_14, hi_14, hg_14, hu_14, hn_15, hi_15, hg_15, hu_15, ho_16, ho_16_0, hf_16_0, ho_16_1, hf_16_1, ho_16_2, hf_16_2, hk_16_2, hw_16_2, ho_16_3, hf_16_3, hk_16_3, hw_16_3, ho_16_4, hf_16_4, hk_16_4, hkN_16_4, hw_16_4, hn_17, hi_17, hg_17, hu_17, hn_18, hi_18, hg_18, hu_18, hn_22, hi_22, hg_22, hu_22, hI1, ht, show ¬ L ≤ b by omega, show b < 1000 by omega, decide_true, show ¬ tp b < lo by omega, show hi < tp b by omega]
    · rw [rnF_n (show rng lo hi (tp b) = false by simp [rng, q1])]
      simp (disch := first | omega | exact zb_1 | exact zb_0 | exact zb_n1 | exact zb_n0) only [x132_1, x132_4, x132_5, x132_8, x132_11, x132_12, x132_15, x132_16, x132_19, x132_20, x132_21, x132_50, mq_dl_int, mq_dl_ref, mq_dl_null, mq_dl_none, mc_some, Option.toList_some, Option.toList_none, List.cons_append, List.nil_append, zb_1, zb_0, ↓reduceIte, if_true, if_false, not_true_eq_false, not_false_eq_true, Bool.false_eq_true, z_10, z_01, eq_self, Bool.and_self, true_or, or_true, false_or, or_false, true_and, and_true, false_and, and_false, and_self, or_self, Nat.reduceLT, Nat.reduceEqDiff, Nat.reduceLeDiff, Nat.reduceAdd, Nat.reduceMul, Nat.reduceSub, zn_lit, zn_add, zn_mul, zn_sub, zn_addneg, zn_lt, zn_le, zn_eq, zn_clamp, zn_in, zn_long, hp_1, hp_21, upd_zu, updL_zu, updQ_zu, zu_eq, zu_ne, ho_0, ho_0_0, hf_0_0, ho_0_1, hf_0_1, ho_0_2, hf_0_2, ho_0_3, hf_0_3, ho_0_4, hf_0_4, ho_0_5, hf_0_5, ho_0_6, hf_0_6, ho_0_7, hf_0_7, hk_0_7, hw_0_7, ho_1, ho_1_0, hf_1_0, ho_1_1, hf_1_1, hk_1_1, hw_1_1, ho_1_2, hf_1_2, hk_1_2, hw_1_2, ho_1_3, hf_1_3, hk_1_3, hw_1_3, ho_1_4, hf_1_4, hk_1_4, hw_1_4, ho_1_5, hf_1_5, hk_1_5, hw_1_5, hn_2, hi_2, hg_2, hu_2, ho_3, ho_3_0, hf_3_0, ho_3_1, hf_3_1, ho_3_2, hf_3_2, hk_3_2, hw_3_2, ho_3_3, hf_3_3, hk_3_3, hw_3_3, hn_4, hi_4, hj_4, hg_4, hu_4, ho_5, ho_5_0, hf_5_0, ho_5_1, hf_5_1, ho_5_2, hf_5_2, ho_5_3, hf_5_3, hk_5_3, hw_5_3, ho_6, ho_6_0, hf_6_0, ho_6_1, hf_6_1, ho_6_2, hf_6_2, ho_6_3, hf_6_3, hk_6_3, hw_6_3, hn_7, hi_7, hj_7, hg_7, hu_7, hn_8, hi_8, hj_8, hg_8, hu_8, hn_9, hi_9, hj_9, hg_9, hu_9, ho_10, ho_10_0, hf_10_0, ho_10_1, hf_10_1, ho_10_2, hf_10_2, ho_10_3, hf_10_3, hk_10_3, hw_10_3, ho_10_4, hf_10_4, hk_10_4, hkN_10_4, hw_10_4, hn_11, hi_11, hj_11, hg_11, hu_11, hn_12, hi_12, hj_12, hg_12, hu_12, hn_13, hi_13, hj_13, hg_13, hu_13, hn_14, hi_14, hg_14, hu_14, hn_15, hi_15, hg_15, hu_15, ho_16, ho_16_0, hf_16_0, ho_16_1, hf_16_1, ho_16_2, hf_16_2, hk_16_2, hw_16_2, ho_16_3, hf_16_3, hk_16_3, hw_16_3, ho_16_4, hf_16_4, hk_16_4, hkN_16_4, hw_16_4, hn_17, hi_17, hg_17, hu_17, hn_18, hi_18, hg_18, hu_18, hn_22, hi_22, hg_22, hu_22, hI1, ht, show ¬ L ≤ b by omega, show b < 1000 by omega, decide_true, show tp b < lo by omega]
theorem C_run (hL : L ≤ 1000) (hI1 : I 51 = zn L) (ht : ∀ i, i < L → A 2 i = zn (tp i)) (ht2 : ∀ i, tp i < 128) (d lo hi b : Nat) (hlo : lo < 128) (hhi : hi < 128) (hb : b ≤ L) (hI4 : I 54 = zn b) : mz d 132 0 [some (.ref 1), some (.int (zn lo)), some (.int (zn hi))] [] (hp n s c I J A B R Q) = some (some none, hp n s c (zu I 54 (zn (rnF (rng lo hi) tp (L - b) b))) J A B R Q) := by
  rw [← C_runl hL hI1 ht ht2 d lo hi hlo hhi (L - b) b (by omega), ← hI4, zu_self]
theorem C_skl (hL : L ≤ 1000) (hI1 : I 51 = zn L) (ht : ∀ i, i < L → A 2 i = zn (tp i)) (ht2 : ∀ i, tp i < 128) (d : Nat) (o : Option Value) : ∀ (r b : Nat), b + r = L → mz d 131 8 [some (.ref 1), o] [] (hp n s c (zu I 54 (zn b)) J A B R Q) = mz d 131 60 [some (.ref 1), o] [] (hp n s c (zu I 54 (zn (rnF blk tp r b))) J A B R Q) := by
  intro r
  induction r with
  | zero =>
    intro b hb
    have e : b = L := by omega
    subst e
    simp (disch := first | omega | exact zb_1 | exact zb_0 | exact zb_n1 | exact zb_n0) only [x131_8, x131_9, x131_12, x131_13, x131_16, mq_dl_int, mq_dl_ref, mq_dl_null, mq_dl_none, mc_some, Option.toList_some, Option.toList_none, List.cons_append, List.nil_append, zb_1, zb_0, ↓reduceIte, if_true, if_false, not_true_eq_false, not_false_eq_true, Bool.false_eq_true, z_10, z_01, eq_self, Bool.and_self, true_or, or_true, false_or, or_false, true_and, and_true, false_and, and_false, and_self, or_self, Nat.reduceLT, Nat.reduceEqDiff, Nat.reduceLeDiff, Nat.reduceAdd, Nat.reduceMul, Nat.reduceSub, zn_lit, zn_add, zn_mul, zn_sub, zn_addneg, zn_lt, zn_le, zn_eq, zn_clamp, zn_in, zn_long, hp_1, hp_21, upd_zu, updL_zu, updQ_zu, zu_eq, zu_ne, ho_0, ho_0_0, hf_0_0, ho_0_1, hf_0_1, ho_0_2, hf_0_2, ho_0_3, hf_0_3, ho_0_4, hf_0_4, ho_0_5, hf_0_5, ho_0_6, hf_0_6, ho_0_7, hf_0_7, hk_0_7, hw_0_7, ho_1, ho_1_0, hf_1_0, ho_1_1, hf_1_1, hk_1_1, hw_1_1, ho_1_2, hf_1_2, hk_1_2, hw_1_2, ho_1_3, hf_1_3, hk_1_3, hw_1_3, ho_1_4, hf_1_4, hk_1_4, hw_1_4, ho_1_5, hf_1_5, hk_1_5, hw_1_5, hn_2, hi_2, hg_2, hu_2, ho_3, ho_3_0, hf_3_0, ho_3_1, hf_3_1, ho_3_2, hf_3_2, hk_3_2, hw_3_2, ho_3_3, hf_3_3, hk_3_3, hw_3_3, hn_4, hi_4, hj_4, hg_4, hu_4, ho_5, ho_5_0, hf_5_0, ho_5_1, hf_5_1, ho_5_2, hf_5_2, ho_5_3, hf_5_3, hk_5_3, hw_5_3, ho_6, ho_6_0, hf_6_0, ho_6_1, hf_6_1, ho_6_2, hf_6_2, ho_6_3, hf_6_3, hk_6_3, hw_6_3, hn_7, hi_7, hj_7, hg_7, hu_7, hn_8, hi_8, hj_8, hg_8, hu_8, hn_9, hi_9, hj_9, hg_9, hu_9, ho_10, ho_10_0, hf_10_0, ho_10_1, hf_10_1, ho_10_2, hf_10_2, ho_10_3, hf_10_3, hk_10_3, hw_10_3, ho_10_4, hf_10_4, hk_10_4, hkN_10_4, hw_10_4, hn_11, hi_11, hj_11, hg_11, hu_11, hn_12, hi_12, hj_12, hg_12, hu_12, hn_13, hi_13, hj_13, hg_13, hu_13, hn_14, hi_14, hg_14, hu_14, hn_15, hi_15, hg_15, hu_15, ho_16, ho_16_0, hf_16_0, ho_16_1, hf_16_1, ho_16_2, hf_16_2, hk_16_2, hw_16_2, ho_16_3, hf_16_3, hk_16_3, hw_16_3, ho_16_4, hf_16_4, hk_16_4, hkN_16_4, hw_16_4, hn_17, hi_17, hg_17, hu_17, hn_18, hi_18, hg_18, hu_18, hn_22, hi_22, hg_22, hu_22, hI1, Nat.le_refl, rnF]
  | succ r ih =>
    intro b hb
    have h1 := ht2 b
    rw [x131_8]
    by_cases q1 : tp b = 10
    · rw [rnF_s (show blk (tp b) = true by simp [blk, q1]), ← ih (b + 1) (by omega)]
      simp (disch := first | omega | exact zb_1 | exact zb_0 | exact zb_n1 | exact zb_n0) only [x131_9, x131_12, x131_13, x131_16, x131_19, x131_20, x131_23, x131_24, x131_27, x131_28, x131_30, x131_47, x131_48, x131_49, x131_52, x131_53, x131_54, x131_57, mq_dl_int, mq_dl_ref, mq_dl_null, mq_dl_none, mc_some, Option.toList_some, Option.toList_none, List.cons_append, List.nil_append, zb_1, zb_0, ↓reduceIte, if_true, if_false, not_true_eq_false, not_false_eq_true, Bool.false_eq_true, z_10, z_01, eq_self, Bool.and_self, true_or, or_true, false_or, or_false, true_and, and_true, false_and, and_false, and_self, or_self, Nat.reduceLT, Nat.reduceEqDiff, Nat.reduceLeDiff, Nat.reduceAdd, Nat.reduceMul, Nat.reduceSub, zn_lit, zn_add, zn_mul, zn_sub, zn_addneg, zn_lt, zn_le, zn_eq, zn_clamp, zn_in, zn_long, hp_1, hp_21, upd_zu, updL_zu, updQ_zu, zu_eq, zu_ne, ho_0, ho_0_0, hf_0_0, ho_0_1, hf_0_1, ho_0_2, hf_0_2, ho_0_3, hf_0_3, ho_0_4, hf_0_4, ho_0_5, hf_0_5, ho_0_6, hf_0_6, ho_0_7, hf_0_7, hk_0_7, hw_0_7, ho_1, ho_1_0, hf_1_0, ho_1_1, hf_1_1, hk_1_1, hw_1_1, ho_1_2, hf_1_2, hk_1_2, hw_1_2, ho_1_3, hf_1_3, hk_1_3, hw_1_3, ho_1_4, hf_1_4, hk_1_4, hw_1_4, ho_1_5, hf_1_5, hk_1_5, hw_1_5, hn_2, hi_2, hg_2, hu_2, ho_3, ho_3_0, hf_3_0, ho_3_1, hf_3_1, ho_3_2, hf_3_2, hk_3_2, hw_3_2, ho_3_3, hf_3_3, hk_3_3, hw_3_3, hn_4, hi_4, hj_4, hg_4, hu_4, ho_5, ho_5_0, hf_5_0, ho_5_1, hf_5_1, ho_5_2, hf_5_2, ho_5_3, hf_5_3, hk_5_3, hw_5_3, ho_6, ho_6_0, hf_6_0, ho_6_1, hf_6_1, ho_6_2, hf_6_2, ho_6_3, hf_6_3, hk_6_3, hw_6_3, hn_7, hi_7, hj_7, hg_7, hu_7, hn_8, hi_8, hj_8, hg_8, hu_8, hn_9, hi_9, hj_9, hg_9, hu_9, ho_10, ho_10_0, hf_10_0, ho_10_1, hf_10_1, ho_10_2, hf_10_2, ho_10_3, hf_10_3, hk_10_3, hw_10_3, ho_10_4, hf_10_4, hk_10_4, hkN_10_4, hw_10_4, hn_11, hi_11, hj_11, hg_11, hu_11, hn_12, hi_12, hj_12, hg_12, hu_12, hn_13, hi_13, hj_13, hg_13, hu_13, hn_14, hi_14, hg_14, hu_14, hn_15, hi_15, hg_15, hu_15, ho_16, ho_16_0, hf_16_0, ho_16_1, hf_16_1, ho_16_2, hf_16_2, hk_16_2, hw_16_2, ho_16_3, hf_16_3, hk_16_3, hw_16_3, ho_16_4, hf_16_4, hk_16_4, hkN_16_4, hw_16_4, hn_17, hi_17, hg_17, hu_17, hn_18, hi_18, hg_18, hu_18, hn_22, hi_22, hg_22, hu_22, hI1, zu_zu, ht, show ¬ L ≤ b by omega, show b < 1000 by omega, decide_true, q1]
    · by_cases q2 : tp b = 32
      · rw [rnF_s (show blk (tp b) = true by simp [blk, q2]), ← ih (b + 1) (by omega)]
        simp (disch := first | omega | exact zb_1 | exact zb_0 | exact zb_n1 | exact zb_n0) only [x131_9, x131_12, x131_13, x131_16, x131_19, x131_20, x131_23, x131_24, x131_27, x131_28, x131_30, x131_33, x131_34, x131_37, x131_38, x131_41, x131_42, x131_44, x131_47, x131_48, x131_49, x131_52, x131_53, x131_54, x131_57, mq_dl_int, mq_dl_ref, mq_dl_null, mq_dl_none, mc_some, Option.toList_some, Option.toList_none, List.cons_append, List.nil_append, zb_1, zb_0, ↓reduceIte, if_true, if_false, not_true_eq_false, not_false_eq_true, Bool.false_eq_true, z_10, z_01, eq_self, Bool.and_self, true_or, or_true, false_or, or_false, true_and, and_true, false_and, and_false, and_self, or_self, Nat.reduceLT, Nat.reduceEqDiff, Nat.reduceLeDiff, Nat.reduceAdd, Nat.reduceMul, Nat.reduceSub, zn_lit, zn_add, zn_mul, zn_sub, zn_addneg, zn_lt, zn_le, zn_eq, zn_clamp, zn_in, zn_long, hp_1, hp_21, upd_zu, updL_zu, updQ_zu, zu_eq, zu_ne, ho_0, ho_0_0, hf_0_0, ho_0_1, hf_0_1, ho_0_2, hf_0_2, ho_0_3, hf_0_3, ho_0_4, hf_0_4, ho_0_5, hf_0_5, ho_0_6, hf_0_6, ho_0_7, hf_0_7, hk_0_7, hw_0_7, ho_1, ho_1_0, hf_1_0, ho_1_1, hf_1_1, hk_1_1, hw_1_1, ho_1_2, hf_1_2, hk_1_2, hw_1_2, ho_1_3, hf_1_3, hk_1_3, hw_1_3, ho_1_4, hf_1_4, hk_1_4, hw_1_4, ho_1_5, hf_1_5, hk_1_5, hw_1_5, hn_2, hi_2, hg_2, hu_2, ho_3, ho_3_0, hf_3_0, ho_3_1, hf_3_1, ho_3_2, hf_3_2, hk_3_2, hw_3_2, ho_3_3, hf_3_3, hk_3_3, hw_3_3, hn_4, hi_4, hj_4, hg_4, hu_4, ho_5, ho_5_0, hf_5_0, ho_5_1, hf_5_1, ho_5_2, hf_5_2, ho_5_3, hf_5_3, hk_5_3, hw_5_3, ho_6, ho_6_0, hf_6_0, ho_6_1, hf_6_1, ho_6_2, hf_6_2, ho_6_3, hf_6_3, hk_6_3, hw_6_3, hn_7, hi_7, hj_7, hg_7, hu_7, hn_8, hi_8, hj_8, hg_8, hu_8, hn_9, hi_9, hj_9, hg_9, hu_9, ho_10, ho_10_0, hf_10_0, ho_10_1, hf_10_1, ho_10_2, hf_10_2, ho_10_3, hf_10_3, hk_10_3, hw_10_3, ho_10_4, hf_10_4, hk_10_4, hkN_10_4, hw_10_4, hn_11, hi_11, hj_11, hg_11, hu_11, hn_12, hi_12, hj_12, hg_12, hu_12, hn_13, hi_13, hj_13, hg_13, hu_13, hn_14, hi_14, hg_14, hu_14, hn_15, hi_15, hg_15, hu_15, ho_16, ho_16_0, hf_16_0, ho_16_1, hf_16_1, ho_16_2, hf_16_2, hk_16_2, hw_16_2, ho_16_3, hf_16_3, hk_16_3, hw_16_3, ho_16_4, hf_16_4, hk_16_4, hkN_16_4, hw_16_4, hn_17, hi_17, hg_17, hu_17, hn_18, hi_18, hg_18, hu_18, hn_22, hi_22, hg_22, hu_22, hI1, zu_zu, ht, show ¬ L ≤ b by omega, show b < 1000 by omega, decide_true, q2]
      · rw [rnF_n (show blk (tp b) = false by simp [blk, q1, q2])]
        simp (disch := first | omega | exact zb_1 | exact zb_0 | exact zb_n1 | exact zb_n0) only [x131_9, x131_12, x131_13, x131_16, x131_19, x131_20, x131_23, x131_24, x131_27, x131_28, x131_30, x131_33, x131_34, x131_37, x131_38, x131_41, x131_42, x131_44, mq_dl_int, mq_dl_ref, mq_dl_null, mq_dl_none, mc_some, Option.toList_some, Option.toList_none, List.cons_append, List.nil_append, zb_1, zb_0, ↓reduceIte, if_true, if_false, not_true_eq_false, not_false_eq_true, Bool.false_eq_true, z_10, z_01, eq_self, Bool.and_self, true_or, or_true, false_or, or_false, true_and, and_true, false_and, and_false, and_self, or_self, Nat.reduceLT, Nat.reduceEqDiff, Nat.reduceLeDiff, Nat.reduceAdd, Nat.reduceMul, Nat.reduceSub, zn_lit, zn_add, zn_mul, zn_sub, zn_addneg, zn_lt, zn_le, zn_eq, zn_clamp, zn_in, zn_long, hp_1, hp_21, upd_zu, updL_zu, updQ_zu, zu_eq, zu_ne, ho_0, ho_0_0, hf_0_0, ho_0_1, hf_0_1, ho_0_2, hf_0_2, ho_0_3, hf_0_3, ho_0_4, hf_0_4, ho_0_5, hf_0_5, ho_0_6, hf_0_6, ho_0_7, hf_0_7, hk_0_7, hw_0_7, ho_1, ho_1_0, hf_1_0, ho_1_1, hf_1_1, hk_1_1, hw_1_1, ho_1_2, hf_1_2, hk_1_2, hw_1_2, ho_1_3, hf_1_3, hk_1_3, hw_1_3, ho_1_4, hf_1_4, hk_1_4, hw_1_4, ho_1_5, hf_1_5, hk_1_5, hw_1_5, hn_2, hi_2, hg_2, hu_2, ho_3, ho_3_0, hf_3_0, ho_3_1, hf_3_1, ho_3_2, hf_3_2, hk_3_2, hw_3_2, ho_3_3, hf_3_3, hk_3_3, hw_3_3, hn_4, hi_4, hj_4, hg_4, hu_4, ho_5, ho_5_0, hf_5_0, ho_5_1, hf_5_1, ho_5_2, hf_5_2, ho_5_3, hf_5_3, hk_5_3, hw_5_3, ho_6, ho_6_0, hf_6_0, ho_6_1, hf_6_1, ho_6_2, hf_6_2, ho_6_3, hf_6_3, hk_6_3, hw_6_3, hn_7, hi_7, hj_7, hg_7, hu_7, hn_8, hi_8, hj_8, hg_8, hu_8, hn_9, hi_9, hj_9, hg_9, hu_9, ho_10, ho_10_0, hf_10_0, ho_10_1, hf_10_1, ho_10_2, hf_10_2, ho_10_3, hf_10_3, hk_10_3, hw_10_3, ho_10_4, hf_10_4, hk_10_4, hkN_10_4, hw_10_4, hn_11, hi_11, hj_11, hg_11, hu_11, hn_12, hi_12, hj_12, hg_12, hu_12, hn_13, hi_13, hj_13, hg_13, hu_13, hn_14, hi_14, hg_14, hu_14, hn_15, hi_15, hg_15, hu_15, ho_16, ho_16_0, hf_16_0, ho_16_1, hf_16_1, ho_16_2, hf_16_2, hk_16_2, hw_16_2, ho_16_3, hf_16_3, hk_16_3, hw_16_3, ho_16_4, hf_16_4, hk_16_4, hkN_16_4, hw_16_4, hn_17, hi_17, hg_17, hu_17, hn_18, hi_18, hg_18, hu_18, hn_22, hi_22, hg_22, hu_22, hI1, ht, show ¬ L ≤ b by omega, show b < 1000 by omega, decide_true, q1, q2]
theorem C_sk (hL : L ≤ 1000) (hI1 : I 51 = zn L) (ht : ∀ i, i < L → A 2 i = zn (tp i)) (ht2 : ∀ i, tp i < 128) (d b : Nat) (o : Option Value) (hb : b ≤ L) (hI4 : I 54 = zn b) : mz d 131 8 [some (.ref 1), o] [] (hp n s c I J A B R Q) = mz d 131 60 [some (.ref 1), o] [] (hp n s c (zu I 54 (zn (tkP L tp b))) J A B R Q) := by
  have := C_skl (n := n) (s := s) (c := c) (I := I) (J := J) (A := A) (B := B) (R := R) (Q := Q) hL hI1 ht ht2 d o (L - b) b (by omega)
  rw [← hI4, zu_self] at this
  exact this
end TK
/-! WORDS: the constant texts -/
def wl (i : Nat) : Nat := mz_len.getD i 0
def wb (i j : Nat) : Nat := ((mz_byt.getD i []).getD j 0).toNatClampNeg
def STR (c : Nat → mq_E) : Prop := ∀ i, i < 16 → c (1000000001 + i) = .inr (11, [.ref (1000000100 + i), .int (zn 0)]) ∧ c (1000000100 + i) = .inl (6, wl i, .inl (fun j => zn (wb i j)))
theorem wl_8 (i : Nat) (hi : i < 16) : wl i ≤ 8 := by
  have : ∀ i, i < 16 → wl i ≤ 8 := by decide +kernel
  exact this i hi
theorem wb_ok (i j : Nat) (hi : i < 16) (hj : j < 8) : wb i j < 128 := by
  have : ∀ i, i < 16 → ∀ j, j < 8 → wb i j < 128 := by decide +kernel
  exact this i hi j hj
theorem z8_0 : (zn 0).toInt8.toInt32 = zn 0 := by decide
def eak (e : mq_E) : Bool := match e with
  | .inl (k, _, _) => decide (k < 7)
  | _ => false
theorem eak_i (k n : Nat) (g : Nat → Int32) : eak (.inl (k, n, .inl g)) = decide (k < 7) := rfl
theorem ze_ofNat (n : Nat) : Int32.ofNat n = zn n := rfl
section TW
variable {n s : Nat} {c : Nat → mq_E} {I : Nat → Int32} {J : Nat → Int64} {A : Nat → Nat → Int32} {B : Nat → Nat → Int64} {R : Nat → Value} {Q : Nat → Nat → Option Nat}
theorem hakE (a : Nat) (ha : 46 ≤ a) : mak (hp n s c I J A B R Q) a = eak (c a) := by
  unfold mak; rw [hp_c _ _ _ _ _ _ _ _ _ a (hs_big _ ha)]; rfl
theorem S_coder (hS : STR c) (d i a : Nat) (hi : i < 16) (ha : a = 1000000001 + i) : mz d 296 0 [some (.ref a)] [] (hp n s c I J A B R Q) = some (some (some (.int (zn 0))), (hp n s c I J A B R Q)) := by
  have h0 := (hS i hi).1
  rw [← ha] at h0
  have ha46 : 46 ≤ a := by omega
  simp (disch := first | omega | exact z8_0) only [x296_0, x296_3, x296_6, x296_6N, x296_7, x296_10, x296_14, x296_13, mq_dl_int, mq_dl_ref, mq_dl_null, mq_dl_none, mc_some, Option.toList_some, Option.toList_none, List.cons_append, List.nil_append, zb_1, zb_0, ↓reduceIte, if_true, if_false, not_true_eq_false, not_false_eq_true, Bool.false_eq_true, z_10, z_01, eq_self, Bool.and_self, true_or, or_true, false_or, or_false, true_and, and_true, false_and, and_false, and_self, or_self, Nat.reduceLT, Nat.reduceEqDiff, Nat.reduceLeDiff, Nat.reduceAdd, Nat.reduceMul, Nat.reduceSub, zn_lit, zn_add, zn_mul, zn_sub, zn_addneg, zn_lt, zn_le, zn_eq, zn_clamp, zn_in, zn_long, hpoB, hpfB, h0, eo_i, efs_i, List.length_cons, List.length_nil, List.getD_cons_succ, List.getD_cons_zero, decide_true, Bool.true_and]
theorem S_lat (hS : STR c) (d i a : Nat) (hi : i < 16) (ha : a = 1000000001 + i) : mz d 297 0 [some (.ref a)] [] (hp n s c I J A B R Q) = some (some (some (.int (zn 1))), (hp n s c I J A B R Q)) := by
  have h0 := (hS i hi).1
  rw [← ha] at h0
  have ha46 : 46 ≤ a := by omega
  simp (disch := first | omega | exact zb_1 | exact zb_0 | exact zb_n1 | exact zb_n0) only [x297_0, x297_3, x297_6, x297_6N, x297_7, x297_10, x297_13, x297_14, x297_18, x297_17, mq_dl_int, mq_dl_ref, mq_dl_null, mq_dl_none, mc_some, Option.toList_some, Option.toList_none, List.cons_append, List.nil_append, zb_1, zb_0, ↓reduceIte, if_true, if_false, not_true_eq_false, not_false_eq_true, Bool.false_eq_true, z_10, z_01, eq_self, Bool.and_self, true_or, or_true, false_or, or_false, true_and, and_true, false_and, and_false, and_self, or_self, Nat.reduceLT, Nat.reduceEqDiff, Nat.reduceLeDiff, Nat.reduceAdd, Nat.reduceMul, Nat.reduceSub, zn_lit, zn_add, zn_mul, zn_sub, zn_addneg, zn_lt, zn_le, zn_eq, zn_clamp, zn_in, zn_long, hpoB, hpfB, h0, eo_i, efs_i, List.length_cons, List.length_nil, List.getD_cons_succ, List.getD_cons_zero, decide_true, Bool.true_and]
theorem S_len (hS : STR c) (d i a : Nat) (hi : i < 16) (ha : a = 1000000001 + i) : mz (d + 1) 292 0 [some (.ref a)] [] (hp n s c I J A B R Q) = some (some (some (.int (zn (wl i)))), (hp n s c I J A B R Q)) := by
  have h8 := wl_8 i hi
  have h0 := (hS i hi).1
  rw [← ha] at h0
  have ha46 : 46 ≤ a := by omega
  simp (disch := first | omega | exact zb_1 | exact zb_0 | exact zb_n1 | exact zb_n0) only [x292_0, x292_0N, x292_1, x292_4, x292_5, x292_5N, x292_6, x292_9, x292_10, mq_dl_int, mq_dl_ref, mq_dl_null, mq_dl_none, mc_some, Option.toList_some, Option.toList_none, List.cons_append, List.nil_append, zb_1, zb_0, ↓reduceIte, if_true, if_false, not_true_eq_false, not_false_eq_true, Bool.false_eq_true, z_10, z_01, eq_self, Bool.and_self, true_or, or_true, false_or, or_false, true_and, and_true, false_and, and_false, and_self, or_self, Nat.reduceLT, Nat.reduceEqDiff, Nat.reduceLeDiff, Nat.reduceAdd, Nat.reduceMul, Nat.reduceSub, zn_lit, zn_add, zn_mul, zn_sub, zn_addneg, zn_lt, zn_le, zn_eq, zn_clamp, zn_in, zn_long, hpoB, hpo0B, hpfB, hakE, hanB, S_coder hS d i a hi ha, h0, (hS i hi).2, eo_i, eo0_i, efs_i, eak_i, ean_i, ze_ofNat, zn_shr, Nat.shiftRight_zero, List.length_cons, List.length_nil, List.getD_cons_succ, List.getD_cons_zero, decide_true, Bool.true_and]
theorem zn_n0 (j : Nat) (hj : j < 2147483648) : ¬ zn j < 0 := by
  have := zn_lt j 0 hj (by omega)
  intro q
  have q2 : zn j < zn 0 := q
  rw [this] at q2
  omega
theorem zn_ltp (a b : Nat) (ha : a < 2147483648) (hb : b < 2147483648) (h : a < b) : zn a < zn b := by rw [zn_lt a b ha hb]; exact h
theorem zn_c255 (b : Nat) (h : b < 128) : ((zn b &&& zn 255).toUInt32 % 65536).toInt32 = zn b := by
  have key : ∀ b : Fin 128, ((zn b.1 &&& zn 255).toUInt32 % 65536).toInt32 = zn b.1 := by decide +kernel
  exact key ⟨b, h⟩
theorem zn_i2b (b : Nat) (h : b < 128) : (zn b).toInt8.toInt32 = zn b := by
  have key : ∀ b : Fin 128, (zn b.1).toInt8.toInt32 = zn b.1 := by decide +kernel
  exact key ⟨b, h⟩
theorem S_at1 (hS : STR c) (d i j : Nat) (hi : i < 16) (hj : j < wl i) : mz (d + 2) 299 0 [some (.ref (1000000100 + i)), some (.int (zn j))] [] (hp n s c I J A B R Q) = some (some (some (.int (zn (wb i j)))), (hp n s c I J A B R Q)) := by
  have h8 := wl_8 i hi
  have hw := wb_ok i j hi (by omega)
  have h1 := x298_0 d (hp n s c I J A B R Q) (zn j) (zn (wl i)) (zn_n0 j (by omega)) (zn_ltp j (wl i) (by omega) (by omega) hj)
  have hz := zn_c255 (wb i j) hw
  simp (disch := first | omega | exact zb_1 | exact zb_0 | exact zb_n1 | exact zb_n0) only [x299_0, x299_1, x299_2, x299_3, x299_6, x299_7, x299_8, x299_9, x299_12, mq_dl_int, mq_dl_ref, mq_dl_null, mq_dl_none, mc_some, Option.toList_some, Option.toList_none, List.cons_append, List.nil_append, zb_1, zb_0, ↓reduceIte, if_true, if_false, not_true_eq_false, not_false_eq_true, Bool.false_eq_true, z_10, z_01, eq_self, Bool.and_self, true_or, or_true, false_or, or_false, true_and, and_true, false_and, and_false, and_self, or_self, hakE, hanB, haiB, hagB, h1, (hS i hi).2, eak_i, ean_i, eai_i, eag_i, ze_ofNat, zn_in, zn_clamp, hj, zn_lit, decide_true, decide_false, Bool.false_or, Bool.or_true, Bool.true_and, Nat.reduceLT, Nat.reduceEqDiff]
  rw [x299_13]
  rw [hz]
  exact x299_14 _ _ _ _ _ (zn_char (wb i j) (by omega)).1
theorem S_at (hS : STR c) (d i j a : Nat) (hi : i < 16) (ha : a = 1000000001 + i) (hj : j < wl i) : mz (d + 3) 293 0 [some (.ref a), some (.int (zn j))] [] (hp n s c I J A B R Q) = some (some (some (.int (zn (wb i j)))), (hp n s c I J A B R Q)) := by
  have hw := wb_ok i j hi (by have := wl_8 i hi; omega)
  have hc := (zn_char (wb i j) (by omega)).1
  have h0 := (hS i hi).1
  rw [← ha] at h0
  have ha46 : 46 ≤ a := by omega
  simp (disch := first | omega | exact hc | exact zb_n1) only [x293_0, x293_0N, x293_1, x293_4, x293_7, x293_7N, x293_8, x293_11, x293_12, x293_15, x293_16, x293_16N, x293_17, x293_20, x293_24, mq_dl_int, mq_dl_ref, mq_dl_null, mq_dl_none, mc_some, Option.toList_some, Option.toList_none, List.cons_append, List.nil_append, zb_1, zb_0, ↓reduceIte, if_true, if_false, not_true_eq_false, not_false_eq_true, Bool.false_eq_true, z_10, z_01, eq_self, Bool.and_self, true_or, or_true, false_or, or_false, true_and, and_true, false_and, and_false, and_self, or_self, Nat.reduceLT, Nat.reduceEqDiff, Nat.reduceLeDiff, Nat.reduceAdd, Nat.reduceMul, Nat.reduceSub, zn_lit, zn_add, zn_mul, zn_sub, zn_addneg, zn_lt, zn_le, zn_eq, zn_clamp, zn_in, zn_long, hpoB, hpo0B, hpfB, S_lat hS (d + 2) i a hi ha, S_at1 hS d i j hi hj, h0, eo_i, eo0_i, efs_i, List.length_cons, List.length_nil, List.getD_cons_succ, List.getD_cons_zero, decide_true, Bool.true_and]
theorem S_idl (hS : STR c) (d x : Nat) (hx : x < 128) (o1 o2 : Option Value) : ∀ r k, k + r = 8 → ∃ z : Int32, mz d 302 7 [some (.ref 1000000100), o1, o2, some (.int (zn 8)), some (.int (zn x)), some (.int (zn k))] [] (hp n s c I J A B R Q) = some (some (some (.int z)), (hp n s c I J A B R Q)) ∧ ((z < zn 0) = (zany (fun j => decide (x = wb 0 j)) k r = false)) := by
  have h0 := (hS 0 (by omega)).2
  rw [Nat.add_zero] at h0
  have hw0 : wl 0 = 8 := by decide
  rw [hw0] at h0
  intro r
  induction r with
  | zero =>
    intro k hk
    have e : k = 8 := by omega
    subst e
    refine ⟨-1, ?_, ?_⟩
    · simp (disch := first | omega | exact zb_1 | exact zb_0 | exact zb_n1 | exact zb_n0) only [x302_7, x302_9, x302_10, x302_13, x302_13N, x302_14, x302_16, x302_17, x302_19, x302_22, x302_24, x302_25, x302_28, x302_31, x302_32, mq_dl_int, mq_dl_ref, mq_dl_null, mq_dl_none, mc_some, Option.toList_some, Option.toList_none, List.cons_append, List.nil_append, zb_1, zb_0, ↓reduceIte, if_true, if_false, not_true_eq_false, not_false_eq_true, Bool.false_eq_true, z_10, z_01, eq_self, Bool.and_self, true_or, or_true, false_or, or_false, true_and, and_true, false_and, and_false, and_self, or_self, zn_le, Nat.le_refl]
    · simp only [zany, eq_self]
      exact eq_true (by decide)
  | succ r ih =>
    intro k hk
    have hw := wb_ok 0 k (by omega) (by omega)
    by_cases q : x = wb 0 k
    · refine ⟨zn k, ?_, ?_⟩
      · rw [x302_7]
        simp (disch := first | omega | exact zb_1 | exact zb_0 | exact zb_n1 | exact zb_n0) only [x302_9, x302_10, x302_13, x302_14, x302_16, x302_17, x302_19, x302_22, x302_24, mq_dl_int, mq_dl_ref, mq_dl_null, mq_dl_none, mc_some, Option.toList_some, Option.toList_none, List.cons_append, List.nil_append, zb_1, zb_0, ↓reduceIte, if_true, if_false, not_true_eq_false, not_false_eq_true, Bool.false_eq_true, z_10, z_01, eq_self, Bool.and_self, true_or, or_true, false_or, or_false, true_and, and_true, false_and, and_false, and_self, or_self, zn_le, zn_in, zn_clamp, haiB, hagB, h0, eai_i, eag_i, ← q, decide_true, Bool.true_and, Bool.or_true, Bool.false_or, show ¬ 8 ≤ k by omega, show k < 8 by omega, Nat.reduceEqDiff, decide_false]
      · simp only [zany, q, decide_true, Bool.true_or, Bool.true_eq_false]
        rw [zn_lt _ _ (by omega) (by omega)]
        simp
    · obtain ⟨z, h1, h2⟩ := ih (k + 1) (by omega)
      refine ⟨z, ?_, ?_⟩
      · rw [← h1, x302_7]
        simp (disch := first | omega | exact zb_1 | exact zb_0 | exact zb_n1 | exact zb_n0) only [x302_9, x302_10, x302_13, x302_14, x302_16, x302_17, x302_19, x302_25, x302_28, mq_dl_int, mq_dl_ref, mq_dl_null, mq_dl_none, mc_some, Option.toList_some, Option.toList_none, List.cons_append, List.nil_append, zb_1, zb_0, ↓reduceIte, if_true, if_false, not_true_eq_false, not_false_eq_true, Bool.false_eq_true, z_10, z_01, eq_self, Bool.and_self, true_or, or_true, false_or, or_false, true_and, and_true, false_and, and_false, and_self, or_self, zn_le, zn_in, zn_clamp, zn_eq, haiB, hagB, h0, eai_i, eag_i, decide_true, Bool.true_and, Bool.or_true, Bool.false_or, show ¬ 8 ≤ k by omega, show k < 8 by omega, Nat.reduceEqDiff, decide_false, show ¬ wb 0 k = x from fun e => q e.symm, zn_lit, zn_add]
      · rw [h2]
        simp only [zany, q, decide_false, Bool.false_or]
theorem sgn_any (x : Nat) : zany (fun j => decide (x = wb 0 j)) 0 8 = sgn x := by
  have e : wb 0 0 = 40 ∧ wb 0 1 = 41 ∧ wb 0 2 = 60 ∧ wb 0 3 = 61 ∧ wb 0 4 = 43 ∧ wb 0 5 = 45 ∧ wb 0 6 = 42 ∧ wb 0 7 = 59 := by decide
  obtain ⟨e0, e1, e2, e3, e4, e5, e6, e7⟩ := e
  simp only [zany, sgn, Nat.zero_add, Nat.reduceAdd, e0, e1, e2, e3, e4, e5, e6, e7, Bool.or_assoc, Bool.or_false]
theorem S_idx (hS : STR c) (d x : Nat) (hx : x < 128) : ∃ z : Int32, mz (d + 3) 294 0 [some (.ref 1000000001), some (.int (zn x))] [] (hp n s c I J A B R Q) = some (some (some (.int z)), (hp n s c I J A B R Q)) ∧ ((z < zn 0) = (sgn x = false)) := by
  obtain ⟨z, h1, h2⟩ := S_idl (n := n) (s := s) (I := I) (J := J) (A := A) (B := B) (R := R) (Q := Q) hS d x hx (some (.int (zn x))) (some (.int (zn 0))) 8 0 rfl
  rw [sgn_any] at h2
  refine ⟨z, ?_, h2⟩
  have hw0 : wl 0 = 8 := by decide
  have l1 := S_len (n := n) (s := s) (I := I) (J := J) (A := A) (B := B) (R := R) (Q := Q) hS d 0 1000000001 (by omega) rfl
  have l2 := S_lat (n := n) (s := s) (I := I) (J := J) (A := A) (B := B) (R := R) (Q := Q) hS (d + 1) 0 1000000001 (by omega) rfl
  have h0 := (hS 0 (by omega)).2
  have h0' := (hS 0 (by omega)).1
  rw [Nat.add_zero, hw0] at h0
  rw [Nat.add_zero, Nat.add_zero] at h0'
  rw [hw0] at l1
  have hb := zn_i2b x hx
  simp (disch := first | omega | exact zb_1 | exact zb_0 | exact zb_n1 | exact zb_n0) only [x294_0, x294_0N, x294_1, x294_2, x294_3, x294_6, x295_0, x295_0N, x295_1, x295_4, x295_7, x295_7N, x295_8, x295_11, x295_12, x295_13, x295_13N, x295_14, x295_17, x295_20, x295_36, x295_23, x295_23N, x295_24, x295_27, x295_28, x295_29, x295_29N, x295_30, x301_0, x301_1, x301_4, x301_7, x301_8, x301_9, x301_10, x301_11, x301_14, x301_15, x301_16, x301_16N, x301_17, x301_18, x301_21, x301_22, x301_23, x301_24, x301_27, x301_28, x301_29, x301_29N, x301_30, x301_31, x301_32, x301_33, x301_36, x300_0, x300_1, x300_4, x300_5, x300_8, x300_11, x300_12, x300_16, x300_15, x302_0, x302_1, x302_2, x302_4, x302_5, mq_dl_int, mq_dl_ref, mq_dl_null, mq_dl_none, mc_some, Option.toList_some, Option.toList_none, List.cons_append, List.nil_append, zb_1, zb_0, ↓reduceIte, if_true, if_false, not_true_eq_false, not_false_eq_true, Bool.false_eq_true, z_10, z_01, eq_self, Bool.and_self, true_or, or_true, false_or, or_false, true_and, and_true, false_and, and_false, and_self, or_self, Nat.reduceLT, Nat.reduceEqDiff, Nat.reduceLeDiff, Nat.reduceAdd, Nat.reduceMul, Nat.reduceSub, zn_lit, zn_add, zn_mul, zn_sub, zn_addneg, zn_lt, zn_le, zn_eq, zn_clamp, zn_in, zn_long, hpoB, hpo0B, hpfB, hakE, hanB, M_min, M_max, l1, l2, h0, h0', eo_i, eo0_i, efs_i, eak_i, ean_i, ze_ofNat, hb, h1, List.length_cons, List.length_nil, List.getD_cons_succ, List.getD_cons_zero, decide_true, Bool.true_and, Nat.not_lt_zero, show ¬ 255 < x by omega, Nat.min_self, Nat.max_self, Nat.zero_max]
end TW
