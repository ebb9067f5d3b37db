/-! A TABLE of the class: reading it -/
def zns (f : Nat → Nat) (k : Nat) : Nat → Nat
  | 0 => 0
  | r + 1 => f k + zns f (k + 1) r
theorem zns_congr {f g : Nat → Nat} : ∀ (r k : Nat), (∀ i, k ≤ i → i < k + r → f i = g i) → zns f k r = zns g k r
  | 0, _, _ => rfl
  | r + 1, k, h => by
    simp only [zns]
    rw [h k (by omega) (by omega), zns_congr r (k + 1) fun i h1 h2 => h i (by omega) (by omega)]
theorem zns_le {f : Nat → Nat} (m : Nat) : ∀ (r k : Nat), (∀ i, k ≤ i → i < k + r → f i ≤ m) → zns f k r ≤ r * m
  | 0, _, _ => by simp [zns]
  | r + 1, k, h => by
    simp only [zns]
    have h1 := h k (by omega) (by omega)
    have h2 := zns_le m r (k + 1) fun i h1 h2 => h i (by omega) (by omega)
    rw [Nat.succ_mul]
    omega
/-- things, shares, reverses -/
abbrev ZT : Type := Nat × (Nat → Nat → Nat → Nat) × (Nat → Nat)
def zt_rep (T : ZT) (g r : Nat → Int32) : Prop := (∀ i j k, i < 6 → j < 6 → k < 6 → g ((i * 6 + j) * 6 + k) = zn (T.2.1 i j k)) ∧ ∀ i, i < 6 → r i = zn (T.2.2 i)
def tbo (n a : Nat) (b bi bj bk : Int32) (rs gs : Value) : mq_E := .inr (6, [.int (zn n), .ref (a + 1), .ref (a + 2), .int b, .int bi, .int bj, .int bk, rs, gs])
def TB (c : Nat → mq_E) (a : Nat) (T : ZT) : Prop := (46 ≤ a ∨ a = 19) ∧ (∃ b bi bj bk rs gs, c a = tbo T.1 a b bi bj bk rs gs) ∧ ∃ g r, c (a + 1) = .inl (0, 216, .inl g) ∧ c (a + 2) = .inl (0, 6, .inl r) ∧ zt_rep T g r
def WT (T : ZT) : Prop := 1 ≤ T.1 ∧ T.1 ≤ 6 ∧ (∀ i j k, T.2.1 i j k ≤ 999999) ∧ (∀ i, i < T.1 → T.2.2 i < T.1) ∧ (∀ i j k, T.2.1 i j k = T.2.1 j i k) ∧ (∀ i j k, (T.1 ≤ i ∨ T.1 ≤ j ∨ T.1 ≤ k) → T.2.1 i j k = 0) ∧ (∀ i k, i < T.1 → T.2.1 0 i k = if i = k then 1 else 0) ∧ T.2.2 0 = 0
def szT (T : ZT) (i : Nat) : Nat := T.2.1 i (T.2.2 i) 0
def orT (T : ZT) : Nat := zns (szT T) 0 T.1
theorem hs_tb (a : Nat) (h : 46 ≤ a ∨ a = 19) : hs a = 0 ∧ hs (a + 1) = 0 ∧ hs (a + 2) = 0 := by
  rcases h with h | h
  · exact ⟨hs_big _ h, hs_big _ (by omega), hs_big _ (by omega)⟩
  · subst h; exact ⟨rfl, rfl, rfl⟩
section TBL
variable {n s : Nat} {c : Nat → mq_E} {I : Nat → Int32} {J : Nat → Int64} {A : Nat → Nat → Int32} {B : Nat → Nat → Int64} {R : Nat → Value} {Q : Nat → Nat → Option Nat}
variable {a : Nat} {T : ZT}
theorem tb_isT (hT : TB c a T) : isT c a := by
  obtain ⟨h1, ⟨b, bi, bj, bk, rs, gs, h2⟩, _⟩ := hT
  exact ⟨(hs_tb a h1).1, _, h2⟩
theorem tb_0 (hT : TB c a T) : mo0 (hp n s c I J A B R Q) a 6 = true := isT_mo0 (tb_isT hT)
theorem tb_mo (hT : TB c a T) (k : Nat) (hk : k < 9) : mo (hp n s c I J A B R Q) a 6 k = true := by
  obtain ⟨h1, ⟨b, bi, bj, bk, rs, gs, h2⟩, _⟩ := hT
  unfold mo
  rw [hp_c _ _ _ _ _ _ _ _ _ a (hs_tb a h1).1, h2]
  simp [tbo, hk]
theorem tb_f0 (hT : TB c a T) : mf (hp n s c I J A B R Q) a 0 = .int (zn T.1) := by
  obtain ⟨h1, ⟨b, bi, bj, bk, rs, gs, h2⟩, _⟩ := hT
  unfold mf mfs
  rw [hp_c _ _ _ _ _ _ _ _ _ a (hs_tb a h1).1, h2]
  rfl
theorem tb_f1 (hT : TB c a T) : mf (hp n s c I J A B R Q) a 1 = .ref (a + 1) := by
  obtain ⟨h1, ⟨b, bi, bj, bk, rs, gs, h2⟩, _⟩ := hT
  unfold mf mfs
  rw [hp_c _ _ _ _ _ _ _ _ _ a (hs_tb a h1).1, h2]
  rfl
theorem tb_f2 (hT : TB c a T) : mf (hp n s c I J A B R Q) a 2 = .ref (a + 2) := by
  obtain ⟨h1, ⟨b, bi, bj, bk, rs, gs, h2⟩, _⟩ := hT
  unfold mf mfs
  rw [hp_c _ _ _ _ _ _ _ _ _ a (hs_tb a h1).1, h2]
  rfl
theorem tb_i1 (hT : TB c a T) (x : Int32) : mai (hp n s c I J A B R Q) (a + 1) 0 5 x = mq_in x 216 := by
  obtain ⟨h1, _, g, r, h2, h3, h4⟩ := hT
  unfold mai
  rw [hp_c _ _ _ _ _ _ _ _ _ (a + 1) (hs_tb a h1).2.1, h2]
  rfl
theorem tb_i2 (hT : TB c a T) (x : Int32) : mai (hp n s c I J A B R Q) (a + 2) 0 5 x = mq_in x 6 := by
  obtain ⟨h1, _, g, r, h2, h3, h4⟩ := hT
  unfold mai
  rw [hp_c _ _ _ _ _ _ _ _ _ (a + 2) (hs_tb a h1).2.2, h3]
  rfl
theorem tb_g1 (hT : TB c a T) (i j k : Nat) (hi : i < 6) (hj : j < 6) (hk : k < 6) : mag (hp n s c I J A B R Q) (a + 1) ((i * 6 + j) * 6 + k) = zn (T.2.1 i j k) := by
  obtain ⟨h1, _, g, r, h2, h3, h4⟩ := hT
  unfold mag
  rw [hp_c _ _ _ _ _ _ _ _ _ (a + 1) (hs_tb a h1).2.1, h2]
  exact h4.1 i j k hi hj hk
theorem tb_g1' (hT : TB c a T) (i j : Nat) (hi : i < 6) (hj : j < 6) : mag (hp n s c I J A B R Q) (a + 1) ((i * 6 + j) * 6) = zn (T.2.1 i j 0) := tb_g1 hT i j 0 hi hj (by omega)
theorem tb_g2 (hT : TB c a T) (i : Nat) (hi : i < 6) : mag (hp n s c I J A B R Q) (a + 2) i = zn (T.2.2 i) := by
  obtain ⟨h1, _, g, r, h2, h3, h4⟩ := hT
  unfold mag
  rw [hp_c _ _ _ _ _ _ _ _ _ (a + 2) (hs_tb a h1).2.2, h3]
  exact h4.2 i hi
theorem T_things (hT : TB c a T) (d : Nat) : mz d 97 0 [some (.ref a)] [] (hp n s c I J A B R Q) = some (some (some (.int (zn T.1))), (hp n s c I J A B R Q)) := by
  simp (disch := first | omega | exact zb_1 | exact zb_0 | exact zb_n1 | exact zb_n0) only [x97_0, x97_0N, x97_1, x97_4, mq_dl_int, mq_dl_ref, mq_dl_null, mq_dl_none, mc_some, Option.toList_some, Option.toList_none, List.cons_append, List.nil_append, zb_1, zb_0, ↓reduceIte, if_true, if_false, not_true_eq_false, not_false_eq_true, Bool.false_eq_true, z_10, z_01, eq_self, Bool.and_self, true_or, or_true, false_or, or_false, true_and, and_true, false_and, and_false, and_self, or_self, tb_mo hT, tb_f0 hT]
theorem T_has (hT : TB c a T) (d : Nat) (x : Int32) : mz d 98 0 [some (.ref a), some (.int x)] [] (hp n s c I J A B R Q) = some (some (some (.int (if ¬ x < 0 ∧ x < zn T.1 then 1 else 0))), (hp n s c I J A B R Q)) := by
  by_cases q : x < 0
  · simp (disch := first | omega | exact zb_1 | exact zb_0 | exact zb_n1 | exact zb_n0) only [x98_0, x98_1, x98_4, x98_5, x98_5N, x98_6, x98_9, x98_12, x98_13, x98_17, x98_16, mq_dl_int, mq_dl_ref, mq_dl_null, mq_dl_none, mc_some, Option.toList_some, Option.toList_none, List.cons_append, List.nil_append, zb_1, zb_0, ↓reduceIte, if_true, if_false, not_true_eq_false, not_false_eq_true, Bool.false_eq_true, z_10, z_01, eq_self, Bool.and_self, true_or, or_true, false_or, or_false, true_and, and_true, false_and, and_false, and_self, or_self, q]
  · by_cases q2 : x < zn T.1
    · simp (disch := first | omega | exact zb_1 | exact zb_0 | exact zb_n1 | exact zb_n0) only [x98_0, x98_1, x98_4, x98_5, x98_5N, x98_6, x98_9, x98_12, x98_13, x98_17, x98_16, mq_dl_int, mq_dl_ref, mq_dl_null, mq_dl_none, mc_some, Option.toList_some, Option.toList_none, List.cons_append, List.nil_append, zb_1, zb_0, ↓reduceIte, if_true, if_false, not_true_eq_false, not_false_eq_true, Bool.false_eq_true, z_10, z_01, eq_self, Bool.and_self, true_or, or_true, false_or, or_false, true_and, and_true, false_and, and_false, and_self, or_self, q, q2, tb_mo hT, tb_f0 hT, Int32.not_le.mpr q2]
    · simp (disch := first | omega | exact zb_1 | exact zb_0 | exact zb_n1 | exact zb_n0) only [x98_0, x98_1, x98_4, x98_5, x98_5N, x98_6, x98_9, x98_12, x98_13, x98_17, x98_16, mq_dl_int, mq_dl_ref, mq_dl_null, mq_dl_none, mc_some, Option.toList_some, Option.toList_none, List.cons_append, List.nil_append, zb_1, zb_0, ↓reduceIte, if_true, if_false, not_true_eq_false, not_false_eq_true, Bool.false_eq_true, z_10, z_01, eq_self, Bool.and_self, true_or, or_true, false_or, or_false, true_and, and_true, false_and, and_false, and_self, or_self, q, q2, tb_mo hT, tb_f0 hT, Int32.not_lt.mp q2]
theorem T_hasN (hT : TB c a T) (hW : WT T) (d i : Nat) (hi : i < 2147483648) : mz d 98 0 [some (.ref a), some (.int (zn i))] [] (hp n s c I J A B R Q) = some (some (some (.int (if i < T.1 then 1 else 0))), (hp n s c I J A B R Q)) := by
  have h1 := hW.2.1
  simp (disch := first | omega | exact zb_1 | exact zb_0 | exact zb_n1 | exact zb_n0) only [T_has hT, mq_dl_int, mq_dl_ref, mq_dl_null, mq_dl_none, mc_some, Option.toList_some, Option.toList_none, List.cons_append, List.nil_append, zb_1, zb_0, ↓reduceIte, if_true, if_false, not_true_eq_false, not_false_eq_true, Bool.false_eq_true, z_10, z_01, eq_self, Bool.and_self, true_or, or_true, false_or, or_false, true_and, and_true, false_and, and_false, and_self, or_self, Nat.reduceLT, Nat.reduceEqDiff, Nat.reduceLeDiff, Nat.reduceAdd, Nat.reduceMul, Nat.reduceSub, zn_lit, zn_add, zn_mul, zn_sub, zn_addneg, zn_lt, zn_le, zn_eq, zn_clamp, zn_in, zn_long, Nat.not_lt_zero]
theorem T_share (hT : TB c a T) (d i j k : Nat) (hi : i < 6) (hj : j < 6) (hk : k < 6) : mz d 99 0 [some (.ref a), some (.int (zn i)), some (.int (zn j)), some (.int (zn k)), none] [] (hp n s c I J A B R Q) = some (some (some (.int (zn (T.2.1 i j k)))), (hp n s c I J A B R Q)) := by
  simp (disch := first | omega | exact zb_1 | exact zb_0 | exact zb_n1 | exact zb_n0) only [x99_0, x99_1, x99_3, x99_4, x99_5, x99_6, x99_8, x99_9, x99_10, x99_11, x99_13, x99_15, x99_18, x99_20, x99_23, x99_26, x99_26N, x99_27, x99_30, x99_32, x99_33, x99_37, x99_36, mq_dl_int, mq_dl_ref, mq_dl_null, mq_dl_none, mc_some, Option.toList_some, Option.toList_none, List.cons_append, List.nil_append, zb_1, zb_0, ↓reduceIte, if_true, if_false, not_true_eq_false, not_false_eq_true, Bool.false_eq_true, z_10, z_01, eq_self, Bool.and_self, true_or, or_true, false_or, or_false, true_and, and_true, false_and, and_false, and_self, or_self, Nat.reduceLT, Nat.reduceEqDiff, Nat.reduceLeDiff, Nat.reduceAdd, Nat.reduceMul, Nat.reduceSub, zn_lit, zn_add, zn_mul, zn_sub, zn_addneg, zn_lt, zn_le, zn_eq, zn_clamp, zn_in, zn_long, tb_mo hT, tb_f1 hT, tb_i1 hT, tb_g1 hT, Nat.not_lt_zero, show ¬ 216 ≤ (i * 6 + j) * 6 + k by omega, show (i * 6 + j) * 6 + k < 216 by omega, decide_true]
theorem T_rev (hT : TB c a T) (hW : WT T) (d i : Nat) (hi : i < T.1) : mz d 102 0 [some (.ref a), some (.int (zn i))] [] (hp n s c I J A B R Q) = some (some (some (.int (zn (T.2.2 i)))), (hp n s c I J A B R Q)) := by
  have h1 := hW.2.1
  simp (disch := first | omega | exact zb_1 | exact zb_0 | exact zb_n1 | exact zb_n0) only [x102_0, x102_1, x102_4, x102_5, x102_5N, x102_6, x102_9, x102_12, x102_12N, x102_13, x102_16, x102_17, x102_18, x102_22, x102_21, mq_dl_int, mq_dl_ref, mq_dl_null, mq_dl_none, mc_some, Option.toList_some, Option.toList_none, List.cons_append, List.nil_append, zb_1, zb_0, ↓reduceIte, if_true, if_false, not_true_eq_false, not_false_eq_true, Bool.false_eq_true, z_10, z_01, eq_self, Bool.and_self, true_or, or_true, false_or, or_false, true_and, and_true, false_and, and_false, and_self, or_self, Nat.reduceLT, Nat.reduceEqDiff, Nat.reduceLeDiff, Nat.reduceAdd, Nat.reduceMul, Nat.reduceSub, zn_lit, zn_add, zn_mul, zn_sub, zn_addneg, zn_lt, zn_le, zn_eq, zn_clamp, zn_in, zn_long, tb_mo hT, tb_f0 hT, tb_f2 hT, tb_i2 hT, tb_g2 hT, Nat.not_lt_zero, show ¬ T.1 ≤ i by omega, show i < 6 by omega, decide_true]
theorem T_size (hT : TB c a T) (hW : WT T) (d i : Nat) (hi : i < T.1) : mz d 104 0 [some (.ref a), some (.int (zn i))] [] (hp n s c I J A B R Q) = some (some (some (.int (zn (szT T i)))), (hp n s c I J A B R Q)) := by
  have h1 := hW.2.1
  have h2 := hW.2.2.2.1 i hi
  simp (disch := first | omega | exact zb_1 | exact zb_0 | exact zb_n1 | exact zb_n0) only [x104_0, x104_1, x104_4, x104_5, x104_5N, x104_6, x104_9, x104_12, x104_12N, x104_13, x104_16, x104_17, x104_19, x104_20, x104_20N, x104_21, x104_24, x104_25, x104_26, x104_27, x104_29, x104_30, x104_31, x104_35, x104_34, mq_dl_int, mq_dl_ref, mq_dl_null, mq_dl_none, mc_some, Option.toList_some, Option.toList_none, List.cons_append, List.nil_append, zb_1, zb_0, ↓reduceIte, if_true, if_false, not_true_eq_false, not_false_eq_true, Bool.false_eq_true, z_10, z_01, eq_self, Bool.and_self, true_or, or_true, false_or, or_false, true_and, and_true, false_and, and_false, and_self, or_self, Nat.reduceLT, Nat.reduceEqDiff, Nat.reduceLeDiff, Nat.reduceAdd, Nat.reduceMul, Nat.reduceSub, zn_lit, zn_add, zn_mul, zn_sub, zn_addneg, zn_lt, zn_le, zn_eq, zn_clamp, zn_in, zn_long, tb_mo hT, tb_f0 hT, tb_f1 hT, tb_f2 hT, tb_i1 hT, tb_i2 hT, tb_g1' hT, tb_g2 hT, Nat.not_lt_zero, show ¬ T.1 ≤ i by omega, show i < 6 by omega, show (i * 6 + T.2.2 i) * 6 < 216 by omega, decide_true, szT]
theorem T_alll (hT : TB c a T) (hW : WT T) (d : Nat) : ∀ (r k x : Nat), k + r = T.1 → mz (d + 1) 105 4 [some (.ref a), some (.int (zn x)), some (.int (zn k))] [] (hp n s c I J A B R Q) = some (some (some (.int (zn (x + zns (szT T) k r)))), (hp n s c I J A B R Q)) := by
  have h1 := hW.2.1
  intro r
  induction r with
  | zero =>
    intro k x hk
    have e : k = T.1 := by omega
    subst e
    simp (disch := first | omega | exact zb_1 | exact zb_0 | exact zb_n1 | exact zb_n0) only [x105_0, x105_1, x105_2, x105_3, x105_4, x105_5, x105_5N, x105_6, x105_9, x105_12, x105_13, x105_13N, x105_14, x105_15, x105_18, x105_19, x105_20, x105_23, x105_26, x105_27, mq_dl_int, mq_dl_ref, mq_dl_null, mq_dl_none, mc_some, Option.toList_some, Option.toList_none, List.cons_append, List.nil_append, zb_1, zb_0, ↓reduceIte, if_true, if_false, not_true_eq_false, not_false_eq_true, Bool.false_eq_true, z_10, z_01, eq_self, Bool.and_self, true_or, or_true, false_or, or_false, true_and, and_true, false_and, and_false, and_self, or_self, Nat.reduceLT, Nat.reduceEqDiff, Nat.reduceLeDiff, Nat.reduceAdd, Nat.reduceMul, Nat.reduceSub, zn_lit, zn_add, zn_mul, zn_sub, zn_addneg, zn_lt, zn_le, zn_eq, zn_clamp, zn_in, zn_long, tb_mo hT, tb_f0 hT, zns, Nat.le_refl, Nat.add_zero]
  | succ r ih =>
    intro k x hk
    rw [x105_4]
    simp (disch := first | omega | exact zb_1 | exact zb_0 | exact zb_n1 | exact zb_n0) only [x105_0, x105_1, x105_2, x105_3, x105_5, x105_5N, x105_6, x105_9, x105_12, x105_13, x105_13N, x105_14, x105_15, x105_18, x105_19, x105_20, x105_23, x105_26, x105_27, mq_dl_int, mq_dl_ref, mq_dl_null, mq_dl_none, mc_some, Option.toList_some, Option.toList_none, List.cons_append, List.nil_append, zb_1, zb_0, ↓reduceIte, if_true, if_false, not_true_eq_false, not_false_eq_true, Bool.false_eq_true, z_10, z_01, eq_self, Bool.and_self, true_or, or_true, false_or, or_false, true_and, and_true, false_and, and_false, and_self, or_self, Nat.reduceLT, Nat.reduceEqDiff, Nat.reduceLeDiff, Nat.reduceAdd, Nat.reduceMul, Nat.reduceSub, zn_lit, zn_add, zn_mul, zn_sub, zn_addneg, zn_lt, zn_le, zn_eq, zn_clamp, zn_in, zn_long, tb_0 hT, tb_mo hT, tb_f0 hT, T_size hT hW, show ¬ T.1 ≤ k by omega, zns]
    rw [ih (k + 1) _ (by omega), Nat.add_assoc]
theorem T_all (hT : TB c a T) (hW : WT T) (d : Nat) : mz (d + 1) 105 0 [some (.ref a), none, none] [] (hp n s c I J A B R Q) = some (some (some (.int (zn (orT T)))), (hp n s c I J A B R Q)) := by
  simp only [x105_0, x105_1, x105_2, x105_3, mq_dl_int, mq_dl_ref, mq_dl_null, mq_dl_none, mc_some, Option.toList_some, Option.toList_none, List.cons_append, List.nil_append, zb_1, zb_0, ↓reduceIte, if_true, if_false, not_true_eq_false, not_false_eq_true, Bool.false_eq_true, z_10, z_01, eq_self, Bool.and_self, true_or, or_true, false_or, or_false, true_and, and_true, false_and, and_false, and_self, or_self, Nat.reduceLT, Nat.reduceEqDiff, Nat.reduceLeDiff, Nat.reduceAdd, Nat.reduceMul, Nat.reduceSub, zn_lit, zn_add, zn_mul, zn_sub, zn_addneg, zn_lt, zn_le, zn_eq, zn_clamp, zn_in, zn_long]
  rw [T_alll hT hW d T.1 0 0 (by omega), Nat.zero_add]
  rfl
end TBL
