/-! PARTS -/
def stT (T : ZT) (b x y : Nat) : Bool := zall (fun k => b.testBit k || decide (T.2.1 x y k = 0)) 0 T.1
def clY (T : ZT) (b x : Nat) : Bool := zall (fun y => !(b.testBit x && b.testBit y) || stT T b x y) 0 (x + 1)
def clT (T : ZT) (b : Nat) : Bool := zall (fun x => clY T b x) 0 T.1
def pq3 (T : ZT) (b x y k : Nat) : Bool := !(b.testBit x && b.testBit y) || (decide (T.2.1 x y k = 0) || b.testBit k)
def prT (T : ZT) (b : Nat) : Bool := b.testBit 0 && zall (fun x => zall (fun y => zall (fun k => pq3 T b x y k) 0 T.1) 0 T.1) 0 T.1
def PR (T : ZT) (b : Nat) : Prop := b.testBit 0 = true ∧ ∀ x y k, x < T.1 → y < T.1 → k < T.1 → b.testBit x = true → b.testBit y = true → T.2.1 x y k ≠ 0 → b.testBit k = true
theorem prT_iff (T : ZT) (b : Nat) : prT T b = true ↔ PR T b := by
  unfold prT PR
  rw [Bool.and_eq_true, zall_iff]
  constructor
  · rintro ⟨h1, h2⟩
    refine ⟨h1, fun x y k hx hy hk bx bY ht => ?_⟩
    have h3 := h2 x (by omega) (by omega)
    rw [zall_iff] at h3
    have h4 := h3 y (by omega) (by omega)
    rw [zall_iff] at h4
    have h5 := h4 k (by omega) (by omega)
    simp only [pq3, bx, bY, ht, decide_false, Bool.and_self, Bool.not_true, Bool.false_or] at h5
    exact h5
  · rintro ⟨h1, h2⟩
    refine ⟨h1, fun x _ hx => ?_⟩
    rw [zall_iff]
    intro y _ hy
    rw [zall_iff]
    intro k _ hk
    unfold pq3
    cases bx : b.testBit x with
    | false => simp
    | true =>
      cases bY : b.testBit y with
      | false => simp
      | true =>
        by_cases q : T.2.1 x y k = 0
        · simp [q]
        · simp [h2 x y k (by omega) (by omega) (by omega) bx bY q]
theorem clT_iff {T : ZT} (hW : WT T) (b : Nat) (h0 : b.testBit 0 = true) : clT T b = prT T b := by
  rw [Bool.eq_iff_iff, prT_iff]
  unfold clT PR
  rw [zall_iff]
  constructor
  · intro h
    have key : ∀ x y k, y ≤ x → x < T.1 → k < T.1 → b.testBit x = true → b.testBit y = true → T.2.1 x y k ≠ 0 → b.testBit k = true := by
      intro x y k hyx hx hk bx bY ht
      have h3 := h x (by omega) (by omega)
      unfold clY at h3
      rw [zall_iff] at h3
      have h4 := h3 y (by omega) (by omega)
      simp only [bx, bY, Bool.and_self, Bool.not_true, Bool.false_or] at h4
      unfold stT at h4
      rw [zall_iff] at h4
      have h5 := h4 k (by omega) (by omega)
      simpa [ht] using h5
    refine ⟨h0, fun x y k hx hy hk bx bY ht => ?_⟩
    by_cases q : y ≤ x
    · exact key x y k q hx hk bx bY ht
    · rw [hW.2.2.2.2.1] at ht
      exact key y x k (by omega) hy hk bY bx ht
  · rintro ⟨_, h2⟩ x _ hx
    show clY T b x = true
    unfold clY
    rw [zall_iff]
    intro y _ hy
    cases bx : b.testBit x with
    | false => simp
    | true =>
      cases bY : b.testBit y with
      | false => simp
      | true =>
        simp only [Bool.and_self, Bool.not_true, Bool.false_or]
        unfold stT
        rw [zall_iff]
        intro k _ hk
        by_cases q : T.2.1 x y k = 0
        · simp [q]
        · simp [h2 x y k (by omega) (by omega) (by omega) bx bY q]
section PT
variable {n s : Nat} {c : Nat → mq_E} {I : Nat → Int32} {J : Nat → Int64} {A : Nat → Nat → Int32} {B : Nat → Nat → Int64} {R : Nat → Value} {Q : Nat → Nat → Option Nat}
variable {a g : Nat} {T : ZT} {i : Nat → Int32} {f : Nat → Nat → Int32}
theorem G_stl (hT : TB c a T) (hW : WT T) (hg : a + 2 < g) (ha : 46 ≤ g) (hi : i 1 = zn T.1) (d b x y : Nat) (hb : b < 64) (hx : x < T.1) (hy : y < T.1) : ∀ (r k : Nat), k + r = T.1 → mz (d + 1) 28 3 [some (.ref g), some (.int (zn b)), some (.int (zn x)), some (.int (zn y)), some (.int (zn k))] [] (hp n s (gc c g a i f) I J A B R Q) = some (some (some (.int (zo (zall (fun k => b.testBit k || decide (T.2.1 x y k = 0)) k r)))), hp n s (gc c g a i f) I J A B R Q) := by
  have h1 := hW.2.1
  have hT' : TB (gc c g a i f) a T := TB_gc hT (Or.inl hg)
  intro r
  induction r with
  | zero =>
    intro k hk
    have e : k = T.1 := by omega
    subst e
    simp (disch := first | omega | exact zb_1 | exact zb_0 | exact zb_n1 | exact zb_n0) only [x28_0, x28_1, x28_3, x28_5, x28_5N, x28_6, x28_9, x28_12, x28_13, x28_15, x28_16, x28_17, x28_18, x28_21, x28_21N, x28_22, x28_25, x28_26, x28_27, x28_29, x28_32, x28_35, x28_36, x28_37, x28_40, x28_43, x28_44, mq_dl_int, mq_dl_ref, mq_dl_null, mq_dl_none, mc_some, Option.toList_some, Option.toList_none, List.cons_append, List.nil_append, zb_1, zb_0, ↓reduceIte, if_true, if_false, not_true_eq_false, not_false_eq_true, Bool.false_eq_true, z_10, z_01, eq_self, Bool.and_self, true_or, or_true, false_or, or_false, true_and, and_true, false_and, and_false, and_self, or_self, Nat.reduceLT, Nat.reduceEqDiff, Nat.reduceLeDiff, Nat.reduceAdd, Nat.reduceMul, Nat.reduceSub, zn_lit, zn_add, zn_mul, zn_sub, zn_addneg, zn_lt, zn_le, zn_eq, zn_clamp, zn_in, zn_long, hp_1, hp_21, gc_0, gc_mo, gc_f0, gc_f1, gc_s1, gc_k1, gc_f2, gc_f3, gc_f4, gc_f5, gc_f6, gc_s6, gc_k6, gc_f7, gc_s7, gc_k7, gc_i1, gc_g1, gc_n1, gc_w1, gc_i2, gc_g2, gc_n2, gc_w2, gc_i3, gc_g3, gc_n3, gc_w3, gc_i4, gc_g4, gc_n4, gc_w4, zu_eq, zu_ne, zu_zu, upd_zu, updL_zu, hi, zall, Nat.le_refl, zo_t]
  | succ r ih =>
    intro k hk
    have h2 := hW.2.2.1 x y k
    rw [x28_3]
    cases hb : b.testBit k with
    | true =>
      simp (disch := first | omega | exact zb_1 | exact zb_0 | exact zb_n1 | exact zb_n0) only [x28_0, x28_1, x28_5, x28_5N, x28_6, x28_9, x28_12, x28_13, x28_15, x28_16, x28_17, x28_18, x28_21, x28_21N, x28_22, x28_25, x28_26, x28_27, x28_29, x28_32, x28_35, x28_36, x28_37, x28_40, x28_43, x28_44, mq_dl_int, mq_dl_ref, mq_dl_null, mq_dl_none, mc_some, Option.toList_some, Option.toList_none, List.cons_append, List.nil_append, zb_1, zb_0, ↓reduceIte, if_true, if_false, not_true_eq_false, not_false_eq_true, Bool.false_eq_true, z_10, z_01, eq_self, Bool.and_self, true_or, or_true, false_or, or_false, true_and, and_true, false_and, and_false, and_self, or_self, Nat.reduceLT, Nat.reduceEqDiff, Nat.reduceLeDiff, Nat.reduceAdd, Nat.reduceMul, Nat.reduceSub, zn_lit, zn_add, zn_mul, zn_sub, zn_addneg, zn_lt, zn_le, zn_eq, zn_clamp, zn_in, zn_long, hp_1, hp_21, gc_0, gc_mo, gc_f0, gc_f1, gc_s1, gc_k1, gc_f2, gc_f3, gc_f4, gc_f5, gc_f6, gc_s6, gc_k6, gc_f7, gc_s7, gc_k7, gc_i1, gc_g1, gc_n1, gc_w1, gc_i2, gc_g2, gc_n2, gc_w2, gc_i3, gc_g3, gc_n3, gc_w3, gc_i4, gc_g4, gc_n4, gc_w4, zu_eq, zu_ne, zu_zu, upd_zu, updL_zu, hi, zn_shr, zn_bt, hb, zo_t, show ¬ T.1 ≤ k by omega, zall, Bool.true_or, Bool.true_and]
      exact ih (k + 1) (by omega)
    | false =>
      by_cases q : T.2.1 x y k = 0
      · simp (disch := first | omega | exact zb_1 | exact zb_0 | exact zb_n1 | exact zb_n0) only [x28_0, x28_1, x28_5, x28_5N, x28_6, x28_9, x28_12, x28_13, x28_15, x28_16, x28_17, x28_18, x28_21, x28_21N, x28_22, x28_25, x28_26, x28_27, x28_29, x28_32, x28_35, x28_36, x28_37, x28_40, x28_43, x28_44, mq_dl_int, mq_dl_ref, mq_dl_null, mq_dl_none, mc_some, Option.toList_some, Option.toList_none, List.cons_append, List.nil_append, zb_1, zb_0, ↓reduceIte, if_true, if_false, not_true_eq_false, not_false_eq_true, Bool.false_eq_true, z_10, z_01, eq_self, Bool.and_self, true_or, or_true, false_or, or_false, true_and, and_true, false_and, and_false, and_self, or_self, Nat.reduceLT, Nat.reduceEqDiff, Nat.reduceLeDiff, Nat.reduceAdd, Nat.reduceMul, Nat.reduceSub, zn_lit, zn_add, zn_mul, zn_sub, zn_addneg, zn_lt, zn_le, zn_eq, zn_clamp, zn_in, zn_long, hp_1, hp_21, gc_0, gc_mo, gc_f0, gc_f1, gc_s1, gc_k1, gc_f2, gc_f3, gc_f4, gc_f5, gc_f6, gc_s6, gc_k6, gc_f7, gc_s7, gc_k7, gc_i1, gc_g1, gc_n1, gc_w1, gc_i2, gc_g2, gc_n2, gc_w2, gc_i3, gc_g3, gc_n3, gc_w3, gc_i4, gc_g4, gc_n4, gc_w4, zu_eq, zu_ne, zu_zu, upd_zu, updL_zu, hi, zn_shr, zn_bt, hb, zo_f, show ¬ T.1 ≤ k by omega, zall, tb_0 hT', T_share hT', q, decide_true, Bool.or_true, Bool.true_and]
        exact ih (k + 1) (by omega)
      · simp (disch := first | omega | exact zb_1 | exact zb_0 | exact zb_n1 | exact zb_n0) only [x28_0, x28_1, x28_5, x28_5N, x28_6, x28_9, x28_12, x28_13, x28_15, x28_16, x28_17, x28_18, x28_21, x28_21N, x28_22, x28_25, x28_26, x28_27, x28_29, x28_32, x28_35, x28_36, x28_37, x28_40, x28_43, x28_44, mq_dl_int, mq_dl_ref, mq_dl_null, mq_dl_none, mc_some, Option.toList_some, Option.toList_none, List.cons_append, List.nil_append, zb_1, zb_0, ↓reduceIte, if_true, if_false, not_true_eq_false, not_false_eq_true, Bool.false_eq_true, z_10, z_01, eq_self, Bool.and_self, true_or, or_true, false_or, or_false, true_and, and_true, false_and, and_false, and_self, or_self, Nat.reduceLT, Nat.reduceEqDiff, Nat.reduceLeDiff, Nat.reduceAdd, Nat.reduceMul, Nat.reduceSub, zn_lit, zn_add, zn_mul, zn_sub, zn_addneg, zn_lt, zn_le, zn_eq, zn_clamp, zn_in, zn_long, hp_1, hp_21, gc_0, gc_mo, gc_f0, gc_f1, gc_s1, gc_k1, gc_f2, gc_f3, gc_f4, gc_f5, gc_f6, gc_s6, gc_k6, gc_f7, gc_s7, gc_k7, gc_i1, gc_g1, gc_n1, gc_w1, gc_i2, gc_g2, gc_n2, gc_w2, gc_i3, gc_g3, gc_n3, gc_w3, gc_i4, gc_g4, gc_n4, gc_w4, zu_eq, zu_ne, zu_zu, upd_zu, updL_zu, hi, zn_shr, zn_bt, hb, zo_f, show ¬ T.1 ≤ k by omega, zall, tb_0 hT', T_share hT', q, decide_false, Bool.or_false, Bool.false_and]
theorem G_st (hT : TB c a T) (hW : WT T) (hg : a + 2 < g) (ha : 46 ≤ g) (hi : i 1 = zn T.1) (d b x y : Nat) (hb : b < 64) (hx : x < T.1) (hy : y < T.1) : mz (d + 1) 28 0 [some (.ref g), some (.int (zn b)), some (.int (zn x)), some (.int (zn y)), none] [] (hp n s (gc c g a i f) I J A B R Q) = some (some (some (.int (zo (stT T b x y)))), hp n s (gc c g a i f) I J A B R Q) := by
  simp only [x28_0, x28_1, mq_dl_int, mq_dl_ref, mq_dl_null, mq_dl_none, mc_some, Option.toList_some, Option.toList_none, List.cons_append, List.nil_append, zb_1, zb_0, ↓reduceIte, if_true, if_false, not_true_eq_false, not_false_eq_true, Bool.false_eq_true, z_10, z_01, eq_self, Bool.and_self, true_or, or_true, false_or, or_false, true_and, and_true, false_and, and_false, and_self, or_self, Nat.reduceLT, Nat.reduceEqDiff, Nat.reduceLeDiff, Nat.reduceAdd, Nat.reduceMul, Nat.reduceSub, zn_lit, zn_add, zn_mul, zn_sub, zn_addneg, zn_lt, zn_le, zn_eq, zn_clamp, zn_in, zn_long]
  exact G_stl hT hW hg ha hi d b x y hb hx hy T.1 0 (by omega)
theorem G_cly (hT : TB c a T) (hW : WT T) (hg : a + 2 < g) (ha : 46 ≤ g) (hi : i 1 = zn T.1) (d b x : Nat) (hb : b < 64) (hx : x < T.1) : ∀ (r y : Nat), y + r = x + 1 → mz (d + 2) 27 12 [some (.ref g), some (.int (zn b)), some (.int (zn x)), some (.int (zn y))] [] (hp n s (gc c g a i f) I J A B R Q) = if zall (fun y => !(b.testBit x && b.testBit y) || stT T b x y) y r = true then mz (d + 2) 27 48 [some (.ref g), some (.int (zn b)), some (.int (zn x)), some (.int (zn (x + 1)))] [] (hp n s (gc c g a i f) I J A B R Q) else some (some (some (.int (zn 0))), hp n s (gc c g a i f) I J A B R Q) := by
  have h1 := hW.2.1
  intro r
  induction r with
  | zero =>
    intro y hy
    have e : y = x + 1 := by omega
    subst e
    simp (disch := first | omega | exact zb_1 | exact zb_0 | exact zb_n1 | exact zb_n0) only [x27_12, x27_13, x27_14, mq_dl_int, mq_dl_ref, mq_dl_null, mq_dl_none, mc_some, Option.toList_some, Option.toList_none, List.cons_append, List.nil_append, zb_1, zb_0, ↓reduceIte, if_true, if_false, not_true_eq_false, not_false_eq_true, Bool.false_eq_true, z_10, z_01, eq_self, Bool.and_self, true_or, or_true, false_or, or_false, true_and, and_true, false_and, and_false, and_self, or_self, Nat.reduceLT, Nat.reduceEqDiff, Nat.reduceLeDiff, Nat.reduceAdd, Nat.reduceMul, Nat.reduceSub, zn_lit, zn_add, zn_mul, zn_sub, zn_addneg, zn_lt, zn_le, zn_eq, zn_clamp, zn_in, zn_long, zall, show x < x + 1 by omega]
  | succ r ih =>
    intro y hy
    rw [x27_12]
    cases hb : (b.testBit x && b.testBit y) with
    | false =>
      simp (disch := first | omega | exact zb_1 | exact zb_0 | exact zb_n1 | exact zb_n0) only [x27_0, x27_1, x27_3, x27_3N, x27_4, x27_7, x27_10, x27_11, x27_13, x27_14, x27_17, x27_18, x27_19, x27_20, x27_21, x27_22, x27_23, x27_24, x27_25, x27_26, x27_27, x27_30, x27_30N, x27_31, x27_32, x27_33, x27_34, x27_37, x27_40, x27_41, x27_42, x27_45, x27_51, x27_54, x27_55, mq_dl_int, mq_dl_ref, mq_dl_null, mq_dl_none, mc_some, Option.toList_some, Option.toList_none, List.cons_append, List.nil_append, zb_1, zb_0, ↓reduceIte, if_true, if_false, not_true_eq_false, not_false_eq_true, Bool.false_eq_true, z_10, z_01, eq_self, Bool.and_self, true_or, or_true, false_or, or_false, true_and, and_true, false_and, and_false, and_self, or_self, Nat.reduceLT, Nat.reduceEqDiff, Nat.reduceLeDiff, Nat.reduceAdd, Nat.reduceMul, Nat.reduceSub, zn_lit, zn_add, zn_mul, zn_sub, zn_addneg, zn_lt, zn_le, zn_eq, zn_clamp, zn_in, zn_long, zn_shr, zn_bt2, hb, zo_f, zo_e1, show ¬ x < y by omega, zall, Bool.not_false, Bool.true_or, Bool.true_and]
      exact ih (y + 1) (by omega)
    | true =>
      cases hq : stT T b x y with
      | true =>
        simp (disch := first | omega | exact zb_1 | exact zb_0 | exact zb_n1 | exact zb_n0) only [x27_0, x27_1, x27_3, x27_3N, x27_4, x27_7, x27_10, x27_11, x27_13, x27_14, x27_17, x27_18, x27_19, x27_20, x27_21, x27_22, x27_23, x27_24, x27_25, x27_26, x27_27, x27_30, x27_30N, x27_31, x27_32, x27_33, x27_34, x27_37, x27_40, x27_41, x27_42, x27_45, x27_51, x27_54, x27_55, mq_dl_int, mq_dl_ref, mq_dl_null, mq_dl_none, mc_some, Option.toList_some, Option.toList_none, List.cons_append, List.nil_append, zb_1, zb_0, ↓reduceIte, if_true, if_false, not_true_eq_false, not_false_eq_true, Bool.false_eq_true, z_10, z_01, eq_self, Bool.and_self, true_or, or_true, false_or, or_false, true_and, and_true, false_and, and_false, and_self, or_self, Nat.reduceLT, Nat.reduceEqDiff, Nat.reduceLeDiff, Nat.reduceAdd, Nat.reduceMul, Nat.reduceSub, zn_lit, zn_add, zn_mul, zn_sub, zn_addneg, zn_lt, zn_le, zn_eq, zn_clamp, zn_in, zn_long, zn_shr, zn_bt2, hb, zo_t, zo_e1, show ¬ x < y by omega, zall, gc_0, G_st hT hW hg ha hi, hq, Bool.or_true, Bool.true_and]
        exact ih (y + 1) (by omega)
      | false =>
        simp (disch := first | omega | exact zb_1 | exact zb_0 | exact zb_n1 | exact zb_n0) only [x27_0, x27_1, x27_3, x27_3N, x27_4, x27_7, x27_10, x27_11, x27_13, x27_14, x27_17, x27_18, x27_19, x27_20, x27_21, x27_22, x27_23, x27_24, x27_25, x27_26, x27_27, x27_30, x27_30N, x27_31, x27_32, x27_33, x27_34, x27_37, x27_40, x27_41, x27_42, x27_45, x27_51, x27_54, x27_55, mq_dl_int, mq_dl_ref, mq_dl_null, mq_dl_none, mc_some, Option.toList_some, Option.toList_none, List.cons_append, List.nil_append, zb_1, zb_0, ↓reduceIte, if_true, if_false, not_true_eq_false, not_false_eq_true, Bool.false_eq_true, z_10, z_01, eq_self, Bool.and_self, true_or, or_true, false_or, or_false, true_and, and_true, false_and, and_false, and_self, or_self, Nat.reduceLT, Nat.reduceEqDiff, Nat.reduceLeDiff, Nat.reduceAdd, Nat.reduceMul, Nat.reduceSub, zn_lit, zn_add, zn_mul, zn_sub, zn_addneg, zn_lt, zn_le, zn_eq, zn_clamp, zn_in, zn_long, zn_shr, zn_bt2, hb, zo_t, zo_f, zo_e1, show ¬ x < y by omega, zall, gc_0, G_st hT hW hg ha hi, hq, Bool.not_true, Bool.or_false, Bool.false_and]
theorem G_clx (hT : TB c a T) (hW : WT T) (hg : a + 2 < g) (ha : 46 ≤ g) (hi : i 1 = zn T.1) (d b : Nat) (hb : b < 64) : ∀ (r x : Nat) (o : Option Value), x + r = T.1 → mz (d + 2) 27 2 [some (.ref g), some (.int (zn b)), some (.int (zn x)), o] [] (hp n s (gc c g a i f) I J A B R Q) = some (some (some (.int (zo (zall (fun x => clY T b x) x r)))), hp n s (gc c g a i f) I J A B R Q) := by
  have h1 := hW.2.1
  intro r
  induction r with
  | zero =>
    intro x o hx
    have e : x = T.1 := by omega
    subst e
    simp (disch := first | omega | exact zb_1 | exact zb_0 | exact zb_n1 | exact zb_n0) only [x27_2, x27_3, x27_4, x27_7, x27_54, x27_55, mq_dl_int, mq_dl_ref, mq_dl_null, mq_dl_none, mc_some, Option.toList_some, Option.toList_none, List.cons_append, List.nil_append, zb_1, zb_0, ↓reduceIte, if_true, if_false, not_true_eq_false, not_false_eq_true, Bool.false_eq_true, z_10, z_01, eq_self, Bool.and_self, true_or, or_true, false_or, or_false, true_and, and_true, false_and, and_false, and_self, or_self, Nat.reduceLT, Nat.reduceEqDiff, Nat.reduceLeDiff, Nat.reduceAdd, Nat.reduceMul, Nat.reduceSub, zn_lit, zn_add, zn_mul, zn_sub, zn_addneg, zn_lt, zn_le, zn_eq, zn_clamp, zn_in, zn_long, hp_1, hp_21, gc_0, gc_mo, gc_f0, gc_f1, gc_s1, gc_k1, gc_f2, gc_f3, gc_f4, gc_f5, gc_f6, gc_s6, gc_k6, gc_f7, gc_s7, gc_k7, gc_i1, gc_g1, gc_n1, gc_w1, gc_i2, gc_g2, gc_n2, gc_w2, gc_i3, gc_g3, gc_n3, gc_w3, gc_i4, gc_g4, gc_n4, gc_w4, zu_eq, zu_ne, zu_zu, upd_zu, updL_zu, hi, Nat.le_refl, zall, zo_t]
  | succ r ih =>
    intro x o hx
    rw [x27_2]
    simp (disch := first | omega | exact zb_1 | exact zb_0 | exact zb_n1 | exact zb_n0) only [x27_3, x27_4, x27_7, x27_10, x27_11, mq_dl_int, mq_dl_ref, mq_dl_null, mq_dl_none, mc_some, Option.toList_some, Option.toList_none, List.cons_append, List.nil_append, zb_1, zb_0, ↓reduceIte, if_true, if_false, not_true_eq_false, not_false_eq_true, Bool.false_eq_true, z_10, z_01, eq_self, Bool.and_self, true_or, or_true, false_or, or_false, true_and, and_true, false_and, and_false, and_self, or_self, Nat.reduceLT, Nat.reduceEqDiff, Nat.reduceLeDiff, Nat.reduceAdd, Nat.reduceMul, Nat.reduceSub, zn_lit, zn_add, zn_mul, zn_sub, zn_addneg, zn_lt, zn_le, zn_eq, zn_clamp, zn_in, zn_long, hp_1, hp_21, gc_0, gc_mo, gc_f0, gc_f1, gc_s1, gc_k1, gc_f2, gc_f3, gc_f4, gc_f5, gc_f6, gc_s6, gc_k6, gc_f7, gc_s7, gc_k7, gc_i1, gc_g1, gc_n1, gc_w1, gc_i2, gc_g2, gc_n2, gc_w2, gc_i3, gc_g3, gc_n3, gc_w3, gc_i4, gc_g4, gc_n4, gc_w4, zu_eq, zu_ne, zu_zu, upd_zu, updL_zu, hi, show ¬ T.1 ≤ x by omega]
    rw [G_cly hT hW hg ha hi d b x hb (by omega) (x + 1) 0 (by omega)]
    rw [show zall (fun x => clY T b x) x (r + 1) = (clY T b x && zall (fun x => clY T b x) (x + 1) r) from rfl]
    rw [show zall (fun y => !(b.testBit x && b.testBit y) || stT T b x y) 0 (x + 1) = clY T b x from rfl]
    cases hq : clY T b x with
    | true =>
      simp (disch := first | omega | exact zb_1 | exact zb_0 | exact zb_n1 | exact zb_n0) only [x27_48, x27_51, mq_dl_int, mq_dl_ref, mq_dl_null, mq_dl_none, mc_some, Option.toList_some, Option.toList_none, List.cons_append, List.nil_append, zb_1, zb_0, ↓reduceIte, if_true, if_false, not_true_eq_false, not_false_eq_true, Bool.false_eq_true, z_10, z_01, eq_self, Bool.and_self, true_or, or_true, false_or, or_false, true_and, and_true, false_and, and_false, and_self, or_self, Nat.reduceLT, Nat.reduceEqDiff, Nat.reduceLeDiff, Nat.reduceAdd, Nat.reduceMul, Nat.reduceSub, zn_lit, zn_add, zn_mul, zn_sub, zn_addneg, zn_lt, zn_le, zn_eq, zn_clamp, zn_in, zn_long, Bool.true_and]
      exact ih (x + 1) _ (by omega)
    | false =>
      simp only [mq_dl_int, mq_dl_ref, mq_dl_null, mq_dl_none, mc_some, Option.toList_some, Option.toList_none, List.cons_append, List.nil_append, zb_1, zb_0, ↓reduceIte, if_true, if_false, not_true_eq_false, not_false_eq_true, Bool.false_eq_true, z_10, z_01, eq_self, Bool.and_self, true_or, or_true, false_or, or_false, true_and, and_true, false_and, and_false, and_self, or_self, Nat.reduceLT, Nat.reduceEqDiff, Nat.reduceLeDiff, Nat.reduceAdd, Nat.reduceMul, Nat.reduceSub, zn_lit, zn_add, zn_mul, zn_sub, zn_addneg, zn_lt, zn_le, zn_eq, zn_clamp, zn_in, zn_long, Bool.false_and, zo_f]
theorem G_cl (hT : TB c a T) (hW : WT T) (hg : a + 2 < g) (ha : 46 ≤ g) (hi : i 1 = zn T.1) (d b : Nat) (hb : b < 64) : mz (d + 2) 27 0 [some (.ref g), some (.int (zn b)), none, none] [] (hp n s (gc c g a i f) I J A B R Q) = some (some (some (.int (zo (clT T b)))), hp n s (gc c g a i f) I J A B R Q) := by
  simp only [x27_0, x27_1, mq_dl_int, mq_dl_ref, mq_dl_null, mq_dl_none, mc_some, Option.toList_some, Option.toList_none, List.cons_append, List.nil_append, zb_1, zb_0, ↓reduceIte, if_true, if_false, not_true_eq_false, not_false_eq_true, Bool.false_eq_true, z_10, z_01, eq_self, Bool.and_self, true_or, or_true, false_or, or_false, true_and, and_true, false_and, and_false, and_self, or_self, Nat.reduceLT, Nat.reduceEqDiff, Nat.reduceLeDiff, Nat.reduceAdd, Nat.reduceMul, Nat.reduceSub, zn_lit, zn_add, zn_mul, zn_sub, zn_addneg, zn_lt, zn_le, zn_eq, zn_clamp, zn_in, zn_long]
  exact G_clx hT hW hg ha hi d b hb T.1 0 none (by omega)
end PT
