/-! CAN BE FUSED: the class -/
theorem tgT_le {T : ZT} (hW : WT T) (w : Nat → Nat) (x y k : Nat) : tgT T w x y k ≤ 36 * 999999 := by
  have h1 := hW.2.1
  have h2 : ∀ i, zns (fun j => if w i = x ∧ w j = y then T.2.1 i j k else 0) 0 T.1 ≤ 6 * 999999 := by
    intro i
    have := zns_le (f := fun j => if w i = x ∧ w j = y then T.2.1 i j k else 0) 999999 T.1 0 (fun j _ _ => by
      by_cases q : w i = x ∧ w j = y
      · simp only [if_pos q]; exact hW.2.2.1 _ _ _
      · simp only [if_neg q]; omega)
    exact Nat.le_trans this (Nat.mul_le_mul_right _ h1)
  have := zns_le (f := fun i => zns (fun j => if w i = x ∧ w j = y then T.2.1 i j k else 0) 0 T.1) (6 * 999999) T.1 0 (fun i _ _ => h2 i)
  have h3 : T.1 * (6 * 999999) ≤ 6 * (6 * 999999) := Nat.mul_le_mul_right _ h1
  exact Nat.le_trans this (Nat.le_trans h3 (by decide))
theorem tgT_sym {T : ZT} (hW : WT T) (w : Nat → Nat) (x y k : Nat) : tgT T w x y k = tgT T w y x k := by
  unfold tgT
  rw [zns_swap]
  apply zns_congr
  intro i _ _
  apply zns_congr
  intro j _ _
  rw [hW.2.2.2.2.1 j i k]
  by_cases q : w j = x ∧ w i = y
  · rw [if_pos q, if_pos ⟨q.2, q.1⟩]
  · rw [if_neg q, if_neg (fun h => q ⟨h.2, h.1⟩)]
theorem lsT_spec {m : Nat} {w : Nat → Nat} {j : Nat} (hj : j < m) : lsT m w (w j) < m ∧ w (lsT m w (w j)) = w j ∧ lsT m w (w j) ≤ j := by
  unfold lsT
  have key : ∀ r k, k ≤ j → j < k + r → ∃ t, zfst (fun i => if w i = w j then some i else none) k r = some t ∧ t < k + r ∧ w t = w j ∧ t ≤ j := by
    intro r
    induction r with
    | zero => intro k h1 h2; omega
    | succ r ih =>
      intro k h1 h2
      by_cases q : w k = w j
      · exact ⟨k, by simp only [zfst, q, if_true], by omega, q, h1⟩
      · have h3 : k ≠ j := fun h => q (by rw [h])
        obtain ⟨t, h4, h5, h6, h7⟩ := ih (k + 1) (by omega) (by omega)
        refine ⟨t, ?_, by omega, h6, h7⟩
        simp only [zfst, q, if_false]
        exact h4
  obtain ⟨t, h4, h5, h6, h7⟩ := key m 0 (by omega) (by omega)
  rw [h4]
  exact ⟨by simpa using h5, h6, h7⟩
def frY (T : ZT) (w : Nat → Nat) (x : Nat) : Bool := zall (fun j => decide (w x = w j → w (T.2.2 x) = w (T.2.2 j))) 0 x
def frC (T : ZT) (w : Nat → Nat) : Bool := zall (fun x => frY T w x) 0 T.1
def fsY (T : ZT) (w : Nat → Nat) (k x : Nat) : Bool := zall (fun y => decide (tgT T w x y k = tgT T w x y (lsT T.1 w (w k)))) 0 (x + 1)
def fsK (T : ZT) (w : Nat → Nat) (m k : Nat) : Bool := decide (lsT T.1 w (w k) = k) || zall (fun x => fsY T w k x) 0 m
def fsC (T : ZT) (w : Nat → Nat) (m : Nat) : Bool := zall (fun k => fsK T w m k) 0 T.1
theorem frC_eq (T : ZT) (w : Nat → Nat) : frC T w = fzR T w := by
  rw [Bool.eq_iff_iff]
  unfold frC fzR
  rw [zall_iff, zall_iff]
  constructor
  · intro h x _ hx
    rw [zall_iff]
    intro j _ hj
    simp only [decide_eq_true_eq]
    intro e
    by_cases q : j < x
    · have h2 := h x (by omega) hx
      unfold frY at h2
      rw [zall_iff] at h2
      have h3 := h2 j (by omega) (by omega)
      simp only [decide_eq_true_eq] at h3
      exact h3 e
    · by_cases q2 : j = x
      · rw [q2]
      · have h2 := h j (by omega) hj
        unfold frY at h2
        rw [zall_iff] at h2
        have h3 := h2 x (by omega) (by omega)
        simp only [decide_eq_true_eq] at h3
        exact (h3 e.symm).symm
  · intro h x _ hx
    have h2 := h x (by omega) hx
    rw [zall_iff] at h2
    show frY T w x = true
    unfold frY
    rw [zall_iff]
    intro j _ hj
    exact h2 j (by omega) (by omega)
theorem fsC_eq {T : ZT} (hW : WT T) (w : Nat → Nat) (m : Nat) : fsC T w m = fzS T w m := by
  rw [Bool.eq_iff_iff]
  unfold fsC fzS
  rw [zall_iff, zall_iff]
  constructor
  · intro h x _ hx
    rw [zall_iff]
    intro y _ hy
    rw [zall_iff]
    intro k _ hk
    simp only [decide_eq_true_eq]
    have h2 := h k (by omega) hk
    simp only [fsK, Bool.or_eq_true, decide_eq_true_eq] at h2
    rcases h2 with h2 | h2
    · rw [h2]
    · rw [zall_iff] at h2
      by_cases q : y ≤ x
      · have h3 := h2 x (by omega) hx
        unfold fsY at h3
        rw [zall_iff] at h3
        have h4 := h3 y (by omega) (by omega)
        simpa using h4
      · have h3 := h2 y (by omega) hy
        unfold fsY at h3
        rw [zall_iff] at h3
        have h4 := h3 x (by omega) (by omega)
        rw [tgT_sym hW w x y k, tgT_sym hW w x y (lsT T.1 w (w k))]
        simpa using h4
  · intro h k _ hk
    simp only [fsK, Bool.or_eq_true]
    right
    rw [zall_iff]
    intro x _ hx
    unfold fsY
    rw [zall_iff]
    intro y _ hy
    have h2 := h x (by omega) hx
    rw [zall_iff] at h2
    have h3 := h2 y (by omega) (by omega)
    rw [zall_iff] at h3
    exact h3 k (by omega) hk
section EV
variable {n s : Nat} {c : Nat → mq_E} {I : Nat → Int32} {J : Nat → Int64} {A : Nat → Nat → Int32} {B : Nat → Nat → Int64} {R : Nat → Value} {Q : Nat → Nat → Option Nat}
variable {a g : Nat} {T : ZT} {i : Nat → Int32} {f : Nat → Nat → Int32} {w : Nat → Nat}
theorem G_rj (hT : TB c a T) (hW : WT T) (hg : a + 2 < g) (ha : 46 ≤ g) (hi : i 1 = zn T.1) (hw : ∀ j, j < T.1 → f 3 j = zn (w j)) (hw2 : ∀ j, j < T.1 → w j < 6) (d x : Nat) (hx : x < T.1) : ∀ (r j : Nat), j + r = x → mz (d + 1) 31 12 [some (.ref g), some (.int (zn x)), some (.int (zn j))] [] (hp n s (gc c g a i f) I J A B R Q) = if zall (fun j => decide (w x = w j → w (T.2.2 x) = w (T.2.2 j))) j r = true then mz (d + 1) 31 69 [some (.ref g), some (.int (zn x)), some (.int (zn x))] [] (hp n s (gc c g a i f) I J A B R Q) else some (some (some (.int (zn 0))), hp n s (gc c g a i f) I J A B R Q) := by
  have h1 := hW.2.1
  have hT' : TB (gc c g a i f) a T := TB_gc hT (Or.inl hg)
  intro r
  induction r with
  | zero =>
    intro j hj
    have e : j = x := by omega
    subst e
    simp (disch := first | omega | exact zb_1 | exact zb_0 | exact zb_n1 | exact zb_n0) only [x31_12, x31_13, x31_14, mq_dl_int, mq_dl_ref, mq_dl_null, mq_dl_none, mc_some, Option.toList_some, Option.toList_none, List.cons_append, List.nil_append, zb_1, zb_0, ↓reduceIte, if_true, if_false, not_true_eq_false, not_false_eq_true, Bool.false_eq_true, z_10, z_01, eq_self, Bool.and_self, true_or, or_true, false_or, or_false, true_and, and_true, false_and, and_false, and_self, or_self, Nat.reduceLT, Nat.reduceEqDiff, Nat.reduceLeDiff, Nat.reduceAdd, Nat.reduceMul, Nat.reduceSub, zn_lit, zn_add, zn_mul, zn_sub, zn_addneg, zn_lt, zn_le, zn_eq, zn_clamp, zn_in, zn_long, Nat.le_refl, zall]
  | succ r ih =>
    intro j hj
    have h2 := hw2 x hx
    have h3 := hw2 j (by omega)
    have h4 := hW.2.2.2.1 x hx
    have h5 := hW.2.2.2.1 j (by omega)
    have h6 := hw2 _ h4
    have h7 := hw2 _ h5
    rw [x31_12]
    by_cases q : w x = w j
    · by_cases q2 : w (T.2.2 x) = w (T.2.2 j)
      · simp (disch := first | omega | exact zb_1 | exact zb_0 | exact zb_n1 | exact zb_n0) only [x31_13, x31_14, x31_17, x31_18, x31_21, x31_22, x31_23, x31_24, x31_27, x31_28, x31_29, x31_32, x31_33, x31_36, x31_37, x31_40, x31_41, x31_44, x31_45, x31_46, x31_49, x31_50, x31_53, x31_54, x31_57, x31_58, x31_63, x31_66, mq_dl_int, mq_dl_ref, mq_dl_null, mq_dl_none, mc_some, Option.toList_some, Option.toList_none, List.cons_append, List.nil_append, zb_1, zb_0, ↓reduceIte, if_true, if_false, not_true_eq_false, not_false_eq_true, Bool.false_eq_true, z_10, z_01, eq_self, Bool.and_self, true_or, or_true, false_or, or_false, true_and, and_true, false_and, and_false, and_self, or_self, Nat.reduceLT, Nat.reduceEqDiff, Nat.reduceLeDiff, Nat.reduceAdd, Nat.reduceMul, Nat.reduceSub, zn_lit, zn_add, zn_mul, zn_sub, zn_addneg, zn_lt, zn_le, zn_eq, zn_clamp, zn_in, zn_long, hp_1, hp_21, gc_0, gc_mo, gc_f0, gc_f1, gc_s1, gc_k1, gc_f2, gc_f3, gc_f4, gc_f5, gc_f6, gc_s6, gc_k6, gc_f7, gc_s7, gc_k7, gc_i1, gc_g1, gc_n1, gc_w1, gc_i2, gc_g2, gc_n2, gc_w2, gc_i3, gc_g3, gc_n3, gc_w3, gc_i4, gc_g4, gc_n4, gc_w4, zu_eq, zu_ne, zu_zu, upd_zu, updL_zu, hw, q, q2, show ¬ x ≤ j by omega, show x < 6 by omega, show j < 6 by omega, show T.2.2 x < 6 by omega, show T.2.2 j < 6 by omega, decide_true, tb_0 hT', T_rev hT' hW, zall, forall_const, Bool.true_and]
        rw [ih (j + 1) (by omega)]
        simp only [q, q2]
      · simp (disch := first | omega | exact zb_1 | exact zb_0 | exact zb_n1 | exact zb_n0) only [x31_13, x31_14, x31_17, x31_18, x31_21, x31_22, x31_23, x31_24, x31_27, x31_28, x31_29, x31_32, x31_33, x31_36, x31_37, x31_40, x31_41, x31_44, x31_45, x31_46, x31_49, x31_50, x31_53, x31_54, x31_57, x31_58, x31_61, x31_62, mq_dl_int, mq_dl_ref, mq_dl_null, mq_dl_none, mc_some, Option.toList_some, Option.toList_none, List.cons_append, List.nil_append, zb_1, zb_0, ↓reduceIte, if_true, if_false, not_true_eq_false, not_false_eq_true, Bool.false_eq_true, z_10, z_01, eq_self, Bool.and_self, true_or, or_true, false_or, or_false, true_and, and_true, false_and, and_false, and_self, or_self, Nat.reduceLT, Nat.reduceEqDiff, Nat.reduceLeDiff, Nat.reduceAdd, Nat.reduceMul, Nat.reduceSub, zn_lit, zn_add, zn_mul, zn_sub, zn_addneg, zn_lt, zn_le, zn_eq, zn_clamp, zn_in, zn_long, hp_1, hp_21, gc_0, gc_mo, gc_f0, gc_f1, gc_s1, gc_k1, gc_f2, gc_f3, gc_f4, gc_f5, gc_f6, gc_s6, gc_k6, gc_f7, gc_s7, gc_k7, gc_i1, gc_g1, gc_n1, gc_w1, gc_i2, gc_g2, gc_n2, gc_w2, gc_i3, gc_g3, gc_n3, gc_w3, gc_i4, gc_g4, gc_n4, gc_w4, zu_eq, zu_ne, zu_zu, upd_zu, updL_zu, hw, q, q2, show ¬ x ≤ j by omega, show x < 6 by omega, show j < 6 by omega, show T.2.2 x < 6 by omega, show T.2.2 j < 6 by omega, decide_true, tb_0 hT', T_rev hT' hW, zall, forall_const, decide_false, Bool.false_and]
    · simp (disch := first | omega | exact zb_1 | exact zb_0 | exact zb_n1 | exact zb_n0) only [x31_13, x31_14, x31_17, x31_18, x31_21, x31_22, x31_23, x31_24, x31_27, x31_28, x31_29, x31_63, x31_66, mq_dl_int, mq_dl_ref, mq_dl_null, mq_dl_none, mc_some, Option.toList_some, Option.toList_none, List.cons_append, List.nil_append, zb_1, zb_0, ↓reduceIte, if_true, if_false, not_true_eq_false, not_false_eq_true, Bool.false_eq_true, z_10, z_01, eq_self, Bool.and_self, true_or, or_true, false_or, or_false, true_and, and_true, false_and, and_false, and_self, or_self, Nat.reduceLT, Nat.reduceEqDiff, Nat.reduceLeDiff, Nat.reduceAdd, Nat.reduceMul, Nat.reduceSub, zn_lit, zn_add, zn_mul, zn_sub, zn_addneg, zn_lt, zn_le, zn_eq, zn_clamp, zn_in, zn_long, hp_1, hp_21, gc_0, gc_mo, gc_f0, gc_f1, gc_s1, gc_k1, gc_f2, gc_f3, gc_f4, gc_f5, gc_f6, gc_s6, gc_k6, gc_f7, gc_s7, gc_k7, gc_i1, gc_g1, gc_n1, gc_w1, gc_i2, gc_g2, gc_n2, gc_w2, gc_i3, gc_g3, gc_n3, gc_w3, gc_i4, gc_g4, gc_n4, gc_w4, zu_eq, zu_ne, zu_zu, upd_zu, updL_zu, hw, q, show ¬ x ≤ j by omega, show x < 6 by omega, show j < 6 by omega, decide_true, zall, false_implies, Bool.true_and]
      exact ih (j + 1) (by omega)
theorem G_rx (hT : TB c a T) (hW : WT T) (hg : a + 2 < g) (ha : 46 ≤ g) (hi : i 1 = zn T.1) (hw : ∀ j, j < T.1 → f 3 j = zn (w j)) (hw2 : ∀ j, j < T.1 → w j < 6) (d : Nat) : ∀ (r x : Nat) (o : Option Value), x + r = T.1 → mz (d + 1) 31 2 [some (.ref g), some (.int (zn x)), o] [] (hp n s (gc c g a i f) I J A B R Q) = some (some (some (.int (zo (zall (fun x => frY T w x) x r)))), hp n s (gc c g a i f) I J A B R Q) := by
  have h1 := hW.2.1
  intro r
  induction r with
  | zero =>
    intro x o hx
    have e : x = T.1 := by omega
    subst e
    simp (disch := first | omega | exact zb_1 | exact zb_0 | exact zb_n1 | exact zb_n0) only [x31_2, x31_3, x31_4, x31_7, x31_75, x31_76, mq_dl_int, mq_dl_ref, mq_dl_null, mq_dl_none, mc_some, Option.toList_some, Option.toList_none, List.cons_append, List.nil_append, zb_1, zb_0, ↓reduceIte, if_true, if_false, not_true_eq_false, not_false_eq_true, Bool.false_eq_true, z_10, z_01, eq_self, Bool.and_self, true_or, or_true, false_or, or_false, true_and, and_true, false_and, and_false, and_self, or_self, Nat.reduceLT, Nat.reduceEqDiff, Nat.reduceLeDiff, Nat.reduceAdd, Nat.reduceMul, Nat.reduceSub, zn_lit, zn_add, zn_mul, zn_sub, zn_addneg, zn_lt, zn_le, zn_eq, zn_clamp, zn_in, zn_long, hp_1, hp_21, gc_0, gc_mo, gc_f0, gc_f1, gc_s1, gc_k1, gc_f2, gc_f3, gc_f4, gc_f5, gc_f6, gc_s6, gc_k6, gc_f7, gc_s7, gc_k7, gc_i1, gc_g1, gc_n1, gc_w1, gc_i2, gc_g2, gc_n2, gc_w2, gc_i3, gc_g3, gc_n3, gc_w3, gc_i4, gc_g4, gc_n4, gc_w4, zu_eq, zu_ne, zu_zu, upd_zu, updL_zu, hi, Nat.le_refl, zall, zo_t]
  | succ r ih =>
    intro x o hx
    rw [x31_2]
    simp (disch := first | omega | exact zb_1 | exact zb_0 | exact zb_n1 | exact zb_n0) only [x31_3, x31_4, x31_7, x31_10, x31_11, mq_dl_int, mq_dl_ref, mq_dl_null, mq_dl_none, mc_some, Option.toList_some, Option.toList_none, List.cons_append, List.nil_append, zb_1, zb_0, ↓reduceIte, if_true, if_false, not_true_eq_false, not_false_eq_true, Bool.false_eq_true, z_10, z_01, eq_self, Bool.and_self, true_or, or_true, false_or, or_false, true_and, and_true, false_and, and_false, and_self, or_self, Nat.reduceLT, Nat.reduceEqDiff, Nat.reduceLeDiff, Nat.reduceAdd, Nat.reduceMul, Nat.reduceSub, zn_lit, zn_add, zn_mul, zn_sub, zn_addneg, zn_lt, zn_le, zn_eq, zn_clamp, zn_in, zn_long, hp_1, hp_21, gc_0, gc_mo, gc_f0, gc_f1, gc_s1, gc_k1, gc_f2, gc_f3, gc_f4, gc_f5, gc_f6, gc_s6, gc_k6, gc_f7, gc_s7, gc_k7, gc_i1, gc_g1, gc_n1, gc_w1, gc_i2, gc_g2, gc_n2, gc_w2, gc_i3, gc_g3, gc_n3, gc_w3, gc_i4, gc_g4, gc_n4, gc_w4, zu_eq, zu_ne, zu_zu, upd_zu, updL_zu, hi, show ¬ T.1 ≤ x by omega]
    rw [G_rj hT hW hg ha hi hw hw2 d x (by omega) x 0 (by omega)]
    rw [show zall (fun x => frY T w x) x (r + 1) = (frY T w x && zall (fun x => frY T w x) (x + 1) r) from rfl, show zall (fun j => decide (w x = w j → w (T.2.2 x) = w (T.2.2 j))) 0 x = frY T w x from rfl]
    cases frY T w x with
    | true =>
      simp (disch := first | omega | exact zb_1 | exact zb_0 | exact zb_n1 | exact zb_n0) only [x31_69, x31_72, mq_dl_int, mq_dl_ref, mq_dl_null, mq_dl_none, mc_some, Option.toList_some, Option.toList_none, List.cons_append, List.nil_append, zb_1, zb_0, ↓reduceIte, if_true, if_false, not_true_eq_false, not_false_eq_true, Bool.false_eq_true, z_10, z_01, eq_self, Bool.and_self, true_or, or_true, false_or, or_false, true_and, and_true, false_and, and_false, and_self, or_self, Nat.reduceLT, Nat.reduceEqDiff, Nat.reduceLeDiff, Nat.reduceAdd, Nat.reduceMul, Nat.reduceSub, zn_lit, zn_add, zn_mul, zn_sub, zn_addneg, zn_lt, zn_le, zn_eq, zn_clamp, zn_in, zn_long, Bool.true_and]
      exact ih (x + 1) _ (by omega)
    | false => simp only [mq_dl_int, mq_dl_ref, mq_dl_null, mq_dl_none, mc_some, Option.toList_some, Option.toList_none, List.cons_append, List.nil_append, zb_1, zb_0, ↓reduceIte, if_true, if_false, not_true_eq_false, not_false_eq_true, Bool.false_eq_true, z_10, z_01, eq_self, Bool.and_self, true_or, or_true, false_or, or_false, true_and, and_true, false_and, and_false, and_self, or_self, Nat.reduceLT, Nat.reduceEqDiff, Nat.reduceLeDiff, Nat.reduceAdd, Nat.reduceMul, Nat.reduceSub, zn_lit, zn_add, zn_mul, zn_sub, zn_addneg, zn_lt, zn_le, zn_eq, zn_clamp, zn_in, zn_long, Bool.false_and, zo_f]
theorem G_rev (hT : TB c a T) (hW : WT T) (hg : a + 2 < g) (ha : 46 ≤ g) (hi : i 1 = zn T.1) (hw : ∀ j, j < T.1 → f 3 j = zn (w j)) (hw2 : ∀ j, j < T.1 → w j < 6) (d : Nat) : mz (d + 1) 31 0 [some (.ref g), none, none] [] (hp n s (gc c g a i f) I J A B R Q) = some (some (some (.int (zo (fzR T w)))), hp n s (gc c g a i f) I J A B R Q) := by
  rw [← frC_eq]
  simp only [x31_0, x31_1, mq_dl_int, mq_dl_ref, mq_dl_null, mq_dl_none, mc_some, Option.toList_some, Option.toList_none, List.cons_append, List.nil_append, zb_1, zb_0, ↓reduceIte, if_true, if_false, not_true_eq_false, not_false_eq_true, Bool.false_eq_true, z_10, z_01, eq_self, Bool.and_self, true_or, or_true, false_or, or_false, true_and, and_true, false_and, and_false, and_self, or_self, Nat.reduceLT, Nat.reduceEqDiff, Nat.reduceLeDiff, Nat.reduceAdd, Nat.reduceMul, Nat.reduceSub, zn_lit, zn_add, zn_mul, zn_sub, zn_addneg, zn_lt, zn_le, zn_eq, zn_clamp, zn_in, zn_long]
  exact G_rx hT hW hg ha hi hw hw2 d T.1 0 none (by omega)
theorem G_sy (hT : TB c a T) (hW : WT T) (hg : a + 2 < g) (ha : 46 ≤ g) (hw : ∀ j, j < T.1 → f 3 j = zn (w j)) (hw2 : ∀ j, j < T.1 → w j < 6) (d m k x : Nat) (o : Int32) (hk : k < T.1) (hx : x < 6) : ∀ (r y : Nat), y + r = x + 1 → mz (d + 2) 32 72 [some (.ref g), some (.int (zn m)), some (.int (zn k)), some (.int o), some (.int (zn (lsT T.1 w (w k)))), some (.int (zn x)), some (.int (zn y))] [] (hp n s (gc c g a i f) I J A B R Q) = if zall (fun y => decide (tgT T w x y k = tgT T w x y (lsT T.1 w (w k)))) y r = true then mz (d + 2) 32 124 [some (.ref g), some (.int (zn m)), some (.int (zn k)), some (.int o), some (.int (zn (lsT T.1 w (w k)))), some (.int (zn x)), some (.int (zn (x + 1)))] [] (hp n s (gc c g a i f) I J A B R Q) else some (some (some (.int (zn 0))), hp n s (gc c g a i f) I J A B R Q) := by
  have h1 := hW.2.1
  have hT' : TB (gc c g a i f) a T := TB_gc hT (Or.inl hg)
  have hl := (lsT_spec (w := w) hk).1
  have hw3 : ∀ j, j < T.1 → w j < 2147483648 := fun j hj => by have := hw2 j hj; omega
  intro r
  induction r with
  | zero =>
    intro y hy
    have e : y = x + 1 := by omega
    subst e
    simp (disch := first | omega | exact zb_1 | exact zb_0 | exact zb_n1 | exact zb_n0) only [x32_72, x32_74, x32_76, mq_dl_int, mq_dl_ref, mq_dl_null, mq_dl_none, mc_some, Option.toList_some, Option.toList_none, List.cons_append, List.nil_append, zb_1, zb_0, ↓reduceIte, if_true, if_false, not_true_eq_false, not_false_eq_true, Bool.false_eq_true, z_10, z_01, eq_self, Bool.and_self, true_or, or_true, false_or, or_false, true_and, and_true, false_and, and_false, and_self, or_self, Nat.reduceLT, Nat.reduceEqDiff, Nat.reduceLeDiff, Nat.reduceAdd, Nat.reduceMul, Nat.reduceSub, zn_lit, zn_add, zn_mul, zn_sub, zn_addneg, zn_lt, zn_le, zn_eq, zn_clamp, zn_in, zn_long, show x < x + 1 by omega, zall]
  | succ r ih =>
    intro y hy
    have h2 := tgT_le hW w x y k
    have h3 := tgT_le hW w x y (lsT T.1 w (w k))
    have e1 := M_tg (n := n) (s := s) (I := I) (J := J) (A := A) (B := B) (R := R) (Q := Q) hT' hW (show 46 ≤ g + 3 by omega) gc_a3 hw hw3 d x y k (by omega) (by omega) hk
    have e2 := M_tg (n := n) (s := s) (I := I) (J := J) (A := A) (B := B) (R := R) (Q := Q) hT' hW (show 46 ≤ g + 3 by omega) gc_a3 hw hw3 d x y _ (by omega) (by omega) hl
    rw [x32_72]
    by_cases q : tgT T w x y k = tgT T w x y (lsT T.1 w (w k))
    · simp (disch := first | omega | exact zb_1 | exact zb_0 | exact zb_n1 | exact zb_n0) only [x32_74, x32_76, x32_79, x32_80, x32_83, x32_84, x32_87, x32_89, x32_91, x32_92, x32_95, x32_96, x32_99, x32_100, x32_103, x32_105, x32_107, x32_109, x32_112, x32_113, x32_118, x32_121, mq_dl_int, mq_dl_ref, mq_dl_null, mq_dl_none, mc_some, Option.toList_some, Option.toList_none, List.cons_append, List.nil_append, zb_1, zb_0, ↓reduceIte, if_true, if_false, not_true_eq_false, not_false_eq_true, Bool.false_eq_true, z_10, z_01, eq_self, Bool.and_self, true_or, or_true, false_or, or_false, true_and, and_true, false_and, and_false, and_self, or_self, Nat.reduceLT, Nat.reduceEqDiff, Nat.reduceLeDiff, Nat.reduceAdd, Nat.reduceMul, Nat.reduceSub, zn_lit, zn_add, zn_mul, zn_sub, zn_addneg, zn_lt, zn_le, zn_eq, zn_clamp, zn_in, zn_long, zln_lit, zln_add, zln_mul, zln_lt, zln_le, zln_eq, zln_int, lc_eq, lc_gt, lc_lt, lc_le, lc_ge, hp_1, hp_21, gc_0, gc_mo, gc_f0, gc_f1, gc_s1, gc_k1, gc_f2, gc_f3, gc_f4, gc_f5, gc_f6, gc_s6, gc_k6, gc_f7, gc_s7, gc_k7, gc_i1, gc_g1, gc_n1, gc_w1, gc_i2, gc_g2, gc_n2, gc_w2, gc_i3, gc_g3, gc_n3, gc_w3, gc_i4, gc_g4, gc_n4, gc_w4, zu_eq, zu_ne, zu_zu, upd_zu, updL_zu, show ¬ x < y by omega, e1, e2, q, zall, decide_true, Bool.true_and]
      exact ih (y + 1) (by omega)
    · simp (disch := first | omega | exact zb_1 | exact zb_0 | exact zb_n1 | exact zb_n0) only [x32_74, x32_76, x32_79, x32_80, x32_83, x32_84, x32_87, x32_89, x32_91, x32_92, x32_95, x32_96, x32_99, x32_100, x32_103, x32_105, x32_107, x32_109, x32_112, x32_113, x32_116, x32_117, mq_dl_int, mq_dl_ref, mq_dl_null, mq_dl_none, mc_some, Option.toList_some, Option.toList_none, List.cons_append, List.nil_append, zb_1, zb_0, ↓reduceIte, if_true, if_false, not_true_eq_false, not_false_eq_true, Bool.false_eq_true, z_10, z_01, eq_self, Bool.and_self, true_or, or_true, false_or, or_false, true_and, and_true, false_and, and_false, and_self, or_self, Nat.reduceLT, Nat.reduceEqDiff, Nat.reduceLeDiff, Nat.reduceAdd, Nat.reduceMul, Nat.reduceSub, zn_lit, zn_add, zn_mul, zn_sub, zn_addneg, zn_lt, zn_le, zn_eq, zn_clamp, zn_in, zn_long, zln_lit, zln_add, zln_mul, zln_lt, zln_le, zln_eq, zln_int, lc_eq, lc_gt, lc_lt, lc_le, lc_ge, hp_1, hp_21, gc_0, gc_mo, gc_f0, gc_f1, gc_s1, gc_k1, gc_f2, gc_f3, gc_f4, gc_f5, gc_f6, gc_s6, gc_k6, gc_f7, gc_s7, gc_k7, gc_i1, gc_g1, gc_n1, gc_w1, gc_i2, gc_g2, gc_n2, gc_w2, gc_i3, gc_g3, gc_n3, gc_w3, gc_i4, gc_g4, gc_n4, gc_w4, zu_eq, zu_ne, zu_zu, upd_zu, updL_zu, show ¬ x < y by omega, e1, e2, q, zall, decide_false, Bool.false_and]
theorem G_sx (hT : TB c a T) (hW : WT T) (hg : a + 2 < g) (ha : 46 ≤ g) (hw : ∀ j, j < T.1 → f 3 j = zn (w j)) (hw2 : ∀ j, j < T.1 → w j < 6) (d m k : Nat) (o : Int32) (hk : k < T.1) (hm : m ≤ 6) (hq : lsT T.1 w (w k) ≠ k) : ∀ (r x : Nat) (o6 : Option Value), x + r = m → ∃ o6', mz (d + 2) 32 57 [some (.ref g), some (.int (zn m)), some (.int (zn k)), some (.int o), some (.int (zn (lsT T.1 w (w k)))), some (.int (zn x)), o6] [] (hp n s (gc c g a i f) I J A B R Q) = if zall (fun x => fsY T w k x) x r = true then mz (d + 2) 32 130 [some (.ref g), some (.int (zn m)), some (.int (zn k)), some (.int o), some (.int (zn (lsT T.1 w (w k)))), some (.int (zn m)), o6'] [] (hp n s (gc c g a i f) I J A B R Q) else some (some (some (.int (zn 0))), hp n s (gc c g a i f) I J A B R Q) := by
  have h1 := hW.2.1
  have hl := (lsT_spec (w := w) hk).1
  intro r
  induction r with
  | zero =>
    intro x o6 hx
    have e : x = m := by omega
    subst e
    refine ⟨o6, ?_⟩
    simp (disch := first | omega | exact zb_1 | exact zb_0 | exact zb_n1 | exact zb_n0) only [x32_57, x32_59, x32_60, mq_dl_int, mq_dl_ref, mq_dl_null, mq_dl_none, mc_some, Option.toList_some, Option.toList_none, List.cons_append, List.nil_append, zb_1, zb_0, ↓reduceIte, if_true, if_false, not_true_eq_false, not_false_eq_true, Bool.false_eq_true, z_10, z_01, eq_self, Bool.and_self, true_or, or_true, false_or, or_false, true_and, and_true, false_and, and_false, and_self, or_self, Nat.reduceLT, Nat.reduceEqDiff, Nat.reduceLeDiff, Nat.reduceAdd, Nat.reduceMul, Nat.reduceSub, zn_lit, zn_add, zn_mul, zn_sub, zn_addneg, zn_lt, zn_le, zn_eq, zn_clamp, zn_in, zn_long, Nat.le_refl, zall]
  | succ r ih =>
    intro x o6 hx
    obtain ⟨o6', e⟩ := ih (x + 1) (some (.int (zn (x + 1)))) (by omega)
    refine ⟨o6', ?_⟩
    rw [x32_57]
    simp (disch := first | omega | exact zb_1 | exact zb_0 | exact zb_n1 | exact zb_n0) only [x32_59, x32_60, x32_63, x32_65, x32_66, x32_69, x32_70, mq_dl_int, mq_dl_ref, mq_dl_null, mq_dl_none, mc_some, Option.toList_some, Option.toList_none, List.cons_append, List.nil_append, zb_1, zb_0, ↓reduceIte, if_true, if_false, not_true_eq_false, not_false_eq_true, Bool.false_eq_true, z_10, z_01, eq_self, Bool.and_self, true_or, or_true, false_or, or_false, true_and, and_true, false_and, and_false, and_self, or_self, Nat.reduceLT, Nat.reduceEqDiff, Nat.reduceLeDiff, Nat.reduceAdd, Nat.reduceMul, Nat.reduceSub, zn_lit, zn_add, zn_mul, zn_sub, zn_addneg, zn_lt, zn_le, zn_eq, zn_clamp, zn_in, zn_long, show ¬ m ≤ x by omega, hq]
    rw [G_sy hT hW hg ha hw hw2 d m k x o hk (by omega) (x + 1) 0 (by omega)]
    rw [show zall (fun x => fsY T w k x) x (r + 1) = (fsY T w k x && zall (fun x => fsY T w k x) (x + 1) r) from rfl, show zall (fun y => decide (tgT T w x y k = tgT T w x y (lsT T.1 w (w k)))) 0 (x + 1) = fsY T w k x from rfl]
    cases fsY T w k x with
    | true =>
      simp (disch := first | omega | exact zb_1 | exact zb_0 | exact zb_n1 | exact zb_n0) only [x32_124, x32_127, mq_dl_int, mq_dl_ref, mq_dl_null, mq_dl_none, mc_some, Option.toList_some, Option.toList_none, List.cons_append, List.nil_append, zb_1, zb_0, ↓reduceIte, if_true, if_false, not_true_eq_false, not_false_eq_true, Bool.false_eq_true, z_10, z_01, eq_self, Bool.and_self, true_or, or_true, false_or, or_false, true_and, and_true, false_and, and_false, and_self, or_self, Nat.reduceLT, Nat.reduceEqDiff, Nat.reduceLeDiff, Nat.reduceAdd, Nat.reduceMul, Nat.reduceSub, zn_lit, zn_add, zn_mul, zn_sub, zn_addneg, zn_lt, zn_le, zn_eq, zn_clamp, zn_in, zn_long, Bool.true_and]
      exact e
    | false => simp only [mq_dl_int, mq_dl_ref, mq_dl_null, mq_dl_none, mc_some, Option.toList_some, Option.toList_none, List.cons_append, List.nil_append, zb_1, zb_0, ↓reduceIte, if_true, if_false, not_true_eq_false, not_false_eq_true, Bool.false_eq_true, z_10, z_01, eq_self, Bool.and_self, true_or, or_true, false_or, or_false, true_and, and_true, false_and, and_false, and_self, or_self, Nat.reduceLT, Nat.reduceEqDiff, Nat.reduceLeDiff, Nat.reduceAdd, Nat.reduceMul, Nat.reduceSub, zn_lit, zn_add, zn_mul, zn_sub, zn_addneg, zn_lt, zn_le, zn_eq, zn_clamp, zn_in, zn_long, Bool.false_and]
theorem G_sk (hT : TB c a T) (hW : WT T) (hg : a + 2 < g) (ha : 46 ≤ g) (hi : i 1 = zn T.1) (hw : ∀ j, j < T.1 → f 3 j = zn (w j)) (hw2 : ∀ j, j < T.1 → w j < 6) (hL : ∀ j, j < T.1 → f 4 (w j) = zn (lsT T.1 w (w j))) (d m : Nat) (hm : m ≤ 6) (hm1 : 1 ≤ m) : ∀ (r k : Nat) (o3 o4 o5 o6 : Option Value), k + r = T.1 → mz (d + 2) 32 17 [some (.ref g), some (.int (zn m)), some (.int (zn k)), o3, o4, o5, o6] [] (hp n s (gc c g a i f) I J A B R Q) = some (some (some (.int (zo (zall (fun k => fsK T w m k) k r)))), hp n s (gc c g a i f) I J A B R Q) := by
  have h1 := hW.2.1
  intro r
  induction r with
  | zero =>
    intro k o3 o4 o5 o6 hk
    have e : k = T.1 := by omega
    subst e
    simp (disch := first | omega | exact zb_1 | exact zb_0 | exact zb_n1 | exact zb_n0) only [x32_17, x32_18, x32_19, x32_22, x32_136, x32_137, mq_dl_int, mq_dl_ref, mq_dl_null, mq_dl_none, mc_some, Option.toList_some, Option.toList_none, List.cons_append, List.nil_append, zb_1, zb_0, ↓reduceIte, if_true, if_false, not_true_eq_false, not_false_eq_true, Bool.false_eq_true, z_10, z_01, eq_self, Bool.and_self, true_or, or_true, false_or, or_false, true_and, and_true, false_and, and_false, and_self, or_self, Nat.reduceLT, Nat.reduceEqDiff, Nat.reduceLeDiff, Nat.reduceAdd, Nat.reduceMul, Nat.reduceSub, zn_lit, zn_add, zn_mul, zn_sub, zn_addneg, zn_lt, zn_le, zn_eq, zn_clamp, zn_in, zn_long, hp_1, hp_21, gc_0, gc_mo, gc_f0, gc_f1, gc_s1, gc_k1, gc_f2, gc_f3, gc_f4, gc_f5, gc_f6, gc_s6, gc_k6, gc_f7, gc_s7, gc_k7, gc_i1, gc_g1, gc_n1, gc_w1, gc_i2, gc_g2, gc_n2, gc_w2, gc_i3, gc_g3, gc_n3, gc_w3, gc_i4, gc_g4, gc_n4, gc_w4, zu_eq, zu_ne, zu_zu, upd_zu, updL_zu, hi, Nat.le_refl, zall, zo_t]
  | succ r ih =>
    intro k o3 o4 o5 o6 hk
    have h2 := hw2 k (by omega)
    have hl := (lsT_spec (w := w) (show k < T.1 by omega)).1
    rw [x32_17, show zall (fun k => fsK T w m k) k (r + 1) = (fsK T w m k && zall (fun k => fsK T w m k) (k + 1) r) from rfl]
    by_cases q : lsT T.1 w (w k) = k
    · simp (disch := first | omega | exact zb_1 | exact zb_0 | exact zb_n1 | exact zb_n0) only [x32_18, x32_19, x32_22, x32_25, x32_26, x32_29, x32_30, x32_31, x32_32, x32_33, x32_36, x32_37, x32_39, x32_42, x32_43, x32_46, x32_47, x32_48, x32_52, x32_54, x32_55, x32_57, x32_59, x32_60, x32_63, x32_65, x32_66, x32_130, x32_133, mq_dl_int, mq_dl_ref, mq_dl_null, mq_dl_none, mc_some, Option.toList_some, Option.toList_none, List.cons_append, List.nil_append, zb_1, zb_0, ↓reduceIte, if_true, if_false, not_true_eq_false, not_false_eq_true, Bool.false_eq_true, z_10, z_01, eq_self, Bool.and_self, true_or, or_true, false_or, or_false, true_and, and_true, false_and, and_false, and_self, or_self, Nat.reduceLT, Nat.reduceEqDiff, Nat.reduceLeDiff, Nat.reduceAdd, Nat.reduceMul, Nat.reduceSub, zn_lit, zn_add, zn_mul, zn_sub, zn_addneg, zn_lt, zn_le, zn_eq, zn_clamp, zn_in, zn_long, hp_1, hp_21, gc_0, gc_mo, gc_f0, gc_f1, gc_s1, gc_k1, gc_f2, gc_f3, gc_f4, gc_f5, gc_f6, gc_s6, gc_k6, gc_f7, gc_s7, gc_k7, gc_i1, gc_g1, gc_n1, gc_w1, gc_i2, gc_g2, gc_n2, gc_w2, gc_i3, gc_g3, gc_n3, gc_w3, gc_i4, gc_g4, gc_n4, gc_w4, zu_eq, zu_ne, zu_zu, upd_zu, updL_zu, hi, hw, hL, show ¬ T.1 ≤ k by omega, Nat.not_lt_zero, show ¬ 6 ≤ w k by omega, show w k < 6 by omega, show k < 6 by omega, decide_true, q, show ¬ m ≤ 0 by omega]
      rw [ih (k + 1) _ _ _ _ (by omega)]
      simp only [fsK, q, decide_true, Bool.true_or, Bool.true_and]
    · obtain ⟨o6', e⟩ := G_sx (n := n) (s := s) (c := c) (I := I) (J := J) (A := A) (B := B) (R := R) (Q := Q) (i := i) hT hW hg ha hw hw2 d m k (zn (w k)) (by omega) hm q m 0 o6 (by omega)
      simp (disch := first | omega | exact zb_1 | exact zb_0 | exact zb_n1 | exact zb_n0) only [x32_18, x32_19, x32_22, x32_25, x32_26, x32_29, x32_30, x32_31, x32_32, x32_33, x32_36, x32_37, x32_39, x32_42, x32_43, x32_46, x32_47, x32_48, x32_52, x32_54, x32_55, mq_dl_int, mq_dl_ref, mq_dl_null, mq_dl_none, mc_some, Option.toList_some, Option.toList_none, List.cons_append, List.nil_append, zb_1, zb_0, ↓reduceIte, if_true, if_false, not_true_eq_false, not_false_eq_true, Bool.false_eq_true, z_10, z_01, eq_self, Bool.and_self, true_or, or_true, false_or, or_false, true_and, and_true, false_and, and_false, and_self, or_self, Nat.reduceLT, Nat.reduceEqDiff, Nat.reduceLeDiff, Nat.reduceAdd, Nat.reduceMul, Nat.reduceSub, zn_lit, zn_add, zn_mul, zn_sub, zn_addneg, zn_lt, zn_le, zn_eq, zn_clamp, zn_in, zn_long, hp_1, hp_21, gc_0, gc_mo, gc_f0, gc_f1, gc_s1, gc_k1, gc_f2, gc_f3, gc_f4, gc_f5, gc_f6, gc_s6, gc_k6, gc_f7, gc_s7, gc_k7, gc_i1, gc_g1, gc_n1, gc_w1, gc_i2, gc_g2, gc_n2, gc_w2, gc_i3, gc_g3, gc_n3, gc_w3, gc_i4, gc_g4, gc_n4, gc_w4, zu_eq, zu_ne, zu_zu, upd_zu, updL_zu, hi, hw, hL, show ¬ T.1 ≤ k by omega, Nat.not_lt_zero, show ¬ 6 ≤ w k by omega, show w k < 6 by omega, show k < 6 by omega, decide_true]
      rw [e]
      unfold fsK
      rw [decide_eq_false q, Bool.false_or]
      cases zall (fun x => fsY T w k x) 0 m with
      | true =>
        simp (disch := first | omega | exact zb_1 | exact zb_0 | exact zb_n1 | exact zb_n0) only [x32_130, x32_133, mq_dl_int, mq_dl_ref, mq_dl_null, mq_dl_none, mc_some, Option.toList_some, Option.toList_none, List.cons_append, List.nil_append, zb_1, zb_0, ↓reduceIte, if_true, if_false, not_true_eq_false, not_false_eq_true, Bool.false_eq_true, z_10, z_01, eq_self, Bool.and_self, true_or, or_true, false_or, or_false, true_and, and_true, false_and, and_false, and_self, or_self, Nat.reduceLT, Nat.reduceEqDiff, Nat.reduceLeDiff, Nat.reduceAdd, Nat.reduceMul, Nat.reduceSub, zn_lit, zn_add, zn_mul, zn_sub, zn_addneg, zn_lt, zn_le, zn_eq, zn_clamp, zn_in, zn_long, Bool.true_and]
        exact ih (k + 1) _ _ _ _ (by omega)
      | false => simp only [mq_dl_int, mq_dl_ref, mq_dl_null, mq_dl_none, mc_some, Option.toList_some, Option.toList_none, List.cons_append, List.nil_append, zb_1, zb_0, ↓reduceIte, if_true, if_false, not_true_eq_false, not_false_eq_true, Bool.false_eq_true, z_10, z_01, eq_self, Bool.and_self, true_or, or_true, false_or, or_false, true_and, and_true, false_and, and_false, and_self, or_self, Nat.reduceLT, Nat.reduceEqDiff, Nat.reduceLeDiff, Nat.reduceAdd, Nat.reduceMul, Nat.reduceSub, zn_lit, zn_add, zn_mul, zn_sub, zn_addneg, zn_lt, zn_le, zn_eq, zn_clamp, zn_in, zn_long, Bool.false_and, zo_f]
theorem G_even (hT : TB c a T) (hW : WT T) (hg : a + 2 < g) (ha : 46 ≤ g) (hi : i 1 = zn T.1) (hw : ∀ j, j < T.1 → f 3 j = zn (w j)) (hw2 : ∀ j, j < T.1 → w j < 6) (d m : Nat) (hm : m ≤ 6) (hm1 : 1 ≤ m) : ∃ L', mz (d + 2) 32 0 [some (.ref g), some (.int (zn m)), none, none, none, none, none] [] (hp n s (gc c g a i f) I J A B R Q) = some (some (some (.int (zo (fzS T w m)))), hp n s (gc c g a i (zu f 4 L')) I J A B R Q) := by
  have h1 := hW.2.1
  have h0 := hW.1
  obtain ⟨L', g1, g2⟩ := M_ls (n := n) (s := s) (I := I) (J := J) (A := A) (B := B) (R := R) (Q := Q) (c := gc c g a i f) (show 46 ≤ g + 3 by omega) (show 46 ≤ g + 4 by omega) (by omega) T.1 h0 h1 gc_a3 (f 4) gc_a4 hw hw2 (d + 1)
  rw [gc_u4] at g2
  refine ⟨L', ?_⟩
  have e := G_sk (n := n) (s := s) (c := c) (I := I) (J := J) (A := A) (B := B) (R := R) (Q := Q) (i := i) (f := zu f 4 L') (w := w) hT hW hg ha hi (fun j hj => by rw [zu_ne _ _ _ _ (by omega)]; exact hw j hj) hw2 (fun j hj => by rw [zu_eq]; exact g1 j hj) d m hm hm1 T.1 0 none none none none (by omega)
  rw [← fsC_eq hW]
  simp (disch := first | omega | exact zb_1 | exact zb_0 | exact zb_n1 | exact zb_n0) only [x32_0, x32_1, x32_4, x32_5, x32_8, x32_9, x32_12, x32_15, x32_16, mq_dl_int, mq_dl_ref, mq_dl_null, mq_dl_none, mc_some, Option.toList_some, Option.toList_none, List.cons_append, List.nil_append, zb_1, zb_0, ↓reduceIte, if_true, if_false, not_true_eq_false, not_false_eq_true, Bool.false_eq_true, z_10, z_01, eq_self, Bool.and_self, true_or, or_true, false_or, or_false, true_and, and_true, false_and, and_false, and_self, or_self, Nat.reduceLT, Nat.reduceEqDiff, Nat.reduceLeDiff, Nat.reduceAdd, Nat.reduceMul, Nat.reduceSub, zn_lit, zn_add, zn_mul, zn_sub, zn_addneg, zn_lt, zn_le, zn_eq, zn_clamp, zn_in, zn_long, hp_1, hp_21, gc_0, gc_mo, gc_f0, gc_f1, gc_s1, gc_k1, gc_f2, gc_f3, gc_f4, gc_f5, gc_f6, gc_s6, gc_k6, gc_f7, gc_s7, gc_k7, gc_i1, gc_g1, gc_n1, gc_w1, gc_i2, gc_g2, gc_n2, gc_w2, gc_i3, gc_g3, gc_n3, gc_w3, gc_i4, gc_g4, gc_n4, gc_w4, zu_eq, zu_ne, zu_zu, upd_zu, updL_zu, hi, g2]
  exact e
end EV
