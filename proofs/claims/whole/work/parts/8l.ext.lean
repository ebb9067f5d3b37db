/-! PARTITIONS: the class finds them all -/
theorem pkT_lt (w : Nat → Nat) : ∀ m, (∀ j, j < m → w j < 16) → pkT m w < 2 ^ (4 * m)
  | 0, _ => by simp [pkT]
  | m + 1, h => by
    have h1 := pkT_lt w m (fun j hj => h j (by omega))
    have h2 := h m (by omega)
    unfold pkT
    apply Nat.or_lt_two_pow
    · exact Nat.lt_of_lt_of_le h1 (Nat.pow_le_pow_right (by omega) (by omega))
    · rw [Nat.shiftLeft_eq, show 4 * (m + 1) = 4 + 4 * m by omega, Nat.pow_add]
      exact Nat.mul_lt_mul_of_pos_right h2 (Nat.two_pow_pos _)
theorem tb16 {x : Nat} (h : x < 16) (j : Nat) (hj : 4 ≤ j) : x.testBit j = false := Nat.testBit_lt_two_pow (Nat.lt_of_lt_of_le h (Nat.pow_le_pow_right (n := 2) (by omega) hj))
theorem pkT_bit (w : Nat → Nat) : ∀ m, (∀ j, j < m → w j < 16) → ∀ t j, t < m → j < 4 → (pkT m w).testBit (4 * t + j) = (w t).testBit j
  | 0, _, t, j, h, _ => by omega
  | m + 1, h, t, j, ht, hj => by
    have h2 := h m (by omega)
    unfold pkT
    rw [Nat.testBit_or, Nat.testBit_shiftLeft]
    by_cases q : t = m
    · subst q
      have h1 : (pkT t w).testBit (4 * t + j) = false := Nat.testBit_lt_two_pow (Nat.lt_of_lt_of_le (pkT_lt w t (fun j hj => h j (by omega))) (Nat.pow_le_pow_right (by omega) (by omega)))
      rw [h1]
      simp
    · rw [pkT_bit w m (fun j hj => h j (by omega)) t j (by omega) hj]
      have : ¬ 4 * t + j ≥ 4 * m := by omega
      simp [this]
theorem pkT_get (w : Nat → Nat) (m : Nat) (h : ∀ j, j < m → w j < 16) (t : Nat) (ht : t < m) : (pkT m w >>> (4 * t)) &&& 15 = w t := by
  apply Nat.eq_of_testBit_eq
  intro j
  rw [Nat.testBit_and, Nat.testBit_shiftRight]
  by_cases q : j < 4
  · rw [pkT_bit w m h t j ht q]
    have : (15 : Nat).testBit j = true := by
      have h3 : j = 0 ∨ j = 1 ∨ j = 2 ∨ j = 3 := by omega
      rcases h3 with rfl | rfl | rfl | rfl <;> rfl
    rw [this, Bool.and_true]
  · rw [tb16 (h t ht) j (by omega), tb16 (x := 15) (by omega) j (by omega), Bool.and_false]
def lvn : Nat → Nat → Nat
  | 0, _ => 1
  | r + 1, gr => zns (fun q => lvn r (max gr q)) 1 (gr + 1)
theorem lvs_len : ∀ (r k gr : Nat) (w : Nat → Nat), (lvs r k gr w).length = lvn r gr
  | 0, _, _, _ => rfl
  | r + 1, k, gr, w => by
    have key : ∀ t q, (cat (fun q => lvs r (k + 1) (max gr q) (zu w k q)) q t).length = zns (fun q => lvn r (max gr q)) q t := by
      intro t
      induction t with
      | zero => intro q; rfl
      | succ t ih =>
        intro q
        simp only [cat, zns, List.length_append, ih (q + 1), lvs_len r (k + 1) (max gr q) (zu w k q)]
    simp only [lvs, lvn]
    exact key _ _
theorem lvn_le (m : Nat) (h : m ≤ 6) : lvn (m - 1) 0 ≤ 52 := by
  have key : ∀ m : Fin 7, lvn (m.1 - 1) 0 ≤ 52 := by decide +kernel
  exact key ⟨m, by omega⟩
/-- a way to class m things: its numbers stay below the number of classes, and each class has a thing -/
def LW (m : Nat) (p : (Nat → Nat) × Nat) : Prop := 1 ≤ p.2 ∧ p.2 ≤ m ∧ (∀ j, j < m → p.1 j < p.2) ∧ (∀ q, q < p.2 → ∃ j, j < m ∧ p.1 j = q) ∧ ∀ j, j < m → p.1 j ≤ j
theorem cat_mem {α : Type} {F : Nat → List α} {x : α} : ∀ (t q : Nat), x ∈ cat F q t → ∃ y, q ≤ y ∧ y < q + t ∧ x ∈ F y
  | 0, _, h => by simp [cat] at h
  | t + 1, q, h => by
    simp only [cat, List.mem_append] at h
    rcases h with h | h
    · exact ⟨q, by omega, by omega, h⟩
    · obtain ⟨y, h1, h2, h3⟩ := cat_mem t (q + 1) h
      exact ⟨y, by omega, by omega, h3⟩
theorem lvs_ok (m : Nat) : ∀ (r k gr : Nat) (w : Nat → Nat), k + r = m → gr < k → (∀ j, j < k → w j ≤ gr) → (∀ q, q ≤ gr → ∃ j, j < k ∧ w j = q) → (∀ j, j < k → w j ≤ j) → ∀ p, p ∈ lvs r k gr w → LW m p
  | 0, k, gr, w, hk, hg, h1, h2, h5, p, hp => by
    simp only [lvs, List.mem_singleton] at hp
    subst hp
    refine ⟨by simp, by simp; omega, fun j hj => ?_, fun q hq => ?_, fun j hj => h5 j (by omega)⟩
    · have := h1 j (by omega); simp; omega
    · obtain ⟨j, h3, h4⟩ := h2 q (by simp at hq; omega)
      exact ⟨j, by omega, h4⟩
  | r + 1, k, gr, w, hk, hg, h1, h2, h5, p, hp => by
    simp only [lvs] at hp
    obtain ⟨y, hy1, hy2, hy3⟩ := cat_mem _ _ hp
    refine lvs_ok m r (k + 1) (max gr y) (zu w k y) (by omega) (by omega) (fun j hj => ?_) (fun q hq => ?_) (fun j hj => ?_) p hy3
    · by_cases q : j = k
      · subst q; rw [zu_eq]; omega
      · rw [zu_ne _ _ _ _ q]; have := h1 j (by omega); omega
    · by_cases q2 : q ≤ gr
      · obtain ⟨j, h3, h4⟩ := h2 q q2
        exact ⟨j, by omega, by rw [zu_ne _ _ _ _ (by omega)]; exact h4⟩
      · exact ⟨k, by omega, by rw [zu_eq]; omega⟩
    · by_cases q : j = k
      · subst q; rw [zu_eq]; omega
      · rw [zu_ne _ _ _ _ q]; exact h5 j (by omega)
theorem FL_ok {T : ZT} (hW : WT T) {p : (Nat → Nat) × Nat} (h : p ∈ FL T) : LW T.1 p := by
  have h1 := hW.1
  unfold FL at h
  rw [List.mem_filter] at h
  refine lvs_ok T.1 (T.1 - 1) 1 0 (fun _ => 0) (by omega) (by omega) (fun _ _ => Nat.le_refl _) (fun q hq => ⟨0, by omega, by omega⟩) (fun _ _ => Nat.zero_le _) p h.1
theorem FL_len {T : ZT} (hW : WT T) : (FL T).length ≤ 52 := by
  unfold FL
  refine Nat.le_trans (List.length_filter_le _ _) ?_
  rw [lvs_len]
  exact lvn_le T.1 hW.2.1
def FQ (T : ZT) (L : List ((Nat → Nat) × Nat)) (i : Nat → Int32) (f : Nat → Nat → Int32) : Prop := i 7 = zn L.length ∧ ∀ t p, L[t]? = some p → f 2 t = zn (pkT T.1 p.1)
section EX
variable {n s : Nat} {c : Nat → mq_E} {I : Nat → Int32} {J : Nat → Int64} {A : Nat → Nat → Int32} {B : Nat → Nat → Int64} {R : Nat → Value} {Q : Nat → Nat → Option Nat}
variable {a g : Nat} {T : ZT}
theorem G_kl (ha : 46 ≤ g) {i : Nat → Int32} {f : Nat → Nat → Int32} (w : Nat → Nat) (m : Nat) (hm : m ≤ 6) (hi : i 1 = zn m) (hw : ∀ j, j < m → f 3 j = zn (w j)) (hw2 : ∀ j, j < m → w j < 6) (d : Nat) : ∀ (r k : Nat), k + r = m → mz d 30 21 [some (.ref g), some (.int (zn (pkT k w))), some (.int (zn k))] [] (hp n s (gc c g a i f) I J A B R Q) = mz d 30 48 [some (.ref g), some (.int (zn (pkT m w))), some (.int (zn m))] [] (hp n s (gc c g a i f) I J A B R Q) := by
  intro r
  induction r with
  | zero =>
    intro k hk
    have e : k = m := by omega
    subst e
    simp (disch := first | omega | exact zb_1 | exact zb_0 | exact zb_n1 | exact zb_n0) only [x30_21, x30_22, x30_23, x30_26, mq_dl_int, mq_dl_ref, mq_dl_null, mq_dl_none, mc_some, Option.toList_some, Option.toList_none, List.cons_append, List.nil_append, zb_1, zb_0, ↓reduceIte, if_true, if_false, not_true_eq_false, not_false_eq_true, Bool.false_eq_true, z_10, z_01, eq_self, Bool.and_self, true_or, or_true, false_or, or_false, true_and, and_true, false_and, and_false, and_self, or_self, Nat.reduceLT, Nat.reduceEqDiff, Nat.reduceLeDiff, Nat.reduceAdd, Nat.reduceMul, Nat.reduceSub, zn_lit, zn_add, zn_mul, zn_sub, zn_addneg, zn_lt, zn_le, zn_eq, zn_clamp, zn_in, zn_long, hp_1, hp_21, gc_0, gc_mo, gc_f0, gc_f1, gc_s1, gc_k1, gc_f2, gc_f3, gc_f4, gc_f5, gc_f6, gc_s6, gc_k6, gc_f7, gc_s7, gc_k7, gc_i1, gc_g1, gc_n1, gc_w1, gc_i2, gc_g2, gc_n2, gc_w2, gc_i3, gc_g3, gc_n3, gc_w3, gc_i4, gc_g4, gc_n4, gc_w4, zu_eq, zu_ne, zu_zu, upd_zu, updL_zu, hi, Nat.le_refl]
  | succ r ih =>
    intro k hk
    have h2 := hw2 k (by omega)
    rw [← ih (k + 1) (by omega), x30_21]
    simp (disch := first | omega | exact zb_1 | exact zb_0 | exact zb_n1 | exact zb_n0) only [x30_22, x30_23, x30_26, x30_29, x30_30, x30_31, x30_34, x30_35, x30_36, x30_37, x30_38, x30_39, x30_40, x30_41, x30_42, x30_45, mq_dl_int, mq_dl_ref, mq_dl_null, mq_dl_none, mc_some, Option.toList_some, Option.toList_none, List.cons_append, List.nil_append, zb_1, zb_0, ↓reduceIte, if_true, if_false, not_true_eq_false, not_false_eq_true, Bool.false_eq_true, z_10, z_01, eq_self, Bool.and_self, true_or, or_true, false_or, or_false, true_and, and_true, false_and, and_false, and_self, or_self, Nat.reduceLT, Nat.reduceEqDiff, Nat.reduceLeDiff, Nat.reduceAdd, Nat.reduceMul, Nat.reduceSub, zn_lit, zn_add, zn_mul, zn_sub, zn_addneg, zn_lt, zn_le, zn_eq, zn_clamp, zn_in, zn_long, hp_1, hp_21, gc_0, gc_mo, gc_f0, gc_f1, gc_s1, gc_k1, gc_f2, gc_f3, gc_f4, gc_f5, gc_f6, gc_s6, gc_k6, gc_f7, gc_s7, gc_k7, gc_i1, gc_g1, gc_n1, gc_w1, gc_i2, gc_g2, gc_n2, gc_w2, gc_i3, gc_g3, gc_n3, gc_w3, gc_i4, gc_g4, gc_n4, gc_w4, zu_eq, zu_ne, zu_zu, upd_zu, updL_zu, hi, hw, show ¬ m ≤ k by omega, show k < 6 by omega, decide_true, zn_shl, zn_or, pkT]
theorem G_keep (ha : 46 ≤ g) {i : Nat → Int32} {f : Nat → Nat → Int32} (w : Nat → Nat) (hW : WT T) (hi : i 1 = zn T.1) (hw : ∀ j, j < T.1 → f 3 j = zn (w j)) (hw2 : ∀ j, j < T.1 → w j < 6) (t : Nat) (ht : t < 52) (hi7 : i 7 = zn t) (d : Nat) : mz d 30 0 [some (.ref g), none, none] [] (hp n s (gc c g a i f) I J A B R Q) = some (some none, hp n s (gc c g a (zu i 7 (zn (t + 1))) (zu f 2 (zu (f 2) t (zn (pkT T.1 w))))) I J A B R Q) := by
  have e := G_kl (n := n) (s := s) (c := c) (I := I) (J := J) (A := A) (B := B) (R := R) (Q := Q) (a := a) ha w T.1 hW.2.1 hi hw hw2 d T.1 0 (by omega)
  rw [show pkT 0 w = 0 from rfl] at e
  simp (disch := first | omega | exact zb_1 | exact zb_0 | exact zb_n1 | exact zb_n0) only [x30_0, x30_1, x30_4, x30_7, x30_8, x30_11, x30_13, x30_17, x30_18, x30_19, x30_20, mq_dl_int, mq_dl_ref, mq_dl_null, mq_dl_none, mc_some, Option.toList_some, Option.toList_none, List.cons_append, List.nil_append, zb_1, zb_0, ↓reduceIte, if_true, if_false, not_true_eq_false, not_false_eq_true, Bool.false_eq_true, z_10, z_01, eq_self, Bool.and_self, true_or, or_true, false_or, or_false, true_and, and_true, false_and, and_false, and_self, or_self, Nat.reduceLT, Nat.reduceEqDiff, Nat.reduceLeDiff, Nat.reduceAdd, Nat.reduceMul, Nat.reduceSub, zn_lit, zn_add, zn_mul, zn_sub, zn_addneg, zn_lt, zn_le, zn_eq, zn_clamp, zn_in, zn_long, hp_1, hp_21, gc_0, gc_mo, gc_f0, gc_f1, gc_s1, gc_k1, gc_f2, gc_f3, gc_f4, gc_f5, gc_f6, gc_s6, gc_k6, gc_f7, gc_s7, gc_k7, gc_i1, gc_g1, gc_n1, gc_w1, gc_i2, gc_g2, gc_n2, gc_w2, gc_i3, gc_g3, gc_n3, gc_w3, gc_i4, gc_g4, gc_n4, gc_w4, zu_eq, zu_ne, zu_zu, upd_zu, updL_zu, hi7, Nat.not_lt_zero, show t < 52 by omega]
  rw [e]
  simp (disch := first | omega | exact zb_1 | exact zb_0 | exact zb_n1 | exact zb_n0) only [x30_48, x30_49, x30_52, x30_53, x30_56, x30_57, x30_58, x30_59, x30_60, x30_63, x30_64, x30_65, x30_68, mq_dl_int, mq_dl_ref, mq_dl_null, mq_dl_none, mc_some, Option.toList_some, Option.toList_none, List.cons_append, List.nil_append, zb_1, zb_0, ↓reduceIte, if_true, if_false, not_true_eq_false, not_false_eq_true, Bool.false_eq_true, z_10, z_01, eq_self, Bool.and_self, true_or, or_true, false_or, or_false, true_and, and_true, false_and, and_false, and_self, or_self, Nat.reduceLT, Nat.reduceEqDiff, Nat.reduceLeDiff, Nat.reduceAdd, Nat.reduceMul, Nat.reduceSub, zn_lit, zn_add, zn_mul, zn_sub, zn_addneg, zn_lt, zn_le, zn_eq, zn_clamp, zn_in, zn_long, hp_1, hp_21, gc_0, gc_mo, gc_f0, gc_f1, gc_s1, gc_k1, gc_f2, gc_f3, gc_f4, gc_f5, gc_f6, gc_s6, gc_k6, gc_f7, gc_s7, gc_k7, gc_i1, gc_g1, gc_n1, gc_w1, gc_i2, gc_g2, gc_n2, gc_w2, gc_i3, gc_g3, gc_n3, gc_w3, gc_i4, gc_g4, gc_n4, gc_w4, zu_eq, zu_ne, zu_zu, upd_zu, updL_zu, hi7, show t < 52 by omega, decide_true]
def G_EX (c : Nat → mq_E) (g a : Nat) (T : ZT) (n s : Nat) (I : Nat → Int32) (J : Nat → Int64) (A : Nat → Nat → Int32) (B : Nat → Nat → Int64) (R : Nat → Value) (Q : Nat → Nat → Option Nat) (d r : Nat) : Prop := ∀ (k gr : Nat) (i : Nat → Int32) (f : Nat → Nat → Int32) (w : Nat → Nat) (L : List ((Nat → Nat) × Nat)), k + r = T.1 → 1 ≤ k → gr < k → (∀ j, j < k → f 3 j = zn (w j)) → (∀ j, j < k → w j ≤ gr) → i 1 = zn T.1 → FQ T L i f → L.length + lvn r gr ≤ 52 → ∃ i' f', (∀ q, q ≠ 7 → i' q = i q) ∧ f' 1 = f 1 ∧ (∀ j, j < k → f' 3 j = f 3 j) ∧ FQ T (L ++ (lvs r k gr w).filter (fun p => fzT T p.1 p.2)) i' f' ∧ mz (d + r + 3) 29 0 [some (.ref g), some (.int (zn k)), some (.int (zn gr)), none] [] (hp n s (gc c g a i f) I J A B R Q) = some (some none, hp n s (gc c g a i' f') I J A B R Q)
theorem G_ex0 (hT : TB c a T) (hW : WT T) (hg : a + 2 < g) (ha : 46 ≤ g) (d : Nat) : G_EX c g a T n s I J A B R Q d 0 := by
  have h1 := hW.2.1
  intro k gr i f w L hk hk1 hgr hw hw2 hi hF hL
  have e : k = T.1 := by omega
  subst e
  have hw3 : ∀ j, j < T.1 → w j < 6 := fun j hj => by have := hw2 j hj; omega
  have hL1 : L.length + 1 ≤ 52 := hL
  cases hr : fzR T w with
  | false =>
    refine ⟨i, f, fun _ _ => rfl, rfl, fun _ _ => rfl, ?_, ?_⟩
    · simp only [lvs, List.filter, fzT, hr, Bool.false_and, List.append_nil]
      exact hF
    · simp (disch := first | omega | exact zb_1 | exact zb_0 | exact zb_n1 | exact zb_n0) only [x29_0, x29_1, x29_2, x29_5, x29_14, x29_15, x29_18, x29_35, mq_dl_int, mq_dl_ref, mq_dl_null, mq_dl_none, mc_some, Option.toList_some, Option.toList_none, List.cons_append, List.nil_append, zb_1, zb_0, ↓reduceIte, if_true, if_false, not_true_eq_false, not_false_eq_true, Bool.false_eq_true, z_10, z_01, eq_self, Bool.and_self, true_or, or_true, false_or, or_false, true_and, and_true, false_and, and_false, and_self, or_self, Nat.reduceLT, Nat.reduceEqDiff, Nat.reduceLeDiff, Nat.reduceAdd, Nat.reduceMul, Nat.reduceSub, zn_lit, zn_add, zn_mul, zn_sub, zn_addneg, zn_lt, zn_le, zn_eq, zn_clamp, zn_in, zn_long, hp_1, hp_21, gc_0, gc_mo, gc_f0, gc_f1, gc_s1, gc_k1, gc_f2, gc_f3, gc_f4, gc_f5, gc_f6, gc_s6, gc_k6, gc_f7, gc_s7, gc_k7, gc_i1, gc_g1, gc_n1, gc_w1, gc_i2, gc_g2, gc_n2, gc_w2, gc_i3, gc_g3, gc_n3, gc_w3, gc_i4, gc_g4, gc_n4, gc_w4, zu_eq, zu_ne, zu_zu, upd_zu, updL_zu, hi, Nat.le_refl, G_rev hT hW hg ha hi hw hw3, hr, zo_f]
  | true =>
    obtain ⟨L', e2⟩ := G_even (n := n) (s := s) (c := c) (I := I) (J := J) (A := A) (B := B) (R := R) (Q := Q) (i := i) hT hW hg ha hi hw hw3 d (gr + 1) (by omega) (by omega)
    cases hs : fzS T w (gr + 1) with
    | false =>
      rw [hs] at e2
      refine ⟨i, zu f 4 L', fun _ _ => rfl, zu_ne _ _ _ _ (by omega), fun _ _ => by rw [zu_ne _ _ _ _ (by omega)], ?_, ?_⟩
      · simp only [lvs, List.filter, fzT, hr, hs, Bool.and_false, List.append_nil]
        exact ⟨hF.1, fun t p h => by rw [zu_ne _ _ _ _ (by omega)]; exact hF.2 t p h⟩
      · simp (disch := first | omega | exact zb_1 | exact zb_0 | exact zb_n1 | exact zb_n0) only [x29_0, x29_1, x29_2, x29_5, x29_14, x29_15, x29_18, x29_21, x29_22, x29_23, x29_24, x29_25, x29_28, x29_35, mq_dl_int, mq_dl_ref, mq_dl_null, mq_dl_none, mc_some, Option.toList_some, Option.toList_none, List.cons_append, List.nil_append, zb_1, zb_0, ↓reduceIte, if_true, if_false, not_true_eq_false, not_false_eq_true, Bool.false_eq_true, z_10, z_01, eq_self, Bool.and_self, true_or, or_true, false_or, or_false, true_and, and_true, false_and, and_false, and_self, or_self, Nat.reduceLT, Nat.reduceEqDiff, Nat.reduceLeDiff, Nat.reduceAdd, Nat.reduceMul, Nat.reduceSub, zn_lit, zn_add, zn_mul, zn_sub, zn_addneg, zn_lt, zn_le, zn_eq, zn_clamp, zn_in, zn_long, hp_1, hp_21, gc_0, gc_mo, gc_f0, gc_f1, gc_s1, gc_k1, gc_f2, gc_f3, gc_f4, gc_f5, gc_f6, gc_s6, gc_k6, gc_f7, gc_s7, gc_k7, gc_i1, gc_g1, gc_n1, gc_w1, gc_i2, gc_g2, gc_n2, gc_w2, gc_i3, gc_g3, gc_n3, gc_w3, gc_i4, gc_g4, gc_n4, gc_w4, zu_eq, zu_ne, zu_zu, upd_zu, updL_zu, hi, Nat.le_refl, G_rev hT hW hg ha hi hw hw3, hr, e2, zo_f, zo_t]
    | true =>
      rw [hs] at e2
      have e3 := G_keep (n := n) (s := s) (c := c) (I := I) (J := J) (A := A) (B := B) (R := R) (Q := Q) (a := a) (T := T) (i := i) (f := zu f 4 L') ha w hW hi (fun j hj => by rw [zu_ne _ _ _ _ (by omega)]; exact hw j hj) hw3 L.length (by omega) hF.1 (d + 2)
      rw [zu_ne f 4 2 _ (by omega)] at e3
      refine ⟨zu i 7 (zn (L.length + 1)), zu (zu f 4 L') 2 (zu (f 2) L.length (zn (pkT T.1 w))), fun q hq => zu_ne _ _ _ _ hq, ?_, fun j _ => ?_, ?_, ?_⟩
      rotate_left 3
      · simp (disch := first | omega | exact zb_1 | exact zb_0 | exact zb_n1 | exact zb_n0) only [x29_0, x29_1, x29_2, x29_5, x29_14, x29_15, x29_18, x29_21, x29_22, x29_23, x29_24, x29_25, x29_28, x29_31, x29_32, x29_35, mq_dl_int, mq_dl_ref, mq_dl_null, mq_dl_none, mc_some, Option.toList_some, Option.toList_none, List.cons_append, List.nil_append, zb_1, zb_0, ↓reduceIte, if_true, if_false, not_true_eq_false, not_false_eq_true, Bool.false_eq_true, z_10, z_01, eq_self, Bool.and_self, true_or, or_true, false_or, or_false, true_and, and_true, false_and, and_false, and_self, or_self, Nat.reduceLT, Nat.reduceEqDiff, Nat.reduceLeDiff, Nat.reduceAdd, Nat.reduceMul, Nat.reduceSub, zn_lit, zn_add, zn_mul, zn_sub, zn_addneg, zn_lt, zn_le, zn_eq, zn_clamp, zn_in, zn_long, hp_1, hp_21, gc_0, gc_mo, gc_f0, gc_f1, gc_s1, gc_k1, gc_f2, gc_f3, gc_f4, gc_f5, gc_f6, gc_s6, gc_k6, gc_f7, gc_s7, gc_k7, gc_i1, gc_g1, gc_n1, gc_w1, gc_i2, gc_g2, gc_n2, gc_w2, gc_i3, gc_g3, gc_n3, gc_w3, gc_i4, gc_g4, gc_n4, gc_w4, zu_eq, zu_ne, zu_zu, upd_zu, updL_zu, hi, Nat.le_refl, G_rev hT hW hg ha hi hw hw3, hr, e2, e3, zo_t]
      · rw [zu_ne _ _ _ _ (by omega), zu_ne _ _ _ _ (by omega)]
      · rw [zu_ne _ _ _ _ (by omega), zu_ne _ _ _ _ (by omega)]
      · simp only [lvs, List.filter, fzT, hr, hs, Bool.and_true]
        refine ⟨by rw [zu_eq, List.length_append]; rfl, fun t p h => ?_⟩
        rw [zu_eq]
        by_cases q : t < L.length
        · rw [List.getElem?_append_left q] at h
          rw [zu_ne _ _ _ _ (by omega)]
          exact hF.2 t p h
        · rw [List.getElem?_append_right (by omega)] at h
          have q2 : t = L.length := by
            by_cases q3 : t - L.length = 0
            · omega
            · rw [show t - L.length = (t - L.length - 1) + 1 by omega] at h
              simp at h
          subst q2
          simp at h
          subst h
          rw [zu_eq]
end EX
