/-! PARTITIONS: the class's search, its count, its answers -/
section FU
variable {n s : Nat} {c : Nat → mq_E} {I : Nat → Int32} {J : Nat → Int64} {A : Nat → Nat → Int32} {B : Nat → Nat → Int64} {R : Nat → Value} {Q : Nat → Nat → Option Nat}
variable {a g : Nat} {T : ZT}
theorem G_exl (hW : WT T) (ha : 46 ≤ g) (d r : Nat) (IH : G_EX c g a T n s I J A B R Q d r) (k gr : Nat) (w : Nat → Nat) (hk : k + (r + 1) = T.1) (hk1 : 1 ≤ k) (hgr : gr < k) (hw2 : ∀ j, j < k → w j ≤ gr) : ∀ (t q : Nat) (i : Nat → Int32) (f : Nat → Nat → Int32) (L : List ((Nat → Nat) × Nat)), q + t = gr + 2 → 1 ≤ q → (∀ j, j < k → f 3 j = zn (w j)) → i 1 = zn T.1 → FQ T L i f → L.length + zns (fun q => lvn r (max gr q)) q t ≤ 52 → ∃ i' f', (∀ q, q ≠ 7 → i' q = i q) ∧ f' 1 = f 1 ∧ (∀ j, j < k → f' 3 j = f 3 j) ∧ FQ T (L ++ (cat (fun q => lvs r (k + 1) (max gr q) (zu w k q)) q t).filter (fun p => fzT T p.1 p.2)) i' f' ∧ mz (d + r + 4) 29 38 [some (.ref g), some (.int (zn k)), some (.int (zn gr)), some (.int (zn q))] [] (hp n s (gc c g a i f) I J A B R Q) = some (some none, hp n s (gc c g a i' f') I J A B R Q) := by
  have h1 := hW.2.1
  intro t
  induction t with
  | zero =>
    intro q i f L hq hq1 hw hi hF hL
    refine ⟨i, f, fun _ _ => rfl, rfl, fun _ _ => rfl, ?_, ?_⟩
    · simp only [cat, List.filter_nil, List.append_nil]
      exact hF
    · simp (disch := first | omega | exact zb_1 | exact zb_0 | exact zb_n1 | exact zb_n0) only [x29_38, x29_39, x29_40, x29_41, x29_42, x29_70, mq_dl_int, mq_dl_ref, mq_dl_null, mq_dl_none, mc_some, Option.toList_some, Option.toList_none, List.cons_append, List.nil_append, zb_1, zb_0, ↓reduceIte, if_true, if_false, not_true_eq_false, not_false_eq_true, Bool.false_eq_true, z_10, z_01, eq_self, Bool.and_self, true_or, or_true, false_or, or_false, true_and, and_true, false_and, and_false, and_self, or_self, Nat.reduceLT, Nat.reduceEqDiff, Nat.reduceLeDiff, Nat.reduceAdd, Nat.reduceMul, Nat.reduceSub, zn_lit, zn_add, zn_mul, zn_sub, zn_addneg, zn_lt, zn_le, zn_eq, zn_clamp, zn_in, zn_long, show gr + 1 < q by omega]
  | succ t ih =>
    intro q i f L hq hq1 hw hi hF hL
    simp only [zns] at hL
    obtain ⟨i1, f1, a1, a2, a3, a4, a5⟩ := IH (k + 1) (max gr q) i (zu f 3 (zu (f 3) k (zn q))) (zu w k q) L (by omega) (by omega) (by omega) (fun j hj => by
      rw [zu_eq]
      by_cases q2 : j = k
      · subst q2; rw [zu_eq, zu_eq]
      · rw [zu_ne _ _ _ _ q2, zu_ne _ _ _ _ q2]; exact hw j (by omega)) (fun j hj => by
      by_cases q2 : j = k
      · subst q2; rw [zu_eq]; omega
      · rw [zu_ne _ _ _ _ q2]; have := hw2 j (by omega); omega) hi ⟨hF.1, fun t p h => by rw [zu_ne _ _ _ _ (by omega)]; exact hF.2 t p h⟩ (by omega)
    have hlen : (L ++ (lvs r (k + 1) (max gr q) (zu w k q)).filter (fun p => fzT T p.1 p.2)).length ≤ L.length + lvn r (max gr q) := by
      rw [List.length_append]
      have := List.length_filter_le (fun p => fzT T p.1 p.2) (lvs r (k + 1) (max gr q) (zu w k q))
      rw [lvs_len] at this
      omega
    have a3' : ∀ j, j < k → f1 3 j = f 3 j := fun j hj => by rw [a3 j (by omega), zu_eq, zu_ne _ _ _ _ (by omega)]
    obtain ⟨i2, f2, b1, b2, b3, b4, b5⟩ := ih (q + 1) i1 f1 _ (by omega) (by omega) (fun j hj => by rw [a3' j hj]; exact hw j hj) (by rw [a1 1 (by omega)]; exact hi) a4 (by omega)
    refine ⟨i2, f2, fun x hx => by rw [b1 x hx, a1 x hx], by rw [b2, a2, zu_ne _ _ _ _ (by omega)], fun j hj => by rw [b3 j hj, a3' j hj], ?_, ?_⟩
    · simp only [cat, List.filter_append]
      rw [← List.append_assoc]
      exact b4
    · rw [x29_38, ← b5]
      have e := a5
      simp (disch := first | omega | exact zb_1 | exact zb_0 | exact zb_n1 | exact zb_n0) only [x29_39, x29_40, x29_41, x29_42, x29_45, x29_46, x29_49, x29_50, x29_51, x29_52, x29_53, x29_54, x29_55, x29_56, x29_57, x29_58, x29_61, x29_64, x29_67, mq_dl_int, mq_dl_ref, mq_dl_null, mq_dl_none, mc_some, Option.toList_some, Option.toList_none, List.cons_append, List.nil_append, zb_1, zb_0, ↓reduceIte, if_true, if_false, not_true_eq_false, not_false_eq_true, Bool.false_eq_true, z_10, z_01, eq_self, Bool.and_self, true_or, or_true, false_or, or_false, true_and, and_true, false_and, and_false, and_self, or_self, Nat.reduceLT, Nat.reduceEqDiff, Nat.reduceLeDiff, Nat.reduceAdd, Nat.reduceMul, Nat.reduceSub, zn_lit, zn_add, zn_mul, zn_sub, zn_addneg, zn_lt, zn_le, zn_eq, zn_clamp, zn_in, zn_long, hp_1, hp_21, gc_0, gc_mo, gc_f0, gc_f1, gc_s1, gc_k1, gc_f2, gc_f3, gc_f4, gc_f5, gc_f6, gc_s6, gc_k6, gc_f7, gc_s7, gc_k7, gc_i1, gc_g1, gc_n1, gc_w1, gc_i2, gc_g2, gc_n2, gc_w2, gc_i3, gc_g3, gc_n3, gc_w3, gc_i4, gc_g4, gc_n4, gc_w4, zu_eq, zu_ne, zu_zu, upd_zu, updL_zu, show ¬ gr + 1 < q by omega, show k < 6 by omega, decide_true, M_max, e]
theorem G_ex (hT : TB c a T) (hW : WT T) (hg : a + 2 < g) (ha : 46 ≤ g) (d : Nat) : ∀ r, G_EX c g a T n s I J A B R Q d r := by
  have h1 := hW.2.1
  intro r
  induction r with
  | zero => exact G_ex0 hT hW hg ha d
  | succ r IH =>
    intro k gr i f w L hk hk1 hgr hw hw2 hi hF hL
    obtain ⟨i', f', b1, b2, b3, b4, b5⟩ := G_exl hW ha d r IH k gr w hk hk1 hgr hw2 (gr + 1) 1 i f L (by omega) (by omega) hw hi hF hL
    refine ⟨i', f', b1, b2, b3, b4, ?_⟩
    rw [← b5, show d + (r + 1) + 3 = d + r + 4 by omega]
    simp (disch := first | omega | exact zb_1 | exact zb_0 | exact zb_n1 | exact zb_n0) only [x29_0, x29_1, x29_2, x29_5, x29_8, x29_9, x29_11, x29_36, x29_37, mq_dl_int, mq_dl_ref, mq_dl_null, mq_dl_none, mc_some, Option.toList_some, Option.toList_none, List.cons_append, List.nil_append, zb_1, zb_0, ↓reduceIte, if_true, if_false, not_true_eq_false, not_false_eq_true, Bool.false_eq_true, z_10, z_01, eq_self, Bool.and_self, true_or, or_true, false_or, or_false, true_and, and_true, false_and, and_false, and_self, or_self, Nat.reduceLT, Nat.reduceEqDiff, Nat.reduceLeDiff, Nat.reduceAdd, Nat.reduceMul, Nat.reduceSub, zn_lit, zn_add, zn_mul, zn_sub, zn_addneg, zn_lt, zn_le, zn_eq, zn_clamp, zn_in, zn_long, hp_1, hp_21, gc_0, gc_mo, gc_f0, gc_f1, gc_s1, gc_k1, gc_f2, gc_f3, gc_f4, gc_f5, gc_f6, gc_s6, gc_k6, gc_f7, gc_s7, gc_k7, gc_i1, gc_g1, gc_n1, gc_w1, gc_i2, gc_g2, gc_n2, gc_w2, gc_i3, gc_g3, gc_n3, gc_w3, gc_i4, gc_g4, gc_n4, gc_w4, zu_eq, zu_ne, zu_zu, upd_zu, updL_zu, hi, show ¬ T.1 ≤ k by omega, show k < 6 by omega]
/-- the groupings with their partitions found -/
def GF (c : Nat → mq_E) (g a : Nat) (T : ZT) : Prop := 46 ≤ g ∧ a + 2 < g ∧ gdT T = true ∧ ∃ i f, gc c g a i f = c ∧ i 1 = zn T.1 ∧ GP T i f (2 ^ T.1) ∧ f 3 0 = 0 ∧ FP T i f
theorem GF_GV (h : GF c g a T) : GV c g a T := by
  obtain ⟨h1, h2, h3, i, f, h4, h5, h6, h7, h8⟩ := h
  exact ⟨h1, h2, h3, i, f, h4, h5, h6, h7, Or.inr h8⟩
theorem G_count (hT : TB c a T) (hW : WT T) (hG : GV c g a T) (d : Nat) : ∃ c', GF c' g a T ∧ (∀ b, b < g ∨ g + 4 < b → c' b = c b) ∧ (∃ i f, c' = gc c g a i f) ∧ mz (d + 9) 24 0 [some (.ref g)] [] (hp n s c I J A B R Q) = some (some (some (.int (zn (FL T).length))), hp n s c' I J A B R Q) := by
  have hm := hW.1
  have hm2 := hW.2.1
  obtain ⟨h1, h2, h3, i, f, h4, h5, h6, h7, h8⟩ := hG
  by_cases q : i 7 = -1
  · obtain ⟨i', f', b1, b2, b3, b4, b5⟩ := G_ex (n := n) (s := s) (c := c) (I := I) (J := J) (A := A) (B := B) (R := R) (Q := Q) hT hW h2 h1 (d + 5 - (T.1 - 1)) (T.1 - 1) 1 0 (zu i 7 0) f (fun _ => 0) [] (by omega) (by omega) (by omega) (fun j hj => by
      have : j = 0 := by omega
      rw [this]; exact h7) (fun _ _ => Nat.le_refl _) (by rw [zu_ne _ _ _ _ (by omega)]; exact h5) ⟨zu_eq _ _ _, fun t p h => by simp at h⟩ (by
      have := lvn_le T.1 hm2
      simp; omega)
    rw [show d + 5 - (T.1 - 1) + (T.1 - 1) + 3 = d + 8 by omega] at b5
    refine ⟨gc c g a i' f', ⟨h1, h2, h3, i', f', gc_gc _ _ _ _ _ _ _, by rw [b1 1 (by omega), zu_ne _ _ _ _ (by omega)]; exact h5, ⟨by rw [b1 6 (by omega), zu_ne _ _ _ _ (by omega)]; exact h6.1, fun x hx hp => by rw [b2]; exact h6.2 x hx hp⟩, by rw [b3 0 (by omega)]; exact h7, ?_⟩, fun b hb => gc_ne b hb, ⟨i', f', rfl⟩, ?_⟩
    · rw [List.nil_append] at b4
      exact b4
    · have e7 : i' 7 = zn (FL T).length := by
        rw [List.nil_append] at b4
        exact b4.1
      have e8 : mz (d + 9) 24 0 [some (.ref g)] [] (hp n s (gc c g a i f) I J A B R Q) = some (some (some (.int (zn (FL T).length))), hp n s (gc c g a i' f') I J A B R Q) := by
        rw [show (0 : Int32) = zn 0 from rfl] at b5
        simp (disch := first | omega | exact zb_1 | exact zb_0 | exact zb_n1 | exact zb_n0) only [x24_0, x24_1, x24_4, x24_5, x24_8, x24_9, x24_10, x24_13, x24_14, x24_15, x24_16, x24_19, x24_20, x24_23, mq_dl_int, mq_dl_ref, mq_dl_null, mq_dl_none, mc_some, Option.toList_some, Option.toList_none, List.cons_append, List.nil_append, zb_1, zb_0, ↓reduceIte, if_true, if_false, not_true_eq_false, not_false_eq_true, Bool.false_eq_true, z_10, z_01, eq_self, Bool.and_self, true_or, or_true, false_or, or_false, true_and, and_true, false_and, and_false, and_self, or_self, Nat.reduceLT, Nat.reduceEqDiff, Nat.reduceLeDiff, Nat.reduceAdd, Nat.reduceMul, Nat.reduceSub, zn_lit, zn_add, zn_mul, zn_sub, zn_addneg, zn_lt, zn_le, zn_eq, zn_clamp, zn_in, zn_long, hp_1, hp_21, gc_0, gc_mo, gc_f0, gc_f1, gc_s1, gc_k1, gc_f2, gc_f3, gc_f4, gc_f5, gc_f6, gc_s6, gc_k6, gc_f7, gc_s7, gc_k7, gc_i1, gc_g1, gc_n1, gc_w1, gc_i2, gc_g2, gc_n2, gc_w2, gc_i3, gc_g3, gc_n3, gc_w3, gc_i4, gc_g4, gc_n4, gc_w4, zu_eq, zu_ne, zu_zu, upd_zu, updL_zu, show i 7 = -zn 1 from q, b5, e7]
      rw [h4] at e8
      exact e8
  · have h9 : FP T i f := h8.resolve_left q
    refine ⟨c, ⟨h1, h2, h3, i, f, h4, h5, h6, h7, h9⟩, fun _ _ => rfl, ⟨i, f, h4.symm⟩, ?_⟩
    have e8 : mz (d + 9) 24 0 [some (.ref g)] [] (hp n s (gc c g a i f) I J A B R Q) = some (some (some (.int (zn (FL T).length))), hp n s (gc c g a i f) I J A B R Q) := by
      simp (disch := first | omega | exact zb_1 | exact zb_0 | exact zb_n1 | exact zb_n0) only [x24_0, x24_1, x24_4, x24_5, x24_19, x24_20, x24_23, mq_dl_int, mq_dl_ref, mq_dl_null, mq_dl_none, mc_some, Option.toList_some, Option.toList_none, List.cons_append, List.nil_append, zb_1, zb_0, ↓reduceIte, if_true, if_false, not_true_eq_false, not_false_eq_true, Bool.false_eq_true, z_10, z_01, eq_self, Bool.and_self, true_or, or_true, false_or, or_false, true_and, and_true, false_and, and_false, and_self, or_self, zn_lit, hp_1, hp_21, gc_0, gc_mo, gc_f0, gc_f1, gc_s1, gc_k1, gc_f2, gc_f3, gc_f4, gc_f5, gc_f6, gc_s6, gc_k6, gc_f7, gc_s7, gc_k7, gc_i1, gc_g1, gc_n1, gc_w1, gc_i2, gc_g2, gc_n2, gc_w2, gc_i3, gc_g3, gc_n3, gc_w3, gc_i4, gc_g4, gc_n4, gc_w4, zu_eq, zu_ne, zu_zu, upd_zu, updL_zu, show ¬ i 7 = -zn 1 from q]
      rw [h9.1]
    rw [h4] at e8
    exact e8
theorem FL_get (hW : WT T) {k : Nat} {p : (Nat → Nat) × Nat} (h : (FL T)[k]? = some p) : LW T.1 p := FL_ok hW (List.mem_of_getElem? h)
def fiT (T : ZT) (k t : Nat) : Nat := match (FL T)[k]? with
  | some p => p.1 t
  | none => 0
theorem G_has (hT : TB c a T) (hW : WT T) (hG : GV c g a T) (d : Nat) (x : Int32) : ∃ c', (c' = c ∨ GF c' g a T) ∧ (¬ x < 0 → GF c' g a T) ∧ (∀ b, b < g ∨ g + 4 < b → c' b = c b) ∧ (∃ i f, c' = gc c g a i f) ∧ mz (d + 10) 25 0 [some (.ref g), some (.int x)] [] (hp n s c I J A B R Q) = some (some (some (.int (zo (decide (¬ x < 0 ∧ x < zn (FL T).length))))), hp n s c' I J A B R Q) := by
  have hl := FL_len hW
  by_cases q : x < 0
  · obtain ⟨h1, h2, h3, i, f, h4, h5⟩ := hG
    refine ⟨c, Or.inl rfl, fun h => absurd q h, fun _ _ => rfl, ⟨i, f, h4.symm⟩, ?_⟩
    simp (disch := first | omega | exact zb_1 | exact zb_0 | exact zb_n1 | exact zb_n0) only [x25_0, x25_1, x25_4, x25_5, x25_5N, x25_6, x25_9, x25_12, x25_13, x25_17, x25_16, mq_dl_int, mq_dl_ref, mq_dl_null, mq_dl_none, mc_some, Option.toList_some, Option.toList_none, List.cons_append, List.nil_append, zb_1, zb_0, ↓reduceIte, if_true, if_false, not_true_eq_false, not_false_eq_true, Bool.false_eq_true, z_10, z_01, eq_self, Bool.and_self, true_or, or_true, false_or, or_false, true_and, and_true, false_and, and_false, and_self, or_self, q, decide_false]
    rfl
  · obtain ⟨c', g1, g2, g4, g3⟩ := G_count (n := n) (s := s) (c := c) (I := I) (J := J) (A := A) (B := B) (R := R) (Q := Q) hT hW hG d
    refine ⟨c', Or.inr g1, fun _ => g1, g2, g4, ?_⟩
    have hx := zn_of x q
    obtain ⟨k, hk⟩ : ∃ k, k = x.toNatClampNeg := ⟨_, rfl⟩
    rw [← hk] at hx
    rw [hx.1]
    by_cases q2 : k < (FL T).length
    · simp (disch := first | omega | exact zb_1 | exact zb_0 | exact zb_n1 | exact zb_n0) only [x25_0, x25_1, x25_4, x25_5, x25_5N, x25_6, x25_9, x25_12, x25_13, x25_17, x25_16, mq_dl_int, mq_dl_ref, mq_dl_null, mq_dl_none, mc_some, Option.toList_some, Option.toList_none, List.cons_append, List.nil_append, zb_1, zb_0, ↓reduceIte, if_true, if_false, not_true_eq_false, not_false_eq_true, Bool.false_eq_true, z_10, z_01, eq_self, Bool.and_self, true_or, or_true, false_or, or_false, true_and, and_true, false_and, and_false, and_self, or_self, Nat.reduceLT, Nat.reduceEqDiff, Nat.reduceLeDiff, Nat.reduceAdd, Nat.reduceMul, Nat.reduceSub, zn_lit, zn_add, zn_mul, zn_sub, zn_addneg, zn_lt, zn_le, zn_eq, zn_clamp, zn_in, zn_long, Nat.not_lt_zero, G_0 hG, g3, q2, show ¬ (FL T).length ≤ k by omega, decide_true, zo_t]
    · simp (disch := first | omega | exact zb_1 | exact zb_0 | exact zb_n1 | exact zb_n0) only [x25_0, x25_1, x25_4, x25_5, x25_5N, x25_6, x25_9, x25_12, x25_13, x25_17, x25_16, mq_dl_int, mq_dl_ref, mq_dl_null, mq_dl_none, mc_some, Option.toList_some, Option.toList_none, List.cons_append, List.nil_append, zb_1, zb_0, ↓reduceIte, if_true, if_false, not_true_eq_false, not_false_eq_true, Bool.false_eq_true, z_10, z_01, eq_self, Bool.and_self, true_or, or_true, false_or, or_false, true_and, and_true, false_and, and_false, and_self, or_self, Nat.reduceLT, Nat.reduceEqDiff, Nat.reduceLeDiff, Nat.reduceAdd, Nat.reduceMul, Nat.reduceSub, zn_lit, zn_add, zn_mul, zn_sub, zn_addneg, zn_lt, zn_le, zn_eq, zn_clamp, zn_in, zn_long, Nat.not_lt_zero, G_0 hG, g3, q2, show (FL T).length ≤ k by omega, decide_false, zo_f]
theorem G_cls (hT : TB c a T) (hW : WT T) (hG : GF c g a T) (d k : Nat) (hk : k < (FL T).length) (x : Int32) : mz (d + 1) 26 0 [some (.ref g), some (.int (zn k)), some (.int x), none] [] (hp n s c I J A B R Q) = some (some (some (.int (if ¬ x < 0 ∧ x < zn T.1 then zn (fiT T k x.toNatClampNeg) else -1))), (hp n s c I J A B R Q)) := by
  have hl := FL_len hW
  have hm2 := hW.2.1
  obtain ⟨h1, h2, h3, i, f, h4, h5, h6, h7, h8⟩ := hG
  have hT' : TB (gc c g a i f) a T := by rw [h4]; exact hT
  rw [← h4]
  obtain ⟨p, hp⟩ : ∃ p, (FL T)[k]? = some p := ⟨_, List.getElem?_eq_getElem hk⟩
  have hp1 := FL_get hW hp
  have hp2 := h8.2 k p hp
  have hb : ∀ j, j < T.1 → p.1 j < 16 := fun j hj => by have := hp1.2.2.1 j hj; have := hp1.2.1; omega
  have hlt := pkT_lt p.1 T.1 hb
  have hlt2 : 2 ^ (4 * T.1) ≤ 2 ^ 24 := Nat.pow_le_pow_right (by omega) (by omega)
  have hlt3 : (2 : Nat) ^ 24 < 2147483648 := by decide
  by_cases q : ¬ x < 0 ∧ x < zn T.1
  · obtain ⟨t, rfl, ht⟩ := inT_nat hW q
    have hget := pkT_get p.1 T.1 hb t ht
    have e : fiT T k t = p.1 t := by unfold fiT; rw [hp]
    have hs : zn (pkT T.1 p.1) >>> (zn (4 * t) &&& zn 31) &&& zn 15 = zn (p.1 t) := by
      rw [zn_shr _ _ (Nat.lt_of_lt_of_le hlt (Nat.le_trans hlt2 (Nat.le_of_lt hlt3))) (by omega), zn_and, hget]
    simp (disch := first | omega | exact zb_1 | exact zb_0 | exact zb_n1 | exact zb_n0) only [x26_0, x26_1, x26_4, x26_5, x26_6, x26_9, x26_12, x26_13, x26_16, x26_17, x26_20, x26_23, x26_24, x26_28, x26_29, x26_30, x26_33, x26_34, x26_37, x26_38, x26_39, x26_40, x26_41, x26_42, x26_43, x26_45, x26_46, x26_50, mq_dl_int, mq_dl_ref, mq_dl_null, mq_dl_none, mc_some, Option.toList_some, Option.toList_none, List.cons_append, List.nil_append, zb_1, zb_0, ↓reduceIte, if_true, if_false, not_true_eq_false, not_false_eq_true, Bool.false_eq_true, z_10, z_01, eq_self, Bool.and_self, true_or, or_true, false_or, or_false, true_and, and_true, false_and, and_false, and_self, or_self, Nat.reduceLT, Nat.reduceEqDiff, Nat.reduceLeDiff, Nat.reduceAdd, Nat.reduceMul, Nat.reduceSub, zn_lit, zn_add, zn_mul, zn_sub, zn_addneg, zn_lt, zn_le, zn_eq, zn_clamp, zn_in, zn_long, hp_1, hp_21, gc_0, gc_mo, gc_f0, gc_f1, gc_s1, gc_k1, gc_f2, gc_f3, gc_f4, gc_f5, gc_f6, gc_s6, gc_k6, gc_f7, gc_s7, gc_k7, gc_i1, gc_g1, gc_n1, gc_w1, gc_i2, gc_g2, gc_n2, gc_w2, gc_i3, gc_g3, gc_n3, gc_w3, gc_i4, gc_g4, gc_n4, gc_w4, zu_eq, zu_ne, zu_zu, upd_zu, updL_zu, h8.1, Nat.not_lt_zero, show ¬ (FL T).length ≤ k by omega, show k < 52 by omega, decide_true, tb_0 hT', T_hasN hT' hW, ht, hp2, hs, e]
  · simp (disch := first | omega | exact zb_1 | exact zb_0 | exact zb_n1 | exact zb_n0) only [x26_0, x26_1, x26_4, x26_5, x26_6, x26_9, x26_12, x26_13, x26_16, x26_17, x26_20, x26_27, x26_28, x26_29, x26_30, x26_49, x26_50, mq_dl_int, mq_dl_ref, mq_dl_null, mq_dl_none, mc_some, Option.toList_some, Option.toList_none, List.cons_append, List.nil_append, zb_1, zb_0, ↓reduceIte, if_true, if_false, not_true_eq_false, not_false_eq_true, Bool.false_eq_true, z_10, z_01, eq_self, Bool.and_self, true_or, or_true, false_or, or_false, true_and, and_true, false_and, and_false, and_self, or_self, zn_lit, zn_lt, zn_le, hp_1, hp_21, gc_0, gc_mo, gc_f0, gc_f1, gc_s1, gc_k1, gc_f2, gc_f3, gc_f4, gc_f5, gc_f6, gc_s6, gc_k6, gc_f7, gc_s7, gc_k7, gc_i1, gc_g1, gc_n1, gc_w1, gc_i2, gc_g2, gc_n2, gc_w2, gc_i3, gc_g3, gc_n3, gc_w3, gc_i4, gc_g4, gc_n4, gc_w4, zu_eq, zu_ne, zu_zu, upd_zu, updL_zu, h8.1, Nat.not_lt_zero, show ¬ (FL T).length ≤ k by omega, tb_0 hT', T_has hT', show ¬ (¬ x < zn 0 ∧ x < zn T.1) from q]
end FU
