/-! FUSED: the class -/
theorem TB_upO {c : Nat → mq_E} {a e : Nat} {T : ZT} (E : mq_E) (hT : TB c a T) (h : a + 2 < e) : TB (mq_up c e E) a T := by
  obtain ⟨k1, ⟨x1, x2, x3, x4, x5, x6, k2⟩, g1, r1, k3, k4, k5⟩ := hT
  exact ⟨k1, ⟨x1, x2, x3, x4, x5, x6, by rw [up_ne _ _ _ _ (by omega)]; exact k2⟩, g1, r1, by rw [up_ne _ _ _ _ (by omega)]; exact k3, by rw [up_ne _ _ _ _ (by omega)]; exact k4, k5⟩
theorem gc_up2 (c : Nat → mq_E) (g a b : Nat) (e : mq_E) (i : Nat → Int32) (f : Nat → Nat → Int32) (hb : g + 4 < b) : gc (mq_up c b e) g a i f = mq_up (gc c g a i f) b e := by
  funext x
  by_cases q : x = b
  · subst q; rw [up_eq, gc_ne x (by omega), up_eq]
  · rw [up_ne _ _ _ _ q]
    unfold gc
    rw [up_ne _ _ _ _ q]
theorem GF_up2 {c : Nat → mq_E} {g a : Nat} {T : ZT} (h : GF c g a T) (b : Nat) (e : mq_E) (hb : g + 4 < b) : GF (mq_up c b e) g a T := by
  obtain ⟨h1, h2, h3, i, f, h4, h5⟩ := h
  refine ⟨h1, h2, h3, i, f, ?_, h5⟩
  rw [gc_up2 _ _ _ _ _ _ _ hb, h4]
def mxw (w : Nat → Nat) : Nat → Nat
  | 0 => 0
  | k + 1 => max (mxw w k) (w k)
theorem mxw_le {w : Nat → Nat} {m : Nat} : ∀ k, (∀ j, j < k → w j ≤ m) → mxw w k ≤ m
  | 0, _ => Nat.zero_le _
  | k + 1, h => by
    have h1 := mxw_le k (fun j hj => h j (by omega))
    have h2 := h k (by omega)
    unfold mxw
    omega
theorem mxw_ge {w : Nat → Nat} {j : Nat} : ∀ k, j < k → w j ≤ mxw w k
  | 0, h => by omega
  | k + 1, h => by
    unfold mxw
    by_cases q : j = k
    · subst q; omega
    · have := mxw_ge (w := w) (j := j) k (by omega)
      omega
theorem LW_mx {m k : Nat} {w : Nat → Nat} (h : LW m (w, k)) : mxw w m + 1 = k := by
  have h1 : 1 ≤ k := h.1
  obtain ⟨j, h2, h3⟩ := h.2.2.2.1 (k - 1) (by show k - 1 < k; omega)
  have h4 := mxw_ge (w := w) m h2
  have h5 := mxw_le (w := w) (m := k - 1) m (fun j hj => by have : w j < k := h.2.2.1 j hj; omega)
  have h6 : w j = k - 1 := h3
  omega
theorem fiT_get {T : ZT} {k : Nat} {p : (Nat → Nat) × Nat} (h : (FL T)[k]? = some p) (j : Nat) : fiT T k j = p.1 j := by
  unfold fiT
  rw [h]
section FD
variable {n s : Nat} {c : Nat → mq_E} {I : Nat → Int32} {J : Nat → Int64} {A : Nat → Nat → Int32} {B : Nat → Nat → Int64} {R : Nat → Value} {Q : Nat → Nat → Option Nat}
variable {a g e : Nat} {T : ZT}
theorem M_fl (hT : TB c a T) (hW : WT T) (hG : GF c g a T) (he : 46 ≤ e) (hge : g + 4 < e) (d k : Nat) (p : (Nat → Nat) × Nat) (hk : (FL T)[k]? = some p) : ∀ (q i : Nat) (wf : Nat → Int32), i + q = T.1 → (∀ j, j < i → wf j = zn (p.1 j)) → ∃ wf', (∀ j, j < T.1 → wf' j = zn (p.1 j)) ∧ mz (d + 2) 50 11 [some (.ref a), some (.ref g), some (.int (zn k)), some (.ref e), some (.int (zn (mxw p.1 i))), some (.int (zn i))] [] (hp n s (mq_up c e (.inl (0, 6, .inl wf))) I J A B R Q) = mz (d + 2) 50 52 [some (.ref a), some (.ref g), some (.int (zn k)), some (.ref e), some (.int (zn (mxw p.1 T.1))), some (.int (zn T.1))] [] (hp n s (mq_up c e (.inl (0, 6, .inl wf'))) I J A B R Q) := by
  have h1 := hW.2.1
  have hag := hG.2.1
  have hp1 := FL_get hW hk
  have hk2 := (List.getElem?_eq_some_iff.1 hk).1
  intro q
  induction q with
  | zero =>
    intro i wf hi hwf
    have e1 : i = T.1 := by omega
    subst e1
    refine ⟨wf, hwf, ?_⟩
    have hT' : TB (mq_up c e (.inl (0, 6, .inl wf))) a T := TB_upO _ hT (by omega)
    simp (disch := first | omega | exact zb_1 | exact zb_0 | exact zb_n1 | exact zb_n0) only [x50_11, x50_13, x50_14, x50_17, mq_dl_int, mq_dl_ref, mq_dl_null, mq_dl_none, mc_some, Option.toList_some, Option.toList_none, List.cons_append, List.nil_append, zb_1, zb_0, ↓reduceIte, if_true, if_false, not_true_eq_false, not_false_eq_true, Bool.false_eq_true, z_10, z_01, eq_self, Bool.and_self, true_or, or_true, false_or, or_false, true_and, and_true, false_and, and_false, and_self, or_self, Nat.reduceLT, Nat.reduceEqDiff, Nat.reduceLeDiff, Nat.reduceAdd, Nat.reduceMul, Nat.reduceSub, zn_lit, zn_add, zn_mul, zn_sub, zn_addneg, zn_lt, zn_le, zn_eq, zn_clamp, zn_in, zn_long, tb_0 hT', T_things hT', Nat.le_refl]
  | succ q ih =>
    intro i wf hi hwf
    have hb : p.1 i < 6 := by have := hp1.2.2.1 i (by omega); have := hp1.2.1; omega
    have hmx := mxw_le (w := p.1) (m := 6) i (fun j hj => by have := hp1.2.2.1 j (by omega); have := hp1.2.1; omega)
    obtain ⟨wf', g1, g2⟩ := ih (i + 1) (zu wf i (zn (p.1 i))) (by omega) (fun j hj => by
      by_cases q2 : j = i
      · subst q2; rw [zu_eq]
      · rw [zu_ne _ _ _ _ q2]; exact hwf j (by omega))
    refine ⟨wf', g1, ?_⟩
    rw [← g2, x50_11]
    have hT' : TB (mq_up c e (.inl (0, 6, .inl wf))) a T := TB_upO _ hT (by omega)
    have hG' := GF_up2 hG e (.inl (0, 6, .inl wf)) hge
    have e3 := G_cls (n := n) (s := s) (I := I) (J := J) (A := A) (B := B) (R := R) (Q := Q) hT' hW hG' d k hk2 (zn i)
    have q3 : ¬ zn i < 0 ∧ zn i < zn T.1 := by
      rw [show (0 : Int32) = zn 0 from rfl, zn_lt _ _ (by omega) (by omega), zn_lt _ _ (by omega) (by omega)]
      omega
    rw [if_pos q3, zn_clamp i (by omega), fiT_get hk] at e3
    have em : max 0 (p.1 i) = p.1 i := by omega
    simp (disch := first | omega | exact zb_1 | exact zb_0 | exact zb_n1 | exact zb_n0) only [x50_13, x50_14, x50_17, x50_20, x50_21, x50_23, x50_24, x50_25, x50_26, x50_28, x50_31, x50_34, x50_35, x50_37, x50_38, x50_40, x50_41, x50_44, x50_46, x50_49, mq_dl_int, mq_dl_ref, mq_dl_null, mq_dl_none, mc_some, Option.toList_some, Option.toList_none, List.cons_append, List.nil_append, zb_1, zb_0, ↓reduceIte, if_true, if_false, not_true_eq_false, not_false_eq_true, Bool.false_eq_true, z_10, z_01, eq_self, Bool.and_self, true_or, or_true, false_or, or_false, true_and, and_true, false_and, and_false, and_self, or_self, Nat.reduceLT, Nat.reduceEqDiff, Nat.reduceLeDiff, Nat.reduceAdd, Nat.reduceMul, Nat.reduceSub, zn_lit, zn_add, zn_mul, zn_sub, zn_addneg, zn_lt, zn_le, zn_eq, zn_clamp, zn_in, zn_long, tb_0 hT', T_things hT', show ¬ T.1 ≤ i by omega, G_0 (GF_GV hG'), e3, M_max, em, haiB, hagB, hanB, eai_i, eag_i, ean_i, up_eq, hp_wcB, up_up, decide_true, Bool.true_and, Bool.true_or, upd_zu, zu_eq, show i < 6 by omega, mxw]
/-- what comes of fusing by the k-th partition: none if it is refused -/
def fuO (T : ZT) (p : (Nat → Nat) × Nat) : Option ZT := if gokT T p.1 1 p.2 = true then some (gaT T p.1 1 p.2) else none
/-- a table that was just made, or the one that was there -/
def MD (n : Nat) (c c' : Nat → mq_E) (n' a : Nat) (T : ZT) (b : Nat) (T' : ZT) : Prop := (b = a ∧ T' = T) ∨ (n ≤ b ∧ b + 2 < n' ∧ TB c' b T' ∧ c' b = tbo T'.1 b (-1) 0 0 0 .null .null)
theorem M_fused (hT : TB c a T) (hW : WT T) (hG : GF c g a T) (hn : 46 ≤ n) (hgn : g + 4 < n) (d k : Nat) (p : (Nat → Nat) × Nat) (hk : (FL T)[k]? = some p) : ∃ n' s' c' v, (∀ b, b < n ∨ n' ≤ b → c' b = c b) ∧ n ≤ n' ∧ n' ≤ n + 5 ∧ s ≤ s' ∧ s' ≤ s + 243 ∧ ((p.2 = T.1 ∧ v = .ref a) ∨ (p.2 ≠ T.1 ∧ ((fuO T p = none ∧ v = .null) ∨ ∃ b T', fuO T p = some T' ∧ v = .ref b ∧ MD n c c' n' a T b T' ∧ n ≤ b))) ∧ mz (d + 3) 50 0 [some (.ref a), some (.ref g), some (.int (zn k)), none, none, none] [] (hp n s c I J A B R Q) = some (some (some v), hp n' s' c' I J A B R Q) := by
  have h1 := hW.2.1
  have hag := hG.2.1
  have hp1 := FL_get hW hk
  have hk2 := (List.getElem?_eq_some_iff.1 hk).1
  have hmx := LW_mx (w := p.1) (k := p.2) hp1
  obtain ⟨wf, g1, g2⟩ := M_fl (n := n + 1) (s := s + 6) (I := I) (J := J) (A := A) (B := B) (R := R) (Q := Q) hT hW hG hn hgn (d + 1) k p hk T.1 0 (fun _ => zn 0) (by omega) (fun j hj => by omega)
  have hT' : TB (mq_up c n (.inl (0, 6, .inl wf))) a T := TB_upO _ hT (by omega)
  have es : mz (d + 3) 50 0 [some (.ref a), some (.ref g), some (.int (zn k)), none, none, none] [] (hp n s c I J A B R Q) = mz (d + 3) 50 52 [some (.ref a), some (.ref g), some (.int (zn k)), some (.ref n), some (.int (zn (mxw p.1 T.1))), some (.int (zn T.1))] [] (hp (n + 1) (s + 6) (mq_up c n (.inl (0, 6, .inl wf))) I J A B R Q) := by
    rw [← g2]
    simp (disch := first | omega | exact zb_1 | exact zb_0 | exact zb_n1 | exact zb_n0) only [x50_0, x50_2, x50_4, x50_5, x50_6, x50_8, x50_9, mq_dl_int, mq_dl_ref, mq_dl_null, mq_dl_none, mc_some, Option.toList_some, Option.toList_none, List.cons_append, List.nil_append, zb_1, zb_0, ↓reduceIte, if_true, if_false, not_true_eq_false, not_false_eq_true, Bool.false_eq_true, z_10, z_01, eq_self, Bool.and_self, true_or, or_true, false_or, or_false, true_and, and_true, false_and, and_false, and_self, or_self, Nat.reduceLT, Nat.reduceEqDiff, Nat.reduceLeDiff, Nat.reduceAdd, Nat.reduceMul, Nat.reduceSub, zn_lit, zn_add, zn_mul, zn_sub, zn_addneg, zn_lt, zn_le, zn_eq, zn_clamp, zn_in, zn_long, hp_1, hp_mkB, Nat.not_lt_zero, mxw]
  have hfr : ∀ b, b < n ∨ n + 1 ≤ b → mq_up c n (.inl (0, 6, .inl wf)) b = c b := fun b hb => up_ne _ _ _ _ (by omega)
  by_cases q : p.2 = T.1
  · refine ⟨n + 1, s + 6, mq_up c n (.inl (0, 6, .inl wf)), .ref a, hfr, by omega, by omega, by omega, by omega, Or.inl ⟨q, rfl⟩, ?_⟩
    rw [es]
    have e3 := M_same (n := n + 1) (s := s + 6) (I := I) (J := J) (A := A) (B := B) (R := R) (Q := Q) (e := n) hT' hW d
    have e4 : mxw p.1 T.1 + 1 = T.1 := by omega
    simp (disch := first | omega | exact zb_1 | exact zb_0 | exact zb_n1 | exact zb_n0) only [x50_52, x50_53, x50_54, x50_56, x50_57, x50_58, x50_59, x50_62, mq_dl_int, mq_dl_ref, mq_dl_null, mq_dl_none, mc_some, Option.toList_some, Option.toList_none, List.cons_append, List.nil_append, zb_1, zb_0, ↓reduceIte, if_true, if_false, not_true_eq_false, not_false_eq_true, Bool.false_eq_true, z_10, z_01, eq_self, Bool.and_self, true_or, or_true, false_or, or_false, true_and, and_true, false_and, and_false, and_self, or_self, Nat.reduceLT, Nat.reduceEqDiff, Nat.reduceLeDiff, Nat.reduceAdd, Nat.reduceMul, Nat.reduceSub, zn_lit, zn_add, zn_mul, zn_sub, zn_addneg, zn_lt, zn_le, zn_eq, zn_clamp, zn_in, zn_long, zln_lit, zln_add, zln_mul, zln_lt, zln_le, zln_eq, zln_int, e4, e3]
  · obtain ⟨c', k1, k2, k3⟩ := M_gath (n := n + 1) (s := s + 6) (c := mq_up c n (.inl (0, 6, .inl wf))) (I := I) (J := J) (A := A) (B := B) (R := R) (Q := Q) (e := n) (m := p.2) (v := 1) hT' hW hn (up_eq _ _ _) g1 hp1 (by omega) (by omega) (by omega) (by omega) (fun h => q h.2) d
    refine ⟨n + 1 + 4, s + 6 + 237, c', if gokT T p.1 1 p.2 = true then .ref (n + 1 + 1) else .null, fun b hb => by rw [k1 b (by omega), hfr b (by omega)], by omega, by omega, by omega, by omega, Or.inr ⟨q, ?_⟩, ?_⟩
    · unfold fuO
      by_cases q2 : gokT T p.1 1 p.2 = true
      · right
        rw [if_pos q2, if_pos q2]
        obtain ⟨y1, y2⟩ := k2 q2
        exact ⟨n + 1 + 1, gaT T p.1 1 p.2, rfl, rfl, Or.inr ⟨by omega, by omega, y1, y2⟩, by omega⟩
      · left
        rw [if_neg q2, if_neg q2]
        exact ⟨rfl, rfl⟩
    · rw [es]
      by_cases q2 : gokT T p.1 1 p.2 = true
      · rw [if_pos q2] at k3 ⊢
        simp (disch := first | omega | exact zb_1 | exact zb_0 | exact zb_n1 | exact zb_n0) only [x50_52, x50_53, x50_54, x50_56, x50_57, x50_58, x50_59, x50_62, mq_dl_int, mq_dl_ref, mq_dl_null, mq_dl_none, mc_some, Option.toList_some, Option.toList_none, List.cons_append, List.nil_append, zb_1, zb_0, ↓reduceIte, if_true, if_false, not_true_eq_false, not_false_eq_true, Bool.false_eq_true, z_10, z_01, eq_self, Bool.and_self, true_or, or_true, false_or, or_false, true_and, and_true, false_and, and_false, and_self, or_self, Nat.reduceLT, Nat.reduceEqDiff, Nat.reduceLeDiff, Nat.reduceAdd, Nat.reduceMul, Nat.reduceSub, zn_lit, zn_add, zn_mul, zn_sub, zn_addneg, zn_lt, zn_le, zn_eq, zn_clamp, zn_in, zn_long, zln_lit, zln_add, zln_mul, zln_lt, zln_le, zln_eq, zln_int, hmx, k3]
      · rw [if_neg q2] at k3 ⊢
        simp (disch := first | omega | exact zb_1 | exact zb_0 | exact zb_n1 | exact zb_n0) only [x50_52, x50_53, x50_54, x50_56, x50_57, x50_58, x50_59, x50_62N, mq_dl_int, mq_dl_ref, mq_dl_null, mq_dl_none, mc_some, Option.toList_some, Option.toList_none, List.cons_append, List.nil_append, zb_1, zb_0, ↓reduceIte, if_true, if_false, not_true_eq_false, not_false_eq_true, Bool.false_eq_true, z_10, z_01, eq_self, Bool.and_self, true_or, or_true, false_or, or_false, true_and, and_true, false_and, and_false, and_self, or_self, Nat.reduceLT, Nat.reduceEqDiff, Nat.reduceLeDiff, Nat.reduceAdd, Nat.reduceMul, Nat.reduceSub, zn_lit, zn_add, zn_mul, zn_sub, zn_addneg, zn_lt, zn_le, zn_eq, zn_clamp, zn_in, zn_long, zln_lit, zln_add, zln_mul, zln_lt, zln_le, zln_eq, zln_int, hmx, k3]
end FD
