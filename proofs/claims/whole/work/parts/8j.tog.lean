/-! TOGETHER and LEASTS: the class -/
theorem zn_oN (n : Nat) : Int32.ofNat n = zn n := rfl
section TG
variable {n s : Nat} {c : Nat → mq_E} {I : Nat → Int32} {J : Nat → Int64} {A : Nat → Nat → Int32} {B : Nat → Nat → Int64} {R : Nat → Value} {Q : Nat → Nat → Option Nat}
variable {a e l : Nat} {T : ZT} {wf : Nat → Int32} {w : Nat → Nat}
theorem M_tgj (hT : TB c a T) (hW : WT T) (he : 46 ≤ e) (hA : c e = .inl (0, 6, .inl wf)) (hw : ∀ i, i < T.1 → wf i = zn (w i)) (hw2 : ∀ i, i < T.1 → w i < 2147483648) (d X Y k i : Nat) (hX : X < 2147483648) (hY : Y < 2147483648) (hk : k < T.1) (hi : i < T.1) (hx : w i = X) : ∀ (r j x : Nat), j + r = T.1 → mz (d + 1) 54 27 [some (.ref a), some (.ref e), some (.int (zn X)), some (.int (zn Y)), some (.int (zn k)), some (.long (zln x)), none, some (.int (zn T.1)), some (.int (zn i)), some (.int (zn j))] [] (hp n s c I J A B R Q) = mz (d + 1) 54 72 [some (.ref a), some (.ref e), some (.int (zn X)), some (.int (zn Y)), some (.int (zn k)), some (.long (zln (x + zns (fun j => if w i = X ∧ w j = Y then T.2.1 i j k else 0) j r))), none, some (.int (zn T.1)), some (.int (zn i)), some (.int (zn T.1))] [] (hp n s c I J A B R Q) := by
  have h1 := hW.2.1
  intro r
  induction r with
  | zero =>
    intro j x hj
    have e : j = T.1 := by omega
    subst e
    simp (disch := first | omega | exact zb_1 | exact zb_0 | exact zb_n1 | exact zb_n0) only [x54_27, x54_28, x54_30, x54_31, x54_32, x54_35, x54_37, x54_39, mq_dl_int, mq_dl_ref, mq_dl_null, mq_dl_none, mc_some, Option.toList_some, Option.toList_none, List.cons_append, List.nil_append, zb_1, zb_0, ↓reduceIte, if_true, if_false, not_true_eq_false, not_false_eq_true, Bool.false_eq_true, z_10, z_01, eq_self, Bool.and_self, true_or, or_true, false_or, or_false, true_and, and_true, false_and, and_false, and_self, or_self, Nat.reduceLT, Nat.reduceEqDiff, Nat.reduceLeDiff, Nat.reduceAdd, Nat.reduceMul, Nat.reduceSub, zn_lit, zn_add, zn_mul, zn_sub, zn_addneg, zn_lt, zn_le, zn_eq, zn_clamp, zn_in, zn_long, hp_1, hp_21, hpoB, hpo0B, hpfsB, hpfB, haiB, hagB, hanB, halB, hlgB, hp_mkB, hp_wcB, eo_i, eo0_i, efs_i, eai_i, eag_i, ean_i, eal_i, elg_i, ean_l, up_eq, up_ne, up_up, up_m1, up_m2, up_m3, up_m4, up_m5, up_m6, up_m7, up_m8, up_m9, List.set_cons_zero, List.set_cons_succ, List.getD_cons_zero, List.getD_cons_succ, List.length_cons, List.length_nil, decide_true, Bool.true_and, Bool.and_true, Bool.true_or, upd_zu, updL_zu, zu_zu, zu_eq, hA, hw, hx, show i < 6 by omega, Nat.le_refl, zns, Nat.add_zero]
  | succ r ih =>
    intro j x hj
    have h2 := hw2 j (by omega)
    rw [x54_27]
    by_cases q : w j = Y
    · simp (disch := first | omega | exact zb_1 | exact zb_0 | exact zb_n1 | exact zb_n0) only [x54_28, x54_30, x54_31, x54_32, x54_35, x54_37, x54_39, x54_42, x54_43, x54_45, x54_46, x54_47, x54_50, x54_52, x54_53, x54_55, x54_57, x54_59, x54_62, x54_63, x54_64, x54_66, x54_69, mq_dl_int, mq_dl_ref, mq_dl_null, mq_dl_none, mc_some, Option.toList_some, Option.toList_none, List.cons_append, List.nil_append, zb_1, zb_0, ↓reduceIte, if_true, if_false, not_true_eq_false, not_false_eq_true, Bool.false_eq_true, z_10, z_01, eq_self, Bool.and_self, true_or, or_true, false_or, or_false, true_and, and_true, false_and, and_false, and_self, or_self, Nat.reduceLT, Nat.reduceEqDiff, Nat.reduceLeDiff, Nat.reduceAdd, Nat.reduceMul, Nat.reduceSub, zn_lit, zn_add, zn_mul, zn_sub, zn_addneg, zn_lt, zn_le, zn_eq, zn_clamp, zn_in, zn_long, zln_lit, zln_add, zln_mul, zln_lt, zln_le, zln_eq, zln_int, hp_1, hp_21, hpoB, hpo0B, hpfsB, hpfB, haiB, hagB, hanB, halB, hlgB, hp_mkB, hp_wcB, eo_i, eo0_i, efs_i, eai_i, eag_i, ean_i, eal_i, elg_i, ean_l, up_eq, up_ne, up_up, up_m1, up_m2, up_m3, up_m4, up_m5, up_m6, up_m7, up_m8, up_m9, List.set_cons_zero, List.set_cons_succ, List.getD_cons_zero, List.getD_cons_succ, List.length_cons, List.length_nil, decide_true, Bool.true_and, Bool.and_true, Bool.true_or, upd_zu, updL_zu, zu_zu, zu_eq, hA, hw, hx, q, show i < 6 by omega, show j < 6 by omega, show ¬ T.1 ≤ j by omega, tb_0 hT, T_share hT, zl_sh hW, zns]
      rw [ih (j + 1) _ (by omega), Nat.add_assoc]
      simp only [hx, true_and]
    · simp (disch := first | omega | exact zb_1 | exact zb_0 | exact zb_n1 | exact zb_n0) only [x54_28, x54_30, x54_31, x54_32, x54_35, x54_37, x54_39, x54_42, x54_43, x54_45, x54_46, x54_47, x54_66, x54_69, mq_dl_int, mq_dl_ref, mq_dl_null, mq_dl_none, mc_some, Option.toList_some, Option.toList_none, List.cons_append, List.nil_append, zb_1, zb_0, ↓reduceIte, if_true, if_false, not_true_eq_false, not_false_eq_true, Bool.false_eq_true, z_10, z_01, eq_self, Bool.and_self, true_or, or_true, false_or, or_false, true_and, and_true, false_and, and_false, and_self, or_self, Nat.reduceLT, Nat.reduceEqDiff, Nat.reduceLeDiff, Nat.reduceAdd, Nat.reduceMul, Nat.reduceSub, zn_lit, zn_add, zn_mul, zn_sub, zn_addneg, zn_lt, zn_le, zn_eq, zn_clamp, zn_in, zn_long, zln_lit, zln_add, zln_mul, zln_lt, zln_le, zln_eq, zln_int, hp_1, hp_21, hpoB, hpo0B, hpfsB, hpfB, haiB, hagB, hanB, halB, hlgB, hp_mkB, hp_wcB, eo_i, eo0_i, efs_i, eai_i, eag_i, ean_i, eal_i, elg_i, ean_l, up_eq, up_ne, up_up, up_m1, up_m2, up_m3, up_m4, up_m5, up_m6, up_m7, up_m8, up_m9, List.set_cons_zero, List.set_cons_succ, List.getD_cons_zero, List.getD_cons_succ, List.length_cons, List.length_nil, decide_true, Bool.true_and, Bool.and_true, Bool.true_or, upd_zu, updL_zu, zu_zu, zu_eq, hA, hw, hx, q, show i < 6 by omega, show j < 6 by omega, show ¬ T.1 ≤ j by omega, zns, Nat.zero_add]
      rw [ih (j + 1) _ (by omega)]
      simp only [hx, true_and]
theorem M_tgi (hT : TB c a T) (hW : WT T) (he : 46 ≤ e) (hA : c e = .inl (0, 6, .inl wf)) (hw : ∀ i, i < T.1 → wf i = zn (w i)) (hw2 : ∀ i, i < T.1 → w i < 2147483648) (d X Y k : Nat) (hX : X < 2147483648) (hY : Y < 2147483648) (hk : k < T.1) : ∀ (r i x : Nat) (o : Option Value), i + r = T.1 → mz (d + 1) 54 17 [some (.ref a), some (.ref e), some (.int (zn X)), some (.int (zn Y)), some (.int (zn k)), some (.long (zln x)), none, some (.int (zn T.1)), some (.int (zn i)), o] [] (hp n s c I J A B R Q) = some (some (some (.long (zln (x + zns (fun i => zns (fun j => if w i = X ∧ w j = Y then T.2.1 i j k else 0) 0 T.1) i r)))), (hp n s c I J A B R Q)) := by
  have h1 := hW.2.1
  intro r
  induction r with
  | zero =>
    intro i x o hi
    have e : i = T.1 := by omega
    subst e
    simp (disch := first | omega | exact zb_1 | exact zb_0 | exact zb_n1 | exact zb_n0) only [x54_17, x54_19, x54_21, x54_78, x54_80, mq_dl_int, mq_dl_ref, mq_dl_null, mq_dl_none, mc_some, Option.toList_some, Option.toList_none, List.cons_append, List.nil_append, zb_1, zb_0, ↓reduceIte, if_true, if_false, not_true_eq_false, not_false_eq_true, Bool.false_eq_true, z_10, z_01, eq_self, Bool.and_self, true_or, or_true, false_or, or_false, true_and, and_true, false_and, and_false, and_self, or_self, Nat.reduceLT, Nat.reduceEqDiff, Nat.reduceLeDiff, Nat.reduceAdd, Nat.reduceMul, Nat.reduceSub, zn_lit, zn_add, zn_mul, zn_sub, zn_addneg, zn_lt, zn_le, zn_eq, zn_clamp, zn_in, zn_long, Nat.le_refl, zns, Nat.add_zero]
  | succ r ih =>
    intro i x o hi
    have h2 := hw2 i (by omega)
    rw [x54_17]
    by_cases q : w i = X
    · simp (disch := first | omega | exact zb_1 | exact zb_0 | exact zb_n1 | exact zb_n0) only [x54_19, x54_21, x54_24, x54_25, mq_dl_int, mq_dl_ref, mq_dl_null, mq_dl_none, mc_some, Option.toList_some, Option.toList_none, List.cons_append, List.nil_append, zb_1, zb_0, ↓reduceIte, if_true, if_false, not_true_eq_false, not_false_eq_true, Bool.false_eq_true, z_10, z_01, eq_self, Bool.and_self, true_or, or_true, false_or, or_false, true_and, and_true, false_and, and_false, and_self, or_self, Nat.reduceLT, Nat.reduceEqDiff, Nat.reduceLeDiff, Nat.reduceAdd, Nat.reduceMul, Nat.reduceSub, zn_lit, zn_add, zn_mul, zn_sub, zn_addneg, zn_lt, zn_le, zn_eq, zn_clamp, zn_in, zn_long, show ¬ T.1 ≤ i by omega]
      rw [M_tgj hT hW he hA hw hw2 d X Y k i hX hY hk (by omega) q T.1 0 x (by omega)]
      simp (disch := first | omega | exact zb_1 | exact zb_0 | exact zb_n1 | exact zb_n0) only [x54_72, x54_75, mq_dl_int, mq_dl_ref, mq_dl_null, mq_dl_none, mc_some, Option.toList_some, Option.toList_none, List.cons_append, List.nil_append, zb_1, zb_0, ↓reduceIte, if_true, if_false, not_true_eq_false, not_false_eq_true, Bool.false_eq_true, z_10, z_01, eq_self, Bool.and_self, true_or, or_true, false_or, or_false, true_and, and_true, false_and, and_false, and_self, or_self, Nat.reduceLT, Nat.reduceEqDiff, Nat.reduceLeDiff, Nat.reduceAdd, Nat.reduceMul, Nat.reduceSub, zn_lit, zn_add, zn_mul, zn_sub, zn_addneg, zn_lt, zn_le, zn_eq, zn_clamp, zn_in, zn_long]
      rw [ih (i + 1) _ _ (by omega), Nat.add_assoc]
      rfl
    · simp (disch := first | omega | exact zb_1 | exact zb_0 | exact zb_n1 | exact zb_n0) only [x54_19, x54_21, x54_24, x54_25, x54_27, x54_28, x54_30, x54_31, x54_32, x54_72, x54_75, mq_dl_int, mq_dl_ref, mq_dl_null, mq_dl_none, mc_some, Option.toList_some, Option.toList_none, List.cons_append, List.nil_append, zb_1, zb_0, ↓reduceIte, if_true, if_false, not_true_eq_false, not_false_eq_true, Bool.false_eq_true, z_10, z_01, eq_self, Bool.and_self, true_or, or_true, false_or, or_false, true_and, and_true, false_and, and_false, and_self, or_self, Nat.reduceLT, Nat.reduceEqDiff, Nat.reduceLeDiff, Nat.reduceAdd, Nat.reduceMul, Nat.reduceSub, zn_lit, zn_add, zn_mul, zn_sub, zn_addneg, zn_lt, zn_le, zn_eq, zn_clamp, zn_in, zn_long, hp_1, hp_21, hpoB, hpo0B, hpfsB, hpfB, haiB, hagB, hanB, halB, hlgB, hp_mkB, hp_wcB, eo_i, eo0_i, efs_i, eai_i, eag_i, ean_i, eal_i, elg_i, ean_l, up_eq, up_ne, up_up, up_m1, up_m2, up_m3, up_m4, up_m5, up_m6, up_m7, up_m8, up_m9, List.set_cons_zero, List.set_cons_succ, List.getD_cons_zero, List.getD_cons_succ, List.length_cons, List.length_nil, decide_true, Bool.true_and, Bool.and_true, Bool.true_or, upd_zu, updL_zu, zu_zu, zu_eq, hA, hw, q, show i < 6 by omega, show ¬ T.1 ≤ i by omega]
      rw [ih (i + 1) _ _ (by omega), show zns (fun i => zns (fun j => if w i = X ∧ w j = Y then T.2.1 i j k else 0) 0 T.1) i (r + 1) = zns (fun j => if w i = X ∧ w j = Y then T.2.1 i j k else 0) 0 T.1 + zns (fun i => zns (fun j => if w i = X ∧ w j = Y then T.2.1 i j k else 0) 0 T.1) (i + 1) r from rfl, zns_z T.1 0 (f := fun j => if w i = X ∧ w j = Y then T.2.1 i j k else 0) (fun j _ _ => if_neg (fun h => q h.1)), Nat.zero_add]
theorem hakB (a : Nat) (ha : 46 ≤ a) {k L : Nat} {g : (Nat → Int32)} (hA : c a = .inl (k, L, .inl g)) (hk : k < 7) : mak (hp n s c I J A B R Q) a = true := by
  unfold mak
  rw [hp_c _ _ _ _ _ _ _ _ _ a (hs_big _ ha), hA]
  simp [hk]
theorem M_tg (hT : TB c a T) (hW : WT T) (he : 46 ≤ e) (hA : c e = .inl (0, 6, .inl wf)) (hw : ∀ i, i < T.1 → wf i = zn (w i)) (hw2 : ∀ i, i < T.1 → w i < 2147483648) (d X Y k : Nat) (hX : X < 2147483648) (hY : Y < 2147483648) (hk : k < T.1) : mz (d + 1) 54 0 [some (.ref a), some (.ref e), some (.int (zn X)), some (.int (zn Y)), some (.int (zn k)), none, none, none, none, none] [] (hp n s c I J A B R Q) = some (some (some (.long (zln (tgT T w X Y k)))), (hp n s c I J A B R Q)) := by
  have h1 := hW.2.1
  have e1 : min T.1 6 = T.1 := by omega
  have e2 := hakB (n := n) (s := s) (c := c) (I := I) (J := J) (A := A) (B := B) (R := R) (Q := Q) e he hA (by omega)
  simp (disch := first | omega | exact zb_1 | exact zb_0 | exact zb_n1 | exact zb_n0) only [x54_0, x54_1, x54_3, x54_4, x54_7, x54_8, x54_9, x54_12, x54_14, x54_15, mq_dl_int, mq_dl_ref, mq_dl_null, mq_dl_none, mc_some, Option.toList_some, Option.toList_none, List.cons_append, List.nil_append, zb_1, zb_0, ↓reduceIte, if_true, if_false, not_true_eq_false, not_false_eq_true, Bool.false_eq_true, z_10, z_01, eq_self, Bool.and_self, true_or, or_true, false_or, or_false, true_and, and_true, false_and, and_false, and_self, or_self, Nat.reduceLT, Nat.reduceEqDiff, Nat.reduceLeDiff, Nat.reduceAdd, Nat.reduceMul, Nat.reduceSub, zn_lit, zn_add, zn_mul, zn_sub, zn_addneg, zn_lt, zn_le, zn_eq, zn_clamp, zn_in, zn_long, zln_lit, zln_add, zln_mul, zln_lt, zln_le, zln_eq, zln_int, hp_1, hp_21, hpoB, hpo0B, hpfsB, hpfB, haiB, hagB, hanB, halB, hlgB, hp_mkB, hp_wcB, eo_i, eo0_i, efs_i, eai_i, eag_i, ean_i, eal_i, elg_i, ean_l, up_eq, up_ne, up_up, up_m1, up_m2, up_m3, up_m4, up_m5, up_m6, up_m7, up_m8, up_m9, List.set_cons_zero, List.set_cons_succ, List.getD_cons_zero, List.getD_cons_succ, List.length_cons, List.length_nil, decide_true, Bool.true_and, Bool.and_true, Bool.true_or, upd_zu, updL_zu, zu_zu, zu_eq, tb_0 hT, T_things hT, e2, hA, zn_oN, M_min, e1]
  rw [M_tgi hT hW he hA hw hw2 d X Y k hX hY hk T.1 0 0 none (by omega), Nat.zero_add]
  rfl
def lsF (w : Nat → Nat) (q k r : Nat) : Nat := (zfst (fun i => if w i = q then some i else none) k r).getD 0
theorem lsF_eq {w : Nat → Nat} {q k r : Nat} (h : w k = q) : lsF w q k (r + 1) = k := by
  unfold lsF
  simp only [zfst, h, if_true]
  rfl
theorem lsF_ne {w : Nat → Nat} {q k r : Nat} (h : w k ≠ q) : lsF w q k (r + 1) = lsF w q (k + 1) r := by
  unfold lsF
  simp only [zfst, h, if_false]
theorem M_lsl (he : 46 ≤ e) (hl : 46 ≤ l) (hel : e ≠ l) (m : Nat) (hm : m ≤ 6) (hA : c e = .inl (0, 6, .inl wf)) (hw : ∀ i, i < m → wf i = zn (w i)) (hw2 : ∀ i, i < m → w i < 6) (d : Nat) : ∀ (k r : Nat) (L : Nat → Int32) (o : Option Value), k + r = m → (∀ i, k ≤ i → i < m → L (w i) = zn (lsF w (w i) k r)) → ∃ L', (∀ i, i < m → L' (w i) = zn (lsT m w (w i))) ∧ mz d 53 4 [some (.ref e), some (.int (zn m)), some (.ref l), some (.int (zn k + -zn 1)), o] [] (hp n s (mq_up c l (.inl (0, 6, .inl L))) I J A B R Q) = some (some none, hp n s (mq_up c l (.inl (0, 6, .inl L'))) I J A B R Q) := by
  intro k
  induction k with
  | zero =>
    intro r L o hk hL
    have e : r = m := by omega
    subst e
    refine ⟨L, fun i hi => hL i (by omega) hi, ?_⟩
    simp (disch := first | omega | exact zb_1 | exact zb_0 | exact zb_n1 | exact zb_n0) only [x53_4, x53_5, x53_46, mq_dl_int, mq_dl_ref, mq_dl_null, mq_dl_none, mc_some, Option.toList_some, Option.toList_none, List.cons_append, List.nil_append, zb_1, zb_0, ↓reduceIte, if_true, if_false, not_true_eq_false, not_false_eq_true, Bool.false_eq_true, z_10, z_01, eq_self, Bool.and_self, true_or, or_true, false_or, or_false, true_and, and_true, false_and, and_false, and_self, or_self, show zn 0 + -zn 1 < 0 by decide]
  | succ k ih =>
    intro r L o hk hL
    have h2 := hw2 k (by omega)
    obtain ⟨L', g1, g2⟩ := ih (r + 1) (zu L (w k) (zn k)) (some (.int (zn (w k)))) (by omega) (by
      intro i h3 h4
      by_cases q : w i = w k
      · rw [q, zu_eq, lsF_eq rfl]
      · rw [zu_ne _ _ _ _ q, lsF_ne (Ne.symm q)]
        by_cases q2 : i = k
        · subst q2; exact absurd rfl q
        · exact hL i (by omega) h4)
    refine ⟨L', g1, ?_⟩
    rw [← g2]
    have e3 := hakB (n := n) (s := s) (I := I) (J := J) (A := A) (B := B) (R := R) (Q := Q) (c := mq_up c l (.inl (0, 6, .inl L))) e he (by rw [up_ne _ _ _ _ hel]; exact hA) (by omega)
    have e4 := hakB (n := n) (s := s) (I := I) (J := J) (A := A) (B := B) (R := R) (Q := Q) (c := mq_up c l (.inl (0, 6, .inl L))) l hl (up_eq _ _ _) (by omega)
    have e5 : zn (k + 1) + -zn 1 = zn k := by rw [zn_addneg _ _ (by omega)]; rfl
    rw [e5, x53_4]
    simp (disch := first | omega | exact zb_1 | exact zb_0 | exact zb_n1 | exact zb_n0) only [x53_5, x53_8, x53_9, x53_10, x53_11, x53_14, x53_15, x53_16, x53_17, x53_21, x53_23, x53_25, x53_28, x53_30, x53_31, x53_32, x53_35, x53_36, x53_38, x53_39, x53_40, x53_43, mq_dl_int, mq_dl_ref, mq_dl_null, mq_dl_none, mc_some, Option.toList_some, Option.toList_none, List.cons_append, List.nil_append, zb_1, zb_0, ↓reduceIte, if_true, if_false, not_true_eq_false, not_false_eq_true, Bool.false_eq_true, z_10, z_01, eq_self, Bool.and_self, true_or, or_true, false_or, or_false, true_and, and_true, false_and, and_false, and_self, or_self, Nat.reduceLT, Nat.reduceEqDiff, Nat.reduceLeDiff, Nat.reduceAdd, Nat.reduceMul, Nat.reduceSub, zn_lit, zn_add, zn_mul, zn_sub, zn_addneg, zn_lt, zn_le, zn_eq, zn_clamp, zn_in, zn_long, hp_1, hp_21, hpoB, hpo0B, hpfsB, hpfB, haiB, hagB, hanB, halB, hlgB, hp_mkB, hp_wcB, eo_i, eo0_i, efs_i, eai_i, eag_i, ean_i, eal_i, elg_i, ean_l, up_eq, up_ne, up_up, up_m1, up_m2, up_m3, up_m4, up_m5, up_m6, up_m7, up_m8, up_m9, List.set_cons_zero, List.set_cons_succ, List.getD_cons_zero, List.getD_cons_succ, List.length_cons, List.length_nil, decide_true, Bool.true_and, Bool.and_true, Bool.true_or, upd_zu, updL_zu, zu_zu, zu_eq, hA, hw, e3, e4, zn_oN, Nat.not_lt_zero, show ¬ 6 ≤ k by omega, show k < 6 by omega, show w k < 6 by omega, show ¬ 6 ≤ w k by omega]
theorem M_ls (he : 46 ≤ e) (hl : 46 ≤ l) (hel : e ≠ l) (m : Nat) (hm1 : 1 ≤ m) (hm : m ≤ 6) (hA : c e = .inl (0, 6, .inl wf)) (L : Nat → Int32) (hL : c l = .inl (0, 6, .inl L)) (hw : ∀ i, i < m → wf i = zn (w i)) (hw2 : ∀ i, i < m → w i < 6) (d : Nat) : ∃ L', (∀ i, i < m → L' (w i) = zn (lsT m w (w i))) ∧ mz d 53 0 [some (.ref e), some (.int (zn m)), some (.ref l), none, none] [] (hp n s c I J A B R Q) = some (some none, hp n s (mq_up c l (.inl (0, 6, .inl L'))) I J A B R Q) := by
  obtain ⟨L', g1, g2⟩ := M_lsl (n := n) (s := s) (c := c) (I := I) (J := J) (A := A) (B := B) (R := R) (Q := Q) he hl hel m hm hA hw hw2 d m 0 L none (by omega) (fun i h1 h2 => by omega)
  refine ⟨L', g1, ?_⟩
  rw [← g2, up_self c l _ hL]
  simp only [x53_0, x53_1, x53_2, x53_3, mq_dl_int, mq_dl_ref, mq_dl_null, mq_dl_none, mc_some, Option.toList_some, Option.toList_none, List.cons_append, List.nil_append, zb_1, zb_0, ↓reduceIte, if_true, if_false, not_true_eq_false, not_false_eq_true, Bool.false_eq_true, z_10, z_01, eq_self, Bool.and_self, true_or, or_true, false_or, or_false, true_and, and_true, false_and, and_false, and_self, or_self, zn_lit, Int32.sub_eq_add_neg]
end TG
