/-! SCHEME: the class -/
section SQ
variable {L : Nat} {tp : Nat → Nat} {N : Nat} {f g : Nat → Int32} {v : Nat → Int64}
theorem sc_N (hR : RTK L tp N f g v) (h : (sc3 L tp).2 = 0) : 3 ≤ N := by
  obtain ⟨a1, a2, a3, a4, a5, a6, a7⟩ := sc3_fine h
  have b6 := wdq_1 a6
  have b7 := wdq_1 a7
  have c1 := RTK_lt hR (k := 0) (by omega) (by omega)
  have c2 := RTK_lt hR (k := 1) (by omega) (by omega)
  have c3 := RTK_lt hR (k := 2) (by omega) (by omega)
  exact c3
theorem sc_EN (hR : RTK L tp N f g v) (h : (sc3 L tp).2 = 0) (st nm : Nat → Int32) : EN N (sc3 L tp, 0, st, nm) := by
  have h3 := sc_N hR h
  obtain ⟨a1, a2, -⟩ := sc3_fine h
  rw [a2]
  exact ⟨by show 0 < 20000; omega, h3, by show 0 ≤ 3; omega⟩
theorem sc_PG (hL : L ≤ 1000) (hR : RTK L tp N f g v) (h : (sc3 L tp).2 = 0) (st nm : Nat → Int32) : EN N (scE L tp st nm) ∧ (scE L tp st nm).2.1 + 3 ≤ (scE L tp st nm).1.1 := by
  have h1 := PG_exG hR (PG_ptF hL hR 5) _ (sc_EN hR h st nm)
  obtain ⟨a1, a2, -⟩ := sc3_fine h
  refine ⟨h1.1, ?_⟩
  have h2 := h1.2.2
  have h3 : (sc3 L tp, 0, st, nm).1.1 = 3 := by show (sc3 L tp).1 = 3; rw [a2]
  have h4 : (sc3 L tp, 0, st, nm).2.1 = 0 := rfl
  rw [h3, h4, Nat.zero_add] at h2
  exact h2
theorem sc_code (hL : L ≤ 1000) (hR : RTK L tp N f g v) {st nm : Nat → Int32} (h : (scE L tp st nm).1.2 = 0) : ∃ l, CL (scE L tp st nm) l ∧ hg l 0 = some 1 ∧ l.length < 1000 := by
  have h3 : (sc3 L tp).2 = 0 := exG_S (e := (sc3 L tp, 0, st, nm)) h
  have hp := sc_PG hL hR h3 st nm
  have h1 := HG_exG hR (PG_ptF hL hR 5) (HG_ptF hL hR 5) (sc3 L tp, 0, st, nm) [] (sc_EN hR h3 st nm) ⟨rfl, fun i hi => by cases hi⟩ h
  obtain ⟨-, m, h2, h4⟩ := h1
  have h5 : CL (scE L tp st nm) m := by rw [List.nil_append] at h2; exact h2
  refine ⟨m, h5, h4 0 (by omega), ?_⟩
  have a1 := h5.1
  have a2 := hp.1.2.1
  have a3 := hR.2.1
  have a4 := hp.2
  omega
end SQ
section SV
variable {n s : Nat} {c : Nat → mq_E} {I : Nat → Int32} {J : Nat → Int64} {A : Nat → Nat → Int32} {B : Nat → Nat → Int64} {R : Nat → Value} {Q : Nat → Nat → Option Nat}
variable {L : Nat} {tp : Nat → Nat} {a : Nat}
theorem C_schemeF (h : TKp L tp I A) (hS : STR c) (d : Nat) (hf : ¬ (scX L tp (A 7) (A 8)).2 = 0) : ∃ I' A', RDI I I' ∧ (∀ q, q ≠ 7 → q ≠ 8 → A' q = A q) ∧ mz (d + 37) 145 0 [some (.ref 0), none, none, none, none, none] [] (hp n s c I J A B R Q) = some (some (some (.int (zn (scX L tp (A 7) (A 8)).2))), hp n s c I' J A' B R Q) := by
  have e1 := C_sread (n := n) (s := s) (J := J) (B := B) (R := R) (Q := Q) h hS d
  have hI := h.2.1
  rw [decide_eq_false hf, zo_f] at e1
  unfold hE at e1
  generalize scX L tp (A 7) (A 8) = X at *
  generalize scE L tp (A 7) (A 8) = E at *
  unfold stx at e1
  dsimp only at e1
  refine ⟨zu (tI L tp (zu (zu I 253 (seev L tp (sc1 L tp))) 303 (zn E.2.1)) X) 51 (zn 0), zu (zu A 7 E.2.2.1) 8 E.2.2.2, ⟨zu_eq _ _ _, fun k h1 h2 h3 h4 h5 h6 => by rw [zu_ne _ _ _ _ (by omega), tI_ne _ (by omega), zu_ne _ _ _ _ h5, zu_ne _ _ _ _ h4]⟩, fun q h1 h2 => by rw [zu_ne _ _ _ _ h2, zu_ne _ _ _ _ h1], ?_⟩
  simp (disch := first | omega | exact zb_1 | exact zb_0 | exact zb_n1 | exact zb_n0) only [x145_0, x145_1, x145_4, x145_7, x145_8, x145_9, x145_12, x145_15, x145_16, x145_17, x145_20, x145_23, x145_24, x145_25, x145_28, x145_31, x145_32, x145_35, x145_36, x125_0, x125_0N, x125_1, x125_4, x126_0, x126_0N, x126_1, x126_2, x126_5, x127_0, x127_0N, x127_1, x127_4, mq_dl_int, mq_dl_ref, mq_dl_null, mq_dl_none, mc_some, Option.toList_some, Option.toList_none, List.cons_append, List.nil_append, zb_1, zb_0, ↓reduceIte, if_true, if_false, not_true_eq_false, not_false_eq_true, Bool.false_eq_true, z_10, z_01, eq_self, Bool.and_self, true_or, or_true, false_or, or_false, true_and, and_true, false_and, and_false, and_self, or_self, Nat.reduceLT, Nat.reduceEqDiff, Nat.reduceLeDiff, Nat.reduceAdd, Nat.reduceMul, Nat.reduceSub, zn_lit, zn_add, zn_mul, zn_sub, zn_addneg, zn_lt, zn_le, zn_eq, zn_clamp, zn_in, zn_long, hp_1, hp_21, upd_zu, updL_zu, updQ_zu, zu_eq, zu_ne, ho_0, ho_0_0, hf_0_0, ho_0_1, hf_0_1, ho_0_2, hf_0_2, ho_0_3, hf_0_3, ho_0_4, hf_0_4, ho_0_5, hf_0_5, ho_0_6, hf_0_6, ho_0_7, hf_0_7, hk_0_7, hw_0_7, ho_1, ho_1_0, hf_1_0, ho_1_1, hf_1_1, hk_1_1, hw_1_1, ho_1_2, hf_1_2, hk_1_2, hw_1_2, ho_1_3, hf_1_3, hk_1_3, hw_1_3, ho_1_4, hf_1_4, hk_1_4, hw_1_4, ho_1_5, hf_1_5, hk_1_5, hw_1_5, hn_2, hi_2, hg_2, hu_2, ho_3, ho_3_0, hf_3_0, ho_3_1, hf_3_1, ho_3_2, hf_3_2, hk_3_2, hw_3_2, ho_3_3, hf_3_3, hk_3_3, hw_3_3, hn_4, hi_4, hj_4, hg_4, hu_4, ho_5, ho_5_0, hf_5_0, ho_5_1, hf_5_1, ho_5_2, hf_5_2, ho_5_3, hf_5_3, hk_5_3, hw_5_3, ho_6, ho_6_0, hf_6_0, ho_6_1, hf_6_1, ho_6_2, hf_6_2, ho_6_3, hf_6_3, hk_6_3, hw_6_3, hn_7, hi_7, hj_7, hg_7, hu_7, hn_8, hi_8, hj_8, hg_8, hu_8, hn_9, hi_9, hj_9, hg_9, hu_9, ho_10, ho_10_0, hf_10_0, ho_10_1, hf_10_1, ho_10_2, hf_10_2, ho_10_3, hf_10_3, hk_10_3, hw_10_3, ho_10_4, hf_10_4, hk_10_4, hkN_10_4, hw_10_4, hn_11, hi_11, hj_11, hg_11, hu_11, hn_12, hi_12, hj_12, hg_12, hu_12, hn_13, hi_13, hj_13, hg_13, hu_13, hn_14, hi_14, hg_14, hu_14, hn_15, hi_15, hg_15, hu_15, ho_16, ho_16_0, hf_16_0, ho_16_1, hf_16_1, ho_16_2, hf_16_2, hk_16_2, hw_16_2, ho_16_3, hf_16_3, hk_16_3, hw_16_3, ho_16_4, hf_16_4, hk_16_4, hkN_16_4, hw_16_4, hn_17, hi_17, hg_17, hu_17, hn_18, hi_18, hg_18, hu_18, hn_22, hi_22, hg_22, hu_22, e1, tI_55]
theorem C_schemeT (h : TKp L tp I A) (hS : STR c) (hn : 46 ≤ n) (hn2 : n + 2 < 1000000000) (u : Nat) (hP : u ≤ 12) (hI : I 802 = zn u) (hR : R 804 = .ref a) (ha : isT c a) (han : a < n) (hq : ∀ i, i < u → ∃ e, Q 17 i = some e ∧ isT c e ∧ e < n) (d : Nat) (hf : (scX L tp (A 7) (A 8)).2 = 0) (l : List (Nat × Nat)) (hl : CL (scE L tp (A 7) (A 8)) l) (hh : hg l 0 = some 1) (hln : l.length < 1000) (p : Nat) (hp0 : p = scp L tp) (V : Nat → Nat → Int32) (k : Nat → Nat → Nat) (hV : ∀ x y, V x y = fval l x y p) (hk : ∀ x y, k x y = (V x y).toNatClampNeg) : ∃ w n' s' c' I' A' R', WHY p V k w ∧ n ≤ n' ∧ n' ≤ n + 3 ∧ s ≤ s' ∧ s' ≤ s + 231 ∧ (∀ b, b < n ∨ n' ≤ b → c' b = c b) ∧ RDI I I' ∧ (∀ q, q ≠ 7 → q ≠ 8 → q ≠ 9 → q ≠ 11 → q ≠ 12 → q ≠ 13 → A' q = A q) ∧ (∀ q, q ≠ 504 → R' q = R q) ∧ ((¬ w = 0 ∧ mz (d + 37) 145 0 [some (.ref 0), none, none, none, none, none] [] (hp n s c I J A B R Q) = some (some (some (.int (zn (6 + 16 * L)))), hp n' s' c' (zu I' 7 (zn w)) J A' B R' Q)) ∨ (w = 0 ∧ ∃ m T, m < 6 ∧ full p k m ∧ SCT p k (m + 1) T ∧ WT T ∧ TB c' n T ∧ c' n = tbo T.1 n (-1) 0 0 0 .null .null ∧ n + 2 < n' ∧ mz (d + 37) 145 0 [some (.ref 0), none, none, none, none, none] [] (hp n s c I J A B R Q) = some (some (some (.int (zn 0))), hp n' s' c' (dI (zu I' 7 (zn 0)) u) J A' B (zu R' 804 (.ref n)) (dQ Q u a)))) := by
  have e1 := C_sread (n := n) (s := s) (J := J) (B := B) (R := R) (Q := Q) h hS d
  have hL := h.1
  have hI51 := h.2.1
  obtain ⟨hE1, h3⟩ := scX_fine hf
  obtain ⟨a1, a2, a3, a4, a5, a6, a7⟩ := sc3_fine h3
  have hv : seev L tp (sc1 L tp) = zn p := by
    rw [seev_2 (by rw [a1]; exact a5), hp0]; rfl
  rw [← hp0] at a3 a4
  rw [hv, decide_eq_true hf, zo_t] at e1
  unfold hE at e1
  generalize scX L tp (A 7) (A 8) = X at *
  generalize scE L tp (A 7) (A 8) = E at *
  unfold stx at e1
  dsimp only at e1
  obtain ⟨I1, hI1⟩ : ∃ I1, I1 = zu (tI L tp (zu (zu I 253 (zn p)) 303 (zn E.2.1)) X) 51 (zn 0) := ⟨_, rfl⟩
  have i1 : RDI I I1 := ⟨by rw [hI1]; exact zu_eq _ _ _, fun k h1 h2 h3 h4 h5 h6 => by rw [hI1, zu_ne _ _ _ _ (by omega), tI_ne _ (by omega), zu_ne _ _ _ _ h5, zu_ne _ _ _ _ h4]⟩
  have i2 : I1 253 = zn p := by rw [hI1, zu_ne _ _ _ _ (by omega), tI_ne _ (by omega), zu_ne _ _ _ _ (by omega), zu_eq]
  have i3 : I1 303 = zn l.length := by rw [hI1, zu_ne _ _ _ _ (by omega), tI_ne _ (by omega), zu_eq, hl.1]
  obtain ⟨A1, g1, g2, e2⟩ := C_coloured (n := n) (s := s) (c := c) (I := I1) (J := J) (A := zu (zu A 7 E.2.2.1) 8 E.2.2.2) (B := B) (R := R) (Q := Q) (d + 33) p a3 a4 i2 l i3 (by omega) hh (fun j hj => by
    rw [zu_eq, zu_ne _ _ _ _ (by omega), zu_eq]
    exact hl.2 j hj)
  obtain ⟨w, n', s', c', A', R', k1, k2, k3, k4, k5, k6, k7, k8, k9, k10, e3⟩ := C_find (n := n) (s := s) (c := c) (I := zu I1 503 (zn p)) (J := J) (A := A1) (B := B) (R := zu R 504 .null) (Q := Q) (V := V) (k := k) (fun x y hx hy => by rw [g2 x y hx hy, hV]) hk a3 a4 (zu_eq _ _ _) hn (d + 32)
  have hw5 := WHY_le k1
  have hRR : ∀ q, q ≠ 504 → R' q = R q := fun q hq => by rw [k8 q hq, zu_ne _ _ _ _ hq]
  have i4 : RDI I (zu I1 503 (zn p)) := ⟨by rw [zu_ne _ _ _ _ (by omega)]; exact i1.1, fun k h1 h2 h3 h4 h5 h6 => by rw [zu_ne _ _ _ _ h6]; exact i1.2 k h1 h2 h3 h4 h5 h6⟩
  have hAA : ∀ q, q ≠ 7 → q ≠ 8 → q ≠ 9 → q ≠ 11 → q ≠ 12 → q ≠ 13 → A' q = A q := fun q h1 h2 h3 h4 h5 h6 => by rw [k7 q h5 h6, g1 q h3 h4, zu_ne _ _ _ _ h2, zu_ne _ _ _ _ h1]
  have es : mz (d + 37) 145 0 [some (.ref 0), none, none, none, none, none] [] (hp n s c I J A B R Q) = mz (d + 37) 145 55 [some (.ref 0), some (.int (zn 1)), some (.int (zn X.2)), some (.int (zn L)), some (.ref 10), none] [] (hp n' s' c' (zu (zu I1 503 (zn p)) 7 (zn w)) J A' B R' Q) := by
    simp (disch := first | omega | exact zb_1 | exact zb_0 | exact zb_n1 | exact zb_n0) only [x145_0, x145_1, x145_4, x145_7, x145_8, x145_9, x145_12, x145_15, x145_16, x145_17, x145_20, x145_23, x145_24, x145_25, x145_28, x145_31, x145_32, x145_37, x145_38, x145_41, x145_44, x145_46, x145_47, x145_49, x145_52, x125_0, x125_0N, x125_1, x125_4, x126_0, x126_0N, x126_1, x126_2, x126_5, x127_0, x127_0N, x127_1, x127_4, mq_dl_int, mq_dl_ref, mq_dl_null, mq_dl_none, mc_some, Option.toList_some, Option.toList_none, List.cons_append, List.nil_append, zb_1, zb_0, ↓reduceIte, if_true, if_false, not_true_eq_false, not_false_eq_true, Bool.false_eq_true, z_10, z_01, eq_self, Bool.and_self, true_or, or_true, false_or, or_false, true_and, and_true, false_and, and_false, and_self, or_self, Nat.reduceLT, Nat.reduceEqDiff, Nat.reduceLeDiff, Nat.reduceAdd, Nat.reduceMul, Nat.reduceSub, zn_lit, zn_add, zn_mul, zn_sub, zn_addneg, zn_lt, zn_le, zn_eq, zn_clamp, zn_in, zn_long, hp_1, hp_21, upd_zu, updL_zu, updQ_zu, zu_eq, zu_ne, ho_0, ho_0_0, hf_0_0, ho_0_1, hf_0_1, ho_0_2, hf_0_2, ho_0_3, hf_0_3, ho_0_4, hf_0_4, ho_0_5, hf_0_5, ho_0_6, hf_0_6, ho_0_7, hf_0_7, hk_0_7, hw_0_7, ho_1, ho_1_0, hf_1_0, ho_1_1, hf_1_1, hk_1_1, hw_1_1, ho_1_2, hf_1_2, hk_1_2, hw_1_2, ho_1_3, hf_1_3, hk_1_3, hw_1_3, ho_1_4, hf_1_4, hk_1_4, hw_1_4, ho_1_5, hf_1_5, hk_1_5, hw_1_5, hn_2, hi_2, hg_2, hu_2, ho_3, ho_3_0, hf_3_0, ho_3_1, hf_3_1, ho_3_2, hf_3_2, hk_3_2, hw_3_2, ho_3_3, hf_3_3, hk_3_3, hw_3_3, hn_4, hi_4, hj_4, hg_4, hu_4, ho_5, ho_5_0, hf_5_0, ho_5_1, hf_5_1, ho_5_2, hf_5_2, ho_5_3, hf_5_3, hk_5_3, hw_5_3, ho_6, ho_6_0, hf_6_0, ho_6_1, hf_6_1, ho_6_2, hf_6_2, ho_6_3, hf_6_3, hk_6_3, hw_6_3, hn_7, hi_7, hj_7, hg_7, hu_7, hn_8, hi_8, hj_8, hg_8, hu_8, hn_9, hi_9, hj_9, hg_9, hu_9, ho_10, ho_10_0, hf_10_0, ho_10_1, hf_10_1, ho_10_2, hf_10_2, ho_10_3, hf_10_3, hk_10_3, hw_10_3, ho_10_4, hf_10_4, hk_10_4, hkN_10_4, hw_10_4, hn_11, hi_11, hj_11, hg_11, hu_11, hn_12, hi_12, hj_12, hg_12, hu_12, hn_13, hi_13, hj_13, hg_13, hu_13, hn_14, hi_14, hg_14, hu_14, hn_15, hi_15, hg_15, hu_15, ho_16, ho_16_0, hf_16_0, ho_16_1, hf_16_1, ho_16_2, hf_16_2, hk_16_2, hw_16_2, ho_16_3, hf_16_3, hk_16_3, hw_16_3, ho_16_4, hf_16_4, hk_16_4, hkN_16_4, hw_16_4, hn_17, hi_17, hg_17, hu_17, hn_18, hi_18, hg_18, hu_18, hn_22, hi_22, hg_22, hu_22, e1, tI_55, tI_ne, hI51, ← hI1, e2, e3]
  refine ⟨w, n', s', c', zu I1 503 (zn p), A', R', k1, k2, k3, k4, k5, k6, i4, hAA, hRR, ?_⟩
  by_cases q : w = 0
  · right
    obtain ⟨m, T, m1, m2, m3, m4, m5, m6, m7, m8⟩ := k9 q
    refine ⟨q, m, T, m1, m2, m3, m4, m5, m6, m7, es.trans ?_⟩
    have hisT : ∀ e, isT c e → e < n → isT c' e := fun e h1 h2 => ⟨h1.1, by obtain ⟨fs, h3⟩ := h1.2; exact ⟨fs, by rw [k6 e (Or.inl h2)]; exact h3⟩⟩
    have e4 := C_done (n := n') (s := s') (c := c') (I := zu (zu I1 503 (zn p)) 7 (zn w)) (J := J) (A := A') (B := B) (R := R') (Q := Q) (d + 35) u a n hP (by rw [zu_ne _ _ _ _ (by omega), i4.2 802 (by omega) (by omega) (by omega) (by omega) (by omega) (by omega)]; exact hI) (by rw [hRR 804 (by omega)]; exact hR) (hisT a ha han) (fun i hi => by obtain ⟨e, h1, h2, h3⟩ := hq i hi; exact ⟨e, h1, hisT e h2 h3⟩)
    rw [q] at e4 ⊢
    unfold dI dQ
    simp (disch := first | omega | exact zb_1 | exact zb_0 | exact zb_n1 | exact zb_n0) only [x145_55, x145_57, x145_60, x145_62, x145_63, x145_66, x145_69, x145_71, x145_82, x145_83, x145_86, x145_88, x145_91, x145_92, x3_0, x3_0N, x3_1, x3_4, x3_4N, mq_dl_int, mq_dl_ref, mq_dl_null, mq_dl_none, mc_some, Option.toList_some, Option.toList_none, List.cons_append, List.nil_append, zb_1, zb_0, ↓reduceIte, if_true, if_false, not_true_eq_false, not_false_eq_true, Bool.false_eq_true, z_10, z_01, eq_self, Bool.and_self, true_or, or_true, false_or, or_false, true_and, and_true, false_and, and_false, and_self, or_self, Nat.reduceLT, Nat.reduceEqDiff, Nat.reduceLeDiff, Nat.reduceAdd, Nat.reduceMul, Nat.reduceSub, zn_lit, zn_add, zn_mul, zn_sub, zn_addneg, zn_lt, zn_le, zn_eq, zn_clamp, zn_in, zn_long, hp_1, hp_21, upd_zu, updL_zu, updQ_zu, zu_eq, zu_ne, ho_0, ho_0_0, hf_0_0, ho_0_1, hf_0_1, ho_0_2, hf_0_2, ho_0_3, hf_0_3, ho_0_4, hf_0_4, ho_0_5, hf_0_5, ho_0_6, hf_0_6, ho_0_7, hf_0_7, hk_0_7, hw_0_7, ho_1, ho_1_0, hf_1_0, ho_1_1, hf_1_1, hk_1_1, hw_1_1, ho_1_2, hf_1_2, hk_1_2, hw_1_2, ho_1_3, hf_1_3, hk_1_3, hw_1_3, ho_1_4, hf_1_4, hk_1_4, hw_1_4, ho_1_5, hf_1_5, hk_1_5, hw_1_5, hn_2, hi_2, hg_2, hu_2, ho_3, ho_3_0, hf_3_0, ho_3_1, hf_3_1, ho_3_2, hf_3_2, hk_3_2, hw_3_2, ho_3_3, hf_3_3, hk_3_3, hw_3_3, hn_4, hi_4, hj_4, hg_4, hu_4, ho_5, ho_5_0, hf_5_0, ho_5_1, hf_5_1, ho_5_2, hf_5_2, ho_5_3, hf_5_3, hk_5_3, hw_5_3, ho_6, ho_6_0, hf_6_0, ho_6_1, hf_6_1, ho_6_2, hf_6_2, ho_6_3, hf_6_3, hk_6_3, hw_6_3, hn_7, hi_7, hj_7, hg_7, hu_7, hn_8, hi_8, hj_8, hg_8, hu_8, hn_9, hi_9, hj_9, hg_9, hu_9, ho_10, ho_10_0, hf_10_0, ho_10_1, hf_10_1, ho_10_2, hf_10_2, ho_10_3, hf_10_3, hk_10_3, hw_10_3, ho_10_4, hf_10_4, hk_10_4, hkN_10_4, hw_10_4, hn_11, hi_11, hj_11, hg_11, hu_11, hn_12, hi_12, hj_12, hg_12, hu_12, hn_13, hi_13, hj_13, hg_13, hu_13, hn_14, hi_14, hg_14, hu_14, hn_15, hi_15, hg_15, hu_15, ho_16, ho_16_0, hf_16_0, ho_16_1, hf_16_1, ho_16_2, hf_16_2, hk_16_2, hw_16_2, ho_16_3, hf_16_3, hk_16_3, hw_16_3, ho_16_4, hf_16_4, hk_16_4, hkN_16_4, hw_16_4, hn_17, hi_17, hg_17, hu_17, hn_18, hi_18, hg_18, hu_18, hn_22, hi_22, hg_22, hu_22, e4, m8]
  · left
    refine ⟨q, es.trans ?_⟩
    have m8 : R' 504 = .null := by rw [k10 q, zu_eq]
    simp (disch := first | omega | exact zb_1 | exact zb_0 | exact zb_n1 | exact zb_n0) only [x145_55, x145_57, x145_60, x145_60N, x145_62, x145_63, x145_66, x145_74, x145_76, x145_78, x145_79, x145_80, x145_81, x3_0, x3_0N, x3_1, x3_4, x3_4N, mq_dl_int, mq_dl_ref, mq_dl_null, mq_dl_none, mc_some, Option.toList_some, Option.toList_none, List.cons_append, List.nil_append, zb_1, zb_0, ↓reduceIte, if_true, if_false, not_true_eq_false, not_false_eq_true, Bool.false_eq_true, z_10, z_01, eq_self, Bool.and_self, true_or, or_true, false_or, or_false, true_and, and_true, false_and, and_false, and_self, or_self, Nat.reduceLT, Nat.reduceEqDiff, Nat.reduceLeDiff, Nat.reduceAdd, Nat.reduceMul, Nat.reduceSub, zn_lit, zn_add, zn_mul, zn_sub, zn_addneg, zn_lt, zn_le, zn_eq, zn_clamp, zn_in, zn_long, hp_1, hp_21, upd_zu, updL_zu, updQ_zu, zu_eq, zu_ne, ho_0, ho_0_0, hf_0_0, ho_0_1, hf_0_1, ho_0_2, hf_0_2, ho_0_3, hf_0_3, ho_0_4, hf_0_4, ho_0_5, hf_0_5, ho_0_6, hf_0_6, ho_0_7, hf_0_7, hk_0_7, hw_0_7, ho_1, ho_1_0, hf_1_0, ho_1_1, hf_1_1, hk_1_1, hw_1_1, ho_1_2, hf_1_2, hk_1_2, hw_1_2, ho_1_3, hf_1_3, hk_1_3, hw_1_3, ho_1_4, hf_1_4, hk_1_4, hw_1_4, ho_1_5, hf_1_5, hk_1_5, hw_1_5, hn_2, hi_2, hg_2, hu_2, ho_3, ho_3_0, hf_3_0, ho_3_1, hf_3_1, ho_3_2, hf_3_2, hk_3_2, hw_3_2, ho_3_3, hf_3_3, hk_3_3, hw_3_3, hn_4, hi_4, hj_4, hg_4, hu_4, ho_5, ho_5_0, hf_5_0, ho_5_1, hf_5_1, ho_5_2, hf_5_2, ho_5_3, hf_5_3, hk_5_3, hw_5_3, ho_6, ho_6_0, hf_6_0, ho_6_1, hf_6_1, ho_6_2, hf_6_2, ho_6_3, hf_6_3, hk_6_3, hw_6_3, hn_7, hi_7, hj_7, hg_7, hu_7, hn_8, hi_8, hj_8, hg_8, hu_8, hn_9, hi_9, hj_9, hg_9, hu_9, ho_10, ho_10_0, hf_10_0, ho_10_1, hf_10_1, ho_10_2, hf_10_2, ho_10_3, hf_10_3, hk_10_3, hw_10_3, ho_10_4, hf_10_4, hk_10_4, hkN_10_4, hw_10_4, hn_11, hi_11, hj_11, hg_11, hu_11, hn_12, hi_12, hj_12, hg_12, hu_12, hn_13, hi_13, hj_13, hg_13, hu_13, hn_14, hi_14, hg_14, hu_14, hn_15, hi_15, hg_15, hu_15, ho_16, ho_16_0, hf_16_0, ho_16_1, hf_16_1, ho_16_2, hf_16_2, hk_16_2, hw_16_2, ho_16_3, hf_16_3, hk_16_3, hw_16_3, ho_16_4, hf_16_4, hk_16_4, hkN_16_4, hw_16_4, hn_17, hi_17, hg_17, hu_17, hn_18, hi_18, hg_18, hu_18, hn_22, hi_22, hg_22, hu_22, q, m8]
end SV
