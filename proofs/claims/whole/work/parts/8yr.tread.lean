/-! A TABLE TOLD: what holds of it; the class reads it -/
def GIV (m : Nat) (g : Nat → Int32) : Prop := (∀ i j k, i < 6 → j < 6 → k < 6 → ∃ v, v ≤ 999 ∧ g ((i * 6 + j) * 6 + k) = zn v ∧ (m ≤ i ∨ m ≤ j ∨ m ≤ k → v = 0)) ∧ (∀ i j k, i < 6 → j < 6 → k < 6 → g ((i * 6 + j) * 6 + k) = g ((j * 6 + i) * 6 + k)) ∧ ∀ i k, i < m → k < 6 → g ((0 * 6 + i) * 6 + k) = if i = k then zn 1 else zn 0
def LIV (m : Nat) (S : LST) : Prop := GIV m S.2.2.1 ∧ (∀ i, i < 6 → ∃ v, v < 6 ∧ S.2.2.2 i = zn v ∧ (i < m → v < m)) ∧ S.2.2.2 0 = zn 0 ∧ ∀ i j, 1 ≤ i → i < m → 1 ≤ j → j < m → S.2.1 (i * 6 + j) = zn 0 → ∀ k, k < m → S.2.2.1 ((i * 6 + j) * 6 + k) = zn 0
theorem put2_ap (g : Nat → Int32) {i j k v p q l : Nat} (hi : i < 6) (hj : j < 6) (hk : k < 6) (hp : p < 6) (hq : q < 6) (hl : l < 6) : put2 g i j k v ((p * 6 + q) * 6 + l) = if l = k ∧ ((p = i ∧ q = j) ∨ (p = j ∧ q = i)) then zn v else g ((p * 6 + q) * 6 + l) := by
  unfold put2
  by_cases e : l = k ∧ p = j ∧ q = i
  · obtain ⟨rfl, rfl, rfl⟩ := e
    rw [zu_eq, if_pos ⟨rfl, Or.inr ⟨rfl, rfl⟩⟩]
  · rw [zu_ne _ _ _ _ (by omega)]
    by_cases e2 : l = k ∧ p = i ∧ q = j
    · obtain ⟨rfl, rfl, rfl⟩ := e2
      rw [zu_eq, if_pos ⟨rfl, Or.inl ⟨rfl, rfl⟩⟩]
    · rw [zu_ne _ _ _ _ (by omega), if_neg (by omega)]
theorem GIV_put {m : Nat} {g : Nat → Int32} (h : GIV m g) {i j k v : Nat} (hm : m ≤ 6) (hi : i < m) (hj : j < m) (hk : k < m) (hi1 : 1 ≤ i) (hj1 : 1 ≤ j) (hv : v ≤ 999) : GIV m (put2 g i j k v) := by
  refine ⟨fun p q l hp hq hl => ?_, fun p q l hp hq hl => ?_, fun p l hp hl => ?_⟩
  · rw [put2_ap g (by omega) (by omega) (by omega) hp hq hl]
    by_cases e : l = k ∧ ((p = i ∧ q = j) ∨ (p = j ∧ q = i))
    · rw [if_pos e]
      exact ⟨v, hv, rfl, fun h => by omega⟩
    · rw [if_neg e]
      exact h.1 p q l hp hq hl
  · rw [put2_ap g (by omega) (by omega) (by omega) hp hq hl, put2_ap g (by omega) (by omega) (by omega) hq hp hl, h.2.1 p q l hp hq hl]
    by_cases e : l = k ∧ ((p = i ∧ q = j) ∨ (p = j ∧ q = i))
    · rw [if_pos e, if_pos (by omega)]
    · rw [if_neg e, if_neg (by omega)]
  · rw [put2_ap g (by omega) (by omega) (by omega) (by omega) (by omega) hl, if_neg (by omega)]
    exact h.2.2 p l hp hl
/-- what putting keeps, reading shares keeps -/
theorem shF_inv {L : Nat} {tp : Nat → Nat} {m i j : Nat} (P : (Nat → Int32) → Prop) (hP : ∀ g k v, k ≤ m - 1 → 1 ≤ v → v ≤ 999 → P g → P (put2 g i j k v)) : ∀ (f : Nat) (x : Nat × Nat) (g : Nat → Int32), P g → P (shF L tp m i j f x g).2
  | 0, x, g, h => h
  | f + 1, x, g, h => by
    unfold shF
    split
    · apply shF_inv P hP f
      unfold shG
      split
      · next q =>
        obtain ⟨a1, a2, a3, a4, a5, a6, a7, a8, a9, a10⟩ := sh5_fine q
        rw [a5]
        exact hP g _ _ a8 a3 a4 h
      · exact h
    · exact h
theorem LIV_tm {L : Nat} {tp : Nat → Nat} {m : Nat} {S : LST} (hm : m ≤ 6) (h : LIV m S) : LIV m (tmF L tp m S) := by
  unfold tmF
  by_cases q : (t4 L tp m S.1).2 = 0
  · rw [if_pos q]
    obtain ⟨f1, f2, f3, f4, f5, f6, i1, i2, j1, j2⟩ := t4_fine q
    obtain ⟨h1, h2, h3, h4⟩ := h
    refine ⟨?_, h2, h3, ?_⟩
    · exact shF_inv (GIV m) (fun g k v hk hv hv2 hg => GIV_put hg hm (by omega) (by omega) (by omega) i1 j1 hv2) _ _ _ h1
    · intro p q' hp1 hp2 hq1 hq2 ht k hk
      have e1 : ¬ (p = tmI L tp S.1 ∧ q' = tmJ L tp m S.1) := by
        rintro ⟨rfl, rfl⟩
        dsimp only at ht
        by_cases e : tmI L tp S.1 * 6 + tmJ L tp m S.1 = tmJ L tp m S.1 * 6 + tmI L tp S.1
        · rw [e, zu_eq] at ht
          exact absurd ht (by decide)
        · rw [zu_ne _ _ _ _ e, zu_eq] at ht
          exact absurd ht (by decide)
      have e2 : ¬ (p = tmJ L tp m S.1 ∧ q' = tmI L tp S.1) := by
        rintro ⟨rfl, rfl⟩
        dsimp only at ht
        rw [zu_eq] at ht
        exact absurd ht (by decide)
      have ht2 : S.2.1 (p * 6 + q') = zn 0 := by
        dsimp only at ht
        rw [zu_ne _ _ _ _ (by omega), zu_ne _ _ _ _ (by omega)] at ht
        exact ht
      have h5 := h4 p q' hp1 hp2 hq1 hq2 ht2 k hk
      have h6 := shF_inv (L := L) (tp := tp) (m := m) (i := tmI L tp S.1) (j := tmJ L tp m S.1) (fun g => g ((p * 6 + q') * 6 + k) = zn 0) (fun g k' v hk' hv hv2 hg => by
        rw [put2_ap g (by omega) (by omega) (by omega) (by omega) (by omega) (by omega), if_neg (by omega)]
        exact hg) 1000 (t7 L tp m S.1 S.2.1) S.2.2.1 h5
      exact h6
  · rw [if_neg q]
    exact h
theorem LIV_rv {L : Nat} {tp : Nat → Nat} {m : Nat} {S : LST} (hm : m ≤ 6) (h : LIV m S) : LIV m (rvF L tp m S) := by
  obtain ⟨h1, h2, h3, h4⟩ := h
  unfold rvF
  refine ⟨h1, ?_, ?_, h4⟩
  · intro i hi
    dsimp only
    split
    · next q =>
      obtain ⟨g1, g2, g3, g4, g5, g6, g7, g8⟩ := r5_fine q
      obtain ⟨c1, c2, c3, c4, c5, c6, c7, c8⟩ := r2_fine g1
      by_cases e : i = rvJ L tp m S.1 S.2.2.2
      · rw [e, zu_eq]; exact ⟨_, by omega, rfl, fun _ => by omega⟩
      · rw [zu_ne _ _ _ _ e]
        by_cases e2 : i = tmI L tp S.1
        · rw [e2, zu_eq]; exact ⟨_, by omega, rfl, fun _ => by omega⟩
        · rw [zu_ne _ _ _ _ e2]; exact h2 i hi
    · exact h2 i hi
  · dsimp only
    split
    · next q =>
      obtain ⟨g1, g2, g3, g4, g5, g6, g7, g8⟩ := r5_fine q
      obtain ⟨c1, c2, c3, c4, c5, c6, c7, c8⟩ := r2_fine g1
      rw [zu_ne _ _ _ _ (by omega), zu_ne _ _ _ _ (by omega)]
      exact h3
    · exact h3
theorem LIV_ln {L : Nat} {tp : Nat → Nat} {m : Nat} {S : LST} (hm : m ≤ 6) (h : LIV m S) : LIV m (lnF L tp m S) := by
  unfold lnF
  split
  · exact LIV_tm hm h
  · split
    · exact LIV_rv hm h
    · exact h
theorem LIV_li {L : Nat} {tp : Nat → Nat} {m : Nat} (hm : m ≤ 6) : ∀ (f : Nat) (S : LST), LIV m S → LIV m (liF L tp m f S)
  | 0, S, h => h
  | f + 1, S, h => by
    unfold liF
    split
    · exact LIV_li hm f _ (LIV_ln hm h)
    · exact h
theorem liF_b {L : Nat} {tp : Nat → Nat} {m : Nat} (hL : L ≤ 1000) : ∀ (f : Nat) (S : LST), S.1.2 < 20000 → (liF L tp m f S).1.2 < 20000
  | 0, S, h => h
  | f + 1, S, h => by
    unfold liF
    split
    · exact liF_b hL f _ (lnF_b hL S h)
    · exact h
section CL
variable {n s : Nat} {c : Nat → mq_E} {I : Nat → Int32} {J : Nat → Int64} {A : Nat → Nat → Int32} {B : Nat → Nat → Int64} {R : Nat → Value} {Q : Nat → Nat → Option Nat}
variable {L : Nat} {tp : Nat → Nat} {a m : Nat}
theorem C_lines (h0 : TKp L tp I A) (hS : STR c) (ha : 46 ≤ a) (ha2 : a + 2 < 1000000000) (hm : m ≤ 6) (hl : I 153 = zn (m - 1)) (d : Nat) : ∀ (f w rv : Nat) (S : LST), w + f = 1000 → S.1.2 < 20000 → LIV m S → (S.1.2 = 0 → RVB m rv S.2.2.2) → ∃ rv' w', mz (d + 8) 116 73 [some (.ref 3), some (.int (zn m)), some (.ref a), some (.int (zn w))] [] (hp n s (tc c a m S.2.2.1 S.2.2.2) (tI L tp (zu I 152 (zn rv)) S.1) J (zu A 4 S.2.1) B R Q) = mz (d + 8) 116 154 [some (.ref 3), some (.int (zn m)), some (.ref a), some (.int (zn w'))] [] (hp n s (tc c a m (liF L tp m f S).2.2.1 (liF L tp m f S).2.2.2) (tI L tp (zu I 152 (zn rv')) (liF L tp m f S).1) J (zu A 4 (liF L tp m f S).2.1) B R Q) := by
  have hL := h0.1
  intro f
  induction f with
  | zero =>
    intro w rv S hw hx hv hr
    have e : w = 1000 := by omega
    subst e
    refine ⟨rv, 1000, ?_⟩
    simp (disch := first | omega | exact zb_1 | exact zb_0 | exact zb_n1 | exact zb_n0) only [x116_73, x116_74, x116_77, mq_dl_int, mq_dl_ref, mq_dl_null, mq_dl_none, mc_some, Option.toList_some, Option.toList_none, List.cons_append, List.nil_append, zb_1, zb_0, ↓reduceIte, if_true, if_false, not_true_eq_false, not_false_eq_true, Bool.false_eq_true, z_10, z_01, eq_self, Bool.and_self, true_or, or_true, false_or, or_false, true_and, and_true, false_and, and_false, and_self, or_self, Nat.reduceLT, Nat.reduceEqDiff, Nat.reduceLeDiff, Nat.reduceAdd, Nat.reduceMul, Nat.reduceSub, zn_lit, zn_add, zn_mul, zn_sub, zn_addneg, zn_lt, zn_le, zn_eq, zn_clamp, zn_in, zn_long, liF, Nat.le_refl]
  | succ f ih =>
    intro w rv S hw hx hv hr
    have hSt := STR_tc hS (m := m) ha2 S.2.2.1 S.2.2.2
    have h1 : TKp L tp (zu I 152 (zn rv)) (zu A 4 S.2.1) := TKp.A4 ⟨h0.1, by rw [zu_ne _ _ _ _ (by omega)]; exact h0.2.1, h0.2.2⟩ S.2.1
    have hl2 : zu I 152 (zn rv) 153 = zn (m - 1) := by rw [zu_ne _ _ _ _ (by omega)]; exact hl
    have hlb := lnF_b (tp := tp) (m := m) hL S hx
    unfold liF
    by_cases q : S.1.2 = 0
    · have hr := hr q
      by_cases q2 : tkS L tp (ps L tp S.1.1) = 4
      · rw [if_neg (fun e => e.2 q2)]
        refine ⟨rv, w, ?_⟩
        rw [x116_73]
        simp (disch := first | omega | exact zb_1 | exact zb_0 | exact zb_n1 | exact zb_n0) only [x116_74, x116_77, x116_80, x116_81, x116_84, x116_87, x116_90, x116_91, x116_94, x116_97, mq_dl_int, mq_dl_ref, mq_dl_null, mq_dl_none, mc_some, Option.toList_some, Option.toList_none, List.cons_append, List.nil_append, zb_1, zb_0, ↓reduceIte, if_true, if_false, not_true_eq_false, not_false_eq_true, Bool.false_eq_true, z_10, z_01, eq_self, Bool.and_self, true_or, or_true, false_or, or_false, true_and, and_true, false_and, and_false, and_self, or_self, Nat.reduceLT, Nat.reduceEqDiff, Nat.reduceLeDiff, Nat.reduceAdd, Nat.reduceMul, Nat.reduceSub, zn_lit, zn_add, zn_mul, zn_sub, zn_addneg, zn_lt, zn_le, zn_eq, zn_clamp, zn_in, zn_long, hp_1, hp_21, upd_zu, updL_zu, updQ_zu, zu_eq, zu_ne, ho_0, ho_0_0, hf_0_0, ho_0_1, hf_0_1, ho_0_2, hf_0_2, ho_0_3, hf_0_3, ho_0_4, hf_0_4, ho_0_5, hf_0_5, ho_0_6, hf_0_6, ho_0_7, hf_0_7, hk_0_7, hw_0_7, ho_1, ho_1_0, hf_1_0, ho_1_1, hf_1_1, hk_1_1, hw_1_1, ho_1_2, hf_1_2, hk_1_2, hw_1_2, ho_1_3, hf_1_3, hk_1_3, hw_1_3, ho_1_4, hf_1_4, hk_1_4, hw_1_4, ho_1_5, hf_1_5, hk_1_5, hw_1_5, hn_2, hi_2, hg_2, hu_2, ho_3, ho_3_0, hf_3_0, ho_3_1, hf_3_1, ho_3_2, hf_3_2, hk_3_2, hw_3_2, ho_3_3, hf_3_3, hk_3_3, hw_3_3, hn_4, hi_4, hj_4, hg_4, hu_4, ho_5, ho_5_0, hf_5_0, ho_5_1, hf_5_1, ho_5_2, hf_5_2, ho_5_3, hf_5_3, hk_5_3, hw_5_3, ho_6, ho_6_0, hf_6_0, ho_6_1, hf_6_1, ho_6_2, hf_6_2, ho_6_3, hf_6_3, hk_6_3, hw_6_3, hn_7, hi_7, hj_7, hg_7, hu_7, hn_8, hi_8, hj_8, hg_8, hu_8, hn_9, hi_9, hj_9, hg_9, hu_9, ho_10, ho_10_0, hf_10_0, ho_10_1, hf_10_1, ho_10_2, hf_10_2, ho_10_3, hf_10_3, hk_10_3, hw_10_3, ho_10_4, hf_10_4, hk_10_4, hkN_10_4, hw_10_4, hn_11, hi_11, hj_11, hg_11, hu_11, hn_12, hi_12, hj_12, hg_12, hu_12, hn_13, hi_13, hj_13, hg_13, hu_13, hn_14, hi_14, hg_14, hu_14, hn_15, hi_15, hg_15, hu_15, ho_16, ho_16_0, hf_16_0, ho_16_1, hf_16_1, ho_16_2, hf_16_2, hk_16_2, hw_16_2, ho_16_3, hf_16_3, hk_16_3, hw_16_3, ho_16_4, hf_16_4, hk_16_4, hkN_16_4, hw_16_4, hn_17, hi_17, hg_17, hu_17, hn_18, hi_18, hg_18, hu_18, hn_22, hi_22, hg_22, hu_22, C_fine, C_end, q, q2, decide_true, zo_t, show ¬ 1000 ≤ w by omega]
      · rw [if_pos ⟨q, q2⟩]
        have w1 := C_word (n := n) (s := s) (J := J) (B := B) (R := R) (Q := Q) h1 hSt (d + 3) 2 1000000003 (by omega) rfl S.1
        have w2 := C_word (n := n) (s := s) (J := J) (B := B) (R := R) (Q := Q) h1 hSt (d + 3) 5 1000000006 (by omega) rfl S.1
        by_cases q3 : wdq L tp S.1.1 2 = true
        · have el : lnF L tp m S = tmF L tp m S := by unfold lnF; rw [if_pos q3]
          have er : (tmF L tp m S).2.2.2 = S.2.2.2 := by unfold tmF; split <;> rfl
          obtain ⟨rv', w', h9⟩ := ih (w + 1) rv (lnF L tp m S) (by omega) hlb (LIV_ln hm hv) (fun _ => by rw [el, er]; exact hr)
          refine ⟨rv', w', ?_⟩
          rw [← h9, el]
          have k1 := C_tm (n := n) (s := s) (g := S.2.2.1) (r := S.2.2.2) (tl := S.2.1) (A := A) (J := J) (B := B) (R := R) (Q := Q) ⟨h0.1, by rw [zu_ne _ _ _ _ (by omega)]; exact h0.2.1, h0.2.2⟩ hS ha ha2 hm hl2 d S.1 hx hv.2.2.2
          have e0 : (S.1, S.2.1, S.2.2.1, S.2.2.2) = S := rfl
          rw [e0, ← er] at k1
          rw [er] at k1
          rw [x116_73, er]
          simp (disch := first | omega | exact zb_1 | exact zb_0 | exact zb_n1 | exact zb_n0) only [x116_74, x116_77, x116_80, x116_81, x116_84, x116_87, x116_90, x116_91, x116_94, x116_97, x116_100, x116_101, x116_104, x116_106, x116_109, x116_112, x116_113, x116_114, x116_117, x116_148, x116_151, mq_dl_int, mq_dl_ref, mq_dl_null, mq_dl_none, mc_some, Option.toList_some, Option.toList_none, List.cons_append, List.nil_append, zb_1, zb_0, ↓reduceIte, if_true, if_false, not_true_eq_false, not_false_eq_true, Bool.false_eq_true, z_10, z_01, eq_self, Bool.and_self, true_or, or_true, false_or, or_false, true_and, and_true, false_and, and_false, and_self, or_self, Nat.reduceLT, Nat.reduceEqDiff, Nat.reduceLeDiff, Nat.reduceAdd, Nat.reduceMul, Nat.reduceSub, zn_lit, zn_add, zn_mul, zn_sub, zn_addneg, zn_lt, zn_le, zn_eq, zn_clamp, zn_in, zn_long, hp_1, hp_21, upd_zu, updL_zu, updQ_zu, zu_eq, zu_ne, ho_0, ho_0_0, hf_0_0, ho_0_1, hf_0_1, ho_0_2, hf_0_2, ho_0_3, hf_0_3, ho_0_4, hf_0_4, ho_0_5, hf_0_5, ho_0_6, hf_0_6, ho_0_7, hf_0_7, hk_0_7, hw_0_7, ho_1, ho_1_0, hf_1_0, ho_1_1, hf_1_1, hk_1_1, hw_1_1, ho_1_2, hf_1_2, hk_1_2, hw_1_2, ho_1_3, hf_1_3, hk_1_3, hw_1_3, ho_1_4, hf_1_4, hk_1_4, hw_1_4, ho_1_5, hf_1_5, hk_1_5, hw_1_5, hn_2, hi_2, hg_2, hu_2, ho_3, ho_3_0, hf_3_0, ho_3_1, hf_3_1, ho_3_2, hf_3_2, hk_3_2, hw_3_2, ho_3_3, hf_3_3, hk_3_3, hw_3_3, hn_4, hi_4, hj_4, hg_4, hu_4, ho_5, ho_5_0, hf_5_0, ho_5_1, hf_5_1, ho_5_2, hf_5_2, ho_5_3, hf_5_3, hk_5_3, hw_5_3, ho_6, ho_6_0, hf_6_0, ho_6_1, hf_6_1, ho_6_2, hf_6_2, ho_6_3, hf_6_3, hk_6_3, hw_6_3, hn_7, hi_7, hj_7, hg_7, hu_7, hn_8, hi_8, hj_8, hg_8, hu_8, hn_9, hi_9, hj_9, hg_9, hu_9, ho_10, ho_10_0, hf_10_0, ho_10_1, hf_10_1, ho_10_2, hf_10_2, ho_10_3, hf_10_3, hk_10_3, hw_10_3, ho_10_4, hf_10_4, hk_10_4, hkN_10_4, hw_10_4, hn_11, hi_11, hj_11, hg_11, hu_11, hn_12, hi_12, hj_12, hg_12, hu_12, hn_13, hi_13, hj_13, hg_13, hu_13, hn_14, hi_14, hg_14, hu_14, hn_15, hi_15, hg_15, hu_15, ho_16, ho_16_0, hf_16_0, ho_16_1, hf_16_1, ho_16_2, hf_16_2, hk_16_2, hw_16_2, ho_16_3, hf_16_3, hk_16_3, hw_16_3, ho_16_4, hf_16_4, hk_16_4, hkN_16_4, hw_16_4, hn_17, hi_17, hg_17, hu_17, hn_18, hi_18, hg_18, hu_18, hn_22, hi_22, hg_22, hu_22, C_fine, C_end, q, q2, q3, w1, k1, decide_true, decide_false, zo_t, zo_f, show ¬ 1000 ≤ w by omega]
        · by_cases q4 : wdq L tp S.1.1 5 = true
          · have el : lnF L tp m S = rvF L tp m S := by unfold lnF; rw [if_neg q3, if_pos q4]
            obtain ⟨rv1, k0, k1⟩ := C_rv (n := n) (s := s) (c := c) (g := S.2.2.1) (r := S.2.2.2) (tl := S.2.1) (J := J) (B := B) (R := R) (Q := Q) h1 hS ha ha2 hm hl2 (d + 1) rv (by rw [zu_eq]) hr S.1 hx
            rw [zu_zu] at k1
            have e0 : (S.1, S.2.1, S.2.2.1, S.2.2.2) = S := rfl
            rw [e0] at k1 k0
            obtain ⟨rv', w', h9⟩ := ih (w + 1) rv1 (lnF L tp m S) (by omega) hlb (LIV_ln hm hv) (fun e => by
              rw [el] at e ⊢
              obtain ⟨e1, -⟩ := tsg_fine e
              exact k0 (adv_fine e1).1)
            refine ⟨rv', w', ?_⟩
            rw [← h9, el]
            have e1 : (rvF L tp m S).2.2.1 = S.2.2.1 := rfl
            have e2 : (rvF L tp m S).2.1 = S.2.1 := rfl
            rw [x116_73, e1, e2]
            simp (disch := first | omega | exact zb_1 | exact zb_0 | exact zb_n1 | exact zb_n0) only [x116_74, x116_77, x116_80, x116_81, x116_84, x116_87, x116_90, x116_91, x116_94, x116_97, x116_100, x116_101, x116_104, x116_106, x116_109, x116_120, x116_121, x116_124, x116_126, x116_129, x116_132, x116_133, x116_134, x116_137, x116_148, x116_151, mq_dl_int, mq_dl_ref, mq_dl_null, mq_dl_none, mc_some, Option.toList_some, Option.toList_none, List.cons_append, List.nil_append, zb_1, zb_0, ↓reduceIte, if_true, if_false, not_true_eq_false, not_false_eq_true, Bool.false_eq_true, z_10, z_01, eq_self, Bool.and_self, true_or, or_true, false_or, or_false, true_and, and_true, false_and, and_false, and_self, or_self, Nat.reduceLT, Nat.reduceEqDiff, Nat.reduceLeDiff, Nat.reduceAdd, Nat.reduceMul, Nat.reduceSub, zn_lit, zn_add, zn_mul, zn_sub, zn_addneg, zn_lt, zn_le, zn_eq, zn_clamp, zn_in, zn_long, hp_1, hp_21, upd_zu, updL_zu, updQ_zu, zu_eq, zu_ne, ho_0, ho_0_0, hf_0_0, ho_0_1, hf_0_1, ho_0_2, hf_0_2, ho_0_3, hf_0_3, ho_0_4, hf_0_4, ho_0_5, hf_0_5, ho_0_6, hf_0_6, ho_0_7, hf_0_7, hk_0_7, hw_0_7, ho_1, ho_1_0, hf_1_0, ho_1_1, hf_1_1, hk_1_1, hw_1_1, ho_1_2, hf_1_2, hk_1_2, hw_1_2, ho_1_3, hf_1_3, hk_1_3, hw_1_3, ho_1_4, hf_1_4, hk_1_4, hw_1_4, ho_1_5, hf_1_5, hk_1_5, hw_1_5, hn_2, hi_2, hg_2, hu_2, ho_3, ho_3_0, hf_3_0, ho_3_1, hf_3_1, ho_3_2, hf_3_2, hk_3_2, hw_3_2, ho_3_3, hf_3_3, hk_3_3, hw_3_3, hn_4, hi_4, hj_4, hg_4, hu_4, ho_5, ho_5_0, hf_5_0, ho_5_1, hf_5_1, ho_5_2, hf_5_2, ho_5_3, hf_5_3, hk_5_3, hw_5_3, ho_6, ho_6_0, hf_6_0, ho_6_1, hf_6_1, ho_6_2, hf_6_2, ho_6_3, hf_6_3, hk_6_3, hw_6_3, hn_7, hi_7, hj_7, hg_7, hu_7, hn_8, hi_8, hj_8, hg_8, hu_8, hn_9, hi_9, hj_9, hg_9, hu_9, ho_10, ho_10_0, hf_10_0, ho_10_1, hf_10_1, ho_10_2, hf_10_2, ho_10_3, hf_10_3, hk_10_3, hw_10_3, ho_10_4, hf_10_4, hk_10_4, hkN_10_4, hw_10_4, hn_11, hi_11, hj_11, hg_11, hu_11, hn_12, hi_12, hj_12, hg_12, hu_12, hn_13, hi_13, hj_13, hg_13, hu_13, hn_14, hi_14, hg_14, hu_14, hn_15, hi_15, hg_15, hu_15, ho_16, ho_16_0, hf_16_0, ho_16_1, hf_16_1, ho_16_2, hf_16_2, hk_16_2, hw_16_2, ho_16_3, hf_16_3, hk_16_3, hw_16_3, ho_16_4, hf_16_4, hk_16_4, hkN_16_4, hw_16_4, hn_17, hi_17, hg_17, hu_17, hn_18, hi_18, hg_18, hu_18, hn_22, hi_22, hg_22, hu_22, C_fine, C_end, q, q2, Bool.eq_false_iff.mpr q3, q4, w1, w2, k1, decide_true, decide_false, zo_t, zo_f, show ¬ 1000 ≤ w by omega]
          · have el : lnF L tp m S = (flt L tp 1 S.1, S.2.1, S.2.2.1, S.2.2.2) := by unfold lnF; rw [if_neg q3, if_neg q4]
            obtain ⟨rv', w', h9⟩ := ih (w + 1) rv (lnF L tp m S) (by omega) hlb (LIV_ln hm hv) (fun e => by
              rw [el] at e
              exact absurd e (flt_n (by omega)))
            refine ⟨rv', w', ?_⟩
            rw [← h9, el]
            have k1 := C_fail (n := n) (s := s) (c := tc c a m S.2.2.1 S.2.2.2) (I := zu I 152 (zn rv)) (J := J) (A := zu A 4 S.2.1) (B := B) (R := R) (Q := Q) (tp := tp) hL (d + 7) 1 S.1 hx
            rw [x116_73]
            simp (disch := first | omega | exact zb_1 | exact zb_0 | exact zb_n1 | exact zb_n0) only [x116_74, x116_77, x116_80, x116_81, x116_84, x116_87, x116_90, x116_91, x116_94, x116_97, x116_100, x116_101, x116_104, x116_106, x116_109, x116_120, x116_121, x116_124, x116_126, x116_129, x116_140, x116_141, x116_144, x116_145, x116_148, x116_151, mq_dl_int, mq_dl_ref, mq_dl_null, mq_dl_none, mc_some, Option.toList_some, Option.toList_none, List.cons_append, List.nil_append, zb_1, zb_0, ↓reduceIte, if_true, if_false, not_true_eq_false, not_false_eq_true, Bool.false_eq_true, z_10, z_01, eq_self, Bool.and_self, true_or, or_true, false_or, or_false, true_and, and_true, false_and, and_false, and_self, or_self, Nat.reduceLT, Nat.reduceEqDiff, Nat.reduceLeDiff, Nat.reduceAdd, Nat.reduceMul, Nat.reduceSub, zn_lit, zn_add, zn_mul, zn_sub, zn_addneg, zn_lt, zn_le, zn_eq, zn_clamp, zn_in, zn_long, hp_1, hp_21, upd_zu, updL_zu, updQ_zu, zu_eq, zu_ne, ho_0, ho_0_0, hf_0_0, ho_0_1, hf_0_1, ho_0_2, hf_0_2, ho_0_3, hf_0_3, ho_0_4, hf_0_4, ho_0_5, hf_0_5, ho_0_6, hf_0_6, ho_0_7, hf_0_7, hk_0_7, hw_0_7, ho_1, ho_1_0, hf_1_0, ho_1_1, hf_1_1, hk_1_1, hw_1_1, ho_1_2, hf_1_2, hk_1_2, hw_1_2, ho_1_3, hf_1_3, hk_1_3, hw_1_3, ho_1_4, hf_1_4, hk_1_4, hw_1_4, ho_1_5, hf_1_5, hk_1_5, hw_1_5, hn_2, hi_2, hg_2, hu_2, ho_3, ho_3_0, hf_3_0, ho_3_1, hf_3_1, ho_3_2, hf_3_2, hk_3_2, hw_3_2, ho_3_3, hf_3_3, hk_3_3, hw_3_3, hn_4, hi_4, hj_4, hg_4, hu_4, ho_5, ho_5_0, hf_5_0, ho_5_1, hf_5_1, ho_5_2, hf_5_2, ho_5_3, hf_5_3, hk_5_3, hw_5_3, ho_6, ho_6_0, hf_6_0, ho_6_1, hf_6_1, ho_6_2, hf_6_2, ho_6_3, hf_6_3, hk_6_3, hw_6_3, hn_7, hi_7, hj_7, hg_7, hu_7, hn_8, hi_8, hj_8, hg_8, hu_8, hn_9, hi_9, hj_9, hg_9, hu_9, ho_10, ho_10_0, hf_10_0, ho_10_1, hf_10_1, ho_10_2, hf_10_2, ho_10_3, hf_10_3, hk_10_3, hw_10_3, ho_10_4, hf_10_4, hk_10_4, hkN_10_4, hw_10_4, hn_11, hi_11, hj_11, hg_11, hu_11, hn_12, hi_12, hj_12, hg_12, hu_12, hn_13, hi_13, hj_13, hg_13, hu_13, hn_14, hi_14, hg_14, hu_14, hn_15, hi_15, hg_15, hu_15, ho_16, ho_16_0, hf_16_0, ho_16_1, hf_16_1, ho_16_2, hf_16_2, hk_16_2, hw_16_2, ho_16_3, hf_16_3, hk_16_3, hw_16_3, ho_16_4, hf_16_4, hk_16_4, hkN_16_4, hw_16_4, hn_17, hi_17, hg_17, hu_17, hn_18, hi_18, hg_18, hu_18, hn_22, hi_22, hg_22, hu_22, C_fine, C_end, q, q2, Bool.eq_false_iff.mpr q3, Bool.eq_false_iff.mpr q4, w1, w2, k1, decide_true, decide_false, zo_t, zo_f, show ¬ 1000 ≤ w by omega]
    · rw [if_neg (fun e => q e.1)]
      refine ⟨rv, w, ?_⟩
      rw [x116_73]
      simp (disch := first | omega | exact zb_1 | exact zb_0 | exact zb_n1 | exact zb_n0) only [x116_74, x116_77, x116_80, x116_81, x116_84, x116_87, mq_dl_int, mq_dl_ref, mq_dl_null, mq_dl_none, mc_some, Option.toList_some, Option.toList_none, List.cons_append, List.nil_append, zb_1, zb_0, ↓reduceIte, if_true, if_false, not_true_eq_false, not_false_eq_true, Bool.false_eq_true, z_10, z_01, eq_self, Bool.and_self, true_or, or_true, false_or, or_false, true_and, and_true, false_and, and_false, and_self, or_self, Nat.reduceLT, Nat.reduceEqDiff, Nat.reduceLeDiff, Nat.reduceAdd, Nat.reduceMul, Nat.reduceSub, zn_lit, zn_add, zn_mul, zn_sub, zn_addneg, zn_lt, zn_le, zn_eq, zn_clamp, zn_in, zn_long, hp_1, hp_21, upd_zu, updL_zu, updQ_zu, zu_eq, zu_ne, ho_0, ho_0_0, hf_0_0, ho_0_1, hf_0_1, ho_0_2, hf_0_2, ho_0_3, hf_0_3, ho_0_4, hf_0_4, ho_0_5, hf_0_5, ho_0_6, hf_0_6, ho_0_7, hf_0_7, hk_0_7, hw_0_7, ho_1, ho_1_0, hf_1_0, ho_1_1, hf_1_1, hk_1_1, hw_1_1, ho_1_2, hf_1_2, hk_1_2, hw_1_2, ho_1_3, hf_1_3, hk_1_3, hw_1_3, ho_1_4, hf_1_4, hk_1_4, hw_1_4, ho_1_5, hf_1_5, hk_1_5, hw_1_5, hn_2, hi_2, hg_2, hu_2, ho_3, ho_3_0, hf_3_0, ho_3_1, hf_3_1, ho_3_2, hf_3_2, hk_3_2, hw_3_2, ho_3_3, hf_3_3, hk_3_3, hw_3_3, hn_4, hi_4, hj_4, hg_4, hu_4, ho_5, ho_5_0, hf_5_0, ho_5_1, hf_5_1, ho_5_2, hf_5_2, ho_5_3, hf_5_3, hk_5_3, hw_5_3, ho_6, ho_6_0, hf_6_0, ho_6_1, hf_6_1, ho_6_2, hf_6_2, ho_6_3, hf_6_3, hk_6_3, hw_6_3, hn_7, hi_7, hj_7, hg_7, hu_7, hn_8, hi_8, hj_8, hg_8, hu_8, hn_9, hi_9, hj_9, hg_9, hu_9, ho_10, ho_10_0, hf_10_0, ho_10_1, hf_10_1, ho_10_2, hf_10_2, ho_10_3, hf_10_3, hk_10_3, hw_10_3, ho_10_4, hf_10_4, hk_10_4, hkN_10_4, hw_10_4, hn_11, hi_11, hj_11, hg_11, hu_11, hn_12, hi_12, hj_12, hg_12, hu_12, hn_13, hi_13, hj_13, hg_13, hu_13, hn_14, hi_14, hg_14, hu_14, hn_15, hi_15, hg_15, hu_15, ho_16, ho_16_0, hf_16_0, ho_16_1, hf_16_1, ho_16_2, hf_16_2, hk_16_2, hw_16_2, ho_16_3, hf_16_3, hk_16_3, hw_16_3, ho_16_4, hf_16_4, hk_16_4, hkN_16_4, hw_16_4, hn_17, hi_17, hg_17, hu_17, hn_18, hi_18, hg_18, hu_18, hn_22, hi_22, hg_22, hu_22, C_fine, q, decide_false, zo_f, show ¬ 1000 ≤ w by omega]
end CL
