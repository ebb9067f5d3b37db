/-! COLOURS: why not, and the table made (the class) -/
def W1 (p : Nat) (V : Nat → Nat → Int32) (k : Nat → Nat → Nat) : Prop := (∀ x y, x < p → y < p → inr V k x y) ∧ ∃ m, m < 6 ∧ full p k m
def W2 (p : Nat) (k : Nat → Nat → Nat) : Prop := ∀ x y, x < p → y < p → (k x y = 0 ↔ x = y)
def W5 (p : Nat) (k : Nat → Nat → Nat) : Prop := ∀ x y, x < p → y < p → ∀ i j, i < 6 → j < 6 → cnt p k x y i j p = cnt p k x y j i p
def WHY (p : Nat) (V : Nat → Nat → Int32) (k : Nat → Nat → Nat) (w : Nat) : Prop := (w = 1 ∧ ¬ W1 p V k) ∨ (w = 2 ∧ W1 p V k ∧ ¬ W2 p k) ∨ (w = 3 ∧ W1 p V k ∧ W2 p k ∧ ¬ w3 p k) ∨ (w = 4 ∧ W1 p V k ∧ W2 p k ∧ w3 p k ∧ ¬ w4 p k) ∨ (w = 5 ∧ W1 p V k ∧ W2 p k ∧ w3 p k ∧ w4 p k ∧ ¬ W5 p k) ∨ (w = 0 ∧ W1 p V k ∧ W2 p k ∧ w3 p k ∧ w4 p k ∧ W5 p k)
theorem WHY_u {p : Nat} {V : Nat → Nat → Int32} {k : Nat → Nat → Nat} {w v : Nat} (h1 : WHY p V k w) (h2 : WHY p V k v) : w = v := by
  unfold WHY at h1 h2
  generalize W1 p V k = a at *
  generalize W2 p k = b at *
  generalize w3 p k = c at *
  generalize w4 p k = d at *
  generalize W5 p k = e at *
  grind
theorem WHY_le {p : Nat} {V : Nat → Nat → Int32} {k : Nat → Nat → Nat} {w : Nat} (h1 : WHY p V k w) : w ≤ 5 := by
  rcases h1 with h | h | h | h | h | h <;> omega
/-- the table that the colours make -/
def SCT (p : Nat) (k : Nat → Nat → Nat) (m : Nat) (T : ZT) : Prop := T.1 = m ∧ (∀ x y, x < p → y < p → ∀ i j, T.2.1 i j (k x y) = cnt p k x y i j p) ∧ (∀ i j c, m ≤ c → T.2.1 i j c = 0) ∧ (∀ x y, x < p → y < p → T.2.2 (k x y) = k y x) ∧ ∀ c, m ≤ c → T.2.2 c = 0
theorem SCT_u {p m : Nat} {k : Nat → Nat → Nat} {T U : ZT} (hf : full p k m) (h : SCT p k (m + 1) T) (h' : SCT p k (m + 1) U) : T = U := by
  obtain ⟨t1, t2, t3⟩ := T
  obtain ⟨u1, u2, u3⟩ := U
  obtain ⟨a1, a2, a3, a4, a5⟩ := h
  obtain ⟨b1, b2, b3, b4, b5⟩ := h'
  dsimp only at a1 a2 a3 a4 a5 b1 b2 b3 b4 b5
  have e1 : t1 = u1 := a1.trans b1.symm
  have e2 : t2 = u2 := by
    funext i j c
    by_cases q : m + 1 ≤ c
    · rw [a3 i j c q, b3 i j c q]
    · obtain ⟨x, y, hx, hy, rfl⟩ := hf.2 c (by omega)
      rw [a2 x y hx hy, b2 x y hx hy]
  have e3 : t3 = u3 := by
    funext c
    by_cases q : m + 1 ≤ c
    · rw [a5 c q, b5 c q]
    · obtain ⟨x, y, hx, hy, rfl⟩ := hf.2 c (by omega)
      rw [a4 x y hx hy, b4 x y hx hy]
  rw [e1, e2, e3]
theorem full_u {p m m' : Nat} {k : Nat → Nat → Nat} (h1 : full p k m) (h2 : full p k m') : m = m' := by
  obtain ⟨x, y, hx, hy, e⟩ := h1.2 m (Nat.le_refl _)
  obtain ⟨x', y', hx', hy', e'⟩ := h2.2 m' (Nat.le_refl _)
  have a := h2.1 x y hx hy
  have b := h1.1 x' y' hx' hy'
  omega
theorem SCT_WT {p m : Nat} {k : Nat → Nat → Nat} {T : ZT} (h1p : 1 ≤ p) (hpp : p ≤ 12) (hm : m < 6) (hf : full p k m) (h2 : W2 p k) (h5 : W5 p k) (h : SCT p k (m + 1) T) : WT T := by
  obtain ⟨a1, a2, a3, a4, a5⟩ := h
  have hkm : ∀ x y, x < p → y < p → k x y < m + 1 := fun x y hx hy => by have := hf.1 x y hx hy; omega
  have hz : ∀ i j c, (T.1 ≤ i ∨ T.1 ≤ j ∨ T.1 ≤ c) → T.2.1 i j c = 0 := by
    intro i j c h
    rw [a1] at h
    by_cases q : m + 1 ≤ c
    · exact a3 i j c q
    · obtain ⟨x, y, hx, hy, rfl⟩ := hf.2 c (by omega)
      rw [a2 x y hx hy, cnt_z hkm hx hy (by omega)]
  refine ⟨by omega, by omega, fun i j c => ?_, fun i hi => ?_, fun i j c => ?_, hz, fun i c hi => ?_, ?_⟩
  · by_cases q : m + 1 ≤ c
    · rw [a3 i j c q]; omega
    · obtain ⟨x, y, hx, hy, rfl⟩ := hf.2 c (by omega)
      rw [a2 x y hx hy]
      have := cnt_le p k x y i j p
      omega
  · obtain ⟨x, y, hx, hy, rfl⟩ := hf.2 i (by omega)
    rw [a4 x y hx hy, a1]
    exact hkm y x hy hx
  · by_cases q : m + 1 ≤ c
    · rw [a3 i j c q, a3 j i c q]
    · by_cases q2 : i < m + 1 ∧ j < m + 1
      · obtain ⟨x, y, hx, hy, rfl⟩ := hf.2 c (by omega)
        rw [a2 x y hx hy, a2 x y hx hy]
        exact h5 x y hx hy i j (by omega) (by omega)
      · rw [hz i j c (by omega), hz j i c (by omega)]
  · by_cases q : m + 1 ≤ c
    · rw [a3 _ _ _ q, if_neg (by omega)]
    · obtain ⟨x, y, hx, hy, rfl⟩ := hf.2 c (by omega)
      rw [a2 x y hx hy]
      unfold cnt
      rw [zns_one hx (fun z hz hne => if_neg (fun e => hne ((h2 x z hx hz).mp e.1).symm))]
      have h0 := (h2 x x hx hx).mpr rfl
      by_cases q3 : i = k x y
      · rw [if_pos q3, if_pos ⟨h0, q3.symm⟩]
      · rw [if_neg q3, if_neg (fun e => q3 e.2.symm)]
  · have h0 := (h2 0 0 (by omega) (by omega)).mpr rfl
    have := a4 0 0 (by omega) (by omega)
    rw [h0] at this
    exact this
/-- what the arrays hold in the end -/
theorem SCT_rd {p m b : Nat} {k : Nat → Nat → Nat} {g t r : Nat → Int32} (hpp : p ≤ 12) (hm : m < 6) (hf : full p k m) (hc : CI p k p 0 b g) (ht : TI p k p 0 t) (hr : ∀ i, i < 6 → r i = if i < m + 1 then t i else zn 0) : SCT p k (m + 1) (rdT (m + 1) g r) ∧ zt_rep (rdT (m + 1) g r) g r := by
  have hkm : ∀ x y, x < p → y < p → k x y < m + 1 := fun x y hx hy => by have := hf.1 x y hx hy; omega
  have hG : ∀ x y, x < p → y < p → ∀ i j, i < 6 → j < 6 → g ((i * 6 + j) * 6 + k x y) = zn (cnt p k x y i j p) := fun x y hx hy => hc.2.1 x y (bef_e.mpr ⟨hx, hy⟩)
  have hZ : ∀ i j c, i < 6 → j < 6 → c < 6 → m + 1 ≤ c → g ((i * 6 + j) * 6 + c) = zn 0 := fun i j c hi hj hc1 h => hc.2.2 c hc1 (fun x y hb e => by
    have h1 := bef_e.mp hb
    have := hkm x y h1.1 h1.2
    omega) i j hi hj
  have hT : ∀ x y, x < p → y < p → r (k x y) = zn (k y x) := fun x y hx hy => by
    have h1 := hkm x y hx hy
    rw [hr _ (by omega), if_pos h1]
    exact ht.1 x y (bef_e.mpr ⟨hx, hy⟩)
  refine ⟨⟨rfl, fun x y hx hy i j => ?_, fun i j c h => ?_, fun x y hx hy => ?_, fun c h => ?_⟩, fun i j c hi hj hc1 => ?_, fun i hi => ?_⟩
  · have h1 := hkm x y hx hy
    show (if i < 6 ∧ j < 6 ∧ k x y < 6 then _ else 0) = _
    by_cases q : i < 6 ∧ j < 6
    · have := cnt_le p k x y i j p
      rw [if_pos ⟨q.1, q.2, by omega⟩, hG x y hx hy i j q.1 q.2, zn_clamp _ (by omega)]
    · rw [if_neg (by omega), cnt_z hkm hx hy (by omega)]
  · show (if i < 6 ∧ j < 6 ∧ c < 6 then _ else 0) = _
    by_cases q : i < 6 ∧ j < 6 ∧ c < 6
    · rw [if_pos q, hZ i j c q.1 q.2.1 q.2.2 h, zn_clamp _ (by omega)]
    · rw [if_neg q]
  · have h1 := hkm x y hx hy
    have h2 := hkm y x hy hx
    show (if k x y < 6 then _ else 0) = _
    rw [if_pos (by omega), hT x y hx hy, zn_clamp _ (by omega)]
  · show (if c < 6 then _ else 0) = _
    by_cases q : c < 6
    · rw [if_pos q, hr c q, if_neg (by omega), zn_clamp _ (by omega)]
    · rw [if_neg q]
  · show _ = zn (if i < 6 ∧ j < 6 ∧ c < 6 then _ else 0)
    rw [if_pos ⟨hi, hj, hc1⟩]
    by_cases q : m + 1 ≤ c
    · rw [hZ i j c hi hj hc1 q, zn_clamp _ (by omega)]
    · obtain ⟨x, y, hx, hy, rfl⟩ := hf.2 c (by omega)
      have := cnt_le p k x y i j p
      rw [hG x y hx hy i j hi hj, zn_clamp _ (by omega)]
  · show _ = zn (if i < 6 then _ else 0)
    rw [if_pos hi]
    by_cases q : m + 1 ≤ i
    · rw [hr i hi, if_neg (by omega), zn_clamp _ (by omega)]
    · obtain ⟨x, y, hx, hy, rfl⟩ := hf.2 i (by omega)
      have := hkm y x hy hx
      rw [hT x y hx hy, zn_clamp _ (by omega)]
theorem evz_W5 {p m b : Nat} {k : Nat → Nat → Nat} {g : Nat → Int32} (hpp : p ≤ 12) (hm : m < 6) (hf : full p k m) (hc : CI p k p 0 b g) : zall (fun x => zall (fun y => zall (evz g x y) 0 (m + 1)) 0 x) 0 (m + 1) = true ↔ W5 p k := by
  have hkm : ∀ x y, x < p → y < p → k x y < m + 1 := fun x y hx hy => by have := hf.1 x y hx hy; omega
  have hG : ∀ x y, x < p → y < p → ∀ i j, i < 6 → j < 6 → g ((i * 6 + j) * 6 + k x y) = zn (cnt p k x y i j p) := fun x y hx hy => hc.2.1 x y (bef_e.mpr ⟨hx, hy⟩)
  have hE : ∀ x y, x < p → y < p → ∀ i j, i < 6 → j < 6 → (evz g i j (k x y) = true ↔ cnt p k x y i j p = cnt p k x y j i p) := by
    intro x y hx hy i j hi hj
    unfold evz
    have h1 := cnt_le p k x y i j p
    have h2 := cnt_le p k x y j i p
    rw [decide_eq_true_eq, hG x y hx hy i j hi hj, hG x y hx hy j i hj hi, zn_eq _ _ (by omega) (by omega)]
  constructor
  · intro h x y hx hy
    have hlt : ∀ i j, j < i → i < 6 → cnt p k x y i j p = cnt p k x y j i p := by
      intro i j hji hi
      by_cases q : i < m + 1
      · have h1 := (zall_iff _ (m + 1) 0).mp h i (by omega) (by omega)
        have h2 := (zall_iff _ i 0).mp h1 j (by omega) (by omega)
        have h3 := (zall_iff _ (m + 1) 0).mp h2 (k x y) (by omega) (by have := hkm x y hx hy; omega)
        exact (hE x y hx hy i j hi (by omega)).mp h3
      · rw [cnt_z hkm hx hy (by omega), cnt_z hkm hx hy (by omega)]
    intro i j hi hj
    rcases Nat.lt_trichotomy i j with q | q | q
    · exact (hlt j i q hj).symm
    · rw [q]
    · exact hlt i j q hi
  · intro h
    rw [zall_iff]
    intro i _ hi
    rw [zall_iff]
    intro j _ hj
    rw [zall_iff]
    intro c _ hc1
    obtain ⟨x, y, hx, hy, rfl⟩ := hf.2 c (by omega)
    exact (hE x y hx hy i j (by omega) (by omega)).mpr (h x y hx hy i j (by omega) (by omega))
section CF
variable {n s : Nat} {c : Nat → mq_E} {I : Nat → Int32} {J : Nat → Int64} {A : Nat → Nat → Int32} {B : Nat → Nat → Int64} {R : Nat → Value} {Q : Nat → Nat → Option Nat}
variable {V : Nat → Nat → Int32} {k : Nat → Nat → Nat} {p a m : Nat} {g : Nat → Int32}
theorem C_prl (ha : 46 ≤ a) (hm : m ≤ 6) (d : Nat) (u : Nat → Nat) (hu : ∀ i, i < m → A 12 i = zn (u i) ∧ u i < m) : ∀ (e i : Nat) (r : Nat → Int32), i + e = m → mz (d + 2) 4 60 [some (.ref 10), some (.int (zn m)), some (.ref a), some (.int (zn i))] [] (hp n s (tc c a m g r) I J A B R Q) = some (some (some (.int (zn 0))), hp n s (tc c a m g (zfl (A 12) r i e)) I J A B (zu R 504 (.ref a)) Q)
  | 0, i, r, hi => by
    have e : i = m := by omega
    subst e
    simp (disch := first | omega | exact zb_1 | exact zb_0 | exact zb_n1 | exact zb_n0) only [x4_60, x4_61, x4_62, x4_88, x4_89, x4_90, x4_93, x4_94, mq_dl_int, mq_dl_ref, mq_dl_null, mq_dl_none, mc_some, Option.toList_some, Option.toList_none, List.cons_append, List.nil_append, zb_1, zb_0, ↓reduceIte, if_true, if_false, not_true_eq_false, not_false_eq_true, Bool.false_eq_true, z_10, z_01, eq_self, Bool.and_self, true_or, or_true, false_or, or_false, true_and, and_true, false_and, and_false, and_self, or_self, Nat.reduceLT, Nat.reduceEqDiff, Nat.reduceLeDiff, Nat.reduceAdd, Nat.reduceMul, Nat.reduceSub, zn_lit, zn_add, zn_mul, zn_sub, zn_addneg, zn_lt, zn_le, zn_eq, zn_clamp, zn_in, zn_long, hp_1, hp_21, upd_zu, updL_zu, updQ_zu, zu_eq, zu_ne, ho_0, ho_0_0, hf_0_0, ho_0_1, hf_0_1, ho_0_2, hf_0_2, ho_0_3, hf_0_3, ho_0_4, hf_0_4, ho_0_5, hf_0_5, ho_0_6, hf_0_6, ho_0_7, hf_0_7, hk_0_7, hw_0_7, ho_1, ho_1_0, hf_1_0, ho_1_1, hf_1_1, hk_1_1, hw_1_1, ho_1_2, hf_1_2, hk_1_2, hw_1_2, ho_1_3, hf_1_3, hk_1_3, hw_1_3, ho_1_4, hf_1_4, hk_1_4, hw_1_4, ho_1_5, hf_1_5, hk_1_5, hw_1_5, hn_2, hi_2, hg_2, hu_2, ho_3, ho_3_0, hf_3_0, ho_3_1, hf_3_1, ho_3_2, hf_3_2, hk_3_2, hw_3_2, ho_3_3, hf_3_3, hk_3_3, hw_3_3, hn_4, hi_4, hj_4, hg_4, hu_4, ho_5, ho_5_0, hf_5_0, ho_5_1, hf_5_1, ho_5_2, hf_5_2, ho_5_3, hf_5_3, hk_5_3, hw_5_3, ho_6, ho_6_0, hf_6_0, ho_6_1, hf_6_1, ho_6_2, hf_6_2, ho_6_3, hf_6_3, hk_6_3, hw_6_3, hn_7, hi_7, hj_7, hg_7, hu_7, hn_8, hi_8, hj_8, hg_8, hu_8, hn_9, hi_9, hj_9, hg_9, hu_9, ho_10, ho_10_0, hf_10_0, ho_10_1, hf_10_1, ho_10_2, hf_10_2, ho_10_3, hf_10_3, hk_10_3, hw_10_3, ho_10_4, hf_10_4, hk_10_4, hkN_10_4, hw_10_4, hn_11, hi_11, hj_11, hg_11, hu_11, hn_12, hi_12, hj_12, hg_12, hu_12, hn_13, hi_13, hj_13, hg_13, hu_13, hn_14, hi_14, hg_14, hu_14, hn_15, hi_15, hg_15, hu_15, ho_16, ho_16_0, hf_16_0, ho_16_1, hf_16_1, ho_16_2, hf_16_2, hk_16_2, hw_16_2, ho_16_3, hf_16_3, hk_16_3, hw_16_3, ho_16_4, hf_16_4, hk_16_4, hkN_16_4, hw_16_4, hn_17, hi_17, hg_17, hu_17, hn_18, hi_18, hg_18, hu_18, hn_22, hi_22, hg_22, hu_22, zfl_0, Nat.le_refl]
  | e + 1, i, r, hi => by
    have h1 := hu i (by omega)
    have hr := B_rev (n := n) (s := s) (c := c) (I := I) (J := J) (A := A) (B := B) (R := R) (Q := Q) (g := g) (r := r) ha hm d i (u i) (by omega) h1.2
    rw [← zfl_s, h1.1, ← C_prl ha hm d u hu e (i + 1) _ (by omega), x4_60]
    simp (disch := first | omega | exact zb_1 | exact zb_0 | exact zb_n1 | exact zb_n0) only [x4_61, x4_62, x4_65, x4_66, x4_68, x4_71, x4_72, x4_73, x4_74, x4_77, x4_78, x4_79, x4_82, x4_85, mq_dl_int, mq_dl_ref, mq_dl_null, mq_dl_none, mc_some, Option.toList_some, Option.toList_none, List.cons_append, List.nil_append, zb_1, zb_0, ↓reduceIte, if_true, if_false, not_true_eq_false, not_false_eq_true, Bool.false_eq_true, z_10, z_01, eq_self, Bool.and_self, true_or, or_true, false_or, or_false, true_and, and_true, false_and, and_false, and_self, or_self, Nat.reduceLT, Nat.reduceEqDiff, Nat.reduceLeDiff, Nat.reduceAdd, Nat.reduceMul, Nat.reduceSub, zn_lit, zn_add, zn_mul, zn_sub, zn_addneg, zn_lt, zn_le, zn_eq, zn_clamp, zn_in, zn_long, hp_1, hp_21, upd_zu, updL_zu, updQ_zu, zu_eq, zu_ne, ho_0, ho_0_0, hf_0_0, ho_0_1, hf_0_1, ho_0_2, hf_0_2, ho_0_3, hf_0_3, ho_0_4, hf_0_4, ho_0_5, hf_0_5, ho_0_6, hf_0_6, ho_0_7, hf_0_7, hk_0_7, hw_0_7, ho_1, ho_1_0, hf_1_0, ho_1_1, hf_1_1, hk_1_1, hw_1_1, ho_1_2, hf_1_2, hk_1_2, hw_1_2, ho_1_3, hf_1_3, hk_1_3, hw_1_3, ho_1_4, hf_1_4, hk_1_4, hw_1_4, ho_1_5, hf_1_5, hk_1_5, hw_1_5, hn_2, hi_2, hg_2, hu_2, ho_3, ho_3_0, hf_3_0, ho_3_1, hf_3_1, ho_3_2, hf_3_2, hk_3_2, hw_3_2, ho_3_3, hf_3_3, hk_3_3, hw_3_3, hn_4, hi_4, hj_4, hg_4, hu_4, ho_5, ho_5_0, hf_5_0, ho_5_1, hf_5_1, ho_5_2, hf_5_2, ho_5_3, hf_5_3, hk_5_3, hw_5_3, ho_6, ho_6_0, hf_6_0, ho_6_1, hf_6_1, ho_6_2, hf_6_2, ho_6_3, hf_6_3, hk_6_3, hw_6_3, hn_7, hi_7, hj_7, hg_7, hu_7, hn_8, hi_8, hj_8, hg_8, hu_8, hn_9, hi_9, hj_9, hg_9, hu_9, ho_10, ho_10_0, hf_10_0, ho_10_1, hf_10_1, ho_10_2, hf_10_2, ho_10_3, hf_10_3, hk_10_3, hw_10_3, ho_10_4, hf_10_4, hk_10_4, hkN_10_4, hw_10_4, hn_11, hi_11, hj_11, hg_11, hu_11, hn_12, hi_12, hj_12, hg_12, hu_12, hn_13, hi_13, hj_13, hg_13, hu_13, hn_14, hi_14, hg_14, hu_14, hn_15, hi_15, hg_15, hu_15, ho_16, ho_16_0, hf_16_0, ho_16_1, hf_16_1, ho_16_2, hf_16_2, hk_16_2, hw_16_2, ho_16_3, hf_16_3, hk_16_3, hw_16_3, ho_16_4, hf_16_4, hk_16_4, hkN_16_4, hw_16_4, hn_17, hi_17, hg_17, hu_17, hn_18, hi_18, hg_18, hu_18, hn_22, hi_22, hg_22, hu_22, tc_0 ha, h1.1, hr, show ¬ m ≤ i by omega, show ¬ 6 ≤ i by omega, show i < 6 by omega, decide_true]
theorem C_find (hV : ∀ x y, x < p → y < p → A 11 (x * 12 + y) = V x y) (hk : ∀ x y, k x y = (V x y).toNatClampNeg) (h1p : 1 ≤ p) (hpp : p ≤ 12) (hI : I 503 = zn p) (hn : 46 ≤ n) (d : Nat) : ∃ w n' s' c' A' R', WHY p V k w ∧ n ≤ n' ∧ n' ≤ n + 3 ∧ s ≤ s' ∧ s' ≤ s + 231 ∧ (∀ b, b < n ∨ n' ≤ b → c' b = c b) ∧ (∀ q, q ≠ 12 → q ≠ 13 → A' q = A q) ∧ (∀ q, q ≠ 504 → R' q = R q) ∧ (w = 0 → ∃ m T, m < 6 ∧ full p k m ∧ SCT p k (m + 1) T ∧ WT T ∧ TB c' n T ∧ c' n = tbo T.1 n (-1) 0 0 0 .null .null ∧ n + 2 < n' ∧ R' 504 = .ref n) ∧ (¬ w = 0 → R' = R) ∧ mz (d + 4) 4 0 [some (.ref 10), none, none, none] [] (hp n s c I J A B R Q) = some (some (some (.int (zn w))), hp n' s' c' I J A' B R' Q) := by
  rcases C_count1 (n := n) (s := s) (c := c) (J := J) (B := B) (R := R) (Q := Q) hV hk h1p hpp hI (d + 2) with ⟨hin, m, hm, hf, e1⟩ | ⟨hno, e1⟩
  · have hV' : ∀ x y, x < p → y < p → A 11 (x * 12 + y) = zn (k x y) := fun x y hx hy => by rw [hV x y hx hy, (hin x y hx hy).1]
    have hk6 : ∀ x y, x < p → y < p → k x y < 6 := fun x y hx hy => (hin x y hx hy).2
    have hkm : ∀ x y, x < p → y < p → k x y < m + 1 := fun x y hx hy => by have := hf.1 x y hx hy; omega
    have w1 : W1 p V k := ⟨hin, m, hm, hf⟩
    have e2 := C_zso (n := n) (s := s) (c := c) (J := J) (B := B) (R := R) (Q := Q) hV' hk6 hpp hI (d + 2) p 0 none (by omega)
    have e2' : mz (d + 3) 7 0 [some (.ref 10), none, none] [] (hp n s c I J A B R Q) = mz (d + 3) 7 2 [some (.ref 10), some (.int (zn 0)), none] [] (hp n s c I J A B R Q) := by
      simp (disch := first | omega | exact zb_1 | exact zb_0 | exact zb_n1 | exact zb_n0) only [x7_0, x7_1, mq_dl_int, mq_dl_ref, mq_dl_null, mq_dl_none, mc_some, Option.toList_some, Option.toList_none, List.cons_append, List.nil_append, zb_1, zb_0, ↓reduceIte, if_true, if_false, not_true_eq_false, not_false_eq_true, Bool.false_eq_true, z_10, z_01, eq_self, Bool.and_self, true_or, or_true, false_or, or_false, true_and, and_true, false_and, and_false, and_self, or_self, Nat.reduceLT, Nat.reduceEqDiff, Nat.reduceLeDiff, Nat.reduceAdd, Nat.reduceMul, Nat.reduceSub, zn_lit, zn_add, zn_mul, zn_sub, zn_addneg, zn_lt, zn_le, zn_eq, zn_clamp, zn_in, zn_long]
    rw [← e2'] at e2
    have hw2 : zall (fun x => zall (fun y => decide ((k x y = 0) ↔ (x = y))) 0 p) 0 p = true ↔ W2 p k := by
      rw [zall_iff]
      constructor
      · intro h x y hx hy
        have h1 := (zall_iff _ p 0).mp (h x (by omega) (by omega)) y (by omega) (by omega)
        exact of_decide_eq_true h1
      · intro h x _ hx
        rw [zall_iff]
        intro y _ hy
        exact decide_eq_true (h x y (by omega) (by omega))
    cases hb2 : zall (fun x => zall (fun y => decide ((k x y = 0) ↔ (x = y))) 0 p) 0 p with
    | false =>
      rw [hb2, zo_f] at e2
      refine ⟨2, n, s, c, A, R, Or.inr (Or.inl ⟨rfl, w1, fun h => ?_⟩), by omega, by omega, by omega, by omega, fun _ _ => rfl, fun _ _ _ => rfl, fun _ _ => rfl, fun h => by omega, fun _ => rfl, ?_⟩
      · rw [hw2.mpr h] at hb2; cases hb2
      · simp (disch := first | omega | exact zb_1 | exact zb_0 | exact zb_n1 | exact zb_n0) only [x4_0, x4_1, x4_4, x4_5, x4_6, x4_7, x4_12, x4_13, x4_16, x4_19, x4_20, mq_dl_int, mq_dl_ref, mq_dl_null, mq_dl_none, mc_some, Option.toList_some, Option.toList_none, List.cons_append, List.nil_append, zb_1, zb_0, ↓reduceIte, if_true, if_false, not_true_eq_false, not_false_eq_true, Bool.false_eq_true, z_10, z_01, eq_self, Bool.and_self, true_or, or_true, false_or, or_false, true_and, and_true, false_and, and_false, and_self, or_self, Nat.reduceLT, Nat.reduceEqDiff, Nat.reduceLeDiff, Nat.reduceAdd, Nat.reduceMul, Nat.reduceSub, zn_lit, zn_add, zn_mul, zn_sub, zn_addneg, zn_lt, zn_le, zn_eq, zn_clamp, zn_in, zn_long, hp_1, hp_21, upd_zu, updL_zu, updQ_zu, zu_eq, zu_ne, ho_0, ho_0_0, hf_0_0, ho_0_1, hf_0_1, ho_0_2, hf_0_2, ho_0_3, hf_0_3, ho_0_4, hf_0_4, ho_0_5, hf_0_5, ho_0_6, hf_0_6, ho_0_7, hf_0_7, hk_0_7, hw_0_7, ho_1, ho_1_0, hf_1_0, ho_1_1, hf_1_1, hk_1_1, hw_1_1, ho_1_2, hf_1_2, hk_1_2, hw_1_2, ho_1_3, hf_1_3, hk_1_3, hw_1_3, ho_1_4, hf_1_4, hk_1_4, hw_1_4, ho_1_5, hf_1_5, hk_1_5, hw_1_5, hn_2, hi_2, hg_2, hu_2, ho_3, ho_3_0, hf_3_0, ho_3_1, hf_3_1, ho_3_2, hf_3_2, hk_3_2, hw_3_2, ho_3_3, hf_3_3, hk_3_3, hw_3_3, hn_4, hi_4, hj_4, hg_4, hu_4, ho_5, ho_5_0, hf_5_0, ho_5_1, hf_5_1, ho_5_2, hf_5_2, ho_5_3, hf_5_3, hk_5_3, hw_5_3, ho_6, ho_6_0, hf_6_0, ho_6_1, hf_6_1, ho_6_2, hf_6_2, ho_6_3, hf_6_3, hk_6_3, hw_6_3, hn_7, hi_7, hj_7, hg_7, hu_7, hn_8, hi_8, hj_8, hg_8, hu_8, hn_9, hi_9, hj_9, hg_9, hu_9, ho_10, ho_10_0, hf_10_0, ho_10_1, hf_10_1, ho_10_2, hf_10_2, ho_10_3, hf_10_3, hk_10_3, hw_10_3, ho_10_4, hf_10_4, hk_10_4, hkN_10_4, hw_10_4, hn_11, hi_11, hj_11, hg_11, hu_11, hn_12, hi_12, hj_12, hg_12, hu_12, hn_13, hi_13, hj_13, hg_13, hu_13, hn_14, hi_14, hg_14, hu_14, hn_15, hi_15, hg_15, hu_15, ho_16, ho_16_0, hf_16_0, ho_16_1, hf_16_1, ho_16_2, hf_16_2, hk_16_2, hw_16_2, ho_16_3, hf_16_3, hk_16_3, hw_16_3, ho_16_4, hf_16_4, hk_16_4, hkN_16_4, hw_16_4, hn_17, hi_17, hg_17, hu_17, hn_18, hi_18, hg_18, hu_18, hn_22, hi_22, hg_22, hu_22, e1, e2, zn_m1]
    | true =>
      rw [hb2, zo_t] at e2
      have q2 := hw2.mp hb2
      rcases C_turn (n := n) (s := s) (c := c) (I := I) (J := J) (B := B) (R := R) (Q := Q) hV' hk6 hpp hI (d + 2) with ⟨t, ht, e3⟩ | ⟨q3, t, e3⟩
      · have q3 := TI_w3 hk6 ht
        have hVt : ∀ x y, x < p → y < p → (zu A 12 t) 11 (x * 12 + y) = zn (k x y) := fun x y h1 h2 => by rw [zu_ne _ _ _ _ (by omega)]; exact hV' x y h1 h2
        have e4 := T_new (s := s + 9) (c := c) (I := I) (J := J) (A := zu A 12 t) (B := B) (R := R) (Q := Q) (a := n) hn (show 1 ≤ m + 1 by omega) (show m + 1 ≤ 6 by omega) (d + 2)
        obtain ⟨z0, hz0⟩ : ∃ z0 : Nat → Int32, z0 = fun _ => 0 := ⟨_, rfl⟩
        rw [← hz0] at e4
        have es : mz (d + 4) 4 0 [some (.ref 10), none, none, none] [] (hp n s c I J A B R Q) = mz (d + 4) 4 39 [some (.ref 10), some (.int (zn (m + 1))), some (.ref n), none] [] (hp (n + 3) (s + 9 + 222) (tc c n (m + 1) z0 (zfl zn z0 0 (m + 1))) I J (zu A 12 t) B R Q) := by
          simp (disch := first | omega | exact zb_1 | exact zb_0 | exact zb_n1 | exact zb_n0) only [x4_0, x4_1, x4_4, x4_5, x4_6, x4_7, x4_12, x4_13, x4_16, x4_21, x4_22, x4_25, x4_30, x4_33, x4_34, x4_35, x4_38, mq_dl_int, mq_dl_ref, mq_dl_null, mq_dl_none, mc_some, Option.toList_some, Option.toList_none, List.cons_append, List.nil_append, zb_1, zb_0, ↓reduceIte, if_true, if_false, not_true_eq_false, not_false_eq_true, Bool.false_eq_true, z_10, z_01, eq_self, Bool.and_self, true_or, or_true, false_or, or_false, true_and, and_true, false_and, and_false, and_self, or_self, Nat.reduceLT, Nat.reduceEqDiff, Nat.reduceLeDiff, Nat.reduceAdd, Nat.reduceMul, Nat.reduceSub, zn_lit, zn_add, zn_mul, zn_sub, zn_addneg, zn_lt, zn_le, zn_eq, zn_clamp, zn_in, zn_long, hp_1, hp_21, upd_zu, updL_zu, updQ_zu, zu_eq, zu_ne, ho_0, ho_0_0, hf_0_0, ho_0_1, hf_0_1, ho_0_2, hf_0_2, ho_0_3, hf_0_3, ho_0_4, hf_0_4, ho_0_5, hf_0_5, ho_0_6, hf_0_6, ho_0_7, hf_0_7, hk_0_7, hw_0_7, ho_1, ho_1_0, hf_1_0, ho_1_1, hf_1_1, hk_1_1, hw_1_1, ho_1_2, hf_1_2, hk_1_2, hw_1_2, ho_1_3, hf_1_3, hk_1_3, hw_1_3, ho_1_4, hf_1_4, hk_1_4, hw_1_4, ho_1_5, hf_1_5, hk_1_5, hw_1_5, hn_2, hi_2, hg_2, hu_2, ho_3, ho_3_0, hf_3_0, ho_3_1, hf_3_1, ho_3_2, hf_3_2, hk_3_2, hw_3_2, ho_3_3, hf_3_3, hk_3_3, hw_3_3, hn_4, hi_4, hj_4, hg_4, hu_4, ho_5, ho_5_0, hf_5_0, ho_5_1, hf_5_1, ho_5_2, hf_5_2, ho_5_3, hf_5_3, hk_5_3, hw_5_3, ho_6, ho_6_0, hf_6_0, ho_6_1, hf_6_1, ho_6_2, hf_6_2, ho_6_3, hf_6_3, hk_6_3, hw_6_3, hn_7, hi_7, hj_7, hg_7, hu_7, hn_8, hi_8, hj_8, hg_8, hu_8, hn_9, hi_9, hj_9, hg_9, hu_9, ho_10, ho_10_0, hf_10_0, ho_10_1, hf_10_1, ho_10_2, hf_10_2, ho_10_3, hf_10_3, hk_10_3, hw_10_3, ho_10_4, hf_10_4, hk_10_4, hkN_10_4, hw_10_4, hn_11, hi_11, hj_11, hg_11, hu_11, hn_12, hi_12, hj_12, hg_12, hu_12, hn_13, hi_13, hj_13, hg_13, hu_13, hn_14, hi_14, hg_14, hu_14, hn_15, hi_15, hg_15, hu_15, ho_16, ho_16_0, hf_16_0, ho_16_1, hf_16_1, ho_16_2, hf_16_2, hk_16_2, hw_16_2, ho_16_3, hf_16_3, hk_16_3, hw_16_3, ho_16_4, hf_16_4, hk_16_4, hkN_16_4, hw_16_4, hn_17, hi_17, hg_17, hu_17, hn_18, hi_18, hg_18, hu_18, hn_22, hi_22, hg_22, hu_22, e1, e2, e3, hp_1, hp_mkB, e4, zn_m1]
        have hal := C_alike (n := n + 3) (s := s + 9 + 222) (c := c) (I := I) (J := J) (B := B) (R := R) (Q := Q) (r := zfl zn z0 0 (m + 1)) hVt hkm (show m + 1 ≤ 6 by omega) hpp hI hn d
        rw [← hz0] at hal
        rcases hal with ⟨b, g, t', hc, e5⟩ | ⟨q4, g, t', e5⟩
        · have q4 := CI_w4 hpp hc
          have e6 := C_even (n := n + 3) (s := s + 9 + 222) (c := c) (I := I) (J := J) (A := zu (zu A 12 t) 13 t') (B := B) (R := R) (Q := Q) (g := g) (r := zfl zn z0 0 (m + 1)) hn (show m + 1 ≤ 6 by omega) (d + 2)
          have hw5 := evz_W5 hpp hm hf hc
          cases hb5 : zall (fun x => zall (fun y => zall (evz g x y) 0 (m + 1)) 0 x) 0 (m + 1) with
          | false =>
            rw [hb5, zo_f] at e6
            refine ⟨5, n + 3, s + 9 + 222, tc c n (m + 1) g (zfl zn z0 0 (m + 1)), zu (zu A 12 t) 13 t', R, Or.inr (Or.inr (Or.inr (Or.inr (Or.inl ⟨rfl, w1, q2, q3, q4, fun h => ?_⟩)))), by omega, by omega, by omega, by omega, fun b hb => tc_ne b (by omega), fun q h1 h2 => by rw [zu_ne _ _ _ _ h2, zu_ne _ _ _ _ h1], fun _ _ => rfl, fun h => by omega, fun _ => rfl, es.trans ?_⟩
            · rw [hw5.mpr h] at hb5; cases hb5
            · simp (disch := first | omega | exact zb_1 | exact zb_0 | exact zb_n1 | exact zb_n0) only [x4_39, x4_40, x4_41, x4_44, x4_49, x4_50, x4_53, x4_56, x4_57, mq_dl_int, mq_dl_ref, mq_dl_null, mq_dl_none, mc_some, Option.toList_some, Option.toList_none, List.cons_append, List.nil_append, zb_1, zb_0, ↓reduceIte, if_true, if_false, not_true_eq_false, not_false_eq_true, Bool.false_eq_true, z_10, z_01, eq_self, Bool.and_self, true_or, or_true, false_or, or_false, true_and, and_true, false_and, and_false, and_self, or_self, Nat.reduceLT, Nat.reduceEqDiff, Nat.reduceLeDiff, Nat.reduceAdd, Nat.reduceMul, Nat.reduceSub, zn_lit, zn_add, zn_mul, zn_sub, zn_addneg, zn_lt, zn_le, zn_eq, zn_clamp, zn_in, zn_long, hp_1, hp_21, upd_zu, updL_zu, updQ_zu, zu_eq, zu_ne, ho_0, ho_0_0, hf_0_0, ho_0_1, hf_0_1, ho_0_2, hf_0_2, ho_0_3, hf_0_3, ho_0_4, hf_0_4, ho_0_5, hf_0_5, ho_0_6, hf_0_6, ho_0_7, hf_0_7, hk_0_7, hw_0_7, ho_1, ho_1_0, hf_1_0, ho_1_1, hf_1_1, hk_1_1, hw_1_1, ho_1_2, hf_1_2, hk_1_2, hw_1_2, ho_1_3, hf_1_3, hk_1_3, hw_1_3, ho_1_4, hf_1_4, hk_1_4, hw_1_4, ho_1_5, hf_1_5, hk_1_5, hw_1_5, hn_2, hi_2, hg_2, hu_2, ho_3, ho_3_0, hf_3_0, ho_3_1, hf_3_1, ho_3_2, hf_3_2, hk_3_2, hw_3_2, ho_3_3, hf_3_3, hk_3_3, hw_3_3, hn_4, hi_4, hj_4, hg_4, hu_4, ho_5, ho_5_0, hf_5_0, ho_5_1, hf_5_1, ho_5_2, hf_5_2, ho_5_3, hf_5_3, hk_5_3, hw_5_3, ho_6, ho_6_0, hf_6_0, ho_6_1, hf_6_1, ho_6_2, hf_6_2, ho_6_3, hf_6_3, hk_6_3, hw_6_3, hn_7, hi_7, hj_7, hg_7, hu_7, hn_8, hi_8, hj_8, hg_8, hu_8, hn_9, hi_9, hj_9, hg_9, hu_9, ho_10, ho_10_0, hf_10_0, ho_10_1, hf_10_1, ho_10_2, hf_10_2, ho_10_3, hf_10_3, hk_10_3, hw_10_3, ho_10_4, hf_10_4, hk_10_4, hkN_10_4, hw_10_4, hn_11, hi_11, hj_11, hg_11, hu_11, hn_12, hi_12, hj_12, hg_12, hu_12, hn_13, hi_13, hj_13, hg_13, hu_13, hn_14, hi_14, hg_14, hu_14, hn_15, hi_15, hg_15, hu_15, ho_16, ho_16_0, hf_16_0, ho_16_1, hf_16_1, ho_16_2, hf_16_2, hk_16_2, hw_16_2, ho_16_3, hf_16_3, hk_16_3, hw_16_3, ho_16_4, hf_16_4, hk_16_4, hkN_16_4, hw_16_4, hn_17, hi_17, hg_17, hu_17, hn_18, hi_18, hg_18, hu_18, hn_22, hi_22, hg_22, hu_22, e5, e6]
          | true =>
            rw [hb5, zo_t] at e6
            have q5 := hw5.mp hb5
            have hu : ∀ i, i < m + 1 → ∃ u, t i = zn u ∧ u < m + 1 := by
              intro i hi
              obtain ⟨x, y, hx, hy, rfl⟩ := hf.2 i (by omega)
              exact ⟨k y x, ht.1 x y (bef_e.mpr ⟨hx, hy⟩), hkm y x hy hx⟩
            obtain ⟨u, hu⟩ : ∃ u : Nat → Nat, ∀ i, i < m + 1 → t i = zn (u i) ∧ u i < m + 1 := ⟨fun i => (t i).toNatClampNeg, fun i hi => by
              obtain ⟨u, h1, h2⟩ := hu i hi
              dsimp only
              rw [h1, zn_clamp _ (by omega)]
              exact ⟨rfl, h2⟩⟩
            have hA12 : (zu (zu A 12 t) 13 t') 12 = t := by rw [zu_ne _ _ _ _ (by omega), zu_eq]
            have e7 := C_prl (n := n + 3) (s := s + 9 + 222) (c := c) (I := I) (J := J) (A := zu (zu A 12 t) 13 t') (B := B) (R := R) (Q := Q) (g := g) hn (show m + 1 ≤ 6 by omega) (d + 2) u (by rw [hA12]; exact hu) (m + 1) 0 (zfl zn z0 0 (m + 1)) (by omega)
            rw [hA12] at e7
            have hr : ∀ i, i < 6 → (zfl t (zfl zn z0 0 (m + 1)) 0 (m + 1)) i = if i < m + 1 then t i else zn 0 := by
              intro i hi
              unfold zfl
              by_cases q : i < m + 1
              · rw [if_pos (by omega), if_pos q]
              · rw [if_neg (by omega), if_neg (by omega), if_neg q, hz0]; rfl
            obtain ⟨hS, hz⟩ := SCT_rd hpp hm hf hc ht hr
            refine ⟨0, n + 3, s + 9 + 222, tc c n (m + 1) g (zfl t (zfl zn z0 0 (m + 1)) 0 (m + 1)), zu (zu A 12 t) 13 t', zu R 504 (.ref n), Or.inr (Or.inr (Or.inr (Or.inr (Or.inr ⟨rfl, w1, q2, q3, q4, q5⟩)))), by omega, by omega, by omega, by omega, fun b hb => tc_ne b (by omega), fun q h1 h2 => by rw [zu_ne _ _ _ _ h2, zu_ne _ _ _ _ h1], fun q h1 => zu_ne _ _ _ _ h1, fun _ => ⟨m, _, hm, hf, hS, SCT_WT h1p hpp hm hf q2 q5 hS, ⟨Or.inl hn, ⟨_, _, _, _, _, _, tc_a⟩, _, _, tc_a1, tc_a2, hz⟩, tc_a, by omega, zu_eq _ _ _⟩, fun h => absurd rfl h, es.trans ?_⟩
            rw [← e7]
            simp (disch := first | omega | exact zb_1 | exact zb_0 | exact zb_n1 | exact zb_n0) only [x4_39, x4_40, x4_41, x4_44, x4_49, x4_50, x4_53, x4_58, x4_59, mq_dl_int, mq_dl_ref, mq_dl_null, mq_dl_none, mc_some, Option.toList_some, Option.toList_none, List.cons_append, List.nil_append, zb_1, zb_0, ↓reduceIte, if_true, if_false, not_true_eq_false, not_false_eq_true, Bool.false_eq_true, z_10, z_01, eq_self, Bool.and_self, true_or, or_true, false_or, or_false, true_and, and_true, false_and, and_false, and_self, or_self, Nat.reduceLT, Nat.reduceEqDiff, Nat.reduceLeDiff, Nat.reduceAdd, Nat.reduceMul, Nat.reduceSub, zn_lit, zn_add, zn_mul, zn_sub, zn_addneg, zn_lt, zn_le, zn_eq, zn_clamp, zn_in, zn_long, hp_1, hp_21, upd_zu, updL_zu, updQ_zu, zu_eq, zu_ne, ho_0, ho_0_0, hf_0_0, ho_0_1, hf_0_1, ho_0_2, hf_0_2, ho_0_3, hf_0_3, ho_0_4, hf_0_4, ho_0_5, hf_0_5, ho_0_6, hf_0_6, ho_0_7, hf_0_7, hk_0_7, hw_0_7, ho_1, ho_1_0, hf_1_0, ho_1_1, hf_1_1, hk_1_1, hw_1_1, ho_1_2, hf_1_2, hk_1_2, hw_1_2, ho_1_3, hf_1_3, hk_1_3, hw_1_3, ho_1_4, hf_1_4, hk_1_4, hw_1_4, ho_1_5, hf_1_5, hk_1_5, hw_1_5, hn_2, hi_2, hg_2, hu_2, ho_3, ho_3_0, hf_3_0, ho_3_1, hf_3_1, ho_3_2, hf_3_2, hk_3_2, hw_3_2, ho_3_3, hf_3_3, hk_3_3, hw_3_3, hn_4, hi_4, hj_4, hg_4, hu_4, ho_5, ho_5_0, hf_5_0, ho_5_1, hf_5_1, ho_5_2, hf_5_2, ho_5_3, hf_5_3, hk_5_3, hw_5_3, ho_6, ho_6_0, hf_6_0, ho_6_1, hf_6_1, ho_6_2, hf_6_2, ho_6_3, hf_6_3, hk_6_3, hw_6_3, hn_7, hi_7, hj_7, hg_7, hu_7, hn_8, hi_8, hj_8, hg_8, hu_8, hn_9, hi_9, hj_9, hg_9, hu_9, ho_10, ho_10_0, hf_10_0, ho_10_1, hf_10_1, ho_10_2, hf_10_2, ho_10_3, hf_10_3, hk_10_3, hw_10_3, ho_10_4, hf_10_4, hk_10_4, hkN_10_4, hw_10_4, hn_11, hi_11, hj_11, hg_11, hu_11, hn_12, hi_12, hj_12, hg_12, hu_12, hn_13, hi_13, hj_13, hg_13, hu_13, hn_14, hi_14, hg_14, hu_14, hn_15, hi_15, hg_15, hu_15, ho_16, ho_16_0, hf_16_0, ho_16_1, hf_16_1, ho_16_2, hf_16_2, hk_16_2, hw_16_2, ho_16_3, hf_16_3, hk_16_3, hw_16_3, ho_16_4, hf_16_4, hk_16_4, hkN_16_4, hw_16_4, hn_17, hi_17, hg_17, hu_17, hn_18, hi_18, hg_18, hu_18, hn_22, hi_22, hg_22, hu_22, e5, e6]
        · refine ⟨4, n + 3, s + 9 + 222, tc c n (m + 1) g (zfl zn z0 0 (m + 1)), zu (zu A 12 t) 13 t', R, Or.inr (Or.inr (Or.inr (Or.inl ⟨rfl, w1, q2, q3, q4⟩))), by omega, by omega, by omega, by omega, fun b hb => tc_ne b (by omega), fun q h1 h2 => by rw [zu_ne _ _ _ _ h2, zu_ne _ _ _ _ h1], fun _ _ => rfl, fun h => by omega, fun _ => rfl, es.trans ?_⟩
          simp (disch := first | omega | exact zb_1 | exact zb_0 | exact zb_n1 | exact zb_n0) only [x4_39, x4_40, x4_41, x4_44, x4_47, x4_48, mq_dl_int, mq_dl_ref, mq_dl_null, mq_dl_none, mc_some, Option.toList_some, Option.toList_none, List.cons_append, List.nil_append, zb_1, zb_0, ↓reduceIte, if_true, if_false, not_true_eq_false, not_false_eq_true, Bool.false_eq_true, z_10, z_01, eq_self, Bool.and_self, true_or, or_true, false_or, or_false, true_and, and_true, false_and, and_false, and_self, or_self, Nat.reduceLT, Nat.reduceEqDiff, Nat.reduceLeDiff, Nat.reduceAdd, Nat.reduceMul, Nat.reduceSub, zn_lit, zn_add, zn_mul, zn_sub, zn_addneg, zn_lt, zn_le, zn_eq, zn_clamp, zn_in, zn_long, hp_1, hp_21, upd_zu, updL_zu, updQ_zu, zu_eq, zu_ne, ho_0, ho_0_0, hf_0_0, ho_0_1, hf_0_1, ho_0_2, hf_0_2, ho_0_3, hf_0_3, ho_0_4, hf_0_4, ho_0_5, hf_0_5, ho_0_6, hf_0_6, ho_0_7, hf_0_7, hk_0_7, hw_0_7, ho_1, ho_1_0, hf_1_0, ho_1_1, hf_1_1, hk_1_1, hw_1_1, ho_1_2, hf_1_2, hk_1_2, hw_1_2, ho_1_3, hf_1_3, hk_1_3, hw_1_3, ho_1_4, hf_1_4, hk_1_4, hw_1_4, ho_1_5, hf_1_5, hk_1_5, hw_1_5, hn_2, hi_2, hg_2, hu_2, ho_3, ho_3_0, hf_3_0, ho_3_1, hf_3_1, ho_3_2, hf_3_2, hk_3_2, hw_3_2, ho_3_3, hf_3_3, hk_3_3, hw_3_3, hn_4, hi_4, hj_4, hg_4, hu_4, ho_5, ho_5_0, hf_5_0, ho_5_1, hf_5_1, ho_5_2, hf_5_2, ho_5_3, hf_5_3, hk_5_3, hw_5_3, ho_6, ho_6_0, hf_6_0, ho_6_1, hf_6_1, ho_6_2, hf_6_2, ho_6_3, hf_6_3, hk_6_3, hw_6_3, hn_7, hi_7, hj_7, hg_7, hu_7, hn_8, hi_8, hj_8, hg_8, hu_8, hn_9, hi_9, hj_9, hg_9, hu_9, ho_10, ho_10_0, hf_10_0, ho_10_1, hf_10_1, ho_10_2, hf_10_2, ho_10_3, hf_10_3, hk_10_3, hw_10_3, ho_10_4, hf_10_4, hk_10_4, hkN_10_4, hw_10_4, hn_11, hi_11, hj_11, hg_11, hu_11, hn_12, hi_12, hj_12, hg_12, hu_12, hn_13, hi_13, hj_13, hg_13, hu_13, hn_14, hi_14, hg_14, hu_14, hn_15, hi_15, hg_15, hu_15, ho_16, ho_16_0, hf_16_0, ho_16_1, hf_16_1, ho_16_2, hf_16_2, hk_16_2, hw_16_2, ho_16_3, hf_16_3, hk_16_3, hw_16_3, ho_16_4, hf_16_4, hk_16_4, hkN_16_4, hw_16_4, hn_17, hi_17, hg_17, hu_17, hn_18, hi_18, hg_18, hu_18, hn_22, hi_22, hg_22, hu_22, e5]
      · refine ⟨3, n, s, c, zu A 12 t, R, Or.inr (Or.inr (Or.inl ⟨rfl, w1, q2, q3⟩)), by omega, by omega, by omega, by omega, fun _ _ => rfl, fun q h1 _ => zu_ne _ _ _ _ h1, fun _ _ => rfl, fun h => by omega, fun _ => rfl, ?_⟩
        simp (disch := first | omega | exact zb_1 | exact zb_0 | exact zb_n1 | exact zb_n0) only [x4_0, x4_1, x4_4, x4_5, x4_6, x4_7, x4_12, x4_13, x4_16, x4_21, x4_22, x4_25, x4_28, x4_29, mq_dl_int, mq_dl_ref, mq_dl_null, mq_dl_none, mc_some, Option.toList_some, Option.toList_none, List.cons_append, List.nil_append, zb_1, zb_0, ↓reduceIte, if_true, if_false, not_true_eq_false, not_false_eq_true, Bool.false_eq_true, z_10, z_01, eq_self, Bool.and_self, true_or, or_true, false_or, or_false, true_and, and_true, false_and, and_false, and_self, or_self, Nat.reduceLT, Nat.reduceEqDiff, Nat.reduceLeDiff, Nat.reduceAdd, Nat.reduceMul, Nat.reduceSub, zn_lit, zn_add, zn_mul, zn_sub, zn_addneg, zn_lt, zn_le, zn_eq, zn_clamp, zn_in, zn_long, hp_1, hp_21, upd_zu, updL_zu, updQ_zu, zu_eq, zu_ne, ho_0, ho_0_0, hf_0_0, ho_0_1, hf_0_1, ho_0_2, hf_0_2, ho_0_3, hf_0_3, ho_0_4, hf_0_4, ho_0_5, hf_0_5, ho_0_6, hf_0_6, ho_0_7, hf_0_7, hk_0_7, hw_0_7, ho_1, ho_1_0, hf_1_0, ho_1_1, hf_1_1, hk_1_1, hw_1_1, ho_1_2, hf_1_2, hk_1_2, hw_1_2, ho_1_3, hf_1_3, hk_1_3, hw_1_3, ho_1_4, hf_1_4, hk_1_4, hw_1_4, ho_1_5, hf_1_5, hk_1_5, hw_1_5, hn_2, hi_2, hg_2, hu_2, ho_3, ho_3_0, hf_3_0, ho_3_1, hf_3_1, ho_3_2, hf_3_2, hk_3_2, hw_3_2, ho_3_3, hf_3_3, hk_3_3, hw_3_3, hn_4, hi_4, hj_4, hg_4, hu_4, ho_5, ho_5_0, hf_5_0, ho_5_1, hf_5_1, ho_5_2, hf_5_2, ho_5_3, hf_5_3, hk_5_3, hw_5_3, ho_6, ho_6_0, hf_6_0, ho_6_1, hf_6_1, ho_6_2, hf_6_2, ho_6_3, hf_6_3, hk_6_3, hw_6_3, hn_7, hi_7, hj_7, hg_7, hu_7, hn_8, hi_8, hj_8, hg_8, hu_8, hn_9, hi_9, hj_9, hg_9, hu_9, ho_10, ho_10_0, hf_10_0, ho_10_1, hf_10_1, ho_10_2, hf_10_2, ho_10_3, hf_10_3, hk_10_3, hw_10_3, ho_10_4, hf_10_4, hk_10_4, hkN_10_4, hw_10_4, hn_11, hi_11, hj_11, hg_11, hu_11, hn_12, hi_12, hj_12, hg_12, hu_12, hn_13, hi_13, hj_13, hg_13, hu_13, hn_14, hi_14, hg_14, hu_14, hn_15, hi_15, hg_15, hu_15, ho_16, ho_16_0, hf_16_0, ho_16_1, hf_16_1, ho_16_2, hf_16_2, hk_16_2, hw_16_2, ho_16_3, hf_16_3, hk_16_3, hw_16_3, ho_16_4, hf_16_4, hk_16_4, hkN_16_4, hw_16_4, hn_17, hi_17, hg_17, hu_17, hn_18, hi_18, hg_18, hu_18, hn_22, hi_22, hg_22, hu_22, e1, e2, e3, zn_m1]
  · refine ⟨1, n, s, c, A, R, Or.inl ⟨rfl, hno⟩, by omega, by omega, by omega, by omega, fun _ _ => rfl, fun _ _ _ => rfl, fun _ _ => rfl, fun h => by omega, fun _ => rfl, ?_⟩
    simp (disch := first | omega | exact zb_1 | exact zb_0 | exact zb_n1 | exact zb_n0) only [x4_0, x4_1, x4_4, x4_5, x4_6, x4_7, x4_10, x4_11, mq_dl_int, mq_dl_ref, mq_dl_null, mq_dl_none, mc_some, Option.toList_some, Option.toList_none, List.cons_append, List.nil_append, zb_1, zb_0, ↓reduceIte, if_true, if_false, not_true_eq_false, not_false_eq_true, Bool.false_eq_true, z_10, z_01, eq_self, Bool.and_self, true_or, or_true, false_or, or_false, true_and, and_true, false_and, and_false, and_self, or_self, Nat.reduceLT, Nat.reduceEqDiff, Nat.reduceLeDiff, Nat.reduceAdd, Nat.reduceMul, Nat.reduceSub, zn_lit, zn_add, zn_mul, zn_sub, zn_addneg, zn_lt, zn_le, zn_eq, zn_clamp, zn_in, zn_long, hp_1, hp_21, upd_zu, updL_zu, updQ_zu, zu_eq, zu_ne, ho_0, ho_0_0, hf_0_0, ho_0_1, hf_0_1, ho_0_2, hf_0_2, ho_0_3, hf_0_3, ho_0_4, hf_0_4, ho_0_5, hf_0_5, ho_0_6, hf_0_6, ho_0_7, hf_0_7, hk_0_7, hw_0_7, ho_1, ho_1_0, hf_1_0, ho_1_1, hf_1_1, hk_1_1, hw_1_1, ho_1_2, hf_1_2, hk_1_2, hw_1_2, ho_1_3, hf_1_3, hk_1_3, hw_1_3, ho_1_4, hf_1_4, hk_1_4, hw_1_4, ho_1_5, hf_1_5, hk_1_5, hw_1_5, hn_2, hi_2, hg_2, hu_2, ho_3, ho_3_0, hf_3_0, ho_3_1, hf_3_1, ho_3_2, hf_3_2, hk_3_2, hw_3_2, ho_3_3, hf_3_3, hk_3_3, hw_3_3, hn_4, hi_4, hj_4, hg_4, hu_4, ho_5, ho_5_0, hf_5_0, ho_5_1, hf_5_1, ho_5_2, hf_5_2, ho_5_3, hf_5_3, hk_5_3, hw_5_3, ho_6, ho_6_0, hf_6_0, ho_6_1, hf_6_1, ho_6_2, hf_6_2, ho_6_3, hf_6_3, hk_6_3, hw_6_3, hn_7, hi_7, hj_7, hg_7, hu_7, hn_8, hi_8, hj_8, hg_8, hu_8, hn_9, hi_9, hj_9, hg_9, hu_9, ho_10, ho_10_0, hf_10_0, ho_10_1, hf_10_1, ho_10_2, hf_10_2, ho_10_3, hf_10_3, hk_10_3, hw_10_3, ho_10_4, hf_10_4, hk_10_4, hkN_10_4, hw_10_4, hn_11, hi_11, hj_11, hg_11, hu_11, hn_12, hi_12, hj_12, hg_12, hu_12, hn_13, hi_13, hj_13, hg_13, hu_13, hn_14, hi_14, hg_14, hu_14, hn_15, hi_15, hg_15, hu_15, ho_16, ho_16_0, hf_16_0, ho_16_1, hf_16_1, ho_16_2, hf_16_2, hk_16_2, hw_16_2, ho_16_3, hf_16_3, hk_16_3, hw_16_3, ho_16_4, hf_16_4, hk_16_4, hkN_16_4, hw_16_4, hn_17, hi_17, hg_17, hu_17, hn_18, hi_18, hg_18, hu_18, hn_22, hi_22, hg_22, hu_22, e1]
end CF
