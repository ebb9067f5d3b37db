/-! WREATH: the reference in public; what is made is a table -/
theorem wokT_iff {T U : ZT} {m : Nat} : wokT T U m = true ↔ ∀ x y z, x < m → y < m → z < m → wrF T U x y z ≤ 999999 := by
  unfold wokT
  rw [zall_iff]
  constructor
  · intro h x y z hx hy hz
    have h1 := h x (by omega) (by omega)
    simp only [wokX] at h1
    rw [zall_iff] at h1
    have h2 := h1 y (by omega) (by omega)
    simp only [wokY] at h2
    rw [zall_iff] at h2
    have h3 := h2 z (by omega) (by omega)
    simpa [wok] using h3
  · intro h x _ hx
    simp only [wokX]
    rw [zall_iff]
    intro y _ hy
    simp only [wokY]
    rw [zall_iff]
    intro z _ hz
    simp only [wok, decide_eq_true_eq]
    exact h x y z (by omega) (by omega) (by omega)
theorem WT_wr {T U : ZT} (hT : WT T) (hU : WT U) (hm : T.1 + U.1 - 1 ≤ 6) (hk : wokT T U (T.1 + U.1 - 1) = true) : WT (wrT T U (T.1 + U.1 - 1)) := by
  have h0 := hT.1
  have h2 := hU.1
  rw [wokT_iff] at hk
  obtain ⟨m, hm1⟩ : ∃ m, m = T.1 + U.1 - 1 := ⟨_, rfl⟩
  rw [← hm1] at hk hm ⊢
  refine ⟨by show 1 ≤ m; omega, hm, fun i j k => ?_, fun i hi => ?_, fun i j k => ?_, fun i j k h => ?_, fun i k hi => ?_, ?_⟩
  · show pS m (wrF T U) m 0 0 i j k ≤ 999999
    rw [pS_m]
    by_cases c : i < m ∧ j < m ∧ k < m
    · rw [if_pos c]; exact hk i j k c.1 c.2.1 c.2.2
    · rw [if_neg c]; omega
  · have hi' : i < m := hi
    show rP m (wrR T U) m i < m
    unfold rP wrR
    rw [if_pos hi', if_pos hi']
    by_cases q : i < T.1
    · rw [if_pos q]
      have := hT.2.2.2.1 i q
      omega
    · rw [if_neg q]
      have := hU.2.2.2.1 (i - T.1 + 1) (by omega)
      omega
  · show pS m (wrF T U) m 0 0 i j k = pS m (wrF T U) m 0 0 j i k
    rw [pS_m, pS_m]
    by_cases c : i < m ∧ j < m ∧ k < m
    · rw [if_pos c, if_pos ⟨c.2.1, c.1, c.2.2⟩]
      unfold wrF
      by_cases q1 : i < T.1
      · by_cases q2 : j < T.1
        · simp only [q1, q2, and_self, if_true]; rw [hT.2.2.2.2.1 i j k]
        · simp only [q1, q2, and_false, false_and, if_true, if_false]
      · by_cases q2 : j < T.1
        · simp only [q1, q2, and_false, false_and, if_true, if_false]
        · simp only [q1, q2, and_false, false_and, if_false]; rw [hU.2.2.2.2.1 (i - T.1 + 1) (j - T.1 + 1)]
    · rw [if_neg c, if_neg (by omega)]
  · have h' : m ≤ i ∨ m ≤ j ∨ m ≤ k := h
    show pS m (wrF T U) m 0 0 i j k = 0
    rw [pS_m, if_neg (by omega)]
  · have hi' : i < m := hi
    show pS m (wrF T U) m 0 0 0 i k = _
    rw [pS_m]
    by_cases c : k < m
    · rw [if_pos ⟨by omega, hi', c⟩]
      unfold wrF
      by_cases q : i < T.1
      · rw [if_pos ⟨by omega, q⟩]
        by_cases q2 : k < T.1
        · rw [if_pos q2]; exact hT.2.2.2.2.2.2.1 i k q
        · rw [if_neg q2, if_neg (by omega)]
      · rw [if_neg (fun h => q h.2), if_pos (by omega), szT_0 hT]
    · rw [if_neg (by omega), if_neg (by omega)]
  · show rP m (wrR T U) m 0 = 0
    unfold rP wrR
    rw [if_pos (by omega), if_pos (by omega), if_pos (by omega)]
    exact hT.2.2.2.2.2.2.2
section WQ
variable {n s : Nat} {c : Nat → mq_E} {J : Nat → Int64} {A : Nat → Nat → Int32} {B : Nat → Nat → Int64} {R : Nat → Value} {Q : Nat → Nat → Option Nat}
variable {T U : ZT}
theorem R_wreathN (I : Nat → Int32) (d w : Nat) (x : Int32) (h : x < 0 ∨ 3 < x) : RO n s c I J A B R Q w none (mz (d + 9) 269 0 [some (.ref 23), some (.int x), none, none, none, none, none, none, none, none, none, none] [] (hp n s c I J A B R Q)) := by
  have q : ¬ (¬ x < 0 ∧ ¬ 3 < x) := by
    rcases h with h | h
    · exact fun e => e.1 h
    · exact fun e => e.2 h
  refine ⟨zu I 1150 0, A, fun k h _ _ _ _ => zu_ne _ _ _ _ h, fun _ _ _ => rfl, Or.inl ⟨rfl, zu_ne _ _ _ _ (by omega), zu_ne _ _ _ _ (by omega), f1_refl _, ?_⟩⟩
  simp (disch := first | omega | exact zb_1 | exact zb_0 | exact zb_n1 | exact zb_n0) only [x269_0, x269_1, x269_2, x269_5, x269_6, x269_7, x269_8, x269_11, x269_30, x269_31, mq_dl_int, mq_dl_ref, mq_dl_null, mq_dl_none, mc_some, Option.toList_some, Option.toList_none, List.cons_append, List.nil_append, zb_1, zb_0, ↓reduceIte, if_true, if_false, not_true_eq_false, not_false_eq_true, Bool.false_eq_true, z_10, z_01, eq_self, Bool.and_self, true_or, or_true, false_or, or_false, true_and, and_true, false_and, and_false, and_self, or_self, hp_1, hp_21, upd_zu, updL_zu, updQ_zu, zu_eq, zu_ne, ho_23, ho_23_0, hf_23_0, hk_23_0, hw_23_0, ho_23_1, hf_23_1, ho_23_2, hf_23_2, hk_23_2, hw_23_2, ho_23_3, hf_23_3, hk_23_3, hw_23_3, ho_23_4, hf_23_4, ho_23_5, hf_23_5, ho_23_6, hf_23_6, ho_23_7, hf_23_7, hk_23_7, hw_23_7, ho_23_8, hf_23_8, hk_23_8, hw_23_8, ho_23_9, hf_23_9, ho_23_10, hf_23_10, ho_23_11, hf_23_11, hk_23_11, hw_23_11, ho_23_12, hf_23_12, hk_23_12, hw_23_12, ho_23_13, hf_23_13, ho_23_14, hf_23_14, ho_23_15, hf_23_15, ho_23_16, hf_23_16, hk_23_16, hw_23_16, ho_23_17, hf_23_17, ho_23_18, hf_23_18, ho_23_19, hf_23_19, hk_23_19, hw_23_19, ho_23_20, hf_23_20, ho_23_21, hf_23_21, hk_23_21, hw_23_21, ho_23_22, hf_23_22, hk_23_22, hw_23_22, ho_23_23, hf_23_23, hk_23_23, hw_23_23, ho_23_24, hf_23_24, hk_23_24, hw_23_24, ho_23_25, hf_23_25, ho_23_26, hf_23_26, ho_23_27, hf_23_27, hk_23_27, hw_23_27, ho_23_28, hf_23_28, ho_23_29, hf_23_29, ho_23_30, hf_23_30, hk_23_30, hw_23_30, ho_23_31, hf_23_31, hk_23_31, hw_23_31, ho_23_32, hf_23_32, ho_23_33, hf_23_33, ho_23_34, hf_23_34, hk_23_34, hw_23_34, ho_23_35, hf_23_35, hk_23_35, hw_23_35, ho_23_36, hf_23_36, hk_23_36, hw_23_36, ho_23_37, hf_23_37, ho_23_38, hf_23_38, ho_23_39, hf_23_39, hn_24, hi_24, hj_24, hg_24, hu_24, hn_25, hi_25, hj_25, hg_25, hu_25, hn_26, hi_26, hj_26, hg_26, hu_26, hn_27, hi_27, hg_27, hu_27, hn_28, hi_28, hg_28, hu_28, hn_29, hi_29, hj_29, hg_29, hu_29, hn_30, hi_30, hj_30, hg_30, hu_30, hn_31, hi_31, hj_31, hg_31, hu_31, hn_32, hi_32, hj_32, hg_32, hu_32, hn_33, hi_33, hj_33, hg_33, hu_33, hn_34, hi_34, hj_34, hg_34, hu_34, hn_35, hi_35, hj_35, hg_35, hu_35, hn_36, hi_36, hj_36, hg_36, hu_36, hn_37, hi_37, hg_37, hu_37, hn_38, hi_38, hj_38, hg_38, hu_38, hn_39, hi_39, hj_39, hg_39, hu_39, hn_40, hi_40, hj_40, hg_40, hu_40, hn_41, hi_41, hj_41, hg_41, hu_41, hn_42, hi_42, hg_42, hu_42, hn_43, hi_43, hg_43, hu_43, hn_44, hi_44, hj_44, hg_44, hu_44, hn_45, hi_45, hg_45, hu_45, md_within, q]
theorem R_wreath0 (I : Nat → Int32) (d w k : Nat) (hk : k < 4) (hM : A 44 k = 0) : RO n s c I J A B R Q w none (mz (d + 9) 269 0 [some (.ref 23), some (.int (zn k)), none, none, none, none, none, none, none, none, none, none] [] (hp n s c I J A B R Q)) := by
  have q : ¬ zn k < 0 ∧ ¬ 3 < zn k := by
    rw [show (0 : Int32) = zn 0 from rfl, show (3 : Int32) = zn 3 from rfl, zn_lt _ _ (by omega) (by omega), zn_lt _ _ (by omega) (by omega)]; omega
  refine ⟨zu I 1150 0, A, fun k h _ _ _ _ => zu_ne _ _ _ _ h, fun _ _ _ => rfl, Or.inl ⟨rfl, zu_ne _ _ _ _ (by omega), zu_ne _ _ _ _ (by omega), f1_refl _, ?_⟩⟩
  simp (disch := first | omega | exact zb_1 | exact zb_0 | exact zb_n1 | exact zb_n0) only [x269_0, x269_1, x269_2, x269_5, x269_6, x269_7, x269_8, x269_11, x269_14, x269_15, x269_18, x269_19, x269_20, x269_30, x269_31, mq_dl_int, mq_dl_ref, mq_dl_null, mq_dl_none, mc_some, Option.toList_some, Option.toList_none, List.cons_append, List.nil_append, zb_1, zb_0, ↓reduceIte, if_true, if_false, not_true_eq_false, not_false_eq_true, Bool.false_eq_true, z_10, z_01, eq_self, Bool.and_self, true_or, or_true, false_or, or_false, true_and, and_true, false_and, and_false, and_self, or_self, hp_1, hp_21, upd_zu, updL_zu, updQ_zu, zu_eq, zu_ne, ho_23, ho_23_0, hf_23_0, hk_23_0, hw_23_0, ho_23_1, hf_23_1, ho_23_2, hf_23_2, hk_23_2, hw_23_2, ho_23_3, hf_23_3, hk_23_3, hw_23_3, ho_23_4, hf_23_4, ho_23_5, hf_23_5, ho_23_6, hf_23_6, ho_23_7, hf_23_7, hk_23_7, hw_23_7, ho_23_8, hf_23_8, hk_23_8, hw_23_8, ho_23_9, hf_23_9, ho_23_10, hf_23_10, ho_23_11, hf_23_11, hk_23_11, hw_23_11, ho_23_12, hf_23_12, hk_23_12, hw_23_12, ho_23_13, hf_23_13, ho_23_14, hf_23_14, ho_23_15, hf_23_15, ho_23_16, hf_23_16, hk_23_16, hw_23_16, ho_23_17, hf_23_17, ho_23_18, hf_23_18, ho_23_19, hf_23_19, hk_23_19, hw_23_19, ho_23_20, hf_23_20, ho_23_21, hf_23_21, hk_23_21, hw_23_21, ho_23_22, hf_23_22, hk_23_22, hw_23_22, ho_23_23, hf_23_23, hk_23_23, hw_23_23, ho_23_24, hf_23_24, hk_23_24, hw_23_24, ho_23_25, hf_23_25, ho_23_26, hf_23_26, ho_23_27, hf_23_27, hk_23_27, hw_23_27, ho_23_28, hf_23_28, ho_23_29, hf_23_29, ho_23_30, hf_23_30, hk_23_30, hw_23_30, ho_23_31, hf_23_31, hk_23_31, hw_23_31, ho_23_32, hf_23_32, ho_23_33, hf_23_33, ho_23_34, hf_23_34, hk_23_34, hw_23_34, ho_23_35, hf_23_35, hk_23_35, hw_23_35, ho_23_36, hf_23_36, hk_23_36, hw_23_36, ho_23_37, hf_23_37, ho_23_38, hf_23_38, ho_23_39, hf_23_39, hn_24, hi_24, hj_24, hg_24, hu_24, hn_25, hi_25, hj_25, hg_25, hu_25, hn_26, hi_26, hj_26, hg_26, hu_26, hn_27, hi_27, hg_27, hu_27, hn_28, hi_28, hg_28, hu_28, hn_29, hi_29, hj_29, hg_29, hu_29, hn_30, hi_30, hj_30, hg_30, hu_30, hn_31, hi_31, hj_31, hg_31, hu_31, hn_32, hi_32, hj_32, hg_32, hu_32, hn_33, hi_33, hj_33, hg_33, hu_33, hn_34, hi_34, hj_34, hg_34, hu_34, hn_35, hi_35, hj_35, hg_35, hu_35, hn_36, hi_36, hj_36, hg_36, hu_36, hn_37, hi_37, hg_37, hu_37, hn_38, hi_38, hj_38, hg_38, hu_38, hn_39, hi_39, hj_39, hg_39, hu_39, hn_40, hi_40, hj_40, hg_40, hu_40, hn_41, hi_41, hj_41, hg_41, hu_41, hn_42, hi_42, hg_42, hu_42, hn_43, hi_43, hg_43, hu_43, hn_44, hi_44, hj_44, hg_44, hu_44, hn_45, hi_45, hg_45, hu_45, md_within, q.1, q.2, zn_in, zn_clamp, hM, hk, decide_true]
theorem R_wreath (hS : RT T (A 29)) (hW : WT T) (hV : WT U) (I : Nat → Int32) (d w k : Nat) (hk : k < 4) (hM : A 44 k = 1) (hU : RT U (fun p => A 29 (224 * (2 + k) + p))) (hw : w ≤ 12) (hI : I 1162 = zn w) : RO n s c I J A B R Q w (wrX T U) (mz (d + 9) 269 0 [some (.ref 23), some (.int (zn k)), none, none, none, none, none, none, none, none, none, none] [] (hp n s c I J A B R Q)) := by
  have h0 := hW.1
  have h1 := hW.2.1
  have h2 := hV.1
  have h3 := hV.2.1
  have q : ¬ zn k < 0 ∧ ¬ 3 < zn k := by
    rw [show (0 : Int32) = zn 0 from rfl, show (3 : Int32) = zn 3 from rfl, zn_lt _ _ (by omega) (by omega), zn_lt _ _ (by omega) (by omega)]; omega
  have hg0 : ∀ k, k ≠ 1150 → (k < 1172 ∨ 1174 < k) → (gI T (zu I 1150 0)) k = I k := fun k h h' => by rw [gI_ne T _ k h', zu_ne _ _ _ _ h]
  cases hgT : gdT T with
  | false =>
    refine ⟨gI T (zu I 1150 0), A, fun k h h' _ _ _ => hg0 k h h', fun _ _ _ => rfl, Or.inl ⟨by unfold wrX; rw [if_neg (fun h => by rw [hgT] at h; cases h.2.1)], hg0 _ (by omega) (by omega), hg0 _ (by omega) (by omega), f1_refl _, ?_⟩⟩
    simp (disch := first | omega | exact zb_1 | exact zb_0 | exact zb_n1 | exact zb_n0) only [x269_0, x269_1, x269_2, x269_5, x269_6, x269_7, x269_8, x269_11, x269_14, x269_15, x269_18, x269_19, x269_20, x269_23, x269_24, x269_27, x269_30, x269_31, mq_dl_int, mq_dl_ref, mq_dl_null, mq_dl_none, mc_some, Option.toList_some, Option.toList_none, List.cons_append, List.nil_append, zb_1, zb_0, ↓reduceIte, if_true, if_false, not_true_eq_false, not_false_eq_true, Bool.false_eq_true, z_10, z_01, eq_self, Bool.and_self, true_or, or_true, false_or, or_false, true_and, and_true, false_and, and_false, and_self, or_self, hp_1, hp_21, upd_zu, updL_zu, updQ_zu, zu_eq, zu_ne, ho_23, ho_23_0, hf_23_0, hk_23_0, hw_23_0, ho_23_1, hf_23_1, ho_23_2, hf_23_2, hk_23_2, hw_23_2, ho_23_3, hf_23_3, hk_23_3, hw_23_3, ho_23_4, hf_23_4, ho_23_5, hf_23_5, ho_23_6, hf_23_6, ho_23_7, hf_23_7, hk_23_7, hw_23_7, ho_23_8, hf_23_8, hk_23_8, hw_23_8, ho_23_9, hf_23_9, ho_23_10, hf_23_10, ho_23_11, hf_23_11, hk_23_11, hw_23_11, ho_23_12, hf_23_12, hk_23_12, hw_23_12, ho_23_13, hf_23_13, ho_23_14, hf_23_14, ho_23_15, hf_23_15, ho_23_16, hf_23_16, hk_23_16, hw_23_16, ho_23_17, hf_23_17, ho_23_18, hf_23_18, ho_23_19, hf_23_19, hk_23_19, hw_23_19, ho_23_20, hf_23_20, ho_23_21, hf_23_21, hk_23_21, hw_23_21, ho_23_22, hf_23_22, hk_23_22, hw_23_22, ho_23_23, hf_23_23, hk_23_23, hw_23_23, ho_23_24, hf_23_24, hk_23_24, hw_23_24, ho_23_25, hf_23_25, ho_23_26, hf_23_26, ho_23_27, hf_23_27, hk_23_27, hw_23_27, ho_23_28, hf_23_28, ho_23_29, hf_23_29, ho_23_30, hf_23_30, hk_23_30, hw_23_30, ho_23_31, hf_23_31, hk_23_31, hw_23_31, ho_23_32, hf_23_32, ho_23_33, hf_23_33, ho_23_34, hf_23_34, hk_23_34, hw_23_34, ho_23_35, hf_23_35, hk_23_35, hw_23_35, ho_23_36, hf_23_36, hk_23_36, hw_23_36, ho_23_37, hf_23_37, ho_23_38, hf_23_38, ho_23_39, hf_23_39, hn_24, hi_24, hj_24, hg_24, hu_24, hn_25, hi_25, hj_25, hg_25, hu_25, hn_26, hi_26, hj_26, hg_26, hu_26, hn_27, hi_27, hg_27, hu_27, hn_28, hi_28, hg_28, hu_28, hn_29, hi_29, hj_29, hg_29, hu_29, hn_30, hi_30, hj_30, hg_30, hu_30, hn_31, hi_31, hj_31, hg_31, hu_31, hn_32, hi_32, hj_32, hg_32, hu_32, hn_33, hi_33, hj_33, hg_33, hu_33, hn_34, hi_34, hj_34, hg_34, hu_34, hn_35, hi_35, hj_35, hg_35, hu_35, hn_36, hi_36, hj_36, hg_36, hu_36, hn_37, hi_37, hg_37, hu_37, hn_38, hi_38, hj_38, hg_38, hu_38, hn_39, hi_39, hj_39, hg_39, hu_39, hn_40, hi_40, hj_40, hg_40, hu_40, hn_41, hi_41, hj_41, hg_41, hu_41, hn_42, hi_42, hg_42, hu_42, hn_43, hi_43, hg_43, hu_43, hn_44, hi_44, hj_44, hg_44, hu_44, hn_45, hi_45, hg_45, hu_45, md_within, q.1, q.2, zn_in, zn_clamp, hM, hk, decide_true, S_good hS hW, hgT, zo_f, show zn 0 = 0 from rfl]
  | true =>
    have hg1 : ∀ k, k ≠ 1150 → (k < 1172 ∨ 1174 < k) → (gI U (gI T (zu I 1150 0))) k = I k := fun k h h' => by rw [gI_ne U _ k h', hg0 k h h']
    obtain ⟨fb, hfb⟩ : ∃ fb, fb = cy (2 + k) 0 (cy 0 1 (A 29)) := ⟨_, rfl⟩
    obtain ⟨fd, hfd⟩ : ∃ fd, fd = cy 1 0 fb := ⟨_, rfl⟩
    have hfb0 : ∀ p, p < 224 → fb p = A 29 (224 * (2 + k) + p) := by
      intro p hp
      have e := cy_in (2 + k) 0 (cy 0 1 (A 29)) p hp
      rw [show 224 * 0 + p = p by omega] at e
      rw [hfb, e, cy_out _ _ _ _ (by omega)]
    have hf1 : f1 (A 29) fd := by
      intro p hp
      rw [hfd]
      rcases hp with hp | hp
      · have e := cy_in 1 0 fb p hp
        rw [show 224 * 0 + p = p by omega] at e
        rw [e, hfb, cy_out _ _ _ _ (by omega)]
        have e2 := cy_in 0 1 (A 29) p hp
        rw [show 224 * 0 + p = p by omega] at e2
        exact e2
      · rw [cy_out _ _ _ _ (by omega), hfb, cy_out _ _ _ _ (by omega), cy_out _ _ _ _ (by omega)]
    have hSb : RT U ((zu A 29 fb) 29) := by
      rw [zu_eq]
      exact ⟨by rw [hfb0 0 (by omega)]; exact hU.1, fun i hi => by rw [hfb0 _ (by omega)]; exact hU.2.1 i hi, fun i j l hi hj hl => by rw [hfb0 _ (by omega)]; exact hU.2.2 i j l hi hj hl⟩
    have hSd : RT T ((zu A 29 fd) 29) := by rw [zu_eq]; exact RT_fr hS hW (fun p hp => hf1 p (Or.inl hp))
    have c1 := R_carry (n := n) (s := s) (c := c) (I := gI T (zu I 1150 0)) (J := J) (A := A) (B := B) (R := R) (Q := Q) (d + 8) 0 1 (by omega) (by omega) (by omega)
    have c2 := R_carry (n := n) (s := s) (c := c) (I := gI T (zu I 1150 0)) (J := J) (A := zu A 29 (cy 0 1 (A 29))) (B := B) (R := R) (Q := Q) (d + 8) (2 + k) 0 (by omega) (by omega) (by omega)
    rw [zu_eq, zu_zu, ← hfb] at c2
    have c3 := R_carry (n := n) (s := s) (c := c) (I := gI U (gI T (zu I 1150 0))) (J := J) (A := zu A 29 fb) (B := B) (R := R) (Q := Q) (d + 8) 1 0 (by omega) (by omega) (by omega)
    rw [zu_eq, zu_zu, ← hfd] at c3
    obtain ⟨m, hm⟩ : ∃ m, m = T.1 + U.1 - 1 := ⟨_, rfl⟩
    have es : mz (d + 9) 269 0 [some (.ref 23), some (.int (zn k)), none, none, none, none, none, none, none, none, none, none] [] (hp n s c I J A B R Q) = mz (d + 9) 269 76 [some (.ref 23), some (.int (zn k)), some (.int (zo (gdT U))), some (.int (zn U.1)), some (.int (zn T.1)), some (.int (zn m)), none, none, none, none, none, none] [] (hp n s c (gI U (gI T (zu I 1150 0))) J (zu A 29 fd) B R Q) := by
      rw [show zn 0 = 0 from rfl, show zn 1 = 1 from rfl] at c1
      rw [show zn 0 = 0 from rfl] at c2
      rw [show zn 0 = 0 from rfl, show zn 1 = 1 from rfl] at c3
      have a1 : (2 : Int32) + zn k = zn (2 + k) := zn_add 2 k
      have a2 : zn T.1 + zn U.1 - 1 = zn m := by rw [zn_add, show (1 : Int32) = zn 1 from rfl, zn_sub _ _ (by omega), hm]
      simp (disch := first | omega | exact zb_1 | exact zb_0 | exact zb_n1 | exact zb_n0) only [x269_0, x269_1, x269_2, x269_5, x269_6, x269_7, x269_8, x269_11, x269_14, x269_15, x269_18, x269_19, x269_20, x269_23, x269_24, x269_27, x269_32, x269_33, x269_34, x269_35, x269_38, x269_39, x269_40, x269_41, x269_42, x269_43, x269_46, x269_47, x269_50, x269_51, x269_52, x269_55, x269_56, x269_57, x269_58, x269_59, x269_62, x269_63, x269_66, x269_68, x269_70, x269_71, x269_72, x269_73, x269_74, mq_dl_int, mq_dl_ref, mq_dl_null, mq_dl_none, mc_some, Option.toList_some, Option.toList_none, List.cons_append, List.nil_append, zb_1, zb_0, ↓reduceIte, if_true, if_false, not_true_eq_false, not_false_eq_true, Bool.false_eq_true, z_10, z_01, eq_self, Bool.and_self, true_or, or_true, false_or, or_false, true_and, and_true, false_and, and_false, and_self, or_self, hp_1, hp_21, upd_zu, updL_zu, updQ_zu, zu_eq, zu_ne, ho_23, ho_23_0, hf_23_0, hk_23_0, hw_23_0, ho_23_1, hf_23_1, ho_23_2, hf_23_2, hk_23_2, hw_23_2, ho_23_3, hf_23_3, hk_23_3, hw_23_3, ho_23_4, hf_23_4, ho_23_5, hf_23_5, ho_23_6, hf_23_6, ho_23_7, hf_23_7, hk_23_7, hw_23_7, ho_23_8, hf_23_8, hk_23_8, hw_23_8, ho_23_9, hf_23_9, ho_23_10, hf_23_10, ho_23_11, hf_23_11, hk_23_11, hw_23_11, ho_23_12, hf_23_12, hk_23_12, hw_23_12, ho_23_13, hf_23_13, ho_23_14, hf_23_14, ho_23_15, hf_23_15, ho_23_16, hf_23_16, hk_23_16, hw_23_16, ho_23_17, hf_23_17, ho_23_18, hf_23_18, ho_23_19, hf_23_19, hk_23_19, hw_23_19, ho_23_20, hf_23_20, ho_23_21, hf_23_21, hk_23_21, hw_23_21, ho_23_22, hf_23_22, hk_23_22, hw_23_22, ho_23_23, hf_23_23, hk_23_23, hw_23_23, ho_23_24, hf_23_24, hk_23_24, hw_23_24, ho_23_25, hf_23_25, ho_23_26, hf_23_26, ho_23_27, hf_23_27, hk_23_27, hw_23_27, ho_23_28, hf_23_28, ho_23_29, hf_23_29, ho_23_30, hf_23_30, hk_23_30, hw_23_30, ho_23_31, hf_23_31, hk_23_31, hw_23_31, ho_23_32, hf_23_32, ho_23_33, hf_23_33, ho_23_34, hf_23_34, hk_23_34, hw_23_34, ho_23_35, hf_23_35, hk_23_35, hw_23_35, ho_23_36, hf_23_36, hk_23_36, hw_23_36, ho_23_37, hf_23_37, ho_23_38, hf_23_38, ho_23_39, hf_23_39, hn_24, hi_24, hj_24, hg_24, hu_24, hn_25, hi_25, hj_25, hg_25, hu_25, hn_26, hi_26, hj_26, hg_26, hu_26, hn_27, hi_27, hg_27, hu_27, hn_28, hi_28, hg_28, hu_28, hn_29, hi_29, hj_29, hg_29, hu_29, hn_30, hi_30, hj_30, hg_30, hu_30, hn_31, hi_31, hj_31, hg_31, hu_31, hn_32, hi_32, hj_32, hg_32, hu_32, hn_33, hi_33, hj_33, hg_33, hu_33, hn_34, hi_34, hj_34, hg_34, hu_34, hn_35, hi_35, hj_35, hg_35, hu_35, hn_36, hi_36, hj_36, hg_36, hu_36, hn_37, hi_37, hg_37, hu_37, hn_38, hi_38, hj_38, hg_38, hu_38, hn_39, hi_39, hj_39, hg_39, hu_39, hn_40, hi_40, hj_40, hg_40, hu_40, hn_41, hi_41, hj_41, hg_41, hu_41, hn_42, hi_42, hg_42, hu_42, hn_43, hi_43, hg_43, hu_43, hn_44, hi_44, hj_44, hg_44, hu_44, hn_45, hi_45, hg_45, hu_45, md_within, q.1, q.2, zn_in, zn_clamp, hM, hk, decide_true, S_good hS hW, hgT, zo_t, show ¬ zn 1 = 0 by decide, show ¬ (1 : Int32) = 0 by decide, c1, a1, c2, S_good hSb hV, S_things hSb, c3, S_things hSd, a2]
    obtain ⟨I2, hI2⟩ : ∃ I2, I2 = gI U (gI T (zu I 1150 0)) := ⟨_, rfl⟩
    rw [← hI2] at hg1 es
    cases hgU : gdT U with
    | false =>
      rw [hgU] at es
      refine ⟨I2, zu A 29 fd, fun k h h' _ _ _ => hg1 k h h', fun q _ h => zu_ne _ _ _ _ h, Or.inl ⟨by unfold wrX; rw [if_neg (fun h => by rw [hgU] at h; cases h.2.2.1)], hg1 _ (by omega) (by omega), hg1 _ (by omega) (by omega), by rw [zu_eq]; exact hf1, ?_⟩⟩
      rw [es]
      simp (disch := first | omega | exact zb_1 | exact zb_0 | exact zb_n1 | exact zb_n0) only [x269_76, x269_77, x269_87, x269_88, mq_dl_int, mq_dl_ref, mq_dl_null, mq_dl_none, mc_some, Option.toList_some, Option.toList_none, List.cons_append, List.nil_append, zb_1, zb_0, ↓reduceIte, if_true, if_false, not_true_eq_false, not_false_eq_true, Bool.false_eq_true, z_10, z_01, eq_self, Bool.and_self, true_or, or_true, false_or, or_false, true_and, and_true, false_and, and_false, and_self, or_self, zo_f, show zn 0 = 0 from rfl]
    | true =>
      rw [hgU] at es
      by_cases q6 : m ≤ 6
      · have hUd : RT U (fun p => (zu A 29 fd) 29 (224 * (2 + k) + p)) := by rw [zu_eq]; exact RT_frU hU hf1
        obtain ⟨fe, b1, b2, b3⟩ := R_beg (n := n) (s := s) (c := c) (I := I2) (J := J) (A := zu A 29 fd) (B := B) (R := R) (Q := Q) (d + 7) m q6
        rw [zu_zu] at b3
        rw [zu_eq] at b1
        have hf2 := f1_trans hf1 b1
        obtain ⟨f', p8, p9, p10, p11, g1, g2, g3⟩ := R_wx (n := n) (s := s) (c := c) (I := I2) (J := J) (A := A) (B := B) (R := R) (Q := Q) hS hU hW hV hk hm q6 (zo true) (d + 4) m 0 true fe none none none none (by omega) hf2 ⟨b2.1, fun i hi => by omega, fun i j l hi hj hl hlx => by omega⟩
        rw [Bool.true_and, show zall (fun x => wokX T U m x) 0 m = wokT T U m from rfl] at g3
        have es2 : mz (d + 9) 269 76 [some (.ref 23), some (.int (zn k)), some (.int (zo true)), some (.int (zn U.1)), some (.int (zn T.1)), some (.int (zn m)), none, none, none, none, none, none] [] (hp n s c I2 J (zu A 29 fd) B R Q) = mz (d + 9) 269 101 [some (.ref 23), some (.int (zn k)), some (.int (zo true)), some (.int (zn U.1)), some (.int (zn T.1)), some (.int (zn m)), some (.int (zo true)), some (.int (zn 0)), none, none, none, none] [] (hp n s c I2 J (zu A 29 fe) B R Q) := by
          simp (disch := first | omega | exact zb_1 | exact zb_0 | exact zb_n1 | exact zb_n0) only [x269_76, x269_77, x269_80, x269_82, x269_84, x269_89, x269_90, x269_92, x269_95, x269_96, x269_98, x269_99, mq_dl_int, mq_dl_ref, mq_dl_null, mq_dl_none, mc_some, Option.toList_some, Option.toList_none, List.cons_append, List.nil_append, zb_1, zb_0, ↓reduceIte, if_true, if_false, not_true_eq_false, not_false_eq_true, Bool.false_eq_true, z_10, z_01, eq_self, Bool.and_self, true_or, or_true, false_or, or_false, true_and, and_true, false_and, and_false, and_self, or_self, Nat.reduceLT, Nat.reduceEqDiff, Nat.reduceLeDiff, Nat.reduceAdd, Nat.reduceMul, Nat.reduceSub, zn_lit, zn_add, zn_mul, zn_sub, zn_addneg, zn_lt, zn_le, zn_eq, zn_clamp, zn_in, zn_long, ho_23, zo_t, q6, b3]
        cases hok : wokT T U m with
        | false =>
          rw [hok] at g3
          refine ⟨I2, zu A 29 f', fun k h h' _ _ _ => hg1 k h h', fun q _ h => zu_ne _ _ _ _ h, Or.inl ⟨by unfold wrX; rw [← hm, if_neg (fun h => by rw [hok] at h; cases h.2.2.2)], hg1 _ (by omega) (by omega), hg1 _ (by omega) (by omega), by rw [zu_eq]; exact g1, ?_⟩⟩
          rw [es, es2, g3]
          simp (disch := first | omega | exact zb_1 | exact zb_0 | exact zb_n1 | exact zb_n0) only [x269_255, x269_257, x269_260, x269_261, mq_dl_int, mq_dl_ref, mq_dl_null, mq_dl_none, mc_some, Option.toList_some, Option.toList_none, List.cons_append, List.nil_append, zb_1, zb_0, ↓reduceIte, if_true, if_false, not_true_eq_false, not_false_eq_true, Bool.false_eq_true, z_10, z_01, eq_self, Bool.and_self, true_or, or_true, false_or, or_false, true_and, and_true, false_and, and_false, and_self, or_self, zo_f, show zn 0 = 0 from rfl]
        | true =>
          rw [hok] at g3
          have hRT : RT (wrT T U m) (fun p => f' (224 + p)) := by
            refine ⟨g2.1, fun i hi => ?_, fun i j l hi hj hl => ?_⟩
            · have hi' : i < m := hi
              show f' (224 + (1 + i)) = zn (rP m (wrR T U) m i)
              unfold rP
              rw [← Nat.add_assoc, g2.2.1 i hi', if_pos hi', if_pos hi']
            · have hi' : i < m := hi
              have hj' : j < m := hj
              have hl' : l < m := hl
              show f' (224 + (7 + 36 * i + 6 * j + l)) = zn (pS m (wrF T U) m 0 0 i j l)
              unfold pS
              rw [g2.2.2 i j l hi' hj' hl' (by omega), if_pos (by omega)]
          have hw2 : I2 1162 = zn w := by rw [hg1 _ (by omega) (by omega)]; exact hI
          have hd := R_does (n := n) (s := s) (c := c) (I := I2) (J := J) (A := zu A 29 f') (B := B) (R := R) (Q := Q) (d + 7) w hw hw2
          rw [zu_eq, zu_zu] at hd
          have hS3 : RT (wrT T U m) ((zu A 29 (ds w f')) 29) := by rw [zu_eq]; exact RT_ds (by show m ≤ 6; omega) hRT
          refine ⟨zu (zu I2 1161 (zn (dw w + 1))) 1162 (zn (dw w)), zu A 29 (ds w f'), fun k h1 h2 h3 h4 h5 => by rw [zu_ne _ _ _ _ h5, zu_ne _ _ _ _ h4, hg1 k h1 h2], fun q _ h => zu_ne _ _ _ _ h, Or.inr ⟨wrT T U m, f', by unfold wrX; rw [← hm, if_pos ⟨q6, hgT, hgU, hok⟩], g1, hRT, zu_eq _ _ _, by rw [zu_ne _ _ _ _ (by omega), zu_eq], zu_eq _ _ _, ?_⟩⟩
          rw [es, es2, g3]
          simp (disch := first | omega | exact zb_1 | exact zb_0 | exact zb_n1 | exact zb_n0) only [x269_255, x269_257, x269_262, x269_263, x269_266, x269_267, x269_270, mq_dl_int, mq_dl_ref, mq_dl_null, mq_dl_none, mc_some, Option.toList_some, Option.toList_none, List.cons_append, List.nil_append, zb_1, zb_0, ↓reduceIte, if_true, if_false, not_true_eq_false, not_false_eq_true, Bool.false_eq_true, z_10, z_01, eq_self, Bool.and_self, true_or, or_true, false_or, or_false, true_and, and_true, false_and, and_false, and_self, or_self, ho_23, zo_t, show ¬ zn 1 = 0 by decide, hd, S_things hS3]
      · refine ⟨I2, zu A 29 fd, fun k h h' _ _ _ => hg1 k h h', fun q _ h => zu_ne _ _ _ _ h, Or.inl ⟨by unfold wrX; rw [← hm, if_neg (fun h => q6 h.1)], hg1 _ (by omega) (by omega), hg1 _ (by omega) (by omega), by rw [zu_eq]; exact hf1, ?_⟩⟩
        have q7 : ¬ zn m ≤ 6 := by rw [show (6 : Int32) = zn 6 from rfl, zn_le _ _ (by omega) (by omega)]; exact q6
        rw [es]
        simp (disch := first | omega | exact zb_1 | exact zb_0 | exact zb_n1 | exact zb_n0) only [x269_76, x269_77, x269_80, x269_82, x269_84, x269_87, x269_88, mq_dl_int, mq_dl_ref, mq_dl_null, mq_dl_none, mc_some, Option.toList_some, Option.toList_none, List.cons_append, List.nil_append, zb_1, zb_0, ↓reduceIte, if_true, if_false, not_true_eq_false, not_false_eq_true, Bool.false_eq_true, z_10, z_01, eq_self, Bool.and_self, true_or, or_true, false_or, or_false, true_and, and_true, false_and, and_false, and_self, or_self, zo_t, show ¬ zn 1 = 0 by decide, q7]
end WQ
