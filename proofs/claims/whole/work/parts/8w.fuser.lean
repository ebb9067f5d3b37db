/-! FUSE: the reference in public -/
theorem cy_out (f t : Nat) (g : Nat → Int32) (p : Nat) (h : p < 224 * t ∨ 224 * t + 224 ≤ p) : cy f t g p = g p := if_neg (by omega)
theorem cy_in (f t : Nat) (g : Nat → Int32) (p : Nat) (h : p < 224) : cy f t g (224 * t + p) = g (224 * f + p) := by
  unfold cy cy_k
  rw [if_pos (by omega)]
  congr 1
  omega
theorem cy_s_lo (p : Nat) (hp : p < 1344) : ∀ (r k : Nat) (g : Nat → Int32), cy_s g k r p = g p
  | 0, _, _ => rfl
  | r + 1, k, g => by
    show cy_s (cy (7 + k) (6 + k) g) (k + 1) r p = g p
    rw [cy_s_lo p hp r (k + 1), cy_out _ _ _ _ (by omega)]
theorem ds_0 (w : Nat) (g : Nat → Int32) (p : Nat) (hp : p < 224) : ds w g p = g (224 + p) := by
  have e := cy_in 1 0 g p hp
  rw [show 224 * 0 + p = p by omega, show 224 * 1 + p = 224 + p by omega] at e
  unfold ds
  by_cases q : w < 12
  · rw [if_pos q, cy_out _ _ _ _ (by omega), e]
  · rw [if_neg q, cy_out _ _ _ _ (by omega), cy_s_lo p (by omega), e]
theorem RT_ds {T : ZT} (hm : T.1 ≤ 6) {w : Nat} {f : Nat → Int32} (h : RT T (fun p => f (224 + p))) : RT T (ds w f) := by
  refine ⟨by rw [ds_0 _ _ _ (by omega)]; exact h.1, fun i hi => by rw [ds_0 _ _ _ (by omega)]; exact h.2.1 i hi, fun i j k hi hj hk => by rw [ds_0 _ _ _ (by omega)]; exact h.2.2 i j k hi hj hk⟩
section FY
variable {n s : Nat} {c : Nat → mq_E} {J : Nat → Int64} {B : Nat → Nat → Int64} {R : Nat → Value} {Q : Nat → Nat → Option Nat}
variable {T : ZT}
/-- the reference's outcome of a call that may make a table out of the TABLE -/
def RO (n s : Nat) (c : Nat → mq_E) (I : Nat → Int32) (J : Nat → Int64) (A : Nat → Nat → Int32) (B : Nat → Nat → Int64) (R : Nat → Value) (Q : Nat → Nat → Option Nat) (w : Nat) (o : Option ZT) (r : Option (Option (Option Value) × mq_H)) : Prop := ∃ I' A', (∀ k, k ≠ 1150 → (k < 1172 ∨ 1174 < k) → (k < 1184 ∨ 1186 < k) → k ≠ 1161 → k ≠ 1162 → I' k = I k) ∧ (∀ q, q ≠ 41 → q ≠ 29 → A' q = A q) ∧ ((o = none ∧ I' 1161 = I 1161 ∧ I' 1162 = I 1162 ∧ f1 (A 29) (A' 29) ∧ r = some (some (some (.int (-1))), hp n s c I' J A' B R Q)) ∨ ∃ T' f', o = some T' ∧ f1 (A 29) f' ∧ RT T' (fun p => f' (224 + p)) ∧ A' 29 = ds w f' ∧ I' 1161 = zn (dw w + 1) ∧ I' 1162 = zn (dw w) ∧ r = some (some (some (.int (zn T'.1))), hp n s c I' J A' B R Q))
theorem R_fuse (hW : WT T) (d : Nat) (x : Int32) (I : Nat → Int32) (A : Nat → Nat → Int32) (hS : RT T (A 29)) (w : Nat) (hw : w ≤ 12) (hI : I 1162 = zn w) : RO n s c I J A B R Q w (fuX T x) (mz (d + 11) 267 0 [some (.ref 23), some (.int x)] [] (hp n s c I J A B R Q)) := by
  have hg0 : ∀ k, k ≠ 1150 → (k < 1172 ∨ 1174 < k) → (gI T (zu I 1150 0)) k = I k := fun k h h' => by rw [gI_ne T _ k h', zu_ne _ _ _ _ h]
  have hl := FL_len hW
  have hm2 := hW.2.1
  by_cases q1 : x < 0
  · have e : fuX T x = none := by
      unfold fuX fhT
      rw [if_neg]
      rintro ⟨_, h⟩
      rw [decide_eq_true_eq] at h
      exact h.1 q1
    refine ⟨zu I 1150 0, A, fun k h _ _ _ _ => zu_ne _ _ _ _ h, fun _ _ _ => rfl, Or.inl ⟨e, zu_ne _ _ _ _ (by omega), zu_ne _ _ _ _ (by omega), f1_refl _, ?_⟩⟩
    simp (disch := first | omega | exact zb_1 | exact zb_0 | exact zb_n1 | exact zb_n0) only [x267_0, x267_1, x267_2, x267_5, x267_6, x267_32, x267_33, mq_dl_int, mq_dl_ref, mq_dl_null, mq_dl_none, mc_some, Option.toList_some, Option.toList_none, List.cons_append, List.nil_append, zb_1, zb_0, ↓reduceIte, if_true, if_false, not_true_eq_false, not_false_eq_true, Bool.false_eq_true, z_10, z_01, eq_self, Bool.and_self, true_or, or_true, false_or, or_false, true_and, and_true, false_and, and_false, and_self, or_self, hp_1, hp_21, upd_zu, updL_zu, updQ_zu, zu_eq, zu_ne, ho_23, ho_23_0, hf_23_0, hk_23_0, hw_23_0, ho_23_1, hf_23_1, ho_23_2, hf_23_2, hk_23_2, hw_23_2, ho_23_3, hf_23_3, hk_23_3, hw_23_3, ho_23_4, hf_23_4, ho_23_5, hf_23_5, ho_23_6, hf_23_6, ho_23_7, hf_23_7, hk_23_7, hw_23_7, ho_23_8, hf_23_8, hk_23_8, hw_23_8, ho_23_9, hf_23_9, ho_23_10, hf_23_10, ho_23_11, hf_23_11, hk_23_11, hw_23_11, ho_23_12, hf_23_12, hk_23_12, hw_23_12, ho_23_13, hf_23_13, ho_23_14, hf_23_14, ho_23_15, hf_23_15, ho_23_16, hf_23_16, hk_23_16, hw_23_16, ho_23_17, hf_23_17, ho_23_18, hf_23_18, ho_23_19, hf_23_19, hk_23_19, hw_23_19, ho_23_20, hf_23_20, ho_23_21, hf_23_21, hk_23_21, hw_23_21, ho_23_22, hf_23_22, hk_23_22, hw_23_22, ho_23_23, hf_23_23, hk_23_23, hw_23_23, ho_23_24, hf_23_24, hk_23_24, hw_23_24, ho_23_25, hf_23_25, ho_23_26, hf_23_26, ho_23_27, hf_23_27, hk_23_27, hw_23_27, ho_23_28, hf_23_28, ho_23_29, hf_23_29, ho_23_30, hf_23_30, hk_23_30, hw_23_30, ho_23_31, hf_23_31, hk_23_31, hw_23_31, ho_23_32, hf_23_32, ho_23_33, hf_23_33, ho_23_34, hf_23_34, hk_23_34, hw_23_34, ho_23_35, hf_23_35, hk_23_35, hw_23_35, ho_23_36, hf_23_36, hk_23_36, hw_23_36, ho_23_37, hf_23_37, ho_23_38, hf_23_38, ho_23_39, hf_23_39, hn_24, hi_24, hj_24, hg_24, hu_24, hn_25, hi_25, hj_25, hg_25, hu_25, hn_26, hi_26, hj_26, hg_26, hu_26, hn_27, hi_27, hg_27, hu_27, hn_28, hi_28, hg_28, hu_28, hn_29, hi_29, hj_29, hg_29, hu_29, hn_30, hi_30, hj_30, hg_30, hu_30, hn_31, hi_31, hj_31, hg_31, hu_31, hn_32, hi_32, hj_32, hg_32, hu_32, hn_33, hi_33, hj_33, hg_33, hu_33, hn_34, hi_34, hj_34, hg_34, hu_34, hn_35, hi_35, hj_35, hg_35, hu_35, hn_36, hi_36, hj_36, hg_36, hu_36, hn_37, hi_37, hg_37, hu_37, hn_38, hi_38, hj_38, hg_38, hu_38, hn_39, hi_39, hj_39, hg_39, hu_39, hn_40, hi_40, hj_40, hg_40, hu_40, hn_41, hi_41, hj_41, hg_41, hu_41, hn_42, hi_42, hg_42, hu_42, hn_43, hi_43, hg_43, hu_43, hn_44, hi_44, hj_44, hg_44, hu_44, hn_45, hi_45, hg_45, hu_45, q1]
  · cases hg : gdT T with
    | false =>
      have e : fuX T x = none := by
        unfold fuX
        rw [if_neg]
        rintro ⟨h, _⟩
        rw [hg] at h; cases h
      refine ⟨gI T (zu I 1150 0), A, fun k h h' _ _ _ => hg0 k h h', fun _ _ _ => rfl, Or.inl ⟨e, hg0 _ (by omega) (by omega), hg0 _ (by omega) (by omega), f1_refl _, ?_⟩⟩
      simp (disch := first | omega | exact zb_1 | exact zb_0 | exact zb_n1 | exact zb_n0) only [x267_0, x267_1, x267_2, x267_5, x267_6, x267_9, x267_10, x267_13, x267_32, x267_33, mq_dl_int, mq_dl_ref, mq_dl_null, mq_dl_none, mc_some, Option.toList_some, Option.toList_none, List.cons_append, List.nil_append, zb_1, zb_0, ↓reduceIte, if_true, if_false, not_true_eq_false, not_false_eq_true, Bool.false_eq_true, z_10, z_01, eq_self, Bool.and_self, true_or, or_true, false_or, or_false, true_and, and_true, false_and, and_false, and_self, or_self, hp_1, hp_21, upd_zu, updL_zu, updQ_zu, zu_eq, zu_ne, ho_23, ho_23_0, hf_23_0, hk_23_0, hw_23_0, ho_23_1, hf_23_1, ho_23_2, hf_23_2, hk_23_2, hw_23_2, ho_23_3, hf_23_3, hk_23_3, hw_23_3, ho_23_4, hf_23_4, ho_23_5, hf_23_5, ho_23_6, hf_23_6, ho_23_7, hf_23_7, hk_23_7, hw_23_7, ho_23_8, hf_23_8, hk_23_8, hw_23_8, ho_23_9, hf_23_9, ho_23_10, hf_23_10, ho_23_11, hf_23_11, hk_23_11, hw_23_11, ho_23_12, hf_23_12, hk_23_12, hw_23_12, ho_23_13, hf_23_13, ho_23_14, hf_23_14, ho_23_15, hf_23_15, ho_23_16, hf_23_16, hk_23_16, hw_23_16, ho_23_17, hf_23_17, ho_23_18, hf_23_18, ho_23_19, hf_23_19, hk_23_19, hw_23_19, ho_23_20, hf_23_20, ho_23_21, hf_23_21, hk_23_21, hw_23_21, ho_23_22, hf_23_22, hk_23_22, hw_23_22, ho_23_23, hf_23_23, hk_23_23, hw_23_23, ho_23_24, hf_23_24, hk_23_24, hw_23_24, ho_23_25, hf_23_25, ho_23_26, hf_23_26, ho_23_27, hf_23_27, hk_23_27, hw_23_27, ho_23_28, hf_23_28, ho_23_29, hf_23_29, ho_23_30, hf_23_30, hk_23_30, hw_23_30, ho_23_31, hf_23_31, hk_23_31, hw_23_31, ho_23_32, hf_23_32, ho_23_33, hf_23_33, ho_23_34, hf_23_34, hk_23_34, hw_23_34, ho_23_35, hf_23_35, hk_23_35, hw_23_35, ho_23_36, hf_23_36, hk_23_36, hw_23_36, ho_23_37, hf_23_37, ho_23_38, hf_23_38, ho_23_39, hf_23_39, hn_24, hi_24, hj_24, hg_24, hu_24, hn_25, hi_25, hj_25, hg_25, hu_25, hn_26, hi_26, hj_26, hg_26, hu_26, hn_27, hi_27, hg_27, hu_27, hn_28, hi_28, hg_28, hu_28, hn_29, hi_29, hj_29, hg_29, hu_29, hn_30, hi_30, hj_30, hg_30, hu_30, hn_31, hi_31, hj_31, hg_31, hu_31, hn_32, hi_32, hj_32, hg_32, hu_32, hn_33, hi_33, hj_33, hg_33, hu_33, hn_34, hi_34, hj_34, hg_34, hu_34, hn_35, hi_35, hj_35, hg_35, hu_35, hn_36, hi_36, hj_36, hg_36, hu_36, hn_37, hi_37, hg_37, hu_37, hn_38, hi_38, hj_38, hg_38, hu_38, hn_39, hi_39, hj_39, hg_39, hu_39, hn_40, hi_40, hj_40, hg_40, hu_40, hn_41, hi_41, hj_41, hg_41, hu_41, hn_42, hi_42, hg_42, hu_42, hn_43, hi_43, hg_43, hu_43, hn_44, hi_44, hj_44, hg_44, hu_44, hn_45, hi_45, hg_45, hu_45, q1, S_good hS hW, hg, zo_f, show zn 0 = 0 from rfl]
    | true =>
      obtain ⟨I', A', res, b1, b2⟩ := R_find (n := n) (s := s) (c := c) (J := J) (B := B) (R := R) (Q := Q) hW d x (gI T (zu I 1150 0)) A hS
      have hI' : ∀ k, k ≠ 1150 → (k < 1172 ∨ 1174 < k) → (k < 1184 ∨ 1186 < k) → I' k = I k := fun k h1 h2 h3 => by rw [b1.1 k (by omega) (by omega), zu_ne _ _ _ _ (by omega), zu_ne _ _ _ _ (by omega), hg0 k h1 h2]
      have hx := zn_of x q1
      rcases b1.2.2 with ⟨u, p, c1, c2, c3, c4, c5⟩ | ⟨c1, c2, c3, c4⟩
      · have hu := (List.getElem?_eq_some_iff.1 c1).1
        rw [Nat.zero_add] at c2
        have e : fhT T x = true := by
          unfold fhT
          rw [decide_eq_true_eq, ← c2]
          refine ⟨by rw [c2]; exact q1, ?_⟩
          rw [zn_lt _ _ (by omega) (by omega)]; exact hu
        have e2 : (FL T)[x.toNatClampNeg]? = some p := by rw [← c2, zn_clamp u (by omega)]; exact c1
        have hp1 := FL_get hW c1
        obtain ⟨f', m1, m2, m3⟩ := R_makes (n := n) (s := s) (c := c) (I := I') (J := J) (A := A') (B := B) (R := R) (Q := Q) (w := p.1) (m := p.2) (v := 1) (by rw [b1.2.1 29 (by omega)]; exact hS) hW c3 hp1 (by omega) (by omega) c4 (d + 7)
        rw [b1.2.1 29 (by omega)] at m1
        have eX : fuX T x = if p.2 = T.1 then some T else fuO T p := by
          unfold fuX
          rw [if_pos ⟨hg, e⟩, e2]
        have hw2 : I' 1162 = zn w := by rw [hI' _ (by omega) (by omega) (by omega)]; exact hI
        cases hk : gokT T p.1 1 p.2 with
        | false =>
          have q3 : ¬ p.2 = T.1 := by
            intro h
            have := hp1
            rw [show p = (p.1, p.2) from rfl, h] at this
            have h4 := (ga_id hW this).1
            rw [h] at hk
            rw [hk] at h4
            cases h4
          rw [hk] at m3
          refine ⟨I', zu A' 29 f', fun k h1 h2 h3 _ _ => hI' k h1 h2 h3, fun q h1 h2 => by rw [zu_ne _ _ _ _ h2, b1.2.1 q h1], Or.inl ⟨by rw [eX, if_neg q3]; unfold fuO; rw [hk]; rfl, hI' _ (by omega) (by omega) (by omega), hI' _ (by omega) (by omega) (by omega), by rw [zu_eq]; exact m1, ?_⟩⟩
          simp (disch := first | omega | exact zb_1 | exact zb_0 | exact zb_n1 | exact zb_n0) only [x267_0, x267_1, x267_2, x267_5, x267_6, x267_9, x267_10, x267_13, x267_16, x267_17, x267_18, x267_21, x267_24, x267_25, x267_26, x267_29, x267_32, x267_33, mq_dl_int, mq_dl_ref, mq_dl_null, mq_dl_none, mc_some, Option.toList_some, Option.toList_none, List.cons_append, List.nil_append, zb_1, zb_0, ↓reduceIte, if_true, if_false, not_true_eq_false, not_false_eq_true, Bool.false_eq_true, z_10, z_01, eq_self, Bool.and_self, true_or, or_true, false_or, or_false, true_and, and_true, false_and, and_false, and_self, or_self, zln_lit, hp_1, hp_21, upd_zu, updL_zu, updQ_zu, zu_eq, zu_ne, ho_23, ho_23_0, hf_23_0, hk_23_0, hw_23_0, ho_23_1, hf_23_1, ho_23_2, hf_23_2, hk_23_2, hw_23_2, ho_23_3, hf_23_3, hk_23_3, hw_23_3, ho_23_4, hf_23_4, ho_23_5, hf_23_5, ho_23_6, hf_23_6, ho_23_7, hf_23_7, hk_23_7, hw_23_7, ho_23_8, hf_23_8, hk_23_8, hw_23_8, ho_23_9, hf_23_9, ho_23_10, hf_23_10, ho_23_11, hf_23_11, hk_23_11, hw_23_11, ho_23_12, hf_23_12, hk_23_12, hw_23_12, ho_23_13, hf_23_13, ho_23_14, hf_23_14, ho_23_15, hf_23_15, ho_23_16, hf_23_16, hk_23_16, hw_23_16, ho_23_17, hf_23_17, ho_23_18, hf_23_18, ho_23_19, hf_23_19, hk_23_19, hw_23_19, ho_23_20, hf_23_20, ho_23_21, hf_23_21, hk_23_21, hw_23_21, ho_23_22, hf_23_22, hk_23_22, hw_23_22, ho_23_23, hf_23_23, hk_23_23, hw_23_23, ho_23_24, hf_23_24, hk_23_24, hw_23_24, ho_23_25, hf_23_25, ho_23_26, hf_23_26, ho_23_27, hf_23_27, hk_23_27, hw_23_27, ho_23_28, hf_23_28, ho_23_29, hf_23_29, ho_23_30, hf_23_30, hk_23_30, hw_23_30, ho_23_31, hf_23_31, hk_23_31, hw_23_31, ho_23_32, hf_23_32, ho_23_33, hf_23_33, ho_23_34, hf_23_34, hk_23_34, hw_23_34, ho_23_35, hf_23_35, hk_23_35, hw_23_35, ho_23_36, hf_23_36, hk_23_36, hw_23_36, ho_23_37, hf_23_37, ho_23_38, hf_23_38, ho_23_39, hf_23_39, hn_24, hi_24, hj_24, hg_24, hu_24, hn_25, hi_25, hj_25, hg_25, hu_25, hn_26, hi_26, hj_26, hg_26, hu_26, hn_27, hi_27, hg_27, hu_27, hn_28, hi_28, hg_28, hu_28, hn_29, hi_29, hj_29, hg_29, hu_29, hn_30, hi_30, hj_30, hg_30, hu_30, hn_31, hi_31, hj_31, hg_31, hu_31, hn_32, hi_32, hj_32, hg_32, hu_32, hn_33, hi_33, hj_33, hg_33, hu_33, hn_34, hi_34, hj_34, hg_34, hu_34, hn_35, hi_35, hj_35, hg_35, hu_35, hn_36, hi_36, hj_36, hg_36, hu_36, hn_37, hi_37, hg_37, hu_37, hn_38, hi_38, hj_38, hg_38, hu_38, hn_39, hi_39, hj_39, hg_39, hu_39, hn_40, hi_40, hj_40, hg_40, hu_40, hn_41, hi_41, hj_41, hg_41, hu_41, hn_42, hi_42, hg_42, hu_42, hn_43, hi_43, hg_43, hu_43, hn_44, hi_44, hj_44, hg_44, hu_44, hn_45, hi_45, hg_45, hu_45, q1, S_good hS hW, hg, zo_t, zo_f, show ¬ zn 1 = 0 by decide, b2, c5, m3, show zn 0 = 0 from rfl]
        | true =>
          rw [hk] at m3
          have hd := R_does (n := n) (s := s) (c := c) (I := I') (J := J) (A := zu A' 29 f') (B := B) (R := R) (Q := Q) (d + 9) w hw hw2
          rw [zu_eq, zu_zu] at hd
          obtain ⟨T', t1, t2, t3⟩ : ∃ T', fuX T x = some T' ∧ RT T' (fun p => f' (224 + p)) ∧ T'.1 ≤ 6 := by
            rw [eX]
            by_cases q3 : p.2 = T.1
            · refine ⟨T, if_pos q3, ?_, hm2⟩
              have h5 := hp1
              rw [show p = (p.1, p.2) from rfl, q3] at h5
              rw [q3] at m2
              exact (ga_id hW h5).2 _ m2
            · refine ⟨gaT T p.1 1 p.2, by rw [if_neg q3]; unfold fuO; rw [if_pos hk], m2, ?_⟩
              show p.2 ≤ 6
              have := hp1.2.1
              omega
          have hS2 : RT T' ((zu A' 29 (ds w f')) 29) := by rw [zu_eq]; exact RT_ds t3 t2
          refine ⟨zu (zu I' 1161 (zn (dw w + 1))) 1162 (zn (dw w)), zu A' 29 (ds w f'), fun k h1 h2 h3 h4 h5 => by rw [zu_ne _ _ _ _ h5, zu_ne _ _ _ _ h4, hI' k h1 h2 h3], fun q h1 h2 => by rw [zu_ne _ _ _ _ h2, b1.2.1 q h1], Or.inr ⟨T', f', t1, m1, t2, zu_eq _ _ _, by rw [zu_ne _ _ _ _ (by omega), zu_eq], zu_eq _ _ _, ?_⟩⟩
          simp (disch := first | omega | exact zb_1 | exact zb_0 | exact zb_n1 | exact zb_n0) only [x267_0, x267_1, x267_2, x267_5, x267_6, x267_9, x267_10, x267_13, x267_16, x267_17, x267_18, x267_21, x267_24, x267_25, x267_26, x267_29, x267_34, x267_35, x267_38, x267_39, x267_42, mq_dl_int, mq_dl_ref, mq_dl_null, mq_dl_none, mc_some, Option.toList_some, Option.toList_none, List.cons_append, List.nil_append, zb_1, zb_0, ↓reduceIte, if_true, if_false, not_true_eq_false, not_false_eq_true, Bool.false_eq_true, z_10, z_01, eq_self, Bool.and_self, true_or, or_true, false_or, or_false, true_and, and_true, false_and, and_false, and_self, or_self, zln_lit, hp_1, hp_21, upd_zu, updL_zu, updQ_zu, zu_eq, zu_ne, ho_23, ho_23_0, hf_23_0, hk_23_0, hw_23_0, ho_23_1, hf_23_1, ho_23_2, hf_23_2, hk_23_2, hw_23_2, ho_23_3, hf_23_3, hk_23_3, hw_23_3, ho_23_4, hf_23_4, ho_23_5, hf_23_5, ho_23_6, hf_23_6, ho_23_7, hf_23_7, hk_23_7, hw_23_7, ho_23_8, hf_23_8, hk_23_8, hw_23_8, ho_23_9, hf_23_9, ho_23_10, hf_23_10, ho_23_11, hf_23_11, hk_23_11, hw_23_11, ho_23_12, hf_23_12, hk_23_12, hw_23_12, ho_23_13, hf_23_13, ho_23_14, hf_23_14, ho_23_15, hf_23_15, ho_23_16, hf_23_16, hk_23_16, hw_23_16, ho_23_17, hf_23_17, ho_23_18, hf_23_18, ho_23_19, hf_23_19, hk_23_19, hw_23_19, ho_23_20, hf_23_20, ho_23_21, hf_23_21, hk_23_21, hw_23_21, ho_23_22, hf_23_22, hk_23_22, hw_23_22, ho_23_23, hf_23_23, hk_23_23, hw_23_23, ho_23_24, hf_23_24, hk_23_24, hw_23_24, ho_23_25, hf_23_25, ho_23_26, hf_23_26, ho_23_27, hf_23_27, hk_23_27, hw_23_27, ho_23_28, hf_23_28, ho_23_29, hf_23_29, ho_23_30, hf_23_30, hk_23_30, hw_23_30, ho_23_31, hf_23_31, hk_23_31, hw_23_31, ho_23_32, hf_23_32, ho_23_33, hf_23_33, ho_23_34, hf_23_34, hk_23_34, hw_23_34, ho_23_35, hf_23_35, hk_23_35, hw_23_35, ho_23_36, hf_23_36, hk_23_36, hw_23_36, ho_23_37, hf_23_37, ho_23_38, hf_23_38, ho_23_39, hf_23_39, hn_24, hi_24, hj_24, hg_24, hu_24, hn_25, hi_25, hj_25, hg_25, hu_25, hn_26, hi_26, hj_26, hg_26, hu_26, hn_27, hi_27, hg_27, hu_27, hn_28, hi_28, hg_28, hu_28, hn_29, hi_29, hj_29, hg_29, hu_29, hn_30, hi_30, hj_30, hg_30, hu_30, hn_31, hi_31, hj_31, hg_31, hu_31, hn_32, hi_32, hj_32, hg_32, hu_32, hn_33, hi_33, hj_33, hg_33, hu_33, hn_34, hi_34, hj_34, hg_34, hu_34, hn_35, hi_35, hj_35, hg_35, hu_35, hn_36, hi_36, hj_36, hg_36, hu_36, hn_37, hi_37, hg_37, hu_37, hn_38, hi_38, hj_38, hg_38, hu_38, hn_39, hi_39, hj_39, hg_39, hu_39, hn_40, hi_40, hj_40, hg_40, hu_40, hn_41, hi_41, hj_41, hg_41, hu_41, hn_42, hi_42, hg_42, hu_42, hn_43, hi_43, hg_43, hu_43, hn_44, hi_44, hj_44, hg_44, hu_44, hn_45, hi_45, hg_45, hu_45, q1, S_good hS hW, hg, zo_t, show ¬ zn 1 = 0 by decide, b2, c5, m3, hd, S_things hS2]
      · have e : fhT T x = false := by
          unfold fhT
          rw [decide_eq_false_iff_not]
          rintro ⟨_, h⟩
          rw [hx.1, zn_lt _ _ (by omega) (by omega)] at h
          have := c1 _ h
          rw [Nat.zero_add] at this
          exact this hx.1.symm
        have eN : fuX T x = none := by
          unfold fuX
          rw [if_neg]
          rintro ⟨_, h⟩
          rw [e] at h
          cases h
        refine ⟨I', A', fun k h1 h2 h3 _ _ => hI' k h1 h2 h3, fun q h1 _ => b1.2.1 q h1, Or.inl ⟨eN, hI' _ (by omega) (by omega) (by omega), hI' _ (by omega) (by omega) (by omega), by rw [b1.2.1 29 (by omega)]; exact f1_refl _, ?_⟩⟩
        simp (disch := first | omega | exact zb_1 | exact zb_0 | exact zb_n1 | exact zb_n0) only [x267_0, x267_1, x267_2, x267_5, x267_6, x267_9, x267_10, x267_13, x267_16, x267_17, x267_18, x267_21, x267_32, x267_33, mq_dl_int, mq_dl_ref, mq_dl_null, mq_dl_none, mc_some, Option.toList_some, Option.toList_none, List.cons_append, List.nil_append, zb_1, zb_0, ↓reduceIte, if_true, if_false, not_true_eq_false, not_false_eq_true, Bool.false_eq_true, z_10, z_01, eq_self, Bool.and_self, true_or, or_true, false_or, or_false, true_and, and_true, false_and, and_false, and_self, or_self, hp_1, hp_21, upd_zu, updL_zu, updQ_zu, zu_eq, zu_ne, ho_23, ho_23_0, hf_23_0, hk_23_0, hw_23_0, ho_23_1, hf_23_1, ho_23_2, hf_23_2, hk_23_2, hw_23_2, ho_23_3, hf_23_3, hk_23_3, hw_23_3, ho_23_4, hf_23_4, ho_23_5, hf_23_5, ho_23_6, hf_23_6, ho_23_7, hf_23_7, hk_23_7, hw_23_7, ho_23_8, hf_23_8, hk_23_8, hw_23_8, ho_23_9, hf_23_9, ho_23_10, hf_23_10, ho_23_11, hf_23_11, hk_23_11, hw_23_11, ho_23_12, hf_23_12, hk_23_12, hw_23_12, ho_23_13, hf_23_13, ho_23_14, hf_23_14, ho_23_15, hf_23_15, ho_23_16, hf_23_16, hk_23_16, hw_23_16, ho_23_17, hf_23_17, ho_23_18, hf_23_18, ho_23_19, hf_23_19, hk_23_19, hw_23_19, ho_23_20, hf_23_20, ho_23_21, hf_23_21, hk_23_21, hw_23_21, ho_23_22, hf_23_22, hk_23_22, hw_23_22, ho_23_23, hf_23_23, hk_23_23, hw_23_23, ho_23_24, hf_23_24, hk_23_24, hw_23_24, ho_23_25, hf_23_25, ho_23_26, hf_23_26, ho_23_27, hf_23_27, hk_23_27, hw_23_27, ho_23_28, hf_23_28, ho_23_29, hf_23_29, ho_23_30, hf_23_30, hk_23_30, hw_23_30, ho_23_31, hf_23_31, hk_23_31, hw_23_31, ho_23_32, hf_23_32, ho_23_33, hf_23_33, ho_23_34, hf_23_34, hk_23_34, hw_23_34, ho_23_35, hf_23_35, hk_23_35, hw_23_35, ho_23_36, hf_23_36, hk_23_36, hw_23_36, ho_23_37, hf_23_37, ho_23_38, hf_23_38, ho_23_39, hf_23_39, hn_24, hi_24, hj_24, hg_24, hu_24, hn_25, hi_25, hj_25, hg_25, hu_25, hn_26, hi_26, hj_26, hg_26, hu_26, hn_27, hi_27, hg_27, hu_27, hn_28, hi_28, hg_28, hu_28, hn_29, hi_29, hj_29, hg_29, hu_29, hn_30, hi_30, hj_30, hg_30, hu_30, hn_31, hi_31, hj_31, hg_31, hu_31, hn_32, hi_32, hj_32, hg_32, hu_32, hn_33, hi_33, hj_33, hg_33, hu_33, hn_34, hi_34, hj_34, hg_34, hu_34, hn_35, hi_35, hj_35, hg_35, hu_35, hn_36, hi_36, hj_36, hg_36, hu_36, hn_37, hi_37, hg_37, hu_37, hn_38, hi_38, hj_38, hg_38, hu_38, hn_39, hi_39, hj_39, hg_39, hu_39, hn_40, hi_40, hj_40, hg_40, hu_40, hn_41, hi_41, hj_41, hg_41, hu_41, hn_42, hi_42, hg_42, hu_42, hn_43, hi_43, hg_43, hu_43, hn_44, hi_44, hj_44, hg_44, hu_44, hn_45, hi_45, hg_45, hu_45, q1, S_good hS hW, hg, zo_t, show ¬ zn 1 = 0 by decide, b2, c4, show zn 0 = 0 from rfl]
end FY
