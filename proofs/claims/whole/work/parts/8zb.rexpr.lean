/-! FORMULAS: the reference -/
def rop (o : Nat) : Nat := [1, 2, 2, 2, 2, 2, 3, 9, 10, 7, 8, 4, 5, 6].getD o 0
def rar (o a : Nat) : Nat := if 1 ≤ o ∧ o ≤ 5 then o - 1 else a
def OPR (e : EST) (f g : Nat → Int32) : Prop := ∀ i, i < e.2.1 → ∃ o a, o ≤ 13 ∧ a < 10000 ∧ e.2.2.1 i = zn o ∧ e.2.2.2 i = zn a ∧ f i = zn (rop o) ∧ g i = zn (rar o a)
/-- how far tokens and steps have come -/
def EN (N : Nat) (e : EST) : Prop := e.1.2 < 20000 ∧ e.1.1 ≤ N ∧ e.2.1 ≤ e.1.1
/-- what a reading keeps: as many steps as tokens at the most -/
def PG (N : Nat) (P : EST → EST) : Prop := ∀ e, EN N e → EN N (P e) ∧ e.1.1 ≤ (P e).1.1 ∧ (P e).2.1 + e.1.1 ≤ e.2.1 + (P e).1.1
theorem EN_EB {N : Nat} {e : EST} (hN : N ≤ 1000) (h : EN N e) : EB e := ⟨h.1, by have := h.2.1; have := h.2.2; omega⟩
section PE
variable {L : Nat} {tp : Nat → Nat} {N : Nat} {f g : Nat → Int32} {v : Nat → Int64}
theorem emi_len {e : EST} (h : e.2.1 < 1000) (o a : Int32) : emi o a e = (e.1, e.2.1 + 1, zu e.2.2.1 e.2.1 o, zu e.2.2.2 e.2.1 a) := if_pos h
theorem EN_adv (hR : RTK L tp N f g v) {e : EST} (h : EN N e) (hx : e.1.2 = 0) (hS : ¬ tkS L tp (ps L tp e.1.1) = 4) : EN N (stx (adv e.1) e) ∧ (stx (adv e.1) e).1.1 = e.1.1 + 1 ∧ (stx (adv e.1) e).2.1 = e.2.1 := by
  have e0 := adv_0 hx
  have h1 := RTK_lt hR h.2.1 hS
  refine ⟨⟨adv_b h.1, ?_, ?_⟩, ?_, rfl⟩
  · show (adv e.1).1 ≤ N
    rw [e0]; exact h1
  · show e.2.1 ≤ (adv e.1).1
    rw [e0]
    have := h.2.2
    show e.2.1 ≤ e.1.1 + 1
    omega
  · show (adv e.1).1 = _
    rw [e0]
theorem EN_emi {e : EST} (hN : N ≤ 1000) (h : EN N e) (h2 : e.2.1 + 1 ≤ e.1.1) (o a : Int32) : EN N (emi o a e) ∧ (emi o a e).1 = e.1 ∧ (emi o a e).2.1 = e.2.1 + 1 := by
  have h3 := h.2.1
  rw [emi_len (by omega)]
  exact ⟨⟨h.1, h.2.1, h2⟩, rfl, rfl⟩
/-- a token that joins is no end -/
def JO (L : Nat) (tp : Nat → Nat) (o : Nat → Option Nat) : Prop := ∀ k c, o k = some c → ¬ tkS L tp (ps L tp k) = 4
theorem PG_loF (hR : RTK L tp N f g v) {t : EST → EST} {o : Nat → Option Nat} (ht : PG N t) (ho : JO L tp o) : ∀ fu, PG N (loF t o fu)
  | 0, e, h => ⟨h, Nat.le_refl _, Nat.le_refl _⟩
  | fu + 1, e, h => by
    unfold loF
    by_cases q : e.1.2 = 0
    · rw [if_pos q]
      cases hc : o e.1.1 with
      | none => exact ⟨h, Nat.le_refl _, Nat.le_refl _⟩
      | some c =>
        dsimp only
        obtain ⟨a1, a2, a3⟩ := EN_adv hR h q (ho _ _ hc)
        obtain ⟨b1, b2, b3⟩ := ht _ a1
        have h2 := h.2.2
        have h3 := hR.2.1
        obtain ⟨c1, c2, c3⟩ := EN_emi h3 b1 (by omega) (zn c) (zn 0)
        obtain ⟨d1, d2, d3⟩ := PG_loF hR ht ho fu _ c1
        rw [c2] at d2 d3
        rw [c3] at d3
        exact ⟨d1, by omega, by omega⟩
    · rw [if_neg q]
      exact ⟨h, Nat.le_refl _, Nat.le_refl _⟩
theorem PG_comp {P1 P2 : EST → EST} (h1 : PG N P1) (h2 : PG N P2) : PG N (fun e => P2 (P1 e)) := by
  intro e h
  obtain ⟨a1, a2, a3⟩ := h1 e h
  obtain ⟨b1, b2, b3⟩ := h2 _ a1
  refine ⟨b1, ?_, ?_⟩
  · show e.1.1 ≤ (P2 (P1 e)).1.1
    omega
  · show (P2 (P1 e)).2.1 + e.1.1 ≤ e.2.1 + (P2 (P1 e)).1.1
    omega
theorem JO_P : JO L tp (oP L tp) := by
  intro k c h
  unfold oP at h
  split at h
  · next q => rw [sgq_3 q]; omega
  · cases h
theorem JO_S : JO L tp (oS L tp) := by
  intro k c h
  unfold oS at h
  split at h
  · next q => rw [sgq_3 q]; omega
  · split at h
    · next q => rw [sgq_3 q]; omega
    · cases h
theorem JO_T : JO L tp (oT L tp) := by
  intro k c h
  unfold oT at h
  split at h
  · next q => rw [sgq_3 q]; omega
  · split at h
    · next q => rw [sgq_3 q]; omega
    · cases h
theorem JO_E : JO L tp (oE L tp) := by
  intro k c h
  unfold oE at h
  split at h
  · next q => rw [wdq_1 q]; omega
  · split at h
    · next q => rw [wdq_1 q]; omega
    · cases h
theorem PG_prG (hR : RTK L tp N f g v) {P : EST → EST} (hP : PG N P) : PG N (prG L tp P) := PG_comp (P1 := P) (P2 := loF P (oP L tp) 1000) hP (PG_loF hR hP JO_P 1000)
theorem PG_smG (hR : RTK L tp N f g v) {P : EST → EST} (hP : PG N P) : PG N (smG L tp P) := PG_comp (P1 := prG L tp P) (P2 := loF (prG L tp P) (oS L tp) 1000) (PG_prG hR hP) (PG_loF hR (PG_prG hR hP) JO_S 1000)
theorem PG_tsG (hR : RTK L tp N f g v) {P : EST → EST} (hP : PG N P) : PG N (tsG L tp P) := PG_comp (P1 := smG L tp P) (P2 := loF (smG L tp P) (oT L tp) 1) (PG_smG hR hP) (PG_loF hR (PG_smG hR hP) JO_T 1)
theorem PG_exG (hR : RTK L tp N f g v) {P : EST → EST} (hP : PG N P) : PG N (exG L tp P) := PG_comp (P1 := tsG L tp P) (P2 := loF (tsG L tp P) (oE L tp) 1000) (PG_tsG hR hP) (PG_loF hR (PG_tsG hR hP) JO_E 1000)
theorem flt_1 (e : Nat) (x : Nat × Nat) : (flt L tp e x).1 = x.1 := by
  unfold flt
  split <;> rfl
theorem EN_flt (hL : L ≤ 1000) {e : EST} (h : EN N e) (k : Nat) (hk : k ≤ 6) : EN N (stx (flt L tp k e.1) e) ∧ (stx (flt L tp k e.1) e).1.1 = e.1.1 := by
  have e1 : (stx (flt L tp k e.1) e).1.1 = e.1.1 := flt_1 k e.1
  refine ⟨⟨flt_b hL h.1 k hk, by rw [e1]; exact h.2.1, by rw [e1]; exact h.2.2⟩, e1⟩
theorem fcq_1 {k : Nat} (h : ¬ fcq L tp k = 0) : tkS L tp (ps L tp k) = 1 := by
  unfold fcq at h
  split at h
  · next q => exact wdq_1 q
  · split at h
    · next q => exact wdq_1 q
    · split at h
      · next q => exact wdq_1 q
      · split at h
        · next q => exact wdq_1 q
        · split at h
          · next q => exact wdq_1 q
          · omega
theorem PG_ptF (hL : L ≤ 1000) (hR : RTK L tp N f g v) : ∀ k, PG N (ptF L tp k)
  | 0, e, h => by
    unfold ptF
    split
    · obtain ⟨h1, h2⟩ := EN_flt (tp := tp) hL h 5 (by omega)
      exact ⟨h1, by omega, by rw [h2]; exact Nat.le_refl _⟩
    · obtain ⟨h1, h2⟩ := EN_flt (tp := tp) hL h 1 (by omega)
      exact ⟨h1, by omega, by rw [h2]; exact Nat.le_refl _⟩
  | k + 1, e, h => by
    have hN := hR.2.1
    have h9 := h.2.2
    unfold ptF
    by_cases hc : csq L tp e.1.1 = true
    · rw [if_pos hc]
      by_cases q : e.1.2 = 0
      · rw [if_pos q]
        by_cases q2 : wdq L tp e.1.1 13 = true
        · rw [if_pos q2]
          obtain ⟨a1, a2, a3⟩ := EN_adv hR h q (by rw [wdq_1 q2]; omega)
          obtain ⟨b1, b2, b3⟩ := PG_ptF hL hR k _ a1
          obtain ⟨c1, c2, c3⟩ := EN_emi hN b1 (by omega) (zn 6) (zn 0)
          exact ⟨c1, by rw [c2]; omega, by rw [c2, c3]; omega⟩
        · rw [if_neg q2]
          by_cases q3 : sgq L tp e.1.1 40 = true
          · rw [if_pos q3]
            obtain ⟨a1, a2, a3⟩ := EN_adv hR h q (by rw [sgq_3 q3]; omega)
            obtain ⟨b1, b2, b3⟩ := PG_exG hR (PG_ptF hL hR k) _ a1
            generalize exG L tp (ptF L tp k) (stx (adv e.1) e) = e' at b1 b2 b3 ⊢
            unfold tsg
            by_cases q4 : sgq L tp e'.1.1 41 = true
            · rw [if_pos q4]
              by_cases q5 : e'.1.2 = 0
              · obtain ⟨c1, c2, c3⟩ := EN_adv hR b1 q5 (by rw [sgq_3 q4]; omega)
                exact ⟨c1, by omega, by omega⟩
              · rw [adv_F q5]
                exact ⟨b1, by show e.1.1 ≤ e'.1.1; omega, by show e'.2.1 + e.1.1 ≤ e.2.1 + e'.1.1; omega⟩
            · rw [if_neg q4, adv_F (flt_n (by omega))]
              obtain ⟨c1, c2⟩ := EN_flt (tp := tp) hL b1 1 (by omega)
              refine ⟨c1, by omega, ?_⟩
              show e'.2.1 + e.1.1 ≤ e.2.1 + (flt L tp 1 e'.1).1
              rw [flt_1]
              omega
          · rw [if_neg q3]
            have hS : ¬ tkS L tp (ps L tp e.1.1) = 4 := by
              by_cases q4 : fcq L tp e.1.1 = 0
              · have q5 : tkS L tp (ps L tp e.1.1) = 2 := by
                  unfold csq at hc
                  simpa [q2, q3, q4] using hc
                omega
              · rw [fcq_1 q4]; omega
            have h10 := RTK_lt hR h.2.1 hS
            rw [emi_len (by have := h.2.1; omega), adv_0 q]
            refine ⟨⟨by show 0 < 20000; omega, h10, by show e.2.1 + 1 ≤ e.1.1 + 1; omega⟩, by show e.1.1 ≤ e.1.1 + 1; omega, by show e.2.1 + 1 + e.1.1 ≤ e.2.1 + (e.1.1 + 1); omega⟩
      · rw [if_neg q]
        exact ⟨h, Nat.le_refl _, Nat.le_refl _⟩
    · rw [if_neg hc]
      obtain ⟨h1, h2⟩ := EN_flt (tp := tp) hL h 1 (by omega)
      exact ⟨h1, by omega, by rw [h2]; exact Nat.le_refl _⟩
end PE
section RE
variable {n s : Nat} {c : Nat → mq_E} {I : Nat → Int32} {J : Nat → Int64} {A : Nat → Nat → Int32} {B : Nat → Nat → Int64} {R : Nat → Value} {Q : Nat → Nat → Option Nat}
variable {L : Nat} {tp : Nat → Nat} {N : Nat}
def hRE (n s : Nat) (c : Nat → mq_E) (I : Nat → Int32) (J : Nat → Int64) (B : Nat → Nat → Int64) (R : Nat → Value) (Q : Nat → Nat → Option Nat) (e : EST) (A : Nat → Nat → Int32) : mq_H := hp n s c (rI (zu I 1166 (zn e.2.1)) e.1) J A B R Q
def AFR (A A' : Nat → Nat → Int32) : Prop := ∀ q, q ≠ 31 → q ≠ 32 → A' q = A q
theorem AFR.trans {A A' A'' : Nat → Nat → Int32} (h : AFR A A') (h' : AFR A' A'') : AFR A A'' := fun q h1 h2 => by rw [h' q h1 h2, h q h1 h2]
theorem AFR_R {A A' : Nat → Nat → Int32} (h : AFR A A') (hR : RTK L tp N (A 25) (A 26) (B 27)) : RTK L tp N (A' 25) (A' 26) (B 27) := by rw [h 25 (by omega) (by omega), h 26 (by omega) (by omega)]; exact hR
theorem R_emit (d o a : Nat) (ho : o ≤ 13) (ha : a < 10000) (e : EST) (hl : e.2.1 < 1000) (hO : OPR e (A 31) (A 32)) : ∃ A', AFR A A' ∧ OPR (emi (zn o) (zn a) e) (A' 31) (A' 32) ∧ mz d 202 0 [some (.ref 23), some (.int (zn (rop o))), some (.int (zn (rar o a)))] [] (hRE n s c I J B R Q e A) = some (some none, hRE n s c I J B R Q (emi (zn o) (zn a) e) A') := by
  refine ⟨zu (zu A 31 (zu (A 31) e.2.1 (zn (rop o)))) 32 (zu (A 32) e.2.1 (zn (rar o a))), fun q h1 h2 => by rw [zu_ne _ _ _ _ h2, zu_ne _ _ _ _ h1], ?_, ?_⟩
  · have e1 : zu (zu A 31 (zu (A 31) e.2.1 (zn (rop o)))) 32 (zu (A 32) e.2.1 (zn (rar o a))) 31 = zu (A 31) e.2.1 (zn (rop o)) := by rw [zu_ne _ _ _ _ (by omega), zu_eq]
    rw [e1, zu_eq, emi_len hl]
    intro i hi
    have hi' : i < e.2.1 + 1 := hi
    dsimp only
    by_cases q : i = e.2.1
    · subst q
      exact ⟨o, a, ho, ha, zu_eq _ _ _, zu_eq _ _ _, zu_eq _ _ _, zu_eq _ _ _⟩
    · obtain ⟨o', a', k1, k2, k3, k4, k5, k6⟩ := hO i (by omega)
      exact ⟨o', a', k1, k2, by rw [zu_ne _ _ _ _ q]; exact k3, by rw [zu_ne _ _ _ _ q]; exact k4, by rw [zu_ne _ _ _ _ q]; exact k5, by rw [zu_ne _ _ _ _ q]; exact k6⟩
  · rw [emi_len hl]
    unfold hRE
    dsimp only
    have h1 : rop o < 100 := by
      have : ∀ o, o ≤ 13 → rop o < 100 := by decide
      exact this o ho
    have h2 : rar o a < 20000 := by unfold rar; split <;> omega
    simp (disch := first | omega | exact zb_1 | exact zb_0 | exact zb_n1 | exact zb_n0) only [x202_0, x202_0N, x202_1, x202_4, x202_4N, x202_5, x202_8, x202_9, x202_10, x202_10N, x202_11, x202_14, x202_14N, x202_15, x202_18, x202_19, x202_20, x202_20N, x202_21, x202_22, x202_25, x202_26, x202_27, x202_30, mq_dl_int, mq_dl_ref, mq_dl_null, mq_dl_none, mc_some, Option.toList_some, Option.toList_none, List.cons_append, List.nil_append, zb_1, zb_0, ↓reduceIte, if_true, if_false, not_true_eq_false, not_false_eq_true, Bool.false_eq_true, z_10, z_01, eq_self, Bool.and_self, true_or, or_true, false_or, or_false, true_and, and_true, false_and, and_false, and_self, or_self, Nat.reduceLT, Nat.reduceEqDiff, Nat.reduceLeDiff, Nat.reduceAdd, Nat.reduceMul, Nat.reduceSub, zn_lit, zn_add, zn_mul, zn_sub, zn_addneg, zn_lt, zn_le, zn_eq, zn_clamp, zn_in, zn_long, hp_1, hp_21, upd_zu, updL_zu, updQ_zu, zu_eq, zu_ne, ho_23, ho_23_0, hf_23_0, hk_23_0, hw_23_0, ho_23_1, hf_23_1, ho_23_2, hf_23_2, hk_23_2, hw_23_2, ho_23_3, hf_23_3, hk_23_3, hw_23_3, ho_23_4, hf_23_4, ho_23_5, hf_23_5, ho_23_6, hf_23_6, ho_23_7, hf_23_7, hk_23_7, hw_23_7, ho_23_8, hf_23_8, hk_23_8, hw_23_8, ho_23_9, hf_23_9, ho_23_10, hf_23_10, ho_23_11, hf_23_11, hk_23_11, hw_23_11, ho_23_12, hf_23_12, hk_23_12, hw_23_12, ho_23_13, hf_23_13, ho_23_14, hf_23_14, ho_23_15, hf_23_15, ho_23_16, hf_23_16, hk_23_16, hw_23_16, ho_23_17, hf_23_17, ho_23_18, hf_23_18, ho_23_19, hf_23_19, hk_23_19, hw_23_19, ho_23_20, hf_23_20, ho_23_21, hf_23_21, hk_23_21, hw_23_21, ho_23_22, hf_23_22, hk_23_22, hw_23_22, ho_23_23, hf_23_23, hk_23_23, hw_23_23, ho_23_24, hf_23_24, hk_23_24, hw_23_24, ho_23_25, hf_23_25, ho_23_26, hf_23_26, ho_23_27, hf_23_27, hk_23_27, hw_23_27, ho_23_28, hf_23_28, ho_23_29, hf_23_29, ho_23_30, hf_23_30, hk_23_30, hw_23_30, ho_23_31, hf_23_31, hk_23_31, hw_23_31, ho_23_32, hf_23_32, ho_23_33, hf_23_33, ho_23_34, hf_23_34, hk_23_34, hw_23_34, ho_23_35, hf_23_35, hk_23_35, hw_23_35, ho_23_36, hf_23_36, hk_23_36, hw_23_36, ho_23_37, hf_23_37, ho_23_38, hf_23_38, ho_23_39, hf_23_39, hn_24, hi_24, hj_24, hg_24, hu_24, hn_25, hi_25, hj_25, hg_25, hu_25, hn_26, hi_26, hj_26, hg_26, hu_26, hn_27, hi_27, hg_27, hu_27, hn_28, hi_28, hg_28, hu_28, hn_29, hi_29, hj_29, hg_29, hu_29, hn_30, hi_30, hj_30, hg_30, hu_30, hn_31, hi_31, hj_31, hg_31, hu_31, hn_32, hi_32, hj_32, hg_32, hu_32, hn_33, hi_33, hj_33, hg_33, hu_33, hn_34, hi_34, hj_34, hg_34, hu_34, hn_35, hi_35, hj_35, hg_35, hu_35, hn_36, hi_36, hj_36, hg_36, hu_36, hn_37, hi_37, hg_37, hu_37, hn_38, hi_38, hj_38, hg_38, hu_38, hn_39, hi_39, hj_39, hg_39, hu_39, hn_40, hi_40, hj_40, hg_40, hu_40, hn_41, hi_41, hj_41, hg_41, hu_41, hn_42, hi_42, hg_42, hu_42, hn_43, hi_43, hg_43, hu_43, hn_44, hi_44, hj_44, hg_44, hu_44, hn_45, hi_45, hg_45, hu_45, rI_ne, rI_zu, zu_zu, zu_eq, show e.2.1 < 1100 by omega, decide_true]
/-- a run of the reference that reads -/
def RR (N : Nat) (L : Nat) (tp : Nat → Nat) (n s : Nat) (c : Nat → mq_E) (I : Nat → Int32) (J : Nat → Int64) (B : Nat → Nat → Int64) (R : Nat → Value) (Q : Nat → Nat → Option Nat) (A0 : Nat → Nat → Int32) (D mi : Nat) (ls : mq_L) (P : EST → EST) : Prop := ∀ (e : EST) (A : Nat → Nat → Int32), EN N e → OPR e (A 31) (A 32) → AFR A0 A → ∃ A', AFR A A' ∧ OPR (P e) (A' 31) (A' 32) ∧ mz D mi 0 ls [] (hRE n s c I J B R Q e A) = some (some none, hRE n s c I J B R Q (P e) A')
theorem hRE_0 (e : EST) (A : Nat → Nat → Int32) : mo0 (hRE n s c I J B R Q e A) 23 10 = true := rfl
end RE
