/-! FORMULAS: what is read; the class reads it -/
abbrev EST : Type := (Nat × Nat) × Nat × (Nat → Int32) × (Nat → Int32)
def emi (o a : Int32) (e : EST) : EST := if e.2.1 < 1000 then (e.1, e.2.1 + 1, zu e.2.2.1 e.2.1 o, zu e.2.2.2 e.2.1 a) else e
def stx (x : Nat × Nat) (e : EST) : EST := (x, e.2)
def EB (e : EST) : Prop := e.1.2 < 20000 ∧ e.2.1 ≤ 1000
theorem EB_emi {e : EST} (h : EB e) (o a : Int32) : EB (emi o a e) := by
  unfold emi
  split
  · exact ⟨h.1, by show e.2.1 + 1 ≤ 1000; omega⟩
  · exact h
theorem EB_stx {e : EST} (h : EB e) {x : Nat × Nat} (hx : x.2 < 20000) : EB (stx x e) := ⟨hx, h.2⟩
def loF (t : EST → EST) (o : Nat → Option Nat) : Nat → EST → EST
  | 0, e => e
  | f + 1, e => if e.1.2 = 0 then (match o e.1.1 with
    | some c => loF t o f (emi (zn c) (zn 0) (t (stx (adv e.1) e)))
    | none => e) else e
theorem EB_loF {t : EST → EST} {o : Nat → Option Nat} (ht : ∀ e, EB e → EB (t e)) : ∀ (f : Nat) (e : EST), EB e → EB (loF t o f e)
  | 0, e, h => h
  | f + 1, e, h => by
    unfold loF
    split
    · split
      · exact EB_loF ht f _ (EB_emi (ht _ (EB_stx h (adv_b h.1))) _ _)
      · exact h
    · exact h
section EG
variable (L : Nat) (tp : Nat → Nat)
def oP (k : Nat) : Option Nat := if sgq L tp k 42 = true then some 13 else none
def oS (k : Nat) : Option Nat := if sgq L tp k 43 = true then some 11 else if sgq L tp k 45 = true then some 12 else none
def oT (k : Nat) : Option Nat := if sgq L tp k 60 = true then some 9 else if sgq L tp k 61 = true then some 10 else none
def oE (k : Nat) : Option Nat := if wdq L tp k 14 = true then some 7 else if wdq L tp k 15 = true then some 8 else none
def prG (P : EST → EST) (e : EST) : EST := loF P (oP L tp) 1000 (P e)
def smG (P : EST → EST) (e : EST) : EST := loF (prG L tp P) (oS L tp) 1000 (prG L tp P e)
def tsG (P : EST → EST) (e : EST) : EST := loF (smG L tp P) (oT L tp) 1 (smG L tp P e)
def exG (P : EST → EST) (e : EST) : EST := loF (tsG L tp P) (oE L tp) 1000 (tsG L tp P e)
/-- a fact: 1 to 5; 0: none -/
def fcq (k : Nat) : Nat := if wdq L tp k 8 = true then 1 else if wdq L tp k 9 = true then 2 else if wdq L tp k 10 = true then 3 else if wdq L tp k 11 = true then 4 else if wdq L tp k 12 = true then 5 else 0
/-- whether a part can stand here -/
def csq (k : Nat) : Bool := decide (¬ fcq L tp k = 0) || (wdq L tp k 13 || (sgq L tp k 40 || decide (tkS L tp (ps L tp k) = 2)))
def ptF : Nat → EST → EST
  | 0, e => stx (if csq L tp e.1.1 = true then flt L tp 5 e.1 else flt L tp 1 e.1) e
  | k + 1, e => if csq L tp e.1.1 = true then
    (if e.1.2 = 0 then
      (if wdq L tp e.1.1 13 = true then emi (zn 6) (zn 0) (ptF k (stx (adv e.1) e))
      else if sgq L tp e.1.1 40 = true then stx (tsg L tp 41 (exG L tp (ptF k) (stx (adv e.1) e)).1) (exG L tp (ptF k) (stx (adv e.1) e))
      else stx (adv e.1) (emi (zn (fcq L tp e.1.1)) (if fcq L tp e.1.1 = 0 then zn (nbq L tp e.1.1) else zn 0) e)) else e)
    else stx (flt L tp 1 e.1) e
end EG
section EH
variable {L : Nat} {tp : Nat → Nat}
theorem EB_prG {P : EST → EST} (hP : ∀ e, EB e → EB (P e)) (e : EST) (h : EB e) : EB (prG L tp P e) := EB_loF hP _ _ (hP e h)
theorem EB_smG {P : EST → EST} (hP : ∀ e, EB e → EB (P e)) (e : EST) (h : EB e) : EB (smG L tp P e) := EB_loF (EB_prG hP) _ _ (EB_prG hP e h)
theorem EB_tsG {P : EST → EST} (hP : ∀ e, EB e → EB (P e)) (e : EST) (h : EB e) : EB (tsG L tp P e) := EB_loF (EB_smG hP) _ _ (EB_smG hP e h)
theorem EB_exG {P : EST → EST} (hP : ∀ e, EB e → EB (P e)) (e : EST) (h : EB e) : EB (exG L tp P e) := EB_loF (EB_tsG hP) _ _ (EB_tsG hP e h)
theorem EB_ptF (hL : L ≤ 1000) : ∀ (k : Nat) (e : EST), EB e → EB (ptF L tp k e)
  | 0, e, h => by
    unfold ptF
    apply EB_stx h
    split
    · exact flt_b hL h.1 5 (by omega)
    · exact flt_b hL h.1 1 (by omega)
  | k + 1, e, h => by
    unfold ptF
    split
    · split
      · split
        · exact EB_emi (EB_ptF hL k _ (EB_stx h (adv_b h.1))) _ _
        · split
          · have h1 := EB_exG (L := L) (tp := tp) (EB_ptF hL k) _ (EB_stx h (adv_b h.1))
            exact EB_stx h1 (tsg_b hL h1.1 41)
          · exact EB_stx (EB_emi h _ _) (adv_b h.1)
      · exact h
    · exact EB_stx h (flt_b hL h.1 1 (by omega))
end EH
theorem zA78 (A : Nat → Nat → Int32) (s t s' : Nat → Int32) : zu (zu (zu A 7 s) 8 t) 7 s' = zu (zu A 7 s') 8 t := by
  funext k
  by_cases h7 : k = 7
  · subst h7; rw [zu_eq, zu_ne _ _ _ _ (by omega), zu_eq]
  · rw [zu_ne _ _ _ _ h7]
    by_cases h8 : k = 8
    · subst h8; rw [zu_eq, zu_eq]
    · rw [zu_ne _ _ _ _ h8, zu_ne _ _ _ _ h7, zu_ne _ _ _ _ h8, zu_ne _ _ _ _ h7]
section CE
variable {n s : Nat} {c : Nat → mq_E} {I : Nat → Int32} {J : Nat → Int64} {A : Nat → Nat → Int32} {B : Nat → Nat → Int64} {R : Nat → Value} {Q : Nat → Nat → Option Nat}
variable {L : Nat} {tp : Nat → Nat}
def hE (L : Nat) (tp : Nat → Nat) (n s : Nat) (c : Nat → mq_E) (I : Nat → Int32) (J : Nat → Int64) (A : Nat → Nat → Int32) (B : Nat → Nat → Int64) (R : Nat → Value) (Q : Nat → Nat → Option Nat) (e : EST) : mq_H := hp n s c (tI L tp (zu I 303 (zn e.2.1)) e.1) J (zu (zu A 7 e.2.2.1) 8 e.2.2.2) B R Q
theorem TKE (h : TKp L tp I A) (e : EST) : TKp L tp (zu I 303 (zn e.2.1)) (zu (zu A 7 e.2.2.1) 8 e.2.2.2) := ⟨h.1, by rw [zu_ne _ _ _ _ (by omega)]; exact h.2.1, by rw [zu_ne _ _ _ _ (by omega), zu_ne _ _ _ _ (by omega)]; exact h.2.2.1, h.2.2.2⟩
theorem E_adv (h : TKp L tp I A) (hS : STR c) (d : Nat) (e : EST) (he : EB e) : mz (d + 4) 131 0 [some (.ref 1), none] [] (hE L tp n s c I J A B R Q e) = some (some none, hE L tp n s c I J A B R Q (stx (adv e.1) e)) := C_adv (TKE h e) hS d e.1 he.1
theorem E_fine (d : Nat) (e : EST) (he : EB e) : mz d 128 0 [some (.ref 1)] [] (hE L tp n s c I J A B R Q e) = some (some (some (.int (zo (decide (e.1.2 = 0))))), hE L tp n s c I J A B R Q e) := C_fine d e.1 he.1
theorem E_fail (hL : L ≤ 1000) (d k : Nat) (e : EST) (he : EB e) : mz d 129 0 [some (.ref 1), some (.int (zn k))] [] (hE L tp n s c I J A B R Q e) = some (some none, hE L tp n s c I J A B R Q (stx (flt L tp k e.1) e)) := C_fail hL d k e.1 he.1
theorem E_num (d : Nat) (e : EST) : mz d 134 0 [some (.ref 1)] [] (hE L tp n s c I J A B R Q e) = some (some (some (.int (zo (decide (tkS L tp (ps L tp e.1.1) = 2))))), hE L tp n s c I J A B R Q e) := C_num d e.1
theorem E_sign (h : TKp L tp I A) (d ch : Nat) (hch : ch < 128) (e : EST) : mz d 135 0 [some (.ref 1), some (.int (zn ch))] [] (hE L tp n s c I J A B R Q e) = some (some (some (.int (zo (sgq L tp e.1.1 ch)))), hE L tp n s c I J A B R Q e) := C_sign (TKE h e) d ch hch e.1
theorem E_word (h : TKp L tp I A) (hS : STR c) (d i a : Nat) (hi : i < 16) (ha : a = 1000000001 + i) (e : EST) : mz (d + 4) 136 0 [some (.ref 1), some (.ref a), none] [] (hE L tp n s c I J A B R Q e) = some (some (some (.int (zo (wdq L tp e.1.1 i)))), hE L tp n s c I J A B R Q e) := C_word (TKE h e) hS d i a hi ha e.1
theorem E_ts (h : TKp L tp I A) (hS : STR c) (d ch : Nat) (hch : ch < 128) (e : EST) (he : EB e) : mz (d + 5) 138 0 [some (.ref 1), some (.int (zn ch))] [] (hE L tp n s c I J A B R Q e) = some (some none, hE L tp n s c I J A B R Q (stx (tsg L tp ch e.1) e)) := C_ts (TKE h e) hS d ch hch e.1 he.1
theorem hE_0 (k : Nat) (hk : k = 1 ∨ k = 5 ∨ k = 6) (e : EST) : mo0 (hE L tp n s c I J A B R Q e) k (hcl k) = true := by
  rcases hk with rfl | rfl | rfl <;> rfl
theorem hE_50 (e : EST) : mo (hE L tp n s c I J A B R Q e) 5 5 0 = true ∧ mf (hE L tp n s c I J A B R Q e) 5 0 = .ref 1 ∧ mo (hE L tp n s c I J A B R Q e) 5 5 1 = true ∧ mf (hE L tp n s c I J A B R Q e) 5 1 = .ref 6 := ⟨rfl, rfl, rfl, rfl⟩
theorem hE_01 (e : EST) : mo0 (hE L tp n s c I J A B R Q e) 1 8 = true ∧ mo0 (hE L tp n s c I J A B R Q e) 5 5 = true ∧ mo0 (hE L tp n s c I J A B R Q e) 6 1 = true := ⟨rfl, rfl, rfl⟩
theorem E_add (d : Nat) (o a : Int32) (e : EST) (he : EB e) : mz d 16 0 [some (.ref 6), some (.int o), some (.int a)] [] (hE L tp n s c I J A B R Q e) = some (some none, hE L tp n s c I J A B R Q (emi o a e)) := by
  obtain ⟨h1, h2⟩ := he
  unfold emi
  by_cases q : e.2.1 < 1000
  · rw [if_pos q]
    unfold hE
    dsimp only
    simp (disch := first | omega | exact zb_1 | exact zb_0 | exact zb_n1 | exact zb_n0) only [x16_0, x16_0N, x16_1, x16_4, x16_7, x16_10, x16_10N, x16_11, x16_14, x16_14N, x16_15, x16_18, x16_19, x16_20, x16_20N, x16_21, x16_24, x16_24N, x16_25, x16_28, x16_29, x16_30, x16_30N, x16_31, x16_32, x16_35, x16_36, x16_37, x16_40, mq_dl_int, mq_dl_ref, mq_dl_null, mq_dl_none, mc_some, Option.toList_some, Option.toList_none, List.cons_append, List.nil_append, zb_1, zb_0, ↓reduceIte, if_true, if_false, not_true_eq_false, not_false_eq_true, Bool.false_eq_true, z_10, z_01, eq_self, Bool.and_self, true_or, or_true, false_or, or_false, true_and, and_true, false_and, and_false, and_self, or_self, Nat.reduceLT, Nat.reduceEqDiff, Nat.reduceLeDiff, Nat.reduceAdd, Nat.reduceMul, Nat.reduceSub, zn_lit, zn_add, zn_mul, zn_sub, zn_addneg, zn_lt, zn_le, zn_eq, zn_clamp, zn_in, zn_long, hp_1, hp_21, upd_zu, updL_zu, updQ_zu, zu_eq, zu_ne, ho_0, ho_0_0, hf_0_0, ho_0_1, hf_0_1, ho_0_2, hf_0_2, ho_0_3, hf_0_3, ho_0_4, hf_0_4, ho_0_5, hf_0_5, ho_0_6, hf_0_6, ho_0_7, hf_0_7, hk_0_7, hw_0_7, ho_1, ho_1_0, hf_1_0, ho_1_1, hf_1_1, hk_1_1, hw_1_1, ho_1_2, hf_1_2, hk_1_2, hw_1_2, ho_1_3, hf_1_3, hk_1_3, hw_1_3, ho_1_4, hf_1_4, hk_1_4, hw_1_4, ho_1_5, hf_1_5, hk_1_5, hw_1_5, hn_2, hi_2, hg_2, hu_2, ho_3, ho_3_0, hf_3_0, ho_3_1, hf_3_1, ho_3_2, hf_3_2, hk_3_2, hw_3_2, ho_3_3, hf_3_3, hk_3_3, hw_3_3, hn_4, hi_4, hj_4, hg_4, hu_4, ho_5, ho_5_0, hf_5_0, ho_5_1, hf_5_1, ho_5_2, hf_5_2, ho_5_3, hf_5_3, hk_5_3, hw_5_3, ho_6, ho_6_0, hf_6_0, ho_6_1, hf_6_1, ho_6_2, hf_6_2, ho_6_3, hf_6_3, hk_6_3, hw_6_3, hn_7, hi_7, hj_7, hg_7, hu_7, hn_8, hi_8, hj_8, hg_8, hu_8, hn_9, hi_9, hj_9, hg_9, hu_9, ho_10, ho_10_0, hf_10_0, ho_10_1, hf_10_1, ho_10_2, hf_10_2, ho_10_3, hf_10_3, hk_10_3, hw_10_3, ho_10_4, hf_10_4, hk_10_4, hkN_10_4, hw_10_4, hn_11, hi_11, hj_11, hg_11, hu_11, hn_12, hi_12, hj_12, hg_12, hu_12, hn_13, hi_13, hj_13, hg_13, hu_13, hn_14, hi_14, hg_14, hu_14, hn_15, hi_15, hg_15, hu_15, ho_16, ho_16_0, hf_16_0, ho_16_1, hf_16_1, ho_16_2, hf_16_2, hk_16_2, hw_16_2, ho_16_3, hf_16_3, hk_16_3, hw_16_3, ho_16_4, hf_16_4, hk_16_4, hkN_16_4, hw_16_4, hn_17, hi_17, hg_17, hu_17, hn_18, hi_18, hg_18, hu_18, hn_22, hi_22, hg_22, hu_22, tI_ne, tI_zu, zu_zu, zA78, q, show ¬ 1000 ≤ e.2.1 by omega, decide_true]
  · rw [if_neg q]
    unfold hE
    simp (disch := first | omega | exact zb_1 | exact zb_0 | exact zb_n1 | exact zb_n0) only [x16_0, x16_0N, x16_1, x16_4, x16_7, x16_10, x16_10N, x16_11, x16_14, x16_14N, x16_15, x16_18, x16_19, x16_20, x16_20N, x16_21, x16_24, x16_24N, x16_25, x16_28, x16_29, x16_30, x16_30N, x16_31, x16_32, x16_35, x16_36, x16_37, x16_40, mq_dl_int, mq_dl_ref, mq_dl_null, mq_dl_none, mc_some, Option.toList_some, Option.toList_none, List.cons_append, List.nil_append, zb_1, zb_0, ↓reduceIte, if_true, if_false, not_true_eq_false, not_false_eq_true, Bool.false_eq_true, z_10, z_01, eq_self, Bool.and_self, true_or, or_true, false_or, or_false, true_and, and_true, false_and, and_false, and_self, or_self, Nat.reduceLT, Nat.reduceEqDiff, Nat.reduceLeDiff, Nat.reduceAdd, Nat.reduceMul, Nat.reduceSub, zn_lit, zn_add, zn_mul, zn_sub, zn_addneg, zn_lt, zn_le, zn_eq, zn_clamp, zn_in, zn_long, hp_1, hp_21, upd_zu, updL_zu, updQ_zu, zu_eq, zu_ne, ho_0, ho_0_0, hf_0_0, ho_0_1, hf_0_1, ho_0_2, hf_0_2, ho_0_3, hf_0_3, ho_0_4, hf_0_4, ho_0_5, hf_0_5, ho_0_6, hf_0_6, ho_0_7, hf_0_7, hk_0_7, hw_0_7, ho_1, ho_1_0, hf_1_0, ho_1_1, hf_1_1, hk_1_1, hw_1_1, ho_1_2, hf_1_2, hk_1_2, hw_1_2, ho_1_3, hf_1_3, hk_1_3, hw_1_3, ho_1_4, hf_1_4, hk_1_4, hw_1_4, ho_1_5, hf_1_5, hk_1_5, hw_1_5, hn_2, hi_2, hg_2, hu_2, ho_3, ho_3_0, hf_3_0, ho_3_1, hf_3_1, ho_3_2, hf_3_2, hk_3_2, hw_3_2, ho_3_3, hf_3_3, hk_3_3, hw_3_3, hn_4, hi_4, hj_4, hg_4, hu_4, ho_5, ho_5_0, hf_5_0, ho_5_1, hf_5_1, ho_5_2, hf_5_2, ho_5_3, hf_5_3, hk_5_3, hw_5_3, ho_6, ho_6_0, hf_6_0, ho_6_1, hf_6_1, ho_6_2, hf_6_2, ho_6_3, hf_6_3, hk_6_3, hw_6_3, hn_7, hi_7, hj_7, hg_7, hu_7, hn_8, hi_8, hj_8, hg_8, hu_8, hn_9, hi_9, hj_9, hg_9, hu_9, ho_10, ho_10_0, hf_10_0, ho_10_1, hf_10_1, ho_10_2, hf_10_2, ho_10_3, hf_10_3, hk_10_3, hw_10_3, ho_10_4, hf_10_4, hk_10_4, hkN_10_4, hw_10_4, hn_11, hi_11, hj_11, hg_11, hu_11, hn_12, hi_12, hj_12, hg_12, hu_12, hn_13, hi_13, hj_13, hg_13, hu_13, hn_14, hi_14, hg_14, hu_14, hn_15, hi_15, hg_15, hu_15, ho_16, ho_16_0, hf_16_0, ho_16_1, hf_16_1, ho_16_2, hf_16_2, hk_16_2, hw_16_2, ho_16_3, hf_16_3, hk_16_3, hw_16_3, ho_16_4, hf_16_4, hk_16_4, hkN_16_4, hw_16_4, hn_17, hi_17, hg_17, hu_17, hn_18, hi_18, hg_18, hu_18, hn_22, hi_22, hg_22, hu_22, tI_ne, zu_eq, show 1000 ≤ e.2.1 by omega]
theorem E_fact (h : TKp L tp I A) (hS : STR c) (d : Nat) (e : EST) : mz (d + 5) 94 0 [some (.ref 5)] [] (hE L tp n s c I J A B R Q e) = some (some (some (.int (if fcq L tp e.1.1 = 0 then -zn 1 else zn (fcq L tp e.1.1)))), hE L tp n s c I J A B R Q e) := by
  obtain ⟨g1, g2, g3, g4⟩ := hE_50 (n := n) (s := s) (c := c) (I := I) (J := J) (A := A) (B := B) (R := R) (Q := Q) (L := L) (tp := tp) e
  obtain ⟨g5, g6, g7⟩ := hE_01 (n := n) (s := s) (c := c) (I := I) (J := J) (A := A) (B := B) (R := R) (Q := Q) (L := L) (tp := tp) e
  have w1 := E_word (n := n) (s := s) (J := J) (B := B) (R := R) (Q := Q) h hS d 8 1000000009 (by omega) rfl e
  have w2 := E_word (n := n) (s := s) (J := J) (B := B) (R := R) (Q := Q) h hS d 9 1000000010 (by omega) rfl e
  have w3 := E_word (n := n) (s := s) (J := J) (B := B) (R := R) (Q := Q) h hS d 10 1000000011 (by omega) rfl e
  have w4 := E_word (n := n) (s := s) (J := J) (B := B) (R := R) (Q := Q) h hS d 11 1000000012 (by omega) rfl e
  have w5 := E_word (n := n) (s := s) (J := J) (B := B) (R := R) (Q := Q) h hS d 12 1000000013 (by omega) rfl e
  unfold fcq
  by_cases q1 : wdq L tp e.1.1 8 = true
  · simp (disch := first | omega | exact zb_1 | exact zb_0 | exact zb_n1 | exact zb_n0) only [x94_0, x94_0N, x94_1, x94_4, x94_6, x94_9, x94_12, x94_13, x94_14, x94_14N, x94_15, x94_18, x94_20, x94_23, x94_26, x94_27, x94_28, x94_28N, x94_29, x94_32, x94_34, x94_37, x94_40, x94_41, x94_42, x94_42N, x94_43, x94_46, x94_48, x94_51, x94_54, x94_55, x94_56, x94_56N, x94_57, x94_60, x94_62, x94_65, x94_68, x94_69, x94_73, x94_72, mq_dl_int, mq_dl_ref, mq_dl_null, mq_dl_none, mc_some, Option.toList_some, Option.toList_none, List.cons_append, List.nil_append, zb_1, zb_0, ↓reduceIte, if_true, if_false, not_true_eq_false, not_false_eq_true, Bool.false_eq_true, z_10, z_01, eq_self, Bool.and_self, true_or, or_true, false_or, or_false, true_and, and_true, false_and, and_false, and_self, or_self, Nat.reduceLT, Nat.reduceEqDiff, Nat.reduceLeDiff, Nat.reduceAdd, Nat.reduceMul, Nat.reduceSub, zn_lit, zn_add, zn_mul, zn_sub, zn_addneg, zn_lt, zn_le, zn_eq, zn_clamp, zn_in, zn_long, g1, g2, g5, w1, q1, zo_t]
  · by_cases q2 : wdq L tp e.1.1 9 = true
    · simp (disch := first | omega | exact zb_1 | exact zb_0 | exact zb_n1 | exact zb_n0) only [x94_0, x94_0N, x94_1, x94_4, x94_6, x94_9, x94_12, x94_13, x94_14, x94_14N, x94_15, x94_18, x94_20, x94_23, x94_26, x94_27, x94_28, x94_28N, x94_29, x94_32, x94_34, x94_37, x94_40, x94_41, x94_42, x94_42N, x94_43, x94_46, x94_48, x94_51, x94_54, x94_55, x94_56, x94_56N, x94_57, x94_60, x94_62, x94_65, x94_68, x94_69, x94_73, x94_72, mq_dl_int, mq_dl_ref, mq_dl_null, mq_dl_none, mc_some, Option.toList_some, Option.toList_none, List.cons_append, List.nil_append, zb_1, zb_0, ↓reduceIte, if_true, if_false, not_true_eq_false, not_false_eq_true, Bool.false_eq_true, z_10, z_01, eq_self, Bool.and_self, true_or, or_true, false_or, or_false, true_and, and_true, false_and, and_false, and_self, or_self, Nat.reduceLT, Nat.reduceEqDiff, Nat.reduceLeDiff, Nat.reduceAdd, Nat.reduceMul, Nat.reduceSub, zn_lit, zn_add, zn_mul, zn_sub, zn_addneg, zn_lt, zn_le, zn_eq, zn_clamp, zn_in, zn_long, g1, g2, g5, w1, w2, Bool.eq_false_iff.mpr q1, q2, zo_t, zo_f]
    · by_cases q3 : wdq L tp e.1.1 10 = true
      · simp (disch := first | omega | exact zb_1 | exact zb_0 | exact zb_n1 | exact zb_n0) only [x94_0, x94_0N, x94_1, x94_4, x94_6, x94_9, x94_12, x94_13, x94_14, x94_14N, x94_15, x94_18, x94_20, x94_23, x94_26, x94_27, x94_28, x94_28N, x94_29, x94_32, x94_34, x94_37, x94_40, x94_41, x94_42, x94_42N, x94_43, x94_46, x94_48, x94_51, x94_54, x94_55, x94_56, x94_56N, x94_57, x94_60, x94_62, x94_65, x94_68, x94_69, x94_73, x94_72, mq_dl_int, mq_dl_ref, mq_dl_null, mq_dl_none, mc_some, Option.toList_some, Option.toList_none, List.cons_append, List.nil_append, zb_1, zb_0, ↓reduceIte, if_true, if_false, not_true_eq_false, not_false_eq_true, Bool.false_eq_true, z_10, z_01, eq_self, Bool.and_self, true_or, or_true, false_or, or_false, true_and, and_true, false_and, and_false, and_self, or_self, Nat.reduceLT, Nat.reduceEqDiff, Nat.reduceLeDiff, Nat.reduceAdd, Nat.reduceMul, Nat.reduceSub, zn_lit, zn_add, zn_mul, zn_sub, zn_addneg, zn_lt, zn_le, zn_eq, zn_clamp, zn_in, zn_long, g1, g2, g5, w1, w2, w3, Bool.eq_false_iff.mpr q1, Bool.eq_false_iff.mpr q2, q3, zo_t, zo_f]
      · by_cases q4 : wdq L tp e.1.1 11 = true
        · simp (disch := first | omega | exact zb_1 | exact zb_0 | exact zb_n1 | exact zb_n0) only [x94_0, x94_0N, x94_1, x94_4, x94_6, x94_9, x94_12, x94_13, x94_14, x94_14N, x94_15, x94_18, x94_20, x94_23, x94_26, x94_27, x94_28, x94_28N, x94_29, x94_32, x94_34, x94_37, x94_40, x94_41, x94_42, x94_42N, x94_43, x94_46, x94_48, x94_51, x94_54, x94_55, x94_56, x94_56N, x94_57, x94_60, x94_62, x94_65, x94_68, x94_69, x94_73, x94_72, mq_dl_int, mq_dl_ref, mq_dl_null, mq_dl_none, mc_some, Option.toList_some, Option.toList_none, List.cons_append, List.nil_append, zb_1, zb_0, ↓reduceIte, if_true, if_false, not_true_eq_false, not_false_eq_true, Bool.false_eq_true, z_10, z_01, eq_self, Bool.and_self, true_or, or_true, false_or, or_false, true_and, and_true, false_and, and_false, and_self, or_self, Nat.reduceLT, Nat.reduceEqDiff, Nat.reduceLeDiff, Nat.reduceAdd, Nat.reduceMul, Nat.reduceSub, zn_lit, zn_add, zn_mul, zn_sub, zn_addneg, zn_lt, zn_le, zn_eq, zn_clamp, zn_in, zn_long, g1, g2, g5, w1, w2, w3, w4, Bool.eq_false_iff.mpr q1, Bool.eq_false_iff.mpr q2, Bool.eq_false_iff.mpr q3, q4, zo_t, zo_f]
        · by_cases q5 : wdq L tp e.1.1 12 = true
          · simp (disch := first | omega | exact zb_1 | exact zb_0 | exact zb_n1 | exact zb_n0) only [x94_0, x94_0N, x94_1, x94_4, x94_6, x94_9, x94_12, x94_13, x94_14, x94_14N, x94_15, x94_18, x94_20, x94_23, x94_26, x94_27, x94_28, x94_28N, x94_29, x94_32, x94_34, x94_37, x94_40, x94_41, x94_42, x94_42N, x94_43, x94_46, x94_48, x94_51, x94_54, x94_55, x94_56, x94_56N, x94_57, x94_60, x94_62, x94_65, x94_68, x94_69, x94_73, x94_72, mq_dl_int, mq_dl_ref, mq_dl_null, mq_dl_none, mc_some, Option.toList_some, Option.toList_none, List.cons_append, List.nil_append, zb_1, zb_0, ↓reduceIte, if_true, if_false, not_true_eq_false, not_false_eq_true, Bool.false_eq_true, z_10, z_01, eq_self, Bool.and_self, true_or, or_true, false_or, or_false, true_and, and_true, false_and, and_false, and_self, or_self, Nat.reduceLT, Nat.reduceEqDiff, Nat.reduceLeDiff, Nat.reduceAdd, Nat.reduceMul, Nat.reduceSub, zn_lit, zn_add, zn_mul, zn_sub, zn_addneg, zn_lt, zn_le, zn_eq, zn_clamp, zn_in, zn_long, g1, g2, g5, w1, w2, w3, w4, w5, Bool.eq_false_iff.mpr q1, Bool.eq_false_iff.mpr q2, Bool.eq_false_iff.mpr q3, Bool.eq_false_iff.mpr q4, q5, zo_t, zo_f]
          · simp (disch := first | omega | exact zb_1 | exact zb_0 | exact zb_n1 | exact zb_n0) only [x94_0, x94_0N, x94_1, x94_4, x94_6, x94_9, x94_12, x94_13, x94_14, x94_14N, x94_15, x94_18, x94_20, x94_23, x94_26, x94_27, x94_28, x94_28N, x94_29, x94_32, x94_34, x94_37, x94_40, x94_41, x94_42, x94_42N, x94_43, x94_46, x94_48, x94_51, x94_54, x94_55, x94_56, x94_56N, x94_57, x94_60, x94_62, x94_65, x94_68, x94_69, x94_73, x94_72, mq_dl_int, mq_dl_ref, mq_dl_null, mq_dl_none, mc_some, Option.toList_some, Option.toList_none, List.cons_append, List.nil_append, zb_1, zb_0, ↓reduceIte, if_true, if_false, not_true_eq_false, not_false_eq_true, Bool.false_eq_true, z_10, z_01, eq_self, Bool.and_self, true_or, or_true, false_or, or_false, true_and, and_true, false_and, and_false, and_self, or_self, Nat.reduceLT, Nat.reduceEqDiff, Nat.reduceLeDiff, Nat.reduceAdd, Nat.reduceMul, Nat.reduceSub, zn_lit, zn_add, zn_mul, zn_sub, zn_addneg, zn_lt, zn_le, zn_eq, zn_clamp, zn_in, zn_long, g1, g2, g5, w1, w2, w3, w4, w5, Bool.eq_false_iff.mpr q1, Bool.eq_false_iff.mpr q2, Bool.eq_false_iff.mpr q3, Bool.eq_false_iff.mpr q4, Bool.eq_false_iff.mpr q5, zo_f]
/-- products -/
theorem E_prl (h : TKp L tp I A) (hS : STR c) (d dp : Nat) (P : EST → EST) (hP : ∀ e, EB e → EB (P e)) (hr : ∀ e, EB e → mz (d + 6) 93 0 [some (.ref 5), some (.int (zn dp)), none, none, none] [] (hE L tp n s c I J A B R Q e) = some (some none, hE L tp n s c I J A B R Q (P e))) : ∀ (f w : Nat) (e : EST), w + f = 1000 → EB e → mz (d + 7) 92 7 [some (.ref 5), some (.int (zn dp)), some (.int (zn w))] [] (hE L tp n s c I J A B R Q e) = some (some none, hE L tp n s c I J A B R Q (loF P (oP L tp) f e)) := by
  intro f
  induction f with
  | zero =>
    intro w e hw he
    have e9 : w = 1000 := by omega
    subst e9
    simp (disch := first | omega | exact zb_1 | exact zb_0 | exact zb_n1 | exact zb_n0) only [x92_7, x92_8, x92_11, x92_64, mq_dl_int, mq_dl_ref, mq_dl_null, mq_dl_none, mc_some, Option.toList_some, Option.toList_none, List.cons_append, List.nil_append, zb_1, zb_0, ↓reduceIte, if_true, if_false, not_true_eq_false, not_false_eq_true, Bool.false_eq_true, z_10, z_01, eq_self, Bool.and_self, true_or, or_true, false_or, or_false, true_and, and_true, false_and, and_false, and_self, or_self, Nat.reduceLT, Nat.reduceEqDiff, Nat.reduceLeDiff, Nat.reduceAdd, Nat.reduceMul, Nat.reduceSub, zn_lit, zn_add, zn_mul, zn_sub, zn_addneg, zn_lt, zn_le, zn_eq, zn_clamp, zn_in, zn_long, loF, Nat.le_refl]
  | succ f ih =>
    intro w e hw he
    obtain ⟨g1, g2, g3, g4⟩ := hE_50 (n := n) (s := s) (c := c) (I := I) (J := J) (A := A) (B := B) (R := R) (Q := Q) (L := L) (tp := tp) e
    obtain ⟨g5, g6, g7⟩ := hE_01 (n := n) (s := s) (c := c) (I := I) (J := J) (A := A) (B := B) (R := R) (Q := Q) (L := L) (tp := tp) e
    have k1 := E_fine (n := n) (s := s) (c := c) (I := I) (J := J) (A := A) (B := B) (R := R) (Q := Q) (L := L) (tp := tp) (d + 6) e he
    have k2 := E_sign (n := n) (s := s) (c := c) (J := J) (B := B) (R := R) (Q := Q) h (d + 6) 42 (by omega) e
    unfold loF
    rw [x92_7]
    by_cases q : e.1.2 = 0
    · rw [if_pos q]
      unfold oP
      by_cases q2 : sgq L tp e.1.1 42 = true
      · rw [if_pos q2]
        dsimp only
        have hb1 := EB_stx he (adv_b he.1)
        have hb2 := hP _ hb1
        have hb3 := EB_emi hb2 (zn 13) (zn 0)
        have e1 := ih (w + 1) _ (by omega) hb3
        unfold oP at e1
        rw [← e1]
        have k3 := E_adv (n := n) (s := s) (J := J) (B := B) (R := R) (Q := Q) h hS (d + 2) e he
        have k4 := hr _ hb1
        have k5 := E_add (n := n) (s := s) (c := c) (I := I) (J := J) (A := A) (B := B) (R := R) (Q := Q) (L := L) (tp := tp) (d + 6) (zn 13) (zn 0) _ hb2
        obtain ⟨i1, i2, i3, i4⟩ := hE_50 (n := n) (s := s) (c := c) (I := I) (J := J) (A := A) (B := B) (R := R) (Q := Q) (L := L) (tp := tp) (P (stx (adv e.1) e))
        obtain ⟨i5, i6, i7⟩ := hE_01 (n := n) (s := s) (c := c) (I := I) (J := J) (A := A) (B := B) (R := R) (Q := Q) (L := L) (tp := tp) (P (stx (adv e.1) e))
        obtain ⟨j5, j6, j7⟩ := hE_01 (n := n) (s := s) (c := c) (I := I) (J := J) (A := A) (B := B) (R := R) (Q := Q) (L := L) (tp := tp) (stx (adv e.1) e)
        simp (disch := first | omega | exact zb_1 | exact zb_0 | exact zb_n1 | exact zb_n0) only [x92_8, x92_11, x92_14, x92_15, x92_18, x92_21, x92_24, x92_25, x92_28, x92_30, x92_33, x92_36, x92_37, x92_40, x92_43, x92_44, x92_45, x92_48, x92_49, x92_52, x92_54, x92_55, x92_58, x92_61, mq_dl_int, mq_dl_ref, mq_dl_null, mq_dl_none, mc_some, Option.toList_some, Option.toList_none, List.cons_append, List.nil_append, zb_1, zb_0, ↓reduceIte, if_true, if_false, not_true_eq_false, not_false_eq_true, Bool.false_eq_true, z_10, z_01, eq_self, Bool.and_self, true_or, or_true, false_or, or_false, true_and, and_true, false_and, and_false, and_self, or_self, Nat.reduceLT, Nat.reduceEqDiff, Nat.reduceLeDiff, Nat.reduceAdd, Nat.reduceMul, Nat.reduceSub, zn_lit, zn_add, zn_mul, zn_sub, zn_addneg, zn_lt, zn_le, zn_eq, zn_clamp, zn_in, zn_long, g1, g2, g5, i3, i4, i7, j6, k1, k2, k3, k4, k5, q, q2, decide_true, zo_t, show ¬ 1000 ≤ w by omega]
      · rw [if_neg q2]
        simp (disch := first | omega | exact zb_1 | exact zb_0 | exact zb_n1 | exact zb_n0) only [x92_8, x92_11, x92_14, x92_15, x92_18, x92_21, x92_24, x92_25, x92_28, x92_30, x92_33, x92_64, mq_dl_int, mq_dl_ref, mq_dl_null, mq_dl_none, mc_some, Option.toList_some, Option.toList_none, List.cons_append, List.nil_append, zb_1, zb_0, ↓reduceIte, if_true, if_false, not_true_eq_false, not_false_eq_true, Bool.false_eq_true, z_10, z_01, eq_self, Bool.and_self, true_or, or_true, false_or, or_false, true_and, and_true, false_and, and_false, and_self, or_self, Nat.reduceLT, Nat.reduceEqDiff, Nat.reduceLeDiff, Nat.reduceAdd, Nat.reduceMul, Nat.reduceSub, zn_lit, zn_add, zn_mul, zn_sub, zn_addneg, zn_lt, zn_le, zn_eq, zn_clamp, zn_in, zn_long, g1, g2, g5, k1, k2, q, Bool.eq_false_iff.mpr q2, decide_true, zo_t, zo_f, show ¬ 1000 ≤ w by omega]
    · rw [if_neg q]
      simp (disch := first | omega | exact zb_1 | exact zb_0 | exact zb_n1 | exact zb_n0) only [x92_8, x92_11, x92_14, x92_15, x92_18, x92_21, x92_64, mq_dl_int, mq_dl_ref, mq_dl_null, mq_dl_none, mc_some, Option.toList_some, Option.toList_none, List.cons_append, List.nil_append, zb_1, zb_0, ↓reduceIte, if_true, if_false, not_true_eq_false, not_false_eq_true, Bool.false_eq_true, z_10, z_01, eq_self, Bool.and_self, true_or, or_true, false_or, or_false, true_and, and_true, false_and, and_false, and_self, or_self, Nat.reduceLT, Nat.reduceEqDiff, Nat.reduceLeDiff, Nat.reduceAdd, Nat.reduceMul, Nat.reduceSub, zn_lit, zn_add, zn_mul, zn_sub, zn_addneg, zn_lt, zn_le, zn_eq, zn_clamp, zn_in, zn_long, g1, g2, g5, k1, q, decide_false, zo_f, show ¬ 1000 ≤ w by omega]
theorem E_pr (h : TKp L tp I A) (hS : STR c) (d dp : Nat) (P : EST → EST) (hP : ∀ e, EB e → EB (P e)) (hr : ∀ e, EB e → mz (d + 6) 93 0 [some (.ref 5), some (.int (zn dp)), none, none, none] [] (hE L tp n s c I J A B R Q e) = some (some none, hE L tp n s c I J A B R Q (P e))) (e : EST) (he : EB e) : mz (d + 7) 92 0 [some (.ref 5), some (.int (zn dp)), none] [] (hE L tp n s c I J A B R Q e) = some (some none, hE L tp n s c I J A B R Q (prG L tp P e)) := by
  obtain ⟨g5, g6, g7⟩ := hE_01 (n := n) (s := s) (c := c) (I := I) (J := J) (A := A) (B := B) (R := R) (Q := Q) (L := L) (tp := tp) e
  have k1 := E_prl h hS d dp P hP hr 1000 0 _ rfl (hP e he)
  have k2 := hr e he
  unfold prG
  simp (disch := first | omega | exact zb_1 | exact zb_0 | exact zb_n1 | exact zb_n0) only [x92_0, x92_1, x92_2, x92_5, x92_6, mq_dl_int, mq_dl_ref, mq_dl_null, mq_dl_none, mc_some, Option.toList_some, Option.toList_none, List.cons_append, List.nil_append, zb_1, zb_0, ↓reduceIte, if_true, if_false, not_true_eq_false, not_false_eq_true, Bool.false_eq_true, z_10, z_01, eq_self, Bool.and_self, true_or, or_true, false_or, or_false, true_and, and_true, false_and, and_false, and_self, or_self, Nat.reduceLT, Nat.reduceEqDiff, Nat.reduceLeDiff, Nat.reduceAdd, Nat.reduceMul, Nat.reduceSub, zn_lit, zn_add, zn_mul, zn_sub, zn_addneg, zn_lt, zn_le, zn_eq, zn_clamp, zn_in, zn_long, g6, k2, k1]
end CE
