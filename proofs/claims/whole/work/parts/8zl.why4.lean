/-! COLOURS: counted alike, even both ways (the class) -/
def CI (p : Nat) (k : Nat → Nat → Nat) (a b t : Nat) (g : Nat → Int32) : Prop := SB p k a b t ∧ (∀ x y, bef p a b x y → ∀ i j, i < 6 → j < 6 → g ((i * 6 + j) * 6 + k x y) = zn (cnt p k x y i j p)) ∧ ∀ cc, cc < 6 → (∀ x y, bef p a b x y → ¬ k x y = cc) → ∀ i j, i < 6 → j < 6 → g ((i * 6 + j) * 6 + cc) = zn 0
def w4 (p : Nat) (k : Nat → Nat → Nat) : Prop := ∀ x y x' y', x < p → y < p → x' < p → y' < p → k x y = k x' y' → ∀ i j, i < 6 → j < 6 → cnt p k x y i j p = cnt p k x' y' i j p
theorem cnt_z {p m : Nat} {k : Nat → Nat → Nat} (hkm : ∀ x y, x < p → y < p → k x y < m) {x y i j : Nat} (hx : x < p) (hy : y < p) (h : m ≤ i ∨ m ≤ j) : cnt p k x y i j p = 0 := by
  unfold cnt
  apply zns_z
  intro z _ hz
  have h1 := hkm x z hx (by omega)
  have h2 := hkm z y (by omega) hy
  rw [if_neg (by omega)]
theorem CI_n {p a t : Nat} {k : Nat → Nat → Nat} {g : Nat → Int32} (h : CI p k a p t g) : CI p k (a + 1) 0 t g := ⟨SB_n h.1, fun x y hb => h.2.1 x y (bef_n.mp hb), fun cc hc hn => h.2.2 cc hc (fun x y hb => hn x y (bef_n.mpr hb))⟩
theorem CI_new {p m a b t : Nat} {k : Nat → Nat → Nat} {g g1 t1 : Nat → Int32} (hkm : ∀ x y, x < p → y < p → k x y < m) (hm : m ≤ 6) (ha : a < p) (hb : b < p) (h : CI p k a b t g) (hn : t.testBit (k a b) = false) (ht : TA p k a b p t1) (hg : PT m (k a b) t1 g 6 0 g1) : CI p k a (b + 1) (t ||| 1 <<< k a b) g1 := by
  have hk := hkm a b ha hb
  have hno : ∀ x y, bef p a b x y → ¬ k x y = k a b := by
    intro x y h1 e
    have := (h.1.2 (k a b) (by omega)).mpr ⟨x, y, h1, e⟩
    rw [hn] at this
    cases this
  refine ⟨SB_s h.1 hb (by omega), fun x y h1 i j hi hj => ?_, fun cc hc h1 i j hi hj => ?_⟩
  · rcases bef_s h1 with h1 | ⟨rfl, rfl⟩
    · have hxp : x < p := by have := h1.2; omega
      have := hkm x y hxp h1.1
      rw [hg i j (k x y) hi hj (by omega), if_neg (fun e => hno x y h1 e.1)]
      exact h.2.1 x y h1 i j hi hj
    · rw [hg i j (k x y) hi hj (by omega)]
      by_cases q : i < m ∧ j < m
      · rw [if_pos ⟨rfl, by omega, q.1, q.2⟩]
        exact ht i j hi hj
      · rw [if_neg (by omega), cnt_z hkm ha hb (by omega)]
        exact h.2.2 (k x y) (by omega) hno i j hi hj
  · rw [hg i j cc hi hj hc, if_neg (fun e => h1 a b ⟨hb, by omega⟩ e.1.symm)]
    exact h.2.2 cc hc (fun x y h2 => h1 x y (bef_m h2)) i j hi hj
theorem CI_old {p a b t : Nat} {k : Nat → Nat → Nat} {g t1 : Nat → Int32} (hk6 : k a b < 6) (h : CI p k a b t g) (hn : t.testBit (k a b) = true) (ht : TA p k a b p t1) (hg : ∀ i j, i < 6 → j < 6 → g ((i * 6 + j) * 6 + k a b) = t1 (i * 6 + j)) : CI p k a (b + 1) t g := by
  obtain ⟨x', y', h1, h2⟩ := (h.1.2 (k a b) hk6).mp hn
  refine ⟨⟨h.1.1, fun cc hc => ?_⟩, fun x y h3 i j hi hj => ?_, fun cc hc h3 => h.2.2 cc hc (fun x y h4 => h3 x y (bef_m h4))⟩
  · rw [h.1.2 cc hc]
    constructor
    · rintro ⟨x, y, h3, h4⟩; exact ⟨x, y, bef_m h3, h4⟩
    · rintro ⟨x, y, h3, h4⟩
      rcases bef_s h3 with h3 | ⟨rfl, rfl⟩
      · exact ⟨x, y, h3, h4⟩
      · exact ⟨x', y', h1, h2.trans h4⟩
  · rcases bef_s h3 with h3 | ⟨rfl, rfl⟩
    · exact h.2.1 x y h3 i j hi hj
    · rw [hg i j hi hj]; exact ht i j hi hj
theorem CI_w4 {p t : Nat} {k : Nat → Nat → Nat} {g : Nat → Int32} (hpp : p ≤ 12) (h : CI p k p 0 t g) : w4 p k := by
  intro x y x' y' h1 h2 h3 h4 e i j hi hj
  have a1 := h.2.1 x y (bef_e.mpr ⟨h1, h2⟩) i j hi hj
  have a2 := h.2.1 x' y' (bef_e.mpr ⟨h3, h4⟩) i j hi hj
  rw [← e, a1] at a2
  have b1 := cnt_le p k x y i j p
  have b2 := cnt_le p k x' y' i j p
  rw [zn_eq _ _ (by omega) (by omega)] at a2
  exact a2
section CX
variable {n s : Nat} {c : Nat → mq_E} {I : Nat → Int32} {J : Nat → Int64} {A : Nat → Nat → Int32} {B : Nat → Nat → Int64} {R : Nat → Value} {Q : Nat → Nat → Option Nat}
variable {k : Nat → Nat → Nat} {p a m : Nat} {r : Nat → Int32}
theorem C_cai (hV : ∀ x y, x < p → y < p → A 11 (x * 12 + y) = zn (k x y)) (hkm : ∀ x y, x < p → y < p → k x y < m) (hm : m ≤ 6) (hpp : p ≤ 12) (hI : I 503 = zn p) (ha : 46 ≤ a) (d x : Nat) (hx : x < p) : ∀ (e y b : Nat) (g t : Nat → Int32) (o : Option Value), y + e = p → CI p k x y b g → (∃ b' g' t' o', CI p k x p b' g' ∧ mz (d + 3) 9 15 [some (.ref 10), some (.ref a), some (.int (zn b)), some (.int (zn x)), some (.int (zn y)), o] [] (hp n s (tc c a m g r) I J (zu A 13 t) B R Q) = mz (d + 3) 9 84 [some (.ref 10), some (.ref a), some (.int (zn b')), some (.int (zn x)), some (.int (zn p)), o'] [] (hp n s (tc c a m g' r) I J (zu A 13 t') B R Q)) ∨ (¬ w4 p k ∧ ∃ g' t', mz (d + 3) 9 15 [some (.ref 10), some (.ref a), some (.int (zn b)), some (.int (zn x)), some (.int (zn y)), o] [] (hp n s (tc c a m g r) I J (zu A 13 t) B R Q) = some (some (some (.int (zn 0))), hp n s (tc c a m g' r) I J (zu A 13 t') B R Q))
  | 0, y, b, g, t, o, hy, hc => by
    have e : y = p := by omega
    subst e
    refine Or.inl ⟨b, g, t, o, hc, ?_⟩
    simp (disch := first | omega | exact zb_1 | exact zb_0 | exact zb_n1 | exact zb_n0) only [x9_15, x9_17, x9_18, x9_21, mq_dl_int, mq_dl_ref, mq_dl_null, mq_dl_none, mc_some, Option.toList_some, Option.toList_none, List.cons_append, List.nil_append, zb_1, zb_0, ↓reduceIte, if_true, if_false, not_true_eq_false, not_false_eq_true, Bool.false_eq_true, z_10, z_01, eq_self, Bool.and_self, true_or, or_true, false_or, or_false, true_and, and_true, false_and, and_false, and_self, or_self, Nat.reduceLT, Nat.reduceEqDiff, Nat.reduceLeDiff, Nat.reduceAdd, Nat.reduceMul, Nat.reduceSub, zn_lit, zn_add, zn_mul, zn_sub, zn_addneg, zn_lt, zn_le, zn_eq, zn_clamp, zn_in, zn_long, hp_1, hp_21, upd_zu, updL_zu, updQ_zu, zu_eq, zu_ne, ho_0, ho_0_0, hf_0_0, ho_0_1, hf_0_1, ho_0_2, hf_0_2, ho_0_3, hf_0_3, ho_0_4, hf_0_4, ho_0_5, hf_0_5, ho_0_6, hf_0_6, ho_0_7, hf_0_7, hk_0_7, hw_0_7, ho_1, ho_1_0, hf_1_0, ho_1_1, hf_1_1, hk_1_1, hw_1_1, ho_1_2, hf_1_2, hk_1_2, hw_1_2, ho_1_3, hf_1_3, hk_1_3, hw_1_3, ho_1_4, hf_1_4, hk_1_4, hw_1_4, ho_1_5, hf_1_5, hk_1_5, hw_1_5, hn_2, hi_2, hg_2, hu_2, ho_3, ho_3_0, hf_3_0, ho_3_1, hf_3_1, ho_3_2, hf_3_2, hk_3_2, hw_3_2, ho_3_3, hf_3_3, hk_3_3, hw_3_3, hn_4, hi_4, hj_4, hg_4, hu_4, ho_5, ho_5_0, hf_5_0, ho_5_1, hf_5_1, ho_5_2, hf_5_2, ho_5_3, hf_5_3, hk_5_3, hw_5_3, ho_6, ho_6_0, hf_6_0, ho_6_1, hf_6_1, ho_6_2, hf_6_2, ho_6_3, hf_6_3, hk_6_3, hw_6_3, hn_7, hi_7, hj_7, hg_7, hu_7, hn_8, hi_8, hj_8, hg_8, hu_8, hn_9, hi_9, hj_9, hg_9, hu_9, ho_10, ho_10_0, hf_10_0, ho_10_1, hf_10_1, ho_10_2, hf_10_2, ho_10_3, hf_10_3, hk_10_3, hw_10_3, ho_10_4, hf_10_4, hk_10_4, hkN_10_4, hw_10_4, hn_11, hi_11, hj_11, hg_11, hu_11, hn_12, hi_12, hj_12, hg_12, hu_12, hn_13, hi_13, hj_13, hg_13, hu_13, hn_14, hi_14, hg_14, hu_14, hn_15, hi_15, hg_15, hu_15, ho_16, ho_16_0, hf_16_0, ho_16_1, hf_16_1, ho_16_2, hf_16_2, hk_16_2, hw_16_2, ho_16_3, hf_16_3, hk_16_3, hw_16_3, ho_16_4, hf_16_4, hk_16_4, hkN_16_4, hw_16_4, hn_17, hi_17, hg_17, hu_17, hn_18, hi_18, hg_18, hu_18, hn_22, hi_22, hg_22, hu_22, hI, Nat.le_refl]
  | e + 1, y, b, g, t, o, hy, hc => by
    have hk6 : ∀ x y, x < p → y < p → k x y < 6 := fun x y h1 h2 => by have := hkm x y h1 h2; omega
    have hV' : ∀ t x y, x < p → y < p → (zu A 13 t) 11 (x * 12 + y) = zn (k x y) := fun t x y h1 h2 => by rw [zu_ne _ _ _ _ (by omega)]; exact hV x y h1 h2
    have hyp : y < p := by omega
    have h6 := hk6 x y hx hyp
    have hb64 := hc.1.1
    have e1 := C_col (V := fun a b => zn (k a b)) (n := n) (s := s) (c := tc c a m g r) (I := I) (J := J) (B := B) (R := R) (Q := Q) (hV' t) hpp (d + 2) x y hx hyp
    obtain ⟨t1, h1, e2⟩ := C_tally (n := n) (s := s) (c := tc c a m g r) (I := I) (J := J) (B := B) (R := R) (Q := Q) (hV' t) hk6 hpp hI (d + 1) x y hx hyp
    rw [zu_zu] at e2
    cases hb : b.testBit (k x y) with
    | false =>
      obtain ⟨g1, h2, e3⟩ := C_putT (n := n) (s := s) (c := c) (I := I) (J := J) (A := zu A 13 t1) (B := B) (R := R) (Q := Q) (g := g) (r := r) ha hm d (k x y) (hkm x y hx hyp)
      rw [zu_eq] at h2
      have hc' := CI_new hkm hm hx hyp hc hb h1 h2
      have hs : mz (d + 3) 9 15 [some (.ref 10), some (.ref a), some (.int (zn b)), some (.int (zn x)), some (.int (zn y)), o] [] (hp n s (tc c a m g r) I J (zu A 13 t) B R Q) = mz (d + 3) 9 15 [some (.ref 10), some (.ref a), some (.int (zn (b ||| 1 <<< k x y))), some (.int (zn x)), some (.int (zn (y + 1))), some (.int (zn (k x y)))] [] (hp n s (tc c a m g1 r) I J (zu A 13 t1) B R Q) := by
        rw [x9_15]
        simp (disch := first | omega | exact zb_1 | exact zb_0 | exact zb_n1 | exact zb_n0) only [x9_0, x9_1, x9_2, x9_3, x9_5, x9_5N, x9_6, x9_9, x9_12, x9_13, x9_17, x9_17N, x9_18, x9_21, x9_24, x9_24N, x9_25, x9_26, x9_28, x9_31, x9_33, x9_33N, x9_34, x9_35, x9_37, x9_40, x9_41, x9_43, x9_44, x9_45, x9_46, x9_49, x9_49N, x9_50, x9_50N, x9_51, x9_53, x9_56, x9_57, x9_58, x9_60, x9_61, x9_62, x9_63, x9_78, x9_81, x9_66, x9_66N, x9_67, x9_67N, x9_68, x9_70, x9_73, x9_76, x9_77, x9_84, x9_87, x9_90, x9_91, mq_dl_int, mq_dl_ref, mq_dl_null, mq_dl_none, mc_some, Option.toList_some, Option.toList_none, List.cons_append, List.nil_append, zb_1, zb_0, ↓reduceIte, if_true, if_false, not_true_eq_false, not_false_eq_true, Bool.false_eq_true, z_10, z_01, eq_self, Bool.and_self, true_or, or_true, false_or, or_false, true_and, and_true, false_and, and_false, and_self, or_self, Nat.reduceLT, Nat.reduceEqDiff, Nat.reduceLeDiff, Nat.reduceAdd, Nat.reduceMul, Nat.reduceSub, zn_lit, zn_add, zn_mul, zn_sub, zn_addneg, zn_lt, zn_le, zn_eq, zn_clamp, zn_in, zn_long, hp_1, hp_21, upd_zu, updL_zu, updQ_zu, zu_eq, zu_ne, ho_0, ho_0_0, hf_0_0, ho_0_1, hf_0_1, ho_0_2, hf_0_2, ho_0_3, hf_0_3, ho_0_4, hf_0_4, ho_0_5, hf_0_5, ho_0_6, hf_0_6, ho_0_7, hf_0_7, hk_0_7, hw_0_7, ho_1, ho_1_0, hf_1_0, ho_1_1, hf_1_1, hk_1_1, hw_1_1, ho_1_2, hf_1_2, hk_1_2, hw_1_2, ho_1_3, hf_1_3, hk_1_3, hw_1_3, ho_1_4, hf_1_4, hk_1_4, hw_1_4, ho_1_5, hf_1_5, hk_1_5, hw_1_5, hn_2, hi_2, hg_2, hu_2, ho_3, ho_3_0, hf_3_0, ho_3_1, hf_3_1, ho_3_2, hf_3_2, hk_3_2, hw_3_2, ho_3_3, hf_3_3, hk_3_3, hw_3_3, hn_4, hi_4, hj_4, hg_4, hu_4, ho_5, ho_5_0, hf_5_0, ho_5_1, hf_5_1, ho_5_2, hf_5_2, ho_5_3, hf_5_3, hk_5_3, hw_5_3, ho_6, ho_6_0, hf_6_0, ho_6_1, hf_6_1, ho_6_2, hf_6_2, ho_6_3, hf_6_3, hk_6_3, hw_6_3, hn_7, hi_7, hj_7, hg_7, hu_7, hn_8, hi_8, hj_8, hg_8, hu_8, hn_9, hi_9, hj_9, hg_9, hu_9, ho_10, ho_10_0, hf_10_0, ho_10_1, hf_10_1, ho_10_2, hf_10_2, ho_10_3, hf_10_3, hk_10_3, hw_10_3, ho_10_4, hf_10_4, hk_10_4, hkN_10_4, hw_10_4, hn_11, hi_11, hj_11, hg_11, hu_11, hn_12, hi_12, hj_12, hg_12, hu_12, hn_13, hi_13, hj_13, hg_13, hu_13, hn_14, hi_14, hg_14, hu_14, hn_15, hi_15, hg_15, hu_15, ho_16, ho_16_0, hf_16_0, ho_16_1, hf_16_1, ho_16_2, hf_16_2, hk_16_2, hw_16_2, ho_16_3, hf_16_3, hk_16_3, hw_16_3, ho_16_4, hf_16_4, hk_16_4, hkN_16_4, hw_16_4, hn_17, hi_17, hg_17, hu_17, hn_18, hi_18, hg_18, hu_18, hn_22, hi_22, hg_22, hu_22, hI, e1, e2, e3, zn_shr, zn_bt, hb, zo_f, zn_shl, zn_or, show ¬ p ≤ y by omega]
      rcases C_cai hV hkm hm hpp hI ha d x hx e (y + 1) _ g1 t1 (some (.int (zn (k x y)))) (by omega) hc' with ⟨b', g', t', o', g3, g4⟩ | ⟨g3, g', t', g4⟩
      · exact Or.inl ⟨b', g', t', o', g3, hs.trans g4⟩
      · exact Or.inr ⟨g3, g', t', hs.trans g4⟩
    | true =>
      have e3 := C_isT (n := n) (s := s) (c := c) (I := I) (J := J) (A := zu A 13 t1) (B := B) (R := R) (Q := Q) (g := g) (r := r) (m := m) ha (d + 1) (k x y) h6
      rw [zu_eq] at e3
      cases hz : zall (fun i => zall (fun j => decide (g ((i * 6 + j) * 6 + k x y) = t1 (i * 6 + j))) 0 6) 0 6 with
      | true =>
        rw [hz, zo_t] at e3
        have hg : ∀ i j, i < 6 → j < 6 → g ((i * 6 + j) * 6 + k x y) = t1 (i * 6 + j) := by
          intro i j hi hj
          have h3 := (zall_iff _ 6 0).mp hz i (by omega) (by omega)
          have h4 := (zall_iff _ 6 0).mp h3 j (by omega) (by omega)
          exact of_decide_eq_true h4
        have hc' := CI_old h6 hc hb h1 hg
        have hs : mz (d + 3) 9 15 [some (.ref 10), some (.ref a), some (.int (zn b)), some (.int (zn x)), some (.int (zn y)), o] [] (hp n s (tc c a m g r) I J (zu A 13 t) B R Q) = mz (d + 3) 9 15 [some (.ref 10), some (.ref a), some (.int (zn b)), some (.int (zn x)), some (.int (zn (y + 1))), some (.int (zn (k x y)))] [] (hp n s (tc c a m g r) I J (zu A 13 t1) B R Q) := by
          rw [x9_15]
          simp (disch := first | omega | exact zb_1 | exact zb_0 | exact zb_n1 | exact zb_n0) only [x9_0, x9_1, x9_2, x9_3, x9_5, x9_5N, x9_6, x9_9, x9_12, x9_13, x9_17, x9_17N, x9_18, x9_21, x9_24, x9_24N, x9_25, x9_26, x9_28, x9_31, x9_33, x9_33N, x9_34, x9_35, x9_37, x9_40, x9_41, x9_43, x9_44, x9_45, x9_46, x9_49, x9_49N, x9_50, x9_50N, x9_51, x9_53, x9_56, x9_57, x9_58, x9_60, x9_61, x9_62, x9_63, x9_78, x9_81, x9_66, x9_66N, x9_67, x9_67N, x9_68, x9_70, x9_73, x9_76, x9_77, x9_84, x9_87, x9_90, x9_91, mq_dl_int, mq_dl_ref, mq_dl_null, mq_dl_none, mc_some, Option.toList_some, Option.toList_none, List.cons_append, List.nil_append, zb_1, zb_0, ↓reduceIte, if_true, if_false, not_true_eq_false, not_false_eq_true, Bool.false_eq_true, z_10, z_01, eq_self, Bool.and_self, true_or, or_true, false_or, or_false, true_and, and_true, false_and, and_false, and_self, or_self, Nat.reduceLT, Nat.reduceEqDiff, Nat.reduceLeDiff, Nat.reduceAdd, Nat.reduceMul, Nat.reduceSub, zn_lit, zn_add, zn_mul, zn_sub, zn_addneg, zn_lt, zn_le, zn_eq, zn_clamp, zn_in, zn_long, hp_1, hp_21, upd_zu, updL_zu, updQ_zu, zu_eq, zu_ne, ho_0, ho_0_0, hf_0_0, ho_0_1, hf_0_1, ho_0_2, hf_0_2, ho_0_3, hf_0_3, ho_0_4, hf_0_4, ho_0_5, hf_0_5, ho_0_6, hf_0_6, ho_0_7, hf_0_7, hk_0_7, hw_0_7, ho_1, ho_1_0, hf_1_0, ho_1_1, hf_1_1, hk_1_1, hw_1_1, ho_1_2, hf_1_2, hk_1_2, hw_1_2, ho_1_3, hf_1_3, hk_1_3, hw_1_3, ho_1_4, hf_1_4, hk_1_4, hw_1_4, ho_1_5, hf_1_5, hk_1_5, hw_1_5, hn_2, hi_2, hg_2, hu_2, ho_3, ho_3_0, hf_3_0, ho_3_1, hf_3_1, ho_3_2, hf_3_2, hk_3_2, hw_3_2, ho_3_3, hf_3_3, hk_3_3, hw_3_3, hn_4, hi_4, hj_4, hg_4, hu_4, ho_5, ho_5_0, hf_5_0, ho_5_1, hf_5_1, ho_5_2, hf_5_2, ho_5_3, hf_5_3, hk_5_3, hw_5_3, ho_6, ho_6_0, hf_6_0, ho_6_1, hf_6_1, ho_6_2, hf_6_2, ho_6_3, hf_6_3, hk_6_3, hw_6_3, hn_7, hi_7, hj_7, hg_7, hu_7, hn_8, hi_8, hj_8, hg_8, hu_8, hn_9, hi_9, hj_9, hg_9, hu_9, ho_10, ho_10_0, hf_10_0, ho_10_1, hf_10_1, ho_10_2, hf_10_2, ho_10_3, hf_10_3, hk_10_3, hw_10_3, ho_10_4, hf_10_4, hk_10_4, hkN_10_4, hw_10_4, hn_11, hi_11, hj_11, hg_11, hu_11, hn_12, hi_12, hj_12, hg_12, hu_12, hn_13, hi_13, hj_13, hg_13, hu_13, hn_14, hi_14, hg_14, hu_14, hn_15, hi_15, hg_15, hu_15, ho_16, ho_16_0, hf_16_0, ho_16_1, hf_16_1, ho_16_2, hf_16_2, hk_16_2, hw_16_2, ho_16_3, hf_16_3, hk_16_3, hw_16_3, ho_16_4, hf_16_4, hk_16_4, hkN_16_4, hw_16_4, hn_17, hi_17, hg_17, hu_17, hn_18, hi_18, hg_18, hu_18, hn_22, hi_22, hg_22, hu_22, hI, e1, e2, e3, zn_shr, zn_bt, hb, zo_t, zn_shl, zn_or, show ¬ p ≤ y by omega]
        rcases C_cai hV hkm hm hpp hI ha d x hx e (y + 1) b g t1 (some (.int (zn (k x y)))) (by omega) hc' with ⟨b', g', t', o', g3, g4⟩ | ⟨g3, g', t', g4⟩
        · exact Or.inl ⟨b', g', t', o', g3, hs.trans g4⟩
        · exact Or.inr ⟨g3, g', t', hs.trans g4⟩
      | false =>
        rw [hz, zo_f] at e3
        refine Or.inr ⟨fun hw => ?_, g, t1, ?_⟩
        · obtain ⟨x', y', h3, h4⟩ := (hc.1.2 (k x y) h6).mp hb
          have hxp : x' < p := by have := h3.2; omega
          have : zall (fun i => zall (fun j => decide (g ((i * 6 + j) * 6 + k x y) = t1 (i * 6 + j))) 0 6) 0 6 = true := by
            rw [zall_iff]
            intro i _ hi
            rw [zall_iff]
            intro j _ hj
            rw [decide_eq_true_eq, h1 i j (by omega) (by omega), ← h4, hc.2.1 x' y' h3 i j (by omega) (by omega), hw x' y' x y hxp h3.1 hx hyp h4 i j (by omega) (by omega)]
          rw [hz] at this
          cases this
        · rw [x9_15]
          simp (disch := first | omega | exact zb_1 | exact zb_0 | exact zb_n1 | exact zb_n0) only [x9_0, x9_1, x9_2, x9_3, x9_5, x9_5N, x9_6, x9_9, x9_12, x9_13, x9_17, x9_17N, x9_18, x9_21, x9_24, x9_24N, x9_25, x9_26, x9_28, x9_31, x9_33, x9_33N, x9_34, x9_35, x9_37, x9_40, x9_41, x9_43, x9_44, x9_45, x9_46, x9_49, x9_49N, x9_50, x9_50N, x9_51, x9_53, x9_56, x9_57, x9_58, x9_60, x9_61, x9_62, x9_63, x9_78, x9_81, x9_66, x9_66N, x9_67, x9_67N, x9_68, x9_70, x9_73, x9_76, x9_77, x9_84, x9_87, x9_90, x9_91, mq_dl_int, mq_dl_ref, mq_dl_null, mq_dl_none, mc_some, Option.toList_some, Option.toList_none, List.cons_append, List.nil_append, zb_1, zb_0, ↓reduceIte, if_true, if_false, not_true_eq_false, not_false_eq_true, Bool.false_eq_true, z_10, z_01, eq_self, Bool.and_self, true_or, or_true, false_or, or_false, true_and, and_true, false_and, and_false, and_self, or_self, Nat.reduceLT, Nat.reduceEqDiff, Nat.reduceLeDiff, Nat.reduceAdd, Nat.reduceMul, Nat.reduceSub, zn_lit, zn_add, zn_mul, zn_sub, zn_addneg, zn_lt, zn_le, zn_eq, zn_clamp, zn_in, zn_long, hp_1, hp_21, upd_zu, updL_zu, updQ_zu, zu_eq, zu_ne, ho_0, ho_0_0, hf_0_0, ho_0_1, hf_0_1, ho_0_2, hf_0_2, ho_0_3, hf_0_3, ho_0_4, hf_0_4, ho_0_5, hf_0_5, ho_0_6, hf_0_6, ho_0_7, hf_0_7, hk_0_7, hw_0_7, ho_1, ho_1_0, hf_1_0, ho_1_1, hf_1_1, hk_1_1, hw_1_1, ho_1_2, hf_1_2, hk_1_2, hw_1_2, ho_1_3, hf_1_3, hk_1_3, hw_1_3, ho_1_4, hf_1_4, hk_1_4, hw_1_4, ho_1_5, hf_1_5, hk_1_5, hw_1_5, hn_2, hi_2, hg_2, hu_2, ho_3, ho_3_0, hf_3_0, ho_3_1, hf_3_1, ho_3_2, hf_3_2, hk_3_2, hw_3_2, ho_3_3, hf_3_3, hk_3_3, hw_3_3, hn_4, hi_4, hj_4, hg_4, hu_4, ho_5, ho_5_0, hf_5_0, ho_5_1, hf_5_1, ho_5_2, hf_5_2, ho_5_3, hf_5_3, hk_5_3, hw_5_3, ho_6, ho_6_0, hf_6_0, ho_6_1, hf_6_1, ho_6_2, hf_6_2, ho_6_3, hf_6_3, hk_6_3, hw_6_3, hn_7, hi_7, hj_7, hg_7, hu_7, hn_8, hi_8, hj_8, hg_8, hu_8, hn_9, hi_9, hj_9, hg_9, hu_9, ho_10, ho_10_0, hf_10_0, ho_10_1, hf_10_1, ho_10_2, hf_10_2, ho_10_3, hf_10_3, hk_10_3, hw_10_3, ho_10_4, hf_10_4, hk_10_4, hkN_10_4, hw_10_4, hn_11, hi_11, hj_11, hg_11, hu_11, hn_12, hi_12, hj_12, hg_12, hu_12, hn_13, hi_13, hj_13, hg_13, hu_13, hn_14, hi_14, hg_14, hu_14, hn_15, hi_15, hg_15, hu_15, ho_16, ho_16_0, hf_16_0, ho_16_1, hf_16_1, ho_16_2, hf_16_2, hk_16_2, hw_16_2, ho_16_3, hf_16_3, hk_16_3, hw_16_3, ho_16_4, hf_16_4, hk_16_4, hkN_16_4, hw_16_4, hn_17, hi_17, hg_17, hu_17, hn_18, hi_18, hg_18, hu_18, hn_22, hi_22, hg_22, hu_22, hI, e1, e2, e3, zn_shr, zn_bt, hb, zo_t, zn_shl, zn_or, show ¬ p ≤ y by omega]
theorem C_cao (hV : ∀ x y, x < p → y < p → A 11 (x * 12 + y) = zn (k x y)) (hkm : ∀ x y, x < p → y < p → k x y < m) (hm : m ≤ 6) (hpp : p ≤ 12) (hI : I 503 = zn p) (ha : 46 ≤ a) (d : Nat) : ∀ (e x b : Nat) (g t : Nat → Int32) (o4 o : Option Value), x + e = p → CI p k x 0 b g → (∃ b' g' t', CI p k p 0 b' g' ∧ mz (d + 3) 9 4 [some (.ref 10), some (.ref a), some (.int (zn b)), some (.int (zn x)), o4, o] [] (hp n s (tc c a m g r) I J (zu A 13 t) B R Q) = some (some (some (.int (zn 1))), hp n s (tc c a m g' r) I J (zu A 13 t') B R Q)) ∨ (¬ w4 p k ∧ ∃ g' t', mz (d + 3) 9 4 [some (.ref 10), some (.ref a), some (.int (zn b)), some (.int (zn x)), o4, o] [] (hp n s (tc c a m g r) I J (zu A 13 t) B R Q) = some (some (some (.int (zn 0))), hp n s (tc c a m g' r) I J (zu A 13 t') B R Q))
  | 0, x, b, g, t, o4, o, hx, hc => by
    have e : x = p := by omega
    subst e
    refine Or.inl ⟨b, g, t, hc, ?_⟩
    simp (disch := first | omega | exact zb_1 | exact zb_0 | exact zb_n1 | exact zb_n0) only [x9_4, x9_5, x9_6, x9_9, x9_90, x9_91, mq_dl_int, mq_dl_ref, mq_dl_null, mq_dl_none, mc_some, Option.toList_some, Option.toList_none, List.cons_append, List.nil_append, zb_1, zb_0, ↓reduceIte, if_true, if_false, not_true_eq_false, not_false_eq_true, Bool.false_eq_true, z_10, z_01, eq_self, Bool.and_self, true_or, or_true, false_or, or_false, true_and, and_true, false_and, and_false, and_self, or_self, Nat.reduceLT, Nat.reduceEqDiff, Nat.reduceLeDiff, Nat.reduceAdd, Nat.reduceMul, Nat.reduceSub, zn_lit, zn_add, zn_mul, zn_sub, zn_addneg, zn_lt, zn_le, zn_eq, zn_clamp, zn_in, zn_long, hp_1, hp_21, upd_zu, updL_zu, updQ_zu, zu_eq, zu_ne, ho_0, ho_0_0, hf_0_0, ho_0_1, hf_0_1, ho_0_2, hf_0_2, ho_0_3, hf_0_3, ho_0_4, hf_0_4, ho_0_5, hf_0_5, ho_0_6, hf_0_6, ho_0_7, hf_0_7, hk_0_7, hw_0_7, ho_1, ho_1_0, hf_1_0, ho_1_1, hf_1_1, hk_1_1, hw_1_1, ho_1_2, hf_1_2, hk_1_2, hw_1_2, ho_1_3, hf_1_3, hk_1_3, hw_1_3, ho_1_4, hf_1_4, hk_1_4, hw_1_4, ho_1_5, hf_1_5, hk_1_5, hw_1_5, hn_2, hi_2, hg_2, hu_2, ho_3, ho_3_0, hf_3_0, ho_3_1, hf_3_1, ho_3_2, hf_3_2, hk_3_2, hw_3_2, ho_3_3, hf_3_3, hk_3_3, hw_3_3, hn_4, hi_4, hj_4, hg_4, hu_4, ho_5, ho_5_0, hf_5_0, ho_5_1, hf_5_1, ho_5_2, hf_5_2, ho_5_3, hf_5_3, hk_5_3, hw_5_3, ho_6, ho_6_0, hf_6_0, ho_6_1, hf_6_1, ho_6_2, hf_6_2, ho_6_3, hf_6_3, hk_6_3, hw_6_3, hn_7, hi_7, hj_7, hg_7, hu_7, hn_8, hi_8, hj_8, hg_8, hu_8, hn_9, hi_9, hj_9, hg_9, hu_9, ho_10, ho_10_0, hf_10_0, ho_10_1, hf_10_1, ho_10_2, hf_10_2, ho_10_3, hf_10_3, hk_10_3, hw_10_3, ho_10_4, hf_10_4, hk_10_4, hkN_10_4, hw_10_4, hn_11, hi_11, hj_11, hg_11, hu_11, hn_12, hi_12, hj_12, hg_12, hu_12, hn_13, hi_13, hj_13, hg_13, hu_13, hn_14, hi_14, hg_14, hu_14, hn_15, hi_15, hg_15, hu_15, ho_16, ho_16_0, hf_16_0, ho_16_1, hf_16_1, ho_16_2, hf_16_2, hk_16_2, hw_16_2, ho_16_3, hf_16_3, hk_16_3, hw_16_3, ho_16_4, hf_16_4, hk_16_4, hkN_16_4, hw_16_4, hn_17, hi_17, hg_17, hu_17, hn_18, hi_18, hg_18, hu_18, hn_22, hi_22, hg_22, hu_22, hI, Nat.le_refl]
  | e + 1, x, b, g, t, o4, o, hx, hc => by
    have h0 : mz (d + 3) 9 4 [some (.ref 10), some (.ref a), some (.int (zn b)), some (.int (zn x)), o4, o] [] (hp n s (tc c a m g r) I J (zu A 13 t) B R Q) = mz (d + 3) 9 15 [some (.ref 10), some (.ref a), some (.int (zn b)), some (.int (zn x)), some (.int (zn 0)), o] [] (hp n s (tc c a m g r) I J (zu A 13 t) B R Q) := by
      rw [x9_4]
      simp (disch := first | omega | exact zb_1 | exact zb_0 | exact zb_n1 | exact zb_n0) only [x9_5, x9_6, x9_9, x9_12, x9_13, mq_dl_int, mq_dl_ref, mq_dl_null, mq_dl_none, mc_some, Option.toList_some, Option.toList_none, List.cons_append, List.nil_append, zb_1, zb_0, ↓reduceIte, if_true, if_false, not_true_eq_false, not_false_eq_true, Bool.false_eq_true, z_10, z_01, eq_self, Bool.and_self, true_or, or_true, false_or, or_false, true_and, and_true, false_and, and_false, and_self, or_self, Nat.reduceLT, Nat.reduceEqDiff, Nat.reduceLeDiff, Nat.reduceAdd, Nat.reduceMul, Nat.reduceSub, zn_lit, zn_add, zn_mul, zn_sub, zn_addneg, zn_lt, zn_le, zn_eq, zn_clamp, zn_in, zn_long, hp_1, hp_21, upd_zu, updL_zu, updQ_zu, zu_eq, zu_ne, ho_0, ho_0_0, hf_0_0, ho_0_1, hf_0_1, ho_0_2, hf_0_2, ho_0_3, hf_0_3, ho_0_4, hf_0_4, ho_0_5, hf_0_5, ho_0_6, hf_0_6, ho_0_7, hf_0_7, hk_0_7, hw_0_7, ho_1, ho_1_0, hf_1_0, ho_1_1, hf_1_1, hk_1_1, hw_1_1, ho_1_2, hf_1_2, hk_1_2, hw_1_2, ho_1_3, hf_1_3, hk_1_3, hw_1_3, ho_1_4, hf_1_4, hk_1_4, hw_1_4, ho_1_5, hf_1_5, hk_1_5, hw_1_5, hn_2, hi_2, hg_2, hu_2, ho_3, ho_3_0, hf_3_0, ho_3_1, hf_3_1, ho_3_2, hf_3_2, hk_3_2, hw_3_2, ho_3_3, hf_3_3, hk_3_3, hw_3_3, hn_4, hi_4, hj_4, hg_4, hu_4, ho_5, ho_5_0, hf_5_0, ho_5_1, hf_5_1, ho_5_2, hf_5_2, ho_5_3, hf_5_3, hk_5_3, hw_5_3, ho_6, ho_6_0, hf_6_0, ho_6_1, hf_6_1, ho_6_2, hf_6_2, ho_6_3, hf_6_3, hk_6_3, hw_6_3, hn_7, hi_7, hj_7, hg_7, hu_7, hn_8, hi_8, hj_8, hg_8, hu_8, hn_9, hi_9, hj_9, hg_9, hu_9, ho_10, ho_10_0, hf_10_0, ho_10_1, hf_10_1, ho_10_2, hf_10_2, ho_10_3, hf_10_3, hk_10_3, hw_10_3, ho_10_4, hf_10_4, hk_10_4, hkN_10_4, hw_10_4, hn_11, hi_11, hj_11, hg_11, hu_11, hn_12, hi_12, hj_12, hg_12, hu_12, hn_13, hi_13, hj_13, hg_13, hu_13, hn_14, hi_14, hg_14, hu_14, hn_15, hi_15, hg_15, hu_15, ho_16, ho_16_0, hf_16_0, ho_16_1, hf_16_1, ho_16_2, hf_16_2, hk_16_2, hw_16_2, ho_16_3, hf_16_3, hk_16_3, hw_16_3, ho_16_4, hf_16_4, hk_16_4, hkN_16_4, hw_16_4, hn_17, hi_17, hg_17, hu_17, hn_18, hi_18, hg_18, hu_18, hn_22, hi_22, hg_22, hu_22, hI, show ¬ p ≤ x by omega]
    rcases C_cai (n := n) (s := s) (c := c) (I := I) (J := J) (B := B) (R := R) (Q := Q) (r := r) hV hkm hm hpp hI ha d x (by omega) p 0 b g t o (by omega) hc with ⟨b1, g1, t1, o1, h1, h2⟩ | ⟨h1, g', t', h2⟩
    · have h5 : mz (d + 3) 9 84 [some (.ref 10), some (.ref a), some (.int (zn b1)), some (.int (zn x)), some (.int (zn p)), o1] [] (hp n s (tc c a m g1 r) I J (zu A 13 t1) B R Q) = mz (d + 3) 9 4 [some (.ref 10), some (.ref a), some (.int (zn b1)), some (.int (zn (x + 1))), some (.int (zn p)), o1] [] (hp n s (tc c a m g1 r) I J (zu A 13 t1) B R Q) := by
        simp (disch := first | omega | exact zb_1 | exact zb_0 | exact zb_n1 | exact zb_n0) only [x9_84, x9_87, mq_dl_int, mq_dl_ref, mq_dl_null, mq_dl_none, mc_some, Option.toList_some, Option.toList_none, List.cons_append, List.nil_append, zb_1, zb_0, ↓reduceIte, if_true, if_false, not_true_eq_false, not_false_eq_true, Bool.false_eq_true, z_10, z_01, eq_self, Bool.and_self, true_or, or_true, false_or, or_false, true_and, and_true, false_and, and_false, and_self, or_self, Nat.reduceLT, Nat.reduceEqDiff, Nat.reduceLeDiff, Nat.reduceAdd, Nat.reduceMul, Nat.reduceSub, zn_lit, zn_add, zn_mul, zn_sub, zn_addneg, zn_lt, zn_le, zn_eq, zn_clamp, zn_in, zn_long]
      rcases C_cao hV hkm hm hpp hI ha d e (x + 1) b1 g1 t1 (some (.int (zn p))) o1 (by omega) (CI_n h1) with ⟨b', g', t', h3, h4⟩ | ⟨h3, g', t', h4⟩
      · exact Or.inl ⟨b', g', t', h3, h0.trans (h2.trans (h5.trans h4))⟩
      · exact Or.inr ⟨h3, g', t', h0.trans (h2.trans (h5.trans h4))⟩
    · exact Or.inr ⟨h1, g', t', h0.trans h2⟩
theorem C_alike (hV : ∀ x y, x < p → y < p → A 11 (x * 12 + y) = zn (k x y)) (hkm : ∀ x y, x < p → y < p → k x y < m) (hm : m ≤ 6) (hpp : p ≤ 12) (hI : I 503 = zn p) (ha : 46 ≤ a) (d : Nat) : (∃ b' g' t', CI p k p 0 b' g' ∧ mz (d + 3) 9 0 [some (.ref 10), some (.ref a), none, none, none, none] [] (hp n s (tc c a m (fun _ => 0) r) I J A B R Q) = some (some (some (.int (zn 1))), hp n s (tc c a m g' r) I J (zu A 13 t') B R Q)) ∨ (¬ w4 p k ∧ ∃ g' t', mz (d + 3) 9 0 [some (.ref 10), some (.ref a), none, none, none, none] [] (hp n s (tc c a m (fun _ => 0) r) I J A B R Q) = some (some (some (.int (zn 0))), hp n s (tc c a m g' r) I J (zu A 13 t') B R Q)) := by
  have h0 : mz (d + 3) 9 0 [some (.ref 10), some (.ref a), none, none, none, none] [] (hp n s (tc c a m (fun _ => 0) r) I J A B R Q) = mz (d + 3) 9 4 [some (.ref 10), some (.ref a), some (.int (zn 0)), some (.int (zn 0)), none, none] [] (hp n s (tc c a m (fun _ => 0) r) I J (zu A 13 (A 13)) B R Q) := by
    rw [zu_self]
    simp (disch := first | omega | exact zb_1 | exact zb_0 | exact zb_n1 | exact zb_n0) only [x9_0, x9_1, x9_2, x9_3, mq_dl_int, mq_dl_ref, mq_dl_null, mq_dl_none, mc_some, Option.toList_some, Option.toList_none, List.cons_append, List.nil_append, zb_1, zb_0, ↓reduceIte, if_true, if_false, not_true_eq_false, not_false_eq_true, Bool.false_eq_true, z_10, z_01, eq_self, Bool.and_self, true_or, or_true, false_or, or_false, true_and, and_true, false_and, and_false, and_self, or_self, Nat.reduceLT, Nat.reduceEqDiff, Nat.reduceLeDiff, Nat.reduceAdd, Nat.reduceMul, Nat.reduceSub, zn_lit, zn_add, zn_mul, zn_sub, zn_addneg, zn_lt, zn_le, zn_eq, zn_clamp, zn_in, zn_long]
  have hc : CI p k 0 0 0 (fun _ => 0) := by
    refine ⟨⟨by omega, fun c hc => ?_⟩, fun x y hb => by have := hb.2; omega, fun cc hc hn i j hi hj => rfl⟩
    rw [Nat.zero_testBit]
    constructor
    · intro e; cases e
    · rintro ⟨x, y, ⟨h1, h2⟩, h3⟩; omega
  rcases C_cao (n := n) (s := s) (c := c) (I := I) (J := J) (B := B) (R := R) (Q := Q) (r := r) hV hkm hm hpp hI ha d p 0 0 (fun _ => 0) (A 13) none none (by omega) hc with ⟨b', g', t', h3, h4⟩ | ⟨h3, g', t', h4⟩
  · exact Or.inl ⟨b', g', t', h3, h0.trans h4⟩
  · exact Or.inr ⟨h3, g', t', h0.trans h4⟩
end CX
/-- the same both ways round -/
def evz (g : Nat → Int32) (x y z : Nat) : Bool := decide (g ((x * 6 + y) * 6 + z) = g ((y * 6 + x) * 6 + z))
section CE
variable {n s : Nat} {c : Nat → mq_E} {I : Nat → Int32} {J : Nat → Int64} {A : Nat → Nat → Int32} {B : Nat → Nat → Int64} {R : Nat → Value} {Q : Nat → Nat → Option Nat}
variable {a m : Nat} {g r : Nat → Int32}
theorem C_thg (ha : 46 ≤ a) (hm : m ≤ 6) (d : Nat) : mz d 97 0 [some (.ref a)] [] (hp n s (tc c a m g r) I J A B R Q) = some (some (some (.int (zn m))), hp n s (tc c a m g r) I J A B R Q) := by
  simp (disch := first | omega | exact zb_1 | exact zb_0 | exact zb_n1 | exact zb_n0) only [x97_0, x97_0N, x97_1, x97_4, mq_dl_int, mq_dl_ref, mq_dl_null, mq_dl_none, mc_some, Option.toList_some, Option.toList_none, List.cons_append, List.nil_append, zb_1, zb_0, ↓reduceIte, if_true, if_false, not_true_eq_false, not_false_eq_true, Bool.false_eq_true, z_10, z_01, eq_self, Bool.and_self, true_or, or_true, false_or, or_false, true_and, and_true, false_and, and_false, and_self, or_self, Nat.reduceLT, Nat.reduceEqDiff, Nat.reduceLeDiff, Nat.reduceAdd, Nat.reduceMul, Nat.reduceSub, zn_lit, zn_add, zn_mul, zn_sub, zn_addneg, zn_lt, zn_le, zn_eq, zn_clamp, zn_in, zn_long, tc_mo ha, tc_f0 ha]
theorem C_evz (ha : 46 ≤ a) (hm : m ≤ 6) (d x y : Nat) (hx : x < m) (hy : y < m) : ∀ (e z : Nat), z + e = m → mz (d + 1) 13 19 [some (.ref a), some (.int (zn x)), some (.int (zn y)), some (.int (zn z))] [] (hp n s (tc c a m g r) I J A B R Q) = if zall (evz g x y) z e = true then mz (d + 1) 13 52 [some (.ref a), some (.int (zn x)), some (.int (zn y)), some (.int (zn m))] [] (hp n s (tc c a m g r) I J A B R Q) else some (some (some (.int (zn 0))), hp n s (tc c a m g r) I J A B R Q)
  | 0, z, hz => by
    have e : z = m := by omega
    subst e
    simp (disch := first | omega | exact zb_1 | exact zb_0 | exact zb_n1 | exact zb_n0) only [x13_19, x13_20, x13_21, x13_24, mq_dl_int, mq_dl_ref, mq_dl_null, mq_dl_none, mc_some, Option.toList_some, Option.toList_none, List.cons_append, List.nil_append, zb_1, zb_0, ↓reduceIte, if_true, if_false, not_true_eq_false, not_false_eq_true, Bool.false_eq_true, z_10, z_01, eq_self, Bool.and_self, true_or, or_true, false_or, or_false, true_and, and_true, false_and, and_false, and_self, or_self, Nat.reduceLT, Nat.reduceEqDiff, Nat.reduceLeDiff, Nat.reduceAdd, Nat.reduceMul, Nat.reduceSub, zn_lit, zn_add, zn_mul, zn_sub, zn_addneg, zn_lt, zn_le, zn_eq, zn_clamp, zn_in, zn_long, C_thg ha, tc_0 ha, Nat.le_refl, zall]
  | e + 1, z, hz => by
    rw [x13_19]
    unfold zall
    by_cases q : g ((x * 6 + y) * 6 + z) = g ((y * 6 + x) * 6 + z)
    · rw [show evz g x y z = true from decide_eq_true q, Bool.true_and, ← C_evz ha hm d x y hx hy e (z + 1) (by omega)]
      simp (disch := first | omega | exact zb_1 | exact zb_0 | exact zb_n1 | exact zb_n0) only [x13_0, x13_1, x13_3, x13_3N, x13_4, x13_7, x13_10, x13_11, x13_13, x13_14, x13_17, x13_18, x13_20, x13_20N, x13_21, x13_24, x13_27, x13_27N, x13_28, x13_29, x13_30, x13_31, x13_34, x13_34N, x13_35, x13_36, x13_37, x13_38, x13_41, x13_44, x13_45, x13_46, x13_49, x13_52, x13_55, x13_58, x13_61, x13_64, x13_65, mq_dl_int, mq_dl_ref, mq_dl_null, mq_dl_none, mc_some, Option.toList_some, Option.toList_none, List.cons_append, List.nil_append, zb_1, zb_0, ↓reduceIte, if_true, if_false, not_true_eq_false, not_false_eq_true, Bool.false_eq_true, z_10, z_01, eq_self, Bool.and_self, true_or, or_true, false_or, or_false, true_and, and_true, false_and, and_false, and_self, or_self, Nat.reduceLT, Nat.reduceEqDiff, Nat.reduceLeDiff, Nat.reduceAdd, Nat.reduceMul, Nat.reduceSub, zn_lit, zn_add, zn_mul, zn_sub, zn_addneg, zn_lt, zn_le, zn_eq, zn_clamp, zn_in, zn_long, C_thg ha hm, B_share ha, tc_0 ha, q, show ¬ m ≤ z by omega]
    · rw [show evz g x y z = false from decide_eq_false q, Bool.false_and]
      simp (disch := first | omega | exact zb_1 | exact zb_0 | exact zb_n1 | exact zb_n0) only [x13_0, x13_1, x13_3, x13_3N, x13_4, x13_7, x13_10, x13_11, x13_13, x13_14, x13_17, x13_18, x13_20, x13_20N, x13_21, x13_24, x13_27, x13_27N, x13_28, x13_29, x13_30, x13_31, x13_34, x13_34N, x13_35, x13_36, x13_37, x13_38, x13_41, x13_44, x13_45, x13_46, x13_49, x13_52, x13_55, x13_58, x13_61, x13_64, x13_65, mq_dl_int, mq_dl_ref, mq_dl_null, mq_dl_none, mc_some, Option.toList_some, Option.toList_none, List.cons_append, List.nil_append, zb_1, zb_0, ↓reduceIte, if_true, if_false, not_true_eq_false, not_false_eq_true, Bool.false_eq_true, z_10, z_01, eq_self, Bool.and_self, true_or, or_true, false_or, or_false, true_and, and_true, false_and, and_false, and_self, or_self, Nat.reduceLT, Nat.reduceEqDiff, Nat.reduceLeDiff, Nat.reduceAdd, Nat.reduceMul, Nat.reduceSub, zn_lit, zn_add, zn_mul, zn_sub, zn_addneg, zn_lt, zn_le, zn_eq, zn_clamp, zn_in, zn_long, C_thg ha hm, B_share ha, tc_0 ha, q, show ¬ m ≤ z by omega]
theorem C_evy (ha : 46 ≤ a) (hm : m ≤ 6) (d x : Nat) (hx : x < m) : ∀ (e y : Nat) (o : Option Value), y + e = x → ∃ o', mz (d + 1) 13 12 [some (.ref a), some (.int (zn x)), some (.int (zn y)), o] [] (hp n s (tc c a m g r) I J A B R Q) = if zall (fun y => zall (evz g x y) 0 m) y e = true then mz (d + 1) 13 58 [some (.ref a), some (.int (zn x)), some (.int (zn x)), o'] [] (hp n s (tc c a m g r) I J A B R Q) else some (some (some (.int (zn 0))), hp n s (tc c a m g r) I J A B R Q)
  | 0, y, o, hy => by
    have e : y = x := by omega
    subst e
    refine ⟨o, ?_⟩
    simp (disch := first | omega | exact zb_1 | exact zb_0 | exact zb_n1 | exact zb_n0) only [x13_12, x13_13, x13_14, mq_dl_int, mq_dl_ref, mq_dl_null, mq_dl_none, mc_some, Option.toList_some, Option.toList_none, List.cons_append, List.nil_append, zb_1, zb_0, ↓reduceIte, if_true, if_false, not_true_eq_false, not_false_eq_true, Bool.false_eq_true, z_10, z_01, eq_self, Bool.and_self, true_or, or_true, false_or, or_false, true_and, and_true, false_and, and_false, and_self, or_self, Nat.reduceLT, Nat.reduceEqDiff, Nat.reduceLeDiff, Nat.reduceAdd, Nat.reduceMul, Nat.reduceSub, zn_lit, zn_add, zn_mul, zn_sub, zn_addneg, zn_lt, zn_le, zn_eq, zn_clamp, zn_in, zn_long, Nat.le_refl, zall]
  | e + 1, y, o, hy => by
    have e1 := C_evz (n := n) (s := s) (c := c) (I := I) (J := J) (A := A) (B := B) (R := R) (Q := Q) (g := g) (r := r) ha hm d x y hx (by omega) m 0 (by omega)
    obtain ⟨o', e2⟩ := C_evy ha hm d x hx e (y + 1) (some (.int (zn m))) (by omega)
    refine ⟨o', ?_⟩
    rw [x13_12]
    have hz : zall (fun y => zall (evz g x y) 0 m) y (e + 1) = (zall (evz g x y) 0 m && zall (fun y => zall (evz g x y) 0 m) (y + 1) e) := rfl
    rw [hz]
    cases hb : zall (evz g x y) 0 m with
    | true =>
      rw [hb, if_pos rfl] at e1
      rw [Bool.true_and, ← e2]
      simp (disch := first | omega | exact zb_1 | exact zb_0 | exact zb_n1 | exact zb_n0) only [x13_13, x13_14, x13_17, x13_18, x13_52, x13_55, mq_dl_int, mq_dl_ref, mq_dl_null, mq_dl_none, mc_some, Option.toList_some, Option.toList_none, List.cons_append, List.nil_append, zb_1, zb_0, ↓reduceIte, if_true, if_false, not_true_eq_false, not_false_eq_true, Bool.false_eq_true, z_10, z_01, eq_self, Bool.and_self, true_or, or_true, false_or, or_false, true_and, and_true, false_and, and_false, and_self, or_self, Nat.reduceLT, Nat.reduceEqDiff, Nat.reduceLeDiff, Nat.reduceAdd, Nat.reduceMul, Nat.reduceSub, zn_lit, zn_add, zn_mul, zn_sub, zn_addneg, zn_lt, zn_le, zn_eq, zn_clamp, zn_in, zn_long, e1, show ¬ x ≤ y by omega]
    | false =>
      rw [hb, if_neg (by simp)] at e1
      rw [Bool.false_and]
      simp (disch := first | omega | exact zb_1 | exact zb_0 | exact zb_n1 | exact zb_n0) only [x13_13, x13_14, x13_17, x13_18, mq_dl_int, mq_dl_ref, mq_dl_null, mq_dl_none, mc_some, Option.toList_some, Option.toList_none, List.cons_append, List.nil_append, zb_1, zb_0, ↓reduceIte, if_true, if_false, not_true_eq_false, not_false_eq_true, Bool.false_eq_true, z_10, z_01, eq_self, Bool.and_self, true_or, or_true, false_or, or_false, true_and, and_true, false_and, and_false, and_self, or_self, Nat.reduceLT, Nat.reduceEqDiff, Nat.reduceLeDiff, Nat.reduceAdd, Nat.reduceMul, Nat.reduceSub, zn_lit, zn_add, zn_mul, zn_sub, zn_addneg, zn_lt, zn_le, zn_eq, zn_clamp, zn_in, zn_long, e1, show ¬ x ≤ y by omega]
theorem C_evx (ha : 46 ≤ a) (hm : m ≤ 6) (d : Nat) : ∀ (e x : Nat) (o2 o3 : Option Value), x + e = m → mz (d + 1) 13 2 [some (.ref a), some (.int (zn x)), o2, o3] [] (hp n s (tc c a m g r) I J A B R Q) = some (some (some (.int (zo (zall (fun x => zall (fun y => zall (evz g x y) 0 m) 0 x) x e)))), hp n s (tc c a m g r) I J A B R Q)
  | 0, x, o2, o3, hx => by
    have e : x = m := by omega
    subst e
    simp (disch := first | omega | exact zb_1 | exact zb_0 | exact zb_n1 | exact zb_n0) only [x13_2, x13_3, x13_4, x13_7, x13_64, x13_65, mq_dl_int, mq_dl_ref, mq_dl_null, mq_dl_none, mc_some, Option.toList_some, Option.toList_none, List.cons_append, List.nil_append, zb_1, zb_0, ↓reduceIte, if_true, if_false, not_true_eq_false, not_false_eq_true, Bool.false_eq_true, z_10, z_01, eq_self, Bool.and_self, true_or, or_true, false_or, or_false, true_and, and_true, false_and, and_false, and_self, or_self, Nat.reduceLT, Nat.reduceEqDiff, Nat.reduceLeDiff, Nat.reduceAdd, Nat.reduceMul, Nat.reduceSub, zn_lit, zn_add, zn_mul, zn_sub, zn_addneg, zn_lt, zn_le, zn_eq, zn_clamp, zn_in, zn_long, C_thg ha, tc_0 ha, Nat.le_refl, zall, zo_t]
  | e + 1, x, o2, o3, hx => by
    obtain ⟨o', e1⟩ := C_evy (n := n) (s := s) (c := c) (I := I) (J := J) (A := A) (B := B) (R := R) (Q := Q) (g := g) (r := r) ha hm d x (by omega) x 0 o3 (by omega)
    rw [x13_2]
    have hz : zall (fun x => zall (fun y => zall (evz g x y) 0 m) 0 x) x (e + 1) = (zall (fun y => zall (evz g x y) 0 m) 0 x && zall (fun x => zall (fun y => zall (evz g x y) 0 m) 0 x) (x + 1) e) := rfl
    rw [hz]
    cases hb : zall (fun y => zall (evz g x y) 0 m) 0 x with
    | true =>
      rw [hb, if_pos rfl] at e1
      rw [Bool.true_and, ← C_evx ha hm d e (x + 1) (some (.int (zn x))) o' (by omega)]
      simp (disch := first | omega | exact zb_1 | exact zb_0 | exact zb_n1 | exact zb_n0) only [x13_3, x13_4, x13_7, x13_10, x13_11, x13_58, x13_61, mq_dl_int, mq_dl_ref, mq_dl_null, mq_dl_none, mc_some, Option.toList_some, Option.toList_none, List.cons_append, List.nil_append, zb_1, zb_0, ↓reduceIte, if_true, if_false, not_true_eq_false, not_false_eq_true, Bool.false_eq_true, z_10, z_01, eq_self, Bool.and_self, true_or, or_true, false_or, or_false, true_and, and_true, false_and, and_false, and_self, or_self, Nat.reduceLT, Nat.reduceEqDiff, Nat.reduceLeDiff, Nat.reduceAdd, Nat.reduceMul, Nat.reduceSub, zn_lit, zn_add, zn_mul, zn_sub, zn_addneg, zn_lt, zn_le, zn_eq, zn_clamp, zn_in, zn_long, C_thg ha hm, tc_0 ha, e1, show ¬ m ≤ x by omega]
    | false =>
      rw [hb, if_neg (by simp)] at e1
      rw [Bool.false_and]
      simp (disch := first | omega | exact zb_1 | exact zb_0 | exact zb_n1 | exact zb_n0) only [x13_3, x13_4, x13_7, x13_10, x13_11, mq_dl_int, mq_dl_ref, mq_dl_null, mq_dl_none, mc_some, Option.toList_some, Option.toList_none, List.cons_append, List.nil_append, zb_1, zb_0, ↓reduceIte, if_true, if_false, not_true_eq_false, not_false_eq_true, Bool.false_eq_true, z_10, z_01, eq_self, Bool.and_self, true_or, or_true, false_or, or_false, true_and, and_true, false_and, and_false, and_self, or_self, Nat.reduceLT, Nat.reduceEqDiff, Nat.reduceLeDiff, Nat.reduceAdd, Nat.reduceMul, Nat.reduceSub, zn_lit, zn_add, zn_mul, zn_sub, zn_addneg, zn_lt, zn_le, zn_eq, zn_clamp, zn_in, zn_long, C_thg ha hm, tc_0 ha, e1, show ¬ m ≤ x by omega, zo_f]
theorem C_even (ha : 46 ≤ a) (hm : m ≤ 6) (d : Nat) : mz (d + 1) 13 0 [some (.ref a), none, none, none] [] (hp n s (tc c a m g r) I J A B R Q) = some (some (some (.int (zo (zall (fun x => zall (fun y => zall (evz g x y) 0 m) 0 x) 0 m)))), hp n s (tc c a m g r) I J A B R Q) := by
  rw [← C_evx ha hm d m 0 none none (by omega)]
  simp (disch := first | omega | exact zb_1 | exact zb_0 | exact zb_n1 | exact zb_n0) only [x13_0, x13_1, mq_dl_int, mq_dl_ref, mq_dl_null, mq_dl_none, mc_some, Option.toList_some, Option.toList_none, List.cons_append, List.nil_append, zb_1, zb_0, ↓reduceIte, if_true, if_false, not_true_eq_false, not_false_eq_true, Bool.false_eq_true, z_10, z_01, eq_self, Bool.and_self, true_or, or_true, false_or, or_false, true_and, and_true, false_and, and_false, and_self, or_self, Nat.reduceLT, Nat.reduceEqDiff, Nat.reduceLeDiff, Nat.reduceAdd, Nat.reduceMul, Nat.reduceSub, zn_lit, zn_add, zn_mul, zn_sub, zn_addneg, zn_lt, zn_le, zn_eq, zn_clamp, zn_in, zn_long]
end CE
