/-! FUSE: the public calls -/
theorem x161_38N (d : Nat) (o0 o1 o2 : Option Value) (h : mq_H) (a0 : Nat) : mz (d + 1) 161 38 [o0, o1, o2] [.null, .ref a0] h = if mo0 h a0 9 = true then mc (mz d 172 0 [some (.ref a0), some .null] [] h) (fun v h1 => mz (d + 1) 161 41 [o0, o1, o2] (v.toList ++ []) h1) else none := zy_cv (rest := []) (show mp_ins 161 38 = some (.invokevirtual 177, 3) by decide +kernel) (show mp_lk 161 177 = some (172, 0) by decide +kernel) (show mp_np 172 = 2 ∧ mp_mx 172 = 2 ∧ mp_ck 172 = 9 by decide +kernel) (by decide +kernel) (Nat.le_of_ble_eq_true rfl) rfl rfl (Nat.le_of_ble_eq_true rfl) (Nat.le_of_ble_eq_true rfl) rfl
theorem x158_38N (d : Nat) (o0 o1 o2 o3 : Option Value) (h : mq_H) (a0 : Nat) : mz (d + 1) 158 38 [o0, o1, o2, o3] [.null, .ref a0] h = if mo0 h a0 9 = true then mc (mz d 172 0 [some (.ref a0), some .null] [] h) (fun v h1 => mz (d + 1) 158 41 [o0, o1, o2, o3] (v.toList ++ []) h1) else none := zy_cv (rest := []) (show mp_ins 158 38 = some (.invokevirtual 177, 3) by decide +kernel) (show mp_lk 158 177 = some (172, 0) by decide +kernel) (show mp_np 172 = 2 ∧ mp_mx 172 = 2 ∧ mp_ck 172 = 9 by decide +kernel) (by decide +kernel) (Nat.le_of_ble_eq_true rfl) rfl rfl (Nat.le_of_ble_eq_true rfl) (Nat.le_of_ble_eq_true rfl) rfl
theorem x162_38N (d : Nat) (o0 o1 o2 : Option Value) (h : mq_H) (a0 : Nat) : mz (d + 1) 162 38 [o0, o1, o2] [.null, .ref a0] h = if mo0 h a0 9 = true then mc (mz d 172 0 [some (.ref a0), some .null] [] h) (fun v h1 => mz (d + 1) 162 41 [o0, o1, o2] (v.toList ++ []) h1) else none := zy_cv (rest := []) (show mp_ins 162 38 = some (.invokevirtual 177, 3) by decide +kernel) (show mp_lk 162 177 = some (172, 0) by decide +kernel) (show mp_np 172 = 2 ∧ mp_mx 172 = 2 ∧ mp_ck 172 = 9 by decide +kernel) (by decide +kernel) (Nat.le_of_ble_eq_true rfl) rfl rfl (Nat.le_of_ble_eq_true rfl) (Nat.le_of_ble_eq_true rfl) rfl
theorem isT_ng {c : Nat → mq_E} {g a e : Nat} {T : ZT} (h : GV c g a T) (he : isT c e) : e < g ∨ g + 4 < e := by
  obtain ⟨h1, h2, h3, i, f, h4, h5⟩ := h
  obtain ⟨_, l, hl⟩ := he
  rw [← h4] at hl
  by_cases q : e < g ∨ g + 4 < e
  · exact q
  · exfalso
    have : e = g ∨ e = g + 1 ∨ e = g + 2 ∨ e = g + 3 ∨ e = g + 4 := by omega
    rcases this with rfl | rfl | rfl | rfl | rfl
    · rw [gc_a0] at hl; cases hl
    · rw [gc_a1] at hl; cases hl
    · rw [gc_a2] at hl; cases hl
    · rw [gc_a3] at hl; cases hl
    · rw [gc_a4] at hl; cases hl
theorem CE_isT {kn ks n s : Nat} {c : Nat → mq_E} {a : Nat} {T : ZT} {rs gs : Value} {n' s' : Nat} {c' : Nat → mq_E} (h : CE kn ks n s c a T rs gs n' s' c') (hgs : gs = .null ∨ ∃ g, gs = .ref g ∧ g + 4 < n ∧ GV c g a T) {e : Nat} (he : isT c e) (hen : e < n) : isT c' e := by
  obtain ⟨a1, a2, a3, a4, a5, ⟨b, bi, bj, bk, gs', a6, a7, a8⟩, a9⟩ := h
  by_cases q : e = a
  · subst q
    exact ⟨he.1, _, a7⟩
  · obtain ⟨h1, l, hl⟩ := he
    refine ⟨h1, l, ?_⟩
    rw [a5 e (Or.inl hen) q]
    · exact hl
    · intro g hg
      rcases hgs with hgs | ⟨g0, h2, h3, h4⟩
      · rw [hgs] at hg; cases hg
      · rw [h2] at hg
        cases hg
        exact isT_ng h4 ⟨h1, l, hl⟩
def fuX (T : ZT) (x : Int32) : Option ZT := if gdT T = true ∧ fhT T x = true then (match (FL T)[x.toNatClampNeg]? with
  | some p => if p.2 = T.1 then some T else fuO T p
  | none => none) else none
section FX
variable {n s : Nat} {c : Nat → mq_E} {I : Nat → Int32} {J : Nat → Int64} {A : Nat → Nat → Int32} {B : Nat → Nat → Int64} {R : Nat → Value} {Q : Nat → Nat → Option Nat}
variable {a : Nat} {T : ZT} {b bi bj bk : Int32} {rs gs : Value}
/-- the outcome of a call that may make a table out of the TABLE -/
def DO (kn ks : Nat) (n s : Nat) (c : Nat → mq_E) (I : Nat → Int32) (J : Nat → Int64) (A : Nat → Nat → Int32) (B : Nat → Nat → Int64) (R : Nat → Value) (Q : Nat → Nat → Option Nat) (a : Nat) (T : ZT) (rs gs : Value) (p : Nat) (o : Option ZT) (r : Option (Option (Option Value) × mq_H)) : Prop := ∃ n' s' c', CE kn ks n s c a T rs gs n' s' c' ∧ ((o = none ∧ r = some (some (some (.int (-1))), hp n' s' c' I J A B R Q)) ∨ ∃ b T', o = some T' ∧ MD n c c' n' a T b T' ∧ r = some (some (some (.int (zn T'.1))), hp n' s' c' (dI I p) J A B (zu R 804 (.ref b)) (dQ Q p a)))
theorem C_fuse (hT : TB c a T) (hW : WT T) (hR : R 804 = .ref a) (hc : c a = tbo T.1 a b bi bj bk rs gs) (hv : b = -1 ∨ jd T b bi bj bk) (hn : 46 ≤ n) (han : a + 2 < n) (hgs : gs = .null ∨ ∃ g, gs = .ref g ∧ g + 4 < n ∧ GV c g a T) (p : Nat) (hP : p ≤ 12) (hI : I 802 = zn p) (hq : ∀ i, i < p → ∃ e, Q 17 i = some e ∧ isT c e ∧ e < n) (d : Nat) (x : Int32) : DO 10 347 n s c I J A B R Q a T rs gs p (fuX T x) (mz (d + 11) 161 0 [some (.ref 0), some (.int x), none] [] (hp n s c I J A B R Q)) := by
  obtain ⟨k1, k2⟩ := T_grp (n := n) (s := s) (c := c) (I := I) (J := J) (A := A) (B := B) (R := R) (Q := Q) hT hW hc hv hn han hgs (d + 5)
  have hl := FL_len hW
  unfold fuX
  cases hg : gdT T with
  | true =>
    obtain ⟨n', s', c', g, h1, hgg, e⟩ := k1 hg
    have hG := h1.2.2.2.2.2.2.1
    have hT1 := h1.2.2.2.2.2.2.2.2
    obtain ⟨c2, g1, g5, g2, g3, g4⟩ := G_has (n := n') (s := s') (I := I) (J := J) (A := A) (B := B) (R := R) (Q := Q) hT1 hW hG d x
    have hQ := CE_of (CG_CQ h1 hgg g1 g3)
    rw [show decide (¬ x < 0 ∧ x < zn (FL T).length) = fhT T x from rfl] at g4
    cases hf : fhT T x with
    | false =>
      rw [hf] at g4
      refine ⟨n', s', c2, CE_ext (k2 := 5) (t2 := 243) hQ han (fun _ _ => rfl) (Nat.le_refl _) (by omega) (Nat.le_refl _) (by omega), Or.inl ⟨by simp, ?_⟩⟩
      simp (disch := first | omega | exact zb_1 | exact zb_0 | exact zb_n1 | exact zb_n0) only [x161_0, x161_1, x161_4, x161_7, x161_10, x161_11, x161_12, x161_15, x161_16, x161_17, x161_20, x161_23, x161_24, x34_0, x34_0N, x34_1, x34_4, x34_4N, mq_dl_int, mq_dl_ref, mq_dl_null, mq_dl_none, mc_some, Option.toList_some, Option.toList_none, List.cons_append, List.nil_append, zb_1, zb_0, ↓reduceIte, if_true, if_false, not_true_eq_false, not_false_eq_true, Bool.false_eq_true, z_10, z_01, eq_self, Bool.and_self, true_or, or_true, false_or, or_false, true_and, and_true, false_and, and_false, and_self, or_self, hp_1, hp_21, upd_zu, updL_zu, updQ_zu, zu_eq, zu_ne, ho_0, ho_0_0, hf_0_0, ho_0_1, hf_0_1, ho_0_2, hf_0_2, ho_0_3, hf_0_3, ho_0_4, hf_0_4, ho_0_5, hf_0_5, ho_0_6, hf_0_6, ho_0_7, hf_0_7, hk_0_7, hw_0_7, ho_1, ho_1_0, hf_1_0, ho_1_1, hf_1_1, hk_1_1, hw_1_1, ho_1_2, hf_1_2, hk_1_2, hw_1_2, ho_1_3, hf_1_3, hk_1_3, hw_1_3, ho_1_4, hf_1_4, hk_1_4, hw_1_4, ho_1_5, hf_1_5, hk_1_5, hw_1_5, hn_2, hi_2, hg_2, hu_2, ho_3, ho_3_0, hf_3_0, ho_3_1, hf_3_1, ho_3_2, hf_3_2, hk_3_2, hw_3_2, ho_3_3, hf_3_3, hk_3_3, hw_3_3, hn_4, hi_4, hj_4, hg_4, hu_4, ho_5, ho_5_0, hf_5_0, ho_5_1, hf_5_1, ho_5_2, hf_5_2, ho_5_3, hf_5_3, hk_5_3, hw_5_3, ho_6, ho_6_0, hf_6_0, ho_6_1, hf_6_1, ho_6_2, hf_6_2, ho_6_3, hf_6_3, hk_6_3, hw_6_3, hn_7, hi_7, hj_7, hg_7, hu_7, hn_8, hi_8, hj_8, hg_8, hu_8, hn_9, hi_9, hj_9, hg_9, hu_9, ho_10, ho_10_0, hf_10_0, ho_10_1, hf_10_1, ho_10_2, hf_10_2, ho_10_3, hf_10_3, hk_10_3, hw_10_3, ho_10_4, hf_10_4, hk_10_4, hkN_10_4, hw_10_4, hn_11, hi_11, hj_11, hg_11, hu_11, hn_12, hi_12, hj_12, hg_12, hu_12, hn_13, hi_13, hj_13, hg_13, hu_13, hn_14, hi_14, hg_14, hu_14, hn_15, hi_15, hg_15, hu_15, ho_16, ho_16_0, hf_16_0, ho_16_1, hf_16_1, ho_16_2, hf_16_2, hk_16_2, hw_16_2, ho_16_3, hf_16_3, hk_16_3, hw_16_3, ho_16_4, hf_16_4, hk_16_4, hkN_16_4, hw_16_4, hn_17, hi_17, hg_17, hu_17, hn_18, hi_18, hg_18, hu_18, hn_22, hi_22, hg_22, hu_22, hR, tb_0 hT, e, G_0 hG, g4, zo_f, show zn 0 = 0 from rfl]
    | true =>
      rw [hf] at g4
      unfold fhT at hf
      rw [decide_eq_true_eq] at hf
      have hGF := g5 hf.1
      have hx := zn_of x hf.1
      obtain ⟨k, hk⟩ : ∃ k, k = x.toNatClampNeg := ⟨_, rfl⟩
      rw [← hk] at hx ⊢
      have hk2 : k < (FL T).length := by
        have := hf.2
        rw [hx.1, zn_lt _ _ (by omega) (by omega)] at this
        exact this
      obtain ⟨pp, hpp⟩ : ∃ pp, (FL T)[k]? = some pp := ⟨_, List.getElem?_eq_getElem hk2⟩
      have hT2 := hQ.2.2.2.2.2.2
      have hgn : g + 4 < n' := h1.2.2.2.2.2.2.2.1
      have hnn : n ≤ n' := h1.1
      obtain ⟨n3, s3, c3, v, b1, b2, b3, b4, b5, b6, b7⟩ := M_fused (n := n') (s := s') (I := I) (J := J) (A := A) (B := B) (R := R) (Q := Q) hT2 hW hGF (by omega) hgn (d + 7) k pp hpp
      have hE := CE_ext hQ han b1 b2 b3 b4 b5
      rw [hx.1] at g4
      have es : mz (d + 11) 161 0 [some (.ref 0), some (.int x), none] [] (hp n s c I J A B R Q) = mc (mz (d + 10) 172 0 [some (.ref 0), some v] [] (hp n3 s3 c3 I J A B R Q)) (fun v h1 => mz (d + 11) 161 41 [some (.ref 0), some (.int x), some (.ref g)] (v.toList ++ []) h1) := by
        rw [hx.1]
        rcases b6 with ⟨_, h⟩ | ⟨_, ⟨_, h⟩ | ⟨_, _, _, h, _⟩⟩
        · subst h
          simp (disch := first | omega | exact zb_1 | exact zb_0 | exact zb_n1 | exact zb_n0) only [x161_0, x161_1, x161_4, x161_7, x161_10, x161_11, x161_12, x161_15, x161_16, x161_17, x161_20, x161_25, x161_26, x161_27, x161_30, x161_33, x161_34, x161_35, x161_38, x34_0, x34_0N, x34_1, x34_4, x34_4N, mq_dl_int, mq_dl_ref, mq_dl_null, mq_dl_none, mc_some, Option.toList_some, Option.toList_none, List.cons_append, List.nil_append, zb_1, zb_0, ↓reduceIte, if_true, if_false, not_true_eq_false, not_false_eq_true, Bool.false_eq_true, z_10, z_01, eq_self, Bool.and_self, true_or, or_true, false_or, or_false, true_and, and_true, false_and, and_false, and_self, or_self, hp_1, hp_21, upd_zu, updL_zu, updQ_zu, zu_eq, zu_ne, ho_0, ho_0_0, hf_0_0, ho_0_1, hf_0_1, ho_0_2, hf_0_2, ho_0_3, hf_0_3, ho_0_4, hf_0_4, ho_0_5, hf_0_5, ho_0_6, hf_0_6, ho_0_7, hf_0_7, hk_0_7, hw_0_7, ho_1, ho_1_0, hf_1_0, ho_1_1, hf_1_1, hk_1_1, hw_1_1, ho_1_2, hf_1_2, hk_1_2, hw_1_2, ho_1_3, hf_1_3, hk_1_3, hw_1_3, ho_1_4, hf_1_4, hk_1_4, hw_1_4, ho_1_5, hf_1_5, hk_1_5, hw_1_5, hn_2, hi_2, hg_2, hu_2, ho_3, ho_3_0, hf_3_0, ho_3_1, hf_3_1, ho_3_2, hf_3_2, hk_3_2, hw_3_2, ho_3_3, hf_3_3, hk_3_3, hw_3_3, hn_4, hi_4, hj_4, hg_4, hu_4, ho_5, ho_5_0, hf_5_0, ho_5_1, hf_5_1, ho_5_2, hf_5_2, ho_5_3, hf_5_3, hk_5_3, hw_5_3, ho_6, ho_6_0, hf_6_0, ho_6_1, hf_6_1, ho_6_2, hf_6_2, ho_6_3, hf_6_3, hk_6_3, hw_6_3, hn_7, hi_7, hj_7, hg_7, hu_7, hn_8, hi_8, hj_8, hg_8, hu_8, hn_9, hi_9, hj_9, hg_9, hu_9, ho_10, ho_10_0, hf_10_0, ho_10_1, hf_10_1, ho_10_2, hf_10_2, ho_10_3, hf_10_3, hk_10_3, hw_10_3, ho_10_4, hf_10_4, hk_10_4, hkN_10_4, hw_10_4, hn_11, hi_11, hj_11, hg_11, hu_11, hn_12, hi_12, hj_12, hg_12, hu_12, hn_13, hi_13, hj_13, hg_13, hu_13, hn_14, hi_14, hg_14, hu_14, hn_15, hi_15, hg_15, hu_15, ho_16, ho_16_0, hf_16_0, ho_16_1, hf_16_1, ho_16_2, hf_16_2, hk_16_2, hw_16_2, ho_16_3, hf_16_3, hk_16_3, hw_16_3, ho_16_4, hf_16_4, hk_16_4, hkN_16_4, hw_16_4, hn_17, hi_17, hg_17, hu_17, hn_18, hi_18, hg_18, hu_18, hn_22, hi_22, hg_22, hu_22, hR, tb_0 hT, e, G_0 hG, g4, zo_t, show ¬ zn 1 = 0 by decide, b7]
        · subst h
          simp (disch := first | omega | exact zb_1 | exact zb_0 | exact zb_n1 | exact zb_n0) only [x161_0, x161_1, x161_4, x161_7, x161_10, x161_11, x161_12, x161_15, x161_16, x161_17, x161_20, x161_25, x161_26, x161_27, x161_30, x161_33, x161_34, x161_35, x161_38, x161_38N, x34_0, x34_0N, x34_1, x34_4, x34_4N, mq_dl_int, mq_dl_ref, mq_dl_null, mq_dl_none, mc_some, Option.toList_some, Option.toList_none, List.cons_append, List.nil_append, zb_1, zb_0, ↓reduceIte, if_true, if_false, not_true_eq_false, not_false_eq_true, Bool.false_eq_true, z_10, z_01, eq_self, Bool.and_self, true_or, or_true, false_or, or_false, true_and, and_true, false_and, and_false, and_self, or_self, hp_1, hp_21, upd_zu, updL_zu, updQ_zu, zu_eq, zu_ne, ho_0, ho_0_0, hf_0_0, ho_0_1, hf_0_1, ho_0_2, hf_0_2, ho_0_3, hf_0_3, ho_0_4, hf_0_4, ho_0_5, hf_0_5, ho_0_6, hf_0_6, ho_0_7, hf_0_7, hk_0_7, hw_0_7, ho_1, ho_1_0, hf_1_0, ho_1_1, hf_1_1, hk_1_1, hw_1_1, ho_1_2, hf_1_2, hk_1_2, hw_1_2, ho_1_3, hf_1_3, hk_1_3, hw_1_3, ho_1_4, hf_1_4, hk_1_4, hw_1_4, ho_1_5, hf_1_5, hk_1_5, hw_1_5, hn_2, hi_2, hg_2, hu_2, ho_3, ho_3_0, hf_3_0, ho_3_1, hf_3_1, ho_3_2, hf_3_2, hk_3_2, hw_3_2, ho_3_3, hf_3_3, hk_3_3, hw_3_3, hn_4, hi_4, hj_4, hg_4, hu_4, ho_5, ho_5_0, hf_5_0, ho_5_1, hf_5_1, ho_5_2, hf_5_2, ho_5_3, hf_5_3, hk_5_3, hw_5_3, ho_6, ho_6_0, hf_6_0, ho_6_1, hf_6_1, ho_6_2, hf_6_2, ho_6_3, hf_6_3, hk_6_3, hw_6_3, hn_7, hi_7, hj_7, hg_7, hu_7, hn_8, hi_8, hj_8, hg_8, hu_8, hn_9, hi_9, hj_9, hg_9, hu_9, ho_10, ho_10_0, hf_10_0, ho_10_1, hf_10_1, ho_10_2, hf_10_2, ho_10_3, hf_10_3, hk_10_3, hw_10_3, ho_10_4, hf_10_4, hk_10_4, hkN_10_4, hw_10_4, hn_11, hi_11, hj_11, hg_11, hu_11, hn_12, hi_12, hj_12, hg_12, hu_12, hn_13, hi_13, hj_13, hg_13, hu_13, hn_14, hi_14, hg_14, hu_14, hn_15, hi_15, hg_15, hu_15, ho_16, ho_16_0, hf_16_0, ho_16_1, hf_16_1, ho_16_2, hf_16_2, hk_16_2, hw_16_2, ho_16_3, hf_16_3, hk_16_3, hw_16_3, ho_16_4, hf_16_4, hk_16_4, hkN_16_4, hw_16_4, hn_17, hi_17, hg_17, hu_17, hn_18, hi_18, hg_18, hu_18, hn_22, hi_22, hg_22, hu_22, hR, tb_0 hT, e, G_0 hG, g4, zo_t, show ¬ zn 1 = 0 by decide, b7]
        · subst h
          simp (disch := first | omega | exact zb_1 | exact zb_0 | exact zb_n1 | exact zb_n0) only [x161_0, x161_1, x161_4, x161_7, x161_10, x161_11, x161_12, x161_15, x161_16, x161_17, x161_20, x161_25, x161_26, x161_27, x161_30, x161_33, x161_34, x161_35, x161_38, x34_0, x34_0N, x34_1, x34_4, x34_4N, mq_dl_int, mq_dl_ref, mq_dl_null, mq_dl_none, mc_some, Option.toList_some, Option.toList_none, List.cons_append, List.nil_append, zb_1, zb_0, ↓reduceIte, if_true, if_false, not_true_eq_false, not_false_eq_true, Bool.false_eq_true, z_10, z_01, eq_self, Bool.and_self, true_or, or_true, false_or, or_false, true_and, and_true, false_and, and_false, and_self, or_self, hp_1, hp_21, upd_zu, updL_zu, updQ_zu, zu_eq, zu_ne, ho_0, ho_0_0, hf_0_0, ho_0_1, hf_0_1, ho_0_2, hf_0_2, ho_0_3, hf_0_3, ho_0_4, hf_0_4, ho_0_5, hf_0_5, ho_0_6, hf_0_6, ho_0_7, hf_0_7, hk_0_7, hw_0_7, ho_1, ho_1_0, hf_1_0, ho_1_1, hf_1_1, hk_1_1, hw_1_1, ho_1_2, hf_1_2, hk_1_2, hw_1_2, ho_1_3, hf_1_3, hk_1_3, hw_1_3, ho_1_4, hf_1_4, hk_1_4, hw_1_4, ho_1_5, hf_1_5, hk_1_5, hw_1_5, hn_2, hi_2, hg_2, hu_2, ho_3, ho_3_0, hf_3_0, ho_3_1, hf_3_1, ho_3_2, hf_3_2, hk_3_2, hw_3_2, ho_3_3, hf_3_3, hk_3_3, hw_3_3, hn_4, hi_4, hj_4, hg_4, hu_4, ho_5, ho_5_0, hf_5_0, ho_5_1, hf_5_1, ho_5_2, hf_5_2, ho_5_3, hf_5_3, hk_5_3, hw_5_3, ho_6, ho_6_0, hf_6_0, ho_6_1, hf_6_1, ho_6_2, hf_6_2, ho_6_3, hf_6_3, hk_6_3, hw_6_3, hn_7, hi_7, hj_7, hg_7, hu_7, hn_8, hi_8, hj_8, hg_8, hu_8, hn_9, hi_9, hj_9, hg_9, hu_9, ho_10, ho_10_0, hf_10_0, ho_10_1, hf_10_1, ho_10_2, hf_10_2, ho_10_3, hf_10_3, hk_10_3, hw_10_3, ho_10_4, hf_10_4, hk_10_4, hkN_10_4, hw_10_4, hn_11, hi_11, hj_11, hg_11, hu_11, hn_12, hi_12, hj_12, hg_12, hu_12, hn_13, hi_13, hj_13, hg_13, hu_13, hn_14, hi_14, hg_14, hu_14, hn_15, hi_15, hg_15, hu_15, ho_16, ho_16_0, hf_16_0, ho_16_1, hf_16_1, ho_16_2, hf_16_2, hk_16_2, hw_16_2, ho_16_3, hf_16_3, hk_16_3, hw_16_3, ho_16_4, hf_16_4, hk_16_4, hkN_16_4, hw_16_4, hn_17, hi_17, hg_17, hu_17, hn_18, hi_18, hg_18, hu_18, hn_22, hi_22, hg_22, hu_22, hR, tb_0 hT, e, G_0 hG, g4, zo_t, show ¬ zn 1 = 0 by decide, b7]
      have hT3 := hE.2.2.2.2.2.2
      have hq' : ∀ i, i < p → ∃ e, Q 17 i = some e ∧ isT c3 e := fun i hi => by
        obtain ⟨e, q1, q2, q3⟩ := hq i hi
        exact ⟨e, q1, CE_isT hE hgs q2 q3⟩
      refine ⟨n3, s3, c3, hE, ?_⟩
      rw [es, hpp]
      simp only [true_and, if_true]
      rcases b6 with ⟨q, h⟩ | ⟨q, ⟨q2, h⟩ | ⟨b0, T0, q2, h, q3, q4⟩⟩
      · subst h
        right
        refine ⟨a, T, by rw [if_pos q], Or.inl ⟨rfl, rfl⟩, ?_⟩
        rw [C_take hT3 p hP hI hR (tb_isT hT3) hq' (d + 8)]
        simp (disch := first | omega | exact zb_1 | exact zb_0 | exact zb_n1 | exact zb_n0) only [x161_41, mq_dl_int, mq_dl_ref, mq_dl_null, mq_dl_none, mc_some, Option.toList_some, Option.toList_none, List.cons_append, List.nil_append, zb_1, zb_0, ↓reduceIte, if_true, if_false, not_true_eq_false, not_false_eq_true, Bool.false_eq_true, z_10, z_01, eq_self, Bool.and_self, true_or, or_true, false_or, or_false, true_and, and_true, false_and, and_false, and_self, or_self]
      · subst h
        left
        refine ⟨by rw [if_neg q]; exact q2, ?_⟩
        rw [C_takeN]
        simp (disch := first | omega | exact zb_1 | exact zb_0 | exact zb_n1 | exact zb_n0) only [x161_41, mq_dl_int, mq_dl_ref, mq_dl_null, mq_dl_none, mc_some, Option.toList_some, Option.toList_none, List.cons_append, List.nil_append, zb_1, zb_0, ↓reduceIte, if_true, if_false, not_true_eq_false, not_false_eq_true, Bool.false_eq_true, z_10, z_01, eq_self, Bool.and_self, true_or, or_true, false_or, or_false, true_and, and_true, false_and, and_false, and_self, or_self]
      · subst h
        right
        have q3' : n' ≤ b0 ∧ b0 + 2 < n3 ∧ TB c3 b0 T0 ∧ c3 b0 = tbo T0.1 b0 (-1) 0 0 0 .null .null := by
          rcases q3 with ⟨r1, _⟩ | r
          · omega
          · exact r
        refine ⟨b0, T0, by rw [if_neg q]; exact q2, Or.inr ⟨by omega, q3'.2.1, q3'.2.2.1, q3'.2.2.2⟩, ?_⟩
        rw [C_take q3'.2.2.1 p hP hI hR (tb_isT hT3) hq' (d + 8)]
        simp (disch := first | omega | exact zb_1 | exact zb_0 | exact zb_n1 | exact zb_n0) only [x161_41, mq_dl_int, mq_dl_ref, mq_dl_null, mq_dl_none, mc_some, Option.toList_some, Option.toList_none, List.cons_append, List.nil_append, zb_1, zb_0, ↓reduceIte, if_true, if_false, not_true_eq_false, not_false_eq_true, Bool.false_eq_true, z_10, z_01, eq_self, Bool.and_self, true_or, or_true, false_or, or_false, true_and, and_true, false_and, and_false, and_self, or_self]
  | false =>
    obtain ⟨b', bi', bj', bk', hj, hgs, e⟩ := k2 hg
    subst hgs
    refine ⟨n, s, _, CE_ext (k2 := 5) (t2 := 243) (CE_of (CQ_bad (n := n) (s := s) (rs := rs) (gs := .null) hT hj)) han (fun _ _ => rfl) (Nat.le_refl _) (by omega) (Nat.le_refl _) (by omega), Or.inl ⟨by simp, ?_⟩⟩
    simp (disch := first | omega | exact zb_1 | exact zb_0 | exact zb_n1 | exact zb_n0) only [x161_0, x161_1, x161_4, x161_7, x161_10, x161_10N, x161_11, x161_11N, x161_12, x161_12N, x161_23, x161_24, x34_0, x34_0N, x34_1, x34_4, x34_4N, mq_dl_int, mq_dl_ref, mq_dl_null, mq_dl_none, mc_some, Option.toList_some, Option.toList_none, List.cons_append, List.nil_append, zb_1, zb_0, ↓reduceIte, if_true, if_false, not_true_eq_false, not_false_eq_true, Bool.false_eq_true, z_10, z_01, eq_self, Bool.and_self, true_or, or_true, false_or, or_false, true_and, and_true, false_and, and_false, and_self, or_self, hp_1, hp_21, upd_zu, updL_zu, updQ_zu, zu_eq, zu_ne, ho_0, ho_0_0, hf_0_0, ho_0_1, hf_0_1, ho_0_2, hf_0_2, ho_0_3, hf_0_3, ho_0_4, hf_0_4, ho_0_5, hf_0_5, ho_0_6, hf_0_6, ho_0_7, hf_0_7, hk_0_7, hw_0_7, ho_1, ho_1_0, hf_1_0, ho_1_1, hf_1_1, hk_1_1, hw_1_1, ho_1_2, hf_1_2, hk_1_2, hw_1_2, ho_1_3, hf_1_3, hk_1_3, hw_1_3, ho_1_4, hf_1_4, hk_1_4, hw_1_4, ho_1_5, hf_1_5, hk_1_5, hw_1_5, hn_2, hi_2, hg_2, hu_2, ho_3, ho_3_0, hf_3_0, ho_3_1, hf_3_1, ho_3_2, hf_3_2, hk_3_2, hw_3_2, ho_3_3, hf_3_3, hk_3_3, hw_3_3, hn_4, hi_4, hj_4, hg_4, hu_4, ho_5, ho_5_0, hf_5_0, ho_5_1, hf_5_1, ho_5_2, hf_5_2, ho_5_3, hf_5_3, hk_5_3, hw_5_3, ho_6, ho_6_0, hf_6_0, ho_6_1, hf_6_1, ho_6_2, hf_6_2, ho_6_3, hf_6_3, hk_6_3, hw_6_3, hn_7, hi_7, hj_7, hg_7, hu_7, hn_8, hi_8, hj_8, hg_8, hu_8, hn_9, hi_9, hj_9, hg_9, hu_9, ho_10, ho_10_0, hf_10_0, ho_10_1, hf_10_1, ho_10_2, hf_10_2, ho_10_3, hf_10_3, hk_10_3, hw_10_3, ho_10_4, hf_10_4, hk_10_4, hkN_10_4, hw_10_4, hn_11, hi_11, hj_11, hg_11, hu_11, hn_12, hi_12, hj_12, hg_12, hu_12, hn_13, hi_13, hj_13, hg_13, hu_13, hn_14, hi_14, hg_14, hu_14, hn_15, hi_15, hg_15, hu_15, ho_16, ho_16_0, hf_16_0, ho_16_1, hf_16_1, ho_16_2, hf_16_2, hk_16_2, hw_16_2, ho_16_3, hf_16_3, hk_16_3, hw_16_3, ho_16_4, hf_16_4, hk_16_4, hkN_16_4, hw_16_4, hn_17, hi_17, hg_17, hu_17, hn_18, hi_18, hg_18, hu_18, hn_22, hi_22, hg_22, hu_22, hR, tb_0 hT, e]
end FX
