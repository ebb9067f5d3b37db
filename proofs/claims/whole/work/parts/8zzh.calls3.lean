/-! THE LAW'S CALLS: those that may make a table -/
theorem quX_WT {T T' : ZT} (hW : WT T) {x : Int32} (h : quX T x = some T') : WT T' := by
  unfold quX at h
  by_cases q1 : gdT T = true ∧ ¬ x < 0 ∧ x < zn (cnT T (2 ^ T.1))
  · rw [if_pos q1] at h
    by_cases q2 : qv T (pnT T x.toNatClampNeg) = 1 ∧ cR T (pnT T x.toNatClampNeg) T.1 = T.1
    · rw [if_pos q2] at h
      cases h
      exact hW
    · rw [if_neg q2] at h
      unfold quO at h
      by_cases q3 : gokT T (qw T (pnT T x.toNatClampNeg)) (qv T (pnT T x.toNatClampNeg)) (cR T (pnT T x.toNatClampNeg) T.1) = true
      · rw [if_pos q3] at h
        cases h
        have hx := zn_of x q1.2.1
        have hc := cn_le hW
        have hlt : x.toNatClampNeg < cnT T (2 ^ T.1) := by
          have h2 := q1.2.2
          rw [hx.1, zn_lt _ _ hx.2 (by omega)] at h2
          exact h2
        have hP : PR T (pnT T x.toNatClampNeg) := (prT_iff _ _).mp (pnT_spec hlt).2.2.1
        have hv := qv_pos hW hP
        refine WT_ga hW (qw_LW hW q1.1 hP) q3 (fun i k hi hk => ?_)
        rw [q_unit hW q1.1 hP hk]
        split
        · exact Nat.div_self (by omega)
        · exact Nat.zero_div _
      · rw [if_neg q3] at h
        cases h
  · rw [if_neg q1] at h
    cases h
theorem fuX_WT {T T' : ZT} (hW : WT T) {x : Int32} (h : fuX T x = some T') : WT T' := by
  unfold fuX at h
  by_cases q1 : gdT T = true ∧ fhT T x = true
  · rw [if_pos q1] at h
    cases hp' : (FL T)[x.toNatClampNeg]? with
    | none => rw [hp'] at h; cases h
    | some p =>
      rw [hp'] at h
      dsimp only at h
      by_cases q2 : p.2 = T.1
      · rw [if_pos q2] at h
        cases h
        exact hW
      · rw [if_neg q2] at h
        unfold fuO at h
        by_cases q3 : gokT T p.1 1 p.2 = true
        · rw [if_pos q3] at h
          cases h
          exact WT_fu hW (List.mem_of_getElem? hp') q3
        · rw [if_neg q3] at h
          cases h
  · rw [if_neg q1] at h
    cases h
theorem wrX_WT {T U T' : ZT} (hW : WT T) (hU : WT U) (h : wrX T U = some T') : WT T' := by
  unfold wrX at h
  by_cases q : T.1 + U.1 - 1 ≤ 6 ∧ gdT T = true ∧ gdT U = true ∧ wokT T U (T.1 + U.1 - 1) = true
  · rw [if_pos q] at h
    cases h
    exact WT_wr hW hU q.1 q.2.2.2
  · rw [if_neg q] at h
    cases h
/-- a call that changes but the reference's scratch -/
theorem GI_keep1 {K L : Nat} {xs : Nat → Int32} {V : VT} {a p f t n s n' s' : Nat} {c c' : Nat → mq_E} {I I' : Nat → Int32} {J J' : Nat → Int64} {A A' : Nat → Nat → Int32} {B B' : Nat → Nat → Int64} {R R' : Nat → Value} {Q : Nat → Nat → Option Nat} {t' : Nat} (h : GI K L xs V a p f t n s c I J A B R Q) (hK : K ≤ 600) (hn : n ≤ n') (hn2 : n' ≤ n + 20) (hs2 : s' ≤ s + 1000) (hc : ∀ x, n' ≤ x → c' x = c x) (hL : ∀ e T, V e = some T → LV c' n' e T) (hI : ∀ k, k = 802 ∨ k = 803 ∨ k = 1161 ∨ k = 1162 → I' k = I k) (hw : I' 7 = I' 1171) (ht : t' ≤ t) (h51 : I' 51 = zn t') (h1152 : I' 1152 = zn t') (hA : ∀ k, k = 2 ∨ k = 24 ∨ k = 44 → A' k = A k) (hA2 : f1 (A 29) (A' 29)) (hB : WRD B') (hR : R' 804 = R 804) : GI (K + 1) L xs V a p f t' n' s' c' I' J' A' B' R' Q := by
  obtain ⟨⟨a1, a2, a3⟩, ⟨b1, b2⟩, ⟨c1, c2, c3, c4, c5⟩, ⟨d1, d2, d3, d4, d5⟩, ⟨e1, e2⟩, e3, e4, e5⟩ := h
  have hV := LVS_VW e5
  have z1 : 46 ≤ n' := by omega
  have z2 : n' ≤ 100 + 20 * (K + 1) := by omega
  have z3 : s' ≤ 100000 + 1000 * (K + 1) := s_up a3 hs2
  refine ⟨⟨z1, z2, z3⟩, ⟨STR_to b1 (fun x hx => hc x (by omega)), by rw [hc _ (by omega)]; exact b2⟩, ⟨Nat.le_trans ht c1, h51, h1152, by rw [hA 24 (by omega), hA 2 (by omega)]; exact c4, by rw [hA 2 (by omega)]; exact fun i hi => c5 i (Nat.lt_of_lt_of_le hi ht)⟩, ⟨by rw [hR]; exact d1, by rw [hI 802 (by omega)]; exact d2, by rw [hI 803 (by omega)]; exact d3, by rw [hI 1162 (by omega)]; exact d4, by rw [hI 1161 (by omega)]; exact d5⟩, ⟨HI_to hV (fun _ _ h => h) e1 hA2, by rw [hA 44 (by omega)]; exact MI_to hV (fun _ _ h => h) e2 rfl (fun k q h1 h2 hq => sl_f1 hA2 k q hq (by omega))⟩, hw, hB, hL⟩
/-- a call that is done -/
theorem GI_done {K L : Nat} {xs : Nat → Int32} {V : VT} {a p f t n s n' s' : Nat} {c c' : Nat → mq_E} {I I' : Nat → Int32} {J J' : Nat → Int64} {A A' : Nat → Nat → Int32} {B B' : Nat → Nat → Int64} {R R' : Nat → Value} {Q : Nat → Nat → Option Nat} {t' b : Nat} {T' : ZT} {g' : Nat → Int32} (h : GI K L xs V a p f t n s c I J A B R Q) (hK : K ≤ 600) (hn : n ≤ n') (hn2 : n' ≤ n + 20) (hs2 : s' ≤ s + 1000) (hc : ∀ x, n' ≤ x → c' x = c x) (hL : ∀ e T, V e = some T → LV c' n' e T) (hb : V b = some T' ∨ (n ≤ b ∧ LV c' n' b T')) (h802 : I' 802 = zn (dw p)) (h803 : I' 803 = zn 0) (h1162 : I' 1162 = zn (dw p)) (h1161 : I' 1161 = zn (dw p + 1)) (hw : I' 7 = I' 1171) (ht : t' ≤ t) (h51 : I' 51 = zn t') (h1152 : I' 1152 = zn t') (hA : ∀ k, k = 2 ∨ k = 24 ∨ k = 44 → A' k = A k) (hA2 : f1 (A 29) g') (hA3 : A' 29 = ds p g') (hT : RT T' (sl 1 g')) (hB : WRD B') (hR : R' 804 = .ref b) : ∃ V', GI (K + 1) L xs V' b (dw p) 0 t' n' s' c' I' J' A' B' R' (dQ Q p a) := by
  obtain ⟨⟨a1, a2, a3⟩, ⟨b1, b2⟩, ⟨c1, c2, c3, c4, c5⟩, ⟨d1, d2, d3, d4, d5⟩, ⟨e1, e2⟩, e3, e4, e5⟩ := h
  have hV := LVS_VW e5
  have z1 : 46 ≤ n' := by omega
  have z2 : n' ≤ 100 + 20 * (K + 1) := by omega
  have z3 : s' ≤ 100000 + 1000 * (K + 1) := s_up a3 hs2
  have hp12 : p ≤ 12 := by have := e1.1; omega
  obtain ⟨V', v1, v2, v3, v4⟩ : ∃ V' : VT, (∀ e T, V e = some T → V' e = some T) ∧ V' b = some T' ∧ WT T' ∧ ∀ e T, V' e = some T → LV c' n' e T := by
    rcases hb with hb | ⟨hb1, hb2⟩
    · exact ⟨V, fun _ _ h => h, hb, (e5 b T' hb).2.1, hL⟩
    · refine ⟨zu V b (some T'), fun e T he => ?_, zu_eq _ _ _, hb2.2.1, fun e T he => ?_⟩
      · have := (e5 e T he).2.2.1
        rw [zu_ne _ _ _ _ (by omega)]
        exact he
      · by_cases q : e = b
        · subst q
          rw [zu_eq] at he
          cases he
          exact hb2
        · rw [zu_ne _ _ _ _ q] at he
          exact hL e T he
  refine ⟨V', ⟨z1, z2, z3⟩, ⟨STR_to b1 (fun x hx => hc x (by omega)), by rw [hc _ (by omega)]; exact b2⟩, ⟨Nat.le_trans ht c1, h51, h1152, by rw [hA 24 (by omega), hA 2 (by omega)]; exact c4, by rw [hA 2 (by omega)]; exact fun i hi => c5 i (Nat.lt_of_lt_of_le hi ht)⟩, ⟨hR, h802, h803, h1162, h1161⟩, ⟨?_, ?_⟩, hw, hB, v4⟩
  · rw [hA3]
    exact HI_done hV v3 v1 e1 hA2 v2 hT
  · rw [hA3, hA 44 (by omega)]
    exact MI_done hV v1 hp12 e2 hA2
section LAWE
variable {n s : Nat} {c : Nat → mq_E} {I : Nat → Int32} {J : Nat → Int64} {A : Nat → Nat → Int32} {B : Nat → Nat → Int64} {R : Nat → Value} {Q : Nat → Nat → Option Nat}
variable {K L i d : Nat} {xs : Nat → Int32} {V : VT} {a p f t : Nat} {o5 o6 o7 : Option Value}
theorem DO_RO {kn ks : Nat} {T : ZT} {rs gs : Value} {o : Option ZT} {cl : Nat} {x : Int32} (h : GI K L xs V a p f t n s c I J A B R Q) (hK : K ≤ 600) (hkn : kn ≤ 20) (hks : ks ≤ 1000) (hV : V a = some T) (hLV : LV c n a T) (hrs : RsV c n a T rs) (hgs : GsV c n a T gs) (hW : ∀ T', o = some T' → WT T') {r1 : Option (Option (Option Value) × mq_H)} (h1 : DO kn ks n s c I J A B R Q a T rs gs p o r1) (r2 : mq_H → Option (Option (Option Value) × mq_H)) (h2 : ∀ n s c I A R Q, RT T (A 29) → I 1162 = zn p → RO n s c I J A B R Q p o (r2 (hp n s c I J A B R Q))) : ∃ v n' s' c' I1 R1 Q1 V' a' p' f' I' A', GI (K + 1) L xs V' a' p' f' t n' s' c' I' J A' B R1 Q1 ∧ c' 1000000000 = .inl (5, L, .inl xs) ∧ r1 = some (some (some (.int v)), hp n' s' c' I1 J A B R1 Q1) ∧ r2 (hp n' s' c' I1 J A B R1 Q1) = some (some (some (.int v)), hp n' s' c' I' J A' B R1 Q1) := by
  obtain ⟨T0, hV0, _, hRT⟩ := GI_now h
  rw [hV] at hV0
  cases hV0
  have han := hLV.2.2.1
  have hsc := h.2.1.2
  have hn2 := h.1.2.1
  obtain ⟨_, g2, g3, g4, g5⟩ := h.2.2.2.1
  have hw := h.2.2.2.2.2.1
  have hB := h.2.2.2.2.2.2.1
  obtain ⟨t1, t2, t3, t4, t5⟩ := h.2.2.1
  obtain ⟨n', s', c', hC, hr⟩ := h1
  obtain ⟨k1, k2⟩ := CE_LV hC hLV hrs hgs
  have far := CE_far hC han hgs
  have z0 := hC.1
  have z1 := hC.2.1
  have z2 := hC.2.2.2.1
  have hLS := LVS_step h.2.2.2.2.2.2.2 hV (Or.inl rfl) hgs k2 hC.1 k1
  have hsc' : c' 1000000000 = .inl (5, L, .inl xs) := by rw [far _ (by omega)]; exact hsc
  rcases hr with ⟨ho, hr⟩ | ⟨b, T', ho, hM, hr⟩
  · obtain ⟨I', A', hI', hA', hx⟩ := h2 n' s' c' I A R Q hRT g4
    rcases hx with ⟨_, x1, x2, x3, hx⟩ | ⟨T2, f2, ho2, _⟩
    · refine ⟨-1, n', s', c', I, R, Q, V, a, p, f, I', A', GI_keep1 h hK z0 (by omega) (by omega) far hLS (fun k hk => ?_) ?_ (Nat.le_refl _) ?_ ?_ (fun k hk => hA' k (by omega) (by omega)) x3 hB rfl, hsc', hr, hx⟩
      · rcases hk with hk | hk | hk | hk
        · exact hI' k (by omega) (by omega) (by omega) (by omega) (by omega)
        · exact hI' k (by omega) (by omega) (by omega) (by omega) (by omega)
        · rw [hk]; exact x1
        · rw [hk]; exact x2
      · rw [hI' 7 (by omega) (by omega) (by omega) (by omega) (by omega), hI' 1171 (by omega) (by omega) (by omega) (by omega) (by omega)]
        exact hw
      · rw [hI' 51 (by omega) (by omega) (by omega) (by omega) (by omega)]; exact t2
      · rw [hI' 1152 (by omega) (by omega) (by omega) (by omega) (by omega)]; exact t3
    · rw [ho] at ho2; cases ho2
  · have hdI : ∀ k, k ≠ 802 → k ≠ 803 → dI I p k = I k := fun k h1 h2 => by
      unfold dI
      rw [zu_ne _ _ _ _ h2, zu_ne _ _ _ _ h1]
    have hd2 : dI I p 802 = zn (dw p) := by
      unfold dI
      rw [zu_ne _ _ _ _ (by omega), zu_eq]
    have hd3 : dI I p 803 = zn 0 := by
      unfold dI
      rw [zu_eq]
    obtain ⟨I', A', hI', hA', hx⟩ := h2 n' s' c' (dI I p) A (zu R 804 (.ref b)) (dQ Q p a) hRT (by rw [hdI _ (by omega) (by omega)]; exact g4)
    rcases hx with ⟨ho2, _⟩ | ⟨T2, f2, ho2, x1, x2, x3, x4, x5, hx⟩
    · rw [ho] at ho2; cases ho2
    · rw [ho] at ho2
      cases ho2
      have hI2 : ∀ k, k = 7 ∨ k = 51 ∨ k = 1152 ∨ k = 1171 → I' k = I k := fun k hk => by
        rw [hI' k (by omega) (by omega) (by omega) (by omega) (by omega), hdI k (by omega) (by omega)]
      obtain ⟨V', hG⟩ := GI_done (n' := n') (s' := s') (c' := c') (I' := I') (J' := J) (A' := A') (B' := B) (R' := zu R 804 (.ref b)) (t' := t) (b := b) (T' := T') (g' := f2) h hK z0 (by omega) (by omega) far hLS (by
        rcases hM with ⟨e1, e2⟩ | ⟨m1, m2, m3, m4⟩
        · subst e1 e2
          exact Or.inl hV
        · exact Or.inr ⟨m1, LV_new m3 (hW T' ho) m2 m4⟩) (by rw [hI' 802 (by omega) (by omega) (by omega) (by omega) (by omega)]; exact hd2) (by rw [hI' 803 (by omega) (by omega) (by omega) (by omega) (by omega)]; exact hd3) x5 x4 (by rw [hI2 7 (by omega), hI2 1171 (by omega)]; exact hw) (Nat.le_refl _) (by rw [hI2 51 (by omega)]; exact t2) (by rw [hI2 1152 (by omega)]; exact t3) (fun k hk => hA' k (by omega) (by omega)) x1 x3 x2 hB (zu_eq _ _ _)
      exact ⟨zn T'.1, n', s', c', dI I p, zu R 804 (.ref b), dQ Q p a, V', b, dw p, 0, I', A', hG, hsc', hr, hx⟩
theorem K_quot (h : GI K L xs V a p f t n s c I J A B R Q) (hK : K ≤ 600) (hi : i + 7 ≤ L) (hL : L ≤ 3584) : NX K L xs (d + 40) i (mz (d + 40) 305 743 [some (.ref 1000000000), some (.ref 0), some (.ref 23), some (.ref 45), some (.int (zn i)), o5, o6, o7] [] (hp n s c I J A B R Q)) := by
  obtain ⟨T, hV, hLV, hRT⟩ := GI_now h
  obtain ⟨hT, hW, han, b, bi, bj, bk, rs, gs, hc, hv, hrs, hgs⟩ := id hLV
  have hR := h.2.2.2.1.1
  have hsc := h.2.1.2
  have hn1 := h.1.1
  have hp12 : p ≤ 12 := by have := h.2.2.2.2.1.1.1; omega
  have hD := C_quot (n := n) (s := s) (c := c) (I := I) (J := J) (A := A) (B := B) (R := R) (Q := Q) hT hW hR hc hv hn1 han hgs p hp12 h.2.2.2.1.2.1 (HI_q h.2.2.2.2.2.2.2 h.2.2.2.2.1.1) (d + 33) (xs (i + 1))
  obtain ⟨v, n', s', c', I1, R1, Q1, V', a', p', f', I', A', hG, hsc', e1, e2⟩ := DO_RO (cl := 0) (x := 0) h hK (by omega) (by omega) hV hLV hrs hgs (fun T' e => quX_WT hW e) hD (fun hh => mz (d + 39) 261 0 [some (.ref 23), some (.int (xs (i + 1))), none, none, none, none] [] hh) (fun n s c I A R Q hS hI => R_quot (n := n) (s := s) (c := c) (J := J) (B := B) (R := R) (Q := Q) hW (d + 32) (xs (i + 1)) I hS p hp12 hI)
  refine ⟨V', a', p', f', t, n', s', c', I', J, A', B, R1, Q1, o5, o6, o7, hG, ?_⟩
  simp (disch := first | omega | exact zb_1 | exact zb_0 | exact zb_n1 | exact zb_n0) only [x305_743, x305_743N, x305_744, x305_744N, x305_745, x305_747, x305_748, x305_749, x305_750, x305_753, x305_753N, x305_754, x305_754N, x305_755, x305_757, x305_758, x305_759, x305_760, x305_763, mq_dl_int, mq_dl_ref, mq_dl_null, mq_dl_none, mc_some, Option.toList_some, Option.toList_none, List.cons_append, List.nil_append, zb_1, zb_0, ↓reduceIte, if_true, if_false, not_true_eq_false, not_false_eq_true, Bool.false_eq_true, z_10, z_01, eq_self, Bool.and_self, true_or, or_true, false_or, or_false, true_and, and_true, false_and, and_false, and_self, or_self, Nat.reduceLT, Nat.reduceEqDiff, Nat.reduceLeDiff, Nat.reduceAdd, Nat.reduceMul, Nat.reduceSub, zn_lit, zn_add, zn_mul, zn_sub, zn_addneg, zn_lt, zn_le, zn_eq, zn_clamp, zn_in, zn_long, ho_0, ho_23, sc_i hsc, sc_g hsc, sc_i hsc', sc_g hsc', e1, e2]
theorem K_fuse (h : GI K L xs V a p f t n s c I J A B R Q) (hK : K ≤ 600) (hi : i + 7 ≤ L) (hL : L ≤ 3584) : NX K L xs (d + 40) i (mz (d + 40) 305 818 [some (.ref 1000000000), some (.ref 0), some (.ref 23), some (.ref 45), some (.int (zn i)), o5, o6, o7] [] (hp n s c I J A B R Q)) := by
  obtain ⟨T, hV, hLV, hRT⟩ := GI_now h
  obtain ⟨hT, hW, han, b, bi, bj, bk, rs, gs, hc, hv, hrs, hgs⟩ := id hLV
  have hR := h.2.2.2.1.1
  have hsc := h.2.1.2
  have hn1 := h.1.1
  have hp12 : p ≤ 12 := by have := h.2.2.2.2.1.1.1; omega
  have hD := C_fuse (n := n) (s := s) (c := c) (I := I) (J := J) (A := A) (B := B) (R := R) (Q := Q) hT hW hR hc hv hn1 han hgs p hp12 h.2.2.2.1.2.1 (HI_q h.2.2.2.2.2.2.2 h.2.2.2.2.1.1) (d + 28) (xs (i + 1))
  obtain ⟨v, n', s', c', I1, R1, Q1, V', a', p', f', I', A', hG, hsc', e1, e2⟩ := DO_RO (cl := 0) (x := 0) h hK (by omega) (by omega) hV hLV hrs hgs (fun T' e => fuX_WT hW e) hD (fun hh => mz (d + 39) 267 0 [some (.ref 23), some (.int (xs (i + 1)))] [] hh) (fun n s c I A R Q hS hI => R_fuse (n := n) (s := s) (c := c) (J := J) (B := B) (R := R) (Q := Q) hW (d + 28) (xs (i + 1)) I A hS p hp12 hI)
  refine ⟨V', a', p', f', t, n', s', c', I', J, A', B, R1, Q1, o5, o6, o7, hG, ?_⟩
  simp (disch := first | omega | exact zb_1 | exact zb_0 | exact zb_n1 | exact zb_n0) only [x305_818, x305_818N, x305_819, x305_819N, x305_820, x305_822, x305_823, x305_824, x305_825, x305_828, x305_828N, x305_829, x305_829N, x305_830, x305_832, x305_833, x305_834, x305_835, x305_838, mq_dl_int, mq_dl_ref, mq_dl_null, mq_dl_none, mc_some, Option.toList_some, Option.toList_none, List.cons_append, List.nil_append, zb_1, zb_0, ↓reduceIte, if_true, if_false, not_true_eq_false, not_false_eq_true, Bool.false_eq_true, z_10, z_01, eq_self, Bool.and_self, true_or, or_true, false_or, or_false, true_and, and_true, false_and, and_false, and_self, or_self, Nat.reduceLT, Nat.reduceEqDiff, Nat.reduceLeDiff, Nat.reduceAdd, Nat.reduceMul, Nat.reduceSub, zn_lit, zn_add, zn_mul, zn_sub, zn_addneg, zn_lt, zn_le, zn_eq, zn_clamp, zn_in, zn_long, ho_0, ho_23, sc_i hsc, sc_g hsc, sc_i hsc', sc_g hsc', e1, e2]
end LAWE
