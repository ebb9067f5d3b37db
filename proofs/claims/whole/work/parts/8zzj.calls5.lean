/-! THE LAW'S CALLS: feed, wreath -/
def SG (q : tp_T) : Prop := ∀ i, i < q.1 → ∃ k, k < 128 ∧ q.2 i = zn k
theorem SG_1 (b : Nat) {q : tp_T} (h : SG q) : SG (tp_1 b q) := by
  unfold tp_1
  by_cases c : (b = 10 ∨ 32 ≤ b ∧ b ≤ 126) ∧ q.1 < 1000
  · rw [if_pos c]
    intro i hi
    by_cases e : i = q.1
    · subst e
      exact ⟨b, by omega, zu_eq _ _ _⟩
    · obtain ⟨k, h1, h2⟩ := h i (by simp only at hi; omega)
      exact ⟨k, h1, by simp only; rw [zu_ne _ _ _ _ e]; exact h2⟩
  · rw [if_neg c]
    exact h
theorem SG_24 (u v w : Int64) {q : tp_T} (h : SG q) : SG (tp_24 u v w q) := by
  unfold tp_24 tp_8
  repeat apply SG_1
  exact h
section LAWG
variable {n s : Nat} {c : Nat → mq_E} {I : Nat → Int32} {J : Nat → Int64} {A : Nat → Nat → Int32} {B : Nat → Nat → Int64} {R : Nat → Value} {Q : Nat → Nat → Option Nat}
variable {K L i d : Nat} {xs : Nat → Int32} {V : VT} {a p f t : Nat} {o5 o6 o7 : Option Value}
theorem K_feed (h : GI K L xs V a p f t n s c I J A B R Q) (hK : K ≤ 600) (hi : i + 7 ≤ L) (hL : L ≤ 3584) : NX K L xs (d + 40) i (mz (d + 40) 305 172 [some (.ref 1000000000), some (.ref 0), some (.ref 23), some (.ref 45), some (.int (zn i)), o5, o6, o7] [] (hp n s c I J A B R Q)) := by
  have hsc := h.2.1.2
  obtain ⟨⟨a1, a2, a3⟩, ⟨b1, b2⟩, ⟨c1, c2, c3, c4, c5⟩, ⟨d1, d2, d3, d4, d5⟩, ⟨e1, e2⟩, e3, e4, e5⟩ := h
  obtain ⟨u, hu⟩ : ∃ u, u = (xs (i + 1)).toInt64 <<< (zln 32 &&& 63) ||| (xs (i + 2)).toInt64 &&& 4294967295 := ⟨_, rfl⟩
  obtain ⟨v, hv⟩ : ∃ v, v = (xs (i + 3)).toInt64 <<< (zln 32 &&& 63) ||| (xs (i + 4)).toInt64 &&& 4294967295 := ⟨_, rfl⟩
  obtain ⟨w, hw⟩ : ∃ w, w = (xs (i + 5)).toInt64 <<< (zln 32 &&& 63) ||| (xs (i + 6)).toInt64 &&& 4294967295 := ⟨_, rfl⟩
  obtain ⟨q, hq⟩ : ∃ q, q = tp_24 u v w (t, A 2) := ⟨_, rfl⟩
  have hq1 : q.1 ≤ 1000 := by
    rw [hq]
    exact tp_8_le w _ (tp_8_le v _ (tp_8_le u (t, A 2) c1))
  have hq2 : SG q := by
    rw [hq]
    exact SG_24 u v w c5
  have x1 := C_feed (n := n) (s := s) (c := c) (I := I) (J := J) (A := A) (B := B) (R := R) (Q := Q) (d + 38) u v w t c2 c1
  have x2 := R_feed (n := n) (s := s) (c := c) (I := zu I 51 (zn q.1)) (J := J) (A := zu A 2 q.2) (B := B) (R := R) (Q := Q) (d + 38) u v w t (by rw [zu_ne _ _ _ _ (by omega)]; exact c3) c1
  rw [zu_ne _ _ _ _ (show 24 ≠ 2 by omega), c4, ← hq] at x2
  rw [← hq] at x1
  have z2 : n ≤ 100 + 20 * (K + 1) := by omega
  have z3 : s ≤ 100000 + 1000 * (K + 1) := s_up a3 (Nat.le_add_right _ _)
  refine ⟨V, a, p, f, q.1, n, s, c, zu (zu (zu I 51 (zn q.1)) 1150 0) 1152 (zn q.1), J, zu (zu A 2 q.2) 24 q.2, B, R, Q, o5, o6, o7, ⟨⟨a1, z2, z3⟩, ⟨b1, b2⟩, ⟨hq1, ?_, zu_eq _ _ _, ?_, ?_⟩, ⟨d1, ?_, ?_, ?_, ?_⟩, ⟨?_, ?_⟩, ?_, e4, e5⟩, ?_⟩
  · rw [zu_ne _ _ _ _ (by omega), zu_ne _ _ _ _ (by omega), zu_eq]
  · rw [zu_eq, zu_ne _ _ _ _ (by omega), zu_eq]
  · rw [zu_ne _ _ _ _ (by omega), zu_eq]
    exact hq2
  · rw [zu_ne _ _ _ _ (by omega), zu_ne _ _ _ _ (by omega), zu_ne _ _ _ _ (by omega)]; exact d2
  · rw [zu_ne _ _ _ _ (by omega), zu_ne _ _ _ _ (by omega), zu_ne _ _ _ _ (by omega)]; exact d3
  · rw [zu_ne _ _ _ _ (by omega), zu_ne _ _ _ _ (by omega), zu_ne _ _ _ _ (by omega)]; exact d4
  · rw [zu_ne _ _ _ _ (by omega), zu_ne _ _ _ _ (by omega), zu_ne _ _ _ _ (by omega)]; exact d5
  · rw [zu_ne _ _ _ _ (by omega), zu_ne _ _ _ _ (by omega)]; exact e1
  · rw [zu_ne _ _ _ _ (by omega), zu_ne _ _ _ _ (by omega), zu_ne _ _ _ _ (by omega), zu_ne _ _ _ _ (by omega)]; exact e2
  · rw [zu_ne _ _ _ _ (by omega), zu_ne _ _ _ _ (by omega), zu_ne _ _ _ _ (by omega), zu_ne _ _ _ _ (by omega), zu_ne _ _ _ _ (by omega), zu_ne _ _ _ _ (by omega)]; exact e3
  · rw [show (0 : Int32) = zn 0 from rfl] at x2 ⊢
    simp (disch := first | omega | exact zb_1 | exact zb_0 | exact zb_n1 | exact zb_n0) only [x305_172, x305_172N, x305_173, x305_173N, x305_174, x305_176, x305_177, x305_178, x305_179, x305_180, x305_182, x305_183, x305_183N, x305_184, x305_186, x305_187, x305_188, x305_189, x305_190, x305_193, x305_194, x305_195, x305_195N, x305_196, x305_198, x305_199, x305_200, x305_201, x305_202, x305_204, x305_205, x305_205N, x305_206, x305_208, x305_209, x305_210, x305_211, x305_212, x305_215, x305_216, x305_217, x305_217N, x305_218, x305_220, x305_221, x305_222, x305_223, x305_224, x305_226, x305_227, x305_227N, x305_228, x305_230, x305_232, x305_233, x305_234, x305_235, x305_238, x305_239, x305_240, x305_243, x305_243N, x305_244, x305_244N, x305_245, x305_247, x305_248, x305_249, x305_250, x305_251, x305_253, x305_254, x305_254N, x305_255, x305_257, x305_258, x305_259, x305_260, x305_261, x305_264, x305_265, x305_266, x305_266N, x305_267, x305_269, x305_270, x305_271, x305_272, x305_273, x305_275, x305_276, x305_276N, x305_277, x305_279, x305_280, x305_281, x305_282, x305_283, x305_286, x305_287, x305_288, x305_288N, x305_289, x305_291, x305_292, x305_293, x305_294, x305_295, x305_297, x305_298, x305_298N, x305_299, x305_301, x305_303, x305_304, x305_305, x305_306, x305_309, x305_310, x305_311, x305_314, mq_dl_int, mq_dl_ref, mq_dl_null, mq_dl_none, mc_some, Option.toList_some, Option.toList_none, List.cons_append, List.nil_append, zb_1, zb_0, ↓reduceIte, if_true, if_false, not_true_eq_false, not_false_eq_true, Bool.false_eq_true, z_10, z_01, eq_self, Bool.and_self, true_or, or_true, false_or, or_false, true_and, and_true, false_and, and_false, and_self, or_self, Nat.reduceLT, Nat.reduceEqDiff, Nat.reduceLeDiff, Nat.reduceAdd, Nat.reduceMul, Nat.reduceSub, zn_lit, zn_add, zn_mul, zn_sub, zn_addneg, zn_lt, zn_le, zn_eq, zn_clamp, zn_in, zn_long, ho_0, ho_23, sc_i hsc, sc_g hsc, ← hu, ← hv, ← hw, x1, x2]
theorem MK_RO {T : ZT} {o : Option ZT} {n' s' : Nat} {c' : Nat → mq_E} (h : GI K L xs V a p f t n s c I J A B R Q) (hK : K ≤ 600) (hV : V a = some T) (z0 : n ≤ n') (z1 : n' ≤ n + 20) (z2 : s' ≤ s + 1000) (far : ∀ x, n' ≤ x → c' x = c x) (hLS : ∀ e T, V e = some T → LV c' n' e T) {r1 : Option (Option (Option Value) × mq_H)} (hr : (o = none ∧ r1 = some (some (some (.int (-1))), hp n' s' c' I J A B R Q)) ∨ ∃ b T', o = some T' ∧ (V b = some T' ∨ (n ≤ b ∧ LV c' n' b T')) ∧ r1 = some (some (some (.int (zn T'.1))), hp n' s' c' (dI I p) J A B (zu R 804 (.ref b)) (dQ Q p a))) (r2 : mq_H → Option (Option (Option Value) × mq_H)) (h2 : ∀ I R Q, I 1162 = zn p → RO n' s' c' I J A B R Q p o (r2 (hp n' s' c' I J A B R Q))) : ∃ v I1 R1 Q1 V' a' p' f' I' A', GI (K + 1) L xs V' a' p' f' t n' s' c' I' J A' B R1 Q1 ∧ c' 1000000000 = .inl (5, L, .inl xs) ∧ r1 = some (some (some (.int v)), hp n' s' c' I1 J A B R1 Q1) ∧ r2 (hp n' s' c' I1 J A B R1 Q1) = some (some (some (.int v)), hp n' s' c' I' J A' B R1 Q1) := by
  have hsc := h.2.1.2
  have hn2 := h.1.2.1
  obtain ⟨_, g2, g3, g4, g5⟩ := h.2.2.2.1
  have hw := h.2.2.2.2.2.1
  have hB := h.2.2.2.2.2.2.1
  obtain ⟨t1, t2, t3, t4, t5⟩ := h.2.2.1
  have hsc' : c' 1000000000 = .inl (5, L, .inl xs) := by rw [far _ (by omega)]; exact hsc
  rcases hr with ⟨ho, hr⟩ | ⟨b, T', ho, hM, hr⟩
  · obtain ⟨I', A', hI', hA', hx⟩ := h2 I R Q g4
    rcases hx with ⟨_, x1, x2, x3, hx⟩ | ⟨T2, f2, ho2, _⟩
    · refine ⟨-1, I, R, Q, V, a, p, f, I', A', GI_keep1 h hK z0 z1 z2 far hLS (fun k hk => ?_) ?_ (Nat.le_refl _) ?_ ?_ (fun k hk => hA' k (by omega) (by omega)) x3 hB rfl, hsc', hr, hx⟩
      · rcases hk with hk | hk | hk | hk
        · exact hI' k (by omega) (by omega) (by omega) (by omega) (by omega)
        · exact hI' k (by omega) (by omega) (by omega) (by omega) (by omega)
        · rw [hk]; exact x1
        · rw [hk]; exact x2
      · rw [hI' 7 (by omega) (by omega) (by omega) (by omega) (by omega), hI' 1171 (by omega) (by omega) (by omega) (by omega) (by omega)]
        exact hw
      · rw [hI' 51 (by omega) (by omega) (by omega) (by omega) (by omega)]; exact t2
      · rw [hI' 1152 (by omega) (by omega) (by omega) (by omega) (by omega)]; exact t3
    · rw [ho] at ho2; cases ho2
  · have hdI : ∀ k, k ≠ 802 → k ≠ 803 → dI I p k = I k := fun k h1 h2 => by
      unfold dI
      rw [zu_ne _ _ _ _ h2, zu_ne _ _ _ _ h1]
    have hd2 : dI I p 802 = zn (dw p) := by
      unfold dI
      rw [zu_ne _ _ _ _ (by omega), zu_eq]
    have hd3 : dI I p 803 = zn 0 := by
      unfold dI
      rw [zu_eq]
    obtain ⟨I', A', hI', hA', hx⟩ := h2 (dI I p) (zu R 804 (.ref b)) (dQ Q p a) (by rw [hdI _ (by omega) (by omega)]; exact g4)
    rcases hx with ⟨ho2, _⟩ | ⟨T2, f2, ho2, x1, x2, x3, x4, x5, hx⟩
    · rw [ho] at ho2; cases ho2
    · rw [ho] at ho2
      cases ho2
      have hI2 : ∀ k, k = 7 ∨ k = 51 ∨ k = 1152 ∨ k = 1171 → I' k = I k := fun k hk => by
        rw [hI' k (by omega) (by omega) (by omega) (by omega) (by omega), hdI k (by omega) (by omega)]
      obtain ⟨V', hG⟩ := GI_done (n' := n') (s' := s') (c' := c') (I' := I') (J' := J) (A' := A') (B' := B) (R' := zu R 804 (.ref b)) (t' := t) (b := b) (T' := T') (g' := f2) h hK z0 z1 z2 far hLS hM (by rw [hI' 802 (by omega) (by omega) (by omega) (by omega) (by omega)]; exact hd2) (by rw [hI' 803 (by omega) (by omega) (by omega) (by omega) (by omega)]; exact hd3) x5 x4 (by rw [hI2 7 (by omega), hI2 1171 (by omega)]; exact hw) (Nat.le_refl _) (by rw [hI2 51 (by omega)]; exact t2) (by rw [hI2 1152 (by omega)]; exact t3) (fun k hk => hA' k (by omega) (by omega)) x1 x3 x2 hB (zu_eq _ _ _)
      exact ⟨zn T'.1, dI I p, zu R 804 (.ref b), dQ Q p a, V', b, dw p, 0, I', A', hG, hsc', hr, hx⟩
theorem K_wreath (h : GI K L xs V a p f t n s c I J A B R Q) (hK : K ≤ 600) (hi : i + 7 ≤ L) (hL : L ≤ 3584) : NX K L xs (d + 40) i (mz (d + 40) 305 843 [some (.ref 1000000000), some (.ref 0), some (.ref 23), some (.ref 45), some (.int (zn i)), o5, o6, o7] [] (hp n s c I J A B R Q)) := by
  obtain ⟨T, hV, hLV, hRT⟩ := GI_now h
  obtain ⟨hT, hW, han, b, bi, bj, bk, rs, gs, hc, hv, hrs, hgs⟩ := id hLV
  have hR := h.2.2.2.1.1
  have hsc := h.2.1.2
  have hn1 := h.1.1
  have hp12 : p ≤ 12 := by have := h.2.2.2.2.1.1.1; omega
  have hM := h.2.2.2.2.1.2
  by_cases qm : xs (i + 1) < 0 ∨ 3 < xs (i + 1)
  · have hD := C_wreathN (n := n) (s := s) (c := c) (I := I) (J := J) (A := A) (B := B) (R := R) (Q := Q) (d + 33) (xs (i + 1)) qm
    obtain ⟨v, I1, R1, Q1, V', a', p', f', I', A', hG, hsc', e1, e2⟩ := MK_RO (o := none) h hK hV (Nat.le_refl _) (by omega) (by omega) (fun _ _ => rfl) h.2.2.2.2.2.2.2 (Or.inl ⟨rfl, hD⟩) (fun hh => mz (d + 39) 269 0 [some (.ref 23), some (.int (xs (i + 1))), none, none, none, none, none, none, none, none, none, none] [] hh) (fun I R Q hI => R_wreathN (n := n) (s := s) (c := c) (J := J) (A := A) (B := B) (R := R) (Q := Q) I (d + 30) p (xs (i + 1)) qm)
    refine ⟨V', a', p', f', t, n, s, c, I', J, A', B, R1, Q1, o5, o6, o7, hG, ?_⟩
    simp (disch := first | omega | exact zb_1 | exact zb_0 | exact zb_n1 | exact zb_n0) only [x305_843, x305_843N, x305_844, x305_844N, x305_845, x305_847, x305_848, x305_849, x305_850, x305_853, x305_853N, x305_854, x305_854N, x305_855, x305_857, x305_858, x305_859, x305_860, x305_863, mq_dl_int, mq_dl_ref, mq_dl_null, mq_dl_none, mc_some, Option.toList_some, Option.toList_none, List.cons_append, List.nil_append, zb_1, zb_0, ↓reduceIte, if_true, if_false, not_true_eq_false, not_false_eq_true, Bool.false_eq_true, z_10, z_01, eq_self, Bool.and_self, true_or, or_true, false_or, or_false, true_and, and_true, false_and, and_false, and_self, or_self, Nat.reduceLT, Nat.reduceEqDiff, Nat.reduceLeDiff, Nat.reduceAdd, Nat.reduceMul, Nat.reduceSub, zn_lit, zn_add, zn_mul, zn_sub, zn_addneg, zn_lt, zn_le, zn_eq, zn_clamp, zn_in, zn_long, ho_0, ho_23, sc_i hsc, sc_g hsc, e1, e2]
  · obtain ⟨m, hm, _, hm4⟩ := zn_of_lt (xs (i + 1)) 0 3 (by omega) (by omega) (fun hh => qm (Or.inl hh)) (fun hh => qm (Or.inr hh))
    have hm3 : m < 4 := by omega
    rcases hM m hm3 with ⟨m1, m2⟩ | ⟨⟨e, U, m1, m2, m3⟩, m4⟩
    · have hD := C_wreath0 (n := n) (s := s) (c := c) (I := I) (J := J) (A := A) (B := B) (R := R) (Q := Q) (d + 33) m hm3 m1
      obtain ⟨v, I1, R1, Q1, V', a', p', f', I', A', hG, hsc', e1, e2⟩ := MK_RO (o := none) h hK hV (Nat.le_refl _) (by omega) (by omega) (fun _ _ => rfl) h.2.2.2.2.2.2.2 (Or.inl ⟨rfl, hD⟩) (fun hh => mz (d + 39) 269 0 [some (.ref 23), some (.int (zn m)), none, none, none, none, none, none, none, none, none, none] [] hh) (fun I R Q hI => R_wreath0 (n := n) (s := s) (c := c) (J := J) (A := A) (B := B) (R := R) (Q := Q) I (d + 30) p m hm3 m2)
      refine ⟨V', a', p', f', t, n, s, c, I', J, A', B, R1, Q1, o5, o6, o7, hG, ?_⟩
      simp (disch := first | omega | exact zb_1 | exact zb_0 | exact zb_n1 | exact zb_n0) only [x305_843, x305_843N, x305_844, x305_844N, x305_845, x305_847, x305_848, x305_849, x305_850, x305_853, x305_853N, x305_854, x305_854N, x305_855, x305_857, x305_858, x305_859, x305_860, x305_863, mq_dl_int, mq_dl_ref, mq_dl_null, mq_dl_none, mc_some, Option.toList_some, Option.toList_none, List.cons_append, List.nil_append, zb_1, zb_0, ↓reduceIte, if_true, if_false, not_true_eq_false, not_false_eq_true, Bool.false_eq_true, z_10, z_01, eq_self, Bool.and_self, true_or, or_true, false_or, or_false, true_and, and_true, false_and, and_false, and_self, or_self, Nat.reduceLT, Nat.reduceEqDiff, Nat.reduceLeDiff, Nat.reduceAdd, Nat.reduceMul, Nat.reduceSub, zn_lit, zn_add, zn_mul, zn_sub, zn_addneg, zn_lt, zn_le, zn_eq, zn_clamp, zn_in, zn_long, ho_0, ho_23, sc_i hsc, sc_g hsc, hm, e1, e2]
    · have hLU := h.2.2.2.2.2.2.2 e U m2
      obtain ⟨y, yi, yj, yk, rs2, gs2, hc2, hv2, _, _⟩ := hLU.2.2.2
      obtain ⟨n', s', c', hJ, hD⟩ := C_wreath (n := n) (s := s) (c := c) (I := I) (J := J) (A := A) (B := B) (R := R) (Q := Q) hT hLU.1 hW hLU.2.1 (fun q => by subst q; rw [hV] at m2; cases m2; rfl) ⟨b, bi, bj, bk, rs, gs, hc, hv⟩ ⟨y, yi, yj, yk, rs2, gs2, hc2, hv2⟩ hn1 han hLU.2.2.1 hR p hp12 h.2.2.2.1.2.1 (HI_q h.2.2.2.2.2.2.2 h.2.2.2.2.1.1) (d + 33) m hm3 m1
      have hLS := CJ_LV h.2.2.2.2.2.2.2 hV m2 hJ
      have z0 := hJ.1
      have z1 := hJ.2.1
      have z2 := hJ.2.2.2.1
      have hen := hLU.2.2.1
      obtain ⟨v, I1, R1, Q1, V', a', p', f', I', A', hG, hsc', e1, e2⟩ := MK_RO (o := wrX T U) (r1 := mz (d + 33 + 6) 162 0 [some (.ref 0), some (.int (zn m)), none] [] (hp n s c I J A B R Q)) h hK hV z0 (by omega) (by omega) (fun x hx => hJ.2.2.2.2.1 x (Or.inr hx) (by omega) (by omega)) hLS (by
        rcases hD with ⟨q1, q2⟩ | ⟨T', q1, q2, q3, q4, q5⟩
        · exact Or.inl ⟨q1, q2⟩
        · exact Or.inr ⟨n, T', q1, Or.inr ⟨Nat.le_refl _, LV_new q2 (wrX_WT hW hLU.2.1 q1) q3 q4⟩, q5⟩) (fun hh => mz (d + 39) 269 0 [some (.ref 23), some (.int (zn m)), none, none, none, none, none, none, none, none, none, none] [] hh) (fun I R Q hI => R_wreath (n := n') (s := s') (c := c') (J := J) (A := A) (B := B) (R := R) (Q := Q) hRT hW hLU.2.1 I (d + 30) p m hm3 m4 m3 hp12 hI)
      refine ⟨V', a', p', f', t, n', s', c', I', J, A', B, R1, Q1, o5, o6, o7, hG, ?_⟩
      simp (disch := first | omega | exact zb_1 | exact zb_0 | exact zb_n1 | exact zb_n0) only [x305_843, x305_843N, x305_844, x305_844N, x305_845, x305_847, x305_848, x305_849, x305_850, x305_853, x305_853N, x305_854, x305_854N, x305_855, x305_857, x305_858, x305_859, x305_860, x305_863, mq_dl_int, mq_dl_ref, mq_dl_null, mq_dl_none, mc_some, Option.toList_some, Option.toList_none, List.cons_append, List.nil_append, zb_1, zb_0, ↓reduceIte, if_true, if_false, not_true_eq_false, not_false_eq_true, Bool.false_eq_true, z_10, z_01, eq_self, Bool.and_self, true_or, or_true, false_or, or_false, true_and, and_true, false_and, and_false, and_self, or_self, Nat.reduceLT, Nat.reduceEqDiff, Nat.reduceLeDiff, Nat.reduceAdd, Nat.reduceMul, Nat.reduceSub, zn_lit, zn_add, zn_mul, zn_sub, zn_addneg, zn_lt, zn_le, zn_eq, zn_clamp, zn_in, zn_long, ho_0, ho_23, sc_i hsc, sc_g hsc, sc_i hsc', sc_g hsc', hm, e1, e2]
end LAWG
