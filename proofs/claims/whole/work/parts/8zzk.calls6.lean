/-! THE LAW'S CALLS: table and scheme -/
theorem LV_ext {c c' : Nat → mq_E} {n n' a : Nat} {T : ZT} (hn : n ≤ n') (he : ∀ x, x < n → c' x = c x) (h : LV c n a T) : LV c' n' a T := by
  obtain ⟨k1, k2, k3, b, bi, bj, bk, rs, gs, k4, k5, k6, k7⟩ := h
  refine ⟨TB_eq (fun x _ h2 => he x (by omega)) k1, k2, by omega, b, bi, bj, bk, rs, gs, by rw [he a (by omega)]; exact k4, k5, ?_, ?_⟩
  · rcases k6 with e | ⟨g, e, hgn, hR⟩
    · exact Or.inl e
    · exact Or.inr ⟨g, e, Nat.lt_of_lt_of_le hgn hn, RSV_eq (fun x _ h2 => he x (Nat.lt_of_le_of_lt h2 hgn)) hR⟩
  · rcases k7 with e | ⟨g, e, hgn, hR⟩
    · exact Or.inl e
    · exact Or.inr ⟨g, e, Nat.lt_of_lt_of_le hgn hn, GV_eq (fun x _ h2 => he x (Nat.lt_of_le_of_lt h2 hgn)) hR⟩
theorem SG_tp {t : Nat} {g : Nat → Int32} (h : ∀ i, i < t → ∃ k, k < 128 ∧ g i = zn k) : ∃ tp : Nat → Nat, (∀ i, i < t → g i = zn (tp i)) ∧ ∀ i, tp i < 128 := by
  refine ⟨fun i => if i < t then (g i).toNatClampNeg else 0, fun i hi => ?_, fun i => ?_⟩
  · obtain ⟨k, h1, h2⟩ := h i hi
    simp only [hi, if_true]
    rw [h2, zn_clamp k (by omega)]
  · by_cases q : i < t
    · obtain ⟨k, h1, h2⟩ := h i q
      simp only [q, if_true]
      rw [h2, zn_clamp k (by omega)]
      exact h1
    · simp only [q, if_false]
      omega
section LAWH
variable {n s : Nat} {c : Nat → mq_E} {I : Nat → Int32} {J : Nat → Int64} {A : Nat → Nat → Int32} {B : Nat → Nat → Int64} {R : Nat → Value} {Q : Nat → Nat → Option Nat}
variable {K L i d : Nat} {xs : Nat → Int32} {V : VT} {a p f t : Nat} {o5 o6 o7 : Option Value}
theorem K_table (h : GI K L xs V a p f t n s c I J A B R Q) (hK : K ≤ 600) (hi : i + 7 ≤ L) (hL : L ≤ 3584) : NX K L xs (d + 40) i (mz (d + 40) 305 319 [some (.ref 1000000000), some (.ref 0), some (.ref 23), some (.ref 45), some (.int (zn i)), o5, o6, o7] [] (hp n s c I J A B R Q)) := by
  obtain ⟨g1, g2, g3, g4, g5⟩ := h.2.2.2.1
  obtain ⟨t1, t2, t3, t4, t5⟩ := h.2.2.1
  have hp12 : p ≤ 12 := by have := h.2.2.2.2.1.1.1; omega
  have hn1 := h.1.1
  have hn2 := h.1.2.1
  have hw := h.2.2.2.2.2.1
  have hB := h.2.2.2.2.2.2.1
  obtain ⟨T, hV, hLV, hRT⟩ := GI_now h
  have han := hLV.2.2.1
  obtain ⟨tp, u1, u2⟩ := SG_tp t5
  obtain ⟨n', s', c', I', A', z0, z1, z2, z3, hc, hI, hA, hr⟩ := C_table (a := a) (n := n) (s := s) (c := c) (I := I) (J := J) (A := A) (B := B) (R := R) (Q := Q) ⟨t1, t2, u1, u2⟩ h.2.1.1 hn1 (by omega) p hp12 g2 g1 (tb_isT hLV.1) (by omega) (HI_q h.2.2.2.2.2.2.2 h.2.2.2.2.1.1) (d + 30)
  have hLS : ∀ e T, V e = some T → LV c' n' e T := fun e T he => LV_ext z0 (fun x hx => hc x (Or.inl hx)) (h.2.2.2.2.2.2.2 e T he)
  have far : ∀ x, n' ≤ x → c' x = c x := fun x hx => hc x (Or.inr hx)
  have htl : ∀ q, q < 36 → zfl (fun _ => zn 0) (A 4) 0 36 q = zn 0 := fun q hq => zfl_in _ _ _ _ _ (by omega) (by omega)
  rcases hr with ⟨r1, r2⟩ | ⟨r1, r2, r3, r4, r5, r6⟩
  · obtain ⟨I2, A2, B2, f1', f2, f3, f4, hx⟩ := R_table (n := n') (s := s') (c := c') (I := I') (J := J) (A := A') (B := B) (R := R) (Q := Q) t1 (by rw [hI.2 1152 (by omega) (by omega) (by omega) (by omega) (by omega) (by omega)]; exact t3) (fun i hi => by rw [hA 24 (by omega), t4]; exact u1 i hi) u2 hB p hp12 (by rw [hI.2 1162 (by omega) (by omega) (by omega) (by omega) (by omega) (by omega)]; exact g4) (zfl (fun _ => zn 0) (A 4) 0 36) htl (d + 34)
    have hII : ∀ k, k = 7 ∨ k = 802 ∨ k = 803 ∨ k = 1171 → I2 k = I k := fun k hk => by
      rw [f1' k (by omega) (by omega) (by omega) (by omega) (by omega) (by omega) (by omega), hI.2 k (by omega) (by omega) (by omega) (by omega) (by omega) (by omega)]
    rcases hx with ⟨x1, x2, x3, x4, x5⟩ | ⟨x1, _⟩
    · refine ⟨V, a, p, f, 0, n', s', c', I2, J, A2, B2, R, Q, o5, o6, o7, GI_keep1 h hK z0 (by omega) (by omega) far hLS (fun k hk => ?_) (by rw [hII 7 (by omega), hII 1171 (by omega)]; exact hw) (Nat.zero_le _) (by rw [f1' 51 (by omega) (by omega) (by omega) (by omega) (by omega) (by omega) (by omega)]; exact hI.1) f2 (fun k hk => by rw [f3 k (by omega) (by omega) (by omega) (by omega), hA k (by omega)]) (by rw [hA 29 (by omega)] at x4; exact x4) (fun w hw => by rw [f4 28 (by omega)]; exact hB w hw) rfl, ?_⟩
      · rcases hk with hk | hk | hk | hk
        · exact hII k (by omega)
        · exact hII k (by omega)
        · rw [hk, x2, hI.2 1161 (by omega) (by omega) (by omega) (by omega) (by omega) (by omega)]
        · rw [hk, x3, hI.2 1162 (by omega) (by omega) (by omega) (by omega) (by omega) (by omega)]
      · simp (disch := first | omega | exact zb_1 | exact zb_0 | exact zb_n1 | exact zb_n0) only [x305_319, x305_319N, x305_320, x305_323, x305_323N, x305_324, x305_327, mq_dl_int, mq_dl_ref, mq_dl_null, mq_dl_none, mc_some, Option.toList_some, Option.toList_none, List.cons_append, List.nil_append, zb_1, zb_0, ↓reduceIte, if_true, if_false, not_true_eq_false, not_false_eq_true, Bool.false_eq_true, z_10, z_01, eq_self, Bool.and_self, true_or, or_true, false_or, or_false, true_and, and_true, false_and, and_false, and_self, or_self, ho_0, ho_23, r2, x5]
    · exact absurd x1 r1
  · have hdI : ∀ k, k ≠ 802 → k ≠ 803 → dI I' p k = I' k := fun k h1 h2 => by
      unfold dI
      rw [zu_ne _ _ _ _ h2, zu_ne _ _ _ _ h1]
    have hd2 : dI I' p 802 = zn (dw p) := by
      unfold dI
      rw [zu_ne _ _ _ _ (by omega), zu_eq]
    have hd3 : dI I' p 803 = zn 0 := by
      unfold dI
      rw [zu_eq]
    obtain ⟨I2, A2, B2, f1', f2, f3, f4, hx⟩ := R_table (n := n') (s := s') (c := c') (I := dI I' p) (J := J) (A := A') (B := B) (R := zu R 804 (.ref n)) (Q := dQ Q p a) t1 (by rw [hdI 1152 (by omega) (by omega), hI.2 1152 (by omega) (by omega) (by omega) (by omega) (by omega) (by omega)]; exact t3) (fun i hi => by rw [hA 24 (by omega), t4]; exact u1 i hi) u2 hB p hp12 (by rw [hdI 1162 (by omega) (by omega), hI.2 1162 (by omega) (by omega) (by omega) (by omega) (by omega) (by omega)]; exact g4) (zfl (fun _ => zn 0) (A 4) 0 36) htl (d + 34)
    have hII : ∀ k, k = 7 ∨ k = 1171 → I2 k = I k := fun k hk => by
      rw [f1' k (by omega) (by omega) (by omega) (by omega) (by omega) (by omega) (by omega), hdI k (by omega) (by omega), hI.2 k (by omega) (by omega) (by omega) (by omega) (by omega) (by omega)]
    rcases hx with ⟨x1, _⟩ | ⟨x1, x2, g', x3, x4, x5, x6, x7, x8⟩
    · exact absurd r1 x1
    · rw [hA 29 (by omega)] at x3
      obtain ⟨V', hG⟩ := GI_done (n' := n') (s' := s') (c' := c') (I' := I2) (J' := J) (A' := A2) (B' := B2) (R' := zu R 804 (.ref n)) (t' := 0) (b := n) (T' := tbT t tp (zfl (fun _ => zn 0) (A 4) 0 36)) (g' := g') h hK z0 (by omega) (by omega) far hLS (Or.inr ⟨Nat.le_refl _, LV_new r3 (tbT_WT r2) r5 r4⟩) (by rw [f1' 802 (by omega) (by omega) (by omega) (by omega) (by omega) (by omega) (by omega)]; exact hd2) (by rw [f1' 803 (by omega) (by omega) (by omega) (by omega) (by omega) (by omega) (by omega)]; exact hd3) x7 x6 (by rw [hII 7 (by omega), hII 1171 (by omega)]; exact hw) (Nat.zero_le _) (by rw [f1' 51 (by omega) (by omega) (by omega) (by omega) (by omega) (by omega) (by omega), hdI 51 (by omega) (by omega)]; exact hI.1) f2 (fun k hk => by rw [f3 k (by omega) (by omega) (by omega) (by omega), hA k (by omega)]) x3 x5 x4 (fun w hw => by rw [f4 28 (by omega)]; exact hB w hw) (zu_eq _ _ _)
      refine ⟨V', n, dw p, 0, 0, n', s', c', I2, J, A2, B2, _, _, o5, o6, o7, hG, ?_⟩
      simp (disch := first | omega | exact zb_1 | exact zb_0 | exact zb_n1 | exact zb_n0) only [x305_319, x305_319N, x305_320, x305_323, x305_323N, x305_324, x305_327, mq_dl_int, mq_dl_ref, mq_dl_null, mq_dl_none, mc_some, Option.toList_some, Option.toList_none, List.cons_append, List.nil_append, zb_1, zb_0, ↓reduceIte, if_true, if_false, not_true_eq_false, not_false_eq_true, Bool.false_eq_true, z_10, z_01, eq_self, Bool.and_self, true_or, or_true, false_or, or_false, true_and, and_true, false_and, and_false, and_self, or_self, ho_0, ho_23, r6, x8]
theorem K_scheme (h : GI K L xs V a p f t n s c I J A B R Q) (hK : K ≤ 600) (hi : i + 7 ≤ L) (hL : L ≤ 3584) : NX K L xs (d + 40) i (mz (d + 40) 305 332 [some (.ref 1000000000), some (.ref 0), some (.ref 23), some (.ref 45), some (.int (zn i)), o5, o6, o7] [] (hp n s c I J A B R Q)) := by
  obtain ⟨g1, g2, g3, g4, g5⟩ := h.2.2.2.1
  obtain ⟨t1, t2, t3, t4, t5⟩ := h.2.2.1
  have hp12 : p ≤ 12 := by have := h.2.2.2.2.1.1.1; omega
  have hn1 := h.1.1
  have hn2 := h.1.2.1
  have hw := h.2.2.2.2.2.1
  have hB := h.2.2.2.2.2.2.1
  obtain ⟨T, hV, hLV, hRT⟩ := GI_now h
  have han := hLV.2.2.1
  obtain ⟨tp, u1, u2⟩ := SG_tp t5
  by_cases hf : (scX t tp (A 7) (A 8)).2 = 0
  · obtain ⟨_, A0, B0, N, _, _, hRTK, _, _, _, _⟩ := R_sread (n := n) (s := s) (c := c) (I := I) (J := J) (A := A) (B := B) (R := R) (Q := Q) t1 t3 (fun i hi => by rw [t4]; exact u1 i hi) u2 hB (A 7) (A 8) d
    obtain ⟨l, l1, l2, l3⟩ := sc_code t1 hRTK (scX_fine hf).1
    obtain ⟨pp, hpp⟩ : ∃ pp, pp = scp t tp := ⟨_, rfl⟩
    obtain ⟨VV, hVV⟩ : ∃ VV : Nat → Nat → Int32, VV = fun x y => fval l x y pp := ⟨_, rfl⟩
    obtain ⟨kk, hkk⟩ : ∃ kk : Nat → Nat → Nat, kk = fun x y => (VV x y).toNatClampNeg := ⟨_, rfl⟩
    have hVV2 : ∀ x y, VV x y = fval l x y pp := fun x y => by rw [hVV]
    have hkk2 : ∀ x y, kk x y = (VV x y).toNatClampNeg := fun x y => by rw [hkk]
    obtain ⟨w, n', s', c', I', A', R', w1, z0, z1, z2, z3, hc, hI, hA, hR', hr⟩ := C_schemeT (a := a) (n := n) (s := s) (c := c) (I := I) (J := J) (A := A) (B := B) (R := R) (Q := Q) ⟨t1, t2, u1, u2⟩ h.2.1.1 hn1 (by omega) p hp12 g2 g1 (tb_isT hLV.1) (by omega) (HI_q h.2.2.2.2.2.2.2 h.2.2.2.2.1.1) (d + 2) hf l l1 l2 l3 pp hpp VV kk hVV2 hkk2
    have hLS : ∀ e T, V e = some T → LV c' n' e T := fun e T he => LV_ext z0 (fun x hx => hc x (Or.inl hx)) (h.2.2.2.2.2.2.2 e T he)
    have far : ∀ x, n' ≤ x → c' x = c x := fun x hx => hc x (Or.inr hx)
    rcases hr with ⟨r1, r2⟩ | ⟨r1, m, T', r2, r3, r4, r5, r6, r7, r8, r9⟩
    · obtain ⟨w2, I2, A2, B2, v1, f1', f2, f5, f3, f4, hx⟩ := R_schemeT (n := n') (s := s') (c := c') (I := zu I' 7 (zn w)) (J := J) (A := A') (B := B) (R := R') (Q := Q) t1 (by rw [zu_ne _ _ _ _ (by omega), hI.2 1152 (by omega) (by omega) (by omega) (by omega) (by omega) (by omega)]; exact t3) (fun i hi => by rw [hA 24 (by omega) (by omega) (by omega) (by omega) (by omega) (by omega), t4]; exact u1 i hi) u2 hB (A 7) (A 8) p hp12 (by rw [zu_ne _ _ _ _ (by omega), hI.2 1162 (by omega) (by omega) (by omega) (by omega) (by omega) (by omega)]; exact g4) (d + 7) hf l l1 l2 l3 pp hpp VV kk hVV2 hkk2
      have ew := WHY_u v1 w1
      subst ew
      rcases hx with ⟨x1, x2, x3, x4, x5⟩ | ⟨x1, _⟩
      · refine ⟨V, a, p, f, 0, n', s', c', I2, J, A2, B2, R', Q, o5, o6, o7, GI_keep1 h hK z0 (by omega) (by omega) far hLS (fun k hk => ?_) (by rw [f5, f1' 7 (by omega) (by omega) (by omega) (by omega) (by omega) (by omega) (by omega) (by omega) (by omega) (by omega), zu_eq]) (Nat.zero_le _) (by rw [f1' 51 (by omega) (by omega) (by omega) (by omega) (by omega) (by omega) (by omega) (by omega) (by omega) (by omega), zu_ne _ _ _ _ (by omega)]; exact hI.1) f2 (fun k hk => by rw [f3 k (by omega) (by omega) (by omega) (by omega) (by omega) (by omega) (by omega) (by omega), hA k (by omega) (by omega) (by omega) (by omega) (by omega) (by omega)]) (by rw [hA 29 (by omega) (by omega) (by omega) (by omega) (by omega) (by omega)] at x4; exact x4) (fun w hw => by rw [f4 28 (by omega)]; exact hB w hw) (hR' 804 (by omega)), ?_⟩
        · rcases hk with hk | hk | hk | hk
          · rw [f1' k (by omega) (by omega) (by omega) (by omega) (by omega) (by omega) (by omega) (by omega) (by omega) (by omega), zu_ne _ _ _ _ (by omega), hI.2 k (by omega) (by omega) (by omega) (by omega) (by omega) (by omega)]
          · rw [f1' k (by omega) (by omega) (by omega) (by omega) (by omega) (by omega) (by omega) (by omega) (by omega) (by omega), zu_ne _ _ _ _ (by omega), hI.2 k (by omega) (by omega) (by omega) (by omega) (by omega) (by omega)]
          · rw [hk, x2, zu_ne _ _ _ _ (by omega), hI.2 1161 (by omega) (by omega) (by omega) (by omega) (by omega) (by omega)]
          · rw [hk, x3, zu_ne _ _ _ _ (by omega), hI.2 1162 (by omega) (by omega) (by omega) (by omega) (by omega) (by omega)]
        · simp (disch := first | omega | exact zb_1 | exact zb_0 | exact zb_n1 | exact zb_n0) only [x305_332, x305_332N, x305_333, x305_336, x305_336N, x305_337, x305_340, mq_dl_int, mq_dl_ref, mq_dl_null, mq_dl_none, mc_some, Option.toList_some, Option.toList_none, List.cons_append, List.nil_append, zb_1, zb_0, ↓reduceIte, if_true, if_false, not_true_eq_false, not_false_eq_true, Bool.false_eq_true, z_10, z_01, eq_self, Bool.and_self, true_or, or_true, false_or, or_false, true_and, and_true, false_and, and_false, and_self, or_self, ho_0, ho_23, r2, x5]
      · exact absurd x1 r1
    · have hdI : ∀ k, k ≠ 802 → k ≠ 803 → dI (zu I' 7 (zn 0)) p k = zu I' 7 (zn 0) k := fun k h1 h2 => by
        unfold dI
        rw [zu_ne _ _ _ _ h2, zu_ne _ _ _ _ h1]
      have hd2 : dI (zu I' 7 (zn 0)) p 802 = zn (dw p) := by
        unfold dI
        rw [zu_ne _ _ _ _ (by omega), zu_eq]
      have hd3 : dI (zu I' 7 (zn 0)) p 803 = zn 0 := by
        unfold dI
        rw [zu_eq]
      obtain ⟨w2, I2, A2, B2, v1, f1', f2, f5, f3, f4, hx⟩ := R_schemeT (n := n') (s := s') (c := c') (I := dI (zu I' 7 (zn 0)) p) (J := J) (A := A') (B := B) (R := zu R' 804 (.ref n)) (Q := dQ Q p a) t1 (by rw [hdI 1152 (by omega) (by omega), zu_ne _ _ _ _ (by omega), hI.2 1152 (by omega) (by omega) (by omega) (by omega) (by omega) (by omega)]; exact t3) (fun i hi => by rw [hA 24 (by omega) (by omega) (by omega) (by omega) (by omega) (by omega), t4]; exact u1 i hi) u2 hB (A 7) (A 8) p hp12 (by rw [hdI 1162 (by omega) (by omega), zu_ne _ _ _ _ (by omega), hI.2 1162 (by omega) (by omega) (by omega) (by omega) (by omega) (by omega)]; exact g4) (d + 7) hf l l1 l2 l3 pp hpp VV kk hVV2 hkk2
      have ew := WHY_u v1 w1
      subst ew
      rcases hx with ⟨x1, _⟩ | ⟨x1, ⟨g', x3, x4, x5⟩, x6, x7, x8⟩
      · exact absurd r1 x1
      · rw [hA 29 (by omega) (by omega) (by omega) (by omega) (by omega) (by omega)] at x3
        obtain ⟨V', hG⟩ := GI_done (n' := n') (s' := s') (c' := c') (I' := I2) (J' := J) (A' := A2) (B' := B2) (R' := zu R' 804 (.ref n)) (t' := 0) (b := n) (T' := T') (g' := g') h hK z0 (by omega) (by omega) far hLS (Or.inr ⟨Nat.le_refl _, LV_new r6 r5 r8 r7⟩) (by rw [f1' 802 (by omega) (by omega) (by omega) (by omega) (by omega) (by omega) (by omega) (by omega) (by omega) (by omega)]; exact hd2) (by rw [f1' 803 (by omega) (by omega) (by omega) (by omega) (by omega) (by omega) (by omega) (by omega) (by omega) (by omega)]; exact hd3) x7 x6 (by rw [f5, f1' 7 (by omega) (by omega) (by omega) (by omega) (by omega) (by omega) (by omega) (by omega) (by omega) (by omega), hdI 7 (by omega) (by omega), zu_eq, x1]) (Nat.zero_le _) (by rw [f1' 51 (by omega) (by omega) (by omega) (by omega) (by omega) (by omega) (by omega) (by omega) (by omega) (by omega), hdI 51 (by omega) (by omega), zu_ne _ _ _ _ (by omega)]; exact hI.1) f2 (fun k hk => by rw [f3 k (by omega) (by omega) (by omega) (by omega) (by omega) (by omega) (by omega) (by omega), hA k (by omega) (by omega) (by omega) (by omega) (by omega) (by omega)]) x3 x5 (x4 m T' r3 r4) (fun w hw => by rw [f4 28 (by omega)]; exact hB w hw) (zu_eq _ _ _)
        refine ⟨V', n, dw p, 0, 0, n', s', c', I2, J, A2, B2, _, _, o5, o6, o7, hG, ?_⟩
        simp (disch := first | omega | exact zb_1 | exact zb_0 | exact zb_n1 | exact zb_n0) only [x305_332, x305_332N, x305_333, x305_336, x305_336N, x305_337, x305_340, mq_dl_int, mq_dl_ref, mq_dl_null, mq_dl_none, mc_some, Option.toList_some, Option.toList_none, List.cons_append, List.nil_append, zb_1, zb_0, ↓reduceIte, if_true, if_false, not_true_eq_false, not_false_eq_true, Bool.false_eq_true, z_10, z_01, eq_self, Bool.and_self, true_or, or_true, false_or, or_false, true_and, and_true, false_and, and_false, and_self, or_self, ho_0, ho_23, r9, x8]
  · obtain ⟨I', A', hI, hA, r2⟩ := C_schemeF (n := n) (s := s) (c := c) (I := I) (J := J) (A := A) (B := B) (R := R) (Q := Q) ⟨t1, t2, u1, u2⟩ h.2.1.1 (d + 2) hf
    obtain ⟨I2, A2, B2, f1', f2, f3, f4, x5⟩ := R_schemeF (n := n) (s := s) (c := c) (I := I') (J := J) (A := A') (B := B) (R := R) (Q := Q) t1 (by rw [hI.2 1152 (by omega) (by omega) (by omega) (by omega) (by omega) (by omega)]; exact t3) (fun i hi => by rw [hA 24 (by omega) (by omega), t4]; exact u1 i hi) u2 hB (A 7) (A 8) (d + 7) hf
    have hII : ∀ k, k = 7 ∨ k = 802 ∨ k = 803 ∨ k = 1161 ∨ k = 1162 ∨ k = 1171 → I2 k = I k := fun k hk => by
      rw [f1' k (by omega) (by omega) (by omega) (by omega) (by omega) (by omega) (by omega), hI.2 k (by omega) (by omega) (by omega) (by omega) (by omega) (by omega)]
    refine ⟨V, a, p, f, 0, n, s, c, I2, J, A2, B2, R, Q, o5, o6, o7, GI_keep1 h hK (Nat.le_refl _) (by omega) (by omega) (fun _ _ => rfl) h.2.2.2.2.2.2.2 (fun k hk => hII k (by omega)) (by rw [hII 7 (by omega), hII 1171 (by omega)]; exact hw) (Nat.zero_le _) (by rw [f1' 51 (by omega) (by omega) (by omega) (by omega) (by omega) (by omega) (by omega)]; exact hI.1) f2 (fun k hk => by rw [f3 k (by omega) (by omega) (by omega) (by omega), hA k (by omega) (by omega)]) (by rw [f3 29 (by omega) (by omega) (by omega) (by omega), hA 29 (by omega) (by omega)]; exact f1_refl _) (fun w hw => by rw [f4 28 (by omega)]; exact hB w hw) rfl, ?_⟩
    simp (disch := first | omega | exact zb_1 | exact zb_0 | exact zb_n1 | exact zb_n0) only [x305_332, x305_332N, x305_333, x305_336, x305_336N, x305_337, x305_340, mq_dl_int, mq_dl_ref, mq_dl_null, mq_dl_none, mc_some, Option.toList_some, Option.toList_none, List.cons_append, List.nil_append, zb_1, zb_0, ↓reduceIte, if_true, if_false, not_true_eq_false, not_false_eq_true, Bool.false_eq_true, z_10, z_01, eq_self, Bool.and_self, true_or, or_true, false_or, or_false, true_and, and_true, false_and, and_false, and_self, or_self, ho_0, ho_23, r2, x5]
end LAWH
