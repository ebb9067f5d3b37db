/-! THE LAW'S CALLS: undo, again, mark, wreath -/
theorem GI_hist {K L : Nat} {xs : Nat → Int32} {V : VT} {a p f t n s : Nat} {c : Nat → mq_E} {I I' : Nat → Int32} {J J' : Nat → Int64} {A A' : Nat → Nat → Int32} {B : Nat → Nat → Int64} {R R' : Nat → Value} {Q Q' : Nat → Nat → Option Nat} {a' p' f' : Nat} (h : GI K L xs V a p f t n s c I J A B R Q) (hI : ∀ k, k = 7 ∨ k = 51 ∨ k = 1152 ∨ k = 1171 → I' k = I k) (h802 : I' 802 = zn p') (h803 : I' 803 = zn f') (h1162 : I' 1162 = zn p') (h1161 : I' 1161 = zn (p' + f' + 1)) (hA : ∀ k, k = 2 ∨ k = 24 → A' k = A k) (hH : HI V a' p' f' Q' (A' 29)) (hM : MI V Q' (A' 44) (A' 29)) (hR : R' 804 = .ref a') : GI (K + 1) L xs V a' p' f' t n s c I' J' A' B R' Q' := by
  obtain ⟨⟨a1, a2, a3⟩, ⟨b1, b2⟩, ⟨c1, c2, c3, c4, c5⟩, ⟨d1, d2, d3, d4, d5⟩, ⟨e1, e2⟩, e3, e4, e5⟩ := h
  have z2 : n ≤ 100 + 20 * (K + 1) := by omega
  have z3 : s ≤ 100000 + 1000 * (K + 1) := s_up a3 (Nat.le_add_right _ _)
  exact ⟨⟨a1, z2, z3⟩, ⟨b1, b2⟩, ⟨c1, by rw [hI 51 (by omega)]; exact c2, by rw [hI 1152 (by omega)]; exact c3, by rw [hA 24 (by omega), hA 2 (by omega)]; exact c4, by rw [hA 2 (by omega)]; exact c5⟩, ⟨hR, h802, h803, h1162, h1161⟩, ⟨hH, hM⟩, by rw [hI 7 (by omega), hI 1171 (by omega)]; exact e3, e4, e5⟩
theorem JD_LV {c c' : Nat → mq_E} {n n' a : Nat} {T : ZT} {b bi bj bk b' bi' bj' bk' : Int32} {rs gs : Value} (h : LV c n a T) (hc : c a = tbo T.1 a b bi bj bk rs gs) (hF : ∀ x, x < n → x ≠ a → c' x = c x) (hn : n ≤ n') (hT : TB c' a T) (hc' : c' a = tbo T.1 a b' bi' bj' bk' rs gs) (hj : b' = -1 ∨ jd T b' bi' bj' bk') : LV c' n' a T ∧ FRM c c' n a .null .null := by
  have hF2 : FRM c c' n a .null .null := fun x h1 h2 _ _ => hF x h1 h2
  obtain ⟨k1, k2, k3, x1, x2, x3, x4, rs', gs', k4, k5, k6, k7⟩ := h
  rw [hc] at k4
  obtain ⟨_, _, _, _, e5, e6⟩ := tbo_inj k4
  subst e5 e6
  refine ⟨⟨hT, k2, by omega, b', bi', bj', bk', rs, gs, hc', hj, ?_, ?_⟩, hF2⟩
  · exact RsV_fr (gs := .null) k1 k6 (Or.inl rfl) hF2 hn
  · exact GsV_fr (rs := .null) k1 (Or.inl rfl) k7 hF2 hn
theorem CJ_LV {V : VT} {kn ks n s : Nat} {c : Nat → mq_E} {a o : Nat} {T U : ZT} {n' s' : Nat} {c' : Nat → mq_E} (hL : ∀ e T, V e = some T → LV c n e T) (ha : V a = some T) (hoV : V o = some U) (h : CJ kn ks n s c a o T U n' s' c') : ∀ e T, V e = some T → LV c' n' e T := by
  obtain ⟨h1, h2, h3, h4, h5, h6, h7, h8, h9⟩ := h
  have hLa := hL a T ha
  have hLo := hL o U hoV
  obtain ⟨b, bi, bj, bk, rs, gs, hc, hv, _, _⟩ := hLa.2.2.2
  obtain ⟨b', bi', bj', bk', hj', hc'⟩ := h6 b bi bj bk rs gs hc hv
  by_cases q : o = a
  · subst q
    obtain ⟨k1, k2⟩ := JD_LV hLa hc (fun x hx hxa => h5 x (Or.inl hx) hxa hxa) h1 h8 hc' hj'
    exact LVS_step hL ha (Or.inl rfl) (Or.inl rfl) k2 h1 k1
  · obtain ⟨k1, k2⟩ := LV_jd hLa hc hj'
    have hL1 := LVS_step hL ha (Or.inl rfl) (Or.inl rfl) k2 (Nat.le_refl _) k1
    have hLo1 := hL1 o U hoV
    obtain ⟨x, xi, xj, xk, rs2, gs2, hc2, hv2, _, _⟩ := hLo.2.2.2
    obtain ⟨x', xi', xj', xk', hj2, hc2'⟩ := h7 x xi xj xk rs2 gs2 hc2 hv2
    obtain ⟨m1, m2⟩ := JD_LV (c' := c') hLo1 (by rw [up_ne _ _ _ _ q]; exact hc2) (fun y hy hyo => by
      by_cases q2 : y = a
      · subst q2; rw [up_eq]; exact hc'
      · rw [up_ne _ _ _ _ q2]; exact h5 y (Or.inl hy) q2 hyo) h1 h9 hc2' hj2
    exact LVS_step hL1 hoV (Or.inl rfl) (Or.inl rfl) m2 h1 m1
section LAWF
variable {n s : Nat} {c : Nat → mq_E} {I : Nat → Int32} {J : Nat → Int64} {A : Nat → Nat → Int32} {B : Nat → Nat → Int64} {R : Nat → Value} {Q : Nat → Nat → Option Nat}
variable {K L i d : Nat} {xs : Nat → Int32} {V : VT} {a p f t : Nat} {o5 o6 o7 : Option Value}
theorem K_undo (h : GI K L xs V a p f t n s c I J A B R Q) (hK : K ≤ 600) (hi : i + 7 ≤ L) (hL : L ≤ 3584) : NX K L xs (d + 40) i (mz (d + 40) 305 1078 [some (.ref 1000000000), some (.ref 0), some (.ref 23), some (.ref 45), some (.int (zn i)), o5, o6, o7] [] (hp n s c I J A B R Q)) := by
  obtain ⟨g1, g2, g3, g4, g5⟩ := h.2.2.2.1
  obtain ⟨hH, hM⟩ := h.2.2.2.2.1
  have hV := LVS_VW h.2.2.2.2.2.2.2
  obtain ⟨T, hVa, hLV, hRT⟩ := GI_now h
  cases p with
  | zero =>
    have e1 := C_undo0 (n := n) (s := s) (c := c) (I := I) (J := J) (A := A) (B := B) (R := R) (Q := Q) (d + 38) g2
    have e2 := R_undo0 (n := n) (s := s) (c := c) (I := I) (J := J) (A := A) (B := B) (R := R) (Q := Q) (d + 38) g4
    refine ⟨V, a, 0, f, t, n, s, c, zu I 1150 0, J, A, B, R, Q, o5, o6, o7, GI_keep h hK (Nat.le_refl _) (by omega) (by omega) (fun _ _ => rfl) h.2.2.2.2.2.2.2 (fun k hk => zu_ne _ _ _ _ (by omega)) (fun _ _ => rfl) rfl rfl, ?_⟩
    simp (disch := first | omega | exact zb_1 | exact zb_0 | exact zb_n1 | exact zb_n0) only [x305_1078, x305_1078N, x305_1079, x305_1082, x305_1082N, x305_1083, x305_1086, mq_dl_int, mq_dl_ref, mq_dl_null, mq_dl_none, mc_some, Option.toList_some, Option.toList_none, List.cons_append, List.nil_append, zb_1, zb_0, ↓reduceIte, if_true, if_false, not_true_eq_false, not_false_eq_true, Bool.false_eq_true, z_10, z_01, eq_self, Bool.and_self, true_or, or_true, false_or, or_false, true_and, and_true, false_and, and_false, and_self, or_self, ho_0, ho_23, e1, e2]
  | succ p =>
    have hpf := hH.1
    obtain ⟨e, T', q1, q2, q3⟩ := hH.2.2.2.1 p (by omega)
    have e1 := C_undo (n := n) (s := s) (c := c) (I := I) (J := J) (A := A) (B := B) (R := R) (Q := Q) (d + 38) p f a e (by omega) (by omega) g2 g3 g1 (tb_isT hLV.1) q1
    have e2 := R_undo (n := n) (s := s) (c := c) (I := zu (zu I 802 (zn p)) 803 (zn (f + 1))) (J := J) (A := A) (B := B) (R := zu R 804 (.ref e)) (Q := zu (zu Q 17 (zu (Q 17) p none)) 18 (zu (Q 18) f (some a))) (d + 38) p (by omega) (by rw [zu_ne _ _ _ _ (by omega), zu_ne _ _ _ _ (by omega)]; exact g4)
    refine ⟨V, e, p, f + 1, t, n, s, c, _, J, _, B, _, _, o5, o6, o7, GI_hist (p' := p) (f' := f + 1) (I' := zu (zu (zu (zu I 802 (zn p)) 803 (zn (f + 1))) 1150 0) 1162 (zn p)) (A' := zu A 29 (cy (6 + p) 0 (A 29))) (R' := zu R 804 (.ref e)) (Q' := zu (zu Q 17 (zu (Q 17) p none)) 18 (zu (Q 18) f (some a))) h (fun k hk => ?_) ?_ ?_ (zu_eq _ _ _) ?_ (fun k hk => zu_ne _ _ _ _ (by omega)) ?_ ?_ (zu_eq _ _ _), ?_⟩
    · rw [zu_ne _ _ _ _ (by omega), zu_ne _ _ _ _ (by omega), zu_ne _ _ _ _ (by omega), zu_ne _ _ _ _ (by omega)]
    · rw [zu_ne _ _ _ _ (by omega), zu_ne _ _ _ _ (by omega), zu_ne _ _ _ _ (by omega), zu_eq]
    · rw [zu_ne _ _ _ _ (by omega), zu_ne _ _ _ _ (by omega), zu_eq]
    · rw [zu_ne _ _ _ _ (by omega), zu_ne _ _ _ _ (by omega), zu_ne _ _ _ _ (by omega), zu_ne _ _ _ _ (by omega), g5, show p + 1 + f + 1 = p + (f + 1) + 1 by omega]
    · rw [zu_eq]
      exact HI_undo hV hH q1
    · rw [zu_ne _ _ _ _ (show 44 ≠ 29 by omega), zu_eq]
      exact MI_to hV (fun _ _ h => h) hM (by rw [zu_ne _ _ _ _ (by omega), zu_ne _ _ _ _ (by omega)]) (fun k q h1 h2 hq => sl_cyo _ _ _ _ _ hq (by omega))
    · simp (disch := first | omega | exact zb_1 | exact zb_0 | exact zb_n1 | exact zb_n0) only [x305_1078, x305_1078N, x305_1079, x305_1082, x305_1082N, x305_1083, x305_1086, mq_dl_int, mq_dl_ref, mq_dl_null, mq_dl_none, mc_some, Option.toList_some, Option.toList_none, List.cons_append, List.nil_append, zb_1, zb_0, ↓reduceIte, if_true, if_false, not_true_eq_false, not_false_eq_true, Bool.false_eq_true, z_10, z_01, eq_self, Bool.and_self, true_or, or_true, false_or, or_false, true_and, and_true, false_and, and_false, and_self, or_self, ho_0, ho_23, e1, e2]
theorem K_again (h : GI K L xs V a p f t n s c I J A B R Q) (hK : K ≤ 600) (hi : i + 7 ≤ L) (hL : L ≤ 3584) : NX K L xs (d + 40) i (mz (d + 40) 305 1091 [some (.ref 1000000000), some (.ref 0), some (.ref 23), some (.ref 45), some (.int (zn i)), o5, o6, o7] [] (hp n s c I J A B R Q)) := by
  obtain ⟨g1, g2, g3, g4, g5⟩ := h.2.2.2.1
  obtain ⟨hH, hM⟩ := h.2.2.2.2.1
  have hV := LVS_VW h.2.2.2.2.2.2.2
  have hpf := hH.1
  obtain ⟨T, hVa, hLV, hRT⟩ := GI_now h
  cases f with
  | zero =>
    have e1 := C_again0 (n := n) (s := s) (c := c) (I := I) (J := J) (A := A) (B := B) (R := R) (Q := Q) (d + 37) g3
    have e2 := R_again0 (n := n) (s := s) (c := c) (I := I) (J := J) (A := A) (B := B) (R := R) (Q := Q) (d + 38) p (by omega) g4 g5
    refine ⟨V, a, p, 0, t, n, s, c, zu I 1150 0, J, A, B, R, Q, o5, o6, o7, GI_keep h hK (Nat.le_refl _) (by omega) (by omega) (fun _ _ => rfl) h.2.2.2.2.2.2.2 (fun k hk => zu_ne _ _ _ _ (by omega)) (fun _ _ => rfl) rfl rfl, ?_⟩
    simp (disch := first | omega | exact zb_1 | exact zb_0 | exact zb_n1 | exact zb_n0) only [x305_1091, x305_1091N, x305_1092, x305_1095, x305_1095N, x305_1096, x305_1099, mq_dl_int, mq_dl_ref, mq_dl_null, mq_dl_none, mc_some, Option.toList_some, Option.toList_none, List.cons_append, List.nil_append, zb_1, zb_0, ↓reduceIte, if_true, if_false, not_true_eq_false, not_false_eq_true, Bool.false_eq_true, z_10, z_01, eq_self, Bool.and_self, true_or, or_true, false_or, or_false, true_and, and_true, false_and, and_false, and_self, or_self, ho_0, ho_23, e1, e2]
  | succ f =>
    obtain ⟨e, T', q1, q2, q3⟩ := hH.2.2.2.2 0 (by omega)
    rw [show f + 1 - 1 - 0 = f by omega] at q1
    have hdw : dw p = p + 1 := by unfold dw; rw [if_pos (by omega)]
    have e1 := C_again (n := n) (s := s) (c := c) (I := I) (J := J) (A := A) (B := B) (R := R) (Q := Q) (d + 37) p f a e (by omega) (by omega) g2 g3 g1 (tb_isT hLV.1) (fun i hi => by
      obtain ⟨x, x1, x2, _⟩ := HI_q h.2.2.2.2.2.2.2 hH i hi
      exact ⟨x, x1, x2⟩) q1
    rw [hdw] at e1
    have e2 := R_again (n := n) (s := s) (c := c) (I := zu (zu I 802 (zn (p + 1))) 803 (zn f)) (J := J) (A := A) (B := B) (R := zu R 804 (.ref e)) (Q := zu (zu Q 17 (pq p (Q 17) a)) 18 (zu (Q 18) f none)) (d + 38) p (p + (f + 1) + 1) (by omega) (by omega) (by rw [zu_ne _ _ _ _ (by omega), zu_ne _ _ _ _ (by omega)]; exact g4) (by rw [zu_ne _ _ _ _ (by omega), zu_ne _ _ _ _ (by omega)]; exact g5)
    refine ⟨V, e, p + 1, f, t, n, s, c, _, J, _, B, _, _, o5, o6, o7, GI_hist (p' := p + 1) (f' := f) (I' := zu (zu (zu (zu I 802 (zn (p + 1))) 803 (zn f)) 1150 0) 1162 (zn (p + 1))) (A' := zu A 29 (cy (6 + (p + 1)) 0 (A 29))) (R' := zu R 804 (.ref e)) (Q' := zu (zu Q 17 (pq p (Q 17) a)) 18 (zu (Q 18) f none)) h (fun k hk => ?_) ?_ ?_ (zu_eq _ _ _) ?_ (fun k hk => zu_ne _ _ _ _ (by omega)) ?_ ?_ (zu_eq _ _ _), ?_⟩
    · rw [zu_ne _ _ _ _ (by omega), zu_ne _ _ _ _ (by omega), zu_ne _ _ _ _ (by omega), zu_ne _ _ _ _ (by omega)]
    · rw [zu_ne _ _ _ _ (by omega), zu_ne _ _ _ _ (by omega), zu_ne _ _ _ _ (by omega), zu_eq]
    · rw [zu_ne _ _ _ _ (by omega), zu_ne _ _ _ _ (by omega), zu_eq]
    · rw [zu_ne _ _ _ _ (by omega), zu_ne _ _ _ _ (by omega), zu_ne _ _ _ _ (by omega), zu_ne _ _ _ _ (by omega), g5, show p + (f + 1) + 1 = p + 1 + f + 1 by omega]
    · rw [zu_eq]
      exact HI_again hV hH q1
    · rw [zu_ne _ _ _ _ (show 44 ≠ 29 by omega), zu_eq]
      exact MI_to hV (fun _ _ h => h) hM (by rw [zu_ne _ _ _ _ (by omega), zu_ne _ _ _ _ (by omega)]) (fun k q h1 h2 hq => sl_cyo _ _ _ _ _ hq (by omega))
    · simp (disch := first | omega | exact zb_1 | exact zb_0 | exact zb_n1 | exact zb_n0) only [x305_1091, x305_1091N, x305_1092, x305_1095, x305_1095N, x305_1096, x305_1099, mq_dl_int, mq_dl_ref, mq_dl_null, mq_dl_none, mc_some, Option.toList_some, Option.toList_none, List.cons_append, List.nil_append, zb_1, zb_0, ↓reduceIte, if_true, if_false, not_true_eq_false, not_false_eq_true, Bool.false_eq_true, z_10, z_01, eq_self, Bool.and_self, true_or, or_true, false_or, or_false, true_and, and_true, false_and, and_false, and_self, or_self, ho_0, ho_23, e1, e2]
theorem f1_cy (k : Nat) (g : Nat → Int32) : f1 g (cy k 1 g) := fun p hp' => cy_out _ _ _ _ (by omega)
theorem K_mark (h : GI K L xs V a p f t n s c I J A B R Q) (hK : K ≤ 600) (hi : i + 7 ≤ L) (hL : L ≤ 3584) : NX K L xs (d + 40) i (mz (d + 40) 305 1104 [some (.ref 1000000000), some (.ref 0), some (.ref 23), some (.ref 45), some (.int (zn i)), o5, o6, o7] [] (hp n s c I J A B R Q)) := by
  obtain ⟨g1, g2, g3, g4, g5⟩ := h.2.2.2.1
  obtain ⟨t1, t2, t3, t4, t5⟩ := h.2.2.1
  obtain ⟨hH, hM⟩ := h.2.2.2.2.1
  have hV := LVS_VW h.2.2.2.2.2.2.2
  have hsc := h.2.1.2
  have hw := h.2.2.2.2.2.1
  have hB := h.2.2.2.2.2.2.1
  have hpf := hH.1
  obtain ⟨T, hVa, hLV, hRT⟩ := GI_now h
  by_cases qm : xs (i + 1) < 0 ∨ 3 < xs (i + 1)
  · have e1 : ∀ b, _ := fun b => C_markN (n := n) (s := s) (c := c) (I := I) (J := J) (A := A) (B := B) (R := R) (Q := Q) (d + 37) (xs (i + 1)) b qm
    have e2 : ∀ b, _ := fun b => R_markN (n := n) (s := s) (c := c) (I := I) (J := J) (A := A) (B := B) (R := R) (Q := Q) (d + 37) (xs (i + 1)) b qm
    refine ⟨V, a, p, f, t, n, s, c, zu I 1150 0, J, A, B, R, Q, o5, o6, o7, GI_keep h hK (Nat.le_refl _) (by omega) (by omega) (fun _ _ => rfl) h.2.2.2.2.2.2.2 (fun k hk => zu_ne _ _ _ _ (by omega)) (fun _ _ => rfl) rfl rfl, ?_⟩
    by_cases qb : xs (i + 2) = zn 0
    · simp (disch := first | omega | exact zb_1 | exact zb_0 | exact zb_n1 | exact zb_n0) only [x305_1104, x305_1104N, x305_1105, x305_1105N, x305_1106, x305_1108, x305_1109, x305_1110, x305_1111, x305_1111N, x305_1112, x305_1114, x305_1115, x305_1116, x305_1117, x305_1120, x305_1121, x305_1124, x305_1125, x305_1128, x305_1128N, x305_1129, x305_1129N, x305_1130, x305_1132, x305_1133, x305_1134, x305_1135, x305_1135N, x305_1136, x305_1138, x305_1139, x305_1140, x305_1141, x305_1144, x305_1145, x305_1148, x305_1149, x305_1152, mq_dl_int, mq_dl_ref, mq_dl_null, mq_dl_none, mc_some, Option.toList_some, Option.toList_none, List.cons_append, List.nil_append, zb_1, zb_0, ↓reduceIte, if_true, if_false, not_true_eq_false, not_false_eq_true, Bool.false_eq_true, z_10, z_01, eq_self, Bool.and_self, true_or, or_true, false_or, or_false, true_and, and_true, false_and, and_false, and_self, or_self, Nat.reduceLT, Nat.reduceEqDiff, Nat.reduceLeDiff, Nat.reduceAdd, Nat.reduceMul, Nat.reduceSub, zn_lit, zn_add, zn_mul, zn_sub, zn_addneg, zn_lt, zn_le, zn_eq, zn_clamp, zn_in, zn_long, ho_0, ho_23, sc_i hsc, sc_g hsc, qb, e1, e2]
    · simp (disch := first | omega | exact zb_1 | exact zb_0 | exact zb_n1 | exact zb_n0) only [x305_1104, x305_1104N, x305_1105, x305_1105N, x305_1106, x305_1108, x305_1109, x305_1110, x305_1111, x305_1111N, x305_1112, x305_1114, x305_1115, x305_1116, x305_1117, x305_1120, x305_1121, x305_1124, x305_1125, x305_1128, x305_1128N, x305_1129, x305_1129N, x305_1130, x305_1132, x305_1133, x305_1134, x305_1135, x305_1135N, x305_1136, x305_1138, x305_1139, x305_1140, x305_1141, x305_1144, x305_1145, x305_1148, x305_1149, x305_1152, mq_dl_int, mq_dl_ref, mq_dl_null, mq_dl_none, mc_some, Option.toList_some, Option.toList_none, List.cons_append, List.nil_append, zb_1, zb_0, ↓reduceIte, if_true, if_false, not_true_eq_false, not_false_eq_true, Bool.false_eq_true, z_10, z_01, eq_self, Bool.and_self, true_or, or_true, false_or, or_false, true_and, and_true, false_and, and_false, and_self, or_self, Nat.reduceLT, Nat.reduceEqDiff, Nat.reduceLeDiff, Nat.reduceAdd, Nat.reduceMul, Nat.reduceSub, zn_lit, zn_add, zn_mul, zn_sub, zn_addneg, zn_lt, zn_le, zn_eq, zn_clamp, zn_in, zn_long, ho_0, ho_23, sc_i hsc, sc_g hsc, qb, e1, e2]
  · obtain ⟨m, hm, _, hm4⟩ := zn_of_lt (xs (i + 1)) 0 3 (by omega) (by omega) (fun hh => qm (Or.inl hh)) (fun hh => qm (Or.inr hh))
    have hm3 : m < 4 := by omega
    by_cases qb : xs (i + 2) = zn 0
    · have e1 := C_markL (n := n) (s := s) (c := c) (I := I) (J := J) (A := A) (B := B) (R := R) (Q := Q) (d + 37) m a hm3 g1 (tb_isT hLV.1)
      have e2 := R_markL (n := n) (s := s) (c := c) (I := I) (J := J) (A := A) (B := B) (R := R) (Q := zu Q 22 (zu (Q 22) m (some a))) (d + 37) m hm3
      rw [show (0 : Int32) = zn 0 from rfl] at e1 e2
      refine ⟨V, a, p, f, t, n, s, c, _, J, _, B, R, _, o5, o6, o7, GI_hist (p' := p) (f' := f) (I' := zu I 1150 (zn 0)) (A' := zu (zu A 29 (cy 0 (2 + m) (A 29))) 44 (zu (A 44) m 1)) (R' := R) (Q' := zu Q 22 (zu (Q 22) m (some a))) h (fun k hk => zu_ne _ _ _ _ (by omega)) (by rw [zu_ne _ _ _ _ (by omega)]; exact g2) (by rw [zu_ne _ _ _ _ (by omega)]; exact g3) (by rw [zu_ne _ _ _ _ (by omega)]; exact g4) (by rw [zu_ne _ _ _ _ (by omega)]; exact g5) (fun k hk => by rw [zu_ne _ _ _ _ (by omega), zu_ne _ _ _ _ (by omega)]) ?_ ?_ g1, ?_⟩
      · rw [zu_ne _ _ _ _ (show 29 ≠ 44 by omega), zu_eq]
        obtain ⟨h1, h2, h3, h4, h5⟩ := hH
        refine ⟨h1, SLT_to hV (fun _ _ h => h) h2 (fun q hq => sl_cyo _ _ _ _ _ hq (by omega)), SLT_to hV (fun _ _ h => h) h3 (fun q hq => sl_cyo _ _ _ _ _ hq (by omega)), fun k hk => ?_, fun k hk => ?_⟩
        · rw [zu_ne _ _ _ _ (by omega)]
          exact SLT_to hV (fun _ _ h => h) (h4 k hk) (fun q hq => sl_cyo _ _ _ _ _ hq (by omega))
        · rw [zu_ne _ _ _ _ (by omega)]
          exact SLT_to hV (fun _ _ h => h) (h5 k hk) (fun q hq => sl_cyo _ _ _ _ _ hq (by omega))
      · rw [zu_ne _ _ _ _ (show 29 ≠ 44 by omega), zu_eq, zu_eq]
        intro k hk
        rw [zu_eq]
        by_cases qk : k = m
        · subst qk
          rw [zu_eq, zu_eq]
          exact Or.inr ⟨SLT_to hV (fun _ _ h => h) hH.2.1 (fun q hq => sl_cyt _ _ _ _ hq), rfl⟩
        · rw [zu_ne _ _ _ _ qk, zu_ne _ _ _ _ qk]
          rcases hM k hk with hk2 | hk2
          · exact Or.inl hk2
          · exact Or.inr ⟨SLT_to hV (fun _ _ h => h) hk2.1 (fun q hq => sl_cyo _ _ _ _ _ hq (by omega)), hk2.2⟩
      · rw [show (1 : Int32) = zn 1 from rfl] at *
        simp (disch := first | omega | exact zb_1 | exact zb_0 | exact zb_n1 | exact zb_n0) only [x305_1104, x305_1104N, x305_1105, x305_1105N, x305_1106, x305_1108, x305_1109, x305_1110, x305_1111, x305_1111N, x305_1112, x305_1114, x305_1115, x305_1116, x305_1117, x305_1120, x305_1121, x305_1124, x305_1125, x305_1128, x305_1128N, x305_1129, x305_1129N, x305_1130, x305_1132, x305_1133, x305_1134, x305_1135, x305_1135N, x305_1136, x305_1138, x305_1139, x305_1140, x305_1141, x305_1144, x305_1145, x305_1148, x305_1149, x305_1152, mq_dl_int, mq_dl_ref, mq_dl_null, mq_dl_none, mc_some, Option.toList_some, Option.toList_none, List.cons_append, List.nil_append, zb_1, zb_0, ↓reduceIte, if_true, if_false, not_true_eq_false, not_false_eq_true, Bool.false_eq_true, z_10, z_01, eq_self, Bool.and_self, true_or, or_true, false_or, or_false, true_and, and_true, false_and, and_false, and_self, or_self, Nat.reduceLT, Nat.reduceEqDiff, Nat.reduceLeDiff, Nat.reduceAdd, Nat.reduceMul, Nat.reduceSub, zn_lit, zn_add, zn_mul, zn_sub, zn_addneg, zn_lt, zn_le, zn_eq, zn_clamp, zn_in, zn_long, ho_0, ho_23, sc_i hsc, sc_g hsc, qb, hm, e1, e2]
    · rcases hM m hm3 with ⟨m1, m2⟩ | ⟨⟨e, T', m1, m2, m3⟩, m4⟩
      · have e1 := C_mark0 (n := n) (s := s) (c := c) (I := I) (J := J) (A := A) (B := B) (R := R) (Q := Q) (d + 37) m hm3 m1
        have e2 := R_mark0 (n := n) (s := s) (c := c) (I := I) (J := J) (A := A) (B := B) (R := R) (Q := Q) (d + 37) m hm3 m2
        rw [show (1 : Int32) = zn 1 from rfl] at e1 e2
        refine ⟨V, a, p, f, t, n, s, c, zu I 1150 (zn 0), J, A, B, R, Q, o5, o6, o7, GI_keep h hK (Nat.le_refl _) (by omega) (by omega) (fun _ _ => rfl) h.2.2.2.2.2.2.2 (fun k hk => zu_ne _ _ _ _ (by omega)) (fun _ _ => rfl) rfl rfl, ?_⟩
        simp (disch := first | omega | exact zb_1 | exact zb_0 | exact zb_n1 | exact zb_n0) only [x305_1104, x305_1104N, x305_1105, x305_1105N, x305_1106, x305_1108, x305_1109, x305_1110, x305_1111, x305_1111N, x305_1112, x305_1114, x305_1115, x305_1116, x305_1117, x305_1120, x305_1121, x305_1124, x305_1125, x305_1128, x305_1128N, x305_1129, x305_1129N, x305_1130, x305_1132, x305_1133, x305_1134, x305_1135, x305_1135N, x305_1136, x305_1138, x305_1139, x305_1140, x305_1141, x305_1144, x305_1145, x305_1148, x305_1149, x305_1152, mq_dl_int, mq_dl_ref, mq_dl_null, mq_dl_none, mc_some, Option.toList_some, Option.toList_none, List.cons_append, List.nil_append, zb_1, zb_0, ↓reduceIte, if_true, if_false, not_true_eq_false, not_false_eq_true, Bool.false_eq_true, z_10, z_01, eq_self, Bool.and_self, true_or, or_true, false_or, or_false, true_and, and_true, false_and, and_false, and_self, or_self, Nat.reduceLT, Nat.reduceEqDiff, Nat.reduceLeDiff, Nat.reduceAdd, Nat.reduceMul, Nat.reduceSub, zn_lit, zn_add, zn_mul, zn_sub, zn_addneg, zn_lt, zn_le, zn_eq, zn_clamp, zn_in, zn_long, ho_0, ho_23, sc_i hsc, sc_g hsc, qb, hm, e1, e2]
      · have e1 := C_markB (n := n) (s := s) (c := c) (I := I) (J := J) (A := A) (B := B) (R := R) (Q := Q) (d + 37) m p a e hm3 m1 (by omega) g2 g1 (tb_isT hLV.1) (fun i hi => by
          obtain ⟨x, x1, x2, _⟩ := HI_q h.2.2.2.2.2.2.2 hH i hi
          exact ⟨x, x1, x2⟩)
        have e2 := R_markB (n := n) (s := s) (c := c) (I := zu (zu I 802 (zn (dw p))) 803 (zn 0)) (J := J) (A := A) (B := B) (R := zu R 804 (.ref e)) (Q := zu (zu Q 17 (pq p (Q 17) a)) 18 (nq 12 (Q 18))) (d + 37) m p hm3 m4 (by omega) (by rw [zu_ne _ _ _ _ (by omega), zu_ne _ _ _ _ (by omega)]; exact g4)
        rw [show (1 : Int32) = zn 1 from rfl] at e1 e2
        rw [show (0 : Int32) = zn 0 from rfl] at e2
        obtain ⟨V', hG⟩ := GI_done (n' := n) (s' := s) (c' := c) (I' := zu (zu (zu (zu (zu I 802 (zn (dw p))) 803 (zn 0)) 1150 (zn 0)) 1161 (zn (dw p + 1))) 1162 (zn (dw p))) (J' := J) (A' := zu A 29 (ds p (cy (2 + m) 1 (A 29)))) (B' := B) (R' := zu R 804 (.ref e)) (t' := t) (b := e) (T' := T') (g' := cy (2 + m) 1 (A 29)) h hK (Nat.le_refl _) (by omega) (by omega) (fun _ _ => rfl) h.2.2.2.2.2.2.2 (Or.inl m2) (by rw [zu_ne _ _ _ _ (by omega), zu_ne _ _ _ _ (by omega), zu_ne _ _ _ _ (by omega), zu_ne _ _ _ _ (by omega), zu_eq]) (by rw [zu_ne _ _ _ _ (by omega), zu_ne _ _ _ _ (by omega), zu_ne _ _ _ _ (by omega), zu_eq]) (zu_eq _ _ _) (by rw [zu_ne _ _ _ _ (by omega), zu_eq]) (by rw [zu_ne _ _ _ _ (by omega), zu_ne _ _ _ _ (by omega), zu_ne _ _ _ _ (by omega), zu_ne _ _ _ _ (by omega), zu_ne _ _ _ _ (by omega), zu_ne _ _ _ _ (by omega), zu_ne _ _ _ _ (by omega), zu_ne _ _ _ _ (by omega), zu_ne _ _ _ _ (by omega), zu_ne _ _ _ _ (by omega)]; exact hw) (Nat.le_refl _) (by rw [zu_ne _ _ _ _ (by omega), zu_ne _ _ _ _ (by omega), zu_ne _ _ _ _ (by omega), zu_ne _ _ _ _ (by omega), zu_ne _ _ _ _ (by omega)]; exact t2) (by rw [zu_ne _ _ _ _ (by omega), zu_ne _ _ _ _ (by omega), zu_ne _ _ _ _ (by omega), zu_ne _ _ _ _ (by omega), zu_ne _ _ _ _ (by omega)]; exact t3) (fun k hk => zu_ne _ _ _ _ (by omega)) (f1_cy _ _) (zu_eq _ _ _) (RT_congr (hV e T' m2).2.1 (fun q hq => sl_cyt _ _ _ _ hq) m3) hB (zu_eq _ _ _)
        refine ⟨V', e, dw p, 0, t, n, s, c, _, J, _, B, _, _, o5, o6, o7, hG, ?_⟩
        simp (disch := first | omega | exact zb_1 | exact zb_0 | exact zb_n1 | exact zb_n0) only [x305_1104, x305_1104N, x305_1105, x305_1105N, x305_1106, x305_1108, x305_1109, x305_1110, x305_1111, x305_1111N, x305_1112, x305_1114, x305_1115, x305_1116, x305_1117, x305_1120, x305_1121, x305_1124, x305_1125, x305_1128, x305_1128N, x305_1129, x305_1129N, x305_1130, x305_1132, x305_1133, x305_1134, x305_1135, x305_1135N, x305_1136, x305_1138, x305_1139, x305_1140, x305_1141, x305_1144, x305_1145, x305_1148, x305_1149, x305_1152, mq_dl_int, mq_dl_ref, mq_dl_null, mq_dl_none, mc_some, Option.toList_some, Option.toList_none, List.cons_append, List.nil_append, zb_1, zb_0, ↓reduceIte, if_true, if_false, not_true_eq_false, not_false_eq_true, Bool.false_eq_true, z_10, z_01, eq_self, Bool.and_self, true_or, or_true, false_or, or_false, true_and, and_true, false_and, and_false, and_self, or_self, Nat.reduceLT, Nat.reduceEqDiff, Nat.reduceLeDiff, Nat.reduceAdd, Nat.reduceMul, Nat.reduceSub, zn_lit, zn_add, zn_mul, zn_sub, zn_addneg, zn_lt, zn_le, zn_eq, zn_clamp, zn_in, zn_long, ho_0, ho_23, sc_i hsc, sc_g hsc, qb, hm, e1, e2]
        rfl
end LAWF
