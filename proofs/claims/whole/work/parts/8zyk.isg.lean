/-! ROWS: the class's sift, whole -/
theorem zo_1n (b : Bool) : zo b &&& zn 1 = zo b := zo_1 b
theorem zc_gt (s q : Nat) (hs : s ≤ 1000000) (hq : q ≤ 3000000) : (zn s < zi ((q : Int) - (s : Int))) = (2 * s < q) := by
  rw [zi_nat s, zi_lt _ _ (by omega) (by omega) (by omega) (by omega)]
  apply propext
  omega
theorem zc_inc (s q : Nat) : zi ((q : Int) - (s : Int)) + zn 1 = zi (((q + 1 : Nat) : Int) - (s : Int)) := by
  rw [zi_nat 1, zi_add]
  congr 1
  omega
theorem zc_neg (s : Nat) : -zn s = zi (((0 : Nat) : Int) - (s : Int)) := by
  rw [zi_nat s, zi_neg]
  congr 1
  omega
theorem zc_pl (s q : Nat) : zi ((q : Int) - (s : Int)) + zn s = zn q := by
  rw [zi_nat s, zi_add, zi_nat q]
  congr 1
  omega
def MFI (T : ZT) (t : Nat) (V : Int) (y k : Nat) (M : Nat → Nat → Nat) (f : Nat → Int64) : Prop := ∀ r c, r < T.1 → c < T.1 → (r < y ∨ r = y ∧ c < k) → f (r * 6 + c) = zln (M r c) ∧ M r c < 2147483647 ∧ (2147483647 : Int) ∣ ((T.2.1 t r c : Int) - (if r = c then V else 0)) - (M r c : Int)
theorem MFI_s {T : ZT} {t y k v : Nat} {V : Int} {M : Nat → Nat → Nat} {f : Nat → Int64} (h6 : T.1 ≤ 6) (hy : y < T.1) (hk : k < T.1) (h : MFI T t V y k M f) (h1 : v < 2147483647) (h2 : (2147483647 : Int) ∣ ((T.2.1 t y k : Int) - (if y = k then V else 0)) - (v : Int)) : MFI T t V y (k + 1) (fun r c => if r = y ∧ c = k then v else M r c) (zu f (y * 6 + k) (zln v)) := by
  intro r c hr hc hq
  by_cases q : r = y ∧ c = k
  · obtain ⟨rfl, rfl⟩ := q
    rw [zu_eq]
    simp only [and_self, if_true]
    exact ⟨trivial, h1, h2⟩
  · rw [zu_ne _ _ _ _ (by omega)]
    simp only [q, if_false]
    exact h r c hr hc (by omega)
theorem KER_of {T : ZT} {t : Nat} {V : Int} {M : Nat → Nat → Nat} {f : Nat → Int64} {x : Nat → Int} (hx : RH T x) (ht : t < T.1) (hv : x t = V) (h : MFI T t V T.1 0 M f) : KER T.1 M x := by
  intro r hr
  have e : zsum (fun c => (M r c : Int) * x c) 0 T.1 = (zsum (fun c => (T.2.1 t r c : Int) * x c) 0 T.1 + zsum (fun c => -((if r = c then V else 0) * x c)) 0 T.1) + zsum (fun c => (-1) * ((((T.2.1 t r c : Int) - (if r = c then V else 0)) - (M r c : Int)) * x c)) 0 T.1 := by
    rw [← zs_plus, ← zs_plus]
    apply zsum_congr
    intro c _ _
    generalize (if r = c then V else 0) = w
    grind
  rw [e, ← hx.2 t r ht hr, zs_at (f := fun c => -((if r = c then V else 0) * x c)) r T.1 0 (by omega) (by omega) (fun c _ _ hc => by
    simp only [show ¬ r = c by omega, if_false]
    simp), hv]
  simp only [if_true]
  rw [Int.add_right_neg, Int.zero_add]
  apply zs_dvd
  intro c _ hc
  exact Int.dvd_mul_of_dvd_right (Int.dvd_mul_of_dvd_left (h r c hr (by omega) (Or.inl hr)).2.2)
theorem C_fmS (d : Nat) (S : Nat) (h2 : S < 9223372036854775808) (h : mq_H) : ∃ r : Nat, r < 2147483647 ∧ (2147483647 : Int) ∣ (S : Int) - (r : Int) ∧ mz d 287 0 [some (.long (zln S)), none, some (.long (zln 2147483647)), none, none, none] [] h = some (some (some (.long (zln r))), h) := by
  obtain ⟨r, g1, g2, g3⟩ := C_fmN d (S : Int) (by omega) (by omega) h
  refine ⟨r, g1, g2, ?_⟩
  rw [zli_nat S]
  exact g3
section RI
variable {n s : Nat} {c : Nat → mq_E} {I : Nat → Int32} {J : Nat → Int64} {A : Nat → Nat → Int32} {B : Nat → Nat → Int64} {R : Nat → Value} {Q : Nat → Nat → Option Nat}
variable {g a : Nat} {T : ZT} {i : Nat → Int32} {j : Nat → Int64} {f : Nat → Nat → Int32}
theorem C_mfk (hg : 46 ≤ g) (hT : TB c a T) (hga : a + 2 < g) (hW : WT T) (hi : i 1 = zn T.1) (d t : Nat) (ht : t < T.1) (V : Int) (hV : -1000 ≤ V) (hV2 : V ≤ 1000) (y : Nat) (hy : y < T.1) : ∀ (e k : Nat) (M : Nat → Nat → Nat) (h : Nat → Nat → Int64) (o5 : Option Value), k + e = T.1 → MFI T t V y k M (h 7) → ∃ M' h' o5', (∀ q, q ≠ 7 → h' q = h q) ∧ MFI T t V y T.1 M' (h' 7) ∧ mz (d + 2) 72 13 [some (.ref g), some (.int (zn t)), some (.int (zi V)), some (.int (zn y)), some (.int (zn k)), o5, none] [] (hp n s (ro c g a i j f h) I J A B R Q) = mz (d + 2) 72 74 [some (.ref g), some (.int (zn t)), some (.int (zi V)), some (.int (zn y)), some (.int (zn T.1)), o5', none] [] (hp n s (ro c g a i j f h') I J A B R Q)
  | 0, k, M, h, o5, hk, hM => by
    have e : k = T.1 := by omega
    subst e
    have h6 := hW.2.1
    refine ⟨M, h, o5, fun _ _ => rfl, hM, ?_⟩
    simp (disch := first | omega | exact zb_1 | exact zb_0 | exact zb_n1 | exact zb_n0) only [x72_13, x72_15, x72_16, x72_19, mq_dl_int, mq_dl_ref, mq_dl_null, mq_dl_none, mc_some, Option.toList_some, Option.toList_none, List.cons_append, List.nil_append, zb_1, zb_0, ↓reduceIte, if_true, if_false, not_true_eq_false, not_false_eq_true, Bool.false_eq_true, z_10, z_01, eq_self, Bool.and_self, true_or, or_true, false_or, or_false, true_and, and_true, false_and, and_false, and_self, or_self, Nat.reduceLT, Nat.reduceEqDiff, Nat.reduceLeDiff, Nat.reduceAdd, Nat.reduceMul, Nat.reduceSub, zn_lit, zn_add, zn_mul, zn_sub, zn_addneg, zn_lt, zn_le, zn_eq, zn_clamp, zn_in, zn_long, hp_1, hp_21, ro_0, ro_mo, ro_f0, ro_f1, ro_s1, ro_k1, ro_f2, ro_f3, ro_f4, ro_f5, ro_f6, ro_f7, ro_f8, ro_f9, ro_s9, ro_k9, ro_f10, ro_f11, ro_s11, ro_k11, ro_f12, ro_f13, ro_s13, ro_k13, ro_f14, ro_s14, ro_f15, ro_s15, ro_k15, ro_i1, ro_g1, ro_n1, ro_w1, ro_i2, ro_g2, ro_n2, ro_w2, ro_i3, ro_g3, ro_n3, ro_w3, ro_i4, ro_g4, ro_n4, ro_w4, ro_i5, ro_g5, ro_n5, ro_w5, ro_i6, ro_g6, ro_n6, ro_w6, ro_i7, ro_g7, ro_n7, ro_w7, ro_i8, ro_g8, ro_n8, ro_w8, ro_i9, ro_g9, ro_n9, ro_w9, zu_eq, zu_ne, zu_zu, upd_zu, updL_zu, hi, Nat.le_refl]
  | e + 1, k, M, h, o5, hk, hM => by
    have h6 := hW.2.1
    have hsb := hW.2.2.1 t y k
    have hT1 : TB (ro c g a i j f h) a T := TB_ro hT (Or.inl hga)
    have hkm : k < T.1 := by omega
    by_cases q : y = k
    · obtain ⟨v, v1, v2, v3⟩ := C_fmN (d + 1) ((T.2.1 t y k : Int) - V) (by omega) (by omega) (hp n s (ro c g a i j f h) I J A B R Q)
      have hM' := MFI_s h6 hy hkm hM v1 (by rw [if_pos q]; exact v2)
      have hs : (zn (T.2.1 t y k) - zi V).toInt64 = zli ((T.2.1 t y k : Int) - V) := by
        rw [zi_nat, zi_sub, zi_long _ (by omega) (by omega)]
      obtain ⟨M', h', o5', g1, g2, g3⟩ := C_mfk hg hT hga hW hi d t ht V hV hV2 y hy e (k + 1) _ (zu h 7 (zu (h 7) (y * 6 + k) (zln v))) (some (.long (zli ((T.2.1 t y k : Int) - V)))) (by omega) (by rw [zu_eq]; exact hM')
      refine ⟨M', h', o5', fun q hq => by rw [g1 q hq, zu_ne _ _ _ _ hq], g2, Eq.trans ?_ g3⟩
      rw [x72_13]
      subst q
      simp (disch := first | omega | exact zb_1 | exact zb_0 | exact zb_n1 | exact zb_n0) only [x72_15, x72_16, x72_19, x72_22, x72_23, x72_26, x72_27, x72_28, x72_30, x72_33, x72_34, x72_36, x72_39, x72_40, x72_44, x72_45, x72_46, x72_48, x72_49, x72_52, x72_53, x72_55, x72_56, x72_58, x72_59, x72_61, x72_64, x72_67, x72_68, x72_71, mq_dl_int, mq_dl_ref, mq_dl_null, mq_dl_none, mc_some, Option.toList_some, Option.toList_none, List.cons_append, List.nil_append, zb_1, zb_0, ↓reduceIte, if_true, if_false, not_true_eq_false, not_false_eq_true, Bool.false_eq_true, z_10, z_01, eq_self, Bool.and_self, true_or, or_true, false_or, or_false, true_and, and_true, false_and, and_false, and_self, or_self, Nat.reduceLT, Nat.reduceEqDiff, Nat.reduceLeDiff, Nat.reduceAdd, Nat.reduceMul, Nat.reduceSub, zn_lit, zn_add, zn_mul, zn_sub, zn_addneg, zn_lt, zn_le, zn_eq, zn_clamp, zn_in, zn_long, zln_lit, hp_1, hp_21, ro_0, ro_mo, ro_f0, ro_f1, ro_s1, ro_k1, ro_f2, ro_f3, ro_f4, ro_f5, ro_f6, ro_f7, ro_f8, ro_f9, ro_s9, ro_k9, ro_f10, ro_f11, ro_s11, ro_k11, ro_f12, ro_f13, ro_s13, ro_k13, ro_f14, ro_s14, ro_f15, ro_s15, ro_k15, ro_i1, ro_g1, ro_n1, ro_w1, ro_i2, ro_g2, ro_n2, ro_w2, ro_i3, ro_g3, ro_n3, ro_w3, ro_i4, ro_g4, ro_n4, ro_w4, ro_i5, ro_g5, ro_n5, ro_w5, ro_i6, ro_g6, ro_n6, ro_w6, ro_i7, ro_g7, ro_n7, ro_w7, ro_i8, ro_g8, ro_n8, ro_w8, ro_i9, ro_g9, ro_n9, ro_w9, zu_eq, zu_ne, zu_zu, upd_zu, updL_zu, hi, tb_0 hT1, T_share hT1, hs, v3, show ¬ T.1 ≤ y by omega, show y * 6 + y < 36 by omega, decide_true]
    · obtain ⟨v, v1, v2, v3⟩ := C_fmS (d + 1) (T.2.1 t y k) (by omega) (hp n s (ro c g a i j f h) I J A B R Q)
      have hM' := MFI_s h6 hy hkm hM v1 (by rw [if_neg q, Int.sub_zero]; exact v2)
      obtain ⟨M', h', o5', g1, g2, g3⟩ := C_mfk hg hT hga hW hi d t ht V hV hV2 y hy e (k + 1) _ (zu h 7 (zu (h 7) (y * 6 + k) (zln v))) (some (.long (zln (T.2.1 t y k)))) (by omega) (by rw [zu_eq]; exact hM')
      refine ⟨M', h', o5', fun q hq => by rw [g1 q hq, zu_ne _ _ _ _ hq], g2, Eq.trans ?_ g3⟩
      rw [x72_13]
      simp (disch := first | omega | exact zb_1 | exact zb_0 | exact zb_n1 | exact zb_n0) only [x72_15, x72_16, x72_19, x72_22, x72_23, x72_26, x72_27, x72_28, x72_30, x72_33, x72_34, x72_36, x72_43, x72_44, x72_45, x72_46, x72_48, x72_49, x72_52, x72_53, x72_55, x72_56, x72_58, x72_59, x72_61, x72_64, x72_67, x72_68, x72_71, mq_dl_int, mq_dl_ref, mq_dl_null, mq_dl_none, mc_some, Option.toList_some, Option.toList_none, List.cons_append, List.nil_append, zb_1, zb_0, ↓reduceIte, if_true, if_false, not_true_eq_false, not_false_eq_true, Bool.false_eq_true, z_10, z_01, eq_self, Bool.and_self, true_or, or_true, false_or, or_false, true_and, and_true, false_and, and_false, and_self, or_self, Nat.reduceLT, Nat.reduceEqDiff, Nat.reduceLeDiff, Nat.reduceAdd, Nat.reduceMul, Nat.reduceSub, zn_lit, zn_add, zn_mul, zn_sub, zn_addneg, zn_lt, zn_le, zn_eq, zn_clamp, zn_in, zn_long, zln_lit, hp_1, hp_21, ro_0, ro_mo, ro_f0, ro_f1, ro_s1, ro_k1, ro_f2, ro_f3, ro_f4, ro_f5, ro_f6, ro_f7, ro_f8, ro_f9, ro_s9, ro_k9, ro_f10, ro_f11, ro_s11, ro_k11, ro_f12, ro_f13, ro_s13, ro_k13, ro_f14, ro_s14, ro_f15, ro_s15, ro_k15, ro_i1, ro_g1, ro_n1, ro_w1, ro_i2, ro_g2, ro_n2, ro_w2, ro_i3, ro_g3, ro_n3, ro_w3, ro_i4, ro_g4, ro_n4, ro_w4, ro_i5, ro_g5, ro_n5, ro_w5, ro_i6, ro_g6, ro_n6, ro_w6, ro_i7, ro_g7, ro_n7, ro_w7, ro_i8, ro_g8, ro_n8, ro_w8, ro_i9, ro_g9, ro_n9, ro_w9, zu_eq, zu_ne, zu_zu, upd_zu, updL_zu, hi, tb_0 hT1, T_share hT1, Nat.sub_zero, q, v3, show ¬ T.1 ≤ k by omega, show y * 6 + k < 36 by omega, decide_true]
theorem C_mfy (hg : 46 ≤ g) (hT : TB c a T) (hga : a + 2 < g) (hW : WT T) (hi : i 1 = zn T.1) (d t : Nat) (ht : t < T.1) (V : Int) (hV : -1000 ≤ V) (hV2 : V ≤ 1000) : ∀ (e y : Nat) (M : Nat → Nat → Nat) (h : Nat → Nat → Int64) (o4 o5 : Option Value), y + e = T.1 → MFI T t V y 0 M (h 7) → ∃ M' h' o4' o5', (∀ q, q ≠ 7 → h' q = h q) ∧ MFI T t V T.1 0 M' (h' 7) ∧ mz (d + 2) 72 2 [some (.ref g), some (.int (zn t)), some (.int (zi V)), some (.int (zn y)), o4, o5, none] [] (hp n s (ro c g a i j f h) I J A B R Q) = mz (d + 2) 72 82 [some (.ref g), some (.int (zn t)), some (.int (zi V)), some (.int (zn 0)), o4', o5', none] [] (hp n s (ro c g a i j f h') I J A B R Q)
  | 0, y, M, h, o4, o5, hy, hM => by
    have e : y = T.1 := by omega
    subst e
    have h6 := hW.2.1
    refine ⟨M, h, o4, o5, fun _ _ => rfl, hM, ?_⟩
    simp (disch := first | omega | exact zb_1 | exact zb_0 | exact zb_n1 | exact zb_n0) only [x72_2, x72_3, x72_4, x72_7, x72_80, x72_81, mq_dl_int, mq_dl_ref, mq_dl_null, mq_dl_none, mc_some, Option.toList_some, Option.toList_none, List.cons_append, List.nil_append, zb_1, zb_0, ↓reduceIte, if_true, if_false, not_true_eq_false, not_false_eq_true, Bool.false_eq_true, z_10, z_01, eq_self, Bool.and_self, true_or, or_true, false_or, or_false, true_and, and_true, false_and, and_false, and_self, or_self, Nat.reduceLT, Nat.reduceEqDiff, Nat.reduceLeDiff, Nat.reduceAdd, Nat.reduceMul, Nat.reduceSub, zn_lit, zn_add, zn_mul, zn_sub, zn_addneg, zn_lt, zn_le, zn_eq, zn_clamp, zn_in, zn_long, hp_1, hp_21, ro_0, ro_mo, ro_f0, ro_f1, ro_s1, ro_k1, ro_f2, ro_f3, ro_f4, ro_f5, ro_f6, ro_f7, ro_f8, ro_f9, ro_s9, ro_k9, ro_f10, ro_f11, ro_s11, ro_k11, ro_f12, ro_f13, ro_s13, ro_k13, ro_f14, ro_s14, ro_f15, ro_s15, ro_k15, ro_i1, ro_g1, ro_n1, ro_w1, ro_i2, ro_g2, ro_n2, ro_w2, ro_i3, ro_g3, ro_n3, ro_w3, ro_i4, ro_g4, ro_n4, ro_w4, ro_i5, ro_g5, ro_n5, ro_w5, ro_i6, ro_g6, ro_n6, ro_w6, ro_i7, ro_g7, ro_n7, ro_w7, ro_i8, ro_g8, ro_n8, ro_w8, ro_i9, ro_g9, ro_n9, ro_w9, zu_eq, zu_ne, zu_zu, upd_zu, updL_zu, hi, Nat.le_refl]
  | e + 1, y, M, h, o4, o5, hy, hM => by
    have h6 := hW.2.1
    obtain ⟨M1, h1, p5, g1, g2, g3⟩ := C_mfk (n := n) (s := s) (c := c) (I := I) (J := J) (A := A) (B := B) (R := R) (Q := Q) (a := a) (j := j) (f := f) hg hT hga hW hi d t ht V hV hV2 y (by omega) T.1 0 M h o5 (by omega) hM
    obtain ⟨M2, h2, p4, p6, k1, k2, k3⟩ := C_mfy hg hT hga hW hi d t ht V hV hV2 e (y + 1) M1 h1 (some (.int (zn T.1))) p5 (by omega) (fun r c hr hc hq => g2 r c hr hc (by omega))
    refine ⟨M2, h2, p4, p6, fun q hq => by rw [k1 q hq, g1 q hq], k2, Eq.trans ?_ k3⟩
    rw [x72_2]
    simp (disch := first | omega | exact zb_1 | exact zb_0 | exact zb_n1 | exact zb_n0) only [x72_3, x72_4, x72_7, x72_10, x72_11, mq_dl_int, mq_dl_ref, mq_dl_null, mq_dl_none, mc_some, Option.toList_some, Option.toList_none, List.cons_append, List.nil_append, zb_1, zb_0, ↓reduceIte, if_true, if_false, not_true_eq_false, not_false_eq_true, Bool.false_eq_true, z_10, z_01, eq_self, Bool.and_self, true_or, or_true, false_or, or_false, true_and, and_true, false_and, and_false, and_self, or_self, Nat.reduceLT, Nat.reduceEqDiff, Nat.reduceLeDiff, Nat.reduceAdd, Nat.reduceMul, Nat.reduceSub, zn_lit, zn_add, zn_mul, zn_sub, zn_addneg, zn_lt, zn_le, zn_eq, zn_clamp, zn_in, zn_long, hp_1, hp_21, ro_0, ro_mo, ro_f0, ro_f1, ro_s1, ro_k1, ro_f2, ro_f3, ro_f4, ro_f5, ro_f6, ro_f7, ro_f8, ro_f9, ro_s9, ro_k9, ro_f10, ro_f11, ro_s11, ro_k11, ro_f12, ro_f13, ro_s13, ro_k13, ro_f14, ro_s14, ro_f15, ro_s15, ro_k15, ro_i1, ro_g1, ro_n1, ro_w1, ro_i2, ro_g2, ro_n2, ro_w2, ro_i3, ro_g3, ro_n3, ro_w3, ro_i4, ro_g4, ro_n4, ro_w4, ro_i5, ro_g5, ro_n5, ro_w5, ro_i6, ro_g6, ro_n6, ro_w6, ro_i7, ro_g7, ro_n7, ro_w7, ro_i8, ro_g8, ro_n8, ro_w8, ro_i9, ro_g9, ro_n9, ro_w9, zu_eq, zu_ne, zu_zu, upd_zu, updL_zu, hi, show ¬ T.1 ≤ y by omega]
    rw [g3]
    simp (disch := first | omega | exact zb_1 | exact zb_0 | exact zb_n1 | exact zb_n0) only [x72_74, x72_77, mq_dl_int, mq_dl_ref, mq_dl_null, mq_dl_none, mc_some, Option.toList_some, Option.toList_none, List.cons_append, List.nil_append, zb_1, zb_0, ↓reduceIte, if_true, if_false, not_true_eq_false, not_false_eq_true, Bool.false_eq_true, z_10, z_01, eq_self, Bool.and_self, true_or, or_true, false_or, or_false, true_and, and_true, false_and, and_false, and_self, or_self, Nat.reduceLT, Nat.reduceEqDiff, Nat.reduceLeDiff, Nat.reduceAdd, Nat.reduceMul, Nat.reduceSub, zn_lit, zn_add, zn_mul, zn_sub, zn_addneg, zn_lt, zn_le, zn_eq, zn_clamp, zn_in, zn_long]
theorem C_isg (hg : 46 ≤ g) (hT : TB c a T) (hga : a + 2 < g) (hW : WT T) (hi : i 1 = zn T.1) (d t : Nat) (ht : t < T.1) (V : Int) (hV : -1000 ≤ V) (hV2 : V ≤ 1000) (h : Nat → Nat → Int64) : ∃ b h', (∀ q, q ≠ 7 → h' q = h q) ∧ (∀ x, RH T x → x t = V → b = true) ∧ mz (d + 2) 72 0 [some (.ref g), some (.int (zn t)), some (.int (zi V)), none, none, none, none] [] (hp n s (ro c g a i j f h) I J A B R Q) = some (some (some (.int (zo b))), hp n s (ro c g a i j f h') I J A B R Q) := by
  have h6 := hW.2.1
  obtain ⟨M, h1, o4, o5, g1, g2, g3⟩ := C_mfy (n := n) (s := s) (c := c) (I := I) (J := J) (A := A) (B := B) (R := R) (Q := Q) (a := a) (j := j) (f := f) hg hT hga hW hi d t ht V hV hV2 T.1 0 (fun _ _ => 0) h none none (by omega) (fun r c _ _ hq => by omega)
  obtain ⟨b, h', k1, k2, k3⟩ := C_sgl (n := n) (s := s) (c := c) (I := I) (J := J) (A := A) (B := B) (R := R) (Q := Q) (a := a) (j := j) (f := f) hg hi h6 hW.1 d (zn t) (zi V) o5 none T.1 0 M h1 o4 (by omega) (fun r c hr hc => ⟨(g2 r c hr hc (Or.inl hr)).1, (g2 r c hr hc (Or.inl hr)).2.1⟩) ⟨fun r c _ _ h => by omega, fun r h => by omega⟩
  refine ⟨b, h', fun q hq => by rw [k1 q hq, g1 q hq], fun x hx hv => k2 x (KER_of hx ht hv g2) (by rw [hx.1]; decide), ?_⟩
  rw [← k3, ← g3]
  simp (disch := first | omega | exact zb_1 | exact zb_0 | exact zb_n1 | exact zb_n0) only [x72_0, x72_1, mq_dl_int, mq_dl_ref, mq_dl_null, mq_dl_none, mc_some, Option.toList_some, Option.toList_none, List.cons_append, List.nil_append, zb_1, zb_0, ↓reduceIte, if_true, if_false, not_true_eq_false, not_false_eq_true, Bool.false_eq_true, z_10, z_01, eq_self, Bool.and_self, true_or, or_true, false_or, or_false, true_and, and_true, false_and, and_false, and_self, or_self, Nat.reduceLT, Nat.reduceEqDiff, Nat.reduceLeDiff, Nat.reduceAdd, Nat.reduceMul, Nat.reduceSub, zn_lit, zn_add, zn_mul, zn_sub, zn_addneg, zn_lt, zn_le, zn_eq, zn_clamp, zn_in, zn_long]
def svT (T : ZT) (t : Nat) : Nat := zns (fun y => 2 * szT T y + 1) 0 t
theorem svT_s (T : ZT) (t : Nat) : svT T (t + 1) = svT T t + (2 * szT T t + 1) := by
  unfold svT
  rw [zns_last, Nat.zero_add]
theorem svT_le {T : ZT} (hW : WT T) (ho : orT T ≤ 60) {t : Nat} (ht : t < T.1) : svT T t + (2 * szT T t + 1) ≤ 126 := by
  rw [← svT_s]
  have h6 := hW.2.1
  have e : ∀ n k, zns (fun y => 2 * szT T y + 1) k n = 2 * zns (szT T) k n + n := by
    intro n
    induction n with
    | zero => intro k; rfl
    | succ n ih => intro k; simp only [zns]; rw [ih]; omega
  have h1 : zns (szT T) 0 (t + 1) ≤ orT T := by
    have h2 := zns_app (szT T) (T.1 - (t + 1)) (t + 1) 0
    rw [show (t + 1) + (T.1 - (t + 1)) = T.1 by omega] at h2
    unfold orT
    omega
  unfold svT
  rw [e]
  omega
/-- what the sift has told of the numbers of things up to t, of t itself up to q -/
def PSV (T : ZT) (t q : Nat) (f5 : Nat → Int32) : Prop := ∀ t' q', t' < T.1 → q' ≤ 2 * szT T t' → (t' < t ∨ t' = t ∧ q' < q) → ∃ b, f5 (svT T t' + q') = zo b ∧ ∀ x, RH T x → x t' = (q' : Int) - (szT T t' : Int) → b = true
theorem PSV_s {T : ZT} {t q : Nat} {f5 : Nat → Int32} {b : Bool} (ht : t < T.1) (hq : q ≤ 2 * szT T t) (h : PSV T t q f5) (hb : ∀ x, RH T x → x t = (q : Int) - (szT T t : Int) → b = true) : PSV T t (q + 1) (zu f5 (svT T t + q) (zo b)) := by
  intro t' q' h1 h2 h3
  by_cases e : t' = t ∧ q' = q
  · obtain ⟨rfl, rfl⟩ := e
    exact ⟨b, zu_eq _ _ _, hb⟩
  · have hlt : t' < t → svT T t' + (2 * szT T t' + 1) ≤ svT T t := by
      intro h4
      rw [← svT_s]
      have h5 := zns_app (fun y => 2 * szT T y + 1) (t - (t' + 1)) (t' + 1) 0
      rw [show (t' + 1) + (t - (t' + 1)) = t by omega] at h5
      unfold svT
      omega
    have hne : ¬ svT T t' + q' = svT T t + q := by
      by_cases q3 : t' = t
      · subst q3; omega
      · have := hlt (by omega)
        omega
    rw [zu_ne _ _ _ _ hne]
    exact h t' q' h1 h2 (by omega)
theorem C_sfq (hg : 46 ≤ g) (hT : TB c a T) (hga : a + 2 < g) (hW : WT T) (ho : orT T ≤ 60) (hi : i 1 = zn T.1) (d t : Nat) (ht : t < T.1) : ∀ (e q : Nat) (f : Nat → Nat → Int32) (h : Nat → Nat → Int64), q + e = 2 * szT T t + 1 → PSV T t q (f 5) → ∃ f' h', (∀ q, q ≠ 7 → h' q = h q) ∧ (∀ q, q ≠ 5 → f' q = f q) ∧ PSV T (t + 1) 0 (f' 5) ∧ mz (d + 3) 71 32 [some (.ref g), some (.int (zn (svT T t + q))), some (.int (zn t)), some (.int (zn (szT T t))), some (.int (zi ((q : Int) - (szT T t : Int))))] [] (hp n s (ro c g a i j f h) I J A B R Q) = mz (d + 3) 71 4 [some (.ref g), some (.int (zn (svT T (t + 1)))), some (.int (zn (t + 1))), some (.int (zn (szT T t))), some (.int (zi (((2 * szT T t + 1 : Nat) : Int) - (szT T t : Int))))] [] (hp n s (ro c g a i j f' h') I J A B R Q)
  | 0, q, f, h, hq, hP => by
    have h6 := hW.2.1
    have hst := svT_le hW ho ht
    have e : q = 2 * szT T t + 1 := by omega
    subst e
    refine ⟨f, h, fun _ _ => rfl, fun _ _ => rfl, fun t' q' h1 h2 h3 => hP t' q' h1 h2 (by
      by_cases z : t' = t
      · subst z; omega
      · omega), ?_⟩
    rw [svT_s]
    simp (disch := first | omega | exact zb_1 | exact zb_0 | exact zb_n1 | exact zb_n0) only [x71_32, x71_34, x71_35, x71_67, x71_70, mq_dl_int, mq_dl_ref, mq_dl_null, mq_dl_none, mc_some, Option.toList_some, Option.toList_none, List.cons_append, List.nil_append, zb_1, zb_0, ↓reduceIte, if_true, if_false, not_true_eq_false, not_false_eq_true, Bool.false_eq_true, z_10, z_01, eq_self, Bool.and_self, true_or, or_true, false_or, or_false, true_and, and_true, false_and, and_false, and_self, or_self, Nat.reduceLT, Nat.reduceEqDiff, Nat.reduceLeDiff, Nat.reduceAdd, Nat.reduceMul, Nat.reduceSub, zn_lit, zn_add, zn_mul, zn_sub, zn_addneg, zn_lt, zn_le, zn_eq, zn_clamp, zn_in, zn_long, zc_gt, show 2 * szT T t < 2 * szT T t + 1 by omega]
  | e + 1, q, f, h, hq, hP => by
    have h6 := hW.2.1
    have hst := svT_le hW ho ht
    obtain ⟨b, h1, g1, g2, g3⟩ := C_isg (n := n) (s := s) (c := c) (I := I) (J := J) (A := A) (B := B) (R := R) (Q := Q) (j := j) (f := f) hg hT hga hW hi d t ht ((q : Int) - (szT T t : Int)) (by omega) (by omega) h
    obtain ⟨f', h', k1, k2, k3, k4⟩ := C_sfq hg hT hga hW ho hi d t ht e (q + 1) (zu f 5 (zu (f 5) (svT T t + q) (zo b))) h1 (by omega) (by rw [zu_eq]; exact PSV_s ht (by omega) hP g2)
    refine ⟨f', h', fun q hq => by rw [k1 q hq, g1 q hq], fun q hq => by rw [k2 q hq, zu_ne _ _ _ _ hq], k3, Eq.trans ?_ k4⟩
    rw [x71_32]
    simp (disch := first | omega | exact zb_1 | exact zb_0 | exact zb_n1 | exact zb_n0) only [x71_34, x71_35, x71_38, x71_39, x71_42, x71_45, x71_46, x71_49, x71_50, x71_51, x71_52, x71_54, x71_57, x71_58, x71_61, x71_64, mq_dl_int, mq_dl_ref, mq_dl_null, mq_dl_none, mc_some, Option.toList_some, Option.toList_none, List.cons_append, List.nil_append, zb_1, zb_0, ↓reduceIte, if_true, if_false, not_true_eq_false, not_false_eq_true, Bool.false_eq_true, z_10, z_01, eq_self, Bool.and_self, true_or, or_true, false_or, or_false, true_and, and_true, false_and, and_false, and_self, or_self, Nat.reduceLT, Nat.reduceEqDiff, Nat.reduceLeDiff, Nat.reduceAdd, Nat.reduceMul, Nat.reduceSub, zn_lit, zn_add, zn_mul, zn_sub, zn_addneg, zn_lt, zn_le, zn_eq, zn_clamp, zn_in, zn_long, zc_gt, zc_inc, zo_1n, hp_1, hp_21, ro_0, ro_mo, ro_f0, ro_f1, ro_s1, ro_k1, ro_f2, ro_f3, ro_f4, ro_f5, ro_f6, ro_f7, ro_f8, ro_f9, ro_s9, ro_k9, ro_f10, ro_f11, ro_s11, ro_k11, ro_f12, ro_f13, ro_s13, ro_k13, ro_f14, ro_s14, ro_f15, ro_s15, ro_k15, ro_i1, ro_g1, ro_n1, ro_w1, ro_i2, ro_g2, ro_n2, ro_w2, ro_i3, ro_g3, ro_n3, ro_w3, ro_i4, ro_g4, ro_n4, ro_w4, ro_i5, ro_g5, ro_n5, ro_w5, ro_i6, ro_g6, ro_n6, ro_w6, ro_i7, ro_g7, ro_n7, ro_w7, ro_i8, ro_g8, ro_n8, ro_w8, ro_i9, ro_g9, ro_n9, ro_w9, zu_eq, zu_ne, zu_zu, upd_zu, updL_zu, hi, g3, show ¬ 2 * szT T t < q by omega, show ¬ 128 ≤ svT T t + q by omega, show svT T t + q < 128 by omega, decide_true, Nat.add_assoc]
theorem C_sft (hg : 46 ≤ g) (hT : TB c a T) (hga : a + 2 < g) (hW : WT T) (ho : orT T ≤ 60) (hi : i 1 = zn T.1) (d : Nat) : ∀ (e t : Nat) (f : Nat → Nat → Int32) (h : Nat → Nat → Int64) (o3 o4 : Option Value), t + e = T.1 → PSV T t 0 (f 5) → (∀ y, y < t → f 4 y = zn (svT T y)) → ∃ f' h', (∀ q, q ≠ 7 → h' q = h q) ∧ (∀ q, q ≠ 5 → q ≠ 4 → f' q = f q) ∧ PSV T T.1 0 (f' 5) ∧ (∀ y, y < T.1 → f' 4 y = zn (svT T y)) ∧ mz (d + 3) 71 4 [some (.ref g), some (.int (zn (svT T t))), some (.int (zn t)), o3, o4] [] (hp n s (ro c g a i j f h) I J A B R Q) = some (some none, hp n s (ro c g a i j f' h') I J A B R Q)
  | 0, t, f, h, o3, o4, he, hP, hs => by
    have h6 := hW.2.1
    have e : t = T.1 := by omega
    subst e
    refine ⟨f, h, fun _ _ => rfl, fun _ _ _ => rfl, hP, hs, ?_⟩
    simp (disch := first | omega | exact zb_1 | exact zb_0 | exact zb_n1 | exact zb_n0) only [x71_4, x71_5, x71_6, x71_9, x71_73, mq_dl_int, mq_dl_ref, mq_dl_null, mq_dl_none, mc_some, Option.toList_some, Option.toList_none, List.cons_append, List.nil_append, zb_1, zb_0, ↓reduceIte, if_true, if_false, not_true_eq_false, not_false_eq_true, Bool.false_eq_true, z_10, z_01, eq_self, Bool.and_self, true_or, or_true, false_or, or_false, true_and, and_true, false_and, and_false, and_self, or_self, Nat.reduceLT, Nat.reduceEqDiff, Nat.reduceLeDiff, Nat.reduceAdd, Nat.reduceMul, Nat.reduceSub, zn_lit, zn_add, zn_mul, zn_sub, zn_addneg, zn_lt, zn_le, zn_eq, zn_clamp, zn_in, zn_long, hp_1, hp_21, ro_0, ro_mo, ro_f0, ro_f1, ro_s1, ro_k1, ro_f2, ro_f3, ro_f4, ro_f5, ro_f6, ro_f7, ro_f8, ro_f9, ro_s9, ro_k9, ro_f10, ro_f11, ro_s11, ro_k11, ro_f12, ro_f13, ro_s13, ro_k13, ro_f14, ro_s14, ro_f15, ro_s15, ro_k15, ro_i1, ro_g1, ro_n1, ro_w1, ro_i2, ro_g2, ro_n2, ro_w2, ro_i3, ro_g3, ro_n3, ro_w3, ro_i4, ro_g4, ro_n4, ro_w4, ro_i5, ro_g5, ro_n5, ro_w5, ro_i6, ro_g6, ro_n6, ro_w6, ro_i7, ro_g7, ro_n7, ro_w7, ro_i8, ro_g8, ro_n8, ro_w8, ro_i9, ro_g9, ro_n9, ro_w9, zu_eq, zu_ne, zu_zu, upd_zu, updL_zu, hi, Nat.le_refl]
  | e + 1, t, f, h, o3, o4, he, hP, hs => by
    have h6 := hW.2.1
    have ht : t < T.1 := by omega
    have hst := svT_le hW ho ht
    have hT1 : TB (ro c g a i j (zu f 4 (zu (f 4) t (zn (svT T t)))) h) a T := TB_ro hT (Or.inl hga)
    obtain ⟨f1, h1, g1, g2, g3, g4⟩ := C_sfq (n := n) (s := s) (c := c) (I := I) (J := J) (A := A) (B := B) (R := R) (Q := Q) (j := j) hg hT hga hW ho hi d t ht (2 * szT T t + 1) 0 (zu f 4 (zu (f 4) t (zn (svT T t)))) h (by omega) (by rw [zu_ne _ _ _ _ (by omega)]; exact hP)
    obtain ⟨f', h', k1, k2, k3, k5, k4⟩ := C_sft hg hT hga hW ho hi d e (t + 1) f1 h1 (some (.int (zn (szT T t)))) (some (.int (zi (((2 * szT T t + 1 : Nat) : Int) - (szT T t : Int))))) (by omega) g3 (fun y hy => by
      rw [g2 4 (by omega), zu_eq]
      by_cases q : y = t
      · subst q; rw [zu_eq]
      · rw [zu_ne _ _ _ _ q]; exact hs y (by omega))
    refine ⟨f', h', fun q hq => by rw [k1 q hq, g1 q hq], fun q hq hq2 => by rw [k2 q hq hq2, g2 q hq, zu_ne _ _ _ _ hq2], k3, k5, Eq.trans ?_ k4⟩
    rw [← g4, x71_4]
    simp (disch := first | omega | exact zb_1 | exact zb_0 | exact zb_n1 | exact zb_n0) only [x71_5, x71_6, x71_9, x71_12, x71_13, x71_16, x71_17, x71_18, x71_19, x71_20, x71_23, x71_24, x71_27, x71_28, x71_29, x71_30, mq_dl_int, mq_dl_ref, mq_dl_null, mq_dl_none, mc_some, Option.toList_some, Option.toList_none, List.cons_append, List.nil_append, zb_1, zb_0, ↓reduceIte, if_true, if_false, not_true_eq_false, not_false_eq_true, Bool.false_eq_true, z_10, z_01, eq_self, Bool.and_self, true_or, or_true, false_or, or_false, true_and, and_true, false_and, and_false, and_self, or_self, Nat.reduceLT, Nat.reduceEqDiff, Nat.reduceLeDiff, Nat.reduceAdd, Nat.reduceMul, Nat.reduceSub, zn_lit, zn_add, zn_mul, zn_sub, zn_addneg, zn_lt, zn_le, zn_eq, zn_clamp, zn_in, zn_long, zc_neg, hp_1, hp_21, ro_0, ro_mo, ro_f0, ro_f1, ro_s1, ro_k1, ro_f2, ro_f3, ro_f4, ro_f5, ro_f6, ro_f7, ro_f8, ro_f9, ro_s9, ro_k9, ro_f10, ro_f11, ro_s11, ro_k11, ro_f12, ro_f13, ro_s13, ro_k13, ro_f14, ro_s14, ro_f15, ro_s15, ro_k15, ro_i1, ro_g1, ro_n1, ro_w1, ro_i2, ro_g2, ro_n2, ro_w2, ro_i3, ro_g3, ro_n3, ro_w3, ro_i4, ro_g4, ro_n4, ro_w4, ro_i5, ro_g5, ro_n5, ro_w5, ro_i6, ro_g6, ro_n6, ro_w6, ro_i7, ro_g7, ro_n7, ro_w7, ro_i8, ro_g8, ro_n8, ro_w8, ro_i9, ro_g9, ro_n9, ro_w9, zu_eq, zu_ne, zu_zu, upd_zu, updL_zu, hi, tb_0 hT1, T_size hT1 hW, show ¬ T.1 ≤ t by omega, show t < 6 by omega, decide_true, Nat.add_zero]
theorem C_sift (hg : 46 ≤ g) (hT : TB c a T) (hga : a + 2 < g) (hW : WT T) (ho : orT T ≤ 60) (hi : i 1 = zn T.1) (d : Nat) (f : Nat → Nat → Int32) (h : Nat → Nat → Int64) : ∃ f' h', (∀ q, q ≠ 7 → h' q = h q) ∧ (∀ q, q ≠ 5 → q ≠ 4 → f' q = f q) ∧ PSV T T.1 0 (f' 5) ∧ (∀ y, y < T.1 → f' 4 y = zn (svT T y)) ∧ mz (d + 3) 71 0 [some (.ref g), none, none, none, none] [] (hp n s (ro c g a i j f h) I J A B R Q) = some (some none, hp n s (ro c g a i j f' h') I J A B R Q) := by
  obtain ⟨f', h', g1, g2, g3, g4, g5⟩ := C_sft (n := n) (s := s) (c := c) (I := I) (J := J) (A := A) (B := B) (R := R) (Q := Q) (j := j) hg hT hga hW ho hi d T.1 0 f h none none (by omega) (fun t' q' _ _ h3 => by omega) (fun y hy => by omega)
  refine ⟨f', h', g1, g2, g3, g4, ?_⟩
  rw [← g5]
  simp (disch := first | omega | exact zb_1 | exact zb_0 | exact zb_n1 | exact zb_n0) only [x71_0, x71_1, x71_2, x71_3, mq_dl_int, mq_dl_ref, mq_dl_null, mq_dl_none, mc_some, Option.toList_some, Option.toList_none, List.cons_append, List.nil_append, zb_1, zb_0, ↓reduceIte, if_true, if_false, not_true_eq_false, not_false_eq_true, Bool.false_eq_true, z_10, z_01, eq_self, Bool.and_self, true_or, or_true, false_or, or_false, true_and, and_true, false_and, and_false, and_self, or_self, Nat.reduceLT, Nat.reduceEqDiff, Nat.reduceLeDiff, Nat.reduceAdd, Nat.reduceMul, Nat.reduceSub, zn_lit, zn_add, zn_mul, zn_sub, zn_addneg, zn_lt, zn_le, zn_eq, zn_clamp, zn_in, zn_long, svT, zns]
end RI
