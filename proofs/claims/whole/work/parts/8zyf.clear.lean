/-! ROWS: the class clears a row below a pivot -/
theorem zln_sub_i (a b : Nat) : zln a - zln b = zli ((a : Int) - (b : Int)) := by rw [zli_nat, zli_nat, zli_sub]
theorem C_fmN (d : Nat) (X : Int) (h1 : -9223372036854775808 < X) (h2 : X < 9223372036854775808) (h : mq_H) : ∃ r : Nat, r < 2147483647 ∧ (2147483647 : Int) ∣ X - (r : Int) ∧ mz d 287 0 [some (.long (zli X)), none, some (.long (zln 2147483647)), none, none, none] [] h = some (some (some (.long (zln r))), h) := by
  obtain ⟨r, g1, g2, g3⟩ := C_fmod d X h1 h2 h
  refine ⟨r, g1, g2, ?_⟩
  rw [show zln 2147483647 = zli 2147483647 from zli_nat 2147483647]
  exact g3
def CLR (m : Nat) (M : Nat → Nat → Nat) (k r c : Nat) (N : Nat → Nat) (f : Nat → Int64) : Prop := (∀ r' c', r' < m → c' < m → f (r' * 6 + c') = zln (if r' = r ∧ k ≤ c' ∧ c' < c then N c' else M r' c')) ∧ ∀ c', k ≤ c' → c' < c → N c' < 2147483647 ∧ (2147483647 : Int) ∣ ((M r c' : Int) * (M k k : Int) - (M k c' : Int) * (M r k : Int)) - (N c' : Int)
theorem CLR_s {m k r c v : Nat} {M : Nat → Nat → Nat} {N : Nat → Nat} {f : Nat → Int64} (hm : m ≤ 6) (hc : c < m) (hr : r < m) (hk : k ≤ c) (h : CLR m M k r c N f) (h1 : v < 2147483647) (h2 : (2147483647 : Int) ∣ ((M r c : Int) * (M k k : Int) - (M k c : Int) * (M r k : Int)) - (v : Int)) : CLR m M k r (c + 1) (zu N c v) (zu f (r * 6 + c) (zln v)) := by
  refine ⟨fun r' c' hr' hc' => ?_, fun c' h3 h4 => ?_⟩
  · by_cases q : r' = r ∧ c' = c
    · obtain ⟨rfl, rfl⟩ := q
      rw [zu_eq, if_pos ⟨rfl, hk, by omega⟩, zu_eq]
    · rw [zu_ne _ _ _ _ (by omega), h.1 r' c' hr' hc']
      by_cases q1 : r' = r ∧ k ≤ c' ∧ c' < c
      · rw [if_pos q1, if_pos (by omega), zu_ne _ _ _ _ (by omega)]
      · rw [if_neg q1, if_neg (by omega)]
  · by_cases q : c' = c
    · subst q
      rw [zu_eq]
      exact ⟨h1, h2⟩
    · rw [zu_ne _ _ _ _ q]
      exact h.2 c' h3 (by omega)
section RC
variable {n s : Nat} {c : Nat → mq_E} {I : Nat → Int32} {J : Nat → Int64} {A : Nat → Nat → Int32} {B : Nat → Nat → Int64} {R : Nat → Value} {Q : Nat → Nat → Option Nat}
variable {g a m : Nat} {i : Nat → Int32} {j : Nat → Int64} {f : Nat → Nat → Int32} {M : Nat → Nat → Nat}
theorem C_cli (hg : 46 ≤ g) (hi : i 1 = zn m) (hm : m ≤ 6) (hM : ∀ r c, r < m → c < m → M r c < 2147483647) (d k r : Nat) (hk : k < r) (hr : r < m) : ∀ (e z : Nat) (N : Nat → Nat) (h : Nat → Nat → Int64) (o8 o9 : Option Value), z + e = m → k ≤ z → CLR m M k r z N (h 7) → ∃ N' h' o8' o9', (∀ q, q ≠ 7 → h' q = h q) ∧ CLR m M k r m N' (h' 7) ∧ mz (d + 1) 75 43 [some (.ref g), some (.int (zn k)), some (.long (zln (M k k))), none, some (.int (zn r)), some (.long (zln (M r k))), none, some (.int (zn z)), o8, o9] [] (hp n s (ro c g a i j f h) I J A B R Q) = mz (d + 1) 75 112 [some (.ref g), some (.int (zn k)), some (.long (zln (M k k))), none, some (.int (zn r)), some (.long (zln (M r k))), none, some (.int (zn m)), o8', o9'] [] (hp n s (ro c g a i j f h') I J A B R Q)
  | 0, z, N, h, o8, o9, hz, hkz, hs => by
    have e : z = m := by omega
    subst e
    refine ⟨N, h, o8, o9, fun _ _ => rfl, hs, ?_⟩
    simp (disch := first | omega | exact zb_1 | exact zb_0 | exact zb_n1 | exact zb_n0) only [x75_43, x75_45, x75_46, x75_49, mq_dl_int, mq_dl_ref, mq_dl_null, mq_dl_none, mc_some, Option.toList_some, Option.toList_none, List.cons_append, List.nil_append, zb_1, zb_0, ↓reduceIte, if_true, if_false, not_true_eq_false, not_false_eq_true, Bool.false_eq_true, z_10, z_01, eq_self, Bool.and_self, true_or, or_true, false_or, or_false, true_and, and_true, false_and, and_false, and_self, or_self, Nat.reduceLT, Nat.reduceEqDiff, Nat.reduceLeDiff, Nat.reduceAdd, Nat.reduceMul, Nat.reduceSub, zn_lit, zn_add, zn_mul, zn_sub, zn_addneg, zn_lt, zn_le, zn_eq, zn_clamp, zn_in, zn_long, hp_1, hp_21, ro_0, ro_mo, ro_f0, ro_f1, ro_s1, ro_k1, ro_f2, ro_f3, ro_f4, ro_f5, ro_f6, ro_f7, ro_f8, ro_f9, ro_s9, ro_k9, ro_f10, ro_f11, ro_s11, ro_k11, ro_f12, ro_f13, ro_s13, ro_k13, ro_f14, ro_s14, ro_f15, ro_s15, ro_k15, ro_i1, ro_g1, ro_n1, ro_w1, ro_i2, ro_g2, ro_n2, ro_w2, ro_i3, ro_g3, ro_n3, ro_w3, ro_i4, ro_g4, ro_n4, ro_w4, ro_i5, ro_g5, ro_n5, ro_w5, ro_i6, ro_g6, ro_n6, ro_w6, ro_i7, ro_g7, ro_n7, ro_w7, ro_i8, ro_g8, ro_n8, ro_w8, ro_i9, ro_g9, ro_n9, ro_w9, zu_eq, zu_ne, zu_zu, upd_zu, updL_zu, hi, Nat.le_refl]
  | e + 1, z, N, h, o8, o9, hz, hkz, hs => by
    have hzm : z < m := by omega
    have e1 := hs.1 r z hr hzm
    have e2 := hs.1 k z (by omega) hzm
    rw [if_neg (by omega)] at e1 e2
    have b1 := hM r z hr hzm
    have b2 := hM k k (by omega) (by omega)
    have b3 := hM k z (by omega) hzm
    have b4 := hM r k hr (by omega)
    have p1 : M r z * M k k ≤ 2147483646 * 2147483646 := Nat.mul_le_mul (by omega) (by omega)
    have p2 : M k z * M r k ≤ 2147483646 * 2147483646 := Nat.mul_le_mul (by omega) (by omega)
    obtain ⟨v, v1, v2, v3⟩ := C_fmN d (((M r z * M k k : Nat) : Int) - ((M k z * M r k : Nat) : Int)) (by omega) (by omega) (hp n s (ro c g a i j f h) I J A B R Q)
    have hs' := CLR_s hm hzm hr hkz hs v1 (by rw [Int.natCast_mul, Int.natCast_mul] at v2; exact v2)
    obtain ⟨N', h', o8', o9', g1, g2, g3⟩ := C_cli hg hi hm hM d k r hk hr e (z + 1) _ (zu h 7 (zu (h 7) (r * 6 + z) (zln v))) (some (.long (zli (((M r z * M k k : Nat) : Int) - ((M k z * M r k : Nat) : Int))))) none (by omega) (by omega) (by rw [zu_eq]; exact hs')
    refine ⟨N', h', o8', o9', fun q hq => by rw [g1 q hq, zu_ne _ _ _ _ hq], g2, Eq.trans ?_ g3⟩
    rw [x75_43]
    simp (disch := first | omega | exact zb_1 | exact zb_0 | exact zb_n1 | exact zb_n0) only [x75_45, x75_46, x75_49, x75_52, x75_53, x75_56, x75_58, x75_60, x75_61, x75_63, x75_64, x75_65, x75_66, x75_67, x75_68, x75_71, x75_72, x75_74, x75_75, x75_77, x75_78, x75_79, x75_81, x75_82, x75_83, x75_85, x75_86, x75_89, x75_91, x75_93, x75_94, x75_96, x75_97, x75_99, x75_102, x75_105, x75_106, x75_109, mq_dl_int, mq_dl_ref, mq_dl_null, mq_dl_none, mc_some, Option.toList_some, Option.toList_none, List.cons_append, List.nil_append, zb_1, zb_0, ↓reduceIte, if_true, if_false, not_true_eq_false, not_false_eq_true, Bool.false_eq_true, z_10, z_01, eq_self, Bool.and_self, true_or, or_true, false_or, or_false, true_and, and_true, false_and, and_false, and_self, or_self, Nat.reduceLT, Nat.reduceEqDiff, Nat.reduceLeDiff, Nat.reduceAdd, Nat.reduceMul, Nat.reduceSub, zn_lit, zn_add, zn_mul, zn_sub, zn_addneg, zn_lt, zn_le, zn_eq, zn_clamp, zn_in, zn_long, zln_lit, zln_add, zln_mul, zln_lt, zln_le, zln_eq, zln_int, hp_1, hp_21, ro_0, ro_mo, ro_f0, ro_f1, ro_s1, ro_k1, ro_f2, ro_f3, ro_f4, ro_f5, ro_f6, ro_f7, ro_f8, ro_f9, ro_s9, ro_k9, ro_f10, ro_f11, ro_s11, ro_k11, ro_f12, ro_f13, ro_s13, ro_k13, ro_f14, ro_s14, ro_f15, ro_s15, ro_k15, ro_i1, ro_g1, ro_n1, ro_w1, ro_i2, ro_g2, ro_n2, ro_w2, ro_i3, ro_g3, ro_n3, ro_w3, ro_i4, ro_g4, ro_n4, ro_w4, ro_i5, ro_g5, ro_n5, ro_w5, ro_i6, ro_g6, ro_n6, ro_w6, ro_i7, ro_g7, ro_n7, ro_w7, ro_i8, ro_g8, ro_n8, ro_w8, ro_i9, ro_g9, ro_n9, ro_w9, zu_eq, zu_ne, zu_zu, upd_zu, updL_zu, hi, e1, e2, zln_sub_i, v3, show ¬ m ≤ z by omega, show r * 6 + z < 36 by omega, show k * 6 + z < 36 by omega, decide_true]
end RC
