/-! ROWS: the class clears below a pivot -/
def MAT (m : Nat) (M : Nat → Nat → Nat) (f : Nat → Int64) : Prop := ∀ r c, r < m → c < m → f (r * 6 + c) = zln (M r c) ∧ M r c < 2147483647
def CLB (m k r : Nat) (M M' : Nat → Nat → Nat) : Prop := (∀ r' c, r' < m → c < m → (r' < r ∨ c < k) → M' r' c = M r' c) ∧ ∀ r' c, r ≤ r' → r' < m → k ≤ c → c < m → (2147483647 : Int) ∣ ((M r' c : Int) * (M k k : Int) - (M k c : Int) * (M r' k : Int)) - (M' r' c : Int)
section RD
variable {n s : Nat} {c : Nat → mq_E} {I : Nat → Int32} {J : Nat → Int64} {A : Nat → Nat → Int32} {B : Nat → Nat → Int64} {R : Nat → Value} {Q : Nat → Nat → Option Nat}
variable {g a m : Nat} {i : Nat → Int32} {j : Nat → Int64} {f : Nat → Nat → Int32}
theorem C_clb (hg : 46 ≤ g) (hi : i 1 = zn m) (hm : m ≤ 6) (d k P : Nat) (hk : k < m) : ∀ (e r : Nat) (M : Nat → Nat → Nat) (h : Nat → Nat → Int64) (o5 o6 o7 o8 o9 : Option Value), r + e = m → k < r → M k k = P → MAT m M (h 7) → ∃ M' h', (∀ q, q ≠ 7 → h' q = h q) ∧ MAT m M' (h' 7) ∧ CLB m k r M M' ∧ mz (d + 1) 75 17 [some (.ref g), some (.int (zn k)), some (.long (zln P)), none, some (.int (zn r)), o5, o6, o7, o8, o9] [] (hp n s (ro c g a i j f h) I J A B R Q) = some (some none, hp n s (ro c g a i j f h') I J A B R Q)
  | 0, r, M, h, o5, o6, o7, o8, o9, hr, hkr, hP, hM => by
    have e : r = m := by omega
    subst e
    refine ⟨M, h, fun _ _ => rfl, hM, ⟨fun _ _ _ _ _ => rfl, fun r' c h1 h2 => by omega⟩, ?_⟩
    simp (disch := first | omega | exact zb_1 | exact zb_0 | exact zb_n1 | exact zb_n0) only [x75_17, x75_19, x75_20, x75_23, x75_118, mq_dl_int, mq_dl_ref, mq_dl_null, mq_dl_none, mc_some, Option.toList_some, Option.toList_none, List.cons_append, List.nil_append, zb_1, zb_0, ↓reduceIte, if_true, if_false, not_true_eq_false, not_false_eq_true, Bool.false_eq_true, z_10, z_01, eq_self, Bool.and_self, true_or, or_true, false_or, or_false, true_and, and_true, false_and, and_false, and_self, or_self, Nat.reduceLT, Nat.reduceEqDiff, Nat.reduceLeDiff, Nat.reduceAdd, Nat.reduceMul, Nat.reduceSub, zn_lit, zn_add, zn_mul, zn_sub, zn_addneg, zn_lt, zn_le, zn_eq, zn_clamp, zn_in, zn_long, hp_1, hp_21, ro_0, ro_mo, ro_f0, ro_f1, ro_s1, ro_k1, ro_f2, ro_f3, ro_f4, ro_f5, ro_f6, ro_f7, ro_f8, ro_f9, ro_s9, ro_k9, ro_f10, ro_f11, ro_s11, ro_k11, ro_f12, ro_f13, ro_s13, ro_k13, ro_f14, ro_s14, ro_f15, ro_s15, ro_k15, ro_i1, ro_g1, ro_n1, ro_w1, ro_i2, ro_g2, ro_n2, ro_w2, ro_i3, ro_g3, ro_n3, ro_w3, ro_i4, ro_g4, ro_n4, ro_w4, ro_i5, ro_g5, ro_n5, ro_w5, ro_i6, ro_g6, ro_n6, ro_w6, ro_i7, ro_g7, ro_n7, ro_w7, ro_i8, ro_g8, ro_n8, ro_w8, ro_i9, ro_g9, ro_n9, ro_w9, zu_eq, zu_ne, zu_zu, upd_zu, updL_zu, hi, Nat.le_refl]
  | e + 1, r, M, h, o5, o6, o7, o8, o9, hr, hkr, hP, hM => by
    have hrm : r < m := by omega
    obtain ⟨N, h1, p8, p9, g1, g2, g3⟩ := C_cli (n := n) (s := s) (c := c) (I := I) (J := J) (A := A) (B := B) (R := R) (Q := Q) (a := a) (j := j) (f := f) hg hi hm (fun r c hr hc => (hM r c hr hc).2) d k r hkr hrm (m - k) k (fun _ => 0) h o8 o9 (by omega) (Nat.le_refl _) ⟨fun r' c' h1 h2 => by rw [if_neg (by omega)]; exact (hM r' c' h1 h2).1, fun c' h1 h2 => by omega⟩
    obtain ⟨M1, hM1⟩ : ∃ M1 : Nat → Nat → Nat, M1 = fun r' c' => if r' = r ∧ k ≤ c' ∧ c' < m then N c' else M r' c' := ⟨_, rfl⟩
    have k1 : ∀ r' c', ¬ (r' = r ∧ k ≤ c' ∧ c' < m) → M1 r' c' = M r' c' := fun r' c' q => by rw [hM1]; exact if_neg q
    have k2 : ∀ c', k ≤ c' → c' < m → M1 r c' = N c' := fun c' q1 q2 => by rw [hM1]; exact if_pos ⟨rfl, q1, q2⟩
    have hM1' : MAT m M1 (h1 7) := by
      intro r' c' hr' hc'
      have h2 := g2.1 r' c' hr' hc'
      by_cases q : r' = r ∧ k ≤ c' ∧ c' < m
      · obtain ⟨rfl, q1, q2⟩ := q
        rw [if_pos ⟨rfl, q1, q2⟩] at h2
        rw [k2 c' q1 q2]
        exact ⟨h2, (g2.2 c' q1 q2).1⟩
      · rw [if_neg q] at h2
        rw [k1 r' c' q]
        exact ⟨h2, (hM r' c' hr' hc').2⟩
    obtain ⟨M', h', f1, f2, f3, f4⟩ := C_clb hg hi hm d k P hk e (r + 1) M1 h1 (some (.long (zln (M r k)))) none (some (.int (zn m))) p8 p9 (by omega) (by omega) (by rw [k1 k k (by omega)]; exact hP) hM1'
    refine ⟨M', h', fun q hq => by rw [f1 q hq, g1 q hq], f2, ⟨fun r' c' hr' hc' hq => ?_, fun r' c' h2 h3 h4 h5 => ?_⟩, Eq.trans ?_ f4⟩
    · rw [f3.1 r' c' hr' hc' (by omega), k1 r' c' (by omega)]
    · by_cases q : r' = r
      · subst q
        rw [f3.1 r' c' h3 h5 (by omega), k2 c' h4 h5]
        exact (g2.2 c' h4 h5).2
      · have h6 := f3.2 r' c' (by omega) h3 h4 h5
        rw [k1 r' c' (by omega), k1 k k (by omega), k1 k c' (by omega), k1 r' k (by omega)] at h6
        exact h6
    · have e1 := (hM r k hrm hk).1
      rw [hP] at g3
      rw [x75_17]
      simp (disch := first | omega | exact zb_1 | exact zb_0 | exact zb_n1 | exact zb_n0) only [x75_19, x75_20, x75_23, x75_26, x75_27, x75_30, x75_32, x75_34, x75_35, x75_36, x75_37, x75_38, x75_40, x75_41, x75_112, x75_115, mq_dl_int, mq_dl_ref, mq_dl_null, mq_dl_none, mc_some, Option.toList_some, Option.toList_none, List.cons_append, List.nil_append, zb_1, zb_0, ↓reduceIte, if_true, if_false, not_true_eq_false, not_false_eq_true, Bool.false_eq_true, z_10, z_01, eq_self, Bool.and_self, true_or, or_true, false_or, or_false, true_and, and_true, false_and, and_false, and_self, or_self, Nat.reduceLT, Nat.reduceEqDiff, Nat.reduceLeDiff, Nat.reduceAdd, Nat.reduceMul, Nat.reduceSub, zn_lit, zn_add, zn_mul, zn_sub, zn_addneg, zn_lt, zn_le, zn_eq, zn_clamp, zn_in, zn_long, hp_1, hp_21, ro_0, ro_mo, ro_f0, ro_f1, ro_s1, ro_k1, ro_f2, ro_f3, ro_f4, ro_f5, ro_f6, ro_f7, ro_f8, ro_f9, ro_s9, ro_k9, ro_f10, ro_f11, ro_s11, ro_k11, ro_f12, ro_f13, ro_s13, ro_k13, ro_f14, ro_s14, ro_f15, ro_s15, ro_k15, ro_i1, ro_g1, ro_n1, ro_w1, ro_i2, ro_g2, ro_n2, ro_w2, ro_i3, ro_g3, ro_n3, ro_w3, ro_i4, ro_g4, ro_n4, ro_w4, ro_i5, ro_g5, ro_n5, ro_w5, ro_i6, ro_g6, ro_n6, ro_w6, ro_i7, ro_g7, ro_n7, ro_w7, ro_i8, ro_g8, ro_n8, ro_w8, ro_i9, ro_g9, ro_n9, ro_w9, zu_eq, zu_ne, zu_zu, upd_zu, updL_zu, hi, e1, g3, show ¬ m ≤ r by omega, show r * 6 + k < 36 by omega, decide_true]
end RD
