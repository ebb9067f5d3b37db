/-! ROWS: the class changes two rows -/
def swp (x y r : Nat) : Nat := if r = x then y else if r = y then x else r
def SWI (m : Nat) (M : Nat → Nat → Nat) (x y k : Nat) (f : Nat → Int64) : Prop := ∀ r c, r < m → c < m → f (r * 6 + c) = zln (if c < k then M (swp x y r) c else M r c)
theorem SWI_s {m k x y : Nat} {M : Nat → Nat → Nat} {f : Nat → Int64} (hm : m ≤ 6) (hk : k < m) (hx : x < m) (hy : y < m) (h : SWI m M x y k f) : SWI m M x y (k + 1) (zu (zu f (x * 6 + k) (zln (M y k))) (y * 6 + k) (zln (M x k))) := by
  intro r c hr hc
  by_cases q : c = k
  · subst q
    rw [if_pos (by omega)]
    unfold swp
    by_cases q1 : r = y
    · subst q1
      rw [zu_eq]
      by_cases q2 : r = x
      · rw [if_pos q2, q2]
      · rw [if_neg q2, if_pos rfl]
    · rw [zu_ne _ _ _ _ (by omega)]
      by_cases q2 : r = x
      · subst q2
        rw [zu_eq, if_pos rfl]
      · rw [zu_ne _ _ _ _ (by omega), h r c hr hc, if_neg (by omega), if_neg q2, if_neg q1]
  · rw [zu_ne _ _ _ _ (by omega), zu_ne _ _ _ _ (by omega), h r c hr hc]
    by_cases q1 : c < k
    · rw [if_pos q1, if_pos (by omega)]
    · rw [if_neg q1, if_neg (by omega)]
section RS
variable {n s : Nat} {c : Nat → mq_E} {I : Nat → Int32} {J : Nat → Int64} {A : Nat → Nat → Int32} {B : Nat → Nat → Int64} {R : Nat → Value} {Q : Nat → Nat → Option Nat}
variable {g a m : Nat} {i : Nat → Int32} {j : Nat → Int64} {f : Nat → Nat → Int32} {M : Nat → Nat → Nat}
theorem C_swl (hg : 46 ≤ g) (hi : i 1 = zn m) (hm : m ≤ 6) (d x y : Nat) (hx : x < m) (hy : y < m) : ∀ (e k : Nat) (h : Nat → Nat → Int64) (o4 : Option Value), k + e = m → SWI m M x y k (h 7) → ∃ h', (∀ q, q ≠ 7 → h' q = h q) ∧ SWI m M x y m (h' 7) ∧ mz d 74 2 [some (.ref g), some (.int (zn x)), some (.int (zn y)), some (.int (zn k)), o4, none] [] (hp n s (ro c g a i j f h) I J A B R Q) = some (some none, hp n s (ro c g a i j f h') I J A B R Q)
  | 0, k, h, o4, hk, hs => by
    have e : k = m := by omega
    subst e
    refine ⟨h, fun _ _ => rfl, hs, ?_⟩
    simp (disch := first | omega | exact zb_1 | exact zb_0 | exact zb_n1 | exact zb_n0) only [x74_2, x74_3, x74_4, x74_7, x74_64, mq_dl_int, mq_dl_ref, mq_dl_null, mq_dl_none, mc_some, Option.toList_some, Option.toList_none, List.cons_append, List.nil_append, zb_1, zb_0, ↓reduceIte, if_true, if_false, not_true_eq_false, not_false_eq_true, Bool.false_eq_true, z_10, z_01, eq_self, Bool.and_self, true_or, or_true, false_or, or_false, true_and, and_true, false_and, and_false, and_self, or_self, Nat.reduceLT, Nat.reduceEqDiff, Nat.reduceLeDiff, Nat.reduceAdd, Nat.reduceMul, Nat.reduceSub, zn_lit, zn_add, zn_mul, zn_sub, zn_addneg, zn_lt, zn_le, zn_eq, zn_clamp, zn_in, zn_long, hp_1, hp_21, ro_0, ro_mo, ro_f0, ro_f1, ro_s1, ro_k1, ro_f2, ro_f3, ro_f4, ro_f5, ro_f6, ro_f7, ro_f8, ro_f9, ro_s9, ro_k9, ro_f10, ro_f11, ro_s11, ro_k11, ro_f12, ro_f13, ro_s13, ro_k13, ro_f14, ro_s14, ro_f15, ro_s15, ro_k15, ro_i1, ro_g1, ro_n1, ro_w1, ro_i2, ro_g2, ro_n2, ro_w2, ro_i3, ro_g3, ro_n3, ro_w3, ro_i4, ro_g4, ro_n4, ro_w4, ro_i5, ro_g5, ro_n5, ro_w5, ro_i6, ro_g6, ro_n6, ro_w6, ro_i7, ro_g7, ro_n7, ro_w7, ro_i8, ro_g8, ro_n8, ro_w8, ro_i9, ro_g9, ro_n9, ro_w9, zu_eq, zu_ne, zu_zu, upd_zu, updL_zu, hi, Nat.le_refl]
  | e + 1, k, h, o4, hk, hs => by
    have e1 := hs x k hx (by omega)
    have e2 := hs y k hy (by omega)
    rw [if_neg (by omega)] at e1 e2
    have hs' := SWI_s hm (by omega) hx hy hs
    obtain ⟨h', g1, g2, g3⟩ := C_swl hg hi hm d x y hx hy e (k + 1) (zu h 7 (zu (zu (h 7) (x * 6 + k) (zln (M y k))) (y * 6 + k) (zln (M x k)))) (some (.long (zln (M x k)))) (by omega) (by rw [zu_eq]; exact hs')
    refine ⟨h', fun q hq => by rw [g1 q hq, zu_ne _ _ _ _ hq], g2, Eq.trans ?_ g3⟩
    rw [x74_2]
    simp (disch := first | omega | exact zb_1 | exact zb_0 | exact zb_n1 | exact zb_n0) only [x74_3, x74_4, x74_7, x74_10, x74_11, x74_14, x74_15, x74_17, x74_18, x74_19, x74_20, x74_21, x74_23, x74_24, x74_27, x74_28, x74_30, x74_31, x74_32, x74_33, x74_34, x74_37, x74_38, x74_40, x74_41, x74_42, x74_43, x74_44, x74_45, x74_46, x74_49, x74_50, x74_52, x74_53, x74_54, x74_55, x74_57, x74_58, x74_61, mq_dl_int, mq_dl_ref, mq_dl_null, mq_dl_none, mc_some, Option.toList_some, Option.toList_none, List.cons_append, List.nil_append, zb_1, zb_0, ↓reduceIte, if_true, if_false, not_true_eq_false, not_false_eq_true, Bool.false_eq_true, z_10, z_01, eq_self, Bool.and_self, true_or, or_true, false_or, or_false, true_and, and_true, false_and, and_false, and_self, or_self, Nat.reduceLT, Nat.reduceEqDiff, Nat.reduceLeDiff, Nat.reduceAdd, Nat.reduceMul, Nat.reduceSub, zn_lit, zn_add, zn_mul, zn_sub, zn_addneg, zn_lt, zn_le, zn_eq, zn_clamp, zn_in, zn_long, hp_1, hp_21, ro_0, ro_mo, ro_f0, ro_f1, ro_s1, ro_k1, ro_f2, ro_f3, ro_f4, ro_f5, ro_f6, ro_f7, ro_f8, ro_f9, ro_s9, ro_k9, ro_f10, ro_f11, ro_s11, ro_k11, ro_f12, ro_f13, ro_s13, ro_k13, ro_f14, ro_s14, ro_f15, ro_s15, ro_k15, ro_i1, ro_g1, ro_n1, ro_w1, ro_i2, ro_g2, ro_n2, ro_w2, ro_i3, ro_g3, ro_n3, ro_w3, ro_i4, ro_g4, ro_n4, ro_w4, ro_i5, ro_g5, ro_n5, ro_w5, ro_i6, ro_g6, ro_n6, ro_w6, ro_i7, ro_g7, ro_n7, ro_w7, ro_i8, ro_g8, ro_n8, ro_w8, ro_i9, ro_g9, ro_n9, ro_w9, zu_eq, zu_ne, zu_zu, upd_zu, updL_zu, hi, e1, e2, show ¬ m ≤ k by omega, show x * 6 + k < 36 by omega, show y * 6 + k < 36 by omega, decide_true]
end RS
