/-! ROWS: the class tries -/
theorem mul_ab {x y : Int} {X Y : Nat} (hx : x.natAbs ≤ X) (hy : y.natAbs ≤ Y) : (x * y).natAbs ≤ X * Y := by
  rw [Int.natAbs_mul]
  exact Nat.mul_le_mul hx hy
def nbT (T : ZT) (p q t : Nat) : Bool := zall (fun k => decide (T.2.1 p q k = 0)) (t + 1) (T.1 - (t + 1))
def goT (T : ZT) (x : Nat → Int) (p q t : Nat) : Bool := decide (x p * x q = zsum (fun k => (T.2.1 p q k : Int) * x k) 0 (t + 1))
def guT (T : ZT) (x : Nat → Int) (t : Nat) : Bool := zall (fun p => zall (fun q => !nbT T p q t || goT T x p q t) p (t + 1 - p)) 0 (t + 1)
theorem zs_app (f : Nat → Int) (t : Nat) : ∀ (r k : Nat), zsum f k (r + t) = zsum f k r + zsum f (k + r) t
  | 0, k => by simp [zsum]
  | r + 1, k => by
    rw [show r + 1 + t = (r + t) + 1 by omega]
    simp only [zsum]
    rw [zs_app f t r (k + 1), show k + 1 + r = k + (r + 1) by omega]
    omega
theorem guT_of {T : ZT} {x y : Nat → Int} {t : Nat} (ht : t < T.1) (hy : RH T y) (hxy : ∀ j, j ≤ t → y j = x j) : guT T x t = true := by
  unfold guT
  rw [zall_iff]
  intro p _ hp
  rw [zall_iff]
  intro q hq1 hq2
  cases hn : nbT T p q t with
  | false => rfl
  | true =>
    unfold nbT at hn
    rw [zall_iff] at hn
    simp only [Bool.not_true, Bool.false_or]
    unfold goT
    apply decide_eq_true
    have h1 := hy.2 p q (by omega) (by omega)
    rw [show T.1 = (t + 1) + (T.1 - (t + 1)) by omega, zs_app, zs_z (T.1 - (t + 1)) (0 + (t + 1)) (fun k h2 h3 => by
      have h4 := of_decide_eq_true (hn k (by omega) (by omega))
      rw [h4]
      simp), Int.add_zero, hxy p (by omega), hxy q (by omega)] at h1
    rw [h1]
    apply zsum_congr
    intro k _ hk
    rw [hxy k (by omega)]
theorem guT_ir {T : ZT} {x : Nat → Int} {t : Nat} (ht : t + 1 = T.1) (h : guT T x t = true) : irT T x = true := by
  unfold guT at h
  rw [zall_iff] at h
  unfold irT
  rw [zall_iff]
  intro p hp1 hp2
  have h1 := h p (by omega) (by omega)
  rw [zall_iff] at h1
  rw [zall_iff]
  intro q hq1 hq2
  have h2 := h1 q hq1 (by omega)
  have hn : nbT T p q t = true := by
    unfold nbT
    rw [show T.1 - (t + 1) = 0 by omega]
    rfl
  rw [hn] at h2
  simp only [Bool.not_true, Bool.false_or] at h2
  unfold goT at h2
  rw [ht] at h2
  exact h2
section RX
variable {n s : Nat} {c : Nat → mq_E} {I : Nat → Int32} {J : Nat → Int64} {A : Nat → Nat → Int32} {B : Nat → Nat → Int64} {R : Nat → Value} {Q : Nat → Nat → Option Nat}
variable {g a : Nat} {T : ZT} {i : Nat → Int32} {j : Nat → Int64} {f : Nat → Nat → Int32} {h : Nat → Nat → Int64} {x : Nat → Int}
theorem C_nbl (hg : 46 ≤ g) (hT : TB c a T) (hga : a + 2 < g) (hW : WT T) (hi : i 1 = zn T.1) (d p q t : Nat) (hpp : p < T.1) (hq : q < T.1) : ∀ (e k : Nat), k + e = T.1 → mz (d + 1) 79 5 [some (.ref g), some (.int (zn p)), some (.int (zn q)), some (.int (zn t)), some (.int (zn k))] [] (hp n s (ro c g a i j f h) I J A B R Q) = some (some (some (.int (zo (zall (fun k => decide (T.2.1 p q k = 0)) k e)))), (hp n s (ro c g a i j f h) I J A B R Q))
  | 0, k, hk => by
    have h6 := hW.2.1
    have e : k = T.1 := by omega
    subst e
    simp (disch := first | omega | exact zb_1 | exact zb_0 | exact zb_n1 | exact zb_n0) only [x79_5, x79_7, x79_8, x79_11, x79_36, x79_37, mq_dl_int, mq_dl_ref, mq_dl_null, mq_dl_none, mc_some, Option.toList_some, Option.toList_none, List.cons_append, List.nil_append, zb_1, zb_0, ↓reduceIte, if_true, if_false, not_true_eq_false, not_false_eq_true, Bool.false_eq_true, z_10, z_01, eq_self, Bool.and_self, true_or, or_true, false_or, or_false, true_and, and_true, false_and, and_false, and_self, or_self, Nat.reduceLT, Nat.reduceEqDiff, Nat.reduceLeDiff, Nat.reduceAdd, Nat.reduceMul, Nat.reduceSub, zn_lit, zn_add, zn_mul, zn_sub, zn_addneg, zn_lt, zn_le, zn_eq, zn_clamp, zn_in, zn_long, hp_1, hp_21, ro_0, ro_mo, ro_f0, ro_f1, ro_s1, ro_k1, ro_f2, ro_f3, ro_f4, ro_f5, ro_f6, ro_f7, ro_f8, ro_f9, ro_s9, ro_k9, ro_f10, ro_f11, ro_s11, ro_k11, ro_f12, ro_f13, ro_s13, ro_k13, ro_f14, ro_s14, ro_f15, ro_s15, ro_k15, ro_i1, ro_g1, ro_n1, ro_w1, ro_i2, ro_g2, ro_n2, ro_w2, ro_i3, ro_g3, ro_n3, ro_w3, ro_i4, ro_g4, ro_n4, ro_w4, ro_i5, ro_g5, ro_n5, ro_w5, ro_i6, ro_g6, ro_n6, ro_w6, ro_i7, ro_g7, ro_n7, ro_w7, ro_i8, ro_g8, ro_n8, ro_w8, ro_i9, ro_g9, ro_n9, ro_w9, zu_eq, zu_ne, zu_zu, upd_zu, updL_zu, hi, Nat.le_refl, zall, zo_t]
  | e + 1, k, hk => by
    have h6 := hW.2.1
    have hsb := hW.2.2.1 p q k
    have hT1 : TB (ro c g a i j f h) a T := TB_ro hT (Or.inl hga)
    rw [x79_5]
    by_cases z : T.2.1 p q k = 0
    · simp (disch := first | omega | exact zb_1 | exact zb_0 | exact zb_n1 | exact zb_n0) only [x79_7, x79_8, x79_11, x79_14, x79_15, x79_18, x79_19, x79_20, x79_22, x79_25, x79_30, x79_33, mq_dl_int, mq_dl_ref, mq_dl_null, mq_dl_none, mc_some, Option.toList_some, Option.toList_none, List.cons_append, List.nil_append, zb_1, zb_0, ↓reduceIte, if_true, if_false, not_true_eq_false, not_false_eq_true, Bool.false_eq_true, z_10, z_01, eq_self, Bool.and_self, true_or, or_true, false_or, or_false, true_and, and_true, false_and, and_false, and_self, or_self, Nat.reduceLT, Nat.reduceEqDiff, Nat.reduceLeDiff, Nat.reduceAdd, Nat.reduceMul, Nat.reduceSub, zn_lit, zn_add, zn_mul, zn_sub, zn_addneg, zn_lt, zn_le, zn_eq, zn_clamp, zn_in, zn_long, hp_1, hp_21, ro_0, ro_mo, ro_f0, ro_f1, ro_s1, ro_k1, ro_f2, ro_f3, ro_f4, ro_f5, ro_f6, ro_f7, ro_f8, ro_f9, ro_s9, ro_k9, ro_f10, ro_f11, ro_s11, ro_k11, ro_f12, ro_f13, ro_s13, ro_k13, ro_f14, ro_s14, ro_f15, ro_s15, ro_k15, ro_i1, ro_g1, ro_n1, ro_w1, ro_i2, ro_g2, ro_n2, ro_w2, ro_i3, ro_g3, ro_n3, ro_w3, ro_i4, ro_g4, ro_n4, ro_w4, ro_i5, ro_g5, ro_n5, ro_w5, ro_i6, ro_g6, ro_n6, ro_w6, ro_i7, ro_g7, ro_n7, ro_w7, ro_i8, ro_g8, ro_n8, ro_w8, ro_i9, ro_g9, ro_n9, ro_w9, zu_eq, zu_ne, zu_zu, upd_zu, updL_zu, hi, tb_0 hT1, T_share hT1, z, show ¬ T.1 ≤ k by omega, zall, decide_true, Bool.true_and]
      exact C_nbl hg hT hga hW hi d p q t hpp hq e (k + 1) (by omega)
    · simp (disch := first | omega | exact zb_1 | exact zb_0 | exact zb_n1 | exact zb_n0) only [x79_7, x79_8, x79_11, x79_14, x79_15, x79_18, x79_19, x79_20, x79_22, x79_25, x79_28, x79_29, mq_dl_int, mq_dl_ref, mq_dl_null, mq_dl_none, mc_some, Option.toList_some, Option.toList_none, List.cons_append, List.nil_append, zb_1, zb_0, ↓reduceIte, if_true, if_false, not_true_eq_false, not_false_eq_true, Bool.false_eq_true, z_10, z_01, eq_self, Bool.and_self, true_or, or_true, false_or, or_false, true_and, and_true, false_and, and_false, and_self, or_self, Nat.reduceLT, Nat.reduceEqDiff, Nat.reduceLeDiff, Nat.reduceAdd, Nat.reduceMul, Nat.reduceSub, zn_lit, zn_add, zn_mul, zn_sub, zn_addneg, zn_lt, zn_le, zn_eq, zn_clamp, zn_in, zn_long, hp_1, hp_21, ro_0, ro_mo, ro_f0, ro_f1, ro_s1, ro_k1, ro_f2, ro_f3, ro_f4, ro_f5, ro_f6, ro_f7, ro_f8, ro_f9, ro_s9, ro_k9, ro_f10, ro_f11, ro_s11, ro_k11, ro_f12, ro_f13, ro_s13, ro_k13, ro_f14, ro_s14, ro_f15, ro_s15, ro_k15, ro_i1, ro_g1, ro_n1, ro_w1, ro_i2, ro_g2, ro_n2, ro_w2, ro_i3, ro_g3, ro_n3, ro_w3, ro_i4, ro_g4, ro_n4, ro_w4, ro_i5, ro_g5, ro_n5, ro_w5, ro_i6, ro_g6, ro_n6, ro_w6, ro_i7, ro_g7, ro_n7, ro_w7, ro_i8, ro_g8, ro_n8, ro_w8, ro_i9, ro_g9, ro_n9, ro_w9, zu_eq, zu_ne, zu_zu, upd_zu, updL_zu, hi, tb_0 hT1, T_share hT1, z, show ¬ T.1 ≤ k by omega, zall, decide_false, Bool.false_and, zo_f]
theorem C_nb (hg : 46 ≤ g) (hT : TB c a T) (hga : a + 2 < g) (hW : WT T) (hi : i 1 = zn T.1) (d p q t : Nat) (hpp : p < T.1) (hq : q < T.1) (ht : t < T.1) : mz (d + 1) 79 0 [some (.ref g), some (.int (zn p)), some (.int (zn q)), some (.int (zn t)), none] [] (hp n s (ro c g a i j f h) I J A B R Q) = some (some (some (.int (zo (nbT T p q t)))), (hp n s (ro c g a i j f h) I J A B R Q)) := by
  have h6 := hW.2.1
  rw [show nbT T p q t = zall (fun k => decide (T.2.1 p q k = 0)) (t + 1) (T.1 - (t + 1)) from rfl, ← C_nbl (n := n) (s := s) (c := c) (I := I) (J := J) (A := A) (B := B) (R := R) (Q := Q) (a := a) (i := i) (j := j) (f := f) (h := h) hg hT hga hW hi d p q t hpp hq (T.1 - (t + 1)) (t + 1) (by omega)]
  simp (disch := first | omega | exact zb_1 | exact zb_0 | exact zb_n1 | exact zb_n0) only [x79_0, x79_1, x79_2, x79_3, mq_dl_int, mq_dl_ref, mq_dl_null, mq_dl_none, mc_some, Option.toList_some, Option.toList_none, List.cons_append, List.nil_append, zb_1, zb_0, ↓reduceIte, if_true, if_false, not_true_eq_false, not_false_eq_true, Bool.false_eq_true, z_10, z_01, eq_self, Bool.and_self, true_or, or_true, false_or, or_false, true_and, and_true, false_and, and_false, and_self, or_self, Nat.reduceLT, Nat.reduceEqDiff, Nat.reduceLeDiff, Nat.reduceAdd, Nat.reduceMul, Nat.reduceSub, zn_lit, zn_add, zn_mul, zn_sub, zn_addneg, zn_lt, zn_le, zn_eq, zn_clamp, zn_in, zn_long]
theorem C_gol (hg : 46 ≤ g) (hT : TB c a T) (hga : a + 2 < g) (hW : WT T) (d p q t : Nat) (hpp : p ≤ t) (hq : q ≤ t) (ht : t < T.1) (hx : ∀ k, k ≤ t → f 6 k = zi (x k) ∧ (x k).natAbs ≤ 1000) : ∀ (e k : Nat) (S : Int), k + e = t + 1 → S.natAbs ≤ k * 999999000 → mz (d + 1) 80 6 [some (.ref g), some (.int (zn p)), some (.int (zn q)), some (.int (zn t)), some (.long (zli S)), none, some (.int (zn k))] [] (hp n s (ro c g a i j f h) I J A B R Q) = some (some (some (.int (zo (decide (x p * x q = S + zsum (fun k => (T.2.1 p q k : Int) * x k) k e))))), (hp n s (ro c g a i j f h) I J A B R Q))
  | 0, k, S, hk, hS => by
    have h6 := hW.2.1
    have e : k = t + 1 := by omega
    subst e
    obtain ⟨p1, p2⟩ := hx p hpp
    obtain ⟨q1, q2⟩ := hx q hq
    have hm := mul_ab p2 q2
    rw [show S + zsum (fun k => (T.2.1 p q k : Int) * x k) (t + 1) 0 = S from Int.add_zero S]
    have hl1 : (zi (x p)).toInt64 = zli (x p) := zi_long _ (by omega) (by omega)
    have hl2 : (zi (x q)).toInt64 = zli (x q) := zi_long _ (by omega) (by omega)
    have he : (zli (x p * x q) = zli S) = (x p * x q = S) := zli_eq _ _ (by omega) (by omega) (by omega) (by omega)
    by_cases z : x p * x q = S
    · simp (disch := first | omega | exact zb_1 | exact zb_0 | exact zb_n1 | exact zb_n0) only [x80_6, x80_8, x80_9, x80_44, x80_45, x80_48, x80_49, x80_50, x80_51, x80_52, x80_55, x80_56, x80_57, x80_58, x80_59, x80_61, x80_62, x80_65, x80_66, x80_70, mq_dl_int, mq_dl_ref, mq_dl_null, mq_dl_none, mc_some, Option.toList_some, Option.toList_none, List.cons_append, List.nil_append, zb_1, zb_0, ↓reduceIte, if_true, if_false, not_true_eq_false, not_false_eq_true, Bool.false_eq_true, z_10, z_01, eq_self, Bool.and_self, true_or, or_true, false_or, or_false, true_and, and_true, false_and, and_false, and_self, or_self, Nat.reduceLT, Nat.reduceEqDiff, Nat.reduceLeDiff, Nat.reduceAdd, Nat.reduceMul, Nat.reduceSub, zn_lit, zn_add, zn_mul, zn_sub, zn_addneg, zn_lt, zn_le, zn_eq, zn_clamp, zn_in, zn_long, lc_eq, lc_gt, lc_lt, lc_le, lc_ge, zli_mul, hp_1, hp_21, ro_0, ro_mo, ro_f0, ro_f1, ro_s1, ro_k1, ro_f2, ro_f3, ro_f4, ro_f5, ro_f6, ro_f7, ro_f8, ro_f9, ro_s9, ro_k9, ro_f10, ro_f11, ro_s11, ro_k11, ro_f12, ro_f13, ro_s13, ro_k13, ro_f14, ro_s14, ro_f15, ro_s15, ro_k15, ro_i1, ro_g1, ro_n1, ro_w1, ro_i2, ro_g2, ro_n2, ro_w2, ro_i3, ro_g3, ro_n3, ro_w3, ro_i4, ro_g4, ro_n4, ro_w4, ro_i5, ro_g5, ro_n5, ro_w5, ro_i6, ro_g6, ro_n6, ro_w6, ro_i7, ro_g7, ro_n7, ro_w7, ro_i8, ro_g8, ro_n8, ro_w8, ro_i9, ro_g9, ro_n9, ro_w9, zu_eq, zu_ne, zu_zu, upd_zu, updL_zu, p1, q1, hl1, hl2, z, show t < t + 1 by omega, show p < 6 by omega, show q < 6 by omega, decide_true, zo_t]
    · simp (disch := first | omega | exact zb_1 | exact zb_0 | exact zb_n1 | exact zb_n0) only [x80_6, x80_8, x80_9, x80_44, x80_45, x80_48, x80_49, x80_50, x80_51, x80_52, x80_55, x80_56, x80_57, x80_58, x80_59, x80_61, x80_62, x80_69, x80_70, mq_dl_int, mq_dl_ref, mq_dl_null, mq_dl_none, mc_some, Option.toList_some, Option.toList_none, List.cons_append, List.nil_append, zb_1, zb_0, ↓reduceIte, if_true, if_false, not_true_eq_false, not_false_eq_true, Bool.false_eq_true, z_10, z_01, eq_self, Bool.and_self, true_or, or_true, false_or, or_false, true_and, and_true, false_and, and_false, and_self, or_self, Nat.reduceLT, Nat.reduceEqDiff, Nat.reduceLeDiff, Nat.reduceAdd, Nat.reduceMul, Nat.reduceSub, zn_lit, zn_add, zn_mul, zn_sub, zn_addneg, zn_lt, zn_le, zn_eq, zn_clamp, zn_in, zn_long, lc_eq, lc_gt, lc_lt, lc_le, lc_ge, zli_mul, hp_1, hp_21, ro_0, ro_mo, ro_f0, ro_f1, ro_s1, ro_k1, ro_f2, ro_f3, ro_f4, ro_f5, ro_f6, ro_f7, ro_f8, ro_f9, ro_s9, ro_k9, ro_f10, ro_f11, ro_s11, ro_k11, ro_f12, ro_f13, ro_s13, ro_k13, ro_f14, ro_s14, ro_f15, ro_s15, ro_k15, ro_i1, ro_g1, ro_n1, ro_w1, ro_i2, ro_g2, ro_n2, ro_w2, ro_i3, ro_g3, ro_n3, ro_w3, ro_i4, ro_g4, ro_n4, ro_w4, ro_i5, ro_g5, ro_n5, ro_w5, ro_i6, ro_g6, ro_n6, ro_w6, ro_i7, ro_g7, ro_n7, ro_w7, ro_i8, ro_g8, ro_n8, ro_w8, ro_i9, ro_g9, ro_n9, ro_w9, zu_eq, zu_ne, zu_zu, upd_zu, updL_zu, p1, q1, hl1, hl2, he, z, show t < t + 1 by omega, show p < 6 by omega, show q < 6 by omega, decide_true, decide_false, zo_f]
  | e + 1, k, S, hk, hS => by
    have h6 := hW.2.1
    have hsb := hW.2.2.1 p q k
    have hT1 : TB (ro c g a i j f h) a T := TB_ro hT (Or.inl hga)
    obtain ⟨k1, k2⟩ := hx k (by omega)
    have hl1 : (zi (x k)).toInt64 = zli (x k) := zi_long _ (by omega) (by omega)
    have hm : ((T.2.1 p q k : Int) * x k).natAbs ≤ 999999 * 1000 := mul_ab (by omega) k2
    have hst : zli S + zln (T.2.1 p q k) * zli (x k) = zli (S + (T.2.1 p q k : Int) * x k) := by rw [zli_nat, zli_mul, zli_add]
    have es : S + zsum (fun k => (T.2.1 p q k : Int) * x k) k (e + 1) = (S + (T.2.1 p q k : Int) * x k) + zsum (fun k => (T.2.1 p q k : Int) * x k) (k + 1) e := by simp only [zsum, Int.add_assoc]
    rw [es, x80_6]
    simp (disch := first | omega | exact zb_1 | exact zb_0 | exact zb_n1 | exact zb_n0) only [x80_8, x80_9, x80_12, x80_14, x80_15, x80_18, x80_19, x80_20, x80_22, x80_25, x80_26, x80_27, x80_30, x80_32, x80_33, x80_34, x80_35, x80_36, x80_38, x80_41, mq_dl_int, mq_dl_ref, mq_dl_null, mq_dl_none, mc_some, Option.toList_some, Option.toList_none, List.cons_append, List.nil_append, zb_1, zb_0, ↓reduceIte, if_true, if_false, not_true_eq_false, not_false_eq_true, Bool.false_eq_true, z_10, z_01, eq_self, Bool.and_self, true_or, or_true, false_or, or_false, true_and, and_true, false_and, and_false, and_self, or_self, Nat.reduceLT, Nat.reduceEqDiff, Nat.reduceLeDiff, Nat.reduceAdd, Nat.reduceMul, Nat.reduceSub, zn_lit, zn_add, zn_mul, zn_sub, zn_addneg, zn_lt, zn_le, zn_eq, zn_clamp, zn_in, zn_long, hp_1, hp_21, ro_0, ro_mo, ro_f0, ro_f1, ro_s1, ro_k1, ro_f2, ro_f3, ro_f4, ro_f5, ro_f6, ro_f7, ro_f8, ro_f9, ro_s9, ro_k9, ro_f10, ro_f11, ro_s11, ro_k11, ro_f12, ro_f13, ro_s13, ro_k13, ro_f14, ro_s14, ro_f15, ro_s15, ro_k15, ro_i1, ro_g1, ro_n1, ro_w1, ro_i2, ro_g2, ro_n2, ro_w2, ro_i3, ro_g3, ro_n3, ro_w3, ro_i4, ro_g4, ro_n4, ro_w4, ro_i5, ro_g5, ro_n5, ro_w5, ro_i6, ro_g6, ro_n6, ro_w6, ro_i7, ro_g7, ro_n7, ro_w7, ro_i8, ro_g8, ro_n8, ro_w8, ro_i9, ro_g9, ro_n9, ro_w9, zu_eq, zu_ne, zu_zu, upd_zu, updL_zu, tb_0 hT1, T_share hT1, k1, hl1, hst, show ¬ t < k by omega, show k < 6 by omega, decide_true]
    exact C_gol hg hT hga hW d p q t hpp hq ht hx e (k + 1) _ (by omega) (by omega)
theorem C_go (hg : 46 ≤ g) (hT : TB c a T) (hga : a + 2 < g) (hW : WT T) (d p q t : Nat) (hpp : p ≤ t) (hq : q ≤ t) (ht : t < T.1) (hx : ∀ k, k ≤ t → f 6 k = zi (x k) ∧ (x k).natAbs ≤ 1000) : mz (d + 1) 80 0 [some (.ref g), some (.int (zn p)), some (.int (zn q)), some (.int (zn t)), none, none, none] [] (hp n s (ro c g a i j f h) I J A B R Q) = some (some (some (.int (zo (goT T x p q t)))), (hp n s (ro c g a i j f h) I J A B R Q)) := by
  have e := C_gol (n := n) (s := s) (c := c) (I := I) (J := J) (A := A) (B := B) (R := R) (Q := Q) (a := a) (i := i) (j := j) (f := f) (h := h) hg hT hga hW d p q t hpp hq ht hx (t + 1) 0 0 (by omega) (by simp)
  rw [Int.zero_add] at e
  unfold goT
  rw [← e]
  simp (disch := first | omega | exact zb_1 | exact zb_0 | exact zb_n1 | exact zb_n0) only [x80_0, x80_1, x80_3, x80_4, mq_dl_int, mq_dl_ref, mq_dl_null, mq_dl_none, mc_some, Option.toList_some, Option.toList_none, List.cons_append, List.nil_append, zb_1, zb_0, ↓reduceIte, if_true, if_false, not_true_eq_false, not_false_eq_true, Bool.false_eq_true, z_10, z_01, eq_self, Bool.and_self, true_or, or_true, false_or, or_false, true_and, and_true, false_and, and_false, and_self, or_self, Nat.reduceLT, Nat.reduceEqDiff, Nat.reduceLeDiff, Nat.reduceAdd, Nat.reduceMul, Nat.reduceSub, zn_lit, zn_add, zn_mul, zn_sub, zn_addneg, zn_lt, zn_le, zn_eq, zn_clamp, zn_in, zn_long, show (0 : Int64) = zli 0 from zli_lit 0]
theorem C_guq (hg : 46 ≤ g) (hT : TB c a T) (hga : a + 2 < g) (hW : WT T) (hi : i 1 = zn T.1) (d p t : Nat) (hpp : p ≤ t) (ht : t < T.1) (hx : ∀ k, k ≤ t → f 6 k = zi (x k) ∧ (x k).natAbs ≤ 1000) : ∀ (e q : Nat), q + e = t + 1 → p ≤ q → mz (d + 2) 78 9 [some (.ref g), some (.int (zn t)), some (.int (zn p)), some (.int (zn q))] [] (hp n s (ro c g a i j f h) I J A B R Q) = if zall (fun q => !nbT T p q t || goT T x p q t) q e = true then mz (d + 2) 78 42 [some (.ref g), some (.int (zn t)), some (.int (zn p)), some (.int (zn (t + 1)))] [] (hp n s (ro c g a i j f h) I J A B R Q) else some (some (some (.int (zo false))), (hp n s (ro c g a i j f h) I J A B R Q))
  | 0, q, hq, hpq => by
    have h6 := hW.2.1
    have e : q = t + 1 := by omega
    subst e
    simp (disch := first | omega | exact zb_1 | exact zb_0 | exact zb_n1 | exact zb_n0) only [x78_9, x78_10, x78_11, mq_dl_int, mq_dl_ref, mq_dl_null, mq_dl_none, mc_some, Option.toList_some, Option.toList_none, List.cons_append, List.nil_append, zb_1, zb_0, ↓reduceIte, if_true, if_false, not_true_eq_false, not_false_eq_true, Bool.false_eq_true, z_10, z_01, eq_self, Bool.and_self, true_or, or_true, false_or, or_false, true_and, and_true, false_and, and_false, and_self, or_self, Nat.reduceLT, Nat.reduceEqDiff, Nat.reduceLeDiff, Nat.reduceAdd, Nat.reduceMul, Nat.reduceSub, zn_lit, zn_add, zn_mul, zn_sub, zn_addneg, zn_lt, zn_le, zn_eq, zn_clamp, zn_in, zn_long, show t < t + 1 by omega, zall]
  | e + 1, q, hq, hpq => by
    have h6 := hW.2.1
    have en := C_nb (n := n) (s := s) (c := c) (I := I) (J := J) (A := A) (B := B) (R := R) (Q := Q) (j := j) (f := f) (h := h) hg hT hga hW hi d p q t (by omega) (by omega) ht
    have eg := C_go (n := n) (s := s) (c := c) (I := I) (J := J) (A := A) (B := B) (R := R) (Q := Q) (i := i) (j := j) (h := h) hg hT hga hW d p q t (by omega) (by omega) ht hx
    have ih := C_guq hg hT hga hW hi d p t hpp ht hx e (q + 1) (by omega) (by omega)
    rw [x78_9]
    cases hn : nbT T p q t with
    | false =>
      rw [hn] at en
      simp (disch := first | omega | exact zb_1 | exact zb_0 | exact zb_n1 | exact zb_n0) only [x78_10, x78_11, x78_14, x78_15, x78_16, x78_17, x78_18, x78_21, x78_36, x78_39, mq_dl_int, mq_dl_ref, mq_dl_null, mq_dl_none, mc_some, Option.toList_some, Option.toList_none, List.cons_append, List.nil_append, zb_1, zb_0, ↓reduceIte, if_true, if_false, not_true_eq_false, not_false_eq_true, Bool.false_eq_true, z_10, z_01, eq_self, Bool.and_self, true_or, or_true, false_or, or_false, true_and, and_true, false_and, and_false, and_self, or_self, Nat.reduceLT, Nat.reduceEqDiff, Nat.reduceLeDiff, Nat.reduceAdd, Nat.reduceMul, Nat.reduceSub, zn_lit, zn_add, zn_mul, zn_sub, zn_addneg, zn_lt, zn_le, zn_eq, zn_clamp, zn_in, zn_long, hp_1, hp_21, ro_0, ro_mo, ro_f0, ro_f1, ro_s1, ro_k1, ro_f2, ro_f3, ro_f4, ro_f5, ro_f6, ro_f7, ro_f8, ro_f9, ro_s9, ro_k9, ro_f10, ro_f11, ro_s11, ro_k11, ro_f12, ro_f13, ro_s13, ro_k13, ro_f14, ro_s14, ro_f15, ro_s15, ro_k15, ro_i1, ro_g1, ro_n1, ro_w1, ro_i2, ro_g2, ro_n2, ro_w2, ro_i3, ro_g3, ro_n3, ro_w3, ro_i4, ro_g4, ro_n4, ro_w4, ro_i5, ro_g5, ro_n5, ro_w5, ro_i6, ro_g6, ro_n6, ro_w6, ro_i7, ro_g7, ro_n7, ro_w7, ro_i8, ro_g8, ro_n8, ro_w8, ro_i9, ro_g9, ro_n9, ro_w9, zu_eq, zu_ne, zu_zu, upd_zu, updL_zu, en, zo_f, show ¬ t < q by omega, zall, hn, Bool.not_false, Bool.true_or, Bool.true_and]
      exact ih
    | true =>
      rw [hn] at en
      cases ho : goT T x p q t with
      | false =>
        rw [ho] at eg
        simp (disch := first | omega | exact zb_1 | exact zb_0 | exact zb_n1 | exact zb_n0) only [x78_10, x78_11, x78_14, x78_15, x78_16, x78_17, x78_18, x78_21, x78_24, x78_25, x78_26, x78_27, x78_28, x78_31, x78_34, x78_35, mq_dl_int, mq_dl_ref, mq_dl_null, mq_dl_none, mc_some, Option.toList_some, Option.toList_none, List.cons_append, List.nil_append, zb_1, zb_0, ↓reduceIte, if_true, if_false, not_true_eq_false, not_false_eq_true, Bool.false_eq_true, z_10, z_01, eq_self, Bool.and_self, true_or, or_true, false_or, or_false, true_and, and_true, false_and, and_false, and_self, or_self, Nat.reduceLT, Nat.reduceEqDiff, Nat.reduceLeDiff, Nat.reduceAdd, Nat.reduceMul, Nat.reduceSub, zn_lit, zn_add, zn_mul, zn_sub, zn_addneg, zn_lt, zn_le, zn_eq, zn_clamp, zn_in, zn_long, hp_1, hp_21, ro_0, ro_mo, ro_f0, ro_f1, ro_s1, ro_k1, ro_f2, ro_f3, ro_f4, ro_f5, ro_f6, ro_f7, ro_f8, ro_f9, ro_s9, ro_k9, ro_f10, ro_f11, ro_s11, ro_k11, ro_f12, ro_f13, ro_s13, ro_k13, ro_f14, ro_s14, ro_f15, ro_s15, ro_k15, ro_i1, ro_g1, ro_n1, ro_w1, ro_i2, ro_g2, ro_n2, ro_w2, ro_i3, ro_g3, ro_n3, ro_w3, ro_i4, ro_g4, ro_n4, ro_w4, ro_i5, ro_g5, ro_n5, ro_w5, ro_i6, ro_g6, ro_n6, ro_w6, ro_i7, ro_g7, ro_n7, ro_w7, ro_i8, ro_g8, ro_n8, ro_w8, ro_i9, ro_g9, ro_n9, ro_w9, zu_eq, zu_ne, zu_zu, upd_zu, updL_zu, en, eg, zo_f, zo_t, show ¬ t < q by omega, zall, hn, ho, Bool.not_true, Bool.or_self, Bool.false_and]
      | true =>
        rw [ho] at eg
        simp (disch := first | omega | exact zb_1 | exact zb_0 | exact zb_n1 | exact zb_n0) only [x78_10, x78_11, x78_14, x78_15, x78_16, x78_17, x78_18, x78_21, x78_24, x78_25, x78_26, x78_27, x78_28, x78_31, x78_36, x78_39, mq_dl_int, mq_dl_ref, mq_dl_null, mq_dl_none, mc_some, Option.toList_some, Option.toList_none, List.cons_append, List.nil_append, zb_1, zb_0, ↓reduceIte, if_true, if_false, not_true_eq_false, not_false_eq_true, Bool.false_eq_true, z_10, z_01, eq_self, Bool.and_self, true_or, or_true, false_or, or_false, true_and, and_true, false_and, and_false, and_self, or_self, Nat.reduceLT, Nat.reduceEqDiff, Nat.reduceLeDiff, Nat.reduceAdd, Nat.reduceMul, Nat.reduceSub, zn_lit, zn_add, zn_mul, zn_sub, zn_addneg, zn_lt, zn_le, zn_eq, zn_clamp, zn_in, zn_long, hp_1, hp_21, ro_0, ro_mo, ro_f0, ro_f1, ro_s1, ro_k1, ro_f2, ro_f3, ro_f4, ro_f5, ro_f6, ro_f7, ro_f8, ro_f9, ro_s9, ro_k9, ro_f10, ro_f11, ro_s11, ro_k11, ro_f12, ro_f13, ro_s13, ro_k13, ro_f14, ro_s14, ro_f15, ro_s15, ro_k15, ro_i1, ro_g1, ro_n1, ro_w1, ro_i2, ro_g2, ro_n2, ro_w2, ro_i3, ro_g3, ro_n3, ro_w3, ro_i4, ro_g4, ro_n4, ro_w4, ro_i5, ro_g5, ro_n5, ro_w5, ro_i6, ro_g6, ro_n6, ro_w6, ro_i7, ro_g7, ro_n7, ro_w7, ro_i8, ro_g8, ro_n8, ro_w8, ro_i9, ro_g9, ro_n9, ro_w9, zu_eq, zu_ne, zu_zu, upd_zu, updL_zu, en, eg, zo_t, show ¬ t < q by omega, zall, hn, ho, Bool.not_true, Bool.false_or, Bool.true_and]
        exact ih
theorem C_gup (hg : 46 ≤ g) (hT : TB c a T) (hga : a + 2 < g) (hW : WT T) (hi : i 1 = zn T.1) (d t : Nat) (ht : t < T.1) (hx : ∀ k, k ≤ t → f 6 k = zi (x k) ∧ (x k).natAbs ≤ 1000) : ∀ (e p : Nat) (o3 : Option Value), p + e = t + 1 → mz (d + 2) 78 2 [some (.ref g), some (.int (zn t)), some (.int (zn p)), o3] [] (hp n s (ro c g a i j f h) I J A B R Q) = some (some (some (.int (zo (zall (fun p => zall (fun q => !nbT T p q t || goT T x p q t) p (t + 1 - p)) p e)))), (hp n s (ro c g a i j f h) I J A B R Q))
  | 0, p, o3, hpp => by
    have h6 := hW.2.1
    have e : p = t + 1 := by omega
    subst e
    simp (disch := first | omega | exact zb_1 | exact zb_0 | exact zb_n1 | exact zb_n0) only [x78_2, x78_3, x78_4, x78_48, x78_49, mq_dl_int, mq_dl_ref, mq_dl_null, mq_dl_none, mc_some, Option.toList_some, Option.toList_none, List.cons_append, List.nil_append, zb_1, zb_0, ↓reduceIte, if_true, if_false, not_true_eq_false, not_false_eq_true, Bool.false_eq_true, z_10, z_01, eq_self, Bool.and_self, true_or, or_true, false_or, or_false, true_and, and_true, false_and, and_false, and_self, or_self, Nat.reduceLT, Nat.reduceEqDiff, Nat.reduceLeDiff, Nat.reduceAdd, Nat.reduceMul, Nat.reduceSub, zn_lit, zn_add, zn_mul, zn_sub, zn_addneg, zn_lt, zn_le, zn_eq, zn_clamp, zn_in, zn_long, show t < t + 1 by omega, zall, zo_t]
  | e + 1, p, o3, hpp => by
    have h6 := hW.2.1
    have e1 := C_guq (n := n) (s := s) (c := c) (I := I) (J := J) (A := A) (B := B) (R := R) (Q := Q) (j := j) (h := h) hg hT hga hW hi d p t (by omega) ht hx (t + 1 - p) p (by omega) (Nat.le_refl _)
    have ih := C_gup hg hT hga hW hi d t ht hx e (p + 1) (some (.int (zn (t + 1)))) (by omega)
    rw [x78_2]
    simp (disch := first | omega | exact zb_1 | exact zb_0 | exact zb_n1 | exact zb_n0) only [x78_3, x78_4, x78_7, x78_8, mq_dl_int, mq_dl_ref, mq_dl_null, mq_dl_none, mc_some, Option.toList_some, Option.toList_none, List.cons_append, List.nil_append, zb_1, zb_0, ↓reduceIte, if_true, if_false, not_true_eq_false, not_false_eq_true, Bool.false_eq_true, z_10, z_01, eq_self, Bool.and_self, true_or, or_true, false_or, or_false, true_and, and_true, false_and, and_false, and_self, or_self, Nat.reduceLT, Nat.reduceEqDiff, Nat.reduceLeDiff, Nat.reduceAdd, Nat.reduceMul, Nat.reduceSub, zn_lit, zn_add, zn_mul, zn_sub, zn_addneg, zn_lt, zn_le, zn_eq, zn_clamp, zn_in, zn_long, show ¬ t < p by omega]
    rw [e1]
    by_cases z : zall (fun q => !nbT T p q t || goT T x p q t) p (t + 1 - p) = true
    · rw [if_pos z]
      simp (disch := first | omega | exact zb_1 | exact zb_0 | exact zb_n1 | exact zb_n0) only [x78_42, x78_45, mq_dl_int, mq_dl_ref, mq_dl_null, mq_dl_none, mc_some, Option.toList_some, Option.toList_none, List.cons_append, List.nil_append, zb_1, zb_0, ↓reduceIte, if_true, if_false, not_true_eq_false, not_false_eq_true, Bool.false_eq_true, z_10, z_01, eq_self, Bool.and_self, true_or, or_true, false_or, or_false, true_and, and_true, false_and, and_false, and_self, or_self, Nat.reduceLT, Nat.reduceEqDiff, Nat.reduceLeDiff, Nat.reduceAdd, Nat.reduceMul, Nat.reduceSub, zn_lit, zn_add, zn_mul, zn_sub, zn_addneg, zn_lt, zn_le, zn_eq, zn_clamp, zn_in, zn_long, zall, z, Bool.true_and]
      exact ih
    · rw [if_neg z]
      simp only [zall]
      rw [Bool.eq_false_iff.mpr z]
      rfl
theorem C_gu (hg : 46 ≤ g) (hT : TB c a T) (hga : a + 2 < g) (hW : WT T) (hi : i 1 = zn T.1) (d t : Nat) (ht : t < T.1) (hx : ∀ k, k ≤ t → f 6 k = zi (x k) ∧ (x k).natAbs ≤ 1000) : mz (d + 2) 78 0 [some (.ref g), some (.int (zn t)), none, none] [] (hp n s (ro c g a i j f h) I J A B R Q) = some (some (some (.int (zo (guT T x t)))), (hp n s (ro c g a i j f h) I J A B R Q)) := by
  have e := C_gup (n := n) (s := s) (c := c) (I := I) (J := J) (A := A) (B := B) (R := R) (Q := Q) (j := j) (h := h) hg hT hga hW hi d t ht hx (t + 1) 0 none (by omega)
  unfold guT
  rw [← e]
  simp (disch := first | omega | exact zb_1 | exact zb_0 | exact zb_n1 | exact zb_n0) only [x78_0, x78_1, mq_dl_int, mq_dl_ref, mq_dl_null, mq_dl_none, mc_some, Option.toList_some, Option.toList_none, List.cons_append, List.nil_append, zb_1, zb_0, ↓reduceIte, if_true, if_false, not_true_eq_false, not_false_eq_true, Bool.false_eq_true, z_10, z_01, eq_self, Bool.and_self, true_or, or_true, false_or, or_false, true_and, and_true, false_and, and_false, and_self, or_self, Nat.reduceLT, Nat.reduceEqDiff, Nat.reduceLeDiff, Nat.reduceAdd, Nat.reduceMul, Nat.reduceSub, zn_lit, zn_add, zn_mul, zn_sub, zn_addneg, zn_lt, zn_le, zn_eq, zn_clamp, zn_in, zn_long]
theorem C_pos (hg : 46 ≤ g) (d t q : Nat) (ht : t < 6) {b : Bool} {st : Nat} (hst : st + q < 128) (h4 : f 4 t = zn st) (h5 : f 5 (st + q) = zo b) : mz d 77 0 [some (.ref g), some (.int (zn t)), some (.int (zn q)), none] [] (hp n s (ro c g a i j f h) I J A B R Q) = some (some (some (.int (zo b))), (hp n s (ro c g a i j f h) I J A B R Q)) := by
  cases b with
  | true => simp (disch := first | omega | exact zb_1 | exact zb_0 | exact zb_n1 | exact zb_n0) only [x77_0, x77_0N, x77_1, x77_4, x77_5, x77_6, x77_7, x77_8, x77_9, x77_10, x77_13, x77_14, x77_17, x77_20, x77_20N, x77_21, x77_24, x77_25, x77_26, x77_29, x77_30, x77_34, x77_33, mq_dl_int, mq_dl_ref, mq_dl_null, mq_dl_none, mc_some, Option.toList_some, Option.toList_none, List.cons_append, List.nil_append, zb_1, zb_0, ↓reduceIte, if_true, if_false, not_true_eq_false, not_false_eq_true, Bool.false_eq_true, z_10, z_01, eq_self, Bool.and_self, true_or, or_true, false_or, or_false, true_and, and_true, false_and, and_false, and_self, or_self, Nat.reduceLT, Nat.reduceEqDiff, Nat.reduceLeDiff, Nat.reduceAdd, Nat.reduceMul, Nat.reduceSub, zn_lit, zn_add, zn_mul, zn_sub, zn_addneg, zn_lt, zn_le, zn_eq, zn_clamp, zn_in, zn_long, hp_1, hp_21, ro_0, ro_mo, ro_f0, ro_f1, ro_s1, ro_k1, ro_f2, ro_f3, ro_f4, ro_f5, ro_f6, ro_f7, ro_f8, ro_f9, ro_s9, ro_k9, ro_f10, ro_f11, ro_s11, ro_k11, ro_f12, ro_f13, ro_s13, ro_k13, ro_f14, ro_s14, ro_f15, ro_s15, ro_k15, ro_i1, ro_g1, ro_n1, ro_w1, ro_i2, ro_g2, ro_n2, ro_w2, ro_i3, ro_g3, ro_n3, ro_w3, ro_i4, ro_g4, ro_n4, ro_w4, ro_i5, ro_g5, ro_n5, ro_w5, ro_i6, ro_g6, ro_n6, ro_w6, ro_i7, ro_g7, ro_n7, ro_w7, ro_i8, ro_g8, ro_n8, ro_w8, ro_i9, ro_g9, ro_n9, ro_w9, zu_eq, zu_ne, zu_zu, upd_zu, updL_zu, h4, h5, zo_t, Nat.not_lt_zero, show ¬ 128 ≤ st + q by omega, show st + q < 128 by omega, ht, decide_true]
  | false => simp (disch := first | omega | exact zb_1 | exact zb_0 | exact zb_n1 | exact zb_n0) only [x77_0, x77_0N, x77_1, x77_4, x77_5, x77_6, x77_7, x77_8, x77_9, x77_10, x77_13, x77_14, x77_17, x77_20, x77_20N, x77_21, x77_24, x77_25, x77_26, x77_29, x77_30, x77_34, x77_33, mq_dl_int, mq_dl_ref, mq_dl_null, mq_dl_none, mc_some, Option.toList_some, Option.toList_none, List.cons_append, List.nil_append, zb_1, zb_0, ↓reduceIte, if_true, if_false, not_true_eq_false, not_false_eq_true, Bool.false_eq_true, z_10, z_01, eq_self, Bool.and_self, true_or, or_true, false_or, or_false, true_and, and_true, false_and, and_false, and_self, or_self, Nat.reduceLT, Nat.reduceEqDiff, Nat.reduceLeDiff, Nat.reduceAdd, Nat.reduceMul, Nat.reduceSub, zn_lit, zn_add, zn_mul, zn_sub, zn_addneg, zn_lt, zn_le, zn_eq, zn_clamp, zn_in, zn_long, hp_1, hp_21, ro_0, ro_mo, ro_f0, ro_f1, ro_s1, ro_k1, ro_f2, ro_f3, ro_f4, ro_f5, ro_f6, ro_f7, ro_f8, ro_f9, ro_s9, ro_k9, ro_f10, ro_f11, ro_s11, ro_k11, ro_f12, ro_f13, ro_s13, ro_k13, ro_f14, ro_s14, ro_f15, ro_s15, ro_k15, ro_i1, ro_g1, ro_n1, ro_w1, ro_i2, ro_g2, ro_n2, ro_w2, ro_i3, ro_g3, ro_n3, ro_w3, ro_i4, ro_g4, ro_n4, ro_w4, ro_i5, ro_g5, ro_n5, ro_w5, ro_i6, ro_g6, ro_n6, ro_w6, ro_i7, ro_g7, ro_n7, ro_w7, ro_i8, ro_g8, ro_n8, ro_w8, ro_i9, ro_g9, ro_n9, ro_w9, zu_eq, zu_ne, zu_zu, upd_zu, updL_zu, h4, h5, zo_f, Nat.not_lt_zero, show ¬ 128 ≤ st + q by omega, show st + q < 128 by omega, ht, decide_true]
theorem C_kpl (hg : 46 ≤ g) (hW : WT T) (hi : i 1 = zn T.1) (L : Nat) (hL : L < 6) (h13 : i 13 = zn L) (d : Nat) : ∀ (e k : Nat) (f : Nat → Nat → Int32), k + e = T.1 → (∀ y, y < k → f 1 (L * 6 + y) = f 6 y) → ∃ v, (∀ z, z < L * 6 → v z = f 1 z) ∧ (∀ y, y < T.1 → v (L * 6 + y) = f 6 y) ∧ mz d 81 12 [some (.ref g), some (.int (zn k))] [] (hp n s (ro c g a i j f h) I J A B R Q) = some (some none, hp n s (ro c g a (zu i 13 (zn (L + 1))) j (zu f 1 v) h) I J A B R Q)
  | 0, k, f, hk, hy => by
    have h6 := hW.2.1
    have e : k = T.1 := by omega
    subst e
    refine ⟨f 1, fun _ _ => rfl, hy, ?_⟩
    have ef : zu f 1 (f 1) = f := by
      funext q
      by_cases z : q = 1
      · subst z; rw [zu_eq]
      · rw [zu_ne _ _ _ _ z]
    rw [ef]
    simp (disch := first | omega | exact zb_1 | exact zb_0 | exact zb_n1 | exact zb_n0) only [x81_12, x81_13, x81_14, x81_17, x81_46, x81_47, x81_48, x81_51, x81_52, x81_53, x81_56, mq_dl_int, mq_dl_ref, mq_dl_null, mq_dl_none, mc_some, Option.toList_some, Option.toList_none, List.cons_append, List.nil_append, zb_1, zb_0, ↓reduceIte, if_true, if_false, not_true_eq_false, not_false_eq_true, Bool.false_eq_true, z_10, z_01, eq_self, Bool.and_self, true_or, or_true, false_or, or_false, true_and, and_true, false_and, and_false, and_self, or_self, Nat.reduceLT, Nat.reduceEqDiff, Nat.reduceLeDiff, Nat.reduceAdd, Nat.reduceMul, Nat.reduceSub, zn_lit, zn_add, zn_mul, zn_sub, zn_addneg, zn_lt, zn_le, zn_eq, zn_clamp, zn_in, zn_long, hp_1, hp_21, ro_0, ro_mo, ro_f0, ro_f1, ro_s1, ro_k1, ro_f2, ro_f3, ro_f4, ro_f5, ro_f6, ro_f7, ro_f8, ro_f9, ro_s9, ro_k9, ro_f10, ro_f11, ro_s11, ro_k11, ro_f12, ro_f13, ro_s13, ro_k13, ro_f14, ro_s14, ro_f15, ro_s15, ro_k15, ro_i1, ro_g1, ro_n1, ro_w1, ro_i2, ro_g2, ro_n2, ro_w2, ro_i3, ro_g3, ro_n3, ro_w3, ro_i4, ro_g4, ro_n4, ro_w4, ro_i5, ro_g5, ro_n5, ro_w5, ro_i6, ro_g6, ro_n6, ro_w6, ro_i7, ro_g7, ro_n7, ro_w7, ro_i8, ro_g8, ro_n8, ro_w8, ro_i9, ro_g9, ro_n9, ro_w9, zu_eq, zu_ne, zu_zu, upd_zu, updL_zu, hi, h13, Nat.le_refl]
  | e + 1, k, f, hk, hy => by
    have h6 := hW.2.1
    obtain ⟨v, v1, v2, v3⟩ := C_kpl hg hW hi L hL h13 d e (k + 1) (zu f 1 (zu (f 1) (L * 6 + k) (f 6 k))) (by omega) (fun y h1 => by
      rw [zu_eq, zu_ne f _ _ _ (show 6 ≠ 1 by omega)]
      by_cases z : y = k
      · subst z; rw [zu_eq]
      · rw [zu_ne _ _ _ _ (by omega)]; exact hy y (by omega))
    rw [zu_eq, zu_ne f _ _ _ (show 6 ≠ 1 by omega)] at *
    refine ⟨v, fun z hz => by rw [v1 z hz, zu_ne _ _ _ _ (by omega)], v2, ?_⟩
    rw [zu_zu] at v3
    rw [← v3, x81_12]
    simp (disch := first | omega | exact zb_1 | exact zb_0 | exact zb_n1 | exact zb_n0) only [x81_13, x81_14, x81_17, x81_20, x81_21, x81_24, x81_25, x81_28, x81_30, x81_31, x81_32, x81_33, x81_34, x81_37, x81_38, x81_39, x81_40, x81_43, mq_dl_int, mq_dl_ref, mq_dl_null, mq_dl_none, mc_some, Option.toList_some, Option.toList_none, List.cons_append, List.nil_append, zb_1, zb_0, ↓reduceIte, if_true, if_false, not_true_eq_false, not_false_eq_true, Bool.false_eq_true, z_10, z_01, eq_self, Bool.and_self, true_or, or_true, false_or, or_false, true_and, and_true, false_and, and_false, and_self, or_self, Nat.reduceLT, Nat.reduceEqDiff, Nat.reduceLeDiff, Nat.reduceAdd, Nat.reduceMul, Nat.reduceSub, zn_lit, zn_add, zn_mul, zn_sub, zn_addneg, zn_lt, zn_le, zn_eq, zn_clamp, zn_in, zn_long, hp_1, hp_21, ro_0, ro_mo, ro_f0, ro_f1, ro_s1, ro_k1, ro_f2, ro_f3, ro_f4, ro_f5, ro_f6, ro_f7, ro_f8, ro_f9, ro_s9, ro_k9, ro_f10, ro_f11, ro_s11, ro_k11, ro_f12, ro_f13, ro_s13, ro_k13, ro_f14, ro_s14, ro_f15, ro_s15, ro_k15, ro_i1, ro_g1, ro_n1, ro_w1, ro_i2, ro_g2, ro_n2, ro_w2, ro_i3, ro_g3, ro_n3, ro_w3, ro_i4, ro_g4, ro_n4, ro_w4, ro_i5, ro_g5, ro_n5, ro_w5, ro_i6, ro_g6, ro_n6, ro_w6, ro_i7, ro_g7, ro_n7, ro_w7, ro_i8, ro_g8, ro_n8, ro_w8, ro_i9, ro_g9, ro_n9, ro_w9, zu_eq, zu_ne, zu_zu, upd_zu, updL_zu, hi, h13, show ¬ T.1 ≤ k by omega, show L * 6 + k < 36 by omega, show k < 6 by omega, decide_true]
def RQ (T : ZT) (L : List (Nat → Int)) (i : Nat → Int32) (f : Nat → Nat → Int32) : Prop := i 13 = zn L.length ∧ ∀ t p, L[t]? = some p → ∀ k, k < T.1 → f 1 (t * 6 + k) = zi (p k)
theorem RQ_s {L : List (Nat → Int)} {v : Nat → Int32} (hm : T.1 ≤ 6) (hQ : RQ T L i f) (hx : ∀ k, k < T.1 → f 6 k = zi (x k)) (h1 : ∀ z, z < L.length * 6 → v z = f 1 z) (h2 : ∀ y, y < T.1 → v (L.length * 6 + y) = f 6 y) : RQ T (L ++ [x]) (zu i 13 (zn (L.length + 1))) (zu f 1 v) := by
  refine ⟨by rw [zu_eq, List.length_append]; rfl, fun t p hp k hk => ?_⟩
  rw [zu_eq]
  by_cases q : t < L.length
  · rw [List.getElem?_append_left q] at hp
    rw [h1 _ (by omega)]
    exact hQ.2 t p hp k hk
  · rw [List.getElem?_append_right (by omega)] at hp
    have q2 : t = L.length := by
      by_cases q3 : t - L.length = 0
      · omega
      · rw [show t - L.length = (t - L.length - 1) + 1 by omega] at hp
        simp at hp
    subst q2
    simp at hp
    subst hp
    rw [h2 k hk, hx k hk]
/-- the class's search from thing k on -/
def C_EXR (c : Nat → mq_E) (g a : Nat) (T : ZT) (n s : Nat) (I : Nat → Int32) (J : Nat → Int64) (A : Nat → Nat → Int32) (B : Nat → Nat → Int64) (R : Nat → Value) (Q : Nat → Nat → Option Nat) (j : Nat → Int64) (h : Nat → Nat → Int64) (d r : Nat) : Prop := ∀ (k : Nat) (i : Nat → Int32) (f : Nat → Nat → Int32) (x : Nat → Int) (L : List (Nat → Int)), k + r = T.1 → 1 ≤ k → (∀ y, y < k → f 6 y = zi (x y) ∧ (x y).natAbs ≤ 1000) → x 0 = 1 → i 1 = zn T.1 → PSV T T.1 0 (f 5) → (∀ y, y < T.1 → f 4 y = zn (svT T y)) → RQ T L i f → L.length + (exs T r k x).length ≤ 6 → (r = 0 → irT T x = true) → ∃ i' f', (∀ q, q ≠ 13 → i' q = i q) ∧ (∀ q, q ≠ 1 → q ≠ 6 → f' q = f q) ∧ (∀ y, y < k → f' 6 y = f 6 y) ∧ RQ T (L ++ exs T r k x) i' f' ∧ mz (d + r + 3) 76 0 [some (.ref g), some (.int (zn k)), none, none] [] (hp n s (ro c g a i j f h) I J A B R Q) = some (some none, hp n s (ro c g a i' j f' h) I J A B R Q)
theorem C_ex0 (hg : 46 ≤ g) (hW : WT T) (d : Nat) : C_EXR c g a T n s I J A B R Q j h d 0 := by
  have h6 := hW.2.1
  intro k i f x L hk hk1 hx hx0 hi hP h4 hQ hL hr
  have e : k = T.1 := by omega
  subst e
  have he : exs T 0 T.1 x = [x] := by unfold exs; rw [if_pos (hr rfl)]
  rw [he] at hL ⊢
  have hL1 : L.length + 1 ≤ 6 := hL
  obtain ⟨v, v1, v2, v3⟩ := C_kpl (n := n) (s := s) (c := c) (I := I) (J := J) (A := A) (B := B) (R := R) (Q := Q) (a := a) (j := j) (h := h) hg hW hi L.length (by omega) hQ.1 (d + 0 + 2) T.1 0 f (by omega) (fun y hy => by omega)
  refine ⟨zu i 13 (zn (L.length + 1)), zu f 1 v, fun q hq => zu_ne _ _ _ _ hq, fun q hq _ => zu_ne _ _ _ _ hq, fun y _ => by rw [zu_ne _ _ _ _ (show 6 ≠ 1 by omega)], RQ_s h6 hQ (fun k hk => (hx k hk).1) v1 v2, ?_⟩
  have hQ1 := hQ.1
  simp (disch := first | omega | exact zb_1 | exact zb_0 | exact zb_n1 | exact zb_n0) only [x76_0, x76_1, x76_2, x76_5, x76_14, x76_15, x76_18, x81_0, x81_1, x81_4, x81_6, x81_10, x81_11, mq_dl_int, mq_dl_ref, mq_dl_null, mq_dl_none, mc_some, Option.toList_some, Option.toList_none, List.cons_append, List.nil_append, zb_1, zb_0, ↓reduceIte, if_true, if_false, not_true_eq_false, not_false_eq_true, Bool.false_eq_true, z_10, z_01, eq_self, Bool.and_self, true_or, or_true, false_or, or_false, true_and, and_true, false_and, and_false, and_self, or_self, Nat.reduceLT, Nat.reduceEqDiff, Nat.reduceLeDiff, Nat.reduceAdd, Nat.reduceMul, Nat.reduceSub, zn_lit, zn_add, zn_mul, zn_sub, zn_addneg, zn_lt, zn_le, zn_eq, zn_clamp, zn_in, zn_long, hp_1, hp_21, ro_0, ro_mo, ro_f0, ro_f1, ro_s1, ro_k1, ro_f2, ro_f3, ro_f4, ro_f5, ro_f6, ro_f7, ro_f8, ro_f9, ro_s9, ro_k9, ro_f10, ro_f11, ro_s11, ro_k11, ro_f12, ro_f13, ro_s13, ro_k13, ro_f14, ro_s14, ro_f15, ro_s15, ro_k15, ro_i1, ro_g1, ro_n1, ro_w1, ro_i2, ro_g2, ro_n2, ro_w2, ro_i3, ro_g3, ro_n3, ro_w3, ro_i4, ro_g4, ro_n4, ro_w4, ro_i5, ro_g5, ro_n5, ro_w5, ro_i6, ro_g6, ro_n6, ro_w6, ro_i7, ro_g7, ro_n7, ro_w7, ro_i8, ro_g8, ro_n8, ro_w8, ro_i9, ro_g9, ro_n9, ro_w9, zu_eq, zu_ne, zu_zu, upd_zu, updL_zu, hi, hQ1, Nat.le_refl, show L.length < 6 by omega, v3]
theorem exs_nil {r k : Nat} {x : Nat → Int} (hW : WT T) (hk : k + r = T.1) (hk1 : 1 ≤ k) (hx0 : x 0 = 1) (h : ∀ y, RH T y → (∀ j, j < k → y j = x j) → False) : exs T r k x = [] := by
  cases he : exs T r k x with
  | nil => rfl
  | cons y L =>
    exfalso
    obtain ⟨g1, g2, g3⟩ := exs_mem T r k x y hk (by rw [he]; exact List.mem_cons_self)
    exact h y ((irT_iff hW (by rw [g1 0 (by omega)]; exact hx0)).mp g2) g1
theorem C_exl (hg : 46 ≤ g) (hT : TB c a T) (hga : a + 2 < g) (hW : WT T) (ho : orT T ≤ 60) (d r : Nat) (IH : C_EXR c g a T n s I J A B R Q j h d r) (k : Nat) (x : Nat → Int) (hk : k + (r + 1) = T.1) (hk1 : 1 ≤ k) (hx0 : x 0 = 1) : ∀ (e q : Nat) (i : Nat → Int32) (f : Nat → Nat → Int32) (L : List (Nat → Int)), q + e = 2 * szT T k + 1 → (∀ y, y < k → f 6 y = zi (x y) ∧ (x y).natAbs ≤ 1000) → i 1 = zn T.1 → PSV T T.1 0 (f 5) → (∀ y, y < T.1 → f 4 y = zn (svT T y)) → RQ T L i f → L.length + (cat (fun q => exs T r (k + 1) (zu x k ((q : Int) - (szT T k : Int)))) q e).length ≤ 6 → ∃ i' f', (∀ q, q ≠ 13 → i' q = i q) ∧ (∀ q, q ≠ 1 → q ≠ 6 → f' q = f q) ∧ (∀ y, y < k → f' 6 y = f 6 y) ∧ RQ T (L ++ cat (fun q => exs T r (k + 1) (zu x k ((q : Int) - (szT T k : Int)))) q e) i' f' ∧ mz (d + r + 4) 76 31 [some (.ref g), some (.int (zn k)), some (.int (zn (szT T k))), some (.int (zi ((q : Int) - (szT T k : Int))))] [] (hp n s (ro c g a i j f h) I J A B R Q) = some (some none, hp n s (ro c g a i' j f' h) I J A B R Q)
  | 0, q, i, f, L, hq, hx, hi, hP, h4, hQ, hL => by
    have h6 := hW.2.1
    have hst := svT_le hW ho (show k < T.1 by omega)
    refine ⟨i, f, fun _ _ => rfl, fun _ _ _ => rfl, fun _ _ => rfl, ?_, ?_⟩
    · simp only [cat, List.append_nil]
      exact hQ
    · simp (disch := first | omega | exact zb_1 | exact zb_0 | exact zb_n1 | exact zb_n0) only [x76_31, x76_32, x76_33, x76_75, mq_dl_int, mq_dl_ref, mq_dl_null, mq_dl_none, mc_some, Option.toList_some, Option.toList_none, List.cons_append, List.nil_append, zb_1, zb_0, ↓reduceIte, if_true, if_false, not_true_eq_false, not_false_eq_true, Bool.false_eq_true, z_10, z_01, eq_self, Bool.and_self, true_or, or_true, false_or, or_false, true_and, and_true, false_and, and_false, and_self, or_self, Nat.reduceLT, Nat.reduceEqDiff, Nat.reduceLeDiff, Nat.reduceAdd, Nat.reduceMul, Nat.reduceSub, zn_lit, zn_add, zn_mul, zn_sub, zn_addneg, zn_lt, zn_le, zn_eq, zn_clamp, zn_in, zn_long, zc_gt, show 2 * szT T k < q by omega]
  | e + 1, q, i, f, L, hq, hx, hi, hP, h4, hQ, hL => by
    have h6 := hW.2.1
    have hkm : k < T.1 := by omega
    have hst := svT_le hW ho hkm
    obtain ⟨b, b1, b2⟩ := hP k q hkm (by omega) (Or.inl hkm)
    have ep := C_pos (n := n) (s := s) (c := c) (I := I) (J := J) (A := A) (B := B) (R := R) (Q := Q) (a := a) (i := i) (j := j) (f := f) (h := h) hg (d + r + 3) k q (by omega) (by omega) (h4 k hkm) b1
    have hskip : exs T r (k + 1) (zu x k ((q : Int) - (szT T k : Int))) = [] → ∀ (f1 : Nat → Nat → Int32), (∀ z, z ≠ 6 → f1 z = f z) → (∀ y, y < k → f1 6 y = f 6 y) → mz (d + r + 4) 76 31 [some (.ref g), some (.int (zn k)), some (.int (zn (szT T k))), some (.int (zi ((q : Int) - (szT T k : Int))))] [] (hp n s (ro c g a i j f h) I J A B R Q) = mz (d + r + 4) 76 31 [some (.ref g), some (.int (zn k)), some (.int (zn (szT T k))), some (.int (zi (((q + 1 : Nat) : Int) - (szT T k : Int))))] [] (hp n s (ro c g a i j f1 h) I J A B R Q) → ∃ i' f', (∀ q, q ≠ 13 → i' q = i q) ∧ (∀ q, q ≠ 1 → q ≠ 6 → f' q = f q) ∧ (∀ y, y < k → f' 6 y = f 6 y) ∧ RQ T (L ++ cat (fun q => exs T r (k + 1) (zu x k ((q : Int) - (szT T k : Int)))) q (e + 1)) i' f' ∧ mz (d + r + 4) 76 31 [some (.ref g), some (.int (zn k)), some (.int (zn (szT T k))), some (.int (zi ((q : Int) - (szT T k : Int))))] [] (hp n s (ro c g a i j f h) I J A B R Q) = some (some none, hp n s (ro c g a i' j f' h) I J A B R Q) := by
      intro hn f1 hf1 hf2 hm
      simp only [cat] at hL ⊢
      rw [hn, List.nil_append] at hL ⊢
      obtain ⟨i', f', g1, g2, g3, g4, g5⟩ := C_exl hg hT hga hW ho d r IH k x hk hk1 hx0 e (q + 1) i f1 L (by omega) (fun y hy => by rw [hf2 y hy]; exact hx y hy) hi (by rw [hf1 5 (by omega)]; exact hP) (by rw [hf1 4 (by omega)]; exact h4) ⟨hQ.1, by rw [hf1 1 (by omega)]; exact hQ.2⟩ hL
      exact ⟨i', f', g1, fun z h1 h2 => by rw [g2 z h1 h2, hf1 z h2], fun y hy => by rw [g3 y hy, hf2 y hy], g4, hm.trans g5⟩
    cases b with
    | false =>
      refine hskip (exs_nil hW (by omega) (by omega) (by rw [zu_ne _ _ _ _ (by omega)]; exact hx0) (fun y hy hj => ?_)) f (fun _ _ => rfl) (fun _ _ => rfl) ?_
      · have h1 := hj k (by omega)
        rw [zu_eq] at h1
        have := b2 y hy h1
        cases this
      · rw [x76_31]
        simp (disch := first | omega | exact zb_1 | exact zb_0 | exact zb_n1 | exact zb_n0) only [x76_32, x76_33, x76_36, x76_37, x76_38, x76_39, x76_40, x76_41, x76_44, x76_69, x76_72, mq_dl_int, mq_dl_ref, mq_dl_null, mq_dl_none, mc_some, Option.toList_some, Option.toList_none, List.cons_append, List.nil_append, zb_1, zb_0, ↓reduceIte, if_true, if_false, not_true_eq_false, not_false_eq_true, Bool.false_eq_true, z_10, z_01, eq_self, Bool.and_self, true_or, or_true, false_or, or_false, true_and, and_true, false_and, and_false, and_self, or_self, Nat.reduceLT, Nat.reduceEqDiff, Nat.reduceLeDiff, Nat.reduceAdd, Nat.reduceMul, Nat.reduceSub, zn_lit, zn_add, zn_mul, zn_sub, zn_addneg, zn_lt, zn_le, zn_eq, zn_clamp, zn_in, zn_long, hp_1, hp_21, ro_0, ro_mo, ro_f0, ro_f1, ro_s1, ro_k1, ro_f2, ro_f3, ro_f4, ro_f5, ro_f6, ro_f7, ro_f8, ro_f9, ro_s9, ro_k9, ro_f10, ro_f11, ro_s11, ro_k11, ro_f12, ro_f13, ro_s13, ro_k13, ro_f14, ro_s14, ro_f15, ro_s15, ro_k15, ro_i1, ro_g1, ro_n1, ro_w1, ro_i2, ro_g2, ro_n2, ro_w2, ro_i3, ro_g3, ro_n3, ro_w3, ro_i4, ro_g4, ro_n4, ro_w4, ro_i5, ro_g5, ro_n5, ro_w5, ro_i6, ro_g6, ro_n6, ro_w6, ro_i7, ro_g7, ro_n7, ro_w7, ro_i8, ro_g8, ro_n8, ro_w8, ro_i9, ro_g9, ro_n9, ro_w9, zu_eq, zu_ne, zu_zu, upd_zu, updL_zu, zc_gt, zc_inc, zc_pl, ep, zo_f, show ¬ 2 * szT T k < q by omega]
    | true =>
      have hT1 : TB c a T := hT
      have hx' : ∀ y, y ≤ k → zu f 6 (zu (f 6) k (zi ((q : Int) - (szT T k : Int)))) 6 y = zi (zu x k ((q : Int) - (szT T k : Int)) y) ∧ (zu x k ((q : Int) - (szT T k : Int)) y).natAbs ≤ 1000 := by
        intro y hy
        rw [zu_eq]
        by_cases z : y = k
        · subst z; rw [zu_eq, zu_eq]; exact ⟨rfl, by omega⟩
        · rw [zu_ne _ _ _ _ z, zu_ne _ _ _ _ z]; exact hx y (by omega)
      have eg := C_gu (n := n) (s := s) (c := c) (I := I) (J := J) (A := A) (B := B) (R := R) (Q := Q) (j := j) (h := h) hg hT hga hW hi (d + r + 1) k hkm hx'
      cases hgu : guT T (zu x k ((q : Int) - (szT T k : Int))) k with
      | false =>
        rw [hgu] at eg
        refine hskip (exs_nil hW (by omega) (by omega) (by rw [zu_ne _ _ _ _ (by omega)]; exact hx0) (fun y hy hj => ?_)) (zu f 6 (zu (f 6) k (zi ((q : Int) - (szT T k : Int))))) (fun z hz => zu_ne _ _ _ _ hz) (fun y hy => by rw [zu_eq, zu_ne _ _ _ _ (by omega)]) ?_
        · have := guT_of hkm hy (fun j h1 => hj j (by omega))
          rw [hgu] at this
          cases this
        · rw [x76_31]
          simp (disch := first | omega | exact zb_1 | exact zb_0 | exact zb_n1 | exact zb_n0) only [x76_32, x76_33, x76_36, x76_37, x76_38, x76_39, x76_40, x76_41, x76_44, x76_47, x76_48, x76_51, x76_52, x76_53, x76_54, x76_55, x76_56, x76_59, x76_69, x76_72, mq_dl_int, mq_dl_ref, mq_dl_null, mq_dl_none, mc_some, Option.toList_some, Option.toList_none, List.cons_append, List.nil_append, zb_1, zb_0, ↓reduceIte, if_true, if_false, not_true_eq_false, not_false_eq_true, Bool.false_eq_true, z_10, z_01, eq_self, Bool.and_self, true_or, or_true, false_or, or_false, true_and, and_true, false_and, and_false, and_self, or_self, Nat.reduceLT, Nat.reduceEqDiff, Nat.reduceLeDiff, Nat.reduceAdd, Nat.reduceMul, Nat.reduceSub, zn_lit, zn_add, zn_mul, zn_sub, zn_addneg, zn_lt, zn_le, zn_eq, zn_clamp, zn_in, zn_long, hp_1, hp_21, ro_0, ro_mo, ro_f0, ro_f1, ro_s1, ro_k1, ro_f2, ro_f3, ro_f4, ro_f5, ro_f6, ro_f7, ro_f8, ro_f9, ro_s9, ro_k9, ro_f10, ro_f11, ro_s11, ro_k11, ro_f12, ro_f13, ro_s13, ro_k13, ro_f14, ro_s14, ro_f15, ro_s15, ro_k15, ro_i1, ro_g1, ro_n1, ro_w1, ro_i2, ro_g2, ro_n2, ro_w2, ro_i3, ro_g3, ro_n3, ro_w3, ro_i4, ro_g4, ro_n4, ro_w4, ro_i5, ro_g5, ro_n5, ro_w5, ro_i6, ro_g6, ro_n6, ro_w6, ro_i7, ro_g7, ro_n7, ro_w7, ro_i8, ro_g8, ro_n8, ro_w8, ro_i9, ro_g9, ro_n9, ro_w9, zu_eq, zu_ne, zu_zu, upd_zu, updL_zu, zc_gt, zc_inc, zc_pl, ep, eg, zo_f, zo_t, show ¬ 2 * szT T k < q by omega, show k < 6 by omega, decide_true]
      | true =>
        rw [hgu] at eg
        simp only [cat] at hL ⊢
        rw [List.length_append] at hL
        obtain ⟨i1, f1, g1, g2, g3, g4, g5⟩ := IH (k + 1) i (zu f 6 (zu (f 6) k (zi ((q : Int) - (szT T k : Int))))) (zu x k ((q : Int) - (szT T k : Int))) L (by omega) (by omega) (fun y hy => hx' y (by omega)) (by rw [zu_ne _ _ _ _ (by omega)]; exact hx0) hi (by rw [zu_ne _ _ _ _ (by omega)]; exact hP) (by rw [zu_ne _ _ _ _ (by omega)]; exact h4) ⟨hQ.1, by rw [zu_ne _ _ _ _ (by omega)]; exact hQ.2⟩ (by omega) (fun hr => guT_ir (by omega) hgu)
        have hf2 : ∀ y, y < k → f1 6 y = f 6 y := fun y hy => by rw [g3 y (by omega), zu_eq, zu_ne _ _ _ _ (by omega)]
        have hf1 : ∀ z, z ≠ 1 → z ≠ 6 → f1 z = f z := fun z h1 h2 => by rw [g2 z h1 h2, zu_ne _ _ _ _ h2]
        obtain ⟨i', f', k1, k2, k3, k4, k5⟩ := C_exl hg hT hga hW ho d r IH k x hk hk1 hx0 e (q + 1) i1 f1 _ (by omega) (fun y hy => by rw [hf2 y hy]; exact hx y hy) (by rw [g1 1 (by omega)]; exact hi) (by rw [hf1 5 (by omega) (by omega)]; exact hP) (by rw [hf1 4 (by omega) (by omega)]; exact h4) g4 (by rw [List.length_append]; omega)
        refine ⟨i', f', fun z hz => by rw [k1 z hz, g1 z hz], fun z h1 h2 => by rw [k2 z h1 h2, hf1 z h1 h2], fun y hy => by rw [k3 y hy, hf2 y hy], by rw [← List.append_assoc]; exact k4, ?_⟩
        rw [← k5, x76_31]
        simp (disch := first | omega | exact zb_1 | exact zb_0 | exact zb_n1 | exact zb_n0) only [x76_32, x76_33, x76_36, x76_37, x76_38, x76_39, x76_40, x76_41, x76_44, x76_47, x76_48, x76_51, x76_52, x76_53, x76_54, x76_55, x76_56, x76_59, x76_62, x76_63, x76_64, x76_65, x76_66, x76_69, x76_72, mq_dl_int, mq_dl_ref, mq_dl_null, mq_dl_none, mc_some, Option.toList_some, Option.toList_none, List.cons_append, List.nil_append, zb_1, zb_0, ↓reduceIte, if_true, if_false, not_true_eq_false, not_false_eq_true, Bool.false_eq_true, z_10, z_01, eq_self, Bool.and_self, true_or, or_true, false_or, or_false, true_and, and_true, false_and, and_false, and_self, or_self, Nat.reduceLT, Nat.reduceEqDiff, Nat.reduceLeDiff, Nat.reduceAdd, Nat.reduceMul, Nat.reduceSub, zn_lit, zn_add, zn_mul, zn_sub, zn_addneg, zn_lt, zn_le, zn_eq, zn_clamp, zn_in, zn_long, hp_1, hp_21, ro_0, ro_mo, ro_f0, ro_f1, ro_s1, ro_k1, ro_f2, ro_f3, ro_f4, ro_f5, ro_f6, ro_f7, ro_f8, ro_f9, ro_s9, ro_k9, ro_f10, ro_f11, ro_s11, ro_k11, ro_f12, ro_f13, ro_s13, ro_k13, ro_f14, ro_s14, ro_f15, ro_s15, ro_k15, ro_i1, ro_g1, ro_n1, ro_w1, ro_i2, ro_g2, ro_n2, ro_w2, ro_i3, ro_g3, ro_n3, ro_w3, ro_i4, ro_g4, ro_n4, ro_w4, ro_i5, ro_g5, ro_n5, ro_w5, ro_i6, ro_g6, ro_n6, ro_w6, ro_i7, ro_g7, ro_n7, ro_w7, ro_i8, ro_g8, ro_n8, ro_w8, ro_i9, ro_g9, ro_n9, ro_w9, zu_eq, zu_ne, zu_zu, upd_zu, updL_zu, zc_gt, zc_inc, zc_pl, ep, eg, g5, zo_t, show ¬ 2 * szT T k < q by omega, show k < 6 by omega, decide_true]
theorem C_ex (hg : 46 ≤ g) (hT : TB c a T) (hga : a + 2 < g) (hW : WT T) (ho : orT T ≤ 60) (d : Nat) : ∀ r, C_EXR c g a T n s I J A B R Q j h d r := by
  have h6 := hW.2.1
  intro r
  induction r with
  | zero => exact C_ex0 hg hW d
  | succ r IH =>
    intro k i f x L hk hk1 hx hx0 hi hP h4 hQ hL hr
    have hT1 : TB (ro c g a i j f h) a T := TB_ro hT (Or.inl hga)
    obtain ⟨i', f', b1, b2, b3, b4, b5⟩ := C_exl hg hT hga hW ho d r IH k x hk hk1 hx0 (2 * szT T k + 1) 0 i f L (by omega) hx hi hP h4 hQ hL
    refine ⟨i', f', b1, b2, b3, b4, ?_⟩
    rw [← b5, show d + (r + 1) + 3 = d + r + 4 by omega]
    simp (disch := first | omega | exact zb_1 | exact zb_0 | exact zb_n1 | exact zb_n0) only [x76_0, x76_1, x76_2, x76_5, x76_8, x76_9, x76_11, x76_19, x76_20, x76_23, x76_24, x76_27, x76_28, x76_29, x76_30, mq_dl_int, mq_dl_ref, mq_dl_null, mq_dl_none, mc_some, Option.toList_some, Option.toList_none, List.cons_append, List.nil_append, zb_1, zb_0, ↓reduceIte, if_true, if_false, not_true_eq_false, not_false_eq_true, Bool.false_eq_true, z_10, z_01, eq_self, Bool.and_self, true_or, or_true, false_or, or_false, true_and, and_true, false_and, and_false, and_self, or_self, Nat.reduceLT, Nat.reduceEqDiff, Nat.reduceLeDiff, Nat.reduceAdd, Nat.reduceMul, Nat.reduceSub, zn_lit, zn_add, zn_mul, zn_sub, zn_addneg, zn_lt, zn_le, zn_eq, zn_clamp, zn_in, zn_long, hp_1, hp_21, ro_0, ro_mo, ro_f0, ro_f1, ro_s1, ro_k1, ro_f2, ro_f3, ro_f4, ro_f5, ro_f6, ro_f7, ro_f8, ro_f9, ro_s9, ro_k9, ro_f10, ro_f11, ro_s11, ro_k11, ro_f12, ro_f13, ro_s13, ro_k13, ro_f14, ro_s14, ro_f15, ro_s15, ro_k15, ro_i1, ro_g1, ro_n1, ro_w1, ro_i2, ro_g2, ro_n2, ro_w2, ro_i3, ro_g3, ro_n3, ro_w3, ro_i4, ro_g4, ro_n4, ro_w4, ro_i5, ro_g5, ro_n5, ro_w5, ro_i6, ro_g6, ro_n6, ro_w6, ro_i7, ro_g7, ro_n7, ro_w7, ro_i8, ro_g8, ro_n8, ro_w8, ro_i9, ro_g9, ro_n9, ro_w9, zu_eq, zu_ne, zu_zu, upd_zu, updL_zu, hi, tb_0 hT1, T_size hT1 hW, zc_neg, show ¬ T.1 ≤ k by omega, show k < 6 by omega]
end RX
