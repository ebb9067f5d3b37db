/-! ROWS: the class counts -/
def rwT (T : ZT) (r : Nat) : Nat → Int := (RW T).getD r xo
def spT (T : ZT) : Bool := decide ((RW T).length = T.1) && zall (fun r => decide (cdT T (rwT T r) = 1)) 0 (RW T).length
theorem rw_mem {T : ZT} (hW : WT T) {r : Nat} (hr : r < (RW T).length) : RH T (rwT T r) ∧ ∀ j, j < T.1 → -(szT T j : Int) ≤ rwT T r j ∧ rwT T r j ≤ (szT T j : Int) := RW_mem hW (RW_get hr)
theorem rw_60 {T : ZT} (hW : WT T) (ho : orT T ≤ 60) {r : Nat} (hr : r < (RW T).length) {k : Nat} (hk : k < T.1) : (rwT T r k).natAbs ≤ 60 := by
  have h1 := (rw_mem hW hr).2 k hk
  have h2 := szT_or (T := T) hk
  omega
theorem RQ_get {T : ZT} {i : Nat → Int32} {f : Nat → Nat → Int32} (h : RQ T (RW T) i f) {r k : Nat} (hr : r < (RW T).length) (hk : k < T.1) : f 1 (r * 6 + k) = zi (rwT T r k) := by
  unfold rwT
  rw [gD_in _ hr]
  exact h.2 r _ (List.getElem?_eq_getElem hr) k hk
theorem C_gcdN (d : Nat) (X Y : Nat) (h2 : X < 9223372036854775808) (h4 : Y < 9223372036854775808) (h : mq_H) : mz (d + 1) 85 0 [some (.long (zln X)), none, some (.long (zln Y)), none, none, none, none, none, none, none, none] [] h = some (some (some (.long (zln (Nat.gcd X Y)))), h) := by
  have e := C_gcd d (X : Int) (Y : Int) (by omega) (by omega) (by omega) (by omega) h
  rw [Int.natAbs_natCast, Int.natAbs_natCast] at e
  rw [zli_nat X, zli_nat Y]
  exact e
theorem ro_b0 : mq_okv (mp_ft 4 14) (.int (zn 0)) = true := by decide +kernel
theorem ro_b1 : mq_okv (mp_ft 4 14) (.int (zn 1)) = true := by decide +kernel
section CA
variable {n s : Nat} {c : Nat → mq_E} {I : Nat → Int32} {J : Nat → Int64} {A : Nat → Nat → Int32} {B : Nat → Nat → Int64} {R : Nat → Value} {Q : Nat → Nat → Option Nat}
variable {g a : Nat} {T : ZT} {i : Nat → Int32} {j : Nat → Int64} {f : Nat → Nat → Int32} {h : Nat → Nat → Int64}
theorem C_nmb (hg : 46 ≤ g) (d r k : Nat) (hr : r < 6) (hk : k < 6) : mz d 62 0 [some (.ref g), some (.int (zn r)), some (.int (zn k)), none] [] (hp n s (ro c g a i j f h) I J A B R Q) = some (some (some (.int (f 1 (r * 6 + k)))), (hp n s (ro c g a i j f h) I J A B R Q)) := by
  simp (disch := first | omega | exact zb_1 | exact zb_0 | exact zb_n1 | exact zb_n0) only [x62_0, x62_1, x62_3, x62_4, x62_5, x62_6, x62_7, x62_8, x62_11, x62_12, x62_14, x62_17, x62_17N, x62_18, x62_21, x62_22, x62_23, x62_27, x62_26, mq_dl_int, mq_dl_ref, mq_dl_null, mq_dl_none, mc_some, Option.toList_some, Option.toList_none, List.cons_append, List.nil_append, zb_1, zb_0, ↓reduceIte, if_true, if_false, not_true_eq_false, not_false_eq_true, Bool.false_eq_true, z_10, z_01, eq_self, Bool.and_self, true_or, or_true, false_or, or_false, true_and, and_true, false_and, and_false, and_self, or_self, Nat.reduceLT, Nat.reduceEqDiff, Nat.reduceLeDiff, Nat.reduceAdd, Nat.reduceMul, Nat.reduceSub, zn_lit, zn_add, zn_mul, zn_sub, zn_addneg, zn_lt, zn_le, zn_eq, zn_clamp, zn_in, zn_long, hp_1, hp_21, ro_0, ro_mo, ro_f0, ro_f1, ro_s1, ro_k1, ro_f2, ro_f3, ro_f4, ro_f5, ro_f6, ro_f7, ro_f8, ro_f9, ro_s9, ro_k9, ro_f10, ro_f11, ro_s11, ro_k11, ro_f12, ro_f13, ro_s13, ro_k13, ro_f14, ro_s14, ro_f15, ro_s15, ro_k15, ro_i1, ro_g1, ro_n1, ro_w1, ro_i2, ro_g2, ro_n2, ro_w2, ro_i3, ro_g3, ro_n3, ro_w3, ro_i4, ro_g4, ro_n4, ro_w4, ro_i5, ro_g5, ro_n5, ro_w5, ro_i6, ro_g6, ro_n6, ro_w6, ro_i7, ro_g7, ro_n7, ro_w7, ro_i8, ro_g8, ro_n8, ro_w8, ro_i9, ro_g9, ro_n9, ro_w9, zu_eq, zu_ne, zu_zu, upd_zu, updL_zu, Nat.not_lt_zero, show ¬ 36 ≤ r * 6 + k by omega, show r * 6 + k < 36 by omega, decide_true]
theorem C_cin (hg : 46 ≤ g) (hT : TB c a T) (hga : a + 2 < g) (hW : WT T) (ho : orT T ≤ 60) (hi : i 1 = zn T.1) (hQ : RQ T (RW T) i f) (h8 : ∀ k, k < T.1 → h 8 k = zln (wtT T k)) (d r : Nat) (hr : r < (RW T).length) (u : Int64) : ∀ (e k : Nat) (S : Int), k + e = T.1 → S.natAbs ≤ k * 4000000000 → mz (d + 2) 82 50 [some (.ref g), some (.int (zn r)), some (.long u), none, some (.long (zli S)), none, some (.int (zn k)), none] [] (hp n s (ro c g a i j f h) I J A B R Q) = mz (d + 2) 82 102 [some (.ref g), some (.int (zn r)), some (.long u), none, some (.long (zli (S + zsum (fun i => rwT T r i * rwT T r (T.2.2 i) * (wtT T i : Int)) k e))), none, some (.int (zn T.1)), none] [] (hp n s (ro c g a i j f h) I J A B R Q)
  | 0, k, S, hk, hS => by
    have h6 := hW.2.1
    have e : k = T.1 := by omega
    subst e
    rw [show S + zsum (fun i => rwT T r i * rwT T r (T.2.2 i) * (wtT T i : Int)) T.1 0 = S from Int.add_zero S]
    simp (disch := first | omega | exact zb_1 | exact zb_0 | exact zb_n1 | exact zb_n0) only [x82_50, x82_52, x82_53, x82_56, mq_dl_int, mq_dl_ref, mq_dl_null, mq_dl_none, mc_some, Option.toList_some, Option.toList_none, List.cons_append, List.nil_append, zb_1, zb_0, ↓reduceIte, if_true, if_false, not_true_eq_false, not_false_eq_true, Bool.false_eq_true, z_10, z_01, eq_self, Bool.and_self, true_or, or_true, false_or, or_false, true_and, and_true, false_and, and_false, and_self, or_self, Nat.reduceLT, Nat.reduceEqDiff, Nat.reduceLeDiff, Nat.reduceAdd, Nat.reduceMul, Nat.reduceSub, zn_lit, zn_add, zn_mul, zn_sub, zn_addneg, zn_lt, zn_le, zn_eq, zn_clamp, zn_in, zn_long, hp_1, hp_21, ro_0, ro_mo, ro_f0, ro_f1, ro_s1, ro_k1, ro_f2, ro_f3, ro_f4, ro_f5, ro_f6, ro_f7, ro_f8, ro_f9, ro_s9, ro_k9, ro_f10, ro_f11, ro_s11, ro_k11, ro_f12, ro_f13, ro_s13, ro_k13, ro_f14, ro_s14, ro_f15, ro_s15, ro_k15, ro_i1, ro_g1, ro_n1, ro_w1, ro_i2, ro_g2, ro_n2, ro_w2, ro_i3, ro_g3, ro_n3, ro_w3, ro_i4, ro_g4, ro_n4, ro_w4, ro_i5, ro_g5, ro_n5, ro_w5, ro_i6, ro_g6, ro_n6, ro_w6, ro_i7, ro_g7, ro_n7, ro_w7, ro_i8, ro_g8, ro_n8, ro_w8, ro_i9, ro_g9, ro_n9, ro_w9, zu_eq, zu_ne, zu_zu, upd_zu, updL_zu, hi, Nat.le_refl]
  | e + 1, k, S, hk, hS => by
    have h6 := hW.2.1
    have hl := RW_len hW
    have hkm : k < T.1 := by omega
    have hkr := hW.2.2.2.1 k hkm
    have hT1 : TB (ro c g a i j f h) a T := TB_ro hT (Or.inl hga)
    have q1 := RQ_get hQ hr hkm
    have q2 := RQ_get hQ hr hkr
    have b1 := rw_60 hW ho hr hkm
    have b2 := rw_60 hW ho hr hkr
    have b3 := wt_le hW ho k
    have hl1 : (zi (rwT T r k)).toInt64 = zli (rwT T r k) := zi_long _ (by omega) (by omega)
    have hl2 : (zi (rwT T r (T.2.2 k))).toInt64 = zli (rwT T r (T.2.2 k)) := zi_long _ (by omega) (by omega)
    have hm : (rwT T r k * rwT T r (T.2.2 k) * (wtT T k : Int)).natAbs ≤ 60 * 60 * 1000100 := mul_ab (mul_ab b1 b2) (by omega)
    have hst : zli S + zli (rwT T r k) * zli (rwT T r (T.2.2 k)) * zln (wtT T k) = zli (S + rwT T r k * rwT T r (T.2.2 k) * (wtT T k : Int)) := by rw [zli_nat, zli_mul, zli_mul, zli_add]
    have es : S + zsum (fun i => rwT T r i * rwT T r (T.2.2 i) * (wtT T i : Int)) k (e + 1) = (S + rwT T r k * rwT T r (T.2.2 k) * (wtT T k : Int)) + zsum (fun i => rwT T r i * rwT T r (T.2.2 i) * (wtT T i : Int)) (k + 1) e := by simp only [zsum, Int.add_assoc]
    rw [es, ← C_cin hg hT hga hW ho hi hQ h8 d r hr u e (k + 1) _ (by omega) (by omega), x82_50]
    simp (disch := first | omega | exact zb_1 | exact zb_0 | exact zb_n1 | exact zb_n0) only [x82_52, x82_53, x82_56, x82_59, x82_61, x82_62, x82_63, x82_65, x82_68, x82_69, x82_70, x82_71, x82_72, x82_75, x82_77, x82_80, x82_83, x82_84, x82_85, x82_86, x82_89, x82_91, x82_92, x82_93, x82_94, x82_96, x82_99, mq_dl_int, mq_dl_ref, mq_dl_null, mq_dl_none, mc_some, Option.toList_some, Option.toList_none, List.cons_append, List.nil_append, zb_1, zb_0, ↓reduceIte, if_true, if_false, not_true_eq_false, not_false_eq_true, Bool.false_eq_true, z_10, z_01, eq_self, Bool.and_self, true_or, or_true, false_or, or_false, true_and, and_true, false_and, and_false, and_self, or_self, Nat.reduceLT, Nat.reduceEqDiff, Nat.reduceLeDiff, Nat.reduceAdd, Nat.reduceMul, Nat.reduceSub, zn_lit, zn_add, zn_mul, zn_sub, zn_addneg, zn_lt, zn_le, zn_eq, zn_clamp, zn_in, zn_long, hp_1, hp_21, ro_0, ro_mo, ro_f0, ro_f1, ro_s1, ro_k1, ro_f2, ro_f3, ro_f4, ro_f5, ro_f6, ro_f7, ro_f8, ro_f9, ro_s9, ro_k9, ro_f10, ro_f11, ro_s11, ro_k11, ro_f12, ro_f13, ro_s13, ro_k13, ro_f14, ro_s14, ro_f15, ro_s15, ro_k15, ro_i1, ro_g1, ro_n1, ro_w1, ro_i2, ro_g2, ro_n2, ro_w2, ro_i3, ro_g3, ro_n3, ro_w3, ro_i4, ro_g4, ro_n4, ro_w4, ro_i5, ro_g5, ro_n5, ro_w5, ro_i6, ro_g6, ro_n6, ro_w6, ro_i7, ro_g7, ro_n7, ro_w7, ro_i8, ro_g8, ro_n8, ro_w8, ro_i9, ro_g9, ro_n9, ro_w9, zu_eq, zu_ne, zu_zu, upd_zu, updL_zu, hi, tb_0 hT1, T_rev hT1 hW, C_nmb hg, q1, q2, hl1, hl2, h8 k hkm, hst, show ¬ T.1 ≤ k by omega, show k < 6 by omega, decide_true]
theorem C_cal (hg : 46 ≤ g) (hT : TB c a T) (hga : a + 2 < g) (hW : WT T) (hG : gdT T = true) (ho : orT T ≤ 60) (j9 : j 9 = zln (pdT T)) (d : Nat) : ∀ (e r : Nat) (i : Nat → Int32) (h : Nat → Nat → Int64) (o2 o3 o4 o5 o6 : Option Value), r + e = (RW T).length → i 1 = zn T.1 → RQ T (RW T) i f → (∀ k, k < T.1 → h 8 k = zln (wtT T k)) → i 14 = zo (decide ((RW T).length = T.1) && zall (fun r => decide (cdT T (rwT T r) = 1)) 0 r) → (∀ y, y < r → h 2 y = zln (cuT T (rwT T y)) ∧ h 3 y = zln (cdT T (rwT T y))) → ∃ i' h', (∀ q, q ≠ 14 → i' q = i q) ∧ (∀ q, q ≠ 2 → q ≠ 3 → h' q = h q) ∧ i' 14 = zo (spT T) ∧ (∀ y, y < (RW T).length → h' 2 y = zln (cuT T (rwT T y)) ∧ h' 3 y = zln (cdT T (rwT T y))) ∧ mz (d + 2) 82 22 [some (.ref g), some (.int (zn r)), o2, o3, o4, o5, o6, none] [] (hp n s (ro c g a i j f h) I J A B R Q) = some (some none, hp n s (ro c g a i' j f h') I J A B R Q)
  | 0, r, i, h, o2, o3, o4, o5, o6, he, hi, hQ, h8, h14, h23 => by
    have h6 := hW.2.1
    have hl := RW_len hW
    have e : r = (RW T).length := by omega
    subst e
    have hQ1 := hQ.1
    refine ⟨i, h, fun _ _ => rfl, fun _ _ _ => rfl, h14, h23, ?_⟩
    simp (disch := first | omega | exact zb_1 | exact zb_0 | exact zb_n1 | exact zb_n0) only [x82_22, x82_23, x82_24, x82_27, x82_157, mq_dl_int, mq_dl_ref, mq_dl_null, mq_dl_none, mc_some, Option.toList_some, Option.toList_none, List.cons_append, List.nil_append, zb_1, zb_0, ↓reduceIte, if_true, if_false, not_true_eq_false, not_false_eq_true, Bool.false_eq_true, z_10, z_01, eq_self, Bool.and_self, true_or, or_true, false_or, or_false, true_and, and_true, false_and, and_false, and_self, or_self, Nat.reduceLT, Nat.reduceEqDiff, Nat.reduceLeDiff, Nat.reduceAdd, Nat.reduceMul, Nat.reduceSub, zn_lit, zn_add, zn_mul, zn_sub, zn_addneg, zn_lt, zn_le, zn_eq, zn_clamp, zn_in, zn_long, hp_1, hp_21, ro_0, ro_mo, ro_f0, ro_f1, ro_s1, ro_k1, ro_f2, ro_f3, ro_f4, ro_f5, ro_f6, ro_f7, ro_f8, ro_f9, ro_s9, ro_k9, ro_f10, ro_f11, ro_s11, ro_k11, ro_f12, ro_f13, ro_s13, ro_k13, ro_f14, ro_s14, ro_f15, ro_s15, ro_k15, ro_i1, ro_g1, ro_n1, ro_w1, ro_i2, ro_g2, ro_n2, ro_w2, ro_i3, ro_g3, ro_n3, ro_w3, ro_i4, ro_g4, ro_n4, ro_w4, ro_i5, ro_g5, ro_n5, ro_w5, ro_i6, ro_g6, ro_n6, ro_w6, ro_i7, ro_g7, ro_n7, ro_w7, ro_i8, ro_g8, ro_n8, ro_w8, ro_i9, ro_g9, ro_n9, ro_w9, zu_eq, zu_ne, zu_zu, upd_zu, updL_zu, hQ1, Nat.le_refl]
  | e + 1, r, i, h, o2, o3, o4, o5, o6, he, hi, hQ, h8, h14, h23 => by
    have h6 := hW.2.1
    have hl := RW_len hW
    have hr : r < (RW T).length := by omega
    have hQ1 := hQ.1
    have hT1 : TB (ro c g a i j f h) a T := TB_ro hT (Or.inl hga)
    have hx := (rw_mem hW hr).1
    have hD1 := dn_ge hW hG hx
    have hP := pd_pos hW hG
    have hP2 := pd_le hW ho
    have hD2 := dn_le hW hG (rw_mem hW hr).2
    have hop : orT T * pdT T ≤ 60 * 1000100 := Nat.mul_le_mul ho hP2
    have hop1 : 1 * 1 ≤ orT T * pdT T := Nat.mul_le_mul (or_pos hW) hP
    have hg0 : 0 < Nat.gcd (orT T * pdT T) (dnT T (rwT T r)).natAbs := Nat.gcd_pos_of_pos_left _ (by omega)
    have hg1 : Nat.gcd (orT T * pdT T) (dnT T (rwT T r)).natAbs ≤ orT T * pdT T := Nat.gcd_le_left _ (by omega)
    have ein := C_cin (n := n) (s := s) (c := c) (I := I) (J := J) (A := A) (B := B) (R := R) (Q := Q) (j := j) hg hT hga hW ho hi hQ h8 d r hr (zln (orT T * pdT T)) T.1 0 0 (by omega) (by simp)
    rw [Int.zero_add, show zsum (fun i => rwT T r i * rwT T r (T.2.2 i) * (wtT T i : Int)) 0 T.1 = dnT T (rwT T r) from rfl, show zli (dnT T (rwT T r)) = zln (dnT T (rwT T r)).natAbs by rw [zli_nat]; congr 1; omega] at ein
    obtain ⟨D, hD⟩ : ∃ D, D = (dnT T (rwT T r)).natAbs := ⟨_, rfl⟩
    have hcu : cuT T (rwT T r) = orT T * pdT T / Nat.gcd (orT T * pdT T) D := by rw [hD]; rfl
    have hcd : cdT T (rwT T r) = D / Nat.gcd (orT T * pdT T) D := by rw [hD]; rfl
    rw [← hD] at ein hg0 hg1 hD2
    have hcd2 : cdT T (rwT T r) ≤ D := by rw [hcd]; exact Nat.div_le_self _ _
    have hor := orT_le hW
    have e1 : mz (d + 2) 82 22 [some (.ref g), some (.int (zn r)), o2, o3, o4, o5, o6, none] [] (hp n s (ro c g a i j f h) I J A B R Q) = mz (d + 2) 82 50 [some (.ref g), some (.int (zn r)), some (.long (zln (orT T * pdT T))), none, some (.long (zli 0)), none, some (.int (zn 0)), none] [] (hp n s (ro c g a i j f h) I J A B R Q) := by
      rw [x82_22]
      simp (disch := first | omega | exact zb_1 | exact zb_0 | exact zb_n1 | exact zb_n0) only [x82_23, x82_24, x82_27, x82_30, x82_31, x82_34, x82_37, x82_38, x82_39, x82_42, x82_43, x82_44, x82_45, x82_47, x82_48, mq_dl_int, mq_dl_ref, mq_dl_null, mq_dl_none, mc_some, Option.toList_some, Option.toList_none, List.cons_append, List.nil_append, zb_1, zb_0, ↓reduceIte, if_true, if_false, not_true_eq_false, not_false_eq_true, Bool.false_eq_true, z_10, z_01, eq_self, Bool.and_self, true_or, or_true, false_or, or_false, true_and, and_true, false_and, and_false, and_self, or_self, Nat.reduceLT, Nat.reduceEqDiff, Nat.reduceLeDiff, Nat.reduceAdd, Nat.reduceMul, Nat.reduceSub, zn_lit, zn_add, zn_mul, zn_sub, zn_addneg, zn_lt, zn_le, zn_eq, zn_clamp, zn_in, zn_long, zln_mul, show (0 : Int64) = zli 0 from zli_lit 0, hp_1, hp_21, ro_0, ro_mo, ro_f0, ro_f1, ro_s1, ro_k1, ro_f2, ro_f3, ro_f4, ro_f5, ro_f6, ro_f7, ro_f8, ro_f9, ro_s9, ro_k9, ro_f10, ro_f11, ro_s11, ro_k11, ro_f12, ro_f13, ro_s13, ro_k13, ro_f14, ro_s14, ro_f15, ro_s15, ro_k15, ro_i1, ro_g1, ro_n1, ro_w1, ro_i2, ro_g2, ro_n2, ro_w2, ro_i3, ro_g3, ro_n3, ro_w3, ro_i4, ro_g4, ro_n4, ro_w4, ro_i5, ro_g5, ro_n5, ro_w5, ro_i6, ro_g6, ro_n6, ro_w6, ro_i7, ro_g7, ro_n7, ro_w7, ro_i8, ro_g8, ro_n8, ro_w8, ro_i9, ro_g9, ro_n9, ro_w9, zu_eq, zu_ne, zu_zu, upd_zu, updL_zu, hQ1, j9, tb_0 hT1, T_all hT1 hW, show ¬ (RW T).length ≤ r by omega]
    have egc := C_gcdN d (orT T * pdT T) D (by omega) (by omega) (hp n s (ro c g a i j f h) I J A B R Q)
    have el1 := C_low (d + 1) (zln (orT T * pdT T)) (Nat.gcd (orT T * pdT T) D) (by omega) (by omega)
    have el2 := C_low (d + 1) (zln D) (Nat.gcd (orT T * pdT T) D) (by omega) (by omega)
    rw [zln_div _ _ (by omega) (by omega), ← hcu] at el1
    rw [zln_div _ _ (by omega) (by omega), ← hcd] at el2
    have e2 : mz (d + 2) 82 102 [some (.ref g), some (.int (zn r)), some (.long (zln (orT T * pdT T))), none, some (.long (zln D)), none, some (.int (zn T.1)), none] [] (hp n s (ro c g a i j f h) I J A B R Q) = mz (d + 2) 82 22 [some (.ref g), some (.int (zn (r + 1))), some (.long (zln (orT T * pdT T))), none, some (.long (zln D)), none, some (.long (zln (Nat.gcd (orT T * pdT T) D))), none] [] (hp n s (ro c g a (if cdT T (rwT T r) = 1 then i else zu i 14 (zn 0)) j f (zu (zu h 2 (zu (h 2) r (zln (cuT T (rwT T r))))) 3 (zu (h 3) r (zln (cdT T (rwT T r)))))) I J A B R Q) := by
      by_cases z : cdT T (rwT T r) = 1
      · simp (disch := first | omega | exact zb_1 | exact zb_0 | exact zb_n1 | exact zb_n0) only [x82_102, x82_103, x82_105, x82_108, x82_110, x82_111, x82_114, x82_115, x82_116, x82_118, x82_121, x82_122, x82_123, x82_126, x82_127, x82_129, x82_131, x82_134, x82_135, x82_136, x82_139, x82_140, x82_141, x82_142, x82_143, x82_151, x82_154, mq_dl_int, mq_dl_ref, mq_dl_null, mq_dl_none, mc_some, Option.toList_some, Option.toList_none, List.cons_append, List.nil_append, zb_1, zb_0, ↓reduceIte, if_true, if_false, not_true_eq_false, not_false_eq_true, Bool.false_eq_true, z_10, z_01, eq_self, Bool.and_self, true_or, or_true, false_or, or_false, true_and, and_true, false_and, and_false, and_self, or_self, Nat.reduceLT, Nat.reduceEqDiff, Nat.reduceLeDiff, Nat.reduceAdd, Nat.reduceMul, Nat.reduceSub, zn_lit, zn_add, zn_mul, zn_sub, zn_addneg, zn_lt, zn_le, zn_eq, zn_clamp, zn_in, zn_long, zln_lit, zln_add, zln_mul, zln_lt, zln_le, zln_eq, zln_int, lc_eq, lc_gt, lc_lt, lc_le, lc_ge, hp_1, hp_21, ro_0, ro_mo, ro_f0, ro_f1, ro_s1, ro_k1, ro_f2, ro_f3, ro_f4, ro_f5, ro_f6, ro_f7, ro_f8, ro_f9, ro_s9, ro_k9, ro_f10, ro_f11, ro_s11, ro_k11, ro_f12, ro_f13, ro_s13, ro_k13, ro_f14, ro_s14, ro_f15, ro_s15, ro_k15, ro_i1, ro_g1, ro_n1, ro_w1, ro_i2, ro_g2, ro_n2, ro_w2, ro_i3, ro_g3, ro_n3, ro_w3, ro_i4, ro_g4, ro_n4, ro_w4, ro_i5, ro_g5, ro_n5, ro_w5, ro_i6, ro_g6, ro_n6, ro_w6, ro_i7, ro_g7, ro_n7, ro_w7, ro_i8, ro_g8, ro_n8, ro_w8, ro_i9, ro_g9, ro_n9, ro_w9, zu_eq, zu_ne, zu_zu, upd_zu, updL_zu, egc, el1, el2, z, show r < 6 by omega, decide_true]
      · simp (disch := first | omega | exact zb_1 | exact zb_0 | exact zb_n1 | exact zb_n0) only [x82_102, x82_103, x82_105, x82_108, x82_110, x82_111, x82_114, x82_115, x82_116, x82_118, x82_121, x82_122, x82_123, x82_126, x82_127, x82_129, x82_131, x82_134, x82_135, x82_136, x82_139, x82_140, x82_141, x82_142, x82_143, x82_146, x82_147, x82_148, x82_151, x82_154, ro_b0, mq_dl_int, mq_dl_ref, mq_dl_null, mq_dl_none, mc_some, Option.toList_some, Option.toList_none, List.cons_append, List.nil_append, zb_1, zb_0, ↓reduceIte, if_true, if_false, not_true_eq_false, not_false_eq_true, Bool.false_eq_true, z_10, z_01, eq_self, Bool.and_self, true_or, or_true, false_or, or_false, true_and, and_true, false_and, and_false, and_self, or_self, Nat.reduceLT, Nat.reduceEqDiff, Nat.reduceLeDiff, Nat.reduceAdd, Nat.reduceMul, Nat.reduceSub, zn_lit, zn_add, zn_mul, zn_sub, zn_addneg, zn_lt, zn_le, zn_eq, zn_clamp, zn_in, zn_long, zln_lit, zln_add, zln_mul, zln_lt, zln_le, zln_eq, zln_int, lc_eq, lc_gt, lc_lt, lc_le, lc_ge, hp_1, hp_21, ro_0, ro_mo, ro_f0, ro_f1, ro_s1, ro_k1, ro_f2, ro_f3, ro_f4, ro_f5, ro_f6, ro_f7, ro_f8, ro_f9, ro_s9, ro_k9, ro_f10, ro_f11, ro_s11, ro_k11, ro_f12, ro_f13, ro_s13, ro_k13, ro_f14, ro_s14, ro_f15, ro_s15, ro_k15, ro_i1, ro_g1, ro_n1, ro_w1, ro_i2, ro_g2, ro_n2, ro_w2, ro_i3, ro_g3, ro_n3, ro_w3, ro_i4, ro_g4, ro_n4, ro_w4, ro_i5, ro_g5, ro_n5, ro_w5, ro_i6, ro_g6, ro_n6, ro_w6, ro_i7, ro_g7, ro_n7, ro_w7, ro_i8, ro_g8, ro_n8, ro_w8, ro_i9, ro_g9, ro_n9, ro_w9, zu_eq, zu_ne, zu_zu, upd_zu, updL_zu, egc, el1, el2, z, show r < 6 by omega, decide_true]
    obtain ⟨i1, hi1⟩ : ∃ i1, i1 = (if cdT T (rwT T r) = 1 then i else zu i 14 (zn 0)) := ⟨_, rfl⟩
    have hi2 : ∀ q, q ≠ 14 → i1 q = i q := by
      intro q hq
      rw [hi1]
      by_cases z : cdT T (rwT T r) = 1
      · rw [if_pos z]
      · rw [if_neg z, zu_ne _ _ _ _ hq]
    have hi3 : i1 14 = zo (decide ((RW T).length = T.1) && zall (fun r => decide (cdT T (rwT T r) = 1)) 0 (r + 1)) := by
      have hz : zall (fun r => decide (cdT T (rwT T r) = 1)) 0 (r + 1) = (zall (fun r => decide (cdT T (rwT T r) = 1)) 0 r && decide (cdT T (rwT T r) = 1)) := by
        rw [Bool.eq_iff_iff, Bool.and_eq_true, zall_iff, zall_iff]
        constructor
        · intro h1
          exact ⟨fun y h2 h3 => h1 y h2 (by omega), h1 r (by omega) (by omega)⟩
        · rintro ⟨h1, h2⟩ y h3 h4
          by_cases z : y = r
          · rw [z]; exact h2
          · exact h1 y h3 (by omega)
      rw [hz, hi1]
      by_cases z : cdT T (rwT T r) = 1
      · rw [if_pos z, h14, decide_eq_true z, Bool.and_true]
      · rw [if_neg z, zu_eq, decide_eq_false z, Bool.and_false, Bool.and_false]
        rfl
    rw [← hi1] at e2
    obtain ⟨i', h', g1, g2, g3, g4, g5⟩ := C_cal hg hT hga hW hG ho j9 d e (r + 1) i1 (zu (zu h 2 (zu (h 2) r (zln (cuT T (rwT T r))))) 3 (zu (h 3) r (zln (cdT T (rwT T r))))) (some (.long (zln (orT T * pdT T)))) none (some (.long (zln D))) none (some (.long (zln (Nat.gcd (orT T * pdT T) D)))) (by omega) (by rw [hi2 1 (by omega)]; exact hi) ⟨by rw [hi2 13 (by omega)]; exact hQ.1, hQ.2⟩ (fun k hk => by rw [zu_ne _ _ _ _ (by omega), zu_ne _ _ _ _ (by omega)]; exact h8 k hk) hi3 (fun y hy => by
      rw [zu_eq, zu_ne _ _ _ _ (by omega), zu_eq]
      by_cases z : y = r
      · subst z; rw [zu_eq, zu_eq]; exact ⟨rfl, rfl⟩
      · rw [zu_ne _ _ _ _ z, zu_ne _ _ _ _ z]; exact h23 y (by omega))
    refine ⟨i', h', fun q hq => by rw [g1 q hq, hi2 q hq], fun q h2 h3 => by rw [g2 q h2 h3, zu_ne _ _ _ _ h3, zu_ne _ _ _ _ h2], g3, g4, ?_⟩
    rw [e1, ein, e2, g5]
theorem C_ca (hg : 46 ≤ g) (hT : TB c a T) (hga : a + 2 < g) (hW : WT T) (hG : gdT T = true) (ho : orT T ≤ 60) (j9 : j 9 = zln (pdT T)) (d : Nat) (hi : i 1 = zn T.1) (hQ : RQ T (RW T) i f) (h8 : ∀ k, k < T.1 → h 8 k = zln (wtT T k)) : ∃ i' h', (∀ q, q ≠ 14 → i' q = i q) ∧ (∀ q, q ≠ 2 → q ≠ 3 → h' q = h q) ∧ i' 14 = zo (spT T) ∧ (∀ y, y < (RW T).length → h' 2 y = zln (cuT T (rwT T y)) ∧ h' 3 y = zln (cdT T (rwT T y))) ∧ mz (d + 2) 82 0 [some (.ref g), none, none, none, none, none, none, none] [] (hp n s (ro c g a i j f h) I J A B R Q) = some (some none, hp n s (ro c g a i' j f h') I J A B R Q) := by
  have h6 := hW.2.1
  have hl := RW_len hW
  have hQ1 := hQ.1
  obtain ⟨i', h', g1, g2, g3, g4, g5⟩ := C_cal (n := n) (s := s) (c := c) (I := I) (J := J) (A := A) (B := B) (R := R) (Q := Q) (f := f) hg hT hga hW hG ho j9 d (RW T).length 0 (zu i 14 (zo (decide ((RW T).length = T.1)))) h none none none none none (by omega) (by rw [zu_ne _ _ _ _ (by omega)]; exact hi) ⟨by rw [zu_ne _ _ _ _ (by omega)]; exact hQ.1, hQ.2⟩ h8 (by rw [zu_eq]; simp [zall]) (fun y hy => by omega)
  refine ⟨i', h', fun q hq => by rw [g1 q hq, zu_ne _ _ _ _ hq], g2, g3, g4, ?_⟩
  rw [← g5]
  by_cases z : (RW T).length = T.1
  · simp (disch := first | omega | exact zb_1 | exact zb_0 | exact zb_n1 | exact zb_n0) only [x82_0, x82_1, x82_2, x82_5, x82_6, x82_9, x82_12, x82_13, x82_17, x82_20, x82_21, ro_b0, ro_b1, mq_dl_int, mq_dl_ref, mq_dl_null, mq_dl_none, mc_some, Option.toList_some, Option.toList_none, List.cons_append, List.nil_append, zb_1, zb_0, ↓reduceIte, if_true, if_false, not_true_eq_false, not_false_eq_true, Bool.false_eq_true, z_10, z_01, eq_self, Bool.and_self, true_or, or_true, false_or, or_false, true_and, and_true, false_and, and_false, and_self, or_self, Nat.reduceLT, Nat.reduceEqDiff, Nat.reduceLeDiff, Nat.reduceAdd, Nat.reduceMul, Nat.reduceSub, zn_lit, zn_add, zn_mul, zn_sub, zn_addneg, zn_lt, zn_le, zn_eq, zn_clamp, zn_in, zn_long, hp_1, hp_21, ro_0, ro_mo, ro_f0, ro_f1, ro_s1, ro_k1, ro_f2, ro_f3, ro_f4, ro_f5, ro_f6, ro_f7, ro_f8, ro_f9, ro_s9, ro_k9, ro_f10, ro_f11, ro_s11, ro_k11, ro_f12, ro_f13, ro_s13, ro_k13, ro_f14, ro_s14, ro_f15, ro_s15, ro_k15, ro_i1, ro_g1, ro_n1, ro_w1, ro_i2, ro_g2, ro_n2, ro_w2, ro_i3, ro_g3, ro_n3, ro_w3, ro_i4, ro_g4, ro_n4, ro_w4, ro_i5, ro_g5, ro_n5, ro_w5, ro_i6, ro_g6, ro_n6, ro_w6, ro_i7, ro_g7, ro_n7, ro_w7, ro_i8, ro_g8, ro_n8, ro_w8, ro_i9, ro_g9, ro_n9, ro_w9, zu_eq, zu_ne, zu_zu, upd_zu, updL_zu, hi, hQ1, z, decide_true, zo_t]
  · simp (disch := first | omega | exact zb_1 | exact zb_0 | exact zb_n1 | exact zb_n0) only [x82_0, x82_1, x82_2, x82_5, x82_6, x82_9, x82_16, x82_17, x82_20, x82_21, ro_b0, ro_b1, mq_dl_int, mq_dl_ref, mq_dl_null, mq_dl_none, mc_some, Option.toList_some, Option.toList_none, List.cons_append, List.nil_append, zb_1, zb_0, ↓reduceIte, if_true, if_false, not_true_eq_false, not_false_eq_true, Bool.false_eq_true, z_10, z_01, eq_self, Bool.and_self, true_or, or_true, false_or, or_false, true_and, and_true, false_and, and_false, and_self, or_self, Nat.reduceLT, Nat.reduceEqDiff, Nat.reduceLeDiff, Nat.reduceAdd, Nat.reduceMul, Nat.reduceSub, zn_lit, zn_add, zn_mul, zn_sub, zn_addneg, zn_lt, zn_le, zn_eq, zn_clamp, zn_in, zn_long, hp_1, hp_21, ro_0, ro_mo, ro_f0, ro_f1, ro_s1, ro_k1, ro_f2, ro_f3, ro_f4, ro_f5, ro_f6, ro_f7, ro_f8, ro_f9, ro_s9, ro_k9, ro_f10, ro_f11, ro_s11, ro_k11, ro_f12, ro_f13, ro_s13, ro_k13, ro_f14, ro_s14, ro_f15, ro_s15, ro_k15, ro_i1, ro_g1, ro_n1, ro_w1, ro_i2, ro_g2, ro_n2, ro_w2, ro_i3, ro_g3, ro_n3, ro_w3, ro_i4, ro_g4, ro_n4, ro_w4, ro_i5, ro_g5, ro_n5, ro_w5, ro_i6, ro_g6, ro_n6, ro_w6, ro_i7, ro_g7, ro_n7, ro_w7, ro_i8, ro_g8, ro_n8, ro_w8, ro_i9, ro_g9, ro_n9, ro_w9, zu_eq, zu_ne, zu_zu, upd_zu, updL_zu, hi, hQ1, z, decide_false, zo_f]
end CA
