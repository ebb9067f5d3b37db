/-! THE LAW'S LOOP -/
theorem zn_31 (x : Int32) : ∃ b : Nat, b < 32 ∧ x &&& zn 31 = zn b := by
  refine ⟨x.toBitVec.toNat % 32, Nat.mod_lt _ (by omega), ?_⟩
  apply Int32.toBitVec_inj.1
  apply BitVec.eq_of_toNat_eq
  show (x.toBitVec &&& 31#32).toNat = (BitVec.ofNat 32 (x.toBitVec.toNat % 32)).toNat
  rw [BitVec.toNat_and, BitVec.toNat_ofNat, BitVec.toNat_ofNat]
  have h1 : x.toBitVec.toNat % 32 < 32 := Nat.mod_lt _ (by omega)
  have h2 := Nat.and_two_pow_sub_one_eq_mod x.toBitVec.toNat 5
  rw [Nat.mod_eq_of_lt (show x.toBitVec.toNat % 32 < 2 ^ 32 by omega)]
  exact h2
section LOOP
variable {n s : Nat} {c : Nat → mq_E} {I : Nat → Int32} {J : Nat → Int64} {A : Nat → Nat → Int32} {B : Nat → Nat → Int64} {R : Nat → Value} {Q : Nat → Nat → Option Nat}
variable {K L i d : Nat} {xs : Nat → Int32} {V : VT} {a p f t : Nat} {o5 o6 o7 : Option Value}
theorem K_case (h : GI K L xs V a p f t n s c I J A B R Q) (hK : K ≤ 600) (hi : i + 7 ≤ L) (hL : L ≤ 3584) : ∀ (k : Nat), k < 32 → NX K L xs (d + 40) i (mz (d + 40) 305 40 [some (.ref 1000000000), some (.ref 0), some (.ref 23), some (.ref 45), some (.int (zn i)), o5, o6, o7] [.int (zn k)] (hp n s c I J A B R Q))
  | 0, _ => by
    have e := x305_40_0 (d + 40) (some (.ref 1000000000)) (some (.ref 0)) (some (.ref 23)) (some (.ref 45)) (some (.int (zn i))) o5 o6 o7 (hp n s c I J A B R Q) []
    rw [show (zn 0 : Int32) = 0 from rfl, e]
    exact K_feed h hK hi hL
  | 1, _ => by
    have e := x305_40_1 (d + 40) (some (.ref 1000000000)) (some (.ref 0)) (some (.ref 23)) (some (.ref 45)) (some (.int (zn i))) o5 o6 o7 (hp n s c I J A B R Q) []
    rw [show (zn 1 : Int32) = 1 from rfl, e]
    exact K_table h hK hi hL
  | 2, _ => by
    have e := x305_40_2 (d + 40) (some (.ref 1000000000)) (some (.ref 0)) (some (.ref 23)) (some (.ref 45)) (some (.int (zn i))) o5 o6 o7 (hp n s c I J A B R Q) []
    rw [show (zn 2 : Int32) = 2 from rfl, e]
    exact K_scheme h hK hi hL
  | 3, _ => by
    have e := x305_40_3 (d + 40) (some (.ref 1000000000)) (some (.ref 0)) (some (.ref 23)) (some (.ref 45)) (some (.int (zn i))) o5 o6 o7 (hp n s c I J A B R Q) []
    rw [show (zn 3 : Int32) = 3 from rfl, e]
    exact K_why h hK hi hL
  | 4, _ => by
    have e := x305_40_4 (d + 40) (some (.ref 1000000000)) (some (.ref 0)) (some (.ref 23)) (some (.ref 45)) (some (.int (zn i))) o5 o6 o7 (hp n s c I J A B R Q) []
    rw [show (zn 4 : Int32) = 4 from rfl, e]
    exact K_gives h hK hi hL
  | 5, _ => by
    have e := x305_40_5 (d + 40) (some (.ref 1000000000)) (some (.ref 0)) (some (.ref 23)) (some (.ref 45)) (some (.int (zn i))) o5 o6 o7 (hp n s c I J A B R Q) []
    rw [show (zn 5 : Int32) = 5 from rfl, e]
    exact K_thing h hK hi hL
  | 6, _ => by
    have e := x305_40_6 (d + 40) (some (.ref 1000000000)) (some (.ref 0)) (some (.ref 23)) (some (.ref 45)) (some (.int (zn i))) o5 o6 o7 (hp n s c I J A B R Q) []
    rw [show (zn 6 : Int32) = 6 from rfl, e]
    exact K_order h hK hi hL
  | 7, _ => by
    have e := x305_40_7 (d + 40) (some (.ref 1000000000)) (some (.ref 0)) (some (.ref 23)) (some (.ref 45)) (some (.int (zn i))) o5 o6 o7 (hp n s c I J A B R Q) []
    rw [show (zn 7 : Int32) = 7 from rfl, e]
    exact K_law h hK hi hL
  | 8, _ => by
    have e := x305_40_8 (d + 40) (some (.ref 1000000000)) (some (.ref 0)) (some (.ref 23)) (some (.ref 45)) (some (.int (zn i))) o5 o6 o7 (hp n s c I J A B R Q) []
    rw [show (zn 8 : Int32) = 8 from rfl, e]
    exact K_rows h hK hi hL
  | 9, _ => by
    have e := x305_40_9 (d + 40) (some (.ref 1000000000)) (some (.ref 0)) (some (.ref 23)) (some (.ref 45)) (some (.int (zn i))) o5 o6 o7 (hp n s c I J A B R Q) []
    rw [show (zn 9 : Int32) = 9 from rfl, e]
    exact K_row h hK hi hL
  | 10, _ => by
    have e := x305_40_10 (d + 40) (some (.ref 1000000000)) (some (.ref 0)) (some (.ref 23)) (some (.ref 45)) (some (.int (zn i))) o5 o6 o7 (hp n s c I J A B R Q) []
    rw [show (zn 10 : Int32) = 10 from rfl, e]
    exact K_counts h hK hi hL
  | 11, _ => by
    have e := x305_40_11 (d + 40) (some (.ref 1000000000)) (some (.ref 0)) (some (.ref 23)) (some (.ref 45)) (some (.int (zn i))) o5 o6 o7 (hp n s c I J A B R Q) []
    rw [show (zn 11 : Int32) = 11 from rfl, e]
    exact K_dual h hK hi hL
  | 12, _ => by
    have e := x305_40_12 (d + 40) (some (.ref 1000000000)) (some (.ref 0)) (some (.ref 23)) (some (.ref 45)) (some (.int (zn i))) o5 o6 o7 (hp n s c I J A B R Q) []
    rw [show (zn 12 : Int32) = 12 from rfl, e]
    exact K_twin h hK hi hL
  | 13, _ => by
    have e := x305_40_13 (d + 40) (some (.ref 1000000000)) (some (.ref 0)) (some (.ref 23)) (some (.ref 45)) (some (.int (zn i))) o5 o6 o7 (hp n s c I J A B R Q) []
    rw [show (zn 13 : Int32) = 13 from rfl, e]
    exact K_parts h hK hi hL
  | 14, _ => by
    have e := x305_40_14 (d + 40) (some (.ref 1000000000)) (some (.ref 0)) (some (.ref 23)) (some (.ref 45)) (some (.int (zn i))) o5 o6 o7 (hp n s c I J A B R Q) []
    rw [show (zn 14 : Int32) = 14 from rfl, e]
    exact K_part h hK hi hL
  | 15, _ => by
    have e := x305_40_15 (d + 40) (some (.ref 1000000000)) (some (.ref 0)) (some (.ref 23)) (some (.ref 45)) (some (.int (zn i))) o5 o6 o7 (hp n s c I J A B R Q) []
    rw [show (zn 15 : Int32) = 15 from rfl, e]
    exact K_quot h hK hi hL
  | 16, _ => by
    have e := x305_40_16 (d + 40) (some (.ref 1000000000)) (some (.ref 0)) (some (.ref 23)) (some (.ref 45)) (some (.int (zn i))) o5 o6 o7 (hp n s c I J A B R Q) []
    rw [show (zn 16 : Int32) = 16 from rfl, e]
    exact K_fuses h hK hi hL
  | 17, _ => by
    have e := x305_40_17 (d + 40) (some (.ref 1000000000)) (some (.ref 0)) (some (.ref 23)) (some (.ref 45)) (some (.int (zn i))) o5 o6 o7 (hp n s c I J A B R Q) []
    rw [show (zn 17 : Int32) = 17 from rfl, e]
    exact K_fusing h hK hi hL
  | 18, _ => by
    have e := x305_40_18 (d + 40) (some (.ref 1000000000)) (some (.ref 0)) (some (.ref 23)) (some (.ref 45)) (some (.int (zn i))) o5 o6 o7 (hp n s c I J A B R Q) []
    rw [show (zn 18 : Int32) = 18 from rfl, e]
    exact K_fuse h hK hi hL
  | 19, _ => by
    have e := x305_40_19 (d + 40) (some (.ref 1000000000)) (some (.ref 0)) (some (.ref 23)) (some (.ref 45)) (some (.int (zn i))) o5 o6 o7 (hp n s c I J A B R Q) []
    rw [show (zn 19 : Int32) = 19 from rfl, e]
    exact K_wreath h hK hi hL
  | 20, _ => by
    have e := x305_40_20 (d + 40) (some (.ref 1000000000)) (some (.ref 0)) (some (.ref 23)) (some (.ref 45)) (some (.int (zn i))) o5 o6 o7 (hp n s c I J A B R Q) []
    rw [show (zn 20 : Int32) = 20 from rfl, e]
    exact K_kind h hK hi hL
  | 21, _ => by
    have e := x305_40_21 (d + 40) (some (.ref 1000000000)) (some (.ref 0)) (some (.ref 23)) (some (.ref 45)) (some (.int (zn i))) o5 o6 o7 (hp n s c I J A B R Q) []
    rw [show (zn 21 : Int32) = 21 from rfl, e]
    exact K_kinds h hK hi hL
  | 22, _ => by
    have e := x305_40_22 (d + 40) (some (.ref 1000000000)) (some (.ref 0)) (some (.ref 23)) (some (.ref 45)) (some (.int (zn i))) o5 o6 o7 (hp n s c I J A B R Q) []
    rw [show (zn 22 : Int32) = 22 from rfl, e]
    exact K_kept h hK hi hL
  | 23, _ => by
    have e := x305_40_23 (d + 40) (some (.ref 1000000000)) (some (.ref 0)) (some (.ref 23)) (some (.ref 45)) (some (.int (zn i))) o5 o6 o7 (hp n s c I J A B R Q) []
    rw [show (zn 23 : Int32) = 23 from rfl, e]
    exact K_walks h hK hi hL
  | 24, _ => by
    have e := x305_40_24 (d + 40) (some (.ref 1000000000)) (some (.ref 0)) (some (.ref 23)) (some (.ref 45)) (some (.int (zn i))) o5 o6 o7 (hp n s c I J A B R Q) []
    rw [show (zn 24 : Int32) = 24 from rfl, e]
    exact K_mixed h hK hi hL
  | 25, _ => by
    have e := x305_40_25 (d + 40) (some (.ref 1000000000)) (some (.ref 0)) (some (.ref 23)) (some (.ref 45)) (some (.int (zn i))) o5 o6 o7 (hp n s c I J A B R Q) []
    rw [show (zn 25 : Int32) = 25 from rfl, e]
    exact K_undo h hK hi hL
  | 26, _ => by
    have e := x305_40_26 (d + 40) (some (.ref 1000000000)) (some (.ref 0)) (some (.ref 23)) (some (.ref 45)) (some (.int (zn i))) o5 o6 o7 (hp n s c I J A B R Q) []
    rw [show (zn 26 : Int32) = 26 from rfl, e]
    exact K_again h hK hi hL
  | 27, _ => by
    have e := x305_40_27 (d + 40) (some (.ref 1000000000)) (some (.ref 0)) (some (.ref 23)) (some (.ref 45)) (some (.int (zn i))) o5 o6 o7 (hp n s c I J A B R Q) []
    rw [show (zn 27 : Int32) = 27 from rfl, e]
    exact K_mark h hK hi hL
  | 28, _ => by
    have e := x305_40_28 (d + 40) (some (.ref 1000000000)) (some (.ref 0)) (some (.ref 23)) (some (.ref 45)) (some (.int (zn i))) o5 o6 o7 (hp n s c I J A B R Q) []
    rw [show (zn 28 : Int32) = 28 from rfl, e]
    exact K_count h hK hi hL
  | k + 29, hk => by
    rw [x305_40_out (d + 40) _ _ _ _ _ _ _ _ _ _ _ (Or.inr (by rw [zn_toInt _ (by omega)]; omega))]
    exact ⟨V, a, p, f, t, n, s, c, I, J, A, B, R, Q, o5, o6, o7, GI_keep h hK (Nat.le_refl _) (by omega) (by omega) (fun _ _ => rfl) h.2.2.2.2.2.2.2 (fun _ _ => rfl) (fun _ _ => rfl) rfl rfl, rfl⟩
theorem sc_k (hc : c 1000000000 = .inl (5, L, .inl xs)) : mak (hp n s c I J A B R Q) 1000000000 = true := by
  unfold mak
  rw [hp_c _ _ _ _ _ _ _ _ _ 1000000000 (hs_big _ (by omega)), hc]
  rfl
theorem sc_n (hc : c 1000000000 = .inl (5, L, .inl xs)) : man (hp n s c I J A B R Q) 1000000000 = L := by
  rw [hanB 1000000000 (by omega), hc]
  rfl
theorem zl_7 (L i : Nat) (hL : L ≤ 3584) (hi : i ≤ 3600) : (zn L - zn 7 < zn i) = (L < i + 7) := by
  rw [zi_nat L, zi_nat 7, zi_nat i, zi_sub, zi_lt _ _ (by omega) (by omega) (by omega) (by omega)]
  apply propext
  omega
theorem K_loop (hL : L ≤ 3584) : ∀ (r K i : Nat) (V : VT) (a p f t n s : Nat) (c : Nat → mq_E) (I : Nat → Int32) (J : Nat → Int64) (A : Nat → Nat → Int32) (B : Nat → Nat → Int64) (R : Nat → Value) (Q : Nat → Nat → Option Nat) (o5 o6 o7 : Option Value), L < i + 7 * (r + 1) → i = 7 * K → i ≤ L + 7 → GI K L xs V a p f t n s c I J A B R Q → ∃ h' : mq_H, h'.1 ≤ 20000 ∧ h'.2.1 ≤ 1000000 ∧ mz (d + 40) 305 23 [some (.ref 1000000000), some (.ref 0), some (.ref 23), some (.ref 45), some (.int (zn i)), o5, o6, o7] [] (hp n s c I J A B R Q) = some (some (some (.int 1)), h')
  | r, K, i, V, a, p, f, t, n, s, c, I, J, A, B, R, Q, o5, o6, o7, hr, hiK, hiL, h => by
    have hsc := h.2.1.2
    have hK : K ≤ 600 := by omega
    have hn := h.1.2.1
    have hs := h.1.2.2
    have e7 := zl_7 L i hL (by omega)
    by_cases q : L < i + 7
    · refine ⟨hp n s c I J A B R Q, ?_, ?_, ?_⟩
      · show n ≤ 20000
        omega
      · show s ≤ 1000000
        have h1 : 1000 * K ≤ 1000 * 600 := Nat.mul_le_mul_left _ hK
        exact Nat.le_trans hs (Nat.le_trans (Nat.add_le_add_left h1 _) (by decide))
      · simp (disch := first | omega | exact zb_1 | exact zb_0 | exact zb_n1 | exact zb_n0) only [x305_23, x305_25, x305_26, x305_27, x305_29, x305_30, x305_1188, x305_1189, mq_dl_int, mq_dl_ref, mq_dl_null, mq_dl_none, mc_some, Option.toList_some, Option.toList_none, List.cons_append, List.nil_append, zb_1, zb_0, ↓reduceIte, if_true, if_false, not_true_eq_false, not_false_eq_true, Bool.false_eq_true, z_10, z_01, eq_self, Bool.and_self, true_or, or_true, false_or, or_false, true_and, and_true, false_and, and_false, and_self, or_self, zn_lit, show Int32.ofNat L = zn L from rfl, sc_k hsc, sc_n hsc, e7, q, zb_n1]
    · obtain ⟨k, k1, k2⟩ := zn_31 (xs i)
      obtain ⟨V', a', p', f', t', n', s', c', I', J', A', B', R', Q', p5, p6, p7, hG, e1⟩ := K_case (d := d) (i := i) (o5 := o5) (o6 := o6) (o7 := o7) h hK (by omega) hL k k1
      cases r with
      | zero => omega
      | succ r =>
        obtain ⟨h', g1, g2, g3⟩ := K_loop hL r (K + 1) (i + 7) V' a' p' f' t' n' s' c' I' J' A' B' R' Q' p5 p6 p7 (by omega) (by omega) (by omega) hG
        refine ⟨h', g1, g2, ?_⟩
        rw [← g3]
        have e2 : mz (d + 40) 305 23 [some (.ref 1000000000), some (.ref 0), some (.ref 23), some (.ref 45), some (.int (zn i)), o5, o6, o7] [] (hp n s c I J A B R Q) = mz (d + 40) 305 40 [some (.ref 1000000000), some (.ref 0), some (.ref 23), some (.ref 45), some (.int (zn i)), o5, o6, o7] [.int (zn k)] (hp n s c I J A B R Q) := by
          simp (disch := first | omega | exact zb_1 | exact zb_0 | exact zb_n1 | exact zb_n0) only [x305_23, x305_25, x305_26, x305_27, x305_29, x305_30, x305_33, x305_34, x305_36, x305_37, x305_39, mq_dl_int, mq_dl_ref, mq_dl_null, mq_dl_none, mc_some, Option.toList_some, Option.toList_none, List.cons_append, List.nil_append, zb_1, zb_0, ↓reduceIte, if_true, if_false, not_true_eq_false, not_false_eq_true, Bool.false_eq_true, z_10, z_01, eq_self, Bool.and_self, true_or, or_true, false_or, or_false, true_and, and_true, false_and, and_false, and_self, or_self, zn_lit, zn_clamp, show Int32.ofNat L = zn L from rfl, sc_k hsc, sc_n hsc, sc_i hsc, sc_g hsc, e7, q, k2]
        rw [e2, e1]
        simp (disch := first | omega | exact zb_1 | exact zb_0 | exact zb_n1 | exact zb_n0) only [x305_1182, x305_1185, mq_dl_int, mq_dl_ref, mq_dl_null, mq_dl_none, mc_some, Option.toList_some, Option.toList_none, List.cons_append, List.nil_append, zb_1, zb_0, ↓reduceIte, if_true, if_false, not_true_eq_false, not_false_eq_true, Bool.false_eq_true, z_10, z_01, eq_self, Bool.and_self, true_or, or_true, false_or, or_false, true_and, and_true, false_and, and_false, and_self, or_self, Nat.reduceLT, Nat.reduceEqDiff, Nat.reduceLeDiff, Nat.reduceAdd, Nat.reduceMul, Nat.reduceSub, zn_lit, zn_add, zn_mul, zn_sub, zn_addneg, zn_lt, zn_le, zn_eq, zn_clamp, zn_in, zn_long]
end LOOP
