/-! TWIN: the class matches -/
theorem RSF_f {T : ZT} {i : Nat → Int32} {j : Nat → Int64} {f f' : Nat → Nat → Int32} {h : Nat → Nat → Int64} (hF : RSF T i j f h) (h1 : f' 1 = f 1) : RSF T i j f' h := by
  obtain ⟨g1, g2, g3⟩ := hF
  exact ⟨g1, ⟨g2.1, by rw [h1]; exact g2.2⟩, g3⟩
theorem tb_put (u r y : Nat) : (u ||| 1 <<< r).testBit y = (u.testBit y || decide (r = y)) := by
  rw [Nat.testBit_or, Nat.one_shiftLeft, Nat.testBit_two_pow]
section TWM
variable {n s : Nat} {c : Nat → mq_E} {I : Nat → Int32} {J : Nat → Int64} {A : Nat → Nat → Int32} {B : Nat → Nat → Int64} {R : Nat → Value} {Q : Nat → Nat → Option Nat}
variable {g a : Nat} {T : ZT} {i : Nat → Int32} {j : Nat → Int64} {h : Nat → Nat → Int64}
/-- the class's search of matches from thing t on -/
def C_MF (c : Nat → mq_E) (g a : Nat) (T : ZT) (n s : Nat) (I : Nat → Int32) (J : Nat → Int64) (A : Nat → Nat → Int32) (B : Nat → Nat → Int64) (R : Nat → Value) (Q : Nat → Nat → Option Nat) (i : Nat → Int32) (j : Nat → Int64) (h : Nat → Nat → Int64) (d r : Nat) : Prop := ∀ (t u : Nat) (f : Nat → Nat → Int32) (w : Nat → Nat), t + r = T.1 → RSF T i j f h → (∀ y, y < t → f 9 y = zn (w y) ∧ w y < (RW T).length) → (∀ p q, p < t → q < t → w p = w q → p = q) → u < 64 → (∀ y, u.testBit y = true ↔ ∃ p, p < t ∧ w p = y) → ∃ b f', (b = true ↔ EXW T t w) ∧ (∀ q, q ≠ 9 → f' q = f q) ∧ (∀ y, y < t → f' 9 y = f 9 y) ∧ mz (d + r + 3) 69 0 [some (.ref g), some (.int (zn t)), some (.int (zn u)), none] [] (hp n s (ro c g a i j f h) I J A B R Q) = some (some (some (.int (zo b))), hp n s (ro c g a i j f' h) I J A B R Q)
theorem C_mf0 (hg : 46 ≤ g) (hW : WT T) (d : Nat) : C_MF c g a T n s I J A B R Q i j h d 0 := by
  have hm := hW.2.1
  intro t u f w ht hF hw hinj hu hb
  have e : t = T.1 := by omega
  subst e
  have hi := hF.1
  refine ⟨true, f, ⟨fun _ => ⟨w, fun _ _ => rfl, fun p hp' => (hw p hp').2, hinj, fun t' h1 h2 => by omega⟩, fun _ => rfl⟩, fun _ _ => rfl, fun _ _ => rfl, ?_⟩
  simp (disch := first | omega | exact zb_1 | exact zb_0 | exact zb_n1 | exact zb_n0) only [x69_0, x69_1, x69_2, x69_5, x69_14, x69_15, mq_dl_int, mq_dl_ref, mq_dl_null, mq_dl_none, mc_some, Option.toList_some, Option.toList_none, List.cons_append, List.nil_append, zb_1, zb_0, ↓reduceIte, if_true, if_false, not_true_eq_false, not_false_eq_true, Bool.false_eq_true, z_10, z_01, eq_self, Bool.and_self, true_or, or_true, false_or, or_false, true_and, and_true, false_and, and_false, and_self, or_self, Nat.reduceLT, Nat.reduceEqDiff, Nat.reduceLeDiff, Nat.reduceAdd, Nat.reduceMul, Nat.reduceSub, zn_lit, zn_add, zn_mul, zn_sub, zn_addneg, zn_lt, zn_le, zn_eq, zn_clamp, zn_in, zn_long, hp_1, hp_21, ro_0, ro_mo, ro_f0, ro_f1, ro_s1, ro_k1, ro_f2, ro_f3, ro_f4, ro_f5, ro_f6, ro_f7, ro_f8, ro_f9, ro_s9, ro_k9, ro_f10, ro_f11, ro_s11, ro_k11, ro_f12, ro_f13, ro_s13, ro_k13, ro_f14, ro_s14, ro_f15, ro_s15, ro_k15, ro_i1, ro_g1, ro_n1, ro_w1, ro_i2, ro_g2, ro_n2, ro_w2, ro_i3, ro_g3, ro_n3, ro_w3, ro_i4, ro_g4, ro_n4, ro_w4, ro_i5, ro_g5, ro_n5, ro_w5, ro_i6, ro_g6, ro_n6, ro_w6, ro_i7, ro_g7, ro_n7, ro_w7, ro_i8, ro_g8, ro_n8, ro_w8, ro_i9, ro_g9, ro_n9, ro_w9, zu_eq, zu_ne, zu_zu, upd_zu, updL_zu, hi, Nat.le_refl, zo_t]
theorem C_mfl (hg : 46 ≤ g) (hga : a + 2 < g) (hsm : smT T = true) (hT : TB c a T) (hW : WT T) (hs : spT T = true) (d r : Nat) (IH : C_MF c g a T n s I J A B R Q i j h d r) (t u : Nat) (w : Nat → Nat) (ht : t + (r + 1) = T.1) (hu : u < 64) (hinj : ∀ p q, p < t → q < t → w p = w q → p = q) (hwl : ∀ y, y < t → w y < (RW T).length) (hb : ∀ y, u.testBit y = true ↔ ∃ p, p < t ∧ w p = y) : ∀ (e x : Nat) (f : Nat → Nat → Int32), x + e = (RW T).length → RSF T i j f h → (∀ y, y < t → f 9 y = zn (w y)) → ∃ b f', (b = true ↔ ∃ y, x ≤ y ∧ y < (RW T).length ∧ (∀ p, p < t → w p ≠ y) ∧ agT T (zu w t y) t = true ∧ EXW T (t + 1) (zu w t y)) ∧ (∀ q, q ≠ 9 → f' q = f q) ∧ (∀ y, y < t → f' 9 y = f 9 y) ∧ mz (d + r + 4) 69 18 [some (.ref g), some (.int (zn t)), some (.int (zn u)), some (.int (zn x))] [] (hp n s (ro c g a i j f h) I J A B R Q) = some (some (some (.int (zo b))), hp n s (ro c g a i j f' h) I J A B R Q)
  | 0, x, f, hx, hF, hw => by
    have hm := hW.2.1
    have hl := RW_len hW
    have h13 := hF.2.1.1
    refine ⟨false, f, ⟨fun h => by (cases h), fun ⟨y, h1, h2, _⟩ => by omega⟩, fun _ _ => rfl, fun _ _ => rfl, ?_⟩
    simp (disch := first | omega | exact zb_1 | exact zb_0 | exact zb_n1 | exact zb_n0) only [x69_18, x69_19, x69_20, x69_23, x69_72, x69_73, mq_dl_int, mq_dl_ref, mq_dl_null, mq_dl_none, mc_some, Option.toList_some, Option.toList_none, List.cons_append, List.nil_append, zb_1, zb_0, ↓reduceIte, if_true, if_false, not_true_eq_false, not_false_eq_true, Bool.false_eq_true, z_10, z_01, eq_self, Bool.and_self, true_or, or_true, false_or, or_false, true_and, and_true, false_and, and_false, and_self, or_self, Nat.reduceLT, Nat.reduceEqDiff, Nat.reduceLeDiff, Nat.reduceAdd, Nat.reduceMul, Nat.reduceSub, zn_lit, zn_add, zn_mul, zn_sub, zn_addneg, zn_lt, zn_le, zn_eq, zn_clamp, zn_in, zn_long, hp_1, hp_21, ro_0, ro_mo, ro_f0, ro_f1, ro_s1, ro_k1, ro_f2, ro_f3, ro_f4, ro_f5, ro_f6, ro_f7, ro_f8, ro_f9, ro_s9, ro_k9, ro_f10, ro_f11, ro_s11, ro_k11, ro_f12, ro_f13, ro_s13, ro_k13, ro_f14, ro_s14, ro_f15, ro_s15, ro_k15, ro_i1, ro_g1, ro_n1, ro_w1, ro_i2, ro_g2, ro_n2, ro_w2, ro_i3, ro_g3, ro_n3, ro_w3, ro_i4, ro_g4, ro_n4, ro_w4, ro_i5, ro_g5, ro_n5, ro_w5, ro_i6, ro_g6, ro_n6, ro_w6, ro_i7, ro_g7, ro_n7, ro_w7, ro_i8, ro_g8, ro_n8, ro_w8, ro_i9, ro_g9, ro_n9, ro_w9, zu_eq, zu_ne, zu_zu, upd_zu, updL_zu, h13, show (RW T).length ≤ x by omega, zo_f]
  | e + 1, x, f, hx, hF, hw => by
    have hm := hW.2.1
    have hl := RW_len hW
    have h13 := hF.2.1.1
    have hskip : (∀ (f1 : Nat → Nat → Int32), (∀ q, q ≠ 9 → f1 q = f q) → (∀ y, y < t → f1 9 y = f 9 y) → ¬ ((∀ p, p < t → w p ≠ x) ∧ agT T (zu w t x) t = true ∧ EXW T (t + 1) (zu w t x)) → mz (d + r + 4) 69 18 [some (.ref g), some (.int (zn t)), some (.int (zn u)), some (.int (zn x))] [] (hp n s (ro c g a i j f h) I J A B R Q) = mz (d + r + 4) 69 18 [some (.ref g), some (.int (zn t)), some (.int (zn u)), some (.int (zn (x + 1)))] [] (hp n s (ro c g a i j f1 h) I J A B R Q) → ∃ b f', (b = true ↔ ∃ y, x ≤ y ∧ y < (RW T).length ∧ (∀ p, p < t → w p ≠ y) ∧ agT T (zu w t y) t = true ∧ EXW T (t + 1) (zu w t y)) ∧ (∀ q, q ≠ 9 → f' q = f q) ∧ (∀ y, y < t → f' 9 y = f 9 y) ∧ mz (d + r + 4) 69 18 [some (.ref g), some (.int (zn t)), some (.int (zn u)), some (.int (zn x))] [] (hp n s (ro c g a i j f h) I J A B R Q) = some (some (some (.int (zo b))), hp n s (ro c g a i j f' h) I J A B R Q)) := by
      intro f1 hf1 hf2 hno hm2
      obtain ⟨b, f', g1, g2, g3, g4⟩ := C_mfl hg hga hsm hT hW hs d r IH t u w ht hu hinj hwl hb e (x + 1) f1 (by omega) (RSF_f hF (hf1 1 (by omega))) (fun y hy => by rw [hf2 y hy]; exact hw y hy)
      refine ⟨b, f', g1.trans ⟨fun ⟨y, h1, h2⟩ => ⟨y, by omega, h2⟩, fun ⟨y, h1, h2, h3⟩ => ?_⟩, fun q hq => by rw [g2 q hq, hf1 q hq], fun y hy => by rw [g3 y hy, hf2 y hy], hm2.trans g4⟩
      by_cases z : y = x
      · subst z; exact absurd h3 hno
      · exact ⟨y, by omega, h2, h3⟩
    cases hbit : u.testBit x with
    | true =>
      refine hskip f (fun _ _ => rfl) (fun _ _ => rfl) ?_ ?_
      · obtain ⟨p, h1, h2⟩ := (hb x).mp hbit
        exact fun h => h.1 p h1 h2
      · rw [x69_18]
        simp (disch := first | omega | exact zb_1 | exact zb_0 | exact zb_n1 | exact zb_n0) only [x69_19, x69_20, x69_23, x69_26, x69_27, x69_28, x69_29, x69_30, x69_31, x69_66, x69_69, mq_dl_int, mq_dl_ref, mq_dl_null, mq_dl_none, mc_some, Option.toList_some, Option.toList_none, List.cons_append, List.nil_append, zb_1, zb_0, ↓reduceIte, if_true, if_false, not_true_eq_false, not_false_eq_true, Bool.false_eq_true, z_10, z_01, eq_self, Bool.and_self, true_or, or_true, false_or, or_false, true_and, and_true, false_and, and_false, and_self, or_self, Nat.reduceLT, Nat.reduceEqDiff, Nat.reduceLeDiff, Nat.reduceAdd, Nat.reduceMul, Nat.reduceSub, zn_lit, zn_add, zn_mul, zn_sub, zn_addneg, zn_lt, zn_le, zn_eq, zn_clamp, zn_in, zn_long, zn_shr, zn_bt, zo_e0, hbit, hp_1, hp_21, ro_0, ro_mo, ro_f0, ro_f1, ro_s1, ro_k1, ro_f2, ro_f3, ro_f4, ro_f5, ro_f6, ro_f7, ro_f8, ro_f9, ro_s9, ro_k9, ro_f10, ro_f11, ro_s11, ro_k11, ro_f12, ro_f13, ro_s13, ro_k13, ro_f14, ro_s14, ro_f15, ro_s15, ro_k15, ro_i1, ro_g1, ro_n1, ro_w1, ro_i2, ro_g2, ro_n2, ro_w2, ro_i3, ro_g3, ro_n3, ro_w3, ro_i4, ro_g4, ro_n4, ro_w4, ro_i5, ro_g5, ro_n5, ro_w5, ro_i6, ro_g6, ro_n6, ro_w6, ro_i7, ro_g7, ro_n7, ro_w7, ro_i8, ro_g8, ro_n8, ro_w8, ro_i9, ro_g9, ro_n9, ro_w9, zu_eq, zu_ne, zu_zu, upd_zu, updL_zu, h13, show ¬ (RW T).length ≤ x by omega, zo_t]
    | false =>
      have hfree : ∀ p, p < t → w p ≠ x := by
        intro p h1 h2
        have := (hb x).mpr ⟨p, h1, h2⟩
        rw [hbit] at this
        cases this
      obtain ⟨f1, hf1⟩ : ∃ f1, f1 = zu f 9 (zu (f 9) t (zn x)) := ⟨_, rfl⟩
      have hF1 : RSF T i j f1 h := RSF_f hF (by rw [hf1, zu_ne _ _ _ _ (by omega)])
      have hw1 : ∀ y, y ≤ t → f1 9 y = zn (zu w t x y) ∧ zu w t x y < (RW T).length := by
        intro y hy
        rw [hf1, zu_eq]
        by_cases z : y = t
        · subst z; rw [zu_eq, zu_eq]; exact ⟨rfl, by omega⟩
        · rw [zu_ne _ _ _ _ z, zu_ne _ _ _ _ z]; exact ⟨hw y (by omega), hwl y (by omega)⟩
      have eag := C_ag (n := n) (s := s) (c := c) (I := I) (J := J) (A := A) (B := B) (R := R) (Q := Q) hg hga hsm hF1 hT hW hs (d + r + 1) t (by omega) hw1
      have e0 : mz (d + r + 4) 69 18 [some (.ref g), some (.int (zn t)), some (.int (zn u)), some (.int (zn x))] [] (hp n s (ro c g a i j f h) I J A B R Q) = mc (some (some (some (.int (zo (agT T (zu w t x) t)))), hp n s (ro c g a i j f1 h) I J A B R Q)) (fun v h1 => mz (d + r + 4) 69 46 [some (.ref g), some (.int (zn t)), some (.int (zn u)), some (.int (zn x))] (v.toList ++ []) h1) := by
        rw [← eag, x69_18, hf1]
        simp (disch := first | omega | exact zb_1 | exact zb_0 | exact zb_n1 | exact zb_n0) only [x69_19, x69_20, x69_23, x69_26, x69_27, x69_28, x69_29, x69_30, x69_31, x69_34, x69_35, x69_38, x69_39, x69_40, x69_41, x69_42, x69_43, mq_dl_int, mq_dl_ref, mq_dl_null, mq_dl_none, mc_some, Option.toList_some, Option.toList_none, List.cons_append, List.nil_append, zb_1, zb_0, ↓reduceIte, if_true, if_false, not_true_eq_false, not_false_eq_true, Bool.false_eq_true, z_10, z_01, eq_self, Bool.and_self, true_or, or_true, false_or, or_false, true_and, and_true, false_and, and_false, and_self, or_self, Nat.reduceLT, Nat.reduceEqDiff, Nat.reduceLeDiff, Nat.reduceAdd, Nat.reduceMul, Nat.reduceSub, zn_lit, zn_add, zn_mul, zn_sub, zn_addneg, zn_lt, zn_le, zn_eq, zn_clamp, zn_in, zn_long, zn_shr, zn_bt, zo_e0, hbit, hp_1, hp_21, ro_0, ro_mo, ro_f0, ro_f1, ro_s1, ro_k1, ro_f2, ro_f3, ro_f4, ro_f5, ro_f6, ro_f7, ro_f8, ro_f9, ro_s9, ro_k9, ro_f10, ro_f11, ro_s11, ro_k11, ro_f12, ro_f13, ro_s13, ro_k13, ro_f14, ro_s14, ro_f15, ro_s15, ro_k15, ro_i1, ro_g1, ro_n1, ro_w1, ro_i2, ro_g2, ro_n2, ro_w2, ro_i3, ro_g3, ro_n3, ro_w3, ro_i4, ro_g4, ro_n4, ro_w4, ro_i5, ro_g5, ro_n5, ro_w5, ro_i6, ro_g6, ro_n6, ro_w6, ro_i7, ro_g7, ro_n7, ro_w7, ro_i8, ro_g8, ro_n8, ro_w8, ro_i9, ro_g9, ro_n9, ro_w9, zu_eq, zu_ne, zu_zu, upd_zu, updL_zu, h13, show ¬ (RW T).length ≤ x by omega, show t < 6 by omega, decide_true, zo_f]
      cases hag : agT T (zu w t x) t with
      | false =>
        refine hskip f1 (fun q hq => by rw [hf1, zu_ne _ _ _ _ hq]) (fun y hy => by rw [hf1, zu_eq, zu_ne _ _ _ _ (by omega)]) ?_ ?_
        · intro h
          rw [hag] at h
          cases h.2.1
        · rw [e0, hag]
          simp (disch := first | omega | exact zb_1 | exact zb_0 | exact zb_n1 | exact zb_n0) only [x69_46, x69_66, x69_69, mq_dl_int, mq_dl_ref, mq_dl_null, mq_dl_none, mc_some, Option.toList_some, Option.toList_none, List.cons_append, List.nil_append, zb_1, zb_0, ↓reduceIte, if_true, if_false, not_true_eq_false, not_false_eq_true, Bool.false_eq_true, z_10, z_01, eq_self, Bool.and_self, true_or, or_true, false_or, or_false, true_and, and_true, false_and, and_false, and_self, or_self, Nat.reduceLT, Nat.reduceEqDiff, Nat.reduceLeDiff, Nat.reduceAdd, Nat.reduceMul, Nat.reduceSub, zn_lit, zn_add, zn_mul, zn_sub, zn_addneg, zn_lt, zn_le, zn_eq, zn_clamp, zn_in, zn_long, zo_f]
      | true =>
        obtain ⟨b1, f2, k1, k2, k3, k4⟩ := IH (t + 1) (u ||| 1 <<< x) f1 (zu w t x) (by omega) hF1 (fun y hy => hw1 y (by omega)) (fun p q h1 h2 h3 => by
          by_cases zp : p = t
          · subst zp
            by_cases zq : q = p
            · omega
            · rw [zu_eq, zu_ne _ _ _ _ zq] at h3
              exact absurd h3.symm (hfree q (by omega))
          · rw [zu_ne _ _ _ _ zp] at h3
            by_cases zq : q = t
            · subst zq
              rw [zu_eq] at h3
              exact absurd h3 (hfree p (by omega))
            · rw [zu_ne _ _ _ _ zq] at h3
              exact hinj p q (by omega) (by omega) h3) (by
          have : u ||| 1 <<< x < 2 ^ 6 := Nat.or_lt_two_pow hu (by
            rw [Nat.one_shiftLeft]
            exact Nat.pow_lt_pow_right (by omega) (by omega))
          exact this) (fun y => by
          rw [tb_put, Bool.or_eq_true, hb y]
          constructor
          · rintro (⟨p, h1, h2⟩ | h1)
            · exact ⟨p, by omega, by rw [zu_ne _ _ _ _ (by omega)]; exact h2⟩
            · exact ⟨t, by omega, by rw [zu_eq]; exact of_decide_eq_true h1⟩
          · rintro ⟨p, h1, h2⟩
            by_cases zp : p = t
            · subst zp
              rw [zu_eq] at h2
              exact Or.inr (decide_eq_true h2)
            · rw [zu_ne _ _ _ _ zp] at h2
              exact Or.inl ⟨p, by omega, h2⟩)
        have e1 : mz (d + r + 4) 69 18 [some (.ref g), some (.int (zn t)), some (.int (zn u)), some (.int (zn x))] [] (hp n s (ro c g a i j f h) I J A B R Q) = mc (some (some (some (.int (zo b1))), hp n s (ro c g a i j f2 h) I J A B R Q)) (fun v h1 => mz (d + r + 4) 69 61 [some (.ref g), some (.int (zn t)), some (.int (zn u)), some (.int (zn x))] (v.toList ++ []) h1) := by
          rw [e0, hag, ← k4]
          simp (disch := first | omega | exact zb_1 | exact zb_0 | exact zb_n1 | exact zb_n0) only [x69_46, x69_49, x69_50, x69_51, x69_52, x69_53, x69_54, x69_55, x69_56, x69_57, x69_58, mq_dl_int, mq_dl_ref, mq_dl_null, mq_dl_none, mc_some, Option.toList_some, Option.toList_none, List.cons_append, List.nil_append, zb_1, zb_0, ↓reduceIte, if_true, if_false, not_true_eq_false, not_false_eq_true, Bool.false_eq_true, z_10, z_01, eq_self, Bool.and_self, true_or, or_true, false_or, or_false, true_and, and_true, false_and, and_false, and_self, or_self, Nat.reduceLT, Nat.reduceEqDiff, Nat.reduceLeDiff, Nat.reduceAdd, Nat.reduceMul, Nat.reduceSub, zn_lit, zn_add, zn_mul, zn_sub, zn_addneg, zn_lt, zn_le, zn_eq, zn_clamp, zn_in, zn_long, zn_shl, zn_or, hp_1, hp_21, ro_0, ro_mo, ro_f0, ro_f1, ro_s1, ro_k1, ro_f2, ro_f3, ro_f4, ro_f5, ro_f6, ro_f7, ro_f8, ro_f9, ro_s9, ro_k9, ro_f10, ro_f11, ro_s11, ro_k11, ro_f12, ro_f13, ro_s13, ro_k13, ro_f14, ro_s14, ro_f15, ro_s15, ro_k15, ro_i1, ro_g1, ro_n1, ro_w1, ro_i2, ro_g2, ro_n2, ro_w2, ro_i3, ro_g3, ro_n3, ro_w3, ro_i4, ro_g4, ro_n4, ro_w4, ro_i5, ro_g5, ro_n5, ro_w5, ro_i6, ro_g6, ro_n6, ro_w6, ro_i7, ro_g7, ro_n7, ro_w7, ro_i8, ro_g8, ro_n8, ro_w8, ro_i9, ro_g9, ro_n9, ro_w9, zu_eq, zu_ne, zu_zu, upd_zu, updL_zu, zo_t]
        have hf2 : ∀ q, q ≠ 9 → f2 q = f q := fun q hq => by rw [k2 q hq, hf1, zu_ne _ _ _ _ hq]
        have hf3 : ∀ y, y < t → f2 9 y = f 9 y := fun y hy => by rw [k3 y (by omega), hf1, zu_eq, zu_ne _ _ _ _ (by omega)]
        cases b1 with
        | true =>
          refine ⟨true, f2, ⟨fun _ => ⟨x, Nat.le_refl _, by omega, hfree, hag, k1.mp rfl⟩, fun _ => rfl⟩, hf2, hf3, ?_⟩
          rw [e1]
          simp (disch := first | omega | exact zb_1 | exact zb_0 | exact zb_n1 | exact zb_n0) only [x69_61, x69_64, x69_65, mq_dl_int, mq_dl_ref, mq_dl_null, mq_dl_none, mc_some, Option.toList_some, Option.toList_none, List.cons_append, List.nil_append, zb_1, zb_0, ↓reduceIte, if_true, if_false, not_true_eq_false, not_false_eq_true, Bool.false_eq_true, z_10, z_01, eq_self, Bool.and_self, true_or, or_true, false_or, or_false, true_and, and_true, false_and, and_false, and_self, or_self, Nat.reduceLT, Nat.reduceEqDiff, Nat.reduceLeDiff, Nat.reduceAdd, Nat.reduceMul, Nat.reduceSub, zn_lit, zn_add, zn_mul, zn_sub, zn_addneg, zn_lt, zn_le, zn_eq, zn_clamp, zn_in, zn_long, zo_t]
        | false =>
          refine hskip f2 hf2 hf3 ?_ ?_
          · intro h
            have := k1.mpr h.2.2
            cases this
          · rw [e1]
            simp (disch := first | omega | exact zb_1 | exact zb_0 | exact zb_n1 | exact zb_n0) only [x69_61, x69_66, x69_69, mq_dl_int, mq_dl_ref, mq_dl_null, mq_dl_none, mc_some, Option.toList_some, Option.toList_none, List.cons_append, List.nil_append, zb_1, zb_0, ↓reduceIte, if_true, if_false, not_true_eq_false, not_false_eq_true, Bool.false_eq_true, z_10, z_01, eq_self, Bool.and_self, true_or, or_true, false_or, or_false, true_and, and_true, false_and, and_false, and_self, or_self, Nat.reduceLT, Nat.reduceEqDiff, Nat.reduceLeDiff, Nat.reduceAdd, Nat.reduceMul, Nat.reduceSub, zn_lit, zn_add, zn_mul, zn_sub, zn_addneg, zn_lt, zn_le, zn_eq, zn_clamp, zn_in, zn_long, zo_f]
theorem C_mf (hg : 46 ≤ g) (hga : a + 2 < g) (hsm : smT T = true) (hT : TB c a T) (hW : WT T) (hs : spT T = true) (d : Nat) : ∀ r, C_MF c g a T n s I J A B R Q i j h d r := by
  have hm := hW.2.1
  intro r
  induction r with
  | zero => exact C_mf0 hg hW d
  | succ r IH =>
    intro t u f w ht hF hw hinj hu hb
    have hi := hF.1
    obtain ⟨b, f', g1, g2, g3, g4⟩ := C_mfl hg hga hsm hT hW hs d r IH t u w ht hu hinj (fun y hy => (hw y hy).2) hb (RW T).length 0 f (by omega) hF (fun y hy => (hw y hy).1)
    refine ⟨b, f', g1.trans ⟨fun ⟨y, h1, h2, h3, h4, h5⟩ => (EXW_s (by omega)).mpr ⟨y, h2, h3, h4, h5⟩, fun h1 => ?_⟩, g2, g3, ?_⟩
    · obtain ⟨y, h2, h3, h4, h5⟩ := (EXW_s (by omega)).mp h1
      exact ⟨y, by omega, h2, h3, h4, h5⟩
    · rw [← g4, show d + (r + 1) + 3 = d + r + 4 by omega]
      simp (disch := first | omega | exact zb_1 | exact zb_0 | exact zb_n1 | exact zb_n0) only [x69_0, x69_1, x69_2, x69_5, x69_8, x69_9, x69_11, x69_16, x69_17, mq_dl_int, mq_dl_ref, mq_dl_null, mq_dl_none, mc_some, Option.toList_some, Option.toList_none, List.cons_append, List.nil_append, zb_1, zb_0, ↓reduceIte, if_true, if_false, not_true_eq_false, not_false_eq_true, Bool.false_eq_true, z_10, z_01, eq_self, Bool.and_self, true_or, or_true, false_or, or_false, true_and, and_true, false_and, and_false, and_self, or_self, Nat.reduceLT, Nat.reduceEqDiff, Nat.reduceLeDiff, Nat.reduceAdd, Nat.reduceMul, Nat.reduceSub, zn_lit, zn_add, zn_mul, zn_sub, zn_addneg, zn_lt, zn_le, zn_eq, zn_clamp, zn_in, zn_long, hp_1, hp_21, ro_0, ro_mo, ro_f0, ro_f1, ro_s1, ro_k1, ro_f2, ro_f3, ro_f4, ro_f5, ro_f6, ro_f7, ro_f8, ro_f9, ro_s9, ro_k9, ro_f10, ro_f11, ro_s11, ro_k11, ro_f12, ro_f13, ro_s13, ro_k13, ro_f14, ro_s14, ro_f15, ro_s15, ro_k15, ro_i1, ro_g1, ro_n1, ro_w1, ro_i2, ro_g2, ro_n2, ro_w2, ro_i3, ro_g3, ro_n3, ro_w3, ro_i4, ro_g4, ro_n4, ro_w4, ro_i5, ro_g5, ro_n5, ro_w5, ro_i6, ro_g6, ro_n6, ro_w6, ro_i7, ro_g7, ro_n7, ro_w7, ro_i8, ro_g8, ro_n8, ro_w8, ro_i9, ro_g9, ro_n9, ro_w9, zu_eq, zu_ne, zu_zu, upd_zu, updL_zu, hi, show ¬ T.1 ≤ t by omega, show t < 6 by omega]
theorem C_mwl {f : Nat → Nat → Int32} (hg : 46 ≤ g) (hga : a + 2 < g) (hsm : smT T = true) (hF : RSF T i j f h) (hT : TB c a T) (hW : WT T) (hs : spT T = true) (d : Nat) : ∃ b f', (b = true ↔ TW T) ∧ (∀ q, q ≠ 9 → f' q = f q) ∧ mz (d + 9) 68 0 [some (.ref g)] [] (hp n s (ro c g a i j f h) I J A B R Q) = some (some (some (.int (zo b))), hp n s (ro c g a i j f' h) I J A B R Q) := by
  have hm := hW.2.1
  have hm1 := hW.1
  have hl := (sp_len hs).1
  have h13 := hF.2.1.1
  obtain ⟨f1, hf1⟩ : ∃ f1, f1 = zu f 9 (zu (f 9) 0 (zn ((RW T).length - 1))) := ⟨_, rfl⟩
  have hF1 : RSF T i j f1 h := RSF_f hF (by rw [hf1, zu_ne _ _ _ _ (by omega)])
  obtain ⟨w, hw⟩ : ∃ w : Nat → Nat, w = fun _ => (RW T).length - 1 := ⟨_, rfl⟩
  have hw0 : w 0 = (RW T).length - 1 := by rw [hw]
  have hw1 : ∀ y, y ≤ 0 → f1 9 y = zn (w y) ∧ w y < (RW T).length := by
    intro y hy
    have e : y = 0 := by omega
    subst e
    rw [hf1, zu_eq, zu_eq, hw0]
    exact ⟨rfl, by omega⟩
  have eag := C_ag (n := n) (s := s) (c := c) (I := I) (J := J) (A := A) (B := B) (R := R) (Q := Q) hg hga hsm hF1 hT hW hs (d + 6) 0 (by omega) hw1
  have htw := TW_iff hW hw0
  cases hag : agT T w 0 with
  | false =>
    rw [hag] at eag htw
    refine ⟨false, f1, ⟨fun h => by (cases h), fun h => ?_⟩, fun q hq => by rw [hf1, zu_ne _ _ _ _ hq], ?_⟩
    · have := (htw.mp h).1
      cases this
    · simp (disch := first | omega | exact zb_1 | exact zb_0 | exact zb_n1 | exact zb_n0) only [x68_0, x68_1, x68_4, x68_5, x68_6, x68_9, x68_10, x68_11, x68_12, x68_13, x68_14, x68_17, x68_40, x68_41, mq_dl_int, mq_dl_ref, mq_dl_null, mq_dl_none, mc_some, Option.toList_some, Option.toList_none, List.cons_append, List.nil_append, zb_1, zb_0, ↓reduceIte, if_true, if_false, not_true_eq_false, not_false_eq_true, Bool.false_eq_true, z_10, z_01, eq_self, Bool.and_self, true_or, or_true, false_or, or_false, true_and, and_true, false_and, and_false, and_self, or_self, Nat.reduceLT, Nat.reduceEqDiff, Nat.reduceLeDiff, Nat.reduceAdd, Nat.reduceMul, Nat.reduceSub, zn_lit, zn_add, zn_mul, zn_sub, zn_addneg, zn_lt, zn_le, zn_eq, zn_clamp, zn_in, zn_long, hp_1, hp_21, ro_0, ro_mo, ro_f0, ro_f1, ro_s1, ro_k1, ro_f2, ro_f3, ro_f4, ro_f5, ro_f6, ro_f7, ro_f8, ro_f9, ro_s9, ro_k9, ro_f10, ro_f11, ro_s11, ro_k11, ro_f12, ro_f13, ro_s13, ro_k13, ro_f14, ro_s14, ro_f15, ro_s15, ro_k15, ro_i1, ro_g1, ro_n1, ro_w1, ro_i2, ro_g2, ro_n2, ro_w2, ro_i3, ro_g3, ro_n3, ro_w3, ro_i4, ro_g4, ro_n4, ro_w4, ro_i5, ro_g5, ro_n5, ro_w5, ro_i6, ro_g6, ro_n6, ro_w6, ro_i7, ro_g7, ro_n7, ro_w7, ro_i8, ro_g8, ro_n8, ro_w8, ro_i9, ro_g9, ro_n9, ro_w9, zu_eq, zu_ne, zu_zu, upd_zu, updL_zu, h13, ← hf1, eag, zo_f, show 0 < 6 by omega, decide_true]
  | true =>
    rw [hag] at eag htw
    obtain ⟨b, f2, k1, k2, k3, k4⟩ := C_mf (n := n) (s := s) (c := c) (I := I) (J := J) (A := A) (B := B) (R := R) (Q := Q) (i := i) (j := j) (h := h) hg hga hsm hT hW hs (d + 5 - (T.1 - 1)) (T.1 - 1) 1 (1 <<< ((RW T).length - 1)) f1 w (by omega) hF1 (fun y hy => hw1 y (by omega)) (fun p q h1 h2 _ => by omega) (by
      rw [Nat.one_shiftLeft]
      exact Nat.lt_of_lt_of_le (Nat.pow_lt_pow_right (by omega) (show (RW T).length - 1 < 6 by omega)) (by decide)) (fun y => by
      rw [Nat.one_shiftLeft, Nat.testBit_two_pow]
      constructor
      · intro h1
        exact ⟨0, by omega, by rw [hw0]; exact of_decide_eq_true h1⟩
      · rintro ⟨p, h1, h2⟩
        rw [show p = 0 by omega, hw0] at h2
        exact decide_eq_true h2)
    rw [show d + 5 - (T.1 - 1) + (T.1 - 1) + 3 = d + 8 by omega] at k4
    refine ⟨b, f2, k1.trans ⟨fun h => htw.mpr ⟨rfl, h⟩, fun h => (htw.mp h).2⟩, fun q hq => by rw [k2 q hq, hf1, zu_ne _ _ _ _ hq], ?_⟩
    cases b with
    | true => simp (disch := first | omega | exact zb_1 | exact zb_0 | exact zb_n1 | exact zb_n0) only [x68_0, x68_1, x68_4, x68_5, x68_6, x68_9, x68_10, x68_11, x68_12, x68_13, x68_14, x68_17, x68_20, x68_21, x68_22, x68_23, x68_24, x68_27, x68_28, x68_29, x68_30, x68_33, x68_36, x68_37, x68_41, mq_dl_int, mq_dl_ref, mq_dl_null, mq_dl_none, mc_some, Option.toList_some, Option.toList_none, List.cons_append, List.nil_append, zb_1, zb_0, ↓reduceIte, if_true, if_false, not_true_eq_false, not_false_eq_true, Bool.false_eq_true, z_10, z_01, eq_self, Bool.and_self, true_or, or_true, false_or, or_false, true_and, and_true, false_and, and_false, and_self, or_self, Nat.reduceLT, Nat.reduceEqDiff, Nat.reduceLeDiff, Nat.reduceAdd, Nat.reduceMul, Nat.reduceSub, zn_lit, zn_add, zn_mul, zn_sub, zn_addneg, zn_lt, zn_le, zn_eq, zn_clamp, zn_in, zn_long, zn_shl, hp_1, hp_21, ro_0, ro_mo, ro_f0, ro_f1, ro_s1, ro_k1, ro_f2, ro_f3, ro_f4, ro_f5, ro_f6, ro_f7, ro_f8, ro_f9, ro_s9, ro_k9, ro_f10, ro_f11, ro_s11, ro_k11, ro_f12, ro_f13, ro_s13, ro_k13, ro_f14, ro_s14, ro_f15, ro_s15, ro_k15, ro_i1, ro_g1, ro_n1, ro_w1, ro_i2, ro_g2, ro_n2, ro_w2, ro_i3, ro_g3, ro_n3, ro_w3, ro_i4, ro_g4, ro_n4, ro_w4, ro_i5, ro_g5, ro_n5, ro_w5, ro_i6, ro_g6, ro_n6, ro_w6, ro_i7, ro_g7, ro_n7, ro_w7, ro_i8, ro_g8, ro_n8, ro_w8, ro_i9, ro_g9, ro_n9, ro_w9, zu_eq, zu_ne, zu_zu, upd_zu, updL_zu, h13, ← hf1, eag, k4, zo_t, show 0 < 6 by omega, decide_true]
    | false => simp (disch := first | omega | exact zb_1 | exact zb_0 | exact zb_n1 | exact zb_n0) only [x68_0, x68_1, x68_4, x68_5, x68_6, x68_9, x68_10, x68_11, x68_12, x68_13, x68_14, x68_17, x68_20, x68_21, x68_22, x68_23, x68_24, x68_27, x68_28, x68_29, x68_30, x68_33, x68_40, x68_41, mq_dl_int, mq_dl_ref, mq_dl_null, mq_dl_none, mc_some, Option.toList_some, Option.toList_none, List.cons_append, List.nil_append, zb_1, zb_0, ↓reduceIte, if_true, if_false, not_true_eq_false, not_false_eq_true, Bool.false_eq_true, z_10, z_01, eq_self, Bool.and_self, true_or, or_true, false_or, or_false, true_and, and_true, false_and, and_false, and_self, or_self, Nat.reduceLT, Nat.reduceEqDiff, Nat.reduceLeDiff, Nat.reduceAdd, Nat.reduceMul, Nat.reduceSub, zn_lit, zn_add, zn_mul, zn_sub, zn_addneg, zn_lt, zn_le, zn_eq, zn_clamp, zn_in, zn_long, zn_shl, hp_1, hp_21, ro_0, ro_mo, ro_f0, ro_f1, ro_s1, ro_k1, ro_f2, ro_f3, ro_f4, ro_f5, ro_f6, ro_f7, ro_f8, ro_f9, ro_s9, ro_k9, ro_f10, ro_f11, ro_s11, ro_k11, ro_f12, ro_f13, ro_s13, ro_k13, ro_f14, ro_s14, ro_f15, ro_s15, ro_k15, ro_i1, ro_g1, ro_n1, ro_w1, ro_i2, ro_g2, ro_n2, ro_w2, ro_i3, ro_g3, ro_n3, ro_w3, ro_i4, ro_g4, ro_n4, ro_w4, ro_i5, ro_g5, ro_n5, ro_w5, ro_i6, ro_g6, ro_n6, ro_w6, ro_i7, ro_g7, ro_n7, ro_w7, ro_i8, ro_g8, ro_n8, ro_w8, ro_i9, ro_g9, ro_n9, ro_w9, zu_eq, zu_ne, zu_zu, upd_zu, updL_zu, h13, ← hf1, eag, k4, zo_t, zo_f, show 0 < 6 by omega, decide_true]
theorem RS_twn (hG : RSV c g a T) (hT : TB c a T) (hW : WT T) (hs : spT T = true) (d : Nat) : ∃ b c', (b = true ↔ TW T) ∧ RSV c' g a T ∧ TB c' a T ∧ (∀ x, x < g ∨ g + 9 < x → c' x = c x) ∧ mz (d + 10) 67 0 [some (.ref g)] [] (hp n s c I J A B R Q) = some (some (some (.int (zo b))), hp n s c' I J A B R Q) := by
  obtain ⟨h1, h2, h3, i, j, f, h, h4, h5⟩ := hG
  have h15 := h5.2.2.2.2.2.2
  have h14 := h5.2.2.2.2.1
  rw [hs] at h14
  have done : ∀ (b : Bool) (i' : Nat → Int32) (f' : Nat → Nat → Int32), (b = true ↔ TW T) → i' 15 = zo b → RSF T i' j f' h → mz (d + 10) 67 31 [some (.ref g)] [] (hp n s (ro c g a i' j f' h) I J A B R Q) = some (some (some (.int (zo b))), hp n s (ro c g a i' j f' h) I J A B R Q) := by
    intro b i' f' hb hi hF
    cases b with
    | true => simp (disch := first | omega | exact zb_1 | exact zb_0 | exact zb_n1 | exact zb_n0) only [x67_31, x67_32, x67_35, x67_36, x67_39, x67_40, x67_44, mq_dl_int, mq_dl_ref, mq_dl_null, mq_dl_none, mc_some, Option.toList_some, Option.toList_none, List.cons_append, List.nil_append, zb_1, zb_0, ↓reduceIte, if_true, if_false, not_true_eq_false, not_false_eq_true, Bool.false_eq_true, z_10, z_01, eq_self, Bool.and_self, true_or, or_true, false_or, or_false, true_and, and_true, false_and, and_false, and_self, or_self, Nat.reduceLT, Nat.reduceEqDiff, Nat.reduceLeDiff, Nat.reduceAdd, Nat.reduceMul, Nat.reduceSub, zn_lit, zn_add, zn_mul, zn_sub, zn_addneg, zn_lt, zn_le, zn_eq, zn_clamp, zn_in, zn_long, hp_1, hp_21, ro_0, ro_mo, ro_f0, ro_f1, ro_s1, ro_k1, ro_f2, ro_f3, ro_f4, ro_f5, ro_f6, ro_f7, ro_f8, ro_f9, ro_s9, ro_k9, ro_f10, ro_f11, ro_s11, ro_k11, ro_f12, ro_f13, ro_s13, ro_k13, ro_f14, ro_s14, ro_f15, ro_s15, ro_k15, ro_i1, ro_g1, ro_n1, ro_w1, ro_i2, ro_g2, ro_n2, ro_w2, ro_i3, ro_g3, ro_n3, ro_w3, ro_i4, ro_g4, ro_n4, ro_w4, ro_i5, ro_g5, ro_n5, ro_w5, ro_i6, ro_g6, ro_n6, ro_w6, ro_i7, ro_g7, ro_n7, ro_w7, ro_i8, ro_g8, ro_n8, ro_w8, ro_i9, ro_g9, ro_n9, ro_w9, zu_eq, zu_ne, zu_zu, upd_zu, updL_zu, hi, zo_t]
    | false => simp (disch := first | omega | exact zb_1 | exact zb_0 | exact zb_n1 | exact zb_n0) only [x67_31, x67_32, x67_35, x67_36, x67_43, x67_44, mq_dl_int, mq_dl_ref, mq_dl_null, mq_dl_none, mc_some, Option.toList_some, Option.toList_none, List.cons_append, List.nil_append, zb_1, zb_0, ↓reduceIte, if_true, if_false, not_true_eq_false, not_false_eq_true, Bool.false_eq_true, z_10, z_01, eq_self, Bool.and_self, true_or, or_true, false_or, or_false, true_and, and_true, false_and, and_false, and_self, or_self, Nat.reduceLT, Nat.reduceEqDiff, Nat.reduceLeDiff, Nat.reduceAdd, Nat.reduceMul, Nat.reduceSub, zn_lit, zn_add, zn_mul, zn_sub, zn_addneg, zn_lt, zn_le, zn_eq, zn_clamp, zn_in, zn_long, hp_1, hp_21, ro_0, ro_mo, ro_f0, ro_f1, ro_s1, ro_k1, ro_f2, ro_f3, ro_f4, ro_f5, ro_f6, ro_f7, ro_f8, ro_f9, ro_s9, ro_k9, ro_f10, ro_f11, ro_s11, ro_k11, ro_f12, ro_f13, ro_s13, ro_k13, ro_f14, ro_s14, ro_f15, ro_s15, ro_k15, ro_i1, ro_g1, ro_n1, ro_w1, ro_i2, ro_g2, ro_n2, ro_w2, ro_i3, ro_g3, ro_n3, ro_w3, ro_i4, ro_g4, ro_n4, ro_w4, ro_i5, ro_g5, ro_n5, ro_w5, ro_i6, ro_g6, ro_n6, ro_w6, ro_i7, ro_g7, ro_n7, ro_w7, ro_i8, ro_g8, ro_n8, ro_w8, ro_i9, ro_g9, ro_n9, ro_w9, zu_eq, zu_ne, zu_zu, upd_zu, updL_zu, hi, zo_f]
  by_cases q : i 15 = -1
  · obtain ⟨b, f', g1, g2, g3⟩ := C_mwl (n := n) (s := s) (c := c) (I := I) (J := J) (A := A) (B := B) (R := R) (Q := Q) h1 h2 h3 h5 hT hW hs d
    have hF' : RSF T (zu i 15 (zo b)) j f' h := by
      obtain ⟨a1, a2, a3, a4, a5, a6, a7⟩ := h5
      exact ⟨by rw [zu_ne _ _ _ _ (by omega)]; exact a1, ⟨by rw [zu_ne _ _ _ _ (by omega)]; exact a2.1, by rw [g2 1 (by omega)]; exact a2.2⟩, a3, a4, by rw [zu_ne _ _ _ _ (by omega)]; exact a5, a6, Or.inr ⟨b, g1, zu_eq _ _ _⟩⟩
    refine ⟨b, ro c g a (zu i 15 (zo b)) j f' h, g1, ⟨h1, h2, h3, _, _, _, _, ro_ro _ _ _ _ _ _ _ _ _ _ _, hF'⟩, TB_ro hT (Or.inl h2), fun x hx => ro_ne x hx, ?_⟩
    rw [← done b (zu i 15 (zo b)) f' g1 (zu_eq _ _ _) hF']
    have e8 : mz (d + 10) 67 0 [some (.ref g)] [] (hp n s (ro c g a i j f h) I J A B R Q) = mz (d + 10) 67 31 [some (.ref g)] [] (hp n s (ro c g a (zu i 15 (zo b)) j f' h) I J A B R Q) := by
      cases b with
      | true => simp (disch := first | omega | exact zb_1 | exact zb_0 | exact zb_n1 | exact zb_n0) only [x67_0, x67_1, x67_4, x67_5, x67_8, x67_9, x67_10, x67_13, x67_16, x67_17, x67_20, x67_23, x67_24, x67_28, mq_dl_int, mq_dl_ref, mq_dl_null, mq_dl_none, mc_some, Option.toList_some, Option.toList_none, List.cons_append, List.nil_append, zb_1, zb_0, ↓reduceIte, if_true, if_false, not_true_eq_false, not_false_eq_true, Bool.false_eq_true, z_10, z_01, eq_self, Bool.and_self, true_or, or_true, false_or, or_false, true_and, and_true, false_and, and_false, and_self, or_self, Nat.reduceLT, Nat.reduceEqDiff, Nat.reduceLeDiff, Nat.reduceAdd, Nat.reduceMul, Nat.reduceSub, zn_lit, zn_add, zn_mul, zn_sub, zn_addneg, zn_lt, zn_le, zn_eq, zn_clamp, zn_in, zn_long, hp_1, hp_21, ro_0, ro_mo, ro_f0, ro_f1, ro_s1, ro_k1, ro_f2, ro_f3, ro_f4, ro_f5, ro_f6, ro_f7, ro_f8, ro_f9, ro_s9, ro_k9, ro_f10, ro_f11, ro_s11, ro_k11, ro_f12, ro_f13, ro_s13, ro_k13, ro_f14, ro_s14, ro_f15, ro_s15, ro_k15, ro_i1, ro_g1, ro_n1, ro_w1, ro_i2, ro_g2, ro_n2, ro_w2, ro_i3, ro_g3, ro_n3, ro_w3, ro_i4, ro_g4, ro_n4, ro_w4, ro_i5, ro_g5, ro_n5, ro_w5, ro_i6, ro_g6, ro_n6, ro_w6, ro_i7, ro_g7, ro_n7, ro_w7, ro_i8, ro_g8, ro_n8, ro_w8, ro_i9, ro_g9, ro_n9, ro_w9, zu_eq, zu_ne, zu_zu, upd_zu, updL_zu, show i 15 = -zn 1 from q, h14, g3, zo_t, ro_k15]
      | false => simp (disch := first | omega | exact zb_1 | exact zb_0 | exact zb_n1 | exact zb_n0) only [x67_0, x67_1, x67_4, x67_5, x67_8, x67_9, x67_10, x67_13, x67_16, x67_17, x67_20, x67_27, x67_28, mq_dl_int, mq_dl_ref, mq_dl_null, mq_dl_none, mc_some, Option.toList_some, Option.toList_none, List.cons_append, List.nil_append, zb_1, zb_0, ↓reduceIte, if_true, if_false, not_true_eq_false, not_false_eq_true, Bool.false_eq_true, z_10, z_01, eq_self, Bool.and_self, true_or, or_true, false_or, or_false, true_and, and_true, false_and, and_false, and_self, or_self, Nat.reduceLT, Nat.reduceEqDiff, Nat.reduceLeDiff, Nat.reduceAdd, Nat.reduceMul, Nat.reduceSub, zn_lit, zn_add, zn_mul, zn_sub, zn_addneg, zn_lt, zn_le, zn_eq, zn_clamp, zn_in, zn_long, hp_1, hp_21, ro_0, ro_mo, ro_f0, ro_f1, ro_s1, ro_k1, ro_f2, ro_f3, ro_f4, ro_f5, ro_f6, ro_f7, ro_f8, ro_f9, ro_s9, ro_k9, ro_f10, ro_f11, ro_s11, ro_k11, ro_f12, ro_f13, ro_s13, ro_k13, ro_f14, ro_s14, ro_f15, ro_s15, ro_k15, ro_i1, ro_g1, ro_n1, ro_w1, ro_i2, ro_g2, ro_n2, ro_w2, ro_i3, ro_g3, ro_n3, ro_w3, ro_i4, ro_g4, ro_n4, ro_w4, ro_i5, ro_g5, ro_n5, ro_w5, ro_i6, ro_g6, ro_n6, ro_w6, ro_i7, ro_g7, ro_n7, ro_w7, ro_i8, ro_g8, ro_n8, ro_w8, ro_i9, ro_g9, ro_n9, ro_w9, zu_eq, zu_ne, zu_zu, upd_zu, updL_zu, show i 15 = -zn 1 from q, h14, g3, zo_t, zo_f, ro_k15]
    rw [h4] at e8
    exact e8
  · obtain ⟨b, g1, g2⟩ := h15.resolve_left q
    refine ⟨b, c, g1, ⟨h1, h2, h3, i, j, f, h, h4, h5⟩, hT, fun _ _ => rfl, ?_⟩
    have e8 := done b i f g1 g2 h5
    have e9 : mz (d + 10) 67 0 [some (.ref g)] [] (hp n s (ro c g a i j f h) I J A B R Q) = mz (d + 10) 67 31 [some (.ref g)] [] (hp n s (ro c g a i j f h) I J A B R Q) := by
      simp (disch := first | omega | exact zb_1 | exact zb_0 | exact zb_n1 | exact zb_n0) only [x67_0, x67_1, x67_4, x67_5, mq_dl_int, mq_dl_ref, mq_dl_null, mq_dl_none, mc_some, Option.toList_some, Option.toList_none, List.cons_append, List.nil_append, zb_1, zb_0, ↓reduceIte, if_true, if_false, not_true_eq_false, not_false_eq_true, Bool.false_eq_true, z_10, z_01, eq_self, Bool.and_self, true_or, or_true, false_or, or_false, true_and, and_true, false_and, and_false, and_self, or_self, zn_lit, hp_1, hp_21, ro_0, ro_mo, ro_f0, ro_f1, ro_s1, ro_k1, ro_f2, ro_f3, ro_f4, ro_f5, ro_f6, ro_f7, ro_f8, ro_f9, ro_s9, ro_k9, ro_f10, ro_f11, ro_s11, ro_k11, ro_f12, ro_f13, ro_s13, ro_k13, ro_f14, ro_s14, ro_f15, ro_s15, ro_k15, ro_i1, ro_g1, ro_n1, ro_w1, ro_i2, ro_g2, ro_n2, ro_w2, ro_i3, ro_g3, ro_n3, ro_w3, ro_i4, ro_g4, ro_n4, ro_w4, ro_i5, ro_g5, ro_n5, ro_w5, ro_i6, ro_g6, ro_n6, ro_w6, ro_i7, ro_g7, ro_n7, ro_w7, ro_i8, ro_g8, ro_n8, ro_w8, ro_i9, ro_g9, ro_n9, ro_w9, zu_eq, zu_ne, zu_zu, upd_zu, updL_zu, show ¬ i 15 = -zn 1 from q]
    rw [e8, h4] at e9
    exact e9
/-- TWIN answers -/
def twA (T : ZT) (x : Int32) : Prop := (smT T = true ∧ spT T = true → ∃ b, (b = true ↔ TW T) ∧ x = zo b) ∧ (¬ (smT T = true ∧ spT T = true) → x = -1)
theorem twA_u {x y : Int32} (h : twA T x) (h' : twA T y) : x = y := by
  by_cases q : smT T = true ∧ spT T = true
  · obtain ⟨b, h1, h2⟩ := h.1 q
    obtain ⟨b', h3, h4⟩ := h'.1 q
    have e : b = b' := by rw [Bool.eq_iff_iff, h1, h3]
    rw [h2, h4, e]
  · rw [h.2 q, h'.2 q]
theorem C_twin {b bi bj bk : Int32} {rs gs : Value} (hT : TB c a T) (hW : WT T) (hR : R 804 = .ref a) (hc : c a = tbo T.1 a b bi bj bk rs gs) (hv : b = -1 ∨ jd T b bi bj bk) (hn : 46 ≤ n) (han : a + 2 < n) (hrs : rs = .null ∨ ∃ g, rs = .ref g ∧ g + 9 < n ∧ RSV c g a T) (d : Nat) : ∃ n' s' c' x, CRP n s c a T rs gs n' s' c' ∧ twA T x ∧ mz (d + 11) 155 0 [some (.ref 0), none] [] (hp n s c I J A B R Q) = some (some (some (.int x)), hp n' s' c' I J A B R Q) := by
  obtain ⟨k1, k2⟩ := T_rws (n := n) (s := s) (c := c) (I := I) (J := J) (A := A) (B := B) (R := R) (Q := Q) hT hW hc hv hn han hrs d
  cases hg : smT T with
  | true =>
    obtain ⟨n', s', c', g, h1, hgg, e⟩ := k1 hg
    have hG := h1.2.2.2.2.2.2.1
    have hT' := h1.2.2.2.2.2.2.2.2
    cases hs : spT T with
    | true =>
      obtain ⟨b1, c2, t1, t2, t3, t4, t5⟩ := RS_twn (n := n') (s := s') (I := I) (J := J) (A := A) (B := B) (R := R) (Q := Q) hG hT' hW hs d
      obtain ⟨a1, a2, a3, a4, a5, ⟨b', bi', bj', bk', a6, a7⟩, a8, a9, a10⟩ := h1
      refine ⟨n', s', c2, zo b1, ⟨a1, by omega, a3, by omega, fun x hx hxa hxg => ?_, ⟨b', bi', bj', bk', .ref g, a6, by rw [t4 a (by have := hG.2.1; omega)]; exact a7, Or.inr ⟨g, rfl, a9, t2, hgg⟩⟩, t3⟩, ⟨fun _ => ⟨b1, t1, rfl⟩, fun h => absurd ⟨hg, hs⟩ h⟩, ?_⟩
      · rw [t4 x, a5 x hx hxa]
        rcases hgg with e2 | e2
        · exact hxg g e2
        · omega
      · cases b1 with
        | true => simp (disch := first | omega | exact zb_1 | exact zb_0 | exact zb_n1 | exact zb_n0) only [x155_0, x155_0N, x155_1, x155_4, x155_7, x155_10, x155_10N, x155_11, x155_11N, x155_12N, x155_12, x155_15, x155_15N, x155_16, x155_19, x155_24, x155_24N, x155_25, x155_28, x155_31, x155_32, x155_36, x155_35, x155_22, x155_23, x34_0, x34_0N, x34_1, x34_4, x34_4N, mq_dl_int, mq_dl_ref, mq_dl_null, mq_dl_none, mc_some, Option.toList_some, Option.toList_none, List.cons_append, List.nil_append, zb_1, zb_0, ↓reduceIte, if_true, if_false, not_true_eq_false, not_false_eq_true, Bool.false_eq_true, z_10, z_01, eq_self, Bool.and_self, true_or, or_true, false_or, or_false, true_and, and_true, false_and, and_false, and_self, or_self, Nat.reduceLT, Nat.reduceEqDiff, Nat.reduceLeDiff, Nat.reduceAdd, Nat.reduceMul, Nat.reduceSub, zn_lit, zn_add, zn_mul, zn_sub, zn_addneg, zn_lt, zn_le, zn_eq, zn_clamp, zn_in, zn_long, hp_1, hp_21, upd_zu, updL_zu, updQ_zu, zu_eq, zu_ne, ho_0, ho_0_0, hf_0_0, ho_0_1, hf_0_1, ho_0_2, hf_0_2, ho_0_3, hf_0_3, ho_0_4, hf_0_4, ho_0_5, hf_0_5, ho_0_6, hf_0_6, ho_0_7, hf_0_7, hk_0_7, hw_0_7, ho_1, ho_1_0, hf_1_0, ho_1_1, hf_1_1, hk_1_1, hw_1_1, ho_1_2, hf_1_2, hk_1_2, hw_1_2, ho_1_3, hf_1_3, hk_1_3, hw_1_3, ho_1_4, hf_1_4, hk_1_4, hw_1_4, ho_1_5, hf_1_5, hk_1_5, hw_1_5, hn_2, hi_2, hg_2, hu_2, ho_3, ho_3_0, hf_3_0, ho_3_1, hf_3_1, ho_3_2, hf_3_2, hk_3_2, hw_3_2, ho_3_3, hf_3_3, hk_3_3, hw_3_3, hn_4, hi_4, hj_4, hg_4, hu_4, ho_5, ho_5_0, hf_5_0, ho_5_1, hf_5_1, ho_5_2, hf_5_2, ho_5_3, hf_5_3, hk_5_3, hw_5_3, ho_6, ho_6_0, hf_6_0, ho_6_1, hf_6_1, ho_6_2, hf_6_2, ho_6_3, hf_6_3, hk_6_3, hw_6_3, hn_7, hi_7, hj_7, hg_7, hu_7, hn_8, hi_8, hj_8, hg_8, hu_8, hn_9, hi_9, hj_9, hg_9, hu_9, ho_10, ho_10_0, hf_10_0, ho_10_1, hf_10_1, ho_10_2, hf_10_2, ho_10_3, hf_10_3, hk_10_3, hw_10_3, ho_10_4, hf_10_4, hk_10_4, hkN_10_4, hw_10_4, hn_11, hi_11, hj_11, hg_11, hu_11, hn_12, hi_12, hj_12, hg_12, hu_12, hn_13, hi_13, hj_13, hg_13, hu_13, hn_14, hi_14, hg_14, hu_14, hn_15, hi_15, hg_15, hu_15, ho_16, ho_16_0, hf_16_0, ho_16_1, hf_16_1, ho_16_2, hf_16_2, hk_16_2, hw_16_2, ho_16_3, hf_16_3, hk_16_3, hw_16_3, ho_16_4, hf_16_4, hk_16_4, hkN_16_4, hw_16_4, hn_17, hi_17, hg_17, hu_17, hn_18, hi_18, hg_18, hu_18, hn_22, hi_22, hg_22, hu_22, hR, tb_0 hT, e, RS_0 hG, RS_spl hG, hs, t5, zo_t]
        | false => simp (disch := first | omega | exact zb_1 | exact zb_0 | exact zb_n1 | exact zb_n0) only [x155_0, x155_0N, x155_1, x155_4, x155_7, x155_10, x155_10N, x155_11, x155_11N, x155_12N, x155_12, x155_15, x155_15N, x155_16, x155_19, x155_24, x155_24N, x155_25, x155_28, x155_31, x155_32, x155_36, x155_35, x155_22, x155_23, x34_0, x34_0N, x34_1, x34_4, x34_4N, mq_dl_int, mq_dl_ref, mq_dl_null, mq_dl_none, mc_some, Option.toList_some, Option.toList_none, List.cons_append, List.nil_append, zb_1, zb_0, ↓reduceIte, if_true, if_false, not_true_eq_false, not_false_eq_true, Bool.false_eq_true, z_10, z_01, eq_self, Bool.and_self, true_or, or_true, false_or, or_false, true_and, and_true, false_and, and_false, and_self, or_self, Nat.reduceLT, Nat.reduceEqDiff, Nat.reduceLeDiff, Nat.reduceAdd, Nat.reduceMul, Nat.reduceSub, zn_lit, zn_add, zn_mul, zn_sub, zn_addneg, zn_lt, zn_le, zn_eq, zn_clamp, zn_in, zn_long, hp_1, hp_21, upd_zu, updL_zu, updQ_zu, zu_eq, zu_ne, ho_0, ho_0_0, hf_0_0, ho_0_1, hf_0_1, ho_0_2, hf_0_2, ho_0_3, hf_0_3, ho_0_4, hf_0_4, ho_0_5, hf_0_5, ho_0_6, hf_0_6, ho_0_7, hf_0_7, hk_0_7, hw_0_7, ho_1, ho_1_0, hf_1_0, ho_1_1, hf_1_1, hk_1_1, hw_1_1, ho_1_2, hf_1_2, hk_1_2, hw_1_2, ho_1_3, hf_1_3, hk_1_3, hw_1_3, ho_1_4, hf_1_4, hk_1_4, hw_1_4, ho_1_5, hf_1_5, hk_1_5, hw_1_5, hn_2, hi_2, hg_2, hu_2, ho_3, ho_3_0, hf_3_0, ho_3_1, hf_3_1, ho_3_2, hf_3_2, hk_3_2, hw_3_2, ho_3_3, hf_3_3, hk_3_3, hw_3_3, hn_4, hi_4, hj_4, hg_4, hu_4, ho_5, ho_5_0, hf_5_0, ho_5_1, hf_5_1, ho_5_2, hf_5_2, ho_5_3, hf_5_3, hk_5_3, hw_5_3, ho_6, ho_6_0, hf_6_0, ho_6_1, hf_6_1, ho_6_2, hf_6_2, ho_6_3, hf_6_3, hk_6_3, hw_6_3, hn_7, hi_7, hj_7, hg_7, hu_7, hn_8, hi_8, hj_8, hg_8, hu_8, hn_9, hi_9, hj_9, hg_9, hu_9, ho_10, ho_10_0, hf_10_0, ho_10_1, hf_10_1, ho_10_2, hf_10_2, ho_10_3, hf_10_3, hk_10_3, hw_10_3, ho_10_4, hf_10_4, hk_10_4, hkN_10_4, hw_10_4, hn_11, hi_11, hj_11, hg_11, hu_11, hn_12, hi_12, hj_12, hg_12, hu_12, hn_13, hi_13, hj_13, hg_13, hu_13, hn_14, hi_14, hg_14, hu_14, hn_15, hi_15, hg_15, hu_15, ho_16, ho_16_0, hf_16_0, ho_16_1, hf_16_1, ho_16_2, hf_16_2, hk_16_2, hw_16_2, ho_16_3, hf_16_3, hk_16_3, hw_16_3, ho_16_4, hf_16_4, hk_16_4, hkN_16_4, hw_16_4, hn_17, hi_17, hg_17, hu_17, hn_18, hi_18, hg_18, hu_18, hn_22, hi_22, hg_22, hu_22, hR, tb_0 hT, e, RS_0 hG, RS_spl hG, hs, t5, zo_t, zo_f]
    | false =>
      refine ⟨n', s', c', -1, CR_CRP h1 hgg, ⟨fun h => (by rw [hs] at h; exact absurd h.2 (by decide)), fun _ => rfl⟩, ?_⟩
      simp (disch := first | omega | exact zb_1 | exact zb_0 | exact zb_n1 | exact zb_n0) only [x155_0, x155_0N, x155_1, x155_4, x155_7, x155_10, x155_10N, x155_11, x155_11N, x155_12N, x155_12, x155_15, x155_15N, x155_16, x155_19, x155_24, x155_24N, x155_25, x155_28, x155_31, x155_32, x155_36, x155_35, x155_22, x155_23, x34_0, x34_0N, x34_1, x34_4, x34_4N, mq_dl_int, mq_dl_ref, mq_dl_null, mq_dl_none, mc_some, Option.toList_some, Option.toList_none, List.cons_append, List.nil_append, zb_1, zb_0, ↓reduceIte, if_true, if_false, not_true_eq_false, not_false_eq_true, Bool.false_eq_true, z_10, z_01, eq_self, Bool.and_self, true_or, or_true, false_or, or_false, true_and, and_true, false_and, and_false, and_self, or_self, Nat.reduceLT, Nat.reduceEqDiff, Nat.reduceLeDiff, Nat.reduceAdd, Nat.reduceMul, Nat.reduceSub, zn_lit, zn_add, zn_mul, zn_sub, zn_addneg, zn_lt, zn_le, zn_eq, zn_clamp, zn_in, zn_long, hp_1, hp_21, upd_zu, updL_zu, updQ_zu, zu_eq, zu_ne, ho_0, ho_0_0, hf_0_0, ho_0_1, hf_0_1, ho_0_2, hf_0_2, ho_0_3, hf_0_3, ho_0_4, hf_0_4, ho_0_5, hf_0_5, ho_0_6, hf_0_6, ho_0_7, hf_0_7, hk_0_7, hw_0_7, ho_1, ho_1_0, hf_1_0, ho_1_1, hf_1_1, hk_1_1, hw_1_1, ho_1_2, hf_1_2, hk_1_2, hw_1_2, ho_1_3, hf_1_3, hk_1_3, hw_1_3, ho_1_4, hf_1_4, hk_1_4, hw_1_4, ho_1_5, hf_1_5, hk_1_5, hw_1_5, hn_2, hi_2, hg_2, hu_2, ho_3, ho_3_0, hf_3_0, ho_3_1, hf_3_1, ho_3_2, hf_3_2, hk_3_2, hw_3_2, ho_3_3, hf_3_3, hk_3_3, hw_3_3, hn_4, hi_4, hj_4, hg_4, hu_4, ho_5, ho_5_0, hf_5_0, ho_5_1, hf_5_1, ho_5_2, hf_5_2, ho_5_3, hf_5_3, hk_5_3, hw_5_3, ho_6, ho_6_0, hf_6_0, ho_6_1, hf_6_1, ho_6_2, hf_6_2, ho_6_3, hf_6_3, hk_6_3, hw_6_3, hn_7, hi_7, hj_7, hg_7, hu_7, hn_8, hi_8, hj_8, hg_8, hu_8, hn_9, hi_9, hj_9, hg_9, hu_9, ho_10, ho_10_0, hf_10_0, ho_10_1, hf_10_1, ho_10_2, hf_10_2, ho_10_3, hf_10_3, hk_10_3, hw_10_3, ho_10_4, hf_10_4, hk_10_4, hkN_10_4, hw_10_4, hn_11, hi_11, hj_11, hg_11, hu_11, hn_12, hi_12, hj_12, hg_12, hu_12, hn_13, hi_13, hj_13, hg_13, hu_13, hn_14, hi_14, hg_14, hu_14, hn_15, hi_15, hg_15, hu_15, ho_16, ho_16_0, hf_16_0, ho_16_1, hf_16_1, ho_16_2, hf_16_2, hk_16_2, hw_16_2, ho_16_3, hf_16_3, hk_16_3, hw_16_3, ho_16_4, hf_16_4, hk_16_4, hkN_16_4, hw_16_4, hn_17, hi_17, hg_17, hu_17, hn_18, hi_18, hg_18, hu_18, hn_22, hi_22, hg_22, hu_22, hR, tb_0 hT, e, RS_0 hG, RS_spl hG, hs, zo_f]
  | false =>
    obtain ⟨b', bi', bj', bk', hj, hgs, e⟩ := k2 hg
    subst hgs
    refine ⟨n, s, _, -1, CRP_bad hT hj, ⟨fun h => (by rw [hg] at h; exact absurd h.1 (by decide)), fun _ => rfl⟩, ?_⟩
    simp (disch := first | omega | exact zb_1 | exact zb_0 | exact zb_n1 | exact zb_n0) only [x155_0, x155_0N, x155_1, x155_4, x155_7, x155_10, x155_10N, x155_11, x155_11N, x155_12N, x155_12, x155_15, x155_15N, x155_16, x155_19, x155_24, x155_24N, x155_25, x155_28, x155_31, x155_32, x155_36, x155_35, x155_22, x155_23, x34_0, x34_0N, x34_1, x34_4, x34_4N, mq_dl_int, mq_dl_ref, mq_dl_null, mq_dl_none, mc_some, Option.toList_some, Option.toList_none, List.cons_append, List.nil_append, zb_1, zb_0, ↓reduceIte, if_true, if_false, not_true_eq_false, not_false_eq_true, Bool.false_eq_true, z_10, z_01, eq_self, Bool.and_self, true_or, or_true, false_or, or_false, true_and, and_true, false_and, and_false, and_self, or_self, Nat.reduceLT, Nat.reduceEqDiff, Nat.reduceLeDiff, Nat.reduceAdd, Nat.reduceMul, Nat.reduceSub, zn_lit, zn_add, zn_mul, zn_sub, zn_addneg, zn_lt, zn_le, zn_eq, zn_clamp, zn_in, zn_long, hp_1, hp_21, upd_zu, updL_zu, updQ_zu, zu_eq, zu_ne, ho_0, ho_0_0, hf_0_0, ho_0_1, hf_0_1, ho_0_2, hf_0_2, ho_0_3, hf_0_3, ho_0_4, hf_0_4, ho_0_5, hf_0_5, ho_0_6, hf_0_6, ho_0_7, hf_0_7, hk_0_7, hw_0_7, ho_1, ho_1_0, hf_1_0, ho_1_1, hf_1_1, hk_1_1, hw_1_1, ho_1_2, hf_1_2, hk_1_2, hw_1_2, ho_1_3, hf_1_3, hk_1_3, hw_1_3, ho_1_4, hf_1_4, hk_1_4, hw_1_4, ho_1_5, hf_1_5, hk_1_5, hw_1_5, hn_2, hi_2, hg_2, hu_2, ho_3, ho_3_0, hf_3_0, ho_3_1, hf_3_1, ho_3_2, hf_3_2, hk_3_2, hw_3_2, ho_3_3, hf_3_3, hk_3_3, hw_3_3, hn_4, hi_4, hj_4, hg_4, hu_4, ho_5, ho_5_0, hf_5_0, ho_5_1, hf_5_1, ho_5_2, hf_5_2, ho_5_3, hf_5_3, hk_5_3, hw_5_3, ho_6, ho_6_0, hf_6_0, ho_6_1, hf_6_1, ho_6_2, hf_6_2, ho_6_3, hf_6_3, hk_6_3, hw_6_3, hn_7, hi_7, hj_7, hg_7, hu_7, hn_8, hi_8, hj_8, hg_8, hu_8, hn_9, hi_9, hj_9, hg_9, hu_9, ho_10, ho_10_0, hf_10_0, ho_10_1, hf_10_1, ho_10_2, hf_10_2, ho_10_3, hf_10_3, hk_10_3, hw_10_3, ho_10_4, hf_10_4, hk_10_4, hkN_10_4, hw_10_4, hn_11, hi_11, hj_11, hg_11, hu_11, hn_12, hi_12, hj_12, hg_12, hu_12, hn_13, hi_13, hj_13, hg_13, hu_13, hn_14, hi_14, hg_14, hu_14, hn_15, hi_15, hg_15, hu_15, ho_16, ho_16_0, hf_16_0, ho_16_1, hf_16_1, ho_16_2, hf_16_2, hk_16_2, hw_16_2, ho_16_3, hf_16_3, hk_16_3, hw_16_3, ho_16_4, hf_16_4, hk_16_4, hkN_16_4, hw_16_4, hn_17, hi_17, hg_17, hu_17, hn_18, hi_18, hg_18, hu_18, hn_22, hi_22, hg_22, hu_22, hR, tb_0 hT, e]
end TWM
