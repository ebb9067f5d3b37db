/-! KINDS: the public face -/
theorem zn_of (x : Int32) (h : ¬ x < 0) : x = zn x.toNatClampNeg ∧ x.toNatClampNeg < 2147483648 := by
  have h0 : (0 : Int32) ≤ x := Int32.not_lt.mp h
  exact ⟨(Int32.ofNat_toNatClampNeg x h0).symm, Int32.toNatClampNeg_lt x⟩
theorem zn_of_lt (x : Int32) (a b : Nat) (ha : a < 2147483648) (hb : b < 2147483648) (h1 : ¬ x < zn a) (h2 : ¬ zn b < x) : ∃ k : Nat, x = zn k ∧ a ≤ k ∧ k ≤ b := by
  have h3 : ¬ x < 0 := by
    intro q
    apply h1
    rw [Int32.lt_iff_toInt_lt] at q ⊢
    rw [zn_toInt a ha]
    have : (0 : Int32).toInt = 0 := by decide
    omega
  have h4 := zn_of x h3
  refine ⟨x.toNatClampNeg, h4.1, ?_, ?_⟩
  · rw [h4.1, zn_lt _ _ h4.2 ha] at h1; omega
  · rw [h4.1, zn_lt _ _ hb h4.2] at h2; omega
def kd_in (v k l m : Int32) : Bool := decide (¬ v < 4 ∧ ¬ 100 < v ∧ ¬ k < 1 ∧ ¬ v - 2 < k ∧ ¬ l < 0 ∧ ¬ k < l ∧ ¬ m < 0 ∧ ¬ k < m)
theorem kd_fits (d : Nat) (h : mq_H) (v k l m : Int32) : mz (d + 1) 42 0 [some (.int v), some (.int k), some (.int l), some (.int m)] [] h = some (some (some (.int (if kd_in v k l m = true then 1 else 0))), h) := by
  unfold kd_in
  simp only [x42_0, x42_1, x42_4, x42_7, x42_8, x42_9, x42_12, x42_13, x42_14, x42_15, x42_16, x42_19, x42_20, x42_23, x42_24, x42_25, x42_28, x42_29, x42_32, x42_33, x42_34, x42_37, x42_38, x42_42, x42_41, mq_dl_int, mq_dl_ref, mq_dl_null, mq_dl_none, mc_some, Option.toList_some, Option.toList_none, List.cons_append, List.nil_append, zb_1, zb_0, ↓reduceIte, if_true, if_false, not_true_eq_false, not_false_eq_true, Bool.false_eq_true, z_10, z_01, eq_self, Bool.and_self, true_or, or_true, false_or, or_false, true_and, and_true, false_and, and_false, and_self, or_self, kd_fitsPoints]
  by_cases g0 : v < 4
  · simp [g0]
  by_cases g1 : 100 < v
  · simp [g0, g1]
  by_cases g2 : k < 1
  · simp [g0, g1, g2]
  by_cases g3 : v - 2 < k
  · simp [g0, g1, g2, g3]
  by_cases g4 : l < 0
  · simp [g0, g1, g2, g3, g4]
  by_cases g5 : k < l
  · simp [g0, g1, g2, g3, g4, g5]
  by_cases g6 : m < 0
  · simp [g0, g1, g2, g3, g4, g5, g6]
  by_cases g7 : k < m
  · simp [g0, g1, g2, g3, g4, g5, g6, g7]
  simp [g0, g1, g2, g3, g4, g5, g6, g7]
theorem md_within (d : Nat) (h : mq_H) (v a b : Int32) : mz d 192 0 [some (.int v), some (.int a), some (.int b)] [] h = some (some (some (.int (if ¬ v < a ∧ ¬ b < v then 1 else 0))), h) := by
  simp only [x192_0, x192_1, x192_2, x192_5, x192_6, x192_7, x192_10, x192_11, x192_15, x192_14, mq_dl_int, mq_dl_ref, mq_dl_null, mq_dl_none, mc_some, Option.toList_some, Option.toList_none, List.cons_append, List.nil_append, zb_1, zb_0, ↓reduceIte, if_true, if_false, not_true_eq_false, not_false_eq_true, Bool.false_eq_true, z_10, z_01, eq_self, Bool.and_self, true_or, or_true, false_or, or_false, true_and, and_true, false_and, and_false, and_self, or_self]
  by_cases g1 : v < a
  · simp [g1]
  by_cases g2 : b < v
  · simp [g1, g2]
  simp [g1, g2]
theorem kd_four (d : Nat) (h : mq_H) (v k l m : Int32) : mz (d + 1) 270 0 [some (.int v), some (.int k), some (.int l), some (.int m)] [] h = some (some (some (.int (if kd_in v k l m = true then 1 else 0))), h) := by
  unfold kd_in
  simp only [x270_0, x270_1, x270_2, x270_4, x270_7, x270_10, x270_11, x270_12, x270_13, x270_14, x270_15, x270_18, x270_21, x270_22, x270_23, x270_24, x270_27, x270_30, x270_31, x270_32, x270_33, x270_36, x270_39, x270_40, x270_44, x270_43, mq_dl_int, mq_dl_ref, mq_dl_null, mq_dl_none, mc_some, Option.toList_some, Option.toList_none, List.cons_append, List.nil_append, zb_1, zb_0, ↓reduceIte, if_true, if_false, not_true_eq_false, not_false_eq_true, Bool.false_eq_true, z_10, z_01, eq_self, Bool.and_self, true_or, or_true, false_or, or_false, true_and, and_true, false_and, and_false, and_self, or_self, md_within]
  by_cases g0 : v < 4
  · simp [g0]
  by_cases g1 : 100 < v
  · simp [g0, g1]
  by_cases g2 : k < 1
  · simp [g0, g1, g2]
  by_cases g3 : v - 2 < k
  · simp [g0, g1, g2, g3]
  by_cases g4 : l < 0
  · simp [g0, g1, g2, g3, g4]
  by_cases g5 : k < l
  · simp [g0, g1, g2, g3, g4, g5]
  by_cases g6 : m < 0
  · simp [g0, g1, g2, g3, g4, g5, g6]
  by_cases g7 : k < m
  · simp [g0, g1, g2, g3, g4, g5, g6, g7]
  simp [g0, g1, g2, g3, g4, g5, g6, g7]
theorem kd_in_nat (v k l m : Int32) (h : kd_in v k l m = true) : ∃ v' k' l' m' : Nat, v = zn v' ∧ k = zn k' ∧ l = zn l' ∧ m = zn m' ∧ 4 ≤ v' ∧ v' ≤ 100 ∧ 1 ≤ k' ∧ k' + 2 ≤ v' ∧ l' ≤ k' ∧ m' ≤ k' := by
  unfold kd_in at h
  simp only [decide_eq_true_eq] at h
  obtain ⟨h1, h2, h3, h4, h5, h6, h7, h8⟩ := h
  obtain ⟨v', rfl, hv, hv'⟩ := zn_of_lt v 4 100 (by omega) (by omega) h1 h2
  rw [show (2 : Int32) = zn 2 from rfl, zn_sub _ _ (by omega)] at h4
  obtain ⟨k', rfl, hk, hk'⟩ := zn_of_lt k 1 (v' - 2) (by omega) (by omega) h3 h4
  obtain ⟨l', rfl, hl, hl'⟩ := zn_of_lt l 0 k' (by omega) (by omega) h5 h6
  obtain ⟨m', rfl, hm, hm'⟩ := zn_of_lt m 0 k' (by omega) (by omega) h7 h8
  exact ⟨v', k', l', m', rfl, rfl, rfl, rfl, hv, hv', hk, by omega, hl', hm'⟩
def kd_kind (v k l m : Int32) : Int32 := if kd_in v k l m = true then kdN v.toNatClampNeg k.toNatClampNeg l.toNatClampNeg m.toNatClampNeg else -1
section KP
variable {n s : Nat} {c : Nat → mq_E} {I : Nat → Int32} {J : Nat → Int64} {A : Nat → Nat → Int32} {B : Nat → Nat → Int64} {R : Nat → Value} {Q : Nat → Nat → Option Nat}
theorem C_kind (d : Nat) (v k l m : Int32) : mz (d + 2) 163 0 [some (.ref 0), some (.int v), some (.int k), some (.int l), some (.int m)] [] (hp n s c I J A B R Q) = some (some (some (.int (kd_kind v k l m))), (hp n s c I J A B R Q)) := by
  unfold kd_kind
  by_cases q : kd_in v k l m = true
  · obtain ⟨v', k', l', m', rfl, rfl, rfl, rfl, b1, b2, b3, b4, b5, b6⟩ := kd_in_nat v k l m q
    simp (disch := first | omega | exact zb_1 | exact zb_0 | exact zb_n1 | exact zb_n0) only [x163_0, x163_1, x163_2, x163_3, x163_5, x163_8, x163_11, x163_12, x163_13, x163_14, x163_16, x163_19, x163_23, x163_22, mq_dl_int, mq_dl_ref, mq_dl_null, mq_dl_none, mc_some, Option.toList_some, Option.toList_none, List.cons_append, List.nil_append, zb_1, zb_0, ↓reduceIte, if_true, if_false, not_true_eq_false, not_false_eq_true, Bool.false_eq_true, z_10, z_01, eq_self, Bool.and_self, true_or, or_true, false_or, or_false, true_and, and_true, false_and, and_false, and_self, or_self, kd_fits, q, kdN_C, zn_clamp]
  · simp only [x163_0, x163_1, x163_2, x163_3, x163_5, x163_8, x163_11, x163_12, x163_13, x163_14, x163_16, x163_19, x163_23, x163_22, mq_dl_int, mq_dl_ref, mq_dl_null, mq_dl_none, mc_some, Option.toList_some, Option.toList_none, List.cons_append, List.nil_append, zb_1, zb_0, ↓reduceIte, if_true, if_false, not_true_eq_false, not_false_eq_true, Bool.false_eq_true, z_10, z_01, eq_self, Bool.and_self, true_or, or_true, false_or, or_false, true_and, and_true, false_and, and_false, and_self, or_self, kd_fits, q]
theorem R_kind (d : Nat) (v k l m : Int32) : mz (d + 2) 274 0 [some (.ref 23), some (.int v), some (.int k), some (.int l), some (.int m)] [] (hp n s c I J A B R Q) = some (some (some (.int (kd_kind v k l m))), hp n s c (zu I 1150 0) J A B R Q) := by
  unfold kd_kind
  by_cases q : kd_in v k l m = true
  · obtain ⟨v', k', l', m', rfl, rfl, rfl, rfl, b1, b2, b3, b4, b5, b6⟩ := kd_in_nat v k l m q
    simp (disch := first | omega | exact zb_1 | exact zb_0 | exact zb_n1 | exact zb_n0) only [x274_0, x274_0N, x274_1, x274_2, x274_5, x274_6, x274_7, x274_8, x274_10, x274_13, x274_16, x274_17, x274_18, x274_19, x274_21, x274_24, x274_28, x274_27, mq_dl_int, mq_dl_ref, mq_dl_null, mq_dl_none, mc_some, Option.toList_some, Option.toList_none, List.cons_append, List.nil_append, zb_1, zb_0, ↓reduceIte, if_true, if_false, not_true_eq_false, not_false_eq_true, Bool.false_eq_true, z_10, z_01, eq_self, Bool.and_self, true_or, or_true, false_or, or_false, true_and, and_true, false_and, and_false, and_self, or_self, ho_23_0, hk_23_0, hw_23_0, Bool.and_self, kd_four, q, kdN_R, zn_clamp]
  · simp only [x274_0, x274_0N, x274_1, x274_2, x274_5, x274_6, x274_7, x274_8, x274_10, x274_13, x274_16, x274_17, x274_18, x274_19, x274_21, x274_24, x274_28, x274_27, mq_dl_int, mq_dl_ref, mq_dl_null, mq_dl_none, mc_some, Option.toList_some, Option.toList_none, List.cons_append, List.nil_append, zb_1, zb_0, ↓reduceIte, if_true, if_false, not_true_eq_false, not_false_eq_true, Bool.false_eq_true, z_10, z_01, eq_self, Bool.and_self, true_or, or_true, false_or, or_false, true_and, and_true, false_and, and_false, and_self, or_self, ho_23_0, hk_23_0, hw_23_0, Bool.and_self, kd_four, q]
def kd_kinds (v r : Int32) : Int32 := if (¬ v < 4 ∧ ¬ 100 < v) ∧ (¬ r < 0 ∧ ¬ 5 < r) then zn (kd_fk v.toNatClampNeg r 1 (v.toNatClampNeg - 2)).length else -1
theorem C_kinds (d : Nat) (v r : Int32) : mz (d + 3) 164 0 [some (.ref 0), some (.int v), some (.int r)] [] (hp n s c I J A B R Q) = some (some (some (.int (kd_kinds v r))), (hp n s c I J A B R Q)) := by
  unfold kd_kinds
  by_cases q : ¬ v < 4 ∧ ¬ 100 < v
  · by_cases q2 : r < 0
    · simp only [x164_0, x164_1, x164_4, x164_7, x164_8, x164_11, x164_12, x164_13, x164_18, x164_19, x164_20, x164_23, x164_16, x164_17, mq_dl_int, mq_dl_ref, mq_dl_null, mq_dl_none, mc_some, Option.toList_some, Option.toList_none, List.cons_append, List.nil_append, zb_1, zb_0, ↓reduceIte, if_true, if_false, not_true_eq_false, not_false_eq_true, Bool.false_eq_true, z_10, z_01, eq_self, Bool.and_self, true_or, or_true, false_or, or_false, true_and, and_true, false_and, and_false, and_self, or_self, kd_fitsPoints, q, q2, and_self, false_and, and_false]
    · by_cases q3 : 5 < r
      · simp only [x164_0, x164_1, x164_4, x164_7, x164_8, x164_11, x164_12, x164_13, x164_18, x164_19, x164_20, x164_23, x164_16, x164_17, mq_dl_int, mq_dl_ref, mq_dl_null, mq_dl_none, mc_some, Option.toList_some, Option.toList_none, List.cons_append, List.nil_append, zb_1, zb_0, ↓reduceIte, if_true, if_false, not_true_eq_false, not_false_eq_true, Bool.false_eq_true, z_10, z_01, eq_self, Bool.and_self, true_or, or_true, false_or, or_false, true_and, and_true, false_and, and_false, and_self, or_self, kd_fitsPoints, q, q2, q3, and_self, and_false, Int32.not_le.mpr q3]
      · obtain ⟨v', rfl, hv, hv'⟩ := zn_of_lt v 4 100 (by omega) (by omega) q.1 q.2
        simp (disch := first | omega | exact zb_1 | exact zb_0 | exact zb_n1 | exact zb_n0) only [x164_0, x164_1, x164_4, x164_7, x164_8, x164_11, x164_12, x164_13, x164_18, x164_19, x164_20, x164_23, x164_16, x164_17, mq_dl_int, mq_dl_ref, mq_dl_null, mq_dl_none, mc_some, Option.toList_some, Option.toList_none, List.cons_append, List.nil_append, zb_1, zb_0, ↓reduceIte, if_true, if_false, not_true_eq_false, not_false_eq_true, Bool.false_eq_true, z_10, z_01, eq_self, Bool.and_self, true_or, or_true, false_or, or_false, true_and, and_true, false_and, and_false, and_self, or_self, kd_fitsPoints, q, q2, q3, and_self, Int32.not_lt.mp q3, kd_howC, zn_clamp]
  · simp only [x164_0, x164_1, x164_4, x164_7, x164_8, x164_11, x164_12, x164_13, x164_18, x164_19, x164_20, x164_23, x164_16, x164_17, mq_dl_int, mq_dl_ref, mq_dl_null, mq_dl_none, mc_some, Option.toList_some, Option.toList_none, List.cons_append, List.nil_append, zb_1, zb_0, ↓reduceIte, if_true, if_false, not_true_eq_false, not_false_eq_true, Bool.false_eq_true, z_10, z_01, eq_self, Bool.and_self, true_or, or_true, false_or, or_false, true_and, and_true, false_and, and_false, and_self, or_self, kd_fitsPoints, q, false_and]
theorem R_kinds (d : Nat) (v r : Int32) : mz (d + 3) 276 0 [some (.ref 23), some (.int v), some (.int r)] [] (hp n s c I J A B R Q) = some (some (some (.int (kd_kinds v r))), hp n s c (zu I 1150 0) J A B R Q) := by
  unfold kd_kinds
  by_cases q : ¬ v < 4 ∧ ¬ 100 < v
  · by_cases q2 : ¬ r < 0 ∧ ¬ 5 < r
    · obtain ⟨v', rfl, hv, hv'⟩ := zn_of_lt v 4 100 (by omega) (by omega) q.1 q.2
      have hl := kd_fk_len v' r (v' - 2) 1 (by omega)
      simp (disch := first | omega | exact zb_1 | exact zb_0 | exact zb_n1 | exact zb_n0) only [x276_0, x276_0N, x276_1, x276_2, x276_5, x276_6, x276_7, x276_9, x276_12, x276_15, x276_16, x276_17, x276_18, x276_21, x276_24, x276_24N, x276_25, x276_26, x276_27, x276_28, x276_31, x276_35, x276_34, mq_dl_int, mq_dl_ref, mq_dl_null, mq_dl_none, mc_some, Option.toList_some, Option.toList_none, List.cons_append, List.nil_append, zb_1, zb_0, ↓reduceIte, if_true, if_false, not_true_eq_false, not_false_eq_true, Bool.false_eq_true, z_10, z_01, eq_self, Bool.and_self, true_or, or_true, false_or, or_false, true_and, and_true, false_and, and_false, and_self, or_self, ho_23, ho_23_0, hk_23_0, hw_23_0, Bool.and_self, md_within, q, q2, and_self, kd_findR, zn_clamp, kd_fd_m1]
    · simp only [x276_0, x276_0N, x276_1, x276_2, x276_5, x276_6, x276_7, x276_9, x276_12, x276_15, x276_16, x276_17, x276_18, x276_21, x276_24, x276_24N, x276_25, x276_26, x276_27, x276_28, x276_31, x276_35, x276_34, mq_dl_int, mq_dl_ref, mq_dl_null, mq_dl_none, mc_some, Option.toList_some, Option.toList_none, List.cons_append, List.nil_append, zb_1, zb_0, ↓reduceIte, if_true, if_false, not_true_eq_false, not_false_eq_true, Bool.false_eq_true, z_10, z_01, eq_self, Bool.and_self, true_or, or_true, false_or, or_false, true_and, and_true, false_and, and_false, and_self, or_self, ho_23_0, hk_23_0, hw_23_0, Bool.and_self, md_within, q, q2, and_self, and_false]
  · simp only [x276_0, x276_0N, x276_1, x276_2, x276_5, x276_6, x276_7, x276_9, x276_12, x276_15, x276_16, x276_17, x276_18, x276_21, x276_24, x276_24N, x276_25, x276_26, x276_27, x276_28, x276_31, x276_35, x276_34, mq_dl_int, mq_dl_ref, mq_dl_null, mq_dl_none, mc_some, Option.toList_some, Option.toList_none, List.cons_append, List.nil_append, zb_1, zb_0, ↓reduceIte, if_true, if_false, not_true_eq_false, not_false_eq_true, Bool.false_eq_true, z_10, z_01, eq_self, Bool.and_self, true_or, or_true, false_or, or_false, true_and, and_true, false_and, and_false, and_self, or_self, ho_23_0, hk_23_0, hw_23_0, Bool.and_self, md_within, q, false_and]
def kd_kept (v i : Int32) : Int32 := if (¬ v < 4 ∧ ¬ 100 < v) ∧ ¬ i < 0 then (match kd_fd i 0 (kd_fk v.toNatClampNeg 0 1 (v.toNatClampNeg - 2)) with
  | some x => zn x
  | none => -1) else -1
theorem C_kept (d : Nat) (v i : Int32) : mz (d + 3) 165 0 [some (.ref 0), some (.int v), some (.int i)] [] (hp n s c I J A B R Q) = some (some (some (.int (kd_kept v i))), (hp n s c I J A B R Q)) := by
  unfold kd_kept
  by_cases q : ¬ v < 4 ∧ ¬ 100 < v
  · by_cases q2 : i < 0
    · simp only [x165_0, x165_1, x165_4, x165_7, x165_8, x165_11, x165_12, x165_13, x165_16, x165_20, x165_19, mq_dl_int, mq_dl_ref, mq_dl_null, mq_dl_none, mc_some, Option.toList_some, Option.toList_none, List.cons_append, List.nil_append, zb_1, zb_0, ↓reduceIte, if_true, if_false, not_true_eq_false, not_false_eq_true, Bool.false_eq_true, z_10, z_01, eq_self, Bool.and_self, true_or, or_true, false_or, or_false, true_and, and_true, false_and, and_false, and_self, or_self, kd_fitsPoints, q, q2, and_self, and_false]
    · obtain ⟨v', rfl, hv, hv'⟩ := zn_of_lt v 4 100 (by omega) (by omega) q.1 q.2
      simp (disch := first | omega | exact zb_1 | exact zb_0 | exact zb_n1 | exact zb_n0) only [x165_0, x165_1, x165_4, x165_7, x165_8, x165_11, x165_12, x165_13, x165_16, x165_20, x165_19, mq_dl_int, mq_dl_ref, mq_dl_null, mq_dl_none, mc_some, Option.toList_some, Option.toList_none, List.cons_append, List.nil_append, zb_1, zb_0, ↓reduceIte, if_true, if_false, not_true_eq_false, not_false_eq_true, Bool.false_eq_true, z_10, z_01, eq_self, Bool.and_self, true_or, or_true, false_or, or_false, true_and, and_true, false_and, and_false, and_self, or_self, kd_fitsPoints, q, q2, and_self, kd_keptC, zn_clamp]
      cases kd_fd i 0 (kd_fk v' 0 1 (v' - 2)) <;> simp only [mq_dl_int, mq_dl_ref, mq_dl_null, mq_dl_none, mc_some, Option.toList_some, Option.toList_none, List.cons_append, List.nil_append, zb_1, zb_0, ↓reduceIte, if_true, if_false, not_true_eq_false, not_false_eq_true, Bool.false_eq_true, z_10, z_01, eq_self, Bool.and_self, true_or, or_true, false_or, or_false, true_and, and_true, false_and, and_false, and_self, or_self, x165_16, x165_20]
  · simp only [x165_0, x165_1, x165_4, x165_7, x165_8, x165_11, x165_12, x165_13, x165_16, x165_20, x165_19, mq_dl_int, mq_dl_ref, mq_dl_null, mq_dl_none, mc_some, Option.toList_some, Option.toList_none, List.cons_append, List.nil_append, zb_1, zb_0, ↓reduceIte, if_true, if_false, not_true_eq_false, not_false_eq_true, Bool.false_eq_true, z_10, z_01, eq_self, Bool.and_self, true_or, or_true, false_or, or_false, true_and, and_true, false_and, and_false, and_self, or_self, kd_fitsPoints, q, false_and]
theorem R_kept (d : Nat) (v i : Int32) : mz (d + 3) 277 0 [some (.ref 23), some (.int v), some (.int i)] [] (hp n s c I J A B R Q) = some (some (some (.int (kd_kept v i))), hp n s c (zu I 1150 0) J A B R Q) := by
  unfold kd_kept
  by_cases q : ¬ v < 4 ∧ ¬ 100 < v
  · by_cases q2 : i < 0
    · simp only [x277_0, x277_0N, x277_1, x277_2, x277_5, x277_6, x277_7, x277_9, x277_12, x277_15, x277_16, x277_19, x277_19N, x277_20, x277_21, x277_22, x277_23, x277_26, x277_30, x277_29, mq_dl_int, mq_dl_ref, mq_dl_null, mq_dl_none, mc_some, Option.toList_some, Option.toList_none, List.cons_append, List.nil_append, zb_1, zb_0, ↓reduceIte, if_true, if_false, not_true_eq_false, not_false_eq_true, Bool.false_eq_true, z_10, z_01, eq_self, Bool.and_self, true_or, or_true, false_or, or_false, true_and, and_true, false_and, and_false, and_self, or_self, ho_23_0, hk_23_0, hw_23_0, Bool.and_self, md_within, q, q2, and_self, and_false]
    · obtain ⟨v', rfl, hv, hv'⟩ := zn_of_lt v 4 100 (by omega) (by omega) q.1 q.2
      have q3 : ¬ i = -1 := fun e => q2 (by rw [e]; decide)
      simp (disch := first | omega | exact zb_1 | exact zb_0 | exact zb_n1 | exact zb_n0) only [x277_0, x277_0N, x277_1, x277_2, x277_5, x277_6, x277_7, x277_9, x277_12, x277_15, x277_16, x277_19, x277_19N, x277_20, x277_21, x277_22, x277_23, x277_26, x277_30, x277_29, mq_dl_int, mq_dl_ref, mq_dl_null, mq_dl_none, mc_some, Option.toList_some, Option.toList_none, List.cons_append, List.nil_append, zb_1, zb_0, ↓reduceIte, if_true, if_false, not_true_eq_false, not_false_eq_true, Bool.false_eq_true, z_10, z_01, eq_self, Bool.and_self, true_or, or_true, false_or, or_false, true_and, and_true, false_and, and_false, and_self, or_self, ho_23, ho_23_0, hk_23_0, hw_23_0, Bool.and_self, md_within, q, q2, q3, and_self, kd_findR, zn_clamp]
      cases kd_fd i 0 (kd_fk v' 0 1 (v' - 2)) <;> simp only [mq_dl_int, mq_dl_ref, mq_dl_null, mq_dl_none, mc_some, Option.toList_some, Option.toList_none, List.cons_append, List.nil_append, zb_1, zb_0, ↓reduceIte, if_true, if_false, not_true_eq_false, not_false_eq_true, Bool.false_eq_true, z_10, z_01, eq_self, Bool.and_self, true_or, or_true, false_or, or_false, true_and, and_true, false_and, and_false, and_self, or_self, x277_26, x277_30]
  · simp only [x277_0, x277_0N, x277_1, x277_2, x277_5, x277_6, x277_7, x277_9, x277_12, x277_15, x277_16, x277_19, x277_19N, x277_20, x277_21, x277_22, x277_23, x277_26, x277_30, x277_29, mq_dl_int, mq_dl_ref, mq_dl_null, mq_dl_none, mc_some, Option.toList_some, Option.toList_none, List.cons_append, List.nil_append, zb_1, zb_0, ↓reduceIte, if_true, if_false, not_true_eq_false, not_false_eq_true, Bool.false_eq_true, z_10, z_01, eq_self, Bool.and_self, true_or, or_true, false_or, or_false, true_and, and_true, false_and, and_false, and_self, or_self, ho_23_0, hk_23_0, hw_23_0, Bool.and_self, md_within, q, false_and]
end KP
