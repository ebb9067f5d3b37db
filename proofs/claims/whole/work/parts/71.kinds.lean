/-! KINDS, counted and listed -/
def kd_D (k l m : Nat) : Nat := (((l : Int) - m) * ((l : Int) - m) + 4 * ((k : Int) - m)).toNat
theorem kd_D_ok (k l m : Nat) (hk : k ≤ 98) (hl : l ≤ k) (hm : m ≤ k) : kd_D k l m ≤ 16384 ∧ (zn l - zn m) * (zn l - zn m) + 4 * (zn k - zn m) = zn (kd_D k l m) := by
  have h1 : ((l : Int) - m) * ((l : Int) - m) = (((l : Int) - m).natAbs * ((l : Int) - m).natAbs : Nat) := Int.natAbs_mul_self.symm
  have h2 : ((l : Int) - m).natAbs * ((l : Int) - m).natAbs ≤ 98 * 98 := Nat.mul_le_mul (by omega) (by omega)
  unfold kd_D
  rw [h1]
  constructor
  · omega
  · simp only [zi_nat, zi_lit, zi_sub, zi_mul, zi_add, h1]
    congr 1
    rw [Int.toNat_of_nonneg (by omega)]
def kdN (v k l m : Nat) : Int32 := kdr (zn v) (zn k) (zn l) (zn m) (zn (kd_rt (kd_D k l m))) (kd_rt (kd_D k l m) * kd_rt (kd_D k l m) = kd_D k l m)
theorem kdN_R (d : Nat) (h : mq_H) (v k l m : Nat) (hk : k ≤ 98) (hl : l ≤ k) (hm : m ≤ k) : mz (d + 1) 273 0 [some (.int (zn v)), some (.int (zn k)), some (.int (zn l)), some (.int (zn m)), none, none, none, none, none] [] h = some (some (some (.int (kdN v k l m))), h) :=
  kd_reasonR d _ h _ _ _ _ (kd_D_ok k l m hk hl hm).1 (kd_D_ok k l m hk hl hm).2
theorem kdN_C (d : Nat) (h : mq_H) (v k l m : Nat) (hk : k ≤ 98) (hl : l ≤ k) (hm : m ≤ k) : mz (d + 1) 43 0 [some (.int (zn v)), some (.int (zn k)), some (.int (zn l)), some (.int (zn m)), none, none, none, none, none] [] h = some (some (some (.int (kdN v k l m))), h) :=
  kd_reasonC d _ h _ _ _ _ (kd_D_ok k l m hk hl hm).1 (kd_D_ok k l m hk hl hm).2
/-- the one m that balances -/
def kd_bal (v k l : Nat) : Option Nat := if l + 1 ≤ k ∧ k * (k - l - 1) % (v - k - 1) = 0 ∧ k * (k - l - 1) / (v - k - 1) ≤ k then some (k * (k - l - 1) / (v - k - 1)) else none
theorem kd_bal_iff (v k l m : Nat) (hv : v ≤ 100) (hk0 : 1 ≤ k) (hk : k + 2 ≤ v) (hl : l ≤ k) (hm : m ≤ k) : (zn k * (zn k - zn l - 1) = (zn v - zn k - 1) * zn m) ↔ kd_bal v k l = some m := by
  have h1 : zn k * (zn k - zn l - 1) = zi ((k : Int) * ((k : Int) - l - 1)) := by simp only [zi_nat, zi_lit, zi_sub, zi_mul]
  have h2 : (zn v - zn k - 1) * zn m = zi (((v : Int) - k - 1) * m) := by simp only [zi_nat, zi_lit, zi_sub, zi_mul]
  obtain ⟨o, ho⟩ : ∃ o : Nat, v - k - 1 = o := ⟨_, rfl⟩
  have ho1 : ((v : Int) - k - 1) = (o : Int) := by omega
  have ho2 : 1 ≤ o ∧ o ≤ 100 := by omega
  rw [h1, h2, ho1]
  unfold kd_bal
  rw [ho]
  have hom : o * m ≤ 100 * 100 := Nat.mul_le_mul ho2.2 (by omega)
  have hom' : (o : Int) * (m : Int) = ((o * m : Nat) : Int) := (Int.natCast_mul o m).symm
  by_cases q : l + 1 ≤ k
  · obtain ⟨g, hg⟩ : ∃ g : Nat, k - l - 1 = g := ⟨_, rfl⟩
    have hg1 : ((k : Int) - l - 1) = (g : Int) := by omega
    have hkg : k * g ≤ 100 * 100 := Nat.mul_le_mul (by omega) (by omega)
    have hkg' : (k : Int) * (g : Int) = ((k * g : Nat) : Int) := (Int.natCast_mul k g).symm
    rw [hg1, hg, hkg', hom', zi_eq _ _ (by omega) (by omega) (by omega) (by omega)]
    constructor
    · intro e
      have e' : k * g = o * m := by omega
      have e2 : k * g % o = 0 := by rw [e']; exact Nat.mul_mod_right o m
      have e3 : k * g / o = m := by rw [e']; exact Nat.mul_div_cancel_left m (by omega)
      rw [if_pos ⟨q, e2, by omega⟩, e3]
    · intro e
      by_cases q2 : l + 1 ≤ k ∧ k * g % o = 0 ∧ k * g / o ≤ k
      · rw [if_pos q2] at e
        have e3 : k * g / o = m := Option.some.inj e
        have := Nat.div_add_mod (k * g) o
        rw [q2.2.1, e3] at this
        omega
      · rw [if_neg q2] at e; cases e
  · have hlk : l = k := by omega
    rw [if_neg (fun hh => q hh.1), hom']
    have h3 : (k : Int) * ((k : Int) - l - 1) = -k := by rw [hlk]; rw [show ((k : Int) - k - 1) = -1 by omega]; omega
    rw [h3, zi_eq _ _ (by omega) (by omega) (by omega) (by omega)]
    constructor
    · intro e; omega
    · intro e; cases e
theorem kd_balC (d : Nat) (h : mq_H) (v k l : Nat) (hv : v ≤ 100) (hk0 : 1 ≤ k) (hk : k + 2 ≤ v) (hl : l ≤ k) : mz d 46 0 [some (.int (zn v)), some (.int (zn k)), some (.int (zn l)), none, none, none] [] h = some (some (some (.int (match kd_bal v k l with
    | some m => zn m
    | none => -1))), h) := by
  obtain ⟨o, ho⟩ : ∃ o : Nat, v - k - 1 = o := ⟨_, rfl⟩
  have ho2 : 1 ≤ o ∧ o ≤ 100 := by omega
  have h2 : zn v - zn k - 1 = zn o := by rw [zn_sub _ _ (by omega), show (1 : Int32) = zn 1 from rfl, zn_sub _ _ (by omega), ho]
  have c0 : ¬ zn o < 1 := by rw [show (1 : Int32) = zn 1 from rfl, zn_lt _ _ (by omega) (by omega)]; omega
  have c1 : ¬ zn o = 0 := by rw [show (0 : Int32) = zn 0 from rfl, zn_eq _ _ (by omega) (by omega)]; omega
  unfold kd_bal
  rw [ho]
  by_cases q : l + 1 ≤ k
  · obtain ⟨g, hg⟩ : ∃ g : Nat, k - l - 1 = g := ⟨_, rfl⟩
    have hkg : k * g ≤ 100 * 100 := Nat.mul_le_mul (by omega) (by omega)
    have h1 : zn k * (zn k - zn l - 1) = zn (k * g) := by rw [zn_sub _ _ (by omega), show (1 : Int32) = zn 1 from rfl, zn_sub _ _ (by omega), hg, zn_mul]
    have c2 : ¬ zn (k * g) < 0 := by rw [show (0 : Int32) = zn 0 from rfl, zn_lt _ _ (by omega) (by omega)]; omega
    have c3 := zn_rem (k * g) o (by omega) (by omega)
    have c4 := zn_div (k * g) o (by omega) (by omega)
    have c5 : k * g / o ≤ k * g := Nat.div_le_self _ _
    have c6 : k * g % o ≤ k * g := Nat.mod_le _ _
    have c7 : (zn (k * g % o) = 0) = (k * g % o = 0) := zn_eq _ 0 (by omega) (by omega)
    rw [hg]
    simp only [x46_0, x46_1, x46_2, x46_3, x46_4, x46_5, x46_6, x46_7, x46_8, x46_9, x46_10, x46_11, x46_12, x46_13, x46_15, x46_17, x46_18, x46_21, x46_22, x46_25, x46_26, x46_28, x46_29, x46_34, x46_35, x46_37, x46_38, x46_40, x46_42, x46_43, x46_46, x46_48, x46_52, x46_51, x46_32, x46_33, mq_dl_int, mq_dl_ref, mq_dl_null, mq_dl_none, mc_some, Option.toList_some, Option.toList_none, List.cons_append, List.nil_append, zb_1, zb_0, ↓reduceIte, if_true, if_false, not_true_eq_false, not_false_eq_true, Bool.false_eq_true, z_10, z_01, eq_self, Bool.and_self, true_or, or_true, false_or, or_false, true_and, and_true, false_and, and_false, and_self, or_self, h1, h2, c0, c1, c2, c3]
    simp only [c4, c7, zn_lt _ _ (show k < 2147483648 by omega) (show k * g / o < 2147483648 by omega), x46_0, x46_1, x46_2, x46_3, x46_4, x46_5, x46_6, x46_7, x46_8, x46_9, x46_10, x46_11, x46_12, x46_13, x46_15, x46_17, x46_18, x46_21, x46_22, x46_25, x46_26, x46_28, x46_29, x46_34, x46_35, x46_37, x46_38, x46_40, x46_42, x46_43, x46_46, x46_48, x46_52, x46_51, x46_32, x46_33]
    by_cases q2 : k * g % o = 0
    · by_cases q3 : k * g / o ≤ k
      · simp only [q, q2, q3, Nat.not_lt.mpr q3, mq_dl_int, mq_dl_ref, mq_dl_null, mq_dl_none, mc_some, Option.toList_some, Option.toList_none, List.cons_append, List.nil_append, zb_1, zb_0, ↓reduceIte, if_true, if_false, not_true_eq_false, not_false_eq_true, Bool.false_eq_true, z_10, z_01, eq_self, Bool.and_self, true_or, or_true, false_or, or_false, true_and, and_true, false_and, and_false, and_self, or_self, and_self]
      · simp only [q, q2, q3, Nat.not_le.mp q3, mq_dl_int, mq_dl_ref, mq_dl_null, mq_dl_none, mc_some, Option.toList_some, Option.toList_none, List.cons_append, List.nil_append, zb_1, zb_0, ↓reduceIte, if_true, if_false, not_true_eq_false, not_false_eq_true, Bool.false_eq_true, z_10, z_01, eq_self, Bool.and_self, true_or, or_true, false_or, or_false, true_and, and_true, false_and, and_false, and_self, or_self, and_self, and_false]
    · simp only [q2, false_and, and_false, mq_dl_int, mq_dl_ref, mq_dl_null, mq_dl_none, mc_some, Option.toList_some, Option.toList_none, List.cons_append, List.nil_append, zb_1, zb_0, ↓reduceIte, if_true, if_false, not_true_eq_false, not_false_eq_true, Bool.false_eq_true, z_10, z_01, eq_self, Bool.and_self, true_or, or_true, false_or, or_false, true_and, and_true, false_and, and_false, and_self, or_self]
  · have hlk : l = k := by omega
    have h1 : zn k * (zn k - zn l - 1) = zi (-k) := by
      simp only [zi_nat, zi_lit, zi_sub, zi_mul]
      congr 1
      rw [hlk, show ((k : Int) - k - OfNat.ofNat 1) = -1 from (by show (k : Int) - k - 1 = -1; omega)]; omega
    have c2 : zi (-k) < 0 := by rw [show (0 : Int32) = zi 0 from rfl, zi_lt _ _ (by omega) (by omega) (by omega) (by omega)]; omega
    simp only [x46_0, x46_1, x46_2, x46_3, x46_4, x46_5, x46_6, x46_7, x46_8, x46_9, x46_10, x46_11, x46_12, x46_13, x46_15, x46_17, x46_18, x46_21, x46_22, x46_25, x46_26, x46_28, x46_29, x46_34, x46_35, x46_37, x46_38, x46_40, x46_42, x46_43, x46_46, x46_48, x46_52, x46_51, x46_32, x46_33, mq_dl_int, mq_dl_ref, mq_dl_null, mq_dl_none, mc_some, Option.toList_some, Option.toList_none, List.cons_append, List.nil_append, zb_1, zb_0, ↓reduceIte, if_true, if_false, not_true_eq_false, not_false_eq_true, Bool.false_eq_true, z_10, z_01, eq_self, Bool.and_self, true_or, or_true, false_or, or_false, true_and, and_true, false_and, and_false, and_self, or_self, h1, h2, c0, c2, q, false_and]
/-- of one k, l: those m from m on that are left out for a reason -/
def kd_fm (v k l : Nat) (rs : Int32) (m : Nat) : Nat → List Nat
  | 0 => []
  | r + 1 => if kdN v k l m = rs then (10000 * k + 100 * l + m) :: kd_fm v k l rs (m + 1) r else kd_fm v k l rs (m + 1) r
def kd_fl (v k : Nat) (rs : Int32) (l : Nat) : Nat → List Nat
  | 0 => []
  | r + 1 => kd_fm v k l rs 0 (k + 1) ++ kd_fl v k rs (l + 1) r
def kd_fk (v : Nat) (rs : Int32) (k : Nat) : Nat → List Nat
  | 0 => []
  | r + 1 => kd_fl v k rs 0 (k + 1) ++ kd_fk v rs (k + 1) r
def kd_fd (i : Int32) (n : Nat) : List Nat → Option Nat
  | [] => none
  | c :: t => if zn n = i then some c else kd_fd i (n + 1) t
theorem kd_fd_app (i : Int32) : ∀ (s t : List Nat) (n : Nat), kd_fd i n (s ++ t) = match kd_fd i n s with
    | some c => some c
    | none => kd_fd i (n + s.length) t
  | [], t, n => rfl
  | c :: s, t, n => by
    simp only [List.cons_append, kd_fd]
    by_cases q : zn n = i
    · simp only [q, if_true]
    · simp only [q, if_false]
      rw [kd_fd_app i s t (n + 1)]
      simp only [List.length_cons]
      rw [show n + 1 + s.length = n + (s.length + 1) by omega]
theorem kd_loopm (d : Nat) (h : mq_H) (a v k l : Nat) (rs i : Int32) (hk : k ≤ 98) (hl : l ≤ k) : ∀ (r m n : Nat), m + r = k + 1 → mz (d + 2) 275 27 [some (.ref a), some (.int (zn v)), some (.int rs), some (.int i), some (.int (zn n)), some (.int (zn k)), some (.int (zn l)), some (.int (zn m))] [] h = match kd_fd i n (kd_fm v k l rs m r) with
    | some c => some (some (some (.int (zn c))), h)
    | none => mz (d + 2) 275 79 [some (.ref a), some (.int (zn v)), some (.int rs), some (.int i), some (.int (zn (n + (kd_fm v k l rs m r).length))), some (.int (zn k)), some (.int (zn l)), some (.int (zn (k + 1)))] [] h := by
  intro r
  induction r with
  | zero =>
    intro m n hm
    have e : m = k + 1 := by omega
    simp (disch := first | omega | exact zb_1 | exact zb_0 | exact zb_n1 | exact zb_n0) only [x275_27, x275_29, x275_31, mq_dl_int, mq_dl_ref, mq_dl_null, mq_dl_none, mc_some, Option.toList_some, Option.toList_none, List.cons_append, List.nil_append, zb_1, zb_0, ↓reduceIte, if_true, if_false, not_true_eq_false, not_false_eq_true, Bool.false_eq_true, z_10, z_01, eq_self, Bool.and_self, true_or, or_true, false_or, or_false, true_and, and_true, false_and, and_false, and_self, or_self, Nat.reduceLT, Nat.reduceEqDiff, Nat.reduceLeDiff, Nat.reduceAdd, Nat.reduceMul, Nat.reduceSub, zn_lit, zn_add, zn_mul, zn_sub, zn_addneg, zn_lt, zn_le, zn_eq, zn_clamp, zn_in, zn_long, kd_fm, kd_fd, List.length_nil, e, Nat.add_zero, Nat.lt_add_one]
  | succ r ih =>
    intro m n hm
    rw [x275_27]
    simp (disch := first | omega | exact zb_1 | exact zb_0 | exact zb_n1 | exact zb_n0) only [x275_0, x275_1, x275_3, x275_4, x275_6, x275_8, x275_9, x275_10, x275_11, x275_14, x275_15, x275_17, x275_19, x275_21, x275_24, x275_25, x275_29, x275_31, x275_34, x275_35, x275_37, x275_39, x275_41, x275_44, x275_45, x275_48, x275_50, x275_51, x275_54, x275_57, x275_59, x275_60, x275_62, x275_64, x275_65, x275_66, x275_68, x275_69, x275_70, x275_73, x275_76, x275_82, x275_85, x275_88, x275_91, x275_92, x275_93, x275_96, x275_98, x275_102, x275_101, mq_dl_int, mq_dl_ref, mq_dl_null, mq_dl_none, mc_some, Option.toList_some, Option.toList_none, List.cons_append, List.nil_append, zb_1, zb_0, ↓reduceIte, if_true, if_false, not_true_eq_false, not_false_eq_true, Bool.false_eq_true, z_10, z_01, eq_self, Bool.and_self, true_or, or_true, false_or, or_false, true_and, and_true, false_and, and_false, and_self, or_self, Nat.reduceLT, Nat.reduceEqDiff, Nat.reduceLeDiff, Nat.reduceAdd, Nat.reduceMul, Nat.reduceSub, zn_lit, zn_add, zn_mul, zn_sub, zn_addneg, zn_lt, zn_le, zn_eq, zn_clamp, zn_in, zn_long, kdN_R, show ¬ k < m by omega, kd_fm]
    by_cases q : kdN v k l m = rs
    · by_cases q2 : zn n = i
      · simp only [q, q2, mq_dl_int, mq_dl_ref, mq_dl_null, mq_dl_none, mc_some, Option.toList_some, Option.toList_none, List.cons_append, List.nil_append, zb_1, zb_0, ↓reduceIte, if_true, if_false, not_true_eq_false, not_false_eq_true, Bool.false_eq_true, z_10, z_01, eq_self, Bool.and_self, true_or, or_true, false_or, or_false, true_and, and_true, false_and, and_false, and_self, or_self, kd_fd]
      · simp only [q, q2, mq_dl_int, mq_dl_ref, mq_dl_null, mq_dl_none, mc_some, Option.toList_some, Option.toList_none, List.cons_append, List.nil_append, zb_1, zb_0, ↓reduceIte, if_true, if_false, not_true_eq_false, not_false_eq_true, Bool.false_eq_true, z_10, z_01, eq_self, Bool.and_self, true_or, or_true, false_or, or_false, true_and, and_true, false_and, and_false, and_self, or_self, kd_fd, ih (m + 1) (n + 1) (by omega), List.length_cons]
        rw [show n + 1 + (kd_fm v k l rs (m + 1) r).length = n + ((kd_fm v k l rs (m + 1) r).length + 1) by omega]
    · simp only [q, mq_dl_int, mq_dl_ref, mq_dl_null, mq_dl_none, mc_some, Option.toList_some, Option.toList_none, List.cons_append, List.nil_append, zb_1, zb_0, ↓reduceIte, if_true, if_false, not_true_eq_false, not_false_eq_true, Bool.false_eq_true, z_10, z_01, eq_self, Bool.and_self, true_or, or_true, false_or, or_false, true_and, and_true, false_and, and_false, and_self, or_self, ih (m + 1) n (by omega)]
theorem kd_loopl (d : Nat) (h : mq_H) (a v k : Nat) (rs i : Int32) (hk : k ≤ 98) : ∀ (r l n : Nat) (o7 : Option Value), l + r = k + 1 → ∃ o7', mz (d + 2) 275 17 [some (.ref a), some (.int (zn v)), some (.int rs), some (.int i), some (.int (zn n)), some (.int (zn k)), some (.int (zn l)), o7] [] h = match kd_fd i n (kd_fl v k rs l r) with
    | some c => some (some (some (.int (zn c))), h)
    | none => mz (d + 2) 275 85 [some (.ref a), some (.int (zn v)), some (.int rs), some (.int i), some (.int (zn (n + (kd_fl v k rs l r).length))), some (.int (zn k)), some (.int (zn (k + 1))), o7'] [] h := by
  intro r
  induction r with
  | zero =>
    intro l n o7 hl
    have e : l = k + 1 := by omega
    refine ⟨o7, ?_⟩
    simp (disch := first | omega | exact zb_1 | exact zb_0 | exact zb_n1 | exact zb_n0) only [x275_17, x275_19, x275_21, mq_dl_int, mq_dl_ref, mq_dl_null, mq_dl_none, mc_some, Option.toList_some, Option.toList_none, List.cons_append, List.nil_append, zb_1, zb_0, ↓reduceIte, if_true, if_false, not_true_eq_false, not_false_eq_true, Bool.false_eq_true, z_10, z_01, eq_self, Bool.and_self, true_or, or_true, false_or, or_false, true_and, and_true, false_and, and_false, and_self, or_self, Nat.reduceLT, Nat.reduceEqDiff, Nat.reduceLeDiff, Nat.reduceAdd, Nat.reduceMul, Nat.reduceSub, zn_lit, zn_add, zn_mul, zn_sub, zn_addneg, zn_lt, zn_le, zn_eq, zn_clamp, zn_in, zn_long, kd_fl, kd_fd, List.length_nil, e, Nat.add_zero, Nat.lt_add_one]
  | succ r ih =>
    intro l n o7 hl
    obtain ⟨o', ho⟩ := ih (l + 1) (n + (kd_fm v k l rs 0 (k + 1)).length) (some (.int (zn (k + 1)))) (by omega)
    refine ⟨o', ?_⟩
    simp (disch := first | omega | exact zb_1 | exact zb_0 | exact zb_n1 | exact zb_n0) only [x275_17, x275_19, x275_21, x275_24, x275_25, mq_dl_int, mq_dl_ref, mq_dl_null, mq_dl_none, mc_some, Option.toList_some, Option.toList_none, List.cons_append, List.nil_append, zb_1, zb_0, ↓reduceIte, if_true, if_false, not_true_eq_false, not_false_eq_true, Bool.false_eq_true, z_10, z_01, eq_self, Bool.and_self, true_or, or_true, false_or, or_false, true_and, and_true, false_and, and_false, and_self, or_self, Nat.reduceLT, Nat.reduceEqDiff, Nat.reduceLeDiff, Nat.reduceAdd, Nat.reduceMul, Nat.reduceSub, zn_lit, zn_add, zn_mul, zn_sub, zn_addneg, zn_lt, zn_le, zn_eq, zn_clamp, zn_in, zn_long, show ¬ k < l by omega, kd_fl]
    rw [kd_loopm d h a v k l rs i hk (by omega) (k + 1) 0 n (by omega), kd_fd_app]
    cases kd_fd i n (kd_fm v k l rs 0 (k + 1)) with
    | some c => rfl
    | none =>
      simp only
      rw [x275_79]
      simp only [mq_dl_int, mq_dl_ref, mq_dl_null, mq_dl_none, mc_some, Option.toList_some, Option.toList_none, List.cons_append, List.nil_append, zb_1, zb_0, ↓reduceIte, if_true, if_false, not_true_eq_false, not_false_eq_true, Bool.false_eq_true, z_10, z_01, eq_self, Bool.and_self, true_or, or_true, false_or, or_false, true_and, and_true, false_and, and_false, and_self, or_self, Nat.reduceLT, Nat.reduceEqDiff, Nat.reduceLeDiff, Nat.reduceAdd, Nat.reduceMul, Nat.reduceSub, zn_lit, zn_add, zn_mul, zn_sub, zn_addneg, zn_lt, zn_le, zn_eq, zn_clamp, zn_in, zn_long, x275_82]
      rw [ho]
      simp only [List.length_append, Nat.add_assoc]
theorem kd_loopk (d : Nat) (h : mq_H) (a v : Nat) (rs i : Int32) (hv : v ≤ 100) (hv4 : 4 ≤ v) : ∀ (r k n : Nat) (o6 o7 : Option Value), k + r = v - 1 → mz (d + 2) 275 6 [some (.ref a), some (.int (zn v)), some (.int rs), some (.int i), some (.int (zn n)), some (.int (zn k)), o6, o7] [] h = match kd_fd i n (kd_fk v rs k r) with
    | some c => some (some (some (.int (zn c))), h)
    | none => some (some (some (.int (if i = -1 then zn (n + (kd_fk v rs k r).length) else -1))), h) := by
  intro r
  induction r with
  | zero =>
    intro k n o6 o7 hk
    have e : k = v - 1 := by omega
    simp (disch := first | omega | exact zb_1 | exact zb_0 | exact zb_n1 | exact zb_n0) only [x275_0, x275_1, x275_3, x275_4, x275_6, x275_8, x275_9, x275_10, x275_11, x275_14, x275_15, x275_17, x275_19, x275_21, x275_24, x275_25, x275_27, x275_29, x275_31, x275_34, x275_35, x275_37, x275_39, x275_41, x275_44, x275_45, x275_48, x275_50, x275_51, x275_54, x275_57, x275_59, x275_60, x275_62, x275_64, x275_65, x275_66, x275_68, x275_69, x275_70, x275_73, x275_76, x275_79, x275_82, x275_85, x275_88, x275_91, x275_92, x275_93, x275_96, x275_98, x275_102, x275_101, mq_dl_int, mq_dl_ref, mq_dl_null, mq_dl_none, mc_some, Option.toList_some, Option.toList_none, List.cons_append, List.nil_append, zb_1, zb_0, ↓reduceIte, if_true, if_false, not_true_eq_false, not_false_eq_true, Bool.false_eq_true, z_10, z_01, eq_self, Bool.and_self, true_or, or_true, false_or, or_false, true_and, and_true, false_and, and_false, and_self, or_self, Nat.reduceLT, Nat.reduceEqDiff, Nat.reduceLeDiff, Nat.reduceAdd, Nat.reduceMul, Nat.reduceSub, zn_lit, zn_add, zn_mul, zn_sub, zn_addneg, zn_lt, zn_le, zn_eq, zn_clamp, zn_in, zn_long, kd_fk, kd_fd, List.length_nil, e, Nat.add_zero, show v - 2 < v - 1 by omega]
    by_cases q : i = -zn 1
    · simp only [q, mq_dl_int, mq_dl_ref, mq_dl_null, mq_dl_none, mc_some, Option.toList_some, Option.toList_none, List.cons_append, List.nil_append, zb_1, zb_0, ↓reduceIte, if_true, if_false, not_true_eq_false, not_false_eq_true, Bool.false_eq_true, z_10, z_01, eq_self, Bool.and_self, true_or, or_true, false_or, or_false, true_and, and_true, false_and, and_false, and_self, or_self]
    · simp only [q, mq_dl_int, mq_dl_ref, mq_dl_null, mq_dl_none, mc_some, Option.toList_some, Option.toList_none, List.cons_append, List.nil_append, zb_1, zb_0, ↓reduceIte, if_true, if_false, not_true_eq_false, not_false_eq_true, Bool.false_eq_true, z_10, z_01, eq_self, Bool.and_self, true_or, or_true, false_or, or_false, true_and, and_true, false_and, and_false, and_self, or_self]
  | succ r ih =>
    intro k n o6 o7 hk
    obtain ⟨o', ho⟩ := kd_loopl d h a v k rs i (by omega) (k + 1) 0 n o7 (by omega)
    simp (disch := first | omega | exact zb_1 | exact zb_0 | exact zb_n1 | exact zb_n0) only [x275_6, x275_8, x275_9, x275_10, x275_11, x275_14, x275_15, mq_dl_int, mq_dl_ref, mq_dl_null, mq_dl_none, mc_some, Option.toList_some, Option.toList_none, List.cons_append, List.nil_append, zb_1, zb_0, ↓reduceIte, if_true, if_false, not_true_eq_false, not_false_eq_true, Bool.false_eq_true, z_10, z_01, eq_self, Bool.and_self, true_or, or_true, false_or, or_false, true_and, and_true, false_and, and_false, and_self, or_self, Nat.reduceLT, Nat.reduceEqDiff, Nat.reduceLeDiff, Nat.reduceAdd, Nat.reduceMul, Nat.reduceSub, zn_lit, zn_add, zn_mul, zn_sub, zn_addneg, zn_lt, zn_le, zn_eq, zn_clamp, zn_in, zn_long, show ¬ v - 2 < k by omega, kd_fk]
    rw [ho, kd_fd_app]
    cases kd_fd i n (kd_fl v k rs 0 (k + 1)) with
    | some c => rfl
    | none =>
      simp only
      rw [x275_85]
      simp only [mq_dl_int, mq_dl_ref, mq_dl_null, mq_dl_none, mc_some, Option.toList_some, Option.toList_none, List.cons_append, List.nil_append, zb_1, zb_0, ↓reduceIte, if_true, if_false, not_true_eq_false, not_false_eq_true, Bool.false_eq_true, z_10, z_01, eq_self, Bool.and_self, true_or, or_true, false_or, or_false, true_and, and_true, false_and, and_false, and_self, or_self, Nat.reduceLT, Nat.reduceEqDiff, Nat.reduceLeDiff, Nat.reduceAdd, Nat.reduceMul, Nat.reduceSub, zn_lit, zn_add, zn_mul, zn_sub, zn_addneg, zn_lt, zn_le, zn_eq, zn_clamp, zn_in, zn_long, x275_88]
      rw [ih (k + 1) _ _ _ (by omega)]
      simp only [List.length_append, Nat.add_assoc]
      rfl
theorem kd_findR (d : Nat) (h : mq_H) (a v : Nat) (rs i : Int32) (hv : v ≤ 100) (hv4 : 4 ≤ v) : mz (d + 2) 275 0 [some (.ref a), some (.int (zn v)), some (.int rs), some (.int i), none, none, none, none] [] h = match kd_fd i 0 (kd_fk v rs 1 (v - 2)) with
    | some c => some (some (some (.int (zn c))), h)
    | none => some (some (some (.int (if i = -1 then zn (kd_fk v rs 1 (v - 2)).length else -1))), h) := by
  rw [x275_0]
  simp only [x275_1, x275_3, x275_4, mq_dl_int, mq_dl_ref, mq_dl_null, mq_dl_none, mc_some, Option.toList_some, Option.toList_none, List.cons_append, List.nil_append, zb_1, zb_0, ↓reduceIte, if_true, if_false, not_true_eq_false, not_false_eq_true, Bool.false_eq_true, z_10, z_01, eq_self, Bool.and_self, true_or, or_true, false_or, or_false, true_and, and_true, false_and, and_false, and_self, or_self, Nat.reduceLT, Nat.reduceEqDiff, Nat.reduceLeDiff, Nat.reduceAdd, Nat.reduceMul, Nat.reduceSub, zn_lit, zn_add, zn_mul, zn_sub, zn_addneg, zn_lt, zn_le, zn_eq, zn_clamp, zn_in, zn_long]
  rw [kd_loopk d h a v rs i hv hv4 (v - 2) 1 0 _ _ (by omega), Nat.zero_add]
  rfl
