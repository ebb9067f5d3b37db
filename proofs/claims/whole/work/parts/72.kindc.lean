/-! KINDS: the class's lists are the reference's -/
def kd_bl (v k l : Nat) (rs : Int32) : List Nat := match kd_bal v k l with
  | some m => if kdN v k l m = rs then [10000 * k + 100 * l + m] else []
  | none => []
theorem kdr_one (v k l m s : Int32) (sq : Prop) [Decidable sq] : kdr v k l m s sq = 1 ↔ ¬ k * (k - l - 1) = (v - k - 1) * m := by
  unfold kdr
  repeat' split
  all_goals (first | (simp_all; done) | (constructor <;> intro h <;> first | (exact absurd h (by decide)) | simp_all))
theorem kdN_one (v k l m : Nat) (hv : v ≤ 100) (hk0 : 1 ≤ k) (hk : k + 2 ≤ v) (hl : l ≤ k) (hm : m ≤ k) : kdN v k l m = 1 ↔ ¬ kd_bal v k l = some m := by
  unfold kdN
  rw [kdr_one, kd_bal_iff v k l m hv hk0 hk hl hm]
theorem kd_bal_le (v k l m : Nat) (h : kd_bal v k l = some m) : m ≤ k := by
  unfold kd_bal at h
  split at h
  · cases h; omega
  · cases h
theorem kd_fm_nil (v k l : Nat) (rs : Int32) : ∀ (r m : Nat), (∀ j, m ≤ j → j < m + r → ¬ kdN v k l j = rs) → kd_fm v k l rs m r = []
  | 0, _, _ => rfl
  | r + 1, m, h => by
    simp only [kd_fm]
    rw [if_neg (h m (by omega) (by omega))]
    exact kd_fm_nil v k l rs r (m + 1) fun j h1 h2 => h j (by omega) (by omega)
theorem kd_fm_one (v k l : Nat) (rs : Int32) (m0 : Nat) : ∀ (r m : Nat), m ≤ m0 → m0 < m + r → (∀ j, m ≤ j → j < m + r → (kdN v k l j = rs ↔ j = m0)) → kd_fm v k l rs m r = [10000 * k + 100 * l + m0]
  | 0, m, h1, h2, _ => by omega
  | r + 1, m, h1, h2, h => by
    simp only [kd_fm]
    by_cases q : m = m0
    · subst q
      rw [if_pos ((h m (by omega) (by omega)).mpr rfl), kd_fm_nil v k l rs r (m + 1)]
      intro j h3 h4 e
      have := (h j (by omega) (by omega)).mp e
      omega
    · rw [if_neg (fun e => q ((h m (by omega) (by omega)).mp e))]
      exact kd_fm_one v k l rs m0 r (m + 1) (by omega) (by omega) fun j h3 h4 => h j (by omega) (by omega)
theorem kd_fm_all (v k l : Nat) (hv : v ≤ 100) (hk0 : 1 ≤ k) (hk : k + 2 ≤ v) (hl : l ≤ k) : ∀ (r m : Nat), m + r ≤ k + 1 → (kd_fm v k l 1 m r).length + (match kd_bal v k l with
    | some m0 => if m ≤ m0 ∧ m0 < m + r then 1 else 0
    | none => 0) = r
  | 0, m, h => by
    simp only [kd_fm, List.length_nil]
    cases kd_bal v k l with
    | none => rfl
    | some m0 => simp only; rw [if_neg (by omega)]
  | r + 1, m, h => by
    have ih := kd_fm_all v k l hv hk0 hk hl r (m + 1) (by omega)
    have h1 := kdN_one v k l m hv hk0 hk hl (by omega)
    simp only [kd_fm]
    cases hb : kd_bal v k l with
    | none =>
      rw [hb] at ih h1
      rw [if_pos (h1.mpr (by simp)), List.length_cons]
      simp only at ih ⊢
      omega
    | some m0 =>
      rw [hb] at ih h1
      simp only at ih ⊢
      by_cases q : m = m0
      · rw [if_neg (fun e => h1.mp e (by rw [q])), if_pos (by omega)]
        rw [if_neg (by omega)] at ih
        omega
      · rw [if_pos (h1.mpr (fun e => q (Option.some.inj e).symm)), List.length_cons]
        by_cases q2 : m ≤ m0 ∧ m0 < m + (r + 1)
        · rw [if_pos q2]; rw [if_pos (by omega)] at ih; omega
        · rw [if_neg q2]; rw [if_neg (by omega)] at ih; omega
theorem kd_fm_bl (v k l : Nat) (rs : Int32) (hrs : ¬ rs = 1) (hv : v ≤ 100) (hk0 : 1 ≤ k) (hk : k + 2 ≤ v) (hl : l ≤ k) : kd_fm v k l rs 0 (k + 1) = kd_bl v k l rs := by
  unfold kd_bl
  cases hb : kd_bal v k l with
  | none =>
    refine kd_fm_nil v k l rs (k + 1) 0 fun j _ h2 e => hrs ?_
    rw [← e]
    exact (kdN_one v k l j hv hk0 hk hl (by omega)).mpr (by rw [hb]; simp)
  | some m0 =>
    have hm0 := kd_bal_le v k l m0 hb
    have key : ∀ j, j ≤ k → kdN v k l j = rs → j = m0 := by
      intro j hj e
      by_cases q : j = m0
      · exact q
      · exfalso; apply hrs; rw [← e]
        exact (kdN_one v k l j hv hk0 hk hl hj).mpr (by rw [hb]; intro e2; exact q (Option.some.inj e2).symm)
    by_cases q : kdN v k l m0 = rs
    · simp only [q, if_true]
      exact kd_fm_one v k l rs m0 (k + 1) 0 (by omega) (by omega) fun j _ h2 => ⟨key j (by omega), fun e => by rw [e]; exact q⟩
    · simp only [q, if_false]
      exact kd_fm_nil v k l rs (k + 1) 0 fun j _ h2 e => q (by rw [← key j (by omega) e]; exact e)
/-- how many l balance; how many of these are left out for a reason -/
def kd_bs (v k l : Nat) : Nat → Nat
  | 0 => 0
  | r + 1 => (if (kd_bal v k l).isSome then 1 else 0) + kd_bs v k (l + 1) r
def kd_bq (v k : Nat) (rs : Int32) (l : Nat) : Nat → List Nat
  | 0 => []
  | r + 1 => kd_bl v k l rs ++ kd_bq v k rs (l + 1) r
theorem kd_fl_bq (v k : Nat) (rs : Int32) (hrs : ¬ rs = 1) (hv : v ≤ 100) (hk0 : 1 ≤ k) (hk : k + 2 ≤ v) : ∀ (r l : Nat), l + r ≤ k + 1 → kd_fl v k rs l r = kd_bq v k rs l r
  | 0, _, _ => rfl
  | r + 1, l, h => by
    simp only [kd_fl, kd_bq]
    rw [kd_fm_bl v k l rs hrs hv hk0 hk (by omega), kd_fl_bq v k rs hrs hv hk0 hk r (l + 1) (by omega)]
theorem kd_fl_one (v k : Nat) (hv : v ≤ 100) (hk0 : 1 ≤ k) (hk : k + 2 ≤ v) : ∀ (r l : Nat), l + r ≤ k + 1 → (kd_fl v k 1 l r).length + kd_bs v k l r = r * (k + 1)
  | 0, _, _ => by simp [kd_fl, kd_bs]
  | r + 1, l, h => by
    simp only [kd_fl, kd_bs, List.length_append]
    have h1 := kd_fl_one v k hv hk0 hk r (l + 1) (by omega)
    have h2 := kd_fm_all v k l hv hk0 hk (by omega) (k + 1) 0 (by omega)
    have h3 : (match kd_bal v k l with
      | some m0 => if 0 ≤ m0 ∧ m0 < 0 + (k + 1) then 1 else 0
      | none => 0) = (if (kd_bal v k l).isSome then 1 else 0) := by
      cases hb : kd_bal v k l with
      | none => rfl
      | some m0 =>
        have := kd_bal_le v k l m0 hb
        simp only [Option.isSome_some, if_true]
        rw [if_pos (by omega)]
    rw [h3] at h2
    rw [Nat.succ_mul]
    omega
/-- over all k: how many there are, how many balance -/
def kd_ka (k : Nat) : Nat → Nat
  | 0 => 0
  | r + 1 => (k + 1) * (k + 1) + kd_ka (k + 1) r
def kd_ks (v k : Nat) : Nat → Nat
  | 0 => 0
  | r + 1 => kd_bs v k 0 (k + 1) + kd_ks v (k + 1) r
def kd_kq (v : Nat) (rs : Int32) (k : Nat) : Nat → List Nat
  | 0 => []
  | r + 1 => kd_bq v k rs 0 (k + 1) ++ kd_kq v rs (k + 1) r
theorem kd_fk_kq (v : Nat) (rs : Int32) (hrs : ¬ rs = 1) (hv : v ≤ 100) : ∀ (r k : Nat), 1 ≤ k → k + r + 1 ≤ v → kd_fk v rs k r = kd_kq v rs k r
  | 0, _, _, _ => rfl
  | r + 1, k, h0, h => by
    simp only [kd_fk, kd_kq]
    rw [kd_fl_bq v k rs hrs hv h0 (by omega) (k + 1) 0 (by omega), kd_fk_kq v rs hrs hv r (k + 1) (by omega) (by omega)]
theorem kd_fk_one (v : Nat) (hv : v ≤ 100) : ∀ (r k : Nat), 1 ≤ k → k + r + 1 ≤ v → (kd_fk v 1 k r).length + kd_ks v k r = kd_ka k r
  | 0, _, _, _ => rfl
  | r + 1, k, h0, h => by
    simp only [kd_fk, kd_ks, kd_ka, List.length_append]
    have h1 := kd_fk_one v hv r (k + 1) (by omega) (by omega)
    have h2 := kd_fl_one v k hv h0 (by omega) (k + 1) 0 (by omega)
    omega
theorem kd_fm_len (v k l : Nat) (rs : Int32) : ∀ (r m : Nat), (kd_fm v k l rs m r).length ≤ r
  | 0, _ => Nat.le_refl _
  | r + 1, m => by
    have := kd_fm_len v k l rs r (m + 1)
    simp only [kd_fm]
    split
    · simp only [List.length_cons]; omega
    · omega
theorem kd_fl_len (v k : Nat) (rs : Int32) : ∀ (r l : Nat), (kd_fl v k rs l r).length ≤ r * (k + 1)
  | 0, _ => by simp [kd_fl]
  | r + 1, l => by
    have h1 := kd_fl_len v k rs r (l + 1)
    have h2 := kd_fm_len v k l rs (k + 1) 0
    simp only [kd_fl, List.length_append]
    rw [Nat.succ_mul]
    omega
theorem kd_fk_len (v : Nat) (rs : Int32) : ∀ (r k : Nat), k + r ≤ 100 → (kd_fk v rs k r).length ≤ r * 10201
  | 0, _, _ => by simp [kd_fk]
  | r + 1, k, h => by
    have h1 := kd_fk_len v rs r (k + 1) (by omega)
    have h2 := kd_fl_len v k rs (k + 1) 0
    have h3 : (k + 1) * (k + 1) ≤ 101 * 101 := Nat.mul_le_mul (by omega) (by omega)
    simp only [kd_fk, List.length_append]
    omega
theorem kd_fd_m1 : ∀ (s : List Nat) (n : Nat), n + s.length < 2147483648 → kd_fd (-1) n s = none
  | [], _, _ => rfl
  | c :: s, n, h => by
    simp only [List.length_cons] at h
    simp only [kd_fd]
    rw [if_neg (kd_m1 n (by omega))]
    exact kd_fd_m1 s (n + 1) (by omega)
theorem kd_ml (d : Nat) (h : mq_H) (v k : Nat) (rs : Int32) (A : Int32) (hv : v ≤ 100) (hk0 : 1 ≤ k) (hk : k + 2 ≤ v) : ∀ (r l S Q : Nat) (o7 : Option Value), l + r = k + 1 → ∃ o7', mz (d + 2) 44 33 [some (.int (zn v)), some (.int rs), some (.int A), some (.int (zn S)), some (.int (zn Q)), some (.int (zn k)), some (.int (zn l)), o7] [] h = mz (d + 2) 44 89 [some (.int (zn v)), some (.int rs), some (.int A), some (.int (zn (S + kd_bs v k l r))), some (.int (zn (Q + (kd_bq v k rs l r).length))), some (.int (zn k)), some (.int (zn (k + 1))), o7'] [] h := by
  intro r
  induction r with
  | zero =>
    intro l S Q o7 hl
    have e : l = k + 1 := by omega
    refine ⟨o7, ?_⟩
    simp (disch := first | omega | exact zb_1 | exact zb_0 | exact zb_n1 | exact zb_n0) only [x44_33, x44_35, x44_37, mq_dl_int, mq_dl_ref, mq_dl_null, mq_dl_none, mc_some, Option.toList_some, Option.toList_none, List.cons_append, List.nil_append, zb_1, zb_0, ↓reduceIte, if_true, if_false, not_true_eq_false, not_false_eq_true, Bool.false_eq_true, z_10, z_01, eq_self, Bool.and_self, true_or, or_true, false_or, or_false, true_and, and_true, false_and, and_false, and_self, or_self, Nat.reduceLT, Nat.reduceEqDiff, Nat.reduceLeDiff, Nat.reduceAdd, Nat.reduceMul, Nat.reduceSub, zn_lit, zn_add, zn_mul, zn_sub, zn_addneg, zn_lt, zn_le, zn_eq, zn_clamp, zn_in, zn_long, kd_bs, kd_bq, List.length_nil, e, Nat.add_zero, Nat.lt_add_one]
  | succ r ih =>
    intro l S Q o7 hl
    have hc := kd_balC (d + 1) h v k l hv hk0 hk (by omega)
    cases hb : kd_bal v k l with
    | none =>
      rw [hb] at hc
      obtain ⟨o', ho⟩ := ih (l + 1) S Q (some (.int (-1))) (by omega)
      refine ⟨o', ?_⟩
      rw [x44_33]
      simp (disch := first | omega | exact zb_1 | exact zb_0 | exact zb_n1 | exact zb_n0) only [x44_0, x44_1, x44_2, x44_3, x44_4, x44_5, x44_7, x44_8, x44_10, x44_12, x44_13, x44_14, x44_15, x44_18, x44_19, x44_21, x44_22, x44_23, x44_25, x44_26, x44_27, x44_28, x44_29, x44_30, x44_31, x44_35, x44_37, x44_40, x44_41, x44_43, x44_45, x44_48, x44_50, x44_52, x44_53, x44_56, x44_59, x44_61, x44_62, x44_64, x44_66, x44_68, x44_71, x44_72, x44_75, x44_76, x44_80, x44_81, x44_79, x44_83, x44_86, x44_92, x44_95, x44_96, x44_97, x44_100, x44_101, x44_102, x44_103, x44_108, x44_106, hc, mq_dl_int, mq_dl_ref, mq_dl_null, mq_dl_none, mc_some, Option.toList_some, Option.toList_none, List.cons_append, List.nil_append, zb_1, zb_0, ↓reduceIte, if_true, if_false, not_true_eq_false, not_false_eq_true, Bool.false_eq_true, z_10, z_01, eq_self, Bool.and_self, true_or, or_true, false_or, or_false, true_and, and_true, false_and, and_false, and_self, or_self, zn_lt, show ¬ k < l by omega, kd_bs, kd_bq, kd_bl, hb, Option.isSome_none, Bool.false_eq_true, Nat.zero_add]
      rw [show zn l + 1 = zn (l + 1) from zn_add l 1, ho]
    | some m0 =>
      rw [hb] at hc
      have hm0 := kd_bal_le v k l m0 hb
      have hm1 := kd_m1 m0 (by omega)
      obtain ⟨o', ho⟩ := ih (l + 1) (S + 1) (Q + (kd_bl v k l rs).length) (some (.int (zn m0))) (by omega)
      refine ⟨o', ?_⟩
      rw [x44_33]
      simp (disch := first | omega | exact zb_1 | exact zb_0 | exact zb_n1 | exact zb_n0) only [x44_0, x44_1, x44_2, x44_3, x44_4, x44_5, x44_7, x44_8, x44_10, x44_12, x44_13, x44_14, x44_15, x44_18, x44_19, x44_21, x44_22, x44_23, x44_25, x44_26, x44_27, x44_28, x44_29, x44_30, x44_31, x44_35, x44_37, x44_40, x44_41, x44_43, x44_45, x44_48, x44_50, x44_52, x44_53, x44_56, x44_59, x44_61, x44_62, x44_64, x44_66, x44_68, x44_71, x44_72, x44_75, x44_76, x44_80, x44_81, x44_79, x44_83, x44_86, x44_92, x44_95, x44_96, x44_97, x44_100, x44_101, x44_102, x44_103, x44_108, x44_106, hc, mq_dl_int, mq_dl_ref, mq_dl_null, mq_dl_none, mc_some, Option.toList_some, Option.toList_none, List.cons_append, List.nil_append, zb_1, zb_0, ↓reduceIte, if_true, if_false, not_true_eq_false, not_false_eq_true, Bool.false_eq_true, z_10, z_01, eq_self, Bool.and_self, true_or, or_true, false_or, or_false, true_and, and_true, false_and, and_false, and_self, or_self, zn_lt, show ¬ k < l by omega, hm1, kdN_C]
      unfold kd_bl at ho
      rw [hb] at ho
      by_cases q : kdN v k l m0 = rs
      · simp only [q, mq_dl_int, mq_dl_ref, mq_dl_null, mq_dl_none, mc_some, Option.toList_some, Option.toList_none, List.cons_append, List.nil_append, zb_1, zb_0, ↓reduceIte, if_true, if_false, not_true_eq_false, not_false_eq_true, Bool.false_eq_true, z_10, z_01, eq_self, Bool.and_self, true_or, or_true, false_or, or_false, true_and, and_true, false_and, and_false, and_self, or_self, kd_bs, kd_bq, kd_bl, hb, Option.isSome_some, List.length_append, List.length_cons, List.length_nil] at ho ⊢
        rw [show zn l + 1 = zn (l + 1) from zn_add l 1, show zn S + 1 = zn (S + 1) from zn_add S 1, show zn Q + 1 = zn (Q + 1) from zn_add Q 1]
        rw [show Q + (0 + 1) = Q + 1 from rfl] at ho
        rw [ho, show S + 1 + kd_bs v k (l + 1) r = S + (1 + kd_bs v k (l + 1) r) by omega, show Q + 1 + (kd_bq v k rs (l + 1) r).length = Q + ((kd_bq v k rs (l + 1) r).length + 1) by omega]
      · simp only [q, mq_dl_int, mq_dl_ref, mq_dl_null, mq_dl_none, mc_some, Option.toList_some, Option.toList_none, List.cons_append, List.nil_append, zb_1, zb_0, ↓reduceIte, if_true, if_false, not_true_eq_false, not_false_eq_true, Bool.false_eq_true, z_10, z_01, eq_self, Bool.and_self, true_or, or_true, false_or, or_false, true_and, and_true, false_and, and_false, and_self, or_self, kd_bs, kd_bq, kd_bl, hb, Option.isSome_some, List.length_append, List.length_nil] at ho ⊢
        rw [show zn l + 1 = zn (l + 1) from zn_add l 1, show zn S + 1 = zn (S + 1) from zn_add S 1, show zn Q + 0 = zn (Q + 0) from zn_add Q 0]
        rw [ho, show S + 1 + kd_bs v k (l + 1) r = S + (1 + kd_bs v k (l + 1) r) by omega, show Q + 0 + (kd_bq v k rs (l + 1) r).length = Q + (kd_bq v k rs (l + 1) r).length by omega]
theorem kd_mk (d : Nat) (h : mq_H) (v : Nat) (rs : Int32) (hv : v ≤ 100) (hv4 : 4 ≤ v) : ∀ (r k A S Q : Nat) (o6 o7 : Option Value), 1 ≤ k → k + r = v - 1 → mz (d + 2) 44 10 [some (.int (zn v)), some (.int rs), some (.int (zn A)), some (.int (zn S)), some (.int (zn Q)), some (.int (zn k)), o6, o7] [] h = some (some (some (.int (if rs = 1 then zn (A + kd_ka k r) - zn (S + kd_ks v k r) else zn (Q + (kd_kq v rs k r).length)))), h) := by
  intro r
  induction r with
  | zero =>
    intro k A S Q o6 o7 hk0 hk
    have e : k = v - 1 := by omega
    subst e
    rw [x44_10]
    simp (disch := first | omega | exact zb_1 | exact zb_0 | exact zb_n1 | exact zb_n0) only [x44_0, x44_1, x44_2, x44_3, x44_4, x44_5, x44_7, x44_8, x44_12, x44_13, x44_14, x44_15, x44_18, x44_19, x44_21, x44_22, x44_23, x44_25, x44_26, x44_27, x44_28, x44_29, x44_30, x44_31, x44_33, x44_35, x44_37, x44_40, x44_41, x44_43, x44_45, x44_48, x44_50, x44_52, x44_53, x44_56, x44_59, x44_61, x44_62, x44_64, x44_66, x44_68, x44_71, x44_72, x44_75, x44_76, x44_80, x44_81, x44_79, x44_83, x44_86, x44_89, x44_92, x44_95, x44_96, x44_97, x44_100, x44_101, x44_102, x44_103, x44_108, x44_106, mq_dl_int, mq_dl_ref, mq_dl_null, mq_dl_none, mc_some, Option.toList_some, Option.toList_none, List.cons_append, List.nil_append, zb_1, zb_0, ↓reduceIte, if_true, if_false, not_true_eq_false, not_false_eq_true, Bool.false_eq_true, z_10, z_01, eq_self, Bool.and_self, true_or, or_true, false_or, or_false, true_and, and_true, false_and, and_false, and_self, or_self, show zn v - 2 = zn (v - 2) from zn_sub v 2 (by omega), zn_lt, show v - 2 < v - 1 by omega, kd_ka, kd_ks, kd_kq, List.length_nil, Nat.add_zero]
    by_cases q : rs = 1
    · simp only [q, mq_dl_int, mq_dl_ref, mq_dl_null, mq_dl_none, mc_some, Option.toList_some, Option.toList_none, List.cons_append, List.nil_append, zb_1, zb_0, ↓reduceIte, if_true, if_false, not_true_eq_false, not_false_eq_true, Bool.false_eq_true, z_10, z_01, eq_self, Bool.and_self, true_or, or_true, false_or, or_false, true_and, and_true, false_and, and_false, and_self, or_self]
    · simp only [q, mq_dl_int, mq_dl_ref, mq_dl_null, mq_dl_none, mc_some, Option.toList_some, Option.toList_none, List.cons_append, List.nil_append, zb_1, zb_0, ↓reduceIte, if_true, if_false, not_true_eq_false, not_false_eq_true, Bool.false_eq_true, z_10, z_01, eq_self, Bool.and_self, true_or, or_true, false_or, or_false, true_and, and_true, false_and, and_false, and_self, or_self]
  | succ r ih =>
    intro k A S Q o6 o7 hk0 hk
    obtain ⟨o', ho⟩ := kd_ml d h v k rs (zn (A + (k + 1) * (k + 1))) hv hk0 (by omega) (k + 1) 0 S Q o7 (by omega)
    rw [x44_10]
    simp (disch := first | omega | exact zb_1 | exact zb_0 | exact zb_n1 | exact zb_n0) only [x44_12, x44_13, x44_14, x44_15, x44_18, x44_19, x44_21, x44_22, x44_23, x44_25, x44_26, x44_27, x44_28, x44_29, x44_30, x44_31, mq_dl_int, mq_dl_ref, mq_dl_null, mq_dl_none, mc_some, Option.toList_some, Option.toList_none, List.cons_append, List.nil_append, zb_1, zb_0, ↓reduceIte, if_true, if_false, not_true_eq_false, not_false_eq_true, Bool.false_eq_true, z_10, z_01, eq_self, Bool.and_self, true_or, or_true, false_or, or_false, true_and, and_true, false_and, and_false, and_self, or_self, show zn v - 2 = zn (v - 2) from zn_sub v 2 (by omega), zn_lt, show ¬ v - 2 < k by omega]
    rw [show zn k + 1 = zn (k + 1) from zn_add k 1, zn_mul, zn_add, show (0 : Int32) = zn 0 from rfl, ho, x44_89]
    simp only [mq_dl_int, mq_dl_ref, mq_dl_null, mq_dl_none, mc_some, Option.toList_some, Option.toList_none, List.cons_append, List.nil_append, zb_1, zb_0, ↓reduceIte, if_true, if_false, not_true_eq_false, not_false_eq_true, Bool.false_eq_true, z_10, z_01, eq_self, Bool.and_self, true_or, or_true, false_or, or_false, true_and, and_true, false_and, and_false, and_self, or_self, x44_92]
    rw [show zn k + 1 = zn (k + 1) from zn_add k 1, ih (k + 1) _ _ _ _ _ (by omega) (by omega)]
    simp only [kd_ka, kd_ks, kd_kq, List.length_append, Nat.add_assoc]
theorem kd_howC (d : Nat) (h : mq_H) (v : Nat) (rs : Int32) (hv : v ≤ 100) (hv4 : 4 ≤ v) : mz (d + 2) 44 0 [some (.int (zn v)), some (.int rs), none, none, none, none, none, none] [] h = some (some (some (.int (zn (kd_fk v rs 1 (v - 2)).length))), h) := by
  rw [x44_0]
  simp only [x44_1, x44_2, x44_3, x44_4, x44_5, x44_7, x44_8, mq_dl_int, mq_dl_ref, mq_dl_null, mq_dl_none, mc_some, Option.toList_some, Option.toList_none, List.cons_append, List.nil_append, zb_1, zb_0, ↓reduceIte, if_true, if_false, not_true_eq_false, not_false_eq_true, Bool.false_eq_true, z_10, z_01, eq_self, Bool.and_self, true_or, or_true, false_or, or_false, true_and, and_true, false_and, and_false, and_self, or_self]
  rw [show (0 : Int32) = zn 0 from rfl, show (1 : Int32) = zn 1 from rfl, kd_mk d h v rs hv hv4 (v - 2) 1 0 0 0 _ _ (by omega) (by omega)]
  by_cases q : rs = 1
  · subst q
    have := kd_fk_one v hv (v - 2) 1 (by omega) (by omega)
    rw [if_pos rfl, zn_sub _ _ (by omega), show 0 + kd_ka 1 (v - 2) - (0 + kd_ks v 1 (v - 2)) = (kd_fk v 1 1 (v - 2)).length by omega]
  · rw [if_neg q, kd_fk_kq v rs q hv (v - 2) 1 (by omega) (by omega), Nat.zero_add]
theorem kd_tl (d : Nat) (h : mq_H) (v k : Nat) (i : Int32) (hv : v ≤ 100) (hk0 : 1 ≤ k) (hk : k + 2 ≤ v) : ∀ (r l n : Nat) (o5 : Option Value), l + r = k + 1 → ∃ o5', mz (d + 2) 45 14 [some (.int (zn v)), some (.int i), some (.int (zn n)), some (.int (zn k)), some (.int (zn l)), o5] [] h = match kd_fd i n (kd_bq v k 0 l r) with
    | some c => some (some (some (.int (zn c))), h)
    | none => mz (d + 2) 45 76 [some (.int (zn v)), some (.int i), some (.int (zn (n + (kd_bq v k 0 l r).length))), some (.int (zn k)), some (.int (zn (k + 1))), o5'] [] h := by
  intro r
  induction r with
  | zero =>
    intro l n o5 hl
    have e : l = k + 1 := by omega
    refine ⟨o5, ?_⟩
    simp (disch := first | omega | exact zb_1 | exact zb_0 | exact zb_n1 | exact zb_n0) only [x45_14, x45_16, x45_17, mq_dl_int, mq_dl_ref, mq_dl_null, mq_dl_none, mc_some, Option.toList_some, Option.toList_none, List.cons_append, List.nil_append, zb_1, zb_0, ↓reduceIte, if_true, if_false, not_true_eq_false, not_false_eq_true, Bool.false_eq_true, z_10, z_01, eq_self, Bool.and_self, true_or, or_true, false_or, or_false, true_and, and_true, false_and, and_false, and_self, or_self, Nat.reduceLT, Nat.reduceEqDiff, Nat.reduceLeDiff, Nat.reduceAdd, Nat.reduceMul, Nat.reduceSub, zn_lit, zn_add, zn_mul, zn_sub, zn_addneg, zn_lt, zn_le, zn_eq, zn_clamp, zn_in, zn_long, kd_bq, kd_fd, List.length_nil, e, Nat.add_zero, Nat.lt_add_one]
  | succ r ih =>
    intro l n o5 hl
    have hc := kd_balC (d + 1) h v k l hv hk0 hk (by omega)
    cases hb : kd_bal v k l with
    | none =>
      rw [hb] at hc
      obtain ⟨o', ho⟩ := ih (l + 1) n (some (.int (-1))) (by omega)
      refine ⟨o', ?_⟩
      rw [x45_14]
      simp (disch := first | omega | exact zb_1 | exact zb_0 | exact zb_n1 | exact zb_n0) only [x45_0, x45_1, x45_2, x45_3, x45_4, x45_5, x45_6, x45_7, x45_8, x45_11, x45_12, x45_16, x45_17, x45_20, x45_21, x45_22, x45_24, x45_27, x45_29, x45_31, x45_32, x45_35, x45_36, x45_37, x45_39, x45_41, x45_44, x45_47, x45_48, x45_49, x45_52, x45_53, x45_56, x45_57, x45_59, x45_61, x45_62, x45_63, x45_65, x45_66, x45_67, x45_70, x45_73, x45_79, x45_82, x45_83, hc, mq_dl_int, mq_dl_ref, mq_dl_null, mq_dl_none, mc_some, Option.toList_some, Option.toList_none, List.cons_append, List.nil_append, zb_1, zb_0, ↓reduceIte, if_true, if_false, not_true_eq_false, not_false_eq_true, Bool.false_eq_true, z_10, z_01, eq_self, Bool.and_self, true_or, or_true, false_or, or_false, true_and, and_true, false_and, and_false, and_self, or_self, zn_lt, show ¬ k < l by omega, kd_bq, kd_bl, hb]
      rw [show zn l + 1 = zn (l + 1) from zn_add l 1, ho]
    | some m0 =>
      rw [hb] at hc
      have hm0 := kd_bal_le v k l m0 hb
      have hm1 := kd_m1 m0 (by omega)
      by_cases q : kdN v k l m0 = 0
      · by_cases q2 : zn n = i
        · refine ⟨none, ?_⟩
          rw [x45_14]
          simp (disch := first | omega | exact zb_1 | exact zb_0 | exact zb_n1 | exact zb_n0) only [x45_0, x45_1, x45_2, x45_3, x45_4, x45_5, x45_6, x45_7, x45_8, x45_11, x45_12, x45_16, x45_17, x45_20, x45_21, x45_22, x45_24, x45_27, x45_29, x45_31, x45_32, x45_35, x45_36, x45_37, x45_39, x45_41, x45_44, x45_47, x45_48, x45_49, x45_52, x45_53, x45_56, x45_57, x45_59, x45_61, x45_62, x45_63, x45_65, x45_66, x45_67, x45_70, x45_73, x45_79, x45_82, x45_83, hc, mq_dl_int, mq_dl_ref, mq_dl_null, mq_dl_none, mc_some, Option.toList_some, Option.toList_none, List.cons_append, List.nil_append, zb_1, zb_0, ↓reduceIte, if_true, if_false, not_true_eq_false, not_false_eq_true, Bool.false_eq_true, z_10, z_01, eq_self, Bool.and_self, true_or, or_true, false_or, or_false, true_and, and_true, false_and, and_false, and_self, or_self, zn_lt, show ¬ k < l by omega, hm1, kdN_C, q, q2, kd_bq, kd_bl, hb, kd_fd]
          rw [show (10000 : Int32) = zn 10000 from rfl, show (100 : Int32) = zn 100 from rfl, zn_mul, zn_mul, zn_add, zn_add, Nat.mul_comm k, Nat.mul_comm l]
        · obtain ⟨o', ho⟩ := ih (l + 1) (n + 1) (some (.int (zn m0))) (by omega)
          refine ⟨o', ?_⟩
          rw [x45_14]
          simp (disch := first | omega | exact zb_1 | exact zb_0 | exact zb_n1 | exact zb_n0) only [x45_0, x45_1, x45_2, x45_3, x45_4, x45_5, x45_6, x45_7, x45_8, x45_11, x45_12, x45_16, x45_17, x45_20, x45_21, x45_22, x45_24, x45_27, x45_29, x45_31, x45_32, x45_35, x45_36, x45_37, x45_39, x45_41, x45_44, x45_47, x45_48, x45_49, x45_52, x45_53, x45_56, x45_57, x45_59, x45_61, x45_62, x45_63, x45_65, x45_66, x45_67, x45_70, x45_73, x45_79, x45_82, x45_83, hc, mq_dl_int, mq_dl_ref, mq_dl_null, mq_dl_none, mc_some, Option.toList_some, Option.toList_none, List.cons_append, List.nil_append, zb_1, zb_0, ↓reduceIte, if_true, if_false, not_true_eq_false, not_false_eq_true, Bool.false_eq_true, z_10, z_01, eq_self, Bool.and_self, true_or, or_true, false_or, or_false, true_and, and_true, false_and, and_false, and_self, or_self, zn_lt, show ¬ k < l by omega, hm1, kdN_C, q, q2, kd_bq, kd_bl, hb, kd_fd, List.length_cons]
          rw [show zn l + 1 = zn (l + 1) from zn_add l 1, show zn n + 1 = zn (n + 1) from zn_add n 1, ho, show n + 1 + (kd_bq v k 0 (l + 1) r).length = n + ((kd_bq v k 0 (l + 1) r).length + 1) by omega]
      · obtain ⟨o', ho⟩ := ih (l + 1) n (some (.int (zn m0))) (by omega)
        refine ⟨o', ?_⟩
        rw [x45_14]
        simp (disch := first | omega | exact zb_1 | exact zb_0 | exact zb_n1 | exact zb_n0) only [x45_0, x45_1, x45_2, x45_3, x45_4, x45_5, x45_6, x45_7, x45_8, x45_11, x45_12, x45_16, x45_17, x45_20, x45_21, x45_22, x45_24, x45_27, x45_29, x45_31, x45_32, x45_35, x45_36, x45_37, x45_39, x45_41, x45_44, x45_47, x45_48, x45_49, x45_52, x45_53, x45_56, x45_57, x45_59, x45_61, x45_62, x45_63, x45_65, x45_66, x45_67, x45_70, x45_73, x45_79, x45_82, x45_83, hc, mq_dl_int, mq_dl_ref, mq_dl_null, mq_dl_none, mc_some, Option.toList_some, Option.toList_none, List.cons_append, List.nil_append, zb_1, zb_0, ↓reduceIte, if_true, if_false, not_true_eq_false, not_false_eq_true, Bool.false_eq_true, z_10, z_01, eq_self, Bool.and_self, true_or, or_true, false_or, or_false, true_and, and_true, false_and, and_false, and_self, or_self, zn_lt, show ¬ k < l by omega, hm1, kdN_C, q, kd_bq, kd_bl, hb]
        rw [show zn l + 1 = zn (l + 1) from zn_add l 1, ho]
theorem kd_tk (d : Nat) (h : mq_H) (v : Nat) (i : Int32) (hv : v ≤ 100) (hv4 : 4 ≤ v) : ∀ (r k n : Nat) (o4 o5 : Option Value), 1 ≤ k → k + r = v - 1 → mz (d + 2) 45 4 [some (.int (zn v)), some (.int i), some (.int (zn n)), some (.int (zn k)), o4, o5] [] h = match kd_fd i n (kd_kq v 0 k r) with
    | some c => some (some (some (.int (zn c))), h)
    | none => some (some (some (.int (-1))), h) := by
  intro r
  induction r with
  | zero =>
    intro k n o4 o5 hk0 hk
    have e : k = v - 1 := by omega
    subst e
    rw [x45_4]
    simp (disch := first | omega | exact zb_1 | exact zb_0 | exact zb_n1 | exact zb_n0) only [x45_0, x45_1, x45_2, x45_3, x45_5, x45_6, x45_7, x45_8, x45_11, x45_12, x45_14, x45_16, x45_17, x45_20, x45_21, x45_22, x45_24, x45_27, x45_29, x45_31, x45_32, x45_35, x45_36, x45_37, x45_39, x45_41, x45_44, x45_47, x45_48, x45_49, x45_52, x45_53, x45_56, x45_57, x45_59, x45_61, x45_62, x45_63, x45_65, x45_66, x45_67, x45_70, x45_73, x45_76, x45_79, x45_82, x45_83, mq_dl_int, mq_dl_ref, mq_dl_null, mq_dl_none, mc_some, Option.toList_some, Option.toList_none, List.cons_append, List.nil_append, zb_1, zb_0, ↓reduceIte, if_true, if_false, not_true_eq_false, not_false_eq_true, Bool.false_eq_true, z_10, z_01, eq_self, Bool.and_self, true_or, or_true, false_or, or_false, true_and, and_true, false_and, and_false, and_self, or_self, show zn v - 2 = zn (v - 2) from zn_sub v 2 (by omega), zn_lt, show v - 2 < v - 1 by omega, kd_kq, kd_fd]
  | succ r ih =>
    intro k n o4 o5 hk0 hk
    obtain ⟨o', ho⟩ := kd_tl d h v k i hv hk0 (by omega) (k + 1) 0 n o5 (by omega)
    rw [x45_4]
    simp (disch := first | omega | exact zb_1 | exact zb_0 | exact zb_n1 | exact zb_n0) only [x45_5, x45_6, x45_7, x45_8, x45_11, x45_12, mq_dl_int, mq_dl_ref, mq_dl_null, mq_dl_none, mc_some, Option.toList_some, Option.toList_none, List.cons_append, List.nil_append, zb_1, zb_0, ↓reduceIte, if_true, if_false, not_true_eq_false, not_false_eq_true, Bool.false_eq_true, z_10, z_01, eq_self, Bool.and_self, true_or, or_true, false_or, or_false, true_and, and_true, false_and, and_false, and_self, or_self, show zn v - 2 = zn (v - 2) from zn_sub v 2 (by omega), zn_lt, show ¬ v - 2 < k by omega, kd_kq]
    rw [show (some (Value.int 0) : Option Value) = some (.int (zn 0)) from rfl, ho, kd_fd_app]
    cases kd_fd i n (kd_bq v k 0 0 (k + 1)) with
    | some c => rfl
    | none =>
      simp only
      rw [x45_76]
      simp only [mq_dl_int, mq_dl_ref, mq_dl_null, mq_dl_none, mc_some, Option.toList_some, Option.toList_none, List.cons_append, List.nil_append, zb_1, zb_0, ↓reduceIte, if_true, if_false, not_true_eq_false, not_false_eq_true, Bool.false_eq_true, z_10, z_01, eq_self, Bool.and_self, true_or, or_true, false_or, or_false, true_and, and_true, false_and, and_false, and_self, or_self, x45_79]
      rw [show zn k + 1 = zn (k + 1) from zn_add k 1, ih (k + 1) _ _ _ (by omega) (by omega)]
theorem kd_keptC (d : Nat) (h : mq_H) (v : Nat) (i : Int32) (hv : v ≤ 100) (hv4 : 4 ≤ v) : mz (d + 2) 45 0 [some (.int (zn v)), some (.int i), none, none, none, none] [] h = match kd_fd i 0 (kd_fk v 0 1 (v - 2)) with
    | some c => some (some (some (.int (zn c))), h)
    | none => some (some (some (.int (-1))), h) := by
  rw [x45_0]
  simp only [x45_1, x45_2, x45_3, mq_dl_int, mq_dl_ref, mq_dl_null, mq_dl_none, mc_some, Option.toList_some, Option.toList_none, List.cons_append, List.nil_append, zb_1, zb_0, ↓reduceIte, if_true, if_false, not_true_eq_false, not_false_eq_true, Bool.false_eq_true, z_10, z_01, eq_self, Bool.and_self, true_or, or_true, false_or, or_false, true_and, and_true, false_and, and_false, and_self, or_self]
  rw [show (some (Value.int 0) : Option Value) = some (.int (zn 0)) from rfl, show (some (Value.int 1) : Option Value) = some (.int (zn 1)) from rfl, kd_tk d h v i hv hv4 (v - 2) 1 0 _ _ (by omega) (by omega), kd_fk_kq v 0 (by decide) hv (v - 2) 1 (by omega) (by omega)]
