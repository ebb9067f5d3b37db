/-! GATHERED: the class makes a table of classes -/
theorem zln_div (a b : Nat) (ha : a < 9223372036854775808) (hb : b < 9223372036854775808) : zln a / zln b = zln (a / b) := (Int64.ofNat_div ha hb).symm
theorem zln_rem (a b : Nat) : zln a - zln (a / b * b) = zln (a % b) := by
  rw [zln_sub _ _ (Nat.div_mul_le_self a b), Nat.mod_eq_sub_div_mul]
def gaF (T : ZT) (w : Nat → Nat) (v x y z : Nat) : Nat := tgT T w x y (lsT T.1 w z) / v
def gaR (T : ZT) (w : Nat → Nat) (x : Nat) : Nat := w (T.2.2 (lsT T.1 w x))
def gok (T : ZT) (w : Nat → Nat) (v x y z : Nat) : Bool := decide (tgT T w x y (lsT T.1 w z) % v = 0 ∧ tgT T w x y (lsT T.1 w z) / v ≤ 999999)
def pS (m : Nat) (F : Nat → Nat → Nat → Nat) (x y z : Nat) : Nat → Nat → Nat → Nat := fun i j k => if i < m ∧ j < m ∧ k < m ∧ (i < x ∨ (i = x ∧ (j < y ∨ (j = y ∧ k < z)))) then F i j k else 0
def rP (m : Nat) (ρ : Nat → Nat) (x : Nat) : Nat → Nat := fun i => if i < m then (if i < x then ρ i else i) else 0
theorem pS_s {q m : Nat} {F : Nat → Nat → Nat → Nat} {ρ : Nat → Nat} {g r : Nat → Int32} {x y z : Nat} (h : zt_rep (q, pS m F x y z, ρ) g r) (hm : m ≤ 6) (hx : x < m) (hy : y < m) (hz : z < m) : zt_rep (q, pS m F x y (z + 1), ρ) (zu g ((x * 6 + y) * 6 + z) (zn (F x y z))) r := by
  refine ⟨fun i j k hi hj hk => ?_, h.2⟩
  have h1 := h.1 i j k hi hj hk
  show _ = zn (pS m F x y (z + 1) i j k)
  by_cases e : i = x ∧ j = y ∧ k = z
  · obtain ⟨rfl, rfl, rfl⟩ := e
    rw [zu_eq]
    unfold pS
    rw [if_pos (by omega)]
  · rw [zu_ne _ _ _ _ (by omega), h1]
    show zn (pS m F x y z i j k) = _
    unfold pS
    by_cases c : i < m ∧ j < m ∧ k < m ∧ (i < x ∨ (i = x ∧ (j < y ∨ (j = y ∧ k < z))))
    · rw [if_pos c, if_pos (by omega)]
    · rw [if_neg c, if_neg (by omega)]
theorem pS_y (m : Nat) (F : Nat → Nat → Nat → Nat) (x y : Nat) : pS m F x y m = pS m F x (y + 1) 0 := by
  funext i j k
  unfold pS
  by_cases c : i < m ∧ j < m ∧ k < m ∧ (i < x ∨ (i = x ∧ (j < y ∨ (j = y ∧ k < m))))
  · rw [if_pos c, if_pos (by omega)]
  · rw [if_neg c, if_neg (by omega)]
theorem pS_x (m : Nat) (F : Nat → Nat → Nat → Nat) (x : Nat) : pS m F x m 0 = pS m F (x + 1) 0 0 := by
  funext i j k
  unfold pS
  by_cases c : i < m ∧ j < m ∧ k < m ∧ (i < x ∨ (i = x ∧ (j < m ∨ (j = m ∧ k < 0))))
  · rw [if_pos c, if_pos (by omega)]
  · rw [if_neg c, if_neg (by omega)]
theorem rP_s {q m : Nat} {S : Nat → Nat → Nat → Nat} {ρ : Nat → Nat} {g r : Nat → Int32} {x : Nat} (h : zt_rep (q, S, rP m ρ x) g r) (hm : m ≤ 6) (hx : x < m) : zt_rep (q, S, rP m ρ (x + 1)) g (zu r x (zn (ρ x))) := by
  refine ⟨h.1, fun i hi => ?_⟩
  have h1 := h.2 i hi
  show _ = zn (rP m ρ (x + 1) i)
  by_cases e : i = x
  · subst e
    rw [zu_eq]
    unfold rP
    rw [if_pos hx, if_pos (by omega)]
  · rw [zu_ne _ _ _ _ e, h1]
    show zn (rP m ρ x i) = _
    unfold rP
    by_cases c : i < m
    · rw [if_pos c, if_pos c]
      by_cases c2 : i < x
      · rw [if_pos c2, if_pos (by omega)]
      · rw [if_neg c2, if_neg (by omega)]
    · rw [if_neg c, if_neg c]
theorem zt_new (q m : Nat) (F : Nat → Nat → Nat → Nat) (ρ : Nat → Nat) (hm : m ≤ 6) : zt_rep (q, pS m F 0 0 0, rP m ρ 0) (fun _ => 0) (zfl zn (fun _ => 0) 0 m) := by
  refine ⟨fun i j k _ _ _ => ?_, fun i hi => ?_⟩
  · show 0 = zn (pS m F 0 0 0 i j k)
    unfold pS
    rw [if_neg (by omega)]
    rfl
  · show _ = zn (rP m ρ 0 i)
    unfold rP
    by_cases c : i < m
    · rw [zfl_in _ _ _ _ _ (by omega) (by omega), if_pos c, if_neg (by omega)]
    · rw [zfl_out _ _ _ _ _ (by omega), if_neg c]; rfl
theorem TB_tcO {c : Nat → mq_E} {a t m : Nat} {T : ZT} {g r : Nat → Int32} (hT : TB c a T) (h : a + 2 < t) : TB (tc c t m g r) a T := by
  obtain ⟨h1, ⟨x1, x2, x3, x4, x5, x6, h2⟩, g1, r1, h3, h4, h5⟩ := hT
  exact ⟨h1, ⟨x1, x2, x3, x4, x5, x6, by rw [tc_ne a (by omega)]; exact h2⟩, g1, r1, by rw [tc_ne (a + 1) (by omega)]; exact h3, by rw [tc_ne (a + 2) (by omega)]; exact h4, h5⟩
theorem tc_e0 {c : Nat → mq_E} {a m : Nat} {g r : Nat → Int32} : eo0 (tc c a m g r a) 6 = true := by
  rw [tc_a]; rfl
theorem tgT_pos64 {T : ZT} (hW : WT T) (w : Nat → Nat) (x y k : Nat) : tgT T w x y k < 9223372036854775808 := Nat.lt_of_le_of_lt (tgT_le hW w x y k) (by decide)
section GA
variable {n s : Nat} {c : Nat → mq_E} {I : Nat → Int32} {J : Nat → Int64} {A : Nat → Nat → Int32} {B : Nat → Nat → Int64} {R : Nat → Value} {Q : Nat → Nat → Option Nat}
variable {a e l t m v : Nat} {T : ZT} {wf L : Nat → Int32} {w : Nat → Nat} {r : Nat → Int32} {ρ : Nat → Nat}
theorem M_gz (hT : TB c a T) (hW : WT T) (he : 46 ≤ e) (hA : c e = .inl (0, 6, .inl wf)) (hw : ∀ i, i < T.1 → wf i = zn (w i)) (hw2 : ∀ i, i < T.1 → w i < 6) (hl : 46 ≤ l) (hL : c l = .inl (0, 6, .inl L)) (hm : m ≤ 6) (hLv : ∀ z, z < m → L z = zn (lsT T.1 w z) ∧ lsT T.1 w z < T.1) (hat : a + 2 < t) (het : e < t) (hlt : l < t) (hv : 1 ≤ v) (hv2 : v < 9223372036854775808) (d x y : Nat) (hx : x < m) (hy : y < m) : ∀ (q z : Nat) (g : Nat → Int32) (o10 o11 : Option Value), z + q = m → zt_rep (0, pS m (gaF T w v) x y z, ρ) g r → ∃ g' o10' o11', ((zall (fun z => gok T w v x y z) z q = true ∧ zt_rep (0, pS m (gaF T w v) x y m, ρ) g' r ∧ mz (d + 2) 55 100 [some (.ref a), some (.ref e), some (.int (zn m)), some (.long (zln v)), none, some (.ref l), some (.ref t), some (.int (zn x)), some (.int (zn y)), some (.int (zn z)), o10, o11] [] (hp n s (tc c t m g r) I J A B R Q) = mz (d + 2) 55 166 [some (.ref a), some (.ref e), some (.int (zn m)), some (.long (zln v)), none, some (.ref l), some (.ref t), some (.int (zn x)), some (.int (zn y)), some (.int (zn m)), o10', o11'] [] (hp n s (tc c t m g' r) I J A B R Q)) ∨ (zall (fun z => gok T w v x y z) z q = false ∧ mz (d + 2) 55 100 [some (.ref a), some (.ref e), some (.int (zn m)), some (.long (zln v)), none, some (.ref l), some (.ref t), some (.int (zn x)), some (.int (zn y)), some (.int (zn z)), o10, o11] [] (hp n s (tc c t m g r) I J A B R Q) = some (some (some .null), hp n s (tc c t m g' r) I J A B R Q))) := by
  have h1 := hW.2.1
  have hw3 : ∀ j, j < T.1 → w j < 2147483648 := fun j hj => by have := hw2 j hj; omega
  intro q
  induction q with
  | zero =>
    intro z g o10 o11 hz hg
    have e : z = m := by omega
    subst e
    refine ⟨g, o10, o11, Or.inl ⟨rfl, hg, ?_⟩⟩
    simp (disch := first | omega | exact zb_1 | exact zb_0 | exact zb_n1 | exact zb_n0) only [x55_100, x55_102, x55_103, mq_dl_int, mq_dl_ref, mq_dl_null, mq_dl_none, mc_some, Option.toList_some, Option.toList_none, List.cons_append, List.nil_append, zb_1, zb_0, ↓reduceIte, if_true, if_false, not_true_eq_false, not_false_eq_true, Bool.false_eq_true, z_10, z_01, eq_self, Bool.and_self, true_or, or_true, false_or, or_false, true_and, and_true, false_and, and_false, and_self, or_self, Nat.reduceLT, Nat.reduceEqDiff, Nat.reduceLeDiff, Nat.reduceAdd, Nat.reduceMul, Nat.reduceSub, zn_lit, zn_add, zn_mul, zn_sub, zn_addneg, zn_lt, zn_le, zn_eq, zn_clamp, zn_in, zn_long, Nat.le_refl]
  | succ q ih =>
    intro z g o10 o11 hz hg
    have hz2 := hLv z (by omega)
    have e1 := M_tg (n := n) (s := s) (I := I) (J := J) (A := A) (B := B) (R := R) (Q := Q) (TB_tcO (t := t) (m := m) (g := g) (r := r) hT hat) hW he (show tc c t m g r e = _ by rw [tc_ne e (by omega)]; exact hA) hw hw3 d x y _ (by omega) (by omega) hz2.2
    have h2 := tgT_pos64 hW w x y (lsT T.1 w z)
    have h3 : tgT T w x y (lsT T.1 w z) / v < 9223372036854775808 := Nat.lt_of_le_of_lt (Nat.div_le_self _ _) h2
    have h4 : tgT T w x y (lsT T.1 w z) % v < 9223372036854775808 := Nat.lt_of_le_of_lt (Nat.mod_le _ _) h2
    rw [show zall (fun z => gok T w v x y z) z (q + 1) = (gok T w v x y z && zall (fun z => gok T w v x y z) (z + 1) q) from rfl]
    by_cases q1 : tgT T w x y (lsT T.1 w z) % v = 0
    · by_cases q2 : tgT T w x y (lsT T.1 w z) / v ≤ 999999
      · have hok : gok T w v x y z = true := by unfold gok; simp [q1, q2]
        obtain ⟨g', p10, p11, ih'⟩ := ih (z + 1) (zu g ((x * 6 + y) * 6 + z) (zn (gaF T w v x y z))) (some (.long (zln (tgT T w x y (lsT T.1 w z))))) none (by omega) (pS_s hg hm hx hy (by omega))
        refine ⟨g', p10, p11, ?_⟩
        rw [hok, Bool.true_and]
        have es : mz (d + 2) 55 100 [some (.ref a), some (.ref e), some (.int (zn m)), some (.long (zln v)), none, some (.ref l), some (.ref t), some (.int (zn x)), some (.int (zn y)), some (.int (zn z)), o10, o11] [] (hp n s (tc c t m g r) I J A B R Q) = mz (d + 2) 55 100 [some (.ref a), some (.ref e), some (.int (zn m)), some (.long (zln v)), none, some (.ref l), some (.ref t), some (.int (zn x)), some (.int (zn y)), some (.int (zn (z + 1))), some (.long (zln (tgT T w x y (lsT T.1 w z)))), none] [] (hp n s (tc c t m (zu g ((x * 6 + y) * 6 + z) (zn (gaF T w v x y z))) r) I J A B R Q) := by
          have h5 : tgT T w x y (lsT T.1 w z) / v < 2147483648 := by omega
          unfold gaF
          rw [x55_100]
          simp (disch := first | omega | exact zb_1 | exact zb_0 | exact zb_n1 | exact zb_n0) only [x55_102, x55_103, x55_106, x55_107, x55_108, x55_110, x55_112, x55_114, x55_116, x55_117, x55_120, x55_122, x55_124, x55_125, x55_126, x55_127, x55_128, x55_131, x55_133, x55_134, x55_135, x55_138, x55_139, x55_144, x55_146, x55_148, x55_150, x55_152, x55_154, x55_155, x55_156, x55_157, x55_160, x55_163, mq_dl_int, mq_dl_ref, mq_dl_null, mq_dl_none, mc_some, Option.toList_some, Option.toList_none, List.cons_append, List.nil_append, zb_1, zb_0, ↓reduceIte, if_true, if_false, not_true_eq_false, not_false_eq_true, Bool.false_eq_true, z_10, z_01, eq_self, Bool.and_self, true_or, or_true, false_or, or_false, true_and, and_true, false_and, and_false, and_self, or_self, Nat.reduceLT, Nat.reduceEqDiff, Nat.reduceLeDiff, Nat.reduceAdd, Nat.reduceMul, Nat.reduceSub, zn_lit, zn_add, zn_mul, zn_sub, zn_addneg, zn_lt, zn_le, zn_eq, zn_clamp, zn_in, zn_long, zln_lit, zln_add, zln_mul, zln_lt, zln_le, zln_eq, zln_int, lc_eq, lc_gt, lc_lt, lc_le, lc_ge, hp_1, hp_21, hpoB, hpo0B, hpfsB, hpfB, haiB, hagB, hanB, halB, hlgB, hp_mkB, hp_wcB, eo_i, eo0_i, efs_i, eai_i, eag_i, ean_i, eal_i, elg_i, ean_l, up_eq, up_ne, up_up, up_m1, up_m2, up_m3, up_m4, up_m5, up_m6, up_m7, up_m8, up_m9, List.set_cons_zero, List.set_cons_succ, List.getD_cons_zero, List.getD_cons_succ, List.length_cons, List.length_nil, decide_true, Bool.true_and, Bool.and_true, Bool.true_or, upd_zu, updL_zu, zu_zu, zu_eq, tc_ne, hL, hz2.1, e1, zln_div, zln_rem, show ¬ v = 0 by omega, show ¬ m ≤ z by omega, show z < 6 by omega, q1, q2, tc_e0, B_put (show 46 ≤ t by omega) hm, hx, hy, show z < m by omega]
        rw [es]
        exact ih'
      · have hok : gok T w v x y z = false := by unfold gok; simp [q2]
        refine ⟨g, o10, o11, Or.inr ⟨by rw [hok, Bool.false_and], ?_⟩⟩
        rw [x55_100]
        simp (disch := first | omega | exact zb_1 | exact zb_0 | exact zb_n1 | exact zb_n0) only [x55_102, x55_103, x55_106, x55_107, x55_108, x55_110, x55_112, x55_114, x55_116, x55_117, x55_120, x55_122, x55_124, x55_125, x55_126, x55_127, x55_128, x55_131, x55_133, x55_134, x55_135, x55_138, x55_139, x55_142, x55_143, x55_143N, mq_dl_int, mq_dl_ref, mq_dl_null, mq_dl_none, mc_some, Option.toList_some, Option.toList_none, List.cons_append, List.nil_append, zb_1, zb_0, ↓reduceIte, if_true, if_false, not_true_eq_false, not_false_eq_true, Bool.false_eq_true, z_10, z_01, eq_self, Bool.and_self, true_or, or_true, false_or, or_false, true_and, and_true, false_and, and_false, and_self, or_self, Nat.reduceLT, Nat.reduceEqDiff, Nat.reduceLeDiff, Nat.reduceAdd, Nat.reduceMul, Nat.reduceSub, zn_lit, zn_add, zn_mul, zn_sub, zn_addneg, zn_lt, zn_le, zn_eq, zn_clamp, zn_in, zn_long, zln_lit, zln_add, zln_mul, zln_lt, zln_le, zln_eq, zln_int, lc_eq, lc_gt, lc_lt, lc_le, lc_ge, hp_1, hp_21, hpoB, hpo0B, hpfsB, hpfB, haiB, hagB, hanB, halB, hlgB, hp_mkB, hp_wcB, eo_i, eo0_i, efs_i, eai_i, eag_i, ean_i, eal_i, elg_i, ean_l, up_eq, up_ne, up_up, up_m1, up_m2, up_m3, up_m4, up_m5, up_m6, up_m7, up_m8, up_m9, List.set_cons_zero, List.set_cons_succ, List.getD_cons_zero, List.getD_cons_succ, List.length_cons, List.length_nil, decide_true, Bool.true_and, Bool.and_true, Bool.true_or, upd_zu, updL_zu, zu_zu, zu_eq, tc_ne, hL, hz2.1, e1, zln_div, zln_rem, show ¬ v = 0 by omega, show ¬ m ≤ z by omega, show z < 6 by omega, q1, q2]
    · have hok : gok T w v x y z = false := by unfold gok; simp [q1]
      refine ⟨g, o10, o11, Or.inr ⟨by rw [hok, Bool.false_and], ?_⟩⟩
      rw [x55_100]
      simp (disch := first | omega | exact zb_1 | exact zb_0 | exact zb_n1 | exact zb_n0) only [x55_102, x55_103, x55_106, x55_107, x55_108, x55_110, x55_112, x55_114, x55_116, x55_117, x55_120, x55_122, x55_124, x55_125, x55_126, x55_127, x55_128, x55_142, x55_143, x55_143N, mq_dl_int, mq_dl_ref, mq_dl_null, mq_dl_none, mc_some, Option.toList_some, Option.toList_none, List.cons_append, List.nil_append, zb_1, zb_0, ↓reduceIte, if_true, if_false, not_true_eq_false, not_false_eq_true, Bool.false_eq_true, z_10, z_01, eq_self, Bool.and_self, true_or, or_true, false_or, or_false, true_and, and_true, false_and, and_false, and_self, or_self, Nat.reduceLT, Nat.reduceEqDiff, Nat.reduceLeDiff, Nat.reduceAdd, Nat.reduceMul, Nat.reduceSub, zn_lit, zn_add, zn_mul, zn_sub, zn_addneg, zn_lt, zn_le, zn_eq, zn_clamp, zn_in, zn_long, zln_lit, zln_add, zln_mul, zln_lt, zln_le, zln_eq, zln_int, lc_eq, lc_gt, lc_lt, lc_le, lc_ge, hp_1, hp_21, hpoB, hpo0B, hpfsB, hpfB, haiB, hagB, hanB, halB, hlgB, hp_mkB, hp_wcB, eo_i, eo0_i, efs_i, eai_i, eag_i, ean_i, eal_i, elg_i, ean_l, up_eq, up_ne, up_up, up_m1, up_m2, up_m3, up_m4, up_m5, up_m6, up_m7, up_m8, up_m9, List.set_cons_zero, List.set_cons_succ, List.getD_cons_zero, List.getD_cons_succ, List.length_cons, List.length_nil, decide_true, Bool.true_and, Bool.and_true, Bool.true_or, upd_zu, updL_zu, zu_zu, zu_eq, tc_ne, hL, hz2.1, e1, zln_div, zln_rem, show ¬ v = 0 by omega, show ¬ m ≤ z by omega, show z < 6 by omega, q1]
def gokY (T : ZT) (w : Nat → Nat) (v m x y : Nat) : Bool := zall (fun z => gok T w v x y z) 0 m
def gokX (T : ZT) (w : Nat → Nat) (v m x : Nat) : Bool := zall (fun y => gokY T w v m x y) 0 m
def gokT (T : ZT) (w : Nat → Nat) (v m : Nat) : Bool := zall (fun x => gokX T w v m x) 0 m
theorem M_gy (hT : TB c a T) (hW : WT T) (he : 46 ≤ e) (hA : c e = .inl (0, 6, .inl wf)) (hw : ∀ i, i < T.1 → wf i = zn (w i)) (hw2 : ∀ i, i < T.1 → w i < 6) (hl : 46 ≤ l) (hL : c l = .inl (0, 6, .inl L)) (hm : m ≤ 6) (hLv : ∀ z, z < m → L z = zn (lsT T.1 w z) ∧ lsT T.1 w z < T.1) (hat : a + 2 < t) (het : e < t) (hlt : l < t) (hv : 1 ≤ v) (hv2 : v < 9223372036854775808) (d x : Nat) (hx : x < m) : ∀ (q y : Nat) (g : Nat → Int32) (o9 o10 o11 : Option Value), y + q = m → zt_rep (0, pS m (gaF T w v) x y 0, ρ) g r → ∃ g' o9' o10' o11', ((zall (fun y => gokY T w v m x y) y q = true ∧ zt_rep (0, pS m (gaF T w v) x m 0, ρ) g' r ∧ mz (d + 2) 55 91 [some (.ref a), some (.ref e), some (.int (zn m)), some (.long (zln v)), none, some (.ref l), some (.ref t), some (.int (zn x)), some (.int (zn y)), o9, o10, o11] [] (hp n s (tc c t m g r) I J A B R Q) = mz (d + 2) 55 172 [some (.ref a), some (.ref e), some (.int (zn m)), some (.long (zln v)), none, some (.ref l), some (.ref t), some (.int (zn x)), some (.int (zn m)), o9', o10', o11'] [] (hp n s (tc c t m g' r) I J A B R Q)) ∨ (zall (fun y => gokY T w v m x y) y q = false ∧ mz (d + 2) 55 91 [some (.ref a), some (.ref e), some (.int (zn m)), some (.long (zln v)), none, some (.ref l), some (.ref t), some (.int (zn x)), some (.int (zn y)), o9, o10, o11] [] (hp n s (tc c t m g r) I J A B R Q) = some (some (some .null), hp n s (tc c t m g' r) I J A B R Q))) := by
  have h1 := hW.2.1
  intro q
  induction q with
  | zero =>
    intro y g o9 o10 o11 hy hg
    have e : y = m := by omega
    subst e
    refine ⟨g, o9, o10, o11, Or.inl ⟨rfl, hg, ?_⟩⟩
    simp (disch := first | omega | exact zb_1 | exact zb_0 | exact zb_n1 | exact zb_n0) only [x55_91, x55_93, x55_94, mq_dl_int, mq_dl_ref, mq_dl_null, mq_dl_none, mc_some, Option.toList_some, Option.toList_none, List.cons_append, List.nil_append, zb_1, zb_0, ↓reduceIte, if_true, if_false, not_true_eq_false, not_false_eq_true, Bool.false_eq_true, z_10, z_01, eq_self, Bool.and_self, true_or, or_true, false_or, or_false, true_and, and_true, false_and, and_false, and_self, or_self, Nat.reduceLT, Nat.reduceEqDiff, Nat.reduceLeDiff, Nat.reduceAdd, Nat.reduceMul, Nat.reduceSub, zn_lit, zn_add, zn_mul, zn_sub, zn_addneg, zn_lt, zn_le, zn_eq, zn_clamp, zn_in, zn_long, Nat.le_refl]
  | succ q ih =>
    intro y g o9 o10 o11 hy hg
    obtain ⟨g1, p10, p11, hz⟩ := M_gz (n := n) (s := s) (c := c) (I := I) (J := J) (A := A) (B := B) (R := R) (Q := Q) (r := r) (ρ := ρ) hT hW he hA hw hw2 hl hL hm hLv hat het hlt hv hv2 d x y hx (by omega) m 0 g o10 o11 (by omega) hg
    have es : mz (d + 2) 55 91 [some (.ref a), some (.ref e), some (.int (zn m)), some (.long (zln v)), none, some (.ref l), some (.ref t), some (.int (zn x)), some (.int (zn y)), o9, o10, o11] [] (hp n s (tc c t m g r) I J A B R Q) = mz (d + 2) 55 100 [some (.ref a), some (.ref e), some (.int (zn m)), some (.long (zln v)), none, some (.ref l), some (.ref t), some (.int (zn x)), some (.int (zn y)), some (.int (zn 0)), o10, o11] [] (hp n s (tc c t m g r) I J A B R Q) := by
      simp (disch := first | omega | exact zb_1 | exact zb_0 | exact zb_n1 | exact zb_n0) only [x55_91, x55_93, x55_94, x55_97, x55_98, mq_dl_int, mq_dl_ref, mq_dl_null, mq_dl_none, mc_some, Option.toList_some, Option.toList_none, List.cons_append, List.nil_append, zb_1, zb_0, ↓reduceIte, if_true, if_false, not_true_eq_false, not_false_eq_true, Bool.false_eq_true, z_10, z_01, eq_self, Bool.and_self, true_or, or_true, false_or, or_false, true_and, and_true, false_and, and_false, and_self, or_self, Nat.reduceLT, Nat.reduceEqDiff, Nat.reduceLeDiff, Nat.reduceAdd, Nat.reduceMul, Nat.reduceSub, zn_lit, zn_add, zn_mul, zn_sub, zn_addneg, zn_lt, zn_le, zn_eq, zn_clamp, zn_in, zn_long, show ¬ m ≤ y by omega]
    rw [show zall (fun y => gokY T w v m x y) y (q + 1) = (gokY T w v m x y && zall (fun y => gokY T w v m x y) (y + 1) q) from rfl, es]
    rcases hz with ⟨z1, z2, z3⟩ | ⟨z1, z3⟩
    · have z1' : gokY T w v m x y = true := z1
      rw [pS_y] at z2
      obtain ⟨g', o9', o10', o11', hi⟩ := ih (y + 1) g1 (some (.int (zn m))) p10 p11 (by omega) z2
      refine ⟨g', o9', o10', o11', ?_⟩
      rw [z1', Bool.true_and, z3]
      simp (disch := first | omega | exact zb_1 | exact zb_0 | exact zb_n1 | exact zb_n0) only [x55_166, x55_169, mq_dl_int, mq_dl_ref, mq_dl_null, mq_dl_none, mc_some, Option.toList_some, Option.toList_none, List.cons_append, List.nil_append, zb_1, zb_0, ↓reduceIte, if_true, if_false, not_true_eq_false, not_false_eq_true, Bool.false_eq_true, z_10, z_01, eq_self, Bool.and_self, true_or, or_true, false_or, or_false, true_and, and_true, false_and, and_false, and_self, or_self, Nat.reduceLT, Nat.reduceEqDiff, Nat.reduceLeDiff, Nat.reduceAdd, Nat.reduceMul, Nat.reduceSub, zn_lit, zn_add, zn_mul, zn_sub, zn_addneg, zn_lt, zn_le, zn_eq, zn_clamp, zn_in, zn_long]
      exact hi
    · have z1' : gokY T w v m x y = false := z1
      exact ⟨g1, none, none, none, Or.inr ⟨by rw [z1', Bool.false_and], z3⟩⟩
theorem M_gx (hT : TB c a T) (hW : WT T) (he : 46 ≤ e) (hA : c e = .inl (0, 6, .inl wf)) (hw : ∀ i, i < T.1 → wf i = zn (w i)) (hw2 : ∀ i, i < T.1 → w i < 6) (hl : 46 ≤ l) (hL : c l = .inl (0, 6, .inl L)) (hm : m ≤ 6) (hLv : ∀ z, z < m → L z = zn (lsT T.1 w z) ∧ lsT T.1 w z < T.1) (hat : a + 2 < t) (het : e < t) (hlt : l < t) (hv : 1 ≤ v) (hv2 : v < 9223372036854775808) (hwm : ∀ i, i < T.1 → w i < m) (d : Nat) : ∀ (q x : Nat) (g r : Nat → Int32) (o8 o9 o10 o11 : Option Value), x + q = m → zt_rep (0, pS m (gaF T w v) x 0 0, rP m (gaR T w) x) g r → ∃ g' r', ((zall (fun x => gokX T w v m x) x q = true ∧ zt_rep (0, pS m (gaF T w v) m 0 0, rP m (gaR T w) m) g' r' ∧ mz (d + 2) 55 64 [some (.ref a), some (.ref e), some (.int (zn m)), some (.long (zln v)), none, some (.ref l), some (.ref t), some (.int (zn x)), o8, o9, o10, o11] [] (hp n s (tc c t m g r) I J A B R Q) = some (some (some (.ref t)), hp n s (tc c t m g' r') I J A B R Q)) ∨ (zall (fun x => gokX T w v m x) x q = false ∧ mz (d + 2) 55 64 [some (.ref a), some (.ref e), some (.int (zn m)), some (.long (zln v)), none, some (.ref l), some (.ref t), some (.int (zn x)), o8, o9, o10, o11] [] (hp n s (tc c t m g r) I J A B R Q) = some (some (some .null), hp n s (tc c t m g' r') I J A B R Q))) := by
  have h1 := hW.2.1
  intro q
  induction q with
  | zero =>
    intro x g r o8 o9 o10 o11 hx hg
    have e : x = m := by omega
    subst e
    refine ⟨g, r, Or.inl ⟨rfl, hg, ?_⟩⟩
    simp (disch := first | omega | exact zb_1 | exact zb_0 | exact zb_n1 | exact zb_n0) only [x55_64, x55_66, x55_67, x55_178, x55_180, mq_dl_int, mq_dl_ref, mq_dl_null, mq_dl_none, mc_some, Option.toList_some, Option.toList_none, List.cons_append, List.nil_append, zb_1, zb_0, ↓reduceIte, if_true, if_false, not_true_eq_false, not_false_eq_true, Bool.false_eq_true, z_10, z_01, eq_self, Bool.and_self, true_or, or_true, false_or, or_false, true_and, and_true, false_and, and_false, and_self, or_self, Nat.reduceLT, Nat.reduceEqDiff, Nat.reduceLeDiff, Nat.reduceAdd, Nat.reduceMul, Nat.reduceSub, zn_lit, zn_add, zn_mul, zn_sub, zn_addneg, zn_lt, zn_le, zn_eq, zn_clamp, zn_in, zn_long, Nat.le_refl]
  | succ q ih =>
    intro x g r o8 o9 o10 o11 hx hg
    have hz2 := hLv x (by omega)
    have hrv := hW.2.2.2.1 _ hz2.2
    have hwr := hwm _ hrv
    obtain ⟨g1, p9, p10, p11, hz⟩ := M_gy (n := n) (s := s) (c := c) (I := I) (J := J) (A := A) (B := B) (R := R) (Q := Q) (r := zu r x (zn (gaR T w x))) (ρ := rP m (gaR T w) (x + 1)) hT hW he hA hw hw2 hl hL hm hLv hat het hlt hv hv2 d x (by omega) m 0 g o9 o10 o11 (by omega) (rP_s hg hm (by omega))
    have hT' := TB_tcO (t := t) (m := m) (g := g) (r := r) hT hat
    have es : mz (d + 2) 55 64 [some (.ref a), some (.ref e), some (.int (zn m)), some (.long (zln v)), none, some (.ref l), some (.ref t), some (.int (zn x)), o8, o9, o10, o11] [] (hp n s (tc c t m g r) I J A B R Q) = mz (d + 2) 55 91 [some (.ref a), some (.ref e), some (.int (zn m)), some (.long (zln v)), none, some (.ref l), some (.ref t), some (.int (zn x)), some (.int (zn 0)), o9, o10, o11] [] (hp n s (tc c t m g (zu r x (zn (gaR T w x)))) I J A B R Q) := by
      unfold gaR
      simp (disch := first | omega | exact zb_1 | exact zb_0 | exact zb_n1 | exact zb_n0) only [x55_64, x55_66, x55_67, x55_70, x55_72, x55_74, x55_75, x55_76, x55_78, x55_80, x55_81, x55_84, x55_85, x55_88, x55_89, mq_dl_int, mq_dl_ref, mq_dl_null, mq_dl_none, mc_some, Option.toList_some, Option.toList_none, List.cons_append, List.nil_append, zb_1, zb_0, ↓reduceIte, if_true, if_false, not_true_eq_false, not_false_eq_true, Bool.false_eq_true, z_10, z_01, eq_self, Bool.and_self, true_or, or_true, false_or, or_false, true_and, and_true, false_and, and_false, and_self, or_self, Nat.reduceLT, Nat.reduceEqDiff, Nat.reduceLeDiff, Nat.reduceAdd, Nat.reduceMul, Nat.reduceSub, zn_lit, zn_add, zn_mul, zn_sub, zn_addneg, zn_lt, zn_le, zn_eq, zn_clamp, zn_in, zn_long, tb_0 hT', T_rev hT' hW, hp_1, hp_21, hpoB, hpo0B, hpfsB, hpfB, haiB, hagB, hanB, halB, hlgB, hp_mkB, hp_wcB, eo_i, eo0_i, efs_i, eai_i, eag_i, ean_i, eal_i, elg_i, ean_l, up_eq, up_ne, up_up, up_m1, up_m2, up_m3, up_m4, up_m5, up_m6, up_m7, up_m8, up_m9, List.set_cons_zero, List.set_cons_succ, List.getD_cons_zero, List.getD_cons_succ, List.length_cons, List.length_nil, decide_true, Bool.true_and, Bool.and_true, Bool.true_or, upd_zu, updL_zu, zu_zu, zu_eq, tc_ne, tc_e0, hL, hA, hw, hz2.1, show ¬ m ≤ x by omega, show x < 6 by omega, show T.2.2 (lsT T.1 w x) < 6 by omega, B_rev (show 46 ≤ t by omega) hm]
    rw [show zall (fun x => gokX T w v m x) x (q + 1) = (gokX T w v m x && zall (fun x => gokX T w v m x) (x + 1) q) from rfl, es]
    rcases hz with ⟨z1, z2, z3⟩ | ⟨z1, z3⟩
    · have z1' : gokX T w v m x = true := z1
      rw [pS_x] at z2
      obtain ⟨g', r', hi⟩ := ih (x + 1) g1 _ (some (.int (zn m))) p9 p10 p11 (by omega) z2
      refine ⟨g', r', ?_⟩
      rw [z1', Bool.true_and, z3]
      simp (disch := first | omega | exact zb_1 | exact zb_0 | exact zb_n1 | exact zb_n0) only [x55_172, x55_175, mq_dl_int, mq_dl_ref, mq_dl_null, mq_dl_none, mc_some, Option.toList_some, Option.toList_none, List.cons_append, List.nil_append, zb_1, zb_0, ↓reduceIte, if_true, if_false, not_true_eq_false, not_false_eq_true, Bool.false_eq_true, z_10, z_01, eq_self, Bool.and_self, true_or, or_true, false_or, or_false, true_and, and_true, false_and, and_false, and_self, or_self, Nat.reduceLT, Nat.reduceEqDiff, Nat.reduceLeDiff, Nat.reduceAdd, Nat.reduceMul, Nat.reduceSub, zn_lit, zn_add, zn_mul, zn_sub, zn_addneg, zn_lt, zn_le, zn_eq, zn_clamp, zn_in, zn_long]
      exact hi
    · have z1' : gokX T w v m x = false := z1
      exact ⟨g1, _, Or.inr ⟨by rw [z1', Bool.false_and], z3⟩⟩
end GA
