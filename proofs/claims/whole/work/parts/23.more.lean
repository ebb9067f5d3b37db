/-! FURTHER FACTS OF THE TABLES: written by wip/gen/gen4.py; decided by the kernel. -/
def mw_ac0 : Nat := 1104
def mw_ac1 : Nat := 1078
def mw_ac2 : Nat := 1058
def mw_ac3 : Nat := 1191
theorem mk_ckn {mi : Nat} (h : mp_ck mi < 11) : mp_cn.getD (mp_of mi).1 "" = mk_nm.getD (mp_ck mi) "" := by
  by_cases hm : mi < 307
  · have h2 : ∀ j, j < 307 → mp_ck j < 11 → mp_cn.getD (mp_of j).1 "" = mk_nm.getD (mp_ck j) "" := by decide +kernel
    exact h2 mi hm h
  · exfalso
    have e : mp_of mi = (0, 0, 0, none, 77) := by
      unfold mp_of
      rw [List.getD_eq_getElem?_getD, List.getElem?_eq_none (by rw [mp_t_len]; omega)]
      rfl
    unfold mp_ck at h
    rw [e] at h
    exact absurd h (by decide)
def mw_sg : List (List (Nat × Nat)) := [[], [], [], [], [], [], [], [], [], [], [], [], [], [], [], [(38, 2052)], [], [], []]
def mk_oksg (oc : Nat) : Bool := (mp_sgT.getD oc []).all fun q => mg_b (mq_fd (mw_sg.getD oc []) q.1) (.fieldLink (mp_cn.getD oc "") q.1 "java/lang/String" "COMPACT_STRINGS" "Z") && decide (q.2 = 1)
theorem mk_oksg_all : ∀ oc, oc < 19 → mk_oksg oc = true := by decide +kernel
theorem mk_sg {mi idx : Nat} {v : Int32} (h : mp_sg mi idx = some v) : v = 1 ∧ Cond.fieldLink (mp_cn.getD (mp_of mi).1 "") idx "java/lang/String" "COMPACT_STRINGS" "Z" ∈ mg_tbl := by
  have h0 := mk_oksg_all _ (mk_oc_lt mi)
  unfold mk_oksg at h0
  have h1 := List.all_eq_true.mp h0 _ (mq_fd_mem h)
  simp only [Bool.and_eq_true, decide_eq_true_eq] at h1
  exact ⟨h1.2, mg_of h1.1⟩
