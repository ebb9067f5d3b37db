/-! FURTHER FACTS OF THE TABLES: written by wip/gen/gen4.py; decided by the kernel. -/
def mw_ac0 : Nat := 1104
def mw_ac1 : Nat := 1078
def mw_ac2 : Nat := 1058
def mw_ac3 : Nat := 1191
theorem mk_ckn {mi : Nat} (h : mp_ck mi < 11) : mp_cn.getD (mp_of mi).1 "" = mk_nm.getD (mp_ck mi) "" := by
  by_cases hm : mi < 307
  · have h2 : ∀ j, j < 307 → mp_ck j < 11 → mp_cn.getD (mp_of j).1 "" = mk_nm.getD (mp_ck j) "" := by decide +kernel
    exact h2 mi hm h
  · exfalso
    have e : mp_of mi = (0, 0, 0, none, 77) := by
      unfold mp_of
      rw [List.getD_eq_getElem?_getD, List.getElem?_eq_none (by rw [mp_t_len]; omega)]
      rfl
    unfold mp_ck at h
    rw [e] at h
    exact absurd h (by decide)
def mw_sg : List (List (Nat × Nat)) := [[], [], [], [], [], [], [], [], [], [], [], [], [], [], [], [(38, 2052)], [], [], []]
def mk_oksg (oc : Nat) : Bool := (mp_sgT.getD oc []).all fun q => mg_b (mq_fd (mw_sg.getD oc []) q.1) (.fieldLink (mp_cn.getD oc "") q.1 "java/lang/String" "COMPACT_STRINGS" "Z") && decide (q.2 = 1)
theorem mk_oksg_all : ∀ oc, oc < 19 → mk_oksg oc = true := by decide +kernel
theorem mk_sg {mi idx : Nat} {v : Int32} (h : mp_sg mi idx = some v) : v = 1 ∧ Cond.fieldLink (mp_cn.getD (mp_of mi).1 "") idx "java/lang/String" "COMPACT_STRINGS" "Z" ∈ mg_tbl := by
  have h0 := mk_oksg_all _ (mk_oc_lt mi)
  unfold mk_oksg at h0
  have h1 := List.all_eq_true.mp h0 _ (mq_fd_mem h)
  simp only [Bool.and_eq_true, decide_eq_true_eq] at h1
  exact ⟨h1.2, mg_of h1.1⟩
def mt_own : String := "ShareTable"
def mt_ik : Nat := 130
def mt_ic : Nat := 132
def mt_ini : Nat := 1021
def mt_okq (mi : Nat) (q : Nat × Instr × Nat) : Bool := match q.2.1 with
  | .new idx => (match mp_nw mi idx with
    | some (ci, _) => !(decide (ci = 50)) || (decide (mp_cn.getD (mp_of mi).1 "" = mt_own ∧ idx = mt_ik) && decide (mp_ins mi (q.1 + 3) = some (.dup, 1)) && decide (mp_ins mi (q.1 + 4) = some (.invokespecial mt_ic, 3)) && decide (mp_ins mi (q.1 + 7) = some (.athrow, 1)))
    | none => true)
  | _ => true
theorem mt_okq_all : ∀ mi, mi < 307 → (mp_cd.getD mi []).all (mt_okq mi) = true := by decide +kernel
theorem mt_at_new {mi pc idx w n : Nat} (h : mp_ins mi pc = some (.new idx, n)) (hw : mp_nw mi idx = some (50, w)) : mp_cn.getD (mp_of mi).1 "" = mt_own ∧ idx = mt_ik ∧ mp_ins mi (pc + 3) = some (.dup, 1) ∧ mp_ins mi (pc + 4) = some (.invokespecial mt_ic, 3) ∧ mp_ins mi (pc + 7) = some (.athrow, 1) := by
  by_cases hm : mi < 307
  · have h1 := List.all_eq_true.mp (mt_okq_all mi hm) _ (mq_fd_mem h)
    unfold mt_okq at h1
    simp only [hw] at h1
    simp at h1
    exact ⟨h1.1.1.1.1, h1.1.1.1.2, h1.1.1.2, h1.1.2, h1.2⟩
  · exfalso
    unfold mp_ins at h
    rw [List.getD_eq_getElem?_getD, List.getElem?_eq_none (by rw [mp_cd_len]; omega)] at h
    simp [mq_fd] at h
