/-! FURTHER FACTS OF THE TABLES: written by wip/gen/gen4.py; decided by the kernel. -/
def mw_ac0 : Nat := 1104
def mw_ac1 : Nat := 1078
def mw_ac2 : Nat := 1058
def mw_ac3 : Nat := 1191
theorem mk_ckn {mi : Nat} (h : mp_ck mi < 11) : mp_cn.getD (mp_of mi).1 "" = mk_nm.getD (mp_ck mi) "" := by
  by_cases hm : mi < 307
  · have h2 : ∀ j, j < 307 → mp_ck j < 11 → mp_cn.getD (mp_of j).1 "" = mk_nm.getD (mp_ck j) "" := by decide +kernel
    exact h2 mi hm h
  · exfalso
    have e : mp_of mi = (0, 0, 0, none, 77) := by
      unfold mp_of
      rw [List.getD_eq_getElem?_getD, List.getElem?_eq_none (by rw [mp_t_len]; omega)]
      rfl
    unfold mp_ck at h
    rw [e] at h
    exact absurd h (by decide)
