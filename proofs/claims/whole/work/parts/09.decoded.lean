/-! THE CODE, by method and place -/
theorem mp_cd_len : mp_cd.length = 307 := by decide +kernel
theorem md_at {mi pc n : Nat} {i : Instr} (h : mp_ins mi pc = some (i, n)) : decode (mk_b mi) pc = .ok (i, n) ∧ (n = mq_ln i ∨ ∃ a b c d, i = .tableswitch a b c d) := by
  by_cases hm : mi < 307
  · have h1 := List.all_eq_true.mp (md_all mi hm) _ (mq_fd_mem h)
    unfold md_ok at h1
    simp only [Bool.and_eq_true, decide_eq_true_eq, Bool.or_eq_true] at h1
    refine ⟨h1.1, ?_⟩
    rcases h1.2 with h2 | h2
    · exact Or.inl h2
    · right
      cases i with
      | tableswitch a b c d => exact ⟨a, b, c, d, rfl⟩
      | _ => simp at h2
  · exfalso
    unfold mp_ins at h
    rw [List.getD_eq_getElem?_getD, List.getElem?_eq_none (by rw [mp_cd_len]; omega)] at h
    simp [mq_fd] at h
