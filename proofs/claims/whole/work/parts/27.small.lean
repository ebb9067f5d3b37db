/-! small facts for the step theorem -/
theorem mr_awi_n {st t : List Value} {h h1 : mq_H} {kd : Nat} {z : Int32 → Int32} (hr : mq_awi st h kd z = some (h1, t)) : h1.1 = h.1 ∧ h1.2.1 = h.2.1 := by
  unfold mq_awi at hr
  split at hr
  · split at hr
    · split at hr
      · cases hr; exact ⟨rfl, rfl⟩
      · cases hr
    · cases hr
  · cases hr
theorem mq_call_no (mi idx : Nat) (kinds : List Nat) (st : List Value) (h : mq_H) (x : Nat × mq_L × List Value × mq_H) : ¬ mq_call mi idx kinds st h = some (.inl x) := by
  intro h0
  unfold mq_call at h0
  split at h0
  · split at h0
    · split at h0
      · split at h0
        · split at h0
          · split at h0 <;> cases h0
          · cases h0
        · cases h0
      · split at h0
        · cases h0
        · split at h0 <;> cases h0
    · cases h0
  · cases h0
theorem mr_ln1u {i : Instr} {y v : Value} (h : mq_un i y = some v) : mq_ln i = 1 := by
  unfold mq_un at h
  split at h <;> first | rfl | cases h
theorem mr_ln1b {i : Instr} {x y v : Value} (h : mq_bin i x y = some v) : mq_ln i = 1 := by
  unfold mq_bin at h
  split at h <;> first | rfl | cases h
theorem mk_ck11 {mi : Nat} (h : mp_inT.getD mi false = true) : ¬ mp_ck mi = 11 := by
  intro h1
  by_cases hm : mi < 307
  · have h2 : ∀ j, j < 307 → mp_inT.getD j false = true → ¬ mp_ck j = 11 := by decide +kernel
    exact h2 mi hm h h1
  · have e : mp_of mi = (0, 0, 0, none, 77) := by
      unfold mp_of
      rw [List.getD_eq_getElem?_getD, List.getElem?_eq_none (by rw [mp_t_len]; omega)]
      rfl
    unfold mp_ck at h1
    rw [e] at h1
    exact absurd h1 (by decide)
