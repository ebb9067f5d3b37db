/-! WHAT A CALL AND AN END OF THE MODEL ARE -/
theorem mv_call {mi idx mj : Nat} {kinds : List Nat} {st as rest : List Value} {h : mq_H} (hc : mq_call mi idx kinds st h = some (.inr (.inl (mj, as, rest)))) :
    ∃ kd, mp_lk mi idx = some (mj, kd) ∧ kd ∈ kinds ∧ st = as.reverse ++ rest ∧ as.length = mp_np mj ∧ (rest.map fun v => v.category).sum ≤ 8 ∧ (kd = 0 → ∃ a as' fs, as = .ref a :: as' ∧ h.2.2 a = .inr (mp_ck mj, fs)) ∧ (¬ kd = 0 → ¬ (kd = 1 ∨ kd = 5) → ∃ a as', as = .ref a :: as') := by
  unfold mq_call at hc
  split at hc
  next mj' kd hl =>
    split at hc
    next hk =>
      have hst : ∀ z : List Value, (st.take (mp_np mj')).reverse = z → st = z.reverse ++ st.drop (mp_np mj') ∧ z.length = mp_np mj' := by
        intro z hz
        subst hz
        rw [List.reverse_reverse, List.take_append_drop]
        refine ⟨rfl, ?_⟩
        rw [List.length_reverse, List.length_take]
        omega
      split at hc
      next hk0 =>
        split at hc
        next a as' he =>
          split at hc
          next cj fs hf =>
            split at hc
            next hcj =>
              cases hc
              obtain ⟨q1, q2⟩ := hst _ he
              exact ⟨kd, hl, hk.1, q1, q2, hk.2.2, fun _ => ⟨a, as', fs, rfl, by rw [hf, hcj]⟩, fun q => absurd hk0 q⟩
            next => cases hc
          next => cases hc
        next => cases hc
      next hk0 =>
        split at hc
        next hk1 =>
          cases hc
          obtain ⟨q1, q2⟩ := hst _ rfl
          exact ⟨kd, hl, hk.1, q1, q2, hk.2.2, fun q => absurd q hk0, fun _ q => absurd hk1 q⟩
        next hk1 =>
          split at hc
          next a as' he =>
            cases hc
            obtain ⟨q1, q2⟩ := hst _ he
            exact ⟨kd, hl, hk.1, q1, q2, hk.2.2, fun q => absurd q hk0, fun _ _ => ⟨a, as', rfl⟩⟩
          next => cases hc
    next => cases hc
  next => cases hc
theorem mv_noend {mi idx : Nat} {kinds : List Nat} {st : List Value} {h : mq_H} {z : Option (Option Value)} : ¬ mq_call mi idx kinds st h = some (.inr (.inr z)) := by
  intro h0
  unfold mq_call at h0
  split at h0
  · split at h0
    · split at h0
      · split at h0
        · split at h0
          · split at h0 <;> cases h0
          · cases h0
        · cases h0
      · split at h0
        · cases h0
        · split at h0 <;> cases h0
    · cases h0
  · cases h0
theorem mv_jump {b : Bool} {pc n : Nat} {off : Int} {ls : mq_L} {st : List Value} {h : mq_H} {z : (Nat × List Value × List Value) ⊕ Option (Option Value)} : ¬ mq_jump b pc n off ls st h = some (.inr z) := by
  intro h0
  unfold mq_jump mq_go at h0
  split at h0 <;> cases h0
theorem mv_go {pc : Nat} {ls : mq_L} {st : List Value} {h : mq_H} {z : (Nat × List Value × List Value) ⊕ Option (Option Value)} : ¬ mq_go pc ls st h = some (.inr z) := by
  intro h0
  unfold mq_go at h0
  cases h0
set_option maxHeartbeats 4000000 in
/-- an instruction that is neither a call nor an end -/
theorem mv_plain {mi pc n : Nat} {i : Instr} {ls : mq_L} {st : List Value} {h : mq_H} {z : (Nat × List Value × List Value) ⊕ Option (Option Value)} (h0 : mq_do mi pc i n ls st h = some (.inr z)) :
    (∃ idx, i = .invokevirtual idx ∧ mq_call mi idx [0] st h = some (.inr z)) ∨ (∃ idx, i = .invokestatic idx ∧ mq_call mi idx [1, 5] st h = some (.inr z)) ∨ (∃ idx, i = .invokespecial idx ∧ mq_call mi idx [2, 3, 6] st h = some (.inr z)) ∨
    (i = .ireturn ∧ ∃ x ty, st = [.int x] ∧ z = .inr (some (some (.int x))) ∧ mp_rt mi = some ty ∧ narrow ty (.int x) = .int x) ∨
    (i = .lreturn ∧ ∃ x, st = [.long x] ∧ z = .inr (some (some (.long x))) ∧ mp_rt mi = some .long) ∨
    (i = .areturn ∧ mp_ra mi = true ∧ ((∃ x, st = [.ref x] ∧ z = .inr (some (some (.ref x)))) ∨ (st = [.null] ∧ z = .inr (some (some .null))))) ∨
    (i = .return_ ∧ st = [] ∧ z = .inr (some none) ∧ mp_rt mi = none) ∨
    (∃ idx w, i = .new idx ∧ mp_nw mi idx = some (50, w) ∧ st = [] ∧ z = .inr none) := by
  unfold mq_do at h0
  split at h0
  case h_48 idx => exact Or.inl ⟨idx, rfl, h0⟩
  case h_49 idx => exact Or.inr (Or.inl ⟨idx, rfl, h0⟩)
  case h_50 idx => exact Or.inr (Or.inr (Or.inl ⟨idx, rfl, h0⟩))
  case h_51 =>
    split at h0
    next x =>
      split at h0
      next ty hty =>
        split at h0
        next hn => cases h0; exact Or.inr (Or.inr (Or.inr (Or.inl ⟨rfl, x, ty, rfl, rfl, hty, hn⟩)))
        next => cases h0
      next => cases h0
    next => cases h0
  case h_52 =>
    split at h0
    next x =>
      split at h0
      next hty => cases h0; exact Or.inr (Or.inr (Or.inr (Or.inr (Or.inl ⟨rfl, x, rfl, rfl, hty⟩))))
      next => cases h0
    next => cases h0
  case h_53 =>
    split at h0
    next x =>
      split at h0
      next hty => cases h0; exact Or.inr (Or.inr (Or.inr (Or.inr (Or.inr (Or.inl ⟨rfl, hty, Or.inl ⟨x, rfl, rfl⟩⟩)))))
      next => cases h0
    next =>
      split at h0
      next hty => cases h0; exact Or.inr (Or.inr (Or.inr (Or.inr (Or.inr (Or.inl ⟨rfl, hty, Or.inr ⟨rfl, rfl⟩⟩)))))
      next => cases h0
    next => cases h0
  case h_54 =>
    split at h0
    next =>
      split at h0
      next hty => cases h0; exact Or.inr (Or.inr (Or.inr (Or.inr (Or.inr (Or.inr (Or.inl ⟨rfl, rfl, rfl, hty⟩))))))
      next => cases h0
    next => cases h0
  case h_45 idx =>
    split at h0
    next ci w hl =>
      split at h0
      next hc =>
        split at h0
        next hs => cases h0; subst hc; exact Or.inr (Or.inr (Or.inr (Or.inr (Or.inr (Or.inr (Or.inr ⟨idx, w, rfl, hl, hs, rfl⟩))))))
        next => cases h0
      next => exact absurd h0 mv_go
    next => cases h0
  all_goals first
    | exact absurd h0 mv_go
    | exact absurd h0 mv_jump
    | (split at h0 <;> first | exact absurd h0 mv_go | exact absurd h0 mv_jump | (cases h0; done) | (split at h0 <;> first | exact absurd h0 mv_go | exact absurd h0 mv_jump | (cases h0; done) | (split at h0 <;> first | exact absurd h0 mv_go | exact absurd h0 mv_jump | (cases h0; done) | (split at h0 <;> first | exact absurd h0 mv_go | exact absurd h0 mv_jump | (cases h0; done) | (split at h0 <;> first | exact absurd h0 mv_go | exact absurd h0 mv_jump | (cases h0; done))))))
def mx_pre : String := "jdk/internal/util/Preconditions"
def mx_bf : String := "Ljava/util/function/BiFunction;"
def mx_PC : MethodName := ⟨mx_pre, "checkIndex", "(IILjava/util/function/BiFunction;)I"⟩
theorem mx_in {w : Cond} (h1 : w ∈ lw_tbl) (h2 : goodWord w = true) : w ∈ mg_tbl := List.mem_filter.mpr ⟨h1, h2⟩
theorem mx_w1 : Cond.code mx_PC Jvm.Lib.Preconditions.checkIndex.code 3 (some .int) ∈ mg_tbl := mx_in (by decide +kernel) (by decide +kernel)
theorem mx_w2 : Cond.fieldLink "java/lang/String" 1053 mx_pre "SIOOBE_FORMATTER" mx_bf ∈ mg_tbl := mx_in (by decide +kernel) (by decide +kernel)
theorem mx_w3 : Cond.methodLink "java/lang/String" 1059 mx_PC ∈ mg_tbl := mx_in (by decide +kernel) (by decide +kernel)
theorem mx_w4 : Cond.static mx_PC ∈ mg_tbl := mx_in (by decide +kernel) (by decide +kernel)
theorem mx_w5 : Cond.initialized mx_pre ∈ mg_tbl := mx_in (by decide +kernel) (by decide +kernel)
