/-! HOW THE MODEL LIES IN THE MACHINE: values, locals, heap -/
def mr_X : Nat := 1000000000
/-- where a cell of the model lies: its own behind B, what was there before by xa -/
def mr_a (B : Nat) (xa : Nat → Nat) (k : Nat) : Nat := if k < mr_X then B + k else xa (k - mr_X)
def mr_v (B : Nat) (xa : Nat → Nat) : Value → Value
  | .ref k => .ref (mr_a B xa k)
  | v => v
theorem mr_cat (B : Nat) (xa : Nat → Nat) (v : Value) : (mr_v B xa v).category = v.category := by cases v <;> rfl
/-- the model's locals in the frame's -/
def mr_L (B : Nat) (xa : Nat → Nat) (lr : Array Slot) (n : Nat) (ls : mq_L) : Prop := ls.length = n ∧ lr.size = n ∧ lv_wf lr ∧ ∀ (i : Nat) (v : Value), ls[i]? = some (some v) → lr[i]? = some (.val (mr_v B xa v))
def mr_as (B : Nat) (xa : Nat → Nat) (ls : mq_L) : List (Nat × Value) := (List.range ls.length).filterMap (fun i => match ls[i]? with
  | some (some v) => some (i, mr_v B xa v)
  | _ => none)
theorem mr_as_mem {B : Nat} {xa : Nat → Nat} {ls : mq_L} {q : Nat × Value} (h : q ∈ mr_as B xa ls) : ∃ v, ls[q.1]? = some (some v) ∧ q.2 = mr_v B xa v := by
  obtain ⟨i, -, hi⟩ := List.mem_filterMap.mp h
  split at hi
  next v hv => cases hi; exact ⟨v, hv, rfl⟩
  next => cases hi
theorem mr_as_in {B : Nat} {xa : Nat → Nat} {ls : mq_L} {i : Nat} {v : Value} (h : ls[i]? = some (some v)) : (i, mr_v B xa v) ∈ mr_as B xa ls := by
  refine List.mem_filterMap.mpr ⟨i, List.mem_range.mpr (List.getElem?_eq_some_iff.mp h).1, ?_⟩
  rw [h]
theorem mr_L.has {B : Nat} {xa : Nat → Nat} {lr : Array Slot} {n : Nat} {ls : mq_L} (h : mr_L B xa lr n ls) : lv_has lr n (mr_as B xa ls) := by
  refine ⟨h.2.1, h.2.2.1, fun q hq => ?_⟩
  obtain ⟨v, h1, h2⟩ := mr_as_mem hq
  rw [h2]
  exact h.2.2.2 _ _ h1
theorem mr_ld {ls : mq_L} {i : Nat} {v : Value} (h : mq_ld ls i = some v) : ls[i]? = some (some v) := by
  unfold mq_ld at h
  split at h
  next o ho => rw [ho, h]
  next => cases h
theorem mr_L.at {B : Nat} {xa : Nat → Nat} {lr : Array Slot} {n : Nat} {ls : mq_L} (h : mr_L B xa lr n ls) {i : Nat} {v : Value} (hv : mq_ld ls i = some v) : lr[i]? = some (.val (mr_v B xa v)) := h.2.2.2 _ _ (mr_ld hv)
theorem mr_dl {x : Option Value} {w : Value} (h : mq_dl x = some w) : x = some w ∧ ¬ w.category = 2 := by
  unfold mq_dl at h
  split at h <;> first | cases h | (cases h; exact ⟨rfl, by decide⟩)
  all_goals exact ⟨rfl, by simp [Value.category]⟩
theorem mr_s1_len : ∀ (ls : mq_L) (i : Nat) (v : Value), (mq_s1 ls i v).length = ls.length
  | [], _, _ => rfl
  | _ :: _, 0, _ => rfl
  | x :: t, 1, v => by simp [mq_s1, mr_s1_len t 0 v]
  | x :: t, n + 2, v => by simp [mq_s1, mr_s1_len t (n + 1) v]
theorem mr_s2_len : ∀ (ls : mq_L) (i : Nat) (v : Value), (mq_s2 ls i v).length = ls.length
  | [], _, _ => rfl
  | [_], 0, _ => rfl
  | _ :: _ :: _, 0, _ => rfl
  | x :: t, 1, v => by simp [mq_s2, mr_s2_len t 0 v]
  | x :: t, n + 2, v => by simp [mq_s2, mr_s2_len t (n + 1) v]
theorem mr_s1 : ∀ (ls : mq_L) (i : Nat) (v : Value) (j : Nat) (w : Value), (mq_s1 ls i v)[j]? = some (some w) → (j = i ∧ w = v) ∨ (¬ j = i ∧ ls[j]? = some (some w) ∧ (j + 1 = i → ¬ w.category = 2))
  | [], i, v, j, w, h => by simp [mq_s1] at h
  | x :: t, 0, v, j, w, h => by
    cases j with
    | zero => left; simp [mq_s1] at h; exact ⟨rfl, h.symm⟩
    | succ j => right; simp [mq_s1] at h; exact ⟨by omega, by simpa using h, by omega⟩
  | x :: t, 1, v, j, w, h => by
    cases j with
    | zero =>
      right
      simp [mq_s1] at h
      obtain ⟨h1, h2⟩ := mr_dl h
      exact ⟨by omega, by simp [h1], fun _ => h2⟩
    | succ j =>
      simp [mq_s1] at h
      rcases mr_s1 t 0 v j w h with ⟨a, b⟩ | ⟨a, b, c⟩
      · left; exact ⟨by omega, b⟩
      · right; exact ⟨by omega, by simpa using b, by omega⟩
  | x :: t, n + 2, v, j, w, h => by
    cases j with
    | zero => right; simp [mq_s1] at h; exact ⟨by omega, by simp [h], by omega⟩
    | succ j =>
      simp [mq_s1] at h
      rcases mr_s1 t (n + 1) v j w h with ⟨a, b⟩ | ⟨a, b, c⟩
      · left; exact ⟨by omega, b⟩
      · right; exact ⟨by omega, by simpa using b, fun e => c (by omega)⟩
theorem mr_s2 : ∀ (ls : mq_L) (i : Nat) (v : Value) (j : Nat) (w : Value), (mq_s2 ls i v)[j]? = some (some w) → (j = i ∧ w = v) ∨ (¬ j = i ∧ ¬ j = i + 1 ∧ ls[j]? = some (some w) ∧ (j + 1 = i → ¬ w.category = 2))
  | [], i, v, j, w, h => by simp [mq_s2] at h
  | [x], 0, v, j, w, h => by
    cases j with
    | zero => left; simp [mq_s2] at h; exact ⟨rfl, h.symm⟩
    | succ j => simp [mq_s2] at h
  | x :: y :: t, 0, v, j, w, h => by
    match j, h with
    | 0, h => left; simp [mq_s2] at h; exact ⟨rfl, h.symm⟩
    | 1, h => simp [mq_s2] at h
    | j + 2, h => right; simp [mq_s2] at h; exact ⟨by omega, by omega, by simpa using h, by omega⟩
  | x :: t, 1, v, j, w, h => by
    cases j with
    | zero =>
      right
      simp [mq_s2] at h
      obtain ⟨h1, h2⟩ := mr_dl h
      exact ⟨by omega, by omega, by simp [h1], fun _ => h2⟩
    | succ j =>
      simp [mq_s2] at h
      rcases mr_s2 t 0 v j w h with ⟨a, b⟩ | ⟨a, a2, b, c⟩
      · left; exact ⟨by omega, b⟩
      · right; exact ⟨by omega, by omega, by simpa using b, by omega⟩
  | x :: t, n + 2, v, j, w, h => by
    cases j with
    | zero => right; simp [mq_s2] at h; exact ⟨by omega, by omega, by simp [h], by omega⟩
    | succ j =>
      simp [mq_s2] at h
      rcases mr_s2 t (n + 1) v j w h with ⟨a, b⟩ | ⟨a, a2, b, c⟩
      · left; exact ⟨by omega, b⟩
      · right; exact ⟨by omega, by omega, by simpa using b, fun e => c (by omega)⟩
/-- the frame's locals behind a store of one slot -/
theorem mr_L.s1 {B : Nat} {xa : Nat → Nat} {lr lr' : Array Slot} {n i : Nat} {ls : mq_L} {v : Value} (h : mr_L B xa lr n ls) (h' : lv_has lr' n ((i, mr_v B xa v) :: (mr_as B xa ls).filter (fun q => !(q.1 == i) && !(q.1 + 1 == i && q.2.category == 2)))) : mr_L B xa lr' n (mq_s1 ls i v) := by
  refine ⟨by rw [mr_s1_len]; exact h.1, h'.1, h'.2.1, fun j w hj => ?_⟩
  rcases mr_s1 ls i v j w hj with ⟨a, b⟩ | ⟨a, b, c⟩
  · subst a; subst b
    exact h'.2.2 _ List.mem_cons_self
  · refine h'.2.2 (j, mr_v B xa w) (List.mem_cons_of_mem _ (List.mem_filter.mpr ⟨mr_as_in b, ?_⟩))
    have hc : (mr_v B xa w).category = w.category := mr_cat B xa w
    by_cases e : j + 1 = i
    · have := c e
      simp [a, hc, this]
    · simp [a, e]
theorem mr_L.s2 {B : Nat} {xa : Nat → Nat} {lr lr' : Array Slot} {n i : Nat} {ls : mq_L} {v : Value} (h : mr_L B xa lr n ls) (h' : lv_has lr' n ((i, mr_v B xa v) :: (mr_as B xa ls).filter (fun q => !(q.1 == i) && (!(q.1 == i + 1) && !(q.1 + 1 == i && q.2.category == 2))))) : mr_L B xa lr' n (mq_s2 ls i v) := by
  refine ⟨by rw [mr_s2_len]; exact h.1, h'.1, h'.2.1, fun j w hj => ?_⟩
  rcases mr_s2 ls i v j w hj with ⟨a, b⟩ | ⟨a, a2, b, c⟩
  · subst a; subst b
    exact h'.2.2 _ List.mem_cons_self
  · refine h'.2.2 (j, mr_v B xa w) (List.mem_cons_of_mem _ (List.mem_filter.mpr ⟨mr_as_in b, ?_⟩))
    have hc : (mr_v B xa w).category = w.category := mr_cat B xa w
    by_cases e : j + 1 = i
    · have := c e
      simp [a, a2, hc, this]
    · simp [a, a2, e]
/-- the locals with which a method begins -/
theorem mr_args_mem (B : Nat) (xa : Nat → Nat) : ∀ (as : List Value) (k j : Nat) (w : Value), (mq_al as)[j]? = some (some w) → (k + j, mr_v B xa w) ∈ lv_args k (as.map (mr_v B xa))
  | [], k, j, w, h => by simp [mq_al] at h
  | v :: t, k, j, w, h => by
    simp only [List.map_cons, lv_args, mr_cat]
    unfold mq_al at h
    by_cases hc : v.category = 2
    · rw [if_pos hc] at h ⊢
      match j, h with
      | 0, h => simp at h; subst h; exact List.mem_cons_self
      | 1, h => simp at h
      | j + 2, h =>
        have h2 := mr_args_mem B xa t (k + 2) j w (by simpa using h)
        rw [show k + (j + 2) = k + 2 + j by omega]
        exact List.mem_cons_of_mem _ h2
    · rw [if_neg hc] at h ⊢
      match j, h with
      | 0, h => simp at h; subst h; exact List.mem_cons_self
      | j + 1, h =>
        have h2 := mr_args_mem B xa t (k + 1) j w (by simpa using h)
        rw [show k + (j + 1) = k + 1 + j by omega]
        exact List.mem_cons_of_mem _ h2
theorem mr_sl_len (B : Nat) (xa : Nat → Nat) : ∀ as : List Value, (lg_sl (as.map (mr_v B xa))).length = (mq_al as).length
  | [] => rfl
  | v :: t => by
    have h := mr_sl_len B xa t
    simp only [lg_sl, List.map_cons, List.flatMap_cons, List.length_append, mq_al] at h ⊢
    by_cases hc : v.category = 2
    · simp [hc, mr_cat, h]; omega
    · simp [hc, mr_cat, h]; omega
theorem mr_entry {B : Nat} {xa : Nat → Nat} {as : List Value} {n : Nat} (h : (mq_al as).length ≤ n) : mr_L B xa ((lg_sl (as.map (mr_v B xa)) ++ List.replicate (n - (lg_sl (as.map (mr_v B xa))).length) Slot.unset).toArray) n (mq_en as n) := by
  have hl := lv_entry (as.map (mr_v B xa)) (n := n) (by rw [mr_sl_len]; exact h)
  refine ⟨by simp [mq_en]; omega, hl.1, hl.2.1, fun i v hv => ?_⟩
  unfold mq_en at hv
  by_cases hi : i < (mq_al as).length
  · rw [List.getElem?_append_left hi] at hv
    have h1 := mr_args_mem B xa as 0 i v hv
    rw [Nat.zero_add] at h1
    exact hl.2.2 _ h1
  · rw [List.getElem?_append_right (by omega), List.getElem?_replicate] at hv
    split at hv <;> cases hv
