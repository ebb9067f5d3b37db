/-! THE HEAP: what is written, what is read -/
theorem wr_2 (h : mq_H) (a : Nat) (e : mq_E) : (mq_wr h a e).2.2 = mq_up h.2.2 a e := rfl
theorem wr_1 (h : mq_H) (a : Nat) (e : mq_E) : (mq_wr h a e).1 = h.1 := rfl
theorem wr_21 (h : mq_H) (a : Nat) (e : mq_E) : (mq_wr h a e).2.1 = h.2.1 := rfl
theorem mk_2 (h : mq_H) (w : Nat) (e : mq_E) : (mq_mk h w e).2.2 = mq_up h.2.2 h.1 e := rfl
theorem mk_1 (h : mq_H) (w : Nat) (e : mq_E) : (mq_mk h w e).1 = h.1 + 1 := rfl
theorem mk_21 (h : mq_H) (w : Nat) (e : mq_E) : (mq_mk h w e).2.1 = h.2.1 + w := rfl
theorem up_eq (f : Nat → mq_E) (a : Nat) (e : mq_E) : mq_up f a e a = e := if_pos rfl
theorem up_ne (f : Nat → mq_E) (a b : Nat) (e : mq_E) (h : b ≠ a) : mq_up f a e b = f b := if_neg h
theorem up_up (f : Nat → mq_E) (a : Nat) (e e' : mq_E) : mq_up (mq_up f a e) a e' = mq_up f a e' := by
  funext b
  by_cases q : b = a
  · subst q; rw [up_eq, up_eq]
  · rw [up_ne _ _ _ _ q, up_ne _ _ _ _ q, up_ne _ _ _ _ q]
theorem up_comm (f : Nat → mq_E) (a b : Nat) (e e' : mq_E) (hab : a ≠ b) : mq_up (mq_up f a e) b e' = mq_up (mq_up f b e') a e := by
  funext c
  by_cases q : c = a
  · subst q; rw [up_ne _ _ _ _ hab, up_eq, up_eq]
  · by_cases q2 : c = b
    · subst q2; rw [up_eq, up_ne _ _ _ _ q, up_eq]
    · rw [up_ne _ _ _ _ q2, up_ne _ _ _ _ q, up_ne _ _ _ _ q, up_ne _ _ _ _ q2]
theorem up_self (f : Nat → mq_E) (a : Nat) (e : mq_E) (h : f a = e) : mq_up f a e = f := by
  funext b
  by_cases q : b = a
  · subst q; rw [up_eq, h]
  · rw [up_ne _ _ _ _ q]
theorem wr_wr (h : mq_H) (a : Nat) (e e' : mq_E) : mq_wr (mq_wr h a e) a e' = mq_wr h a e' := by
  unfold mq_wr
  simp only [up_up]
theorem wr_self (h : mq_H) (a : Nat) (e : mq_E) (he : h.2.2 a = e) : mq_wr h a e = h := by
  unfold mq_wr
  rw [up_self _ _ _ he]
