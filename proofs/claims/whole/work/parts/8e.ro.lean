/-! ShareTable$RowSet with its arrays (written by wip/gen/gen9.py) -/
def roK : Nat → Nat
  | 1 => 0
  | 2 => 3
  | 3 => 3
  | 4 => 0
  | 5 => 1
  | 6 => 0
  | 7 => 3
  | 8 => 3
  | 9 => 0
  | _ => 0
def roL : Nat → Nat
  | 1 => 36
  | 2 => 6
  | 3 => 6
  | 4 => 6
  | 5 => 128
  | 6 => 6
  | 7 => 36
  | 8 => 6
  | 9 => 6
  | _ => 0
def ro (c : Nat → mq_E) (g a : Nat) (i : Nat → Int32) (j : Nat → Int64) (f : Nat → Nat → Int32) (h : Nat → Nat → Int64) : Nat → mq_E := fun b => if b = g then .inr (4, [.ref a, .int (i 1), .ref (g + 1), .ref (g + 2), .ref (g + 3), .ref (g + 4), .ref (g + 5), .ref (g + 6), .ref (g + 7), .long (j 9), .ref (g + 8), .long (j 11), .ref (g + 9), .int (i 13), .int (i 14), .int (i 15)]) else if g < b ∧ b ≤ g + 9 then (if roK (b - g) = 3 then .inl (3, roL (b - g), .inr (.inl (h (b - g)))) else .inl (roK (b - g), roL (b - g), .inl (f (b - g)))) else c b
theorem ro_nest (c : Nat → mq_E) (g a : Nat) (i : Nat → Int32) (j : Nat → Int64) (f : Nat → Nat → Int32) (h : Nat → Nat → Int64) : mq_up (mq_up (mq_up (mq_up (mq_up (mq_up (mq_up (mq_up (mq_up (mq_up c g (.inr (4, [.ref a, .int (i 1), .ref (g + 1), .ref (g + 2), .ref (g + 3), .ref (g + 4), .ref (g + 5), .ref (g + 6), .ref (g + 7), .long (j 9), .ref (g + 8), .long (j 11), .ref (g + 9), .int (i 13), .int (i 14), .int (i 15)]))) (g + 1) (.inl (0, 36, .inl (f 1)))) (g + 2) (.inl (3, 6, .inr (.inl (h 2))))) (g + 3) (.inl (3, 6, .inr (.inl (h 3))))) (g + 4) (.inl (0, 6, .inl (f 4)))) (g + 5) (.inl (1, 128, .inl (f 5)))) (g + 6) (.inl (0, 6, .inl (f 6)))) (g + 7) (.inl (3, 36, .inr (.inl (h 7))))) (g + 8) (.inl (3, 6, .inr (.inl (h 8))))) (g + 9) (.inl (0, 6, .inl (f 9))) = ro c g a i j f h := by
  funext b
  by_cases q9 : b = g + 9
  · subst q9; rw [up_eq]; unfold ro; rw [if_neg (by omega), if_pos (by omega), Nat.add_sub_cancel_left]; rfl
  rw [up_ne _ _ _ _ q9]
  by_cases q8 : b = g + 8
  · subst q8; rw [up_eq]; unfold ro; rw [if_neg (by omega), if_pos (by omega), Nat.add_sub_cancel_left]; rfl
  rw [up_ne _ _ _ _ q8]
  by_cases q7 : b = g + 7
  · subst q7; rw [up_eq]; unfold ro; rw [if_neg (by omega), if_pos (by omega), Nat.add_sub_cancel_left]; rfl
  rw [up_ne _ _ _ _ q7]
  by_cases q6 : b = g + 6
  · subst q6; rw [up_eq]; unfold ro; rw [if_neg (by omega), if_pos (by omega), Nat.add_sub_cancel_left]; rfl
  rw [up_ne _ _ _ _ q6]
  by_cases q5 : b = g + 5
  · subst q5; rw [up_eq]; unfold ro; rw [if_neg (by omega), if_pos (by omega), Nat.add_sub_cancel_left]; rfl
  rw [up_ne _ _ _ _ q5]
  by_cases q4 : b = g + 4
  · subst q4; rw [up_eq]; unfold ro; rw [if_neg (by omega), if_pos (by omega), Nat.add_sub_cancel_left]; rfl
  rw [up_ne _ _ _ _ q4]
  by_cases q3 : b = g + 3
  · subst q3; rw [up_eq]; unfold ro; rw [if_neg (by omega), if_pos (by omega), Nat.add_sub_cancel_left]; rfl
  rw [up_ne _ _ _ _ q3]
  by_cases q2 : b = g + 2
  · subst q2; rw [up_eq]; unfold ro; rw [if_neg (by omega), if_pos (by omega), Nat.add_sub_cancel_left]; rfl
  rw [up_ne _ _ _ _ q2]
  by_cases q1 : b = g + 1
  · subst q1; rw [up_eq]; unfold ro; rw [if_neg (by omega), if_pos (by omega), Nat.add_sub_cancel_left]; rfl
  rw [up_ne _ _ _ _ q1]
  by_cases q0 : b = g
  · subst q0; rw [up_eq]; unfold ro; rw [if_pos rfl]
  rw [up_ne _ _ _ _ q0]; unfold ro; rw [if_neg q0, if_neg (by omega)]
section RO_S
variable {n s : Nat} {c : Nat → mq_E} {I : Nat → Int32} {J : Nat → Int64} {A : Nat → Nat → Int32} {B : Nat → Nat → Int64} {R : Nat → Value} {Q : Nat → Nat → Option Nat}
variable {g a : Nat} {i : Nat → Int32} {j : Nat → Int64} {f : Nat → Nat → Int32} {h : Nat → Nat → Int64}
theorem ro_a0 : ro c g a i j f h g = .inr (4, [.ref a, .int (i 1), .ref (g + 1), .ref (g + 2), .ref (g + 3), .ref (g + 4), .ref (g + 5), .ref (g + 6), .ref (g + 7), .long (j 9), .ref (g + 8), .long (j 11), .ref (g + 9), .int (i 13), .int (i 14), .int (i 15)]) := if_pos rfl
theorem ro_a1 : ro c g a i j f h (g + 1) = .inl (0, 36, .inl (f 1)) := by
  unfold ro; rw [if_neg (by omega), if_pos (by omega), Nat.add_sub_cancel_left]; rfl
theorem ro_a2 : ro c g a i j f h (g + 2) = .inl (3, 6, .inr (.inl (h 2))) := by
  unfold ro; rw [if_neg (by omega), if_pos (by omega), Nat.add_sub_cancel_left]; rfl
theorem ro_a3 : ro c g a i j f h (g + 3) = .inl (3, 6, .inr (.inl (h 3))) := by
  unfold ro; rw [if_neg (by omega), if_pos (by omega), Nat.add_sub_cancel_left]; rfl
theorem ro_a4 : ro c g a i j f h (g + 4) = .inl (0, 6, .inl (f 4)) := by
  unfold ro; rw [if_neg (by omega), if_pos (by omega), Nat.add_sub_cancel_left]; rfl
theorem ro_a5 : ro c g a i j f h (g + 5) = .inl (1, 128, .inl (f 5)) := by
  unfold ro; rw [if_neg (by omega), if_pos (by omega), Nat.add_sub_cancel_left]; rfl
theorem ro_a6 : ro c g a i j f h (g + 6) = .inl (0, 6, .inl (f 6)) := by
  unfold ro; rw [if_neg (by omega), if_pos (by omega), Nat.add_sub_cancel_left]; rfl
theorem ro_a7 : ro c g a i j f h (g + 7) = .inl (3, 36, .inr (.inl (h 7))) := by
  unfold ro; rw [if_neg (by omega), if_pos (by omega), Nat.add_sub_cancel_left]; rfl
theorem ro_a8 : ro c g a i j f h (g + 8) = .inl (3, 6, .inr (.inl (h 8))) := by
  unfold ro; rw [if_neg (by omega), if_pos (by omega), Nat.add_sub_cancel_left]; rfl
theorem ro_a9 : ro c g a i j f h (g + 9) = .inl (0, 6, .inl (f 9)) := by
  unfold ro; rw [if_neg (by omega), if_pos (by omega), Nat.add_sub_cancel_left]; rfl
theorem ro_ne (b : Nat) (hb : b < g ∨ g + 9 < b) : ro c g a i j f h b = c b := by
  unfold ro; rw [if_neg (by omega), if_neg (by omega)]
theorem ro_self (h0 : c g = .inr (4, [.ref a, .int (i 1), .ref (g + 1), .ref (g + 2), .ref (g + 3), .ref (g + 4), .ref (g + 5), .ref (g + 6), .ref (g + 7), .long (j 9), .ref (g + 8), .long (j 11), .ref (g + 9), .int (i 13), .int (i 14), .int (i 15)])) (h1 : c (g + 1) = .inl (0, 36, .inl (f 1))) (h2 : c (g + 2) = .inl (3, 6, .inr (.inl (h 2)))) (h3 : c (g + 3) = .inl (3, 6, .inr (.inl (h 3)))) (h4 : c (g + 4) = .inl (0, 6, .inl (f 4))) (h5 : c (g + 5) = .inl (1, 128, .inl (f 5))) (h6 : c (g + 6) = .inl (0, 6, .inl (f 6))) (h7 : c (g + 7) = .inl (3, 36, .inr (.inl (h 7)))) (h8 : c (g + 8) = .inl (3, 6, .inr (.inl (h 8)))) (h9 : c (g + 9) = .inl (0, 6, .inl (f 9))) : ro c g a i j f h = c := by
  rw [← ro_nest]
  rw [up_self _ _ _ h0, up_self _ _ _ h1, up_self _ _ _ h2, up_self _ _ _ h3, up_self _ _ _ h4, up_self _ _ _ h5, up_self _ _ _ h6, up_self _ _ _ h7, up_self _ _ _ h8, up_self _ _ _ h9]
theorem ro_0 (ha : 46 ≤ g) : mo0 (hp n s (ro c g a i j f h) I J A B R Q) g 4 = true := by
  rw [hpo0B g 4 ha, ro_a0]; rfl
theorem ro_mo (k : Nat) (ha : 46 ≤ g) (hk : k < 16) : mo (hp n s (ro c g a i j f h) I J A B R Q) g 4 k = true := by
  rw [hpoB g 4 k ha, ro_a0]; simp [eo, hk]
theorem ro_fs (ha : 46 ≤ g) : mfs (hp n s (ro c g a i j f h) I J A B R Q) g = [.ref a, .int (i 1), .ref (g + 1), .ref (g + 2), .ref (g + 3), .ref (g + 4), .ref (g + 5), .ref (g + 6), .ref (g + 7), .long (j 9), .ref (g + 8), .long (j 11), .ref (g + 9), .int (i 13), .int (i 14), .int (i 15)] := by
  rw [hpfsB g ha, ro_a0]; rfl
theorem ro_f0 (ha : 46 ≤ g) : mf (hp n s (ro c g a i j f h) I J A B R Q) g 0 = .ref a := by
  rw [hpfB g 0 ha, ro_a0]; rfl
theorem ro_f1 (ha : 46 ≤ g) : mf (hp n s (ro c g a i j f h) I J A B R Q) g 1 = .int (i 1) := by
  rw [hpfB g 1 ha, ro_a0]; rfl
theorem ro_s1 (x : Int32) (ha : 46 ≤ g) : mq_wr (hp n s (ro c g a i j f h) I J A B R Q) g (.inr (4, (mfs (hp n s (ro c g a i j f h) I J A B R Q) g).set 1 (.int x))) = hp n s (ro c g a (zu i 1 x) j f h) I J A B R Q := by
  rw [ro_fs ha, hp_wcB g _ ha]
  congr 1
  funext b
  by_cases q : b = g
  · subst q; rw [up_eq, ro_a0]; simp (disch := omega) only [zu_eq, zu_ne, List.set_cons_zero, List.set_cons_succ]
  · rw [up_ne _ _ _ _ q]; unfold ro; rw [if_neg q, if_neg q]
theorem ro_k1 (x : Int32) : mq_okv (mp_ft 4 1) (.int x) = true := by
  exact okv_I _ _ _ rfl
theorem ro_f2 (ha : 46 ≤ g) : mf (hp n s (ro c g a i j f h) I J A B R Q) g 2 = .ref (g + 1) := by
  rw [hpfB g 2 ha, ro_a0]; rfl
theorem ro_f3 (ha : 46 ≤ g) : mf (hp n s (ro c g a i j f h) I J A B R Q) g 3 = .ref (g + 2) := by
  rw [hpfB g 3 ha, ro_a0]; rfl
theorem ro_f4 (ha : 46 ≤ g) : mf (hp n s (ro c g a i j f h) I J A B R Q) g 4 = .ref (g + 3) := by
  rw [hpfB g 4 ha, ro_a0]; rfl
theorem ro_f5 (ha : 46 ≤ g) : mf (hp n s (ro c g a i j f h) I J A B R Q) g 5 = .ref (g + 4) := by
  rw [hpfB g 5 ha, ro_a0]; rfl
theorem ro_f6 (ha : 46 ≤ g) : mf (hp n s (ro c g a i j f h) I J A B R Q) g 6 = .ref (g + 5) := by
  rw [hpfB g 6 ha, ro_a0]; rfl
theorem ro_f7 (ha : 46 ≤ g) : mf (hp n s (ro c g a i j f h) I J A B R Q) g 7 = .ref (g + 6) := by
  rw [hpfB g 7 ha, ro_a0]; rfl
theorem ro_f8 (ha : 46 ≤ g) : mf (hp n s (ro c g a i j f h) I J A B R Q) g 8 = .ref (g + 7) := by
  rw [hpfB g 8 ha, ro_a0]; rfl
theorem ro_f9 (ha : 46 ≤ g) : mf (hp n s (ro c g a i j f h) I J A B R Q) g 9 = .long (j 9) := by
  rw [hpfB g 9 ha, ro_a0]; rfl
theorem ro_s9 (x : Int64) (ha : 46 ≤ g) : mq_wr (hp n s (ro c g a i j f h) I J A B R Q) g (.inr (4, (mfs (hp n s (ro c g a i j f h) I J A B R Q) g).set 9 (.long x))) = hp n s (ro c g a i (zu j 9 x) f h) I J A B R Q := by
  rw [ro_fs ha, hp_wcB g _ ha]
  congr 1
  funext b
  by_cases q : b = g
  · subst q; rw [up_eq, ro_a0]; simp (disch := omega) only [zu_eq, zu_ne, List.set_cons_zero, List.set_cons_succ]
  · rw [up_ne _ _ _ _ q]; unfold ro; rw [if_neg q, if_neg q]
theorem ro_k9 (x : Int64) : mq_okv (mp_ft 4 9) (.long x) = true := by
  exact okv_J _ _ _ rfl
theorem ro_f10 (ha : 46 ≤ g) : mf (hp n s (ro c g a i j f h) I J A B R Q) g 10 = .ref (g + 8) := by
  rw [hpfB g 10 ha, ro_a0]; rfl
theorem ro_f11 (ha : 46 ≤ g) : mf (hp n s (ro c g a i j f h) I J A B R Q) g 11 = .long (j 11) := by
  rw [hpfB g 11 ha, ro_a0]; rfl
theorem ro_s11 (x : Int64) (ha : 46 ≤ g) : mq_wr (hp n s (ro c g a i j f h) I J A B R Q) g (.inr (4, (mfs (hp n s (ro c g a i j f h) I J A B R Q) g).set 11 (.long x))) = hp n s (ro c g a i (zu j 11 x) f h) I J A B R Q := by
  rw [ro_fs ha, hp_wcB g _ ha]
  congr 1
  funext b
  by_cases q : b = g
  · subst q; rw [up_eq, ro_a0]; simp (disch := omega) only [zu_eq, zu_ne, List.set_cons_zero, List.set_cons_succ]
  · rw [up_ne _ _ _ _ q]; unfold ro; rw [if_neg q, if_neg q]
theorem ro_k11 (x : Int64) : mq_okv (mp_ft 4 11) (.long x) = true := by
  exact okv_J _ _ _ rfl
theorem ro_f12 (ha : 46 ≤ g) : mf (hp n s (ro c g a i j f h) I J A B R Q) g 12 = .ref (g + 9) := by
  rw [hpfB g 12 ha, ro_a0]; rfl
theorem ro_f13 (ha : 46 ≤ g) : mf (hp n s (ro c g a i j f h) I J A B R Q) g 13 = .int (i 13) := by
  rw [hpfB g 13 ha, ro_a0]; rfl
theorem ro_s13 (x : Int32) (ha : 46 ≤ g) : mq_wr (hp n s (ro c g a i j f h) I J A B R Q) g (.inr (4, (mfs (hp n s (ro c g a i j f h) I J A B R Q) g).set 13 (.int x))) = hp n s (ro c g a (zu i 13 x) j f h) I J A B R Q := by
  rw [ro_fs ha, hp_wcB g _ ha]
  congr 1
  funext b
  by_cases q : b = g
  · subst q; rw [up_eq, ro_a0]; simp (disch := omega) only [zu_eq, zu_ne, List.set_cons_zero, List.set_cons_succ]
  · rw [up_ne _ _ _ _ q]; unfold ro; rw [if_neg q, if_neg q]
theorem ro_k13 (x : Int32) : mq_okv (mp_ft 4 13) (.int x) = true := by
  exact okv_I _ _ _ rfl
theorem ro_f14 (ha : 46 ≤ g) : mf (hp n s (ro c g a i j f h) I J A B R Q) g 14 = .int (i 14) := by
  rw [hpfB g 14 ha, ro_a0]; rfl
theorem ro_s14 (x : Int32) (ha : 46 ≤ g) : mq_wr (hp n s (ro c g a i j f h) I J A B R Q) g (.inr (4, (mfs (hp n s (ro c g a i j f h) I J A B R Q) g).set 14 (.int x))) = hp n s (ro c g a (zu i 14 x) j f h) I J A B R Q := by
  rw [ro_fs ha, hp_wcB g _ ha]
  congr 1
  funext b
  by_cases q : b = g
  · subst q; rw [up_eq, ro_a0]; simp (disch := omega) only [zu_eq, zu_ne, List.set_cons_zero, List.set_cons_succ]
  · rw [up_ne _ _ _ _ q]; unfold ro; rw [if_neg q, if_neg q]
theorem ro_f15 (ha : 46 ≤ g) : mf (hp n s (ro c g a i j f h) I J A B R Q) g 15 = .int (i 15) := by
  rw [hpfB g 15 ha, ro_a0]; rfl
theorem ro_s15 (x : Int32) (ha : 46 ≤ g) : mq_wr (hp n s (ro c g a i j f h) I J A B R Q) g (.inr (4, (mfs (hp n s (ro c g a i j f h) I J A B R Q) g).set 15 (.int x))) = hp n s (ro c g a (zu i 15 x) j f h) I J A B R Q := by
  rw [ro_fs ha, hp_wcB g _ ha]
  congr 1
  funext b
  by_cases q : b = g
  · subst q; rw [up_eq, ro_a0]; simp (disch := omega) only [zu_eq, zu_ne, List.set_cons_zero, List.set_cons_succ]
  · rw [up_ne _ _ _ _ q]; unfold ro; rw [if_neg q, if_neg q]
theorem ro_k15 (x : Int32) : mq_okv (mp_ft 4 15) (.int x) = true := by
  exact okv_I _ _ _ rfl
theorem ro_i1 (q : Nat) (x : Int32) (ha : 46 ≤ g) : mai (hp n s (ro c g a i j f h) I J A B R Q) (g + 1) 0 q x = mq_in x 36 := by
  rw [haiB (g + 1) 0 q x (by omega), ro_a1]; simp [eai]
theorem ro_g1 (ha : 46 ≤ g) : mag (hp n s (ro c g a i j f h) I J A B R Q) (g + 1) = f 1 := by
  rw [hagB (g + 1) (by omega), ro_a1]; rfl
theorem ro_n1 (ha : 46 ≤ g) : man (hp n s (ro c g a i j f h) I J A B R Q) (g + 1) = 36 := by
  rw [hanB (g + 1) (by omega), ro_a1]; rfl
theorem ro_u1 (x : Nat → Int32) : mq_up (ro c g a i j f h) (g + 1) (.inl (0, 36, .inl x)) = ro c g a i j (zu f 1 x) h := by
  funext b
  by_cases q : b = g + 1
  · subst q; rw [up_eq, ro_a1, zu_eq]
  · rw [up_ne _ _ _ _ q]; unfold ro
    by_cases q2 : b = g
    · rw [if_pos q2, if_pos q2]
    · rw [if_neg q2, if_neg q2]
      by_cases q3 : g < b ∧ b ≤ g + 9
      · rw [if_pos q3, if_pos q3, zu_ne _ _ _ _ (by omega)]
      · rw [if_neg q3, if_neg q3]
theorem ro_w1 (x : Nat → Int32) (ha : 46 ≤ g) : mq_wr (hp n s (ro c g a i j f h) I J A B R Q) (g + 1) (.inl (0, 36, .inl x)) = hp n s (ro c g a i j (zu f 1 x) h) I J A B R Q := by
  rw [hp_wcB (g + 1) _ (by omega), ro_u1]
theorem ro_i2 (x : Int32) (ha : 46 ≤ g) : mal (hp n s (ro c g a i j f h) I J A B R Q) (g + 2) x = mq_in x 6 := by
  rw [halB (g + 2) x (by omega), ro_a2]; simp [eal]
theorem ro_g2 (ha : 46 ≤ g) : mlg (hp n s (ro c g a i j f h) I J A B R Q) (g + 2) = h 2 := by
  rw [hlgB (g + 2) (by omega), ro_a2]; rfl
theorem ro_n2 (ha : 46 ≤ g) : man (hp n s (ro c g a i j f h) I J A B R Q) (g + 2) = 6 := by
  rw [hanB (g + 2) (by omega), ro_a2]; rfl
theorem ro_u2 (x : Nat → Int64) : mq_up (ro c g a i j f h) (g + 2) (.inl (3, 6, .inr (.inl x))) = ro c g a i j f (zu h 2 x) := by
  funext b
  by_cases q : b = g + 2
  · subst q; rw [up_eq, ro_a2, zu_eq]
  · rw [up_ne _ _ _ _ q]; unfold ro
    by_cases q2 : b = g
    · rw [if_pos q2, if_pos q2]
    · rw [if_neg q2, if_neg q2]
      by_cases q3 : g < b ∧ b ≤ g + 9
      · rw [if_pos q3, if_pos q3, zu_ne _ _ _ _ (by omega)]
      · rw [if_neg q3, if_neg q3]
theorem ro_w2 (x : Nat → Int64) (ha : 46 ≤ g) : mq_wr (hp n s (ro c g a i j f h) I J A B R Q) (g + 2) (.inl (3, 6, .inr (.inl x))) = hp n s (ro c g a i j f (zu h 2 x)) I J A B R Q := by
  rw [hp_wcB (g + 2) _ (by omega), ro_u2]
theorem ro_i3 (x : Int32) (ha : 46 ≤ g) : mal (hp n s (ro c g a i j f h) I J A B R Q) (g + 3) x = mq_in x 6 := by
  rw [halB (g + 3) x (by omega), ro_a3]; simp [eal]
theorem ro_g3 (ha : 46 ≤ g) : mlg (hp n s (ro c g a i j f h) I J A B R Q) (g + 3) = h 3 := by
  rw [hlgB (g + 3) (by omega), ro_a3]; rfl
theorem ro_n3 (ha : 46 ≤ g) : man (hp n s (ro c g a i j f h) I J A B R Q) (g + 3) = 6 := by
  rw [hanB (g + 3) (by omega), ro_a3]; rfl
theorem ro_u3 (x : Nat → Int64) : mq_up (ro c g a i j f h) (g + 3) (.inl (3, 6, .inr (.inl x))) = ro c g a i j f (zu h 3 x) := by
  funext b
  by_cases q : b = g + 3
  · subst q; rw [up_eq, ro_a3, zu_eq]
  · rw [up_ne _ _ _ _ q]; unfold ro
    by_cases q2 : b = g
    · rw [if_pos q2, if_pos q2]
    · rw [if_neg q2, if_neg q2]
      by_cases q3 : g < b ∧ b ≤ g + 9
      · rw [if_pos q3, if_pos q3, zu_ne _ _ _ _ (by omega)]
      · rw [if_neg q3, if_neg q3]
theorem ro_w3 (x : Nat → Int64) (ha : 46 ≤ g) : mq_wr (hp n s (ro c g a i j f h) I J A B R Q) (g + 3) (.inl (3, 6, .inr (.inl x))) = hp n s (ro c g a i j f (zu h 3 x)) I J A B R Q := by
  rw [hp_wcB (g + 3) _ (by omega), ro_u3]
theorem ro_i4 (q : Nat) (x : Int32) (ha : 46 ≤ g) : mai (hp n s (ro c g a i j f h) I J A B R Q) (g + 4) 0 q x = mq_in x 6 := by
  rw [haiB (g + 4) 0 q x (by omega), ro_a4]; simp [eai]
theorem ro_g4 (ha : 46 ≤ g) : mag (hp n s (ro c g a i j f h) I J A B R Q) (g + 4) = f 4 := by
  rw [hagB (g + 4) (by omega), ro_a4]; rfl
theorem ro_n4 (ha : 46 ≤ g) : man (hp n s (ro c g a i j f h) I J A B R Q) (g + 4) = 6 := by
  rw [hanB (g + 4) (by omega), ro_a4]; rfl
theorem ro_u4 (x : Nat → Int32) : mq_up (ro c g a i j f h) (g + 4) (.inl (0, 6, .inl x)) = ro c g a i j (zu f 4 x) h := by
  funext b
  by_cases q : b = g + 4
  · subst q; rw [up_eq, ro_a4, zu_eq]
  · rw [up_ne _ _ _ _ q]; unfold ro
    by_cases q2 : b = g
    · rw [if_pos q2, if_pos q2]
    · rw [if_neg q2, if_neg q2]
      by_cases q3 : g < b ∧ b ≤ g + 9
      · rw [if_pos q3, if_pos q3, zu_ne _ _ _ _ (by omega)]
      · rw [if_neg q3, if_neg q3]
theorem ro_w4 (x : Nat → Int32) (ha : 46 ≤ g) : mq_wr (hp n s (ro c g a i j f h) I J A B R Q) (g + 4) (.inl (0, 6, .inl x)) = hp n s (ro c g a i j (zu f 4 x) h) I J A B R Q := by
  rw [hp_wcB (g + 4) _ (by omega), ro_u4]
theorem ro_i5 (q : Nat) (x : Int32) (ha : 46 ≤ g) : mai (hp n s (ro c g a i j f h) I J A B R Q) (g + 5) 1 q x = mq_in x 128 := by
  rw [haiB (g + 5) 1 q x (by omega), ro_a5]; simp [eai]
theorem ro_g5 (ha : 46 ≤ g) : mag (hp n s (ro c g a i j f h) I J A B R Q) (g + 5) = f 5 := by
  rw [hagB (g + 5) (by omega), ro_a5]; rfl
theorem ro_n5 (ha : 46 ≤ g) : man (hp n s (ro c g a i j f h) I J A B R Q) (g + 5) = 128 := by
  rw [hanB (g + 5) (by omega), ro_a5]; rfl
theorem ro_u5 (x : Nat → Int32) : mq_up (ro c g a i j f h) (g + 5) (.inl (1, 128, .inl x)) = ro c g a i j (zu f 5 x) h := by
  funext b
  by_cases q : b = g + 5
  · subst q; rw [up_eq, ro_a5, zu_eq]
  · rw [up_ne _ _ _ _ q]; unfold ro
    by_cases q2 : b = g
    · rw [if_pos q2, if_pos q2]
    · rw [if_neg q2, if_neg q2]
      by_cases q3 : g < b ∧ b ≤ g + 9
      · rw [if_pos q3, if_pos q3, zu_ne _ _ _ _ (by omega)]
      · rw [if_neg q3, if_neg q3]
theorem ro_w5 (x : Nat → Int32) (ha : 46 ≤ g) : mq_wr (hp n s (ro c g a i j f h) I J A B R Q) (g + 5) (.inl (1, 128, .inl x)) = hp n s (ro c g a i j (zu f 5 x) h) I J A B R Q := by
  rw [hp_wcB (g + 5) _ (by omega), ro_u5]
theorem ro_i6 (q : Nat) (x : Int32) (ha : 46 ≤ g) : mai (hp n s (ro c g a i j f h) I J A B R Q) (g + 6) 0 q x = mq_in x 6 := by
  rw [haiB (g + 6) 0 q x (by omega), ro_a6]; simp [eai]
theorem ro_g6 (ha : 46 ≤ g) : mag (hp n s (ro c g a i j f h) I J A B R Q) (g + 6) = f 6 := by
  rw [hagB (g + 6) (by omega), ro_a6]; rfl
theorem ro_n6 (ha : 46 ≤ g) : man (hp n s (ro c g a i j f h) I J A B R Q) (g + 6) = 6 := by
  rw [hanB (g + 6) (by omega), ro_a6]; rfl
theorem ro_u6 (x : Nat → Int32) : mq_up (ro c g a i j f h) (g + 6) (.inl (0, 6, .inl x)) = ro c g a i j (zu f 6 x) h := by
  funext b
  by_cases q : b = g + 6
  · subst q; rw [up_eq, ro_a6, zu_eq]
  · rw [up_ne _ _ _ _ q]; unfold ro
    by_cases q2 : b = g
    · rw [if_pos q2, if_pos q2]
    · rw [if_neg q2, if_neg q2]
      by_cases q3 : g < b ∧ b ≤ g + 9
      · rw [if_pos q3, if_pos q3, zu_ne _ _ _ _ (by omega)]
      · rw [if_neg q3, if_neg q3]
theorem ro_w6 (x : Nat → Int32) (ha : 46 ≤ g) : mq_wr (hp n s (ro c g a i j f h) I J A B R Q) (g + 6) (.inl (0, 6, .inl x)) = hp n s (ro c g a i j (zu f 6 x) h) I J A B R Q := by
  rw [hp_wcB (g + 6) _ (by omega), ro_u6]
theorem ro_i7 (x : Int32) (ha : 46 ≤ g) : mal (hp n s (ro c g a i j f h) I J A B R Q) (g + 7) x = mq_in x 36 := by
  rw [halB (g + 7) x (by omega), ro_a7]; simp [eal]
theorem ro_g7 (ha : 46 ≤ g) : mlg (hp n s (ro c g a i j f h) I J A B R Q) (g + 7) = h 7 := by
  rw [hlgB (g + 7) (by omega), ro_a7]; rfl
theorem ro_n7 (ha : 46 ≤ g) : man (hp n s (ro c g a i j f h) I J A B R Q) (g + 7) = 36 := by
  rw [hanB (g + 7) (by omega), ro_a7]; rfl
theorem ro_u7 (x : Nat → Int64) : mq_up (ro c g a i j f h) (g + 7) (.inl (3, 36, .inr (.inl x))) = ro c g a i j f (zu h 7 x) := by
  funext b
  by_cases q : b = g + 7
  · subst q; rw [up_eq, ro_a7, zu_eq]
  · rw [up_ne _ _ _ _ q]; unfold ro
    by_cases q2 : b = g
    · rw [if_pos q2, if_pos q2]
    · rw [if_neg q2, if_neg q2]
      by_cases q3 : g < b ∧ b ≤ g + 9
      · rw [if_pos q3, if_pos q3, zu_ne _ _ _ _ (by omega)]
      · rw [if_neg q3, if_neg q3]
theorem ro_w7 (x : Nat → Int64) (ha : 46 ≤ g) : mq_wr (hp n s (ro c g a i j f h) I J A B R Q) (g + 7) (.inl (3, 36, .inr (.inl x))) = hp n s (ro c g a i j f (zu h 7 x)) I J A B R Q := by
  rw [hp_wcB (g + 7) _ (by omega), ro_u7]
theorem ro_i8 (x : Int32) (ha : 46 ≤ g) : mal (hp n s (ro c g a i j f h) I J A B R Q) (g + 8) x = mq_in x 6 := by
  rw [halB (g + 8) x (by omega), ro_a8]; simp [eal]
theorem ro_g8 (ha : 46 ≤ g) : mlg (hp n s (ro c g a i j f h) I J A B R Q) (g + 8) = h 8 := by
  rw [hlgB (g + 8) (by omega), ro_a8]; rfl
theorem ro_n8 (ha : 46 ≤ g) : man (hp n s (ro c g a i j f h) I J A B R Q) (g + 8) = 6 := by
  rw [hanB (g + 8) (by omega), ro_a8]; rfl
theorem ro_u8 (x : Nat → Int64) : mq_up (ro c g a i j f h) (g + 8) (.inl (3, 6, .inr (.inl x))) = ro c g a i j f (zu h 8 x) := by
  funext b
  by_cases q : b = g + 8
  · subst q; rw [up_eq, ro_a8, zu_eq]
  · rw [up_ne _ _ _ _ q]; unfold ro
    by_cases q2 : b = g
    · rw [if_pos q2, if_pos q2]
    · rw [if_neg q2, if_neg q2]
      by_cases q3 : g < b ∧ b ≤ g + 9
      · rw [if_pos q3, if_pos q3, zu_ne _ _ _ _ (by omega)]
      · rw [if_neg q3, if_neg q3]
theorem ro_w8 (x : Nat → Int64) (ha : 46 ≤ g) : mq_wr (hp n s (ro c g a i j f h) I J A B R Q) (g + 8) (.inl (3, 6, .inr (.inl x))) = hp n s (ro c g a i j f (zu h 8 x)) I J A B R Q := by
  rw [hp_wcB (g + 8) _ (by omega), ro_u8]
theorem ro_i9 (q : Nat) (x : Int32) (ha : 46 ≤ g) : mai (hp n s (ro c g a i j f h) I J A B R Q) (g + 9) 0 q x = mq_in x 6 := by
  rw [haiB (g + 9) 0 q x (by omega), ro_a9]; simp [eai]
theorem ro_g9 (ha : 46 ≤ g) : mag (hp n s (ro c g a i j f h) I J A B R Q) (g + 9) = f 9 := by
  rw [hagB (g + 9) (by omega), ro_a9]; rfl
theorem ro_n9 (ha : 46 ≤ g) : man (hp n s (ro c g a i j f h) I J A B R Q) (g + 9) = 6 := by
  rw [hanB (g + 9) (by omega), ro_a9]; rfl
theorem ro_u9 (x : Nat → Int32) : mq_up (ro c g a i j f h) (g + 9) (.inl (0, 6, .inl x)) = ro c g a i j (zu f 9 x) h := by
  funext b
  by_cases q : b = g + 9
  · subst q; rw [up_eq, ro_a9, zu_eq]
  · rw [up_ne _ _ _ _ q]; unfold ro
    by_cases q2 : b = g
    · rw [if_pos q2, if_pos q2]
    · rw [if_neg q2, if_neg q2]
      by_cases q3 : g < b ∧ b ≤ g + 9
      · rw [if_pos q3, if_pos q3, zu_ne _ _ _ _ (by omega)]
      · rw [if_neg q3, if_neg q3]
theorem ro_w9 (x : Nat → Int32) (ha : 46 ≤ g) : mq_wr (hp n s (ro c g a i j f h) I J A B R Q) (g + 9) (.inl (0, 6, .inl x)) = hp n s (ro c g a i j (zu f 9 x) h) I J A B R Q := by
  rw [hp_wcB (g + 9) _ (by omega), ro_u9]
theorem TB_ro {b : Nat} {T : ZT} (hT : TB c b T) (hb : b + 2 < g ∨ g + 9 < b) : TB (ro c g a i j f h) b T := by
  obtain ⟨h1, ⟨x1, x2, x3, x4, x5, x6, h2⟩, g1, r1, h3, h4, h5⟩ := hT
  exact ⟨h1, ⟨x1, x2, x3, x4, x5, x6, by rw [ro_ne b (by omega)]; exact h2⟩, g1, r1, by rw [ro_ne (b + 1) (by omega)]; exact h3, by rw [ro_ne (b + 2) (by omega)]; exact h4, h5⟩
end RO_S
