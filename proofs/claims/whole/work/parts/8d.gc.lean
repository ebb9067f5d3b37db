/-! ShareTable$Groupings with its arrays (written by wip/gen/gen9.py) -/
def gcK : Nat → Nat
  | 1 => 0
  | 2 => 0
  | 3 => 0
  | 4 => 0
  | _ => 0
def gcL : Nat → Nat
  | 1 => 32
  | 2 => 52
  | 3 => 6
  | 4 => 6
  | _ => 0
def gc (c : Nat → mq_E) (g a : Nat) (i : Nat → Int32) (f : Nat → Nat → Int32) : Nat → mq_E := fun b => if b = g then .inr (2, [.ref a, .int (i 1), .ref (g + 1), .ref (g + 2), .ref (g + 3), .ref (g + 4), .int (i 6), .int (i 7)]) else if g < b ∧ b ≤ g + 4 then (.inl (gcK (b - g), gcL (b - g), .inl (f (b - g)))) else c b
theorem gc_nest (c : Nat → mq_E) (g a : Nat) (i : Nat → Int32) (f : Nat → Nat → Int32) : mq_up (mq_up (mq_up (mq_up (mq_up c g (.inr (2, [.ref a, .int (i 1), .ref (g + 1), .ref (g + 2), .ref (g + 3), .ref (g + 4), .int (i 6), .int (i 7)]))) (g + 1) (.inl (0, 32, .inl (f 1)))) (g + 2) (.inl (0, 52, .inl (f 2)))) (g + 3) (.inl (0, 6, .inl (f 3)))) (g + 4) (.inl (0, 6, .inl (f 4))) = gc c g a i f := by
  funext b
  by_cases q4 : b = g + 4
  · subst q4; rw [up_eq]; unfold gc; rw [if_neg (by omega), if_pos (by omega), Nat.add_sub_cancel_left]; rfl
  rw [up_ne _ _ _ _ q4]
  by_cases q3 : b = g + 3
  · subst q3; rw [up_eq]; unfold gc; rw [if_neg (by omega), if_pos (by omega), Nat.add_sub_cancel_left]; rfl
  rw [up_ne _ _ _ _ q3]
  by_cases q2 : b = g + 2
  · subst q2; rw [up_eq]; unfold gc; rw [if_neg (by omega), if_pos (by omega), Nat.add_sub_cancel_left]; rfl
  rw [up_ne _ _ _ _ q2]
  by_cases q1 : b = g + 1
  · subst q1; rw [up_eq]; unfold gc; rw [if_neg (by omega), if_pos (by omega), Nat.add_sub_cancel_left]; rfl
  rw [up_ne _ _ _ _ q1]
  by_cases q0 : b = g
  · subst q0; rw [up_eq]; unfold gc; rw [if_pos rfl]
  rw [up_ne _ _ _ _ q0]; unfold gc; rw [if_neg q0, if_neg (by omega)]
section GC_S
variable {n s : Nat} {c : Nat → mq_E} {I : Nat → Int32} {J : Nat → Int64} {A : Nat → Nat → Int32} {B : Nat → Nat → Int64} {R : Nat → Value} {Q : Nat → Nat → Option Nat}
variable {g a : Nat} {i : Nat → Int32} {f : Nat → Nat → Int32}
theorem gc_a0 : gc c g a i f g = .inr (2, [.ref a, .int (i 1), .ref (g + 1), .ref (g + 2), .ref (g + 3), .ref (g + 4), .int (i 6), .int (i 7)]) := if_pos rfl
theorem gc_a1 : gc c g a i f (g + 1) = .inl (0, 32, .inl (f 1)) := by
  unfold gc; rw [if_neg (by omega), if_pos (by omega), Nat.add_sub_cancel_left]; rfl
theorem gc_a2 : gc c g a i f (g + 2) = .inl (0, 52, .inl (f 2)) := by
  unfold gc; rw [if_neg (by omega), if_pos (by omega), Nat.add_sub_cancel_left]; rfl
theorem gc_a3 : gc c g a i f (g + 3) = .inl (0, 6, .inl (f 3)) := by
  unfold gc; rw [if_neg (by omega), if_pos (by omega), Nat.add_sub_cancel_left]; rfl
theorem gc_a4 : gc c g a i f (g + 4) = .inl (0, 6, .inl (f 4)) := by
  unfold gc; rw [if_neg (by omega), if_pos (by omega), Nat.add_sub_cancel_left]; rfl
theorem gc_ne (b : Nat) (hb : b < g ∨ g + 4 < b) : gc c g a i f b = c b := by
  unfold gc; rw [if_neg (by omega), if_neg (by omega)]
theorem gc_self (h0 : c g = .inr (2, [.ref a, .int (i 1), .ref (g + 1), .ref (g + 2), .ref (g + 3), .ref (g + 4), .int (i 6), .int (i 7)])) (h1 : c (g + 1) = .inl (0, 32, .inl (f 1))) (h2 : c (g + 2) = .inl (0, 52, .inl (f 2))) (h3 : c (g + 3) = .inl (0, 6, .inl (f 3))) (h4 : c (g + 4) = .inl (0, 6, .inl (f 4))) : gc c g a i f = c := by
  rw [← gc_nest]
  rw [up_self _ _ _ h0, up_self _ _ _ h1, up_self _ _ _ h2, up_self _ _ _ h3, up_self _ _ _ h4]
theorem gc_0 (ha : 46 ≤ g) : mo0 (hp n s (gc c g a i f) I J A B R Q) g 2 = true := by
  rw [hpo0B g 2 ha, gc_a0]; rfl
theorem gc_mo (k : Nat) (ha : 46 ≤ g) (hk : k < 8) : mo (hp n s (gc c g a i f) I J A B R Q) g 2 k = true := by
  rw [hpoB g 2 k ha, gc_a0]; simp [eo, hk]
theorem gc_fs (ha : 46 ≤ g) : mfs (hp n s (gc c g a i f) I J A B R Q) g = [.ref a, .int (i 1), .ref (g + 1), .ref (g + 2), .ref (g + 3), .ref (g + 4), .int (i 6), .int (i 7)] := by
  rw [hpfsB g ha, gc_a0]; rfl
theorem gc_f0 (ha : 46 ≤ g) : mf (hp n s (gc c g a i f) I J A B R Q) g 0 = .ref a := by
  rw [hpfB g 0 ha, gc_a0]; rfl
theorem gc_f1 (ha : 46 ≤ g) : mf (hp n s (gc c g a i f) I J A B R Q) g 1 = .int (i 1) := by
  rw [hpfB g 1 ha, gc_a0]; rfl
theorem gc_s1 (x : Int32) (ha : 46 ≤ g) : mq_wr (hp n s (gc c g a i f) I J A B R Q) g (.inr (2, (mfs (hp n s (gc c g a i f) I J A B R Q) g).set 1 (.int x))) = hp n s (gc c g a (zu i 1 x) f) I J A B R Q := by
  rw [gc_fs ha, hp_wcB g _ ha]
  congr 1
  funext b
  by_cases q : b = g
  · subst q; rw [up_eq, gc_a0]; simp (disch := omega) only [zu_eq, zu_ne, List.set_cons_zero, List.set_cons_succ]
  · rw [up_ne _ _ _ _ q]; unfold gc; rw [if_neg q, if_neg q]
theorem gc_k1 (x : Int32) : mq_okv (mp_ft 2 1) (.int x) = true := by
  exact okv_I _ _ _ rfl
theorem gc_f2 (ha : 46 ≤ g) : mf (hp n s (gc c g a i f) I J A B R Q) g 2 = .ref (g + 1) := by
  rw [hpfB g 2 ha, gc_a0]; rfl
theorem gc_f3 (ha : 46 ≤ g) : mf (hp n s (gc c g a i f) I J A B R Q) g 3 = .ref (g + 2) := by
  rw [hpfB g 3 ha, gc_a0]; rfl
theorem gc_f4 (ha : 46 ≤ g) : mf (hp n s (gc c g a i f) I J A B R Q) g 4 = .ref (g + 3) := by
  rw [hpfB g 4 ha, gc_a0]; rfl
theorem gc_f5 (ha : 46 ≤ g) : mf (hp n s (gc c g a i f) I J A B R Q) g 5 = .ref (g + 4) := by
  rw [hpfB g 5 ha, gc_a0]; rfl
theorem gc_f6 (ha : 46 ≤ g) : mf (hp n s (gc c g a i f) I J A B R Q) g 6 = .int (i 6) := by
  rw [hpfB g 6 ha, gc_a0]; rfl
theorem gc_s6 (x : Int32) (ha : 46 ≤ g) : mq_wr (hp n s (gc c g a i f) I J A B R Q) g (.inr (2, (mfs (hp n s (gc c g a i f) I J A B R Q) g).set 6 (.int x))) = hp n s (gc c g a (zu i 6 x) f) I J A B R Q := by
  rw [gc_fs ha, hp_wcB g _ ha]
  congr 1
  funext b
  by_cases q : b = g
  · subst q; rw [up_eq, gc_a0]; simp (disch := omega) only [zu_eq, zu_ne, List.set_cons_zero, List.set_cons_succ]
  · rw [up_ne _ _ _ _ q]; unfold gc; rw [if_neg q, if_neg q]
theorem gc_k6 (x : Int32) : mq_okv (mp_ft 2 6) (.int x) = true := by
  exact okv_I _ _ _ rfl
theorem gc_f7 (ha : 46 ≤ g) : mf (hp n s (gc c g a i f) I J A B R Q) g 7 = .int (i 7) := by
  rw [hpfB g 7 ha, gc_a0]; rfl
theorem gc_s7 (x : Int32) (ha : 46 ≤ g) : mq_wr (hp n s (gc c g a i f) I J A B R Q) g (.inr (2, (mfs (hp n s (gc c g a i f) I J A B R Q) g).set 7 (.int x))) = hp n s (gc c g a (zu i 7 x) f) I J A B R Q := by
  rw [gc_fs ha, hp_wcB g _ ha]
  congr 1
  funext b
  by_cases q : b = g
  · subst q; rw [up_eq, gc_a0]; simp (disch := omega) only [zu_eq, zu_ne, List.set_cons_zero, List.set_cons_succ]
  · rw [up_ne _ _ _ _ q]; unfold gc; rw [if_neg q, if_neg q]
theorem gc_k7 (x : Int32) : mq_okv (mp_ft 2 7) (.int x) = true := by
  exact okv_I _ _ _ rfl
theorem gc_i1 (q : Nat) (x : Int32) (ha : 46 ≤ g) : mai (hp n s (gc c g a i f) I J A B R Q) (g + 1) 0 q x = mq_in x 32 := by
  rw [haiB (g + 1) 0 q x (by omega), gc_a1]; simp [eai]
theorem gc_g1 (ha : 46 ≤ g) : mag (hp n s (gc c g a i f) I J A B R Q) (g + 1) = f 1 := by
  rw [hagB (g + 1) (by omega), gc_a1]; rfl
theorem gc_n1 (ha : 46 ≤ g) : man (hp n s (gc c g a i f) I J A B R Q) (g + 1) = 32 := by
  rw [hanB (g + 1) (by omega), gc_a1]; rfl
theorem gc_u1 (x : Nat → Int32) : mq_up (gc c g a i f) (g + 1) (.inl (0, 32, .inl x)) = gc c g a i (zu f 1 x) := by
  funext b
  by_cases q : b = g + 1
  · subst q; rw [up_eq, gc_a1, zu_eq]
  · rw [up_ne _ _ _ _ q]; unfold gc
    by_cases q2 : b = g
    · rw [if_pos q2, if_pos q2]
    · rw [if_neg q2, if_neg q2]
      by_cases q3 : g < b ∧ b ≤ g + 4
      · rw [if_pos q3, if_pos q3, zu_ne _ _ _ _ (by omega)]
      · rw [if_neg q3, if_neg q3]
theorem gc_w1 (x : Nat → Int32) (ha : 46 ≤ g) : mq_wr (hp n s (gc c g a i f) I J A B R Q) (g + 1) (.inl (0, 32, .inl x)) = hp n s (gc c g a i (zu f 1 x)) I J A B R Q := by
  rw [hp_wcB (g + 1) _ (by omega), gc_u1]
theorem gc_i2 (q : Nat) (x : Int32) (ha : 46 ≤ g) : mai (hp n s (gc c g a i f) I J A B R Q) (g + 2) 0 q x = mq_in x 52 := by
  rw [haiB (g + 2) 0 q x (by omega), gc_a2]; simp [eai]
theorem gc_g2 (ha : 46 ≤ g) : mag (hp n s (gc c g a i f) I J A B R Q) (g + 2) = f 2 := by
  rw [hagB (g + 2) (by omega), gc_a2]; rfl
theorem gc_n2 (ha : 46 ≤ g) : man (hp n s (gc c g a i f) I J A B R Q) (g + 2) = 52 := by
  rw [hanB (g + 2) (by omega), gc_a2]; rfl
theorem gc_u2 (x : Nat → Int32) : mq_up (gc c g a i f) (g + 2) (.inl (0, 52, .inl x)) = gc c g a i (zu f 2 x) := by
  funext b
  by_cases q : b = g + 2
  · subst q; rw [up_eq, gc_a2, zu_eq]
  · rw [up_ne _ _ _ _ q]; unfold gc
    by_cases q2 : b = g
    · rw [if_pos q2, if_pos q2]
    · rw [if_neg q2, if_neg q2]
      by_cases q3 : g < b ∧ b ≤ g + 4
      · rw [if_pos q3, if_pos q3, zu_ne _ _ _ _ (by omega)]
      · rw [if_neg q3, if_neg q3]
theorem gc_w2 (x : Nat → Int32) (ha : 46 ≤ g) : mq_wr (hp n s (gc c g a i f) I J A B R Q) (g + 2) (.inl (0, 52, .inl x)) = hp n s (gc c g a i (zu f 2 x)) I J A B R Q := by
  rw [hp_wcB (g + 2) _ (by omega), gc_u2]
theorem gc_i3 (q : Nat) (x : Int32) (ha : 46 ≤ g) : mai (hp n s (gc c g a i f) I J A B R Q) (g + 3) 0 q x = mq_in x 6 := by
  rw [haiB (g + 3) 0 q x (by omega), gc_a3]; simp [eai]
theorem gc_g3 (ha : 46 ≤ g) : mag (hp n s (gc c g a i f) I J A B R Q) (g + 3) = f 3 := by
  rw [hagB (g + 3) (by omega), gc_a3]; rfl
theorem gc_n3 (ha : 46 ≤ g) : man (hp n s (gc c g a i f) I J A B R Q) (g + 3) = 6 := by
  rw [hanB (g + 3) (by omega), gc_a3]; rfl
theorem gc_u3 (x : Nat → Int32) : mq_up (gc c g a i f) (g + 3) (.inl (0, 6, .inl x)) = gc c g a i (zu f 3 x) := by
  funext b
  by_cases q : b = g + 3
  · subst q; rw [up_eq, gc_a3, zu_eq]
  · rw [up_ne _ _ _ _ q]; unfold gc
    by_cases q2 : b = g
    · rw [if_pos q2, if_pos q2]
    · rw [if_neg q2, if_neg q2]
      by_cases q3 : g < b ∧ b ≤ g + 4
      · rw [if_pos q3, if_pos q3, zu_ne _ _ _ _ (by omega)]
      · rw [if_neg q3, if_neg q3]
theorem gc_w3 (x : Nat → Int32) (ha : 46 ≤ g) : mq_wr (hp n s (gc c g a i f) I J A B R Q) (g + 3) (.inl (0, 6, .inl x)) = hp n s (gc c g a i (zu f 3 x)) I J A B R Q := by
  rw [hp_wcB (g + 3) _ (by omega), gc_u3]
theorem gc_i4 (q : Nat) (x : Int32) (ha : 46 ≤ g) : mai (hp n s (gc c g a i f) I J A B R Q) (g + 4) 0 q x = mq_in x 6 := by
  rw [haiB (g + 4) 0 q x (by omega), gc_a4]; simp [eai]
theorem gc_g4 (ha : 46 ≤ g) : mag (hp n s (gc c g a i f) I J A B R Q) (g + 4) = f 4 := by
  rw [hagB (g + 4) (by omega), gc_a4]; rfl
theorem gc_n4 (ha : 46 ≤ g) : man (hp n s (gc c g a i f) I J A B R Q) (g + 4) = 6 := by
  rw [hanB (g + 4) (by omega), gc_a4]; rfl
theorem gc_u4 (x : Nat → Int32) : mq_up (gc c g a i f) (g + 4) (.inl (0, 6, .inl x)) = gc c g a i (zu f 4 x) := by
  funext b
  by_cases q : b = g + 4
  · subst q; rw [up_eq, gc_a4, zu_eq]
  · rw [up_ne _ _ _ _ q]; unfold gc
    by_cases q2 : b = g
    · rw [if_pos q2, if_pos q2]
    · rw [if_neg q2, if_neg q2]
      by_cases q3 : g < b ∧ b ≤ g + 4
      · rw [if_pos q3, if_pos q3, zu_ne _ _ _ _ (by omega)]
      · rw [if_neg q3, if_neg q3]
theorem gc_w4 (x : Nat → Int32) (ha : 46 ≤ g) : mq_wr (hp n s (gc c g a i f) I J A B R Q) (g + 4) (.inl (0, 6, .inl x)) = hp n s (gc c g a i (zu f 4 x)) I J A B R Q := by
  rw [hp_wcB (g + 4) _ (by omega), gc_u4]
theorem TB_gc {b : Nat} {T : ZT} (hT : TB c b T) (hb : b + 2 < g ∨ g + 4 < b) : TB (gc c g a i f) b T := by
  obtain ⟨h1, ⟨x1, x2, x3, x4, x5, x6, h2⟩, g1, r1, h3, h4, h5⟩ := hT
  exact ⟨h1, ⟨x1, x2, x3, x4, x5, x6, by rw [gc_ne b (by omega)]; exact h2⟩, g1, r1, by rw [gc_ne (b + 1) (by omega)]; exact h3, by rw [gc_ne (b + 2) (by omega)]; exact h4, h5⟩
end GC_S
