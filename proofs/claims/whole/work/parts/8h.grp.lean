/-! GROUPINGS of a table: what is kept of them -/
def tgT (T : ZT) (w : Nat → Nat) (x y k : Nat) : Nat := zns (fun i => zns (fun j => if w i = x ∧ w j = y then T.2.1 i j k else 0) 0 T.1) 0 T.1
def lsT (m : Nat) (w : Nat → Nat) (q : Nat) : Nat := (zfst (fun i => if w i = q then some i else none) 0 m).getD 0
def fzR (T : ZT) (w : Nat → Nat) : Bool := zall (fun i => zall (fun j => decide (w i = w j → w (T.2.2 i) = w (T.2.2 j))) 0 T.1) 0 T.1
def fzS (T : ZT) (w : Nat → Nat) (m : Nat) : Bool := zall (fun x => zall (fun y => zall (fun k => decide (tgT T w x y k = tgT T w x y (lsT T.1 w (w k)))) 0 T.1) 0 m) 0 m
def fzT (T : ZT) (w : Nat → Nat) (m : Nat) : Bool := fzR T w && fzS T w m
def cat {α : Type} (F : Nat → List α) (q : Nat) : Nat → List α
  | 0 => []
  | t + 1 => F q ++ cat F (q + 1) t
/-- the ways to class the things from k on, where classes up to gr are there -/
def lvs : Nat → Nat → Nat → (Nat → Nat) → List ((Nat → Nat) × Nat)
  | 0, _, gr, w => [(w, gr + 1)]
  | r + 1, k, gr, w => cat (fun q => lvs r (k + 1) (max gr q) (zu w k q)) 1 (gr + 1)
def FL (T : ZT) : List ((Nat → Nat) × Nat) := (lvs (T.1 - 1) 1 0 (fun _ => 0)).filter (fun p => fzT T p.1 p.2)
def pkT : Nat → (Nat → Nat) → Nat
  | 0, _ => 0
  | m + 1, w => pkT m w ||| (w m <<< (4 * m))
def FP (T : ZT) (i : Nat → Int32) (f : Nat → Nat → Int32) : Prop := i 7 = zn (FL T).length ∧ ∀ k p, (FL T)[k]? = some p → f 2 k = zn (pkT T.1 p.1)
def GV (c : Nat → mq_E) (g a : Nat) (T : ZT) : Prop := 46 ≤ g ∧ a + 2 < g ∧ gdT T = true ∧ ∃ i f, gc c g a i f = c ∧ i 1 = zn T.1 ∧ GP T i f (2 ^ T.1) ∧ f 3 0 = 0 ∧ (i 7 = -1 ∨ FP T i f)
theorem gc_gc (c : Nat → mq_E) (g a : Nat) (i i' : Nat → Int32) (f f' : Nat → Nat → Int32) : gc (gc c g a i f) g a i' f' = gc c g a i' f' := by
  funext b
  by_cases q : b = g
  · subst q; rw [gc_a0, gc_a0]
  · by_cases q2 : g < b ∧ b ≤ g + 4
    · unfold gc
      simp only [q, q2, if_true, if_false, and_self]
    · rw [gc_ne b (by omega), gc_ne b (by omega), gc_ne b (by omega)]
theorem gc_up (c : Nat → mq_E) (g a b : Nat) (e : mq_E) (i : Nat → Int32) (f : Nat → Nat → Int32) (hb : b < g) : gc (mq_up c b e) g a i f = mq_up (gc c g a i f) b e := by
  funext x
  by_cases q : x = b
  · subst q; rw [up_eq, gc_ne x (by omega), up_eq]
  · rw [up_ne _ _ _ _ q]
    unfold gc
    rw [up_ne _ _ _ _ q]
theorem GV_up {c : Nat → mq_E} {g a : Nat} {T : ZT} (h : GV c g a T) (b : Nat) (e : mq_E) (hb : b < g) : GV (mq_up c b e) g a T := by
  obtain ⟨h1, h2, h3, i, f, h4, h5⟩ := h
  refine ⟨h1, h2, h3, i, f, ?_, h5⟩
  rw [gc_up _ _ _ _ _ _ _ hb, h4]
theorem tk_8r (x : Nat) : mq_okv (mp_ft 6 8) (.ref x) = true := okv_T _ _ _ _ rfl
section GR
variable {n s : Nat} {c : Nat → mq_E} {I : Nat → Int32} {J : Nat → Int64} {A : Nat → Nat → Int32} {B : Nat → Nat → Int64} {R : Nat → Value} {Q : Nat → Nat → Option Nat}
variable {a : Nat} {T : ZT} {b bi bj bk : Int32} {rs gs : Value}
theorem tset_8 (hc : c a = tbo T.1 a b bi bj bk rs gs) (v : Value) : tset c a 8 v = mq_up c a (tbo T.1 a b bi bj bk rs v) := by
  unfold tset
  rw [hc]
  rfl
/-- what a call that may make the groupings of table a leaves -/
def CG (n s : Nat) (c : Nat → mq_E) (a : Nat) (T : ZT) (rs : Value) (n' s' : Nat) (c' : Nat → mq_E) (g : Nat) : Prop := n ≤ n' ∧ n' ≤ n + 5 ∧ s ≤ s' ∧ s' ≤ s + 104 ∧ (∀ x, x < n ∨ n' ≤ x → x ≠ a → c' x = c x) ∧ (∃ b bi bj bk, (b = -1 ∨ jd T b bi bj bk) ∧ c' a = tbo T.1 a b bi bj bk rs (.ref g)) ∧ GV c' g a T ∧ g + 4 < n' ∧ TB c' a T
theorem T_grp (hT : TB c a T) (hW : WT T) (hc : c a = tbo T.1 a b bi bj bk rs gs) (hv : b = -1 ∨ jd T b bi bj bk) (hn : 46 ≤ n) (han : a + 2 < n) (hgs : gs = .null ∨ ∃ g, gs = .ref g ∧ g + 4 < n ∧ GV c g a T) (d : Nat) : (gdT T = true → ∃ n' s' c' g, CG n s c a T rs n' s' c' g ∧ (gs = .ref g ∨ n ≤ g) ∧ mz (d + 5) 110 0 [some (.ref a)] [] (hp n s c I J A B R Q) = some (some (some (.ref g)), hp n' s' c' I J A B R Q)) ∧ (gdT T = false → ∃ b' bi' bj' bk', jd T b' bi' bj' bk' ∧ gs = .null ∧ mz (d + 5) 110 0 [some (.ref a)] [] (hp n s c I J A B R Q) = some (some (some .null), hp n s (mq_up c a (tbo T.1 a b' bi' bj' bk' rs gs)) I J A B R Q)) := by
  have h2 : (blT T = 0) = (gdT T = true) := blT_0
  have hbl : blT T ≤ 4 := blT_le
  rcases hgs with hgs | ⟨g, hgs, hgn, hG⟩
  · subst hgs
    obtain ⟨b', bi', bj', bk', hj, e⟩ := T_brk (n := n) (s := s) (c := c) (I := I) (J := J) (A := A) (B := B) (R := R) (Q := Q) hT hW hc hv d
    have hT1 := TB_up hT b' bi' bj' bk' rs .null
    constructor
    · intro hg
      rw [hg] at h2
      obtain ⟨i, f, g1, g2, g5, g3, g4⟩ := G_new (s := s + 8) (I := I) (J := J) (A := A) (B := B) (R := R) (Q := Q) hT1 hW han hn (d + 1)
      have hT2 : TB (gc (mq_up c a (tbo T.1 a b' bi' bj' bk' rs .null)) n a i f) a T := TB_gc hT1 (Or.inl han)
      have hc2 : gc (mq_up c a (tbo T.1 a b' bi' bj' bk' rs .null)) n a i f a = tbo T.1 a b' bi' bj' bk' rs .null := by rw [gc_ne a (by omega), up_eq]
      refine ⟨n + 5, s + 8 + 96, mq_up (gc (mq_up c a (tbo T.1 a b' bi' bj' bk' rs .null)) n a i f) a (tbo T.1 a b' bi' bj' bk' rs (.ref n)), n, ⟨by omega, by omega, by omega, by omega, ?_, ?_, ?_, by omega, TB_up hT2 _ _ _ _ _ _⟩, Or.inr (Nat.le_refl _), ?_⟩
      · intro x hx hxa
        rw [up_ne _ _ _ _ hxa, gc_ne x (by omega), up_ne _ _ _ _ hxa]
      · exact ⟨b', bi', bj', bk', Or.inr hj, up_eq _ _ _⟩
      · refine ⟨hn, han, hg, i, f, ?_, g1, g3, g5, Or.inl g2⟩
        rw [gc_up _ _ _ _ _ _ _ (by omega), gc_gc]
      · have w := hp_tset (n := n + 5) (s := s + 8 + 96) (I := I) (J := J) (A := A) (B := B) (R := R) (Q := Q) hT2 8 (.ref n)
        rw [tset_8 hc2] at w
        have hT3 := TB_up hT2 b' bi' bj' bk' rs (.ref n)
        simp (disch := first | omega | exact zb_1 | exact zb_0 | exact zb_n1 | exact zb_n0) only [x110_0, x110_1, x110_4, x110_4N, x110_7, x110_8, x110_11, x110_14, x110_15, x110_18, x110_19, x110_20, x110_23, x110_26, x110_27, x110_30, mq_dl_int, mq_dl_ref, mq_dl_null, mq_dl_none, mc_some, Option.toList_some, Option.toList_none, List.cons_append, List.nil_append, zb_1, zb_0, ↓reduceIte, if_true, if_false, not_true_eq_false, not_false_eq_true, Bool.false_eq_true, z_10, z_01, eq_self, Bool.and_self, true_or, or_true, false_or, or_false, true_and, and_true, false_and, and_false, and_self, or_self, Nat.reduceLT, Nat.reduceEqDiff, Nat.reduceLeDiff, Nat.reduceAdd, Nat.reduceMul, Nat.reduceSub, zn_lit, zn_add, zn_mul, zn_sub, zn_addneg, zn_lt, zn_le, zn_eq, zn_clamp, zn_in, zn_long, tb_0 hT, tb_mo hT, tb_f8 hT hc, e, h2, hp_1, hp_mkB, g4, tb_0 hT2, tb_mo hT2, tk_8r, w, tb_0 hT3, tb_mo hT3, tb_f8 hT3 (up_eq _ _ _)]
    · intro hg
      rw [hg] at h2
      refine ⟨b', bi', bj', bk', hj, rfl, ?_⟩
      simp (disch := first | omega | exact zb_1 | exact zb_0 | exact zb_n1 | exact zb_n0) only [x110_0, x110_1, x110_4, x110_4N, x110_7, x110_8, x110_11, x110_26, x110_27, x110_30N, mq_dl_int, mq_dl_ref, mq_dl_null, mq_dl_none, mc_some, Option.toList_some, Option.toList_none, List.cons_append, List.nil_append, zb_1, zb_0, ↓reduceIte, if_true, if_false, not_true_eq_false, not_false_eq_true, Bool.false_eq_true, z_10, z_01, eq_self, Bool.and_self, true_or, or_true, false_or, or_false, true_and, and_true, false_and, and_false, and_self, or_self, Nat.reduceLT, Nat.reduceEqDiff, Nat.reduceLeDiff, Nat.reduceAdd, Nat.reduceMul, Nat.reduceSub, zn_lit, zn_add, zn_mul, zn_sub, zn_addneg, zn_lt, zn_le, zn_eq, zn_clamp, zn_in, zn_long, tb_0 hT, tb_mo hT, tb_f8 hT hc, e, h2, tb_0 hT1, tb_mo hT1, tb_f8 hT1 (up_eq _ _ _)]
  · subst hgs
    constructor
    · intro hg
      refine ⟨n, s, c, g, ⟨Nat.le_refl _, by omega, Nat.le_refl _, by omega, fun _ _ _ => rfl, ⟨b, bi, bj, bk, hv, hc⟩, hG, hgn, hT⟩, Or.inl rfl, ?_⟩
      simp (disch := first | omega | exact zb_1 | exact zb_0 | exact zb_n1 | exact zb_n0) only [x110_0, x110_1, x110_4, x110_26, x110_27, x110_30, mq_dl_int, mq_dl_ref, mq_dl_null, mq_dl_none, mc_some, Option.toList_some, Option.toList_none, List.cons_append, List.nil_append, zb_1, zb_0, ↓reduceIte, if_true, if_false, not_true_eq_false, not_false_eq_true, Bool.false_eq_true, z_10, z_01, eq_self, Bool.and_self, true_or, or_true, false_or, or_false, true_and, and_true, false_and, and_false, and_self, or_self, Nat.reduceLT, Nat.reduceEqDiff, Nat.reduceLeDiff, Nat.reduceAdd, Nat.reduceMul, Nat.reduceSub, zn_lit, zn_add, zn_mul, zn_sub, zn_addneg, zn_lt, zn_le, zn_eq, zn_clamp, zn_in, zn_long, tb_0 hT, tb_mo hT, tb_f8 hT hc]
    · intro hg
      rw [hG.2.2.1] at hg
      cases hg
end GR
