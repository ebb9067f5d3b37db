/-! TABLES THAT LIVE: what a call leaves of them -/
def BL (c : Nat → mq_E) (g k : Nat) : Prop := (∃ x, c g = .inr x) ∧ ∀ j, 1 ≤ j → j ≤ k → ∃ y, c (g + j) = .inl y
theorem BL_sep {c : Nat → mq_E} {g k g' k' x : Nat} (h : BL c g k) (h' : BL c g' k') (hne : g ≠ g') (h1 : g ≤ x) (h2 : x ≤ g + k) : x < g' ∨ g' + k' < x := by
  rcases Nat.lt_or_ge x g' with q | q
  · exact Or.inl q
  · rcases Nat.lt_or_ge (g' + k') x with q2 | q2
    · exact Or.inr q2
    · exfalso
      rcases Nat.lt_or_ge g g' with q3 | q3
      · obtain ⟨y, hy⟩ := h.2 (g' - g) (by omega) (by omega)
        obtain ⟨z, hz⟩ := h'.1
        rw [show g + (g' - g) = g' by omega, hz] at hy
        cases hy
      · obtain ⟨y, hy⟩ := h'.2 (g - g') (by omega) (by omega)
        obtain ⟨z, hz⟩ := h.1
        rw [show g' + (g - g') = g by omega, hz] at hy
        cases hy
theorem TB_BL {c : Nat → mq_E} {a : Nat} {T : ZT} (h : TB c a T) : BL c a 2 ∧ ∃ l, c a = .inr (6, l) := by
  obtain ⟨h1, ⟨b, bi, bj, bk, rs, gs, h2⟩, g, r, h3, h4, h5⟩ := h
  refine ⟨⟨⟨_, h2⟩, fun j hj1 hj2 => ?_⟩, _, h2⟩
  have : j = 1 ∨ j = 2 := by omega
  rcases this with rfl | rfl
  · exact ⟨_, h3⟩
  · exact ⟨_, h4⟩
theorem ro_inl {c : Nat → mq_E} {g a : Nat} {i : Nat → Int32} {j : Nat → Int64} {f : Nat → Nat → Int32} {h : Nat → Nat → Int64} {x : Nat} (h1 : 1 ≤ x) (h2 : x ≤ 9) : ∃ y, ro c g a i j f h (g + x) = .inl y := by
  unfold ro
  rw [if_neg (by omega), if_pos (by omega)]
  split
  · exact ⟨_, rfl⟩
  · exact ⟨_, rfl⟩
theorem RSV_BL {c : Nat → mq_E} {g a : Nat} {T : ZT} (h : RSV c g a T) : BL c g 9 ∧ ∃ l, c g = .inr (4, .ref a :: l) := by
  obtain ⟨h1, h2, h3, i, j, f, h', h4, h5⟩ := h
  obtain ⟨l, e⟩ : ∃ l, c g = .inr (4, .ref a :: l) := ⟨_, (congrFun h4 g).symm.trans ro_a0⟩
  refine ⟨⟨⟨_, e⟩, fun x hx1 hx2 => ?_⟩, l, e⟩
  rw [← h4]
  exact ro_inl hx1 hx2
theorem gc_inl {c : Nat → mq_E} {g a : Nat} {i : Nat → Int32} {f : Nat → Nat → Int32} {x : Nat} (h1 : 1 ≤ x) (h2 : x ≤ 4) : ∃ y, gc c g a i f (g + x) = .inl y := by
  unfold gc
  rw [if_neg (by omega), if_pos (by omega)]
  exact ⟨_, rfl⟩
theorem GV_BL {c : Nat → mq_E} {g a : Nat} {T : ZT} (h : GV c g a T) : BL c g 4 ∧ ∃ l, c g = .inr (2, .ref a :: l) := by
  obtain ⟨h1, h2, h3, i, f, h4, h5⟩ := h
  obtain ⟨l, e⟩ : ∃ l, c g = .inr (2, .ref a :: l) := ⟨_, (congrFun h4 g).symm.trans gc_a0⟩
  refine ⟨⟨⟨_, e⟩, fun x hx1 hx2 => ?_⟩, l, e⟩
  rw [← h4]
  exact gc_inl hx1 hx2
theorem TB_eq {c c' : Nat → mq_E} {a : Nat} {T : ZT} (he : ∀ x, a ≤ x → x ≤ a + 2 → c' x = c x) (h : TB c a T) : TB c' a T := by
  obtain ⟨h1, h2, g, r, h3, h4, h5⟩ := h
  refine ⟨h1, ?_, g, r, ?_, ?_, h5⟩
  · rw [he a (by omega) (by omega)]; exact h2
  · rw [he (a + 1) (by omega) (by omega)]; exact h3
  · rw [he (a + 2) (by omega) (by omega)]; exact h4
theorem RSV_eq {c c' : Nat → mq_E} {g a : Nat} {T : ZT} (he : ∀ x, g ≤ x → x ≤ g + 9 → c' x = c x) (h : RSV c g a T) : RSV c' g a T := by
  obtain ⟨h1, h2, h3, i, j, f, h', h4, h5⟩ := h
  refine ⟨h1, h2, h3, i, j, f, h', ?_, h5⟩
  funext b
  by_cases q : g ≤ b ∧ b ≤ g + 9
  · rw [he b q.1 q.2, ← h4]
    unfold ro
    by_cases q2 : b = g
    · rw [if_pos q2, if_pos q2]
    · have q3 : g < b ∧ b ≤ g + 9 := by omega
      simp only [q2, q3, if_true, if_false, and_self]
  · rw [ro_ne b (by omega)]
theorem GV_eq {c c' : Nat → mq_E} {g a : Nat} {T : ZT} (he : ∀ x, g ≤ x → x ≤ g + 4 → c' x = c x) (h : GV c g a T) : GV c' g a T := by
  obtain ⟨h1, h2, h3, i, f, h4, h5⟩ := h
  refine ⟨h1, h2, h3, i, f, ?_, h5⟩
  funext b
  by_cases q : g ≤ b ∧ b ≤ g + 4
  · rw [he b q.1 q.2, ← h4]
    unfold gc
    by_cases q2 : b = g
    · rw [if_pos q2, if_pos q2]
    · have q3 : g < b ∧ b ≤ g + 4 := by omega
      simp only [q2, q3, if_true, if_false, and_self]
  · rw [gc_ne b (by omega)]
def RsV (c : Nat → mq_E) (n a : Nat) (T : ZT) (rs : Value) : Prop := rs = .null ∨ ∃ g, rs = .ref g ∧ g + 9 < n ∧ RSV c g a T
def GsV (c : Nat → mq_E) (n a : Nat) (T : ZT) (gs : Value) : Prop := gs = .null ∨ ∃ g, gs = .ref g ∧ g + 4 < n ∧ GV c g a T
/-- a table that lives at a -/
def LV (c : Nat → mq_E) (n a : Nat) (T : ZT) : Prop := TB c a T ∧ WT T ∧ a + 2 < n ∧ ∃ b bi bj bk rs gs, c a = tbo T.1 a b bi bj bk rs gs ∧ (b = -1 ∨ jd T b bi bj bk) ∧ RsV c n a T rs ∧ GsV c n a T gs
/-- nothing below n changes but the object a, its rows and its groupings -/
def FRM (c c' : Nat → mq_E) (n a : Nat) (rs gs : Value) : Prop := ∀ x, x < n → x ≠ a → (∀ g, rs = .ref g → x < g ∨ g + 9 < x) → (∀ g, gs = .ref g → x < g ∨ g + 4 < x) → c' x = c x
theorem LV_new {c : Nat → mq_E} {n a : Nat} {T : ZT} (h : TB c a T) (hW : WT T) (hn : a + 2 < n) (hc : c a = tbo T.1 a (-1) 0 0 0 .null .null) : LV c n a T := ⟨h, hW, hn, _, _, _, _, _, _, hc, Or.inl rfl, Or.inl rfl, Or.inl rfl⟩
theorem LV_oth {c c' : Nat → mq_E} {n n' a a' : Nat} {T T' : ZT} {rs gs : Value} (hT : TB c a T) (hr : RsV c n a T rs) (hg : GsV c n a T gs) (hF : FRM c c' n a rs gs) (hn : n ≤ n') (hne : a' ≠ a) (h : LV c n a' T') : LV c' n' a' T' := by
  obtain ⟨hA, la, hla⟩ := TB_BL hT
  have key : ∀ (g k ci : Nat) (l : List Value), BL c g k → c g = .inr (ci, l) → g + k < n → (ci = 6 → g ≠ a) → (ci = 4 → ∃ l', l = .ref a' :: l') → (ci = 2 → ∃ l', l = .ref a' :: l') → ∀ x, g ≤ x → x ≤ g + k → c' x = c x := by
    intro g k ci l hB hl hgn h6 h4 h2 x hx1 hx2
    have hga : g ≠ a := by
      intro e
      subst e
      rw [hl] at hla
      cases hla
      exact h6 rfl rfl
    refine hF x (by omega) ?_ (fun g2 e2 => ?_) (fun g2 e2 => ?_)
    · rcases BL_sep hB hA hga hx1 hx2 with q | q <;> omega
    · rcases hr with e | ⟨g3, e3, _, hR⟩
      · rw [e] at e2; cases e2
      · rw [e3] at e2
        cases e2
        obtain ⟨hB3, l3, hl3⟩ := RSV_BL hR
        refine BL_sep hB hB3 (fun e => ?_) hx1 hx2
        subst e
        rw [hl] at hl3
        cases hl3
        obtain ⟨l', e'⟩ := h4 rfl
        cases e'
        exact hne rfl
    · rcases hg with e | ⟨g3, e3, _, hR⟩
      · rw [e] at e2; cases e2
      · rw [e3] at e2
        cases e2
        obtain ⟨hB3, l3, hl3⟩ := GV_BL hR
        refine BL_sep hB hB3 (fun e => ?_) hx1 hx2
        subst e
        rw [hl] at hl3
        cases hl3
        obtain ⟨l', e'⟩ := h2 rfl
        cases e'
        exact hne rfl
  obtain ⟨k1, k2, k3, b, bi, bj, bk, rs', gs', k4, k5, k6, k7⟩ := h
  obtain ⟨hA', la', hla'⟩ := TB_BL k1
  have e1 := key a' 2 6 la' hA' hla' (by omega) (fun _ => hne) (fun h => by cases h) (fun h => by cases h)
  refine ⟨TB_eq e1 k1, k2, by omega, b, bi, bj, bk, rs', gs', by rw [e1 a' (by omega) (by omega)]; exact k4, k5, ?_, ?_⟩
  · rcases k6 with e | ⟨g, e, hgn, hR⟩
    · exact Or.inl e
    · obtain ⟨hB, l, hl⟩ := RSV_BL hR
      exact Or.inr ⟨g, e, Nat.lt_of_lt_of_le hgn hn, RSV_eq (key g 9 4 _ hB hl hgn (fun h => by cases h) (fun _ => ⟨l, rfl⟩) (fun h => by cases h)) hR⟩
  · rcases k7 with e | ⟨g, e, hgn, hR⟩
    · exact Or.inl e
    · obtain ⟨hB, l, hl⟩ := GV_BL hR
      exact Or.inr ⟨g, e, Nat.lt_of_lt_of_le hgn hn, GV_eq (key g 4 2 _ hB hl hgn (fun h => by cases h) (fun h => by cases h) (fun _ => ⟨l, rfl⟩)) hR⟩
theorem RsV_fr {c c' : Nat → mq_E} {n n' a : Nat} {T : ZT} {rs gs : Value} (hT : TB c a T) (hr : RsV c n a T rs) (hg : GsV c n a T gs) (hF : FRM c c' n a .null gs) (hn : n ≤ n') : RsV c' n' a T rs := by
  obtain ⟨hA, la, hla⟩ := TB_BL hT
  rcases hr with e | ⟨g, e, hgn, hR⟩
  · exact Or.inl e
  · obtain ⟨hB, l, hl⟩ := RSV_BL hR
    refine Or.inr ⟨g, e, Nat.lt_of_lt_of_le hgn hn, RSV_eq (fun x hx1 hx2 => hF x (Nat.lt_of_le_of_lt hx2 hgn) ?_ (fun g2 e2 => by cases e2) (fun g2 e2 => ?_)) hR⟩
    · have := BL_sep hB hA (fun e => by subst e; rw [hl] at hla; cases hla) hx1 hx2
      omega
    · rcases hg with e | ⟨g3, e3, _, hR3⟩
      · rw [e] at e2; cases e2
      · rw [e3] at e2
        cases e2
        obtain ⟨hB3, l3, hl3⟩ := GV_BL hR3
        exact BL_sep hB hB3 (fun e => by subst e; rw [hl] at hl3; cases hl3) hx1 hx2
theorem GsV_fr {c c' : Nat → mq_E} {n n' a : Nat} {T : ZT} {rs gs : Value} (hT : TB c a T) (hr : RsV c n a T rs) (hg : GsV c n a T gs) (hF : FRM c c' n a rs .null) (hn : n ≤ n') : GsV c' n' a T gs := by
  obtain ⟨hA, la, hla⟩ := TB_BL hT
  rcases hg with e | ⟨g, e, hgn, hR⟩
  · exact Or.inl e
  · obtain ⟨hB, l, hl⟩ := GV_BL hR
    refine Or.inr ⟨g, e, Nat.lt_of_lt_of_le hgn hn, GV_eq (fun x hx1 hx2 => hF x (Nat.lt_of_le_of_lt hx2 hgn) ?_ (fun g2 e2 => ?_) (fun g2 e2 => by cases e2)) hR⟩
    · have := BL_sep hB hA (fun e => by subst e; rw [hl] at hla; cases hla) hx1 hx2
      omega
    · rcases hr with e | ⟨g3, e3, _, hR3⟩
      · rw [e] at e2; cases e2
      · rw [e3] at e2
        cases e2
        obtain ⟨hB3, l3, hl3⟩ := RSV_BL hR3
        exact BL_sep hB hB3 (fun e => by subst e; rw [hl] at hl3; cases hl3) hx1 hx2
